/-! ===== numbers of sixteen limbs: add ===== -/
section NAT
variable {h : ix_H} {Q : ix_O → ix_H → Prop} {a b d e : Nat} {f g : Nat → Nat}
/-- Natural.add -/
theorem c_add (A : nt h a d f) (B : nt h b e g) (hs : vl f 16 + vl g 16 < 1000000000 ^ 16) (q : ∀ f' : Nat → Nat, (∀ j, j < 16 → f' j < 1000000000) → vl f' 16 = vl f 16 + vl g 16 → Q (.inl none) (ix_up h d (cN f'))) : ix_M 58 [.ref a, .ref b] h Q := by
  have loop : ∀ (k j c : Nat), j + k = 16 → c ≤ 1 → ∀ (t : Option Value) (f' : Nat → Nat), (∀ i, i < 16 → f' i < 1000000000) → (∀ i, j ≤ i → f' i = f i) → vl f' j + c * 1000000000 ^ j = vl f j + vl g j → ix_E 58 4 [some (.ref a), some (.ref b), some (.int (nI c)), some (.int (nI j)), t] [] (ix_up h d (cN f')) Q := by
    intro k
    induction k with
    | zero =>
      intro j c hj hc t f' l hk hv
      obtain rfl : j = 16 := by omega
      refine jx (pc' := 7) (L' := [_, _, _, _, _]) (st' := [.int (nI 16), _]) 2 rfl ?_
      refine jct (pc' := 59) rfl rfl rfl (by rw [cc_ge (by omega) (by omega)]; exact decide_eq_true (by omega)) ?_
      refine ix_qr _ rfl rfl rfl ?_
      refine q f' l ?_
      have : c = 0 := by
        rcases Nat.eq_zero_or_pos c with z | z
        · exact z
        · have : 1000000000 ^ 16 ≤ c * 1000000000 ^ 16 := Nat.le_mul_of_pos_left _ z
          omega
      rw [this] at hv
      omega
    | succ k ih =>
      intro j c hj hc t f' l hk hv
      have hfj := A.2.2 j (by omega)
      have hgj := B.2.2 j (by omega)
      have A' : nt (ix_up h d (cN f')) a d f' := A.nw l
      have Bo : ix_ob (ix_up h d (cN f')) b 1 [.ref e] := B.1.up (B.1.ne A.2.1)
      have Be : ∃ F : Nat → Int32, ix_ia (ix_up h d (cN f')) e 0 16 F ∧ F j = nI (g j) := by
        by_cases z : e = d
        · subst z
          have B'' : nt h a e g := ⟨A.1, B.2.1, B.2.2⟩
          exact ⟨_, A'.2.1, by show nI (f' j) = _; rw [hk j (by omega), A.eq B'' j (by omega)]⟩
        · exact ⟨_, B.2.1.up z, rfl⟩
      obtain ⟨F, hF, hFj⟩ := Be
      refine jx (pc' := 7) (L' := [_, _, _, _, _]) (st' := [.int (nI 16), _]) 2 rfl ?_
      refine jcn (pc' := 10) 59 rfl rfl rfl rfl (by rw [cc_ge (by omega) (by omega)]; exact decide_eq_false (by omega)) ?_
      refine jx (pc' := 11) (L' := [_, _, _, _, _]) (st' := [_]) 1 rfl ?_
      refine jgf (pc' := 14) A'.1 rfl rfl rfl rfl rfl ?_
      refine jx (pc' := 15) (L' := [_, _, _, _, _]) (st' := [_, _]) 1 rfl ?_
      refine jal (pc' := 16) A'.2.1 rfl rfl (by omega) rfl ?_
      refine jx (pc' := 17) (L' := [_, _, _, _, _]) (st' := [_, _]) 1 rfl ?_
      refine jgf (pc' := 20) Bo rfl rfl rfl rfl rfl ?_
      refine jx (pc' := 21) (L' := [_, _, _, _, _]) (st' := [_, _, _]) 1 rfl ?_
      refine jal (pc' := 22) hF rfl rfl (by omega) rfl ?_
      rw [hFj, hk j (by omega)]
      refine jx (pc' := 31) (L' := [_, _, _, _, _]) (st' := [_, _]) 6 rfl ?_
      simp (disch := omega) only [kl1000000000, nI_add, nI_mul, nI_sub, Nat.zero_mul, Nat.one_mul, Nat.sub_zero, Nat.add_zero, Nat.zero_add, Nat.add_sub_cancel]
      by_cases hlt : f j + g j + c < 1000000000
      · skip
        refine jct (pc' := 38) rfl rfl rfl (by rw [cc_lt (by omega) (by omega)]; exact decide_eq_true (by omega)) ?_
        refine jx (pc' := 41) (L' := [_, _, _, _, _]) (st' := [_]) 3 rfl ?_
        simp (disch := omega) only [ki0, nI_add, nI_mul, nI_sub, Nat.zero_mul, Nat.one_mul, Nat.sub_zero, Nat.add_zero, Nat.zero_add, Nat.add_sub_cancel]
        refine jgf (pc' := 44) A'.1 rfl rfl rfl rfl rfl ?_
        refine jx (pc' := 52) (L' := [_, _, _, _, _]) (st' := [_, _, _]) 6 rfl ?_
        simp (disch := omega) only [kl1000000000, nI_add, nI_mul, nI_sub, Nat.zero_mul, Nat.one_mul, Nat.sub_zero, Nat.add_zero, Nat.zero_add, Nat.add_sub_cancel]
        refine jas' (pc' := 53) A.2.1 rfl rfl (by omega) rfl ?_
        refine jx (pc' := 4) (L' := [_, _, _, _, _]) (st' := []) 2 rfl ?_
        rw [nI_i, upd_nI]
        refine ih (j + 1) 0 (by omega) (by omega) _ _ (fun i hi => ?_) (fun i hi => ?_) ?_
        · unfold va_up
          split
          · omega
          · exact l i hi
        · rw [va_up_ne _ _ (by omega)]; exact hk i (by omega)
        · rw [vl_s, vl_s, vl_s, vl_up (Nat.le_refl _), va_up_self, Nat.zero_mul, Nat.add_mul, Nat.add_mul]
          omega
      · skip
        refine jcn (pc' := 34) 38 rfl rfl rfl rfl (by rw [cc_lt (by omega) (by omega)]; exact decide_eq_false (by omega)) ?_
        refine jx (pc' := 41) (L' := [_, _, _, _, _]) (st' := [_]) 4 rfl ?_
        simp (disch := omega) only [ki1, nI_add, nI_mul, nI_sub, Nat.zero_mul, Nat.one_mul, Nat.sub_zero, Nat.add_zero, Nat.zero_add, Nat.add_sub_cancel]
        refine jgf (pc' := 44) A'.1 rfl rfl rfl rfl rfl ?_
        refine jx (pc' := 52) (L' := [_, _, _, _, _]) (st' := [_, _, _]) 6 rfl ?_
        simp (disch := omega) only [kl1000000000, nI_add, nI_mul, nI_sub, Nat.zero_mul, Nat.one_mul, Nat.sub_zero, Nat.add_zero, Nat.zero_add, Nat.add_sub_cancel]
        refine jas' (pc' := 53) A.2.1 rfl rfl (by omega) rfl ?_
        refine jx (pc' := 4) (L' := [_, _, _, _, _]) (st' := []) 2 rfl ?_
        rw [nI_i, upd_nI]
        refine ih (j + 1) 1 (by omega) (by omega) _ _ (fun i hi => ?_) (fun i hi => ?_) ?_
        · unfold va_up
          split
          · omega
          · exact l i hi
        · rw [va_up_ne _ _ (by omega)]; exact hk i (by omega)
        · rw [vl_s, vl_s, vl_s, vl_up (Nat.le_refl _), va_up_self, Nat.one_mul, Nat.pow_succ]
          have e1 : (f j + g j + c - 1000000000) * 1000000000 ^ j + 1000000000 ^ j * 1000000000 = f j * 1000000000 ^ j + g j * 1000000000 ^ j + c * 1000000000 ^ j := by
            rw [Nat.mul_comm (1000000000 ^ j) 1000000000, ← Nat.add_mul, Nat.sub_add_cancel (by omega), Nat.add_mul, Nat.add_mul]
          omega
  refine jx (pc' := 4) (L' := [_, _, _, _, _]) (st' := []) 4 rfl ?_
  simp (disch := omega) only [ki0, nI_add, nI_mul, nI_sub, Nat.zero_mul, Nat.one_mul, Nat.sub_zero, Nat.add_zero, Nat.zero_add, Nat.add_sub_cancel]
  have := loop 16 0 0 (by omega) (by omega) none f A.2.2 (fun _ _ => rfl) (by simp [vl_z])
  rw [A.2.1.id] at this
  exact this
end NAT
