/-! ===== numbers of sixteen limbs: keepLowest ===== -/
section NAT
variable {h : ix_H} {Q : ix_O → ix_H → Prop} {a b d e : Nat} {f g : Nat → Nat}
/-- Natural.keepLowest -/
theorem c_keepLowest {p : Nat} (A : nt h a d f) (T : ix_tab h) (hp : p < 2 ^ 31) (q : ∀ f' : Nat → Nat, (∀ j, j < 16 → f' j < 1000000000) → vl f' 16 = vl f 16 % 10 ^ p → Q (.inl none) (ix_up h d (cN f'))) : ix_M 70 [.ref a, .int (nI p)] h Q := by
  have loop : ∀ n j : Nat, j + n = 16 → ∀ (t : Option Value) (f' : Nat → Nat), (∀ i, i < 16 → f' i < 1000000000) → (∀ i, j ≤ i → f' i = f i) → vl f' j = vl f j % 10 ^ p → ix_E 70 2 [some (.ref a), some (.int (nI p)), some (.int (nI j)), t] [] (ix_up h d (cN f')) Q := by
    intro n
    induction n with
    | zero =>
      intro j hj t f' l hhi hv
      obtain rfl : j = 16 := by omega
      refine jx (pc' := 5) (L' := [_, _, _, _]) (st' := [.int (nI 16), _]) 2 rfl ?_
      refine jct (pc' := 53) rfl rfl rfl (by rw [cc_ge (by omega) (by omega)]; exact decide_eq_true (by omega)) ?_
      refine ix_qr _ rfl rfl rfl ?_
      exact q f' l hv
    | succ n ih =>
      intro j hj t f' l hhi hv
      have A' : nt (ix_up h d (cN f')) a d f' := A.nw l
      have T' : ix_tab (ix_up h d (cN f')) := T.up A.2.1.2.1
      have hfj := A.2.2 j (by omega)
      have hlo : vl f j < 1000000000 ^ j := vl_lt fun i hi => A.2.2 i (by omega)
      have step : ∀ (x : Nat) (w : Option Value), x < 1000000000 → vl f j % 10 ^ p + x * 1000000000 ^ j = vl f (j + 1) % 10 ^ p → ix_E 70 46 [some (.ref a), some (.int (nI p)), some (.int (nI j)), w] [.int (nI x), .int (nI j), .ref d] (ix_up h d (cN f')) Q := by
        intro x w hxl hx
        refine jas' (pc' := 47) A.2.1 rfl rfl (by omega) rfl ?_
        refine jx (pc' := 2) (L' := [_, _, _, _]) (st' := []) 2 rfl ?_
        rw [nI_i, upd_nI]
        refine ih (j + 1) (by omega) _ _ (fun i hi => ?_) (fun i hi => ?_) ?_
        · unfold va_up
          split
          · exact hxl
          · exact l i hi
        · rw [va_up_ne _ _ (by omega)]; exact hhi i (by omega)
        · rw [vl_s, vl_up (Nat.le_refl _), va_up_self, hv]
          exact hx
      rcases Nat.lt_or_ge (j * 9) p with h1 | h1
      · have hpb : 1000000000 ^ j ≤ 10 ^ p := by
          rw [p10_b]
          exact Nat.pow_le_pow_right (by decide) (by omega)
        refine jx (pc' := 5) (L' := [_, _, _, _]) (st' := [.int (nI 16), _]) 2 rfl ?_
        refine jcn (pc' := 8) 53 rfl rfl rfl rfl (by rw [cc_ge (by omega) (by omega)]; exact decide_eq_false (by omega)) ?_
        refine jx (pc' := 18) (L' := [_, _, _, _]) (st' := [.int (nI 9), _]) 8 rfl ?_
        try simp (disch := omega) only [kb9, nI_add, nI_mul, nI_sub, Nat.zero_mul, Nat.one_mul, Nat.sub_zero, Nat.add_zero, Nat.zero_add, Nat.add_sub_cancel]
        rcases Nat.lt_or_ge (p - j * 9) 9 with h2 | h2
        · have ht := p10_lt h2
          refine jcn (pc' := 21) 47 rfl rfl rfl rfl (by rw [cc_ge (by omega) (by omega)]; exact decide_eq_false (by omega)) ?_
          refine jx (pc' := 22) (L' := [_, _, _, _]) (st' := [_]) 1 rfl ?_
          refine jgf (pc' := 25) A'.1 rfl rfl rfl rfl rfl ?_
          refine jx (pc' := 27) (L' := [_, _, _, _]) (st' := [_, _, _]) 2 rfl ?_
          refine jin (pc' := 30) 45 rfl rfl rfl rfl (by rw [cz_le (by omega)]; exact decide_eq_false (by omega)) ?_
          refine jx (pc' := 31) (L' := [_, _, _, _]) (st' := [_, _, _]) 1 rfl ?_
          refine jgf (pc' := 34) A'.1 rfl rfl rfl rfl rfl ?_
          refine jx (pc' := 35) (L' := [_, _, _, _]) (st' := [_, _, _, _]) 1 rfl ?_
          refine jal (pc' := 36) A'.2.1 rfl rfl (by omega) rfl ?_
          rw [hhi j (Nat.le_refl _)]
          refine jx (pc' := 40) (L' := [_, _, _, _]) (st' := [_, _, _, _, _]) 2 rfl ?_
          refine jat (pc' := 41) T' rfl rfl ⟨by decide, h2⟩ rfl ?_
          rw [tv4 h2]
          refine jirem (pc' := 42) rfl rfl (nI_ne0 (by omega) (by omega)) rfl ?_
          rw [nI_rem (by omega) (by omega)]
          refine jx (pc' := 46) (L' := [_, _, _, _]) (st' := [_, _, _]) 1 rfl ?_
          refine step (f j % 10 ^ (p - j * 9)) _ (Nat.lt_of_le_of_lt (Nat.mod_le _ _) hfj) ?_
          have e1 : 10 ^ p = 1000000000 ^ j * 10 ^ (p - j * 9) := by
            rw [← p10_9]
            congr 1
            omega
          rw [Nat.mod_eq_of_lt (Nat.lt_of_lt_of_le hlo hpb), vl_s, e1, Nat.mod_mul, Nat.add_mul_mod_self_right, Nat.mod_eq_of_lt hlo, Nat.add_mul_div_right _ _ (Nat.pow_pos (by decide)), Nat.div_eq_of_lt hlo, Nat.zero_add, Nat.mul_comm (f j % 10 ^ (p - j * 9))]
        · skip
          refine jct (pc' := 47) rfl rfl rfl (by rw [cc_ge (by omega) (by omega)]; exact decide_eq_true (by omega)) ?_
          refine jx (pc' := 2) (L' := [_, _, _, _]) (st' := []) 2 rfl ?_
          rw [nI_i]
          refine ih (j + 1) (by omega) _ _ l (fun i hi => hhi i (by omega)) ?_
          have hpc : 1000000000 ^ (j + 1) ≤ 10 ^ p := by
            rw [p10_b]
            exact Nat.pow_le_pow_right (by decide) (by omega)
          have hl2 : vl f (j + 1) < 1000000000 ^ (j + 1) := vl_lt fun i hi => A.2.2 i (by omega)
          rw [Nat.mod_eq_of_lt (Nat.lt_of_lt_of_le hl2 hpc), vl_s, vl_s, hv, Nat.mod_eq_of_lt (Nat.lt_of_lt_of_le hlo hpb), hhi j (Nat.le_refl _)]
      · skip
        refine jx (pc' := 5) (L' := [_, _, _, _]) (st' := [.int (nI 16), _]) 2 rfl ?_
        refine jcn (pc' := 8) 53 rfl rfl rfl rfl (by rw [cc_ge (by omega) (by omega)]; exact decide_eq_false (by omega)) ?_
        refine jx (pc' := 18) (L' := [_, _, _, _]) (st' := [.int (nI 9), _]) 8 rfl ?_
        try simp (disch := omega) only [kb9, nI_add, nI_mul, nI_sub, Nat.zero_mul, Nat.one_mul, Nat.sub_zero, Nat.add_zero, Nat.zero_add, Nat.add_sub_cancel]
        rw [nI_m2 h1]
        refine jcn (pc' := 21) 47 rfl rfl rfl rfl (cn_ge (by omega) (by decide) (by decide)) ?_
        refine jx (pc' := 22) (L' := [_, _, _, _]) (st' := [_]) 1 rfl ?_
        refine jgf (pc' := 25) A'.1 rfl rfl rfl rfl rfl ?_
        refine jx (pc' := 27) (L' := [_, _, _, _]) (st' := [_, _, _]) 2 rfl ?_
        refine jit (pc' := 45) rfl rfl rfl (cn_le (by omega)) ?_
        refine jx (pc' := 46) (L' := [_, _, _, _]) (st' := [.int (nI 0), _, _]) 1 rfl ?_
        refine step 0 _ (by decide) ?_
        have e1 : 1000000000 ^ j = 10 ^ p * 10 ^ (j * 9 - p) := by
          rw [p10_b, ← Nat.pow_add]
          congr 1
          omega
        rw [Nat.zero_mul, Nat.add_zero, vl_s, e1, Nat.mul_left_comm, Nat.add_mul_mod_self_left]
  refine jx (pc' := 2) (L' := [_, _, _, _]) (st' := []) 2 rfl ?_
  try simp (disch := omega) only [ki0, nI_add, nI_mul, nI_sub, Nat.zero_mul, Nat.one_mul, Nat.sub_zero, Nat.add_zero, Nat.zero_add, Nat.add_sub_cancel]
  have := loop 16 0 (by omega) none f A.2.2 (fun _ _ => rfl) (by rw [vl_z]; exact (Nat.zero_mod _).symm)
  rw [A.2.1.id] at this
  exact this
end NAT
