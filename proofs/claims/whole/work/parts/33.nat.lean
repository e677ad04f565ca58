/-! ===== numbers of sixteen limbs: against, subtract ===== -/
theorem vl_cmp {f g : Nat → Nat} {n k : Nat} (hk : k < n) (e : ∀ j, k < j → j < n → f j = g j) (l : ∀ j, j < n → f j < 1000000000) (c : f k < g k) : vl f n < vl g n := by
  induction n with
  | zero => omega
  | succ n ih =>
    rw [vl_s, vl_s]
    rcases Nat.lt_or_ge k n with z | z
    · have := ih z (fun j h1 h2 => e j h1 (by omega)) (fun j hj => l j (by omega))
      rw [e n z (by omega)]
      omega
    · obtain rfl : k = n := by omega
      have h1 : vl f k < 1000000000 ^ k := vl_lt fun j hj => l j (by omega)
      have h2 : (f k + 1) * 1000000000 ^ k ≤ g k * 1000000000 ^ k := Nat.mul_le_mul_right _ (by omega)
      rw [Nat.add_mul, Nat.one_mul] at h2
      omega
theorem nI_m {x y c : Nat} (h : x ≤ y + c) : nI x - nI y - nI c = -(nI (y + c - x)) := by
  have e : nI y + nI c = nI (y + c - x) + nI x := by rw [nI_add, nI_add]; congr 1; omega
  have e2 : nI x - nI y - nI c = nI x - (nI y + nI c) := by
    simp only [Int32.sub_eq_add_neg, Int32.neg_add, Int32.add_assoc]
  rw [e2, e]
  simp only [Int32.sub_eq_add_neg, Int32.neg_add]
  rw [← Int32.add_assoc, Int32.add_comm (nI x), Int32.add_assoc, Int32.add_right_neg, Int32.add_zero]
theorem nI_mneg {m : Nat} (h0 : 0 < m) (h : m < 2 ^ 31) : ix_cc .ge (-(nI m)) 0 = false := by
  refine decide_eq_false fun z => ?_
  have h1 : (-(nI m)).toInt = -(m : Int) := by
    rw [Int32.toInt_neg, nI_toInt h]
    simp only [Int.bmod]
    split <;> omega
  have h2 := Int32.le_iff_toInt_le.mp z
  rw [h1] at h2
  have h3 : (0 : Int32).toInt = 0 := by decide
  omega
theorem nI_mp {m b : Nat} (h : m ≤ b) : -(nI m) + nI b = nI (b - m) := by
  rw [Int32.add_comm, ← Int32.sub_eq_add_neg, nI_sub h]
section NAT
variable {h : ix_H} {Q : ix_O → ix_H → Prop} {a b d e : Nat} {f g : Nat → Nat}
/-- Natural.against -/
theorem c_against (A : nt h a d f) (B : nt h b e g) (q1 : vl f 16 < vl g 16 → Q (.inl (some (.int (-1)))) h) (q2 : vl f 16 = vl g 16 → Q (.inl (some (.int 0))) h) (q3 : vl g 16 < vl f 16 → Q (.inl (some (.int 1))) h) : ix_M 59 [.ref a, .ref b] h Q := by
  have loop : ∀ k : Nat, k ≤ 16 → (∀ j, k ≤ j → j < 16 → f j = g j) → ix_E 59 3 [some (.ref a), some (.ref b), some (.int (nI k + Int32.ofInt (-1)))] [] h Q := by
    intro k
    induction k with
    | zero =>
      intro hk he
      refine jx (pc' := 4) (L' := [_, _, _]) (st' := [_]) 1 rfl ?_
      refine jit (pc' := 49) rfl rfl rfl (by decide) ?_
      refine jx (pc' := 50) (L' := [_, _, _]) (st' := [.int (nI 0)]) 1 rfl ?_
      refine jri rfl rfl ?_
      exact q2 (vl_cg fun j hj => he j (by omega) hj)
    | succ k ih =>
      intro hk he
      have hf := A.2.2 k (by omega)
      have hg := B.2.2 k (by omega)
      rw [nI_d]
      refine jx (pc' := 4) (L' := [_, _, _]) (st' := [_]) 1 rfl ?_
      refine jin (pc' := 7) 49 rfl rfl rfl rfl (by rw [cz_lt (by omega)]; exact decide_eq_false (by omega)) ?_
      refine jx (pc' := 8) (L' := [_, _, _]) (st' := [_]) 1 rfl ?_
      refine jgf (pc' := 11) A.1 rfl rfl rfl rfl rfl ?_
      refine jx (pc' := 12) (L' := [_, _, _]) (st' := [_, _]) 1 rfl ?_
      refine jal (pc' := 13) A.2.1 rfl rfl (by omega) rfl ?_
      refine jx (pc' := 14) (L' := [_, _, _]) (st' := [_, _]) 1 rfl ?_
      refine jgf (pc' := 17) B.1 rfl rfl rfl rfl rfl ?_
      refine jx (pc' := 18) (L' := [_, _, _]) (st' := [_, _, _]) 1 rfl ?_
      refine jal (pc' := 19) B.2.1 rfl rfl (by omega) rfl ?_
      by_cases hc : f k = g k
      · skip
        refine jct (pc' := 43) rfl rfl rfl (by rw [cc_eq (by omega) (by omega)]; exact decide_eq_true (by omega)) ?_
        refine jx (pc' := 3) (L' := [_, _, _]) (st' := []) 2 rfl ?_
        exact ih (by omega) fun j h1 h2 => by
          rcases Nat.lt_or_ge k j with z | z
          · exact he j z h2
          · obtain rfl : j = k := by omega
            exact hc
      · skip
        refine jcn (pc' := 22) 43 rfl rfl rfl rfl (by rw [cc_eq (by omega) (by omega)]; exact decide_eq_false (by omega)) ?_
        refine jx (pc' := 23) (L' := [_, _, _]) (st' := [_]) 1 rfl ?_
        refine jgf (pc' := 26) A.1 rfl rfl rfl rfl rfl ?_
        refine jx (pc' := 27) (L' := [_, _, _]) (st' := [_, _]) 1 rfl ?_
        refine jal (pc' := 28) A.2.1 rfl rfl (by omega) rfl ?_
        refine jx (pc' := 29) (L' := [_, _, _]) (st' := [_, _]) 1 rfl ?_
        refine jgf (pc' := 32) B.1 rfl rfl rfl rfl rfl ?_
        refine jx (pc' := 33) (L' := [_, _, _]) (st' := [_, _, _]) 1 rfl ?_
        refine jal (pc' := 34) B.2.1 rfl rfl (by omega) rfl ?_
        by_cases hl : f k < g k
        · skip
          refine jcn (pc' := 37) 41 rfl rfl rfl rfl (by rw [cc_ge (by omega) (by omega)]; exact decide_eq_false (by omega)) ?_
          refine jx (pc' := 42) (L' := [_, _, _]) (st' := [_]) 2 rfl ?_
          refine jri rfl rfl ?_
          exact q1 (vl_cmp (by omega) (fun j h1 h2 => he j h1 h2) A.2.2 hl)
        · skip
          refine jct (pc' := 41) rfl rfl rfl (by rw [cc_ge (by omega) (by omega)]; exact decide_eq_true (by omega)) ?_
          refine jx (pc' := 42) (L' := [_, _, _]) (st' := [.int (nI 1)]) 1 rfl ?_
          refine jri rfl rfl ?_
          exact q3 (vl_cmp (k := k) (by omega) (fun j h1 h2 => (he j h1 h2).symm) B.2.2 (by omega))
  refine jx (pc' := 3) (L' := [_, _, _]) (st' := []) 2 rfl ?_
  simp (disch := omega) only [kb15, nI_add, nI_mul, nI_sub, Nat.zero_mul, Nat.one_mul, Nat.sub_zero, Nat.add_zero, Nat.zero_add, Nat.add_sub_cancel]
  have := loop 16 (by omega) (fun j h1 h2 => absurd h1 (by omega))
  rw [nI_d 15] at this
  exact this
/-- Natural.subtract -/
theorem c_subtract (A : nt h a d f) (B : nt h b e g) (hs : vl g 16 ≤ vl f 16) (q : ∀ f' : Nat → Nat, (∀ j, j < 16 → f' j < 1000000000) → vl f' 16 = vl f 16 - vl g 16 → Q (.inl none) (ix_up h d (cN f'))) : ix_M 60 [.ref a, .ref b] h Q := by
  have loop : ∀ (k j c : Nat), j + k = 16 → c ≤ 1 → ∀ (t : Option Value) (f' : Nat → Nat), (∀ i, i < 16 → f' i < 1000000000) → (∀ i, j ≤ i → f' i = f i) → vl f' j + vl g j = vl f j + c * 1000000000 ^ j → ix_E 60 4 [some (.ref a), some (.ref b), some (.int (nI c)), some (.int (nI j)), t] [] (ix_up h d (cN f')) Q := by
    intro k
    induction k with
    | zero =>
      intro j c hj hc t f' l hk hv
      obtain rfl : j = 16 := by omega
      refine jx (pc' := 7) (L' := [_, _, _, _, _]) (st' := [.int (nI 16), _]) 2 rfl ?_
      refine jct (pc' := 57) rfl rfl rfl (by rw [cc_ge (by omega) (by omega)]; exact decide_eq_true (by omega)) ?_
      refine ix_qr _ rfl rfl rfl ?_
      refine q f' l ?_
      have h1 : vl f' 16 < 1000000000 ^ 16 := vl_lt l
      have : c = 0 := by
        rcases Nat.eq_zero_or_pos c with z | z
        · exact z
        · have : 1000000000 ^ 16 ≤ c * 1000000000 ^ 16 := Nat.le_mul_of_pos_left _ z
          omega
      rw [this] at hv
      omega
    | succ k ih =>
      intro j c hj hc t f' l hk hv
      have hfj := A.2.2 j (by omega)
      have hgj := B.2.2 j (by omega)
      have A' : nt (ix_up h d (cN f')) a d f' := A.nw l
      have Bo : ix_ob (ix_up h d (cN f')) b 1 [.ref e] := B.1.up (B.1.ne A.2.1)
      have Be : ∃ F : Nat → Int32, ix_ia (ix_up h d (cN f')) e 0 16 F ∧ F j = nI (g j) := by
        by_cases z : e = d
        · subst z
          have B'' : nt h a e g := ⟨A.1, B.2.1, B.2.2⟩
          exact ⟨_, A'.2.1, by show nI (f' j) = _; rw [hk j (by omega), A.eq B'' j (by omega)]⟩
        · exact ⟨_, B.2.1.up z, rfl⟩
      obtain ⟨F, hF, hFj⟩ := Be
      refine jx (pc' := 7) (L' := [_, _, _, _, _]) (st' := [.int (nI 16), _]) 2 rfl ?_
      refine jcn (pc' := 10) 57 rfl rfl rfl rfl (by rw [cc_ge (by omega) (by omega)]; exact decide_eq_false (by omega)) ?_
      refine jx (pc' := 11) (L' := [_, _, _, _, _]) (st' := [_]) 1 rfl ?_
      refine jgf (pc' := 14) A'.1 rfl rfl rfl rfl rfl ?_
      refine jx (pc' := 15) (L' := [_, _, _, _, _]) (st' := [_, _]) 1 rfl ?_
      refine jal (pc' := 16) A'.2.1 rfl rfl (by omega) rfl ?_
      refine jx (pc' := 17) (L' := [_, _, _, _, _]) (st' := [_, _]) 1 rfl ?_
      refine jgf (pc' := 20) Bo rfl rfl rfl rfl rfl ?_
      refine jx (pc' := 21) (L' := [_, _, _, _, _]) (st' := [_, _, _]) 1 rfl ?_
      refine jal (pc' := 22) hF rfl rfl (by omega) rfl ?_
      rw [hFj, hk j (by omega)]
      by_cases hlt : g j + c ≤ f j
      · skip
        refine jx (pc' := 29) (L' := [_, _, _, _, _]) (st' := [_]) 5 rfl ?_
        simp (disch := omega) only [nI_add, nI_mul, nI_sub, Nat.zero_mul, Nat.one_mul, Nat.sub_zero, Nat.add_zero, Nat.zero_add, Nat.add_sub_cancel]
        refine jit (pc' := 36) rfl rfl rfl (by rw [cz_ge (by omega)]; exact decide_eq_true (by omega)) ?_
        refine jx (pc' := 39) (L' := [_, _, _, _, _]) (st' := [_]) 3 rfl ?_
        simp (disch := omega) only [ki0, nI_add, nI_mul, nI_sub, Nat.zero_mul, Nat.one_mul, Nat.sub_zero, Nat.add_zero, Nat.zero_add, Nat.add_sub_cancel]
        refine jgf (pc' := 42) A'.1 rfl rfl rfl rfl rfl ?_
        refine jx (pc' := 50) (L' := [_, _, _, _, _]) (st' := [_, _, _]) 6 rfl ?_
        simp (disch := omega) only [kl1000000000, nI_add, nI_mul, nI_sub, Nat.zero_mul, Nat.one_mul, Nat.sub_zero, Nat.add_zero, Nat.zero_add, Nat.add_sub_cancel]
        refine jas' (pc' := 51) A.2.1 rfl rfl (by omega) rfl ?_
        refine jx (pc' := 4) (L' := [_, _, _, _, _]) (st' := []) 2 rfl ?_
        rw [nI_i, upd_nI]
        refine ih (j + 1) 0 (by omega) (by omega) _ _ (fun i hi => ?_) (fun i hi => ?_) ?_
        · unfold va_up
          split
          · omega
          · exact l i hi
        · rw [va_up_ne _ _ (by omega)]; exact hk i (by omega)
        · rw [vl_s, vl_s, vl_s, vl_up (Nat.le_refl _), va_up_self, Nat.zero_mul]
          have e1 : (f j - g j - c) * 1000000000 ^ j + g j * 1000000000 ^ j + c * 1000000000 ^ j = f j * 1000000000 ^ j := by
            rw [← Nat.add_mul, ← Nat.add_mul]
            congr 1
            omega
          omega
      · skip
        refine jx (pc' := 29) (L' := [_, _, _, _, _]) (st' := [_]) 5 rfl ?_
        simp (disch := omega) only [nI_add, nI_mul, nI_sub, Nat.zero_mul, Nat.one_mul, Nat.sub_zero, Nat.add_zero, Nat.zero_add, Nat.add_sub_cancel]
        rw [nI_m (by omega)]
        refine jin (pc' := 32) 36 rfl rfl rfl rfl (nI_mneg (by omega) (by omega)) ?_
        refine jx (pc' := 39) (L' := [_, _, _, _, _]) (st' := [_]) 4 rfl ?_
        simp (disch := omega) only [ki1, nI_add, nI_mul, nI_sub, Nat.zero_mul, Nat.one_mul, Nat.sub_zero, Nat.add_zero, Nat.zero_add, Nat.add_sub_cancel]
        refine jgf (pc' := 42) A'.1 rfl rfl rfl rfl rfl ?_
        refine jx (pc' := 50) (L' := [_, _, _, _, _]) (st' := [_, _, _]) 6 rfl ?_
        simp (disch := omega) only [kl1000000000, nI_add, nI_mul, nI_sub, Nat.zero_mul, Nat.one_mul, Nat.sub_zero, Nat.add_zero, Nat.zero_add, Nat.add_sub_cancel]
        rw [nI_mp (by omega)]
        refine jas' (pc' := 51) A.2.1 rfl rfl (by omega) rfl ?_
        refine jx (pc' := 4) (L' := [_, _, _, _, _]) (st' := []) 2 rfl ?_
        rw [nI_i, upd_nI]
        refine ih (j + 1) 1 (by omega) (by omega) _ _ (fun i hi => ?_) (fun i hi => ?_) ?_
        · unfold va_up
          split
          · omega
          · exact l i hi
        · rw [va_up_ne _ _ (by omega)]; exact hk i (by omega)
        · rw [vl_s, vl_s, vl_s, vl_up (Nat.le_refl _), va_up_self, Nat.one_mul, Nat.pow_succ]
          have e1 : (1000000000 - (g j + c - f j)) * 1000000000 ^ j + g j * 1000000000 ^ j + c * 1000000000 ^ j = f j * 1000000000 ^ j + 1000000000 ^ j * 1000000000 := by
            rw [← Nat.add_mul, ← Nat.add_mul, Nat.mul_comm (1000000000 ^ j) 1000000000, ← Nat.add_mul]
            congr 1
            omega
          omega
  refine jx (pc' := 4) (L' := [_, _, _, _, _]) (st' := []) 4 rfl ?_
  simp (disch := omega) only [ki0, nI_add, nI_mul, nI_sub, Nat.zero_mul, Nat.one_mul, Nat.sub_zero, Nat.add_zero, Nat.zero_add, Nat.add_sub_cancel]
  have := loop 16 0 0 (by omega) (by omega) none f A.2.2 (fun _ _ => rfl) (by simp [vl_z])
  rw [A.2.1.id] at this
  exact this
end NAT
