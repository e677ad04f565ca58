/-! ===== numbers of sixteen limbs: zerosAtEnd, shiftUp ===== -/
theorem vl_sh {f f' : Nat → Nat} {k m : Nat} (h0 : ∀ j, j < k → f' j = 0) (h1 : ∀ j, j < m → f' (k + j) = f j) : vl f' (k + m) = vl f m * 1000000000 ^ k := by
  induction m with
  | zero => rw [Nat.add_zero, vl_z, Nat.zero_mul, vl_0 h0]
  | succ m ih =>
    rw [← Nat.add_assoc, vl_s, vl_s, ih (fun j hj => h1 j (by omega)), h1 m (by omega), Nat.add_mul, Nat.mul_assoc, ← Nat.pow_add, Nat.add_comm k m]
theorem vl_top {f : Nat → Nat} {n m : Nat} (hv : vl f n < 1000000000 ^ m) : ∀ j, m ≤ j → j < n → f j = 0 := by
  intro j h1 h2
  rcases Nat.eq_zero_or_pos (f j) with z | z
  · exact z
  · exfalso
    induction n with
    | zero => omega
    | succ n ih =>
      rw [vl_s] at hv
      rcases Nat.lt_or_ge j n with y | y
      · exact ih (by omega) y
      · obtain rfl : j = n := by omega
        have a1 : 1000000000 ^ m ≤ 1000000000 ^ j := Nat.pow_le_pow_right (by decide) h1
        have a2 : 1000000000 ^ j ≤ f j * 1000000000 ^ j := Nat.le_mul_of_pos_left _ z
        omega
section NAT
variable {h : ix_H} {Q : ix_O → ix_H → Prop} {a b d e : Nat} {f g : Nat → Nat}
/-- Natural.zerosAtEnd -/
theorem c_zerosAtEnd (A : nt h a d f) (T : ix_tab h) (q : ∀ z : Nat, z ≤ 144 → (vl f 16 = 0 → z = 0) → 10 ^ z ∣ vl f 16 → (0 < vl f 16 → ¬ 10 ^ (z + 1) ∣ vl f 16) → Q (.inl (some (.int (nI z)))) h) : ix_M 67 [.ref a] h Q := by
  refine jx (pc' := 1) (L' := [_, _, _]) (st' := [_]) 1 rfl ?_
  refine jcv (pc' := 4) 52 [] [] A.1 rfl rfl rfl rfl rfl rfl rfl rfl ?_
  refine c_digits A T fun D hD h0 h1 hlt => jk ?_
  refine jx (pc' := 7) (L' := [_, _, _]) (st' := []) 3 rfl ?_
  try simp (disch := omega) only [ki0, nI_add, nI_mul, nI_sub, Nat.zero_mul, Nat.one_mul, Nat.sub_zero, Nat.add_zero, Nat.zero_add, Nat.add_sub_cancel]
  have loop : ∀ (k z : Nat), z + k = D → 10 ^ z ∣ vl f 16 → ix_E 67 7 [some (.ref a), some (.int (nI D)), some (.int (nI z))] [] h Q := by
    intro k
    induction k with
    | zero =>
      intro z hk hz
      refine jx (pc' := 9) (L' := [_, _, _]) (st' := [_, _]) 2 rfl ?_
      refine jct (pc' := 26) rfl rfl rfl (by rw [cc_ge (by omega) (by omega)]; exact decide_eq_true (by omega)) ?_
      refine jx (pc' := 27) (L' := [_, _, _]) (st' := [_]) 1 rfl ?_
      refine jri rfl rfl ?_
      have hv : vl f 16 = 0 := by
        rcases Nat.eq_zero_or_pos (vl f 16) with y | y
        · exact y
        · have := Nat.le_of_dvd y hz
          rw [show z = D by omega] at this
          omega
      have := h0 hv
      exact q z (by omega) (fun _ => by omega) hz (fun y => absurd y (by omega))
    | succ k ih =>
      intro z hk hz
      refine jx (pc' := 9) (L' := [_, _, _]) (st' := [_, _]) 2 rfl ?_
      refine jcn (pc' := 12) 26 rfl rfl rfl rfl (by rw [cc_ge (by omega) (by omega)]; exact decide_eq_false (by omega)) ?_
      refine jx (pc' := 14) (L' := [_, _, _]) (st' := [_, _]) 2 rfl ?_
      refine jcv (pc' := 17) 62 [_] [] A.1 rfl rfl rfl rfl rfl rfl rfl rfl ?_
      refine c_digitAt A T (by omega) (jk ?_)
      have hdl : vl f 16 / 10 ^ z % 10 < 10 := Nat.mod_lt _ (by decide)
      have hpos : 0 < vl f 16 := by
        rcases Nat.eq_zero_or_pos (vl f 16) with y | y
        · have := h0 y; omega
        · exact y
      by_cases hc : vl f 16 / 10 ^ z % 10 = 0
      · skip
        refine jin (pc' := 20) 26 rfl rfl rfl rfl (by rw [cz_ne (by omega)]; exact decide_eq_false (by omega)) ?_
        refine jx (pc' := 7) (L' := [_, _, _]) (st' := []) 2 rfl ?_
        rw [nI_i]
        refine ih (z + 1) (by omega) ?_
        rw [Nat.pow_succ]
        obtain ⟨w, hw⟩ := hz
        rw [hw, Nat.mul_div_cancel_left _ (Nat.pow_pos (by decide))] at hc
        rw [hw]
        exact Nat.mul_dvd_mul_left _ (Nat.dvd_of_mod_eq_zero hc)
      · skip
        refine jit (pc' := 26) rfl rfl rfl (by rw [cz_ne (by omega)]; exact decide_eq_true (by omega)) ?_
        refine jx (pc' := 27) (L' := [_, _, _]) (st' := [_]) 1 rfl ?_
        refine jri rfl rfl ?_
        refine q z (by omega) (fun y => absurd y (by omega)) hz (fun _ hd => hc ?_)
        obtain ⟨w, hw⟩ := hd
        rw [hw, Nat.pow_succ, Nat.mul_assoc, Nat.mul_div_cancel_left _ (Nat.pow_pos (by decide))]
        exact Nat.mul_mod_right _ _
  exact loop D 0 (by omega) (by simp)
end NAT
