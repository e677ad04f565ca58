/-! ===== Math.floorDiv by 2; whole roots; Arithmetic: rootOfX, root ===== -/
theorem xor_s (a b : Int32) (hb : 0 ≤ b.toInt) : ((a ^^^ b).toInt < 0) = (a.toInt < 0) := by
  have h1 : (a ^^^ b).toBitVec.msb = (a.toBitVec.msb ^^ b.toBitVec.msb) := by rw [Int32.toBitVec_xor, BitVec.msb_xor]
  rw [BitVec.msb_eq_toInt, BitVec.msb_eq_toInt, BitVec.msb_eq_toInt] at h1
  simp only [Int32.toInt_toBitVec] at h1
  have : decide (b.toInt < 0) = false := decide_eq_false (by omega)
  rw [this, Bool.xor_false] at h1
  exact propext (by rw [← decide_eq_true_iff (p := (a ^^^ b).toInt < 0), h1, decide_eq_true_iff])
theorem zI_tdiv {x y : Int} (hx : -2147483648 < x ∧ x < 2147483648) (hy : 0 < y ∧ y < 2147483648) : zI x / zI y = zI (x.tdiv y) := by
  refine Int32.toInt_inj.mp ?_
  have h1 : (x.tdiv y).natAbs ≤ x.natAbs := by rw [Int.natAbs_tdiv]; exact Nat.div_le_self _ _
  rw [Int32.toInt_div, zI_t ⟨by omega, by omega⟩, zI_t ⟨by omega, by omega⟩, zI_t ⟨by omega, by omega⟩]
  generalize x.tdiv y = d at *
  simp only [Int.bmod]
  split <;> omega
section JDK
variable {h : ix_H} {Q : ix_O → ix_H → Prop} {x : Int}
theorem c_floorDiv2 (hx : -100000 ≤ x ∧ x ≤ 100000) (q : Q (.inl (some (.int (zI (x / 2))))) h) : ix_M 276 [.int (zI x), .int (zI 2)] h Q := by
  have hzx : zr x := ⟨by omega, by omega⟩
  have e2 : (zI 2).toInt = 2 := by decide
  have hxs : ix_cc .ge (zI x ^^^ zI 2) 0 = decide (0 ≤ x) := by
    have := xor_s (zI x) (zI 2) (by rw [e2]; decide)
    rw [zI_t hzx] at this
    simp only [ix_cc, Int32.le_iff_toInt_le, show (0 : Int32).toInt = 0 from rfl]
    by_cases h0 : 0 ≤ x
    · rw [decide_eq_true h0]
      simp only [decide_eq_true_eq]
      have : ¬ (zI x ^^^ zI 2).toInt < 0 := by rw [this]; omega
      omega
    · rw [decide_eq_false h0]
      simp only [decide_eq_false_iff_not]
      have : (zI x ^^^ zI 2).toInt < 0 := by rw [this]; omega
      omega
  refine jx (pc' := 2) (L' := [_, _, _]) (st' := [_, _]) 2 rfl ?_
  refine jidiv (pc' := 3) rfl rfl (by decide) rfl ?_
  rw [zI_tdiv ⟨by omega, by omega⟩ ⟨by decide, by decide⟩]
  have htd : x.tdiv 2 = x / 2 + (if 0 ≤ x ∨ (2 : Int) ∣ x then 0 else 1) := by rw [Int.tdiv_eq_ediv]; rfl
  refine jx (pc' := 7) (L' := [_, _, _]) (st' := [_]) 4 rfl ?_
  try simp (disch := omega) only [kz, kzl0, kzl1, kzb, kzs, zI_add, zI_sub, zI_neg, zI_mul, zL_i, zI_l, zL_add, zL_sub, zL_neg]
  by_cases h0 : 0 ≤ x
  · rw [if_pos (Or.inl h0)] at htd
    refine jit (pc' := 21) rfl rfl rfl (by rw [hxs]; exact decide_eq_true h0) ?_
    refine jx (pc' := 22) (L' := [_, _, _]) (st' := [_]) 1 rfl ?_
    refine jri rfl rfl ?_
    rw [htd, Int.add_zero]
    exact q
  · skip
    refine jin (pc' := 10) 21 rfl rfl rfl rfl (by rw [hxs]; exact decide_eq_false h0) ?_
    refine jx (pc' := 14) (L' := [_, _, _]) (st' := [_, _]) 4 rfl ?_
    try simp (disch := omega) only [kz, kzl0, kzl1, kzb, kzs, zI_add, zI_sub, zI_neg, zI_mul, zL_i, zI_l, zL_add, zL_sub, zL_neg]
    by_cases hd : (2 : Int) ∣ x
    · rw [if_pos (Or.inr hd)] at htd
      refine jct (pc' := 21) rfl rfl rfl (by rw [zc_eq ⟨by omega, by omega⟩ hzx]; exact decide_eq_true (by omega)) ?_
      refine jx (pc' := 22) (L' := [_, _, _]) (st' := [_]) 1 rfl ?_
      refine jri rfl rfl ?_
      rw [htd, Int.add_zero]
      exact q
    · rw [if_neg (fun z => z.elim h0 hd)] at htd
      refine jcn (pc' := 17) 21 rfl rfl rfl rfl (by rw [zc_eq ⟨by omega, by omega⟩ hzx]; exact decide_eq_false (by omega)) ?_
      refine jx (pc' := 20) (L' := [_, _, _]) (st' := [_]) 3 rfl ?_
      try simp (disch := omega) only [kz, kzl0, kzl1, kzb, kzs, zI_add, zI_sub, zI_neg, zI_mul, zL_i, zI_l, zL_add, zL_sub, zL_neg]
      refine jri rfl rfl ?_
      rw [htd, show x / 2 + 1 - 1 = x / 2 by omega]
      exact q
end JDK
theorem sq_ex (N : Nat) : ∃ R : Nat, R * R ≤ N ∧ N < (R + 1) * (R + 1) := by
  induction N with
  | zero => exact ⟨0, by decide, by decide⟩
  | succ N ih =>
    obtain ⟨R, h1, h2⟩ := ih
    by_cases h : N + 1 < (R + 1) * (R + 1)
    · exact ⟨R, by omega, h⟩
    · refine ⟨R + 1, by omega, ?_⟩
      rw [Nat.add_mul, Nat.mul_add] at *
      rw [Nat.add_mul, Nat.mul_add]
      omega
noncomputable def sq (N : Nat) : Nat := Classical.choose (sq_ex N)
theorem sq_1 (N : Nat) : sq N * sq N ≤ N := (Classical.choose_spec (sq_ex N)).1
theorem sq_2 (N : Nat) : N < (sq N + 1) * (sq N + 1) := (Classical.choose_spec (sq_ex N)).2
/-- a step of Newton's from above -/
theorem nwt {N R s : Nat} (h1 : R * R ≤ N) (h2 : N < (R + 1) * (R + 1)) (hs : R ≤ s) (h0 : 0 < s) : (R < s → R ≤ (N / s + s) / 2 ∧ (N / s + s) / 2 - R ≤ (s - R) / 2 ∧ (N / s + s) / 2 < s) ∧ (R = s → s ≤ (N / s + s) / 2) := by
  refine ⟨fun hlt => ?_, fun e => ?_⟩
  · have a1 : N / s ≤ R := by
      have : N / s < R + 1 := (Nat.div_lt_iff_lt_mul h0).mpr (Nat.lt_of_lt_of_le h2 (Nat.mul_le_mul_left _ hlt))
      omega
    have a2 : 2 * R ≤ N / s + s := by
      by_cases h3 : 2 * R ≤ s
      · generalize N / s = d
        omega
      · obtain ⟨e, he⟩ : ∃ e, s = R + e := ⟨s - R, by omega⟩
        obtain ⟨g, hg⟩ : ∃ g, R = e + g := ⟨R - e, by omega⟩
        have : g ≤ N / s := (Nat.le_div_iff_mul_le h0).mpr (by
          refine Nat.le_trans ?_ h1
          rw [he, hg]
          simp only [Nat.mul_add, Nat.add_mul]
          have := Nat.mul_comm e g
          omega)
        generalize N / s = d at *
        omega
    generalize N / s = d at *
    exact ⟨by omega, by omega, by omega⟩
  · subst e
    have : R ≤ N / R := (Nat.le_div_iff_mul_le h0).mpr h1
    generalize N / R = d at *
    omega
theorem msk1 (z : Int) (h1 : -9223372036854775808 ≤ z) (h2 : z < 9223372036854775808) : zL z &&& zL 1 = zL (z % 2) := by
  refine Int64.toInt_inj.mp ?_
  rw [zL_t (by omega) (by omega), Jvm.Kit.i64_mask _ _ (k := 1) (by decide) (by decide), zL_t h1 h2]
  rfl
theorem zL_half {e : Int} (h1 : -1000000 ≤ e) (h2 : e ≤ 1000000) (he : e % 2 = 0) : zL e / zL 2 = zL (e / 2) := by
  refine Int64.toInt_inj.mp ?_
  rw [Int64.toInt_div, zL_t (by omega) (by omega), zL_t (by decide) (by decide), zL_t (by omega) (by omega), Int.tdiv_eq_ediv_of_dvd (by omega)]
  simp only [Int.bmod]
  split <;> omega
theorem kzL2 : (2 : Int64) = zL 2 := by decide
noncomputable def rtP (D : Nat) (ex : Int) (cx : Nat) : Int := if ¬ (ex - (2 * ((D : Int) + 2) - dgs cx)) % 2 = 0 then 2 * ((D : Int) + 2) - dgs cx + 1 else 2 * ((D : Int) + 2) - dgs cx
noncomputable def rtN (D : Nat) (ex : Int) (cx : Nat) : Nat := cx * 10 ^ (rtP D ex cx).toNat
noncomputable def rtX (D : Nat) (ex : Int) (cx : Nat) : Bool × Int × Nat := (decide (¬ sq (rtN D ex cx) * sq (rtN D ex cx) = rtN D ex cx), (ex - rtP D ex cx) / 2, sq (rtN D ex cx))
noncomputable def roR (A : Dm) : OR :=
  if A.2.2.1 = true ∧ ¬ (A.2.1 = 0 ∧ A.2.2.2.2 = 0) then .inl (iv A, 1) else
  if A.2.1 = 1 then .inl (A, 0) else
  if A.2.1 = 0 ∧ A.2.2.2.2 = 0 then .inr (A.2.2.1, false, A.2.2.2.1, A.2.2.2.1 / 2, A.2.2.2.2) else
  .inr (A.2.2.1, (rtX (fD A.1) A.2.2.2.1 A.2.2.2.2).1, (rtX (fD A.1) A.2.2.2.1 A.2.2.2.2).2.1, A.2.2.2.1 / 2, (rtX (fD A.1) A.2.2.2.1 A.2.2.2.2).2.2)
