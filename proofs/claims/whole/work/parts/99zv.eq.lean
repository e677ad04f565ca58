/-! ===== the class's results are the reference's: whole numbers ===== -/
noncomputable def whC (m : Nat) (A : Dm) : Nat := tpC m A.2.2.1 A.2.2.2.1 0 A.2.2.2.2
noncomputable def whF (m : Nat) (exa : Bool) (A : Dm) : Int × Nat :=
  if ¬ A.2.1 = 0 ∨ (40 < A.2.2.2.1 ∧ ¬ A.2.2.2.2 = 0) then (-9223372036854775808, 1) else
  if 9223372036854775808 ≤ whC m A ∧ ¬ (A.2.2.1 = true ∧ whC m A = 9223372036854775808) then (-9223372036854775808, 1) else
  ((if A.2.2.1 then -(whC m A : Int) else (whC m A : Int)), if exa = true ∧ tpI A.2.2.2.1 0 A.2.2.2.2 = true then 16 else 0)
theorem wh_F {m : Nat} {exa : Bool} {A : Dm} (vA : ValD A) : twR m exa A = whF m exa A := by
  have bA := Val.b vA
  have dA := dgs_le (Val.c34 vA)
  have eI := tp_I (e := A.2.2.2.1) (q := 0) (c := A.2.2.2.2) (by omega) (by omega)
  have eV := tp_V (m := m) (n := A.2.2.1) (e := A.2.2.2.1) (q := 0) (c := A.2.2.2.2) (by omega) (by omega)
  rw [Int.zero_sub] at eI eV
  rw [Int.neg_neg] at eV
  have eW : twW m A = cutV (pV A.2.2.2.1 A.2.2.2.2) ((12500 + (0 : Int)).toNat) false m A.2.2.1 := eV.symm
  have h63 : (9223372036854775808 : Nat) < 10 ^ 19 := by decide
  unfold twR whF
  rw [eI]
  by_cases h1 : ¬ A.2.1 = 0
  · rw [if_pos (Or.inl h1), if_pos (Or.inl h1)]
  · have hdw : 0 < A.2.2.2.2 → dgs (pV A.2.2.2.1 A.2.2.2.2) = dgs A.2.2.2.2 + (12500 + A.2.2.2.1).toNat := fun z => by
      have := dgs_m z (12500 + A.2.2.2.1).toNat 0 (pp0 _)
      rw [Nat.add_zero] at this
      exact this
    by_cases hz : A.2.2.2.2 = 0
    · have g1 : ¬ (¬ A.2.1 = 0 ∨ (¬ A.2.2.2.2 = 0 ∧ 19 < (dgs A.2.2.2.2 : Int) + A.2.2.2.1)) := fun z => z.elim h1 (fun y => y.1 hz)
      have g2 : ¬ (¬ A.2.1 = 0 ∨ (40 < A.2.2.2.1 ∧ ¬ A.2.2.2.2 = 0)) := fun z => z.elim h1 (fun y => y.2 hz)
      have eC : whC m A = twW m A := by
        unfold whC tpC
        rw [eW, if_neg]
        rw [hz, pV_0, dgs_0 rfl]
        omega
      rw [if_neg g1, if_neg g2, eC]
    · have hp := Nat.pos_of_ne_zero hz
      have hd := hdw hp
      have hdp := dgs_p hp
      by_cases h2 : 19 < (dgs A.2.2.2.2 : Int) + A.2.2.2.1
      · rw [if_pos (Or.inr ⟨hz, h2⟩)]
        by_cases h3 : 40 < A.2.2.2.1
        · rw [if_pos (Or.inr ⟨h3, hz⟩)]
        · have g2 : ¬ (¬ A.2.1 = 0 ∨ (40 < A.2.2.2.1 ∧ ¬ A.2.2.2.2 = 0)) := fun z => z.elim h1 (fun y => h3 y.1)
          have hC : 10 ^ 19 ≤ whC m A := by
            unfold whC tpC
            split
            · decide
            · generalize hK : (12500 + (0 : Int)).toNat = K
              have h5 : pV A.2.2.2.1 A.2.2.2.2 / 10 ^ K ≤ cutV (pV A.2.2.2.1 A.2.2.2.2) (K : Int) false m A.2.2.1 := by
                unfold cutV
                exact Nat.le_add_right _ _
              refine Nat.le_trans ?_ h5
              refine (Nat.le_div_iff_mul_le (pp0 _)).mpr ?_
              rw [← Nat.pow_add]
              have h6 := (dgs_p (pV_p (e := A.2.2.2.1) hp)).2
              exact Nat.le_trans (pl (by omega)) h6
          rw [if_neg g2, if_pos ⟨by omega, fun z => by omega⟩]
      · have g1 : ¬ (¬ A.2.1 = 0 ∨ (¬ A.2.2.2.2 = 0 ∧ 19 < (dgs A.2.2.2.2 : Int) + A.2.2.2.1)) := fun z => z.elim h1 (fun y => h2 y.2)
        have g2 : ¬ (¬ A.2.1 = 0 ∨ (40 < A.2.2.2.1 ∧ ¬ A.2.2.2.2 = 0)) := fun z => z.elim h1 (fun y => by omega)
        have eC : whC m A = twW m A := by
          unfold whC tpC
          rw [eW, if_neg]
          rw [hd]
          omega
        rw [if_neg g1, if_neg g2, eC]
