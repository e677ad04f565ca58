/-! ===== the class's results are the reference's: add, multiply, fuse, divide ===== -/
theorem ad_F {dr : Nat} {A B : Dm} {nB : Bool} (vA : ValD A) (vB : ValD B) (hB : B.2.1 < 2) : rdo dr A (smR (fD A.1) dr A B nB) = adF dr A B nB := by
  have bA := Val.b vA
  have bB := Val.b vB
  have cA := dgs_le (Val.c34 vA)
  have cB := dgs_le (Val.c34 vB)
  unfold smR adF
  by_cases h1 : A.2.1 = 1
  · rw [if_pos h1, if_pos (Or.inl h1)]
    by_cases h2 : B.2.1 = 1 ∧ ¬ A.2.2.1 = nB
    · rw [if_pos h2, if_pos ⟨by omega, h2.2⟩]
      rfl
    · rw [if_neg h2, if_neg (fun z => h2 ⟨by omega, z.2⟩), if_pos h1]
      rfl
  · rw [if_neg h1]
    by_cases h2 : B.2.1 = 1
    · rw [if_pos h2, if_pos (Or.inr h2), if_neg (fun z => by omega), if_neg h1]
      rfl
    · rw [if_neg h2, if_neg (fun z => by omega)]
      exact sum_e vA.1 (by omega) (by omega) (by omega) (by omega)
theorem mu_F {dr : Nat} {A B : Dm} (vA : ValD A) (vB : ValD B) : rdo dr A (prR A B) = muF dr A B := by
  have bA := Val.b vA
  have bB := Val.b vB
  have hP : A.2.2.2.2 * B.2.2.2.2 < 10 ^ 68 := by
    rw [show (68 : Nat) = 34 + 34 from rfl, Nat.pow_add]
    exact Nat.mul_lt_mul_of_le_of_lt (Nat.le_of_lt (Val.c34 vA)) (Val.c34 vB) (pp0 34)
  unfold prR muF
  by_cases h1 : ((A.2.1 = 0 ∧ A.2.2.2.2 = 0) ∧ B.2.1 = 1) ∨ (A.2.1 = 1 ∧ (B.2.1 = 0 ∧ B.2.2.2.2 = 0))
  · rw [if_pos h1, if_pos h1]
    rfl
  · rw [if_neg h1, if_neg h1]
    by_cases h2 : A.2.1 = 1 ∨ B.2.1 = 1
    · rw [if_pos h2, if_pos h2]
      rfl
    · rw [if_neg h2, if_neg h2]
      exact rdo_p vA.1 (Nat.lt_of_lt_of_le hP (pl (by decide))) (by omega) (fun _ => rfl)
theorem zbi_e (A B : Dm) : (zbi A B = true) = (((A.2.1 = 0 ∧ A.2.2.2.2 = 0) ∧ B.2.1 = 1) ∨ (A.2.1 = 1 ∧ (B.2.1 = 0 ∧ B.2.2.2.2 = 0))) := by
  unfold zbi
  simp
theorem nan_t {A B C : Dm} (hA : A.2.1 < 2) (hB : B.2.1 < 2) (_hC : 2 ≤ C.2.1 ∧ C.2.1 < 4) : nanP A B C = C ∧ (nanS A B C).toNat ≤ 1 := by
  refine ⟨?_, by cases nanS A B C <;> decide⟩
  unfold nanP
  by_cases h : nanS A B C = true
  · rw [h, if_pos rfl, if_neg (by omega), if_neg (by omega)]
  · rw [if_neg h, if_neg (by omega), if_neg (by omega)]
theorem fu_F {dr : Nat} {A B C : Dm} (vA : ValD A) (vB : ValD B) (vC : ValD C) : o3R dr A B C = fuF dr A B C := by
  have bA := Val.b vA
  have bB := Val.b vB
  have bC := Val.b vC
  have cC := dgs_le (Val.c34 vC)
  have hP : A.2.2.2.2 * B.2.2.2.2 < 10 ^ 68 := by
    rw [show (68 : Nat) = 34 + 34 from rfl, Nat.pow_add]
    exact Nat.mul_lt_mul_of_le_of_lt (Nat.le_of_lt (Val.c34 vA)) (Val.c34 vB) (pp0 34)
  unfold o3R fuF
  have hz := zbi_e A B
  by_cases hb : ((A.2.1 = 0 ∧ A.2.2.2.2 = 0) ∧ B.2.1 = 1) ∨ (A.2.1 = 1 ∧ (B.2.1 = 0 ∧ B.2.2.2.2 = 0))
  · have hzt : zbi A B = true := by rw [hz]; exact hb
    rw [if_pos hb, hzt]
    by_cases hc : 2 ≤ C.2.1
    · rw [if_pos hc, if_pos (Or.inr (Or.inr hc)), (nan_t (by omega) (by omega) ⟨hc, vC.2.1⟩).1, Bool.or_true]
      rfl
    · rw [if_neg hc, if_neg (by omega), if_pos rfl]
  · have hzt : ¬ zbi A B = true := by rw [hz]; exact hb
    rw [if_neg hb]
    by_cases hn : 2 ≤ A.2.1 ∨ 2 ≤ B.2.1 ∨ 2 ≤ C.2.1
    · rw [if_pos hn, if_pos hn, show zbi A B = false by simpa using hzt, Bool.or_false]
    · rw [if_neg hn, if_neg hn, if_neg hzt]
      by_cases hi : A.2.1 = 1 ∨ B.2.1 = 1
      · rw [if_pos hi, if_pos hi]
        by_cases h3 : C.2.1 = 1 ∧ ¬ xo A B = C.2.2.1
        · rw [if_pos h3, if_pos ⟨h3.1, fun z => h3.2 z.symm⟩]
        · rw [if_neg h3, if_neg (fun z => h3 ⟨z.1, fun y => z.2 y.symm⟩)]
      · rw [if_neg hi, if_neg hi]
        by_cases h4 : C.2.1 = 1
        · rw [if_pos h4, if_pos h4]
        · rw [if_neg h4, if_neg h4]
          exact sum_e vA.1 (by omega) (by omega) (dgs_le hP) (by omega)
/-- a quotient with more digits -/
theorem dv_q {x b k : Nat} (hb : 0 < b) : x * 10 ^ k / b = x / b * 10 ^ k + x % b * 10 ^ k / b ∧ x % b * 10 ^ k / b < 10 ^ k ∧ x * 10 ^ k % b = x % b * 10 ^ k % b := by
  have hd := Nat.div_add_mod x b
  have e : x * 10 ^ k = x % b * 10 ^ k + b * (x / b * 10 ^ k) := by
    have h1 : b * (x / b * 10 ^ k) = b * (x / b) * 10 ^ k := by rw [Nat.mul_assoc]
    rw [h1, ← Nat.add_mul, Nat.add_comm, hd]
  refine ⟨?_, ?_, ?_⟩
  · conv => lhs; rw [e]
    rw [Nat.add_mul_div_left _ _ hb, Nat.add_comm]
  · refine (Nat.div_lt_iff_lt_mul hb).mpr ?_
    rw [Nat.mul_comm (10 ^ k)]
    exact Nat.mul_lt_mul_of_pos_right (Nat.mod_lt _ hb) (pp0 k)
  · conv => lhs; rw [e]
    rw [Nat.add_mul_mod_self_left]
theorem dv_F {dr : Nat} {A B : Dm} (vA : ValD A) (vB : ValD B) (hA : A.2.1 < 2) (hB : B.2.1 < 2) (hf : A.1 = B.1) : rdo dr A (raR A B) = dvF dr A B := by
  have bA := Val.b vA
  have bB := Val.b vB
  have fb := f3b vA.1
  have gb := gEb vA.1
  unfold raR dvF
  by_cases h1 : ((A.2.1 = 0 ∧ A.2.2.2.2 = 0) ∧ (B.2.1 = 0 ∧ B.2.2.2.2 = 0)) ∨ (A.2.1 = 1 ∧ B.2.1 = 1)
  · rw [if_pos h1, if_pos (by rcases h1 with z | z; exact ⟨by omega, Or.inr z⟩; exact ⟨by omega, Or.inl z.1⟩)]
    rfl
  · have e1 : ¬ (A.2.1 = B.2.1 ∧ (A.2.1 = 1 ∨ ((A.2.1 = 0 ∧ A.2.2.2.2 = 0) ∧ (B.2.1 = 0 ∧ B.2.2.2.2 = 0)))) := fun z => h1 (by
      rcases z.2 with y | y
      · exact Or.inr ⟨y, by omega⟩
      · exact Or.inl y)
    rw [if_neg h1, if_neg e1]
    by_cases h2 : A.2.1 = 1
    · rw [if_pos (Or.inl h2), if_pos h2, if_pos h2]
      rfl
    · rw [if_neg h2]
      by_cases h3 : B.2.1 = 1
      · have e2 : ¬ (A.2.1 = 1 ∨ (B.2.1 = 0 ∧ B.2.2.2.2 = 0)) := by omega
        rw [if_neg e2, if_pos h3, if_pos h3]
        show ((A.1, (rRnd A.1 dr (xo A B) false A.2.2.2.1 (-(fB A.1 : Int)) 0).1, xo A B, (rRnd A.1 dr (xo A B) false A.2.2.2.1 (-(fB A.1 : Int)) 0).2.1, (rRnd A.1 dr (xo A B) false A.2.2.2.1 (-(fB A.1 : Int)) 0).2.2.1), (rRnd A.1 dr (xo A B) false A.2.2.2.1 (-(fB A.1 : Int)) 0).2.2.2) = _
        rw [rRnd_2 vA.1 (pp0 144), rRn2_z, if_neg (by omega), if_neg (by omega), if_neg h2]
      · rw [if_neg h3]
        by_cases h4 : B.2.1 = 0 ∧ B.2.2.2.2 = 0
        · rw [if_pos (Or.inr h4), if_pos h4, if_neg h2, if_neg h3]
          rfl
        · have e2 : ¬ (A.2.1 = 1 ∨ (B.2.1 = 0 ∧ B.2.2.2.2 = 0)) := fun z => z.elim h2 h4
          rw [if_neg e2, if_neg h3, if_neg h4, if_neg h2]
          have hb : 0 < B.2.2.2.2 := Nat.pos_of_ne_zero fun z => h4 ⟨by omega, z⟩
          by_cases h5 : A.2.1 = 0 ∧ A.2.2.2.2 = 0
          · rw [if_pos h5, h5.2, sX_0, Nat.zero_mod]
            have : dvV A.2.2.2.1 0 B.2.2.2.1 B.2.2.2.2 = 0 := by unfold dvV; rw [sX_0, Nat.zero_div, Nat.zero_mul]
            rw [this]
            refine rdo_rr (zs := xo A B) (ng' := xo A B) vA.1 (pp0 144) ?_ (by rw [if_pos rfl])
            rw [show decide (¬ (0 : Nat) = 0) = false from rfl, rRn2_z, rRn2_z]
          · rw [if_neg h5, ← hf]
            have ha : 0 < A.2.2.2.2 := Nat.pos_of_ne_zero fun z => h5 ⟨by omega, z⟩
            have dA := dgs_le vA.2.2.2.1
            have dB := dgs_le vB.2.2.2.1
            rw [← hf] at dB
            have pA := dgs_p ha
            have pB := dgs_p hb
            unfold dvX
            dsimp only
            have hPd : dvP (fD A.1) A.2.2.2.2 B.2.2.2.2 = (fD A.1 : Int) + 3 + dgs B.2.2.2.2 - dgs A.2.2.2.2 := rfl
            generalize dvP (fD A.1) A.2.2.2.2 B.2.2.2.2 = P at *
            obtain ⟨p, hp⟩ : ∃ p : Nat, P = p := ⟨P.toNat, by omega⟩
            subst hp
            rw [Int.toNat_natCast]
            have hdm := dgs_m ha p 0 (pp0 p)
            rw [Nat.add_zero] at hdm
            have hco : 10 ^ (fD A.1 + 2) ≤ A.2.2.2.2 * 10 ^ p / B.2.2.2.2 := by
              refine (Nat.le_div_iff_mul_le hb).mpr ?_
              have h1 : 10 ^ (fD A.1 + 2) * B.2.2.2.2 ≤ 10 ^ (fD A.1 + 2) * 10 ^ dgs B.2.2.2.2 := Nat.mul_le_mul_left _ (Nat.le_of_lt (dgs_l _))
              rw [← Nat.pow_add] at h1
              have h2 := (dgs_p (v := A.2.2.2.2 * 10 ^ p) (Nat.mul_pos ha (pp0 p))).2
              rw [hdm, show dgs A.2.2.2.2 + p - 1 = fD A.1 + 2 + dgs B.2.2.2.2 by omega] at h2
              exact Nat.le_trans h1 h2
            have hcd := dgs_gt hco
            have hlt : A.2.2.2.2 * 10 ^ p / B.2.2.2.2 < 10 ^ 144 := by
              refine Nat.lt_of_le_of_lt (Nat.div_le_self _ _) (Nat.lt_of_lt_of_le (dgs_l _) (pl ?_))
              rw [hdm]
              omega
            have hX : sX A.2.2.2.2 = A.2.2.2.2 * 10 ^ p * 10 ^ (120 - p) := by
              unfold sX
              rw [Nat.mul_assoc, ← Nat.pow_add, show p + (120 - p) = 120 by omega]
            obtain ⟨q1, q2, q3⟩ := dv_q (x := A.2.2.2.2 * 10 ^ p) (k := 120 - p) hb
            rw [← hX] at q1 q3
            have hV : dvV A.2.2.2.1 A.2.2.2.2 B.2.2.2.1 B.2.2.2.2 = A.2.2.2.2 * 10 ^ p / B.2.2.2.2 * 10 ^ (12500 + A.2.2.2.1 - p - B.2.2.2.1).toNat + A.2.2.2.2 * 10 ^ p % B.2.2.2.2 * 10 ^ (120 - p) / B.2.2.2.2 * 10 ^ (12500 + A.2.2.2.1 - B.2.2.2.1 - 120).toNat := by
              unfold dvV
              rw [q1, Nat.add_mul, Nat.mul_assoc (A.2.2.2.2 * 10 ^ p / B.2.2.2.2), ← Nat.pow_add, show 120 - p + (12500 + A.2.2.2.1 - B.2.2.2.1 - 120).toNat = (12500 + A.2.2.2.1 - p - B.2.2.2.1).toNat by omega]
            have hr0 : (A.2.2.2.2 * 10 ^ p % B.2.2.2.2 = 0) = (A.2.2.2.2 * 10 ^ p % B.2.2.2.2 * 10 ^ (120 - p) / B.2.2.2.2 = 0 ∧ sX A.2.2.2.2 % B.2.2.2.2 = 0) := by
              rw [q3]
              refine propext ⟨fun z => ?_, fun z => ?_⟩
              · rw [z, Nat.zero_mul, Nat.zero_div, Nat.zero_mod]
                exact ⟨rfl, rfl⟩
              · have := Nat.div_add_mod (A.2.2.2.2 * 10 ^ p % B.2.2.2.2 * 10 ^ (120 - p)) B.2.2.2.2
                rw [z.1, z.2, Nat.mul_zero, Nat.zero_add] at this
                rcases Nat.mul_eq_zero.mp this.symm with y | y
                · exact y
                · have := pp0 (120 - p); omega
            rw [hV]
            clear hV q1 q3 hX hdm
            generalize hc0 : A.2.2.2.2 * 10 ^ p / B.2.2.2.2 = co at *
            generalize hr : A.2.2.2.2 * 10 ^ p % B.2.2.2.2 = r at *
            generalize hlo : r * 10 ^ (120 - p) / B.2.2.2.2 = lo at *
            generalize hsx : sX A.2.2.2.2 % B.2.2.2.2 = sx at *
            have hco0 : 0 < co := Nat.lt_of_lt_of_le (pp0 _) hco
            obtain ⟨j, hj⟩ : ∃ j : Nat, (j : Int) = 12500 + A.2.2.2.1 - p - B.2.2.2.1 := ⟨(12500 + A.2.2.2.1 - p - B.2.2.2.1).toNat, by omega⟩
            rw [← hj, Int.toNat_natCast]
            have hj2 : (12500 + A.2.2.2.1 - B.2.2.2.1 - 120).toNat + (120 - p) = j := by omega
            have hl2 : lo * 10 ^ (12500 + A.2.2.2.1 - B.2.2.2.1 - 120).toNat < 10 ^ j := by
              rw [← hj2, Nat.pow_add, Nat.mul_comm]
              exact Nat.mul_lt_mul_of_pos_left q2 (pp0 _)
            have hne : ¬ co * 10 ^ j + lo * 10 ^ (12500 + A.2.2.2.1 - B.2.2.2.1 - 120).toNat = 0 := by
              have := Nat.mul_pos hco0 (pp0 j)
              omega
            refine rdo_rr (zs := xo A B) (ng' := xo A B) vA.1 hlt ?_ (by rw [if_neg hne])
            have ej : A.2.2.2.1 - (p : Int) - B.2.2.2.1 - (j : Int) = -12500 := by omega
            by_cases hz : r = 0
            · have hz2 := hz
              rw [hr0] at hz2
              rw [hz2.1, hz2.2, hz, Nat.zero_mul, Nat.add_zero]
              have := rRn2_e (c := co) A.1 dr j (xo A B) (A.2.2.2.1 - (p : Int) - B.2.2.2.1) (A.2.2.2.1 - B.2.2.2.1)
              rw [ej] at this
              exact this.symm
            · have ht := rRn2_t (c := co) A.1 dr j (lo * 10 ^ (12500 + A.2.2.2.1 - B.2.2.2.1 - 120).toNat) (xo A B) (decide (¬ sx = 0)) (A.2.2.2.1 - (p : Int) - B.2.2.2.1) (A.2.2.2.1 - B.2.2.2.1) hl2 (by
                rw [hr0] at hz
                by_cases y : sx = 0
                · have hlo0 : ¬ lo = 0 := fun w => hz ⟨w, y⟩
                  have := Nat.mul_pos (Nat.pos_of_ne_zero hlo0) (pp0 (12500 + A.2.2.2.1 - B.2.2.2.1 - 120).toNat)
                  rw [decide_eq_true (by omega)]
                  rfl
                · rw [decide_eq_true y, Bool.or_true]) (by omega)
              rw [ej] at ht
              rw [ht, decide_eq_true hz]
