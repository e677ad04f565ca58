/-! ===== the class's results are the reference's: scale, convert, quantize, whole numbers ===== -/
def clE (q : Int) : Int := if q < -12400 then -12400 else if 12500 < q then 12500 else q
theorem rIn2_o {f dr c : Nat} {ng mo : Bool} {q : Int} (h : gE f < rQ f q c) : rIn2 f dr ng mo q c = rOvf f dr ng := by
  unfold rIn2
  rw [if_pos h]
/-- far below -/
theorem rIn2_u {f dr c : Nat} {ng : Bool} {q : Int} (hf : f < 3) (hc : 0 < c) (hd : dgs c ≤ 120) (hq : q ≤ -12400) : rRn2 f dr ng false q q c = (0, -(fB f : Int), (grw dr 0 true false ng).toNat, 24) := by
  have fb := f3b hf
  have gb := gEb hf
  have hQ : rQ f q c = -(fB f : Int) := by unfold rQ; omega
  have hz : tz c ≤ dgs c := by
    refine Nat.le_of_not_lt fun z => ?_
    have h1 := Nat.le_of_dvd hc (tz_d c)
    have h2 := dgs_l c
    have h3 := pl (a := dgs c) (b := tz c) (by omega)
    omega
  rw [rRn2_i (Or.inl hc) (fun _ => by rw [hQ]; unfold rTo; omega)]
  unfold rIn2
  rw [hQ, if_neg (by omega)]
  have hcl : ∀ k : Nat, 120 ≤ k → c / 10 ^ k = 0 ∧ c % 10 ^ k = c := fun k hk => by
    have := Nat.lt_of_lt_of_le (dgs_l c) (pl (show dgs c ≤ k by omega))
    exact ⟨Nat.div_eq_of_lt this, Nat.mod_eq_of_lt this⟩
  have e : cutV c (-(fB f : Int) - q) false dr ng = (grw dr 0 true false ng).toNat := by
    unfold cutV cutI dAt
    rw [if_neg (by omega), (hcl (-(fB f : Int) - q).toNat (by omega)).1, (hcl (-(fB f : Int) - q - 1).toNat (by omega)).1, (hcl (-(fB f : Int) - q - 1).toNat (by omega)).2, decide_eq_true (p := c ≠ 0) (by omega)]
    simp
  rw [e]
  have h1 : dgs (grw dr 0 true false ng).toNat ≤ 1 := dgs_le (by cases grw dr 0 true false ng <;> decide)
  rw [if_neg (by omega), if_pos (by omega)]
theorem cl_R {f dr c : Nat} {ng : Bool} {q : Int} (hf : f < 3) (hd : dgs c ≤ 120) : rRn2 f dr ng false q q c = rRn2 f dr ng false (clE q) (clE q) c := by
  have fb := f3b hf
  have gb := gEb hf
  by_cases hc : c = 0
  · rw [hc, rRn2_z, rRn2_z]
    congr 2
    unfold clE
    by_cases h1 : q < -12400
    · rw [if_pos h1, if_pos (by omega), if_pos (by omega)]
    · rw [if_neg h1]
      by_cases h2 : 12500 < q
      · rw [if_pos h2, if_neg (by omega), if_pos (by omega), if_neg (by omega), if_pos (by omega)]
      · rw [if_neg h2]
  · have hc0 := Nat.pos_of_ne_zero hc
    unfold clE
    by_cases h1 : q < -12400
    · rw [if_pos h1, rIn2_u hf hc0 hd (by omega), rIn2_u hf hc0 hd (by omega)]
    · rw [if_neg h1]
      by_cases h2 : 12500 < q
      · rw [if_pos h2]
        have h3 : gE f < rQ f q c := by unfold rQ; omega
        have h4 : gE f < rQ f 12500 c := by unfold rQ; omega
        rw [rRn2_i (Or.inl hc0) (fun _ => by unfold rTo; omega), rRn2_i (Or.inl hc0) (fun _ => by unfold rTo; omega), rIn2_o h3, rIn2_o h4]
      · rw [if_neg h2]
theorem cl_b (q : Int) : -12400 ≤ clE q ∧ clE q ≤ 12500 := by
  unfold clE
  split
  · omega
  · split <;> omega
theorem rs_F {dr c : Nat} {A : Dm} {n zs : Bool} {q : Int} (hf : A.1 < 3) (hd : dgs c ≤ 120) (hz : c = 0 → n = zs) : rdo dr A (.inr (n, false, q, q, c)) = rr A.1 dr zs n false (clE q) (pV (clE q) c) := by
  have hb := cl_b q
  have hc144 : c < 10 ^ 144 := Nat.lt_of_lt_of_le (dgs_l c) (pl (by omega))
  have e := rdo_p (A := A) (dr := dr) (co := c) (ng := n) (zs := zs) (ex := clE q) (wi := clE q) hf hc144 (by omega) hz
  rw [← e]
  show ((A.1, (rRnd A.1 dr n false q q c).1, n, (rRnd A.1 dr n false q q c).2.1, (rRnd A.1 dr n false q q c).2.2.1), (rRnd A.1 dr n false q q c).2.2.2) = ((A.1, (rRnd A.1 dr n false (clE q) (clE q) c).1, n, (rRnd A.1 dr n false (clE q) (clE q) c).2.1, (rRnd A.1 dr n false (clE q) (clE q) c).2.2.1), (rRnd A.1 dr n false (clE q) (clE q) c).2.2.2)
  rw [rRnd_2 hf hc144, rRnd_2 hf hc144, cl_R hf hd]
/-! to a power -/
noncomputable def tpC (m : Nat) (n : Bool) (e q : Int) (c : Nat) : Nat := if 41 + (12500 + q).toNat ≤ dgs (pV e c) then 10 ^ 40 - 1 else cutV (pV e c) (12500 + q).toNat false m n
def tpI (e q : Int) (c : Nat) : Bool := decide (¬ pV e c % 10 ^ (12500 + q).toNat = 0)
/-- a cut at a whole place -/
theorem cut_w (x k : Nat) (m : Nat) (n : Bool) (hk : 1 ≤ k) : cutI (x * 10 ^ k) k false = false ∧ cutV (x * 10 ^ k) k false m n = x := by
  have hI : cutI (x * 10 ^ k) k false = false := by
    unfold cutI dAt
    rw [if_neg (by omega), show ((k : Int) - 1).toNat = k - 1 by omega]
    obtain ⟨j, hj⟩ : ∃ j, k = j + 1 := ⟨k - 1, by omega⟩
    subst hj
    rw [Nat.add_sub_cancel, Nat.pow_succ, Nat.mul_comm (10 ^ j), ← Nat.mul_assoc, Nat.mul_div_cancel _ (pp0 j), Nat.mul_mod_left, Nat.mul_mod_left]
    simp
  refine ⟨hI, ?_⟩
  unfold cutV
  rw [hI, Int.toNat_natCast, Nat.mul_div_cancel _ (pp0 k)]
  simp
theorem cutI_0 {x : Nat} {p : Int} (h : p ≤ 0) : cutI x p false = false := by
  unfold cutI dAt
  rw [if_pos (by omega), show (p - 1).toNat = 0 by omega, Nat.pow_zero, Nat.mod_one]
  rfl
theorem cutV_n {x : Nat} {p : Int} {m : Nat} {n : Bool} (h : p ≤ 0) : cutV x p false m n = x := by
  unfold cutV
  rw [cutI_0 h, show p.toNat = 0 by omega, Nat.pow_zero, Nat.div_one]
  simp
theorem cutI_m {x : Nat} {p : Int} (h : 1 ≤ p) : cutI x p false = decide (¬ x % 10 ^ p.toNat = 0) := by
  obtain ⟨k, hk⟩ : ∃ k : Nat, p = ((k + 1 : Nat) : Int) := ⟨(p - 1).toNat, by omega⟩
  subst hk
  unfold cutI dAt
  rw [if_neg (by omega), Int.toNat_natCast, show (((k + 1 : Nat) : Int) - 1).toNat = k by omega, mod_s]
  have := pp0 k
  by_cases h1 : x / 10 ^ k % 10 = 0
  · rw [h1, Nat.zero_mul, Nat.zero_add]
    simp
  · have h2 := Nat.mul_pos (Nat.pos_of_ne_zero h1) this
    rw [decide_eq_true (p := x / 10 ^ k % 10 ≠ 0) h1, Bool.true_or]
    refine (decide_eq_true ?_).symm
    generalize x / 10 ^ k % 10 * 10 ^ k = y at *
    omega
theorem tp_I {e q : Int} {c : Nat} (he : -12400 ≤ e) (hq : -12400 ≤ q) : tpI e q c = cutI c (q - e) false := by
  unfold tpI pV
  by_cases h : q ≤ e
  · rw [cutI_0 (by omega), show (12500 + e).toNat = (e - q).toNat + (12500 + q).toNat by omega, Nat.pow_add, ← Nat.mul_assoc, Nat.mul_mod_left]
    rfl
  · rw [cutI_m (by omega)]
    have e1 : (12500 + q).toNat = (q - e).toNat + (12500 + e).toNat := by omega
    rw [e1, Nat.pow_add, Nat.mul_mod_mul_right]
    have := pp0 (12500 + e).toNat
    congr 2
    refine propext ⟨fun z => ?_, fun z => by rw [z, Nat.zero_mul]⟩
    rcases Nat.mul_eq_zero.mp z with y | y
    · exact y
    · omega
theorem tp_V {m : Nat} {n : Bool} {e q : Int} {c : Nat} (he : -12400 ≤ e) (hq : -12400 ≤ q) : cutV (pV e c) (12500 + q).toNat false m n = cutV c (q - e) false m n * 10 ^ (-(q - e)).toNat := by
  unfold pV
  by_cases h : q ≤ e
  · rw [cutV_n (p := q - e) (by omega), show (12500 + e).toNat = (-(q - e)).toNat + (12500 + q).toNat by omega, Nat.pow_add, ← Nat.mul_assoc]
    exact (cut_w _ _ m n (by omega)).2
  · have := cut_m c (12500 + e).toNat 0 false m n (q - e) (by omega) (pp0 _)
    rw [Nat.add_zero, show q - e + ((12500 + e).toNat : Int) = (((12500 + q).toNat : Nat) : Int) by omega] at this
    rw [this, show (-(q - e)).toNat = 0 by omega, Nat.pow_zero, Nat.mul_one]
    rfl
/-- quantize -/
noncomputable def qzF (dr : Nat) (A B : Dm) : Dm × Nat :=
  if ¬ A.2.1 = B.2.1 then (iv A, 1) else
  if A.2.1 = 1 then (A, 0) else
  if fD A.1 < dgs (tpC dr A.2.2.1 A.2.2.2.1 B.2.2.2.1 A.2.2.2.2) then (iv A, 1) else
  ((A.1, 0, A.2.2.1, B.2.2.2.1, tpC dr A.2.2.1 A.2.2.2.1 B.2.2.2.1 A.2.2.2.2), if tpI A.2.2.2.1 B.2.2.2.1 A.2.2.2.2 then 16 else 0)
theorem cut_le {c : Nat} {p : Int} {m D : Nat} {n : Bool} (hp : 1 ≤ p) (hD : 1 ≤ D) (hc : c < 10 ^ D) : cutV c p false m n < 10 ^ D := by
  unfold cutV
  have h1 : c / 10 ^ p.toNat ≤ c / 10 ^ 1 := Nat.div_le_div_left (pl (by omega)) (by decide)
  have h2 : ∀ b : Bool, b.toNat ≤ 1 := fun b => by cases b <;> decide
  have h3 := h2 (cutI c p false && grw m (dAt c (p - 1)) (false || decide (c % 10 ^ (p - 1).toNat ≠ 0)) (decide (c / 10 ^ p.toNat % 2 = 1)) n)
  obtain ⟨d, hd⟩ : ∃ d, D = d + 1 := ⟨D - 1, by omega⟩
  rw [hd, Nat.pow_succ] at hc ⊢
  have := pp0 d
  omega
theorem qz_F {dr : Nat} {A B : Dm} (vA : ValD A) (vB : ValD B) (hA : A.2.1 < 2) (hB : B.2.1 < 2) : qzR dr A B = qzF dr A B := by
  have bA := Val.b vA
  have bB := Val.b vB
  have cA := vA.2.2.2.1
  have fb := f3b vA.1
  unfold qzR qzF
  by_cases h1 : A.2.1 = 1 ∨ B.2.1 = 1
  · rw [if_pos h1]
    by_cases h2 : A.2.1 = 1 ∧ B.2.1 = 1
    · have g1 : ¬ ¬ A.2.1 = B.2.1 := by omega
      rw [if_pos h2, if_neg g1, if_pos h2.1]
    · have g1 : ¬ A.2.1 = B.2.1 := by omega
      rw [if_neg h2, if_pos g1]
  · have g1 : ¬ ¬ A.2.1 = B.2.1 := by omega
    have g2 : ¬ A.2.1 = 1 := by omega
    have g0 : A.2.1 = 0 := by omega
    rw [if_neg h1, if_neg g1, if_neg g2, g0]
    clear g1 g2 g0 h1
    have eV := tp_V (m := dr) (n := A.2.2.1) (e := A.2.2.2.1) (q := B.2.2.2.1) (c := A.2.2.2.2) (by omega) (by omega)
    have eI := tp_I (e := A.2.2.2.1) (q := B.2.2.2.1) (c := A.2.2.2.2) (by omega) (by omega)
    rw [eI]
    unfold tpC
    rw [eV]
    have hdv : A.2.2.2.2 = 0 → dgs (pV A.2.2.2.1 A.2.2.2.2) = 0 := fun z => by rw [z, pV_0]; exact dgs_0 rfl
    have hdw : 0 < A.2.2.2.2 → dgs (pV A.2.2.2.1 A.2.2.2.2) = dgs A.2.2.2.2 + (12500 + A.2.2.2.1).toNat := fun z => by
      have := dgs_m z (12500 + A.2.2.2.1).toNat 0 (pp0 _)
      rw [Nat.add_zero] at this
      exact this
    have hdl := dgs_le cA
    by_cases h3 : B.2.2.2.1 - A.2.2.2.1 < 0
    · have e1 : cutV A.2.2.2.2 (B.2.2.2.1 - A.2.2.2.1) false dr A.2.2.1 = A.2.2.2.2 := cutV_n (by omega)
      rw [e1]
      rcases Nat.eq_zero_or_pos A.2.2.2.2 with hz | hz
      · have e2 := hdv hz
        rw [hz] at e2 ⊢
        have g3 : ¬ 41 + (12500 + B.2.2.2.1).toNat ≤ 0 := by omega
        have g4 : ¬ fD A.1 < 0 := by omega
        rw [if_neg (fun z => z.2.1 rfl), e2, Nat.zero_mul, if_neg g3, dgs_0 rfl, if_neg g4]
      · have e2 := hdw hz
        have e3 := dgs_m hz (-(B.2.2.2.1 - A.2.2.2.1)).toNat 0 (pp0 _)
        rw [Nat.add_zero] at e3
        by_cases h4 : (fD A.1 : Int) < dgs A.2.2.2.2 - (B.2.2.2.1 - A.2.2.2.1)
        · rw [if_pos ⟨h3, by omega, h4⟩]
          by_cases h5 : 41 + (12500 + B.2.2.2.1).toNat ≤ dgs (pV A.2.2.2.1 A.2.2.2.2)
          · have h6 : dgs (10 ^ 40 - 1) = 40 := (dgs_eq (fun z => by omega) (fun _ => ⟨by decide, by decide⟩) (by decide)).symm
            have g5 : fD A.1 < 40 := by omega
            rw [if_pos h5, h6, if_pos g5]
          · have g5 : fD A.1 < dgs A.2.2.2.2 + (-(B.2.2.2.1 - A.2.2.2.1)).toNat := by omega
            rw [if_neg h5, e3, if_pos g5]
        · have g5 : ¬ 41 + (12500 + B.2.2.2.1).toNat ≤ dgs A.2.2.2.2 + (12500 + A.2.2.2.1).toNat := by omega
          have g6 : ¬ fD A.1 < dgs A.2.2.2.2 + (-(B.2.2.2.1 - A.2.2.2.1)).toNat := by omega
          rw [if_neg (fun z => h4 z.2.2), e2, if_neg g5, e3, if_neg g6]
    · rw [if_neg (fun z => h3 z.1)]
      have h5 : ¬ 41 + (12500 + B.2.2.2.1).toNat ≤ dgs (pV A.2.2.2.1 A.2.2.2.2) := by
        rcases Nat.eq_zero_or_pos A.2.2.2.2 with hz | hz
        · rw [hdv hz]; omega
        · rw [hdw hz]; omega
      have h6 : cutV A.2.2.2.2 (B.2.2.2.1 - A.2.2.2.1) false dr A.2.2.1 < 10 ^ fD A.1 := by
        by_cases hp : 1 ≤ B.2.2.2.1 - A.2.2.2.1
        · exact cut_le hp (by omega) cA
        · rw [cutV_n (by omega)]; exact cA
      have e7 : (-(B.2.2.2.1 - A.2.2.2.1)).toNat = 0 := by omega
      rw [if_neg h5, e7, Nat.pow_zero, Nat.mul_one]
      have g7 : ¬ fD A.1 < dgs (cutV A.2.2.2.2 (B.2.2.2.1 - A.2.2.2.1) false dr A.2.2.1) := by
        have := dgs_le h6
        omega
      rw [if_neg g7]
/-- to a whole number -/
noncomputable def mwF (m : Nat) (A : Dm) : Dm × Bool := if A.2.1 = 1 ∨ 0 ≤ A.2.2.2.1 then (A, false) else ((A.1, 0, A.2.2.1, 0, tpC m A.2.2.1 A.2.2.2.1 0 A.2.2.2.2), tpI A.2.2.2.1 0 A.2.2.2.2)
theorem tpC_0 {m : Nat} {A : Dm} (vA : ValD A) (he : A.2.2.2.1 ≤ 0) : tpC m A.2.2.1 A.2.2.2.1 0 A.2.2.2.2 = cutV A.2.2.2.2 (-A.2.2.2.1) false m A.2.2.1 := by
  have bA := Val.b vA
  have hdl := dgs_le (Val.c34 vA)
  have eV := tp_V (m := m) (n := A.2.2.1) (e := A.2.2.2.1) (q := 0) (c := A.2.2.2.2) (by omega) (by omega)
  unfold tpC
  rw [if_neg, eV, show (-(0 - A.2.2.2.1)).toNat = 0 by omega, Nat.pow_zero, Nat.mul_one, Int.zero_sub]
  rcases Nat.eq_zero_or_pos A.2.2.2.2 with hz | hz
  · rw [hz, pV_0, dgs_0 rfl]; omega
  · have := dgs_m hz (12500 + A.2.2.2.1).toNat 0 (pp0 _)
    rw [Nat.add_zero] at this
    unfold pV
    rw [this]
    omega
theorem mw_F {m : Nat} {A : Dm} (vA : ValD A) (hA : A.2.1 < 2) : mwR m A = mwF m A := by
  have bA := Val.b vA
  have eI := tp_I (e := A.2.2.2.1) (q := 0) (c := A.2.2.2.2) (by omega) (by omega)
  rw [Int.zero_sub] at eI
  unfold mwR mwF
  by_cases h : A.2.1 = 0 ∧ A.2.2.2.1 < 0
  · rw [if_pos h, if_neg (by omega), eI, tpC_0 vA (by omega), h.1]
  · rw [if_neg h, if_pos (by omega)]
