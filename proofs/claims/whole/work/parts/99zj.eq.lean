/-! ===== the class's results are the reference's: neighbours, orders ===== -/
def sOF (d : Dm) : Dm := if d.2.2.2.2 + 1 = 10 ^ fD d.1 then (if gE d.1 < d.2.2.2.1 + 1 then (d.1, 1, d.2.2.1, 0, 0) else (d.1, d.2.1, d.2.2.1, d.2.2.2.1 + 1, 10 ^ (fD d.1 - 1))) else (d.1, d.2.1, d.2.2.1, d.2.2.2.1, d.2.2.2.2 + 1)
def sIF (d : Dm) : Dm := if d.2.2.2.2 = 10 ^ (fD d.1 - 1) ∧ -(fB d.1 : Int) < d.2.2.2.1 then (d.1, d.2.1, d.2.2.1, d.2.2.2.1 - 1, 10 ^ fD d.1 - 1) else (d.1, d.2.1, d.2.2.1, d.2.2.2.1, d.2.2.2.2 - 1)
noncomputable def nxQ (A : Dm) : Int := max (-(fB A.1 : Int)) ((dgs (pV A.2.2.2.1 A.2.2.2.2) : Int) - 12500 - fD A.1)
noncomputable def nxF (A : Dm) (up : Bool) : Dm :=
  if A.2.1 = 1 then (if A.2.2.1 = up then (A.1, 0, A.2.2.1, gE A.1, 10 ^ fD A.1 - 1) else (A.1, 1, A.2.2.1, 0, 0)) else
  if A.2.1 = 0 ∧ A.2.2.2.2 = 0 then (A.1, 0, !up, -(fB A.1 : Int), 1) else
  if ¬ A.2.2.1 = up then sOF (A.1, 0, A.2.2.1, nxQ A, pV A.2.2.2.1 A.2.2.2.2 / 10 ^ (12500 + nxQ A).toNat) else sIF (A.1, 0, A.2.2.1, nxQ A, pV A.2.2.2.1 A.2.2.2.2 / 10 ^ (12500 + nxQ A).toNat)
theorem nxQ_e {A : Dm} (vA : ValD A) (hc : 0 < A.2.2.2.2) : nxQ A = A.2.2.2.1 - nxP A ∧ 0 ≤ nxP A ∧ pV A.2.2.2.1 A.2.2.2.2 / 10 ^ (12500 + nxQ A).toNat = A.2.2.2.2 * 10 ^ (nxP A).toNat ∧ (-(fB A.1 : Int) < nxQ A → 10 ^ (fD A.1 - 1) ≤ A.2.2.2.2 * 10 ^ (nxP A).toNat) ∧ A.2.2.2.2 * 10 ^ (nxP A).toNat < 10 ^ fD A.1 ∧ nxQ A ≤ gE A.1 ∧ -(fB A.1 : Int) ≤ nxQ A := by
  have bA := Val.b vA
  have vb := vA.2.2.1
  have fb := f3b vA.1
  have dl := dgs_le vA.2.2.2.1
  have dp := dgs_p hc
  have e := dgs_m hc (12500 + A.2.2.2.1).toNat 0 (pp0 _)
  rw [Nat.add_zero] at e
  have e2 : dgs (pV A.2.2.2.1 A.2.2.2.2) = dgs A.2.2.2.2 + (12500 + A.2.2.2.1).toNat := e
  have hP : nxP A = min ((fD A.1 : Int) - dgs A.2.2.2.2) (A.2.2.2.1 + fB A.1) := rfl
  have hQ : nxQ A = max (-(fB A.1 : Int)) ((dgs (pV A.2.2.2.1 A.2.2.2.2) : Int) - 12500 - fD A.1) := rfl
  rw [e2] at hQ
  have e3 := dgs_m hc (nxP A).toNat 0 (pp0 _)
  rw [Nat.add_zero] at e3
  refine ⟨by omega, by omega, ?_, fun h => ?_, ?_, by omega, by omega⟩
  · unfold pV
    rw [show (12500 + A.2.2.2.1).toNat = (nxP A).toNat + (12500 + nxQ A).toNat by omega, Nat.pow_add, ← Nat.mul_assoc, Nat.mul_div_cancel _ (pp0 _)]
  · have := (dgs_p (Nat.mul_pos hc (pp0 (nxP A).toNat))).2
    rw [e3, show dgs A.2.2.2.2 + (nxP A).toNat - 1 = fD A.1 - 1 by omega] at this
    exact this
  · have := dgs_l (A.2.2.2.2 * 10 ^ (nxP A).toNat)
    rw [e3] at this
    exact Nat.lt_of_lt_of_le this (pl (by omega))
theorem sOu_F {d : Dm} (hf : d.1 < 3) (hc : d.2.2.2.2 < 10 ^ fD d.1) (hg : d.2.2.2.1 ≤ gE d.1) : sOu d = sOF d := by
  have fb := f3b hf
  unfold sOu sOu1 sOF
  by_cases h : d.2.2.2.2 + 1 = 10 ^ fD d.1
  · have g1 : fD d.1 < dgs (d.2.2.2.2 + 1) := dgs_gt (Nat.le_of_eq h.symm)
    have e : (d.2.2.2.2 + 1) / 10 = 10 ^ (fD d.1 - 1) := by
      rw [h]
      obtain ⟨k, hk⟩ : ∃ k, fD d.1 = k + 1 := ⟨fD d.1 - 1, by omega⟩
      rw [hk, Nat.pow_succ, Nat.mul_div_cancel _ (by decide), Nat.add_sub_cancel]
    rw [if_pos g1, if_pos h, e]
  · have g1 : ¬ fD d.1 < dgs (d.2.2.2.2 + 1) := by
      have := dgs_le (v := d.2.2.2.2 + 1) (k := fD d.1) (by omega)
      omega
    have g2 : ¬ gE d.1 < d.2.2.2.1 := by omega
    rw [if_neg g1, if_neg h]
    exact if_neg g2
theorem sIn_F {d : Dm} (hf : d.1 < 3) (h0 : 0 < d.2.2.2.2) (hg : -(fB d.1 : Int) < d.2.2.2.1 → 10 ^ (fD d.1 - 1) ≤ d.2.2.2.2) : sIn d = sIF d := by
  have fb := f3b hf
  unfold sIn sIF
  by_cases h : d.2.2.2.2 = 10 ^ (fD d.1 - 1) ∧ -(fB d.1 : Int) < d.2.2.2.1
  · have g1 : dgs (d.2.2.2.2 - 1) < fD d.1 := by
      have := dgs_le (v := d.2.2.2.2 - 1) (k := fD d.1 - 1) (by omega)
      omega
    rw [if_pos ⟨g1, h.2⟩, if_pos h]
    have e : (d.2.2.2.2 - 1) * 10 + 9 = 10 ^ fD d.1 - 1 := by
      obtain ⟨k, hk⟩ : ∃ k, fD d.1 = k + 1 := ⟨fD d.1 - 1, by omega⟩
      rw [h.1, hk, Nat.pow_succ, Nat.add_sub_cancel]
      have := pp0 k
      omega
    rw [e]
  · have g1 : ¬ (dgs (d.2.2.2.2 - 1) < fD d.1 ∧ -(fB d.1 : Int) < d.2.2.2.1) := by
      intro z
      refine h ⟨?_, z.2⟩
      have h1 := hg z.2
      refine Nat.le_antisymm (Nat.le_of_not_lt fun y => ?_) h1
      have := dgs_gt (v := d.2.2.2.2 - 1) (k := fD d.1 - 1) (by omega)
      omega
    rw [if_neg g1, if_neg h]
theorem nx_F {A : Dm} (vA : ValD A) (hA : A.2.1 < 2) (up : Bool) : nxR A (!up) = nxF A up := by
  unfold nxR nxF
  have hb : (¬ A.2.2.1 = !up) ↔ (A.2.2.1 = up) := by cases A.2.2.1 <;> cases up <;> simp
  by_cases h1 : A.2.1 = 1
  · rw [if_pos h1, if_pos h1]
    by_cases h2 : A.2.2.1 = up
    · rw [if_pos (hb.mpr h2), if_pos h2]
    · rw [if_neg (fun z => h2 (hb.mp z)), if_neg h2]
      have e4 : A.2.2.2.1 = 0 := by rcases vA.2.2.2.2.1 with z | z <;> omega
      have e5 := vA.2.2.2.2.2.1 h1
      have : A = (A.1, A.2.1, A.2.2.1, A.2.2.2.1, A.2.2.2.2) := rfl
      rw [this, h1, e4, e5]
  · rw [if_neg h1, if_neg h1]
    by_cases h2 : A.2.1 = 0 ∧ A.2.2.2.2 = 0
    · rw [if_pos h2, if_pos h2, h2.1]
    · have h0 : A.2.1 = 0 := by omega
      have hc : 0 < A.2.2.2.2 := by omega
      obtain ⟨q1, q2, q3, q4, q5, q6, q7⟩ := nxQ_e vA hc
      rw [if_neg h2, if_neg h2, h0, ← q1, q3]
      by_cases h3 : A.2.2.1 = up
      · have g : ¬ ¬ A.2.2.1 = up := fun z => z h3
        rw [if_pos (hb.mpr h3), if_neg g]
        exact sIn_F vA.1 (Nat.mul_pos hc (pp0 _)) q4
      · rw [if_neg (fun z => h3 (hb.mp z)), if_pos h3]
        exact sOu_F vA.1 q5 q6
/-! orders -/
def tpD (c : Nat) (d : Nat) : Nat := c * 10 ^ (40 - d)
theorem cmp_s {x y k : Nat} : cmpI ((x * 10 ^ k : Nat) : Int) ((y * 10 ^ k : Nat) : Int) = cmpI (x : Int) (y : Int) := by
  have hp := pp0 k
  unfold cmpI
  rcases Nat.lt_trichotomy x y with h | h | h
  · have := Nat.mul_lt_mul_of_pos_right h hp
    rw [if_pos (by omega), if_pos (by omega)]
  · rw [h]
    simp
  · have := Nat.mul_lt_mul_of_pos_right h hp
    rw [if_neg (by omega), if_neg (by omega), if_neg (by omega), if_neg (by omega)]
theorem szs_t {ea eb : Int} {ca cb : Nat} (h : ea + dgs ca = eb + dgs cb) (h1 : dgs ca ≤ 40) (h2 : dgs cb ≤ 40) : cmpI (ca * 10 ^ (ea - eb).toNat : Nat) (cb * 10 ^ (eb - ea).toNat : Nat) = cmpI (tpD ca (dgs ca) : Nat) (tpD cb (dgs cb) : Nat) := by
  unfold tpD
  by_cases hl : eb ≤ ea
  · have := cmp_s (x := ca * 10 ^ (ea - eb).toNat) (y := cb * 10 ^ (eb - ea).toNat) (k := 40 - dgs cb)
    rw [← this, show (eb - ea).toNat = 0 by omega, Nat.pow_zero, Nat.mul_one, Nat.mul_assoc, ← Nat.pow_add, show (ea - eb).toNat + (40 - dgs cb) = 40 - dgs ca by omega]
  · have := cmp_s (x := ca * 10 ^ (ea - eb).toNat) (y := cb * 10 ^ (eb - ea).toNat) (k := 40 - dgs ca)
    rw [← this, show (ea - eb).toNat = 0 by omega, Nat.pow_zero, Nat.mul_one, Nat.mul_assoc cb, ← Nat.pow_add, show (eb - ea).toNat + (40 - dgs ca) = 40 - dgs cb by omega]
/-- digits from the top -/
theorem tpD_d {c k : Nat} (hk : 1 ≤ k) (hk2 : k ≤ 40) (hd : dgs c ≤ 40) : tpD c (dgs c) / 10 ^ (40 - k) % 10 = atD c ((dgs c : Int) - k) := by
  unfold tpD atD
  by_cases h : (dgs c : Int) - k < 0
  · rw [if_pos h]
    have e : (10 : Nat) ^ (40 - dgs c) = 10 ^ (k - dgs c - 1) * 10 * 10 ^ (40 - k) := by rw [← Nat.pow_succ, ← Nat.pow_add]; congr 1; omega
    rw [e, ← Nat.mul_assoc, Nat.mul_div_cancel _ (pp0 _), ← Nat.mul_assoc, Nat.mul_mod_left]
  · rw [if_neg h]
    have e : (10 : Nat) ^ (40 - k) = 10 ^ ((dgs c : Int) - k).toNat * 10 ^ (40 - dgs c) := by rw [← Nat.pow_add]; congr 1; omega
    rw [e, Nat.mul_div_mul_right _ _ (pp0 _)]
theorem tpD_b {c : Nat} (hd : dgs c ≤ 40) : tpD c (dgs c) < 10 ^ 40 := by
  have := Nat.mul_lt_mul_of_pos_right (dgs_l c) (pp0 (40 - dgs c))
  rw [← Nat.pow_add, show dgs c + (40 - dgs c) = 40 by omega] at this
  exact this
/-- the first digit that differs -/
theorem dif_c {x y k : Nat} (hx : x < 10 ^ 40) (hy : y < 10 ^ 40) (he : ∀ j, k < j → j < 40 → x / 10 ^ j % 10 = y / 10 ^ j % 10) (hl : x / 10 ^ k % 10 < y / 10 ^ k % 10) : x < y := by
  have ex : x / 10 ^ (k + 1) = y / 10 ^ (k + 1) := by
    refine dg_eq (n := 40) (Nat.lt_of_le_of_lt (Nat.div_le_self _ _) hx) (Nat.lt_of_le_of_lt (Nat.div_le_self _ _) hy) fun j hj => ?_
    rw [Nat.div_div_eq_div_mul, Nat.div_div_eq_div_mul, ← Nat.pow_add]
    by_cases h : k + 1 + j < 40
    · exact he _ (by omega) h
    · rw [dg_z hx (by omega), dg_z hy (by omega)]
  have a := d3 x k
  have b := d3 y k
  rw [ex] at a
  have h1 := Nat.mod_lt x (pp0 k)
  have h2 : (x / 10 ^ k % 10 + 1) * 10 ^ k ≤ y / 10 ^ k % 10 * 10 ^ k := Nat.mul_le_mul_right _ hl
  rw [Nat.add_mul, Nat.one_mul] at h2
  omega
theorem cmp_l {x y : Nat} (h : x < y) : cmpI (x : Int) (y : Int) = -1 := if_pos (by omega)
theorem cmp_g {x y : Nat} (h : y < x) : cmpI (x : Int) (y : Int) = 1 := by unfold cmpI; rw [if_neg (by omega), if_neg (by omega)]
theorem cmp_e {x y : Nat} (h : x = y) : cmpI (x : Int) (y : Int) = 0 := by unfold cmpI; rw [if_neg (by omega), if_pos (by omega)]
/-- the reference's order of values -/
noncomputable def orF (A B : Dm) : Int :=
  if (A.2.1 = 0 ∧ A.2.2.2.2 = 0) ∧ (B.2.1 = 0 ∧ B.2.2.2.2 = 0) then 0 else
  if A.2.1 = 0 ∧ A.2.2.2.2 = 0 then (if B.2.2.1 then 1 else -1) else
  if (B.2.1 = 0 ∧ B.2.2.2.2 = 0) ∨ ¬ A.2.2.1 = B.2.2.1 then (if A.2.2.1 then -1 else 1) else
  if A.2.2.1 then -(szD A B) else szD A B
theorem or_F {A B : Dm} (hA : A.2.1 < 2) (hB : B.2.1 < 2) : vlD A B = orF A B := by
  unfold vlD vls orF
  by_cases h1 : (A.2.1 = 0 ∧ A.2.2.2.2 = 0) ∧ (B.2.1 = 0 ∧ B.2.2.2.2 = 0)
  · rw [if_pos h1, if_pos h1]
  · rw [if_neg h1, if_neg h1]
    have cc : cmpI (0 : Int) 1 = -1 := rfl
    have cd : cmpI (1 : Int) 0 = 1 := rfl
    by_cases h2 : A.2.1 = 0 ∧ A.2.2.2.2 = 0
    · rw [if_pos h2]
      have hz : szs A.2.1 A.2.2.2.1 A.2.2.2.2 B.2.1 B.2.2.2.1 B.2.2.2.2 = -1 := by
        unfold szs
        by_cases h3 : A.2.1 = 1 ∨ B.2.1 = 1
        · rw [if_pos h3, h2.1, show B.2.1 = 1 by omega]
          rfl
        · have h4 : ¬ B.2.2.2.2 = 0 := by omega
          rw [if_neg h3, if_pos (Or.inl h2.2), if_pos h2.2, if_neg h4]
          rfl
      rw [hz]
      cases A.2.2.1 <;> cases B.2.2.1 <;> rfl
    · rw [if_neg h2]
      by_cases h3 : B.2.1 = 0 ∧ B.2.2.2.2 = 0
      · have hz : szs A.2.1 A.2.2.2.1 A.2.2.2.2 B.2.1 B.2.2.2.1 B.2.2.2.2 = 1 := by
          unfold szs
          by_cases h4 : A.2.1 = 1 ∨ B.2.1 = 1
          · rw [if_pos h4, h3.1, show A.2.1 = 1 by omega]
            rfl
          · have h5 : ¬ A.2.2.2.2 = 0 := by omega
            rw [if_neg h4, if_pos (Or.inr h3.2), if_pos h3.2, if_neg h5]
            rfl
        rw [hz, if_pos (Or.inl h3)]
        cases A.2.2.1 <;> cases B.2.2.1 <;> rfl
      · by_cases h4 : A.2.2.1 = B.2.2.1
        · have g : ¬ ((B.2.1 = 0 ∧ B.2.2.2.2 = 0) ∨ ¬ A.2.2.1 = B.2.2.1) := fun z => z.elim h3 (fun y => y h4)
          rw [if_neg g, if_neg (fun z => z h4)]
          rfl
        · rw [if_pos (Or.inr h4), if_pos h4]
