/-! ===== the class's results are the reference's: remainder, root ===== -/
theorem rr_id {dr : Nat} {A : Dm} (v : ValD A) (h0 : A.2.1 = 0) : rr A.1 dr A.2.2.1 A.2.2.1 false A.2.2.2.1 (pV A.2.2.2.1 A.2.2.2.2) = (A, 0) := by
  have b := Val.b v
  have d := dgs_le v.2.2.2.1
  have gb := v.2.2.1
  have e : rRn2 A.1 dr A.2.2.1 false A.2.2.2.1 A.2.2.2.1 A.2.2.2.2 = (0, A.2.2.2.1, A.2.2.2.2, 0) := by
    by_cases hc : A.2.2.2.2 = 0
    · rw [hc, rRn2_z, if_neg (by omega), if_neg (by omega)]
    · have hq : rQ A.1 A.2.2.2.1 A.2.2.2.2 ≤ A.2.2.2.1 := by unfold rQ; omega
      have ht : A.2.2.2.1 ≤ rTo A.1 A.2.2.2.1 A.2.2.2.2 := by unfold rTo; omega
      have hE : rEx A.1 A.2.2.2.1 A.2.2.2.1 A.2.2.2.2 = A.2.2.2.1 := by
        unfold rEx
        rw [if_neg (by omega), if_neg (by omega)]
      rw [rRn2_x (Nat.pos_of_ne_zero hc) (by omega), hE, Int.sub_self]
      show (0, A.2.2.2.1, A.2.2.2.2 * 10 ^ 0 / 10 ^ 0, 0) = _
      rw [Nat.pow_zero, Nat.mul_one, Nat.div_one]
  unfold rr
  rw [← rRn2_p (by omega), e, ite_self, ← h0]
def rmN (eA eB : Int) (cA : Nat) : Nat := cA * 10 ^ (eA - min eA eB).toNat
def rmP (eA eB : Int) (cB : Nat) : Nat := cB * 10 ^ (eB - min eA eB).toNat
def rmU (N P : Nat) : Bool := decide (P < 2 * (N % P) ∨ (2 * (N % P) = P ∧ N / P % 2 = 1))
def rmR (N P : Nat) : Nat := if rmU N P then P - N % P else N % P
noncomputable def reF (dr : Nat) (A B : Dm) : Dm × Nat :=
  if A.2.1 = 1 ∨ (B.2.1 = 0 ∧ B.2.2.2.2 = 0) then (iv A, 1) else
  if B.2.1 = 1 ∨ 80 < B.2.2.2.1 - A.2.2.2.1 then rr A.1 dr A.2.2.1 A.2.2.1 false (if B.2.1 = 1 then A.2.2.2.1 else min A.2.2.2.1 B.2.2.2.1) (pV A.2.2.2.1 A.2.2.2.2) else
  rr A.1 dr A.2.2.1 (if rmU (rmN A.2.2.2.1 B.2.2.2.1 A.2.2.2.2) (rmP A.2.2.2.1 B.2.2.2.1 B.2.2.2.2) then !A.2.2.1 else A.2.2.1) false (min A.2.2.2.1 B.2.2.2.1) (pV (min A.2.2.2.1 B.2.2.2.1) (rmR (rmN A.2.2.2.1 B.2.2.2.1 A.2.2.2.2) (rmP A.2.2.2.1 B.2.2.2.1 B.2.2.2.2)))
theorem rd_2 {N P : Nat} (hP : 0 < P) : (P ≤ N % (P + P) → N % P = N % (P + P) - P ∧ N / P % 2 = 1) ∧ (N % (P + P) < P → N % P = N % (P + P) ∧ N / P % 2 = 0) := by
  have hd := Nat.div_add_mod N (P + P)
  have hm := Nat.mod_lt N (show 0 < P + P by omega)
  generalize N / (P + P) = q at *
  generalize N % (P + P) = r at *
  have e : (P + P) * q = P * (2 * q) := by rw [← Nat.two_mul, Nat.mul_comm 2 P, Nat.mul_assoc]
  rw [e] at hd
  refine ⟨fun h => ?_, fun h => ?_⟩
  · have e2 : N = (r - P) + P * (2 * q + 1) := by rw [Nat.mul_add, Nat.mul_one]; omega
    rw [e2, Nat.add_mul_mod_self_left, Nat.add_mul_div_left _ _ hP, Nat.mod_eq_of_lt (by omega), Nat.div_eq_of_lt (by omega)]
    exact ⟨rfl, by omega⟩
  · have e2 : N = r + P * (2 * q) := by omega
    rw [e2, Nat.add_mul_mod_self_left, Nat.add_mul_div_left _ _ hP, Nat.mod_eq_of_lt h, Nat.div_eq_of_lt h]
    exact ⟨rfl, by omega⟩
theorem rdX_e {n : Bool} {cx P : Nat} {p : Int} (hP : 0 < P) : rdX n cx P p = (if rmU (cx * 10 ^ p.toNat) P then !n else n, rmR (cx * 10 ^ p.toNat) P) := by
  have hr : rdr cx P p = cx * 10 ^ p.toNat % (P + P) := rfl
  generalize cx * 10 ^ p.toNat = N at *
  obtain ⟨a1, a2⟩ := rd_2 (N := N) hP
  have es : rds cx P p = N % P := by
    unfold rds
    rw [hr]
    split
    · next h => exact (a1 h).1.symm
    · next h => exact (a2 (by omega)).1.symm
  have eo : (P ≤ rdr cx P p) ↔ N / P % 2 = 1 := by
    rw [hr]
    constructor
    · intro h; exact (a1 h).2
    · intro h
      refine Nat.le_of_not_lt fun z => ?_
      have := (a2 z).2
      omega
  unfold rdX rmR rmU
  rw [es]
  by_cases h : P < N % P + N % P ∨ (N % P + N % P = P ∧ P ≤ rdr cx P p)
  · rw [if_pos h, decide_eq_true (by rw [← eo]; omega), if_pos rfl, if_pos rfl]
  · rw [if_neg h, decide_eq_false (by rw [← eo]; omega)]
    rfl
theorem re_F {dr : Nat} {A B : Dm} (vA : ValD A) (vB : ValD B) (hA : A.2.1 < 2) (hB : B.2.1 < 2) : rdo dr A (reR A B) = reF dr A B := by
  have bA := Val.b vA
  have bB := Val.b vB
  have cA := Val.c34 vA
  have cB := Val.c34 vB
  have fb := f3b vA.1
  unfold reR reF
  by_cases h1 : A.2.1 = 1 ∨ (B.2.1 = 0 ∧ B.2.2.2.2 = 0)
  · rw [if_pos h1, if_pos h1]
    rfl
  · rw [if_neg h1, if_neg h1]
    have hA0 : A.2.1 = 0 := by omega
    by_cases h2 : B.2.1 = 1
    · rw [if_pos h2, if_pos (Or.inl h2), if_pos h2, rr_id vA hA0]
      rfl
    · have hb : 0 < B.2.2.2.2 := by omega
      rw [if_neg h2]
      by_cases h3 : B.2.2.2.1 - A.2.2.2.1 ≤ fD A.1 + 1
      · have e4 : ¬ (B.2.1 = 1 ∨ 80 < B.2.2.2.1 - A.2.2.2.1) := by omega
        rw [if_pos h3, if_neg e4]
        have eP : B.2.2.2.2 * 10 ^ (B.2.2.2.1 - A.2.2.2.1).toNat = rmP A.2.2.2.1 B.2.2.2.1 B.2.2.2.2 := by
          unfold rmP
          congr 2
          omega
        have eN : A.2.2.2.2 * 10 ^ (-(B.2.2.2.1 - A.2.2.2.1)).toNat = rmN A.2.2.2.1 B.2.2.2.1 A.2.2.2.2 := by
          unfold rmN
          congr 2
          omega
        have hP : 0 < rmP A.2.2.2.1 B.2.2.2.1 B.2.2.2.2 := Nat.mul_pos hb (pp0 _)
        have hP144 : rmP A.2.2.2.1 B.2.2.2.1 B.2.2.2.2 < 10 ^ 144 := by
          have h5 : rmP A.2.2.2.1 B.2.2.2.1 B.2.2.2.2 < 10 ^ 34 * 10 ^ (B.2.2.2.1 - min A.2.2.2.1 B.2.2.2.1).toNat := Nat.mul_lt_mul_of_pos_right cB (pp0 _)
          rw [← Nat.pow_add] at h5
          exact Nat.lt_of_lt_of_le h5 (pl (by omega))
        rw [eP, rdX_e hP, eN]
        generalize rmP A.2.2.2.1 B.2.2.2.1 B.2.2.2.2 = P at *
        generalize rmN A.2.2.2.1 B.2.2.2.1 A.2.2.2.2 = N at *
        have hm := Nat.mod_lt N hP
        refine rdo_p vA.1 ?_ (by omega) ?_
        · show rmR N P < _
          unfold rmR
          split <;> omega
        · show rmR N P = 0 → (if rmU N P then !A.2.2.1 else A.2.2.1) = A.2.2.1
          intro hz
          unfold rmR at hz
          by_cases hu : rmU N P = true
          · rw [if_pos hu] at hz
            omega
          · rw [if_neg hu]
      · rw [if_neg h3]
        have hmin : min A.2.2.2.1 B.2.2.2.1 = A.2.2.2.1 := by omega
        rw [rdo_p (zs := A.2.2.1) vA.1 (Nat.lt_of_lt_of_le cA (pl (by decide))) (by omega) (fun _ => rfl)]
        by_cases h4 : 80 < B.2.2.2.1 - A.2.2.2.1
        · rw [if_pos (Or.inr h4), if_neg h2, hmin]
        · have e4 : ¬ (B.2.1 = 1 ∨ 80 < B.2.2.2.1 - A.2.2.2.1) := by omega
          rw [if_neg e4, hmin]
          have eN : rmN A.2.2.2.1 B.2.2.2.1 A.2.2.2.2 = A.2.2.2.2 := by
            unfold rmN
            rw [hmin, Int.sub_self]
            show _ * 10 ^ 0 = _
            rw [Nat.pow_zero, Nat.mul_one]
          have hPb : 10 ^ (fD A.1 + 2) ≤ rmP A.2.2.2.1 B.2.2.2.1 B.2.2.2.2 := by
            unfold rmP
            rw [hmin]
            refine Nat.le_trans (pl (show fD A.1 + 2 ≤ (B.2.2.2.1 - A.2.2.2.1).toNat by omega)) ?_
            exact Nat.le_mul_of_pos_left _ hb
          have hc := vA.2.2.2.1
          rw [Nat.pow_add] at hPb
          rw [eN]
          generalize rmP A.2.2.2.1 B.2.2.2.1 B.2.2.2.2 = P at *
          have hm : A.2.2.2.2 % P = A.2.2.2.2 := Nat.mod_eq_of_lt (by omega)
          have hu : rmU A.2.2.2.2 P = false := by
            unfold rmU
            rw [hm]
            exact decide_eq_false (by omega)
          have hR : rmR A.2.2.2.2 P = A.2.2.2.2 := by
            unfold rmR
            rw [hu, hm]
            rfl
          rw [hu, hR]
          rfl
/-! root -/
def rtM (e : Int) (c : Nat) : Nat := c * 10 ^ ((e % 2).toNat + 80)
noncomputable def roF (dr : Nat) (A : Dm) : Dm × Nat :=
  if A.2.1 = 0 ∧ A.2.2.2.2 = 0 then ((A.1, 0, A.2.2.1, (if A.2.2.2.1 / 2 < -(fB A.1 : Int) then -(fB A.1 : Int) else if gE A.1 < A.2.2.2.1 / 2 then gE A.1 else A.2.2.2.1 / 2), 0), 0) else
  if A.2.2.1 = true then (iv A, 1) else
  if A.2.1 = 1 then (inf A false, 0) else
  rr A.1 dr false false (decide (¬ sq (rtM A.2.2.2.1 A.2.2.2.2) * sq (rtM A.2.2.2.1 A.2.2.2.2) = rtM A.2.2.2.1 A.2.2.2.2)) (A.2.2.2.1 / 2) (pV (A.2.2.2.1 / 2 - 40) (sq (rtM A.2.2.2.1 A.2.2.2.2)))
theorem sq_u {N R : Nat} (h1 : R * R ≤ N) (h2 : N < (R + 1) * (R + 1)) : sq N = R := by
  have a1 := sq_1 N
  have a2 := sq_2 N
  rcases Nat.lt_trichotomy (sq N) R with h | h | h
  · have : (sq N + 1) * (sq N + 1) ≤ R * R := Nat.mul_le_mul h h
    omega
  · exact h
  · have : (R + 1) * (R + 1) ≤ sq N * sq N := Nat.mul_le_mul h h
    omega
/-- a root with more digits -/
theorem sq_m (N k : Nat) : sq (N * 10 ^ (2 * k)) / 10 ^ k = sq N ∧ ((sq N * sq N = N) = (sq (N * 10 ^ (2 * k)) % 10 ^ k = 0 ∧ sq (N * 10 ^ (2 * k)) * sq (N * 10 ^ (2 * k)) = N * 10 ^ (2 * k))) := by
  have hp := pp0 k
  have e2 : 10 ^ (2 * k) = 10 ^ k * 10 ^ k := by rw [← Nat.pow_add]; congr 1; omega
  rw [e2]
  generalize 10 ^ k = T at *
  have a1 := sq_1 (N * (T * T))
  have a2 := sq_2 (N * (T * T))
  generalize hS : sq (N * (T * T)) = S at *
  have hd := Nat.div_add_mod S T
  have hm := Nat.mod_lt S hp
  have hq : sq N = S / T := by
    refine sq_u ?_ ?_
    · have h1 : (S / T * T) * (S / T * T) ≤ N * (T * T) := by
        have : S / T * T ≤ S := Nat.div_mul_le_self S T
        exact Nat.le_trans (Nat.mul_le_mul this this) a1
      have h2 : S / T * T * (S / T * T) = S / T * (S / T) * (T * T) := by ac_rfl
      rw [h2] at h1
      exact Nat.le_of_mul_le_mul_right h1 (Nat.mul_pos hp hp)
    · have h1 : S + 1 ≤ (S / T + 1) * T := by
        rw [Nat.add_mul, Nat.one_mul, Nat.mul_comm]
        omega
      have h2 : N * (T * T) < (S / T + 1) * T * ((S / T + 1) * T) := Nat.lt_of_lt_of_le a2 (Nat.mul_le_mul h1 h1)
      have h3 : (S / T + 1) * T * ((S / T + 1) * T) = (S / T + 1) * (S / T + 1) * (T * T) := by ac_rfl
      rw [h3] at h2
      exact Nat.lt_of_mul_lt_mul_right h2
  refine ⟨hq.symm, propext ⟨fun h => ?_, fun h => ?_⟩⟩
  · have h1 : sq (N * (T * T)) = sq N * T := by
      have e : sq N * T * (sq N * T) = N * (T * T) := by
        have e0 : sq N * T * (sq N * T) = sq N * sq N * (T * T) := by ac_rfl
        rw [e0, h]
      refine sq_u (Nat.le_of_eq e) ?_
      rw [← e]
      have : sq N * T < sq N * T + 1 := Nat.lt_succ_self _
      exact Nat.mul_lt_mul_of_lt_of_le this (Nat.le_of_lt this) (by omega)
    rw [hS] at h1
    rw [h1, Nat.mul_mod_left]
    refine ⟨rfl, ?_⟩
    have e0 : sq N * T * (sq N * T) = sq N * sq N * (T * T) := by ac_rfl
    rw [e0, h]
  · obtain ⟨h1, h2⟩ := h
    rw [h1, Nat.add_zero] at hd
    rw [hq]
    have h3 : S / T * (S / T) * (T * T) = N * (T * T) := by
      have e0 : S / T * (S / T) * (T * T) = T * (S / T) * (T * (S / T)) := by ac_rfl
      rw [← h2, e0, hd]
    exact Nat.eq_of_mul_eq_mul_right (Nat.mul_pos hp hp) h3
theorem ro_F {dr : Nat} {A : Dm} (vA : ValD A) (hA : A.2.1 < 2) : rdo dr A (roR A) = roF dr A := by
  have bA := Val.b vA
  have cA := Val.c34 vA
  have fb := f3b vA.1
  have gb := gEb vA.1
  unfold roR roF
  by_cases h1 : A.2.1 = 0 ∧ A.2.2.2.2 = 0
  · have e1 : ¬ (A.2.2.1 = true ∧ ¬ (A.2.1 = 0 ∧ A.2.2.2.2 = 0)) := fun z => z.2 h1
    rw [if_neg e1, if_neg (by omega), if_pos h1, if_pos h1, h1.2]
    show ((A.1, (rRnd A.1 dr A.2.2.1 false A.2.2.2.1 (A.2.2.2.1 / 2) 0).1, A.2.2.1, (rRnd A.1 dr A.2.2.1 false A.2.2.2.1 (A.2.2.2.1 / 2) 0).2.1, (rRnd A.1 dr A.2.2.1 false A.2.2.2.1 (A.2.2.2.1 / 2) 0).2.2.1), (rRnd A.1 dr A.2.2.1 false A.2.2.2.1 (A.2.2.2.1 / 2) 0).2.2.2) = _
    rw [rRnd_2 vA.1 (pp0 144), rRn2_z]
  · rw [if_neg h1, if_neg h1]
    by_cases h2 : A.2.2.1 = true
    · rw [if_pos ⟨h2, h1⟩, if_pos h2]
      rfl
    · have e1 : ¬ (A.2.2.1 = true ∧ ¬ (A.2.1 = 0 ∧ A.2.2.2.2 = 0)) := fun z => h2 z.1
      rw [if_neg e1, if_neg h2]
      have h2' : A.2.2.1 = false := by simpa using h2
      by_cases h3 : A.2.1 = 1
      · rw [if_pos h3, if_pos h3]
        have e4 : A.2.2.2.1 = 0 := by rcases vA.2.2.2.2.1 with z | z <;> omega
        have e5 := vA.2.2.2.2.2.1 h3
        show (A, 0) = _
        have : A = (A.1, A.2.1, A.2.2.1, A.2.2.2.1, A.2.2.2.2) := rfl
        rw [this, h3, h2', e4, e5]
      · rw [if_neg h3, if_neg h3, h2']
        have ha : 0 < A.2.2.2.2 := by omega
        have dA := dgs_le vA.2.2.2.1
        have pA := dgs_p ha
        unfold rtX rtN
        dsimp only
        have hPd : rtP (fD A.1) A.2.2.2.1 A.2.2.2.2 = if ¬ (A.2.2.2.1 - (2 * ((fD A.1 : Int) + 2) - dgs A.2.2.2.2)) % 2 = 0 then 2 * ((fD A.1 : Int) + 2) - dgs A.2.2.2.2 + 1 else 2 * ((fD A.1 : Int) + 2) - dgs A.2.2.2.2 := rfl
        generalize rtP (fD A.1) A.2.2.2.1 A.2.2.2.2 = P at *
        have hPb : (A.2.2.2.1 - P) % 2 = 0 ∧ 2 * ((fD A.1 : Int) + 2) - dgs A.2.2.2.2 ≤ P ∧ P ≤ 2 * ((fD A.1 : Int) + 2) - dgs A.2.2.2.2 + 1 := by
          rw [hPd]
          split <;> omega
        clear hPd
        obtain ⟨p, hp⟩ : ∃ p : Nat, P = p := ⟨P.toNat, by omega⟩
        subst hp
        rw [Int.toNat_natCast]
        obtain ⟨k, hk⟩ : ∃ k : Nat, (k : Int) = (A.2.2.2.1 - p) / 2 - (A.2.2.2.1 / 2 - 40) := ⟨((A.2.2.2.1 - p) / 2 - (A.2.2.2.1 / 2 - 40)).toNat, by omega⟩
        have hM : rtM A.2.2.2.1 A.2.2.2.2 = A.2.2.2.2 * 10 ^ p * 10 ^ (2 * k) := by
          unfold rtM
          rw [Nat.mul_assoc, ← Nat.pow_add]
          congr 2
          omega
        rw [hM]
        have hdm := dgs_m ha p 0 (pp0 p)
        rw [Nat.add_zero] at hdm
        have hNp := (dgs_p (Nat.mul_pos ha (pp0 p))).2
        have hNl := dgs_l (A.2.2.2.2 * 10 ^ p)
        rw [hdm] at hNp hNl
        generalize hN : A.2.2.2.2 * 10 ^ p = N at *
        obtain ⟨s1, s2⟩ := sq_m N k
        have hcd : fD A.1 < dgs (sq N) := by
          refine dgs_gt (Nat.le_of_not_lt fun z => ?_)
          have h5 : (sq N + 1) * (sq N + 1) ≤ 10 ^ fD A.1 * 10 ^ fD A.1 := Nat.mul_le_mul z z
          rw [← Nat.pow_add] at h5
          have h6 := sq_2 N
          have h7 : 10 ^ (fD A.1 + fD A.1) ≤ 10 ^ (dgs A.2.2.2.2 + p - 1) := pl (by omega)
          omega
        have hlt : sq N < 10 ^ 144 := by
          have h5 := sq_1 N
          have h6 : (10 : Nat) ^ (dgs A.2.2.2.2 + p) ≤ 10 ^ 144 := pl (by omega)
          refine Nat.lt_of_le_of_lt ?_ (Nat.lt_of_lt_of_le hNl h6)
          refine Nat.le_trans ?_ h5
          rcases Nat.eq_zero_or_pos (sq N) with z | z
          · rw [z]; exact Nat.zero_le _
          · exact Nat.le_mul_of_pos_left _ z
        have hd := Nat.div_add_mod (sq (N * 10 ^ (2 * k))) (10 ^ k)
        have hm := Nat.mod_lt (sq (N * 10 ^ (2 * k))) (pp0 k)
        rw [s1, Nat.mul_comm] at hd
        obtain ⟨j, hj⟩ : ∃ j : Nat, (j : Int) = 12500 + (A.2.2.2.1 / 2 - 40) := ⟨(12500 + (A.2.2.2.1 / 2 - 40)).toNat, by omega⟩
        have hV : pV (A.2.2.2.1 / 2 - 40) (sq (N * 10 ^ (2 * k))) = sq N * 10 ^ (k + j) + sq (N * 10 ^ (2 * k)) % 10 ^ k * 10 ^ j := by
          unfold pV
          rw [← hj, Int.toNat_natCast, Nat.pow_add, ← Nat.mul_assoc, ← Nat.add_mul, hd]
        rw [hV]
        generalize hlo : sq (N * 10 ^ (2 * k)) % 10 ^ k = lo at *
        have hl2 : lo * 10 ^ j < 10 ^ (k + j) := by
          rw [Nat.pow_add]
          exact Nat.mul_lt_mul_of_pos_right hm (pp0 j)
        have hco0 : 0 < sq N := Nat.pos_of_ne_zero fun z => by rw [dgs_0 z] at hcd; omega
        have hne : ¬ sq N * 10 ^ (k + j) + lo * 10 ^ j = 0 := by
          have := Nat.mul_pos hco0 (pp0 (k + j))
          omega
        refine rdo_rr (zs := false) (ng' := false) vA.1 hlt ?_ (by rw [if_neg hne])
        have ej : (A.2.2.2.1 - (p : Int)) / 2 - ((k + j : Nat) : Int) = -12500 := by omega
        by_cases hz : sq N * sq N = N
        · have hz2 := hz
          rw [s2] at hz2
          rw [decide_eq_false (fun z => z hz), decide_eq_false (fun z => z hz2.2), hz2.1, Nat.zero_mul, Nat.add_zero]
          have := rRn2_e (c := sq N) A.1 dr (k + j) false ((A.2.2.2.1 - (p : Int)) / 2) (A.2.2.2.1 / 2)
          rw [ej] at this
          exact this.symm
        · have ht := rRn2_t (c := sq N) A.1 dr (k + j) (lo * 10 ^ j) false (decide (¬ sq (N * 10 ^ (2 * k)) * sq (N * 10 ^ (2 * k)) = N * 10 ^ (2 * k))) ((A.2.2.2.1 - (p : Int)) / 2) (A.2.2.2.1 / 2) hl2 (by
            by_cases y : sq (N * 10 ^ (2 * k)) * sq (N * 10 ^ (2 * k)) = N * 10 ^ (2 * k)
            · have hlo0 : ¬ lo = 0 := fun w => hz (by rw [s2]; exact ⟨w, y⟩)
              have := Nat.mul_pos (Nat.pos_of_ne_zero hlo0) (pp0 j)
              rw [decide_eq_true (p := ¬ lo * 10 ^ j = 0) (by omega)]
              rfl
            · rw [decide_eq_true y, Bool.or_true]) hcd
          rw [ej] at ht
          rw [ht, decide_eq_true hz]
