/-! ===== rounding does not look at how a number is written ===== -/
theorem dgs_m {c : Nat} (hc : 0 < c) (j low : Nat) (hl : low < 10 ^ j) : dgs (c * 10 ^ j + low) = dgs c + j := by
  have h1 := dgs_p hc
  have h2 := dgs_l c
  refine (dgs_eq (fun z => ?_) (fun _ => ⟨by omega, ?_⟩) ?_).symm
  · have := Nat.mul_pos hc (pp0 j)
    omega
  · rw [show dgs c + j - 1 = dgs c - 1 + j by omega, Nat.pow_add]
    exact Nat.le_trans (Nat.mul_le_mul_right _ h1.2) (Nat.le_add_right _ _)
  · have h3 : (c + 1) * 10 ^ j ≤ 10 ^ dgs c * 10 ^ j := Nat.mul_le_mul_right _ h2
    rw [Nat.add_mul, Nat.one_mul, ← Nat.pow_add] at h3
    omega
theorem tz_m {c : Nat} (hc : 0 < c) (j : Nat) : tz (c * 10 ^ j) = tz c + j := by
  refine (tz_eq (fun z => ?_) ?_ (fun _ z => ?_)).symm
  · have := Nat.mul_pos hc (pp0 j)
    omega
  · rw [Nat.pow_add]
    exact Nat.mul_dvd_mul_right (tz_d c) _
  · rw [show tz c + j + 1 = tz c + 1 + j by omega, Nat.pow_add] at z
    exact tz_n hc (Nat.dvd_of_mul_dvd_mul_right (pp0 j) z)
/-- a coefficient moved to another exponent -/
theorem mv_e (c j : Nat) (ex E : Int) : c * 10 ^ j * 10 ^ (ex - j - E).toNat / 10 ^ (E - (ex - j)).toNat = c * 10 ^ (ex - E).toNat / 10 ^ (E - ex).toNat := by
  by_cases h1 : ex ≤ E
  · rw [show (ex - j - E).toNat = 0 by omega, show (ex - E).toNat = 0 by omega, show (E - (ex - j)).toNat = (E - ex).toNat + j by omega, Nat.pow_zero, Nat.mul_one, Nat.mul_one, Nat.pow_add, Nat.mul_div_mul_right _ _ (pp0 j)]
  · rw [show (E - ex).toNat = 0 by omega, Nat.pow_zero, Nat.div_one]
    by_cases h2 : ex - j ≤ E
    · rw [show (ex - j - E).toNat = 0 by omega, Nat.pow_zero, Nat.mul_one]
      have : j = (ex - E).toNat + (E - (ex - j)).toNat := by omega
      conv => lhs; lhs; rw [this, Nat.pow_add, ← Nat.mul_assoc]
      exact Nat.mul_div_cancel _ (pp0 _)
    · rw [show (E - (ex - j)).toNat = 0 by omega, Nat.pow_zero, Nat.div_one, Nat.mul_assoc, ← Nat.pow_add]
      congr 2
      omega
theorem rQ_m {c : Nat} (hc : 0 < c) (fm j low : Nat) (ex : Int) (hl : low < 10 ^ j) : rQ fm (ex - j) (c * 10 ^ j + low) = rQ fm ex c := by
  unfold rQ
  rw [dgs_m hc j low hl]
  congr 1
  omega
theorem rTo_m {c : Nat} (hc : 0 < c) (fm j : Nat) (ex : Int) : rTo fm (ex - j) (c * 10 ^ j) = rTo fm ex c := by
  unfold rTo
  rw [tz_m hc j]
  congr 1
  omega
theorem cut_m (c j low : Nat) (mo dr) (ng : Bool) (p : Int) (hp : 1 ≤ p) (hl : low < 10 ^ j) : cutV (c * 10 ^ j + low) (p + j) mo dr ng = cutV c p (decide (¬ low = 0) || mo) dr ng := by
  have e1 : (c * 10 ^ j + low) / 10 ^ (p + j).toNat = c / 10 ^ p.toNat := by
    rw [show (p + j).toNat = j + p.toNat by omega, dgh _ hl (by omega), show j + p.toNat - j = p.toNat by omega]
  have e2 : dAt (c * 10 ^ j + low) (p + j - 1) = dAt c (p - 1) := by
    unfold dAt
    rw [if_neg (by omega), if_neg (by omega), dgh _ hl (by omega), show (p + j - 1).toNat - j = (p - 1).toNat by omega]
  have e3 : (c * 10 ^ j + low) % 10 ^ (p + j - 1).toNat = c % 10 ^ (p - 1).toNat * 10 ^ j + low := by
    have ej : 10 ^ (p + j - 1).toNat = 10 ^ (p - 1).toNat * 10 ^ j := by rw [← Nat.pow_add]; congr 1; omega
    have hm := Nat.mod_lt c (pp0 (p - 1).toNat)
    have h2 : (c % 10 ^ (p - 1).toNat + 1) * 10 ^ j ≤ 10 ^ (p - 1).toNat * 10 ^ j := Nat.mul_le_mul_right _ hm
    rw [Nat.add_mul, Nat.one_mul] at h2
    have hd := Nat.div_add_mod c (10 ^ (p - 1).toNat)
    have hd' : c * 10 ^ j = c / 10 ^ (p - 1).toNat * (10 ^ (p - 1).toNat * 10 ^ j) + c % 10 ^ (p - 1).toNat * 10 ^ j := by
      rw [← Nat.mul_assoc, ← Nat.add_mul, Nat.mul_comm (c / _), hd]
    rw [ej, hd', Nat.add_assoc, Nat.add_comm, Nat.add_mul_mod_self_right, Nat.mod_eq_of_lt (by omega)]
  have e4 : decide (c % 10 ^ (p - 1).toNat * 10 ^ j + low ≠ 0) = (decide (c % 10 ^ (p - 1).toNat ≠ 0) || decide (¬ low = 0)) := by
    have := pp0 j
    by_cases h1 : c % 10 ^ (p - 1).toNat = 0
    · rw [h1, Nat.zero_mul, Nat.zero_add]
      simp
    · have := Nat.mul_pos (Nat.pos_of_ne_zero h1) this
      simp only [ne_eq, h1, not_false_eq_true, decide_true, Bool.true_or, decide_eq_true_eq]
      omega
  unfold cutV cutI
  rw [e1, e2, e3, e4]
  have e5 : (mo || (decide (c % 10 ^ (p - 1).toNat ≠ 0) || decide (¬ low = 0))) = (decide (¬ low = 0) || mo || decide (c % 10 ^ (p - 1).toNat ≠ 0)) := by
    cases mo <;> cases decide (c % 10 ^ (p - 1).toNat ≠ 0) <;> cases decide (¬ low = 0) <;> rfl
  rw [e5]
theorem rIn2_m {c : Nat} (hc : 0 < c) (fm dr j low : Nat) (ng mo : Bool) (ex : Int) (hl : low < 10 ^ j) (hp : ¬ gE fm < rQ fm ex c → ex < rQ fm ex c) : rIn2 fm dr ng mo (ex - j) (c * 10 ^ j + low) = rIn2 fm dr ng (decide (¬ low = 0) || mo) ex c := by
  unfold rIn2
  rw [rQ_m hc fm j low ex hl]
  by_cases h1 : gE fm < rQ fm ex c
  · rw [if_pos h1, if_pos h1]
  · have hpp := hp h1
    rw [if_neg h1, if_neg h1, show rQ fm ex c - (ex - j) = (rQ fm ex c - ex) + j by omega, cut_m c j low mo dr ng _ (by omega) hl, dgs_m hc j low hl]
    rw [show ex - (j : Int) + ((dgs c + j : Nat) : Int) = ex + dgs c by omega]
theorem rRn2_z (fm dr : Nat) (ng : Bool) (ex wi : Int) : rRn2 fm dr ng false ex wi 0 = (0, if wi < -(fB fm : Int) then -(fB fm : Int) else if gE fm < wi then gE fm else wi, 0, 0) := if_pos ⟨rfl, rfl⟩
theorem rRn2_x {fm dr c : Nat} {ng : Bool} {ex wi : Int} (hc : 0 < c) (h : rQ fm ex c ≤ rTo fm ex c) : rRn2 fm dr ng false ex wi c = (0, rEx fm ex wi c, c * 10 ^ (ex - rEx fm ex wi c).toNat / 10 ^ (rEx fm ex wi c - ex).toNat, 0) := by
  unfold rRn2
  rw [if_neg (c := c = 0 ∧ false = false) (fun z => by have := z.1; omega), if_pos (c := false = false ∧ rQ fm ex c ≤ rTo fm ex c) ⟨rfl, h⟩]
theorem rRn2_i {fm dr c : Nat} {ng mo : Bool} {ex wi : Int} (hc : 0 < c ∨ mo = true) (h : mo = false → rTo fm ex c < rQ fm ex c) : rRn2 fm dr ng mo ex wi c = rIn2 fm dr ng mo ex c := by
  unfold rRn2
  rw [if_neg (c := c = 0 ∧ mo = false), if_neg (c := mo = false ∧ rQ fm ex c ≤ rTo fm ex c)]
  · intro z
    have := h z.1
    omega
  · intro z
    rcases hc with h | h
    · omega
    · rw [h] at z
      exact nomatch z.2
/-- exact numbers -/
theorem rRn2_e {c : Nat} (fm dr j : Nat) (ng : Bool) (ex wi : Int) : rRn2 fm dr ng false (ex - j) wi (c * 10 ^ j) = rRn2 fm dr ng false ex wi c := by
  by_cases hc : c = 0
  · subst hc
    rw [Nat.zero_mul, rRn2_z, rRn2_z]
  · have hc0 := Nat.pos_of_ne_zero hc
    have hV := Nat.mul_pos hc0 (pp0 j)
    have eQ := rQ_m hc0 fm j 0 ex (pp0 j)
    rw [Nat.add_zero] at eQ
    have eT := rTo_m hc0 fm j ex
    have eE : rEx fm (ex - j) wi (c * 10 ^ j) = rEx fm ex wi c := by unfold rEx; rw [eQ, eT]
    by_cases h : rQ fm ex c ≤ rTo fm ex c
    · rw [rRn2_x hV (by rw [eQ, eT]; exact h), rRn2_x hc0 h, eE, mv_e]
    · rw [rRn2_i (Or.inl hV) (fun _ => by rw [eQ, eT]; omega), rRn2_i (Or.inl hc0) (fun _ => by omega)]
      have := rIn2_m hc0 fm dr j 0 ng false ex (pp0 j) (fun hg => by unfold rTo at h; omega)
      rw [Nat.add_zero] at this
      exact this
/-- a trace below -/
theorem rRn2_t {c : Nat} (fm dr j low : Nat) (ng mo : Bool) (ex wi : Int) (hl : low < 10 ^ j) (hm : (decide (¬ low = 0) || mo) = true) (hd : fD fm < dgs c) : rRn2 fm dr ng mo (ex - j) wi (c * 10 ^ j + low) = rRn2 fm dr ng true ex wi c := by
  have hc0 : 0 < c := Nat.pos_of_ne_zero fun z => by rw [dgs_0 z] at hd; omega
  have hq : ex < rQ fm ex c := by unfold rQ; omega
  have hV : ¬ c * 10 ^ j + low = 0 := by have := Nat.mul_pos hc0 (pp0 j); omega
  have e := rIn2_m hc0 fm dr j low ng mo ex hl (fun _ => hq)
  rw [hm] at e
  rw [rRn2_i (mo := true) (Or.inl hc0) (fun z => nomatch z), ← e]
  refine rRn2_i (Or.inl (Nat.pos_of_ne_zero hV)) fun z1 => ?_
  rw [z1, Bool.or_false] at hm
  have hl0 := of_decide_eq_true hm
  rw [rQ_m hc0 fm j low ex hl]
  -- zeros at the end are fewer than j
  have ht : tz (c * 10 ^ j + low) < j := by
    refine Nat.lt_of_not_le fun z => hl0 ?_
    have h1 : 10 ^ j ∣ c * 10 ^ j + low := Nat.dvd_trans (Nat.pow_dvd_pow 10 z) (tz_d _)
    have h2 : 10 ^ j ∣ low := (Nat.dvd_add_right (Nat.dvd_mul_left _ _)).mp h1
    exact Nat.eq_zero_of_dvd_of_lt h2 hl
  unfold rTo
  omega
/-- the class's rounding is the same -/
theorem cut_200 {c : Nat} (p : Int) (mo : Bool) (dr : Nat) (ng : Bool) (hc : c < 10 ^ 144) : cutV c (min p 200) mo dr ng = cutV c p mo dr ng := by
  by_cases h : p ≤ 200
  · rw [show min p 200 = p by omega]
  · rw [show min p 200 = 200 by omega]
    have e : ∀ k : Nat, 144 ≤ k → c / 10 ^ k = 0 ∧ c % 10 ^ k = c := fun k hk => by
      have := Nat.lt_of_lt_of_le hc (pl hk)
      exact ⟨Nat.div_eq_of_lt this, Nat.mod_eq_of_lt this⟩
    unfold cutV cutI dAt
    rw [if_neg (by omega), if_neg (by omega), (e p.toNat (by omega)).1, (e (p - 1).toNat (by omega)).1, (e (p - 1).toNat (by omega)).2, (e (200 : Int).toNat (by decide)).1, (e ((200 : Int) - 1).toNat (by decide)).1, (e ((200 : Int) - 1).toNat (by decide)).2]
theorem rInx_2 {fm dr c : Nat} {ng mo : Bool} {ex : Int} (hf : fm < 3) (hc : c < 10 ^ 144) : rInx fm dr ng mo ex c = rIn2 fm dr ng mo ex c := by
  have fb := f3b hf
  unfold rInx rIn2
  rw [cut_200 _ mo dr ng hc]
  by_cases h1 : gE fm < rQ fm ex c
  · rw [if_pos h1, if_pos h1]
  · rw [if_neg h1, if_neg h1]
    by_cases h2 : fD fm < dgs (cutV c (rQ fm ex c - ex) mo dr ng)
    · rw [if_pos h2, if_pos h2]
      by_cases h3 : gE fm < rQ fm ex c + 1
      · rw [if_pos h3, if_pos h3]
      · rw [if_neg h3, if_neg h3]
        have hq : rQ fm ex c = max (ex + dgs c - fD fm) (-(fB fm : Int)) := rfl
        have hl : c / 10 ^ (rQ fm ex c - ex).toNat < 10 ^ fD fm := by
          by_cases hp : 0 ≤ rQ fm ex c - ex
          · exact dgs_pr (by omega)
          · rw [show (rQ fm ex c - ex).toNat = 0 by omega, Nat.pow_zero, Nat.div_one]
            exact Nat.lt_of_lt_of_le (dgs_l c) (pl (by omega))
        have hge : 10 ^ fD fm ≤ cutV c (rQ fm ex c - ex) mo dr ng := by
          refine Nat.le_of_not_lt fun z => ?_
          have := dgs_le z
          omega
        have hle : cutV c (rQ fm ex c - ex) mo dr ng ≤ c / 10 ^ (rQ fm ex c - ex).toNat + 1 := by
          unfold cutV
          exact Nat.add_le_add_left (Bool.toNat_le _) _
        have e : cutV c (rQ fm ex c - ex) mo dr ng / 10 = 10 ^ (fD fm - 1) := by
          rw [show cutV c (rQ fm ex c - ex) mo dr ng = 10 ^ fD fm by omega]
          obtain ⟨d, hd⟩ : ∃ d, fD fm = d + 1 := ⟨fD fm - 1, by omega⟩
          rw [hd, Nat.pow_succ, Nat.mul_div_cancel _ (by decide), Nat.add_sub_cancel]
        rw [e]
    · rw [if_neg h2, if_neg h2]
theorem rRnd_2 {fm dr c : Nat} {ng mo : Bool} {ex wi : Int} (hf : fm < 3) (hc : c < 10 ^ 144) : rRnd fm dr ng mo ex wi c = rRn2 fm dr ng mo ex wi c := by
  have gb := gEb hf
  have fb := f3b hf
  cases mo
  · unfold rRnd
    rw [if_neg (by decide)]
    by_cases h0 : c = 0
    · subst h0
      rw [if_pos rfl, rRn2_z]
      congr 2
      split
      · omega
      · split <;> omega
    · rw [if_neg h0]
      have hp := Nat.pos_of_ne_zero h0
      obtain ⟨c', hc'⟩ := tz_d c
      have hc0 : 0 < c' := Nat.pos_of_ne_zero fun z => by rw [z, Nat.mul_zero] at hc'; exact h0 hc'
      have ec : c / 10 ^ tz c = c' := by conv => lhs; lhs; rw [hc']
                                         exact Nat.mul_div_cancel_left _ (pp0 _)
      have hlt : c' < 10 ^ 144 := by rw [← ec]; exact Nat.lt_of_le_of_lt (Nat.div_le_self _ _) hc
      rw [ec]
      generalize hz : tz c = z at *
      have eV : c = c' * 10 ^ z := by rw [Nat.mul_comm]; exact hc'
      have eR := rRn2_e (c := c') fm dr z ng (ex + z) wi
      rw [← eV, show ex + (z : Int) - z = ex by omega] at eR
      have ht : tz c' = 0 := by
        have := tz_m hc0 z
        rw [← eV, hz] at this
        omega
      rw [eR]
      have eT : rTo fm (ex + z) c' = min (ex + z) (gE fm) := by
        unfold rTo
        rw [ht]
        omega
      have eQ : rQ fm (ex + z) c' = max (ex + z - (fD fm - dgs c')) (-(fB fm : Int)) := by
        unfold rQ
        congr 1
        omega
      rw [← eT, ← eQ, rInx_2 hf hlt]
      by_cases h : rQ fm (ex + z) c' ≤ rTo fm (ex + z) c'
      · rw [if_neg, rRn2_x hc0 h]
        · have eE : max (rQ fm (ex + z) c') (min wi (rTo fm (ex + z) c')) = rEx fm (ex + z) wi c' := by
            unfold rEx
            split
            · omega
            · split <;> omega
          rw [eE]
          have hE : rEx fm (ex + z) wi c' ≤ ex + z := by rw [← eE]; omega
          rw [show (rEx fm (ex + z) wi c' - (ex + z)).toNat = 0 by omega, Nat.pow_zero, Nat.div_one]
        · omega
      · rw [if_pos (by omega), rRn2_i (Or.inl hc0) (fun _ => by omega)]
  · unfold rRnd
    rw [if_pos rfl, rInx_2 hf hc, rRn2_i (Or.inr rfl) (fun z => nomatch z)]
