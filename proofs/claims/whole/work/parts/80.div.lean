/-! ===== Divider: the numbers of a step ===== -/
theorem nrm {t d b : Nat} (hb : b = 1000000000) (h1 : 1 ≤ t) (h2 : t < b) (hd : d = b / (t + 1)) : 500000000 ≤ t * d ∧ 1 ≤ d ∧ d ≤ 500000000 ∧ (t + 1) * d ≤ b := by
  subst hb
  have hm := Nat.div_add_mod 1000000000 (t + 1)
  have hl : 1000000000 % (t + 1) < t + 1 := Nat.mod_lt _ (by omega)
  rw [← hd] at hm
  have hd1 : 1 ≤ d := by rw [hd]; exact Nat.div_pos (by omega) (by omega)
  have hd2 : d ≤ 500000000 := by rw [hd]; exact Nat.le_trans (Nat.div_le_div_left (show 2 ≤ t + 1 by omega) (by decide)) (by decide)
  refine ⟨?_, hd1, hd2, by omega⟩
  rw [Nat.add_mul, Nat.one_mul] at hm
  by_cases hc : 500000000 ≤ t
  · exact Nat.le_trans hc (Nat.le_mul_of_pos_right t hd1)
  · by_cases hx : 500000000 ≤ t * d
    · exact hx
    · obtain ⟨s, rfl⟩ : ∃ s, t = s + 1 := ⟨t - 1, by omega⟩
      obtain ⟨e, he⟩ : ∃ e, 500000000 = s + 1 + e := ⟨500000000 - (s + 1), by omega⟩
      have hde : e + 1 ≤ d := by omega
      have := Nat.mul_le_mul (Nat.le_refl (s + 1)) hde
      have e2 : (s + 1) * (e + 1) = s * e + s + e + 1 := by rw [Nat.add_mul, Nat.mul_add, Nat.one_mul]; omega
      omega
/-- the two highest limbs and the rest of it -/
theorem vl_2 (f : Nat → Nat) (n : Nat) : vl f (n + 1 + 1) = vl f n + (f (n + 1) * 1000000000 + f n) * 1000000000 ^ n := by
  rw [vl_s, vl_s, Nat.pow_succ, Nat.add_mul, Nat.mul_comm (1000000000 ^ n) 1000000000, Nat.mul_assoc]
  omega
theorem gs_all {n at' v W : Nat} {R B : Nat → Nat} (hn : 1 ≤ n) (lR : ∀ j, j < at' + n + 1 → R j < 1000000000) (lB : ∀ j, j < n → B j < 1000000000) (hv : vl B n = v) (hW : vl (fun j => R (at' + j)) (n + 1) = W) (hf : 500000000 ≤ B (n - 1)) (hhi : vl (fun j => R (at' + 1 + j)) n < v) (s t : Nat) (hs : s = if 1 < n then B (n - 2) else 0) (ht : t = if 1 < at' + n then R (at' + n - 2) else 0) :
    R (at' + n) ≤ B (n - 1) ∧ W < 1000000000 * v ∧ W / v * B (n - 1) ≤ R (at' + n) * 1000000000 + R (at' + n - 1) ∧ (∀ g o, g * B (n - 1) + o = R (at' + n) * 1000000000 + R (at' + n - 1) → o * 1000000000 + t < g * s → W < g * v) ∧ (∀ g o, (g + 1) * B (n - 1) + o = R (at' + n) * 1000000000 + R (at' + n - 1) → g < 1000000000 → (g + 1) * s ≤ o * 1000000000 + t → g * v ≤ W) ∧ (∀ g o, (g + 1) * B (n - 1) + o = R (at' + n) * 1000000000 + R (at' + n - 1) → g ≤ 1000000000 → 1000000000 ≤ o → g * v ≤ W) := by
  obtain ⟨m, rfl⟩ : ∃ m, n = m + 1 := ⟨n - 1, by omega⟩
  rw [Nat.add_sub_cancel] at *
  have hP : 0 < 1000000000 ^ m := Nat.pow_pos (by decide)
  have v1 : vl B m + B m * 1000000000 ^ m = v := by rw [← hv, vl_s]
  have v2 : vl B m < 1000000000 ^ m := vl_lt fun j hj => lB j (by omega)
  have w1 : vl (fun j => R (at' + j)) m + (R (at' + (m + 1)) * 1000000000 + R (at' + m)) * 1000000000 ^ m = W := by rw [← hW, vl_2]
  have w2 : vl (fun j => R (at' + j)) m < 1000000000 ^ m := vl_lt fun j hj => lR (at' + j) (by omega)
  have e1 : at' + (m + 1) - 1 = at' + m := by omega
  rw [e1]
  have h1 : vl (fun j => R (at' + 1 + j)) (m + 1) = vl (fun j => R (at' + 1 + j)) m + R (at' + (m + 1)) * 1000000000 ^ m := by rw [vl_s, show at' + 1 + m = at' + (m + 1) by omega]
  have hW2 : W = R at' + vl (fun j => R (at' + 1 + j)) (m + 1) * 1000000000 := by
    have := vl_split (fun j => R (at' + j)) 1 (m + 1)
    rw [show 1 + (m + 1) = m + 1 + 1 by omega, hW, vl_s, vl_z, Nat.pow_one, Nat.pow_zero, Nat.mul_one, Nat.zero_add] at this
    rw [this]
    simp only [Nat.add_zero, ← Nat.add_assoc]
  have hr0 := lR at' (by omega)
  have hv0 : 0 < v := by omega
  have htop : R (at' + (m + 1)) ≤ B m := by
    by_cases hc : R (at' + (m + 1)) ≤ B m
    · exact hc
    · have := Nat.mul_le_mul_right (1000000000 ^ m) (show B m + 1 ≤ R (at' + (m + 1)) by omega)
      rw [Nat.add_mul] at this
      omega
  generalize hTop : R (at' + (m + 1)) * 1000000000 + R (at' + m) = top at *
  have x1 : W < (top + 1) * 1000000000 ^ m := by rw [Nat.add_mul]; omega
  have x2 : top * 1000000000 ^ m ≤ W := by omega
  have y1 : v ≤ (B m + 1) * 1000000000 ^ m := by rw [Nat.add_mul]; omega
  have y2 : B m * 1000000000 ^ m ≤ v := by omega
  refine ⟨htop, by omega, gs_top y2 x1 (Nat.div_mul_le_self W v), ?_, ?_, fun g o hgo hg ho => gs_big y1 x2 hgo hg ho⟩
  · intro g o hgo hc
    cases m with
    | zero =>
      rw [if_neg (by decide)] at hs
      rw [hs, Nat.mul_zero] at hc
      omega
    | succ m =>
      rw [if_pos (by omega), show m + 1 + 1 - 2 = m by omega] at hs
      rw [if_pos (by omega), show at' + (m + 1 + 1) - 2 = at' + m by omega] at ht
      refine gs_dec (P := 1000000000 ^ m) (s := s) (t := t) ?_ ?_ hgo hc
      · rw [← v1, hs, vl_s, Nat.pow_succ, Nat.add_mul, Nat.mul_comm (1000000000 ^ m) 1000000000, Nat.mul_assoc]
        omega
      · have q2 : vl (fun j => R (at' + j)) m < 1000000000 ^ m := vl_lt fun j hj => lR (at' + j) (by omega)
        rw [← w1, ht, vl_s, Nat.pow_succ, Nat.add_mul, Nat.add_mul, Nat.mul_comm (1000000000 ^ m) 1000000000, Nat.mul_assoc]
        omega
  · intro g o hgo hg hc
    cases m with
    | zero =>
      rw [Nat.pow_zero, Nat.mul_one] at v1 w1
      rw [vl_z] at v1 w1
      rw [Nat.add_mul] at hgo
      rw [← v1, ← w1, Nat.zero_add, Nat.zero_add]
      omega
    | succ m =>
      rw [if_pos (by omega), show m + 1 + 1 - 2 = m by omega] at hs
      rw [if_pos (by omega), show at' + (m + 1 + 1) - 2 = at' + m by omega] at ht
      refine gs_ok (P := 1000000000 ^ m) (s := s) (t := t) ?_ ?_ hgo (by omega) (by omega) hc
      · have q2 : vl B m < 1000000000 ^ m := vl_lt fun j hj => lB j (by omega)
        rw [← v1, hs, vl_s, Nat.pow_succ, Nat.add_mul, Nat.add_mul, Nat.mul_comm (1000000000 ^ m) 1000000000, Nat.mul_assoc]
        omega
      · rw [← w1, ht, vl_s, Nat.pow_succ, Nat.add_mul, Nat.mul_comm (1000000000 ^ m) 1000000000, Nat.mul_assoc]
        omega
/-- what taking out leaves -/
theorem to_ok {W v T c r y P low : Nat} (hv : 0 < v) (hvP : v < P) (hlow : W = low + r * P) (hy : y < P) (he : y + T * v = low + c * P) (hT1 : W / v ≤ T) (hT2 : T ≤ W / v + 1) : (c ≤ r → T = W / v ∧ y = W % v) ∧ (¬ c ≤ r → T = W / v + 1 ∧ y + v = W % v + P) := by
  have hdm := Nat.div_add_mod W v
  have hml : W % v < v := Nat.mod_lt _ hv
  rw [Nat.mul_comm] at hdm
  generalize W / v = q at *
  generalize W % v = m at *
  have hc : T = q ∨ T = q + 1 := by omega
  rcases hc with rfl | rfl
  · refine ⟨fun hcr => ⟨rfl, ?_⟩, fun hcr => ?_⟩
    · rcases Nat.eq_or_lt_of_le hcr with e | e
      · subst e; omega
      · have := Nat.mul_le_mul_right P (show c + 1 ≤ r by omega)
        rw [Nat.add_mul] at this
        omega
    · have := Nat.mul_le_mul_right P (show r + 1 ≤ c by omega)
      rw [Nat.add_mul] at this
      omega
  · rw [Nat.add_mul] at he
    refine ⟨fun hcr => ?_, fun hcr => ⟨rfl, ?_⟩⟩
    · have := Nat.mul_le_mul_right P hcr
      omega
    · rcases Nat.eq_or_lt_of_le (show r + 1 ≤ c by omega) with e | e
      · subst e
        rw [Nat.add_mul] at he
        omega
      · have := Nat.mul_le_mul_right P (show r + 2 ≤ c by omega)
        rw [Nat.add_mul] at this
        omega
