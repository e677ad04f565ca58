/-! ===== the reference: reading texts ===== -/
def hC (t : Nat → Nat) (len k : Nat) : Nat := if k < len then uc (t k) else 0
theorem hC_c {t : Nat → Nat} {len k c : Nat} (hc : 0 < c) : hC t len k = c ↔ atc t len k c = true := by
  unfold hC atc
  rw [decide_eq_true_iff]
  split
  · next h => exact ⟨fun z => ⟨h, z⟩, fun z => z.2⟩
  · next h => exact ⟨fun z => by omega, fun z => absurd z.1 h⟩
theorem hC_d {t : Nat → Nat} {len k : Nat} : (48 ≤ hC t len k ∧ hC t len k ≤ 57) ↔ (k < len ∧ 48 ≤ t k ∧ t k ≤ 57) := by
  unfold hC uc
  split
  · split
    · omega
    · omega
  · omega
theorem hC_e {t : Nat → Nat} {len k : Nat} (h : k < len ∧ 48 ≤ t k ∧ t k ≤ 57) : hC t len k = t k := by
  unfold hC uc
  rw [if_pos h.1, if_neg (by omega)]
theorem hC_b {t : Nat → Nat} {len : Nat} (ht : ∀ j, j < len → t j < 128) (k : Nat) : hC t len k < 128 := by
  unfold hC uc
  split
  · next h =>
    have := ht k h
    split <;> omega
  · decide
theorem hC_48 {t : Nat → Nat} {len k : Nat} : hC t len k = 48 ↔ (k < len ∧ t k = 48) := by
  unfold hC uc
  split
  · split
    · omega
    · omega
  · omega
/-! numbers of digits -/
theorem vd_add (D : Nat) (t : Nat → Nat) (a n m : Nat) : vd D t a (n + m) = vd (vd D t a n) t (a + n) m := by
  induction m with
  | zero => rw [vd_z, Nat.add_zero]
  | succ m ih => rw [← Nat.add_assoc, vd_s, vd_s, ih, Nat.add_assoc]
theorem vd_v (t : Nat → Nat) (a n : Nat) : vd 0 t a n = v10 (fun i => t (a + n - 1 - i) - 48) n := by
  induction n with
  | zero => rw [vd_z, v10_0]
  | succ n ih =>
    rw [vd_s, ih]
    have := v10_sh (f := fun i => t (a + n - 1 - i) - 48) (g := fun i => t (a + (n + 1) - 1 - i) - 48) (d := t (a + n) - 48) (n := n) (by
      show t (a + (n + 1) - 1 - 0) - 48 = _
      rw [show a + (n + 1) - 1 - 0 = a + n by omega]) (fun j hj => by
      show t (a + (n + 1) - 1 - (j + 1)) - 48 = t (a + n - 1 - j) - 48
      rw [show a + (n + 1) - 1 - (j + 1) = a + n - 1 - j by omega])
    rw [this]
    omega
theorem vd_D (D : Nat) (t : Nat → Nat) (a n : Nat) : vd D t a n = D * 10 ^ n + vd 0 t a n := by
  induction n with
  | zero => rw [vd_z, vd_z, Nat.pow_zero, Nat.mul_one, Nat.add_zero]
  | succ n ih =>
    rw [vd_s, vd_s, ih, Nat.pow_succ, Nat.add_mul, Nat.mul_assoc]
    omega
theorem vd_c (t : Nat → Nat) (a n : Nat) : vd 0 t a (n + 1) = (t a - 48) * 10 ^ n + vd 0 t (a + 1) n := by
  rw [Nat.add_comm n 1, vd_add, vd_D, vd_s, vd_z, Nat.zero_mul, Nat.zero_add, Nat.add_zero]
theorem vd_lt {t : Nat → Nat} {a n : Nat} (h : ∀ j, a ≤ j → j < a + n → 48 ≤ t j ∧ t j ≤ 57) : vd 0 t a n < 10 ^ n := by
  rw [vd_v]
  refine v10_lt fun j hj => ?_
  have := h (a + n - 1 - j) (by omega) (by omega)
  show t (a + n - 1 - j) - 48 < 10
  omega
theorem vd_g {t : Nat → Nat} {a n i : Nat} (h : ∀ j, a ≤ j → j < a + n → 48 ≤ t j ∧ t j ≤ 57) (hi : i < n) : vd 0 t a n / 10 ^ i % 10 = t (a + n - 1 - i) - 48 := by
  rw [vd_v]
  exact v10_d (f := fun i => t (a + n - 1 - i) - 48) (fun j hj => by
    have := h (a + n - 1 - j) (by omega) (by omega)
    show t (a + n - 1 - j) - 48 < 10
    omega) hi
section REF
variable {h : ix_H} {Q : ix_O → ix_H → Prop} {S0 : Nat → AC} {R F : Nat → Dm} {V cd dr ra si tr : Nat} {mo ng : Bool} {sp sz wr : Nat} {il : Bool} {rs pt rl wo tx ou : Nat → Nat} {j x y z w a0 b0 k0 : Int} {r f s m a c k : Nat} {b t : Bool}
theorem m_isDigit (hx : zr x) (q : Q (.inl (some (.int (bI (decide (48 ≤ x ∧ x ≤ 57)))))) h) : ix_M 263 [.int (zI x)] h Q := by
  have hx1 := hx.1
  have hx2 := hx.2
  refine jx (pc' := 3) (L' := [_]) (st' := [.int (zI 48), _]) 2 rfl ?_
  by_cases h0 : x < 48
  · skip
    refine jct (pc' := 16) rfl rfl rfl (by rw [zc_lt ⟨by omega, by omega⟩ ⟨by omega, by omega⟩]; exact decide_eq_true (by omega)) ?_
    refine jx (pc' := 17) (L' := [_]) (st' := [.int (zI 0)]) 1 rfl ?_
    rw [decide_eq_false (by omega)] at q
    exact jrb rfl rfl q
  · skip
    refine jcn (pc' := 6) 16 rfl rfl rfl rfl (by rw [zc_lt ⟨by omega, by omega⟩ ⟨by omega, by omega⟩]; exact decide_eq_false (by omega)) ?_
    refine jx (pc' := 9) (L' := [_]) (st' := [.int (zI 57), _]) 2 rfl ?_
    by_cases h1 : 57 < x
    · skip
      refine jct (pc' := 16) rfl rfl rfl (by rw [zc_gt ⟨by omega, by omega⟩ ⟨by omega, by omega⟩]; exact decide_eq_true (by omega)) ?_
      refine jx (pc' := 17) (L' := [_]) (st' := [.int (zI 0)]) 1 rfl ?_
      rw [decide_eq_false (by omega)] at q
      exact jrb rfl rfl q
    · skip
      refine jcn (pc' := 12) 16 rfl rfl rfl rfl (by rw [zc_gt ⟨by omega, by omega⟩ ⟨by omega, by omega⟩]; exact decide_eq_false (by omega)) ?_
      refine jx (pc' := 17) (L' := [_]) (st' := [.int (zI 1)]) 2 rfl ?_
      rw [decide_eq_true (by omega)] at q
      exact jrb rfl rfl q
theorem m_here (K : (RI S0 h R V cd dr ra si tr mo ng sp sz wr il rs pt rl wo tx ou)) (hk0 : k0 = (k : Int)) (hk : k < 1000) (hsz : sz ≤ 120) (ht : ∀ j, j < sz → tx j < 128) (q : Q (.inl (some (.int (zI (hC tx sz k : Nat))))) h) : ix_M 260 [.ref 98, .int (zI k0)] h Q := by
  subst hk0
  unfold hC uc at q
  refine jx (pc' := 2) (L' := [_, _]) (st' := [_, _]) 2 rfl ?_
  refine jgf (pc' := 5) K.ob rfl rfl rfl rfl rfl ?_
  by_cases h0 : k < sz
  · have hb := ht k h0
    rw [if_pos h0] at q
    refine jcn (pc' := 8) 51 rfl rfl rfl rfl (by rw [zc_ge ⟨by omega, by omega⟩ ⟨by omega, by omega⟩]; exact decide_eq_false (by omega)) ?_
    refine jx (pc' := 9) (L' := [_, _]) (st' := [_]) 1 rfl ?_
    refine jgf (pc' := 12) K.ob rfl rfl rfl rfl rfl ?_
    refine jx (pc' := 13) (L' := [_, _]) (st' := [_, _]) 1 rfl ?_
    refine jR_x (pc' := 14) k K rfl rfl (by omega) (by omega)  rfl ?_
    refine jx (pc' := 16) (L' := [_, _]) (st' := [.int (zI 97), _]) 1 rfl ?_
    by_cases h1 : tx k < 97
    · rw [if_neg (by omega)] at q
      refine jct (pc' := 42) rfl rfl rfl (by rw [zc_lt ⟨by omega, by omega⟩ ⟨by omega, by omega⟩]; exact decide_eq_true (by omega)) ?_
      refine jx (pc' := 43) (L' := [_, _]) (st' := [_]) 1 rfl ?_
      refine jgf (pc' := 46) K.ob rfl rfl rfl rfl rfl ?_
      refine jx (pc' := 47) (L' := [_, _]) (st' := [_, _]) 1 rfl ?_
      refine jR_x (pc' := 48) k K rfl rfl (by omega) (by omega)  rfl ?_
      refine jx (pc' := 52) (L' := [_, _]) (st' := [_]) 1 rfl ?_
      refine jri rfl rfl ?_
      exact q
    · skip
      refine jcn (pc' := 19) 42 rfl rfl rfl rfl (by rw [zc_lt ⟨by omega, by omega⟩ ⟨by omega, by omega⟩]; exact decide_eq_false (by omega)) ?_
      refine jx (pc' := 20) (L' := [_, _]) (st' := [_]) 1 rfl ?_
      refine jgf (pc' := 23) K.ob rfl rfl rfl rfl rfl ?_
      refine jx (pc' := 24) (L' := [_, _]) (st' := [_, _]) 1 rfl ?_
      refine jR_x (pc' := 25) k K rfl rfl (by omega) (by omega)  rfl ?_
      refine jx (pc' := 27) (L' := [_, _]) (st' := [.int (zI 122), _]) 1 rfl ?_
      by_cases h2 : 122 < tx k
      · rw [if_neg (by omega)] at q
        refine jct (pc' := 42) rfl rfl rfl (by rw [zc_gt ⟨by omega, by omega⟩ ⟨by omega, by omega⟩]; exact decide_eq_true (by omega)) ?_
        refine jx (pc' := 43) (L' := [_, _]) (st' := [_]) 1 rfl ?_
        refine jgf (pc' := 46) K.ob rfl rfl rfl rfl rfl ?_
        refine jx (pc' := 47) (L' := [_, _]) (st' := [_, _]) 1 rfl ?_
        refine jR_x (pc' := 48) k K rfl rfl (by omega) (by omega)  rfl ?_
        refine jx (pc' := 52) (L' := [_, _]) (st' := [_]) 1 rfl ?_
        refine jri rfl rfl ?_
        exact q
      · rw [if_pos ⟨by omega, by omega⟩] at q
        refine jcn (pc' := 30) 42 rfl rfl rfl rfl (by rw [zc_gt ⟨by omega, by omega⟩ ⟨by omega, by omega⟩]; exact decide_eq_false (by omega)) ?_
        refine jx (pc' := 31) (L' := [_, _]) (st' := [_]) 1 rfl ?_
        refine jgf (pc' := 34) K.ob rfl rfl rfl rfl rfl ?_
        refine jx (pc' := 35) (L' := [_, _]) (st' := [_, _]) 1 rfl ?_
        refine jR_x (pc' := 36) k K rfl rfl (by omega) (by omega)  rfl ?_
        refine jx (pc' := 52) (L' := [_, _]) (st' := [_]) 3 rfl ?_
        try simp (disch := omega) only [kz, kzl0, kzl1, kzb, kzs, zI_add, zI_sub, zI_neg, zI_mul, zL_i, zI_l, zL_add, zL_sub, zL_neg]
        refine jri rfl rfl ?_
        rw [show (tx k : Int) - 32 = ((tx k - 32 : Nat) : Int) by omega]
        exact q
  · rw [if_neg h0] at q
    refine jct (pc' := 51) rfl rfl rfl (by rw [zc_ge ⟨by omega, by omega⟩ ⟨by omega, by omega⟩]; exact decide_eq_true (by omega)) ?_
    refine jx (pc' := 52) (L' := [_, _]) (st' := [.int (zI 0)]) 1 rfl ?_
    refine jri rfl rfl ?_
    exact q
theorem m_readPayload {f0 s0 : Int} (K : (RI S0 h R V cd dr ra si tr mo ng sp sz wr il rs pt rl wo tx ou)) (hk0 : k0 = (k : Int)) (hk : k ≤ sz) (hsz : sz ≤ 120) (ht : ∀ j, j < sz → tx j < 128) (hf0 : f0 = (f : Int)) (hs0 : s0 = (swp s : Nat)) (hf : f < 3) (hs : s < 4) (q0 : ¬ de tx sz k = sz → ∀ h' r8, (RJ S0 h' (va_up R 8 r8) cd dr ra si tr sz wr tx ou) → Q (.inl (some (.int (bI false)))) h') (q1 : de tx sz k = sz → ∀ h', (RJ S0 h' (va_up R 8 (f, s, atc tx sz 0 45, 0, if dgs (vd 0 tx k (sz - k)) < fD f then vd 0 tx k (sz - k) else 0)) cd dr ra si tr sz wr tx ou) → Q (.inl (some (.int (bI true)))) h') : ix_M 262 [.ref 98, .int (zI k0), .int (zI f0), .int (zI s0)] h Q := by
  subst hk0
  have fb := f3b hf
  obtain ⟨d1, d2, d3', d4⟩ := de_s tx sz k
  have d2 := d2 hk
  -- the digits, from the end
  have t154 : ∀ (h1 : ix_H) (gd : Bool) (C : Nat) (fr : Int) (l6 : Int), gd = decide (de tx sz k = sz) → (gd = true → C = if dgs (vd 0 tx k (sz - k)) < fD f then vd 0 tx k (sz - k) else 0) → (RI S0 h1 (va_up R 8 (f, s, atc tx sz 0 45, 0, C)) V cd dr ra si tr mo ng sp sz wr il rs pt rl wo tx ou) → ix_E 262 154 [some (.ref 98), some (.int (zI (k : Int))), some (.int (zI f0)), some (.int (zI s0)), some (.int (bI gd)), some (.int (zI fr)), some (.int (zI l6))] [] h1 Q := by
    intro h gd C fr l6 hgd hC' K
    refine jx (pc' := 156) (L' := [_, _, _, _, _, _, _]) (st' := [_]) 1 rfl ?_
    cases gd
    · exact jrb rfl rfl (q0 (of_decide_eq_false hgd.symm) _ _ K.rj)
    · rw [hC' rfl] at K
      exact jrb rfl rfl (q1 (of_decide_eq_true hgd.symm) _ K.rj)
  have t87 : ∀ (h1 : ix_H) (gd : Bool) (fr : Nat) (l6 : Int), k ≤ fr → fr ≤ sz → (∀ j, k ≤ j → j < fr → tx j = 48) → (fr < sz → ¬ tx fr = 48) → gd = decide (de tx sz k = sz) → (RI S0 h1 (va_up R 8 (f, s, atc tx sz 0 45, 0, 0)) V cd dr ra si tr mo ng sp sz wr il rs pt rl wo tx ou) → ix_E 262 87 [some (.ref 98), some (.int (zI (k : Int))), some (.int (zI f0)), some (.int (zI s0)), some (.int (bI gd)), some (.int (zI (fr : Int))), some (.int (zI l6))] [] h1 Q := by
    intro h gd fr l6 hf1 hf2 hf3 hf4 hgd K
    cases gd
    · have t := t154 h false 0 (fr : Int) ((sz : Int) - 1) hgd (fun z => nomatch z) K
      refine jx (pc' := 88) (L' := [_, _, _, _, _, _, _]) (st' := [_]) 1 rfl ?_
      refine jgf (pc' := 91) K.ob rfl rfl rfl rfl rfl ?_
      refine jx (pc' := 99) (L' := [_, _, _, _, _, _, _]) (st' := [_, _]) 5 rfl ?_
      try simp (disch := omega) only [kz, kzl0, kzl1, kzb, kzs, zI_add, zI_sub, zI_neg, zI_mul, zL_i, zI_l, zL_add, zL_sub, zL_neg]
      by_cases h0 : (sz : Int) - 1 < fr
      · skip
        refine jct (pc' := 154) rfl rfl rfl (by rw [zc_lt ⟨by omega, by omega⟩ ⟨by omega, by omega⟩]; exact decide_eq_true (by omega)) ?_
        exact t
      · skip
        refine jcn (pc' := 102) 154 rfl rfl rfl rfl (by rw [zc_lt ⟨by omega, by omega⟩ ⟨by omega, by omega⟩]; exact decide_eq_false (by omega)) ?_
        refine jx (pc' := 104) (L' := [_, _, _, _, _, _, _]) (st' := [_]) 1 rfl ?_
        refine jit (pc' := 154) rfl rfl rfl (by rfl) ?_
        exact t
    · have hde := of_decide_eq_true hgd.symm
      rw [hde] at d3'
      have hdig : ∀ j, fr ≤ j → j < fr + (sz - fr) → 48 ≤ tx j ∧ tx j ≤ 57 := fun j h1 h2 => d3' j (by omega) (by omega)
      have eV : vd 0 tx k (sz - k) = vd 0 tx fr (sz - fr) := by
        have e0 : vd 0 tx k (fr - k) = 0 := by
          have : ∀ n, n ≤ fr - k → vd 0 tx k n = 0 := by
            intro n
            induction n with
            | zero => intro _; exact vd_z _ _ _
            | succ n ih =>
              intro hn
              rw [vd_s, ih (by omega), hf3 (k + n) (by omega) (by omega)]
          exact this _ (Nat.le_refl _)
        have := vd_add 0 tx k (fr - k) (sz - fr)
        rw [e0, show fr - k + (sz - fr) = sz - k by omega, show k + (fr - k) = fr by omega] at this
        exact this
      have hlt := vd_lt hdig
      have hdg : dgs (vd 0 tx fr (sz - fr)) = sz - fr := by
        by_cases h0 : fr = sz
        · rw [h0, Nat.sub_self, vd_z]
          exact dgs_0 rfl
        · have hn := hf4 (by omega)
          have hd0 := hdig fr (Nat.le_refl _) (by omega)
          obtain ⟨n, hn'⟩ : ∃ n, sz - fr = n + 1 := ⟨sz - fr - 1, by omega⟩
          have e := vd_c tx fr n
          rw [hn'] at hlt ⊢
          have h1 : 1 * 10 ^ n ≤ (tx fr - 48) * 10 ^ n := Nat.mul_le_mul_right _ (by omega)
          have h2 := dgs_gt (v := vd 0 tx fr (n + 1)) (k := n) (by omega)
          have h3 := dgs_le hlt
          omega
      rw [eV] at t154
      rw [hdg] at t154
      have loop : sz - fr < fD f → ∀ n i : Nat, i + n = sz - fr → ∀ h1, (RI S0 h1 (va_up R 8 (f, s, atc tx sz 0 45, 0, vd 0 tx fr (sz - fr) % 10 ^ i)) V cd dr ra si tr mo ng sp sz wr il rs pt rl wo tx ou) → ix_E 262 95 [some (.ref 98), some (.int (zI (k : Int))), some (.int (zI f0)), some (.int (zI s0)), some (.int (bI true)), some (.int (zI (fr : Int))), some (.int (zI ((sz : Int) - 1 - i)))] [] h1 Q := by
        intro hfw n
        induction n with
        | zero =>
          intro i hi h K
          obtain rfl : i = sz - fr := by omega
          refine jx (pc' := 99) (L' := [_, _, _, _, _, _, _]) (st' := [_, _]) 2 rfl ?_
          refine jct (pc' := 154) rfl rfl rfl (by rw [zc_lt ⟨by omega, by omega⟩ ⟨by omega, by omega⟩]; exact decide_eq_true (by omega)) ?_
          refine t154 h true _ _ _ hgd (fun _ => ?_) K
          rw [if_pos hfw, Nat.mod_eq_of_lt hlt]
        | succ n ih =>
          intro i hi h K
          have hg := vd_g hdig (i := i) (by omega)
          have hb := hdig (fr + (sz - fr) - 1 - i) (by omega) (by omega)
          have hh := hC_e (t := tx) (len := sz) (k := fr + (sz - fr) - 1 - i) ⟨by omega, hb.1, hb.2⟩
          refine jx (pc' := 99) (L' := [_, _, _, _, _, _, _]) (st' := [_, _]) 2 rfl ?_
          refine jcn (pc' := 102) 154 rfl rfl rfl rfl (by rw [zc_lt ⟨by omega, by omega⟩ ⟨by omega, by omega⟩]; exact decide_eq_false (by omega)) ?_
          refine jx (pc' := 104) (L' := [_, _, _, _, _, _, _]) (st' := [_]) 1 rfl ?_
          refine jin (pc' := 107) 154 rfl rfl rfl rfl (by rfl) ?_
          refine jx (pc' := 108) (L' := [_, _, _, _, _, _, _]) (st' := [_]) 1 rfl ?_
          refine jgf (pc' := 111) K.ob rfl rfl rfl rfl rfl ?_
          refine jx (pc' := 115) (L' := [_, _, _, _, _, _, _]) (st' := [_, _]) 3 rfl ?_
          try simp (disch := omega) only [kz, kzl0, kzl1, kzb, kzs, zI_add, zI_sub, zI_neg, zI_mul, zL_i, zI_l, zL_add, zL_sub, zL_neg]
          refine jcs (pc' := 118) 176 [_] [_] rfl rfl rfl rfl rfl rfl rfl rfl ?_
          refine m_digitsOf hf0 hf (jk ?_)
          refine jcn (pc' := 121) 154 rfl rfl rfl rfl (by rw [zc_ge ⟨by omega, by omega⟩ ⟨by omega, by omega⟩]; exact decide_eq_false (by omega)) ?_
          refine jx (pc' := 122) (L' := [_, _, _, _, _, _, _]) (st' := [_]) 1 rfl ?_
          refine jgf (pc' := 125) K.ob rfl rfl rfl rfl rfl ?_
          refine jx (pc' := 129) (L' := [_, _, _, _, _, _, _]) (st' := [_, .int (zI 320), _]) 2 rfl ?_
          refine jgf (pc' := 132) K.ob rfl rfl rfl rfl rfl ?_
          refine jx (pc' := 141) (L' := [_, _, _, _, _, _, _]) (st' := [_, _, _, _]) 7 rfl ?_
          try simp (disch := omega) only [kz, kzl0, kzl1, kzb, kzs, zI_add, zI_sub, zI_neg, zI_mul, zL_i, zI_l, zL_add, zL_sub, zL_neg]
          refine jcv (pc' := 144) 260 [_] [_, _] K.ob rfl rfl rfl rfl rfl rfl rfl rfl ?_
          refine m_here (k := fr + (sz - fr) - 1 - i) K (by omega) (by omega) hsz ht (jk ?_)
          rw [hh]
          refine jx (pc' := 147) (L' := [_, _, _, _, _, _, _]) (st' := [_, _, _]) 2 rfl ?_
          try simp (disch := omega) only [kz, kzl0, kzl1, kzb, kzs, zI_add, zI_sub, zI_neg, zI_mul, zL_i, zI_l, zL_add, zL_sub, zL_neg]
          refine jW_d (pc' := 148) 8 i ((tx (fr + (sz - fr) - 1 - i) - 48)) K (by first | rfl | (congr 1; omega)) rfl rfl (by omega) (by omega) (by omega)  rfl (by omega) fun h K => ?_
          have e : sd (vd 0 tx fr (sz - fr) % 10 ^ i) i (tx (fr + (sz - fr) - 1 - i) - 48) = vd 0 tx fr (sz - fr) % 10 ^ (i + 1) := by
            have hm := Nat.mod_lt (vd 0 tx fr (sz - fr)) (pp0 i)
            unfold sd
            rw [Nat.div_eq_of_lt (Nat.lt_of_lt_of_le hm (pl (by omega))), Nat.mod_eq_of_lt hm, mod_s, hg]
            omega
          rw [va_up_self, va_up_up, e] at K
          refine jx (pc' := 95) (L' := [_, _, _, _, _, _, _]) (st' := []) 2 rfl ?_
          try simp (disch := omega) only [kz, kzl0, kzl1, kzb, kzs, zI_add, zI_sub, zI_neg, zI_mul, zL_i, zI_l, zL_add, zL_sub, zL_neg]
          rw [show (sz : Int) - 1 - i + -1 = (sz : Int) - 1 - ((i + 1 : Nat) : Int) by omega]
          exact ih (i + 1) (by omega) h K
      by_cases hfw : sz - fr < fD f
      · skip
        refine jx (pc' := 88) (L' := [_, _, _, _, _, _, _]) (st' := [_]) 1 rfl ?_
        refine jgf (pc' := 91) K.ob rfl rfl rfl rfl rfl ?_
        refine jx (pc' := 95) (L' := [_, _, _, _, _, _, _]) (st' := []) 3 rfl ?_
        try simp (disch := omega) only [kz, kzl0, kzl1, kzb, kzs, zI_add, zI_sub, zI_neg, zI_mul, zL_i, zI_l, zL_add, zL_sub, zL_neg]
        have := loop hfw (sz - fr) 0 (by omega) h (by rw [Nat.pow_zero, Nat.mod_one]; exact K)
        rw [show (sz : Int) - 1 - ((0 : Nat) : Int) = (sz : Int) - 1 by omega] at this
        exact this
      · skip
        refine jx (pc' := 88) (L' := [_, _, _, _, _, _, _]) (st' := [_]) 1 rfl ?_
        refine jgf (pc' := 91) K.ob rfl rfl rfl rfl rfl ?_
        refine jx (pc' := 99) (L' := [_, _, _, _, _, _, _]) (st' := [_, _]) 5 rfl ?_
        try simp (disch := omega) only [kz, kzl0, kzl1, kzb, kzs, zI_add, zI_sub, zI_neg, zI_mul, zL_i, zI_l, zL_add, zL_sub, zL_neg]
        refine jcn (pc' := 102) 154 rfl rfl rfl rfl (by rw [zc_lt ⟨by omega, by omega⟩ ⟨by omega, by omega⟩]; exact decide_eq_false (by omega)) ?_
        refine jx (pc' := 104) (L' := [_, _, _, _, _, _, _]) (st' := [_]) 1 rfl ?_
        refine jin (pc' := 107) 154 rfl rfl rfl rfl (by rfl) ?_
        refine jx (pc' := 108) (L' := [_, _, _, _, _, _, _]) (st' := [_]) 1 rfl ?_
        refine jgf (pc' := 111) K.ob rfl rfl rfl rfl rfl ?_
        refine jx (pc' := 115) (L' := [_, _, _, _, _, _, _]) (st' := [_, _]) 3 rfl ?_
        try simp (disch := omega) only [kz, kzl0, kzl1, kzb, kzs, zI_add, zI_sub, zI_neg, zI_mul, zL_i, zI_l, zL_add, zL_sub, zL_neg]
        refine jcs (pc' := 118) 176 [_] [_] rfl rfl rfl rfl rfl rfl rfl rfl ?_
        refine m_digitsOf hf0 hf (jk ?_)
        refine jct (pc' := 154) rfl rfl rfl (by rw [zc_ge ⟨by omega, by omega⟩ ⟨by omega, by omega⟩]; exact decide_eq_true (by omega)) ?_
        refine t154 h true 0 _ _ hgd (fun _ => ?_) K
        rw [if_neg hfw]
  -- are they all digits?
  have t48 : ∀ (fr : Nat), k ≤ fr → fr ≤ sz → (∀ j, k ≤ j → j < fr → tx j = 48) → (fr < sz → ¬ tx fr = 48) → ∀ n i : Nat, i + n = sz → k ≤ i → ∀ (h1 : ix_H) (gd : Bool), gd = decide (i ≤ de tx sz k) → (RI S0 h1 (va_up R 8 (f, s, atc tx sz 0 45, 0, 0)) V cd dr ra si tr mo ng sp sz wr il rs pt rl wo tx ou) → ix_E 262 48 [some (.ref 98), some (.int (zI (k : Int))), some (.int (zI f0)), some (.int (zI s0)), some (.int (bI gd)), some (.int (zI (fr : Int))), some (.int (zI (i : Int)))] [] h1 Q := by
    intro fr hf1 hf2 hf3 hf4 n
    induction n with
    | zero =>
      intro i hi hki h gd hgd K
      obtain rfl : i = sz := by omega
      refine jx (pc' := 51) (L' := [_, _, _, _, _, _, _]) (st' := [_, _]) 2 rfl ?_
      refine jgf (pc' := 54) K.ob rfl rfl rfl rfl rfl ?_
      refine jct (pc' := 87) rfl rfl rfl (by rw [zc_ge ⟨by omega, by omega⟩ ⟨by omega, by omega⟩]; exact decide_eq_true (by omega)) ?_
      refine t87 h gd fr _ hf1 hf2 hf3 hf4 ?_ K
      rw [hgd]
      exact decide_eq_decide.mpr (by omega)
    | succ n ih =>
      intro i hi hki h gd hgd K
      have nxt : ∀ gd' : Bool, gd' = decide (i + 1 ≤ de tx sz k) → ix_E 262 79 [some (.ref 98), some (.int (zI (k : Int))), some (.int (zI f0)), some (.int (zI s0)), some (.int (bI gd)), some (.int (zI (fr : Int))), some (.int (zI (i : Int)))] [.int (bI gd')] h Q := by
        intro gd' hg'
        refine jx (pc' := 48) (L' := [_, _, _, _, _, _, _]) (st' := []) 3 rfl ?_
        try simp (disch := omega) only [kz, kzl0, kzl1, kzb, kzs, zI_add, zI_sub, zI_neg, zI_mul, zL_i, zI_l, zL_add, zL_sub, zL_neg]
        rw [show (i : Int) + 1 = ((i + 1 : Nat) : Int) by omega]
        exact ih (i + 1) (by omega) (by omega) h gd' hg' K
      refine jx (pc' := 51) (L' := [_, _, _, _, _, _, _]) (st' := [_, _]) 2 rfl ?_
      refine jgf (pc' := 54) K.ob rfl rfl rfl rfl rfl ?_
      refine jcn (pc' := 57) 87 rfl rfl rfl rfl (by rw [zc_ge ⟨by omega, by omega⟩ ⟨by omega, by omega⟩]; exact decide_eq_false (by omega)) ?_
      refine jx (pc' := 59) (L' := [_, _, _, _, _, _, _]) (st' := [_]) 1 rfl ?_
      cases gd
      · have := of_decide_eq_false hgd.symm
        refine jit (pc' := 78) rfl rfl rfl (by rfl) ?_
        refine jx (pc' := 79) (L' := [_, _, _, _, _, _, _]) (st' := [.int (zI 0)]) 1 rfl ?_
        exact nxt false (decide_eq_false (by omega)).symm
      · have hid := of_decide_eq_true hgd.symm
        refine jin (pc' := 62) 78 rfl rfl rfl rfl (by rfl) ?_
        refine jx (pc' := 65) (L' := [_, _, _, _, _, _, _]) (st' := [_, _]) 2 rfl ?_
        refine jcv (pc' := 68) 260 [_] [] K.ob rfl rfl rfl rfl rfl rfl rfl rfl ?_
        refine m_here (k := i) K rfl (by omega) hsz ht (jk ?_)
        have hb := hC_b ht i
        have hd := hC_d (t := tx) (len := sz) (k := i)
        refine jcs (pc' := 71) 263 [_] [] rfl rfl rfl rfl rfl rfl rfl rfl ?_
        refine m_isDigit ⟨by omega, by omega⟩ (jk ?_)
        by_cases hdd : 48 ≤ ((hC tx sz i : Nat) : Int) ∧ ((hC tx sz i : Nat) : Int) ≤ 57
        · have h2 := hd.mp (by omega)
          have h3 : i + 1 ≤ de tx sz k := by
            refine Nat.lt_of_le_of_ne hid fun z => ?_
            rw [← z] at d4
            exact d4 (by omega) ⟨h2.2.1, h2.2.2⟩
          rw [decide_eq_true hdd]
          refine jin (pc' := 74) 78 rfl rfl rfl rfl (by rfl) ?_
          refine jx (pc' := 79) (L' := [_, _, _, _, _, _, _]) (st' := [.int (zI 1)]) 2 rfl ?_
          exact nxt true (decide_eq_true h3).symm
        · have h3 : ¬ i + 1 ≤ de tx sz k := fun z => hdd (by
            have := d3' i hki (by omega)
            have := hd.mpr ⟨by omega, this.1, this.2⟩
            omega)
          rw [decide_eq_false hdd]
          refine jit (pc' := 78) rfl rfl rfl (by rfl) ?_
          refine jx (pc' := 79) (L' := [_, _, _, _, _, _, _]) (st' := [.int (zI 0)]) 1 rfl ?_
          exact nxt false (decide_eq_false h3).symm
  have t28 : ∀ n i : Nat, i + n = sz → k ≤ i → (∀ j, k ≤ j → j < i → tx j = 48) → ∀ h1, (RI S0 h1 (va_up R 8 (f, s, atc tx sz 0 45, 0, 0)) V cd dr ra si tr mo ng sp sz wr il rs pt rl wo tx ou) → ix_E 262 28 [some (.ref 98), some (.int (zI (k : Int))), some (.int (zI f0)), some (.int (zI s0)), some (.int (bI true)), some (.int (zI (i : Int))), none] [] h1 Q := by
    intro n
    induction n with
    | zero =>
      intro i hi hki h48 h K
      obtain rfl : i = sz := by omega
      have hn : ¬ hC tx i i = 48 := fun z => by have := (hC_48.mp z).1; omega
      have hb := hC_b ht i
      refine jx (pc' := 31) (L' := [_, _, _, _, _, _, _]) (st' := [_, _]) 2 rfl ?_
      refine jcv (pc' := 34) 260 [_] [] K.ob rfl rfl rfl rfl rfl rfl rfl rfl ?_
      refine m_here (k := i) K rfl (by omega) hsz ht (jk ?_)
      refine jx (pc' := 36) (L' := [_, _, _, _, _, _, _]) (st' := [.int (zI 48), _]) 1 rfl ?_
      refine jct (pc' := 45) rfl rfl rfl (by rw [zc_ne ⟨by omega, by omega⟩ ⟨by omega, by omega⟩]; exact decide_eq_true (by omega)) ?_
      refine jx (pc' := 48) (L' := [_, _, _, _, _, _, _]) (st' := []) 2 rfl ?_
      exact t48 i hki (Nat.le_refl _) h48 (fun z => by omega) (i - k) k (by omega) (Nat.le_refl _) h true (decide_eq_true d1).symm K
    | succ n ih =>
      intro i hi hki h48 h K
      have hb := hC_b ht i
      refine jx (pc' := 31) (L' := [_, _, _, _, _, _, _]) (st' := [_, _]) 2 rfl ?_
      refine jcv (pc' := 34) 260 [_] [] K.ob rfl rfl rfl rfl rfl rfl rfl rfl ?_
      refine m_here (k := i) K rfl (by omega) hsz ht (jk ?_)
      refine jx (pc' := 36) (L' := [_, _, _, _, _, _, _]) (st' := [.int (zI 48), _]) 1 rfl ?_
      by_cases h0 : hC tx sz i = 48
      · skip
        refine jcn (pc' := 39) 45 rfl rfl rfl rfl (by rw [zc_ne ⟨by omega, by omega⟩ ⟨by omega, by omega⟩]; exact decide_eq_false (by omega)) ?_
        refine jx (pc' := 28) (L' := [_, _, _, _, _, _, _]) (st' := []) 2 rfl ?_
        try simp (disch := omega) only [kz, kzl0, kzl1, kzb, kzs, zI_add, zI_sub, zI_neg, zI_mul, zL_i, zI_l, zL_add, zL_sub, zL_neg]
        rw [show (i : Int) + 1 = ((i + 1 : Nat) : Int) by omega]
        refine ih (i + 1) (by omega) (by omega) (fun j h1 h2 => ?_) h K
        by_cases z : j = i
        · rw [z]; exact (hC_48.mp h0).2
        · exact h48 j h1 (by omega)
      · skip
        refine jct (pc' := 45) rfl rfl rfl (by rw [zc_ne ⟨by omega, by omega⟩ ⟨by omega, by omega⟩]; exact decide_eq_true (by omega)) ?_
        refine jx (pc' := 48) (L' := [_, _, _, _, _, _, _]) (st' := []) 2 rfl ?_
        exact t48 i hki (by omega) h48 (fun z y => h0 (hC_48.mpr ⟨z, y⟩)) (sz - k) k (by omega) (Nat.le_refl _) h true (decide_eq_true d1).symm K
  have t18 : ∀ nn : Bool, nn = atc tx sz 0 45 → ix_E 262 18 [some (.ref 98), some (.int (zI (k : Int))), some (.int (zI f0)), some (.int (zI s0)), none, none, none] [.int (bI nn), .int (zI s0), .int (zI f0), .ref 98] h Q := by
    intro nn hnn
    refine jx (pc' := 19) (L' := [_, _, _, _, _, _, _]) (st' := [.int (zI 0), _, _, _, _]) 1 rfl ?_
    refine jcv (pc' := 22) 202 [_, _, _, _] [] K.ob rfl rfl rfl rfl rfl rfl rfl rfl ?_
    refine m_become (s := s) (b := nn) K hf0 hs0 hf hs ⟨by decide, by decide⟩ fun h K => jk ?_
    rw [hnn] at K
    refine jx (pc' := 28) (L' := [_, _, _, _, _, _, _]) (st' := []) 4 rfl ?_
    try simp (disch := omega) only [kz, kzl0, kzl1, kzb, kzs, zI_add, zI_sub, zI_neg, zI_mul, zL_i, zI_l, zL_add, zL_sub, zL_neg]
    exact t28 (sz - k) k (by omega) (Nat.le_refl _) (fun j h1 h2 => by omega) h K
  have h45 := hC_c (t := tx) (len := sz) (k := 0) (c := 45) (by decide)
  have hb := hC_b ht 0
  refine jx (pc' := 5) (L' := [_, _, _, _, _, _, _]) (st' := [.int (zI 0), _, _, _, _]) 5 rfl ?_
  refine jcv (pc' := 8) 260 [.int (zI 0)] [_, _, _] K.ob rfl rfl rfl rfl rfl rfl rfl rfl ?_
  refine m_here (k := 0) K rfl (by decide) hsz ht (jk ?_)
  refine jx (pc' := 10) (L' := [_, _, _, _, _, _, _]) (st' := [.int (zI 45), _, _, _, _]) 1 rfl ?_
  by_cases h0 : hC tx sz 0 = 45
  · skip
    refine jcn (pc' := 13) 17 rfl rfl rfl rfl (by rw [zc_ne ⟨by omega, by omega⟩ ⟨by omega, by omega⟩]; exact decide_eq_false (by omega)) ?_
    refine jx (pc' := 18) (L' := [_, _, _, _, _, _, _]) (st' := [.int (zI 1), _, _, _]) 2 rfl ?_
    exact t18 true (h45.mp h0).symm
  · skip
    refine jct (pc' := 17) rfl rfl rfl (by rw [zc_ne ⟨by omega, by omega⟩ ⟨by omega, by omega⟩]; exact decide_eq_true (by omega)) ?_
    refine jx (pc' := 18) (L' := [_, _, _, _, _, _, _]) (st' := [.int (zI 0), _, _, _]) 1 rfl ?_
    refine t18 false ?_
    cases ha : atc tx sz 0 45
    · rfl
    · exact absurd (h45.mpr ha) h0
end REF
