/-! ===== the reference: the row ===== -/
theorem mod_s (V k : Nat) : V % 10 ^ (k + 1) = V / 10 ^ k % 10 * 10 ^ k + V % 10 ^ k := by
  rw [← v10_of V (k + 1), v10_s, v10_of]
  omega
theorem mod_up {V i k : Nat} (h : i ≤ k) (h0 : ¬ V % 10 ^ i = 0) : ¬ V % 10 ^ k = 0 := fun z => h0 (by
  have : 10 ^ i ∣ 10 ^ k := Nat.pow_dvd_pow 10 h
  rw [← Nat.mod_mod_of_dvd V this, z, Nat.zero_mod])
def gUp (m : Nat) (sg od : Bool) (d : Nat) (bh : Bool) : Bool := if m = 0 then (decide (5 < d) || (decide (d = 5) && (bh || od))) else if m = 1 then false else if m = 2 then (!sg && (decide (0 < d) || bh)) else if m = 3 then (sg && (decide (0 < d) || bh)) else decide (5 ≤ d)
theorem zrem {a b : Int} (ha : 0 ≤ a ∧ a < 2147483648) (hb : 0 < b ∧ b < 2147483648) : zI a - zI a / zI b * zI b = zI (a % b) := by
  obtain ⟨n, rfl⟩ := Int.eq_ofNat_of_zero_le ha.1
  obtain ⟨m, rfl⟩ := Int.eq_ofNat_of_zero_le (Int.le_of_lt hb.1)
  rw [← nz, ← nz, nI_rem (by omega) (by omega), nz]
  rfl
theorem zdiv {a b : Int} (ha : 0 ≤ a ∧ a < 2147483648) (hb : 0 < b ∧ b < 2147483648) : zI a / zI b = zI (a / b) := by
  obtain ⟨n, rfl⟩ := Int.eq_ofNat_of_zero_le ha.1
  obtain ⟨m, rfl⟩ := Int.eq_ofNat_of_zero_le (Int.le_of_lt hb.1)
  rw [← nz, ← nz, nI_div (by omega) (by omega), nz]
  rfl
section REF
variable {h : ix_H} {Q : ix_O → ix_H → Prop} {S0 : Nat → AC} {R : Nat → Dm} {V cd dr ra si tr : Nat} {mo ng : Bool} {sp sz wr : Nat} {il : Bool} {rs pt rl wo tx ou : Nat → Nat} {j x : Int} {r f s m : Nat} {b : Bool}
theorem m_empty (K : (RI S0 h R V cd dr ra si tr mo ng sp sz wr il rs pt rl wo tx ou)) (q : ∀ h', (RI S0 h' R (0) cd dr ra si tr (false) ng sp sz wr il rs pt rl wo tx ou) → Q (.inl none) h') : ix_M 204 [.ref 98] h Q := by
  have hv := K.vb
  have loop : ∀ n k : Nat, k + n = 25400 → ∀ h1, (RI S0 h1 R (V / 10 ^ k * 10 ^ k) cd dr ra si tr mo ng sp sz wr il rs pt rl wo tx ou) → ix_E 204 2 [some (.ref 98), some (.int (zI (k : Int)))] [] h1 Q := by
    intro n
    induction n with
    | zero =>
      intro k hk h K
      refine jx (pc' := 6) (L' := [_, _]) (st' := [.int (zI 25400), _]) 2 rfl ?_
      refine jct (pc' := 22) rfl rfl rfl (by rw [zc_ge ⟨by omega, by omega⟩ ⟨by omega, by omega⟩]; exact decide_eq_true (by omega)) ?_
      refine jx (pc' := 24) (L' := [_, _]) (st' := [.int (zI 0), _]) 2 rfl ?_
      refine jp_mo (pc' := 27) false K (by first | rfl | (congr 1; omega)) rfl rfl rfl rfl fun h K => ?_
      refine ix_qr _ rfl rfl rfl ?_
      rw [Nat.div_eq_of_lt (show V < 10 ^ k by rw [show k = aL by unfold aL; omega]; exact hv), Nat.zero_mul] at K
      exact q _ K
    | succ n ih =>
      intro k hk h K
      refine jx (pc' := 6) (L' := [_, _]) (st' := [.int (zI 25400), _]) 2 rfl ?_
      refine jcn (pc' := 9) 22 rfl rfl rfl rfl (by rw [zc_ge ⟨by omega, by omega⟩ ⟨by omega, by omega⟩]; exact decide_eq_false (by omega)) ?_
      refine jx (pc' := 10) (L' := [_, _]) (st' := [_]) 1 rfl ?_
      refine jgf (pc' := 13) K.ob rfl rfl rfl rfl rfl ?_
      refine jx (pc' := 15) (L' := [_, _]) (st' := [.int (zI 0), _, _]) 2 rfl ?_
      refine jW_r (pc' := 16) k 0 K (by first | rfl | (congr 1; omega)) rfl rfl (by omega) (by omega)  rfl (by omega) fun h K => ?_
      rw [sd_cl] at K
      refine jx (pc' := 2) (L' := [_, _]) (st' := []) 2 rfl ?_
      try simp (disch := omega) only [kz, kzl0, kzl1, kzb, kzs, zI_add, zI_sub, zI_neg, zI_mul, zL_i, zI_l, zL_add, zL_sub, zL_neg]
      rw [show (k : Int) + 1 = ((k + 1 : Nat) : Int) by omega]
      exact ih (k + 1) (by omega) _ K
  refine jx (pc' := 2) (L' := [_, _]) (st' := []) 2 rfl ?_
  try simp (disch := omega) only [kz, kzl0, kzl1, kzb, kzs, zI_add, zI_sub, zI_neg, zI_mul, zL_i, zI_l, zL_add, zL_sub, zL_neg]
  refine loop 25400 0 (by omega) h ?_
  rw [Nat.pow_zero, Nat.div_one, Nat.mul_one]
  exact K
theorem m_first (K : (RI S0 h R V cd dr ra si tr mo ng sp sz wr il rs pt rl wo tx ou)) (q : dgs V ≤ 25400 → Q (.inl (some (.int (zI ((dgs V : Int) - 1))))) h) : ix_M 211 [.ref 98] h Q := by
  have hv := K.vb
  have loop : ∀ n : Nat, n ≤ 25400 → V < 10 ^ n → ix_E 211 4 [some (.ref 98), some (.int (zI ((n : Int) - 1)))] [] h Q := by
    intro n
    induction n with
    | zero =>
      intro _ hc
      refine jx (pc' := 5) (L' := [_, _]) (st' := [_]) 1 rfl ?_
      refine jit (pc' := 23) rfl rfl rfl (by rw [zz_lt ⟨by omega, by omega⟩]; exact decide_eq_true (by omega)) ?_
      refine jx (pc' := 24) (L' := [_, _]) (st' := [_]) 1 rfl ?_
      refine jri rfl rfl ?_
      have : dgs V = 0 := dgs_0 (by omega)
      rw [this] at q
      exact q (by omega)
    | succ n ih =>
      intro hn hc
      refine jx (pc' := 5) (L' := [_, _]) (st' := [_]) 1 rfl ?_
      refine jin (pc' := 8) 23 rfl rfl rfl rfl (by rw [zz_lt ⟨by omega, by omega⟩]; exact decide_eq_false (by omega)) ?_
      refine jx (pc' := 9) (L' := [_, _]) (st' := [_]) 1 rfl ?_
      refine jgf (pc' := 12) K.ob rfl rfl rfl rfl rfl ?_
      refine jx (pc' := 13) (L' := [_, _]) (st' := [_, _]) 1 rfl ?_
      refine jR_r (pc' := 14) n K rfl rfl (by omega) (by omega)  rfl ?_
      have hb := dg_b V n
      by_cases h0 : V / 10 ^ n % 10 = 0
      · skip
        refine jin (pc' := 17) 23 rfl rfl rfl rfl (by rw [zz_ne ⟨by omega, by omega⟩]; exact decide_eq_false (by omega)) ?_
        refine jx (pc' := 4) (L' := [_, _]) (st' := []) 2 rfl ?_
        try simp (disch := omega) only [kz, kzl0, kzl1, kzb, kzs, zI_add, zI_sub, zI_neg, zI_mul, zL_i, zI_l, zL_add, zL_sub, zL_neg]
        rw [show ((n + 1 : Nat) : Int) - 1 + -1 = (n : Int) - 1 by omega]
        exact ih (by omega) (dg_0 hc h0)
      · skip
        refine jit (pc' := 23) rfl rfl rfl (by rw [zz_ne ⟨by omega, by omega⟩]; exact decide_eq_true (by omega)) ?_
        refine jx (pc' := 24) (L' := [_, _]) (st' := [_]) 1 rfl ?_
        refine jri rfl rfl ?_
        have h1 := dgs_gt (dg_n h0)
        have h2 := dgs_le hc
        rw [show dgs V = n + 1 by omega] at q
        exact q hn
  refine jx (pc' := 4) (L' := [_, _]) (st' := []) 2 rfl ?_
  try simp (disch := omega) only [kz, kzl0, kzl1, kzb, kzs, zI_add, zI_sub, zI_neg, zI_mul, zL_i, zI_l, zL_add, zL_sub, zL_neg]
  exact loop 25400 (by omega) hv
theorem m_last (K : (RI S0 h R V cd dr ra si tr mo ng sp sz wr il rs pt rl wo tx ou)) (q : tz V ≤ 25400 → Q (.inl (some (.int (zI (if V = 0 then 25400 else (tz V : Int)))))) h) : ix_M 213 [.ref 98] h Q := by
  have hv := K.vb
  have loop : ∀ n k : Nat, k + n = 25400 → V % 10 ^ k = 0 → ix_E 213 2 [some (.ref 98), some (.int (zI (k : Int)))] [] h Q := by
    intro n
    induction n with
    | zero =>
      intro k hk hz
      refine jx (pc' := 6) (L' := [_, _]) (st' := [.int (zI 25400), _]) 2 rfl ?_
      refine jct (pc' := 24) rfl rfl rfl (by rw [zc_ge ⟨by omega, by omega⟩ ⟨by omega, by omega⟩]; exact decide_eq_true (by omega)) ?_
      refine jx (pc' := 25) (L' := [_, _]) (st' := [_]) 1 rfl ?_
      refine jri rfl rfl ?_
      have : V = 0 := by rw [Nat.mod_eq_of_lt (show V < 10 ^ k by rw [show k = aL by unfold aL; omega]; exact hv)] at hz; exact hz
      rw [if_pos this, tz_0 this] at q
      rw [show (k : Int) = 25400 by omega]
      exact q (by omega)
    | succ n ih =>
      intro k hk hz
      have hb := dg_b V k
      refine jx (pc' := 6) (L' := [_, _]) (st' := [.int (zI 25400), _]) 2 rfl ?_
      refine jcn (pc' := 9) 24 rfl rfl rfl rfl (by rw [zc_ge ⟨by omega, by omega⟩ ⟨by omega, by omega⟩]; exact decide_eq_false (by omega)) ?_
      refine jx (pc' := 10) (L' := [_, _]) (st' := [_]) 1 rfl ?_
      refine jgf (pc' := 13) K.ob rfl rfl rfl rfl rfl ?_
      refine jx (pc' := 14) (L' := [_, _]) (st' := [_, _]) 1 rfl ?_
      refine jR_r (pc' := 15) k K rfl rfl (by omega) (by omega)  rfl ?_
      by_cases h0 : V / 10 ^ k % 10 = 0
      · skip
        refine jin (pc' := 18) 24 rfl rfl rfl rfl (by rw [zz_ne ⟨by omega, by omega⟩]; exact decide_eq_false (by omega)) ?_
        refine jx (pc' := 2) (L' := [_, _]) (st' := []) 2 rfl ?_
        try simp (disch := omega) only [kz, kzl0, kzl1, kzb, kzs, zI_add, zI_sub, zI_neg, zI_mul, zL_i, zI_l, zL_add, zL_sub, zL_neg]
        rw [show (k : Int) + 1 = ((k + 1 : Nat) : Int) by omega]
        exact ih (k + 1) (by omega) (by rw [mod_s, h0, hz, Nat.zero_mul])
      · skip
        refine jit (pc' := 24) rfl rfl rfl (by rw [zz_ne ⟨by omega, by omega⟩]; exact decide_eq_true (by omega)) ?_
        refine jx (pc' := 25) (L' := [_, _]) (st' := [_]) 1 rfl ?_
        refine jri rfl rfl ?_
        have hn0 : ¬ V = 0 := fun z => h0 (by rw [z, Nat.zero_div])
        have hk : k = tz V := tz_eq (fun z => absurd z hn0) (Nat.dvd_of_mod_eq_zero hz) fun _ hd => by
          have := Nat.mod_eq_zero_of_dvd hd
          rw [mod_s, hz] at this
          have h1 := pp0 k
          have h2 : 1 * 10 ^ k ≤ V / 10 ^ k % 10 * 10 ^ k := Nat.mul_le_mul_right _ (by omega)
          omega
        rw [if_neg hn0, ← hk] at q
        exact q (by omega)
  refine jx (pc' := 2) (L' := [_, _]) (st' := []) 2 rfl ?_
  try simp (disch := omega) only [kz, kzl0, kzl1, kzb, kzs, zI_add, zI_sub, zI_neg, zI_mul, zL_i, zI_l, zL_add, zL_sub, zL_neg]
  exact loop 25400 0 (by omega) (by rw [Nat.pow_zero, Nat.mod_one])
theorem m_behind {k0 : Int} {k : Nat} (K : (RI S0 h R V cd dr ra si tr mo ng sp sz wr il rs pt rl wo tx ou)) (hk0 : k0 = (k : Int)) (hk : k ≤ 25400) (q : Q (.inl (some (.int (bI (mo || decide (¬ V % 10 ^ k = 0)))))) h) : ix_M 215 [.ref 98, .int (zI k0)] h Q := by
  subst hk0
  have loop : ∀ n i : Nat, i + n = k → ix_E 215 7 [some (.ref 98), some (.int (zI (k : Int))), some (.int (bI (mo || decide (¬ V % 10 ^ i = 0)))), some (.int (zI (i : Int)))] [] h Q := by
    intro n
    induction n with
    | zero =>
      intro i hi
      obtain rfl : i = k := by omega
      refine jx (pc' := 9) (L' := [_, _, _, _]) (st' := [_, _]) 2 rfl ?_
      refine jct (pc' := 37) rfl rfl rfl (by rw [zc_ge ⟨by omega, by omega⟩ ⟨by omega, by omega⟩]; exact decide_eq_true (by omega)) ?_
      refine jx (pc' := 38) (L' := [_, _, _, _]) (st' := [_]) 1 rfl ?_
      exact jrb rfl rfl q
    | succ n ih =>
      intro i hi
      have hb := dg_b V i
      refine jx (pc' := 9) (L' := [_, _, _, _]) (st' := [_, _]) 2 rfl ?_
      refine jcn (pc' := 12) 37 rfl rfl rfl rfl (by rw [zc_ge ⟨by omega, by omega⟩ ⟨by omega, by omega⟩]; exact decide_eq_false (by omega)) ?_
      refine jx (pc' := 13) (L' := [_, _, _, _]) (st' := [_]) 1 rfl ?_
      by_cases h0 : (mo || decide (¬ V % 10 ^ i = 0)) = true
      · skip
        refine jit (pc' := 37) rfl rfl rfl (by rw [h0]; rfl) ?_
        refine jx (pc' := 38) (L' := [_, _, _, _]) (st' := [_]) 1 rfl ?_
        have e : (mo || decide (¬ V % 10 ^ k = 0)) = true := by
          rw [Bool.or_eq_true] at h0 ⊢
          exact h0.imp id fun z => decide_eq_true (mod_up (by omega) (of_decide_eq_true z))
        rw [e] at q
        rw [h0]
        exact jrb rfl rfl q
      · have h0' : (mo || decide (¬ V % 10 ^ i = 0)) = false := by cases hh : (mo || decide (¬ V % 10 ^ i = 0)) <;> simp_all
        have hm : mo = false ∧ V % 10 ^ i = 0 := by simpa using h0'
        refine jin (pc' := 16) 37 rfl rfl rfl rfl (by rw [h0']; rfl) ?_
        refine jx (pc' := 17) (L' := [_, _, _, _]) (st' := [_]) 1 rfl ?_
        refine jgf (pc' := 20) K.ob rfl rfl rfl rfl rfl ?_
        refine jx (pc' := 21) (L' := [_, _, _, _]) (st' := [_, _]) 1 rfl ?_
        refine jR_r (pc' := 22) i K rfl rfl (by omega) (by omega)  rfl ?_
        by_cases h1 : V / 10 ^ i % 10 = 0
        · skip
          refine jit (pc' := 29) rfl rfl rfl (by rw [zz_eq ⟨by omega, by omega⟩]; exact decide_eq_true (by omega)) ?_
          refine jx (pc' := 7) (L' := [_, _, _, _]) (st' := []) 4 rfl ?_
          try simp (disch := omega) only [kz, kzl0, kzl1, kzb, kzs, zI_add, zI_sub, zI_neg, zI_mul, zL_i, zI_l, zL_add, zL_sub, zL_neg]
          have := ih (i + 1) (by omega)
          have e : (mo || decide (¬ V % 10 ^ (i + 1) = 0)) = false := by rw [mod_s, h1, hm.2, hm.1, Nat.zero_mul]; rfl
          rw [e] at this
          rw [show (i : Int) + 1 = ((i + 1 : Nat) : Int) by omega]
          exact this
        · skip
          refine jin (pc' := 25) 29 rfl rfl rfl rfl (by rw [zz_eq ⟨by omega, by omega⟩]; exact decide_eq_false (by omega)) ?_
          refine jx (pc' := 7) (L' := [_, _, _, _]) (st' := []) 5 rfl ?_
          try simp (disch := omega) only [kz, kzl0, kzl1, kzb, kzs, zI_add, zI_sub, zI_neg, zI_mul, zL_i, zI_l, zL_add, zL_sub, zL_neg]
          have := ih (i + 1) (by omega)
          have e : ¬ V % 10 ^ (i + 1) = 0 := fun z => by
            rw [mod_s, hm.2] at z
            have h1 := pp0 i
            have h2 : 1 * 10 ^ i ≤ V / 10 ^ i % 10 * 10 ^ i := Nat.mul_le_mul_right _ (by omega)
            omega
          rw [decide_eq_true e, Bool.or_true] at this
          rw [show (i : Int) + 1 = ((i + 1 : Nat) : Int) by omega]
          exact this
  refine jx (pc' := 1) (L' := [_, _, _, _]) (st' := [_]) 1 rfl ?_
  refine jgf (pc' := 4) K.ob rfl rfl rfl rfl rfl ?_
  refine jx (pc' := 7) (L' := [_, _, _, _]) (st' := []) 3 rfl ?_
  try simp (disch := omega) only [kz, kzl0, kzl1, kzb, kzs, zI_add, zI_sub, zI_neg, zI_mul, zL_i, zI_l, zL_add, zL_sub, zL_neg]
  have := loop k 0 (by omega)
  rw [Nat.pow_zero, Nat.mod_one] at this
  simpa using this
theorem m_goesUp {m0 d0 : Int} {sg od bh : Bool} {d : Nat} (hm0 : m0 = (m : Int)) (hd0 : d0 = (d : Int)) (hm : m < 5) (hd : d < 10) (q : Q (.inl (some (.int (bI (gUp m sg od d bh))))) h) : ix_M 216 [.int (zI m0), .int (bI sg), .int (bI od), .int (zI d0), .int (bI bh)] h Q := by
  subst hm0
  subst hd0
  have hc : m = 0 ∨ m = 1 ∨ m = 2 ∨ m = 3 ∨ m = 4 := by omega
  rcases hc with rfl | rfl | rfl | rfl | rfl
  · have e : gUp 0 sg od d bh = (decide (5 < d) || (decide (d = 5) && (bh || od))) := rfl
    rw [e] at q
    refine jx (pc' := 1) (L' := [_, _, _, _, _]) (st' := [_]) 1 rfl ?_
    refine jx (pc' := 32) (L' := [_, _, _, _, _]) (st' := []) 1 rfl ?_
    refine jx (pc' := 34) (L' := [_, _, _, _, _]) (st' := [.int (zI 5), _]) 2 rfl ?_
    by_cases h1 : 5 < d
    · rw [decide_eq_true h1] at q
      refine jct (pc' := 51) rfl rfl rfl (by rw [zc_gt ⟨by omega, by omega⟩ ⟨by omega, by omega⟩]; exact decide_eq_true (by omega)) ?_
      refine jx (pc' := 56) (L' := [_, _, _, _, _]) (st' := [.int (zI 1)]) 2 rfl ?_
      exact jrb rfl rfl q
    · rw [decide_eq_false h1] at q
      refine jcn (pc' := 37) 51 rfl rfl rfl rfl (by rw [zc_gt ⟨by omega, by omega⟩ ⟨by omega, by omega⟩]; exact decide_eq_false (by omega)) ?_
      refine jx (pc' := 39) (L' := [_, _, _, _, _]) (st' := [.int (zI 5), _]) 2 rfl ?_
      by_cases h2 : d = 5
      · rw [decide_eq_true h2] at q
        refine jcn (pc' := 42) 55 rfl rfl rfl rfl (by rw [zc_ne ⟨by omega, by omega⟩ ⟨by omega, by omega⟩]; exact decide_eq_false (by omega)) ?_
        refine jx (pc' := 44) (L' := [_, _, _, _, _]) (st' := [_]) 1 rfl ?_
        cases bh
        · skip
          refine jin (pc' := 47) 51 rfl rfl rfl rfl (by rfl) ?_
          refine jx (pc' := 48) (L' := [_, _, _, _, _]) (st' := [_]) 1 rfl ?_
          cases od
          · skip
            refine jit (pc' := 55) rfl rfl rfl (by rfl) ?_
            refine jx (pc' := 56) (L' := [_, _, _, _, _]) (st' := [.int (zI 0)]) 1 rfl ?_
            exact jrb rfl rfl q
          · skip
            refine jin (pc' := 51) 55 rfl rfl rfl rfl (by rfl) ?_
            refine jx (pc' := 56) (L' := [_, _, _, _, _]) (st' := [.int (zI 1)]) 2 rfl ?_
            exact jrb rfl rfl q
        · skip
          refine jit (pc' := 51) rfl rfl rfl (by rfl) ?_
          refine jx (pc' := 56) (L' := [_, _, _, _, _]) (st' := [.int (zI 1)]) 2 rfl ?_
          exact jrb rfl rfl q
      · rw [decide_eq_false h2] at q
        refine jct (pc' := 55) rfl rfl rfl (by rw [zc_ne ⟨by omega, by omega⟩ ⟨by omega, by omega⟩]; exact decide_eq_true (by omega)) ?_
        refine jx (pc' := 56) (L' := [_, _, _, _, _]) (st' := [.int (zI 0)]) 1 rfl ?_
        exact jrb rfl rfl q
  · skip
    refine jx (pc' := 1) (L' := [_, _, _, _, _]) (st' := [_]) 1 rfl ?_
    refine jx (pc' := 57) (L' := [_, _, _, _, _]) (st' := []) 1 rfl ?_
    refine jx (pc' := 58) (L' := [_, _, _, _, _]) (st' := [.int (zI 0)]) 1 rfl ?_
    exact jrb (b := false) rfl rfl q
  · have e : gUp 2 sg od d bh = (!sg && (decide (0 < d) || bh)) := rfl
    rw [e] at q
    refine jx (pc' := 1) (L' := [_, _, _, _, _]) (st' := [_]) 1 rfl ?_
    refine jx (pc' := 59) (L' := [_, _, _, _, _]) (st' := []) 1 rfl ?_
    refine jx (pc' := 60) (L' := [_, _, _, _, _]) (st' := [_]) 1 rfl ?_
    cases sg
    · skip
      refine jin (pc' := 63) 76 rfl rfl rfl rfl (by rfl) ?_
      refine jx (pc' := 64) (L' := [_, _, _, _, _]) (st' := [_]) 1 rfl ?_
      by_cases h1 : 0 < d
      · rw [decide_eq_true h1] at q
        refine jit (pc' := 72) rfl rfl rfl (by rw [zz_gt ⟨by omega, by omega⟩]; exact decide_eq_true (by omega)) ?_
        refine jx (pc' := 77) (L' := [_, _, _, _, _]) (st' := [.int (zI 1)]) 2 rfl ?_
        exact jrb rfl rfl q
      · rw [decide_eq_false h1] at q
        refine jin (pc' := 67) 72 rfl rfl rfl rfl (by rw [zz_gt ⟨by omega, by omega⟩]; exact decide_eq_false (by omega)) ?_
        refine jx (pc' := 69) (L' := [_, _, _, _, _]) (st' := [_]) 1 rfl ?_
        cases bh
        · skip
          refine jit (pc' := 76) rfl rfl rfl (by rfl) ?_
          refine jx (pc' := 77) (L' := [_, _, _, _, _]) (st' := [.int (zI 0)]) 1 rfl ?_
          exact jrb rfl rfl q
        · skip
          refine jin (pc' := 72) 76 rfl rfl rfl rfl (by rfl) ?_
          refine jx (pc' := 77) (L' := [_, _, _, _, _]) (st' := [.int (zI 1)]) 2 rfl ?_
          exact jrb rfl rfl q
    · skip
      refine jit (pc' := 76) rfl rfl rfl (by rfl) ?_
      refine jx (pc' := 77) (L' := [_, _, _, _, _]) (st' := [.int (zI 0)]) 1 rfl ?_
      exact jrb rfl rfl q
  · have e : gUp 3 sg od d bh = (sg && (decide (0 < d) || bh)) := rfl
    rw [e] at q
    refine jx (pc' := 1) (L' := [_, _, _, _, _]) (st' := [_]) 1 rfl ?_
    refine jx (pc' := 78) (L' := [_, _, _, _, _]) (st' := []) 1 rfl ?_
    refine jx (pc' := 79) (L' := [_, _, _, _, _]) (st' := [_]) 1 rfl ?_
    cases sg
    · skip
      refine jit (pc' := 95) rfl rfl rfl (by rfl) ?_
      refine jx (pc' := 96) (L' := [_, _, _, _, _]) (st' := [.int (zI 0)]) 1 rfl ?_
      exact jrb rfl rfl q
    · skip
      refine jin (pc' := 82) 95 rfl rfl rfl rfl (by rfl) ?_
      refine jx (pc' := 83) (L' := [_, _, _, _, _]) (st' := [_]) 1 rfl ?_
      by_cases h1 : 0 < d
      · rw [decide_eq_true h1] at q
        refine jit (pc' := 91) rfl rfl rfl (by rw [zz_gt ⟨by omega, by omega⟩]; exact decide_eq_true (by omega)) ?_
        refine jx (pc' := 96) (L' := [_, _, _, _, _]) (st' := [.int (zI 1)]) 2 rfl ?_
        exact jrb rfl rfl q
      · rw [decide_eq_false h1] at q
        refine jin (pc' := 86) 91 rfl rfl rfl rfl (by rw [zz_gt ⟨by omega, by omega⟩]; exact decide_eq_false (by omega)) ?_
        refine jx (pc' := 88) (L' := [_, _, _, _, _]) (st' := [_]) 1 rfl ?_
        cases bh
        · skip
          refine jit (pc' := 95) rfl rfl rfl (by rfl) ?_
          refine jx (pc' := 96) (L' := [_, _, _, _, _]) (st' := [.int (zI 0)]) 1 rfl ?_
          exact jrb rfl rfl q
        · skip
          refine jin (pc' := 91) 95 rfl rfl rfl rfl (by rfl) ?_
          refine jx (pc' := 96) (L' := [_, _, _, _, _]) (st' := [.int (zI 1)]) 2 rfl ?_
          exact jrb rfl rfl q
  · have e : gUp 4 sg od d bh = decide (5 ≤ d) := rfl
    rw [e] at q
    refine jx (pc' := 1) (L' := [_, _, _, _, _]) (st' := [_]) 1 rfl ?_
    refine jx (pc' := 97) (L' := [_, _, _, _, _]) (st' := []) 1 rfl ?_
    refine jx (pc' := 99) (L' := [_, _, _, _, _]) (st' := [.int (zI 5), _]) 2 rfl ?_
    by_cases h1 : 5 ≤ d
    · rw [decide_eq_true h1] at q
      refine jcn (pc' := 102) 106 rfl rfl rfl rfl (by rw [zc_lt ⟨by omega, by omega⟩ ⟨by omega, by omega⟩]; exact decide_eq_false (by omega)) ?_
      refine jx (pc' := 107) (L' := [_, _, _, _, _]) (st' := [.int (zI 1)]) 2 rfl ?_
      exact jrb rfl rfl q
    · rw [decide_eq_false h1] at q
      refine jct (pc' := 106) rfl rfl rfl (by rw [zc_lt ⟨by omega, by omega⟩ ⟨by omega, by omega⟩]; exact decide_eq_true (by omega)) ?_
      refine jx (pc' := 107) (L' := [_, _, _, _, _]) (st' := [.int (zI 0)]) 1 rfl ?_
      exact jrb rfl rfl q
/-- lay: on an empty row -/
theorem m_lay {q0 : Int} (K : (RI S0 h R (0) cd dr ra si tr mo ng sp sz wr il rs pt rl wo tx ou)) (hj : j = (r : Int)) (hr : r < 12) (u : Nat) (hu : (u : Int) = 12500 + q0) (hq : u + dgs (R r).2.2.2.2 ≤ 25400) (q : ∀ h', (RI S0 h' R ((R r).2.2.2.2 * 10 ^ u) cd dr ra si tr mo ng sp sz wr il rs pt rl wo tx ou) → Q (.inl none) h') : ix_M 205 [.ref 98, .int (zI j), .int (zI q0)] h Q := by
  subst hj
  have hv := (K.rv hr).2.2.2.2
  have loop : ∀ n k : Nat, k + n = 40 → ∀ h1, (RI S0 h1 R ((R r).2.2.2.2 % 10 ^ k * 10 ^ u) cd dr ra si tr mo ng sp sz wr il rs pt rl wo tx ou) → ix_E 205 2 [some (.ref 98), some (.int (zI (r : Int))), some (.int (zI q0)), some (.int (zI (k : Int)))] [] h1 Q := by
    intro n
    induction n with
    | zero =>
      intro k hk h K
      refine jx (pc' := 5) (L' := [_, _, _, _]) (st' := [.int (zI 40), _]) 2 rfl ?_
      refine jct (pc' := 41) rfl rfl rfl (by rw [zc_ge ⟨by omega, by omega⟩ ⟨by omega, by omega⟩]; exact decide_eq_true (by omega)) ?_
      refine ix_qr _ rfl rfl rfl ?_
      obtain rfl : k = 40 := by omega
      rw [Nat.mod_eq_of_lt hv] at K
      exact q _ K
    | succ n ih =>
      intro k hk h K
      have hb := dg_b (R r).2.2.2.2 k
      have hat : atD (R r).2.2.2.2 (k : Int) = (R r).2.2.2.2 / 10 ^ k % 10 := by unfold atD; rw [if_neg (by omega)]; rfl
      refine jx (pc' := 5) (L' := [_, _, _, _]) (st' := [.int (zI 40), _]) 2 rfl ?_
      refine jcn (pc' := 8) 41 rfl rfl rfl rfl (by rw [zc_ge ⟨by omega, by omega⟩ ⟨by omega, by omega⟩]; exact decide_eq_false (by omega)) ?_
      refine jx (pc' := 11) (L' := [_, _, _, _]) (st' := [_, _, _]) 3 rfl ?_
      refine jcv (pc' := 14) 198 [_, _] [] K.ob rfl rfl rfl rfl rfl rfl rfl rfl ?_
      refine m_at K rfl hr ⟨by omega, by omega⟩ (jk ?_)
      rw [hat]
      by_cases h0 : (R r).2.2.2.2 / 10 ^ k % 10 = 0
      · skip
        refine jit (pc' := 35) rfl rfl rfl (by rw [zz_eq ⟨by omega, by omega⟩]; exact decide_eq_true (by omega)) ?_
        refine jx (pc' := 2) (L' := [_, _, _, _]) (st' := []) 2 rfl ?_
        try simp (disch := omega) only [kz, kzl0, kzl1, kzb, kzs, zI_add, zI_sub, zI_neg, zI_mul, zL_i, zI_l, zL_add, zL_sub, zL_neg]
        have e : (R r).2.2.2.2 % 10 ^ k * 10 ^ u = (R r).2.2.2.2 % 10 ^ (k + 1) * 10 ^ u := by rw [mod_s, h0, Nat.zero_mul, Nat.zero_add]
        rw [e] at K
        rw [show (k : Int) + 1 = ((k + 1 : Nat) : Int) by omega]
        exact ih (k + 1) (by omega) _ K
      · have h1 := dgs_gt (dg_n h0)
        refine jin (pc' := 17) 35 rfl rfl rfl rfl (by rw [zz_eq ⟨by omega, by omega⟩]; exact decide_eq_false (by omega)) ?_
        refine jx (pc' := 18) (L' := [_, _, _, _]) (st' := [_]) 1 rfl ?_
        refine jgf (pc' := 21) K.ob rfl rfl rfl rfl rfl ?_
        refine jx (pc' := 31) (L' := [_, _, _, _]) (st' := [_, _, _, _, _]) 8 rfl ?_
        try simp (disch := omega) only [kz, kzl0, kzl1, kzb, kzs, zI_add, zI_sub, zI_neg, zI_mul, zL_i, zI_l, zL_add, zL_sub, zL_neg]
        refine jcv (pc' := 34) 198 [_, _] [_, _] K.ob rfl rfl rfl rfl rfl rfl rfl rfl ?_
        refine m_at K rfl hr ⟨by omega, by omega⟩ (jk ?_)
        rw [hat]
        refine jW_r (pc' := 35) ((u+k)) (((R r).2.2.2.2/10^k%10)) K (by first | rfl | (congr 1; omega)) rfl rfl (by omega) (by omega)  rfl (by omega) fun h K => ?_
        have e : sd ((R r).2.2.2.2 % 10 ^ k * 10 ^ u) (u + k) ((R r).2.2.2.2 / 10 ^ k % 10) = (R r).2.2.2.2 % 10 ^ (k + 1) * 10 ^ u := by
          have hm := Nat.mod_lt (R r).2.2.2.2 (pp0 k)
          have hl : (R r).2.2.2.2 % 10 ^ k * 10 ^ u < 10 ^ (u + k) := by
            rw [Nat.add_comm, Nat.pow_add]
            exact Nat.mul_lt_mul_of_pos_right hm (pp0 u)
          have hl2 := Nat.lt_of_lt_of_le hl (pl (show u + k ≤ u + k + 1 by omega))
          unfold sd
          rw [Nat.div_eq_of_lt hl2, Nat.mod_eq_of_lt hl, mod_s, Nat.add_mul, Nat.zero_mul, Nat.zero_add, Nat.mul_assoc, ← Nat.pow_add, Nat.add_comm k u]
        rw [e] at K
        refine jx (pc' := 2) (L' := [_, _, _, _]) (st' := []) 2 rfl ?_
        try simp (disch := omega) only [kz, kzl0, kzl1, kzb, kzs, zI_add, zI_sub, zI_neg, zI_mul, zL_i, zI_l, zL_add, zL_sub, zL_neg]
        rw [show (k : Int) + 1 = ((k + 1 : Nat) : Int) by omega]
        exact ih (k + 1) (by omega) _ K
  refine jx (pc' := 2) (L' := [_, _, _, _]) (st' := []) 2 rfl ?_
  try simp (disch := omega) only [kz, kzl0, kzl1, kzb, kzs, zI_add, zI_sub, zI_neg, zI_mul, zL_i, zI_l, zL_add, zL_sub, zL_neg]
  refine loop 40 0 (by omega) h ?_
  rw [Nat.pow_zero, Nat.mod_one, Nat.zero_mul]
  exact K
/-- turnRound -/
theorem tr_s (V k d : Nat) (hd : V / 10 ^ k % 10 = d) (z : Nat) (hz : z = if V % 10 ^ k = 0 then (10 - d) % 10 else 9 - d) : sd (V / 10 ^ k * 10 ^ k + (10 ^ k - V % 10 ^ k) % 10 ^ k) k z = V / 10 ^ (k + 1) * 10 ^ (k + 1) + (10 ^ (k + 1) - V % 10 ^ (k + 1)) % 10 ^ (k + 1) := by
  have h1 := Nat.mod_lt V (pp0 k)
  have h2 := Nat.mod_lt (10 ^ k - V % 10 ^ k) (pp0 k)
  have hp := pp0 k
  have hd10 := dg_b V k
  have hb := sd_b (k := k) V hd10
  rw [hd] at hb hd10
  have e1 := mod_s V k
  rw [hd] at e1
  unfold sd
  rw [dgh _ h2 (by omega), show k + 1 - k = 1 by omega, Nat.pow_one, Nat.add_comm (V / 10 ^ k * 10 ^ k), Nat.add_mul_mod_self_right, Nat.mod_mod, Nat.div_div_eq_div_mul, ← Nat.pow_succ, Nat.add_assoc]
  congr 1
  rw [e1]
  by_cases h0 : V % 10 ^ k = 0
  · rw [if_pos h0] at hz
    rw [h0, Nat.sub_zero, Nat.mod_self, Nat.add_zero, Nat.add_zero]
    by_cases d0 : d = 0
    · subst d0
      rw [hz, Nat.zero_mul, Nat.sub_zero, Nat.mod_self]
    · have hz' : z = 10 - d := by omega
      rw [hz']
      have e3 : (10 - d) * 10 ^ k + d * 10 ^ k = 10 ^ (k + 1) := by rw [← Nat.add_mul, show 10 - d + d = 10 by omega, Nat.pow_succ, Nat.mul_comm]
      have e4 : 1 * 10 ^ k ≤ d * 10 ^ k := Nat.mul_le_mul_right _ (by omega)
      rw [Nat.mod_eq_of_lt (by omega)]
      omega
  · rw [if_neg h0] at hz
    rw [Nat.mod_eq_of_lt (a := 10 ^ k - V % 10 ^ k) (by omega)]
    have e3 : (9 - d) * 10 ^ k + d * 10 ^ k + 10 ^ k = 10 ^ (k + 1) := by rw [← Nat.add_mul, show 9 - d + d = 9 by omega, Nat.pow_succ]; omega
    clear h2 hb e1
    generalize V % 10 ^ k = x at *
    rw [hz, Nat.mod_eq_of_lt (show 10 ^ (k + 1) - (d * 10 ^ k + x) < 10 ^ (k + 1) by omega)]
    omega
theorem m_turnRound (K : (RI S0 h R V cd dr ra si tr mo ng sp sz wr il rs pt rl wo tx ou)) (q : ∀ h', (RI S0 h' R ((10 ^ aL - V) % 10 ^ aL) cd dr ra si tr mo (!ng) sp sz wr il rs pt rl wo tx ou) → Q (.inl none) h') : ix_M 207 [.ref 98] h Q := by
  have hv := K.vb
  have loop : ∀ n k : Nat, k + n = 25400 → ∀ h1 (w : Int32), (RI S0 h1 R (V / 10 ^ k * 10 ^ k + (10 ^ k - V % 10 ^ k) % 10 ^ k) cd dr ra si tr mo ng sp sz wr il rs pt rl wo tx ou) → ∀ l3, ix_E 207 4 [some (.ref 98), some (.int (bI (decide (V % 10 ^ k = 0)))), some (.int (zI (k : Int))), l3] [] h1 Q := by
    intro n
    induction n with
    | zero =>
      intro k hk h w K l3
      refine jx (pc' := 8) (L' := [_, _, _, _]) (st' := [.int (zI 25400), _]) 2 rfl ?_
      refine jct (pc' := 62) rfl rfl rfl (by rw [zc_ge ⟨by omega, by omega⟩ ⟨by omega, by omega⟩]; exact decide_eq_true (by omega)) ?_
      refine jx (pc' := 64) (L' := [_, _, _, _]) (st' := [_, _]) 2 rfl ?_
      refine jgf (pc' := 67) K.ob rfl rfl rfl rfl rfl ?_
      have hk' : k = aL := by unfold aL; omega
      subst hk'
      rw [Nat.div_eq_of_lt hv, Nat.zero_mul, Nat.zero_add, Nat.mod_eq_of_lt hv] at K
      cases ng
      · skip
        refine jin (pc' := 70) 74 rfl rfl rfl rfl (by rfl) ?_
        refine jx (pc' := 75) (L' := [_, _, _, _]) (st' := [.int (zI 1), _]) 2 rfl ?_
        refine jp_ng (pc' := 78) true K (by first | rfl | (congr 1; omega)) rfl rfl rfl rfl fun h K => ?_
        refine ix_qr _ rfl rfl rfl ?_
        exact q _ K
      · skip
        refine jit (pc' := 74) rfl rfl rfl (by rfl) ?_
        refine jx (pc' := 75) (L' := [_, _, _, _]) (st' := [.int (zI 0), _]) 1 rfl ?_
        refine jp_ng (pc' := 78) false K (by first | rfl | (congr 1; omega)) rfl rfl rfl rfl fun h K => ?_
        refine ix_qr _ rfl rfl rfl ?_
        exact q _ K
    | succ n ih =>
      intro k hk h w K l3
      have hb := dg_b V k
      have ed : (V / 10 ^ k * 10 ^ k + (10 ^ k - V % 10 ^ k) % 10 ^ k) / 10 ^ k % 10 = V / 10 ^ k % 10 := by
        rw [dgh _ (Nat.mod_lt _ (pp0 k)) (Nat.le_refl k), Nat.sub_self, Nat.pow_zero, Nat.div_one]
      refine jx (pc' := 8) (L' := [_, _, _, _]) (st' := [.int (zI 25400), _]) 2 rfl ?_
      refine jcn (pc' := 11) 62 rfl rfl rfl rfl (by rw [zc_ge ⟨by omega, by omega⟩ ⟨by omega, by omega⟩]; exact decide_eq_false (by omega)) ?_
      refine jx (pc' := 12) (L' := [_, _, _, _]) (st' := [_]) 1 rfl ?_
      refine jgf (pc' := 15) K.ob rfl rfl rfl rfl rfl ?_
      refine jx (pc' := 16) (L' := [_, _, _, _]) (st' := [_, _]) 1 rfl ?_
      refine jR_r (pc' := 17) k K rfl rfl (by omega) (by omega)  rfl ?_
      rw [ed]
      refine jx (pc' := 19) (L' := [_, _, _, _]) (st' := [_]) 2 rfl ?_
      refine jgf (pc' := 22) K.ob rfl rfl rfl rfl rfl ?_
      refine jx (pc' := 24) (L' := [_, _, _, _]) (st' := [_, _, _]) 2 rfl ?_
      by_cases h0 : V % 10 ^ k = 0
      · rw [decide_eq_true h0]
        refine jin (pc' := 27) 37 rfl rfl rfl rfl (by rfl) ?_
        refine jx (pc' := 33) (L' := [_, _, _, _]) (st' := [.int (zI 10), _, _, _]) 4 rfl ?_
        try simp (disch := omega) only [kz, kzl0, kzl1, kzb, kzs, zI_add, zI_sub, zI_neg, zI_mul, zL_i, zI_l, zL_add, zL_sub, zL_neg]
        refine jirem (pc' := 34) rfl rfl (by decide) rfl ?_
        rw [zrem ⟨by omega, by omega⟩ ⟨by omega, by omega⟩]
        refine jx (pc' := 41) (L' := [_, _, _, _]) (st' := [_, _, _]) 1 rfl ?_
        refine jW_r (pc' := 42) k (((10-V/10^k%10)%10)) K (by first | rfl | (congr 1; omega)) rfl rfl (by omega) (by omega)  rfl (by omega) fun h K => ?_
        rw [tr_s V k _ rfl _ (by rw [if_pos h0])] at K
        refine jx (pc' := 43) (L' := [_, _, _, _]) (st' := [_]) 1 rfl ?_
        refine jin (pc' := 46) 54 rfl rfl rfl rfl (by rfl) ?_
        refine jx (pc' := 47) (L' := [_, _, _, _]) (st' := [_]) 1 rfl ?_
        by_cases h1 : V / 10 ^ k % 10 = 0
        · skip
          refine jin (pc' := 50) 54 rfl rfl rfl rfl (by rw [zz_ne ⟨by omega, by omega⟩]; exact decide_eq_false (by omega)) ?_
          refine jx (pc' := 4) (L' := [_, _, _, _]) (st' := []) 5 rfl ?_
          try simp (disch := omega) only [kz, kzl0, kzl1, kzb, kzs, zI_add, zI_sub, zI_neg, zI_mul, zL_i, zI_l, zL_add, zL_sub, zL_neg]
          have := ih (k + 1) (by omega) h 0 K
          rw [decide_eq_true (show V % 10 ^ (k + 1) = 0 by rw [mod_s, h0, h1, Nat.zero_mul])] at this
          rw [show (k : Int) + 1 = ((k + 1 : Nat) : Int) by omega]
          exact this _
        · skip
          refine jit (pc' := 54) rfl rfl rfl (by rw [zz_ne ⟨by omega, by omega⟩]; exact decide_eq_true (by omega)) ?_
          refine jx (pc' := 4) (L' := [_, _, _, _]) (st' := []) 4 rfl ?_
          try simp (disch := omega) only [kz, kzl0, kzl1, kzb, kzs, zI_add, zI_sub, zI_neg, zI_mul, zL_i, zI_l, zL_add, zL_sub, zL_neg]
          have := ih (k + 1) (by omega) h 0 K
          have e : ¬ V % 10 ^ (k + 1) = 0 := fun z => by
            rw [mod_s, h0] at z
            have h1 := pp0 k
            have h2 : 1 * 10 ^ k ≤ V / 10 ^ k % 10 * 10 ^ k := Nat.mul_le_mul_right _ (by omega)
            omega
          rw [decide_eq_false e] at this
          rw [show (k : Int) + 1 = ((k + 1 : Nat) : Int) by omega]
          exact this _
      · rw [decide_eq_false h0]
        refine jit (pc' := 37) rfl rfl rfl (by rfl) ?_
        refine jx (pc' := 41) (L' := [_, _, _, _]) (st' := [_, _, _]) 3 rfl ?_
        try simp (disch := omega) only [kz, kzl0, kzl1, kzb, kzs, zI_add, zI_sub, zI_neg, zI_mul, zL_i, zI_l, zL_add, zL_sub, zL_neg]
        refine jW_r (pc' := 42) k ((9-V/10^k%10)) K (by first | rfl | (congr 1; omega)) rfl rfl (by omega) (by omega)  rfl (by omega) fun h K => ?_
        rw [tr_s V k _ rfl _ (by rw [if_neg h0])] at K
        refine jx (pc' := 43) (L' := [_, _, _, _]) (st' := [_]) 1 rfl ?_
        refine jit (pc' := 54) rfl rfl rfl (by rfl) ?_
        refine jx (pc' := 4) (L' := [_, _, _, _]) (st' := []) 4 rfl ?_
        try simp (disch := omega) only [kz, kzl0, kzl1, kzb, kzs, zI_add, zI_sub, zI_neg, zI_mul, zL_i, zI_l, zL_add, zL_sub, zL_neg]
        have := ih (k + 1) (by omega) h 0 K
        rw [decide_eq_false (mod_up (show k ≤ k + 1 by omega) h0)] at this
        rw [show (k : Int) + 1 = ((k + 1 : Nat) : Int) by omega]
        exact this _
  refine jx (pc' := 4) (L' := [_, _, _, _]) (st' := []) 4 rfl ?_
  try simp (disch := omega) only [kz, kzl0, kzl1, kzb, kzs, zI_add, zI_sub, zI_neg, zI_mul, zL_i, zI_l, zL_add, zL_sub, zL_neg]
  have := loop 25400 0 (by omega) h 0 (by rw [Nat.pow_zero, Nat.div_one, Nat.mul_one, Nat.mod_one, Nat.add_zero]; exact K)
  rw [Nat.pow_zero, Nat.mod_one] at this
  exact this _
end REF
