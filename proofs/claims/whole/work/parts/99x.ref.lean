/-! ===== the reference: nans, over, isBad, layProduct ===== -/
/-- the state without what no call sees -/
def RJ (S0 : Nat → AC) (h : ix_H) (R : Nat → Dm) (cd dr ra si tr sz wr : Nat) (tx ou : Nat → Nat) : Prop := ∃ (V : Nat) (mo ng : Bool) (sp : Nat) (il : Bool) (rs pt rl wo : Nat → Nat), (RI S0 h R V cd dr ra si tr mo ng sp sz wr il rs pt rl wo tx ou)
theorem nanP_t {A B C : Dm} (hs : nanS A B C = true) : nanP A B C = if A.2.1 = 2 then A else if B.2.1 = 2 then B else C := by
  unfold nanP
  rw [hs]
  rfl
theorem nanP_f {A B C : Dm} (hs : nanS A B C = false) : nanP A B C = if A.2.1 = 3 then A else if B.2.1 = 3 then B else C := by
  unfold nanP
  rw [hs]
  rfl
section REF
variable {h : ix_H} {Q : ix_O → ix_H → Prop} {S0 : Nat → AC} {R : Nat → Dm} {V cd dr ra si tr : Nat} {mo ng : Bool} {sp sz wr : Nat} {il : Bool} {rs pt rl wo tx ou : Nat → Nat} {j x : Int} {r f s m a : Nat} {b : Bool}
theorem RI.rj (K : (RI S0 h R V cd dr ra si tr mo ng sp sz wr il rs pt rl wo tx ou)) : (RJ S0 h R cd dr ra si tr sz wr tx ou) := ⟨_, _, _, _, _, _, _, _, _, K⟩
theorem m_nans {a0 b0 c0 : Int} {B C : Dm} (K : (RI S0 h R V cd dr ra si tr mo ng sp sz wr il rs pt rl wo tx ou)) (ha0 : a0 = (a : Int)) (ha : a < 12 ∧ ¬ a = 8) (hb : (b0 = -1 ∧ B = R a) ∨ ∃ r : Nat, r < 12 ∧ ¬ r = 8 ∧ b0 = r ∧ B = R r) (hc : (c0 = -1 ∧ C = B) ∨ ∃ r : Nat, r < 12 ∧ ¬ r = 8 ∧ c0 = r ∧ C = R r) (q0 : ¬ (2 ≤ (R a).2.1 ∨ 2 ≤ B.2.1 ∨ 2 ≤ C.2.1) → Q (.inl (some (.int (bI false)))) h) (q1 : 2 ≤ (R a).2.1 ∨ 2 ≤ B.2.1 ∨ 2 ≤ C.2.1 → ∀ h', (RI S0 h' (va_up R 8 (nq (nanP (R a) B C))) V cd dr ra (si ||| (nanS (R a) B C).toNat) tr mo ng sp sz wr il rs pt rl wo tx ou) → Q (.inl (some (.int (bI true)))) h') : ix_M 195 [.ref 98, .int (zI a0), .int (zI b0), .int (zI c0)] h Q := by
  subst ha0
  have vA := (K.rv ha.1).2.1
  have vB : B.2.1 < 4 := by
    rcases hb with ⟨_, e⟩ | ⟨r, hr, _, _, e⟩
    · rw [e]; exact vA
    · rw [e]; exact (K.rv hr).2.1
  have vC : C.2.1 < 4 := by
    rcases hc with ⟨_, e⟩ | ⟨r, hr, _, _, e⟩
    · rw [e]; exact vB
    · rw [e]; exact (K.rv hr).2.1
  have t118 : ∀ (h1 : ix_H) (n : Nat), n < 12 → ¬ n = 8 → R n = nanP (R a) B C → (2 ≤ (R a).2.1 ∨ 2 ≤ B.2.1 ∨ 2 ≤ C.2.1) → (RI S0 h1 R V cd dr ra (si ||| (nanS (R a) B C).toNat) tr mo ng sp sz wr il rs pt rl wo tx ou) → ix_E 195 118 [some (.ref 98), some (.int (zI (a : Int))), some (.int (zI b0)), some (.int (zI c0)), some (.int (zI (n : Int)))] [] h1 Q := by
    intro h n hn hn8 he hN K
    refine jx (pc' := 120) (L' := [_, _, _, _, _]) (st' := [_]) 1 rfl ?_
    refine jit (pc' := 125) rfl rfl rfl (by rw [zz_ge ⟨by omega, by omega⟩]; exact decide_eq_true (by omega)) ?_
    refine jx (pc' := 130) (L' := [_, _, _, _, _]) (st' := [.int (zI 8), _, _]) 3 rfl ?_
    refine jcv (pc' := 133) 192 [_, .int (zI 8)] [] K.ob rfl rfl rfl rfl rfl rfl rfl rfl ?_
    refine m_copy (c := 8) K rfl rfl hn (by decide) hn8 fun h K => jk ?_
    rw [he] at K
    refine jx (pc' := 134) (L' := [_, _, _, _, _]) (st' := [_]) 1 rfl ?_
    refine jgf (pc' := 137) K.ob rfl rfl rfl rfl rfl ?_
    refine jx (pc' := 140) (L' := [_, _, _, _, _]) (st' := [.int (zI 2), .int (zI 8), _]) 2 rfl ?_
    refine jW_so (pc' := 141) 8 3 K (by first | rfl | (congr 1; omega)) rfl rfl (by omega) (by omega)  rfl (by omega) fun h K => ?_
    rw [va_up_self, va_up_up] at K
    refine jx (pc' := 142) (L' := [_, _, _, _, _]) (st' := [.int (zI 1)]) 1 rfl ?_
    refine jrb (b := true) rfl rfl ?_
    exact q1 hN _ K
  have t51 : ∀ n : Nat, n < 12 → ¬ n = 8 → R n = nanP (R a) B C → nanS (R a) B C = true → (2 ≤ (R a).2.1 ∨ 2 ≤ B.2.1 ∨ 2 ≤ C.2.1) → ix_E 195 51 [some (.ref 98), some (.int (zI (a : Int))), some (.int (zI b0)), some (.int (zI c0)), none] [.int (zI (n : Int))] h Q := by
    intro n hn hn8 he hs hN
    refine jx (pc' := 55) (L' := [_, _, _, _, _]) (st' := [_]) 2 rfl ?_
    refine jin (pc' := 58) 71 rfl rfl rfl rfl (by rw [zz_lt ⟨by omega, by omega⟩]; exact decide_eq_false (by omega)) ?_
    refine jx (pc' := 60) (L' := [_, _, _, _, _]) (st' := [_, _]) 2 rfl ?_
    refine jgf (pc' := 63) K.ob rfl rfl rfl rfl rfl ?_
    refine jx (pc' := 65) (L' := [_, _, _, _, _]) (st' := [_, _]) 2 rfl ?_
    try simp (disch := omega) only [kz, kzl0, kzl1, kzb, kzs, zI_add, zI_sub, zI_neg, zI_mul, zL_i, zI_l, zL_add, zL_sub, zL_neg]
    refine jp_si (pc' := 68) ((si ||| 1)) K (zor si 1) rfl rfl rfl rfl fun h K => ?_
    refine jx (pc' := 118) (L' := [_, _, _, _, _]) (st' := []) 1 rfl ?_
    refine t118 _ n hn hn8 he hN ?_
    rw [hs]
    exact K
  have t116 : ∀ n : Nat, n < 12 → ¬ n = 8 → R n = nanP (R a) B C → nanS (R a) B C = false → (2 ≤ (R a).2.1 ∨ 2 ≤ B.2.1 ∨ 2 ≤ C.2.1) → ix_E 195 116 [some (.ref 98), some (.int (zI (a : Int))), some (.int (zI b0)), some (.int (zI c0)), some (.int (zI (-1)))] [.int (zI (n : Int))] h Q := by
    intro n hn hn8 he hs hN
    refine jx (pc' := 118) (L' := [_, _, _, _, _]) (st' := []) 1 rfl ?_
    refine t118 _ n hn hn8 he hN ?_
    rw [hs, Bool.toNat_false, Nat.or_zero]
    exact K
  have t115 : ¬ (2 ≤ (R a).2.1 ∨ 2 ≤ B.2.1 ∨ 2 ≤ C.2.1) → ix_E 195 115 [some (.ref 98), some (.int (zI (a : Int))), some (.int (zI b0)), some (.int (zI c0)), some (.int (zI (-1)))] [] h Q := by
    intro hN
    refine jx (pc' := 120) (L' := [_, _, _, _, _]) (st' := [_]) 3 rfl ?_
    refine jin (pc' := 123) 125 rfl rfl rfl rfl (by rfl) ?_
    refine jx (pc' := 124) (L' := [_, _, _, _, _]) (st' := [.int (zI 0)]) 1 rfl ?_
    exact jrb (b := false) rfl rfl (q0 hN)
  have t99 : nanS (R a) B C = false → ¬ 2 ≤ (R a).2.1 → ¬ 2 ≤ B.2.1 → ix_E 195 99 [some (.ref 98), some (.int (zI (a : Int))), some (.int (zI b0)), some (.int (zI c0)), some (.int (zI (-1)))] [] h Q := by
    intro hs nA nB
    have hs' := hs
    unfold nanS at hs'
    simp only [Bool.or_eq_false_iff, decide_eq_false_iff_not] at hs'
    rcases hc with ⟨e1, e2⟩ | ⟨r, hr, hr8, e1, e2⟩
    · subst e1
      refine jx (pc' := 100) (L' := [_, _, _, _, _]) (st' := [_]) 1 rfl ?_
      refine jit (pc' := 115) rfl rfl rfl (by rfl) ?_
      exact t115 (by rw [e2]; omega)
    · subst e1
      refine jx (pc' := 100) (L' := [_, _, _, _, _]) (st' := [_]) 1 rfl ?_
      refine jin (pc' := 103) 115 rfl rfl rfl rfl (by rw [zz_lt ⟨by omega, by omega⟩]; exact decide_eq_false (by omega)) ?_
      refine jx (pc' := 105) (L' := [_, _, _, _, _]) (st' := [_, _]) 2 rfl ?_
      refine jcv (pc' := 108) 194 [_] [] K.ob rfl rfl rfl rfl rfl rfl rfl rfl ?_
      refine m_isNaN K rfl hr (jk ?_)
      rw [← e2]
      by_cases n3 : 2 ≤ C.2.1
      · skip
        refine jin (pc' := 111) 115 rfl rfl rfl rfl (by rw [bz_eq, decide_eq_true n3]; rfl) ?_
        refine jx (pc' := 116) (L' := [_, _, _, _, _]) (st' := [_]) 2 rfl ?_
        refine t116 r hr hr8 ?_ hs (Or.inr (Or.inr n3))
        rw [nanP_f hs, if_neg (by omega), if_neg (by omega), e2]
      · skip
        refine jit (pc' := 115) rfl rfl rfl (by rw [bz_eq, decide_eq_false n3]; rfl) ?_
        exact t115 (by omega)
  have t83 : nanS (R a) B C = false → ¬ 2 ≤ (R a).2.1 → ix_E 195 83 [some (.ref 98), some (.int (zI (a : Int))), some (.int (zI b0)), some (.int (zI c0)), some (.int (zI (-1)))] [] h Q := by
    intro hs nA
    have hs' := hs
    unfold nanS at hs'
    simp only [Bool.or_eq_false_iff, decide_eq_false_iff_not] at hs'
    rcases hb with ⟨e1, e2⟩ | ⟨r, hr, hr8, e1, e2⟩
    · subst e1
      refine jx (pc' := 84) (L' := [_, _, _, _, _]) (st' := [_]) 1 rfl ?_
      refine jit (pc' := 99) rfl rfl rfl (by rfl) ?_
      exact t99 hs nA (by rw [e2]; exact nA)
    · subst e1
      refine jx (pc' := 84) (L' := [_, _, _, _, _]) (st' := [_]) 1 rfl ?_
      refine jin (pc' := 87) 99 rfl rfl rfl rfl (by rw [zz_lt ⟨by omega, by omega⟩]; exact decide_eq_false (by omega)) ?_
      refine jx (pc' := 89) (L' := [_, _, _, _, _]) (st' := [_, _]) 2 rfl ?_
      refine jcv (pc' := 92) 194 [_] [] K.ob rfl rfl rfl rfl rfl rfl rfl rfl ?_
      refine m_isNaN K rfl hr (jk ?_)
      rw [← e2]
      by_cases n3 : 2 ≤ B.2.1
      · skip
        refine jin (pc' := 95) 99 rfl rfl rfl rfl (by rw [bz_eq, decide_eq_true n3]; rfl) ?_
        refine jx (pc' := 116) (L' := [_, _, _, _, _]) (st' := [_]) 2 rfl ?_
        refine t116 r hr hr8 ?_ hs (Or.inr (Or.inl n3))
        rw [nanP_f hs, if_neg (by omega), if_pos (by omega), e2]
      · skip
        refine jit (pc' := 99) rfl rfl rfl (by rw [bz_eq, decide_eq_false n3]; rfl) ?_
        exact t99 hs nA n3
  have t50 : nanS (R a) B C = false → ix_E 195 50 [some (.ref 98), some (.int (zI (a : Int))), some (.int (zI b0)), some (.int (zI c0)), none] [] h Q := by
    intro hs
    have hs' := hs
    unfold nanS at hs'
    simp only [Bool.or_eq_false_iff, decide_eq_false_iff_not] at hs'
    refine jx (pc' := 55) (L' := [_, _, _, _, _]) (st' := [_]) 3 rfl ?_
    refine jit (pc' := 71) rfl rfl rfl (by rfl) ?_
    refine jx (pc' := 73) (L' := [_, _, _, _, _]) (st' := [_, _]) 2 rfl ?_
    refine jcv (pc' := 76) 194 [_] [] K.ob rfl rfl rfl rfl rfl rfl rfl rfl ?_
    refine m_isNaN K rfl ha.1 (jk ?_)
    by_cases n3 : 2 ≤ (R a).2.1
    · skip
      refine jin (pc' := 79) 83 rfl rfl rfl rfl (by rw [bz_eq, decide_eq_true n3]; rfl) ?_
      refine jx (pc' := 116) (L' := [_, _, _, _, _]) (st' := [_]) 2 rfl ?_
      refine t116 a ha.1 ha.2 ?_ hs (Or.inl n3)
      rw [nanP_f hs, if_pos (by omega)]
    · skip
      refine jit (pc' := 83) rfl rfl rfl (by rw [bz_eq, decide_eq_false n3]; rfl) ?_
      exact t83 hs n3
  have t32 : ¬ (R a).2.1 = 2 → ¬ B.2.1 = 2 → ix_E 195 32 [some (.ref 98), some (.int (zI (a : Int))), some (.int (zI b0)), some (.int (zI c0)), none] [] h Q := by
    intro nA nB
    rcases hc with ⟨e1, e2⟩ | ⟨r, hr, hr8, e1, e2⟩
    · subst e1
      refine jx (pc' := 33) (L' := [_, _, _, _, _]) (st' := [_]) 1 rfl ?_
      refine jit (pc' := 50) rfl rfl rfl (by rfl) ?_
      refine t50 ?_
      unfold nanS
      rw [e2, decide_eq_false nA, decide_eq_false nB]
      rfl
    · subst e1
      have vv := swp_b (K.rv hr).2.1
      refine jx (pc' := 33) (L' := [_, _, _, _, _]) (st' := [_]) 1 rfl ?_
      refine jin (pc' := 36) 50 rfl rfl rfl rfl (by rw [zz_lt ⟨by omega, by omega⟩]; exact decide_eq_false (by omega)) ?_
      refine jx (pc' := 37) (L' := [_, _, _, _, _]) (st' := [_]) 1 rfl ?_
      refine jgf (pc' := 40) K.ob rfl rfl rfl rfl rfl ?_
      refine jx (pc' := 41) (L' := [_, _, _, _, _]) (st' := [_, _]) 1 rfl ?_
      refine jR_so (pc' := 42) r K rfl rfl (by omega) (by omega)  rfl ?_
      refine jx (pc' := 43) (L' := [_, _, _, _, _]) (st' := [.int (zI 3), _]) 1 rfl ?_
      by_cases n3 : C.2.1 = 2
      · have hs : nanS (R a) B C = true := by unfold nanS; rw [decide_eq_true n3, Bool.or_true, Bool.or_true]
        have e3 : swp (R r).2.1 = 3 := swp_3.mpr (by rw [← e2]; exact n3)
        refine jcn (pc' := 46) 50 rfl rfl rfl rfl (by rw [zc_ne ⟨by omega, by omega⟩ ⟨by omega, by omega⟩]; exact decide_eq_false (by omega)) ?_
        refine jx (pc' := 51) (L' := [_, _, _, _, _]) (st' := [_]) 2 rfl ?_
        refine t51 r hr hr8 ?_ hs (Or.inr (Or.inr (by omega)))
        rw [nanP_t hs, if_neg nA, if_neg nB, e2]
      · have e3 : ¬ swp (R r).2.1 = 3 := fun z => n3 (by rw [e2]; exact swp_3.mp z)
        refine jct (pc' := 50) rfl rfl rfl (by rw [zc_ne ⟨by omega, by omega⟩ ⟨by omega, by omega⟩]; exact decide_eq_true (by omega)) ?_
        refine t50 ?_
        unfold nanS
        rw [decide_eq_false nA, decide_eq_false nB, decide_eq_false n3]
        rfl
  have t14 : ¬ (R a).2.1 = 2 → ix_E 195 14 [some (.ref 98), some (.int (zI (a : Int))), some (.int (zI b0)), some (.int (zI c0)), none] [] h Q := by
    intro nA
    rcases hb with ⟨e1, e2⟩ | ⟨r, hr, hr8, e1, e2⟩
    · subst e1
      refine jx (pc' := 15) (L' := [_, _, _, _, _]) (st' := [_]) 1 rfl ?_
      refine jit (pc' := 32) rfl rfl rfl (by rfl) ?_
      exact t32 nA (by rw [e2]; exact nA)
    · subst e1
      have vv := swp_b (K.rv hr).2.1
      refine jx (pc' := 15) (L' := [_, _, _, _, _]) (st' := [_]) 1 rfl ?_
      refine jin (pc' := 18) 32 rfl rfl rfl rfl (by rw [zz_lt ⟨by omega, by omega⟩]; exact decide_eq_false (by omega)) ?_
      refine jx (pc' := 19) (L' := [_, _, _, _, _]) (st' := [_]) 1 rfl ?_
      refine jgf (pc' := 22) K.ob rfl rfl rfl rfl rfl ?_
      refine jx (pc' := 23) (L' := [_, _, _, _, _]) (st' := [_, _]) 1 rfl ?_
      refine jR_so (pc' := 24) r K rfl rfl (by omega) (by omega)  rfl ?_
      refine jx (pc' := 25) (L' := [_, _, _, _, _]) (st' := [.int (zI 3), _]) 1 rfl ?_
      by_cases n3 : B.2.1 = 2
      · have hs : nanS (R a) B C = true := by unfold nanS; rw [decide_eq_true n3, Bool.true_or, Bool.or_true]
        have e3 : swp (R r).2.1 = 3 := swp_3.mpr (by rw [← e2]; exact n3)
        refine jcn (pc' := 28) 32 rfl rfl rfl rfl (by rw [zc_ne ⟨by omega, by omega⟩ ⟨by omega, by omega⟩]; exact decide_eq_false (by omega)) ?_
        refine jx (pc' := 51) (L' := [_, _, _, _, _]) (st' := [_]) 2 rfl ?_
        refine t51 r hr hr8 ?_ hs (Or.inr (Or.inl (by omega)))
        rw [nanP_t hs, if_neg nA, if_pos n3, e2]
      · have e3 : ¬ swp (R r).2.1 = 3 := fun z => n3 (by rw [e2]; exact swp_3.mp z)
        refine jct (pc' := 32) rfl rfl rfl (by rw [zc_ne ⟨by omega, by omega⟩ ⟨by omega, by omega⟩]; exact decide_eq_true (by omega)) ?_
        exact t32 nA n3
  have vv := swp_b vA
  have ha1 := ha.1
  refine jx (pc' := 1) (L' := [_, _, _, _, _]) (st' := [_]) 1 rfl ?_
  refine jgf (pc' := 4) K.ob rfl rfl rfl rfl rfl ?_
  refine jx (pc' := 5) (L' := [_, _, _, _, _]) (st' := [_, _]) 1 rfl ?_
  refine jR_so (pc' := 6) a K rfl rfl (by omega) (by omega)  rfl ?_
  refine jx (pc' := 7) (L' := [_, _, _, _, _]) (st' := [.int (zI 3), _]) 1 rfl ?_
  by_cases n3 : (R a).2.1 = 2
  · have hs : nanS (R a) B C = true := by unfold nanS; rw [decide_eq_true n3, Bool.true_or]
    have e3 : swp (R a).2.1 = 3 := swp_3.mpr n3
    refine jcn (pc' := 10) 14 rfl rfl rfl rfl (by rw [zc_ne ⟨by omega, by omega⟩ ⟨by omega, by omega⟩]; exact decide_eq_false (by omega)) ?_
    refine jx (pc' := 51) (L' := [_, _, _, _, _]) (st' := [_]) 2 rfl ?_
    refine t51 a ha.1 ha.2 ?_ hs (Or.inl (by omega))
    rw [nanP_t hs, if_pos n3]
  · have e3 : ¬ swp (R a).2.1 = 3 := fun z => n3 (swp_3.mp z)
    refine jct (pc' := 14) rfl rfl rfl (by rw [zc_ne ⟨by omega, by omega⟩ ⟨by omega, by omega⟩]; exact decide_eq_true (by omega)) ?_
    exact t14 n3
/-- over: with a target, without -/
theorem m_over {d0 : Int} (K : (RI S0 h R V cd dr ra si tr mo ng sp sz wr il rs pt rl wo tx ou)) (hd : d0 = -1 ∨ ∃ d : Nat, d < 8 ∧ d0 = d) (hs : si < 32) (ht : tr < 32) (q1 : si &&& tr = 0 → ∀ h', (RI S0 h' (if d0 = -1 then R else va_up R d0.toNat (R 8)) V (0) dr (ra ||| si) si tr mo ng sp sz wr il rs pt rl wo tx ou) → Q (.inl (some (.int (zI (si : Int))))) h') (q2 : ¬ si &&& tr = 0 → ∀ h', (RI S0 h' R V (2) dr (ra ||| si) si tr mo ng sp sz wr il rs pt rl wo tx ou) → Q (.inl (some (.int (zI 0)))) h') : ix_M 233 [.ref 98, .int (zI d0)] h Q := by
  have hand : si &&& tr ≤ si := Nat.and_le_left
  refine jx (pc' := 2) (L' := [_, _]) (st' := [_, _]) 2 rfl ?_
  refine jgf (pc' := 5) K.ob rfl rfl rfl rfl rfl ?_
  refine jx (pc' := 6) (L' := [_, _]) (st' := [_, _, _]) 1 rfl ?_
  refine jgf (pc' := 9) K.ob rfl rfl rfl rfl rfl ?_
  refine jx (pc' := 10) (L' := [_, _]) (st' := [_, _]) 1 rfl ?_
  try simp (disch := omega) only [kz, kzl0, kzl1, kzb, kzs, zI_add, zI_sub, zI_neg, zI_mul, zL_i, zI_l, zL_add, zL_sub, zL_neg]
  refine jp_ra (pc' := 13) ((ra ||| si)) K (zor ra si) rfl rfl rfl rfl fun h K => ?_
  refine jx (pc' := 15) (L' := [_, _]) (st' := [_, _]) 2 rfl ?_
  refine jgf (pc' := 18) K.ob rfl rfl rfl rfl rfl ?_
  refine jx (pc' := 19) (L' := [_, _]) (st' := [_, _, _]) 1 rfl ?_
  refine jgf (pc' := 22) K.ob rfl rfl rfl rfl rfl ?_
  refine jx (pc' := 23) (L' := [_, _]) (st' := [_, _]) 1 rfl ?_
  try simp (disch := omega) only [kz, kzl0, kzl1, kzb, kzs, zI_add, zI_sub, zI_neg, zI_mul, zL_i, zI_l, zL_add, zL_sub, zL_neg]
  rw [zand]
  by_cases h0 : si &&& tr = 0
  · skip
    refine jit (pc' := 30) rfl rfl rfl (by rw [zz_eq ⟨by omega, by omega⟩]; exact decide_eq_true (by omega)) ?_
    refine jx (pc' := 31) (L' := [_, _]) (st' := [.int (zI 0), _]) 1 rfl ?_
    refine jp_cd (pc' := 34) 0 K (by first | rfl | (congr 1; omega)) rfl rfl rfl rfl fun h K => ?_
    refine jx (pc' := 35) (L' := [_, _]) (st' := [_]) 1 rfl ?_
    refine jgf (pc' := 38) K.ob rfl rfl rfl rfl rfl ?_
    refine jit (pc' := 43) rfl rfl rfl (by rw [zz_eq ⟨by omega, by omega⟩]; exact decide_eq_true (by omega)) ?_
    refine jx (pc' := 44) (L' := [_, _]) (st' := [_]) 1 rfl ?_
    have q1 := q1 h0
    rcases hd with e | ⟨d, hd, e⟩
    · subst e
      refine jit (pc' := 54) rfl rfl rfl (by rfl) ?_
      refine jx (pc' := 55) (L' := [_, _]) (st' := [_]) 1 rfl ?_
      refine jgf (pc' := 58) K.ob rfl rfl rfl rfl rfl ?_
      refine jri rfl rfl ?_
      exact q1 _ K
    · subst e
      refine jin (pc' := 47) 54 rfl rfl rfl rfl (by rw [zz_lt ⟨by omega, by omega⟩]; exact decide_eq_false (by omega)) ?_
      refine jx (pc' := 51) (L' := [_, _]) (st' := [_, .int (zI 8), _]) 3 rfl ?_
      refine jcv (pc' := 54) 192 [.int (zI 8), _] [] K.ob rfl rfl rfl rfl rfl rfl rfl rfl ?_
      refine m_copy (a := 8) (c := d) K rfl rfl (by decide) (by omega) (by omega) fun h K => jk ?_
      refine jx (pc' := 55) (L' := [_, _]) (st' := [_]) 1 rfl ?_
      refine jgf (pc' := 58) K.ob rfl rfl rfl rfl rfl ?_
      refine jri rfl rfl ?_
      rw [if_neg (by omega)] at q1
      exact q1 _ K
  · skip
    refine jin (pc' := 26) 30 rfl rfl rfl rfl (by rw [zz_eq ⟨by omega, by omega⟩]; exact decide_eq_false (by omega)) ?_
    refine jx (pc' := 31) (L' := [_, _]) (st' := [.int (zI 2), _]) 2 rfl ?_
    refine jp_cd (pc' := 34) 2 K (by first | rfl | (congr 1; omega)) rfl rfl rfl rfl fun h K => ?_
    refine jx (pc' := 35) (L' := [_, _]) (st' := [_]) 1 rfl ?_
    refine jgf (pc' := 38) K.ob rfl rfl rfl rfl rfl ?_
    refine jin (pc' := 41) 43 rfl rfl rfl rfl (by rw [zz_eq ⟨by omega, by omega⟩]; exact decide_eq_false (by omega)) ?_
    refine jx (pc' := 42) (L' := [_, _]) (st' := [.int (zI 0)]) 1 rfl ?_
    refine jri rfl rfl ?_
    exact q2 h0 _ K
theorem m_isBad {a0 b0 : Int} {c : Nat} (K : (RI S0 h R V cd dr ra si tr mo ng sp sz wr il rs pt rl wo tx ou)) (ha0 : a0 = (a : Int)) (hb0 : b0 = (c : Int)) (ha : a < 12) (hc : c < 12) (q : Q (.inl (some (.int (bI (decide ((((R a).2.1 = 0 ∧ (R a).2.2.2.2 = 0) ∧ (R c).2.1 = 1) ∨ ((R a).2.1 = 1 ∧ ((R c).2.1 = 0 ∧ (R c).2.2.2.2 = 0))))))))  h) : ix_M 219 [.ref 98, .int (zI a0), .int (zI b0)] h Q := by
  subst ha0
  subst hb0
  have va := swp_b (K.rv ha).2.1
  have vc := swp_b (K.rv hc).2.1
  have t36 : ((((R a).2.1 = 0 ∧ (R a).2.2.2.2 = 0) ∧ (R c).2.1 = 1) ∨ ((R a).2.1 = 1 ∧ ((R c).2.1 = 0 ∧ (R c).2.2.2.2 = 0))) → ix_E 219 36 [some (.ref 98), some (.int (zI (a : Int))), some (.int (zI (c : Int)))] [] h Q := by
    intro z
    rw [decide_eq_true z] at q
    refine jx (pc' := 41) (L' := [_, _, _]) (st' := [.int (zI 1)]) 2 rfl ?_
    exact jrb rfl rfl q
  have t40 : ¬ ((((R a).2.1 = 0 ∧ (R a).2.2.2.2 = 0) ∧ (R c).2.1 = 1) ∨ ((R a).2.1 = 1 ∧ ((R c).2.1 = 0 ∧ (R c).2.2.2.2 = 0))) → ix_E 219 40 [some (.ref 98), some (.int (zI (a : Int))), some (.int (zI (c : Int)))] [] h Q := by
    intro z
    rw [decide_eq_false z] at q
    refine jx (pc' := 41) (L' := [_, _, _]) (st' := [.int (zI 0)]) 1 rfl ?_
    exact jrb rfl rfl q
  have t18 : ¬ (((R a).2.1 = 0 ∧ (R a).2.2.2.2 = 0) ∧ (R c).2.1 = 1) → ix_E 219 18 [some (.ref 98), some (.int (zI (a : Int))), some (.int (zI (c : Int)))] [] h Q := by
    intro z
    refine jx (pc' := 19) (L' := [_, _, _]) (st' := [_]) 1 rfl ?_
    refine jgf (pc' := 22) K.ob rfl rfl rfl rfl rfl ?_
    refine jx (pc' := 23) (L' := [_, _, _]) (st' := [_, _]) 1 rfl ?_
    refine jR_so (pc' := 24) a K rfl rfl (by omega) (by omega)  rfl ?_
    refine jx (pc' := 25) (L' := [_, _, _]) (st' := [.int (zI 1), _]) 1 rfl ?_
    by_cases e : (R a).2.1 = 1
    · have e1 := swp_1.mpr e
      refine jcn (pc' := 28) 40 rfl rfl rfl rfl (by rw [zc_ne ⟨by omega, by omega⟩ ⟨by omega, by omega⟩]; exact decide_eq_false (by omega)) ?_
      refine jx (pc' := 30) (L' := [_, _, _]) (st' := [_, _]) 2 rfl ?_
      refine jcv (pc' := 33) 197 [_] [] K.ob rfl rfl rfl rfl rfl rfl rfl rfl ?_
      refine m_isZero K rfl hc (jk ?_)
      by_cases e2 : (R c).2.1 = 0 ∧ (R c).2.2.2.2 = 0
      · skip
        refine jin (pc' := 36) 40 rfl rfl rfl rfl (by rw [bz_eq, decide_eq_true e2]; rfl) ?_
        exact t36 (Or.inr ⟨e, e2⟩)
      · skip
        refine jit (pc' := 40) rfl rfl rfl (by rw [bz_eq, decide_eq_false e2]; rfl) ?_
        exact t40 (fun k => k.elim z fun k => e2 k.2)
    · have e1 : ¬ swp (R a).2.1 = 1 := fun k => e (swp_1.mp k)
      refine jct (pc' := 40) rfl rfl rfl (by rw [zc_ne ⟨by omega, by omega⟩ ⟨by omega, by omega⟩]; exact decide_eq_true (by omega)) ?_
      exact t40 (fun k => k.elim z fun k => e k.1)
  refine jx (pc' := 2) (L' := [_, _, _]) (st' := [_, _]) 2 rfl ?_
  refine jcv (pc' := 5) 197 [_] [] K.ob rfl rfl rfl rfl rfl rfl rfl rfl ?_
  refine m_isZero K rfl ha (jk ?_)
  by_cases e2 : (R a).2.1 = 0 ∧ (R a).2.2.2.2 = 0
  · skip
    refine jin (pc' := 8) 18 rfl rfl rfl rfl (by rw [bz_eq, decide_eq_true e2]; rfl) ?_
    refine jx (pc' := 9) (L' := [_, _, _]) (st' := [_]) 1 rfl ?_
    refine jgf (pc' := 12) K.ob rfl rfl rfl rfl rfl ?_
    refine jx (pc' := 13) (L' := [_, _, _]) (st' := [_, _]) 1 rfl ?_
    refine jR_so (pc' := 14) c K rfl rfl (by omega) (by omega)  rfl ?_
    refine jx (pc' := 15) (L' := [_, _, _]) (st' := [.int (zI 1), _]) 1 rfl ?_
    by_cases e : (R c).2.1 = 1
    · have e1 := swp_1.mpr e
      refine jct (pc' := 36) rfl rfl rfl (by rw [zc_eq ⟨by omega, by omega⟩ ⟨by omega, by omega⟩]; exact decide_eq_true (by omega)) ?_
      exact t36 (Or.inl ⟨e2, e⟩)
    · have e1 : ¬ swp (R c).2.1 = 1 := fun k => e (swp_1.mp k)
      refine jcn (pc' := 18) 36 rfl rfl rfl rfl (by rw [zc_eq ⟨by omega, by omega⟩ ⟨by omega, by omega⟩]; exact decide_eq_false (by omega)) ?_
      exact t18 (fun k => e k.2)
  · skip
    refine jit (pc' := 18) rfl rfl rfl (by rw [bz_eq, decide_eq_false e2]; rfl) ?_
    exact t18 (fun k => e2 k.1)
end REF
