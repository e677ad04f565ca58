/-! ===== the reference: says, read ===== -/
def byt (r i : Nat) : Nat := if i < (sc r).length then (sc r).getD ((sc r).length - 1 - i) 0 else 0
abbrev byE (L : Int64) (i : Nat) : Int32 := ((L >>> (zL (8 * (i : Int)) &&& 63)) &&& zL 255).toInt32
theorem by_0 : ∀ i : Nat, i < 8 → byE (zL 5282236693612155993) i = zI (byt 0 i : Nat) := by decide
theorem by_1 : ∀ i : Nat, i < 8 → byE (zL 4804166) i = zI (byt 1 i : Nat) := by decide
theorem by_2 : ∀ i : Nat, i < 8 → byE (zL 1397637454) i = zI (byt 2 i : Nat) := by decide
theorem by_3 : ∀ i : Nat, i < 8 → byE (zL 5128526) i = zI (byt 3 i : Nat) := by decide
theorem sc_8 {r : Nat} (hr : r < 7) : (sc r).length ≤ 8 ∧ ∀ i, i < (sc r).length → 0 < (sc r).getD i 0 ∧ (sc r).getD i 0 < 128 := by
  have : r = 0 ∨ r = 1 ∨ r = 2 ∨ r = 3 ∨ r = 4 ∨ r = 5 ∨ r = 6 := by omega
  rcases this with z | z | z | z | z | z | z <;> subst z <;> decide
section REF
variable {h : ix_H} {Q : ix_O → ix_H → Prop} {S0 : Nat → AC} {R F : Nat → Dm} {V cd dr ra si tr : Nat} {mo ng : Bool} {sp sz wr : Nat} {il : Bool} {rs pt rl wo tx ou : Nat → Nat} {j x y z w a0 b0 k0 : Int} {r f s m a c k : Nat} {b t : Bool}
theorem m_says {L : Int64} (K : (RI S0 h R V cd dr ra si tr mo ng sp sz wr il rs pt rl wo tx ou)) (hk0 : k0 = (k : Int)) (hk : k ≤ 200) (hsz : sz ≤ 120) (ht : ∀ j, j < sz → tx j < 128) (hr : r < 7) (hb : ∀ i : Nat, i < 8 → byE L i = zI (byt r i : Nat)) (q : Q (.inl (some (.int (bI (wm tx sz k r))))) h) : ix_M 261 [.ref 98, .int (zI k0), .long L] h Q := by
  subst hk0
  obtain ⟨hl8, hch⟩ := sc_8 hr
  have ew : wm tx sz k r = decide (∀ j, j < (sc r).length → hC tx sz (k + j) = (sc r).getD j 0) := by
    unfold wm
    refine decide_eq_decide.mpr ⟨fun z j hj => ?_, fun z j hj => ?_⟩
    · have := z j hj
      unfold hC
      rw [if_pos this.1]
      exact this.2
    · have h1 := z j hj
      have h2 := (hch j hj).1
      unfold hC at h1
      by_cases h3 : k + j < sz
      · rw [if_pos h3] at h1
        exact ⟨h3, h1⟩
      · rw [if_neg h3] at h1
        omega
  rw [ew] at q
  have loop : ∀ n : Nat, n ≤ 8 → ∀ sm : Bool, sm = decide (∀ j, j < (sc r).length - n → hC tx sz (k + j) = (sc r).getD j 0) → ∀ l7, ix_E 261 10 [some (.ref 98), some (.int (zI (k : Int))), some (.long L), none, some (.int (zI ((k + ((sc r).length - n) : Nat) : Int))), some (.int (bI sm)), some (.int (zI (8 * (n : Int) - 8))), l7] [] h Q := by
    intro n
    induction n with
    | zero =>
      intro hn sm hsm l7
      rw [Nat.sub_zero] at hsm
      rw [← hsm] at q
      refine jx (pc' := 12) (L' := [_, _, _, _, _, _, _, _]) (st' := [_]) 1 rfl ?_
      refine jit (pc' := 66) rfl rfl rfl (by rw [zz_lt ⟨by omega, by omega⟩]; exact decide_eq_true (by omega)) ?_
      refine jx (pc' := 68) (L' := [_, _, _, _, _, _, _, _]) (st' := [_]) 1 rfl ?_
      exact jrb rfl rfl q
    | succ n ih =>
      intro hn sm hsm l7
      have hbn := hb n (by omega)
      have nxt : ∀ (sm' : Bool) (l7 : Int) (ps : Nat), sm' = decide (∀ j, j < (sc r).length - n → hC tx sz (k + j) = (sc r).getD j 0) → ps = k + ((sc r).length - n) → ix_E 261 60 [some (.ref 98), some (.int (zI (k : Int))), some (.long L), none, some (.int (zI (ps : Int))), some (.int (bI sm')), some (.int (zI (8 * ((n + 1 : Nat) : Int) - 8))), some (.int (zI l7))] [] h Q := by
        intro sm' l7 ps h1 h2
        subst h2
        refine jx (pc' := 10) (L' := [_, _, _, _, _, _, _, _]) (st' := []) 2 rfl ?_
        try simp (disch := omega) only [kz, kzl0, kzl1, kzb, kzs, zI_add, zI_sub, zI_neg, zI_mul, zL_i, zI_l, zL_add, zL_sub, zL_neg]
        rw [show 8 * ((n + 1 : Nat) : Int) - 8 + -8 = 8 * (n : Int) - 8 by omega]
        exact ih (by omega) sm' h1 _
      rw [show 8 * ((n + 1 : Nat) : Int) - 8 = 8 * (n : Int) by omega] at nxt ⊢
      refine jx (pc' := 12) (L' := [_, _, _, _, _, _, _, _]) (st' := [_]) 1 rfl ?_
      refine jin (pc' := 15) 66 rfl rfl rfl rfl (by rw [zz_lt ⟨by omega, by omega⟩]; exact decide_eq_false (by omega)) ?_
      refine jx (pc' := 24) (L' := [_, _, _, _, _, _, _, _]) (st' := [_]) 6 rfl ?_
      try simp (disch := omega) only [kM255, kz, kzl0, kzl1, kzb, kzs, zI_add, zI_sub, zI_neg, zI_mul, zL_i, zI_l, zL_add, zL_sub, zL_neg]
      have e : ((L >>> (zL (8 * (n : Int)) &&& 63)) &&& zL 255).toInt32 = zI (byt r n : Nat) := hbn
      rw [e]
      unfold byt
      by_cases h0 : n < (sc r).length
      · rw [if_pos h0]
        have hc := hch ((sc r).length - 1 - n) (by omega)
        generalize hcc : (sc r).getD ((sc r).length - 1 - n) 0 = c at *
        have hhb := hC_b ht (k + ((sc r).length - (n + 1)))
        have t55 : ∀ sm' : Bool, sm' = decide (∀ j, j < (sc r).length - n → hC tx sz (k + j) = (sc r).getD j 0) → ix_E 261 55 [some (.ref 98), some (.int (zI (k : Int))), some (.long L), none, some (.int (zI ((k + ((sc r).length - (n + 1)) : Nat) : Int))), some (.int (bI sm)), some (.int (zI (8 * (n : Int)))), some (.int (zI (c : Int)))] [.int (bI sm')] h Q := by
          intro sm' h1
          refine jx (pc' := 60) (L' := [_, _, _, _, _, _, _, _]) (st' := []) 2 rfl ?_
          try simp (disch := omega) only [kz, kzl0, kzl1, kzb, kzs, zI_add, zI_sub, zI_neg, zI_mul, zL_i, zI_l, zL_add, zL_sub, zL_neg]
          rw [show ((k + ((sc r).length - (n + 1)) : Nat) : Int) + 1 = ((k + ((sc r).length - n) : Nat) : Int) by omega]
          exact nxt sm' _ _ h1 rfl
        refine jx (pc' := 28) (L' := [_, _, _, _, _, _, _, _]) (st' := [_]) 2 rfl ?_
        refine jit (pc' := 34) rfl rfl rfl (by rw [zz_ne ⟨by omega, by omega⟩]; exact decide_eq_true (by omega)) ?_
        refine jx (pc' := 36) (L' := [_, _, _, _, _, _, _, _]) (st' := [_]) 1 rfl ?_
        cases sm
        · have hn := of_decide_eq_false hsm.symm
          refine jit (pc' := 54) rfl rfl rfl (by rfl) ?_
          refine jx (pc' := 55) (L' := [_, _, _, _, _, _, _, _]) (st' := [.int (zI 0)]) 1 rfl ?_
          exact t55 false (decide_eq_false (fun z => hn fun j hj => z j (by omega))).symm
        · have hn := of_decide_eq_true hsm.symm
          refine jin (pc' := 39) 54 rfl rfl rfl rfl (by rfl) ?_
          refine jx (pc' := 42) (L' := [_, _, _, _, _, _, _, _]) (st' := [_, _]) 2 rfl ?_
          refine jcv (pc' := 45) 260 [_] [] K.ob rfl rfl rfl rfl rfl rfl rfl rfl ?_
          refine m_here (k := k + ((sc r).length - (n + 1))) K (by omega) (by omega) hsz ht (jk ?_)
          refine jx (pc' := 47) (L' := [_, _, _, _, _, _, _, _]) (st' := [_, _]) 1 rfl ?_
          by_cases h2 : hC tx sz (k + ((sc r).length - (n + 1))) = c
          · skip
            refine jcn (pc' := 50) 54 rfl rfl rfl rfl (by rw [zc_ne ⟨by omega, by omega⟩ ⟨by omega, by omega⟩]; exact decide_eq_false (by omega)) ?_
            refine jx (pc' := 55) (L' := [_, _, _, _, _, _, _, _]) (st' := [.int (zI 1)]) 2 rfl ?_
            refine t55 true (decide_eq_true fun j hj => ?_).symm
            by_cases z : j < (sc r).length - (n + 1)
            · exact hn j z
            · rw [show j = (sc r).length - (n + 1) by omega, h2, ← hcc, show (sc r).length - 1 - n = (sc r).length - (n + 1) by omega]
          · skip
            refine jct (pc' := 54) rfl rfl rfl (by rw [zc_ne ⟨by omega, by omega⟩ ⟨by omega, by omega⟩]; exact decide_eq_true (by omega)) ?_
            refine jx (pc' := 55) (L' := [_, _, _, _, _, _, _, _]) (st' := [.int (zI 0)]) 1 rfl ?_
            refine t55 false (decide_eq_false fun z => h2 ?_).symm
            rw [z _ (by omega), ← hcc, show (sc r).length - 1 - n = (sc r).length - (n + 1) by omega]
      · rw [if_neg h0]
        rw [show (sc r).length - (n + 1) = (sc r).length - n by omega] at hsm ⊢
        refine jx (pc' := 28) (L' := [_, _, _, _, _, _, _, _]) (st' := [_]) 2 rfl ?_
        refine jin (pc' := 31) 34 rfl rfl rfl rfl (by rfl) ?_
        refine jx (pc' := 60) (L' := [_, _, _, _, _, _, _, _]) (st' := []) 1 rfl ?_
        exact nxt sm _ _ hsm rfl
  have := loop 8 (Nat.le_refl _) true (decide_eq_true fun j hj => by omega).symm none
  rw [show (sc r).length - 8 = 0 by omega, Nat.add_zero] at this
  refine jx (pc' := 10) (L' := [_, _, _, _, _, _, _, _]) (st' := []) 6 rfl ?_
  try simp (disch := omega) only [kz, kzl0, kzl1, kzb, kzs, zI_add, zI_sub, zI_neg, zI_mul, zL_i, zI_l, zL_add, zL_sub, zL_neg]
  exact this
end REF
