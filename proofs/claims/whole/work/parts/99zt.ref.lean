/-! ===== the reference: log, compare, ordered, kind, alike, and the small calls ===== -/
abbrev nnD (A B : Dm) : Prop := ¬ 2 ≤ A.2.1 ∧ ¬ 2 ≤ B.2.1
section REF
variable {h : ix_H} {Q : ix_O → ix_H → Prop} {S0 : Nat → AC} {R F : Nat → Dm} {V cd dr ra si tr : Nat} {mo ng : Bool} {sp sz wr : Nat} {il : Bool} {rs pt rl wo tx ou : Nat → Nat} {j x y z w a0 b0 : Int} {r f s m a c : Nat} {b t qt : Bool} {hi lo v : Int32}
theorem m_log (K : (RK S0 h F cd dr ra tr sz wr tx ou)) (hv : ∀ i, i < 9 → ValD (F i)) (htr : tr < 32) (hx : zr x) (q0 : ¬ (0 ≤ x ∧ x ≤ 8) → ∀ h', (RK S0 h' F (1) dr ra tr sz wr tx ou) → Q (.inl (some (.int (zI 0)))) h') (q1 : 0 ≤ x ∧ x ≤ 8 → bLg (F x.toNat) → 1 &&& tr = 0 → ∀ h', (RK S0 h' F (0) dr (ra ||| 1) tr sz wr tx ou) → Q (.inl (some (.int (zI (-2147483648))))) h') (q2 : 0 ≤ x ∧ x ≤ 8 → bLg (F x.toNat) → ¬ 1 &&& tr = 0 → ∀ h', (RK S0 h' F (2) dr (ra ||| 1) tr sz wr tx ou) → Q (.inl (some (.int (zI 0)))) h') (q3 : 0 ≤ x ∧ x ≤ 8 → ¬ bLg (F x.toNat) → ∀ h', (RK S0 h' F (0) dr ra tr sz wr tx ou) → Q (.inl (some (.int (zI ((dgs (F x.toNat).2.2.2.2 : Int) + (F x.toNat).2.2.2.1 - 1))))) h') : ix_M 251 [.ref 98, .int (zI x)] h Q := by
  obtain ⟨R, si, hR, V, mo, ng, sp, il, rs, pt, rl, wo, K⟩ := K
  have t21 : 0 ≤ x ∧ x ≤ 8 → ∀ h1, (RI S0 h1 R V (0) dr ra si tr mo ng sp sz wr il rs pt rl wo tx ou) → ix_E 251 21 [some (.ref 98), some (.int (zI x)), none] [] h1 Q := by
    intro hx8 h K
    have q1 := q1 hx8
    have q2 := q2 hx8
    have q3 := q3 hx8
    have hxn : x = ((x.toNat : Nat) : Int) := by omega
    have vx := hv x.toNat (by omega)
    have bx := Val.b vx
    have hdx := dgs_le (Val.c34 vx)
    rw [← hR x.toNat (by omega)] at q1 q2 q3 vx bx hdx
    generalize hxm : x.toNat = xm at *
    have hs4 := swp_b vx.2.1
    have hxm9 : xm < 9 := by omega
    unfold bLg at q1 q2 q3
    have t39 : (¬ (R xm).2.1 = 0 ∨ (R xm).2.2.2.2 = 0) → ix_E 251 39 [some (.ref 98), some (.int (zI x)), none] [.ref 98] h Q := by
      intro hb
      refine jx (pc' := 44) (L' := [_, _, _]) (st' := [.int (zI 1), _]) 2 rfl ?_
      refine jp_si (pc' := 47) 1 K rfl rfl rfl rfl rfl fun h K => ?_
      refine jx (pc' := 48) (L' := [_, _, _]) (st' := [_]) 1 rfl ?_
      refine jgf (pc' := 51) K.ob rfl rfl rfl rfl rfl ?_
      refine jin (pc' := 54) 60 rfl rfl rfl rfl (by rfl) ?_
      refine jx (pc' := 74) (L' := [_, _, _]) (st' := [_]) 2 rfl ?_
      change ix_E 251 74 _ [.int (zI (-2147483648))] h Q
      refine jx (pc' := 77) (L' := [_, _, _]) (st' := [.int (zI (-1)), _]) 3 rfl ?_
      refine jcv (pc' := 80) 233 [.int (zI (-1))] [] K.ob rfl rfl rfl rfl rfl rfl rfl rfl ?_
      refine m_over K (Or.inl rfl) (by decide) htr (fun h0 h K => jk ?_) (fun h0 h K => jk ?_)
      · rw [if_pos rfl] at K
        refine jx (pc' := 82) (L' := [_, _, _]) (st' := [_]) 2 rfl ?_
        refine jgf (pc' := 85) K.ob rfl rfl rfl rfl rfl ?_
        refine jit (pc' := 92) rfl rfl rfl (by rfl) ?_
        refine jx (pc' := 93) (L' := [_, _, _]) (st' := [_]) 1 rfl ?_
        refine jri rfl rfl ?_
        exact q1 hb h0 _ ⟨R, _, hR, K.rj⟩
      · skip
        refine jx (pc' := 82) (L' := [_, _, _]) (st' := [_]) 2 rfl ?_
        refine jgf (pc' := 85) K.ob rfl rfl rfl rfl rfl ?_
        refine jin (pc' := 88) 92 rfl rfl rfl rfl (by rfl) ?_
        refine jx (pc' := 93) (L' := [_, _, _]) (st' := [.int (zI 0)]) 2 rfl ?_
        refine jri rfl rfl ?_
        exact q2 hb h0 _ ⟨R, _, hR, K.rj⟩
    refine jx (pc' := 23) (L' := [_, _, _]) (st' := [_, _]) 2 rfl ?_
    refine jgf (pc' := 26) K.ob rfl rfl rfl rfl rfl ?_
    refine jx (pc' := 27) (L' := [_, _, _]) (st' := [_, _, _]) 1 rfl ?_
    refine jR_so (pc' := 28) xm K rfl rfl (by omega) (by omega)  rfl ?_
    by_cases e0 : (R xm).2.1 = 0
    · have e1 := swp_0.mpr e0
      refine jin (pc' := 31) 39 rfl rfl rfl rfl (by rw [zz_ne ⟨by omega, by omega⟩]; exact decide_eq_false (by omega)) ?_
      refine jx (pc' := 33) (L' := [_, _, _]) (st' := [_, _, _]) 2 rfl ?_
      refine jcv (pc' := 36) 197 [_] [_] K.ob rfl rfl rfl rfl rfl rfl rfl rfl ?_
      refine m_isZero K hxn (by omega) (jk ?_)
      by_cases ez : (R xm).2.2.2.2 = 0
      · skip
        refine jin (pc' := 39) 43 rfl rfl rfl rfl (by rw [bz_eq, decide_eq_true ⟨e0, ez⟩]; rfl) ?_
        exact t39 (Or.inr ez)
      · skip
        refine jit (pc' := 43) rfl rfl rfl (by rw [bz_eq, decide_eq_false (fun n => ez n.2)]; rfl) ?_
        refine jx (pc' := 44) (L' := [_, _, _]) (st' := [.int (zI 0), _]) 1 rfl ?_
        refine jp_si (pc' := 47) 0 K rfl rfl rfl rfl rfl fun h K => ?_
        refine jx (pc' := 48) (L' := [_, _, _]) (st' := [_]) 1 rfl ?_
        refine jgf (pc' := 51) K.ob rfl rfl rfl rfl rfl ?_
        refine jit (pc' := 60) rfl rfl rfl (by rfl) ?_
        refine jx (pc' := 62) (L' := [_, _, _]) (st' := [_, _]) 2 rfl ?_
        refine jcv (pc' := 65) 178 [_] [] K.ob rfl rfl rfl rfl rfl rfl rfl rfl ?_
        refine m_many K hxn (by omega) fun hd => jk ?_
        refine jx (pc' := 66) (L' := [_, _, _]) (st' := [_, _]) 1 rfl ?_
        refine jgf (pc' := 69) K.ob rfl rfl rfl rfl rfl ?_
        refine jx (pc' := 70) (L' := [_, _, _]) (st' := [_, _, _]) 1 rfl ?_
        refine jR_p (pc' := 71) xm K rfl rfl (by omega) (by omega)  rfl ?_
        refine jx (pc' := 77) (L' := [_, _, _]) (st' := [.int (zI (-1)), _]) 6 rfl ?_
        try simp (disch := omega) only [kz, kzl0, kzl1, kzb, kzs, zI_add, zI_sub, zI_neg, zI_mul, zL_i, zI_l, zL_add, zL_sub, zL_neg]
        refine jcv (pc' := 80) 233 [.int (zI (-1))] [] K.ob rfl rfl rfl rfl rfl rfl rfl rfl ?_
        refine m_over K (Or.inl rfl) (by decide) htr (fun h0 h K => jk ?_) (fun h0 h K => jk ?_)
        · rw [if_pos rfl, Nat.or_zero] at K
          refine jx (pc' := 82) (L' := [_, _, _]) (st' := [_]) 2 rfl ?_
          refine jgf (pc' := 85) K.ob rfl rfl rfl rfl rfl ?_
          refine jit (pc' := 92) rfl rfl rfl (by rfl) ?_
          refine jx (pc' := 93) (L' := [_, _, _]) (st' := [_]) 1 rfl ?_
          refine jri rfl rfl ?_
          exact q3 (fun n => n.elim (fun m => m e0) ez) _ ⟨R, _, hR, K.rj⟩
        · exact absurd (Nat.zero_and tr) h0
    · have e1 : ¬ swp (R xm).2.1 = 0 := fun n => e0 (swp_0.mp n)
      refine jit (pc' := 39) rfl rfl rfl (by rw [zz_ne ⟨by omega, by omega⟩]; exact decide_eq_true (by omega)) ?_
      exact t39 (Or.inl e0)
  have t13 : ∀ bd : Bool, bd = decide (¬ (0 ≤ x ∧ x ≤ 8)) → ix_E 251 13 [some (.ref 98), some (.int (zI x)), none] [.int (bI bd), .ref 98] h Q := by
    intro bd hbd
    refine jcv (pc' := 16) 168 [_] [] K.ob rfl rfl rfl rfl rfl rfl rfl rfl ?_
    refine m_fails K fun h K => jk ?_
    cases bd
    · have hc : 0 ≤ x ∧ x ≤ 8 := Classical.not_not.mp (of_decide_eq_false hbd.symm)
      refine jit (pc' := 21) rfl rfl rfl (by rfl) ?_
      exact t21 hc h K
    · have hc := of_decide_eq_true hbd.symm
      refine jin (pc' := 19) 21 rfl rfl rfl rfl (by rfl) ?_
      refine jx (pc' := 20) (L' := [_, _, _]) (st' := [.int (zI 0)]) 1 rfl ?_
      refine jri rfl rfl ?_
      exact q0 hc _ ⟨R, si, hR, K.rj⟩
  refine jx (pc' := 2) (L' := [_, _, _]) (st' := [_, _]) 2 rfl ?_
  refine jcs (pc' := 5) 181 [_] [_] rfl rfl rfl rfl rfl rfl rfl rfl ?_
  refine m_isSource hx (jk ?_)
  by_cases h2 : 0 ≤ x ∧ x ≤ 8
  · skip
    refine jit (pc' := 12) rfl rfl rfl (by rw [bz_ne, decide_eq_true h2]) ?_
    refine jx (pc' := 13) (L' := [_, _, _]) (st' := [.int (zI 0), _]) 1 rfl ?_
    exact t13 false (decide_eq_false (fun n => n h2)).symm
  · skip
    refine jin (pc' := 8) 12 rfl rfl rfl rfl (by rw [bz_ne, decide_eq_false h2]) ?_
    refine jx (pc' := 13) (L' := [_, _, _]) (st' := [.int (zI 1), _]) 2 rfl ?_
    exact t13 true (decide_eq_true h2).symm
theorem m_compare (K : (RK S0 h F cd dr ra tr sz wr tx ou)) (hv : ∀ i, i < 9 → ValD (F i)) (htr : tr < 32) (hx : zr x) (hy : zr y) (q0 : ¬ cFm F x y → ∀ h', (RK S0 h' F (1) dr ra tr sz wr tx ou) → Q (.inl (some (.int (zI 0)))) h') (q1 : cFm F x y → nnD (F x.toNat) (F y.toNat) → ∀ h', (RK S0 h' F (0) dr ra tr sz wr tx ou) → Q (.inl (some (.int (zI (vlC (F x.toNat) (F y.toNat)))))) h') (q2 : cFm F x y → ¬ nnD (F x.toNat) (F y.toNat) → sgC (F x.toNat) (F y.toNat) qt &&& tr = 0 → ∀ h', (RK S0 h' F (0) dr (ra ||| sgC (F x.toNat) (F y.toNat) qt) tr sz wr tx ou) → Q (.inl (some (.int (zI 2)))) h') (q3 : cFm F x y → ¬ nnD (F x.toNat) (F y.toNat) → ¬ sgC (F x.toNat) (F y.toNat) qt &&& tr = 0 → ∀ h', (RK S0 h' F (2) dr (ra ||| sgC (F x.toNat) (F y.toNat) qt) tr sz wr tx ou) → Q (.inl (some (.int (zI 0)))) h') : ix_M 252 [.ref 98, .int (zI x), .int (zI y), .int (bI qt)] h Q := by
  obtain ⟨R, si, hR, V, mo, ng, sp, il, rs, pt, rl, wo, K⟩ := K
  have t49 : cFm F x y → ∀ h1, (RI S0 h1 R V (0) dr ra si tr mo ng sp sz wr il rs pt rl wo tx ou) → ix_E 252 49 [some (.ref 98), some (.int (zI x)), some (.int (zI y)), some (.int (bI qt)), none] [] h1 Q := by
    intro hc h K
    have q1 := q1 hc
    have q2 := q2 hc
    have q3 := q3 hc
    obtain ⟨⟨x1, x2⟩, ⟨y1, y2⟩, hfm⟩ := hc
    have hxn : x = ((x.toNat : Nat) : Int) := by omega
    have hyn : y = ((y.toNat : Nat) : Int) := by omega
    have vx := hv x.toNat (by omega)
    have vy := hv y.toNat (by omega)
    rw [← hR x.toNat (by omega), ← hR y.toNat (by omega)] at q1 q2 q3
    rw [← hR x.toNat (by omega)] at vx
    rw [← hR y.toNat (by omega)] at vy
    generalize hxm : x.toNat = xm at *
    generalize hym : y.toNat = ym at *
    have hs4 := swp_b vx.2.1
    have hs5 := swp_b vy.2.1
    have s4 := vx.2.1
    have s5 := vy.2.1
    have hxm9 : xm < 9 := by omega
    have hym9 : ym < 9 := by omega
    have t107 : ∀ (nn : Bool) (ss : Nat), nn = decide (¬ nnD (R xm) (R ym)) → (nn = true → ss = sgC (R xm) (R ym) qt) → (nn = false → ss = 0) → ix_E 252 107 [some (.ref 98), some (.int (zI x)), some (.int (zI y)), some (.int (bI qt)), some (.int (bI nn))] [.int (zI (ss : Int)), .ref 98] h Q := by
      intro nn ss hnn h1 h0
      have hss : ss < 32 := by
        cases nn
        · rw [h0 rfl]; decide
        · rw [h1 rfl]; unfold sgC; split <;> decide
      refine jp_si (pc' := 110) ss K rfl rfl rfl rfl rfl fun h K => ?_
      refine jx (pc' := 112) (L' := [_, _, _, _, _]) (st' := [.int (zI (-1)), _]) 2 rfl ?_
      refine jcv (pc' := 115) 233 [.int (zI (-1))] [] K.ob rfl rfl rfl rfl rfl rfl rfl rfl ?_
      refine m_over K (Or.inl rfl) hss htr (fun h2 h K => jk ?_) (fun h2 h K => jk ?_)
      · rw [if_pos rfl] at K
        refine jx (pc' := 117) (L' := [_, _, _, _, _]) (st' := [_]) 2 rfl ?_
        refine jgf (pc' := 120) K.ob rfl rfl rfl rfl rfl ?_
        refine jit (pc' := 127) rfl rfl rfl (by rfl) ?_
        refine jx (pc' := 129) (L' := [_, _, _, _, _]) (st' := [_]) 1 rfl ?_
        cases nn
        · have hn : nnD (R xm) (R ym) := Classical.not_not.mp (of_decide_eq_false hnn.symm)
          rw [h0 rfl, Nat.or_zero] at K
          refine jit (pc' := 136) rfl rfl rfl (by rfl) ?_
          refine jx (pc' := 139) (L' := [_, _, _, _, _]) (st' := [_, _, _]) 3 rfl ?_
          refine jcv (pc' := 142) 199 [_, _] [] K.ob rfl rfl rfl rfl rfl rfl rfl rfl ?_
          refine m_order K hxn hyn (by omega) (by omega) (by have := hn.1; omega) (by have := hn.2; omega) (jk ?_)
          refine jri rfl rfl ?_
          rw [← or_F (by have := hn.1; omega) (by have := hn.2; omega)]
          exact q1 hn _ ⟨R, _, hR, K.rj⟩
        · have hn := of_decide_eq_true hnn.symm
          rw [h1 rfl] at K h2
          refine jin (pc' := 132) 136 rfl rfl rfl rfl (by rfl) ?_
          refine jx (pc' := 142) (L' := [_, _, _, _, _]) (st' := [.int (zI 2)]) 2 rfl ?_
          refine jri rfl rfl ?_
          exact q2 hn h2 _ ⟨R, _, hR, K.rj⟩
      · cases nn
        · rw [h0 rfl] at h2
          exact absurd (Nat.zero_and tr) h2
        · have hn := of_decide_eq_true hnn.symm
          rw [h1 rfl] at K h2
          refine jx (pc' := 117) (L' := [_, _, _, _, _]) (st' := [_]) 2 rfl ?_
          refine jgf (pc' := 120) K.ob rfl rfl rfl rfl rfl ?_
          refine jin (pc' := 123) 127 rfl rfl rfl rfl (by rfl) ?_
          refine jx (pc' := 142) (L' := [_, _, _, _, _]) (st' := [.int (zI 0)]) 2 rfl ?_
          refine jri rfl rfl ?_
          exact q3 hn h2 _ ⟨R, _, hR, K.rj⟩
    have t72 : ∀ nn : Bool, nn = decide (¬ nnD (R xm) (R ym)) → ix_E 252 72 [some (.ref 98), some (.int (zI x)), some (.int (zI y)), some (.int (bI qt)), some (.int (bI nn))] [] h Q := by
      intro nn hnn
      have t102 : nn = true → ((R xm).2.1 = 2 ∨ (R ym).2.1 = 2 ∨ qt = false) → ix_E 252 102 [some (.ref 98), some (.int (zI x)), some (.int (zI y)), some (.int (bI qt)), some (.int (bI nn))] [.ref 98] h Q := by
        intro hn hi
        refine jx (pc' := 107) (L' := [_, _, _, _, _]) (st' := [.int (zI 1), _]) 2 rfl ?_
        exact t107 nn 1 hnn (fun _ => by unfold sgC; rw [if_pos hi]) (fun e => by rw [hn] at e; exact nomatch e)
      have nt : ∀ {P : Prop}, (R xm).2.1 = 2 ∨ (R ym).2.1 = 2 → nn = true := fun {P} hi => by
        rw [hnn]
        exact decide_eq_true (fun n => by have h1 := n.1; have h2 := n.2; omega)
      refine jx (pc' := 74) (L' := [_, _, _, _, _]) (st' := [_, _]) 2 rfl ?_
      refine jgf (pc' := 77) K.ob rfl rfl rfl rfl rfl ?_
      refine jx (pc' := 78) (L' := [_, _, _, _, _]) (st' := [_, _, _]) 1 rfl ?_
      refine jR_so (pc' := 79) xm K rfl rfl (by omega) (by omega)  rfl ?_
      refine jx (pc' := 80) (L' := [_, _, _, _, _]) (st' := [.int (zI 3), _, _]) 1 rfl ?_
      by_cases e : (R xm).2.1 = 2
      · have e1 := swp_3.mpr e
        refine jct (pc' := 102) rfl rfl rfl (by rw [zc_eq ⟨by omega, by omega⟩ ⟨by omega, by omega⟩]; exact decide_eq_true (by omega)) ?_
        exact t102 (nt (P := True) (Or.inl e)) (Or.inl e)
      · have e1 : ¬ swp (R xm).2.1 = 3 := fun n => e (swp_3.mp n)
        refine jcn (pc' := 83) 102 rfl rfl rfl rfl (by rw [zc_eq ⟨by omega, by omega⟩ ⟨by omega, by omega⟩]; exact decide_eq_false (by omega)) ?_
        refine jx (pc' := 84) (L' := [_, _, _, _, _]) (st' := [_, _]) 1 rfl ?_
        refine jgf (pc' := 87) K.ob rfl rfl rfl rfl rfl ?_
        refine jx (pc' := 88) (L' := [_, _, _, _, _]) (st' := [_, _, _]) 1 rfl ?_
        refine jR_so (pc' := 89) ym K rfl rfl (by omega) (by omega)  rfl ?_
        refine jx (pc' := 90) (L' := [_, _, _, _, _]) (st' := [.int (zI 3), _, _]) 1 rfl ?_
        by_cases e2 : (R ym).2.1 = 2
        · have e3 := swp_3.mpr e2
          refine jct (pc' := 102) rfl rfl rfl (by rw [zc_eq ⟨by omega, by omega⟩ ⟨by omega, by omega⟩]; exact decide_eq_true (by omega)) ?_
          exact t102 (nt (P := True) (Or.inr e2)) (Or.inr (Or.inl e2))
        · have e3 : ¬ swp (R ym).2.1 = 3 := fun n => e2 (swp_3.mp n)
          refine jcn (pc' := 93) 102 rfl rfl rfl rfl (by rw [zc_eq ⟨by omega, by omega⟩ ⟨by omega, by omega⟩]; exact decide_eq_false (by omega)) ?_
          refine jx (pc' := 95) (L' := [_, _, _, _, _]) (st' := [_, _]) 1 rfl ?_
          cases hnb : nn
          · rw [hnb] at hnn
            refine jit (pc' := 106) rfl rfl rfl (by rfl) ?_
            refine jx (pc' := 107) (L' := [_, _, _, _, _]) (st' := [.int (zI 0), _]) 1 rfl ?_
            exact t107 false 0 hnn (fun n => nomatch n) (fun _ => rfl)
          · rw [hnb] at hnn t102
            refine jin (pc' := 98) 106 rfl rfl rfl rfl (by rfl) ?_
            refine jx (pc' := 99) (L' := [_, _, _, _, _]) (st' := [_, _]) 1 rfl ?_
            cases hq : qt
            · rw [hq] at t102
              refine jin (pc' := 102) 106 rfl rfl rfl rfl (by rfl) ?_
              exact t102 rfl (Or.inr (Or.inr rfl))
            · rw [hq] at t107
              refine jit (pc' := 106) rfl rfl rfl (by rfl) ?_
              refine jx (pc' := 107) (L' := [_, _, _, _, _]) (st' := [.int (zI 0), _]) 1 rfl ?_
              refine t107 true 0 hnn (fun _ => ?_) (fun n => nomatch n)
              unfold sgC
              rw [if_neg (fun n => by
                rcases n with n | n | n
                · exact e n
                · exact e2 n
                · exact nomatch n)]
    have t65 : ¬ nnD (R xm) (R ym) → ix_E 252 65 [some (.ref 98), some (.int (zI x)), some (.int (zI y)), some (.int (bI qt)), none] [] h Q := by
      intro hn
      refine jx (pc' := 72) (L' := [_, _, _, _, _]) (st' := []) 3 rfl ?_
      try simp (disch := omega) only [kz, kzl0, kzl1, kzb, kzs, zI_add, zI_sub, zI_neg, zI_mul, zL_i, zI_l, zL_add, zL_sub, zL_neg]
      exact t72 true (decide_eq_true hn).symm
    refine jx (pc' := 51) (L' := [_, _, _, _, _]) (st' := [_, _]) 2 rfl ?_
    refine jcv (pc' := 54) 194 [_] [] K.ob rfl rfl rfl rfl rfl rfl rfl rfl ?_
    refine m_isNaN K hxn (by omega) (jk ?_)
    by_cases e : 2 ≤ (R xm).2.1
    · skip
      refine jit (pc' := 65) rfl rfl rfl (by rw [bz_ne, decide_eq_true e]) ?_
      exact t65 (fun n => n.1 e)
    · skip
      refine jin (pc' := 57) 65 rfl rfl rfl rfl (by rw [bz_ne, decide_eq_false e]) ?_
      refine jx (pc' := 59) (L' := [_, _, _, _, _]) (st' := [_, _]) 2 rfl ?_
      refine jcv (pc' := 62) 194 [_] [] K.ob rfl rfl rfl rfl rfl rfl rfl rfl ?_
      refine m_isNaN K hyn (by omega) (jk ?_)
      by_cases e2 : 2 ≤ (R ym).2.1
      · skip
        refine jin (pc' := 65) 69 rfl rfl rfl rfl (by rw [bz_eq, decide_eq_true e2]; rfl) ?_
        exact t65 (fun n => n.2 e2)
      · skip
        refine jit (pc' := 69) rfl rfl rfl (by rw [bz_eq, decide_eq_false e2]; rfl) ?_
        refine jx (pc' := 72) (L' := [_, _, _, _, _]) (st' := []) 2 rfl ?_
        try simp (disch := omega) only [kz, kzl0, kzl1, kzb, kzs, zI_add, zI_sub, zI_neg, zI_mul, zL_i, zI_l, zL_add, zL_sub, zL_neg]
        exact t72 false (decide_eq_false (fun n => n ⟨e, e2⟩)).symm
  have t41 : ∀ bd : Bool, bd = decide (¬ cFm F x y) → ix_E 252 41 [some (.ref 98), some (.int (zI x)), some (.int (zI y)), some (.int (bI qt)), none] [.int (bI bd), .ref 98] h Q := by
    intro bd hbd
    refine jcv (pc' := 44) 168 [_] [] K.ob rfl rfl rfl rfl rfl rfl rfl rfl ?_
    refine m_fails K fun h K => jk ?_
    cases bd
    · have hc : cFm F x y := Classical.not_not.mp (of_decide_eq_false hbd.symm)
      refine jit (pc' := 49) rfl rfl rfl (by rfl) ?_
      exact t49 hc h K
    · have hc := of_decide_eq_true hbd.symm
      refine jin (pc' := 47) 49 rfl rfl rfl rfl (by rfl) ?_
      refine jx (pc' := 48) (L' := [_, _, _, _, _]) (st' := [.int (zI 0)]) 1 rfl ?_
      refine jri rfl rfl ?_
      exact q0 hc _ ⟨R, si, hR, K.rj⟩
  have bad : ¬ cFm F x y → ix_E 252 36 [some (.ref 98), some (.int (zI x)), some (.int (zI y)), some (.int (bI qt)), none] [.ref 98] h Q := by
    intro hn
    refine jx (pc' := 41) (L' := [_, _, _, _, _]) (st' := [.int (zI 1), _]) 2 rfl ?_
    exact t41 true (decide_eq_true hn).symm
  refine jx (pc' := 2) (L' := [_, _, _, _, _]) (st' := [_, _]) 2 rfl ?_
  refine jcs (pc' := 5) 181 [_] [_] rfl rfl rfl rfl rfl rfl rfl rfl ?_
  refine m_isSource hx (jk ?_)
  by_cases h3 : 0 ≤ x ∧ x ≤ 8
  · skip
    refine jin (pc' := 8) 36 rfl rfl rfl rfl (by rw [bz_eq, decide_eq_true h3]; rfl) ?_
    refine jx (pc' := 9) (L' := [_, _, _, _, _]) (st' := [_, _]) 1 rfl ?_
    refine jcs (pc' := 12) 181 [_] [_] rfl rfl rfl rfl rfl rfl rfl rfl ?_
    refine m_isSource hy (jk ?_)
    by_cases h4 : 0 ≤ y ∧ y ≤ 8
    · skip
      refine jin (pc' := 15) 36 rfl rfl rfl rfl (by rw [bz_eq, decide_eq_true h4]; rfl) ?_
      refine jx (pc' := 16) (L' := [_, _, _, _, _]) (st' := [_, _]) 1 rfl ?_
      refine jgf (pc' := 19) K.ob rfl rfl rfl rfl rfl ?_
      refine jx (pc' := 23) (L' := [_, _, _, _, _]) (st' := [_, _, _]) 3 rfl ?_
      try simp (disch := omega) only [kz, kzl0, kzl1, kzb, kzs, zI_add, zI_sub, zI_neg, zI_mul, zL_i, zI_l, zL_add, zL_sub, zL_neg]
      rw [za15 h3]
      refine jR_f (pc' := 24) x.toNat K rfl rfl (by omega) (by omega)  rfl ?_
      refine jx (pc' := 25) (L' := [_, _, _, _, _]) (st' := [_, _, _]) 1 rfl ?_
      refine jgf (pc' := 28) K.ob rfl rfl rfl rfl rfl ?_
      refine jx (pc' := 32) (L' := [_, _, _, _, _]) (st' := [_, _, _, _]) 3 rfl ?_
      try simp (disch := omega) only [kz, kzl0, kzl1, kzb, kzs, zI_add, zI_sub, zI_neg, zI_mul, zL_i, zI_l, zL_add, zL_sub, zL_neg]
      rw [za15 h4]
      refine jR_f (pc' := 33) y.toNat K rfl rfl (by omega) (by omega)  rfl ?_
      rw [hR x.toNat (by omega), hR y.toNat (by omega)]
      have f1 := (hv x.toNat (by omega)).1
      have f2 := (hv y.toNat (by omega)).1
      by_cases h5 : (F x.toNat).1 = (F y.toNat).1
      · skip
        refine jct (pc' := 40) rfl rfl rfl (by rw [zc_eq ⟨by omega, by omega⟩ ⟨by omega, by omega⟩]; exact decide_eq_true (by omega)) ?_
        refine jx (pc' := 41) (L' := [_, _, _, _, _]) (st' := [.int (zI 0), _]) 1 rfl ?_
        exact t41 false (decide_eq_false (fun n => n ⟨h3, h4, h5⟩)).symm
      · skip
        refine jcn (pc' := 36) 40 rfl rfl rfl rfl (by rw [zc_eq ⟨by omega, by omega⟩ ⟨by omega, by omega⟩]; exact decide_eq_false (by omega)) ?_
        exact bad (fun n => h5 n.2.2)
    · skip
      refine jit (pc' := 36) rfl rfl rfl (by rw [bz_eq, decide_eq_false h4]; rfl) ?_
      exact bad (fun n => h4 n.2.1)
  · skip
    refine jit (pc' := 36) rfl rfl rfl (by rw [bz_eq, decide_eq_false h3]; rfl) ?_
    exact bad (fun n => h3 n.1)
theorem m_ordered (K : (RK S0 h F cd dr ra tr sz wr tx ou)) (hv : ∀ i, i < 9 → ValD (F i)) (hx : zr x) (hy : zr y) (q0 : ¬ cFm F x y → ∀ h', (RK S0 h' F (1) dr ra tr sz wr tx ou) → Q (.inl (some (.int (bI false)))) h') (q1 : cFm F x y → ∀ h', (RK S0 h' F (0) dr ra tr sz wr tx ou) → Q (.inl (some (.int (bI (ino (F x.toNat).2.1 (F x.toNat).2.2.1 (F x.toNat).2.2.2.1 (F x.toNat).2.2.2.2 (F y.toNat).2.1 (F y.toNat).2.2.1 (F y.toNat).2.2.2.1 (F y.toNat).2.2.2.2))))) h') : ix_M 253 [.ref 98, .int (zI x), .int (zI y)] h Q := by
  obtain ⟨R, si, hR, V, mo, ng, sp, il, rs, pt, rl, wo, K⟩ := K
  have t49 : cFm F x y → ∀ h1, (RI S0 h1 R V (0) dr ra si tr mo ng sp sz wr il rs pt rl wo tx ou) → ix_E 253 49 [some (.ref 98), some (.int (zI x)), some (.int (zI y))] [] h1 Q := by
    intro hc h K
    have q1 := q1 hc
    obtain ⟨⟨x1, x2⟩, ⟨y1, y2⟩, hfm⟩ := hc
    have hxn : x = ((x.toNat : Nat) : Int) := by omega
    have hyn : y = ((y.toNat : Nat) : Int) := by omega
    have vx := hv x.toNat (by omega)
    have vy := hv y.toNat (by omega)
    rw [← hR x.toNat (by omega), ← hR y.toNat (by omega)] at q1
    rw [← hR x.toNat (by omega)] at vx
    rw [← hR y.toNat (by omega)] at vy
    generalize hxm : x.toNat = xm at *
    generalize hym : y.toNat = ym at *
    have hxm9 : xm < 9 := by omega
    have hym9 : ym < 9 := by omega
    have q1 := q1 h ⟨R, si, hR, K.rj⟩
    unfold ino at q1
    have hfz : fzD (R xm) (R ym) = fzo (R xm).2.1 (R xm).2.2.2.1 (R xm).2.2.2.2 (R ym).2.1 (R ym).2.2.2.1 (R ym).2.2.2.2 := rfl
    rw [← hfz] at q1
    refine jx (pc' := 50) (L' := [_, _, _]) (st' := [_]) 1 rfl ?_
    refine jgf (pc' := 53) K.ob rfl rfl rfl rfl rfl ?_
    refine jx (pc' := 54) (L' := [_, _, _]) (st' := [_, _]) 1 rfl ?_
    refine jR_m (pc' := 55) xm K rfl rfl (by omega) (by omega)  rfl ?_
    refine jx (pc' := 56) (L' := [_, _, _]) (st' := [_, _]) 1 rfl ?_
    refine jgf (pc' := 59) K.ob rfl rfl rfl rfl rfl ?_
    refine jx (pc' := 60) (L' := [_, _, _]) (st' := [_, _, _]) 1 rfl ?_
    refine jR_m (pc' := 61) ym K rfl rfl (by omega) (by omega)  rfl ?_
    by_cases e : (R xm).2.2.1 = (R ym).2.2.1
    · rw [if_neg (fun n => n e)] at q1
      refine jct (pc' := 71) rfl rfl rfl (by rw [bc_eq, decide_eq_true e]) ?_
      refine jx (pc' := 72) (L' := [_, _, _]) (st' := [_]) 1 rfl ?_
      refine jgf (pc' := 75) K.ob rfl rfl rfl rfl rfl ?_
      refine jx (pc' := 76) (L' := [_, _, _]) (st' := [_, _]) 1 rfl ?_
      refine jR_m (pc' := 77) xm K rfl rfl (by omega) (by omega)  rfl ?_
      cases hn : (R xm).2.2.1
      · rw [hn, if_neg (by decide)] at q1
        refine jit (pc' := 97) rfl rfl rfl (by rfl) ?_
        refine jx (pc' := 100) (L' := [_, _, _]) (st' := [_, _, _]) 3 rfl ?_
        refine jcv (pc' := 103) 254 [_, _] [] K.ob rfl rfl rfl rfl rfl rfl rfl rfl ?_
        refine m_rankSizes K hxn hyn (by omega) (by omega) vx vy fun w hw w1 w2 => jk ?_
        by_cases hg : fzD (R xm) (R ym) ≤ 0
        · rw [decide_eq_true hg] at q1
          refine jin (pc' := 106) 110 rfl rfl rfl rfl (by rw [zz_gt ⟨by omega, by omega⟩]; exact decide_eq_false (by omega)) ?_
          refine jx (pc' := 111) (L' := [_, _, _]) (st' := [.int (zI 1)]) 2 rfl ?_
          exact jrb rfl rfl q1
        · rw [decide_eq_false hg] at q1
          refine jit (pc' := 110) rfl rfl rfl (by rw [zz_gt ⟨by omega, by omega⟩]; exact decide_eq_true (by omega)) ?_
          refine jx (pc' := 111) (L' := [_, _, _]) (st' := [.int (zI 0)]) 1 rfl ?_
          exact jrb rfl rfl q1
      · rw [hn, if_pos rfl] at q1
        refine jin (pc' := 80) 97 rfl rfl rfl rfl (by rfl) ?_
        refine jx (pc' := 83) (L' := [_, _, _]) (st' := [_, _, _]) 3 rfl ?_
        refine jcv (pc' := 86) 254 [_, _] [] K.ob rfl rfl rfl rfl rfl rfl rfl rfl ?_
        refine m_rankSizes K hxn hyn (by omega) (by omega) vx vy fun w hw w1 w2 => jk ?_
        by_cases hg : 0 ≤ fzD (R xm) (R ym)
        · rw [decide_eq_true hg] at q1
          refine jin (pc' := 89) 93 rfl rfl rfl rfl (by rw [zz_lt ⟨by omega, by omega⟩]; exact decide_eq_false (by omega)) ?_
          refine jx (pc' := 111) (L' := [_, _, _]) (st' := [.int (zI 1)]) 2 rfl ?_
          exact jrb rfl rfl q1
        · rw [decide_eq_false hg] at q1
          refine jit (pc' := 93) rfl rfl rfl (by rw [zz_lt ⟨by omega, by omega⟩]; exact decide_eq_true (by omega)) ?_
          refine jx (pc' := 111) (L' := [_, _, _]) (st' := [.int (zI 0)]) 2 rfl ?_
          exact jrb rfl rfl q1
    · rw [if_pos e] at q1
      refine jcn (pc' := 64) 71 rfl rfl rfl rfl (by rw [bc_eq, decide_eq_false e]) ?_
      refine jx (pc' := 65) (L' := [_, _, _]) (st' := [_]) 1 rfl ?_
      refine jgf (pc' := 68) K.ob rfl rfl rfl rfl rfl ?_
      refine jx (pc' := 69) (L' := [_, _, _]) (st' := [_, _]) 1 rfl ?_
      refine jR_m (pc' := 70) xm K rfl rfl (by omega) (by omega)  rfl ?_
      exact jrb rfl rfl q1
  have t41 : ∀ bd : Bool, bd = decide (¬ cFm F x y) → ix_E 253 41 [some (.ref 98), some (.int (zI x)), some (.int (zI y))] [.int (bI bd), .ref 98] h Q := by
    intro bd hbd
    refine jcv (pc' := 44) 168 [_] [] K.ob rfl rfl rfl rfl rfl rfl rfl rfl ?_
    refine m_fails K fun h K => jk ?_
    cases bd
    · have hc : cFm F x y := Classical.not_not.mp (of_decide_eq_false hbd.symm)
      refine jit (pc' := 49) rfl rfl rfl (by rfl) ?_
      exact t49 hc h K
    · have hc := of_decide_eq_true hbd.symm
      refine jin (pc' := 47) 49 rfl rfl rfl rfl (by rfl) ?_
      refine jx (pc' := 48) (L' := [_, _, _]) (st' := [.int (zI 0)]) 1 rfl ?_
      exact jrb rfl rfl (q0 hc _ ⟨R, si, hR, K.rj⟩)
  have bad : ¬ cFm F x y → ix_E 253 36 [some (.ref 98), some (.int (zI x)), some (.int (zI y))] [.ref 98] h Q := by
    intro hn
    refine jx (pc' := 41) (L' := [_, _, _]) (st' := [.int (zI 1), _]) 2 rfl ?_
    exact t41 true (decide_eq_true hn).symm
  refine jx (pc' := 2) (L' := [_, _, _]) (st' := [_, _]) 2 rfl ?_
  refine jcs (pc' := 5) 181 [_] [_] rfl rfl rfl rfl rfl rfl rfl rfl ?_
  refine m_isSource hx (jk ?_)
  by_cases h3 : 0 ≤ x ∧ x ≤ 8
  · skip
    refine jin (pc' := 8) 36 rfl rfl rfl rfl (by rw [bz_eq, decide_eq_true h3]; rfl) ?_
    refine jx (pc' := 9) (L' := [_, _, _]) (st' := [_, _]) 1 rfl ?_
    refine jcs (pc' := 12) 181 [_] [_] rfl rfl rfl rfl rfl rfl rfl rfl ?_
    refine m_isSource hy (jk ?_)
    by_cases h4 : 0 ≤ y ∧ y ≤ 8
    · skip
      refine jin (pc' := 15) 36 rfl rfl rfl rfl (by rw [bz_eq, decide_eq_true h4]; rfl) ?_
      refine jx (pc' := 16) (L' := [_, _, _]) (st' := [_, _]) 1 rfl ?_
      refine jgf (pc' := 19) K.ob rfl rfl rfl rfl rfl ?_
      refine jx (pc' := 23) (L' := [_, _, _]) (st' := [_, _, _]) 3 rfl ?_
      try simp (disch := omega) only [kz, kzl0, kzl1, kzb, kzs, zI_add, zI_sub, zI_neg, zI_mul, zL_i, zI_l, zL_add, zL_sub, zL_neg]
      rw [za15 h3]
      refine jR_f (pc' := 24) x.toNat K rfl rfl (by omega) (by omega)  rfl ?_
      refine jx (pc' := 25) (L' := [_, _, _]) (st' := [_, _, _]) 1 rfl ?_
      refine jgf (pc' := 28) K.ob rfl rfl rfl rfl rfl ?_
      refine jx (pc' := 32) (L' := [_, _, _]) (st' := [_, _, _, _]) 3 rfl ?_
      try simp (disch := omega) only [kz, kzl0, kzl1, kzb, kzs, zI_add, zI_sub, zI_neg, zI_mul, zL_i, zI_l, zL_add, zL_sub, zL_neg]
      rw [za15 h4]
      refine jR_f (pc' := 33) y.toNat K rfl rfl (by omega) (by omega)  rfl ?_
      rw [hR x.toNat (by omega), hR y.toNat (by omega)]
      have f1 := (hv x.toNat (by omega)).1
      have f2 := (hv y.toNat (by omega)).1
      by_cases h5 : (F x.toNat).1 = (F y.toNat).1
      · skip
        refine jct (pc' := 40) rfl rfl rfl (by rw [zc_eq ⟨by omega, by omega⟩ ⟨by omega, by omega⟩]; exact decide_eq_true (by omega)) ?_
        refine jx (pc' := 41) (L' := [_, _, _]) (st' := [.int (zI 0), _]) 1 rfl ?_
        exact t41 false (decide_eq_false (fun n => n ⟨h3, h4, h5⟩)).symm
      · skip
        refine jcn (pc' := 36) 40 rfl rfl rfl rfl (by rw [zc_eq ⟨by omega, by omega⟩ ⟨by omega, by omega⟩]; exact decide_eq_false (by omega)) ?_
        exact bad (fun n => h5 n.2.2)
    · skip
      refine jit (pc' := 36) rfl rfl rfl (by rw [bz_eq, decide_eq_false h4]; rfl) ?_
      exact bad (fun n => h4 n.2.1)
  · skip
    refine jit (pc' := 36) rfl rfl rfl (by rw [bz_eq, decide_eq_false h3]; rfl) ?_
    exact bad (fun n => h3 n.1)
end REF
