/-! ===== the reference: fused, one ===== -/
abbrev cFu (F : Nat → Dm) (x y z w : Int) : Prop := (0 ≤ x ∧ x < 8) ∧ ((0 ≤ y ∧ y ≤ 8) ∧ (0 ≤ z ∧ z ≤ 8) ∧ (F y.toNat).1 = (F z.toNat).1) ∧ ((0 ≤ z ∧ z ≤ 8) ∧ (0 ≤ w ∧ w ≤ 8) ∧ (F z.toNat).1 = (F w.toNat).1)
abbrev cOn (w x y : Int) : Prop := (0 ≤ w ∧ w ≤ 11) ∧ (0 ≤ x ∧ x < 8) ∧ (0 ≤ y ∧ y ≤ 8)
section REF
variable {h : ix_H} {Q : ix_O → ix_H → Prop} {S0 : Nat → AC} {R F : Nat → Dm} {V cd dr ra si tr : Nat} {mo ng : Bool} {sp sz wr : Nat} {il : Bool} {rs pt rl wo tx ou : Nat → Nat} {j x y z w a0 b0 : Int} {r f s m a c : Nat} {b t : Bool}
theorem m_fused (K : (RK S0 h F cd dr ra tr sz wr tx ou)) (hv : ∀ i, i < 9 → ValD (F i)) (hdr : dr < 5) (htr : tr < 32) (hw : zr w) (hx : zr x) (hy : zr y) (hz : zr z) (q0 : ¬ cFu F x y z w → ∀ h', (RK S0 h' F (1) dr ra tr sz wr tx ou) → Q (.inl (some (.int (zI 0)))) h') (q1 : cFu F x y z w → (o3R dr (F y.toNat) (F z.toNat) (F w.toNat)).2 &&& tr = 0 → ∀ h', (RK S0 h' (va_up (va_up F 8 (o3R dr (F y.toNat) (F z.toNat) (F w.toNat)).1) x.toNat (o3R dr (F y.toNat) (F z.toNat) (F w.toNat)).1) (0) dr (ra ||| (o3R dr (F y.toNat) (F z.toNat) (F w.toNat)).2) tr sz wr tx ou) → Q (.inl (some (.int (zI ((o3R dr (F y.toNat) (F z.toNat) (F w.toNat)).2 : Nat))))) h') (q2 : cFu F x y z w → ¬ (o3R dr (F y.toNat) (F z.toNat) (F w.toNat)).2 &&& tr = 0 → ∀ h', (RK S0 h' (va_up F 8 (o3R dr (F y.toNat) (F z.toNat) (F w.toNat)).1) (2) dr (ra ||| (o3R dr (F y.toNat) (F z.toNat) (F w.toNat)).2) tr sz wr tx ou) → Q (.inl (some (.int (zI 0)))) h') : ix_M 234 [.ref 98, .int (zI x), .int (zI y), .int (zI z), .int (zI w)] h Q := by
  obtain ⟨R, si, hR, V, mo, ng, sp, il, rs, pt, rl, wo, K⟩ := K
  have t88 : cFu F x y z w → ∀ h1, (RI S0 h1 R V (0) dr ra si tr mo ng sp sz wr il rs pt rl wo tx ou) → ix_E 234 88 [some (.ref 98), some (.int (zI x)), some (.int (zI y)), some (.int (zI z)), some (.int (zI w))] [] h1 Q := by
    intro hc h K
    have q1 := q1 hc
    have q2 := q2 hc
    obtain ⟨⟨x1, x2⟩, ⟨⟨y1, y2⟩, ⟨z1, z2⟩, e1⟩, _, ⟨w1, w2⟩, e2⟩ := hc
    have vy := hv y.toNat (by omega)
    have vz := hv z.toNat (by omega)
    have vw := hv w.toNat (by omega)
    have hfl := fl_o3 (dir := dr) (A := F y.toNat) (B := F z.toNat) (C := F w.toNat) vy
    have eo := fu_F (dr := dr) vy vz vw
    generalize o3R dr (F y.toNat) (F z.toNat) (F w.toNat) = o at *
    refine jx (pc' := 90) (L' := [_, _, _, _, _]) (st' := [.int (zI 0), _]) 2 rfl ?_
    refine jp_si (pc' := 93) 0 K (by first | rfl | (congr 1; omega)) rfl rfl rfl rfl fun h K => ?_
    refine jx (pc' := 97) (L' := [_, _, _, _, _]) (st' := [.int (zI 9), _, _]) 3 rfl ?_
    refine jcv (pc' := 100) 192 [_, .int (zI 9)] [] K.ob rfl rfl rfl rfl rfl rfl rfl rfl ?_
    refine m_copy (a := y.toNat) (c := 9) K (by omega) rfl (by omega) (by decide) (by omega) fun h K => jk ?_
    refine jx (pc' := 104) (L' := [_, _, _, _, _]) (st' := [.int (zI 10), _, _]) 3 rfl ?_
    refine jcv (pc' := 107) 192 [_, .int (zI 10)] [] K.ob rfl rfl rfl rfl rfl rfl rfl rfl ?_
    refine m_copy (a := z.toNat) (c := 10) K (by omega) rfl (by omega) (by decide) (by omega) fun h K => jk ?_
    rw [va_up_ne R (R y.toNat) (show ¬ z.toNat = 9 by omega), hR y.toNat (by omega), hR z.toNat (by omega)] at K
    refine jx (pc' := 112) (L' := [_, _, _, _, _]) (st' := [.int (zI 11), _, _]) 3 rfl ?_
    refine jcv (pc' := 115) 192 [_, .int (zI 11)] [] K.ob rfl rfl rfl rfl rfl rfl rfl rfl ?_
    refine m_copy (a := w.toNat) (c := 11) K (by omega) rfl (by omega) (by decide) (by omega) fun h K => jk ?_
    rw [va_up_ne (va_up R 9 (F y.toNat)) (F z.toNat) (show ¬ w.toNat = 10 by omega), va_up_ne R (F y.toNat) (show ¬ w.toNat = 9 by omega), hR w.toNat (by omega)] at K
    have e9 : va_up (va_up (va_up R 9 (F y.toNat)) 10 (F z.toNat)) 11 (F w.toNat) 9 = F y.toNat := by rw [va_up_ne _ _ (by decide), va_up_ne _ _ (by decide), va_up_self]
    have e10 : va_up (va_up (va_up R 9 (F y.toNat)) 10 (F z.toNat)) 11 (F w.toNat) 10 = F z.toNat := by rw [va_up_ne _ _ (by decide), va_up_self]
    have e11 : va_up (va_up (va_up R 9 (F y.toNat)) 10 (F z.toNat)) 11 (F w.toNat) 11 = F w.toNat := va_up_self _ _ _
    have eR : ∀ i, i < 8 → va_up (va_up (va_up R 9 (F y.toNat)) 10 (F z.toNat)) 11 (F w.toNat) i = F i := fun i hi => by
      rw [va_up_ne _ _ (by omega), va_up_ne _ _ (by omega), va_up_ne _ _ (by omega)]
      exact hR i (by omega)
    clear hR
    generalize va_up (va_up (va_up R 9 (F y.toNat)) 10 (F z.toNat)) 11 (F w.toNat) = R at *
    rw [← e9, ← e10, ← e11] at eo
    rw [← e9] at vy
    rw [← e10] at vz
    rw [← e11] at vw
    refine jx (pc' := 122) (L' := [_, _, _, _, _]) (st' := [.int (zI 11), .int (zI 10), .int (zI 9), _]) 4 rfl ?_
    refine jcv (pc' := 125) 235 [.int (zI 9), .int (zI 10), .int (zI 11)] [] K.ob rfl rfl rfl rfl rfl rfl rfl rfl ?_
    refine m_fuse K vy vz vw hdr fun h K => jk ?_
    rw [← eo] at K
    obtain ⟨V, mo, ng, sp, il, rs, pt, rl, wo, K⟩ := K
    refine jx (pc' := 127) (L' := [_, _, _, _, _]) (st' := [_, _]) 2 rfl ?_
    refine jcv (pc' := 130) 233 [_] [] K.ob rfl rfl rfl rfl rfl rfl rfl rfl ?_
    refine m_overK (d := x.toNat) K.rj eR (by omega) (by omega) hfl htr (fun h0 h K => jk ?_) (fun h0 h K => jk ?_)
    · skip
      refine jri rfl rfl ?_
      exact q1 h0 _ K
    · skip
      refine jri rfl rfl ?_
      exact q2 h0 _ K
  have t80 : (0 ≤ x ∧ x < 8) → (0 ≤ y ∧ y ≤ 8) → (0 ≤ z ∧ z ≤ 8) → (0 ≤ w ∧ w ≤ 8) → ∀ (h1 : ix_H) (c1 : Nat) (bd : Bool), (RI S0 h1 R V (c1) dr ra si tr mo ng sp sz wr il rs pt rl wo tx ou) → bd = decide (¬ cFu F x y z w) → ix_E 234 80 [some (.ref 98), some (.int (zI x)), some (.int (zI y)), some (.int (zI z)), some (.int (zI w))] [.int (bI bd), .ref 98] h1 Q := by
    intro hx' hy' hz' hw' h c1 bd K hbd
    refine jcv (pc' := 83) 168 [_] [] K.ob rfl rfl rfl rfl rfl rfl rfl rfl ?_
    refine m_fails K fun h K => jk ?_
    cases bd
    · have hc : cFu F x y z w := Classical.not_not.mp (of_decide_eq_false hbd.symm)
      refine jit (pc' := 88) rfl rfl rfl (by rfl) ?_
      exact t88 hc h K
    · have hc := of_decide_eq_true hbd.symm
      refine jin (pc' := 86) 88 rfl rfl rfl rfl (by rfl) ?_
      refine jx (pc' := 87) (L' := [_, _, _, _, _]) (st' := [.int (zI 0)]) 1 rfl ?_
      refine jri rfl rfl ?_
      exact q0 hc _ ⟨R, si, hR, K.rj⟩
  have t35 : ∀ bd : Bool, bd = decide (¬ ((0 ≤ x ∧ x < 8) ∧ (0 ≤ y ∧ y ≤ 8) ∧ (0 ≤ z ∧ z ≤ 8) ∧ (0 ≤ w ∧ w ≤ 8))) → ix_E 234 35 [some (.ref 98), some (.int (zI x)), some (.int (zI y)), some (.int (zI z)), some (.int (zI w))] [.int (bI bd), .ref 98] h Q := by
    intro bd hbd
    refine jcv (pc' := 38) 168 [_] [] K.ob rfl rfl rfl rfl rfl rfl rfl rfl ?_
    refine m_fails K fun h K => jk ?_
    cases bd
    · obtain ⟨hx', hy', hz', hw'⟩ := Classical.not_not.mp (of_decide_eq_false hbd.symm)
      have f1 := (hv y.toNat (by omega)).1
      have f2 := (hv z.toNat (by omega)).1
      have f3 := (hv w.toNat (by omega)).1
      have bad : ¬ cFu F x y z w → ix_E 234 75 [some (.ref 98), some (.int (zI x)), some (.int (zI y)), some (.int (zI z)), some (.int (zI w))] [.ref 98] h Q := by
        intro hn
        refine jx (pc' := 80) (L' := [_, _, _, _, _]) (st' := [.int (zI 1), _]) 2 rfl ?_
        exact t80 hx' hy' hz' hw' h _ true K (decide_eq_true hn).symm
      refine jit (pc' := 43) rfl rfl rfl (by rfl) ?_
      refine jx (pc' := 45) (L' := [_, _, _, _, _]) (st' := [_, _]) 2 rfl ?_
      refine jgf (pc' := 48) K.ob rfl rfl rfl rfl rfl ?_
      refine jx (pc' := 49) (L' := [_, _, _, _, _]) (st' := [_, _, _]) 1 rfl ?_
      refine jR_f (pc' := 50) y.toNat K rfl rfl (by omega) (by omega)  rfl ?_
      refine jx (pc' := 51) (L' := [_, _, _, _, _]) (st' := [_, _, _]) 1 rfl ?_
      refine jgf (pc' := 54) K.ob rfl rfl rfl rfl rfl ?_
      refine jx (pc' := 55) (L' := [_, _, _, _, _]) (st' := [_, _, _, _]) 1 rfl ?_
      refine jR_f (pc' := 56) z.toNat K rfl rfl (by omega) (by omega)  rfl ?_
      rw [hR y.toNat (by omega), hR z.toNat (by omega)]
      by_cases e1 : (F y.toNat).1 = (F z.toNat).1
      · skip
        refine jcn (pc' := 59) 75 rfl rfl rfl rfl (by rw [zc_ne ⟨by omega, by omega⟩ ⟨by omega, by omega⟩]; exact decide_eq_false (by omega)) ?_
        refine jx (pc' := 60) (L' := [_, _, _, _, _]) (st' := [_, _]) 1 rfl ?_
        refine jgf (pc' := 63) K.ob rfl rfl rfl rfl rfl ?_
        refine jx (pc' := 64) (L' := [_, _, _, _, _]) (st' := [_, _, _]) 1 rfl ?_
        refine jR_f (pc' := 65) y.toNat K rfl rfl (by omega) (by omega)  rfl ?_
        refine jx (pc' := 66) (L' := [_, _, _, _, _]) (st' := [_, _, _]) 1 rfl ?_
        refine jgf (pc' := 69) K.ob rfl rfl rfl rfl rfl ?_
        refine jx (pc' := 71) (L' := [_, _, _, _, _]) (st' := [_, _, _, _]) 1 rfl ?_
        refine jR_f (pc' := 72) w.toNat K rfl rfl (by omega) (by omega)  rfl ?_
        rw [hR y.toNat (by omega), hR w.toNat (by omega)]
        by_cases e2 : (F y.toNat).1 = (F w.toNat).1
        · skip
          refine jct (pc' := 79) rfl rfl rfl (by rw [zc_eq ⟨by omega, by omega⟩ ⟨by omega, by omega⟩]; exact decide_eq_true (by omega)) ?_
          refine jx (pc' := 80) (L' := [_, _, _, _, _]) (st' := [.int (zI 0), _]) 1 rfl ?_
          exact t80 hx' hy' hz' hw' h _ false K (decide_eq_false (fun n => n ⟨hx', ⟨hy', hz', e1⟩, hz', hw', by omega⟩)).symm
        · skip
          refine jcn (pc' := 75) 79 rfl rfl rfl rfl (by rw [zc_eq ⟨by omega, by omega⟩ ⟨by omega, by omega⟩]; exact decide_eq_false (by omega)) ?_
          exact bad (fun n => e2 (by have := n.2.1.2.2; have := n.2.2.2.2; omega))
      · skip
        refine jct (pc' := 75) rfl rfl rfl (by rw [zc_ne ⟨by omega, by omega⟩ ⟨by omega, by omega⟩]; exact decide_eq_true (by omega)) ?_
        exact bad (fun n => e1 n.2.1.2.2)
    · have hc := of_decide_eq_true hbd.symm
      refine jin (pc' := 41) 43 rfl rfl rfl rfl (by rfl) ?_
      refine jx (pc' := 42) (L' := [_, _, _, _, _]) (st' := [.int (zI 0)]) 1 rfl ?_
      refine jri rfl rfl ?_
      exact q0 (fun n => hc ⟨n.1, n.2.1.1, n.2.1.2.1, n.2.2.2.1⟩) _ ⟨R, si, hR, K.rj⟩
  have bad : ¬ ((0 ≤ x ∧ x < 8) ∧ (0 ≤ y ∧ y ≤ 8) ∧ (0 ≤ z ∧ z ≤ 8) ∧ (0 ≤ w ∧ w ≤ 8)) → ix_E 234 30 [some (.ref 98), some (.int (zI x)), some (.int (zI y)), some (.int (zI z)), some (.int (zI w))] [.ref 98] h Q := by
    intro hn
    refine jx (pc' := 35) (L' := [_, _, _, _, _]) (st' := [.int (zI 1), _]) 2 rfl ?_
    exact t35 true (decide_eq_true hn).symm
  refine jx (pc' := 2) (L' := [_, _, _, _, _]) (st' := [_, _]) 2 rfl ?_
  refine jcs (pc' := 5) 166 [_] [_] rfl rfl rfl rfl rfl rfl rfl rfl ?_
  refine m_isTarget hx (jk ?_)
  by_cases h1 : 0 ≤ x ∧ x < 8
  · skip
    refine jin (pc' := 8) 30 rfl rfl rfl rfl (by rw [bz_eq, decide_eq_true h1]; rfl) ?_
    refine jx (pc' := 9) (L' := [_, _, _, _, _]) (st' := [_, _]) 1 rfl ?_
    refine jcs (pc' := 12) 181 [_] [_] rfl rfl rfl rfl rfl rfl rfl rfl ?_
    refine m_isSource hy (jk ?_)
    by_cases h2 : 0 ≤ y ∧ y ≤ 8
    · skip
      refine jin (pc' := 15) 30 rfl rfl rfl rfl (by rw [bz_eq, decide_eq_true h2]; rfl) ?_
      refine jx (pc' := 16) (L' := [_, _, _, _, _]) (st' := [_, _]) 1 rfl ?_
      refine jcs (pc' := 19) 181 [_] [_] rfl rfl rfl rfl rfl rfl rfl rfl ?_
      refine m_isSource hz (jk ?_)
      by_cases h3 : 0 ≤ z ∧ z ≤ 8
      · skip
        refine jin (pc' := 22) 30 rfl rfl rfl rfl (by rw [bz_eq, decide_eq_true h3]; rfl) ?_
        refine jx (pc' := 24) (L' := [_, _, _, _, _]) (st' := [_, _]) 1 rfl ?_
        refine jcs (pc' := 27) 181 [_] [_] rfl rfl rfl rfl rfl rfl rfl rfl ?_
        refine m_isSource hw (jk ?_)
        by_cases h4 : 0 ≤ w ∧ w ≤ 8
        · skip
          refine jit (pc' := 34) rfl rfl rfl (by rw [bz_ne, decide_eq_true h4]) ?_
          refine jx (pc' := 35) (L' := [_, _, _, _, _]) (st' := [.int (zI 0), _]) 1 rfl ?_
          exact t35 false (decide_eq_false (fun n => n ⟨h1, h2, h3, h4⟩)).symm
        · skip
          refine jin (pc' := 30) 34 rfl rfl rfl rfl (by rw [bz_ne, decide_eq_false h4]) ?_
          exact bad (fun n => h4 n.2.2.2)
      · skip
        refine jit (pc' := 30) rfl rfl rfl (by rw [bz_eq, decide_eq_false h3]; rfl) ?_
        exact bad (fun n => h3 n.2.2.1)
    · skip
      refine jit (pc' := 30) rfl rfl rfl (by rw [bz_eq, decide_eq_false h2]; rfl) ?_
      exact bad (fun n => h2 n.2.1)
  · skip
    refine jit (pc' := 30) rfl rfl rfl (by rw [bz_eq, decide_eq_false h1]; rfl) ?_
    exact bad (fun n => h1 n.1)
theorem m_one (K : (RK S0 h F cd dr ra tr sz wr tx ou)) (hv : ∀ i, i < 9 → ValD (F i)) (hdr : dr < 5) (htr : tr < 32) (hw : zr w) (hx : zr x) (hy : zr y) (q0 : ¬ cOn w x y → ∀ h', (RK S0 h' F (1) dr ra tr sz wr tx ou) → Q (.inl (some (.int (zI 0)))) h') (q1 : cOn w x y → (o1R w.toNat dr (F y.toNat)).2 &&& tr = 0 → ∀ h', (RK S0 h' (va_up (va_up F 8 (o1R w.toNat dr (F y.toNat)).1) x.toNat (o1R w.toNat dr (F y.toNat)).1) (0) dr (ra ||| (o1R w.toNat dr (F y.toNat)).2) tr sz wr tx ou) → Q (.inl (some (.int (zI ((o1R w.toNat dr (F y.toNat)).2 : Nat))))) h') (q2 : cOn w x y → ¬ (o1R w.toNat dr (F y.toNat)).2 &&& tr = 0 → ∀ h', (RK S0 h' (va_up F 8 (o1R w.toNat dr (F y.toNat)).1) (2) dr (ra ||| (o1R w.toNat dr (F y.toNat)).2) tr sz wr tx ou) → Q (.inl (some (.int (zI 0)))) h') : ix_M 236 [.ref 98, .int (zI w), .int (zI x), .int (zI y)] h Q := by
  obtain ⟨R, si, hR, V, mo, ng, sp, il, rs, pt, rl, wo, K⟩ := K
  have hw1 := hw.1
  have hw2 := hw.2
  have t38 : cOn w x y → ∀ h1, (RI S0 h1 R V (0) dr ra si tr mo ng sp sz wr il rs pt rl wo tx ou) → ix_E 236 38 [some (.ref 98), some (.int (zI w)), some (.int (zI x)), some (.int (zI y))] [] h1 Q := by
    intro hc h K
    have q1 := q1 hc
    have q2 := q2 hc
    obtain ⟨⟨w1, w2⟩, ⟨x1, x2⟩, ⟨y1, y2⟩⟩ := hc
    have vy := hv y.toNat (by omega)
    have hfl := fl_o1 (what := w.toNat) (dir := dr) (A := F y.toNat) vy
    have eo : o1R w.toNat dr (F y.toNat) = o1R w.toNat dr (F y.toNat) := rfl
    conv at eo => rhs; unfold o1R
    generalize o1R w.toNat dr (F y.toNat) = o at *
    refine jx (pc' := 40) (L' := [_, _, _, _]) (st' := [.int (zI 0), _]) 2 rfl ?_
    refine jp_si (pc' := 43) 0 K (by first | rfl | (congr 1; omega)) rfl rfl rfl rfl fun h K => ?_
    refine jx (pc' := 47) (L' := [_, _, _, _]) (st' := [.int (zI 9), _, _]) 3 rfl ?_
    refine jcv (pc' := 50) 192 [_, .int (zI 9)] [] K.ob rfl rfl rfl rfl rfl rfl rfl rfl ?_
    refine m_copy (a := y.toNat) (c := 9) K (by omega) rfl (by omega) (by decide) (by omega) fun h K => jk ?_
    rw [hR y.toNat (by omega)] at K
    have e9 : va_up R 9 (F y.toNat) 9 = F y.toNat := va_up_self _ _ _
    have eR : ∀ i, i < 8 → va_up R 9 (F y.toNat) i = F i := fun i hi => by
      rw [va_up_ne _ _ (by omega)]
      exact hR i (by omega)
    clear hR
    generalize va_up R 9 (F y.toNat) = R at *
    rw [← e9] at vy eo
    clear e9
    have t201 : ∀ (h1 : ix_H) (u : Dm × Nat), u = o → (RJ S0 h1 (va_up R 8 u.1) (0) dr ra (u.2) tr sz wr tx ou) → ix_E 236 201 [some (.ref 98), some (.int (zI w)), some (.int (zI x)), some (.int (zI y))] [] h1 Q := by
      intro h u hu K
      rw [hu] at K
      obtain ⟨V, mo, ng, sp, il, rs, pt, rl, wo, K⟩ := K
      refine jx (pc' := 203) (L' := [_, _, _, _]) (st' := [_, _]) 2 rfl ?_
      refine jcv (pc' := 206) 233 [_] [] K.ob rfl rfl rfl rfl rfl rfl rfl rfl ?_
      refine m_overK (d := x.toNat) K.rj eR (by omega) (by omega) hfl htr (fun h0 h K => jk ?_) (fun h0 h K => jk ?_)
      · skip
        refine jri rfl rfl ?_
        exact q1 h0 _ K
      · skip
        refine jri rfl rfl ?_
        exact q2 h0 _ K
    have t62 : (w.toNat = 9 ∨ w.toNat = 10) → ix_E 236 62 [some (.ref 98), some (.int (zI w)), some (.int (zI x)), some (.int (zI y))] [] h Q := by
      intro hi
      rw [if_pos hi] at eo
      refine jx (pc' := 67) (L' := [_, _, _, _]) (st' := [.int (zI 8), .int (zI 9), _]) 3 rfl ?_
      refine jcv (pc' := 70) 192 [.int (zI 9), .int (zI 8)] [] K.ob rfl rfl rfl rfl rfl rfl rfl rfl ?_
      refine m_copy (a := 9) (c := 8) K rfl rfl (by decide) (by decide) (by decide) fun h K => jk ?_
      have t97 : ∀ nn : Bool, nn = (decide (w.toNat = 9) && !(R 9).2.2.1) → ix_E 236 97 [some (.ref 98), some (.int (zI w)), some (.int (zI x)), some (.int (zI y))] [.int (bI nn), .int (zI 8), .ref 99] h Q := by
        intro nn hnn
        refine jW_m (pc' := 98) 8 nn K rfl rfl rfl rfl (by decide) rfl fun h K => ?_
        rw [va_up_self, va_up_up, hnn] at K
        refine jx (pc' := 201) (L' := [_, _, _, _]) (st' := []) 1 rfl ?_
        exact t201 h _ eo.symm K.rj
      refine jx (pc' := 71) (L' := [_, _, _, _]) (st' := [_]) 1 rfl ?_
      refine jgf (pc' := 74) K.ob rfl rfl rfl rfl rfl ?_
      refine jx (pc' := 79) (L' := [_, _, _, _]) (st' := [.int (zI 9), _, .int (zI 8), _]) 3 rfl ?_
      by_cases w9 : w = 9
      · skip
        refine jcn (pc' := 82) 96 rfl rfl rfl rfl (by rw [zc_ne ⟨by omega, by omega⟩ ⟨by omega, by omega⟩]; exact decide_eq_false (by omega)) ?_
        refine jx (pc' := 83) (L' := [_, _, _, _]) (st' := [_, .int (zI 8), _]) 1 rfl ?_
        refine jgf (pc' := 86) K.ob rfl rfl rfl rfl rfl ?_
        refine jx (pc' := 88) (L' := [_, _, _, _]) (st' := [.int (zI 9), _, .int (zI 8), _]) 1 rfl ?_
        refine jR_m (pc' := 89) 9 K rfl rfl (by omega) (by omega)  rfl ?_
        rw [va_up_ne _ _ (by decide)]
        cases hn : (R 9).2.2.1
        · rw [hn] at t97
          refine jin (pc' := 92) 96 rfl rfl rfl rfl (by rfl) ?_
          refine jx (pc' := 97) (L' := [_, _, _, _]) (st' := [.int (zI 1), .int (zI 8), _]) 2 rfl ?_
          exact t97 true (by rw [decide_eq_true (by omega)]; rfl)
        · rw [hn] at t97
          refine jit (pc' := 96) rfl rfl rfl (by rfl) ?_
          refine jx (pc' := 97) (L' := [_, _, _, _]) (st' := [.int (zI 0), .int (zI 8), _]) 1 rfl ?_
          exact t97 false (by rw [decide_eq_true (by omega)]; rfl)
      · skip
        refine jct (pc' := 96) rfl rfl rfl (by rw [zc_ne ⟨by omega, by omega⟩ ⟨by omega, by omega⟩]; exact decide_eq_true (by omega)) ?_
        refine jx (pc' := 97) (L' := [_, _, _, _]) (st' := [.int (zI 0), .int (zI 8), _]) 1 rfl ?_
        exact t97 false (by rw [decide_eq_false (by omega)]; rfl)
    refine jx (pc' := 53) (L' := [_, _, _, _]) (st' := [.int (zI 9), _]) 2 rfl ?_
    by_cases w9 : w = 9
    · skip
      refine jct (pc' := 62) rfl rfl rfl (by rw [zc_eq ⟨by omega, by omega⟩ ⟨by omega, by omega⟩]; exact decide_eq_true (by omega)) ?_
      exact t62 (Or.inl (by omega))
    · skip
      refine jcn (pc' := 56) 62 rfl rfl rfl rfl (by rw [zc_eq ⟨by omega, by omega⟩ ⟨by omega, by omega⟩]; exact decide_eq_false (by omega)) ?_
      refine jx (pc' := 59) (L' := [_, _, _, _]) (st' := [.int (zI 10), _]) 2 rfl ?_
      by_cases w10 : w = 10
      · skip
        refine jcn (pc' := 62) 101 rfl rfl rfl rfl (by rw [zc_ne ⟨by omega, by omega⟩ ⟨by omega, by omega⟩]; exact decide_eq_false (by omega)) ?_
        exact t62 (Or.inr (by omega))
      · rw [if_neg (show ¬ (w.toNat = 9 ∨ w.toNat = 10) by omega)] at eo
        refine jct (pc' := 101) rfl rfl rfl (by rw [zc_ne ⟨by omega, by omega⟩ ⟨by omega, by omega⟩]; exact decide_eq_true (by omega)) ?_
        refine jx (pc' := 106) (L' := [_, _, _, _]) (st' := [.int (zI (-1)), .int (zI (-1)), .int (zI 9), _]) 4 rfl ?_
        refine jcv (pc' := 109) 195 [.int (zI 9), .int (zI (-1)), .int (zI (-1))] [] K.ob rfl rfl rfl rfl rfl rfl rfl rfl ?_
        refine m_nans (a := 9) (B := (R 9)) (C := (R 9)) K rfl ⟨by decide, by decide⟩ (Or.inl ⟨rfl, rfl⟩) (Or.inl ⟨rfl, rfl⟩) (fun hn => jk ?_) (fun hn h K => jk ?_)
        · have hA2 : (R 9).2.1 < 2 := by omega
          rw [if_neg (by omega)] at eo
          refine jin (pc' := 112) 201 rfl rfl rfl rfl (by rfl) ?_
          refine jx (pc' := 113) (L' := [_, _, _, _]) (st' := [_]) 1 rfl ?_
          by_cases w0' : w = 0
          · rw [if_pos (by omega)] at eo
            refine jin (pc' := 116) 125 rfl rfl rfl rfl (by rw [zz_ne ⟨by omega, by omega⟩]; exact decide_eq_false (by omega)) ?_
            refine jx (pc' := 119) (L' := [_, _, _, _]) (st' := [.int (zI 9), _]) 2 rfl ?_
            refine jcv (pc' := 122) 237 [.int (zI 9)] [] K.ob rfl rfl rfl rfl rfl rfl rfl rfl ?_
            refine m_root K vy hA2 hdr fun h K => jk ?_
            refine jx (pc' := 201) (L' := [_, _, _, _]) (st' := []) 1 rfl ?_
            exact t201 h _ (by rw [eo, ro_F vy hA2]) (by rw [Nat.zero_or] at K; exact K)
          · rw [if_neg (by omega)] at eo
            refine jit (pc' := 125) rfl rfl rfl (by rw [zz_ne ⟨by omega, by omega⟩]; exact decide_eq_true (by omega)) ?_
            refine jx (pc' := 128) (L' := [_, _, _, _]) (st' := [.int (zI 7), _]) 2 rfl ?_
            by_cases w7 : w < 7
            · skip
              refine jcn (pc' := 131) 167 rfl rfl rfl rfl (by rw [zc_ge ⟨by omega, by omega⟩ ⟨by omega, by omega⟩]; exact decide_eq_false (by omega)) ?_
              have t161 : ∀ (mm : Nat) (tt : Bool), mm < 5 → o = ((mwR mm (R 9)).1, if (mwR mm (R 9)).2 && tt then 16 else 0) → ix_E 236 161 [some (.ref 98), some (.int (zI w)), some (.int (zI x)), some (.int (zI y))] [.int (bI tt), .int (zI (mm : Int)), .int (zI 9), .ref 98] h Q := by
                intro mm tt hmm eo
                refine jcv (pc' := 164) 241 [_, _, _] [] K.ob rfl rfl rfl rfl rfl rfl rfl rfl ?_
                refine m_toWhole (m := mm) K vy hA2 rfl hmm fun h K => jk ?_
                rw [mw_F vy hA2] at eo
                refine jx (pc' := 201) (L' := [_, _, _, _]) (st' := []) 1 rfl ?_
                exact t201 h _ eo.symm K
              refine jx (pc' := 137) (L' := [_, _, _, _]) (st' := [.int (zI 6), _, .int (zI 9), _]) 4 rfl ?_
              by_cases w6 : w = 6
              · rw [if_pos (by omega)] at eo
                refine jcn (pc' := 140) 147 rfl rfl rfl rfl (by rw [zc_ne ⟨by omega, by omega⟩ ⟨by omega, by omega⟩]; exact decide_eq_false (by omega)) ?_
                refine jx (pc' := 141) (L' := [_, _, _, _]) (st' := [_, .int (zI 9), _]) 1 rfl ?_
                refine jgf (pc' := 144) K.ob rfl rfl rfl rfl rfl ?_
                refine jx (pc' := 153) (L' := [_, _, _, _]) (st' := [.int (zI 6), _, _, .int (zI 9), _]) 3 rfl ?_
                refine jcn (pc' := 156) 160 rfl rfl rfl rfl (by rw [zc_ne ⟨by omega, by omega⟩ ⟨by omega, by omega⟩]; exact decide_eq_false (by omega)) ?_
                refine jx (pc' := 161) (L' := [_, _, _, _]) (st' := [.int (zI 1), _, .int (zI 9), _]) 2 rfl ?_
                exact t161 dr true hdr (by rw [eo, Bool.and_true])
              · rw [if_neg (by omega), if_neg (by omega), if_neg (by omega), if_neg (by omega)] at eo
                refine jct (pc' := 147) rfl rfl rfl (by rw [zc_ne ⟨by omega, by omega⟩ ⟨by omega, by omega⟩]; exact decide_eq_true (by omega)) ?_
                refine jx (pc' := 153) (L' := [_, _, _, _]) (st' := [.int (zI 6), _, _, .int (zI 9), _]) 5 rfl ?_
                try simp (disch := omega) only [kz, kzl0, kzl1, kzb, kzs, zI_add, zI_sub, zI_neg, zI_mul, zL_i, zI_l, zL_add, zL_sub, zL_neg]
                refine jct (pc' := 160) rfl rfl rfl (by rw [zc_ne ⟨by omega, by omega⟩ ⟨by omega, by omega⟩]; exact decide_eq_true (by omega)) ?_
                refine jx (pc' := 161) (L' := [_, _, _, _]) (st' := [.int (zI 0), _, .int (zI 9), _]) 1 rfl ?_
                rw [show w - 1 = ((w.toNat - 1 : Nat) : Int) by omega]
                exact t161 (w.toNat - 1) false (by omega) (by rw [eo, Bool.and_false]; rfl)
            · rw [if_neg (by omega)] at eo
              refine jct (pc' := 167) rfl rfl rfl (by rw [zc_ge ⟨by omega, by omega⟩ ⟨by omega, by omega⟩]; exact decide_eq_true (by omega)) ?_
              refine jx (pc' := 170) (L' := [_, _, _, _]) (st' := [.int (zI 9), _]) 2 rfl ?_
              by_cases w8 : w < 9
              · skip
                refine jcn (pc' := 173) 193 rfl rfl rfl rfl (by rw [zc_ge ⟨by omega, by omega⟩ ⟨by omega, by omega⟩]; exact decide_eq_false (by omega)) ?_
                have t187 : ∀ up : Bool, o = (nxR (R 9) (!up), 0) → ix_E 236 187 [some (.ref 98), some (.int (zI w)), some (.int (zI x)), some (.int (zI y))] [.int (bI up), .int (zI 9), .ref 98] h Q := by
                  intro up eo
                  refine jcv (pc' := 190) 242 [_, _] [] K.ob rfl rfl rfl rfl rfl rfl rfl rfl ?_
                  refine m_next (b := up) K vy hA2 fun h K => jk ?_
                  rw [nx_F vy hA2] at eo
                  refine jx (pc' := 201) (L' := [_, _, _, _]) (st' := []) 1 rfl ?_
                  exact t201 h _ eo.symm K
                refine jx (pc' := 179) (L' := [_, _, _, _]) (st' := [.int (zI 7), _, .int (zI 9), _]) 4 rfl ?_
                by_cases w77 : w = 7
                · rw [if_pos (by omega)] at eo
                  refine jcn (pc' := 182) 186 rfl rfl rfl rfl (by rw [zc_ne ⟨by omega, by omega⟩ ⟨by omega, by omega⟩]; exact decide_eq_false (by omega)) ?_
                  refine jx (pc' := 187) (L' := [_, _, _, _]) (st' := [.int (zI 1), .int (zI 9), _]) 2 rfl ?_
                  exact t187 true eo
                · rw [if_neg (by omega), if_pos (by omega)] at eo
                  refine jct (pc' := 186) rfl rfl rfl (by rw [zc_ne ⟨by omega, by omega⟩ ⟨by omega, by omega⟩]; exact decide_eq_true (by omega)) ?_
                  refine jx (pc' := 187) (L' := [_, _, _, _]) (st' := [.int (zI 0), .int (zI 9), _]) 1 rfl ?_
                  exact t187 false eo
              · rw [if_neg (by omega), if_neg (by omega), if_pos (by omega)] at eo
                refine jct (pc' := 193) rfl rfl rfl (by rw [zc_ge ⟨by omega, by omega⟩ ⟨by omega, by omega⟩]; exact decide_eq_true (by omega)) ?_
                refine jx (pc' := 198) (L' := [_, _, _, _]) (st' := [.int (zI 8), .int (zI 9), _]) 3 rfl ?_
                refine jcv (pc' := 201) 192 [.int (zI 9), .int (zI 8)] [] K.ob rfl rfl rfl rfl rfl rfl rfl rfl ?_
                refine m_copy (a := 9) (c := 8) K rfl rfl (by decide) (by decide) (by decide) fun h K => jk ?_
                exact t201 h _ eo.symm K.rj
        · rw [if_pos (by omega)] at eo
          refine jit (pc' := 201) rfl rfl rfl (by rfl) ?_
          exact t201 h _ eo.symm (by rw [Nat.zero_or] at K; exact K.rj)
  have t30 : ∀ bd : Bool, bd = decide (¬ cOn w x y) → ix_E 236 30 [some (.ref 98), some (.int (zI w)), some (.int (zI x)), some (.int (zI y))] [.int (bI bd), .ref 98] h Q := by
    intro bd hbd
    refine jcv (pc' := 33) 168 [_] [] K.ob rfl rfl rfl rfl rfl rfl rfl rfl ?_
    refine m_fails K fun h K => jk ?_
    cases bd
    · have hc : cOn w x y := Classical.not_not.mp (of_decide_eq_false hbd.symm)
      refine jit (pc' := 38) rfl rfl rfl (by rfl) ?_
      exact t38 hc h K
    · have hc := of_decide_eq_true hbd.symm
      refine jin (pc' := 36) 38 rfl rfl rfl rfl (by rfl) ?_
      refine jx (pc' := 37) (L' := [_, _, _, _]) (st' := [.int (zI 0)]) 1 rfl ?_
      refine jri rfl rfl ?_
      exact q0 hc _ ⟨R, si, hR, K.rj⟩
  have bad : ¬ cOn w x y → ix_E 236 25 [some (.ref 98), some (.int (zI w)), some (.int (zI x)), some (.int (zI y))] [.ref 98] h Q := by
    intro hn
    refine jx (pc' := 30) (L' := [_, _, _, _]) (st' := [.int (zI 1), _]) 2 rfl ?_
    exact t30 true (decide_eq_true hn).symm
  refine jx (pc' := 2) (L' := [_, _, _, _]) (st' := [_, _]) 2 rfl ?_
  by_cases h0 : w < 0
  · skip
    refine jit (pc' := 25) rfl rfl rfl (by rw [zz_lt ⟨by omega, by omega⟩]; exact decide_eq_true (by omega)) ?_
    exact bad (fun n => by have := n.1; omega)
  · skip
    refine jin (pc' := 5) 25 rfl rfl rfl rfl (by rw [zz_lt ⟨by omega, by omega⟩]; exact decide_eq_false (by omega)) ?_
    refine jx (pc' := 8) (L' := [_, _, _, _]) (st' := [.int (zI 11), _, _]) 2 rfl ?_
    by_cases h1 : 11 < w
    · skip
      refine jct (pc' := 25) rfl rfl rfl (by rw [zc_gt ⟨by omega, by omega⟩ ⟨by omega, by omega⟩]; exact decide_eq_true (by omega)) ?_
      exact bad (fun n => by have := n.1; omega)
    · skip
      refine jcn (pc' := 11) 25 rfl rfl rfl rfl (by rw [zc_gt ⟨by omega, by omega⟩ ⟨by omega, by omega⟩]; exact decide_eq_false (by omega)) ?_
      refine jx (pc' := 12) (L' := [_, _, _, _]) (st' := [_, _]) 1 rfl ?_
      refine jcs (pc' := 15) 166 [_] [_] rfl rfl rfl rfl rfl rfl rfl rfl ?_
      refine m_isTarget hx (jk ?_)
      by_cases h2 : 0 ≤ x ∧ x < 8
      · skip
        refine jin (pc' := 18) 25 rfl rfl rfl rfl (by rw [bz_eq, decide_eq_true h2]; rfl) ?_
        refine jx (pc' := 19) (L' := [_, _, _, _]) (st' := [_, _]) 1 rfl ?_
        refine jcs (pc' := 22) 181 [_] [_] rfl rfl rfl rfl rfl rfl rfl rfl ?_
        refine m_isSource hy (jk ?_)
        by_cases h3 : 0 ≤ y ∧ y ≤ 8
        · skip
          refine jit (pc' := 29) rfl rfl rfl (by rw [bz_ne, decide_eq_true h3]) ?_
          refine jx (pc' := 30) (L' := [_, _, _, _]) (st' := [.int (zI 0), _]) 1 rfl ?_
          exact t30 false (decide_eq_false (fun n => n ⟨⟨by omega, by omega⟩, h2, h3⟩)).symm
        · skip
          refine jin (pc' := 25) 29 rfl rfl rfl rfl (by rw [bz_ne, decide_eq_false h3]) ?_
          exact bad (fun n => h3 n.2.2)
      · skip
        refine jit (pc' := 25) rfl rfl rfl (by rw [bz_eq, decide_eq_false h2]; rfl) ?_
        exact bad (fun n => h2 n.2.1)
end REF
