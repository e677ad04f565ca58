/-! ===== the reference: over, two, fused ===== -/
/-- what the reference's calls leave: nine registers, and the rest of what is seen -/
def RK (S0 : Nat → AC) (h : ix_H) (F : Nat → Dm) (cd dr ra tr sz wr : Nat) (tx ou : Nat → Nat) : Prop := ∃ (R : Nat → Dm) (si : Nat), (∀ i, i < 9 → R i = F i) ∧ (RJ S0 h R cd dr ra si tr sz wr tx ou)
theorem za15 {y : Int} (h : 0 ≤ y ∧ y ≤ 8) : zI y &&& zI 15 = zI y := by
  have : y = 0 ∨ y = 1 ∨ y = 2 ∨ y = 3 ∨ y = 4 ∨ y = 5 ∨ y = 6 ∨ y = 7 ∨ y = 8 := by omega
  rcases this with z | z | z | z | z | z | z | z | z <;> subst z <;> decide
abbrev cTw (F : Nat → Dm) (w x y z : Int) : Prop := (0 ≤ w ∧ w ≤ 10) ∧ (0 ≤ x ∧ x < 8) ∧ (0 ≤ y ∧ y ≤ 8) ∧ (0 ≤ z ∧ z ≤ 8) ∧ (F y.toNat).1 = (F z.toNat).1
section REF
variable {h : ix_H} {Q : ix_O → ix_H → Prop} {S0 : Nat → AC} {R F : Nat → Dm} {V cd dr ra si tr : Nat} {mo ng : Bool} {sp sz wr : Nat} {il : Bool} {rs pt rl wo tx ou : Nat → Nat} {j x y z w a0 b0 : Int} {r f s m a c : Nat} {b t : Bool}
theorem m_overK {d0 : Int} {d : Nat} {o : Dm × Nat} (K : (RJ S0 h (va_up R 8 o.1) cd dr ra (o.2) tr sz wr tx ou)) (hR : ∀ i, i < 8 → R i = F i) (hd0 : d0 = (d : Int)) (hd : d < 8) (hs : o.2 < 32) (ht : tr < 32) (q1 : o.2 &&& tr = 0 → ∀ h', (RK S0 h' (va_up (va_up F 8 o.1) d o.1) (0) dr (ra ||| o.2) tr sz wr tx ou) → Q (.inl (some (.int (zI (o.2 : Int))))) h') (q2 : ¬ o.2 &&& tr = 0 → ∀ h', (RK S0 h' (va_up F 8 o.1) (2) dr (ra ||| o.2) tr sz wr tx ou) → Q (.inl (some (.int (zI 0)))) h') : ix_M 233 [.ref 98, .int (zI d0)] h Q := by
  obtain ⟨V, mo, ng, sp, il, rs, pt, rl, wo, K⟩ := K
  refine m_over K (Or.inr ⟨d, hd, hd0⟩) hs ht (fun h0 h K => q1 h0 _ ?_) (fun h0 h K => q2 h0 _ ?_)
  · rw [if_neg (by omega), va_up_self, show d0.toNat = d by omega] at K
    refine ⟨_, _, fun i hi => ?_, K.rj⟩
    by_cases e : i = d
    · rw [e, va_up_self, va_up_self]
    · rw [va_up_ne _ _ e, va_up_ne _ _ e]
      by_cases e2 : i = 8
      · rw [e2, va_up_self, va_up_self]
      · rw [va_up_ne _ _ e2, va_up_ne _ _ e2]
        exact hR i (by omega)
  · refine ⟨_, _, fun i hi => ?_, K.rj⟩
    by_cases e2 : i = 8
    · rw [e2, va_up_self, va_up_self]
    · rw [va_up_ne _ _ e2, va_up_ne _ _ e2]
      exact hR i (by omega)
theorem m_two (K : (RK S0 h F cd dr ra tr sz wr tx ou)) (hv : ∀ i, i < 9 → ValD (F i)) (hdr : dr < 5) (htr : tr < 32) (hw : zr w) (hx : zr x) (hy : zr y) (hz : zr z) (q0 : ¬ cTw F w x y z → ∀ h', (RK S0 h' F (1) dr ra tr sz wr tx ou) → Q (.inl (some (.int (zI 0)))) h') (q1 : cTw F w x y z → (o2R w.toNat dr (F y.toNat) (F z.toNat)).2 &&& tr = 0 → ∀ h', (RK S0 h' (va_up (va_up F 8 (o2R w.toNat dr (F y.toNat) (F z.toNat)).1) x.toNat (o2R w.toNat dr (F y.toNat) (F z.toNat)).1) (0) dr (ra ||| (o2R w.toNat dr (F y.toNat) (F z.toNat)).2) tr sz wr tx ou) → Q (.inl (some (.int (zI ((o2R w.toNat dr (F y.toNat) (F z.toNat)).2 : Nat))))) h') (q2 : cTw F w x y z → ¬ (o2R w.toNat dr (F y.toNat) (F z.toNat)).2 &&& tr = 0 → ∀ h', (RK S0 h' (va_up F 8 (o2R w.toNat dr (F y.toNat) (F z.toNat)).1) (2) dr (ra ||| (o2R w.toNat dr (F y.toNat) (F z.toNat)).2) tr sz wr tx ou) → Q (.inl (some (.int (zI 0)))) h') : ix_M 191 [.ref 98, .int (zI w), .int (zI x), .int (zI y), .int (zI z)] h Q := by
  obtain ⟨R, si, hR, V, mo, ng, sp, il, rs, pt, rl, wo, K⟩ := K
  have hw1 := hw.1
  have hw2 := hw.2
  have hy1 := hy.1
  have hy2 := hy.2
  have hz1 := hz.1
  have hz2 := hz.2
  -- it is done
  have t68 : cTw F w x y z → ∀ h1, (RI S0 h1 R V (0) dr ra si tr mo ng sp sz wr il rs pt rl wo tx ou) → ix_E 191 68 [some (.ref 98), some (.int (zI w)), some (.int (zI x)), some (.int (zI y)), some (.int (zI z))] [] h1 Q := by
    intro hc h K
    have q1 := q1 hc
    have q2 := q2 hc
    obtain ⟨⟨w1, w2⟩, ⟨x1, x2⟩, ⟨y1, y2⟩, ⟨z1, z2⟩, hfm⟩ := hc
    have vy := hv y.toNat (by omega)
    have vz := hv z.toNat (by omega)
    have hfl := fl_o2 (what := w.toNat) (dir := dr) (A := F y.toNat) (B := F z.toNat) vy
    have eo : o2R w.toNat dr (F y.toNat) (F z.toNat) = o2R w.toNat dr (F y.toNat) (F z.toNat) := rfl
    conv at eo => rhs; unfold o2R
    generalize o2R w.toNat dr (F y.toNat) (F z.toNat) = o at *
    refine jx (pc' := 70) (L' := [_, _, _, _, _]) (st' := [.int (zI 0), _]) 2 rfl ?_
    refine jp_si (pc' := 73) 0 K (by first | rfl | (congr 1; omega)) rfl rfl rfl rfl fun h K => ?_
    refine jx (pc' := 77) (L' := [_, _, _, _, _]) (st' := [.int (zI 9), _, _]) 3 rfl ?_
    refine jcv (pc' := 80) 192 [_, .int (zI 9)] [] K.ob rfl rfl rfl rfl rfl rfl rfl rfl ?_
    refine m_copy (a := y.toNat) (c := 9) K (by omega) rfl (by omega) (by decide) (by omega) fun h K => jk ?_
    refine jx (pc' := 85) (L' := [_, _, _, _, _]) (st' := [.int (zI 10), _, _]) 3 rfl ?_
    refine jcv (pc' := 88) 192 [_, .int (zI 10)] [] K.ob rfl rfl rfl rfl rfl rfl rfl rfl ?_
    refine m_copy (a := z.toNat) (c := 10) K (by omega) rfl (by omega) (by decide) (by omega) fun h K => jk ?_
    rw [va_up_ne R (R y.toNat) (show ¬ z.toNat = 9 by omega), hR y.toNat (by omega), hR z.toNat (by omega)] at K
    have e9 : va_up (va_up R 9 (F y.toNat)) 10 (F z.toNat) 9 = F y.toNat := by rw [va_up_ne _ _ (by decide), va_up_self]
    have e10 : va_up (va_up R 9 (F y.toNat)) 10 (F z.toNat) 10 = F z.toNat := va_up_self _ _ _
    have eR : ∀ i, i < 8 → va_up (va_up R 9 (F y.toNat)) 10 (F z.toNat) i = F i := fun i hi => by
      rw [va_up_ne _ _ (by omega), va_up_ne _ _ (by omega)]
      exact hR i (by omega)
    clear hR
    generalize va_up (va_up R 9 (F y.toNat)) 10 (F z.toNat) = R at *
    rw [← e9] at vy eo hfm
    rw [← e10] at vz eo hfm
    clear e9 e10
    have t230 : ∀ (h1 : ix_H) (u : Dm × Nat), u = o → (RJ S0 h1 (va_up R 8 u.1) (0) dr ra (u.2) tr sz wr tx ou) → ix_E 191 230 [some (.ref 98), some (.int (zI w)), some (.int (zI x)), some (.int (zI y)), some (.int (zI z))] [] h1 Q := by
      intro h u hu K
      rw [hu] at K
      obtain ⟨V, mo, ng, sp, il, rs, pt, rl, wo, K⟩ := K
      refine jx (pc' := 232) (L' := [_, _, _, _, _]) (st' := [_, _]) 2 rfl ?_
      refine jcv (pc' := 235) 233 [_] [] K.ob rfl rfl rfl rfl rfl rfl rfl rfl ?_
      refine m_overK (d := x.toNat) K.rj eR (by omega) (by omega) hfl htr (fun h0 h K => jk ?_) (fun h0 h K => jk ?_)
      · skip
        refine jri rfl rfl ?_
        exact q1 h0 _ K
      · skip
        refine jri rfl rfl ?_
        exact q2 h0 _ K
    refine jx (pc' := 91) (L' := [_, _, _, _, _]) (st' := [.int (zI 10), _]) 2 rfl ?_
    by_cases w10 : w = 10
    · rw [if_pos (by omega)] at eo
      refine jcn (pc' := 94) 119 rfl rfl rfl rfl (by rw [zc_ne ⟨by omega, by omega⟩ ⟨by omega, by omega⟩]; exact decide_eq_false (by omega)) ?_
      refine jx (pc' := 99) (L' := [_, _, _, _, _]) (st' := [.int (zI 8), .int (zI 9), _]) 3 rfl ?_
      refine jcv (pc' := 102) 192 [.int (zI 9), .int (zI 8)] [] K.ob rfl rfl rfl rfl rfl rfl rfl rfl ?_
      refine m_copy (a := 9) (c := 8) K rfl rfl (by decide) (by decide) (by decide) fun h K => jk ?_
      refine jx (pc' := 103) (L' := [_, _, _, _, _]) (st' := [_]) 1 rfl ?_
      refine jgf (pc' := 106) K.ob rfl rfl rfl rfl rfl ?_
      refine jx (pc' := 109) (L' := [_, _, _, _, _]) (st' := [_, .int (zI 8), _]) 2 rfl ?_
      refine jgf (pc' := 112) K.ob rfl rfl rfl rfl rfl ?_
      refine jx (pc' := 114) (L' := [_, _, _, _, _]) (st' := [.int (zI 10), _, .int (zI 8), _]) 1 rfl ?_
      refine jR_m (pc' := 115) 10 K rfl rfl (by omega) (by omega)  rfl ?_
      rw [va_up_ne _ _ (by decide)]
      refine jW_m (pc' := 116) 8 ((R 10).2.2.1) K (by first | rfl | (congr 1; omega)) rfl rfl (by omega) (by omega)  rfl  fun h K => ?_
      rw [va_up_self, va_up_up] at K
      refine jx (pc' := 230) (L' := [_, _, _, _, _]) (st' := []) 1 rfl ?_
      exact t230 h _ eo.symm K.rj
    · rw [if_neg (by omega)] at eo
      refine jct (pc' := 119) rfl rfl rfl (by rw [zc_ne ⟨by omega, by omega⟩ ⟨by omega, by omega⟩]; exact decide_eq_true (by omega)) ?_
      refine jx (pc' := 121) (L' := [_, _, _, _, _]) (st' := [.int (zI 5), _]) 2 rfl ?_
      by_cases w5 : 5 < w
      · skip
        refine jcn (pc' := 124) 136 rfl rfl rfl rfl (by rw [zc_le ⟨by omega, by omega⟩ ⟨by omega, by omega⟩]; exact decide_eq_false (by omega)) ?_
        refine jx (pc' := 130) (L' := [_, _, _, _, _]) (st' := [.int (zI 10), .int (zI 9), _, _]) 4 rfl ?_
        refine jcv (pc' := 133) 193 [_, .int (zI 9), .int (zI 10)] [] K.ob rfl rfl rfl rfl rfl rfl rfl rfl ?_
        refine m_choose (w := w.toNat) K (by omega) ⟨by omega, by omega⟩ fun h K => jk ?_
        refine jx (pc' := 230) (L' := [_, _, _, _, _]) (st' := []) 1 rfl ?_
        refine t230 h _ ?_ K
        rw [eo]
        unfold chF
        by_cases hn : 2 ≤ (R 9).2.1 ∨ 2 ≤ (R 10).2.1
        · rw [if_pos hn, if_pos hn, if_pos (show 6 ≤ w.toNat by omega)]
        · rw [if_neg hn, if_neg hn]
          unfold op2
          rw [if_neg (by omega), if_neg (by omega), if_neg (by omega), if_neg (by omega), if_neg (by omega), if_neg (by omega)]
          rfl
      · skip
        refine jct (pc' := 136) rfl rfl rfl (by rw [zc_le ⟨by omega, by omega⟩ ⟨by omega, by omega⟩]; exact decide_eq_true (by omega)) ?_
        refine jx (pc' := 142) (L' := [_, _, _, _, _]) (st' := [.int (zI (-1)), .int (zI 10), .int (zI 9), _]) 4 rfl ?_
        refine jcv (pc' := 145) 195 [.int (zI 9), .int (zI 10), .int (zI (-1))] [] K.ob rfl rfl rfl rfl rfl rfl rfl rfl ?_
        refine m_nans (a := 9) (B := (R 10)) (C := (R 10)) K rfl ⟨by decide, by decide⟩ (Or.inr ⟨10, by decide, by decide, rfl, rfl⟩) (Or.inl ⟨rfl, rfl⟩) (fun hn => jk ?_) (fun hn h K => jk ?_)
        · have hn' : ¬ (2 ≤ (R 9).2.1 ∨ 2 ≤ (R 10).2.1) := by omega
          have hA2 : (R 9).2.1 < 2 := by omega
          have hB2 : (R 10).2.1 < 2 := by omega
          rw [if_neg hn'] at eo
          unfold op2 at eo
          refine jin (pc' := 148) 230 rfl rfl rfl rfl (by rfl) ?_
          refine jx (pc' := 150) (L' := [_, _, _, _, _]) (st' := [.int (zI 2), _]) 2 rfl ?_
          by_cases w2' : w < 2
          · skip
            refine jcn (pc' := 153) 174 rfl rfl rfl rfl (by rw [zc_ge ⟨by omega, by omega⟩ ⟨by omega, by omega⟩]; exact decide_eq_false (by omega)) ?_
            have t168 : ∀ tt : Bool, tt = decide (w = 1) → ix_E 191 168 [some (.ref 98), some (.int (zI w)), some (.int (zI x)), some (.int (zI y)), some (.int (zI z))] [.int (bI tt), .int (zI 10), .int (zI 9), .ref 98] h Q := by
              intro tt htt
              refine jcv (pc' := 171) 200 [_, _, _] [] K.ob rfl rfl rfl rfl rfl rfl rfl rfl ?_
              refine m_add K vy vz hA2 hB2 hdr fun h K => jk ?_
              refine jx (pc' := 230) (L' := [_, _, _, _, _]) (st' := []) 1 rfl ?_
              refine t230 h _ ?_ (by rw [Nat.zero_or] at K; exact K)
              rw [← ad_F vy vz hB2]
              by_cases w1' : w = 1
              · rw [htt, decide_eq_true w1'] at *
                rw [if_neg (by omega), if_pos (by omega)] at eo
                rw [eo]
                simp
              · rw [htt, decide_eq_false w1'] at *
                rw [if_pos (by omega)] at eo
                rw [eo]
                simp
            refine jx (pc' := 160) (L' := [_, _, _, _, _]) (st' := [.int (zI 1), _, .int (zI 10), .int (zI 9), _]) 5 rfl ?_
            by_cases w1' : w = 1
            · skip
              refine jcn (pc' := 163) 167 rfl rfl rfl rfl (by rw [zc_ne ⟨by omega, by omega⟩ ⟨by omega, by omega⟩]; exact decide_eq_false (by omega)) ?_
              refine jx (pc' := 168) (L' := [_, _, _, _, _]) (st' := [.int (zI 1), .int (zI 10), .int (zI 9), _]) 2 rfl ?_
              exact t168 true (decide_eq_true w1').symm
            · skip
              refine jct (pc' := 167) rfl rfl rfl (by rw [zc_ne ⟨by omega, by omega⟩ ⟨by omega, by omega⟩]; exact decide_eq_true (by omega)) ?_
              refine jx (pc' := 168) (L' := [_, _, _, _, _]) (st' := [.int (zI 0), .int (zI 10), .int (zI 9), _]) 1 rfl ?_
              exact t168 false (decide_eq_false w1').symm
          · rw [if_neg (by omega), if_neg (by omega)] at eo
            refine jct (pc' := 174) rfl rfl rfl (by rw [zc_ge ⟨by omega, by omega⟩ ⟨by omega, by omega⟩]; exact decide_eq_true (by omega)) ?_
            refine jx (pc' := 176) (L' := [_, _, _, _, _]) (st' := [.int (zI 2), _]) 2 rfl ?_
            by_cases w3 : w = 2
            · rw [if_pos (by omega)] at eo
              refine jcn (pc' := 179) 190 rfl rfl rfl rfl (by rw [zc_ne ⟨by omega, by omega⟩ ⟨by omega, by omega⟩]; exact decide_eq_false (by omega)) ?_
              refine jx (pc' := 184) (L' := [_, _, _, _, _]) (st' := [.int (zI 10), .int (zI 9), _]) 3 rfl ?_
              refine jcv (pc' := 187) 218 [.int (zI 9), .int (zI 10)] [] K.ob rfl rfl rfl rfl rfl rfl rfl rfl ?_
              refine m_multiply K vy vz hA2 hB2 hdr fun h K => jk ?_
              refine jx (pc' := 230) (L' := [_, _, _, _, _]) (st' := []) 1 rfl ?_
              exact t230 h _ (by rw [eo, mu_F vy vz]) (by rw [Nat.zero_or] at K; exact K)
            · rw [if_neg (by omega)] at eo
              refine jct (pc' := 190) rfl rfl rfl (by rw [zc_ne ⟨by omega, by omega⟩ ⟨by omega, by omega⟩]; exact decide_eq_true (by omega)) ?_
              refine jx (pc' := 192) (L' := [_, _, _, _, _]) (st' := [.int (zI 3), _]) 2 rfl ?_
              by_cases w4 : w = 3
              · rw [if_pos (by omega)] at eo
                refine jcn (pc' := 195) 206 rfl rfl rfl rfl (by rw [zc_ne ⟨by omega, by omega⟩ ⟨by omega, by omega⟩]; exact decide_eq_false (by omega)) ?_
                refine jx (pc' := 200) (L' := [_, _, _, _, _]) (st' := [.int (zI 10), .int (zI 9), _]) 3 rfl ?_
                refine jcv (pc' := 203) 221 [.int (zI 9), .int (zI 10)] [] K.ob rfl rfl rfl rfl rfl rfl rfl rfl ?_
                refine m_divide K vy vz hA2 hB2 hdr fun h K => jk ?_
                refine jx (pc' := 230) (L' := [_, _, _, _, _]) (st' := []) 1 rfl ?_
                exact t230 h _ (by rw [eo, dv_F vy vz hA2 hB2 hfm]) (by rw [Nat.zero_or] at K; exact K)
              · rw [if_neg (by omega)] at eo
                refine jct (pc' := 206) rfl rfl rfl (by rw [zc_ne ⟨by omega, by omega⟩ ⟨by omega, by omega⟩]; exact decide_eq_true (by omega)) ?_
                refine jx (pc' := 208) (L' := [_, _, _, _, _]) (st' := [.int (zI 4), _]) 2 rfl ?_
                by_cases w6 : w = 4
                · rw [if_pos (by omega)] at eo
                  refine jcn (pc' := 211) 222 rfl rfl rfl rfl (by rw [zc_ne ⟨by omega, by omega⟩ ⟨by omega, by omega⟩]; exact decide_eq_false (by omega)) ?_
                  refine jx (pc' := 216) (L' := [_, _, _, _, _]) (st' := [.int (zI 10), .int (zI 9), _]) 3 rfl ?_
                  refine jcv (pc' := 219) 227 [.int (zI 9), .int (zI 10)] [] K.ob rfl rfl rfl rfl rfl rfl rfl rfl ?_
                  refine m_remain K vy vz hA2 hB2 hdr fun h K => jk ?_
                  refine jx (pc' := 230) (L' := [_, _, _, _, _]) (st' := []) 1 rfl ?_
                  exact t230 h _ (by rw [eo, re_F vy vz hA2 hB2]) (by rw [Nat.zero_or] at K; exact K)
                · rw [if_neg (by omega), if_pos (by omega)] at eo
                  refine jct (pc' := 222) rfl rfl rfl (by rw [zc_ne ⟨by omega, by omega⟩ ⟨by omega, by omega⟩]; exact decide_eq_true (by omega)) ?_
                  refine jx (pc' := 227) (L' := [_, _, _, _, _]) (st' := [.int (zI 10), .int (zI 9), _]) 3 rfl ?_
                  refine jcv (pc' := 230) 230 [.int (zI 9), .int (zI 10)] [] K.ob rfl rfl rfl rfl rfl rfl rfl rfl ?_
                  refine m_quantize K vy vz hA2 hB2 hdr fun h K => jk ?_
                  exact t230 h _ (by rw [eo, ← qz_F vy vz hA2 hB2]; rfl) K
        · have hn' : 2 ≤ (R 9).2.1 ∨ 2 ≤ (R 10).2.1 := by omega
          rw [if_pos hn', if_neg (by omega)] at eo
          refine jit (pc' := 230) rfl rfl rfl (by rfl) ?_
          exact t230 h _ eo.symm (by rw [Nat.zero_or] at K; exact K.rj)
  have t60 : ∀ bd : Bool, bd = decide (¬ cTw F w x y z) → ix_E 191 60 [some (.ref 98), some (.int (zI w)), some (.int (zI x)), some (.int (zI y)), some (.int (zI z))] [.int (bI bd), .ref 98] h Q := by
    intro bd hbd
    refine jcv (pc' := 63) 168 [_] [] K.ob rfl rfl rfl rfl rfl rfl rfl rfl ?_
    refine m_fails K fun h K => jk ?_
    cases bd
    · have hc : cTw F w x y z := Classical.not_not.mp (of_decide_eq_false hbd.symm)
      refine jit (pc' := 68) rfl rfl rfl (by rfl) ?_
      exact t68 hc h K
    · have hc := of_decide_eq_true hbd.symm
      refine jin (pc' := 66) 68 rfl rfl rfl rfl (by rfl) ?_
      refine jx (pc' := 67) (L' := [_, _, _, _, _]) (st' := [.int (zI 0)]) 1 rfl ?_
      refine jri rfl rfl ?_
      exact q0 hc _ ⟨R, si, hR, K.rj⟩
  have bad : ¬ cTw F w x y z → ix_E 191 55 [some (.ref 98), some (.int (zI w)), some (.int (zI x)), some (.int (zI y)), some (.int (zI z))] [.ref 98] h Q := by
    intro hn
    refine jx (pc' := 60) (L' := [_, _, _, _, _]) (st' := [.int (zI 1), _]) 2 rfl ?_
    exact t60 true (decide_eq_true hn).symm
  refine jx (pc' := 2) (L' := [_, _, _, _, _]) (st' := [_, _]) 2 rfl ?_
  by_cases h0 : w < 0
  · skip
    refine jit (pc' := 55) rfl rfl rfl (by rw [zz_lt ⟨by omega, by omega⟩]; exact decide_eq_true (by omega)) ?_
    exact bad (fun z => by have := z.1; omega)
  · skip
    refine jin (pc' := 5) 55 rfl rfl rfl rfl (by rw [zz_lt ⟨by omega, by omega⟩]; exact decide_eq_false (by omega)) ?_
    refine jx (pc' := 8) (L' := [_, _, _, _, _]) (st' := [.int (zI 10), _, _]) 2 rfl ?_
    by_cases h1 : 10 < w
    · skip
      refine jct (pc' := 55) rfl rfl rfl (by rw [zc_gt ⟨by omega, by omega⟩ ⟨by omega, by omega⟩]; exact decide_eq_true (by omega)) ?_
      exact bad (fun z => by have := z.1; omega)
    · skip
      refine jcn (pc' := 11) 55 rfl rfl rfl rfl (by rw [zc_gt ⟨by omega, by omega⟩ ⟨by omega, by omega⟩]; exact decide_eq_false (by omega)) ?_
      refine jx (pc' := 12) (L' := [_, _, _, _, _]) (st' := [_, _]) 1 rfl ?_
      refine jcs (pc' := 15) 166 [_] [_] rfl rfl rfl rfl rfl rfl rfl rfl ?_
      refine m_isTarget hx (jk ?_)
      by_cases h2 : 0 ≤ x ∧ x < 8
      · skip
        refine jin (pc' := 18) 55 rfl rfl rfl rfl (by rw [bz_eq, decide_eq_true h2]; rfl) ?_
        refine jx (pc' := 19) (L' := [_, _, _, _, _]) (st' := [_, _]) 1 rfl ?_
        refine jcs (pc' := 22) 181 [_] [_] rfl rfl rfl rfl rfl rfl rfl rfl ?_
        refine m_isSource hy (jk ?_)
        by_cases h3 : 0 ≤ y ∧ y ≤ 8
        · skip
          refine jin (pc' := 25) 55 rfl rfl rfl rfl (by rw [bz_eq, decide_eq_true h3]; rfl) ?_
          refine jx (pc' := 27) (L' := [_, _, _, _, _]) (st' := [_, _]) 1 rfl ?_
          refine jcs (pc' := 30) 181 [_] [_] rfl rfl rfl rfl rfl rfl rfl rfl ?_
          refine m_isSource hz (jk ?_)
          by_cases h4 : 0 ≤ z ∧ z ≤ 8
          · skip
            refine jin (pc' := 33) 55 rfl rfl rfl rfl (by rw [bz_eq, decide_eq_true h4]; rfl) ?_
            refine jx (pc' := 34) (L' := [_, _, _, _, _]) (st' := [_, _]) 1 rfl ?_
            refine jgf (pc' := 37) K.ob rfl rfl rfl rfl rfl ?_
            refine jx (pc' := 41) (L' := [_, _, _, _, _]) (st' := [_, _, _]) 3 rfl ?_
            try simp (disch := omega) only [kz, kzl0, kzl1, kzb, kzs, zI_add, zI_sub, zI_neg, zI_mul, zL_i, zI_l, zL_add, zL_sub, zL_neg]
            rw [za15 h3]
            refine jR_f (pc' := 42) y.toNat K rfl rfl (by omega) (by omega)  rfl ?_
            refine jx (pc' := 43) (L' := [_, _, _, _, _]) (st' := [_, _, _]) 1 rfl ?_
            refine jgf (pc' := 46) K.ob rfl rfl rfl rfl rfl ?_
            refine jx (pc' := 51) (L' := [_, _, _, _, _]) (st' := [_, _, _, _]) 3 rfl ?_
            try simp (disch := omega) only [kz, kzl0, kzl1, kzb, kzs, zI_add, zI_sub, zI_neg, zI_mul, zL_i, zI_l, zL_add, zL_sub, zL_neg]
            rw [za15 h4]
            refine jR_f (pc' := 52) z.toNat K rfl rfl (by omega) (by omega)  rfl ?_
            rw [hR y.toNat (by omega), hR z.toNat (by omega)]
            have f1 := (hv y.toNat (by omega)).1
            have f2 := (hv z.toNat (by omega)).1
            by_cases h5 : (F y.toNat).1 = (F z.toNat).1
            · skip
              refine jct (pc' := 59) rfl rfl rfl (by rw [zc_eq ⟨by omega, by omega⟩ ⟨by omega, by omega⟩]; exact decide_eq_true (by omega)) ?_
              refine jx (pc' := 60) (L' := [_, _, _, _, _]) (st' := [.int (zI 0), _]) 1 rfl ?_
              exact t60 false (decide_eq_false (fun y => y ⟨⟨by omega, by omega⟩, h2, h3, h4, h5⟩)).symm
            · skip
              refine jcn (pc' := 55) 59 rfl rfl rfl rfl (by rw [zc_eq ⟨by omega, by omega⟩ ⟨by omega, by omega⟩]; exact decide_eq_false (by omega)) ?_
              exact bad (fun z => h5 z.2.2.2.2)
          · skip
            refine jit (pc' := 55) rfl rfl rfl (by rw [bz_eq, decide_eq_false h4]; rfl) ?_
            exact bad (fun z => h4 z.2.2.2.1)
        · skip
          refine jit (pc' := 55) rfl rfl rfl (by rw [bz_eq, decide_eq_false h3]; rfl) ?_
          exact bad (fun z => h3 z.2.2.1)
      · skip
        refine jit (pc' := 55) rfl rfl rfl (by rw [bz_eq, decide_eq_false h2]; rfl) ?_
        exact bad (fun z => h2 z.2.1)
end REF
