/-! ===== the reference: read ===== -/
abbrev cRi (x w : Int) : Prop := (0 ≤ x ∧ x < 8) ∧ (0 ≤ w ∧ w < 3)
theorem wm_h {t : Nat → Nat} {len k r : Nat} (h : wm t len k r = true) (hr : 0 < (sc r).length) : hC t len k = (sc r).getD 0 0 := by
  have := (of_decide_eq_true h) 0 hr
  unfold hC
  rw [Nat.add_zero] at this
  rw [if_pos this.1]
  exact this.2
theorem nm_n {t : Nat → Nat} {len k : Nat} (hk : k ≤ len) (h1 : ¬ (48 ≤ hC t len k ∧ hC t len k ≤ 57)) (h2 : ¬ hC t len k = 46) : nmR t len k = none := by
  obtain ⟨c1, c2, c3, c4⟩ := de_s t len k
  have c2 := c2 hk
  have hd : de t len k = k := by
    refine Nat.le_antisymm (Nat.le_of_not_lt fun z => h1 ?_) c1
    have := c3 k (Nat.le_refl _) z
    exact hC_d.mpr ⟨by omega, this⟩
  have ha : ¬ atc t len (de t len k) 46 = true := fun z => h2 (by rw [hd] at z; exact (hC_c (by decide)).mpr z)
  have eA : nmA t len k = (de t len k, vd 0 t k (de t len k - k), 0) := if_neg ha
  unfold nmR
  rw [if_pos]
  rw [eA, hd]
  show k - k + 0 = 0
  omega
section REF
variable {h : ix_H} {Q : ix_O → ix_H → Prop} {S0 : Nat → AC} {R F : Nat → Dm} {V cd dr ra si tr : Nat} {mo ng : Bool} {sp sz wr : Nat} {il : Bool} {rs pt rl wo tx ou : Nat → Nat} {j x y z w a0 b0 k0 : Int} {r f s m a c k : Nat} {b t : Bool}
theorem m_read (K : (RK S0 h F cd dr ra tr sz wr tx ou)) (hdr : dr < 5) (htr : tr < 32) (hsz : sz ≤ 120) (ht : ∀ j, j < sz → tx j < 128) (hx : zr x) (hw : zr w) (q0 : prs tx sz = none ∨ ¬ cRi x w → ∀ h', (RK S0 h' F (1) dr ra tr (0) wr tx ou) → Q (.inl (some (.int (zI 0)))) h') (q1 : ∀ u, prs tx sz = some u → cRi x w → (rRd dr w u).2 &&& tr = 0 → ∀ h', (RK S0 h' (va_up (va_up F 8 (rRd dr w u).1) x.toNat (rRd dr w u).1) (0) dr (ra ||| (rRd dr w u).2) tr (0) wr tx ou) → Q (.inl (some (.int (zI ((rRd dr w u).2 : Nat))))) h') (q2 : ∀ u, prs tx sz = some u → cRi x w → ¬ (rRd dr w u).2 &&& tr = 0 → ∀ h', (RK S0 h' (va_up F 8 (rRd dr w u).1) (2) dr (ra ||| (rRd dr w u).2) tr (0) wr tx ou) → Q (.inl (some (.int (zI 0)))) h') : ix_M 259 [.ref 98, .int (zI x), .int (zI w)] h Q := by
  obtain ⟨R, si, hR, V, mo, ng, sp, il, rs, pt, rl, wo, K⟩ := K
  -- the end: refused
  have tbad : (prs tx sz = none ∨ ¬ cRi x w) → ∀ (h1 : ix_H) (r8 : Dm) (s' : Nat) (l4 : Option Value), (RJ S0 h1 (va_up (va_up R 9 (R 8)) 8 r8) cd dr ra (s') tr sz wr tx ou) → ix_E 259 201 [some (.ref 98), some (.int (zI x)), some (.int (zI w)), some (.int (bI false)), l4] [] h1 Q := by
    intro hb h r8 s' l4 K
    obtain ⟨V, mo, ng, sp, il, rs, pt, rl, wo, K⟩ := K
    refine jx (pc' := 203) (L' := [_, _, _, _, _]) (st' := [.int (zI 0), _]) 2 rfl ?_
    refine jp_sz (pc' := 206) 0 K (by first | rfl | (congr 1; omega)) rfl rfl rfl rfl fun h K => ?_
    refine jx (pc' := 207) (L' := [_, _, _, _, _]) (st' := [_]) 1 rfl ?_
    refine jin (pc' := 210) 218 rfl rfl rfl rfl (by rfl) ?_
    refine jx (pc' := 215) (L' := [_, _, _, _, _]) (st' := [.int (zI 8), .int (zI 9), _]) 3 rfl ?_
    refine jcv (pc' := 218) 192 [.int (zI 9), .int (zI 8)] [] K.ob rfl rfl rfl rfl rfl rfl rfl rfl ?_
    refine m_copy (a := 9) (c := 8) K rfl rfl (by decide) (by decide) (by decide) fun h K => jk ?_
    refine jx (pc' := 220) (L' := [_, _, _, _, _]) (st' := [_, _]) 2 rfl ?_
    refine jin (pc' := 223) 227 rfl rfl rfl rfl (by rfl) ?_
    refine jx (pc' := 228) (L' := [_, _, _, _, _]) (st' := [.int (zI 1), _]) 2 rfl ?_
    refine jcv (pc' := 231) 168 [.int (zI 1)] [] K.ob rfl rfl rfl rfl rfl rfl rfl rfl ?_
    refine m_fails (b := true) K fun h K => jk ?_
    refine jin (pc' := 234) 238 rfl rfl rfl rfl (by rfl) ?_
    refine jx (pc' := 243) (L' := [_, _, _, _, _]) (st' := [.int (zI 0)]) 2 rfl ?_
    refine jri rfl rfl ?_
    refine q0 hb _ ⟨_, _, fun i hi => ?_, K.rj⟩
    rw [va_up_up, va_up_ne _ _ (show ¬ 9 = 8 by decide), va_up_self]
    by_cases e : i = 8
    · rw [e, va_up_self]; exact hR 8 (by decide)
    · rw [va_up_ne _ _ e, va_up_ne _ _ (by omega)]; exact hR i hi
  -- the end: taken
  have tgood : ∀ u, prs tx sz = some u → cRi x w → ∀ (h1 : ix_H) (o : Dm × Nat) (l4 : Option Value), o = rRd dr w u → (RJ S0 h1 (va_up (va_up R 9 (R 8)) 8 o.1) cd dr ra (o.2) tr sz wr tx ou) → ix_E 259 201 [some (.ref 98), some (.int (zI x)), some (.int (zI w)), some (.int (bI true)), l4] [] h1 Q := by
    intro u hu hc h o l4 ho K
    have q1 := q1 u hu hc
    have q2 := q2 u hu hc
    have hfl : o.2 < 32 := by rw [ho]; exact fl_ft (by omega)
    rw [← ho] at q1 q2
    obtain ⟨V, mo, ng, sp, il, rs, pt, rl, wo, K⟩ := K
    refine jx (pc' := 203) (L' := [_, _, _, _, _]) (st' := [.int (zI 0), _]) 2 rfl ?_
    refine jp_sz (pc' := 206) 0 K (by first | rfl | (congr 1; omega)) rfl rfl rfl rfl fun h K => ?_
    refine jx (pc' := 207) (L' := [_, _, _, _, _]) (st' := [_]) 1 rfl ?_
    refine jit (pc' := 218) rfl rfl rfl (by rfl) ?_
    refine jx (pc' := 220) (L' := [_, _, _, _, _]) (st' := [_, _]) 2 rfl ?_
    refine jit (pc' := 227) rfl rfl rfl (by rfl) ?_
    refine jx (pc' := 228) (L' := [_, _, _, _, _]) (st' := [.int (zI 0), _]) 1 rfl ?_
    refine jcv (pc' := 231) 168 [.int (zI 0)] [] K.ob rfl rfl rfl rfl rfl rfl rfl rfl ?_
    refine m_fails (b := false) K fun h K => jk ?_
    refine jit (pc' := 238) rfl rfl rfl (by rfl) ?_
    refine jx (pc' := 240) (L' := [_, _, _, _, _]) (st' := [_, _]) 2 rfl ?_
    refine jcv (pc' := 243) 233 [_] [] K.ob rfl rfl rfl rfl rfl rfl rfl rfl ?_
    refine m_overK (F := F) (d := x.toNat) K.rj (fun i hi => by rw [va_up_ne _ _ (by omega)]; exact hR i (by omega)) (by omega) (by omega) hfl htr (fun h0 h K => jk ?_) (fun h0 h K => jk ?_)
    · skip
      refine jri rfl rfl ?_
      exact q1 h0 _ K
    · skip
      refine jri rfl rfl ?_
      exact q2 h0 _ K
  have h45 := hC_c (t := tx) (len := sz) (k := 0) (c := 45) (by decide)
  have h43 := hC_c (t := tx) (len := sz) (k := 0) (c := 43) (by decide)
  have hb0 := hC_b ht 0
  -- a text
  have t69 : cRi x w → 0 < sz → ∀ (h1 : ix_H) (k : Nat), k = sgp tx sz 0 → (RI S0 h1 (va_up R 9 (R 8)) V cd dr ra (0) tr mo ng sp sz wr il rs pt rl wo tx ou) → ix_E 259 69 [some (.ref 98), some (.int (zI x)), some (.int (zI w)), some (.int (bI true)), none] [.int (zI (k : Int))] h1 Q := by
    intro hc hsz0 h k hk K
    have hsb := sgp_b (t := tx) (len := sz) (pl := 0) (by omega)
    rw [← hk] at hsb
    have hk1 : k ≤ 1 := by
      rw [hk]
      unfold sgp
      split <;> omega
    have hwf : w = ((w.toNat : Nat) : Int) := by omega
    have hf3 : w.toNat < 3 := by omega
    have fb := f3b hf3
    have eP : prs tx sz = prs tx sz := rfl
    conv at eP => rhs; unfold prs
    rw [← hk] at eP
    have tnum : (prs tx sz = match nmR tx sz k with | none => none | some x => if x.2.1 = sz then some (0, atc tx sz 0 45, x.1, x.2.2) else none) → ix_E 259 193 [some (.ref 98), some (.int (zI x)), some (.int (zI w)), some (.int (bI true)), some (.int (zI (k : Int)))] [] h Q := by
      intro eN
      refine jx (pc' := 197) (L' := [_, _, _, _, _]) (st' := [_, _, _]) 3 rfl ?_
      refine jcv (pc' := 200) 264 [_, _] [] K.ob rfl rfl rfl rfl rfl rfl rfl rfl ?_
      refine m_readNumber (k := k) K rfl (by omega) hsz ht hwf hf3 hdr (fun hn h K => jk ?_) (fun u hu hd h K => jk ?_)
      · have hnone : prs tx sz = none := by
          rw [eN]
          cases hq : nmR tx sz k with
          | none => rfl
          | some y =>
            rw [nmG_1 hq] at hn
            by_cases e : y.2.1 = sz
            · rw [if_pos e] at hn; exact nomatch hn
            · exact if_neg e
        refine jx (pc' := 201) (L' := [_, _, _, _, _]) (st' := []) 1 rfl ?_
        obtain ⟨V, mo, ng, sp, il, rs, pt, rl, wo, K⟩ := K
        refine tbad (Or.inl hnone) h (R 8) 0 _ ?_
        have e : va_up (va_up R 9 (R 8)) 8 (R 8) = va_up R 9 (R 8) := va_up_id (by rw [va_up_ne _ _ (by decide)])
        rw [e]
        exact K.rj
      · have hsome : prs tx sz = some (0, atc tx sz 0 45, u.1, u.2) := by
          rw [eN]
          cases hq : nmR tx sz k with
          | none => rw [nmG_0 hq] at hu; exact nomatch hu
          | some y =>
            rw [nmG_1 hq] at hu
            by_cases e : y.2.1 = sz
            · rw [if_pos e] at hu
              have := Option.some.inj hu
              rw [← this]
              exact if_pos e
            · rw [if_neg e] at hu; exact nomatch hu
        refine jx (pc' := 201) (L' := [_, _, _, _, _]) (st' := []) 1 rfl ?_
        rw [Nat.zero_or] at K
        refine tgood _ hsome hc h _ _ ?_ K
        show _ = ftR dr w.toNat 0 (atc tx sz 0 45) u.1 u.2
        unfold ftR
        rw [if_neg (by decide)]
        exact (rs_F (A := (w.toNat, 0, false, 0, 0)) hf3 hd (fun _ => rfl)).symm
    have epay : ∀ (so p : Nat), (so = 2 ∨ so = 3) → rRd dr w (so, atc tx sz 0 45, 0, vd 0 tx p (sz - p)) = ((w.toNat, so, atc tx sz 0 45, 0, if dgs (vd 0 tx p (sz - p)) < fD w.toNat then vd 0 tx p (sz - p) else 0), 0) := by
      intro so p hso
      show ftR dr w.toNat so (atc tx sz 0 45) 0 (vd 0 tx p (sz - p)) = _
      unfold ftR
      rw [if_pos (by omega)]
    have tinf : prs tx sz = some (1, atc tx sz 0 45, 0, 0) → ix_E 259 118 [some (.ref 98), some (.int (zI x)), some (.int (zI w)), some (.int (bI true)), some (.int (zI (k : Int)))] [] h Q := by
      intro hp
      have t135 : ∀ nn : Bool, nn = atc tx sz 0 45 → ix_E 259 135 [some (.ref 98), some (.int (zI x)), some (.int (zI w)), some (.int (bI true)), some (.int (zI (k : Int)))] [.int (bI nn), .int (zI w), .ref 98] h Q := by
        intro nn hnn
        refine jcv (pc' := 138) 203 [_, _] [] K.ob rfl rfl rfl rfl rfl rfl rfl rfl ?_
        refine m_infinite (b := nn) K hwf hf3 fun h K => jk ?_
        rw [hnn] at K
        refine jx (pc' := 201) (L' := [_, _, _, _, _]) (st' := []) 1 rfl ?_
        refine tgood _ hp hc h ((w.toNat, 1, atc tx sz 0 45, 0, 0), 0) _ ?_ K.rj
        show _ = ftR dr w.toNat 1 (atc tx sz 0 45) 0 0
        unfold ftR
        rw [if_pos (by decide), ite_self]
      refine jx (pc' := 122) (L' := [_, _, _, _, _]) (st' := [.int (zI 0), _, _, _]) 4 rfl ?_
      refine jcv (pc' := 125) 260 [.int (zI 0)] [_, _] K.ob rfl rfl rfl rfl rfl rfl rfl rfl ?_
      refine m_here (k := 0) K rfl (by decide) hsz ht (jk ?_)
      refine jx (pc' := 127) (L' := [_, _, _, _, _]) (st' := [.int (zI 45), _, _, _]) 1 rfl ?_
      by_cases h0 : hC tx sz 0 = 45
      · skip
        refine jcn (pc' := 130) 134 rfl rfl rfl rfl (by rw [zc_ne ⟨by omega, by omega⟩ ⟨by omega, by omega⟩]; exact decide_eq_false (by omega)) ?_
        refine jx (pc' := 135) (L' := [_, _, _, _, _]) (st' := [.int (zI 1), _, _]) 2 rfl ?_
        exact t135 true (h45.mp h0).symm
      · skip
        refine jct (pc' := 134) rfl rfl rfl (by rw [zc_ne ⟨by omega, by omega⟩ ⟨by omega, by omega⟩]; exact decide_eq_true (by omega)) ?_
        refine jx (pc' := 135) (L' := [_, _, _, _, _]) (st' := [.int (zI 0), _, _]) 1 rfl ?_
        refine t135 false ?_
        cases ha : atc tx sz 0 45
        · rfl
        · exact absurd (h45.mpr ha) h0
    have s0 : (sc 0).length = 8 := rfl
    have s1 : (sc 1).length = 3 := rfl
    have s2 : (sc 2).length = 4 := rfl
    have s3 : (sc 3).length = 3 := rfl
    have hI0 : wm tx sz k 0 = true → hC tx sz k = 73 := fun z => wm_h z (by decide)
    have hI1 : wm tx sz k 1 = true → hC tx sz k = 73 := fun z => wm_h z (by decide)
    have hI2 : wm tx sz k 2 = true → hC tx sz k = 83 := fun z => wm_h z (by decide)
    have hI3 : wm tx sz k 3 = true → hC tx sz k = 78 := fun z => wm_h z (by decide)
    -- not infinite
    have t141 : ¬ (wm tx sz k 1 = true ∧ sz = k + 3) → ¬ (wm tx sz k 0 = true ∧ sz = k + 8) → ix_E 259 141 [some (.ref 98), some (.int (zI x)), some (.int (zI w)), some (.int (bI true)), some (.int (zI (k : Int)))] [] h Q := by
      intro n1 n0
      refine jx (pc' := 147) (L' := [_, _, _, _, _]) (st' := [_, _, _]) 3 rfl ?_
      try simp (disch := omega) only [kM5128526, kz, kzl0, kzl1, kzb, kzs, zI_add, zI_sub, zI_neg, zI_mul, zL_i, zI_l, zL_add, zL_sub, zL_neg]
      refine jcv (pc' := 150) 261 [_, _] [] K.ob rfl rfl rfl rfl rfl rfl rfl rfl ?_
      refine m_says (k := k) (r := 3) K rfl (by omega) hsz ht (by decide) by_3 (jk ?_)
      cases e3 : wm tx sz k 3
      · skip
        refine jit (pc' := 167) rfl rfl rfl (by rfl) ?_
        refine jx (pc' := 173) (L' := [_, _, _, _, _]) (st' := [_, _, _]) 3 rfl ?_
        try simp (disch := omega) only [kM1397637454, kz, kzl0, kzl1, kzb, kzs, zI_add, zI_sub, zI_neg, zI_mul, zL_i, zI_l, zL_add, zL_sub, zL_neg]
        refine jcv (pc' := 176) 261 [_, _] [] K.ob rfl rfl rfl rfl rfl rfl rfl rfl ?_
        refine m_says (k := k) (r := 2) K rfl (by omega) hsz ht (by decide) by_2 (jk ?_)
        cases e2 : wm tx sz k 2
        · skip
          refine jit (pc' := 193) rfl rfl rfl (by rfl) ?_
          refine tnum ?_
          rw [eP]
          by_cases e0 : wm tx sz k 0 = true
          · have hn := nm_n (t := tx) (len := sz) (k := k) (by omega) (by rw [hI0 e0]; decide) (by rw [hI0 e0]; decide)
            rw [if_pos e0, if_neg (fun z => n0 ⟨e0, by omega⟩), hn]
          · rw [if_neg e0]
            by_cases e1 : wm tx sz k 1 = true
            · have hn := nm_n (t := tx) (len := sz) (k := k) (by omega) (by rw [hI1 e1]; decide) (by rw [hI1 e1]; decide)
              rw [if_pos e1, if_neg (fun z => n1 ⟨e1, by omega⟩), hn]
            · rw [if_neg e1, if_neg (by rw [e2]; decide), if_neg (by rw [e3]; decide)]
              rfl
        · have hkl := wm_b e2 (by decide)
          have eN : prs tx sz = if de tx sz (k + 4) = sz then some (2, atc tx sz 0 45, 0, vd 0 tx (k + 4) (de tx sz (k + 4) - (k + 4))) else none := by
            rw [eP, if_neg (fun z => by have := hI0 z; have := hI2 e2; omega), if_neg (fun z => by have := hI1 z; have := hI2 e2; omega), if_pos e2]
          refine jin (pc' := 179) 193 rfl rfl rfl rfl (by rfl) ?_
          refine jx (pc' := 186) (L' := [_, _, _, _, _]) (st' := [.int (zI 3), _, _, _]) 6 rfl ?_
          try simp (disch := omega) only [kz, kzl0, kzl1, kzb, kzs, zI_add, zI_sub, zI_neg, zI_mul, zL_i, zI_l, zL_add, zL_sub, zL_neg]
          refine jcv (pc' := 189) 262 [_, _, .int (zI 3)] [] K.ob rfl rfl rfl rfl rfl rfl rfl rfl ?_
          rw [show (k : Int) + 4 = ((k + 4 : Nat) : Int) by omega]
          refine m_readPayload (k := k + 4) (s := 2) K rfl (by omega) hsz ht hwf rfl hf3 (by decide) (fun hn h r8 K => jk ?_) (fun hd h K => jk ?_)
          · rw [if_neg hn] at eN
            refine jx (pc' := 201) (L' := [_, _, _, _, _]) (st' := []) 2 rfl ?_
            exact tbad (Or.inl eN) h r8 0 _ K
          · rw [if_pos hd, hd] at eN
            refine jx (pc' := 201) (L' := [_, _, _, _, _]) (st' := []) 2 rfl ?_
            refine tgood _ eN hc h _ _ (epay 2 (k + 4) (Or.inl rfl)).symm K
      · have hkl := wm_b e3 (by decide)
        have eN : prs tx sz = if de tx sz (k + 3) = sz then some (3, atc tx sz 0 45, 0, vd 0 tx (k + 3) (de tx sz (k + 3) - (k + 3))) else none := by
          rw [eP, if_neg (fun z => by have := hI0 z; have := hI3 e3; omega), if_neg (fun z => by have := hI1 z; have := hI3 e3; omega), if_neg (fun z => by have := hI2 z; have := hI3 e3; omega), if_pos e3]
        refine jin (pc' := 153) 167 rfl rfl rfl rfl (by rfl) ?_
        refine jx (pc' := 160) (L' := [_, _, _, _, _]) (st' := [.int (zI 2), _, _, _]) 6 rfl ?_
        try simp (disch := omega) only [kz, kzl0, kzl1, kzb, kzs, zI_add, zI_sub, zI_neg, zI_mul, zL_i, zI_l, zL_add, zL_sub, zL_neg]
        refine jcv (pc' := 163) 262 [_, _, .int (zI 2)] [] K.ob rfl rfl rfl rfl rfl rfl rfl rfl ?_
        rw [show (k : Int) + 3 = ((k + 3 : Nat) : Int) by omega]
        refine m_readPayload (k := k + 3) (s := 3) K rfl (by omega) hsz ht hwf rfl hf3 (by decide) (fun hn h r8 K => jk ?_) (fun hd h K => jk ?_)
        · rw [if_neg hn] at eN
          refine jx (pc' := 201) (L' := [_, _, _, _, _]) (st' := []) 2 rfl ?_
          exact tbad (Or.inl eN) h r8 0 _ K
        · rw [if_pos hd, hd] at eN
          refine jx (pc' := 201) (L' := [_, _, _, _, _]) (st' := []) 2 rfl ?_
          exact tgood _ eN hc h _ _ (epay 3 (k + 3) (Or.inr rfl)).symm K
    have t94 : ¬ (wm tx sz k 1 = true ∧ sz = k + 3) → ix_E 259 94 [some (.ref 98), some (.int (zI x)), some (.int (zI w)), some (.int (bI true)), some (.int (zI (k : Int)))] [] h Q := by
      intro n1
      refine jx (pc' := 100) (L' := [_, _, _, _, _]) (st' := [_, _, _]) 3 rfl ?_
      try simp (disch := omega) only [kM5282236693612155993, kz, kzl0, kzl1, kzb, kzs, zI_add, zI_sub, zI_neg, zI_mul, zL_i, zI_l, zL_add, zL_sub, zL_neg]
      refine jcv (pc' := 103) 261 [_, _] [] K.ob rfl rfl rfl rfl rfl rfl rfl rfl ?_
      refine m_says (k := k) (r := 0) K rfl (by omega) hsz ht (by decide) by_0 (jk ?_)
      cases e0 : wm tx sz k 0
      · skip
        refine jit (pc' := 141) rfl rfl rfl (by rfl) ?_
        exact t141 n1 (fun z => by rw [e0] at z; exact nomatch z.1)
      · skip
        refine jin (pc' := 106) 141 rfl rfl rfl rfl (by rfl) ?_
        refine jx (pc' := 107) (L' := [_, _, _, _, _]) (st' := [_]) 1 rfl ?_
        refine jgf (pc' := 110) K.ob rfl rfl rfl rfl rfl ?_
        refine jx (pc' := 115) (L' := [_, _, _, _, _]) (st' := [_, _]) 3 rfl ?_
        try simp (disch := omega) only [kz, kzl0, kzl1, kzb, kzs, zI_add, zI_sub, zI_neg, zI_mul, zL_i, zI_l, zL_add, zL_sub, zL_neg]
        by_cases e8 : sz = k + 8
        · skip
          refine jcn (pc' := 118) 141 rfl rfl rfl rfl (by rw [zc_ne ⟨by omega, by omega⟩ ⟨by omega, by omega⟩]; exact decide_eq_false (by omega)) ?_
          exact tinf (by rw [eP, if_pos e0, if_pos e8.symm])
        · skip
          refine jct (pc' := 141) rfl rfl rfl (by rw [zc_ne ⟨by omega, by omega⟩ ⟨by omega, by omega⟩]; exact decide_eq_true (by omega)) ?_
          exact t141 n1 (fun z => e8 z.2)
    refine jx (pc' := 77) (L' := [_, _, _, _, _]) (st' := [_, _, _]) 4 rfl ?_
    try simp (disch := omega) only [kM4804166, kz, kzl0, kzl1, kzb, kzs, zI_add, zI_sub, zI_neg, zI_mul, zL_i, zI_l, zL_add, zL_sub, zL_neg]
    refine jcv (pc' := 80) 261 [_, _] [] K.ob rfl rfl rfl rfl rfl rfl rfl rfl ?_
    refine m_says (k := k) (r := 1) K rfl (by omega) hsz ht (by decide) by_1 (jk ?_)
    cases e1 : wm tx sz k 1
    · skip
      refine jit (pc' := 94) rfl rfl rfl (by rfl) ?_
      exact t94 (fun z => by rw [e1] at z; exact nomatch z.1)
    · skip
      refine jin (pc' := 83) 94 rfl rfl rfl rfl (by rfl) ?_
      refine jx (pc' := 84) (L' := [_, _, _, _, _]) (st' := [_]) 1 rfl ?_
      refine jgf (pc' := 87) K.ob rfl rfl rfl rfl rfl ?_
      refine jx (pc' := 91) (L' := [_, _, _, _, _]) (st' := [_, _]) 3 rfl ?_
      try simp (disch := omega) only [kz, kzl0, kzl1, kzb, kzs, zI_add, zI_sub, zI_neg, zI_mul, zL_i, zI_l, zL_add, zL_sub, zL_neg]
      by_cases e3 : sz = k + 3
      · skip
        refine jct (pc' := 118) rfl rfl rfl (by rw [zc_eq ⟨by omega, by omega⟩ ⟨by omega, by omega⟩]; exact decide_eq_true (by omega)) ?_
        refine tinf ?_
        have n0 : ¬ wm tx sz k 0 = true := fun z => by
          have := wm_b z (by decide)
          omega
        rw [eP, if_neg n0, if_pos e1, if_pos e3.symm]
      · skip
        refine jcn (pc' := 94) 118 rfl rfl rfl rfl (by rw [zc_eq ⟨by omega, by omega⟩ ⟨by omega, by omega⟩]; exact decide_eq_false (by omega)) ?_
        exact t94 (fun z => e3 z.2)
  have t26 : ∀ gd : Bool, (gd = true → cRi x w ∧ 0 < sz) → (gd = false → ¬ cRi x w ∨ sz = 0) → ix_E 259 26 [some (.ref 98), some (.int (zI x)), some (.int (zI w)), none, none] [.int (bI gd)] h Q := by
    intro gd g1 g0
    refine jx (pc' := 29) (L' := [_, _, _, _, _]) (st' := [.int (zI 0), _]) 3 rfl ?_
    refine jp_si (pc' := 32) 0 K (by first | rfl | (congr 1; omega)) rfl rfl rfl rfl fun h K => ?_
    refine jx (pc' := 37) (L' := [_, _, _, _, _]) (st' := [.int (zI 9), .int (zI 8), _]) 3 rfl ?_
    refine jcv (pc' := 40) 192 [.int (zI 8), .int (zI 9)] [] K.ob rfl rfl rfl rfl rfl rfl rfl rfl ?_
    refine m_copy (a := 8) (c := 9) K rfl rfl (by decide) (by decide) (by decide) fun h K => jk ?_
    refine jx (pc' := 41) (L' := [_, _, _, _, _]) (st' := [_]) 1 rfl ?_
    cases gd
    · skip
      refine jit (pc' := 201) rfl rfl rfl (by rfl) ?_
      refine tbad ?_ h (R 8) 0 _ ?_
      · rcases g0 rfl with z | z
        · exact Or.inr z
        · left
          have h1 : ∀ r, 0 < (sc r).length → ¬ wm tx sz (sgp tx sz 0) r = true := fun r hr y => by
            have := wm_b y hr
            omega
          have hsb := sgp_b (t := tx) (len := sz) (pl := 0) (by omega)
          unfold prs
          rw [if_neg (h1 0 (by decide)), if_neg (h1 1 (by decide)), if_neg (h1 2 (by decide)), if_neg (h1 3 (by decide)), nm_n (by omega) (by unfold hC; rw [if_neg (by omega)]; decide) (by unfold hC; rw [if_neg (by omega)]; decide)]
      · have e : va_up (va_up R 9 (R 8)) 8 (R 8) = va_up R 9 (R 8) := va_up_id (by rw [va_up_ne _ _ (by decide)])
        rw [e]
        exact K.rj
    · obtain ⟨hc, hs0⟩ := g1 rfl
      have hsg : sgp tx sz 0 = if atc tx sz 0 45 || atc tx sz 0 43 then 0 + 1 else 0 := rfl
      refine jin (pc' := 44) 201 rfl rfl rfl rfl (by rfl) ?_
      refine jx (pc' := 46) (L' := [_, _, _, _, _]) (st' := [.int (zI 0), _]) 2 rfl ?_
      refine jcv (pc' := 49) 260 [.int (zI 0)] [] K.ob rfl rfl rfl rfl rfl rfl rfl rfl ?_
      refine m_here (k := 0) K rfl (by decide) hsz ht (jk ?_)
      refine jx (pc' := 51) (L' := [_, _, _, _, _]) (st' := [.int (zI 45), _]) 1 rfl ?_
      by_cases e0 : hC tx sz 0 = 45
      · rw [h45.mp e0, Bool.true_or, if_pos rfl] at hsg
        refine jct (pc' := 64) rfl rfl rfl (by rw [zc_eq ⟨by omega, by omega⟩ ⟨by omega, by omega⟩]; exact decide_eq_true (by omega)) ?_
        refine jx (pc' := 69) (L' := [_, _, _, _, _]) (st' := [.int (zI 1)]) 2 rfl ?_
        exact t69 hc hs0 h 1 hsg.symm K
      · have n45 : atc tx sz 0 45 = false := by
          cases ha : atc tx sz 0 45
          · rfl
          · exact absurd (h45.mpr ha) e0
        rw [n45, Bool.false_or] at hsg
        refine jcn (pc' := 54) 64 rfl rfl rfl rfl (by rw [zc_eq ⟨by omega, by omega⟩ ⟨by omega, by omega⟩]; exact decide_eq_false (by omega)) ?_
        refine jx (pc' := 56) (L' := [_, _, _, _, _]) (st' := [.int (zI 0), _]) 2 rfl ?_
        refine jcv (pc' := 59) 260 [.int (zI 0)] [] K.ob rfl rfl rfl rfl rfl rfl rfl rfl ?_
        refine m_here (k := 0) K rfl (by decide) hsz ht (jk ?_)
        refine jx (pc' := 61) (L' := [_, _, _, _, _]) (st' := [.int (zI 43), _]) 1 rfl ?_
        by_cases e1 : hC tx sz 0 = 43
        · rw [if_pos (h43.mp e1)] at hsg
          refine jcn (pc' := 64) 68 rfl rfl rfl rfl (by rw [zc_ne ⟨by omega, by omega⟩ ⟨by omega, by omega⟩]; exact decide_eq_false (by omega)) ?_
          refine jx (pc' := 69) (L' := [_, _, _, _, _]) (st' := [.int (zI 1)]) 2 rfl ?_
          exact t69 hc hs0 h 1 hsg.symm K
        · rw [if_neg (fun z => e1 (h43.mpr z))] at hsg
          refine jct (pc' := 68) rfl rfl rfl (by rw [zc_ne ⟨by omega, by omega⟩ ⟨by omega, by omega⟩]; exact decide_eq_true (by omega)) ?_
          refine jx (pc' := 69) (L' := [_, _, _, _, _]) (st' := [.int (zI 0)]) 1 rfl ?_
          exact t69 hc hs0 h 0 hsg.symm K
  have bad : (¬ cRi x w ∨ sz = 0) → ix_E 259 25 [some (.ref 98), some (.int (zI x)), some (.int (zI w)), none, none] [] h Q := by
    intro hn
    refine jx (pc' := 26) (L' := [_, _, _, _, _]) (st' := [.int (zI 0)]) 1 rfl ?_
    exact t26 false (fun z => nomatch z) (fun _ => hn)
  refine jx (pc' := 1) (L' := [_, _, _, _, _]) (st' := [_]) 1 rfl ?_
  refine jcs (pc' := 4) 166 [_] [] rfl rfl rfl rfl rfl rfl rfl rfl ?_
  refine m_isTarget hx (jk ?_)
  by_cases h2 : 0 ≤ x ∧ x < 8
  · skip
    refine jin (pc' := 7) 25 rfl rfl rfl rfl (by rw [bz_eq, decide_eq_true h2]; rfl) ?_
    refine jx (pc' := 8) (L' := [_, _, _, _, _]) (st' := [_]) 1 rfl ?_
    refine jcs (pc' := 11) 167 [_] [] rfl rfl rfl rfl rfl rfl rfl rfl ?_
    refine m_isFormat hw (jk ?_)
    by_cases h3 : 0 ≤ w ∧ w < 3
    · skip
      refine jin (pc' := 14) 25 rfl rfl rfl rfl (by rw [bz_eq, decide_eq_true h3]; rfl) ?_
      refine jx (pc' := 15) (L' := [_, _, _, _, _]) (st' := [_]) 1 rfl ?_
      refine jgf (pc' := 18) K.ob rfl rfl rfl rfl rfl ?_
      by_cases h4 : sz = 0
      · skip
        refine jit (pc' := 25) rfl rfl rfl (by rw [zz_le ⟨by omega, by omega⟩]; exact decide_eq_true (by omega)) ?_
        exact bad (Or.inr h4)
      · skip
        refine jin (pc' := 21) 25 rfl rfl rfl rfl (by rw [zz_le ⟨by omega, by omega⟩]; exact decide_eq_false (by omega)) ?_
        refine jx (pc' := 26) (L' := [_, _, _, _, _]) (st' := [.int (zI 1)]) 2 rfl ?_
        exact t26 true (fun _ => ⟨⟨h2, h3⟩, by omega⟩) (fun z => nomatch z)
    · skip
      refine jit (pc' := 25) rfl rfl rfl (by rw [bz_eq, decide_eq_false h3]; rfl) ?_
      exact bad (Or.inl (fun n => h3 n.2))
  · skip
    refine jit (pc' := 25) rfl rfl rfl (by rw [bz_eq, decide_eq_false h2]; rfl) ?_
    exact bad (Or.inl (fun n => h2 n.1))
end REF
