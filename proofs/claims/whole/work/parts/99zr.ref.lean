/-! ===== the reference: scale, convert, number ===== -/
theorem kMm12400 : (-12400 : Int64) = zL (-12400) := by decide
theorem kM12500 : (12500 : Int64) = zL 12500 := by decide
theorem kM10 : (10 : Int64) = zL 10 := by decide
theorem kM4294967295 : (4294967295 : Int64) = lN 4294967295 := by decide
theorem kMm9223372036854775808 : (-9223372036854775808 : Int64) = zL (-9223372036854775808) := by decide
theorem kM99999999 : (99999999 : Int64) = zL 99999999 := by decide
theorem kM48 : (48 : Int64) = zL 48 := by decide
theorem kM255 : (255 : Int64) = zL 255 := by decide
theorem kM4804166 : (4804166 : Int64) = zL 4804166 := by decide
theorem kM5282236693612155993 : (5282236693612155993 : Int64) = zL 5282236693612155993 := by decide
theorem kM5128526 : (5128526 : Int64) = zL 5128526 := by decide
theorem kM1397637454 : (1397637454 : Int64) = zL 1397637454 := by decide
theorem kM5291279215216915577 : (5291279215216915577 : Int64) = zL 5291279215216915577 := by decide
theorem kM5136718 : (5136718 : Int64) = zL 5136718 := by decide
theorem kM1934516558 : (1934516558 : Int64) = zL 1934516558 := by decide
theorem zL_mul (a b : Int) : zL a * zL b = zL (a * b) := (Int64.ofInt_mul a b).symm
theorem zLdv {n : Nat} (g : Bool) (h : n < 9223372036854775808 ∨ (g = true ∧ n = 9223372036854775808)) : zL (if g then -(n : Int) else n) / zL 10 = zL (if g then -((n / 10 : Nat) : Int) else ((n / 10 : Nat) : Int)) := by
  refine Int64.toInt_inj.mp ?_
  cases g
  · have h' : n < 9223372036854775808 := h.elim id (fun z => nomatch z.1)
    rw [if_neg (by decide), if_neg (by decide), Int64.toInt_div, zL_t (by omega) (by omega), zL_t (by decide) (by decide), zL_t (by omega) (by omega), Int.tdiv_eq_ediv_of_nonneg (by omega)]
    simp only [Int.bmod]
    split <;> omega
  · have h' : n ≤ 9223372036854775808 := by rcases h with z | z <;> omega
    rw [if_pos rfl, if_pos rfl, Int64.toInt_div, zL_t (by omega) (by omega), zL_t (by decide) (by decide), zL_t (by omega) (by omega), Int.neg_tdiv, Int.tdiv_eq_ediv_of_nonneg (by omega)]
    simp only [Int.bmod]
    split <;> omega
theorem zLrm {n : Nat} (g : Bool) (h : n < 9223372036854775808 ∨ (g = true ∧ n = 9223372036854775808)) : zL (if g then -(n : Int) else n) - zL (if g then -(n : Int) else n) / zL 10 * zL 10 = zL (if g then -((n % 10 : Nat) : Int) else ((n % 10 : Nat) : Int)) := by
  rw [zLdv g h, zL_mul, zL_sub]
  congr 1
  cases g
  · rw [if_neg (by decide), if_neg (by decide), if_neg (by decide)]; omega
  · rw [if_pos rfl, if_pos rfl, if_pos rfl]; omega
abbrev cSc (x y : Int) : Prop := (0 ≤ x ∧ x < 8) ∧ (0 ≤ y ∧ y ≤ 8)
abbrev cCv (x y w : Int) : Prop := (0 ≤ x ∧ x < 8) ∧ (0 ≤ y ∧ y ≤ 8) ∧ (0 ≤ w ∧ w < 3)
abbrev cNu (x w : Int) : Prop := (0 ≤ x ∧ x < 8) ∧ (0 ≤ w ∧ w < 3)
section REF
variable {h : ix_H} {Q : ix_O → ix_H → Prop} {S0 : Nat → AC} {R F : Nat → Dm} {V cd dr ra si tr : Nat} {mo ng : Bool} {sp sz wr : Nat} {il : Bool} {rs pt rl wo tx ou : Nat → Nat} {j x y z w a0 b0 : Int} {r f s m a c : Nat} {b t : Bool} {hi lo : Int32}
theorem m_rescale {q0 f0 : Int} (K : (RI S0 h R V cd dr ra si tr mo ng sp sz wr il rs pt rl wo tx ou)) (vA : ValD (R 9)) (hq : lr q0) (hf0 : f0 = (f : Int)) (hf : f < 3) (hdr : dr < 5) (q : ∀ h', (RJ S0 h' (va_up R 8 (rr f dr (R 9).2.2.1 (R 9).2.2.1 false (clE q0) (pV (clE q0) (R 9).2.2.2.2)).1) cd dr ra (si ||| (rr f dr (R 9).2.2.1 (R 9).2.2.1 false (clE q0) (pV (clE q0) (R 9).2.2.2.2)).2) tr sz wr tx ou) → Q (.inl none) h') : ix_M 246 [.ref 98, .int (zI 9), .long (zL q0), .int (zI f0)] h Q := by
  have hq1 := hq.1
  have hq2 := hq.2
  have cb := cl_b q0
  have cA := Val.c34 vA
  have hdA := dgs_le cA
  have t29 : ∀ to : Int, to = clE q0 → ix_E 246 29 [some (.ref 98), some (.int (zI 9)), some (.long (zL q0)), none, some (.int (zI f0)), none] [.long (zL to)] h Q := by
    intro to hto
    rw [← hto] at q cb
    refine jx (pc' := 33) (L' := [_, _, _, _, _, _]) (st' := [_]) 3 rfl ?_
    try simp (disch := omega) only [kz, kzl0, kzl1, kzb, kzs, zI_add, zI_sub, zI_neg, zI_mul, zL_i, zI_l, zL_add, zL_sub, zL_neg]
    refine jcv (pc' := 36) 204 [] [] K.ob rfl rfl rfl rfl rfl rfl rfl rfl ?_
    refine m_empty K fun h K => jk ?_
    refine jx (pc' := 40) (L' := [_, _, _, _, _, _]) (st' := [_, _, _]) 3 rfl ?_
    refine jcv (pc' := 43) 205 [_, _] [] K.ob rfl rfl rfl rfl rfl rfl rfl rfl ?_
    have hu1 : (((12500 + to).toNat : Nat) : Int) = 12500 + to := by omega
    refine m_lay (r := 9) K rfl (by decide) _ hu1 (by omega) fun h K => jk ?_
    refine jx (pc' := 45) (L' := [_, _, _, _, _, _]) (st' := [_, _]) 2 rfl ?_
    refine jgf (pc' := 48) K.ob rfl rfl rfl rfl rfl ?_
    refine jx (pc' := 49) (L' := [_, _, _, _, _, _]) (st' := [_, _, _]) 1 rfl ?_
    refine jR_m (pc' := 50) 9 K rfl rfl (by omega) (by omega)  rfl ?_
    refine jp_ng (pc' := 53) ((R 9).2.2.1) K (by first | rfl | (congr 1; omega)) rfl rfl rfl rfl fun h K => ?_
    refine jx (pc' := 59) (L' := [_, _, _, _, _, _]) (st' := [_, _, _, _]) 4 rfl ?_
    refine jgf (pc' := 62) K.ob rfl rfl rfl rfl rfl ?_
    refine jx (pc' := 63) (L' := [_, _, _, _, _, _]) (st' := [_, _, _, _, _]) 1 rfl ?_
    refine jR_m (pc' := 64) 9 K rfl rfl (by omega) (by omega)  rfl ?_
    refine jcv (pc' := 67) 208 [_, _, _] [] K.ob rfl rfl rfl rfl rfl rfl rfl rfl ?_
    refine m_roundR (W := pV to (R 9).2.2.2.2) K rfl hf0 hf hdr ⟨by omega, by omega⟩ (fun _ => rfl) fun h K => jk ?_
    refine ix_qr _ rfl rfl rfl ?_
    exact q _ K
  refine jx (pc' := 5) (L' := [_, _, _, _, _, _]) (st' := [_]) 3 rfl ?_
  try simp (disch := omega) only [kMm12400, kz, kzl0, kzl1, kzb, kzs, zI_add, zI_sub, zI_neg, zI_mul, zL_i, zI_l, zL_add, zL_sub, zL_neg]
  by_cases h0 : q0 < -12400
  · skip
    refine jin (pc' := 8) 14 rfl rfl rfl rfl (by rw [zl_ge ⟨by omega, by omega⟩ ⟨by omega, by omega⟩]; exact decide_eq_false (by omega)) ?_
    refine jx (pc' := 29) (L' := [_, _, _, _, _, _]) (st' := [_]) 2 rfl ?_
    try simp (disch := omega) only [kMm12400, kz, kzl0, kzl1, kzb, kzs, zI_add, zI_sub, zI_neg, zI_mul, zL_i, zI_l, zL_add, zL_sub, zL_neg]
    exact t29 _ (by unfold clE; rw [if_pos h0])
  · skip
    refine jit (pc' := 14) rfl rfl rfl (by rw [zl_ge ⟨by omega, by omega⟩ ⟨by omega, by omega⟩]; exact decide_eq_true (by omega)) ?_
    refine jx (pc' := 19) (L' := [_, _, _, _, _, _]) (st' := [_]) 3 rfl ?_
    try simp (disch := omega) only [kM12500, kz, kzl0, kzl1, kzb, kzs, zI_add, zI_sub, zI_neg, zI_mul, zL_i, zI_l, zL_add, zL_sub, zL_neg]
    by_cases h1 : 12500 < q0
    · skip
      refine jin (pc' := 22) 28 rfl rfl rfl rfl (by rw [zl_le ⟨by omega, by omega⟩ ⟨by omega, by omega⟩]; exact decide_eq_false (by omega)) ?_
      refine jx (pc' := 29) (L' := [_, _, _, _, _, _]) (st' := [_]) 2 rfl ?_
      try simp (disch := omega) only [kM12500, kz, kzl0, kzl1, kzb, kzs, zI_add, zI_sub, zI_neg, zI_mul, zL_i, zI_l, zL_add, zL_sub, zL_neg]
      exact t29 _ (by unfold clE; rw [if_neg h0, if_pos h1])
    · skip
      refine jit (pc' := 28) rfl rfl rfl (by rw [zl_le ⟨by omega, by omega⟩ ⟨by omega, by omega⟩]; exact decide_eq_true (by omega)) ?_
      refine jx (pc' := 29) (L' := [_, _, _, _, _, _]) (st' := [_]) 1 rfl ?_
      exact t29 _ (by unfold clE; rw [if_neg h0, if_neg h1])
theorem m_scale (K : (RK S0 h F cd dr ra tr sz wr tx ou)) (hv : ∀ i, i < 9 → ValD (F i)) (hdr : dr < 5) (htr : tr < 32) (hw : zr w) (hx : zr x) (hy : zr y) (q0 : ¬ cSc x y → ∀ h', (RK S0 h' F (1) dr ra tr sz wr tx ou) → Q (.inl (some (.int (zI 0)))) h') (q1 : cSc x y → (scR dr w (F y.toNat)).2 &&& tr = 0 → ∀ h', (RK S0 h' (va_up (va_up F 8 (scR dr w (F y.toNat)).1) x.toNat (scR dr w (F y.toNat)).1) (0) dr (ra ||| (scR dr w (F y.toNat)).2) tr sz wr tx ou) → Q (.inl (some (.int (zI ((scR dr w (F y.toNat)).2 : Nat))))) h') (q2 : cSc x y → ¬ (scR dr w (F y.toNat)).2 &&& tr = 0 → ∀ h', (RK S0 h' (va_up F 8 (scR dr w (F y.toNat)).1) (2) dr (ra ||| (scR dr w (F y.toNat)).2) tr sz wr tx ou) → Q (.inl (some (.int (zI 0)))) h') : ix_M 245 [.ref 98, .int (zI x), .int (zI y), .int (zI w)] h Q := by
  obtain ⟨R, si, hR, V, mo, ng, sp, il, rs, pt, rl, wo, K⟩ := K
  have hw1 := hw.1
  have hw2 := hw.2
  have t28 : cSc x y → ∀ h1, (RI S0 h1 R V (0) dr ra si tr mo ng sp sz wr il rs pt rl wo tx ou) → ix_E 245 28 [some (.ref 98), some (.int (zI x)), some (.int (zI y)), some (.int (zI w))] [] h1 Q := by
    intro hc h K
    have q1 := q1 hc
    have q2 := q2 hc
    obtain ⟨⟨x1, x2⟩, ⟨y1, y2⟩⟩ := hc
    have vy := hv y.toNat (by omega)
    have hfl := fl_sc (dir := dr) (n := w) (A := F y.toNat) vy
    have eo : scR dr w (F y.toNat) = scR dr w (F y.toNat) := rfl
    conv at eo => rhs; unfold scR
    generalize scR dr w (F y.toNat) = o at *
    refine jx (pc' := 30) (L' := [_, _, _, _]) (st' := [.int (zI 0), _]) 2 rfl ?_
    refine jp_si (pc' := 33) 0 K (by first | rfl | (congr 1; omega)) rfl rfl rfl rfl fun h K => ?_
    refine jx (pc' := 37) (L' := [_, _, _, _]) (st' := [.int (zI 9), _, _]) 3 rfl ?_
    refine jcv (pc' := 40) 192 [_, .int (zI 9)] [] K.ob rfl rfl rfl rfl rfl rfl rfl rfl ?_
    refine m_copy (a := y.toNat) (c := 9) K (by omega) rfl (by omega) (by decide) (by omega) fun h K => jk ?_
    rw [hR y.toNat (by omega)] at K
    have e9 : va_up R 9 (F y.toNat) 9 = F y.toNat := va_up_self _ _ _
    have eR : ∀ i, i < 8 → va_up R 9 (F y.toNat) i = F i := fun i hi => by
      rw [va_up_ne _ _ (by omega)]
      exact hR i (by omega)
    clear hR
    generalize va_up R 9 (F y.toNat) = R at *
    rw [← e9] at vy eo
    clear e9
    have hs4 := swp_b vy.2.1
    have fA := vy.1
    have bA := Val.b vy
    have t97 : ∀ (h1 : ix_H) (u : Dm × Nat), u = o → (RJ S0 h1 (va_up R 8 u.1) (0) dr ra (u.2) tr sz wr tx ou) → ix_E 245 97 [some (.ref 98), some (.int (zI x)), some (.int (zI y)), some (.int (zI w))] [] h1 Q := by
      intro h u hu K
      rw [hu] at K
      obtain ⟨V, mo, ng, sp, il, rs, pt, rl, wo, K⟩ := K
      refine jx (pc' := 99) (L' := [_, _, _, _]) (st' := [_, _]) 2 rfl ?_
      refine jcv (pc' := 102) 233 [_] [] K.ob rfl rfl rfl rfl rfl rfl rfl rfl ?_
      refine m_overK (d := x.toNat) K.rj eR (by omega) (by omega) hfl htr (fun h0 h K => jk ?_) (fun h0 h K => jk ?_)
      · skip
        refine jri rfl rfl ?_
        exact q1 h0 _ K
      · skip
        refine jri rfl rfl ?_
        exact q2 h0 _ K
    refine jx (pc' := 45) (L' := [_, _, _, _]) (st' := [.int (zI (-1)), .int (zI (-1)), .int (zI 9), _]) 4 rfl ?_
    refine jcv (pc' := 48) 195 [.int (zI 9), .int (zI (-1)), .int (zI (-1))] [] K.ob rfl rfl rfl rfl rfl rfl rfl rfl ?_
    refine m_nans (a := 9) (B := (R 9)) (C := (R 9)) K rfl ⟨by decide, by decide⟩ (Or.inl ⟨rfl, rfl⟩) (Or.inl ⟨rfl, rfl⟩) (fun hn => jk ?_) (fun hn h K => jk ?_)
    · have hA2 : (R 9).2.1 < 2 := by omega
      rw [if_neg (by omega)] at eo
      refine jin (pc' := 51) 97 rfl rfl rfl rfl (by rfl) ?_
      refine jx (pc' := 52) (L' := [_, _, _, _]) (st' := [_]) 1 rfl ?_
      refine jgf (pc' := 55) K.ob rfl rfl rfl rfl rfl ?_
      refine jx (pc' := 57) (L' := [_, _, _, _]) (st' := [.int (zI 9), _]) 1 rfl ?_
      refine jR_so (pc' := 58) 9 K rfl rfl (by omega) (by omega)  rfl ?_
      refine jx (pc' := 59) (L' := [_, _, _, _]) (st' := [.int (zI 1), _]) 1 rfl ?_
      by_cases e : (R 9).2.1 = 1
      · have e1 := swp_1.mpr e
        rw [if_pos e] at eo
        refine jcn (pc' := 62) 73 rfl rfl rfl rfl (by rw [zc_ne ⟨by omega, by omega⟩ ⟨by omega, by omega⟩]; exact decide_eq_false (by omega)) ?_
        refine jx (pc' := 67) (L' := [_, _, _, _]) (st' := [.int (zI 8), .int (zI 9), _]) 3 rfl ?_
        refine jcv (pc' := 70) 192 [.int (zI 9), .int (zI 8)] [] K.ob rfl rfl rfl rfl rfl rfl rfl rfl ?_
        refine m_copy (a := 9) (c := 8) K rfl rfl (by decide) (by decide) (by decide) fun h K => jk ?_
        refine jx (pc' := 97) (L' := [_, _, _, _]) (st' := []) 1 rfl ?_
        exact t97 h _ eo.symm K.rj
      · have e1 : ¬ swp (R 9).2.1 = 1 := fun z => e (swp_1.mp z)
        rw [if_neg e] at eo
        refine jct (pc' := 73) rfl rfl rfl (by rw [zc_ne ⟨by omega, by omega⟩ ⟨by omega, by omega⟩]; exact decide_eq_true (by omega)) ?_
        refine jx (pc' := 77) (L' := [_, _, _, _]) (st' := [_, .int (zI 9), _]) 3 rfl ?_
        refine jgf (pc' := 80) K.ob rfl rfl rfl rfl rfl ?_
        refine jx (pc' := 82) (L' := [_, _, _, _]) (st' := [.int (zI 9), _, .int (zI 9), _]) 1 rfl ?_
        refine jR_p (pc' := 83) 9 K rfl rfl (by omega) (by omega)  rfl ?_
        refine jx (pc' := 88) (L' := [_, _, _, _]) (st' := [_, _, .int (zI 9), _]) 5 rfl ?_
        try simp (disch := omega) only [kz, kzl0, kzl1, kzb, kzs, zI_add, zI_sub, zI_neg, zI_mul, zL_i, zI_l, zL_add, zL_sub, zL_neg]
        refine jgf (pc' := 91) K.ob rfl rfl rfl rfl rfl ?_
        refine jx (pc' := 93) (L' := [_, _, _, _]) (st' := [.int (zI 9), _, _, .int (zI 9), _]) 1 rfl ?_
        refine jR_f (pc' := 94) 9 K rfl rfl (by omega) (by omega)  rfl ?_
        refine jcv (pc' := 97) 246 [.int (zI 9), _, _] [] K.ob rfl rfl rfl rfl rfl rfl rfl rfl ?_
        refine m_rescale K vy ⟨by omega, by omega⟩ rfl fA hdr fun h K => jk ?_
        refine t97 h _ ?_ (by rw [Nat.zero_or] at K; exact K)
        rw [eo]
        exact (rs_F fA (Nat.le_trans (dgs_le (Val.c34 vy)) (by decide)) (fun _ => rfl)).symm
    · rw [if_pos (by omega)] at eo
      refine jit (pc' := 97) rfl rfl rfl (by rfl) ?_
      exact t97 h _ eo.symm (by rw [Nat.zero_or] at K; exact K.rj)
  have t20 : ∀ bd : Bool, bd = decide (¬ cSc x y) → ix_E 245 20 [some (.ref 98), some (.int (zI x)), some (.int (zI y)), some (.int (zI w))] [.int (bI bd), .ref 98] h Q := by
    intro bd hbd
    refine jcv (pc' := 23) 168 [_] [] K.ob rfl rfl rfl rfl rfl rfl rfl rfl ?_
    refine m_fails K fun h K => jk ?_
    cases bd
    · have hc : cSc x y := Classical.not_not.mp (of_decide_eq_false hbd.symm)
      refine jit (pc' := 28) rfl rfl rfl (by rfl) ?_
      exact t28 hc h K
    · have hc := of_decide_eq_true hbd.symm
      refine jin (pc' := 26) 28 rfl rfl rfl rfl (by rfl) ?_
      refine jx (pc' := 27) (L' := [_, _, _, _]) (st' := [.int (zI 0)]) 1 rfl ?_
      refine jri rfl rfl ?_
      exact q0 hc _ ⟨R, si, hR, K.rj⟩
  have bad : ¬ cSc x y → ix_E 245 15 [some (.ref 98), some (.int (zI x)), some (.int (zI y)), some (.int (zI w))] [.ref 98] h Q := by
    intro hn
    refine jx (pc' := 20) (L' := [_, _, _, _]) (st' := [.int (zI 1), _]) 2 rfl ?_
    exact t20 true (decide_eq_true hn).symm
  refine jx (pc' := 2) (L' := [_, _, _, _]) (st' := [_, _]) 2 rfl ?_
  refine jcs (pc' := 5) 166 [_] [_] rfl rfl rfl rfl rfl rfl rfl rfl ?_
  refine m_isTarget hx (jk ?_)
  by_cases h2 : 0 ≤ x ∧ x < 8
  · skip
    refine jin (pc' := 8) 15 rfl rfl rfl rfl (by rw [bz_eq, decide_eq_true h2]; rfl) ?_
    refine jx (pc' := 9) (L' := [_, _, _, _]) (st' := [_, _]) 1 rfl ?_
    refine jcs (pc' := 12) 181 [_] [_] rfl rfl rfl rfl rfl rfl rfl rfl ?_
    refine m_isSource hy (jk ?_)
    by_cases h3 : 0 ≤ y ∧ y ≤ 8
    · skip
      refine jit (pc' := 19) rfl rfl rfl (by rw [bz_ne, decide_eq_true h3]) ?_
      refine jx (pc' := 20) (L' := [_, _, _, _]) (st' := [.int (zI 0), _]) 1 rfl ?_
      exact t20 false (decide_eq_false (fun n => n ⟨h2, h3⟩)).symm
    · skip
      refine jin (pc' := 15) 19 rfl rfl rfl rfl (by rw [bz_ne, decide_eq_false h3]) ?_
      exact bad (fun n => h3 n.2)
  · skip
    refine jit (pc' := 15) rfl rfl rfl (by rw [bz_eq, decide_eq_false h2]; rfl) ?_
    exact bad (fun n => h2 n.1)
theorem m_convert (K : (RK S0 h F cd dr ra tr sz wr tx ou)) (hv : ∀ i, i < 9 → ValD (F i)) (hdr : dr < 5) (htr : tr < 32) (hw : zr w) (hx : zr x) (hy : zr y) (q0 : ¬ cCv x y w → ∀ h', (RK S0 h' F (1) dr ra tr sz wr tx ou) → Q (.inl (some (.int (zI 0)))) h') (q1 : cCv x y w → (cvR dr w.toNat (F y.toNat)).2 &&& tr = 0 → ∀ h', (RK S0 h' (va_up (va_up F 8 (cvR dr w.toNat (F y.toNat)).1) x.toNat (cvR dr w.toNat (F y.toNat)).1) (0) dr (ra ||| (cvR dr w.toNat (F y.toNat)).2) tr sz wr tx ou) → Q (.inl (some (.int (zI ((cvR dr w.toNat (F y.toNat)).2 : Nat))))) h') (q2 : cCv x y w → ¬ (cvR dr w.toNat (F y.toNat)).2 &&& tr = 0 → ∀ h', (RK S0 h' (va_up F 8 (cvR dr w.toNat (F y.toNat)).1) (2) dr (ra ||| (cvR dr w.toNat (F y.toNat)).2) tr sz wr tx ou) → Q (.inl (some (.int (zI 0)))) h') : ix_M 247 [.ref 98, .int (zI x), .int (zI y), .int (zI w)] h Q := by
  obtain ⟨R, si, hR, V, mo, ng, sp, il, rs, pt, rl, wo, K⟩ := K
  have hw1 := hw.1
  have hw2 := hw.2
  have t35 : cCv x y w → ∀ h1, (RI S0 h1 R V (0) dr ra si tr mo ng sp sz wr il rs pt rl wo tx ou) → ix_E 247 35 [some (.ref 98), some (.int (zI x)), some (.int (zI y)), some (.int (zI w)), none] [] h1 Q := by
    intro hc h K
    have q1 := q1 hc
    have q2 := q2 hc
    obtain ⟨⟨x1, x2⟩, ⟨y1, y2⟩, ⟨w1, w2⟩⟩ := hc
    have vy := hv y.toNat (by omega)
    have hwf : w = ((w.toNat : Nat) : Int) := by omega
    have hf3 : w.toNat < 3 := by omega
    have fb := f3b hf3
    have hfl := fl_cv (dir := dr) (f := w.toNat) (A := F y.toNat) hf3
    have eo : cvR dr w.toNat (F y.toNat) = cvR dr w.toNat (F y.toNat) := rfl
    conv at eo => rhs; unfold cvR
    generalize cvR dr w.toNat (F y.toNat) = o at *
    refine jx (pc' := 37) (L' := [_, _, _, _, _]) (st' := [.int (zI 0), _]) 2 rfl ?_
    refine jp_si (pc' := 40) 0 K (by first | rfl | (congr 1; omega)) rfl rfl rfl rfl fun h K => ?_
    refine jx (pc' := 44) (L' := [_, _, _, _, _]) (st' := [.int (zI 9), _, _]) 3 rfl ?_
    refine jcv (pc' := 47) 192 [_, .int (zI 9)] [] K.ob rfl rfl rfl rfl rfl rfl rfl rfl ?_
    refine m_copy (a := y.toNat) (c := 9) K (by omega) rfl (by omega) (by decide) (by omega) fun h K => jk ?_
    rw [hR y.toNat (by omega)] at K
    have e9 : va_up R 9 (F y.toNat) 9 = F y.toNat := va_up_self _ _ _
    have eR : ∀ i, i < 8 → va_up R 9 (F y.toNat) i = F i := fun i hi => by
      rw [va_up_ne _ _ (by omega)]
      exact hR i (by omega)
    clear hR
    generalize va_up R 9 (F y.toNat) = R at *
    rw [← e9] at vy eo
    clear e9
    have hs4 := swp_b vy.2.1
    have bA := Val.b vy
    have t143 : ∀ (h1 : ix_H) (l4 : Option Value) (u : Dm × Nat), u = o → (RJ S0 h1 (va_up R 8 u.1) (0) dr ra (u.2) tr sz wr tx ou) → ix_E 247 143 [some (.ref 98), some (.int (zI x)), some (.int (zI y)), some (.int (zI w)), l4] [] h1 Q := by
      intro h l4 u hu K
      rw [hu] at K
      obtain ⟨V, mo, ng, sp, il, rs, pt, rl, wo, K⟩ := K
      refine jx (pc' := 145) (L' := [_, _, _, _, _]) (st' := [_, _]) 2 rfl ?_
      refine jcv (pc' := 148) 233 [_] [] K.ob rfl rfl rfl rfl rfl rfl rfl rfl ?_
      refine m_overK (d := x.toNat) K.rj eR (by omega) (by omega) hfl htr (fun h0 h K => jk ?_) (fun h0 h K => jk ?_)
      · skip
        refine jri rfl rfl ?_
        exact q1 h0 _ K
      · skip
        refine jri rfl rfl ?_
        exact q2 h0 _ K
    refine jx (pc' := 52) (L' := [_, _, _, _, _]) (st' := [.int (zI (-1)), .int (zI (-1)), .int (zI 9), _]) 4 rfl ?_
    refine jcv (pc' := 55) 195 [.int (zI 9), .int (zI (-1)), .int (zI (-1))] [] K.ob rfl rfl rfl rfl rfl rfl rfl rfl ?_
    refine m_nans (a := 9) (B := (R 9)) (C := (R 9)) K rfl ⟨by decide, by decide⟩ (Or.inl ⟨rfl, rfl⟩) (Or.inl ⟨rfl, rfl⟩) (fun hn => jk ?_) (fun hn h K => jk ?_)
    · have hA2 : (R 9).2.1 < 2 := by omega
      rw [if_neg (by omega)] at eo
      refine jit (pc' := 102) rfl rfl rfl (by rfl) ?_
      refine jx (pc' := 103) (L' := [_, _, _, _, _]) (st' := [_]) 1 rfl ?_
      refine jgf (pc' := 106) K.ob rfl rfl rfl rfl rfl ?_
      refine jx (pc' := 108) (L' := [_, _, _, _, _]) (st' := [.int (zI 9), _]) 1 rfl ?_
      refine jR_so (pc' := 109) 9 K rfl rfl (by omega) (by omega)  rfl ?_
      refine jx (pc' := 110) (L' := [_, _, _, _, _]) (st' := [.int (zI 1), _]) 1 rfl ?_
      by_cases e : (R 9).2.1 = 1
      · have e1 := swp_1.mpr e
        have e4 : (R 9).2.2.2.1 = 0 := by rcases vy.2.2.2.2.1 with z | z <;> omega
        have e5 := vy.2.2.2.2.2.1 e
        rw [if_pos e, e, e4, e5] at eo
        refine jcn (pc' := 113) 128 rfl rfl rfl rfl (by rw [zc_ne ⟨by omega, by omega⟩ ⟨by omega, by omega⟩]; exact decide_eq_false (by omega)) ?_
        refine jx (pc' := 116) (L' := [_, _, _, _, _]) (st' := [_, _, _]) 3 rfl ?_
        refine jgf (pc' := 119) K.ob rfl rfl rfl rfl rfl ?_
        refine jx (pc' := 121) (L' := [_, _, _, _, _]) (st' := [.int (zI 9), _, _, _]) 1 rfl ?_
        refine jR_m (pc' := 122) 9 K rfl rfl (by omega) (by omega)  rfl ?_
        refine jcv (pc' := 125) 203 [_, _] [] K.ob rfl rfl rfl rfl rfl rfl rfl rfl ?_
        refine m_infinite K hwf hf3 fun h K => jk ?_
        refine jx (pc' := 143) (L' := [_, _, _, _, _]) (st' := []) 1 rfl ?_
        exact t143 h _ _ eo.symm K.rj
      · have e1 : ¬ swp (R 9).2.1 = 1 := fun z => e (swp_1.mp z)
        rw [if_neg e] at eo
        refine jct (pc' := 128) rfl rfl rfl (by rw [zc_ne ⟨by omega, by omega⟩ ⟨by omega, by omega⟩]; exact decide_eq_true (by omega)) ?_
        refine jx (pc' := 132) (L' := [_, _, _, _, _]) (st' := [_, .int (zI 9), _]) 3 rfl ?_
        refine jgf (pc' := 135) K.ob rfl rfl rfl rfl rfl ?_
        refine jx (pc' := 137) (L' := [_, _, _, _, _]) (st' := [.int (zI 9), _, .int (zI 9), _]) 1 rfl ?_
        refine jR_p (pc' := 138) 9 K rfl rfl (by omega) (by omega)  rfl ?_
        refine jx (pc' := 140) (L' := [_, _, _, _, _]) (st' := [_, _, .int (zI 9), _]) 2 rfl ?_
        try simp (disch := omega) only [kz, kzl0, kzl1, kzb, kzs, zI_add, zI_sub, zI_neg, zI_mul, zL_i, zI_l, zL_add, zL_sub, zL_neg]
        refine jcv (pc' := 143) 246 [.int (zI 9), _, _] [] K.ob rfl rfl rfl rfl rfl rfl rfl rfl ?_
        refine m_rescale K vy ⟨by omega, by omega⟩ hwf hf3 hdr fun h K => jk ?_
        refine t143 h _ _ ?_ (by rw [Nat.zero_or] at K; exact K)
        rw [eo]
        exact (rs_F (A := (w.toNat, (R 9).2.1, (R 9).2.2.1, (R 9).2.2.2.1, (R 9).2.2.2.2)) hf3 (Nat.le_trans (dgs_le (Val.c34 vy)) (by decide)) (fun _ => rfl)).symm
    · have rv := K.rv (r := 8) (by decide)
      rw [va_up_self] at rv
      rw [if_pos (by omega)] at eo
      rw [Nat.zero_or] at K
      generalize nanP (R 9) (R 9) (R 9) = N at *
      have hN40 : N.2.2.2.2 < 10 ^ 40 := rv.2.2.2.2
      refine jin (pc' := 58) 102 rfl rfl rfl rfl (by rfl) ?_
      have loop : ∀ n k : Nat, k + n = 40 → fD w.toNat - 1 ≤ k → ∀ h1, (RI S0 h1 (va_up R 8 (sC (nq N) (N.2.2.2.2 / 10 ^ k * 10 ^ k + N.2.2.2.2 % 10 ^ (fD w.toNat - 1)))) V (0) dr ra ((nanS (R 9) (R 9) (R 9)).toNat) tr mo ng sp sz wr il rs pt rl wo tx ou) → ix_E 247 66 [some (.ref 98), some (.int (zI x)), some (.int (zI y)), some (.int (zI w)), some (.int (zI (k : Int)))] [] h1 Q := by
        intro n
        induction n with
        | zero =>
          intro k hk hk2 h K
          obtain rfl : k = 40 := by omega
          rw [Nat.div_eq_of_lt hN40, Nat.zero_mul, Nat.zero_add] at K
          refine jx (pc' := 70) (L' := [_, _, _, _, _]) (st' := [.int (zI 40), _]) 2 rfl ?_
          refine jct (pc' := 91) rfl rfl rfl (by rw [zc_ge ⟨by omega, by omega⟩ ⟨by omega, by omega⟩]; exact decide_eq_true (by omega)) ?_
          refine jx (pc' := 92) (L' := [_, _, _, _, _]) (st' := [_]) 1 rfl ?_
          refine jgf (pc' := 95) K.ob rfl rfl rfl rfl rfl ?_
          refine jx (pc' := 98) (L' := [_, _, _, _, _]) (st' := [_, .int (zI 8), _]) 2 rfl ?_
          refine jW_f (pc' := 99) 8 w.toNat K (by rw [← hwf]) rfl rfl (by omega) (by omega)  rfl (by omega) fun h K => ?_
          rw [va_up_self, va_up_up] at K
          refine jx (pc' := 143) (L' := [_, _, _, _, _]) (st' := []) 1 rfl ?_
          exact t143 h _ _ eo.symm K.rj
        | succ n ih =>
          intro k hk hk2 h K
          have hlo := Nat.lt_of_lt_of_le (Nat.mod_lt N.2.2.2.2 (pp0 (fD w.toNat - 1))) (pl hk2)
          have e : sd (N.2.2.2.2 / 10 ^ k * 10 ^ k + N.2.2.2.2 % 10 ^ (fD w.toNat - 1)) k 0 = N.2.2.2.2 / 10 ^ (k + 1) * 10 ^ (k + 1) + N.2.2.2.2 % 10 ^ (fD w.toNat - 1) := by
            unfold sd
            rw [dgh _ hlo (by omega), show k + 1 - k = 1 by omega, Nat.pow_one, Nat.add_comm (N.2.2.2.2 / 10 ^ k * 10 ^ k), Nat.add_mul_mod_self_right, Nat.mod_eq_of_lt hlo, Nat.div_div_eq_div_mul, ← Nat.pow_succ, Nat.zero_mul, Nat.add_zero]
          refine jx (pc' := 70) (L' := [_, _, _, _, _]) (st' := [.int (zI 40), _]) 2 rfl ?_
          refine jcn (pc' := 73) 91 rfl rfl rfl rfl (by rw [zc_ge ⟨by omega, by omega⟩ ⟨by omega, by omega⟩]; exact decide_eq_false (by omega)) ?_
          refine jx (pc' := 74) (L' := [_, _, _, _, _]) (st' := [_]) 1 rfl ?_
          refine jgf (pc' := 77) K.ob rfl rfl rfl rfl rfl ?_
          refine jx (pc' := 84) (L' := [_, _, _, _, _]) (st' := [.int (zI 0), _, _]) 4 rfl ?_
          try simp (disch := omega) only [kz, kzl0, kzl1, kzb, kzs, zI_add, zI_sub, zI_neg, zI_mul, zL_i, zI_l, zL_add, zL_sub, zL_neg]
          refine jW_d (pc' := 85) 8 k 0 K (by first | rfl | (congr 1; omega)) rfl rfl (by omega) (by omega) (by omega)  rfl (by omega) fun h K => ?_
          rw [va_up_self, va_up_up, e] at K
          refine jx (pc' := 66) (L' := [_, _, _, _, _]) (st' := []) 2 rfl ?_
          try simp (disch := omega) only [kz, kzl0, kzl1, kzb, kzs, zI_add, zI_sub, zI_neg, zI_mul, zL_i, zI_l, zL_add, zL_sub, zL_neg]
          rw [show (k : Int) + 1 = ((k + 1 : Nat) : Int) by omega]
          exact ih (k + 1) (by omega) (by omega) h K
      refine jx (pc' := 59) (L' := [_, _, _, _, _]) (st' := [_]) 1 rfl ?_
      refine jcs (pc' := 62) 176 [_] [] rfl rfl rfl rfl rfl rfl rfl rfl ?_
      refine m_digitsOf hwf hf3 (jk ?_)
      refine jx (pc' := 66) (L' := [_, _, _, _, _]) (st' := []) 3 rfl ?_
      try simp (disch := omega) only [kz, kzl0, kzl1, kzb, kzs, zI_add, zI_sub, zI_neg, zI_mul, zL_i, zI_l, zL_add, zL_sub, zL_neg]
      rw [show (fD w.toNat : Int) - 1 = ((fD w.toNat - 1 : Nat) : Int) by omega]
      refine loop (40 - (fD w.toNat - 1)) (fD w.toNat - 1) (by omega) (Nat.le_refl _) h ?_
      have ed := Nat.div_add_mod N.2.2.2.2 (10 ^ (fD w.toNat - 1))
      rw [Nat.mul_comm] at ed
      rw [ed]
      exact K
  have t27 : ∀ bd : Bool, bd = decide (¬ cCv x y w) → ix_E 247 27 [some (.ref 98), some (.int (zI x)), some (.int (zI y)), some (.int (zI w)), none] [.int (bI bd), .ref 98] h Q := by
    intro bd hbd
    refine jcv (pc' := 30) 168 [_] [] K.ob rfl rfl rfl rfl rfl rfl rfl rfl ?_
    refine m_fails K fun h K => jk ?_
    cases bd
    · have hc : cCv x y w := Classical.not_not.mp (of_decide_eq_false hbd.symm)
      refine jit (pc' := 35) rfl rfl rfl (by rfl) ?_
      exact t35 hc h K
    · have hc := of_decide_eq_true hbd.symm
      refine jin (pc' := 33) 35 rfl rfl rfl rfl (by rfl) ?_
      refine jx (pc' := 34) (L' := [_, _, _, _, _]) (st' := [.int (zI 0)]) 1 rfl ?_
      refine jri rfl rfl ?_
      exact q0 hc _ ⟨R, si, hR, K.rj⟩
  have bad : ¬ cCv x y w → ix_E 247 22 [some (.ref 98), some (.int (zI x)), some (.int (zI y)), some (.int (zI w)), none] [.ref 98] h Q := by
    intro hn
    refine jx (pc' := 27) (L' := [_, _, _, _, _]) (st' := [.int (zI 1), _]) 2 rfl ?_
    exact t27 true (decide_eq_true hn).symm
  refine jx (pc' := 2) (L' := [_, _, _, _, _]) (st' := [_, _]) 2 rfl ?_
  refine jcs (pc' := 5) 166 [_] [_] rfl rfl rfl rfl rfl rfl rfl rfl ?_
  refine m_isTarget hx (jk ?_)
  by_cases h2 : 0 ≤ x ∧ x < 8
  · skip
    refine jin (pc' := 8) 22 rfl rfl rfl rfl (by rw [bz_eq, decide_eq_true h2]; rfl) ?_
    refine jx (pc' := 9) (L' := [_, _, _, _, _]) (st' := [_, _]) 1 rfl ?_
    refine jcs (pc' := 12) 181 [_] [_] rfl rfl rfl rfl rfl rfl rfl rfl ?_
    refine m_isSource hy (jk ?_)
    by_cases h3 : 0 ≤ y ∧ y ≤ 8
    · skip
      refine jin (pc' := 15) 22 rfl rfl rfl rfl (by rw [bz_eq, decide_eq_true h3]; rfl) ?_
      refine jx (pc' := 16) (L' := [_, _, _, _, _]) (st' := [_, _]) 1 rfl ?_
      refine jcs (pc' := 19) 167 [_] [_] rfl rfl rfl rfl rfl rfl rfl rfl ?_
      refine m_isFormat hw (jk ?_)
      by_cases h4 : 0 ≤ w ∧ w < 3
      · skip
        refine jit (pc' := 26) rfl rfl rfl (by rw [bz_ne, decide_eq_true h4]) ?_
        refine jx (pc' := 27) (L' := [_, _, _, _, _]) (st' := [.int (zI 0), _]) 1 rfl ?_
        exact t27 false (decide_eq_false (fun n => n ⟨h2, h3, h4⟩)).symm
      · skip
        refine jin (pc' := 22) 26 rfl rfl rfl rfl (by rw [bz_ne, decide_eq_false h4]) ?_
        exact bad (fun n => h4 n.2.2)
    · skip
      refine jit (pc' := 22) rfl rfl rfl (by rw [bz_eq, decide_eq_false h3]; rfl) ?_
      exact bad (fun n => h3 n.2.1)
  · skip
    refine jit (pc' := 22) rfl rfl rfl (by rw [bz_eq, decide_eq_false h2]; rfl) ?_
    exact bad (fun n => h2 n.1)
end REF
