/-! ===== the reference: kind, alike, and the small calls ===== -/
section REF
variable {h : ix_H} {Q : ix_O → ix_H → Prop} {S0 : Nat → AC} {R F : Nat → Dm} {V cd dr ra si tr : Nat} {mo ng : Bool} {sp sz wr : Nat} {il : Bool} {rs pt rl wo tx ou : Nat → Nat} {j x y z w a0 b0 : Int} {r f s m a c : Nat} {b t qt : Bool} {hi lo v : Int32}
theorem m_thrown (K : (RK S0 h F cd dr ra tr sz wr tx ou)) (q : Q (.inl (some (.int (zI (cd : Int))))) h) : ix_M 164 [.ref 98] h Q := by
  obtain ⟨R, si, hR, V, mo, ng, sp, il, rs, pt, rl, wo, K⟩ := K
  refine jx (pc' := 1) (L' := [_]) (st' := [_]) 1 rfl ?_
  refine jgf (pc' := 4) K.ob rfl rfl rfl rfl rfl ?_
  refine jri rfl rfl ?_
  exact q
theorem m_format (K : (RK S0 h F cd dr ra tr sz wr tx ou)) (hx : zr x) (q0 : ¬ (0 ≤ x ∧ x ≤ 8) → ∀ h', (RK S0 h' F (0) dr ra tr sz wr tx ou) → Q (.inl (some (.int (zI (-1))))) h') (q1 : (0 ≤ x ∧ x ≤ 8) → ∀ h', (RK S0 h' F (0) dr ra tr sz wr tx ou) → Q (.inl (some (.int (zI ((F x.toNat).1 : Nat))))) h') : ix_M 186 [.ref 98, .int (zI x)] h Q := by
  obtain ⟨R, si, hR, V, mo, ng, sp, il, rs, pt, rl, wo, K⟩ := K
  refine jx (pc' := 2) (L' := [_, _]) (st' := [.int (zI 0), _]) 2 rfl ?_
  refine jp_cd (pc' := 5) 0 K (by first | rfl | (congr 1; omega)) rfl rfl rfl rfl fun h K => ?_
  refine jx (pc' := 6) (L' := [_, _]) (st' := [_]) 1 rfl ?_
  refine jcs (pc' := 9) 181 [_] [] rfl rfl rfl rfl rfl rfl rfl rfl ?_
  refine m_isSource hx (jk ?_)
  by_cases h2 : 0 ≤ x ∧ x ≤ 8
  · skip
    refine jin (pc' := 12) 21 rfl rfl rfl rfl (by rw [bz_eq, decide_eq_true h2]; rfl) ?_
    refine jx (pc' := 13) (L' := [_, _]) (st' := [_]) 1 rfl ?_
    refine jgf (pc' := 16) K.ob rfl rfl rfl rfl rfl ?_
    refine jx (pc' := 17) (L' := [_, _]) (st' := [_, _]) 1 rfl ?_
    refine jR_f (pc' := 18) x.toNat K rfl rfl (by omega) (by omega)  rfl ?_
    rw [hR x.toNat (by omega)]
    refine jx (pc' := 22) (L' := [_, _]) (st' := [_]) 1 rfl ?_
    refine jri rfl rfl ?_
    exact q1 h2 _ ⟨R, _, hR, K.rj⟩
  · skip
    refine jit (pc' := 21) rfl rfl rfl (by rw [bz_eq, decide_eq_false h2]; rfl) ?_
    refine jx (pc' := 22) (L' := [_, _]) (st' := [.int (zI (-1))]) 1 rfl ?_
    refine jri rfl rfl ?_
    exact q0 h2 _ ⟨R, _, hR, K.rj⟩
theorem m_direct (K : (RK S0 h F cd dr ra tr sz wr tx ou)) (hx : zr x) (q0 : ¬ (0 ≤ x ∧ x ≤ 4) → ∀ h', (RK S0 h' F (0) dr ra tr sz wr tx ou) → Q (.inl (some (.int (bI false)))) h') (q1 : (0 ≤ x ∧ x ≤ 4) → ∀ h', (RK S0 h' F (0) (x.toNat) ra tr sz wr tx ou) → Q (.inl (some (.int (bI true)))) h') : ix_M 187 [.ref 98, .int (zI x)] h Q := by
  obtain ⟨R, si, hR, V, mo, ng, sp, il, rs, pt, rl, wo, K⟩ := K
  have hx1 := hx.1
  have hx2 := hx.2
  refine jx (pc' := 2) (L' := [_, _]) (st' := [.int (zI 0), _]) 2 rfl ?_
  refine jp_cd (pc' := 5) 0 K (by first | rfl | (congr 1; omega)) rfl rfl rfl rfl fun h K => ?_
  refine jx (pc' := 6) (L' := [_, _]) (st' := [_]) 1 rfl ?_
  have bad : ¬ (0 ≤ x ∧ x ≤ 4) → ix_E 187 14 [some (.ref 98), some (.int (zI x))] [] h Q := by
    intro hn
    refine jx (pc' := 15) (L' := [_, _]) (st' := [.int (zI 0)]) 1 rfl ?_
    exact jrb rfl rfl (q0 hn _ ⟨R, _, hR, K.rj⟩)
  by_cases h0 : x < 0
  · skip
    refine jit (pc' := 14) rfl rfl rfl (by rw [zz_lt ⟨by omega, by omega⟩]; exact decide_eq_true (by omega)) ?_
    exact bad (fun n => by omega)
  · skip
    refine jin (pc' := 9) 14 rfl rfl rfl rfl (by rw [zz_lt ⟨by omega, by omega⟩]; exact decide_eq_false (by omega)) ?_
    refine jx (pc' := 11) (L' := [_, _]) (st' := [.int (zI 4), _]) 2 rfl ?_
    by_cases h1 : x ≤ 4
    · skip
      refine jct (pc' := 16) rfl rfl rfl (by rw [zc_le ⟨by omega, by omega⟩ ⟨by omega, by omega⟩]; exact decide_eq_true (by omega)) ?_
      refine jx (pc' := 18) (L' := [_, _]) (st' := [_, _]) 2 rfl ?_
      refine jp_dr (pc' := 21) x.toNat K (by first | rfl | (congr 1; omega)) rfl rfl rfl rfl fun h K => ?_
      refine jx (pc' := 22) (L' := [_, _]) (st' := [.int (zI 1)]) 1 rfl ?_
      exact jrb rfl rfl (q1 ⟨by omega, h1⟩ _ ⟨R, _, hR, K.rj⟩)
    · skip
      refine jcn (pc' := 14) 16 rfl rfl rfl rfl (by rw [zc_le ⟨by omega, by omega⟩ ⟨by omega, by omega⟩]; exact decide_eq_false (by omega)) ?_
      exact bad (fun n => by omega)
theorem m_flags (K : (RK S0 h F cd dr ra tr sz wr tx ou)) (q : ∀ h', (RK S0 h' F (0) dr ra tr sz wr tx ou) → Q (.inl (some (.int (zI (ra : Int))))) h') : ix_M 188 [.ref 98] h Q := by
  obtain ⟨R, si, hR, V, mo, ng, sp, il, rs, pt, rl, wo, K⟩ := K
  refine jx (pc' := 2) (L' := [_]) (st' := [.int (zI 0), _]) 2 rfl ?_
  refine jp_cd (pc' := 5) 0 K (by first | rfl | (congr 1; omega)) rfl rfl rfl rfl fun h K => ?_
  refine jx (pc' := 6) (L' := [_]) (st' := [_]) 1 rfl ?_
  refine jgf (pc' := 9) K.ob rfl rfl rfl rfl rfl ?_
  refine jri rfl rfl ?_
  exact q _ ⟨R, _, hR, K.rj⟩
theorem m_lower (K : (RK S0 h F cd dr ra tr sz wr tx ou)) (q : ∀ h', (RK S0 h' F (0) dr (lwr ra v) tr sz wr tx ou) → Q (.inl (some (.int (zI ((ra &&& wd v : Nat) : Int))))) h') : ix_M 189 [.ref 98, .int v] h Q := by
  obtain ⟨R, si, hR, V, mo, ng, sp, il, rs, pt, rl, wo, K⟩ := K
  have e1 : zI (ra : Int) &&& v = zI ((ra &&& wd v : Nat) : Int) := by rw [← nz, and_w, nz]
  have e2 : zI (ra : Int) &&& (v ^^^ zI (-1)) = zI ((lwr ra v : Nat) : Int) := by rw [← nz]; exact (and_nw ra v).trans (nz _)
  refine jx (pc' := 2) (L' := [_, _, _]) (st' := [.int (zI 0), _]) 2 rfl ?_
  refine jp_cd (pc' := 5) 0 K (by first | rfl | (congr 1; omega)) rfl rfl rfl rfl fun h K => ?_
  refine jx (pc' := 6) (L' := [_, _, _]) (st' := [_]) 1 rfl ?_
  refine jgf (pc' := 9) K.ob rfl rfl rfl rfl rfl ?_
  refine jx (pc' := 14) (L' := [_, _, _]) (st' := [_, _]) 5 rfl ?_
  try simp (disch := omega) only [kz, kzl0, kzl1, kzb, kzs, zI_add, zI_sub, zI_neg, zI_mul, zL_i, zI_l, zL_add, zL_sub, zL_neg]
  refine jgf (pc' := 17) K.ob rfl rfl rfl rfl rfl ?_
  refine jx (pc' := 21) (L' := [_, _, _]) (st' := [_, _]) 4 rfl ?_
  try simp (disch := omega) only [kz, kzl0, kzl1, kzb, kzs, zI_add, zI_sub, zI_neg, zI_mul, zL_i, zI_l, zL_add, zL_sub, zL_neg]
  rw [e1]
  refine jp_ra (pc' := 24) ((lwr ra v)) K e2 rfl rfl rfl rfl fun h K => ?_
  refine jx (pc' := 25) (L' := [_, _, _]) (st' := [_]) 1 rfl ?_
  refine jri rfl rfl ?_
  exact q _ ⟨R, _, hR, K.rj⟩
theorem m_trap (K : (RK S0 h F cd dr ra tr sz wr tx ou)) (q : ∀ h', (RK S0 h' F (0) dr ra (wd v % 32) sz wr tx ou) → Q (.inl none) h') : ix_M 190 [.ref 98, .int v] h Q := by
  obtain ⟨R, si, hR, V, mo, ng, sp, il, rs, pt, rl, wo, K⟩ := K
  have e1 : v &&& zI 31 = zI ((wd v % 32 : Nat) : Int) := by
    have : v &&& nI (2 ^ 5 - 1) = _ := mskl _ _
    rw [show zI 31 = nI (2 ^ 5 - 1) from rfl, this, nz]
  refine jx (pc' := 2) (L' := [_, _]) (st' := [.int (zI 0), _]) 2 rfl ?_
  refine jp_cd (pc' := 5) 0 K (by first | rfl | (congr 1; omega)) rfl rfl rfl rfl fun h K => ?_
  refine jx (pc' := 10) (L' := [_, _]) (st' := [_, _]) 4 rfl ?_
  try simp (disch := omega) only [kz, kzl0, kzl1, kzb, kzs, zI_add, zI_sub, zI_neg, zI_mul, zL_i, zI_l, zL_add, zL_sub, zL_neg]
  refine jp_tr (pc' := 13) ((wd v % 32)) K e1 rfl rfl rfl rfl fun h K => ?_
  refine ix_qr _ rfl rfl rfl ?_
  exact q _ ⟨R, _, hR, K.rj⟩
theorem m_type (K : (RK S0 h F cd dr ra tr sz wr tx ou)) (hsz : sz ≤ 120) (hx : zr x) (q0 : ¬ (0 ≤ x ∧ x ≤ 127 ∧ sz < 120) → ∀ h', (RK S0 h' F (0) dr ra tr sz wr tx ou) → Q (.inl (some (.int (bI false)))) h') (q1 : (0 ≤ x ∧ x ≤ 127 ∧ sz < 120) → ∀ h', (RK S0 h' F (0) dr ra tr (sz + 1) wr (va_up tx sz x.toNat) ou) → Q (.inl (some (.int (bI true)))) h') : ix_M 258 [.ref 98, .int (zI x)] h Q := by
  obtain ⟨R, si, hR, V, mo, ng, sp, il, rs, pt, rl, wo, K⟩ := K
  have hx1 := hx.1
  have hx2 := hx.2
  refine jx (pc' := 2) (L' := [_, _]) (st' := [.int (zI 0), _]) 2 rfl ?_
  refine jp_cd (pc' := 5) 0 K (by first | rfl | (congr 1; omega)) rfl rfl rfl rfl fun h K => ?_
  refine jx (pc' := 6) (L' := [_, _]) (st' := [_]) 1 rfl ?_
  have bad : ¬ (0 ≤ x ∧ x ≤ 127 ∧ sz < 120) → ix_E 258 24 [some (.ref 98), some (.int (zI x))] [] h Q := by
    intro hn
    refine jx (pc' := 25) (L' := [_, _]) (st' := [.int (zI 0)]) 1 rfl ?_
    exact jrb rfl rfl (q0 hn _ ⟨R, _, hR, K.rj⟩)
  by_cases h0 : x < 0
  · skip
    refine jit (pc' := 24) rfl rfl rfl (by rw [zz_lt ⟨by omega, by omega⟩]; exact decide_eq_true (by omega)) ?_
    exact bad (fun n => by omega)
  · skip
    refine jin (pc' := 9) 24 rfl rfl rfl rfl (by rw [zz_lt ⟨by omega, by omega⟩]; exact decide_eq_false (by omega)) ?_
    refine jx (pc' := 12) (L' := [_, _]) (st' := [.int (zI 127), _]) 2 rfl ?_
    by_cases h1 : 127 < x
    · skip
      refine jct (pc' := 24) rfl rfl rfl (by rw [zc_gt ⟨by omega, by omega⟩ ⟨by omega, by omega⟩]; exact decide_eq_true (by omega)) ?_
      exact bad (fun n => by omega)
    · skip
      refine jcn (pc' := 15) 24 rfl rfl rfl rfl (by rw [zc_gt ⟨by omega, by omega⟩ ⟨by omega, by omega⟩]; exact decide_eq_false (by omega)) ?_
      refine jx (pc' := 16) (L' := [_, _]) (st' := [_]) 1 rfl ?_
      refine jgf (pc' := 19) K.ob rfl rfl rfl rfl rfl ?_
      refine jx (pc' := 21) (L' := [_, _]) (st' := [.int (zI 120), _]) 1 rfl ?_
      by_cases h2 : sz = 120
      · skip
        refine jcn (pc' := 24) 26 rfl rfl rfl rfl (by rw [zc_ne ⟨by omega, by omega⟩ ⟨by omega, by omega⟩]; exact decide_eq_false (by omega)) ?_
        exact bad (fun n => by omega)
      · skip
        refine jct (pc' := 26) rfl rfl rfl (by rw [zc_ne ⟨by omega, by omega⟩ ⟨by omega, by omega⟩]; exact decide_eq_true (by omega)) ?_
        refine jx (pc' := 27) (L' := [_, _]) (st' := [_]) 1 rfl ?_
        refine jgf (pc' := 30) K.ob rfl rfl rfl rfl rfl ?_
        refine jx (pc' := 31) (L' := [_, _]) (st' := [_, _]) 1 rfl ?_
        refine jgf (pc' := 34) K.ob rfl rfl rfl rfl rfl ?_
        refine jx (pc' := 35) (L' := [_, _]) (st' := [_, _, _]) 1 rfl ?_
        refine jW_x (pc' := 36) sz x.toNat K (by first | rfl | (congr 1; omega)) rfl rfl (by omega) (by omega)  rfl  fun h K => ?_
        refine jx (pc' := 38) (L' := [_, _]) (st' := [_, _]) 2 rfl ?_
        refine jgf (pc' := 41) K.ob rfl rfl rfl rfl rfl ?_
        refine jx (pc' := 43) (L' := [_, _]) (st' := [_, _]) 2 rfl ?_
        try simp (disch := omega) only [kz, kzl0, kzl1, kzb, kzs, zI_add, zI_sub, zI_neg, zI_mul, zL_i, zI_l, zL_add, zL_sub, zL_neg]
        refine jp_sz (pc' := 46) ((sz+1)) K (by first | rfl | (congr 1; omega)) rfl rfl rfl rfl fun h K => ?_
        refine jx (pc' := 47) (L' := [_, _]) (st' := [.int (zI 1)]) 1 rfl ?_
        exact jrb rfl rfl (q1 ⟨by omega, by omega, by omega⟩ _ ⟨R, _, hR, K.rj⟩)
theorem m_output (K : (RK S0 h F cd dr ra tr sz wr tx ou)) (hwr : wr ≤ 64) (hx : zr x) (q0 : ¬ (0 ≤ x ∧ x < wr) → ∀ h', (RK S0 h' F (0) dr ra tr sz wr tx ou) → Q (.inl (some (.int (zI (-1))))) h') (q1 : (0 ≤ x ∧ x < wr) → ∀ h', (RK S0 h' F (0) dr ra tr sz wr tx ou) → Q (.inl (some (.int (zI (ou x.toNat : Int))))) h') : ix_M 270 [.ref 98, .int (zI x)] h Q := by
  obtain ⟨R, si, hR, V, mo, ng, sp, il, rs, pt, rl, wo, K⟩ := K
  have hx1 := hx.1
  have hx2 := hx.2
  refine jx (pc' := 2) (L' := [_, _]) (st' := [.int (zI 0), _]) 2 rfl ?_
  refine jp_cd (pc' := 5) 0 K (by first | rfl | (congr 1; omega)) rfl rfl rfl rfl fun h K => ?_
  refine jx (pc' := 6) (L' := [_, _]) (st' := [_]) 1 rfl ?_
  have bad : ¬ (0 ≤ x ∧ x < wr) → ix_E 270 26 [some (.ref 98), some (.int (zI x))] [] h Q := by
    intro hn
    refine jx (pc' := 27) (L' := [_, _]) (st' := [.int (zI (-1))]) 1 rfl ?_
    refine jri rfl rfl ?_
    exact q0 hn _ ⟨R, _, hR, K.rj⟩
  by_cases h0 : x < 0
  · skip
    refine jit (pc' := 26) rfl rfl rfl (by rw [zz_lt ⟨by omega, by omega⟩]; exact decide_eq_true (by omega)) ?_
    exact bad (fun n => by omega)
  · skip
    refine jin (pc' := 9) 26 rfl rfl rfl rfl (by rw [zz_lt ⟨by omega, by omega⟩]; exact decide_eq_false (by omega)) ?_
    refine jx (pc' := 11) (L' := [_, _]) (st' := [_, _]) 2 rfl ?_
    refine jgf (pc' := 14) K.ob rfl rfl rfl rfl rfl ?_
    by_cases h1 : x < wr
    · skip
      refine jcn (pc' := 17) 26 rfl rfl rfl rfl (by rw [zc_ge ⟨by omega, by omega⟩ ⟨by omega, by omega⟩]; exact decide_eq_false (by omega)) ?_
      refine jx (pc' := 18) (L' := [_, _]) (st' := [_]) 1 rfl ?_
      refine jgf (pc' := 21) K.ob rfl rfl rfl rfl rfl ?_
      refine jx (pc' := 22) (L' := [_, _]) (st' := [_, _]) 1 rfl ?_
      refine jR_o (pc' := 23) x.toNat K rfl rfl (by omega) (by omega)  rfl ?_
      refine jx (pc' := 27) (L' := [_, _]) (st' := [_]) 1 rfl ?_
      refine jri rfl rfl ?_
      exact q1 ⟨by omega, h1⟩ _ ⟨R, _, hR, K.rj⟩
    · skip
      refine jct (pc' := 26) rfl rfl rfl (by rw [zc_ge ⟨by omega, by omega⟩ ⟨by omega, by omega⟩]; exact decide_eq_true (by omega)) ?_
      exact bad (fun n => by omega)
theorem m_kind (K : (RK S0 h F cd dr ra tr sz wr tx ou)) (hv : ∀ i, i < 9 → ValD (F i)) (hx : zr x) (q0 : ¬ (0 ≤ x ∧ x ≤ 8) → ∀ h', (RK S0 h' F (0) dr ra tr sz wr tx ou) → Q (.inl (some (.int (zI (-1))))) h') (q1 : (0 ≤ x ∧ x ≤ 8) → ∀ h', (RK S0 h' F (0) dr ra tr sz wr tx ou) → Q (.inl (some (.int (zI (kdR (F x.toNat) : Nat))))) h') : ix_M 256 [.ref 98, .int (zI x)] h Q := by
  obtain ⟨R, si, hR, V, mo, ng, sp, il, rs, pt, rl, wo, K⟩ := K
  refine jx (pc' := 2) (L' := [_, _, _]) (st' := [.int (zI 0), _]) 2 rfl ?_
  refine jp_cd (pc' := 5) 0 K (by first | rfl | (congr 1; omega)) rfl rfl rfl rfl fun h K => ?_
  refine jx (pc' := 6) (L' := [_, _, _]) (st' := [_]) 1 rfl ?_
  refine jcs (pc' := 9) 181 [_] [] rfl rfl rfl rfl rfl rfl rfl rfl ?_
  refine m_isSource hx (jk ?_)
  by_cases h2 : 0 ≤ x ∧ x ≤ 8
  · skip
    refine jit (pc' := 14) rfl rfl rfl (by rw [bz_ne, decide_eq_true h2]) ?_
    have q1 := q1 h2 _ ⟨R, _, hR, K.rj⟩
    have vx := hv x.toNat (by omega)
    have hxn : x = ((x.toNat : Nat) : Int) := by omega
    rw [← hR x.toNat (by omega)] at q1 vx
    generalize hxm : x.toNat = xm at *
    have hxm9 : xm < 9 := by omega
    have hs4 := swp_b vx.2.1
    have fx := vx.1
    have fb := f3b fx
    have bx := Val.b vx
    unfold kdR kdS at q1
    refine jx (pc' := 16) (L' := [_, _, _]) (st' := [_, _]) 2 rfl ?_
    refine jcv (pc' := 19) 194 [_] [] K.ob rfl rfl rfl rfl rfl rfl rfl rfl ?_
    refine m_isNaN K hxn (by omega) (jk ?_)
    by_cases e : 2 ≤ (R xm).2.1
    · rw [if_pos e] at q1
      refine jin (pc' := 22) 38 rfl rfl rfl rfl (by rw [bz_eq, decide_eq_true e]; rfl) ?_
      refine jx (pc' := 23) (L' := [_, _, _]) (st' := [_]) 1 rfl ?_
      refine jgf (pc' := 26) K.ob rfl rfl rfl rfl rfl ?_
      refine jx (pc' := 27) (L' := [_, _, _]) (st' := [_, _]) 1 rfl ?_
      refine jR_so (pc' := 28) xm K rfl rfl (by omega) (by omega)  rfl ?_
      refine jx (pc' := 29) (L' := [_, _, _]) (st' := [.int (zI 3), _]) 1 rfl ?_
      by_cases e2 : (R xm).2.1 = 2
      · have e3 := swp_3.mpr e2
        rw [if_pos e2] at q1
        refine jcn (pc' := 32) 36 rfl rfl rfl rfl (by rw [zc_ne ⟨by omega, by omega⟩ ⟨by omega, by omega⟩]; exact decide_eq_false (by omega)) ?_
        refine jx (pc' := 37) (L' := [_, _, _]) (st' := [.int (zI 0)]) 2 rfl ?_
        refine jri rfl rfl ?_
        exact q1
      · have e3 : ¬ swp (R xm).2.1 = 3 := fun n => e2 (swp_3.mp n)
        rw [if_neg e2] at q1
        refine jct (pc' := 36) rfl rfl rfl (by rw [zc_ne ⟨by omega, by omega⟩ ⟨by omega, by omega⟩]; exact decide_eq_true (by omega)) ?_
        refine jx (pc' := 37) (L' := [_, _, _]) (st' := [.int (zI 1)]) 1 rfl ?_
        refine jri rfl rfl ?_
        exact q1
    · rw [if_neg e] at q1
      refine jit (pc' := 38) rfl rfl rfl (by rw [bz_eq, decide_eq_false e]; rfl) ?_
      refine jx (pc' := 39) (L' := [_, _, _]) (st' := [_]) 1 rfl ?_
      refine jgf (pc' := 42) K.ob rfl rfl rfl rfl rfl ?_
      refine jx (pc' := 43) (L' := [_, _, _]) (st' := [_, _]) 1 rfl ?_
      refine jR_so (pc' := 44) xm K rfl rfl (by omega) (by omega)  rfl ?_
      refine jx (pc' := 45) (L' := [_, _, _]) (st' := [.int (zI 1), _]) 1 rfl ?_
      by_cases e2 : (R xm).2.1 = 1
      · have e3 := swp_1.mpr e2
        rw [if_pos e2] at q1
        refine jcn (pc' := 48) 64 rfl rfl rfl rfl (by rw [zc_ne ⟨by omega, by omega⟩ ⟨by omega, by omega⟩]; exact decide_eq_false (by omega)) ?_
        refine jx (pc' := 49) (L' := [_, _, _]) (st' := [_]) 1 rfl ?_
        refine jgf (pc' := 52) K.ob rfl rfl rfl rfl rfl ?_
        refine jx (pc' := 53) (L' := [_, _, _]) (st' := [_, _]) 1 rfl ?_
        refine jR_m (pc' := 54) xm K rfl rfl (by omega) (by omega)  rfl ?_
        cases hn : (R xm).2.2.1
        · rw [hn, if_neg (by decide)] at q1
          refine jit (pc' := 61) rfl rfl rfl (by rfl) ?_
          refine jx (pc' := 63) (L' := [_, _, _]) (st' := [.int (zI 9)]) 1 rfl ?_
          refine jri rfl rfl ?_
          exact q1
        · rw [hn, if_pos rfl] at q1
          refine jin (pc' := 57) 61 rfl rfl rfl rfl (by rfl) ?_
          refine jx (pc' := 63) (L' := [_, _, _]) (st' := [.int (zI 2)]) 2 rfl ?_
          refine jri rfl rfl ?_
          exact q1
      · have e3 : ¬ swp (R xm).2.1 = 1 := fun n => e2 (swp_1.mp n)
        rw [if_neg e2] at q1
        refine jct (pc' := 64) rfl rfl rfl (by rw [zc_ne ⟨by omega, by omega⟩ ⟨by omega, by omega⟩]; exact decide_eq_true (by omega)) ?_
        refine jx (pc' := 66) (L' := [_, _, _]) (st' := [_, _]) 2 rfl ?_
        refine jcv (pc' := 69) 197 [_] [] K.ob rfl rfl rfl rfl rfl rfl rfl rfl ?_
        refine m_isZero K hxn (by omega) (jk ?_)
        by_cases ez : (R xm).2.2.2.2 = 0
        · rw [if_pos ez] at q1
          refine jin (pc' := 72) 88 rfl rfl rfl rfl (by rw [bz_eq, decide_eq_true ⟨by omega, ez⟩]; rfl) ?_
          refine jx (pc' := 73) (L' := [_, _, _]) (st' := [_]) 1 rfl ?_
          refine jgf (pc' := 76) K.ob rfl rfl rfl rfl rfl ?_
          refine jx (pc' := 77) (L' := [_, _, _]) (st' := [_, _]) 1 rfl ?_
          refine jR_m (pc' := 78) xm K rfl rfl (by omega) (by omega)  rfl ?_
          cases hn : (R xm).2.2.1
          · rw [hn, if_neg (by decide)] at q1
            refine jit (pc' := 85) rfl rfl rfl (by rfl) ?_
            refine jx (pc' := 87) (L' := [_, _, _]) (st' := [.int (zI 6)]) 1 rfl ?_
            refine jri rfl rfl ?_
            exact q1
          · rw [hn, if_pos rfl] at q1
            refine jin (pc' := 81) 85 rfl rfl rfl rfl (by rfl) ?_
            refine jx (pc' := 87) (L' := [_, _, _]) (st' := [.int (zI 5)]) 2 rfl ?_
            refine jri rfl rfl ?_
            exact q1
        · rw [if_neg ez] at q1
          refine jit (pc' := 88) rfl rfl rfl (by rw [bz_eq, decide_eq_false (fun n => ez n.2)]; rfl) ?_
          refine jx (pc' := 90) (L' := [_, _, _]) (st' := [_, _]) 2 rfl ?_
          refine jcv (pc' := 93) 178 [_] [] K.ob rfl rfl rfl rfl rfl rfl rfl rfl ?_
          refine m_many K hxn (by omega) fun hd => jk ?_
          refine jx (pc' := 94) (L' := [_, _, _]) (st' := [_, _]) 1 rfl ?_
          refine jgf (pc' := 97) K.ob rfl rfl rfl rfl rfl ?_
          refine jx (pc' := 98) (L' := [_, _, _]) (st' := [_, _, _]) 1 rfl ?_
          refine jR_p (pc' := 99) xm K rfl rfl (by omega) (by omega)  rfl ?_
          refine jx (pc' := 104) (L' := [_, _, _]) (st' := [_, .int (zI 1), _]) 5 rfl ?_
          try simp (disch := omega) only [kz, kzl0, kzl1, kzb, kzs, zI_add, zI_sub, zI_neg, zI_mul, zL_i, zI_l, zL_add, zL_sub, zL_neg]
          refine jgf (pc' := 107) K.ob rfl rfl rfl rfl rfl ?_
          refine jx (pc' := 108) (L' := [_, _, _]) (st' := [_, _, .int (zI 1), _]) 1 rfl ?_
          refine jR_f (pc' := 109) xm K rfl rfl (by omega) (by omega)  rfl ?_
          refine jcs (pc' := 112) 210 [_] [.int (zI 1), _] rfl rfl rfl rfl rfl rfl rfl rfl ?_
          refine m_mostOf rfl fx (jk ?_)
          refine jx (pc' := 113) (L' := [_, _, _]) (st' := [_, _]) 1 rfl ?_
          try simp (disch := omega) only [kz, kzl0, kzl1, kzb, kzs, zI_add, zI_sub, zI_neg, zI_mul, zL_i, zI_l, zL_add, zL_sub, zL_neg]
          have t121 : ∀ ls : Bool, ls = decide ((R xm).2.2.2.1 + dgs (R xm).2.2.2.2 ≤ 1 - fE (R xm).1) → ix_E 256 121 [some (.ref 98), some (.int (zI x)), none] [.int (bI ls)] h Q := by
            intro ls hls
            refine jx (pc' := 123) (L' := [_, _, _]) (st' := [_]) 2 rfl ?_
            refine jgf (pc' := 126) K.ob rfl rfl rfl rfl rfl ?_
            refine jx (pc' := 127) (L' := [_, _, _]) (st' := [_, _]) 1 rfl ?_
            refine jR_m (pc' := 128) xm K rfl rfl (by omega) (by omega)  rfl ?_
            cases hn : (R xm).2.2.1
            · rw [hn, if_neg (by decide)] at q1
              refine jit (pc' := 143) rfl rfl rfl (by rfl) ?_
              refine jx (pc' := 144) (L' := [_, _, _]) (st' := [_]) 1 rfl ?_
              cases ls
              · rw [if_neg (of_decide_eq_false hls.symm)] at q1
                refine jit (pc' := 152) rfl rfl rfl (by rfl) ?_
                refine jx (pc' := 154) (L' := [_, _, _]) (st' := [.int (zI 8)]) 1 rfl ?_
                refine jri rfl rfl ?_
                exact q1
              · rw [if_pos (of_decide_eq_true hls.symm)] at q1
                refine jin (pc' := 147) 152 rfl rfl rfl rfl (by rfl) ?_
                refine jx (pc' := 154) (L' := [_, _, _]) (st' := [.int (zI 7)]) 2 rfl ?_
                refine jri rfl rfl ?_
                exact q1
            · rw [hn, if_pos rfl] at q1
              refine jin (pc' := 131) 143 rfl rfl rfl rfl (by rfl) ?_
              refine jx (pc' := 132) (L' := [_, _, _]) (st' := [_]) 1 rfl ?_
              cases ls
              · rw [if_neg (of_decide_eq_false hls.symm)] at q1
                refine jit (pc' := 139) rfl rfl rfl (by rfl) ?_
                refine jx (pc' := 154) (L' := [_, _, _]) (st' := [.int (zI 3)]) 2 rfl ?_
                refine jri rfl rfl ?_
                exact q1
              · rw [if_pos (of_decide_eq_true hls.symm)] at q1
                refine jin (pc' := 135) 139 rfl rfl rfl rfl (by rfl) ?_
                refine jx (pc' := 154) (L' := [_, _, _]) (st' := [.int (zI 4)]) 2 rfl ?_
                refine jri rfl rfl ?_
                exact q1
          by_cases el : (R xm).2.2.2.1 + dgs (R xm).2.2.2.2 ≤ 1 - fE (R xm).1
          · skip
            refine jcn (pc' := 116) 120 rfl rfl rfl rfl (by rw [zc_ge ⟨by omega, by omega⟩ ⟨by omega, by omega⟩]; exact decide_eq_false (by omega)) ?_
            refine jx (pc' := 121) (L' := [_, _, _]) (st' := [.int (zI 1)]) 2 rfl ?_
            exact t121 true (decide_eq_true el).symm
          · skip
            refine jct (pc' := 120) rfl rfl rfl (by rw [zc_ge ⟨by omega, by omega⟩ ⟨by omega, by omega⟩]; exact decide_eq_true (by omega)) ?_
            refine jx (pc' := 121) (L' := [_, _, _]) (st' := [.int (zI 0)]) 1 rfl ?_
            exact t121 false (decide_eq_false el).symm
  · skip
    refine jin (pc' := 12) 14 rfl rfl rfl rfl (by rw [bz_ne, decide_eq_false h2]) ?_
    refine jx (pc' := 13) (L' := [_, _, _]) (st' := [.int (zI (-1))]) 1 rfl ?_
    refine jri rfl rfl ?_
    exact q0 h2 _ ⟨R, _, hR, K.rj⟩
theorem m_alike (K : (RK S0 h F cd dr ra tr sz wr tx ou)) (hv : ∀ i, i < 9 → ValD (F i)) (hx : zr x) (hy : zr y) (q0 : ¬ cFm F x y → ∀ h', (RK S0 h' F (0) dr ra tr sz wr tx ou) → Q (.inl (some (.int (bI false)))) h') (q1 : cFm F x y → ∀ h', (RK S0 h' F (0) dr ra tr sz wr tx ou) → Q (.inl (some (.int (bI (alk (F x.toNat) (F y.toNat)))))) h') : ix_M 257 [.ref 98, .int (zI x), .int (zI y)] h Q := by
  obtain ⟨R, si, hR, V, mo, ng, sp, il, rs, pt, rl, wo, K⟩ := K
  refine jx (pc' := 2) (L' := [_, _, _]) (st' := [.int (zI 0), _]) 2 rfl ?_
  refine jp_cd (pc' := 5) 0 K (by first | rfl | (congr 1; omega)) rfl rfl rfl rfl fun h K => ?_
  refine jx (pc' := 6) (L' := [_, _, _]) (st' := [_]) 1 rfl ?_
  have bad : ¬ cFm F x y → ix_E 257 34 [some (.ref 98), some (.int (zI x)), some (.int (zI y))] [] h Q := by
    intro hn
    refine jx (pc' := 35) (L' := [_, _, _]) (st' := [.int (zI 0)]) 1 rfl ?_
    exact jrb rfl rfl (q0 hn _ ⟨R, _, hR, K.rj⟩)
  have t36 : cFm F x y → ix_E 257 36 [some (.ref 98), some (.int (zI x)), some (.int (zI y))] [] h Q := by
    intro hc
    have q1 := q1 hc _ ⟨R, _, hR, K.rj⟩
    obtain ⟨⟨x1, x2⟩, ⟨y1, y2⟩, hfm⟩ := hc
    have hxn : x = ((x.toNat : Nat) : Int) := by omega
    have hyn : y = ((y.toNat : Nat) : Int) := by omega
    have vx := hv x.toNat (by omega)
    have vy := hv y.toNat (by omega)
    rw [← hR x.toNat (by omega), ← hR y.toNat (by omega)] at q1
    rw [← hR x.toNat (by omega)] at vx
    rw [← hR y.toNat (by omega)] at vy
    generalize hxm : x.toNat = xm at *
    generalize hym : y.toNat = ym at *
    have hxm9 : xm < 9 := by omega
    have hym9 : ym < 9 := by omega
    have hs4 := swp_b vx.2.1
    have hs5 := swp_b vy.2.1
    have bx := Val.b vx
    have by' := Val.b vy
    have fin : ∀ v : Bool, v = alk (R xm) (R ym) → Q (.inl (some (.int (bI v)))) h := fun v hv => by rw [hv]; exact q1
    unfold alk at fin
    have t52 : (2 ≤ (R xm).2.1 ∨ 2 ≤ (R ym).2.1) → ix_E 257 52 [some (.ref 98), some (.int (zI x)), some (.int (zI y))] [] h Q := by
      intro hn
      rw [if_neg (by omega)] at fin
      refine jx (pc' := 54) (L' := [_, _, _]) (st' := [_, _]) 2 rfl ?_
      refine jcv (pc' := 57) 194 [_] [] K.ob rfl rfl rfl rfl rfl rfl rfl rfl ?_
      refine m_isNaN K hxn (by omega) (jk ?_)
      by_cases e : 2 ≤ (R xm).2.1
      · skip
        refine jin (pc' := 60) 72 rfl rfl rfl rfl (by rw [bz_eq, decide_eq_true e]; rfl) ?_
        refine jx (pc' := 62) (L' := [_, _, _]) (st' := [_, _]) 2 rfl ?_
        refine jcv (pc' := 65) 194 [_] [] K.ob rfl rfl rfl rfl rfl rfl rfl rfl ?_
        refine m_isNaN K hyn (by omega) (jk ?_)
        by_cases e2 : 2 ≤ (R ym).2.1
        · skip
          refine jin (pc' := 68) 72 rfl rfl rfl rfl (by rw [bz_eq, decide_eq_true e2]; rfl) ?_
          refine jx (pc' := 73) (L' := [_, _, _]) (st' := [.int (zI 1)]) 2 rfl ?_
          exact jrb rfl rfl (fin true (by rw [decide_eq_true e, decide_eq_true e2]; rfl))
        · skip
          refine jit (pc' := 72) rfl rfl rfl (by rw [bz_eq, decide_eq_false e2]; rfl) ?_
          refine jx (pc' := 73) (L' := [_, _, _]) (st' := [.int (zI 0)]) 1 rfl ?_
          exact jrb rfl rfl (fin false (by rw [decide_eq_false e2, Bool.and_false, decide_eq_false (p := (R xm).2.1 = 1) (by omega)]; rfl))
      · skip
        refine jit (pc' := 72) rfl rfl rfl (by rw [bz_eq, decide_eq_false e]; rfl) ?_
        refine jx (pc' := 73) (L' := [_, _, _]) (st' := [.int (zI 0)]) 1 rfl ?_
        exact jrb rfl rfl (fin false (by rw [decide_eq_false e, decide_eq_false (p := (R ym).2.1 = 1) (by omega)]; simp))
    have t74 : ¬ (2 ≤ (R xm).2.1 ∨ 2 ≤ (R ym).2.1) → ix_E 257 74 [some (.ref 98), some (.int (zI x)), some (.int (zI y))] [] h Q := by
      intro hn
      refine jx (pc' := 75) (L' := [_, _, _]) (st' := [_]) 1 rfl ?_
      refine jgf (pc' := 78) K.ob rfl rfl rfl rfl rfl ?_
      refine jx (pc' := 79) (L' := [_, _, _]) (st' := [_, _]) 1 rfl ?_
      refine jR_so (pc' := 80) xm K rfl rfl (by omega) (by omega)  rfl ?_
      refine jx (pc' := 81) (L' := [_, _, _]) (st' := [_, _]) 1 rfl ?_
      refine jgf (pc' := 84) K.ob rfl rfl rfl rfl rfl ?_
      refine jx (pc' := 85) (L' := [_, _, _]) (st' := [_, _, _]) 1 rfl ?_
      refine jR_so (pc' := 86) ym K rfl rfl (by omega) (by omega)  rfl ?_
      by_cases e : (R xm).2.1 = (R ym).2.1
      · have e1 := congrArg swp e
        refine jcn (pc' := 89) 118 rfl rfl rfl rfl (by rw [zc_ne ⟨by omega, by omega⟩ ⟨by omega, by omega⟩]; exact decide_eq_false (by omega)) ?_
        refine jx (pc' := 90) (L' := [_, _, _]) (st' := [_]) 1 rfl ?_
        refine jgf (pc' := 93) K.ob rfl rfl rfl rfl rfl ?_
        refine jx (pc' := 94) (L' := [_, _, _]) (st' := [_, _]) 1 rfl ?_
        refine jR_so (pc' := 95) xm K rfl rfl (by omega) (by omega)  rfl ?_
        refine jx (pc' := 96) (L' := [_, _, _]) (st' := [.int (zI 1), _]) 1 rfl ?_
        by_cases e2 : (R xm).2.1 = 1
        · have e3 := swp_1.mpr e2
          rw [if_neg (by omega)] at fin
          refine jct (pc' := 114) rfl rfl rfl (by rw [zc_eq ⟨by omega, by omega⟩ ⟨by omega, by omega⟩]; exact decide_eq_true (by omega)) ?_
          refine jx (pc' := 119) (L' := [_, _, _]) (st' := [.int (zI 1)]) 2 rfl ?_
          exact jrb rfl rfl (fin true (by rw [decide_eq_true e2, decide_eq_true (p := (R ym).2.1 = 1) (by omega)]; simp))
        · have e3 : ¬ swp (R xm).2.1 = 1 := fun n => e2 (swp_1.mp n)
          rw [if_pos ⟨by omega, by omega⟩] at fin
          refine jcn (pc' := 99) 114 rfl rfl rfl rfl (by rw [zc_eq ⟨by omega, by omega⟩ ⟨by omega, by omega⟩]; exact decide_eq_false (by omega)) ?_
          refine jx (pc' := 100) (L' := [_, _, _]) (st' := [_]) 1 rfl ?_
          refine jgf (pc' := 103) K.ob rfl rfl rfl rfl rfl ?_
          refine jx (pc' := 104) (L' := [_, _, _]) (st' := [_, _]) 1 rfl ?_
          refine jR_p (pc' := 105) xm K rfl rfl (by omega) (by omega)  rfl ?_
          refine jx (pc' := 106) (L' := [_, _, _]) (st' := [_, _]) 1 rfl ?_
          refine jgf (pc' := 109) K.ob rfl rfl rfl rfl rfl ?_
          refine jx (pc' := 110) (L' := [_, _, _]) (st' := [_, _, _]) 1 rfl ?_
          refine jR_p (pc' := 111) ym K rfl rfl (by omega) (by omega)  rfl ?_
          by_cases e4 : (R xm).2.2.2.1 = (R ym).2.2.2.1
          · skip
            refine jcn (pc' := 114) 118 rfl rfl rfl rfl (by rw [zc_ne ⟨by omega, by omega⟩ ⟨by omega, by omega⟩]; exact decide_eq_false (by omega)) ?_
            refine jx (pc' := 119) (L' := [_, _, _]) (st' := [.int (zI 1)]) 2 rfl ?_
            exact jrb rfl rfl (fin true (decide_eq_true e4).symm)
          · skip
            refine jct (pc' := 118) rfl rfl rfl (by rw [zc_ne ⟨by omega, by omega⟩ ⟨by omega, by omega⟩]; exact decide_eq_true (by omega)) ?_
            refine jx (pc' := 119) (L' := [_, _, _]) (st' := [.int (zI 0)]) 1 rfl ?_
            exact jrb rfl rfl (fin false (decide_eq_false e4).symm)
      · have e1 : ¬ swp (R xm).2.1 = swp (R ym).2.1 := fun n => e (swp_i.mp n)
        rw [if_neg (by omega)] at fin
        refine jct (pc' := 118) rfl rfl rfl (by rw [zc_ne ⟨by omega, by omega⟩ ⟨by omega, by omega⟩]; exact decide_eq_true (by omega)) ?_
        refine jx (pc' := 119) (L' := [_, _, _]) (st' := [.int (zI 0)]) 1 rfl ?_
        refine jrb rfl rfl (fin false ?_)
        rw [decide_eq_false (p := 2 ≤ (R xm).2.1) (by omega), Bool.false_and, Bool.false_or]
        by_cases e2 : (R xm).2.1 = 1
        · rw [decide_eq_false (p := (R ym).2.1 = 1) (by omega), Bool.and_false]
        · rw [decide_eq_false e2, Bool.false_and]
    refine jx (pc' := 38) (L' := [_, _, _]) (st' := [_, _]) 2 rfl ?_
    refine jcv (pc' := 41) 194 [_] [] K.ob rfl rfl rfl rfl rfl rfl rfl rfl ?_
    refine m_isNaN K hxn (by omega) (jk ?_)
    by_cases e : 2 ≤ (R xm).2.1
    · skip
      refine jit (pc' := 52) rfl rfl rfl (by rw [bz_ne, decide_eq_true e]) ?_
      exact t52 (Or.inl e)
    · skip
      refine jin (pc' := 44) 52 rfl rfl rfl rfl (by rw [bz_ne, decide_eq_false e]) ?_
      refine jx (pc' := 46) (L' := [_, _, _]) (st' := [_, _]) 2 rfl ?_
      refine jcv (pc' := 49) 194 [_] [] K.ob rfl rfl rfl rfl rfl rfl rfl rfl ?_
      refine m_isNaN K hyn (by omega) (jk ?_)
      by_cases e2 : 2 ≤ (R ym).2.1
      · skip
        refine jin (pc' := 52) 74 rfl rfl rfl rfl (by rw [bz_eq, decide_eq_true e2]; rfl) ?_
        exact t52 (Or.inr e2)
      · skip
        refine jit (pc' := 74) rfl rfl rfl (by rw [bz_eq, decide_eq_false e2]; rfl) ?_
        exact t74 (fun n => n.elim e e2)
  refine jcs (pc' := 9) 181 [_] [] rfl rfl rfl rfl rfl rfl rfl rfl ?_
  refine m_isSource hx (jk ?_)
  by_cases h3 : 0 ≤ x ∧ x ≤ 8
  · skip
    refine jin (pc' := 12) 34 rfl rfl rfl rfl (by rw [bz_eq, decide_eq_true h3]; rfl) ?_
    refine jx (pc' := 13) (L' := [_, _, _]) (st' := [_]) 1 rfl ?_
    refine jcs (pc' := 16) 181 [_] [] rfl rfl rfl rfl rfl rfl rfl rfl ?_
    refine m_isSource hy (jk ?_)
    by_cases h4 : 0 ≤ y ∧ y ≤ 8
    · skip
      refine jin (pc' := 19) 34 rfl rfl rfl rfl (by rw [bz_eq, decide_eq_true h4]; rfl) ?_
      refine jx (pc' := 20) (L' := [_, _, _]) (st' := [_]) 1 rfl ?_
      refine jgf (pc' := 23) K.ob rfl rfl rfl rfl rfl ?_
      refine jx (pc' := 24) (L' := [_, _, _]) (st' := [_, _]) 1 rfl ?_
      refine jR_f (pc' := 25) x.toNat K rfl rfl (by omega) (by omega)  rfl ?_
      refine jx (pc' := 26) (L' := [_, _, _]) (st' := [_, _]) 1 rfl ?_
      refine jgf (pc' := 29) K.ob rfl rfl rfl rfl rfl ?_
      refine jx (pc' := 30) (L' := [_, _, _]) (st' := [_, _, _]) 1 rfl ?_
      refine jR_f (pc' := 31) y.toNat K rfl rfl (by omega) (by omega)  rfl ?_
      rw [hR x.toNat (by omega), hR y.toNat (by omega)]
      have f1 := (hv x.toNat (by omega)).1
      have f2 := (hv y.toNat (by omega)).1
      by_cases h5 : (F x.toNat).1 = (F y.toNat).1
      · skip
        refine jct (pc' := 36) rfl rfl rfl (by rw [zc_eq ⟨by omega, by omega⟩ ⟨by omega, by omega⟩]; exact decide_eq_true (by omega)) ?_
        exact t36 ⟨h3, h4, h5⟩
      · skip
        refine jcn (pc' := 34) 36 rfl rfl rfl rfl (by rw [zc_eq ⟨by omega, by omega⟩ ⟨by omega, by omega⟩]; exact decide_eq_false (by omega)) ?_
        exact bad (fun n => h5 n.2.2)
    · skip
      refine jit (pc' := 34) rfl rfl rfl (by rw [bz_eq, decide_eq_false h4]; rfl) ?_
      exact bad (fun n => h4 n.2.1)
  · skip
    refine jit (pc' := 34) rfl rfl rfl (by rw [bz_eq, decide_eq_false h3]; rfl) ?_
    exact bad (fun n => h3 n.1)
end REF
