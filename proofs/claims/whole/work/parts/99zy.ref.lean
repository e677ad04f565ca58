/-! ===== the reference: readNumber ===== -/
noncomputable def nmG (t : Nat → Nat) (len k : Nat) : Option (Int × Nat) := match nmR t len k with
  | none => none
  | some x => if x.2.1 = len then some (x.1, x.2.2) else none
theorem nmG_0 {t : Nat → Nat} {len k : Nat} (h : nmR t len k = none) : nmG t len k = none := by unfold nmG; rw [h]
theorem nmG_1 {t : Nat → Nat} {len k : Nat} {x : Int × Nat × Nat} (h : nmR t len k = some x) : nmG t len k = if x.2.1 = len then some (x.1, x.2.2) else none := by unfold nmG; rw [h]
section REF
variable {h : ix_H} {Q : ix_O → ix_H → Prop} {S0 : Nat → AC} {R F : Nat → Dm} {V cd dr ra si tr : Nat} {mo ng : Bool} {sp sz wr : Nat} {il : Bool} {rs pt rl wo tx ou : Nat → Nat} {j x y z w a0 b0 k0 : Int} {r f s m a c k : Nat} {b t : Bool}
theorem m_readNumber {f0 : Int} (K : (RI S0 h R V cd dr ra si tr mo ng sp sz wr il rs pt rl wo tx ou)) (hk0 : k0 = (k : Int)) (hk : k ≤ sz) (hsz : sz ≤ 120) (ht : ∀ j, j < sz → tx j < 128) (hf0 : f0 = (f : Int)) (hf : f < 3) (hdr : dr < 5) (q0 : nmG tx sz k = none → ∀ h', (RJ S0 h' R cd dr ra si tr sz wr tx ou) → Q (.inl (some (.int (bI false)))) h') (q1 : ∀ u, nmG tx sz k = some u → dgs u.2 ≤ 120 → ∀ h', (RJ S0 h' (va_up R 8 (rr f dr (atc tx sz 0 45) (atc tx sz 0 45) false (clE u.1) (pV (clE u.1) u.2)).1) cd dr ra (si ||| (rr f dr (atc tx sz 0 45) (atc tx sz 0 45) false (clE u.1) (pV (clE u.1) u.2)).2) tr sz wr tx ou) → Q (.inl (some (.int (bI true)))) h') : ix_M 264 [.ref 98, .int (zI k0), .int (zI f0)] h Q := by
  subst hk0
  have fb := f3b hf
  obtain ⟨d1, d2, d3', d4⟩ := de_s tx sz k
  have d2 := d2 hk
  have eA : nmA tx sz k = if atc tx sz (de tx sz k) 46 then (de tx sz (de tx sz k + 1), vd (vd 0 tx k (de tx sz k - k)) tx (de tx sz k + 1) (de tx sz (de tx sz k + 1) - (de tx sz k + 1)), de tx sz (de tx sz k + 1) - (de tx sz k + 1)) else (de tx sz k, vd 0 tx k (de tx sz k - k), 0) := rfl
  have eR : nmR tx sz k = if de tx sz k - k + (nmA tx sz k).2.2 = 0 then none else if atc tx sz (nmA tx sz k).1 69 then (if sgp tx sz ((nmA tx sz k).1 + 1) < de tx sz (sgp tx sz ((nmA tx sz k).1 + 1)) then some (xpE tx sz ((nmA tx sz k).1 + 1) - (nmA tx sz k).2.2, de tx sz (sgp tx sz ((nmA tx sz k).1 + 1)), (nmA tx sz k).2.1) else none) else some (0 - ((nmA tx sz k).2.2 : Int), (nmA tx sz k).1, (nmA tx sz k).2.1) := rfl
  generalize hp1 : de tx sz k = p1 at *
  -- what is known of the number's places
  have hE : p1 ≤ (nmA tx sz k).1 ∧ (nmA tx sz k).1 ≤ sz ∧ ((nmA tx sz k).1 = p1 ∧ (nmA tx sz k).2.2 = 0 ∧ (nmA tx sz k).2.1 = vd 0 tx k (p1 - k) ∨ atc tx sz p1 46 = true ∧ p1 + 1 ≤ (nmA tx sz k).1 ∧ (nmA tx sz k).2.2 = (nmA tx sz k).1 - (p1 + 1) ∧ (nmA tx sz k).2.1 = vd 0 tx k (p1 - k) * 10 ^ ((nmA tx sz k).1 - (p1 + 1)) + vd 0 tx (p1 + 1) ((nmA tx sz k).1 - (p1 + 1)) ∧ ∀ j, p1 + 1 ≤ j → j < (nmA tx sz k).1 → 48 ≤ tx j ∧ tx j ≤ 57) := by
    rw [eA]
    by_cases h0 : atc tx sz p1 46 = true
    · have hlt := atc_lt h0
      obtain ⟨c1, c2, c3, c4⟩ := de_s tx sz (p1 + 1)
      have c2 := c2 (by omega)
      rw [if_pos h0]
      refine ⟨by dsimp only; omega, c2, Or.inr ⟨h0, c1, rfl, ?_, c3⟩⟩
      exact vd_D _ _ _ _
    · rw [if_neg h0]
      exact ⟨Nat.le_refl _, d2, Or.inl ⟨rfl, rfl, rfl⟩⟩
  generalize hEE : (nmA tx sz k).1 = E at *
  generalize hBB : (nmA tx sz k).2.2 = B at *
  generalize hWW : (nmA tx sz k).2.1 = W at *
  clear eA
  have hW120 : dgs W ≤ 120 := by
    rcases hE.2.2 with ⟨e1, e2, e3⟩ | ⟨e0, e1, e2, e3, e4⟩
    · rw [e3]
      refine Nat.le_trans (dgs_le (vd_lt fun j h1 h2 => d3' j h1 (by omega))) (by omega)
    · rw [e3]
      have h1 : vd 0 tx k (p1 - k) < 10 ^ (p1 - k) := vd_lt fun j h1 h2 => d3' j h1 (by omega)
      have h2 : vd 0 tx (p1 + 1) (E - (p1 + 1)) < 10 ^ (E - (p1 + 1)) := vd_lt fun j h1 h2 => e4 j h1 (by omega)
      have h3 : (vd 0 tx k (p1 - k) + 1) * 10 ^ (E - (p1 + 1)) ≤ 10 ^ (p1 - k) * 10 ^ (E - (p1 + 1)) := Nat.mul_le_mul_right _ h1
      rw [Nat.add_mul, Nat.one_mul, ← Nat.pow_add] at h3
      exact Nat.le_trans (dgs_le (show _ < 10 ^ (p1 - k + (E - (p1 + 1))) by omega)) (by omega)
  generalize hng : atc tx sz 0 45 = ng' at *
  -- round
  have t358 : ∀ (h1 : ix_H) (q' : Int) (dg bh at_ : Int) (pn : Bool) (l8 : Int) (l12 l13 : Int), nmG tx sz k = some (q', W) → (RI S0 h1 R (W * 10 ^ (12500 + clE q').toNat) cd dr ra si tr (false) (ng') sp sz wr il rs pt rl wo tx ou) → ix_E 264 358 [some (.ref 98), some (.int (zI (k : Int))), some (.int (zI f0)), some (.int (zI dg)), some (.int (zI bh)), some (.int (zI at_)), some (.int (bI pn)), some (.int (zI (E : Int))), some (.long (zL l8)), none, some (.long (zL (clE q'))), none, some (.int (zI l12)), some (.int (zI l13))] [] h1 Q := by
    intro h q' dg bh at_ pn l8 l12 l13 hG K
    have cb := cl_b q'
    refine jx (pc' := 364) (L' := [_, _, _, _, _, _, _, _, _, _, _, _, _, _]) (st' := [_, _, _, _]) 5 rfl ?_
    try simp (disch := omega) only [kz, kzl0, kzl1, kzb, kzs, zI_add, zI_sub, zI_neg, zI_mul, zL_i, zI_l, zL_add, zL_sub, zL_neg]
    refine jgf (pc' := 367) K.ob rfl rfl rfl rfl rfl ?_
    refine jcv (pc' := 370) 208 [_, _, _] [] K.ob rfl rfl rfl rfl rfl rfl rfl rfl ?_
    refine m_roundR (W := pV (clE q') W) K rfl hf0 hf hdr ⟨by omega, by omega⟩ (fun _ => rfl) fun h K => jk ?_
    refine jx (pc' := 371) (L' := [_, _, _, _, _, _, _, _, _, _, _, _, _, _]) (st' := [.int (zI 1)]) 1 rfl ?_
    exact jrb rfl rfl (q1 _ hG hW120 _ K)
  -- digits of a run go into the row
  have run : ∀ (q' : Int) (dg bh at_ : Int) (pn : Bool) (l8 : Int) (a : Nat), k ≤ a → ∀ n n0 W0 : Nat, (∀ j, a ≤ j → j < a + n → j < sz ∧ 48 ≤ tx j ∧ tx j ≤ 57) → W0 < 10 ^ n0 → n0 + n ≤ 200 → (∀ h1, (RI S0 h1 R ((W0 + vd 0 tx a n * 10 ^ n0) * 10 ^ (12500 + clE q').toNat) cd dr ra si tr (false) (ng') sp sz wr il rs pt rl wo tx ou) → ix_E 264 304 [some (.ref 98), some (.int (zI (k : Int))), some (.int (zI f0)), some (.int (zI dg)), some (.int (zI bh)), some (.int (zI at_)), some (.int (bI pn)), some (.int (zI (E : Int))), some (.long (zL l8)), none, some (.long (zL (clE q'))), none, some (.int (zI ((n0 + n : Nat) : Int))), some (.int (zI ((a : Int) - 1)))] [] h1 Q) → ∀ h1, (RI S0 h1 R (W0 * 10 ^ (12500 + clE q').toNat) cd dr ra si tr (false) (ng') sp sz wr il rs pt rl wo tx ou) → ix_E 264 304 [some (.ref 98), some (.int (zI (k : Int))), some (.int (zI f0)), some (.int (zI dg)), some (.int (zI bh)), some (.int (zI at_)), some (.int (bI pn)), some (.int (zI (E : Int))), some (.long (zL l8)), none, some (.long (zL (clE q'))), none, some (.int (zI (n0 : Int))), some (.int (zI ((a : Int) + n - 1)))] [] h1 Q := by
    intro q' dg bh at_ pn l8 a ha n
    have cb := cl_b q'
    induction n with
    | zero =>
      intro n0 W0 hd hW hn fin h K
      have := fin h (by rw [vd_z, Nat.zero_mul, Nat.add_zero]; exact K)
      rw [Nat.add_zero] at this
      rw [show (a : Int) + ((0 : Nat) : Int) - 1 = (a : Int) - 1 by omega]
      exact this
    | succ n ih =>
      intro n0 W0 hd hW hn fin h K
      have hda := hd (a + n) (by omega) (by omega)
      have hh := hC_e (t := tx) (len := sz) (k := a + n) hda
      refine jx (pc' := 307) (L' := [_, _, _, _, _, _, _, _, _, _, _, _, _, _]) (st' := [_, _]) 2 rfl ?_
      refine jcn (pc' := 310) 358 rfl rfl rfl rfl (by rw [zc_lt ⟨by omega, by omega⟩ ⟨by omega, by omega⟩]; exact decide_eq_false (by omega)) ?_
      refine jx (pc' := 313) (L' := [_, _, _, _, _, _, _, _, _, _, _, _, _, _]) (st' := [_, _]) 2 rfl ?_
      refine jcv (pc' := 316) 260 [_] [] K.ob rfl rfl rfl rfl rfl rfl rfl rfl ?_
      refine m_here (k := a + n) K (by omega) (by omega) hsz ht (jk ?_)
      rw [hh]
      refine jcs (pc' := 319) 263 [_] [] rfl rfl rfl rfl rfl rfl rfl rfl ?_
      refine m_isDigit ⟨by omega, by omega⟩ (jk ?_)
      rw [decide_eq_true (by omega)]
      refine jit (pc' := 325) rfl rfl rfl (by rfl) ?_
      refine jx (pc' := 326) (L' := [_, _, _, _, _, _, _, _, _, _, _, _, _, _]) (st' := [_]) 1 rfl ?_
      refine jgf (pc' := 329) K.ob rfl rfl rfl rfl rfl ?_
      refine jx (pc' := 342) (L' := [_, _, _, _, _, _, _, _, _, _, _, _, _, _]) (st' := [_, _, _, _]) 8 rfl ?_
      try simp (disch := omega) only [kz, kzl0, kzl1, kzb, kzs, zI_add, zI_sub, zI_neg, zI_mul, zL_i, zI_l, zL_add, zL_sub, zL_neg]
      refine jcv (pc' := 345) 260 [_] [_, _] K.ob rfl rfl rfl rfl rfl rfl rfl rfl ?_
      refine m_here (k := a + n) K (by omega) (by omega) hsz ht (jk ?_)
      rw [hh]
      refine jx (pc' := 348) (L' := [_, _, _, _, _, _, _, _, _, _, _, _, _, _]) (st' := [_, _, _]) 2 rfl ?_
      try simp (disch := omega) only [kz, kzl0, kzl1, kzb, kzs, zI_add, zI_sub, zI_neg, zI_mul, zL_i, zI_l, zL_add, zL_sub, zL_neg]
      refine jW_r (pc' := 349) (((12500+clE q').toNat+n0)) ((tx (a+n)-48)) K (by first | rfl | (congr 1; omega)) rfl rfl (by omega) (by omega)  rfl (by omega) fun h K => ?_
      refine jx (pc' := 304) (L' := [_, _, _, _, _, _, _, _, _, _, _, _, _, _]) (st' := []) 3 rfl ?_
      try simp (disch := omega) only [kz, kzl0, kzl1, kzb, kzs, zI_add, zI_sub, zI_neg, zI_mul, zL_i, zI_l, zL_add, zL_sub, zL_neg]
      have hlt : W0 * 10 ^ (12500 + clE q').toNat < 10 ^ ((12500 + clE q').toNat + n0) := by
        rw [Nat.pow_add, Nat.mul_comm]
        exact Nat.mul_lt_mul_of_pos_left hW (pp0 _)
      have e3 : sd (W0 * 10 ^ (12500 + clE q').toNat) ((12500 + clE q').toNat + n0) (tx (a + n) - 48) = (W0 + (tx (a + n) - 48) * 10 ^ n0) * 10 ^ (12500 + clE q').toNat := by
        unfold sd
        rw [Nat.div_eq_of_lt (Nat.lt_of_lt_of_le hlt (pl (by omega))), Nat.mod_eq_of_lt hlt, Nat.zero_mul, Nat.zero_add, Nat.add_mul, Nat.mul_assoc, ← Nat.pow_add, Nat.add_comm n0, Nat.add_comm]
      rw [e3] at K
      rw [show (n0 : Int) + 1 = ((n0 + 1 : Nat) : Int) by omega, show (a : Int) + ((n + 1 : Nat) : Int) - 1 + -1 = (a : Int) + n - 1 by omega]
      refine ih (n0 + 1) _ (fun j h1 h2 => hd j h1 (by omega)) ?_ (by omega) (fun h K => ?_) h K
      · have h5 : (tx (a + n) - 48) * 10 ^ n0 ≤ 9 * 10 ^ n0 := Nat.mul_le_mul_right _ (by omega)
        rw [Nat.pow_succ]
        omega
      · have e4 : W0 + (tx (a + n) - 48) * 10 ^ n0 + vd 0 tx a n * 10 ^ (n0 + 1) = W0 + vd 0 tx a (n + 1) * 10 ^ n0 := by
          rw [vd_s, Nat.add_mul, Nat.pow_succ, Nat.mul_assoc (vd 0 tx a n), Nat.mul_comm 10]
          omega
        rw [e4] at K
        rw [show n0 + 1 + n = n0 + (n + 1) by omega]
        exact fin h K
  -- all digits go into the row
  have t295 : ∀ (h1 : ix_H) (q' : Int) (dg bh at_ : Int) (pn : Bool) (l8 : Int), nmG tx sz k = some (q', W) → (RI S0 h1 R (0) cd dr ra si tr (false) (ng') sp sz wr il rs pt rl wo tx ou) → ix_E 264 295 [some (.ref 98), some (.int (zI (k : Int))), some (.int (zI f0)), some (.int (zI dg)), some (.int (zI bh)), some (.int (zI at_)), some (.int (bI pn)), some (.int (zI (E : Int))), some (.long (zL l8)), none, some (.long (zL (clE q'))), none, none, none] [] h1 Q := by
    intro h q' dg bh at_ pn l8 hG K
    have fin : ∀ (h1 : ix_H) (n : Nat) (W' : Nat), W' = W → (RI S0 h1 R (W' * 10 ^ (12500 + clE q').toNat) cd dr ra si tr (false) (ng') sp sz wr il rs pt rl wo tx ou) → ix_E 264 304 [some (.ref 98), some (.int (zI (k : Int))), some (.int (zI f0)), some (.int (zI dg)), some (.int (zI bh)), some (.int (zI at_)), some (.int (bI pn)), some (.int (zI (E : Int))), some (.long (zL l8)), none, some (.long (zL (clE q'))), none, some (.int (zI (n : Int))), some (.int (zI ((k : Int) - 1)))] [] h1 Q := by
      intro h n W' hW K
      subst hW
      refine jx (pc' := 307) (L' := [_, _, _, _, _, _, _, _, _, _, _, _, _, _]) (st' := [_, _]) 2 rfl ?_
      refine jct (pc' := 358) rfl rfl rfl (by rw [zc_lt ⟨by omega, by omega⟩ ⟨by omega, by omega⟩]; exact decide_eq_true (by omega)) ?_
      exact t358 h q' dg bh at_ pn l8 _ _ hG K
    rcases hE.2.2 with ⟨e1, e2, e3⟩ | ⟨e0, e1, e2, e3, e4⟩
    · have := run q' dg bh at_ pn l8 k (Nat.le_refl _) (p1 - k) 0 0 (fun j h1 h2 => ⟨by omega, d3' j h1 (by omega)⟩) (by decide) (by omega) (fun h K => fin h _ _ (by rw [Nat.pow_zero, Nat.mul_one, Nat.zero_add, e3]) K) h (by rw [Nat.zero_mul]; exact K)
      refine jx (pc' := 304) (L' := [_, _, _, _, _, _, _, _, _, _, _, _, _, _]) (st' := []) 6 rfl ?_
      try simp (disch := omega) only [kz, kzl0, kzl1, kzb, kzs, zI_add, zI_sub, zI_neg, zI_mul, zL_i, zI_l, zL_add, zL_sub, zL_neg]
      rw [show (k : Int) + ((p1 - k : Nat) : Int) - 1 = (E : Int) - 1 by omega] at this
      exact this
    · have hlt := atc_lt e0
      have h46 := (hC_c (t := tx) (len := sz) (k := p1) (c := 46) (by decide)).mpr e0
      have r2 := run q' dg bh at_ pn l8 k (Nat.le_refl _) (p1 - k) B (vd 0 tx (p1 + 1) B) (fun j h1 h2 => ⟨by omega, d3' j h1 (by omega)⟩) (vd_lt fun j h1 h2 => e4 j h1 (by omega)) (by omega) (fun h K => fin h _ _ (by rw [e3, ← e2]; omega) K)
      have r1 := run q' dg bh at_ pn l8 (p1 + 1) (by omega) B 0 0 (fun j h1 h2 => ⟨by omega, e4 j h1 (by omega)⟩) (by decide) (by omega) (fun h K => by
        rw [Nat.pow_zero, Nat.mul_one, Nat.zero_add] at K
        refine jx (pc' := 307) (L' := [_, _, _, _, _, _, _, _, _, _, _, _, _, _]) (st' := [_, _]) 2 rfl ?_
        refine jcn (pc' := 310) 358 rfl rfl rfl rfl (by rw [zc_lt ⟨by omega, by omega⟩ ⟨by omega, by omega⟩]; exact decide_eq_false (by omega)) ?_
        refine jx (pc' := 313) (L' := [_, _, _, _, _, _, _, _, _, _, _, _, _, _]) (st' := [_, _]) 2 rfl ?_
        refine jcv (pc' := 316) 260 [_] [] K.ob rfl rfl rfl rfl rfl rfl rfl rfl ?_
        refine m_here (k := p1) K (by omega) (by omega) hsz ht (jk ?_)
        rw [h46]
        refine jcs (pc' := 319) 263 [_] [] rfl rfl rfl rfl rfl rfl rfl rfl ?_
        refine m_isDigit ⟨by decide, by decide⟩ (jk ?_)
        refine jin (pc' := 322) 325 rfl rfl rfl rfl (by rfl) ?_
        refine jx (pc' := 304) (L' := [_, _, _, _, _, _, _, _, _, _, _, _, _, _]) (st' := []) 3 rfl ?_
        try simp (disch := omega) only [kz, kzl0, kzl1, kzb, kzs, zI_add, zI_sub, zI_neg, zI_mul, zL_i, zI_l, zL_add, zL_sub, zL_neg]
        have := r2 h K
        rw [show ((p1 + 1 : Nat) : Int) - 1 + -1 = (k : Int) + ((p1 - k : Nat) : Int) - 1 by omega, show 0 + B = B by omega]
        exact this) h (by rw [Nat.zero_mul]; exact K)
      refine jx (pc' := 304) (L' := [_, _, _, _, _, _, _, _, _, _, _, _, _, _]) (st' := []) 6 rfl ?_
      try simp (disch := omega) only [kz, kzl0, kzl1, kzb, kzs, zI_add, zI_sub, zI_neg, zI_mul, zL_i, zI_l, zL_add, zL_sub, zL_neg]
      rw [show ((p1 + 1 : Nat) : Int) + (B : Int) - 1 = (E : Int) - 1 by omega] at r1
      exact r1
  -- the exponent is known
  have t248 : ∀ (h1 : ix_H) (e : Int) (dg : Int) (at_ : Nat) (pn : Bool) (l10 : Option Value), -200000000 ≤ e ∧ e ≤ 200000000 → at_ ≤ 1000 → nmR tx sz k = some (e - B, at_, W) → (RI S0 h1 R (0) cd dr ra si tr (false) (ng') sp sz wr il rs pt rl wo tx ou) → ix_E 264 248 [some (.ref 98), some (.int (zI (k : Int))), some (.int (zI f0)), some (.int (zI dg)), some (.int (zI (B : Int))), some (.int (zI (at_ : Int))), some (.int (bI pn)), some (.int (zI (E : Int))), some (.long (zL e)), none, l10, none, none, none] [] h1 Q := by
    intro h e dg at_ pn l10 he hat hR K
    have hG := nmG_1 hR
    dsimp only at hG
    refine jx (pc' := 251) (L' := [_, _, _, _, _, _, _, _, _, _, _, _, _, _]) (st' := [_, _]) 2 rfl ?_
    refine jgf (pc' := 254) K.ob rfl rfl rfl rfl rfl ?_
    by_cases h0 : at_ = sz
    · rw [if_pos h0] at hG
      have hB : (B : Int) ≤ 200 := by rcases hE.2.2 with ⟨e1, e2, e3⟩ | ⟨e0, e1, e2, e3, e4⟩ <;> omega
      refine jct (pc' := 259) rfl rfl rfl (by rw [zc_eq ⟨by omega, by omega⟩ ⟨by omega, by omega⟩]; exact decide_eq_true (by omega)) ?_
      refine jx (pc' := 273) (L' := [_, _, _, _, _, _, _, _, _, _, _, _, _, _]) (st' := [_]) 8 rfl ?_
      try simp (disch := omega) only [kMm12400, kz, kzl0, kzl1, kzb, kzs, zI_add, zI_sub, zI_neg, zI_mul, zL_i, zI_l, zL_add, zL_sub, zL_neg]
      have t281 : ∀ q2 : Int, q2 = (if e - B < -12400 then -12400 else e - B) → ix_E 264 281 [some (.ref 98), some (.int (zI (k : Int))), some (.int (zI f0)), some (.int (zI dg)), some (.int (zI (B : Int))), some (.int (zI (at_ : Int))), some (.int (bI pn)), some (.int (zI (E : Int))), some (.long (zL e)), none, some (.long (zL q2)), none, none, none] [] h Q := by
        intro q2 hq2
        have hq2b : -300000000 ≤ q2 ∧ q2 ≤ 300000000 := by rw [hq2]; split <;> omega
        have t := t295 h (e - B) dg B at_ pn e hG K
        unfold clE at t
        refine jx (pc' := 287) (L' := [_, _, _, _, _, _, _, _, _, _, _, _, _, _]) (st' := [_]) 3 rfl ?_
        try simp (disch := omega) only [kM12500, kz, kzl0, kzl1, kzb, kzs, zI_add, zI_sub, zI_neg, zI_mul, zL_i, zI_l, zL_add, zL_sub, zL_neg]
        by_cases h2 : 12500 < q2
        · rw [if_neg (show ¬ e - (B : Int) < -12400 by rw [hq2] at h2; split at h2 <;> omega), if_pos (show (12500 : Int) < e - B by rw [hq2] at h2; split at h2 <;> omega)] at t
          refine jin (pc' := 290) 295 rfl rfl rfl rfl (by rw [zl_le ⟨by omega, by omega⟩ ⟨by omega, by omega⟩]; exact decide_eq_false (by omega)) ?_
          refine jx (pc' := 295) (L' := [_, _, _, _, _, _, _, _, _, _, _, _, _, _]) (st' := []) 2 rfl ?_
          try simp (disch := omega) only [kM12500, kz, kzl0, kzl1, kzb, kzs, zI_add, zI_sub, zI_neg, zI_mul, zL_i, zI_l, zL_add, zL_sub, zL_neg]
          exact t
        · skip
          refine jit (pc' := 295) rfl rfl rfl (by rw [zl_le ⟨by omega, by omega⟩ ⟨by omega, by omega⟩]; exact decide_eq_true (by omega)) ?_
          by_cases h3 : e - (B : Int) < -12400
          · rw [if_pos h3] at hq2 t
            rw [hq2]
            exact t
          · rw [if_neg h3] at hq2
            rw [if_neg h3, if_neg (show ¬ (12500 : Int) < e - B by omega)] at t
            rw [hq2]
            exact t
      by_cases h3 : e - (B : Int) < -12400
      · skip
        refine jin (pc' := 276) 281 rfl rfl rfl rfl (by rw [zl_ge ⟨by omega, by omega⟩ ⟨by decide, by decide⟩]; exact decide_eq_false (by omega)) ?_
        refine jx (pc' := 281) (L' := [_, _, _, _, _, _, _, _, _, _, _, _, _, _]) (st' := []) 2 rfl ?_
        try simp (disch := omega) only [kMm12400, kz, kzl0, kzl1, kzb, kzs, zI_add, zI_sub, zI_neg, zI_mul, zL_i, zI_l, zL_add, zL_sub, zL_neg]
        exact t281 _ (by rw [if_pos h3])
      · skip
        refine jit (pc' := 281) rfl rfl rfl (by rw [zl_ge ⟨by omega, by omega⟩ ⟨by decide, by decide⟩]; exact decide_eq_true (by omega)) ?_
        exact t281 _ (by rw [if_neg h3])
    · rw [if_neg h0] at hG
      refine jcn (pc' := 257) 259 rfl rfl rfl rfl (by rw [zc_eq ⟨by omega, by omega⟩ ⟨by omega, by omega⟩]; exact decide_eq_false (by omega)) ?_
      refine jx (pc' := 258) (L' := [_, _, _, _, _, _, _, _, _, _, _, _, _, _]) (st' := [.int (zI 0)]) 1 rfl ?_
      exact jrb rfl rfl (q0 hG _ K.rj)
  -- behind the digits
  have t103 : ∀ (h1 : ix_H) (pn : Bool), (RI S0 h1 R (0) cd dr ra si tr (false) (ng') sp sz wr il rs pt rl wo tx ou) → ix_E 264 103 [some (.ref 98), some (.int (zI (k : Int))), some (.int (zI f0)), some (.int (zI ((p1 - k + B : Nat) : Int))), some (.int (zI (B : Int))), some (.int (zI (E : Int))), some (.int (bI pn)), none, none, none, none, none, none, none] [] h1 Q := by
    intro h pn K
    have hB : B ≤ 200 := by rcases hE.2.2 with ⟨e1, e2, e3⟩ | ⟨e0, e1, e2, e3, e4⟩ <;> omega
    refine jx (pc' := 104) (L' := [_, _, _, _, _, _, _, _, _, _, _, _, _, _]) (st' := [_]) 1 rfl ?_
    by_cases h0 : p1 - k + B = 0
    · rw [if_pos h0] at eR
      refine jin (pc' := 107) 109 rfl rfl rfl rfl (by rw [zz_ne ⟨by omega, by omega⟩]; exact decide_eq_false (by omega)) ?_
      refine jx (pc' := 108) (L' := [_, _, _, _, _, _, _, _, _, _, _, _, _, _]) (st' := [.int (zI 0)]) 1 rfl ?_
      exact jrb rfl rfl (q0 (nmG_0 eR) _ K.rj)
    · rw [if_neg h0] at eR
      have h69 := hC_c (t := tx) (len := sz) (k := E) (c := 69) (by decide)
      have hbE := hC_b ht E
      refine jit (pc' := 109) rfl rfl rfl (by rw [zz_ne ⟨by omega, by omega⟩]; exact decide_eq_true (by omega)) ?_
      refine jx (pc' := 119) (L' := [_, _, _, _, _, _, _, _, _, _, _, _, _, _]) (st' := [_, _]) 6 rfl ?_
      refine jcv (pc' := 122) 260 [_] [] K.ob rfl rfl rfl rfl rfl rfl rfl rfl ?_
      refine m_here (k := E) K rfl (by omega) hsz ht (jk ?_)
      refine jx (pc' := 124) (L' := [_, _, _, _, _, _, _, _, _, _, _, _, _, _]) (st' := [.int (zI 69), _]) 1 rfl ?_
      by_cases h1 : hC tx sz E = 69
      · have h1' := h69.mp h1
        have hlt := atc_lt h1'
        rw [if_pos h1'] at eR
        have h45 := hC_c (t := tx) (len := sz) (k := E + 1) (c := 45) (by decide)
        have h43 := hC_c (t := tx) (len := sz) (k := E + 1) (c := 43) (by decide)
        have hbE1 := hC_b ht (E + 1)
        have hsb := sgp_b (t := tx) (len := sz) (pl := E + 1) (by omega)
        have hsgp : sgp tx sz (E + 1) = if atc tx sz (E + 1) 45 || atc tx sz (E + 1) 43 then E + 1 + 1 else E + 1 := rfl
        obtain ⟨c1, c2, c3, c4⟩ := de_s tx sz (sgp tx sz (E + 1))
        have c2 := c2 hsb.2
        have hxp : xpE tx sz (E + 1) = if atc tx sz (E + 1) 45 then -(xe tx (sgp tx sz (E + 1)) (de tx sz (sgp tx sz (E + 1)) - sgp tx sz (E + 1)) : Int) else (xe tx (sgp tx sz (E + 1)) (de tx sz (sgp tx sz (E + 1)) - sgp tx sz (E + 1)) : Int) := rfl
        generalize hS : sgp tx sz (E + 1) = S at *
        generalize hD : de tx sz S = D at *
        refine jcn (pc' := 127) 248 rfl rfl rfl rfl (by rw [zc_ne ⟨by omega, by omega⟩ ⟨by omega, by omega⟩]; exact decide_eq_false (by omega)) ?_
        refine jx (pc' := 132) (L' := [_, _, _, _, _, _, _, _, _, _, _, _, _, _]) (st' := [_, _]) 4 rfl ?_
        try simp (disch := omega) only [kz, kzl0, kzl1, kzb, kzs, zI_add, zI_sub, zI_neg, zI_mul, zL_i, zI_l, zL_add, zL_sub, zL_neg]
        refine jcv (pc' := 135) 260 [_] [] K.ob rfl rfl rfl rfl rfl rfl rfl rfl ?_
        refine m_here (k := E + 1) K (by omega) (by omega) hsz ht (jk ?_)
        refine jx (pc' := 137) (L' := [_, _, _, _, _, _, _, _, _, _, _, _, _, _]) (st' := [.int (zI 45), _]) 1 rfl ?_
        -- the exponent's digits
        have t175 : ∀ ls : Bool, ls = atc tx sz (E + 1) 45 → ix_E 264 175 [some (.ref 98), some (.int (zI (k : Int))), some (.int (zI f0)), some (.int (zI ((p1 - k + B : Nat) : Int))), some (.int (zI (B : Int))), some (.int (zI (S : Int))), some (.int (bI pn)), some (.int (zI (E : Int))), some (.long (zL 0)), none, some (.int (bI ls)), none, none, none] [] h Q := by
          intro ls hls
          have hdS := hC_d (t := tx) (len := sz) (k := S)
          have hbS := hC_b ht S
          have t189 : S < D → ix_E 264 189 [some (.ref 98), some (.int (zI (k : Int))), some (.int (zI f0)), some (.int (zI ((p1 - k + B : Nat) : Int))), some (.int (zI (B : Int))), some (.int (zI (S : Int))), some (.int (bI pn)), some (.int (zI (E : Int))), some (.long (zL 0)), none, some (.int (bI ls)), none, none, none] [] h Q := by
            intro hSD
            rw [if_pos hSD] at eR
            have loop : ∀ n i : Nat, i + n = D → S ≤ i → ix_E 264 189 [some (.ref 98), some (.int (zI (k : Int))), some (.int (zI f0)), some (.int (zI ((p1 - k + B : Nat) : Int))), some (.int (zI (B : Int))), some (.int (zI (i : Int))), some (.int (bI pn)), some (.int (zI (E : Int))), some (.long (zL ((xe tx S (i - S) : Nat) : Int))), none, some (.int (bI ls)), none, none, none] [] h Q := by
              intro n
              induction n with
              | zero =>
                intro i hi hSi
                obtain rfl : i = D := by omega
                have hxb := xe_b tx S (i - S)
                have hdi := hC_d (t := tx) (len := sz) (k := i)
                have hbi := hC_b ht i
                have nd : ¬ (48 ≤ ((hC tx sz i : Nat) : Int) ∧ ((hC tx sz i : Nat) : Int) ≤ 57) := fun z => by
                  have := hdi.mp (by omega)
                  exact c4 this.1 this.2
                refine jx (pc' := 192) (L' := [_, _, _, _, _, _, _, _, _, _, _, _, _, _]) (st' := [_, _]) 2 rfl ?_
                refine jcv (pc' := 195) 260 [_] [] K.ob rfl rfl rfl rfl rfl rfl rfl rfl ?_
                refine m_here (k := i) K rfl (by omega) hsz ht (jk ?_)
                refine jcs (pc' := 198) 263 [_] [] rfl rfl rfl rfl rfl rfl rfl rfl ?_
                refine m_isDigit ⟨by omega, by omega⟩ (jk ?_)
                rw [decide_eq_false nd]
                refine jit (pc' := 233) rfl rfl rfl (by rfl) ?_
                refine jx (pc' := 235) (L' := [_, _, _, _, _, _, _, _, _, _, _, _, _, _]) (st' := [_]) 1 rfl ?_
                cases ls
                · rw [← hls, if_neg (by decide)] at hxp
                  refine jit (pc' := 244) rfl rfl rfl (by rfl) ?_
                  refine jx (pc' := 248) (L' := [_, _, _, _, _, _, _, _, _, _, _, _, _, _]) (st' := []) 2 rfl ?_
                  exact t248 h _ _ i pn _ ⟨by omega, by omega⟩ (by omega) (by rw [eR, hxp]) K
                · rw [← hls, if_pos rfl] at hxp
                  refine jin (pc' := 238) 244 rfl rfl rfl rfl (by rfl) ?_
                  refine jx (pc' := 248) (L' := [_, _, _, _, _, _, _, _, _, _, _, _, _, _]) (st' := []) 4 rfl ?_
                  try simp (disch := omega) only [kz, kzl0, kzl1, kzb, kzs, zI_add, zI_sub, zI_neg, zI_mul, zL_i, zI_l, zL_add, zL_sub, zL_neg]
                  exact t248 h _ _ i pn _ ⟨by omega, by omega⟩ (by omega) (by rw [eR, hxp]) K
              | succ n ih =>
                intro i hi hSi
                have hda := c3 i hSi (by omega)
                have hh := hC_e (t := tx) (len := sz) (k := i) ⟨by omega, hda.1, hda.2⟩
                have hxb := xe_b tx S (i - S)
                have hxs := xe_s tx S (i - S)
                rw [show i - S + 1 = i + 1 - S by omega, show S + (i - S) = i by omega] at hxs
                refine jx (pc' := 192) (L' := [_, _, _, _, _, _, _, _, _, _, _, _, _, _]) (st' := [_, _]) 2 rfl ?_
                refine jcv (pc' := 195) 260 [_] [] K.ob rfl rfl rfl rfl rfl rfl rfl rfl ?_
                refine m_here (k := i) K rfl (by omega) hsz ht (jk ?_)
                rw [hh]
                refine jcs (pc' := 198) 263 [_] [] rfl rfl rfl rfl rfl rfl rfl rfl ?_
                refine m_isDigit ⟨by omega, by omega⟩ (jk ?_)
                rw [decide_eq_true (by omega)]
                refine jin (pc' := 201) 233 rfl rfl rfl rfl (by rfl) ?_
                refine jx (pc' := 213) (L' := [_, _, _, _, _, _, _, _, _, _, _, _, _, _]) (st' := [_, _, _, _]) 6 rfl ?_
                try simp (disch := omega) only [kM10, kM99999999, kz, kzl0, kzl1, kzb, kzs, zI_add, zI_sub, zI_neg, zI_mul, zL_i, zI_l, zL_add, zL_sub, zL_neg]
                refine jcv (pc' := 216) 260 [_] [_, _] K.ob rfl rfl rfl rfl rfl rfl rfl rfl ?_
                refine m_here (k := i) K rfl (by omega) hsz ht (jk ?_)
                rw [hh]
                refine jx (pc' := 222) (L' := [_, _, _, _, _, _, _, _, _, _, _, _, _, _]) (st' := [_, _]) 4 rfl ?_
                try simp (disch := omega) only [kM48, kz, kzl0, kzl1, kzb, kzs, zI_add, zI_sub, zI_neg, zI_mul, zL_i, zI_l, zL_add, zL_sub, zL_neg]
                rw [zL_mul, zL_add, zL_sub]
                refine jcs (pc' := 225) 272 [_, _] [] rfl rfl rfl rfl rfl rfl rfl rfl ?_
                refine c_minL ⟨by omega, by omega⟩ ⟨by omega, by omega⟩ (jk ?_)
                refine jx (pc' := 189) (L' := [_, _, _, _, _, _, _, _, _, _, _, _, _, _]) (st' := []) 3 rfl ?_
                try simp (disch := omega) only [kz, kzl0, kzl1, kzb, kzs, zI_add, zI_sub, zI_neg, zI_mul, zL_i, zI_l, zL_add, zL_sub, zL_neg]
                rw [show min 99999999 (10 * ((xe tx S (i - S) : Nat) : Int) + (tx i : Int) - 48) = ((xe tx S (i + 1 - S) : Nat) : Int) by rw [hxs]; omega, show (i : Int) + 1 = ((i + 1 : Nat) : Int) by omega]
                exact ih (i + 1) (by omega) (by omega)
            have := loop (D - S) S (by omega) (Nat.le_refl _)
            rw [Nat.sub_self, xe_z] at this
            exact this
          refine jx (pc' := 178) (L' := [_, _, _, _, _, _, _, _, _, _, _, _, _, _]) (st' := [_, _]) 2 rfl ?_
          refine jcv (pc' := 181) 260 [_] [] K.ob rfl rfl rfl rfl rfl rfl rfl rfl ?_
          refine m_here (k := S) K rfl (by omega) hsz ht (jk ?_)
          refine jcs (pc' := 184) 263 [_] [] rfl rfl rfl rfl rfl rfl rfl rfl ?_
          refine m_isDigit ⟨by omega, by omega⟩ (jk ?_)
          by_cases hdd : 48 ≤ ((hC tx sz S : Nat) : Int) ∧ ((hC tx sz S : Nat) : Int) ≤ 57
          · have h2 := hdS.mp (by omega)
            rw [decide_eq_true hdd]
            refine jit (pc' := 189) rfl rfl rfl (by rfl) ?_
            refine t189 (Nat.lt_of_le_of_ne c1 fun z => ?_)
            rw [← z] at c4
            exact c4 h2.1 h2.2
          · have h3 : ¬ S < D := fun z => hdd (by
              have := c3 S (Nat.le_refl _) z
              have := hdS.mpr ⟨by omega, this.1, this.2⟩
              omega)
            rw [if_neg h3] at eR
            rw [decide_eq_false hdd]
            refine jin (pc' := 187) 189 rfl rfl rfl rfl (by rfl) ?_
            refine jx (pc' := 188) (L' := [_, _, _, _, _, _, _, _, _, _, _, _, _, _]) (st' := [.int (zI 0)]) 1 rfl ?_
            exact jrb rfl rfl (q0 (nmG_0 eR) _ K.rj)
        have t145 : ∀ ls : Bool, ls = atc tx sz (E + 1) 45 → ix_E 264 145 [some (.ref 98), some (.int (zI (k : Int))), some (.int (zI f0)), some (.int (zI ((p1 - k + B : Nat) : Int))), some (.int (zI (B : Int))), some (.int (zI (E : Int))), some (.int (bI pn)), some (.int (zI (E : Int))), some (.long (zL 0)), none, none, none, none, none] [.int (bI ls)] h Q := by
          intro ls hls
          have t172 : ∀ st : Nat, E + st = S → ix_E 264 172 [some (.ref 98), some (.int (zI (k : Int))), some (.int (zI f0)), some (.int (zI ((p1 - k + B : Nat) : Int))), some (.int (zI (B : Int))), some (.int (zI (E : Int))), some (.int (bI pn)), some (.int (zI (E : Int))), some (.long (zL 0)), none, some (.int (bI ls)), none, none, none] [.int (zI (st : Int)), .int (zI (E : Int))] h Q := by
            intro st hst
            refine jx (pc' := 175) (L' := [_, _, _, _, _, _, _, _, _, _, _, _, _, _]) (st' := []) 2 rfl ?_
            try simp (disch := omega) only [kz, kzl0, kzl1, kzb, kzs, zI_add, zI_sub, zI_neg, zI_mul, zL_i, zI_l, zL_add, zL_sub, zL_neg]
            rw [show (E : Int) + (st : Int) = (S : Int) by omega]
            exact t175 ls hls
          refine jx (pc' := 151) (L' := [_, _, _, _, _, _, _, _, _, _, _, _, _, _]) (st' := [_, _]) 3 rfl ?_
          cases ls
          · skip
            refine jin (pc' := 154) 167 rfl rfl rfl rfl (by rfl) ?_
            refine jx (pc' := 159) (L' := [_, _, _, _, _, _, _, _, _, _, _, _, _, _]) (st' := [_, _, _]) 4 rfl ?_
            try simp (disch := omega) only [kz, kzl0, kzl1, kzb, kzs, zI_add, zI_sub, zI_neg, zI_mul, zL_i, zI_l, zL_add, zL_sub, zL_neg]
            refine jcv (pc' := 162) 260 [_] [_] K.ob rfl rfl rfl rfl rfl rfl rfl rfl ?_
            refine m_here (k := E + 1) K (by omega) (by omega) hsz ht (jk ?_)
            refine jx (pc' := 164) (L' := [_, _, _, _, _, _, _, _, _, _, _, _, _, _]) (st' := [.int (zI 43), _, _]) 1 rfl ?_
            rw [← hls, Bool.false_or] at hsgp
            by_cases h2 : hC tx sz (E + 1) = 43
            · rw [if_pos (h43.mp h2)] at hsgp
              refine jcn (pc' := 167) 171 rfl rfl rfl rfl (by rw [zc_ne ⟨by omega, by omega⟩ ⟨by omega, by omega⟩]; exact decide_eq_false (by omega)) ?_
              refine jx (pc' := 172) (L' := [_, _, _, _, _, _, _, _, _, _, _, _, _, _]) (st' := [.int (zI 2), _]) 2 rfl ?_
              exact t172 2 (by omega)
            · rw [if_neg (fun n => h2 (h43.mpr n))] at hsgp
              refine jct (pc' := 171) rfl rfl rfl (by rw [zc_ne ⟨by omega, by omega⟩ ⟨by omega, by omega⟩]; exact decide_eq_true (by omega)) ?_
              refine jx (pc' := 172) (L' := [_, _, _, _, _, _, _, _, _, _, _, _, _, _]) (st' := [.int (zI 1), _]) 1 rfl ?_
              exact t172 1 (by omega)
          · rw [← hls, Bool.true_or, if_pos rfl] at hsgp
            refine jit (pc' := 167) rfl rfl rfl (by rfl) ?_
            refine jx (pc' := 172) (L' := [_, _, _, _, _, _, _, _, _, _, _, _, _, _]) (st' := [.int (zI 2), _]) 2 rfl ?_
            exact t172 2 (by omega)
        by_cases h2 : hC tx sz (E + 1) = 45
        · skip
          refine jcn (pc' := 140) 144 rfl rfl rfl rfl (by rw [zc_ne ⟨by omega, by omega⟩ ⟨by omega, by omega⟩]; exact decide_eq_false (by omega)) ?_
          refine jx (pc' := 145) (L' := [_, _, _, _, _, _, _, _, _, _, _, _, _, _]) (st' := [.int (zI 1)]) 2 rfl ?_
          exact t145 true (h45.mp h2).symm
        · skip
          refine jct (pc' := 144) rfl rfl rfl (by rw [zc_ne ⟨by omega, by omega⟩ ⟨by omega, by omega⟩]; exact decide_eq_true (by omega)) ?_
          refine jx (pc' := 145) (L' := [_, _, _, _, _, _, _, _, _, _, _, _, _, _]) (st' := [.int (zI 0)]) 1 rfl ?_
          refine t145 false ?_
          cases ha : atc tx sz (E + 1) 45
          · rfl
          · exact absurd (h45.mpr ha) h2
      · have h1' : ¬ atc tx sz E 69 = true := fun n => h1 (h69.mpr n)
        rw [if_neg h1'] at eR
        refine jct (pc' := 248) rfl rfl rfl (by rw [zc_ne ⟨by omega, by omega⟩ ⟨by omega, by omega⟩]; exact decide_eq_true (by omega)) ?_
        exact t248 h 0 _ E pn _ ⟨by decide, by decide⟩ (by omega) eR K
  -- digits behind the point
  have two : atc tx sz p1 46 = true → p1 + 1 ≤ E → B = E - (p1 + 1) → E = de tx sz (p1 + 1) → ∀ n i : Nat, i + n = E → p1 + 1 ≤ i → ∀ h1, (RI S0 h1 R (0) cd dr ra si tr (false) (ng') sp sz wr il rs pt rl wo tx ou) → ix_E 264 34 [some (.ref 98), some (.int (zI (k : Int))), some (.int (zI f0)), some (.int (zI ((p1 - k + (i - (p1 + 1)) : Nat) : Int))), some (.int (zI ((i - (p1 + 1) : Nat) : Int))), some (.int (zI (i : Int))), some (.int (bI true)), none, none, none, none, none, none, none] [] h1 Q := by
    intro e0 e1 e2 eE n
    obtain ⟨c1, c2, c3, c4⟩ := de_s tx sz (p1 + 1)
    rw [← eE] at c1 c2 c3 c4
    have c2 := c2 (by have := atc_lt e0; omega)
    induction n with
    | zero =>
      intro i hi hi2 h K
      obtain rfl : i = E := by omega
      have hdi := hC_d (t := tx) (len := sz) (k := i)
      have hbi := hC_b ht i
      have nd : ¬ (48 ≤ ((hC tx sz i : Nat) : Int) ∧ ((hC tx sz i : Nat) : Int) ≤ 57) := fun z => by
        have := hdi.mp (by omega)
        exact c4 this.1 this.2
      rw [← e2]
      refine jx (pc' := 37) (L' := [_, _, _, _, _, _, _, _, _, _, _, _, _, _]) (st' := [_, _]) 2 rfl ?_
      refine jcv (pc' := 40) 260 [_] [] K.ob rfl rfl rfl rfl rfl rfl rfl rfl ?_
      refine m_here (k := i) K rfl (by omega) hsz ht (jk ?_)
      refine jcs (pc' := 43) 263 [_] [] rfl rfl rfl rfl rfl rfl rfl rfl ?_
      refine m_isDigit ⟨by omega, by omega⟩ (jk ?_)
      rw [decide_eq_false nd]
      refine jin (pc' := 46) 62 rfl rfl rfl rfl (by rfl) ?_
      refine jx (pc' := 49) (L' := [_, _, _, _, _, _, _, _, _, _, _, _, _, _]) (st' := [_, _]) 2 rfl ?_
      refine jcv (pc' := 52) 260 [_] [] K.ob rfl rfl rfl rfl rfl rfl rfl rfl ?_
      refine m_here (k := i) K rfl (by omega) hsz ht (jk ?_)
      refine jx (pc' := 54) (L' := [_, _, _, _, _, _, _, _, _, _, _, _, _, _]) (st' := [.int (zI 46), _]) 1 rfl ?_
      by_cases h0 : hC tx sz i = 46
      · skip
        refine jcn (pc' := 57) 103 rfl rfl rfl rfl (by rw [zc_ne ⟨by omega, by omega⟩ ⟨by omega, by omega⟩]; exact decide_eq_false (by omega)) ?_
        refine jx (pc' := 59) (L' := [_, _, _, _, _, _, _, _, _, _, _, _, _, _]) (st' := [_]) 1 rfl ?_
        refine jit (pc' := 103) rfl rfl rfl (by rfl) ?_
        exact t103 h true K
      · skip
        refine jct (pc' := 103) rfl rfl rfl (by rw [zc_ne ⟨by omega, by omega⟩ ⟨by omega, by omega⟩]; exact decide_eq_true (by omega)) ?_
        exact t103 h true K
    | succ n ih =>
      intro i hi hi2 h K
      have hda := c3 i hi2 (by omega)
      have hh := hC_e (t := tx) (len := sz) (k := i) ⟨by omega, hda.1, hda.2⟩
      refine jx (pc' := 37) (L' := [_, _, _, _, _, _, _, _, _, _, _, _, _, _]) (st' := [_, _]) 2 rfl ?_
      refine jcv (pc' := 40) 260 [_] [] K.ob rfl rfl rfl rfl rfl rfl rfl rfl ?_
      refine m_here (k := i) K rfl (by omega) hsz ht (jk ?_)
      rw [hh]
      refine jcs (pc' := 43) 263 [_] [] rfl rfl rfl rfl rfl rfl rfl rfl ?_
      refine m_isDigit ⟨by omega, by omega⟩ (jk ?_)
      rw [decide_eq_true (by omega)]
      refine jit (pc' := 62) rfl rfl rfl (by rfl) ?_
      refine jx (pc' := 65) (L' := [_, _, _, _, _, _, _, _, _, _, _, _, _, _]) (st' := [_, _]) 2 rfl ?_
      refine jcv (pc' := 68) 260 [_] [] K.ob rfl rfl rfl rfl rfl rfl rfl rfl ?_
      refine m_here (k := i) K rfl (by omega) hsz ht (jk ?_)
      rw [hh]
      refine jx (pc' := 70) (L' := [_, _, _, _, _, _, _, _, _, _, _, _, _, _]) (st' := [.int (zI 46), _]) 1 rfl ?_
      refine jct (pc' := 79) rfl rfl rfl (by rw [zc_ne ⟨by omega, by omega⟩ ⟨by omega, by omega⟩]; exact decide_eq_true (by omega)) ?_
      refine jx (pc' := 86) (L' := [_, _, _, _, _, _, _, _, _, _, _, _, _, _]) (st' := [_, _]) 3 rfl ?_
      try simp (disch := omega) only [kz, kzl0, kzl1, kzb, kzs, zI_add, zI_sub, zI_neg, zI_mul, zL_i, zI_l, zL_add, zL_sub, zL_neg]
      refine jin (pc' := 89) 93 rfl rfl rfl rfl (by rfl) ?_
      refine jx (pc' := 34) (L' := [_, _, _, _, _, _, _, _, _, _, _, _, _, _]) (st' := []) 6 rfl ?_
      try simp (disch := omega) only [kz, kzl0, kzl1, kzb, kzs, zI_add, zI_sub, zI_neg, zI_mul, zL_i, zI_l, zL_add, zL_sub, zL_neg]
      have := ih (i + 1) (by omega) (by omega) h K
      rw [show ((p1 - k + (i - (p1 + 1)) : Nat) : Int) + 1 = ((p1 - k + (i + 1 - (p1 + 1)) : Nat) : Int) by omega, show ((i - (p1 + 1) : Nat) : Int) + 1 = ((i + 1 - (p1 + 1) : Nat) : Int) by omega, show (i : Int) + 1 = ((i + 1 : Nat) : Int) by omega]
      exact this
  have one : ∀ n i : Nat, i + n = p1 → k ≤ i → ∀ h1, (RI S0 h1 R (0) cd dr ra si tr (false) (ng') sp sz wr il rs pt rl wo tx ou) → ix_E 264 34 [some (.ref 98), some (.int (zI (k : Int))), some (.int (zI f0)), some (.int (zI ((i - k : Nat) : Int))), some (.int (zI 0)), some (.int (zI (i : Int))), some (.int (bI false)), none, none, none, none, none, none, none] [] h1 Q := by
    intro n
    induction n with
    | zero =>
      intro i hi hi2 h K
      obtain rfl : i = p1 := by omega
      have hdi := hC_d (t := tx) (len := sz) (k := i)
      have hbi := hC_b ht i
      have h46 := hC_c (t := tx) (len := sz) (k := i) (c := 46) (by decide)
      have nd : ¬ (48 ≤ ((hC tx sz i : Nat) : Int) ∧ ((hC tx sz i : Nat) : Int) ≤ 57) := fun z => by
        have := hdi.mp (by omega)
        exact d4 this.1 this.2
      refine jx (pc' := 37) (L' := [_, _, _, _, _, _, _, _, _, _, _, _, _, _]) (st' := [_, _]) 2 rfl ?_
      refine jcv (pc' := 40) 260 [_] [] K.ob rfl rfl rfl rfl rfl rfl rfl rfl ?_
      refine m_here (k := i) K rfl (by omega) hsz ht (jk ?_)
      refine jcs (pc' := 43) 263 [_] [] rfl rfl rfl rfl rfl rfl rfl rfl ?_
      refine m_isDigit ⟨by omega, by omega⟩ (jk ?_)
      rw [decide_eq_false nd]
      refine jin (pc' := 46) 62 rfl rfl rfl rfl (by rfl) ?_
      refine jx (pc' := 49) (L' := [_, _, _, _, _, _, _, _, _, _, _, _, _, _]) (st' := [_, _]) 2 rfl ?_
      refine jcv (pc' := 52) 260 [_] [] K.ob rfl rfl rfl rfl rfl rfl rfl rfl ?_
      refine m_here (k := i) K rfl (by omega) hsz ht (jk ?_)
      refine jx (pc' := 54) (L' := [_, _, _, _, _, _, _, _, _, _, _, _, _, _]) (st' := [.int (zI 46), _]) 1 rfl ?_
      by_cases h0 : hC tx sz i = 46
      · have e0 := h46.mp h0
        have hlt := atc_lt e0
        have eE : E = de tx sz (i + 1) := by
          rw [← hEE]
          unfold nmA
          rw [hp1, if_pos e0]
        have eB : B = E - (i + 1) := by
          rw [← hBB, eE]
          unfold nmA
          rw [hp1, if_pos e0]
        have e1 : i + 1 ≤ E := by rw [eE]; exact (de_s tx sz (i + 1)).1
        have := two e0 e1 eB eE (E - (i + 1)) (i + 1) (by omega) (Nat.le_refl _) h K
        rw [Nat.sub_self, Nat.add_zero] at this
        refine jcn (pc' := 57) 103 rfl rfl rfl rfl (by rw [zc_ne ⟨by omega, by omega⟩ ⟨by omega, by omega⟩]; exact decide_eq_false (by omega)) ?_
        refine jx (pc' := 59) (L' := [_, _, _, _, _, _, _, _, _, _, _, _, _, _]) (st' := [_]) 1 rfl ?_
        refine jin (pc' := 62) 103 rfl rfl rfl rfl (by rfl) ?_
        refine jx (pc' := 65) (L' := [_, _, _, _, _, _, _, _, _, _, _, _, _, _]) (st' := [_, _]) 2 rfl ?_
        refine jcv (pc' := 68) 260 [_] [] K.ob rfl rfl rfl rfl rfl rfl rfl rfl ?_
        refine m_here (k := i) K rfl (by omega) hsz ht (jk ?_)
        refine jx (pc' := 70) (L' := [_, _, _, _, _, _, _, _, _, _, _, _, _, _]) (st' := [.int (zI 46), _]) 1 rfl ?_
        refine jcn (pc' := 73) 79 rfl rfl rfl rfl (by rw [zc_ne ⟨by omega, by omega⟩ ⟨by omega, by omega⟩]; exact decide_eq_false (by omega)) ?_
        refine jx (pc' := 34) (L' := [_, _, _, _, _, _, _, _, _, _, _, _, _, _]) (st' := []) 5 rfl ?_
        try simp (disch := omega) only [kz, kzl0, kzl1, kzb, kzs, zI_add, zI_sub, zI_neg, zI_mul, zL_i, zI_l, zL_add, zL_sub, zL_neg]
        rw [show (i : Int) + 1 = ((i + 1 : Nat) : Int) by omega]
        exact this
      · have h0' : ¬ atc tx sz i 46 = true := fun n => h0 (h46.mpr n)
        rcases hE.2.2 with ⟨e1, e2, e3⟩ | ⟨e0, e1, e2, e3, e4⟩
        · have := t103 h false K
          rw [e2, Nat.add_zero, e1] at this
          refine jct (pc' := 103) rfl rfl rfl (by rw [zc_ne ⟨by omega, by omega⟩ ⟨by omega, by omega⟩]; exact decide_eq_true (by omega)) ?_
          exact this
        · exact absurd e0 h0'
    | succ n ih =>
      intro i hi hi2 h K
      have hda := d3' i hi2 (by omega)
      have hh := hC_e (t := tx) (len := sz) (k := i) ⟨by omega, hda.1, hda.2⟩
      refine jx (pc' := 37) (L' := [_, _, _, _, _, _, _, _, _, _, _, _, _, _]) (st' := [_, _]) 2 rfl ?_
      refine jcv (pc' := 40) 260 [_] [] K.ob rfl rfl rfl rfl rfl rfl rfl rfl ?_
      refine m_here (k := i) K rfl (by omega) hsz ht (jk ?_)
      rw [hh]
      refine jcs (pc' := 43) 263 [_] [] rfl rfl rfl rfl rfl rfl rfl rfl ?_
      refine m_isDigit ⟨by omega, by omega⟩ (jk ?_)
      rw [decide_eq_true (by omega)]
      refine jit (pc' := 62) rfl rfl rfl (by rfl) ?_
      refine jx (pc' := 65) (L' := [_, _, _, _, _, _, _, _, _, _, _, _, _, _]) (st' := [_, _]) 2 rfl ?_
      refine jcv (pc' := 68) 260 [_] [] K.ob rfl rfl rfl rfl rfl rfl rfl rfl ?_
      refine m_here (k := i) K rfl (by omega) hsz ht (jk ?_)
      rw [hh]
      refine jx (pc' := 70) (L' := [_, _, _, _, _, _, _, _, _, _, _, _, _, _]) (st' := [.int (zI 46), _]) 1 rfl ?_
      refine jct (pc' := 79) rfl rfl rfl (by rw [zc_ne ⟨by omega, by omega⟩ ⟨by omega, by omega⟩]; exact decide_eq_true (by omega)) ?_
      refine jx (pc' := 86) (L' := [_, _, _, _, _, _, _, _, _, _, _, _, _, _]) (st' := [_, _]) 3 rfl ?_
      try simp (disch := omega) only [kz, kzl0, kzl1, kzb, kzs, zI_add, zI_sub, zI_neg, zI_mul, zL_i, zI_l, zL_add, zL_sub, zL_neg]
      refine jit (pc' := 93) rfl rfl rfl (by rfl) ?_
      refine jx (pc' := 34) (L' := [_, _, _, _, _, _, _, _, _, _, _, _, _, _]) (st' := []) 5 rfl ?_
      try simp (disch := omega) only [kz, kzl0, kzl1, kzb, kzs, zI_add, zI_sub, zI_neg, zI_mul, zL_i, zI_l, zL_add, zL_sub, zL_neg]
      have := ih (i + 1) (by omega) (by omega) h K
      rw [show ((i - k : Nat) : Int) + 1 = ((i + 1 - k : Nat) : Int) by omega, show (i : Int) + 1 = ((i + 1 : Nat) : Int) by omega]
      exact this
  have t20 : ∀ (h1 : ix_H) (nn : Bool), nn = ng' → (RI S0 h1 R (0) cd dr ra si tr (false) ng sp sz wr il rs pt rl wo tx ou) → ix_E 264 20 [some (.ref 98), some (.int (zI (k : Int))), some (.int (zI f0)), none, none, none, none, none, none, none, none, none, none, none] [.int (bI nn), .ref 98] h1 Q := by
    intro h nn hnn K
    refine jp_ng (pc' := 23) nn K rfl rfl rfl rfl rfl fun h K => ?_
    rw [hnn] at K
    refine jx (pc' := 34) (L' := [_, _, _, _, _, _, _, _, _, _, _, _, _, _]) (st' := []) 8 rfl ?_
    try simp (disch := omega) only [kz, kzl0, kzl1, kzb, kzs, zI_add, zI_sub, zI_neg, zI_mul, zL_i, zI_l, zL_add, zL_sub, zL_neg]
    have := one (p1 - k) k (by omega) (Nat.le_refl _) h K
    rw [Nat.sub_self] at this
    exact this
  have h45 := hC_c (t := tx) (len := sz) (k := 0) (c := 45) (by decide)
  have hb := hC_b ht 0
  refine jx (pc' := 1) (L' := [_, _, _, _, _, _, _, _, _, _, _, _, _, _]) (st' := [_]) 1 rfl ?_
  refine jcv (pc' := 4) 204 [] [] K.ob rfl rfl rfl rfl rfl rfl rfl rfl ?_
  refine m_empty K fun h K => jk ?_
  refine jx (pc' := 7) (L' := [_, _, _, _, _, _, _, _, _, _, _, _, _, _]) (st' := [.int (zI 0), _, _]) 3 rfl ?_
  refine jcv (pc' := 10) 260 [.int (zI 0)] [_] K.ob rfl rfl rfl rfl rfl rfl rfl rfl ?_
  refine m_here (k := 0) K rfl (by decide) hsz ht (jk ?_)
  refine jx (pc' := 12) (L' := [_, _, _, _, _, _, _, _, _, _, _, _, _, _]) (st' := [.int (zI 45), _, _]) 1 rfl ?_
  by_cases h0 : hC tx sz 0 = 45
  · skip
    refine jcn (pc' := 15) 19 rfl rfl rfl rfl (by rw [zc_ne ⟨by omega, by omega⟩ ⟨by omega, by omega⟩]; exact decide_eq_false (by omega)) ?_
    refine jx (pc' := 20) (L' := [_, _, _, _, _, _, _, _, _, _, _, _, _, _]) (st' := [.int (zI 1), _]) 2 rfl ?_
    exact t20 h true (by rw [← hng]; exact (h45.mp h0).symm) K
  · skip
    refine jct (pc' := 19) rfl rfl rfl (by rw [zc_ne ⟨by omega, by omega⟩ ⟨by omega, by omega⟩]; exact decide_eq_true (by omega)) ?_
    refine jx (pc' := 20) (L' := [_, _, _, _, _, _, _, _, _, _, _, _, _, _]) (st' := [.int (zI 0), _]) 1 rfl ?_
    refine t20 h false ?_ K
    rw [← hng]
    cases ha : atc tx sz 0 45
    · rfl
    · exact absurd (h45.mpr ha) h0
end REF
