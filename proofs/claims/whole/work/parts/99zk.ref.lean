/-! ===== the reference: remain ===== -/
theorem sh_d (c s k : Nat) : c * 10 ^ s / 10 ^ k % 10 = if s ≤ k then c / 10 ^ (k - s) % 10 else 0 := by
  split
  · next h =>
    have := dgh c (pp0 s) h
    rw [Nat.add_zero] at this
    rw [this]
  · next h =>
    have := dgl c 0 (j := k) (k := s) (by omega)
    rw [Nat.add_zero] at this
    rw [this, Nat.zero_div]
section REF
variable {h : ix_H} {Q : ix_O → ix_H → Prop} {S0 : Nat → AC} {R : Nat → Dm} {V cd dr ra si tr : Nat} {mo ng : Bool} {sp sz wr : Nat} {il : Bool} {rs pt rl wo tx ou : Nat → Nat} {j x : Int} {r f s m a : Nat} {b t : Bool}
theorem m_remain (K : (RI S0 h R V cd dr ra si tr mo ng sp sz wr il rs pt rl wo tx ou)) (vA : ValD (R 9)) (vB : ValD (R 10)) (hA : (R 9).2.1 < 2) (hB : (R 10).2.1 < 2) (hdr : dr < 5) (q : ∀ h', (RJ S0 h' (va_up R 8 (reF dr (R 9) (R 10)).1) cd dr ra (si ||| (reF dr (R 9) (R 10)).2) tr sz wr tx ou) → Q (.inl none) h') : ix_M 227 [.ref 98, .int (zI 9), .int (zI 10)] h Q := by
  have bA := Val.b vA
  have bB := Val.b vB
  have cA := Val.c34 vA
  have cB := Val.c34 vB
  have hsA := swp_b vA.2.1
  have hsB := swp_b vB.2.1
  have fA := vA.1
  have hdA := dgs_le cA
  have hdB := dgs_le cB
  unfold reF at q
  have t25 : ((R 9).2.1 = 1 ∨ ((R 10).2.1 = 0 ∧ (R 10).2.2.2.2 = 0)) → ix_E 227 25 [some (.ref 98), some (.int (zI 9)), some (.int (zI 10)), some (.int (zI (R 9).1)), none, none, none, none] [] h Q := by
    intro hi
    rw [if_pos hi] at q
    refine jx (pc' := 27) (L' := [_, _, _, _, _, _, _, _]) (st' := [_, _]) 2 rfl ?_
    refine jcv (pc' := 30) 201 [_] [] K.ob rfl rfl rfl rfl rfl rfl rfl rfl ?_
    refine m_invalid K rfl fA fun h K => jk ?_
    refine ix_qr _ rfl rfl rfl ?_
    exact q _ K.rj
  have t59 : ¬ ((R 9).2.1 = 1 ∨ ((R 10).2.1 = 0 ∧ (R 10).2.2.2.2 = 0)) → ((R 10).2.1 = 1 ∨ 80 < (R 10).2.2.2.1 - (R 9).2.2.2.1) → ix_E 227 59 [some (.ref 98), some (.int (zI 9)), some (.int (zI 10)), some (.int (zI (R 9).1)), none, none, none, none] [] h Q := by
    intro hn hi
    rw [if_neg hn, if_pos hi] at q
    refine jx (pc' := 60) (L' := [_, _, _, _, _, _, _, _]) (st' := [_]) 1 rfl ?_
    refine jcv (pc' := 63) 204 [] [] K.ob rfl rfl rfl rfl rfl rfl rfl rfl ?_
    refine m_empty K fun h K => jk ?_
    refine jx (pc' := 66) (L' := [_, _, _, _, _, _, _, _]) (st' := [_, _, _]) 3 rfl ?_
    refine jgf (pc' := 69) K.ob rfl rfl rfl rfl rfl ?_
    refine jx (pc' := 70) (L' := [_, _, _, _, _, _, _, _]) (st' := [_, _, _, _]) 1 rfl ?_
    refine jR_p (pc' := 71) 9 K rfl rfl (by omega) (by omega)  rfl ?_
    refine jcv (pc' := 74) 205 [_, _] [] K.ob rfl rfl rfl rfl rfl rfl rfl rfl ?_
    have hu1 : (((12500 + (R 9).2.2.2.1).toNat : Nat) : Int) = 12500 + (R 9).2.2.2.1 := by omega
    refine m_lay (r := 9) K rfl (by decide) _ hu1 (by omega) fun h K => jk ?_
    refine jx (pc' := 76) (L' := [_, _, _, _, _, _, _, _]) (st' := [_, _]) 2 rfl ?_
    refine jgf (pc' := 79) K.ob rfl rfl rfl rfl rfl ?_
    refine jx (pc' := 80) (L' := [_, _, _, _, _, _, _, _]) (st' := [_, _, _]) 1 rfl ?_
    refine jR_m (pc' := 81) 9 K rfl rfl (by omega) (by omega)  rfl ?_
    refine jp_ng (pc' := 84) ((R 9).2.2.1) K (by first | rfl | (congr 1; omega)) rfl rfl rfl rfl fun h K => ?_
    refine jx (pc' := 87) (L' := [_, _, _, _, _, _, _, _]) (st' := [_, _, _]) 3 rfl ?_
    refine jgf (pc' := 90) K.ob rfl rfl rfl rfl rfl ?_
    refine jx (pc' := 91) (L' := [_, _, _, _, _, _, _, _]) (st' := [_, _, _, _]) 1 rfl ?_
    refine jR_so (pc' := 92) 10 K rfl rfl (by omega) (by omega)  rfl ?_
    refine jx (pc' := 93) (L' := [_, _, _, _, _, _, _, _]) (st' := [.int (zI 1), _, _, _]) 1 rfl ?_
    have t120 : ∀ wi : Int, wi = (if (R 10).2.1 = 1 then (R 9).2.2.2.1 else min (R 9).2.2.2.1 (R 10).2.2.2.1) → ix_E 227 120 [some (.ref 98), some (.int (zI 9)), some (.int (zI 10)), some (.int (zI (R 9).1)), none, none, none, none] [.int (zI wi), .int (zI (R 9).1), .ref 98] h Q := by
      intro wi hwi
      have hwb : -30000 ≤ wi ∧ wi ≤ 30000 := by rw [hwi]; split <;> omega
      refine jx (pc' := 121) (L' := [_, _, _, _, _, _, _, _]) (st' := [_, _, _, _]) 1 rfl ?_
      refine jgf (pc' := 124) K.ob rfl rfl rfl rfl rfl ?_
      refine jx (pc' := 125) (L' := [_, _, _, _, _, _, _, _]) (st' := [_, _, _, _, _]) 1 rfl ?_
      refine jR_m (pc' := 126) 9 K rfl rfl (by omega) (by omega)  rfl ?_
      refine jcv (pc' := 129) 208 [_, _, _] [] K.ob rfl rfl rfl rfl rfl rfl rfl rfl ?_
      refine m_roundR (W := pV (R 9).2.2.2.1 (R 9).2.2.2.2) K rfl rfl fA hdr hwb (fun _ => rfl) fun h K => jk ?_
      refine ix_qr _ rfl rfl rfl ?_
      rw [hwi] at K
      exact q _ K
    by_cases e : (R 10).2.1 = 1
    · have e1 := swp_1.mpr e
      refine jcn (pc' := 96) 105 rfl rfl rfl rfl (by rw [zc_ne ⟨by omega, by omega⟩ ⟨by omega, by omega⟩]; exact decide_eq_false (by omega)) ?_
      refine jx (pc' := 97) (L' := [_, _, _, _, _, _, _, _]) (st' := [_, _, _]) 1 rfl ?_
      refine jgf (pc' := 100) K.ob rfl rfl rfl rfl rfl ?_
      refine jx (pc' := 101) (L' := [_, _, _, _, _, _, _, _]) (st' := [_, _, _, _]) 1 rfl ?_
      refine jR_p (pc' := 102) 9 K rfl rfl (by omega) (by omega)  rfl ?_
      refine jx (pc' := 120) (L' := [_, _, _, _, _, _, _, _]) (st' := [_, _, _]) 1 rfl ?_
      exact t120 _ (by rw [if_pos e])
    · have e1 : ¬ swp (R 10).2.1 = 1 := fun z => e (swp_1.mp z)
      refine jct (pc' := 105) rfl rfl rfl (by rw [zc_ne ⟨by omega, by omega⟩ ⟨by omega, by omega⟩]; exact decide_eq_true (by omega)) ?_
      refine jx (pc' := 106) (L' := [_, _, _, _, _, _, _, _]) (st' := [_, _, _]) 1 rfl ?_
      refine jgf (pc' := 109) K.ob rfl rfl rfl rfl rfl ?_
      refine jx (pc' := 110) (L' := [_, _, _, _, _, _, _, _]) (st' := [_, _, _, _]) 1 rfl ?_
      refine jR_p (pc' := 111) 9 K rfl rfl (by omega) (by omega)  rfl ?_
      refine jx (pc' := 112) (L' := [_, _, _, _, _, _, _, _]) (st' := [_, _, _, _]) 1 rfl ?_
      refine jgf (pc' := 115) K.ob rfl rfl rfl rfl rfl ?_
      refine jx (pc' := 116) (L' := [_, _, _, _, _, _, _, _]) (st' := [_, _, _, _, _]) 1 rfl ?_
      refine jR_p (pc' := 117) 10 K rfl rfl (by omega) (by omega)  rfl ?_
      refine jcs (pc' := 120) 274 [_, _] [_, _] rfl rfl rfl rfl rfl rfl rfl rfl ?_
      refine c_minI ⟨by omega, by omega⟩ ⟨by omega, by omega⟩ (jk ?_)
      exact t120 _ (by rw [if_neg e])
  have t130 : ¬ ((R 9).2.1 = 1 ∨ ((R 10).2.1 = 0 ∧ (R 10).2.2.2.2 = 0)) → ¬ ((R 10).2.1 = 1 ∨ 80 < (R 10).2.2.2.1 - (R 9).2.2.2.1) → ix_E 227 130 [some (.ref 98), some (.int (zI 9)), some (.int (zI 10)), some (.int (zI (R 9).1)), none, none, none, none] [] h Q := by
    intro hn hi
    rw [if_neg hn, if_neg hi] at q
    have hbp : 0 < (R 10).2.2.2.2 := Nat.pos_of_ne_zero fun z => hn (Or.inr ⟨by omega, z⟩)
    generalize hlow : min (R 9).2.2.2.1 (R 10).2.2.2.1 = low at *
    obtain ⟨sB, hsB'⟩ : ∃ sB : Nat, (sB : Int) = (R 10).2.2.2.1 - low := ⟨((R 10).2.2.2.1 - low).toNat, by omega⟩
    obtain ⟨sA, hsA'⟩ : ∃ sA : Nat, (sA : Int) = (R 9).2.2.2.1 - low := ⟨((R 9).2.2.2.1 - low).toNat, by omega⟩
    have hN : rmN (R 9).2.2.2.1 (R 10).2.2.2.1 (R 9).2.2.2.2 = (R 9).2.2.2.2 * 10 ^ sA := by unfold rmN; rw [hlow, ← hsA', Int.toNat_natCast]
    have hP : rmP (R 9).2.2.2.1 (R 10).2.2.2.1 (R 10).2.2.2.2 = (R 10).2.2.2.2 * 10 ^ sB := by unfold rmP; rw [hlow, ← hsB', Int.toNat_natCast]
    rw [hN, hP] at q
    have hPp : 0 < (R 10).2.2.2.2 * 10 ^ sB := Nat.mul_pos hbp (pp0 _)
    have hPl : (R 10).2.2.2.2 * 10 ^ sB < 10 ^ (dgs (R 10).2.2.2.2 + sB) := dgs_sh _ _
    have hNl : (R 9).2.2.2.2 * 10 ^ sA < 10 ^ (sA + 40) := by
      have := Nat.lt_of_lt_of_le (dgs_sh (R 9).2.2.2.2 sA) (pl (show dgs (R 9).2.2.2.2 + sA ≤ sA + 40 by omega))
      exact this
    have dN : ∀ k : Nat, (if (sA : Int) ≤ (k : Int) then atD (R 9).2.2.2.2 ((k : Int) - sA) else 0) = (R 9).2.2.2.2 * 10 ^ sA / 10 ^ k % 10 := fun k => by
      rw [sh_d]
      by_cases h0 : sA ≤ k
      · rw [if_pos h0, if_pos (by omega)]
        unfold atD
        rw [if_neg (by omega), show ((k : Int) - sA).toNat = k - sA by omega]
      · rw [if_neg h0, if_neg (by omega)]
    have dP : ∀ k : Nat, (if (sB : Int) ≤ (k : Int) then atD (R 10).2.2.2.2 ((k : Int) - sB) else 0) = (R 10).2.2.2.2 * 10 ^ sB / 10 ^ k % 10 := fun k => by
      rw [sh_d]
      by_cases h0 : sB ≤ k
      · rw [if_pos h0, if_pos (by omega)]
        unfold atD
        rw [if_neg (by omega), show ((k : Int) - sB).toNat = k - sB by omega]
      · rw [if_neg h0, if_neg (by omega)]
    generalize hNN : (R 9).2.2.2.2 * 10 ^ sA = N at *
    generalize hPP : (R 10).2.2.2.2 * 10 ^ sB = P at *
    -- the last loop, and rounding
    have t359 : ∀ (h1 : ix_H) (f' pt' rl' : Nat → Nat) (l5 l6 : Int) (l7 : Option Value), (∀ j, j < dgs (R 10).2.2.2.2 + sB + 2 → f' j < 10) → v10 f' (dgs (R 10).2.2.2.2 + sB + 2) = rmR N P → (RI S0 h1 R V cd dr ra si tr mo (if rmU N P then !(R 9).2.2.1 else (R 9).2.2.1) (dgs (R 10).2.2.2.2 + sB + 2) sz wr il (f') (pt') (rl') wo tx ou) → ix_E 227 359 [some (.ref 98), some (.int (zI 9)), some (.int (zI 10)), some (.int (zI (R 9).1)), some (.int (zI low)), some (.int (zI l5)), some (.int (zI l6)), l7] [] h1 Q := by
      intro h f' pt' rl' l5 l6 l7 hf ev K
      have loop : ∀ n k : Nat, k + n = dgs (R 10).2.2.2.2 + sB + 2 → ∀ h1, (RI S0 h1 R (v10 f' k * 10 ^ (12500 + low).toNat) cd dr ra si tr (false) (if rmU N P then !(R 9).2.2.1 else (R 9).2.2.1) (dgs (R 10).2.2.2.2 + sB + 2) sz wr il (f') (pt') (rl') wo tx ou) → ix_E 227 366 [some (.ref 98), some (.int (zI 9)), some (.int (zI 10)), some (.int (zI (R 9).1)), some (.int (zI low)), some (.int (zI l5)), some (.int (zI l6)), some (.int (zI (k : Int)))] [] h1 Q := by
        intro n
        induction n with
        | zero =>
          intro k hk h K
          obtain rfl : k = dgs (R 10).2.2.2.2 + sB + 2 := by omega
          refine jx (pc' := 369) (L' := [_, _, _, _, _, _, _, _]) (st' := [_, _]) 2 rfl ?_
          refine jgf (pc' := 372) K.ob rfl rfl rfl rfl rfl ?_
          refine jct (pc' := 412) rfl rfl rfl (by rw [zc_ge ⟨by omega, by omega⟩ ⟨by omega, by omega⟩]; exact decide_eq_true (by omega)) ?_
          refine jx (pc' := 417) (L' := [_, _, _, _, _, _, _, _]) (st' := [_, _, _, _]) 4 rfl ?_
          refine jgf (pc' := 420) K.ob rfl rfl rfl rfl rfl ?_
          refine jx (pc' := 421) (L' := [_, _, _, _, _, _, _, _]) (st' := [_, _, _, _, _]) 1 rfl ?_
          refine jR_m (pc' := 422) 9 K rfl rfl (by omega) (by omega)  rfl ?_
          refine jcv (pc' := 425) 208 [_, _, _] [] K.ob rfl rfl rfl rfl rfl rfl rfl rfl ?_
          refine m_roundR (W := pV low (rmR N P)) K (by rw [ev]; rfl) rfl fA hdr ⟨by omega, by omega⟩ (fun _ => rfl) fun h K => jk ?_
          refine ix_qr _ rfl rfl rfl ?_
          exact q _ K
        | succ n ih =>
          intro k hk h K
          have h1 := hf k (by omega)
          have hvk := v10_lt (f := f') (n := k) fun j hj => hf j (by omega)
          have e2 : v10 f' (k + 1) * 10 ^ (12500 + low).toNat = f' k * 10 ^ ((12500 + low).toNat + k) + v10 f' k * 10 ^ (12500 + low).toNat := by
            rw [v10_s, Nat.add_mul, Nat.mul_assoc (f' k), ← Nat.pow_add, Nat.add_comm k, Nat.add_comm]
          have hlt : v10 f' k * 10 ^ (12500 + low).toNat < 10 ^ ((12500 + low).toNat + k) := by
            rw [Nat.pow_add, Nat.mul_comm]
            exact Nat.mul_lt_mul_of_pos_left hvk (pp0 _)
          refine jx (pc' := 369) (L' := [_, _, _, _, _, _, _, _]) (st' := [_, _]) 2 rfl ?_
          refine jgf (pc' := 372) K.ob rfl rfl rfl rfl rfl ?_
          refine jcn (pc' := 375) 412 rfl rfl rfl rfl (by rw [zc_ge ⟨by omega, by omega⟩ ⟨by omega, by omega⟩]; exact decide_eq_false (by omega)) ?_
          refine jx (pc' := 376) (L' := [_, _, _, _, _, _, _, _]) (st' := [_]) 1 rfl ?_
          refine jgf (pc' := 379) K.ob rfl rfl rfl rfl rfl ?_
          refine jx (pc' := 381) (L' := [_, _, _, _, _, _, _, _]) (st' := [_, _]) 1 rfl ?_
          refine jR_e (pc' := 382) k K rfl rfl (by omega) (by omega)  rfl ?_
          by_cases h0 : f' k = 0
          · skip
            refine jit (pc' := 406) rfl rfl rfl (by rw [zz_eq ⟨by omega, by omega⟩]; exact decide_eq_true (by omega)) ?_
            refine jx (pc' := 366) (L' := [_, _, _, _, _, _, _, _]) (st' := []) 2 rfl ?_
            try simp (disch := omega) only [kz, kzl0, kzl1, kzb, kzs, zI_add, zI_sub, zI_neg, zI_mul, zL_i, zI_l, zL_add, zL_sub, zL_neg]
            rw [show (k : Int) + 1 = ((k + 1 : Nat) : Int) by omega]
            refine ih (k + 1) (by omega) h ?_
            rw [e2, h0, Nat.zero_mul, Nat.zero_add]
            exact K
          · skip
            refine jin (pc' := 385) 406 rfl rfl rfl rfl (by rw [zz_eq ⟨by omega, by omega⟩]; exact decide_eq_false (by omega)) ?_
            refine jx (pc' := 386) (L' := [_, _, _, _, _, _, _, _]) (st' := [_]) 1 rfl ?_
            refine jgf (pc' := 389) K.ob rfl rfl rfl rfl rfl ?_
            refine jx (pc' := 399) (L' := [_, _, _, _, _, _, _, _]) (st' := [_, _, _]) 6 rfl ?_
            try simp (disch := omega) only [kz, kzl0, kzl1, kzb, kzs, zI_add, zI_sub, zI_neg, zI_mul, zL_i, zI_l, zL_add, zL_sub, zL_neg]
            refine jgf (pc' := 402) K.ob rfl rfl rfl rfl rfl ?_
            refine jx (pc' := 404) (L' := [_, _, _, _, _, _, _, _]) (st' := [_, _, _, _]) 1 rfl ?_
            refine jR_e (pc' := 405) k K rfl rfl (by omega) (by omega)  rfl ?_
            refine jW_r (pc' := 406) (((12500+low).toNat+k)) ((f' k)) K (by first | rfl | (congr 1; omega)) rfl rfl (by omega) (by omega)  rfl (by omega) fun h K => ?_
            refine jx (pc' := 366) (L' := [_, _, _, _, _, _, _, _]) (st' := []) 2 rfl ?_
            try simp (disch := omega) only [kz, kzl0, kzl1, kzb, kzs, zI_add, zI_sub, zI_neg, zI_mul, zL_i, zI_l, zL_add, zL_sub, zL_neg]
            rw [show (k : Int) + 1 = ((k + 1 : Nat) : Int) by omega]
            refine ih (k + 1) (by omega) h ?_
            have e3 : sd (v10 f' k * 10 ^ (12500 + low).toNat) ((12500 + low).toNat + k) (f' k) = f' k * 10 ^ ((12500 + low).toNat + k) + v10 f' k * 10 ^ (12500 + low).toNat := by
              unfold sd
              rw [Nat.div_eq_of_lt (Nat.lt_of_lt_of_le hlt (pl (by omega))), Nat.mod_eq_of_lt hlt, Nat.zero_mul, Nat.zero_add]
            rw [e2, ← e3]
            exact K
      refine jx (pc' := 360) (L' := [_, _, _, _, _, _, _, _]) (st' := [_]) 1 rfl ?_
      refine jcv (pc' := 363) 204 [] [] K.ob rfl rfl rfl rfl rfl rfl rfl rfl ?_
      refine m_empty K fun h K => jk ?_
      refine jx (pc' := 366) (L' := [_, _, _, _, _, _, _, _]) (st' := []) 2 rfl ?_
      try simp (disch := omega) only [kz, kzl0, kzl1, kzb, kzs, zI_add, zI_sub, zI_neg, zI_mul, zL_i, zI_l, zL_add, zL_sub, zL_neg]
      refine loop _ 0 (Nat.zero_add _) h ?_
      rw [v10_0, Nat.zero_mul]
      exact K
    -- the quotient's digits
    have t305 : ∀ (h1 : ix_H) (f' pt' : Nat → Nat) (nn : Nat) (l6 : Int) (l7 : Option Value), nn < 10 → nn % 2 = N / P % 2 → (∀ j, j < dgs (R 10).2.2.2.2 + sB + 2 → f' j < 10) → (∀ j, j < dgs (R 10).2.2.2.2 + sB + 2 → pt' j < 10) → v10 pt' (dgs (R 10).2.2.2.2 + sB + 2) = P → v10 f' (dgs (R 10).2.2.2.2 + sB + 2) = N % P → (RI S0 h1 R V cd dr ra si tr mo ng (dgs (R 10).2.2.2.2 + sB + 2) sz wr il (f') (pt') rl wo tx ou) → ix_E 227 305 [some (.ref 98), some (.int (zI 9)), some (.int (zI 10)), some (.int (zI (R 9).1)), some (.int (zI low)), some (.int (zI (nn : Int))), some (.int (zI l6)), l7] [] h1 Q := by
      intro h f' pt' nn l6 l7 hnn hpar hf hp ep er K
      have hml := Nat.mod_lt N hPp
      have hP10 : (10 : Nat) ^ (dgs (R 10).2.2.2.2 + sB + 2) = 100 * 10 ^ (dgs (R 10).2.2.2.2 + sB) := by rw [Nat.pow_add, Nat.mul_comm]
      refine jx (pc' := 307) (L' := [_, _, _, _, _, _, _, _]) (st' := [_, _]) 2 rfl ?_
      refine jgf (pc' := 310) K.ob rfl rfl rfl rfl rfl ?_
      refine jx (pc' := 311) (L' := [_, _, _, _, _, _, _, _]) (st' := [_, _, _]) 1 rfl ?_
      refine jR_m (pc' := 312) 9 K rfl rfl (by omega) (by omega)  rfl ?_
      refine jp_ng (pc' := 315) ((R 9).2.2.1) K (by first | rfl | (congr 1; omega)) rfl rfl rfl rfl fun h K => ?_
      refine jx (pc' := 316) (L' := [_, _, _, _, _, _, _, _]) (st' := [_]) 1 rfl ?_
      refine jcv (pc' := 319) 228 [] [] K.ob rfl rfl rfl rfl rfl rfl rfl rfl ?_
      refine m_twice K (by omega) hf hp (by rw [er, hP10]; omega) fun h rl' w hw w1 w2 K => jk ?_
      rw [ep, er] at w1 w2
      refine jx (pc' := 323) (L' := [_, _, _, _, _, _, _, _]) (st' := [_]) 2 rfl ?_
      have t339 : rmU N P = true → ix_E 227 339 [some (.ref 98), some (.int (zI 9)), some (.int (zI 10)), some (.int (zI (R 9).1)), some (.int (zI low)), some (.int (zI (nn : Int))), some (.int (zI w)), l7] [] h Q := by
        intro hu
        refine jx (pc' := 340) (L' := [_, _, _, _, _, _, _, _]) (st' := [_]) 1 rfl ?_
        refine jcv (pc' := 343) 229 [] [] K.ob rfl rfl rfl rfl rfl rfl rfl rfl ?_
        refine m_turn K (by omega) hf hp (by rw [er, ep]; omega) fun h rs' hr' er' K => jk ?_
        refine jx (pc' := 345) (L' := [_, _, _, _, _, _, _, _]) (st' := [_, _]) 2 rfl ?_
        refine jgf (pc' := 348) K.ob rfl rfl rfl rfl rfl ?_
        have fin : ∀ h1, (RI S0 h1 R V cd dr ra si tr mo (!(R 9).2.2.1) (dgs (R 10).2.2.2.2 + sB + 2) sz wr il (rs') (pt') (rl') wo tx ou) → ix_E 227 359 [some (.ref 98), some (.int (zI 9)), some (.int (zI 10)), some (.int (zI (R 9).1)), some (.int (zI low)), some (.int (zI (nn : Int))), some (.int (zI w)), l7] [] h1 Q := fun h K => by
          refine t359 h rs' pt' rl' _ _ _ hr' ?_ ?_
          · unfold rmR
            rw [hu, if_pos rfl, er', ep, er]
          · rw [hu, if_pos rfl]
            exact K
        cases hnA : (R 9).2.2.1
        · rw [hnA] at K fin
          refine jin (pc' := 351) 355 rfl rfl rfl rfl (by rfl) ?_
          refine jx (pc' := 356) (L' := [_, _, _, _, _, _, _, _]) (st' := [.int (zI 1), _]) 2 rfl ?_
          refine jp_ng (pc' := 359) true K rfl rfl rfl rfl rfl fun h K => ?_
          exact fin h K
        · rw [hnA] at K fin
          refine jit (pc' := 355) rfl rfl rfl (by rfl) ?_
          refine jx (pc' := 356) (L' := [_, _, _, _, _, _, _, _]) (st' := [.int (zI 0), _]) 1 rfl ?_
          refine jp_ng (pc' := 359) false K rfl rfl rfl rfl rfl fun h K => ?_
          exact fin h K
      have t359' : rmU N P = false → ix_E 227 359 [some (.ref 98), some (.int (zI 9)), some (.int (zI 10)), some (.int (zI (R 9).1)), some (.int (zI low)), some (.int (zI (nn : Int))), some (.int (zI w)), l7] [] h Q := by
        intro hu
        refine t359 h f' pt' rl' _ _ _ hf ?_ ?_
        · unfold rmR
          rw [hu, if_neg (by decide), er]
        · rw [hu, if_neg (by decide)]
          exact K
      by_cases h1 : 0 < w
      · skip
        refine jit (pc' := 339) rfl rfl rfl (by rw [zz_gt ⟨by omega, by omega⟩]; exact decide_eq_true (by omega)) ?_
        exact t339 (decide_eq_true (Or.inl (w1.mp h1)))
      · skip
        refine jin (pc' := 326) 339 rfl rfl rfl rfl (by rw [zz_gt ⟨by omega, by omega⟩]; exact decide_eq_false (by omega)) ?_
        refine jx (pc' := 328) (L' := [_, _, _, _, _, _, _, _]) (st' := [_]) 1 rfl ?_
        by_cases h2 : w = 0
        · skip
          refine jin (pc' := 331) 359 rfl rfl rfl rfl (by rw [zz_ne ⟨by omega, by omega⟩]; exact decide_eq_false (by omega)) ?_
          refine jx (pc' := 334) (L' := [_, _, _, _, _, _, _, _]) (st' := [.int (zI 2), _]) 2 rfl ?_
          refine jirem (pc' := 335) rfl rfl (by decide) rfl ?_
          rw [zrem ⟨by omega, by omega⟩ ⟨by omega, by omega⟩]
          refine jx (pc' := 336) (L' := [_, _, _, _, _, _, _, _]) (st' := [.int (zI 1), _]) 1 rfl ?_
          by_cases h3 : nn % 2 = 1
          · skip
            refine jcn (pc' := 339) 359 rfl rfl rfl rfl (by rw [zc_ne ⟨by omega, by omega⟩ ⟨by omega, by omega⟩]; exact decide_eq_false (by omega)) ?_
            exact t339 (decide_eq_true (Or.inr ⟨(w2.mp h2).symm, by omega⟩))
          · skip
            refine jct (pc' := 359) rfl rfl rfl (by rw [zc_ne ⟨by omega, by omega⟩ ⟨by omega, by omega⟩]; exact decide_eq_true (by omega)) ?_
            exact t359' (decide_eq_false (fun z => by
              rcases z with z | z
              · exact h1 (w1.mpr z)
              · omega))
        · skip
          refine jit (pc' := 359) rfl rfl rfl (by rw [zz_ne ⟨by omega, by omega⟩]; exact decide_eq_true (by omega)) ?_
          exact t359' (decide_eq_false (fun z => by
            rcases z with z | z
            · exact h1 (w1.mpr z)
            · exact h2 (w2.mpr z.1.symm)))
    have t253 : ∀ m : Nat, m ≤ sA + 40 → ∀ (h1 : ix_H) (f' pt' : Nat → Nat) (nn : Nat) (l7 : Option Value), nn < 10 → nn % 2 = N / 10 ^ m / P % 2 → (∀ j, j < dgs (R 10).2.2.2.2 + sB + 2 → f' j < 10) → (∀ j, j < dgs (R 10).2.2.2.2 + sB + 2 → pt' j < 10) → v10 pt' (dgs (R 10).2.2.2.2 + sB + 2) = P → v10 f' (dgs (R 10).2.2.2.2 + sB + 2) = N / 10 ^ m % P → (RI S0 h1 R V cd dr ra si tr mo ng (dgs (R 10).2.2.2.2 + sB + 2) sz wr il (f') (pt') rl wo tx ou) → ix_E 227 253 [some (.ref 98), some (.int (zI 9)), some (.int (zI 10)), some (.int (zI (R 9).1)), some (.int (zI low)), some (.int (zI (nn : Int))), some (.int (zI ((m : Int) - 1))), l7] [] h1 Q := by
      intro m
      induction m with
      | zero =>
        intro hm h f' pt' nn l7 hnn hpar hf hp ep er K
        rw [Nat.pow_zero, Nat.div_one] at hpar er
        refine jx (pc' := 255) (L' := [_, _, _, _, _, _, _, _]) (st' := [_]) 1 rfl ?_
        refine jit (pc' := 305) rfl rfl rfl (by rw [zz_lt ⟨by omega, by omega⟩]; exact decide_eq_true (by omega)) ?_
        exact t305 h f' pt' nn _ l7 hnn hpar hf hp ep er K
      | succ m ih =>
        intro hm h f' pt' nn l7 hnn hpar hf hp ep er K
        have hds := div_s N m
        have hml := Nat.mod_lt (N / 10 ^ (m + 1)) hPp
        have hdg := dg_b N m
        have hP10 : (10 : Nat) ^ (dgs (R 10).2.2.2.2 + sB + 2 - 1) = 10 * 10 ^ (dgs (R 10).2.2.2.2 + sB) := by rw [show dgs (R 10).2.2.2.2 + sB + 2 - 1 = dgs (R 10).2.2.2.2 + sB + 1 by omega, Nat.pow_succ, Nat.mul_comm]
        have t294 : ∀ dd : Nat, dd = N / 10 ^ m % 10 → ix_E 227 294 [some (.ref 98), some (.int (zI 9)), some (.int (zI 10)), some (.int (zI (R 9).1)), some (.int (zI low)), some (.int (zI (nn : Int))), some (.int (zI (((m + 1 : Nat) : Int) - 1))), l7] [.int (zI (dd : Int)), .ref 98] h Q := by
          intro dd hdd
          refine jcv (pc' := 297) 223 [_] [] K.ob rfl rfl rfl rfl rfl rfl rfl rfl ?_
          refine m_often (d := dd) K rfl (by omega) (by omega) (by omega) hf hp (by rw [er, ep]; exact hml) (by rw [er, hP10]; omega) fun h rs' hr' er' h10 K => jk ?_
          rw [er, ep] at er' h10 ⊢
          rw [← hdd] at hds
          obtain ⟨s1, s2⟩ := dv_step (N := N / 10 ^ (m + 1)) (d := dd) hPp rfl
          generalize hnq : (10 * (N / 10 ^ (m + 1) % P) + dd) / P = n' at *
          refine jx (pc' := 253) (L' := [_, _, _, _, _, _, _, _]) (st' := []) 3 rfl ?_
          try simp (disch := omega) only [kz, kzl0, kzl1, kzb, kzs, zI_add, zI_sub, zI_neg, zI_mul, zL_i, zI_l, zL_add, zL_sub, zL_neg]
          rw [show ((m + 1 : Nat) : Int) - 1 + -1 = (m : Int) - 1 by omega]
          refine ih (by omega) h rs' pt' n' l7 h10 ?_ hr' hp ep ?_ K
          · rw [hds, s1]
            generalize N / 10 ^ (m + 1) / P = y
            omega
          · rw [er', hds, s2]
        refine jx (pc' := 255) (L' := [_, _, _, _, _, _, _, _]) (st' := [_]) 1 rfl ?_
        refine jin (pc' := 258) 305 rfl rfl rfl rfl (by rw [zz_lt ⟨by omega, by omega⟩]; exact decide_eq_false (by omega)) ?_
        refine jx (pc' := 262) (L' := [_, _, _, _, _, _, _, _]) (st' := [_, _, _]) 3 rfl ?_
        refine jgf (pc' := 265) K.ob rfl rfl rfl rfl rfl ?_
        refine jx (pc' := 266) (L' := [_, _, _, _, _, _, _, _]) (st' := [_, _, _, _]) 1 rfl ?_
        refine jR_p (pc' := 267) 9 K rfl rfl (by omega) (by omega)  rfl ?_
        refine jx (pc' := 270) (L' := [_, _, _, _, _, _, _, _]) (st' := [_, _, _]) 2 rfl ?_
        try simp (disch := omega) only [kz, kzl0, kzl1, kzb, kzs, zI_add, zI_sub, zI_neg, zI_mul, zL_i, zI_l, zL_add, zL_sub, zL_neg]
        by_cases h0 : (sA : Int) ≤ (m : Int)
        · skip
          refine jcn (pc' := 273) 293 rfl rfl rfl rfl (by rw [zc_lt ⟨by omega, by omega⟩ ⟨by omega, by omega⟩]; exact decide_eq_false (by omega)) ?_
          refine jx (pc' := 278) (L' := [_, _, _, _, _, _, _, _]) (st' := [_, _, _, _, _]) 4 rfl ?_
          refine jgf (pc' := 281) K.ob rfl rfl rfl rfl rfl ?_
          refine jx (pc' := 282) (L' := [_, _, _, _, _, _, _, _]) (st' := [_, _, _, _, _, _]) 1 rfl ?_
          refine jR_p (pc' := 283) 9 K rfl rfl (by omega) (by omega)  rfl ?_
          refine jx (pc' := 287) (L' := [_, _, _, _, _, _, _, _]) (st' := [_, _, _, _]) 3 rfl ?_
          try simp (disch := omega) only [kz, kzl0, kzl1, kzb, kzs, zI_add, zI_sub, zI_neg, zI_mul, zL_i, zI_l, zL_add, zL_sub, zL_neg]
          refine jcv (pc' := 290) 198 [_, _] [_] K.ob rfl rfl rfl rfl rfl rfl rfl rfl ?_
          refine m_at K rfl (by decide) ⟨by omega, by omega⟩ (jk ?_)
          refine jx (pc' := 294) (L' := [_, _, _, _, _, _, _, _]) (st' := [_, _]) 1 rfl ?_
          refine t294 _ ?_
          have := dN m
          rw [if_pos h0] at this
          rw [← this]
          congr 1
          omega
        · skip
          refine jct (pc' := 293) rfl rfl rfl (by rw [zc_lt ⟨by omega, by omega⟩ ⟨by omega, by omega⟩]; exact decide_eq_true (by omega)) ?_
          refine jx (pc' := 294) (L' := [_, _, _, _, _, _, _, _]) (st' := [.int (zI 0), _]) 1 rfl ?_
          refine t294 0 ?_
          have := dN m
          rw [if_neg h0] at this
          exact this
    have t213 : ∀ (h1 : ix_H) (rs' pt' : Nat → Nat) (l5 : Int), (∀ j, j < 130 → rs' j = 0) → (∀ j, j < 130 → pt' j = P / 10 ^ j % 10) → (RI S0 h1 R V cd dr ra si tr mo ng (130) sz wr il (rs') (pt') rl wo tx ou) → ix_E 227 213 [some (.ref 98), some (.int (zI 9)), some (.int (zI 10)), some (.int (zI (R 9).1)), some (.int (zI low)), some (.int (zI l5)), none, none] [] h1 Q := by
      intro h rs' pt' l5 hr hp K
      refine jx (pc' := 216) (L' := [_, _, _, _, _, _, _, _]) (st' := [_, _, _]) 3 rfl ?_
      refine jcv (pc' := 219) 178 [_] [_] K.ob rfl rfl rfl rfl rfl rfl rfl rfl ?_
      refine m_many (r := 10) K rfl (by decide) fun hd => jk ?_
      refine jx (pc' := 220) (L' := [_, _, _, _, _, _, _, _]) (st' := [_, _, _]) 1 rfl ?_
      refine jgf (pc' := 223) K.ob rfl rfl rfl rfl rfl ?_
      refine jx (pc' := 224) (L' := [_, _, _, _, _, _, _, _]) (st' := [_, _, _, _]) 1 rfl ?_
      refine jR_p (pc' := 225) 10 K rfl rfl (by omega) (by omega)  rfl ?_
      refine jx (pc' := 231) (L' := [_, _, _, _, _, _, _, _]) (st' := [_, _]) 5 rfl ?_
      try simp (disch := omega) only [kz, kzl0, kzl1, kzb, kzs, zI_add, zI_sub, zI_neg, zI_mul, zL_i, zI_l, zL_add, zL_sub, zL_neg]
      refine jp_sp (pc' := 234) ((dgs (R 10).2.2.2.2 + sB + 2)) K (by first | rfl | (congr 1; omega)) rfl rfl rfl rfl fun h K => ?_
      refine jx (pc' := 238) (L' := [_, _, _, _, _, _, _, _]) (st' := [_]) 3 rfl ?_
      try simp (disch := omega) only [kz, kzl0, kzl1, kzb, kzs, zI_add, zI_sub, zI_neg, zI_mul, zL_i, zI_l, zL_add, zL_sub, zL_neg]
      refine jgf (pc' := 241) K.ob rfl rfl rfl rfl rfl ?_
      refine jx (pc' := 242) (L' := [_, _, _, _, _, _, _, _]) (st' := [_, _]) 1 rfl ?_
      refine jR_p (pc' := 243) 9 K rfl rfl (by omega) (by omega)  rfl ?_
      refine jx (pc' := 253) (L' := [_, _, _, _, _, _, _, _]) (st' := []) 7 rfl ?_
      try simp (disch := omega) only [kz, kzl0, kzl1, kzb, kzs, zI_add, zI_sub, zI_neg, zI_mul, zL_i, zI_l, zL_add, zL_sub, zL_neg]
      rw [show (R 9).2.2.2.1 - low + 40 - 1 = ((sA + 40 : Nat) : Int) - 1 by omega]
      have hz : N / 10 ^ (sA + 40) = 0 := Nat.div_eq_of_lt hNl
      have hv0 : v10 rs' (dgs (R 10).2.2.2.2 + sB + 2) = 0 := by
        have := v10_cg (f := rs') (g := fun j => 0 / 10 ^ j % 10) (n := dgs (R 10).2.2.2.2 + sB + 2) fun j hj => by rw [hr j (by omega), Nat.zero_div]
        rw [this, v10_of, Nat.zero_mod]
      refine t253 (sA + 40) (Nat.le_refl _) h rs' pt' 0 _ (by decide) ?_ (fun j hj => by rw [hr j (by omega)]; decide) (fun j hj => by rw [hp j (by omega)]; exact dg_b _ _) ?_ ?_ K
      · rw [hz, Nat.zero_div]
      · rw [v10_cg (g := fun j => P / 10 ^ j % 10) fun j hj => hp j (by omega), v10_of]
        exact Nat.mod_eq_of_lt (Nat.lt_of_lt_of_le hPl (pl (by omega)))
      · rw [hv0, hz, Nat.zero_mod]
    have t160 : ∀ n : Nat, n ≤ 130 → ∀ (h1 : ix_H) (rs' pt' : Nat → Nat), (∀ j, j < 130 → rs' j = 0) → (∀ j, n ≤ j → j < 130 → pt' j = P / 10 ^ j % 10) → (RI S0 h1 R V cd dr ra si tr mo ng (130) sz wr il (rs') (pt') rl wo tx ou) → ix_E 227 160 [some (.ref 98), some (.int (zI 9)), some (.int (zI 10)), some (.int (zI (R 9).1)), some (.int (zI low)), some (.int (zI ((n : Int) - 1))), none, none] [] h1 Q := by
      intro n
      induction n with
      | zero =>
        intro hn h rs' pt' hr hp K
        refine jx (pc' := 162) (L' := [_, _, _, _, _, _, _, _]) (st' := [_]) 1 rfl ?_
        refine jit (pc' := 213) rfl rfl rfl (by rw [zz_lt ⟨by omega, by omega⟩]; exact decide_eq_true (by omega)) ?_
        exact t213 h rs' pt' _ hr (fun j hj => hp j (by omega) hj) K
      | succ n ih =>
        intro hn h rs' pt' hr hp K
        have hdg := dg_b P n
        have t206 : ∀ dd : Nat, dd = P / 10 ^ n % 10 → ix_E 227 206 [some (.ref 98), some (.int (zI 9)), some (.int (zI 10)), some (.int (zI (R 9).1)), some (.int (zI low)), some (.int (zI (((n + 1 : Nat) : Int) - 1))), none, none] [.int (zI (dd : Int)), .int (zI (((n + 1 : Nat) : Int) - 1)), .ref 106] h Q := by
          intro dd hdd
          refine jW_t (pc' := 207) n dd K rfl rfl rfl (by omega) (by omega) rfl fun h K => ?_
          refine jx (pc' := 160) (L' := [_, _, _, _, _, _, _, _]) (st' := []) 2 rfl ?_
          try simp (disch := omega) only [kz, kzl0, kzl1, kzb, kzs, zI_add, zI_sub, zI_neg, zI_mul, zL_i, zI_l, zL_add, zL_sub, zL_neg]
          rw [show ((n + 1 : Nat) : Int) - 1 + -1 = (n : Int) - 1 by omega]
          refine ih (by omega) h rs' _ hr (fun j h1 h2 => ?_) K
          by_cases z : j = n
          · rw [z, va_up_self, hdd]
          · rw [va_up_ne _ _ z]
            exact hp j (by omega) h2
        refine jx (pc' := 162) (L' := [_, _, _, _, _, _, _, _]) (st' := [_]) 1 rfl ?_
        refine jin (pc' := 165) 213 rfl rfl rfl rfl (by rw [zz_lt ⟨by omega, by omega⟩]; exact decide_eq_false (by omega)) ?_
        refine jx (pc' := 166) (L' := [_, _, _, _, _, _, _, _]) (st' := [_]) 1 rfl ?_
        refine jgf (pc' := 169) K.ob rfl rfl rfl rfl rfl ?_
        refine jx (pc' := 174) (L' := [_, _, _, _, _, _, _, _]) (st' := [_, _, _, _]) 3 rfl ?_
        refine jgf (pc' := 177) K.ob rfl rfl rfl rfl rfl ?_
        refine jx (pc' := 178) (L' := [_, _, _, _, _, _, _, _]) (st' := [_, _, _, _, _]) 1 rfl ?_
        refine jR_p (pc' := 179) 10 K rfl rfl (by omega) (by omega)  rfl ?_
        refine jx (pc' := 182) (L' := [_, _, _, _, _, _, _, _]) (st' := [_, _, _, _]) 2 rfl ?_
        try simp (disch := omega) only [kz, kzl0, kzl1, kzb, kzs, zI_add, zI_sub, zI_neg, zI_mul, zL_i, zI_l, zL_add, zL_sub, zL_neg]
        by_cases h0 : (sB : Int) ≤ (n : Int)
        · skip
          refine jcn (pc' := 185) 205 rfl rfl rfl rfl (by rw [zc_lt ⟨by omega, by omega⟩ ⟨by omega, by omega⟩]; exact decide_eq_false (by omega)) ?_
          refine jx (pc' := 190) (L' := [_, _, _, _, _, _, _, _]) (st' := [_, _, _, _, _, _]) 4 rfl ?_
          refine jgf (pc' := 193) K.ob rfl rfl rfl rfl rfl ?_
          refine jx (pc' := 194) (L' := [_, _, _, _, _, _, _, _]) (st' := [_, _, _, _, _, _, _]) 1 rfl ?_
          refine jR_p (pc' := 195) 10 K rfl rfl (by omega) (by omega)  rfl ?_
          refine jx (pc' := 199) (L' := [_, _, _, _, _, _, _, _]) (st' := [_, _, _, _, _]) 3 rfl ?_
          try simp (disch := omega) only [kz, kzl0, kzl1, kzb, kzs, zI_add, zI_sub, zI_neg, zI_mul, zL_i, zI_l, zL_add, zL_sub, zL_neg]
          refine jcv (pc' := 202) 198 [_, _] [_, _] K.ob rfl rfl rfl rfl rfl rfl rfl rfl ?_
          refine m_at K rfl (by decide) ⟨by omega, by omega⟩ (jk ?_)
          refine jx (pc' := 206) (L' := [_, _, _, _, _, _, _, _]) (st' := [_, _, _]) 1 rfl ?_
          refine t206 _ ?_
          have := dP n
          rw [if_pos h0] at this
          rw [← this]
          congr 1
          omega
        · skip
          refine jct (pc' := 205) rfl rfl rfl (by rw [zc_lt ⟨by omega, by omega⟩ ⟨by omega, by omega⟩]; exact decide_eq_true (by omega)) ?_
          refine jx (pc' := 206) (L' := [_, _, _, _, _, _, _, _]) (st' := [.int (zI 0), _, _]) 1 rfl ?_
          refine t206 0 ?_
          have := dP n
          rw [if_neg h0] at this
          exact this
    refine jx (pc' := 131) (L' := [_, _, _, _, _, _, _, _]) (st' := [_]) 1 rfl ?_
    refine jgf (pc' := 134) K.ob rfl rfl rfl rfl rfl ?_
    refine jx (pc' := 135) (L' := [_, _, _, _, _, _, _, _]) (st' := [_, _]) 1 rfl ?_
    refine jR_p (pc' := 136) 9 K rfl rfl (by omega) (by omega)  rfl ?_
    refine jx (pc' := 137) (L' := [_, _, _, _, _, _, _, _]) (st' := [_, _]) 1 rfl ?_
    refine jgf (pc' := 140) K.ob rfl rfl rfl rfl rfl ?_
    refine jx (pc' := 141) (L' := [_, _, _, _, _, _, _, _]) (st' := [_, _, _]) 1 rfl ?_
    refine jR_p (pc' := 142) 10 K rfl rfl (by omega) (by omega)  rfl ?_
    refine jcs (pc' := 145) 274 [_, _] [] rfl rfl rfl rfl rfl rfl rfl rfl ?_
    refine c_minI ⟨by omega, by omega⟩ ⟨by omega, by omega⟩ (jk ?_)
    rw [hlow]
    refine jx (pc' := 149) (L' := [_, _, _, _, _, _, _, _]) (st' := [_, _]) 3 rfl ?_
    refine jcv (pc' := 152) 222 [_] [] K.ob rfl rfl rfl rfl rfl rfl rfl rfl ?_
    refine m_beginDivision (a := 10) K rfl (by decide) fun h rs' pt' h1 h2 e1 e2 K => jk ?_
    refine jx (pc' := 153) (L' := [_, _, _, _, _, _, _, _]) (st' := [_]) 1 rfl ?_
    refine jgf (pc' := 156) K.ob rfl rfl rfl rfl rfl ?_
    refine jx (pc' := 160) (L' := [_, _, _, _, _, _, _, _]) (st' := []) 3 rfl ?_
    try simp (disch := omega) only [kz, kzl0, kzl1, kzb, kzs, zI_add, zI_sub, zI_neg, zI_mul, zL_i, zI_l, zL_add, zL_sub, zL_neg]
    exact t160 130 (Nat.le_refl _) h rs' pt' (v10_z e1) (fun j h1 h2 => by omega) K
  refine jx (pc' := 1) (L' := [_, _, _, _, _, _, _, _]) (st' := [_]) 1 rfl ?_
  refine jgf (pc' := 4) K.ob rfl rfl rfl rfl rfl ?_
  refine jx (pc' := 5) (L' := [_, _, _, _, _, _, _, _]) (st' := [_, _]) 1 rfl ?_
  refine jR_f (pc' := 6) 9 K rfl rfl (by omega) (by omega)  rfl ?_
  refine jx (pc' := 8) (L' := [_, _, _, _, _, _, _, _]) (st' := [_]) 2 rfl ?_
  refine jgf (pc' := 11) K.ob rfl rfl rfl rfl rfl ?_
  refine jx (pc' := 12) (L' := [_, _, _, _, _, _, _, _]) (st' := [_, _]) 1 rfl ?_
  refine jR_so (pc' := 13) 9 K rfl rfl (by omega) (by omega)  rfl ?_
  refine jx (pc' := 14) (L' := [_, _, _, _, _, _, _, _]) (st' := [.int (zI 1), _]) 1 rfl ?_
  by_cases e : (R 9).2.1 = 1
  · have e1 := swp_1.mpr e
    refine jct (pc' := 25) rfl rfl rfl (by rw [zc_eq ⟨by omega, by omega⟩ ⟨by omega, by omega⟩]; exact decide_eq_true (by omega)) ?_
    exact t25 (Or.inl e)
  · have e1 : ¬ swp (R 9).2.1 = 1 := fun z => e (swp_1.mp z)
    refine jcn (pc' := 17) 25 rfl rfl rfl rfl (by rw [zc_eq ⟨by omega, by omega⟩ ⟨by omega, by omega⟩]; exact decide_eq_false (by omega)) ?_
    refine jx (pc' := 19) (L' := [_, _, _, _, _, _, _, _]) (st' := [_, _]) 2 rfl ?_
    refine jcv (pc' := 22) 197 [_] [] K.ob rfl rfl rfl rfl rfl rfl rfl rfl ?_
    refine m_isZero (r := 10) K rfl (by decide) (jk ?_)
    by_cases hz : (R 10).2.1 = 0 ∧ (R 10).2.2.2.2 = 0
    · skip
      refine jin (pc' := 25) 31 rfl rfl rfl rfl (by rw [bz_eq, decide_eq_true hz]; rfl) ?_
      exact t25 (Or.inr hz)
    · skip
      refine jit (pc' := 31) rfl rfl rfl (by rw [bz_eq, decide_eq_false hz]; rfl) ?_
      refine jx (pc' := 32) (L' := [_, _, _, _, _, _, _, _]) (st' := [_]) 1 rfl ?_
      refine jgf (pc' := 35) K.ob rfl rfl rfl rfl rfl ?_
      refine jx (pc' := 36) (L' := [_, _, _, _, _, _, _, _]) (st' := [_, _]) 1 rfl ?_
      refine jR_so (pc' := 37) 10 K rfl rfl (by omega) (by omega)  rfl ?_
      refine jx (pc' := 38) (L' := [_, _, _, _, _, _, _, _]) (st' := [.int (zI 1), _]) 1 rfl ?_
      by_cases e2 : (R 10).2.1 = 1
      · have e3 := swp_1.mpr e2
        refine jct (pc' := 59) rfl rfl rfl (by rw [zc_eq ⟨by omega, by omega⟩ ⟨by omega, by omega⟩]; exact decide_eq_true (by omega)) ?_
        exact t59 (fun z => z.elim e hz) (Or.inl e2)
      · have e3 : ¬ swp (R 10).2.1 = 1 := fun z => e2 (swp_1.mp z)
        refine jcn (pc' := 41) 59 rfl rfl rfl rfl (by rw [zc_eq ⟨by omega, by omega⟩ ⟨by omega, by omega⟩]; exact decide_eq_false (by omega)) ?_
        refine jx (pc' := 42) (L' := [_, _, _, _, _, _, _, _]) (st' := [_]) 1 rfl ?_
        refine jgf (pc' := 45) K.ob rfl rfl rfl rfl rfl ?_
        refine jx (pc' := 46) (L' := [_, _, _, _, _, _, _, _]) (st' := [_, _]) 1 rfl ?_
        refine jR_p (pc' := 47) 10 K rfl rfl (by omega) (by omega)  rfl ?_
        refine jx (pc' := 48) (L' := [_, _, _, _, _, _, _, _]) (st' := [_, _]) 1 rfl ?_
        refine jgf (pc' := 51) K.ob rfl rfl rfl rfl rfl ?_
        refine jx (pc' := 52) (L' := [_, _, _, _, _, _, _, _]) (st' := [_, _, _]) 1 rfl ?_
        refine jR_p (pc' := 53) 9 K rfl rfl (by omega) (by omega)  rfl ?_
        refine jx (pc' := 56) (L' := [_, _, _, _, _, _, _, _]) (st' := [.int (zI 80), _]) 2 rfl ?_
        try simp (disch := omega) only [kz, kzl0, kzl1, kzb, kzs, zI_add, zI_sub, zI_neg, zI_mul, zL_i, zI_l, zL_add, zL_sub, zL_neg]
        by_cases e4 : 80 < (R 10).2.2.2.1 - (R 9).2.2.2.1
        · skip
          refine jcn (pc' := 59) 130 rfl rfl rfl rfl (by rw [zc_le ⟨by omega, by omega⟩ ⟨by omega, by omega⟩]; exact decide_eq_false (by omega)) ?_
          exact t59 (fun z => z.elim e hz) (Or.inr e4)
        · skip
          refine jct (pc' := 130) rfl rfl rfl (by rw [zc_le ⟨by omega, by omega⟩ ⟨by omega, by omega⟩]; exact decide_eq_true (by omega)) ?_
          exact t130 (fun z => z.elim e hz) (fun z => z.elim e2 e4)
end REF
