/-! ===== the reference: decode, load ===== -/
def plB (f : Nat) : Nat := [20, 50, 110].getD f 0
noncomputable def dpc (c m : Nat) : Nat := if m < dgs c then 0 else c
noncomputable def dcX (f X : Nat) : Nat × Int × Nat :=
  if X / 2 ^ (fWd f - 5) % 2 ^ 4 = 15 then ((if X / 2 ^ (fWd f - 6) % 2 = 1 then (if X / 2 ^ (fWd f - 7) % 2 = 1 then 2 else 3) else 1), 0, dpc (if X / 2 ^ (fWd f - 6) % 2 = 1 then X % 2 ^ plB f else 0) (fD f - 1)) else
  if X / 2 ^ (fWd f - 5) % 2 ^ 4 / 4 = 3 then (0, ((X / 2 ^ (fWd f - 3 - fFd f) % 2 ^ fFd f : Nat) : Int) - fB f, dpc (4 * 2 ^ (fWd f - 3 - fFd f) + X % 2 ^ (fWd f - 3 - fFd f)) (fD f)) else
  (0, ((X / 2 ^ (fWd f - 1 - fFd f) % 2 ^ fFd f : Nat) : Int) - fB f, dpc (X % 2 ^ (fWd f - 1 - fFd f)) (fD f))
theorem f3w {f : Nat} (h : f < 3) : fWd f = 32 * fN f ∧ 1 ≤ fN f ∧ fN f ≤ 4 ∧ 8 ≤ fFd f ∧ fFd f ≤ 14 ∧ fFd f = fW f ∧ plB f = fP f + 32 * (fN f - 1) ∧ plB f ≤ 110 ∧ plB f ≤ fWd f := by
  rcases f3 h with z | z | z <;> subst z <;> decide
theorem p40 {m : Nat} (h : m ≤ 120) : (4 + 1) * 2 ^ m ≤ 10 ^ 40 := by
  have h1 : (2 : Nat) ^ m ≤ 2 ^ 120 := Nat.pow_le_pow_right (by decide) h
  have h2 : (4 + 1) * 2 ^ 120 ≤ 10 ^ 40 := by decide
  omega
section REF
variable {h : ix_H} {Q : ix_O → ix_H → Prop} {S0 : Nat → AC} {R F : Nat → Dm} {V cd dr ra si tr : Nat} {mo ng : Bool} {sp sz wr : Nat} {il : Bool} {rs pt rl wo tx ou : Nat → Nat} {j x y z w a0 b0 k0 c0 : Int} {r f s m a c k n X : Nat} {b t : Bool}
theorem m_decode {r0 f0 : Int} (K : (RI S0 h R V cd dr ra si tr mo ng sp sz wr il rs pt rl wo tx ou)) (W : Wn (fN f) wo X) (hr0 : r0 = (r : Int)) (hr : r < 12) (hf0 : f0 = (f : Int)) (hf : f < 3) (q : ∀ h', (RI S0 h' (va_up R r (f, (dcX f X).1, decide (X / 2 ^ (fWd f - 1) % 2 = 1), (dcX f X).2.1, (dcX f X).2.2)) V cd dr ra si tr mo ng sp sz wr il rs pt rl wo tx ou) → Q (.inl none) h') : ix_M 170 [.ref 98, .int (zI r0), .int (zI f0)] h Q := by
  subst hr0
  subst hf0
  obtain ⟨w1, w2, w3, w4', w5, w6, w7, w8, w9⟩ := f3w hf
  have fb := f3b hf
  unfold dcX at q
  generalize hsg : decide (X / 2 ^ (fWd f - 1) % 2 = 1) = sg at *
  have hfour : X / 2 ^ (fWd f - 5) % 2 ^ 4 < 16 := Nat.mod_lt _ (by decide)
  -- no number
  have t55 : X / 2 ^ (fWd f - 5) % 2 ^ 4 = 15 → ∀ (h1 : ix_H) (d0 : Dm), (RI S0 h1 (va_up R r (f, d0.2.1, sg, 0, d0.2.2.2.2)) V cd dr ra si tr mo ng sp sz wr il rs pt rl wo tx ou) → ix_E 170 55 [some (.ref 98), some (.int (zI (r : Int))), some (.int (zI (f : Int))), some (.int (zI (fWd f))), some (.int (zI (fFd f))), some (.int (zI ((X / 2 ^ (fWd f - 5) % 2 ^ 4 : Nat) : Int))), none, none] [] h1 Q := by
    intro h15 h d0 K
    rw [if_pos h15] at q
    have rv := K.rv hr
    rw [va_up_self] at rv
    have t129 : ∀ (h1 : ix_H) (so : Nat) (nn : Bool) (m : Nat), so < 4 → so = (if X / 2 ^ (fWd f - 6) % 2 = 1 then (if X / 2 ^ (fWd f - 7) % 2 = 1 then 2 else 3) else 1) → X % 2 ^ m = (if X / 2 ^ (fWd f - 6) % 2 = 1 then X % 2 ^ plB f else 0) → m ≤ 110 → m ≤ fWd f → (RI S0 h1 (va_up R r (f, so, sg, 0, d0.2.2.2.2)) V cd dr ra si tr mo ng sp sz wr il rs pt rl wo tx ou) → ix_E 170 129 [some (.ref 98), some (.int (zI (r : Int))), some (.int (zI (f : Int))), some (.int (zI (fWd f))), some (.int (zI (fFd f))), some (.int (zI ((X / 2 ^ (fWd f - 5) % 2 ^ 4 : Nat) : Int))), some (.int (bI nn)), none] [.int (zI 0), .int (zI (m : Int)), .int (zI (r : Int)), .ref 98] h1 Q := by
      intro h so nn m hso4 hso hm hm110 hmw K
      refine jcv (pc' := 132) 174 [_, _, _] [] K.ob rfl rfl rfl rfl rfl rfl rfl rfl ?_
      refine m_fromBits (bf := 0) K W w3 rfl hr rfl rfl (by omega) (by decide) (Nat.le_trans (Nat.mul_le_mul_right _ (by decide)) (p40 (m := m) (by omega))) fun h K => jk ?_
      rw [va_up_self, va_up_up, Nat.zero_mul, Nat.zero_add, hm] at K
      refine jx (pc' := 135) (L' := [_, _, _, _, _, _, _, _]) (st' := [_, _, _]) 3 rfl ?_
      refine jcs (pc' := 138) 176 [_] [_, _] rfl rfl rfl rfl rfl rfl rfl rfl ?_
      refine m_digitsOf rfl hf (jk ?_)
      refine jx (pc' := 140) (L' := [_, _, _, _, _, _, _, _]) (st' := [_, _, _]) 2 rfl ?_
      try simp (disch := omega) only [kz, kzl0, kzl1, kzb, kzs, zI_add, zI_sub, zI_neg, zI_mul, zL_i, zI_l, zL_add, zL_sub, zL_neg]
      refine jcv (pc' := 143) 177 [_, _] [] K.ob rfl rfl rfl rfl rfl rfl rfl rfl ?_
      refine m_drop (m := fD f - 1) K rfl hr (by omega) (by omega) fun h K => jk ?_
      rw [va_up_self, va_up_up] at K
      refine ix_qr _ rfl rfl rfl ?_
      rw [hso] at K
      exact q _ K
    have t95 : ∀ (so : Nat) (nn : Bool), so < 4 → nn = decide (X / 2 ^ (fWd f - 6) % 2 = 1) → so = (if X / 2 ^ (fWd f - 6) % 2 = 1 then (if X / 2 ^ (fWd f - 7) % 2 = 1 then 2 else 3) else 1) → ix_E 170 95 [some (.ref 98), some (.int (zI (r : Int))), some (.int (zI (f : Int))), some (.int (zI (fWd f))), some (.int (zI (fFd f))), some (.int (zI ((X / 2 ^ (fWd f - 5) % 2 ^ 4 : Nat) : Int))), some (.int (bI nn)), none] [.int (zI ((swp so : Nat) : Int)), .int (zI (r : Int)), .ref 100] h Q := by
      intro so nn hso4 hnn hso
      refine jW_so (pc' := 96) r so K rfl rfl rfl rfl hr rfl hso4 fun h K => ?_
      rw [va_up_self, va_up_up] at K
      cases nn
      · have hn := of_decide_eq_false hnn.symm
        have t := t129 h so false 0 hso4 hso (by rw [if_neg hn, Nat.pow_zero, Nat.mod_one]) (by decide) (Nat.zero_le _) K
        refine jx (pc' := 100) (L' := [_, _, _, _, _, _, _, _]) (st' := [_, _, _]) 3 rfl ?_
        refine jit (pc' := 127) rfl rfl rfl (by rfl) ?_
        refine jx (pc' := 129) (L' := [_, _, _, _, _, _, _, _]) (st' := [.int (zI 0), .int (zI 0), _, _]) 2 rfl ?_
        exact t
      · have hn := of_decide_eq_true hnn.symm
        have t := t129 h so true (plB f) hso4 hso (by rw [if_pos hn]) w8 w9 K
        refine jx (pc' := 100) (L' := [_, _, _, _, _, _, _, _]) (st' := [_, _, _]) 3 rfl ?_
        refine jin (pc' := 103) 127 rfl rfl rfl rfl (by rfl) ?_
        refine jx (pc' := 104) (L' := [_, _, _, _, _, _, _, _]) (st' := [_, _, _]) 1 rfl ?_
        by_cases f0 : f = 0
        · rw [show plB f = 20 by rw [f0]; rfl] at t
          refine jin (pc' := 107) 112 rfl rfl rfl rfl (by rw [zz_ne ⟨by omega, by omega⟩]; exact decide_eq_false (by omega)) ?_
          refine jx (pc' := 129) (L' := [_, _, _, _, _, _, _, _]) (st' := [.int (zI 0), .int (zI 20), _, _]) 3 rfl ?_
          exact t
        · skip
          refine jit (pc' := 112) rfl rfl rfl (by rw [zz_ne ⟨by omega, by omega⟩]; exact decide_eq_true (by omega)) ?_
          refine jx (pc' := 114) (L' := [_, _, _, _, _, _, _, _]) (st' := [.int (zI 1), _, _, _]) 2 rfl ?_
          by_cases f1 : f = 1
          · rw [show plB f = 50 by rw [f1]; rfl] at t
            refine jcn (pc' := 117) 122 rfl rfl rfl rfl (by rw [zc_ne ⟨by omega, by omega⟩ ⟨by omega, by omega⟩]; exact decide_eq_false (by omega)) ?_
            refine jx (pc' := 129) (L' := [_, _, _, _, _, _, _, _]) (st' := [.int (zI 0), .int (zI 50), _, _]) 3 rfl ?_
            exact t
          · rw [show plB f = 110 by rw [show f = 2 by omega]; rfl] at t
            refine jct (pc' := 122) rfl rfl rfl (by rw [zc_ne ⟨by omega, by omega⟩ ⟨by omega, by omega⟩]; exact decide_eq_true (by omega)) ?_
            refine jx (pc' := 129) (L' := [_, _, _, _, _, _, _, _]) (st' := [.int (zI 0), .int (zI 110), _, _]) 3 rfl ?_
            exact t
    refine jx (pc' := 60) (L' := [_, _, _, _, _, _, _, _]) (st' := [_, _]) 4 rfl ?_
    try simp (disch := omega) only [kz, kzl0, kzl1, kzb, kzs, zI_add, zI_sub, zI_neg, zI_mul, zL_i, zI_l, zL_add, zL_sub, zL_neg]
    refine jcv (pc' := 63) 172 [_] [] K.ob rfl rfl rfl rfl rfl rfl rfl rfl ?_
    refine m_bit (k := fWd f - 6) K W w3 (by omega) (by omega) (jk ?_)
    refine jx (pc' := 66) (L' := [_, _, _, _, _, _, _, _]) (st' := [_]) 2 rfl ?_
    refine jgf (pc' := 69) K.ob rfl rfl rfl rfl rfl ?_
    refine jx (pc' := 72) (L' := [_, _, _, _, _, _, _, _]) (st' := [_, _, _]) 2 rfl ?_
    by_cases h6 : X / 2 ^ (fWd f - 6) % 2 = 1
    · have t95 := fun so a b => t95 so true a (decide_eq_true h6).symm b
      rw [if_pos h6] at t95
      rw [decide_eq_true h6]
      refine jit (pc' := 79) rfl rfl rfl (by rfl) ?_
      refine jx (pc' := 84) (L' := [_, _, _, _, _, _, _, _]) (st' := [_, _, _, _]) 4 rfl ?_
      try simp (disch := omega) only [kz, kzl0, kzl1, kzb, kzs, zI_add, zI_sub, zI_neg, zI_mul, zL_i, zI_l, zL_add, zL_sub, zL_neg]
      refine jcv (pc' := 87) 172 [_] [_, _] K.ob rfl rfl rfl rfl rfl rfl rfl rfl ?_
      refine m_bit (k := fWd f - 7) K W w3 (by omega) (by omega) (jk ?_)
      by_cases h7 : X / 2 ^ (fWd f - 7) % 2 = 1
      · rw [if_pos h7] at t95
        rw [decide_eq_true h7]
        refine jin (pc' := 90) 94 rfl rfl rfl rfl (by rfl) ?_
        refine jx (pc' := 95) (L' := [_, _, _, _, _, _, _, _]) (st' := [.int (zI 3), _, _]) 2 rfl ?_
        exact t95 2 (by decide) rfl
      · rw [if_neg h7] at t95
        rw [decide_eq_false h7]
        refine jit (pc' := 94) rfl rfl rfl (by rfl) ?_
        refine jx (pc' := 95) (L' := [_, _, _, _, _, _, _, _]) (st' := [.int (zI 2), _, _]) 1 rfl ?_
        exact t95 3 (by decide) rfl
    · have t95 := fun so a b => t95 so false a (decide_eq_false h6).symm b
      rw [if_neg h6] at t95
      rw [decide_eq_false h6]
      refine jin (pc' := 75) 79 rfl rfl rfl rfl (by rfl) ?_
      refine jx (pc' := 95) (L' := [_, _, _, _, _, _, _, _]) (st' := [.int (zI 1), _, _]) 2 rfl ?_
      exact t95 1 (by decide) rfl
  -- a number
  have t144 : ¬ X / 2 ^ (fWd f - 5) % 2 ^ 4 = 15 → ∀ (h1 : ix_H) (d0 : Dm), (RI S0 h1 (va_up R r (f, d0.2.1, sg, 0, d0.2.2.2.2)) V cd dr ra si tr mo ng sp sz wr il rs pt rl wo tx ou) → ix_E 170 144 [some (.ref 98), some (.int (zI (r : Int))), some (.int (zI (f : Int))), some (.int (zI (fWd f))), some (.int (zI (fFd f))), some (.int (zI ((X / 2 ^ (fWd f - 5) % 2 ^ 4 : Nat) : Int))), none, none] [] h1 Q := by
    intro h15 h d0 K
    rw [if_neg h15] at q
    refine jx (pc' := 145) (L' := [_, _, _, _, _, _, _, _]) (st' := [_]) 1 rfl ?_
    refine jgf (pc' := 148) K.ob rfl rfl rfl rfl rfl ?_
    refine jx (pc' := 150) (L' := [_, _, _, _, _, _, _, _]) (st' := [.int (zI 0), _, _]) 2 rfl ?_
    refine jW_so (pc' := 151) r 0 K (by first | rfl | (congr 1; omega)) rfl rfl (by omega) (by omega)  rfl (by omega) fun h K => ?_
    rw [va_up_self, va_up_up] at K
    refine jx (pc' := 154) (L' := [_, _, _, _, _, _, _, _]) (st' := [.int (zI 4), _]) 2 rfl ?_
    refine jidiv (pc' := 155) rfl rfl (by decide) rfl ?_
    rw [zdiv ⟨by omega, by omega⟩ ⟨by omega, by omega⟩]
    refine jx (pc' := 156) (L' := [_, _, _, _, _, _, _, _]) (st' := [.int (zI 3), _]) 1 rfl ?_
    have t182 : ∀ (sc : Bool) (two bf lo : Nat), bf ≤ 4 → two ≤ 2 → two = (if sc then 2 else 0) → bf = (if sc then 4 else 0) → lo = fWd f - 1 - fFd f - two → (∀ h', (RI S0 h' (va_up R r (f, 0, sg, ((X / 2 ^ lo % 2 ^ fFd f : Nat) : Int) - fB f, dpc (bf * 2 ^ lo + X % 2 ^ lo) (fD f))) V cd dr ra si tr mo ng sp sz wr il rs pt rl wo tx ou) → Q (.inl none) h') → ix_E 170 182 [some (.ref 98), some (.int (zI (r : Int))), some (.int (zI (f : Int))), some (.int (zI (fWd f))), some (.int (zI (fFd f))), some (.int (zI ((X / 2 ^ (fWd f - 5) % 2 ^ 4 : Nat) : Int))), some (.int (bI sc)), none] [.int (zI (two : Int)), .int (zI ((fWd f : Int) - 1 - fFd f))] h Q := by
      intro sc two bf lo hbf htwo etwo ebf hlo q
      have hfl : X / 2 ^ lo % 2 ^ fFd f < 16384 := Nat.lt_of_lt_of_le (Nat.mod_lt _ (two0 _)) (Nat.pow_le_pow_right (by decide) (show fFd f ≤ 14 by omega))
      refine jx (pc' := 186) (L' := [_, _, _, _, _, _, _, _]) (st' := [_]) 3 rfl ?_
      try simp (disch := omega) only [kz, kzl0, kzl1, kzb, kzs, zI_add, zI_sub, zI_neg, zI_mul, zL_i, zI_l, zL_add, zL_sub, zL_neg]
      refine jgf (pc' := 189) K.ob rfl rfl rfl rfl rfl ?_
      refine jx (pc' := 195) (L' := [_, _, _, _, _, _, _, _]) (st' := [_, _, _, _, _]) 4 rfl ?_
      refine jcv (pc' := 198) 173 [_, _] [_, _] K.ob rfl rfl rfl rfl rfl rfl rfl rfl ?_
      rw [show (fWd f : Int) - 1 - fFd f - (two : Int) = (lo : Int) by omega]
      refine m_field (lo := lo) (m := fFd f) K W w3 rfl rfl (by omega) (by omega) (jk ?_)
      refine jx (pc' := 199) (L' := [_, _, _, _, _, _, _, _]) (st' := [_, _, _, _]) 1 rfl ?_
      refine jcs (pc' := 202) 179 [_] [_, _, _] rfl rfl rfl rfl rfl rfl rfl rfl ?_
      refine m_biasOf rfl hf (jk ?_)
      refine jx (pc' := 203) (L' := [_, _, _, _, _, _, _, _]) (st' := [_, _, _]) 1 rfl ?_
      try simp (disch := omega) only [kz, kzl0, kzl1, kzb, kzs, zI_add, zI_sub, zI_neg, zI_mul, zL_i, zI_l, zL_add, zL_sub, zL_neg]
      refine jW_p (pc' := 204) r ((((X / 2 ^ lo % 2 ^ fFd f : Nat) : Int) - fB f)) K (by first | rfl | (congr 1; omega)) rfl rfl (by omega) (by omega)  rfl ⟨by omega, by omega⟩ fun h K => ?_
      rw [va_up_self, va_up_up] at K
      have t218 : ∀ bz : Int, bz = (bf : Int) → ix_E 170 218 [some (.ref 98), some (.int (zI (r : Int))), some (.int (zI (f : Int))), some (.int (zI (fWd f))), some (.int (zI (fFd f))), some (.int (zI ((X / 2 ^ (fWd f - 5) % 2 ^ 4 : Nat) : Int))), some (.int (bI sc)), some (.int (zI (lo : Int)))] [.int (zI bz), .int (zI (lo : Int)), .int (zI (r : Int)), .ref 98] h Q := by
        intro bz hbz
        refine jcv (pc' := 221) 174 [_, _, _] [] K.ob rfl rfl rfl rfl rfl rfl rfl rfl ?_
        refine m_fromBits (bf := bf) K W w3 rfl hr rfl hbz (by omega) (by omega) (Nat.le_trans (Nat.mul_le_mul_right _ (by omega)) (p40 (m := lo) (by omega))) fun h K => jk ?_
        rw [va_up_self, va_up_up] at K
        refine jx (pc' := 224) (L' := [_, _, _, _, _, _, _, _]) (st' := [_, _, _]) 3 rfl ?_
        refine jcs (pc' := 227) 176 [_] [_, _] rfl rfl rfl rfl rfl rfl rfl rfl ?_
        refine m_digitsOf rfl hf (jk ?_)
        refine jcv (pc' := 230) 177 [_, _] [] K.ob rfl rfl rfl rfl rfl rfl rfl rfl ?_
        refine m_drop (m := fD f) K rfl hr rfl (by omega) fun h K => jk ?_
        rw [va_up_self, va_up_up] at K
        refine ix_qr _ rfl rfl rfl ?_
        exact q _ K
      refine jx (pc' := 210) (L' := [_, _, _, _, _, _, _, _]) (st' := [_, _, _, _]) 4 rfl ?_
      cases sc
      · rw [if_neg (by decide)] at ebf
        refine jit (pc' := 217) rfl rfl rfl (by rfl) ?_
        refine jx (pc' := 218) (L' := [_, _, _, _, _, _, _, _]) (st' := [.int (zI 0), _, _, _]) 1 rfl ?_
        exact t218 0 (by omega)
      · rw [if_pos rfl] at ebf
        refine jin (pc' := 213) 217 rfl rfl rfl rfl (by rfl) ?_
        refine jx (pc' := 218) (L' := [_, _, _, _, _, _, _, _]) (st' := [.int (zI 4), _, _, _]) 2 rfl ?_
        exact t218 4 (by omega)
    by_cases h3 : X / 2 ^ (fWd f - 5) % 2 ^ 4 / 4 = 3
    · rw [if_pos h3] at q
      have t := t182 true 2 4 (fWd f - 3 - fFd f) (by decide) (by decide) rfl rfl (by omega) q
      refine jcn (pc' := 159) 163 rfl rfl rfl rfl (by rw [zc_ne ⟨by omega, by omega⟩ ⟨by omega, by omega⟩]; exact decide_eq_false (by omega)) ?_
      refine jx (pc' := 174) (L' := [_, _, _, _, _, _, _, _]) (st' := [_, _]) 9 rfl ?_
      try simp (disch := omega) only [kz, kzl0, kzl1, kzb, kzs, zI_add, zI_sub, zI_neg, zI_mul, zL_i, zI_l, zL_add, zL_sub, zL_neg]
      refine jin (pc' := 177) 181 rfl rfl rfl rfl (by rfl) ?_
      refine jx (pc' := 182) (L' := [_, _, _, _, _, _, _, _]) (st' := [.int (zI 2), _]) 2 rfl ?_
      exact t
    · rw [if_neg h3] at q
      have t := t182 false 0 0 (fWd f - 1 - fFd f) (by decide) (by decide) rfl rfl (by omega) (by rw [Nat.zero_mul, Nat.zero_add]; exact q)
      refine jct (pc' := 163) rfl rfl rfl (by rw [zc_ne ⟨by omega, by omega⟩ ⟨by omega, by omega⟩]; exact decide_eq_true (by omega)) ?_
      refine jx (pc' := 174) (L' := [_, _, _, _, _, _, _, _]) (st' := [_, _]) 8 rfl ?_
      try simp (disch := omega) only [kz, kzl0, kzl1, kzb, kzs, zI_add, zI_sub, zI_neg, zI_mul, zL_i, zI_l, zL_add, zL_sub, zL_neg]
      refine jit (pc' := 181) rfl rfl rfl (by rfl) ?_
      refine jx (pc' := 182) (L' := [_, _, _, _, _, _, _, _]) (st' := [.int (zI 0), _]) 1 rfl ?_
      exact t
  refine jx (pc' := 1) (L' := [_, _, _, _, _, _, _, _]) (st' := [_]) 1 rfl ?_
  refine jcs (pc' := 4) 169 [_] [] rfl rfl rfl rfl rfl rfl rfl rfl ?_
  refine m_widthOf rfl hf (jk ?_)
  refine jx (pc' := 6) (L' := [_, _, _, _, _, _, _, _]) (st' := [_]) 2 rfl ?_
  refine jcs (pc' := 9) 171 [_] [] rfl rfl rfl rfl rfl rfl rfl rfl ?_
  refine m_fieldOf rfl hf (jk ?_)
  refine jx (pc' := 12) (L' := [_, _, _, _, _, _, _, _]) (st' := [_]) 2 rfl ?_
  refine jgf (pc' := 15) K.ob rfl rfl rfl rfl rfl ?_
  refine jx (pc' := 17) (L' := [_, _, _, _, _, _, _, _]) (st' := [_, _, _]) 2 rfl ?_
  refine jW_f (pc' := 18) r f K (by first | rfl | (congr 1; omega)) rfl rfl (by omega) (by omega)  rfl (by omega) fun h K => ?_
  refine jx (pc' := 19) (L' := [_, _, _, _, _, _, _, _]) (st' := [_]) 1 rfl ?_
  refine jgf (pc' := 22) K.ob rfl rfl rfl rfl rfl ?_
  refine jx (pc' := 27) (L' := [_, _, _, _, _, _, _, _]) (st' := [_, _, _, _]) 5 rfl ?_
  try simp (disch := omega) only [kz, kzl0, kzl1, kzb, kzs, zI_add, zI_sub, zI_neg, zI_mul, zL_i, zI_l, zL_add, zL_sub, zL_neg]
  refine jcv (pc' := 30) 172 [_] [_, _] K.ob rfl rfl rfl rfl rfl rfl rfl rfl ?_
  refine m_bit (k := fWd f - 1) K W w3 (by omega) (by omega) (jk ?_)
  rw [hsg]
  refine jW_m (pc' := 31) r sg K (by first | rfl | (congr 1; omega)) rfl rfl (by omega) (by omega)  rfl  fun h K => ?_
  rw [va_up_self, va_up_up] at K
  refine jx (pc' := 32) (L' := [_, _, _, _, _, _, _, _]) (st' := [_]) 1 rfl ?_
  refine jgf (pc' := 35) K.ob rfl rfl rfl rfl rfl ?_
  refine jx (pc' := 37) (L' := [_, _, _, _, _, _, _, _]) (st' := [.int (zI 0), _, _]) 2 rfl ?_
  refine jW_p (pc' := 38) r 0 K (by first | rfl | (congr 1; omega)) rfl rfl (by omega) (by omega)  rfl ⟨by omega, by omega⟩ fun h K => ?_
  rw [va_up_self, va_up_up] at K
  refine jx (pc' := 43) (L' := [_, _, _, _, _, _, _, _]) (st' := [.int (zI 4), _, _]) 5 rfl ?_
  try simp (disch := omega) only [kz, kzl0, kzl1, kzb, kzs, zI_add, zI_sub, zI_neg, zI_mul, zL_i, zI_l, zL_add, zL_sub, zL_neg]
  refine jcv (pc' := 46) 173 [_, .int (zI 4)] [] K.ob rfl rfl rfl rfl rfl rfl rfl rfl ?_
  refine m_field (lo := fWd f - 5) (m := 4) K W w3 (by omega) rfl (by decide) (by omega) (jk ?_)
  refine jx (pc' := 52) (L' := [_, _, _, _, _, _, _, _]) (st' := [.int (zI 15), _]) 3 rfl ?_
  by_cases h15 : X / 2 ^ (fWd f - 5) % 2 ^ 4 = 15
  · skip
    refine jcn (pc' := 55) 144 rfl rfl rfl rfl (by rw [zc_ne ⟨by omega, by omega⟩ ⟨by omega, by omega⟩]; exact decide_eq_false (by omega)) ?_
    exact t55 h15 h (R r) K
  · skip
    refine jct (pc' := 144) rfl rfl rfl (by rw [zc_ne ⟨by omega, by omega⟩ ⟨by omega, by omega⟩]; exact decide_eq_true (by omega)) ?_
    exact t144 h15 h (R r) K
end REF
/-! the class's words -/
theorem jw_e {f : Nat} (hf : f < 3) (W : Nat → Int32) : ∃ L : Nat, L < 2 ^ (32 * (fN f - 1)) ∧ ∀ top, jw f top W = top * 2 ^ (32 * (fN f - 1)) + L := by
  have h1 := wd_lt (W 1)
  have h2 := wd_lt (W 2)
  have h3 := wd_lt (W 3)
  rcases f3 hf with z | z | z <;> subst z
  · exact ⟨0, by decide, fun top => by show top = top * 2 ^ 0 + 0; omega⟩
  · refine ⟨wd (W 1), h1, fun top => ?_⟩
    show top * 4294967296 + wd (W 1) = top * 2 ^ 32 + wd (W 1)
    rfl
  · refine ⟨(wd (W 1) * 4294967296 + wd (W 2)) * 4294967296 + wd (W 3), ?_, fun top => ?_⟩
    · show _ < 2 ^ 96
      omega
    · show ((top * 4294967296 + wd (W 1)) * 4294967296 + wd (W 2)) * 4294967296 + wd (W 3) = top * 2 ^ 96 + ((wd (W 1) * 4294967296 + wd (W 2)) * 4294967296 + wd (W 3))
      omega
theorem dc_X {f : Nat} (hf : f < 3) (H : Nat) (hH : H < 4294967296) (W : Nat → Int32) : dcX f (jw f H W) = dcR f H W ∧ decide (jw f H W / 2 ^ (fWd f - 1) % 2 = 1) = decide (2147483648 ≤ H) := by
  obtain ⟨w1, w2, w3, w4', w5, w6, w7, w8, w9⟩ := f3w hf
  obtain ⟨L, hL, eL⟩ := jw_e hf W
  have eD : ∀ s, jw f H W / 2 ^ (32 * (fN f - 1) + s) = H / 2 ^ s := fun s => by rw [eL]; exact hi_d hL
  have eM : ∀ s, jw f H W % 2 ^ (32 * (fN f - 1) + s) = jw f (H % 2 ^ s) W := fun s => by rw [eL, eL]; exact hi_m hL
  constructor
  · unfold dcX dcR dcS
    rw [show fWd f - 5 = 32 * (fN f - 1) + 27 by omega, show fWd f - 6 = 32 * (fN f - 1) + 26 by omega, show fWd f - 7 = 32 * (fN f - 1) + 25 by omega, show fWd f - 3 - fFd f = 32 * (fN f - 1) + (29 - fW f) by omega, show fWd f - 1 - fFd f = 32 * (fN f - 1) + (31 - fW f) by omega, show plB f = 32 * (fN f - 1) + fP f by omega, eD, eD, eD, eD, eD, eM, eM, eM, w6]
    by_cases h15 : H / 2 ^ 27 % 2 ^ 4 = 15
    · rw [if_pos h15, if_pos h15]
      by_cases h6 : H / 2 ^ 26 % 2 = 1
      · have g1 : ¬ ¬ H / 2 ^ 26 % 2 ^ 5 = 31 := by omega
        rw [if_pos h6, if_neg g1, if_pos h6]
        by_cases h7 : H / 2 ^ 25 % 2 = 1
        · have g2 : H / 2 ^ 25 % 2 ^ 6 = 63 := by omega
          rw [if_pos h7, if_pos g2]
          rfl
        · have g2 : ¬ H / 2 ^ 25 % 2 ^ 6 = 63 := by omega
          rw [if_neg h7, if_neg g2]
          rfl
      · have g1 : ¬ H / 2 ^ 26 % 2 ^ 5 = 31 := by omega
        rw [if_neg h6, if_pos g1, if_neg h6]
        show (1, 0, dpc 0 _) = (1, 0, 0)
        unfold dpc
        rw [ite_self]
    · rw [if_neg h15, if_neg h15]
      by_cases h3 : H / 2 ^ 27 % 2 ^ 4 / 4 = 3
      · have g1 : ¬ ¬ H / 2 ^ 29 % 2 ^ 2 = 3 := by omega
        rw [if_pos h3, if_neg g1]
        have e4 : 4 * 2 ^ (32 * (fN f - 1) + (29 - fW f)) + jw f (H % 2 ^ (29 - fW f)) W = jw f (4 * 2 ^ (29 - fW f) + H % 2 ^ (29 - fW f)) W := by
          rw [eL, eL, Nat.add_mul, Nat.pow_add, Nat.mul_comm (2 ^ (32 * (fN f - 1))), ← Nat.mul_assoc]
          omega
        rw [e4]
        rfl
      · have g1 : ¬ H / 2 ^ 29 % 2 ^ 2 = 3 := by omega
        rw [if_neg h3, if_pos g1]
        rfl
  · rw [show fWd f - 1 = 32 * (fN f - 1) + 31 by omega, eD]
    exact decide_eq_decide.mpr (by omega)
