/-! ===== the reference: load, toBits, isLong, put ===== -/
theorem kMm1 : (-1 : Int64) = zL (-1) := by decide
theorem zI_bv (n : Nat) : (zI (n : Int)).toBitVec = BitVec.ofNat 32 n := by
  unfold zI
  rw [Int32.toBitVec_ofInt]
  exact BitVec.ofInt_natCast ..
theorem shr5 : ∀ k : Fin 32, ((zI (k.val : Int) &&& 31).toBitVec.smod 32) = BitVec.ofNat 32 k.val := by decide
theorem isr_n {n s : Nat} (hn : n < 2147483648) (hs : s < 32) : zI (n : Int) >>> (zI (s : Int) &&& 31) = zI ((n / 2 ^ s : Nat) : Int) := by
  refine Int32.toBitVec_inj.mp ?_
  rw [Int32.toBitVec_shiftRight, shr5 ⟨s, hs⟩, zI_bv, zI_bv]
  rw [BitVec.sshiftRight_eq', BitVec.toNat_ofNat, Nat.mod_eq_of_lt (by omega), BitVec.sshiftRight_eq_of_msb_false]
  · apply BitVec.eq_of_toNat_eq
    rw [BitVec.toNat_ushiftRight, BitVec.toNat_ofNat, BitVec.toNat_ofNat, Nat.shiftRight_eq_div_pow, Nat.mod_eq_of_lt (by omega), Nat.mod_eq_of_lt]
    exact Nat.lt_of_le_of_lt (Nat.div_le_self _ _) (by omega)
  · rw [BitVec.msb_eq_decide]
    refine decide_eq_false ?_
    rw [BitVec.toNat_ofNat, Nat.mod_eq_of_lt (by omega)]
    omega
theorem pb_2 (X lo v : Nat) : pb X lo 1 v = pb X lo 1 (v % 2) := by
  unfold pb
  rw [Nat.pow_one, Nat.mod_mod]
section REF
variable {h : ix_H} {Q : ix_O → ix_H → Prop} {S0 : Nat → AC} {R F : Nat → Dm} {V cd dr ra si tr : Nat} {mo ng : Bool} {sp sz wr : Nat} {il : Bool} {rs pt rl wo tx ou : Nat → Nat} {j x y z w a0 b0 k0 c0 : Int} {r f s m a c k n X : Nat} {b t : Bool}
theorem m_load {v1 v2 v3 v4 : Int32} (K : (RK S0 h F cd dr ra tr sz wr tx ou)) (hx : zr x) (hw : zr w) (q0 : ¬ cNu x w → ∀ h', (RK S0 h' F (1) dr ra tr sz wr tx ou) → Q (.inl none) h') (q1 : cNu x w → ∀ h', (RK S0 h' (va_up F x.toNat (dcD w.toNat v1 v2 v3 v4)) (0) dr ra tr sz wr tx ou) → Q (.inl none) h') : ix_M 165 [.ref 98, .int (zI x), .int (zI w), .int v1, .int v2, .int v3, .int v4] h Q := by
  obtain ⟨R, si, hR, V, mo, ng, sp, il, rs, pt, rl, wo, K⟩ := K
  have t27 : cNu x w → ∀ h1, (RI S0 h1 R V (0) dr ra si tr mo ng sp sz wr il rs pt rl wo tx ou) → ix_E 165 27 [some (.ref 98), some (.int (zI x)), some (.int (zI w)), some (.int v1), some (.int v2), some (.int v3), some (.int v4), none, none] [] h1 Q := by
    intro hc h K
    have q1 := q1 hc
    obtain ⟨⟨x1, x2⟩, ⟨w1', w2'⟩⟩ := hc
    have hxn : x = ((x.toNat : Nat) : Int) := by omega
    have hwf : w = ((w.toNat : Nat) : Int) := by omega
    have hf3 : w.toNat < 3 := by omega
    obtain ⟨w1, w2, w3, w4', w5, w6, w7, w8, w9⟩ := f3w hf3
    have e1 := wd_lt v1
    have e2 := wd_lt v2
    have e3 := wd_lt v3
    have e4 := wd_lt v4
    have loop : ∀ m k : Nat, k + m = fN w.toNat → ∀ (h1 : ix_H) (wo' : Nat → Nat), (∀ j, j < k → wo' (fN w.toNat - 1 - j) = wd (w4 v1 v2 v3 v4 j)) → (RI S0 h1 R V (0) dr ra si tr mo ng sp sz wr il rs pt rl (wo') tx ou) → ix_E 165 39 [some (.ref 98), some (.int (zI x)), some (.int (zI w)), some (.int v1), some (.int v2), some (.int v3), some (.int v4), some (.int (zI (fN w.toNat : Int))), some (.int (zI (k : Int)))] [] h1 Q := by
      intro m
      induction m with
      | zero =>
        intro k hk h wo' hj K
        obtain rfl : k = fN w.toNat := by omega
        have W : Wn (fN w.toNat) wo' (jw w.toNat (wd v1) (w4 v1 v2 v3 v4)) := by
          have u1 : w4 v1 v2 v3 v4 1 = v2 := rfl
          have u2 : w4 v1 v2 v3 v4 2 = v3 := rfl
          have u3 : w4 v1 v2 v3 v4 3 = v4 := rfl
          have g0 := hj 0
          have g1 := hj 1
          have g2 := hj 2
          have g3 := hj 3
          rw [show w4 v1 v2 v3 v4 0 = v1 from rfl] at g0
          rw [u1] at g1
          rw [u2] at g2
          rw [u3] at g3
          unfold jw
          rw [u1, u2, u3]
          clear hj K q1
          rcases f3 hf3 with z | z | z <;> rw [z] at g0 g1 g2 g3 ⊢
          · have g0 := g0 (by decide)
            refine ⟨fun j hj => ?_, ?_⟩
            · have : j = 0 := by have : j < 1 := hj; omega
              subst this
              show wo' 0 = (if 0 = 0 then wd v1 else _) / 2 ^ 0 % 4294967296
              rw [if_pos rfl, Nat.pow_zero, Nat.div_one, Nat.mod_eq_of_lt e1]
              exact g0
            · show (if 0 = 0 then wd v1 else _) < 2 ^ 32
              rw [if_pos rfl]
              exact e1
          · have g0 := g0 (by decide)
            have g1 := g1 (by decide)
            have g0 : wo' 1 = wd v1 := g0
            have g1 : wo' 0 = wd v2 := g1
            have eX : (if (1 : Nat) = 0 then wd v1 else if (1 : Nat) = 1 then wd v1 * 4294967296 + wd v2 else ((wd v1 * 4294967296 + wd v2) * 4294967296 + wd v3) * 4294967296 + wd v4) = wd v1 * 4294967296 + wd v2 := rfl
            rw [eX]
            refine ⟨fun j hj => ?_, ?_⟩
            · have : j = 0 ∨ j = 1 := by have : j < 2 := hj; omega
              rcases this with z | z <;> subst z
              · show wo' 0 = _ / 1 % 4294967296
                rw [g1]
                omega
              · show wo' 1 = _ / 4294967296 % 4294967296
                rw [g0]
                omega
            · show _ < 2 ^ 64
              omega
          · have g0 : wo' 3 = wd v1 := g0 (by decide)
            have g1 : wo' 2 = wd v2 := g1 (by decide)
            have g2 : wo' 1 = wd v3 := g2 (by decide)
            have g3 : wo' 0 = wd v4 := g3 (by decide)
            have eX : (if (2 : Nat) = 0 then wd v1 else if (2 : Nat) = 1 then wd v1 * 4294967296 + wd v2 else ((wd v1 * 4294967296 + wd v2) * 4294967296 + wd v3) * 4294967296 + wd v4) = ((wd v1 * 4294967296 + wd v2) * 4294967296 + wd v3) * 4294967296 + wd v4 := rfl
            rw [eX]
            refine ⟨fun j hj => ?_, ?_⟩
            · have : j = 0 ∨ j = 1 ∨ j = 2 ∨ j = 3 := by have : j < 4 := hj; omega
              rcases this with z | z | z | z <;> subst z
              · show wo' 0 = _ / 1 % 4294967296
                rw [g3]
                omega
              · show wo' 1 = _ / 4294967296 % 4294967296
                rw [g2]
                omega
              · show wo' 2 = _ / 18446744073709551616 % 4294967296
                rw [g1]
                omega
              · show wo' 3 = _ / 79228162514264337593543950336 % 4294967296
                rw [g0]
                omega
            · show _ < 2 ^ 128
              omega
        obtain ⟨eX, eS⟩ := dc_X hf3 (wd v1) e1 (w4 v1 v2 v3 v4)
        refine jx (pc' := 43) (L' := [_, _, _, _, _, _, _, _, _]) (st' := [_, _]) 2 rfl ?_
        refine jct (pc' := 102) rfl rfl rfl (by rw [zc_ge ⟨by omega, by omega⟩ ⟨by omega, by omega⟩]; exact decide_eq_true (by omega)) ?_
        refine jx (pc' := 105) (L' := [_, _, _, _, _, _, _, _, _]) (st' := [_, _, _]) 3 rfl ?_
        refine jcv (pc' := 108) 170 [_, _] [] K.ob rfl rfl rfl rfl rfl rfl rfl rfl ?_
        refine m_decode (r := x.toNat) (f := w.toNat) K W hxn (by omega) hwf hf3 fun h K => jk ?_
        rw [eX, eS] at K
        refine ix_qr _ rfl rfl rfl ?_
        refine q1 _ ⟨_, _, fun i hi => ?_, K.rj⟩
        by_cases e : i = x.toNat
        · rw [e, va_up_self, va_up_self]
          rfl
        · rw [va_up_ne _ _ e, va_up_ne _ _ e]
          exact hR i hi
      | succ m ih =>
        intro k hk h wo' hj K
        have t90 : ∀ v : Int32, v = w4 v1 v2 v3 v4 k → ix_E 165 90 [some (.ref 98), some (.int (zI x)), some (.int (zI w)), some (.int v1), some (.int v2), some (.int v3), some (.int v4), some (.int (zI (fN w.toNat : Int))), some (.int (zI (k : Int)))] [.int v, .int (zI ((fN w.toNat : Int) - 1 - k)), .ref 108] h Q := by
          intro v hv
          refine jx (pc' := 95) (L' := [_, _, _, _, _, _, _, _, _]) (st' := [_, _, _]) 3 rfl ?_
          try simp (disch := omega) only [kM4294967295, kz, kzl0, kzl1, kzb, kzs, zI_add, zI_sub, zI_neg, zI_mul, zL_i, zI_l, zL_add, zL_sub, zL_neg]
          rw [lN_msk]
          refine jW_w (pc' := 96) (fN w.toNat - 1 - k) (wd v) K (lz _) rfl rfl (by omega) (by omega) rfl fun h K => ?_
          refine jx (pc' := 39) (L' := [_, _, _, _, _, _, _, _, _]) (st' := []) 2 rfl ?_
          try simp (disch := omega) only [kz, kzl0, kzl1, kzb, kzs, zI_add, zI_sub, zI_neg, zI_mul, zL_i, zI_l, zL_add, zL_sub, zL_neg]
          rw [show (k : Int) + 1 = ((k + 1 : Nat) : Int) by omega]
          refine ih (k + 1) (by omega) h _ (fun j hj2 => ?_) K
          by_cases e : j = k
          · rw [e, va_up_self, hv]
          · rw [va_up_ne _ _ (by omega)]
            exact hj j (by omega)
        refine jx (pc' := 43) (L' := [_, _, _, _, _, _, _, _, _]) (st' := [_, _]) 2 rfl ?_
        refine jcn (pc' := 46) 102 rfl rfl rfl rfl (by rw [zc_ge ⟨by omega, by omega⟩ ⟨by omega, by omega⟩]; exact decide_eq_false (by omega)) ?_
        refine jx (pc' := 47) (L' := [_, _, _, _, _, _, _, _, _]) (st' := [_]) 1 rfl ?_
        refine jgf (pc' := 50) K.ob rfl rfl rfl rfl rfl ?_
        refine jx (pc' := 59) (L' := [_, _, _, _, _, _, _, _, _]) (st' := [_, _, _]) 6 rfl ?_
        try simp (disch := omega) only [kz, kzl0, kzl1, kzb, kzs, zI_add, zI_sub, zI_neg, zI_mul, zL_i, zI_l, zL_add, zL_sub, zL_neg]
        by_cases k0 : k = 0
        · skip
          refine jin (pc' := 62) 66 rfl rfl rfl rfl (by rw [zz_ne ⟨by omega, by omega⟩]; exact decide_eq_false (by omega)) ?_
          refine jx (pc' := 90) (L' := [_, _, _, _, _, _, _, _, _]) (st' := [_, _, _]) 2 rfl ?_
          exact t90 v1 (by rw [k0]; rfl)
        · skip
          refine jit (pc' := 66) rfl rfl rfl (by rw [zz_ne ⟨by omega, by omega⟩]; exact decide_eq_true (by omega)) ?_
          refine jx (pc' := 69) (L' := [_, _, _, _, _, _, _, _, _]) (st' := [.int (zI 1), _, _, _]) 2 rfl ?_
          by_cases k1 : k = 1
          · skip
            refine jcn (pc' := 72) 77 rfl rfl rfl rfl (by rw [zc_ne ⟨by omega, by omega⟩ ⟨by omega, by omega⟩]; exact decide_eq_false (by omega)) ?_
            refine jx (pc' := 90) (L' := [_, _, _, _, _, _, _, _, _]) (st' := [_, _, _]) 2 rfl ?_
            exact t90 v2 (by rw [k1]; rfl)
          · skip
            refine jct (pc' := 77) rfl rfl rfl (by rw [zc_ne ⟨by omega, by omega⟩ ⟨by omega, by omega⟩]; exact decide_eq_true (by omega)) ?_
            refine jx (pc' := 80) (L' := [_, _, _, _, _, _, _, _, _]) (st' := [.int (zI 2), _, _, _]) 2 rfl ?_
            by_cases k2 : k = 2
            · skip
              refine jcn (pc' := 83) 88 rfl rfl rfl rfl (by rw [zc_ne ⟨by omega, by omega⟩ ⟨by omega, by omega⟩]; exact decide_eq_false (by omega)) ?_
              refine jx (pc' := 90) (L' := [_, _, _, _, _, _, _, _, _]) (st' := [_, _, _]) 2 rfl ?_
              exact t90 v3 (by rw [k2]; rfl)
            · skip
              refine jct (pc' := 88) rfl rfl rfl (by rw [zc_ne ⟨by omega, by omega⟩ ⟨by omega, by omega⟩]; exact decide_eq_true (by omega)) ?_
              refine jx (pc' := 90) (L' := [_, _, _, _, _, _, _, _, _]) (st' := [_, _, _]) 1 rfl ?_
              exact t90 v4 (by rw [show k = 3 by omega]; rfl)
    refine jx (pc' := 28) (L' := [_, _, _, _, _, _, _, _, _]) (st' := [_]) 1 rfl ?_
    refine jcs (pc' := 31) 169 [_] [] rfl rfl rfl rfl rfl rfl rfl rfl ?_
    refine m_widthOf hwf hf3 (jk ?_)
    refine jx (pc' := 33) (L' := [_, _, _, _, _, _, _, _, _]) (st' := [.int (zI 32), _]) 1 rfl ?_
    refine jidiv (pc' := 34) rfl rfl (by decide) rfl ?_
    rw [zdiv ⟨by omega, by omega⟩ ⟨by omega, by omega⟩, show (fWd w.toNat : Int) / 32 = (fN w.toNat : Int) by omega]
    refine jx (pc' := 39) (L' := [_, _, _, _, _, _, _, _, _]) (st' := []) 3 rfl ?_
    try simp (disch := omega) only [kz, kzl0, kzl1, kzb, kzs, zI_add, zI_sub, zI_neg, zI_mul, zL_i, zI_l, zL_add, zL_sub, zL_neg]
    exact loop (fN w.toNat) 0 (by omega) h wo (fun j hj => by omega) K
  have t20 : ∀ bd : Bool, bd = decide (¬ cNu x w) → ix_E 165 20 [some (.ref 98), some (.int (zI x)), some (.int (zI w)), some (.int v1), some (.int v2), some (.int v3), some (.int v4), none, none] [.int (bI bd), .ref 98] h Q := by
    intro bd hbd
    refine jcv (pc' := 23) 168 [_] [] K.ob rfl rfl rfl rfl rfl rfl rfl rfl ?_
    refine m_fails K fun h K => jk ?_
    cases bd
    · have hc : cNu x w := Classical.not_not.mp (of_decide_eq_false hbd.symm)
      refine jit (pc' := 27) rfl rfl rfl (by rfl) ?_
      exact t27 hc h K
    · have hc := of_decide_eq_true hbd.symm
      refine jin (pc' := 26) 27 rfl rfl rfl rfl (by rfl) ?_
      refine ix_qr _ rfl rfl rfl ?_
      exact q0 hc _ ⟨R, si, hR, K.rj⟩
  have bad : ¬ cNu x w → ix_E 165 15 [some (.ref 98), some (.int (zI x)), some (.int (zI w)), some (.int v1), some (.int v2), some (.int v3), some (.int v4), none, none] [.ref 98] h Q := by
    intro hn
    refine jx (pc' := 20) (L' := [_, _, _, _, _, _, _, _, _]) (st' := [.int (zI 1), _]) 2 rfl ?_
    exact t20 true (decide_eq_true hn).symm
  refine jx (pc' := 2) (L' := [_, _, _, _, _, _, _, _, _]) (st' := [_, _]) 2 rfl ?_
  refine jcs (pc' := 5) 166 [_] [_] rfl rfl rfl rfl rfl rfl rfl rfl ?_
  refine m_isTarget hx (jk ?_)
  by_cases h2 : 0 ≤ x ∧ x < 8
  · skip
    refine jin (pc' := 8) 15 rfl rfl rfl rfl (by rw [bz_eq, decide_eq_true h2]; rfl) ?_
    refine jx (pc' := 9) (L' := [_, _, _, _, _, _, _, _, _]) (st' := [_, _]) 1 rfl ?_
    refine jcs (pc' := 12) 167 [_] [_] rfl rfl rfl rfl rfl rfl rfl rfl ?_
    refine m_isFormat hw (jk ?_)
    by_cases h3 : 0 ≤ w ∧ w < 3
    · skip
      refine jit (pc' := 19) rfl rfl rfl (by rw [bz_ne, decide_eq_true h3]) ?_
      refine jx (pc' := 20) (L' := [_, _, _, _, _, _, _, _, _]) (st' := [.int (zI 0), _]) 1 rfl ?_
      exact t20 false (decide_eq_false (fun n => n ⟨h2, h3⟩)).symm
    · skip
      refine jin (pc' := 15) 19 rfl rfl rfl rfl (by rw [bz_ne, decide_eq_false h3]) ?_
      exact bad (fun n => h3 n.2)
  · skip
    refine jit (pc' := 15) rfl rfl rfl (by rw [bz_eq, decide_eq_false h2]; rfl) ?_
    exact bad (fun n => h2 n.1)
theorem m_put {l0 n0 v0 : Int} {lo v : Nat} (K : (RI S0 h R V cd dr ra si tr mo ng sp sz wr il rs pt rl wo tx ou)) (W : Wn 4 wo X) (hl0 : l0 = (lo : Int)) (hn0 : n0 = (n : Int)) (hv0 : v0 = (v : Int)) (hn : n ≤ 20) (hlo : lo + n ≤ 128) (hv : v < 1000000) (q : ∀ h' wo', Wn 4 wo' (pb X lo n v) → (RI S0 h' R V cd dr ra si tr mo ng sp sz wr il rs pt rl (wo') tx ou) → Q (.inl none) h') : ix_M 185 [.ref 98, .int (zI l0), .int (zI n0), .int (zI v0)] h Q := by
  subst hl0
  subst hn0
  subst hv0
  have loop : ∀ m k : Nat, k + m = n → ∀ (h1 : ix_H) (wo' : Nat → Nat) (l5 : Option Value) (l7 : Option Value), Wn 4 wo' (pb X lo k v) → (RI S0 h1 R V cd dr ra si tr mo ng sp sz wr il rs pt rl (wo') tx ou) → ix_E 185 3 [some (.ref 98), some (.int (zI (lo : Int))), some (.int (zI (n : Int))), some (.int (zI (v : Int))), some (.int (zI (k : Int))), l5, none, l7] [] h1 Q := by
    intro m
    induction m with
    | zero =>
      intro k hk h wo' l5 l7 W K
      obtain rfl : k = n := by omega
      refine jx (pc' := 6) (L' := [_, _, _, _, _, _, _, _]) (st' := [_, _]) 2 rfl ?_
      refine jct (pc' := 79) rfl rfl rfl (by rw [zc_ge ⟨by omega, by omega⟩ ⟨by omega, by omega⟩]; exact decide_eq_true (by omega)) ?_
      refine ix_qr _ rfl rfl rfl ?_
      exact q _ _ W K
    | succ m ih =>
      intro k hk h wo' l5 l7 W K
      have hwl : wo' ((lo + k) / 32) < 4294967296 := by rw [W.1 _ (by omega)]; exact Nat.mod_lt _ (by decide)
      have hW2 := fun y => Wn_p (v := y) W (show lo + k < 32 * 4 by omega)
      have hs1 : zL 1 <<< (zL (((lo + k : Nat) : Int) % 32) &&& 63) = zL ((2 ^ ((lo + k) % 32) : Nat) : Int) := by
        have := lsl_n (n := 1) (s := (lo + k) % 32) (by omega)
        rw [Nat.one_mul] at this
        exact this
      have hvk : zI (v : Int) >>> (zI (k : Int) &&& 31) = zI ((v / 2 ^ k : Nat) : Int) := isr_n (by omega) (by omega)
      have hvk2 : zI ((v / 2 ^ k : Nat) : Int) &&& zI 1 = zI ((v / 2 ^ k % 2 : Nat) : Int) := by
        have := zand (v / 2 ^ k) 1
        rw [Nat.and_one_is_mod] at this
        exact this
      have nxt : ∀ (h1 : ix_H) (y : Nat), y = v / 2 ^ k % 2 → (RI S0 h1 R V cd dr ra si tr mo ng sp sz wr il rs pt rl (va_up wo' ((lo + k) / 32) (pb (wo' ((lo + k) / 32)) ((lo + k) % 32) 1 y)) tx ou) → ix_E 185 73 [some (.ref 98), some (.int (zI (lo : Int))), some (.int (zI (n : Int))), some (.int (zI (v : Int))), some (.int (zI (k : Int))), some (.long (zL ((2 ^ ((lo + k) % 32) : Nat) : Int))), none, some (.int (zI (((lo + k) / 32 : Nat) : Int)))] [] h1 Q := by
        intro h y hy K
        refine jx (pc' := 3) (L' := [_, _, _, _, _, _, _, _]) (st' := []) 2 rfl ?_
        try simp (disch := omega) only [kz, kzl0, kzl1, kzb, kzs, zI_add, zI_sub, zI_neg, zI_mul, zL_i, zI_l, zL_add, zL_sub, zL_neg]
        rw [show (k : Int) + 1 = ((k + 1 : Nat) : Int) by omega]
        refine ih (k + 1) (by omega) h _ _ _ ?_ K
        have e1 := hW2 y
        rw [hy, ← pb_2 (pb X lo k v), pb_s] at e1
        have e2 : va_up wo' ((lo + k) / 32) (pb (wo' ((lo + k) / 32)) ((lo + k) % 32) 1 y) = fun j => if j = (lo + k) / 32 then pb (wo' j) ((lo + k) % 32) 1 y else wo' j := by
          funext j
          unfold va_up
          by_cases e : j = (lo + k) / 32
          · rw [if_pos e, if_pos e, e]
          · rw [if_neg e, if_neg e]
        rw [e2, hy]
        exact e1
      refine jx (pc' := 6) (L' := [_, _, _, _, _, _, _, _]) (st' := [_, _]) 2 rfl ?_
      refine jcn (pc' := 9) 79 rfl rfl rfl rfl (by rw [zc_ge ⟨by omega, by omega⟩ ⟨by omega, by omega⟩]; exact decide_eq_false (by omega)) ?_
      refine jx (pc' := 16) (L' := [_, _, _, _, _, _, _, _]) (st' := [.int (zI 32), _, .long (zL 1)]) 5 rfl ?_
      try simp (disch := omega) only [kz, kzl0, kzl1, kzb, kzs, zI_add, zI_sub, zI_neg, zI_mul, zL_i, zI_l, zL_add, zL_sub, zL_neg]
      refine jirem (pc' := 17) rfl rfl (by decide) rfl ?_
      rw [show (lo : Int) + (k : Int) = ((lo + k : Nat) : Int) by omega, zrem ⟨by omega, by omega⟩ ⟨by omega, by omega⟩]
      refine jx (pc' := 26) (L' := [_, _, _, _, _, _, _, _]) (st' := [.int (zI 32), _]) 6 rfl ?_
      try simp (disch := omega) only [kz, kzl0, kzl1, kzb, kzs, zI_add, zI_sub, zI_neg, zI_mul, zL_i, zI_l, zL_add, zL_sub, zL_neg]
      rw [hs1, show (lo : Int) + (k : Int) = ((lo + k : Nat) : Int) by omega]
      refine jidiv (pc' := 27) rfl rfl (by decide) rfl ?_
      rw [zdiv ⟨by omega, by omega⟩ ⟨by omega, by omega⟩, show ((lo + k : Nat) : Int) / 32 = (((lo + k) / 32 : Nat) : Int) from rfl]
      refine jx (pc' := 30) (L' := [_, _, _, _, _, _, _, _]) (st' := [_]) 2 rfl ?_
      refine jgf (pc' := 33) K.ob rfl rfl rfl rfl rfl ?_
      refine jx (pc' := 42) (L' := [_, _, _, _, _, _, _, _]) (st' := [.int (zI 1), _, _, _]) 7 rfl ?_
      try simp (disch := omega) only [kz, kzl0, kzl1, kzb, kzs, zI_add, zI_sub, zI_neg, zI_mul, zL_i, zI_l, zL_add, zL_sub, zL_neg]
      rw [hvk, hvk2]
      by_cases h1 : v / 2 ^ k % 2 = 1
      · rw [h1]
        refine jcn (pc' := 45) 58 rfl rfl rfl rfl (by rfl) ?_
        refine jx (pc' := 46) (L' := [_, _, _, _, _, _, _, _]) (st' := [_, _, _]) 1 rfl ?_
        refine jgf (pc' := 49) K.ob rfl rfl rfl rfl rfl ?_
        refine jx (pc' := 51) (L' := [_, _, _, _, _, _, _, _]) (st' := [_, _, _, _]) 1 rfl ?_
        refine jR_w (pc' := 52) (((lo+k)/32)) K rfl rfl (by omega) (by omega)  rfl ?_
        refine jx (pc' := 72) (L' := [_, _, _, _, _, _, _, _]) (st' := [_, _, _]) 3 rfl ?_
        try simp (disch := omega) only [kz, kzl0, kzl1, kzb, kzs, zI_add, zI_sub, zI_neg, zI_mul, zL_i, zI_l, zL_add, zL_sub, zL_neg]
        rw [zLn_or, or_p]
        refine jW_w (pc' := 73) ((lo + k) / 32) _ K rfl rfl rfl (by omega) (by omega) rfl fun h K => ?_
        exact nxt h 1 h1.symm K
      · have h0 : v / 2 ^ k % 2 = 0 := by omega
        rw [h0]
        refine jct (pc' := 58) rfl rfl rfl (by rfl) ?_
        refine jx (pc' := 59) (L' := [_, _, _, _, _, _, _, _]) (st' := [_, _, _]) 1 rfl ?_
        refine jgf (pc' := 62) K.ob rfl rfl rfl rfl rfl ?_
        refine jx (pc' := 64) (L' := [_, _, _, _, _, _, _, _]) (st' := [_, _, _, _]) 1 rfl ?_
        refine jR_w (pc' := 65) (((lo+k)/32)) K rfl rfl (by omega) (by omega)  rfl ?_
        refine jx (pc' := 72) (L' := [_, _, _, _, _, _, _, _]) (st' := [_, _, _]) 4 rfl ?_
        try simp (disch := omega) only [kMm1, kz, kzl0, kzl1, kzb, kzs, zI_add, zI_sub, zI_neg, zI_mul, zL_i, zI_l, zL_add, zL_sub, zL_neg]
        rw [not_n, an_p hwl (by omega)]
        refine jW_w (pc' := 73) ((lo + k) / 32) _ K rfl rfl rfl (by omega) (by omega) rfl fun h K => ?_
        exact nxt h 0 h0.symm K
  refine jx (pc' := 3) (L' := [_, _, _, _, _, _, _, _]) (st' := []) 2 rfl ?_
  try simp (disch := omega) only [kz, kzl0, kzl1, kzb, kzs, zI_add, zI_sub, zI_neg, zI_mul, zL_i, zI_l, zL_add, zL_sub, zL_neg]
  refine loop n 0 (by omega) h wo _ _ ?_ K
  rw [pb_0]
  exact W
theorem m_isLong {l0 : Int} {lo : Nat} (K : (RI S0 h R V cd dr ra si tr mo ng sp sz wr il rs pt rl wo tx ou)) (W : Wn 4 wo X) (hl0 : l0 = (lo : Int)) (hlo : lo ≤ 128) (q : Q (.inl (some (.int (bI (decide (¬ X / 2 ^ lo = 0)))))) h) : ix_M 184 [.ref 98, .int (zI l0)] h Q := by
  subst hl0
  have hX : X < 2 ^ 128 := W.2
  have loop : ∀ m k : Nat, k + m = 128 → lo ≤ k → ∀ is : Bool, is = decide (¬ X / 2 ^ lo % 2 ^ (k - lo) = 0) → ix_E 184 4 [some (.ref 98), some (.int (zI (lo : Int))), some (.int (bI is)), some (.int (zI (k : Int)))] [] h Q := by
    intro m
    induction m with
    | zero =>
      intro k hk hlk is his
      obtain rfl : k = 128 := by omega
      have hlt : X / 2 ^ lo < 2 ^ (128 - lo) := by
        refine (Nat.div_lt_iff_lt_mul (two0 _)).mpr ?_
        rw [← Nat.pow_add, show 128 - lo + lo = 128 by omega]
        exact hX
      rw [Nat.mod_eq_of_lt hlt] at his
      rw [← his] at q
      refine jx (pc' := 8) (L' := [_, _, _, _]) (st' := [.int (zI 128), _]) 2 rfl ?_
      refine jct (pc' := 35) rfl rfl rfl (by rw [zc_ge ⟨by omega, by omega⟩ ⟨by omega, by omega⟩]; exact decide_eq_true (by omega)) ?_
      refine jx (pc' := 36) (L' := [_, _, _, _]) (st' := [_]) 1 rfl ?_
      exact jrb rfl rfl q
    | succ m ih =>
      intro k hk hlk is his
      have em : X / 2 ^ lo % 2 ^ (k + 1 - lo) = X / 2 ^ lo % 2 ^ (k - lo) + 2 ^ (k - lo) * (X / 2 ^ k % 2) := by
        rw [show k + 1 - lo = k - lo + 1 by omega, Nat.mod_pow_succ, Nat.div_div_eq_div_mul, ← Nat.pow_add, show lo + (k - lo) = k by omega]
      have hp := two0 (k - lo)
      have nxt : ∀ is' : Bool, is' = decide (¬ X / 2 ^ lo % 2 ^ (k + 1 - lo) = 0) → ix_E 184 28 [some (.ref 98), some (.int (zI (lo : Int))), some (.int (bI is)), some (.int (zI (k : Int)))] [.int (bI is')] h Q := by
        intro is' h'
        refine jx (pc' := 4) (L' := [_, _, _, _]) (st' := []) 3 rfl ?_
        try simp (disch := omega) only [kz, kzl0, kzl1, kzb, kzs, zI_add, zI_sub, zI_neg, zI_mul, zL_i, zI_l, zL_add, zL_sub, zL_neg]
        rw [show (k : Int) + 1 = ((k + 1 : Nat) : Int) by omega]
        exact ih (k + 1) (by omega) (by omega) is' h'
      refine jx (pc' := 8) (L' := [_, _, _, _]) (st' := [.int (zI 128), _]) 2 rfl ?_
      refine jcn (pc' := 11) 35 rfl rfl rfl rfl (by rw [zc_ge ⟨by omega, by omega⟩ ⟨by omega, by omega⟩]; exact decide_eq_false (by omega)) ?_
      refine jx (pc' := 12) (L' := [_, _, _, _]) (st' := [_]) 1 rfl ?_
      cases is
      · have hn := of_decide_eq_false his.symm
        have hz : X / 2 ^ lo % 2 ^ (k - lo) = 0 := Classical.not_not.mp hn
        rw [hz, Nat.zero_add] at em
        refine jin (pc' := 15) 23 rfl rfl rfl rfl (by rfl) ?_
        refine jx (pc' := 17) (L' := [_, _, _, _]) (st' := [_, _]) 2 rfl ?_
        refine jcv (pc' := 20) 172 [_] [] K.ob rfl rfl rfl rfl rfl rfl rfl rfl ?_
        refine m_bit (k := k) (n := 4) K W (by decide) rfl (by omega) (jk ?_)
        by_cases h1 : X / 2 ^ k % 2 = 1
        · rw [decide_eq_true h1]
          refine jin (pc' := 23) 27 rfl rfl rfl rfl (by rfl) ?_
          refine jx (pc' := 28) (L' := [_, _, _, _]) (st' := [.int (zI 1)]) 2 rfl ?_
          refine nxt true (decide_eq_true ?_).symm
          rw [em, h1, Nat.mul_one]
          omega
        · rw [decide_eq_false h1]
          refine jit (pc' := 27) rfl rfl rfl (by rfl) ?_
          refine jx (pc' := 28) (L' := [_, _, _, _]) (st' := [.int (zI 0)]) 1 rfl ?_
          refine nxt false (decide_eq_false (fun z => z ?_)).symm
          rw [em, show X / 2 ^ k % 2 = 0 by omega, Nat.mul_zero]
      · have hn := of_decide_eq_true his.symm
        refine jit (pc' := 23) rfl rfl rfl (by rfl) ?_
        refine jx (pc' := 28) (L' := [_, _, _, _]) (st' := [.int (zI 1)]) 2 rfl ?_
        refine nxt true (decide_eq_true ?_).symm
        rw [em]
        omega
  refine jx (pc' := 4) (L' := [_, _, _, _]) (st' := []) 4 rfl ?_
  try simp (disch := omega) only [kz, kzl0, kzl1, kzb, kzs, zI_add, zI_sub, zI_neg, zI_mul, zL_i, zI_l, zL_add, zL_sub, zL_neg]
  refine loop (128 - lo) lo (by omega) (Nat.le_refl _) false ?_
  rw [Nat.sub_self, Nat.pow_zero, Nat.mod_one]
  rfl
end REF
