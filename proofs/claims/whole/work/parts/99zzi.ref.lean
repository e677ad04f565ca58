/-! ===== the class's words are the reference's; bits ===== -/
/-- putting above a place -/
theorem pb_m {X t lo n v : Nat} (h : t ≤ lo) : pb X lo n v % 2 ^ t = X % 2 ^ t := by
  refine Nat.eq_of_testBit_eq fun i => ?_
  rw [Nat.testBit_mod_two_pow, Nat.testBit_mod_two_pow, pb_t]
  by_cases a : i < t
  · rw [if_pos (by omega)]
  · rw [decide_eq_false a, Bool.false_and, Bool.false_and]
theorem pb_d {X t lo n v : Nat} : pb X (t + lo) n v / 2 ^ t = pb (X / 2 ^ t) lo n v := by
  refine Nat.eq_of_testBit_eq fun i => ?_
  rw [Nat.testBit_div_two_pow, pb_t, pb_t, Nat.testBit_div_two_pow]
  by_cases a : i < lo
  · have g : i + t < t + lo := by omega
    rw [if_pos a, if_pos g]
  · have g : ¬ i + t < t + lo := by omega
    rw [if_neg a, if_neg g]
    by_cases b : i < lo + n
    · have g2 : i + t < t + lo + n := by omega
      rw [if_pos b, if_pos g2]
      congr 1
      omega
    · have g2 : ¬ i + t < t + lo + n := by omega
      rw [if_neg b, if_neg g2]
theorem pb_v {X lo n v : Nat} (hv : v < 2 ^ n) (hX : X < 2 ^ (lo + n)) : pb X lo n v = v * 2 ^ lo + X % 2 ^ lo := by
  unfold pb
  rw [Nat.div_eq_of_lt hX, Nat.zero_mul, Nat.zero_add, Nat.mod_eq_of_lt hv]
theorem ec_X {d : Dm} (v : ValD d) {k : Nat} (hk : k < fN d.1) : ecX d / 2 ^ (32 * (fN d.1 - 1 - k)) % 4294967296 = ecW d k := by
  obtain ⟨w1, w2, w3, w4', w5, w6, w7, w8, w9⟩ := f3w v.1
  have be := v.2.2.1
  have hcD := v.2.2.2.1
  have gE' : gE d.1 + fB d.1 < ((2 ^ fW d.1 : Nat) : Int) ∧ (10 : Nat) ^ fD d.1 ≤ 2 ^ (32 * (fN d.1 - 1)) * (2 ^ (31 - fW d.1) + 2 ^ (29 - fW d.1)) ∧ (10 : Nat) ^ (fD d.1 - 1) ≤ 2 ^ (32 * (fN d.1 - 1)) * 2 ^ fP d.1 ∧ 14 ≤ fP d.1 ∧ fP d.1 ≤ 20 := by
    unfold gE
    rcases f3 v.1 with z | z | z <;> rw [z] <;> decide
  obtain ⟨g1, g2, g3, g4, g5⟩ := gE'
  generalize ht : 32 * (fN d.1 - 1) = t at *
  unfold ecX
  generalize hc : d.2.2.2.2 = c at *
  have hH : c / 2 ^ t < 2 ^ (31 - fW d.1) + 2 ^ (29 - fW d.1) := by
    refine (Nat.div_lt_iff_lt_mul (two0 t)).mpr ?_
    rw [Nat.mul_comm]
    omega
  have hHp : 2 ≤ d.2.1 → c / 2 ^ t < 2 ^ fP d.1 := fun z => by
    refine (Nat.div_lt_iff_lt_mul (two0 t)).mpr ?_
    rw [Nat.mul_comm]
    have := v.2.2.2.2.2.2 z
    rw [hc] at this
    omega
  rw [show fWd d.1 - 1 = t + 31 by omega, show fWd d.1 - 3 = t + 29 by omega, show fWd d.1 - 5 = t + 27 by omega, show fWd d.1 - 6 = t + 26 by omega, show fWd d.1 - 7 = t + 25 by omega, show t + 31 - fFd d.1 = t + (31 - fW d.1) by omega, show t + 29 - fFd d.1 = t + (29 - fW d.1) by omega, w6]
  by_cases k0 : k = 0
  · subst k0
    unfold ecW
    rw [if_pos rfl, Nat.sub_zero, ht]
    have eB : cB d 0 = c / 2 ^ t := by
      unfold cB
      rw [Nat.sub_zero, hc, show (4294967296 : Nat) = 2 ^ 32 from rfl, ← Nat.pow_mul, ht]
      refine Nat.mod_eq_of_lt (Nat.lt_trans hH ?_)
      have a1 : (2 : Nat) ^ (31 - fW d.1) ≤ 2 ^ 23 := Nat.pow_le_pow_right (by decide) (by omega)
      have a2 : (2 : Nat) ^ (29 - fW d.1) ≤ 2 ^ 21 := Nat.pow_le_pow_right (by decide) (by omega)
      omega
    rw [eB, pb_d]
    generalize hn : d.2.2.1 = n
    have a1 : (2 : Nat) ^ (31 - fW d.1) ≤ 2 ^ 23 := Nat.pow_le_pow_right (by decide) (by omega)
    have a2 : (2 : Nat) ^ (29 - fW d.1) ≤ 2 ^ 21 := Nat.pow_le_pow_right (by decide) (by omega)
    have fin : ∀ Y Z : Nat, Y = Z → Z < 2 ^ 31 → pb Y 31 1 (if n then 1 else 0) % 4294967296 = (if n then 2147483648 else 0) ||| Z := by
      intro Y Z hYZ hZ
      subst hYZ
      rw [pb_v (by cases n <;> decide) (by omega), Nat.mod_eq_of_lt hZ]
      cases n
      · rw [if_neg (by decide), if_neg (by decide), Nat.zero_mul, Nat.zero_add, Nat.zero_or]
        omega
      · rw [if_pos rfl, if_pos rfl]
        have := nat_or_add (a := 1) hZ
        rw [show (2147483648 : Nat) = 1 * 2 ^ 31 from rfl, this]
        omega
    by_cases s0 : d.2.1 = 0
    · rw [if_pos s0]
      obtain ⟨E, hE⟩ : ∃ E : Nat, (E : Int) = d.2.2.2.1 + fB d.1 := ⟨(d.2.2.2.1 + fB d.1).toNat, by omega⟩
      rw [show (d.2.2.2.1 + fB d.1).toNat = E by omega]
      have hE2 : E < 2 ^ fW d.1 := by omega
      have eh : hdV d (c / 2 ^ t) = if c / 2 ^ t < 2 ^ (31 - fW d.1) then E * 2 ^ (31 - fW d.1) + c / 2 ^ t else 1610612736 ||| E * 2 ^ (29 - fW d.1) ||| c / 2 ^ t % 2 ^ (29 - fW d.1) := by
        unfold hdV
        rw [if_neg (by omega), if_neg (by omega), show (d.2.2.2.1 + fB d.1).toNat = E by omega]
      have b1 : E * 2 ^ (31 - fW d.1) + 2 ^ (31 - fW d.1) ≤ 2 ^ 31 := by
        have : (E + 1) * 2 ^ (31 - fW d.1) ≤ 2 ^ fW d.1 * 2 ^ (31 - fW d.1) := Nat.mul_le_mul_right _ hE2
        rw [← Nat.pow_add, show fW d.1 + (31 - fW d.1) = 31 by omega, Nat.add_mul, Nat.one_mul] at this
        exact this
      have b2 : E * 2 ^ (29 - fW d.1) + 2 ^ (29 - fW d.1) ≤ 2 ^ 29 := by
        have : (E + 1) * 2 ^ (29 - fW d.1) ≤ 2 ^ fW d.1 * 2 ^ (29 - fW d.1) := Nat.mul_le_mul_right _ hE2
        rw [← Nat.pow_add, show fW d.1 + (29 - fW d.1) = 29 by omega, Nat.add_mul, Nat.one_mul] at this
        exact this
      rw [Nat.pow_add 2 t (31 - fW d.1), ← Nat.div_div_eq_div_mul]
      rw [eh]
      generalize hHH : c / 2 ^ t = H at *
      by_cases hs : H < 2 ^ (31 - fW d.1)
      · rw [if_pos hs, if_pos (Nat.div_eq_of_lt hs), pb_d, hHH]
        refine fin _ _ ?_ (by omega)
        rw [pb_v hE2 (by rw [show 31 - fW d.1 + fW d.1 = 31 by omega]; omega), Nat.mod_eq_of_lt hs]
      · have hd0 : ¬ H / 2 ^ (31 - fW d.1) = 0 := fun z => hs (Nat.lt_of_div_eq_zero (two0 _) z)
        rw [if_neg hs, if_neg hd0, pb_d, pb_d, hHH]
        have hm := Nat.mod_lt H (two0 (29 - fW d.1))
        have e5 : 1610612736 ||| E * 2 ^ (29 - fW d.1) ||| H % 2 ^ (29 - fW d.1) = 3 * 2 ^ 29 + (E * 2 ^ (29 - fW d.1) + H % 2 ^ (29 - fW d.1)) := by
          rw [Nat.or_assoc, nat_or_add hm]
          exact nat_or_add (a := 3) (k := 29) (by omega)
        rw [e5]
        refine fin _ _ ?_ (by omega)
        have e6 : pb H 29 2 3 = 3 * 2 ^ 29 + H := by
          rw [pb_v (by decide) (by omega), Nat.mod_eq_of_lt (by omega)]
        rw [e6]
        unfold pb
        rw [show 29 - fW d.1 + fW d.1 = 29 by omega, Nat.mod_eq_of_lt hE2, show (3 * 2 ^ 29 + H) / 2 ^ 29 = 3 by omega]
        have e7 : (3 * 2 ^ 29 + H) % 2 ^ (29 - fW d.1) = H % 2 ^ (29 - fW d.1) := by
          rw [show 3 * 2 ^ 29 = 3 * 2 ^ fW d.1 * 2 ^ (29 - fW d.1) by rw [Nat.mul_assoc, ← Nat.pow_add, show fW d.1 + (29 - fW d.1) = 29 by omega], Nat.add_comm, Nat.add_mul_mod_self_right]
        rw [e7]
        omega
    · rw [if_neg s0, pb_d, pb_d, pb_d]
      generalize hHH : c / 2 ^ t = H at *
      have hH25 : H < 2 ^ 25 := by omega
      have e6 : pb H 27 4 15 = 15 * 2 ^ 27 + H := by
        rw [pb_v (by decide) (by omega), Nat.mod_eq_of_lt (by omega)]
      rw [e6]
      by_cases s1 : d.2.1 = 1
      · have hc0 := v.2.2.2.2.2.1 s1
        rw [hc] at hc0
        have hH0 : H = 0 := by rw [← hHH, hc0, Nat.zero_div]
        rw [if_pos s1, if_neg (by omega)]
        refine fin _ _ ?_ ?_
        · unfold hdV
          rw [if_pos s1, hH0]
          decide
        · unfold hdV
          rw [if_pos s1]
          decide
      · rw [if_neg s1]
        have h2 : 2 ≤ d.2.1 := by omega
        have e7 : pb (15 * 2 ^ 27 + H) 26 1 1 = 31 * 2 ^ 26 + H := by
          unfold pb
          rw [show (15 * 2 ^ 27 + H) / 2 ^ (26 + 1) = 15 by omega, show (15 * 2 ^ 27 + H) % 2 ^ 26 = H by omega]
        rw [e7]
        by_cases s2 : d.2.1 = 2
        · rw [if_pos s2]
          have e8 : pb (31 * 2 ^ 26 + H) 25 1 1 = 63 * 2 ^ 25 + H := by
            unfold pb
            rw [show (31 * 2 ^ 26 + H) / 2 ^ (25 + 1) = 31 by omega, show (31 * 2 ^ 26 + H) % 2 ^ 25 = H by omega]
          have e9 : hdV d H = 63 * 2 ^ 25 + H := by
            unfold hdV
            rw [if_neg s1, if_pos h2, if_pos s2]
            exact nat_or_add (a := 63) (k := 25) hH25
          rw [e8, e9]
          exact fin _ _ rfl (by omega)
        · rw [if_neg s2]
          have e8 : pb (31 * 2 ^ 26 + H) 25 1 0 = 62 * 2 ^ 25 + H := by
            unfold pb
            rw [show (31 * 2 ^ 26 + H) / 2 ^ (25 + 1) = 31 by omega, show (31 * 2 ^ 26 + H) % 2 ^ 25 = H by omega]
          have e9 : hdV d H = 62 * 2 ^ 25 + H := by
            unfold hdV
            rw [if_neg s1, if_pos h2, if_neg s2]
            exact nat_or_add (a := 62) (k := 25) hH25
          rw [e8, e9]
          exact fin _ _ rfl (by omega)
  · unfold ecW cB
    rw [if_neg k0, hc, show (4294967296 : Nat) = 2 ^ 32 from rfl, ← Nat.pow_mul]
    have hk2 : 32 * (fN d.1 - 1 - k) + 32 ≤ t := by omega
    have key : ∀ Y Z : Nat, Y % 2 ^ t = Z % 2 ^ t → Y / 2 ^ (32 * (fN d.1 - 1 - k)) % 2 ^ 32 = Z / 2 ^ (32 * (fN d.1 - 1 - k)) % 2 ^ 32 := by
      intro Y Z hYZ
      refine Nat.eq_of_testBit_eq fun i => ?_
      rw [Nat.testBit_mod_two_pow, Nat.testBit_mod_two_pow, Nat.testBit_div_two_pow, Nat.testBit_div_two_pow]
      by_cases a : i < 32
      · have := congrArg (fun x => Nat.testBit x (i + 32 * (fN d.1 - 1 - k))) hYZ
        simp only [Nat.testBit_mod_two_pow] at this
        rw [decide_eq_true (by omega), Bool.true_and, Bool.true_and] at this
        rw [this]
      · rw [decide_eq_false a, Bool.false_and, Bool.false_and]
    refine key _ _ ?_
    rw [pb_m (by omega)]
    split
    · split
      · rw [pb_m (by omega)]
      · rw [pb_m (by omega), pb_m (by omega)]
    · rw [pb_m (by omega), pb_m (by omega), pb_m (by omega)]
section REF
variable {h : ix_H} {Q : ix_O → ix_H → Prop} {S0 : Nat → AC} {R F : Nat → Dm} {V cd dr ra si tr : Nat} {mo ng : Bool} {sp sz wr : Nat} {il : Bool} {rs pt rl wo tx ou : Nat → Nat} {j x y z w a0 b0 k0 c0 : Int} {r f s m a c k n X : Nat} {b t : Bool}
theorem l2i_n (n : Nat) : (zL (n : Int)).toInt32 = nI n := by
  refine Int32.toBitVec_inj.mp ?_
  unfold nI
  rw [Int64.toBitVec_toInt32, zL_bv]
  apply BitVec.eq_of_toNat_eq
  show (BitVec.signExtend 32 (BitVec.ofNat 64 n)).toNat = (BitVec.ofNat 32 n).toNat
  rw [BitVec.signExtend_eq_setWidth_of_le _ (by decide), BitVec.toNat_setWidth, BitVec.toNat_ofNat, BitVec.toNat_ofNat]
  omega
theorem m_bits (K : (RK S0 h F cd dr ra tr sz wr tx ou)) (hv : ∀ i, i < 9 → ValD (F i)) (hx : zr x) (hy : zr y) (q0 : ¬ ((0 ≤ x ∧ x ≤ 8) ∧ 0 ≤ y ∧ y < fN (F x.toNat).1) → ∀ h', (RK S0 h' F (0) dr ra tr sz wr tx ou) → Q (.inl (some (.int (zI 0)))) h') (q1 : (0 ≤ x ∧ x ≤ 8) ∧ 0 ≤ y ∧ y < fN (F x.toNat).1 → ∀ h', (RK S0 h' F (0) dr ra tr sz wr tx ou) → Q (.inl (some (.int (nI (ecW (F x.toNat) y.toNat))))) h') : ix_M 180 [.ref 98, .int (zI x), .int (zI y)] h Q := by
  obtain ⟨R, si, hR, V, mo, ng, sp, il, rs, pt, rl, wo, K⟩ := K
  have hy1 := hy.1
  have hy2 := hy.2
  refine jx (pc' := 2) (L' := [_, _, _]) (st' := [.int (zI 0), _]) 2 rfl ?_
  refine jp_cd (pc' := 5) 0 K (by first | rfl | (congr 1; omega)) rfl rfl rfl rfl fun h K => ?_
  refine jx (pc' := 6) (L' := [_, _, _]) (st' := [_]) 1 rfl ?_
  have bad : ¬ ((0 ≤ x ∧ x ≤ 8) ∧ 0 ≤ y ∧ y < fN (F x.toNat).1) → ix_E 180 32 [some (.ref 98), some (.int (zI x)), some (.int (zI y))] [] h Q := by
    intro hn
    refine jx (pc' := 33) (L' := [_, _, _]) (st' := [.int (zI 0)]) 1 rfl ?_
    refine jri rfl rfl ?_
    exact q0 hn _ ⟨R, _, hR, K.rj⟩
  refine jcs (pc' := 9) 181 [_] [] rfl rfl rfl rfl rfl rfl rfl rfl ?_
  refine m_isSource hx (jk ?_)
  by_cases h2 : 0 ≤ x ∧ x ≤ 8
  · have hxn : x = ((x.toNat : Nat) : Int) := by omega
    have vx := hv x.toNat (by omega)
    obtain ⟨w1, w2, w3, w4', w5, w6, w7, w8, w9⟩ := f3w vx.1
    refine jin (pc' := 12) 32 rfl rfl rfl rfl (by rw [bz_eq, decide_eq_true h2]; rfl) ?_
    refine jx (pc' := 13) (L' := [_, _, _]) (st' := [_]) 1 rfl ?_
    by_cases h3 : y < 0
    · skip
      refine jit (pc' := 32) rfl rfl rfl (by rw [zz_lt ⟨by omega, by omega⟩]; exact decide_eq_true (by omega)) ?_
      exact bad (fun n => by have := n.2.1; omega)
    · skip
      refine jin (pc' := 16) 32 rfl rfl rfl rfl (by rw [zz_lt ⟨by omega, by omega⟩]; exact decide_eq_false (by omega)) ?_
      refine jx (pc' := 18) (L' := [_, _, _]) (st' := [_, _]) 2 rfl ?_
      refine jgf (pc' := 21) K.ob rfl rfl rfl rfl rfl ?_
      refine jx (pc' := 22) (L' := [_, _, _]) (st' := [_, _, _]) 1 rfl ?_
      refine jR_f (pc' := 23) x.toNat K rfl rfl (by omega) (by omega)  rfl ?_
      rw [hR x.toNat (by omega)]
      refine jcs (pc' := 26) 169 [_] [_] rfl rfl rfl rfl rfl rfl rfl rfl ?_
      refine m_widthOf rfl vx.1 (jk ?_)
      refine jx (pc' := 28) (L' := [_, _, _]) (st' := [.int (zI 32), _, _]) 1 rfl ?_
      refine jidiv (pc' := 29) rfl rfl (by decide) rfl ?_
      rw [zdiv ⟨by omega, by omega⟩ ⟨by omega, by omega⟩, show (fWd (F x.toNat).1 : Int) / 32 = (fN (F x.toNat).1 : Int) by omega]
      by_cases h4 : y < fN (F x.toNat).1
      · have q1 := q1 ⟨h2, by omega, h4⟩
        have e5 := ec_X vx (k := y.toNat) (by omega)
        refine jct (pc' := 34) rfl rfl rfl (by rw [zc_lt ⟨by omega, by omega⟩ ⟨by omega, by omega⟩]; exact decide_eq_true (by omega)) ?_
        refine jx (pc' := 36) (L' := [_, _, _]) (st' := [_, _]) 2 rfl ?_
        refine jcv (pc' := 39) 182 [_] [] K.ob rfl rfl rfl rfl rfl rfl rfl rfl ?_
        refine m_encode (r := x.toNat) K hxn (by omega) (by rw [hR x.toNat (by omega)]; exact vx) fun h wo' W K => jk ?_
        rw [hR x.toNat (by omega)] at W
        have e6 := W.1 (fN (F x.toNat).1 - 1 - y.toNat) (by omega)
        rw [e5] at e6
        refine jx (pc' := 40) (L' := [_, _, _]) (st' := [_]) 1 rfl ?_
        refine jgf (pc' := 43) K.ob rfl rfl rfl rfl rfl ?_
        refine jx (pc' := 44) (L' := [_, _, _]) (st' := [_, _]) 1 rfl ?_
        refine jgf (pc' := 47) K.ob rfl rfl rfl rfl rfl ?_
        refine jx (pc' := 48) (L' := [_, _, _]) (st' := [_, _, _]) 1 rfl ?_
        refine jR_f (pc' := 49) x.toNat K rfl rfl (by omega) (by omega)  rfl ?_
        rw [hR x.toNat (by omega)]
        refine jcs (pc' := 52) 169 [_] [_] rfl rfl rfl rfl rfl rfl rfl rfl ?_
        refine m_widthOf rfl vx.1 (jk ?_)
        refine jx (pc' := 54) (L' := [_, _, _]) (st' := [.int (zI 32), _, _]) 1 rfl ?_
        refine jidiv (pc' := 55) rfl rfl (by decide) rfl ?_
        rw [zdiv ⟨by omega, by omega⟩ ⟨by omega, by omega⟩, show (fWd (F x.toNat).1 : Int) / 32 = (fN (F x.toNat).1 : Int) by omega]
        refine jx (pc' := 59) (L' := [_, _, _]) (st' := [_, _]) 4 rfl ?_
        try simp (disch := omega) only [kz, kzl0, kzl1, kzb, kzs, zI_add, zI_sub, zI_neg, zI_mul, zL_i, zI_l, zL_add, zL_sub, zL_neg]
        refine jR_w (pc' := 60) (fN (F x.toNat).1 - 1 - y.toNat) K rfl rfl (by omega) (by omega) rfl ?_
        rw [e6]
        refine jx (pc' := 61) (L' := [_, _, _]) (st' := [_]) 1 rfl ?_
        change ix_E 180 61 _ [.int (zL ((ecW (F x.toNat) y.toNat : Nat) : Int)).toInt32] h Q
        rw [l2i_n]
        refine jri rfl rfl ?_
        exact q1 _ ⟨R, _, hR, K.rj⟩
      · skip
        refine jcn (pc' := 32) 34 rfl rfl rfl rfl (by rw [zc_lt ⟨by omega, by omega⟩ ⟨by omega, by omega⟩]; exact decide_eq_false (by omega)) ?_
        exact bad (fun n => h4 n.2.2)
  · skip
    refine jit (pc' := 32) rfl rfl rfl (by rw [bz_eq, decide_eq_false h2]; rfl) ?_
    exact bad (fun n => h2 n.1)
end REF
