/-! ===== words and longs; Arithmetic: fromWhole ===== -/
theorem mk64 (hi : Int32) (l : Nat) (hl : l < 4294967296) : (hi.toInt64 <<< (32 : Int64)) ||| lN l = zL (hi.toInt * 4294967296 + l) := by
  refine Int64.toBitVec_inj.mp ?_
  unfold zL lN
  have e1 : (hi.toInt64).toBitVec = BitVec.ofInt 64 hi.toInt := by
    apply BitVec.eq_of_toInt_eq
    rw [show hi.toInt64.toBitVec.toInt = hi.toInt64.toInt from rfl, Int32.toInt_toInt64, BitVec.toInt_ofInt]
    have h1 := hi.le_toInt
    have h2 := hi.toInt_lt
    simp only [Int.bmod]
    omega
  rw [Int64.toBitVec_or, Int64.toBitVec_shiftLeft, e1]
  apply BitVec.eq_of_toNat_eq
  rw [BitVec.toNat_or]
  rw [show (BitVec.ofInt 64 hi.toInt <<< (Int64.toBitVec 32).smod 64) = BitVec.ofInt 64 hi.toInt <<< 32 from rfl, BitVec.toNat_shiftLeft]
  rw [show (Int64.ofNat l).toBitVec = BitVec.ofNat 64 l from rfl, BitVec.toNat_ofNat, BitVec.toNat_ofInt]
  rw [show (Int64.ofInt (hi.toInt * 4294967296 + (l:Int))).toBitVec = BitVec.ofInt 64 (hi.toInt * 4294967296 + l) from rfl, BitVec.toNat_ofInt]
  rw [Nat.shiftLeft_eq, Nat.mod_eq_of_lt (a := l) (by omega)]
  have e3 : ((hi.toInt % ((2 ^ 64 : Nat) : Int)).toNat * 2 ^ 32) % 2 ^ 64 = ((hi.toInt % 4294967296).toNat) <<< 32 := by
    rw [Nat.shiftLeft_eq]
    omega
  rw [e3, ← Nat.shiftLeft_add_eq_or_of_lt (by omega), Nat.shiftLeft_eq]
  omega
theorem zL_cg {a b : Int} (h : a % 18446744073709551616 = b % 18446744073709551616) : zL a = zL b := by
  refine Int64.toInt_inj.mp ?_
  unfold zL
  rw [Int64.toInt_ofInt, Int64.toInt_ofInt, show Int64.size = 18446744073709551616 from rfl]
  simp only [Int.bmod]
  rw [show ((18446744073709551616 : Nat) : Int) = 18446744073709551616 from rfl, h]
theorem wd_l (z : Int) : wd (zL z).toInt32 = (z % 4294967296).toNat := by
  unfold wd zL
  rw [Int64.toInt_toInt32, Int64.toInt_ofInt, show Int64.size = 18446744073709551616 from rfl]
  simp only [Int.bmod]
  congr 1
  omega
theorem lush (n : Nat) (hn : n < 18446744073709551616) : ((zL n).toUInt64 >>> (32 : UInt64)).toInt64 = zL (n / 4294967296 : Nat) := by
  refine Int64.toBitVec_inj.mp ?_
  rw [UInt64.toBitVec_toInt64, UInt64.toBitVec_shiftRight, Int64.toBitVec_toUInt64]
  unfold zL
  apply BitVec.eq_of_toNat_eq
  rw [show (UInt64.toBitVec 32 % 64 : BitVec 64) = 32#64 from rfl, show ∀ x : BitVec 64, x >>> (32#64) = x >>> 32 from fun _ => rfl, BitVec.toNat_ushiftRight, Int64.toBitVec_ofInt, Int64.toBitVec_ofInt, BitVec.toNat_ofInt, BitVec.toNat_ofInt, Nat.shiftRight_eq_div_pow]
  omega
theorem wd_n {l : Nat} (h : l < 4294967296) : wd (nI l) = l := by
  unfold wd nI
  rw [Int32.toInt_ofNat', show Int32.size = 4294967296 from rfl]
  simp only [Int.bmod]
  omega
/-- a number of 64 bits from two words -/
def wl (hi lo : Int32) : Int := hi.toInt * 4294967296 + wd lo
theorem wl_b (hi lo : Int32) : -9223372036854775808 ≤ wl hi lo ∧ wl hi lo < 9223372036854775808 := by
  have h1 := hi.le_toInt
  have h2 := hi.toInt_lt
  have h3 := wd_lt lo
  unfold wl
  omega
noncomputable def fwR (dir f : Nat) (v : Int) : Dm × Nat := rdo dir (f, 0, false, 0, 0) (.inr (decide (v < 0), false, 0, 0, v.natAbs))
section ART
variable {h : ix_H} {Q : ix_O → ix_H → Prop} {S : Nat → AC} {a dir f : Nat} {da dr : Dm} {hi lo : Int32}
theorem v_fromWhole (I : Inv h S) (L : Lay S) (R : ResD S dr) (hd : dir < 5) (hf : f < 3) (q : ∀ h' S', Inv h' S' → Lay S' → ag arl S S' → ResD S' (fwR dir f (wl hi lo)).1 → Q (.inl (some (.int (nI (fwR dir f (wl hi lo)).2)))) h') : ix_M 141 [.ref 34, .int (nI f), .int hi, .int lo, .int (nI dir)] h Q := by
  obtain ⟨wn, AR⟩ := L.1
  obtain ⟨r1, r2, r3, r4, r5⟩ := R
  obtain ⟨xn, xm, xe, xw, xc, X0, XC0⟩ := L.2.1
  have hwb := wl_b hi lo
  unfold fwR at q
  have t2 : ∀ (ng : Bool) (h1 : ix_H), ng = decide (wl hi lo < 0) → Inv h1 (va_up S 35 (aC (dC 35 f dr.2.1 dr.2.2.1 dr.2.2.2.1))) → ix_E 141 55 [some (.ref 34), some (.int (nI f)), some (.int hi), some (.int lo), some (.int (nI dir)), some (.long (zL (wl hi lo))), none, some (.long (zL ((wl hi lo).natAbs : Nat))), none] [.int (bI ng), .ref 38] h1 Q := by
    intro ng h1 hng I
    rw [← hng] at q
    have hna : (wl hi lo).natAbs < 18446744073709551616 := by omega
    generalize (wl hi lo).natAbs = n at *
    refine jcv (pc' := 58) 97 [_] [] (I.ob (r := 38) X0) rfl rfl rfl rfl rfl rfl rfl rfl ?_
    refine v_setZero (r := 38) I X0 XC0 fun _ I => jk ?_
    have X1 : va_up (va_up (va_up S 35 (aC (dC 35 f dr.2.1 dr.2.2.1 dr.2.2.2.1))) 38 (aC (uC 38 ng false xe xw))) 39 (aN 0) 38 = aC (uC 38 ng false xe xw) := rfl
    refine jx (pc' := 59) (L' := [_, _, _, _, _, _, _, _, _]) (st' := [_]) 1 rfl ?_
    refine jgf (pc' := 62) (I.ob (r := 34) AR) rfl rfl rfl rfl rfl ?_
    refine jgf (pc' := 65) (I.ob (r := 38) X1) rfl rfl rfl rfl rfl ?_
    refine jx (pc' := 71) (L' := [_, _, _, _, _, _, _, _, _]) (st' := [_, _]) 4 rfl ?_
    try simp (disch := omega) only [kz, kzl0, kzl1, kzb, kzs, zI_add, zI_sub, zI_neg, zI_mul, zL_i, zI_l, zL_add, zL_sub, zL_neg]
    rw [show (zL 32).toUInt64 &&& Int64.toUInt64 63 = (32 : UInt64) from by decide, lush n hna]
    refine jcv (pc' := 74) 54 [_] [] (I.no (r := 39) rfl) rfl rfl rfl rfl rfl rfl rfl rfl ?_
    refine v_takeWord (a := 39) I rfl (by rw [wd_l]; omega) fun _ I => jk ?_
    refine jx (pc' := 75) (L' := [_, _, _, _, _, _, _, _, _]) (st' := [_]) 1 rfl ?_
    refine jgf (pc' := 78) (I.ob (r := 34) AR) rfl rfl rfl rfl rfl ?_
    refine jgf (pc' := 81) (I.ob (r := 38) X1) rfl rfl rfl rfl rfl ?_
    refine jx (pc' := 84) (L' := [_, _, _, _, _, _, _, _, _]) (st' := [_, _]) 2 rfl ?_
    try simp (disch := omega) only [kz, kzl0, kzl1, kzb, kzs, zI_add, zI_sub, zI_neg, zI_mul, zL_i, zI_l, zL_add, zL_sub, zL_neg]
    refine jcv (pc' := 87) 54 [_] [] (I.no (r := 39) rfl) rfl rfl rfl rfl rfl rfl rfl rfl ?_
    refine v_takeWord (a := 39) I rfl (by rw [wd_l, wd_l]; omega) fun _ I => jk ?_
    have ec : (0 * 4294967296 + wd (zL (n / 4294967296 : Nat)).toInt32) * 4294967296 + wd (zL n).toInt32 = n := by
      rw [wd_l, wd_l]
      omega
    rw [ec] at I
    refine jx (pc' := 88) (L' := [_, _, _, _, _, _, _, _, _]) (st' := [_]) 1 rfl ?_
    refine jgf (pc' := 91) (I.ob (r := 34) AR) rfl rfl rfl rfl rfl ?_
    refine jx (pc' := 92) (L' := [_, _, _, _, _, _, _, _, _]) (st' := [.long (zL 0), _]) 1 rfl ?_
    refine jpA (pc' := 95) (r := 38) I X1 rfl rfl rfl (Nat.le_of_ble_eq_true rfl) (by intro z; cases z) rfl rfl rfl fun _ I X1 => ?_
    refine jx (pc' := 96) (L' := [_, _, _, _, _, _, _, _, _]) (st' := [_]) 1 rfl ?_
    refine jgf (pc' := 99) (I.ob (r := 34) AR) rfl rfl rfl rfl rfl ?_
    refine jx (pc' := 100) (L' := [_, _, _, _, _, _, _, _, _]) (st' := [.long (zL 0), _]) 1 rfl ?_
    refine jpA (pc' := 103) (r := 38) I X1 rfl rfl rfl (Nat.le_of_ble_eq_true rfl) (by intro z; cases z) rfl rfl rfl fun _ I X1 => ?_
    refine jx (pc' := 104) (L' := [_, _, _, _, _, _, _, _, _]) (st' := [_]) 1 rfl ?_
    refine jgf (pc' := 107) (I.ob (r := 34) AR) rfl rfl rfl rfl rfl ?_
    refine jx (pc' := 110) (L' := [_, _, _, _, _, _, _, _, _]) (st' := [_, _, _]) 2 rfl ?_
    refine jgf (pc' := 113) (I.ob (r := 34) AR) rfl rfl rfl rfl rfl ?_
    refine jcs (pc' := 116) 103 [_, _, _] [] rfl rfl rfl rfl rfl rfl rfl rfl ?_
    refine v_roundR (dr := (f, dr.2.1, dr.2.2.1, dr.2.2.2.1, dr.2.2.2.2)) (u := (ng, false, 0, 0, n)) I L.up35.up38.up39.up39.up39.up38.up38 ⟨rfl, r2, hf, r4, r5⟩ rfl rfl ⟨by dsimp only; omega, by dsimp only; decide, by dsimp only; decide, by dsimp only; decide, by dsimp only; decide⟩ hd fun h' S' I' L' g R' => jk ?_
    refine jri rfl rfl ?_
    exact q _ _ I' L' ((((((((((ag_0 arl S).up (by decide)).up (by decide)).up (by decide)).up (by decide)).up (by decide)).up (by decide)).up (by decide))).tr g (fun _ z => z)) R'
  have t1 : ∀ (l7 : Int64), l7 = zL ((wl hi lo).natAbs : Nat) → ix_E 141 29 [some (.ref 34), some (.int (nI f)), some (.int hi), some (.int lo), some (.int (nI dir)), some (.long (zL (wl hi lo))), none, none, none] [.long l7] h Q := by
    intro l7 h7
    subst h7
    refine jx (pc' := 32) (L' := [_, _, _, _, _, _, _, _, _]) (st' := [_]) 2 rfl ?_
    refine jgf (pc' := 35) (I.ob (r := 34) AR) rfl rfl rfl rfl rfl ?_
    refine jx (pc' := 36) (L' := [_, _, _, _, _, _, _, _, _]) (st' := [_, _]) 1 rfl ?_
    refine jpA (pc' := 39) (r := 35) I r1 rfl rfl rfl (Nat.le_of_ble_eq_true rfl) (by intro z; cases z) rfl rfl rfl fun _ I r1 => ?_
    refine jx (pc' := 40) (L' := [_, _, _, _, _, _, _, _, _]) (st' := [_]) 1 rfl ?_
    refine jgf (pc' := 43) (I.ob (r := 34) AR) rfl rfl rfl rfl rfl ?_
    refine jx (pc' := 47) (L' := [_, _, _, _, _, _, _, _, _]) (st' := [_, _]) 3 rfl ?_
    try simp (disch := omega) only [kz, kzl0, kzl1, kzb, kzs, zI_add, zI_sub, zI_neg, zI_mul, zL_i, zI_l, zL_add, zL_sub, zL_neg]
    by_cases e : wl hi lo < 0
    · skip
      refine jin (pc' := 50) 54 rfl rfl rfl rfl (by rw [zl_ge ⟨by omega, by omega⟩ ⟨by omega, by omega⟩]; exact decide_eq_false (by omega)) ?_
      refine jx (pc' := 55) (L' := [_, _, _, _, _, _, _, _, _]) (st' := [.int (zI 1), _]) 2 rfl ?_
      exact t2 true _ (decide_eq_true e).symm I
    · skip
      refine jit (pc' := 54) rfl rfl rfl (by rw [zl_ge ⟨by omega, by omega⟩ ⟨by omega, by omega⟩]; exact decide_eq_true (by omega)) ?_
      refine jx (pc' := 55) (L' := [_, _, _, _, _, _, _, _, _]) (st' := [.int (zI 0), _]) 1 rfl ?_
      exact t2 false _ (decide_eq_false e).symm I
  refine jx (pc' := 12) (L' := [_, _, _, _, _, _, _, _, _]) (st' := [_]) 9 rfl ?_
  try simp (disch := omega) only [kL4294967295, kz, kzl0, kzl1, kzb, kzs, zI_add, zI_sub, zI_neg, zI_mul, zL_i, zI_l, zL_add, zL_sub, zL_neg]
  rw [lN_msk, show (zL 32 &&& 63 : Int64) = 32 from by decide, mk64 _ _ (wd_lt lo)]
  change ix_E 141 12 _ [.long (zL (wl hi lo))] h Q
  refine jx (pc' := 18) (L' := [_, _, _, _, _, _, _, _, _]) (st' := [_]) 4 rfl ?_
  try simp (disch := omega) only [kz, kzl0, kzl1, kzb, kzs, zI_add, zI_sub, zI_neg, zI_mul, zL_i, zI_l, zL_add, zL_sub, zL_neg]
  by_cases e : wl hi lo < 0
  · skip
    refine jin (pc' := 21) 27 rfl rfl rfl rfl (by rw [zl_ge ⟨by omega, by omega⟩ ⟨by omega, by omega⟩]; exact decide_eq_false (by omega)) ?_
    refine jx (pc' := 29) (L' := [_, _, _, _, _, _, _, _, _]) (st' := [_]) 3 rfl ?_
    try simp (disch := omega) only [kz, kzl0, kzl1, kzb, kzs, zI_add, zI_sub, zI_neg, zI_mul, zL_i, zI_l, zL_add, zL_sub, zL_neg]
    exact t1 _ (by congr 1; omega)
  · skip
    refine jit (pc' := 27) rfl rfl rfl (by rw [zl_ge ⟨by omega, by omega⟩ ⟨by omega, by omega⟩]; exact decide_eq_true (by omega)) ?_
    refine jx (pc' := 29) (L' := [_, _, _, _, _, _, _, _, _]) (st' := [_]) 1 rfl ?_
    exact t1 _ (by congr 1; omega)
end ART
