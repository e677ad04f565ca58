/-! ===== bits of words; BitPattern: take, lowBits, joinWords ===== -/
theorem nI_or (a b : Nat) : nI a ||| nI b = nI (a ||| b) := by
  refine Int32.toBitVec_inj.mp ?_
  unfold nI
  rw [Int32.toBitVec_or]
  show BitVec.ofNat 32 a ||| BitVec.ofNat 32 b = BitVec.ofNat 32 (a ||| b)
  exact (BitVec.ofNat_or ..).symm
theorem nI_wd (w : Int32) : nI (wd w) = w := by
  refine Int32.toInt_inj.mp ?_
  unfold nI wd
  rw [Int32.toInt_ofNat', show Int32.size = 4294967296 from rfl]
  have h1 := w.le_toInt
  have h2 := w.toInt_lt
  simp only [Int.bmod]
  omega
theorem nat_or_add {a b k : Nat} (h : b < 2 ^ k) : a * 2 ^ k ||| b = a * 2 ^ k + b := by
  rw [← Nat.shiftLeft_eq, ← Nat.shiftLeft_add_eq_or_of_lt h]
theorem and_low (x k : Nat) : x &&& (2 ^ k - 1) = x % 2 ^ k := Nat.and_two_pow_sub_one_eq_mod x k
theorem and_mid (x j s : Nat) : x &&& ((2 ^ j - 1) * 2 ^ s) = x / 2 ^ s % 2 ^ j * 2 ^ s := by
  rw [← Nat.and_two_pow_sub_one_eq_mod, ← Nat.shiftLeft_eq, ← Nat.shiftLeft_eq, ← Nat.shiftRight_eq_div_pow]
  apply Nat.eq_of_testBit_eq
  intro i
  rw [Nat.testBit_and, Nat.testBit_shiftLeft, Nat.testBit_shiftLeft, Nat.testBit_and, Nat.testBit_shiftRight]
  by_cases h : s ≤ i
  · simp [h, Nat.add_sub_cancel' h]
  · simp [h]
theorem shk : ∀ k : Fin 32, ((nI k.val &&& 31).toBitVec.smod 32) = BitVec.ofNat 32 k.val := by decide
theorem nI_shl (b : Nat) {k : Nat} (hk : k < 32) : nI b <<< (nI k &&& 31) = nI (b * 2 ^ k) := by
  refine Int32.toBitVec_inj.mp ?_
  rw [Int32.toBitVec_shiftLeft, shk ⟨k, hk⟩]
  show (BitVec.ofNat 32 b) <<< (BitVec.ofNat 32 k) = BitVec.ofNat 32 (b * 2 ^ k)
  apply BitVec.eq_of_toNat_eq
  rw [BitVec.shiftLeft_eq', BitVec.toNat_shiftLeft, BitVec.toNat_ofNat, BitVec.toNat_ofNat, BitVec.toNat_ofNat, Nat.mod_eq_of_lt (a := k) (by omega), Nat.shiftLeft_eq, Nat.mod_mul_mod]
theorem shu : ∀ k : Fin 32, ((nI k.val).toUInt32 &&& Int32.toUInt32 31).toBitVec % 32 = BitVec.ofNat 32 k.val := by decide
theorem nI_shr (w : Int32) {k : Nat} (hk : k < 32) : (w.toUInt32 >>> ((nI k).toUInt32 &&& Int32.toUInt32 31)).toInt32 = nI (wd w / 2 ^ k) := by
  refine Int32.toBitVec_inj.mp ?_
  rw [UInt32.toBitVec_toInt32, UInt32.toBitVec_shiftRight, Int32.toBitVec_toUInt32, shu ⟨k, hk⟩]
  show w.toBitVec >>> (BitVec.ofNat 32 k) = BitVec.ofNat 32 (wd w / 2 ^ k)
  have hw : w.toBitVec = BitVec.ofNat 32 (wd w) := by
    have := nI_wd w
    conv => lhs; rw [← this]
    rfl
  rw [hw]
  apply BitVec.eq_of_toNat_eq
  have := wd_lt w
  rw [BitVec.ushiftRight_eq', BitVec.toNat_ushiftRight, BitVec.toNat_ofNat, BitVec.toNat_ofNat, BitVec.toNat_ofNat, Nat.mod_eq_of_lt (a := k) (by omega), Nat.shiftRight_eq_div_pow, Nat.mod_eq_of_lt (a := wd w) (by omega)]
  rw [Nat.mod_eq_of_lt]
  exact Nat.lt_of_le_of_lt (Nat.div_le_self _ _) (by omega)
theorem wd_neg (w : Int32) : w.toInt < 0 ↔ 2147483648 ≤ wd w := by
  have h1 := w.le_toInt
  have h2 := w.toInt_lt
  unfold wd
  omega

def fW (k : Nat) : Nat := [8, 10, 14].getD k 0
def fP (k : Nat) : Nat := [20, 18, 14].getD k 0
def fN (k : Nat) : Nat := [1, 2, 4].getD k 0
theorem tv0 {k : Nat} (h : k < 3) : (ix_tv 0).getD k 0 = nI (fN k) := by rcases f3 h with rfl | rfl | rfl <;> decide
theorem tv5 {k : Nat} (h : k < 3) : (ix_tv 5).getD k 0 = nI (fW k) := by rcases f3 h with rfl | rfl | rfl <;> decide
theorem tv6 {k : Nat} (h : k < 3) : (ix_tv 6).getD k 0 = nI (fP k) := by rcases f3 h with rfl | rfl | rfl <;> decide
theorem tv1n {k : Nat} (h : k < 3) : (ix_tv 1).getD k 0 = nI (fD k) := by rcases f3 h with rfl | rfl | rfl <;> decide
theorem fWb {k : Nat} (h : k < 3) : 8 ≤ fW k ∧ fW k ≤ 14 ∧ fP k ≤ 20 ∧ 14 ≤ fP k := by rcases f3 h with rfl | rfl | rfl <;> decide
/-- the words joined to one number -/
def jw (f top : Nat) (W : Nat → Int32) : Nat := if f = 0 then top else if f = 1 then top * 4294967296 + wd (W 1) else ((top * 4294967296 + wd (W 1)) * 4294967296 + wd (W 2)) * 4294967296 + wd (W 3)
noncomputable def jc (f top : Nat) (W : Nat → Int32) (most : Nat) : Nat := if most < dgs (jw f top W) then 0 else jw f top W
section IXW
variable {mi pc pc' mj k : Nat} {i : Instr} {L L' : ix_L} {st st' rest as : List Value} {h h' : ix_H} {Q : ix_O → ix_H → Prop} {S : Nat → AC}
/-- any int of an array is written -/
theorem jsB {r n j : Nat} {f : Nat → Int32} {x : Int32} (I : Inv h S) (e : S r = aC (cI 0 n f)) (hi : ix_ins mi pc = some .iastore) (ht : ix_thr mi pc = none) (hj : j < n) (hp : pc + 1 = pc') (q : ∀ h', Inv h' (va_up S r (aC (cI 0 n (upd f j x)))) → ix_E mi pc' L st h' Q) : ix_E mi pc L (.int x :: .int (nI j) :: .ref r :: st) h Q :=
  jas (I.ia e) hi ht hj hp (q _ (I.pc e (I.cl e).2.2.2))
end IXW
/-- what the bit pattern's object is -/
abbrev bpC : ix_C := cO 4 [.ref 62, .ref 63]
theorem mskl (x : Int32) (n : Nat) : x &&& nI (2 ^ n - 1) = nI (wd x % 2 ^ n) := by
  have e : x &&& nI (2 ^ n - 1) = nI (wd x) &&& nI (2 ^ n - 1) := by rw [nI_wd]
  rw [e, nI_and, and_low]
theorem mskm (x : Int32) (j s : Nat) : x &&& nI ((2 ^ j - 1) * 2 ^ s) = nI (wd x / 2 ^ s % 2 ^ j * 2 ^ s) := by
  have e : x &&& nI ((2 ^ j - 1) * 2 ^ s) = nI (wd x) &&& nI ((2 ^ j - 1) * 2 ^ s) := by rw [nI_wd]
  rw [e, nI_and, and_mid]
section BIT
variable {h : ix_H} {Q : ix_O → ix_H → Prop} {S : Nat → AC} {W : Nat → Int32} {f top most w : Nat}
theorem c_lowBits {x : Int32} {n : Nat} (hn : n < 31) (q : Q (.inl (some (.int (nI (wd x % 2 ^ n))))) h) : ix_M 90 [.int x, .int (nI n)] h Q := by
  have hp : 1 ≤ 2 ^ n := Nat.pow_pos (by decide)
  refine jx (pc' := 6) (L' := [_, _]) (st' := [_, _]) 6 rfl ?_
  try simp (disch := omega) only [ki1, nI_add, nI_mul, nI_sub, Nat.zero_mul, Nat.one_mul, Nat.sub_zero, Nat.add_zero, Nat.zero_add, Nat.add_sub_cancel]
  rw [nI_shl 1 (by omega), Nat.one_mul, nI_sub hp]
  refine jx (pc' := 7) (L' := [_, _]) (st' := [_]) 1 rfl ?_
  try simp (disch := omega) only [nI_add, nI_mul, nI_sub, Nat.zero_mul, Nat.one_mul, Nat.sub_zero, Nat.add_zero, Nat.zero_add, Nat.add_sub_cancel]
  rw [mskl]
  refine jri rfl rfl ?_
  exact q
theorem v_take4 {a b c d : Int32} (I : Inv h S) (K : S 61 = aC bpC) (WW : S 62 = aC (cI 0 4 W)) (q : ∀ h' W', W' 0 = a → W' 1 = b → W' 2 = c → W' 3 = d → Inv h' (va_up S 62 (aC (cI 0 4 W'))) → Q (.inl none) h') : ix_M 91 [.ref 61, .int a, .int b, .int c, .int d] h Q := by
  refine jx (pc' := 1) (L' := [_, _, _, _, _]) (st' := [_]) 1 rfl ?_
  refine jgf (pc' := 4) (I.ob (r := 61) K) rfl rfl rfl rfl rfl ?_
  refine jx (pc' := 6) (L' := [_, _, _, _, _]) (st' := [_, .int (nI 0), _]) 2 rfl ?_
  refine jsB (pc' := 7) (r := 62) I WW rfl rfl (by decide) rfl fun _ I => ?_
  refine jx (pc' := 8) (L' := [_, _, _, _, _]) (st' := [_]) 1 rfl ?_
  refine jgf (pc' := 11) (I.ob (r := 61) K) rfl rfl rfl rfl rfl ?_
  refine jx (pc' := 13) (L' := [_, _, _, _, _]) (st' := [_, .int (nI 1), _]) 2 rfl ?_
  refine jsB (pc' := 14) (r := 62) I (va_up_self _ _ _) rfl rfl (by decide) rfl fun _ I => ?_
  rw [va_up_up] at I
  refine jx (pc' := 15) (L' := [_, _, _, _, _]) (st' := [_]) 1 rfl ?_
  refine jgf (pc' := 18) (I.ob (r := 61) K) rfl rfl rfl rfl rfl ?_
  refine jx (pc' := 20) (L' := [_, _, _, _, _]) (st' := [_, .int (nI 2), _]) 2 rfl ?_
  refine jsB (pc' := 21) (r := 62) I (va_up_self _ _ _) rfl rfl (by decide) rfl fun _ I => ?_
  rw [va_up_up] at I
  refine jx (pc' := 22) (L' := [_, _, _, _, _]) (st' := [_]) 1 rfl ?_
  refine jgf (pc' := 25) (I.ob (r := 61) K) rfl rfl rfl rfl rfl ?_
  refine jx (pc' := 28) (L' := [_, _, _, _, _]) (st' := [_, .int (nI 3), _]) 2 rfl ?_
  refine jsB (pc' := 29) (r := 62) I (va_up_self _ _ _) rfl rfl (by decide) rfl fun _ I => ?_
  rw [va_up_up] at I
  refine ix_qr _ rfl rfl rfl ?_
  exact q _ _ rfl rfl rfl rfl I
theorem v_joinWords (I : Inv h S) (K : S 61 = aC bpC) (WW : S 62 = aC (cI 0 4 W)) (WK : S 63 = aN w) (hf : f < 3) (ht : top < 4294967296) (hm : most < 100) (q : ∀ h', Inv h' (va_up S 63 (aN (jc f top W most))) → Q (.inl none) h') : ix_M 94 [.ref 61, .int (nI f), .int (nI top), .int (nI most)] h Q := by
  have h1 := wd_lt (W 1)
  have h2 := wd_lt (W 2)
  have h3 := wd_lt (W 3)
  have hwt := wd_n ht
  have fin : ∀ (k : ix_H) (J : Nat) (l4 : Int32), J = jw f top W → Inv k (va_up S 63 (aN J)) → ix_E 94 48 [some (.ref 61), some (.int (nI f)), some (.int (nI top)), some (.int (nI most)), some (.int l4)] [] k Q := by
    intro k J l4 hJ I
    unfold jc at q
    rw [← hJ] at q
    refine jx (pc' := 49) (L' := [_, _, _, _, _]) (st' := [_]) 1 rfl ?_
    refine jgf (pc' := 52) (I.ob (r := 61) K) rfl rfl rfl rfl rfl ?_
    refine jcv (pc' := 55) 52 [] [] (I.no (r := 63) rfl) rfl rfl rfl rfl rfl rfl rfl rfl ?_
    refine v_digits (a := 63) I rfl fun hd => jk ?_
    refine jx (pc' := 56) (L' := [_, _, _, _, _]) (st' := [_, _]) 1 rfl ?_
    by_cases e : most < dgs J
    · rw [if_pos e] at q
      refine jcn (pc' := 59) 66 rfl rfl rfl rfl (by rw [cc_le (by omega) (by omega)]; exact decide_eq_false (by omega)) ?_
      refine jx (pc' := 60) (L' := [_, _, _, _, _]) (st' := [_]) 1 rfl ?_
      refine jgf (pc' := 63) (I.ob (r := 61) K) rfl rfl rfl rfl rfl ?_
      refine jcv (pc' := 66) 53 [] [] (I.no (r := 63) rfl) rfl rfl rfl rfl rfl rfl rfl rfl ?_
      refine v_clear (a := 63) I rfl fun _ I => jk ?_
      refine ix_qr _ rfl rfl rfl ?_
      rw [va_up_up] at I
      exact q _ I
    · rw [if_neg e] at q
      refine jct (pc' := 66) rfl rfl rfl (by rw [cc_le (by omega) (by omega)]; exact decide_eq_true (by omega)) ?_
      refine ix_qr _ rfl rfl rfl ?_
      exact q _ I
  refine jx (pc' := 1) (L' := [_, _, _, _, _]) (st' := [_]) 1 rfl ?_
  refine jgf (pc' := 4) (I.ob (r := 61) K) rfl rfl rfl rfl rfl ?_
  refine jcv (pc' := 7) 53 [] [] (I.no (r := 63) WK) rfl rfl rfl rfl rfl rfl rfl rfl ?_
  refine v_clear (a := 63) I WK fun _ I => jk ?_
  refine jx (pc' := 8) (L' := [_, _, _, _, _]) (st' := [_]) 1 rfl ?_
  refine jgf (pc' := 11) (I.ob (r := 61) K) rfl rfl rfl rfl rfl ?_
  refine jx (pc' := 12) (L' := [_, _, _, _, _]) (st' := [_, _]) 1 rfl ?_
  refine jcv (pc' := 15) 54 [_] [] (I.no (r := 63) rfl) rfl rfl rfl rfl rfl rfl rfl rfl ?_
  refine v_takeWord (a := 63) I rfl (by rw [hwt]; omega) fun k0 I => jk ?_
  rw [hwt, Nat.zero_mul, Nat.zero_add, va_up_up] at I
  have WI : ∀ {k : ix_H} {J : Nat}, Inv k (va_up S 63 (aN J)) → ix_ia k 62 0 4 W := fun I => I.ia (r := 62) WW
  rcases f3 hf with rfl | rfl | rfl
  · skip
    refine jx (pc' := 24) (L' := [_, _, _, _, _]) (st' := [_, _, _]) 5 rfl ?_
    try simp (disch := omega) only [ki1, nI_add, nI_mul, nI_sub, Nat.zero_mul, Nat.one_mul, Nat.sub_zero, Nat.add_zero, Nat.zero_add, Nat.add_sub_cancel]
    refine jat (pc' := 25) I.tab rfl rfl ⟨by decide, by decide⟩ rfl ?_
    rw [tv0 (by decide)]
    refine jct (pc' := 48) rfl rfl rfl (by decide) ?_
    exact fin _ _ _ rfl I
  · skip
    refine jx (pc' := 24) (L' := [_, _, _, _, _]) (st' := [_, _, _]) 5 rfl ?_
    try simp (disch := omega) only [ki1, nI_add, nI_mul, nI_sub, Nat.zero_mul, Nat.one_mul, Nat.sub_zero, Nat.add_zero, Nat.zero_add, Nat.add_sub_cancel]
    refine jat (pc' := 25) I.tab rfl rfl ⟨by decide, by decide⟩ rfl ?_
    rw [tv0 (by decide)]
    refine jcn (pc' := 28) 48 rfl rfl rfl rfl (by decide) ?_
    refine jx (pc' := 29) (L' := [_, _, _, _, _]) (st' := [_]) 1 rfl ?_
    refine jgf (pc' := 32) (I.ob (r := 61) K) rfl rfl rfl rfl rfl ?_
    refine jx (pc' := 33) (L' := [_, _, _, _, _]) (st' := [_, _]) 1 rfl ?_
    refine jgf (pc' := 36) (I.ob (r := 61) K) rfl rfl rfl rfl rfl ?_
    refine jx (pc' := 38) (L' := [_, _, _, _, _]) (st' := [_, _, _]) 1 rfl ?_
    refine jal (pc' := 39) (WI I) rfl rfl (by omega) rfl ?_
    refine jcv (pc' := 42) 54 [_] [] (I.no (r := 63) rfl) rfl rfl rfl rfl rfl rfl rfl rfl ?_
    refine v_takeWord (a := 63) I rfl (by omega) fun _ I => jk ?_
    rw [va_up_up] at I
    refine jx (pc' := 18) (L' := [_, _, _, _, _]) (st' := []) 2 rfl ?_
    simp only [nI_i, Nat.reduceAdd]
    refine jx (pc' := 24) (L' := [_, _, _, _, _]) (st' := [_, _, _]) 3 rfl ?_
    refine jat (pc' := 25) I.tab rfl rfl ⟨by decide, by decide⟩ rfl ?_
    rw [tv0 (by decide)]
    refine jct (pc' := 48) rfl rfl rfl (by decide) ?_
    exact fin _ _ _ rfl I
  · skip
    refine jx (pc' := 24) (L' := [_, _, _, _, _]) (st' := [_, _, _]) 5 rfl ?_
    try simp (disch := omega) only [ki1, nI_add, nI_mul, nI_sub, Nat.zero_mul, Nat.one_mul, Nat.sub_zero, Nat.add_zero, Nat.zero_add, Nat.add_sub_cancel]
    refine jat (pc' := 25) I.tab rfl rfl ⟨by decide, by decide⟩ rfl ?_
    rw [tv0 (by decide)]
    refine jcn (pc' := 28) 48 rfl rfl rfl rfl (by decide) ?_
    refine jx (pc' := 29) (L' := [_, _, _, _, _]) (st' := [_]) 1 rfl ?_
    refine jgf (pc' := 32) (I.ob (r := 61) K) rfl rfl rfl rfl rfl ?_
    refine jx (pc' := 33) (L' := [_, _, _, _, _]) (st' := [_, _]) 1 rfl ?_
    refine jgf (pc' := 36) (I.ob (r := 61) K) rfl rfl rfl rfl rfl ?_
    refine jx (pc' := 38) (L' := [_, _, _, _, _]) (st' := [_, _, _]) 1 rfl ?_
    refine jal (pc' := 39) (WI I) rfl rfl (by omega) rfl ?_
    refine jcv (pc' := 42) 54 [_] [] (I.no (r := 63) rfl) rfl rfl rfl rfl rfl rfl rfl rfl ?_
    refine v_takeWord (a := 63) I rfl (by omega) fun _ I => jk ?_
    rw [va_up_up] at I
    refine jx (pc' := 18) (L' := [_, _, _, _, _]) (st' := []) 2 rfl ?_
    simp only [nI_i, Nat.reduceAdd]
    refine jx (pc' := 24) (L' := [_, _, _, _, _]) (st' := [_, _, _]) 3 rfl ?_
    refine jat (pc' := 25) I.tab rfl rfl ⟨by decide, by decide⟩ rfl ?_
    rw [tv0 (by decide)]
    refine jcn (pc' := 28) 48 rfl rfl rfl rfl (by decide) ?_
    refine jx (pc' := 29) (L' := [_, _, _, _, _]) (st' := [_]) 1 rfl ?_
    refine jgf (pc' := 32) (I.ob (r := 61) K) rfl rfl rfl rfl rfl ?_
    refine jx (pc' := 33) (L' := [_, _, _, _, _]) (st' := [_, _]) 1 rfl ?_
    refine jgf (pc' := 36) (I.ob (r := 61) K) rfl rfl rfl rfl rfl ?_
    refine jx (pc' := 38) (L' := [_, _, _, _, _]) (st' := [_, _, _]) 1 rfl ?_
    refine jal (pc' := 39) (WI I) rfl rfl (by omega) rfl ?_
    refine jcv (pc' := 42) 54 [_] [] (I.no (r := 63) rfl) rfl rfl rfl rfl rfl rfl rfl rfl ?_
    refine v_takeWord (a := 63) I rfl (by omega) fun _ I => jk ?_
    rw [va_up_up] at I
    refine jx (pc' := 18) (L' := [_, _, _, _, _]) (st' := []) 2 rfl ?_
    simp only [nI_i, Nat.reduceAdd]
    refine jx (pc' := 24) (L' := [_, _, _, _, _]) (st' := [_, _, _]) 3 rfl ?_
    refine jat (pc' := 25) I.tab rfl rfl ⟨by decide, by decide⟩ rfl ?_
    rw [tv0 (by decide)]
    refine jcn (pc' := 28) 48 rfl rfl rfl rfl (by decide) ?_
    refine jx (pc' := 29) (L' := [_, _, _, _, _]) (st' := [_]) 1 rfl ?_
    refine jgf (pc' := 32) (I.ob (r := 61) K) rfl rfl rfl rfl rfl ?_
    refine jx (pc' := 33) (L' := [_, _, _, _, _]) (st' := [_, _]) 1 rfl ?_
    refine jgf (pc' := 36) (I.ob (r := 61) K) rfl rfl rfl rfl rfl ?_
    refine jx (pc' := 38) (L' := [_, _, _, _, _]) (st' := [_, _, _]) 1 rfl ?_
    refine jal (pc' := 39) (WI I) rfl rfl (by omega) rfl ?_
    refine jcv (pc' := 42) 54 [_] [] (I.no (r := 63) rfl) rfl rfl rfl rfl rfl rfl rfl rfl ?_
    refine v_takeWord (a := 63) I rfl (by omega) fun _ I => jk ?_
    rw [va_up_up] at I
    refine jx (pc' := 18) (L' := [_, _, _, _, _]) (st' := []) 2 rfl ?_
    simp only [nI_i, Nat.reduceAdd]
    refine jx (pc' := 24) (L' := [_, _, _, _, _]) (st' := [_, _, _]) 3 rfl ?_
    refine jat (pc' := 25) I.tab rfl rfl ⟨by decide, by decide⟩ rfl ?_
    rw [tv0 (by decide)]
    refine jct (pc' := 48) rfl rfl rfl (by decide) ?_
    exact fin _ _ _ rfl I
end BIT
