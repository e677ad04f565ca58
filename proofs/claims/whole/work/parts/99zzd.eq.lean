/-! ===== bits of words ===== -/
theorem tb_d (x i : Nat) : x.testBit i = decide (x / 2 ^ i % 2 = 1) := Nat.testBit_eq_decide_div_mod_eq
/-- the words that make a number -/
def Wn (n : Nat) (wo : Nat → Nat) (X : Nat) : Prop := (∀ j, j < n → wo j = X / 2 ^ (32 * j) % 4294967296) ∧ X < 2 ^ (32 * n)
theorem Wn_b {n : Nat} {wo : Nat → Nat} {X k : Nat} (W : Wn n wo X) (hk : k < 32 * n) : wo (k / 32) / 2 ^ (k % 32) % 2 = X / 2 ^ k % 2 := by
  rw [W.1 (k / 32) (by omega)]
  have h1 : (X / 2 ^ (32 * (k / 32)) % 4294967296).testBit (k % 32) = X.testBit k := by
    rw [show (4294967296 : Nat) = 2 ^ 32 from rfl, Nat.testBit_mod_two_pow, Nat.testBit_div_two_pow, decide_eq_true (by omega), Bool.true_and]
    congr 1
    omega
  rw [tb_d, tb_d] at h1
  have := decide_eq_decide.mp h1
  have a := Nat.mod_two_eq_zero_or_one (X / 2 ^ (32 * (k / 32)) % 4294967296 / 2 ^ (k % 32))
  have b := Nat.mod_two_eq_zero_or_one (X / 2 ^ k)
  omega
theorem fld_s (X p m : Nat) : X / 2 ^ p % 2 ^ (m + 1) = 2 * (X / 2 ^ (p + 1) % 2 ^ m) + X / 2 ^ p % 2 := by
  rw [Nat.pow_succ, Nat.mul_comm (2 ^ m), Nat.mod_mul, Nat.pow_succ 2 p, Nat.div_div_eq_div_mul]
  omega
theorem two0 (k : Nat) : 0 < 2 ^ k := Nat.pow_pos (by decide)
/-- the joined words -/
def jt (f : Nat) : Nat := 32 * ([1, 2, 4].getD f 0 - 1)
theorem hi_d {H L t s : Nat} (hL : L < 2 ^ t) : (H * 2 ^ t + L) / 2 ^ (t + s) = H / 2 ^ s := by
  rw [Nat.pow_add, ← Nat.div_div_eq_div_mul, Nat.add_comm, Nat.add_mul_div_right _ _ (two0 t), Nat.div_eq_of_lt hL, Nat.zero_add]
theorem hi_m {H L t s : Nat} (hL : L < 2 ^ t) : (H * 2 ^ t + L) % 2 ^ (t + s) = H % 2 ^ s * 2 ^ t + L := by
  have hm := Nat.mod_lt H (two0 s)
  have hd := Nat.div_add_mod H (2 ^ s)
  have e : H * 2 ^ t = H / 2 ^ s * 2 ^ (t + s) + H % 2 ^ s * 2 ^ t := by
    conv => lhs; rw [← hd]
    rw [Nat.add_mul, Nat.pow_add]
    congr 1
    ac_rfl
  have hlt : H % 2 ^ s * 2 ^ t + L < 2 ^ (t + s) := by
    have : (H % 2 ^ s + 1) * 2 ^ t ≤ 2 ^ s * 2 ^ t := Nat.mul_le_mul_right _ hm
    rw [Nat.add_mul, Nat.one_mul, ← Nat.pow_add, Nat.add_comm s t] at this
    omega
  rw [e, Nat.add_assoc, Nat.add_comm, Nat.add_mul_mod_self_right, Nat.mod_eq_of_lt hlt]
/-- some bits are put -/
def pb (X lo n v : Nat) : Nat := X / 2 ^ (lo + n) * 2 ^ (lo + n) + v % 2 ^ n * 2 ^ lo + X % 2 ^ lo
theorem pb_0 (X lo v : Nat) : pb X lo 0 v = X := by
  unfold pb
  rw [Nat.add_zero, Nat.pow_zero, Nat.mod_one, Nat.zero_mul, Nat.add_zero, Nat.mul_comm]
  exact Nat.div_add_mod X _
theorem pb_t (X lo n v i : Nat) : (pb X lo n v).testBit i = if i < lo then X.testBit i else if i < lo + n then v.testBit (i - lo) else X.testBit i := by
  have h1 := Nat.mod_lt X (two0 lo)
  have h2 := Nat.mod_lt v (two0 n)
  have h3 : v % 2 ^ n * 2 ^ lo + X % 2 ^ lo < 2 ^ (lo + n) := by
    have : (v % 2 ^ n + 1) * 2 ^ lo ≤ 2 ^ n * 2 ^ lo := Nat.mul_le_mul_right _ h2
    rw [Nat.add_mul, Nat.one_mul, ← Nat.pow_add, Nat.add_comm n lo] at this
    omega
  have e : pb X lo n v = 2 ^ (lo + n) * (X / 2 ^ (lo + n)) + (2 ^ lo * (v % 2 ^ n) + X % 2 ^ lo) := by
    unfold pb
    rw [Nat.mul_comm (X / 2 ^ (lo + n)), Nat.mul_comm (v % 2 ^ n), Nat.add_assoc]
  rw [e, Nat.testBit_two_pow_mul_add _ (by rw [Nat.mul_comm]; exact h3)]
  by_cases a : i < lo
  · rw [if_pos a, if_pos (by omega), Nat.testBit_two_pow_mul_add _ h1, if_pos a, Nat.testBit_mod_two_pow, decide_eq_true a, Bool.true_and]
  · rw [if_neg a]
    by_cases b : i < lo + n
    · rw [if_pos b, if_pos b, Nat.testBit_two_pow_mul_add _ h1, if_neg a, Nat.testBit_mod_two_pow, decide_eq_true (by omega), Bool.true_and]
    · rw [if_neg b, if_neg b, Nat.testBit_div_two_pow]
      congr 1
      omega
theorem pb_s {X lo n v : Nat} : pb (pb X lo n v) (lo + n) 1 (v / 2 ^ n) = pb X lo (n + 1) v := by
  refine Nat.eq_of_testBit_eq fun i => ?_
  rw [pb_t, pb_t, pb_t]
  by_cases a : i < lo
  · rw [if_pos (by omega), if_pos a, if_pos a]
  · by_cases b : i < lo + n
    · rw [if_pos b, if_neg a, if_pos b, if_neg a, if_pos (by omega)]
    · by_cases c : i < lo + n + 1
      · rw [if_neg b, if_pos c, if_neg a, if_pos (by omega), Nat.testBit_div_two_pow]
        congr 1
        omega
      · rw [if_neg b, if_neg c, if_neg a, if_neg b, if_neg a, if_neg (by omega)]
theorem pb_b {X lo n v m : Nat} (hX : X < 2 ^ m) (h : lo + n ≤ m) : pb X lo n v < 2 ^ m := by
  have h1 := Nat.mod_lt X (two0 lo)
  have h2 := Nat.mod_lt v (two0 n)
  have h3 : v % 2 ^ n * 2 ^ lo + X % 2 ^ lo < 2 ^ (lo + n) := by
    have : (v % 2 ^ n + 1) * 2 ^ lo ≤ 2 ^ n * 2 ^ lo := Nat.mul_le_mul_right _ h2
    rw [Nat.add_mul, Nat.one_mul, ← Nat.pow_add, Nat.add_comm n lo] at this
    omega
  have e : 2 ^ m = 2 ^ (m - (lo + n)) * 2 ^ (lo + n) := by rw [← Nat.pow_add]; congr 1; omega
  have h4 : X / 2 ^ (lo + n) < 2 ^ (m - (lo + n)) := by
    refine (Nat.div_lt_iff_lt_mul (two0 _)).mpr ?_
    rw [← e]
    exact hX
  have h5 : (X / 2 ^ (lo + n) + 1) * 2 ^ (lo + n) ≤ 2 ^ (m - (lo + n)) * 2 ^ (lo + n) := Nat.mul_le_mul_right _ h4
  rw [Nat.add_mul, Nat.one_mul, ← e] at h5
  unfold pb
  omega
theorem or_p {x s : Nat} : x ||| 2 ^ s = pb x s 1 1 := by
  refine Nat.eq_of_testBit_eq fun i => ?_
  rw [pb_t, Nat.testBit_or, Nat.testBit_two_pow]
  by_cases a : i < s
  · rw [if_pos a, decide_eq_false (by omega), Bool.or_false]
  · rw [if_neg a]
    by_cases b : i < s + 1
    · rw [if_pos b, decide_eq_true (by omega), Bool.or_true, show i - s = 0 by omega]
      rfl
    · rw [if_neg b, decide_eq_false (by omega), Bool.or_false]
theorem an_p {x s : Nat} (hx : x < 4294967296) (hs : s < 32) : x &&& (2 ^ s ^^^ 18446744073709551615) = pb x s 1 0 := by
  refine Nat.eq_of_testBit_eq fun i => ?_
  rw [pb_t, Nat.testBit_and, Nat.testBit_xor, Nat.testBit_two_pow, show (18446744073709551615 : Nat) = 2 ^ 64 - 1 from rfl, Nat.testBit_two_pow_sub_one]
  have hb : 32 ≤ i → x.testBit i = false := fun z => Nat.testBit_lt_two_pow (Nat.lt_of_lt_of_le hx (show 2 ^ 32 ≤ 2 ^ i from Nat.pow_le_pow_right (by decide) z))
  by_cases a : i < s
  · rw [if_pos a, decide_eq_false (by omega), decide_eq_true (p := i < 64) (by omega)]
    simp
  · rw [if_neg a]
    by_cases b : i < s + 1
    · rw [if_pos b, decide_eq_true (show s = i by omega), decide_eq_true (p := i < 64) (by omega), Nat.zero_testBit]
      simp
    · rw [if_neg b, decide_eq_false (show ¬ s = i by omega)]
      by_cases c : i < 64
      · rw [decide_eq_true c]; simp
      · rw [hb (by omega)]; simp
/-- a bit put into a word -/
theorem Wn_p {n k v : Nat} {wo : Nat → Nat} {X : Nat} (W : Wn n wo X) (hk : k < 32 * n) : Wn n (fun j => if j = k / 32 then pb (wo j) (k % 32) 1 v else wo j) (pb X k 1 v) := by
  refine ⟨fun j hj => ?_, pb_b W.2 (by omega)⟩
  refine Nat.eq_of_testBit_eq fun i => ?_
  rw [show (4294967296 : Nat) = 2 ^ 32 from rfl, Nat.testBit_mod_two_pow, Nat.testBit_div_two_pow, pb_t]
  have hw : (wo j).testBit i = (decide (i < 32) && X.testBit (i + 32 * j)) := by
    rw [W.1 j hj, show (4294967296 : Nat) = 2 ^ 32 from rfl, Nat.testBit_mod_two_pow, Nat.testBit_div_two_pow]
  show (if j = k / 32 then pb (wo j) (k % 32) 1 v else wo j).testBit i = _
  by_cases e : j = k / 32
  · rw [if_pos e, pb_t]
    by_cases a : i < 32
    · by_cases b : i < k % 32
      · have g1 : i + 32 * j < k := by omega
        rw [if_pos b, if_pos g1, hw]
      · have g1 : ¬ i + 32 * j < k := by omega
        rw [if_neg b, if_neg g1]
        by_cases c : i < k % 32 + 1
        · have g2 : i + 32 * j < k + 1 := by omega
          rw [if_pos c, if_pos g2, decide_eq_true a, Bool.true_and]
          congr 1
          omega
        · have g2 : ¬ i + 32 * j < k + 1 := by omega
          rw [if_neg c, if_neg g2, hw]
    · have g1 : ¬ i < k % 32 := by omega
      have g2 : ¬ i < k % 32 + 1 := by omega
      rw [if_neg g1, if_neg g2, hw, decide_eq_false a, Bool.false_and, Bool.false_and]
  · rw [if_neg e, hw]
    by_cases a : i < 32
    · rw [decide_eq_true a, Bool.true_and, Bool.true_and]
      by_cases b : i + 32 * j < k
      · rw [if_pos b]
      · have g2 : ¬ i + 32 * j < k + 1 := by omega
        rw [if_neg b, if_neg g2]
    · rw [decide_eq_false a, Bool.false_and, Bool.false_and]
theorem zL_bv (n : Nat) : (zL (n : Int)).toBitVec = BitVec.ofNat 64 n := by
  unfold zL
  rw [Int64.toBitVec_ofInt]
  exact BitVec.ofInt_natCast ..
theorem zLn_and (x y : Nat) : zL (x : Int) &&& zL (y : Int) = zL ((x &&& y : Nat) : Int) := by
  refine Int64.toBitVec_inj.mp ?_
  rw [Int64.toBitVec_and, zL_bv, zL_bv, zL_bv]
  exact (BitVec.ofNat_and ..).symm
theorem zLn_or (x y : Nat) : zL (x : Int) ||| zL (y : Int) = zL ((x ||| y : Nat) : Int) := by
  refine Int64.toBitVec_inj.mp ?_
  rw [Int64.toBitVec_or, zL_bv, zL_bv, zL_bv]
  exact (BitVec.ofNat_or ..).symm
theorem shl6 : ∀ k : Fin 64, ((zL (k.val : Int) &&& 63).toBitVec.smod 64) = BitVec.ofNat 64 k.val := by decide
theorem lsr_n {n s : Nat} (hn : n < 9223372036854775808) (hs : s < 64) : zL (n : Int) >>> (zL (s : Int) &&& 63) = zL ((n / 2 ^ s : Nat) : Int) := by
  refine Int64.toBitVec_inj.mp ?_
  rw [Int64.toBitVec_shiftRight, shl6 ⟨s, hs⟩, zL_bv, zL_bv]
  rw [BitVec.sshiftRight_eq', BitVec.toNat_ofNat, Nat.mod_eq_of_lt (by omega), BitVec.sshiftRight_eq_of_msb_false]
  · apply BitVec.eq_of_toNat_eq
    rw [BitVec.toNat_ushiftRight, BitVec.toNat_ofNat, BitVec.toNat_ofNat, Nat.shiftRight_eq_div_pow, Nat.mod_eq_of_lt (by omega), Nat.mod_eq_of_lt]
    exact Nat.lt_of_le_of_lt (Nat.div_le_self _ _) (by omega)
  · rw [BitVec.msb_eq_decide]
    refine decide_eq_false ?_
    rw [BitVec.toNat_ofNat, Nat.mod_eq_of_lt (by omega)]
    omega
theorem lsl_n {n s : Nat} (hs : s < 64) : zL (n : Int) <<< (zL (s : Int) &&& 63) = zL ((n * 2 ^ s : Nat) : Int) := by
  refine Int64.toBitVec_inj.mp ?_
  rw [Int64.toBitVec_shiftLeft, shl6 ⟨s, hs⟩, zL_bv, zL_bv]
  apply BitVec.eq_of_toNat_eq
  rw [BitVec.shiftLeft_eq', BitVec.toNat_ofNat, Nat.mod_eq_of_lt (by omega), BitVec.toNat_shiftLeft, BitVec.toNat_ofNat, BitVec.toNat_ofNat, Nat.shiftLeft_eq]
  rw [Nat.mod_mul_mod]
theorem not_n (x y : Nat) : zL (x : Int) &&& (zL (y : Int) ^^^ zL (-1)) = zL ((x &&& (y ^^^ 18446744073709551615) : Nat) : Int) := by
  have e : zL (-1) = zL ((18446744073709551615 : Nat) : Int) := by decide
  refine Int64.toBitVec_inj.mp ?_
  rw [e, Int64.toBitVec_and, Int64.toBitVec_xor, zL_bv, zL_bv, zL_bv, zL_bv]
  rw [BitVec.ofNat_and, BitVec.ofNat_xor]
