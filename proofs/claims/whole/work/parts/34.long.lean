/-! ===== longs ===== -/
section IXW
variable {mi pc pc' mj k : Nat} {i : Instr} {L L' : ix_L} {st st' rest as : List Value} {h h' : ix_H} {Q : ix_O → ix_H → Prop}
theorem jldiv {x y : Int64} (hi : ix_ins mi pc = some .ldiv) (ht : ix_thr mi pc = none) (hy : ¬ y = 0) (hp : pc + 1 = pc') (q : ix_E mi pc' L (.long (x / y) :: st) h Q) : ix_E mi pc L (.long y :: .long x :: st) h Q := by
  refine jx1 (pc' := pc') (L' := L) (st' := .long (x / y) :: st) (h' := h) ?_ q
  rw [ix_s1_of hi rfl rfl ht]
  simp only [ix_x1, ix_x0, ix_ld, if_neg hy, hp]
theorem jlrem {x y : Int64} (hi : ix_ins mi pc = some .lrem) (ht : ix_thr mi pc = none) (hy : ¬ y = 0) (hp : pc + 1 = pc') (q : ix_E mi pc' L (.long (x - x / y * y) :: st) h Q) : ix_E mi pc L (.long y :: .long x :: st) h Q := by
  refine jx1 (pc' := pc') (L' := L) (st' := .long (x - x / y * y) :: st) (h' := h) ?_ q
  rw [ix_s1_of hi rfl rfl ht]
  simp only [ix_x1, ix_x0, ix_ld, if_neg hy, hp]
theorem jidiv {x y : Int32} (hi : ix_ins mi pc = some .idiv) (ht : ix_thr mi pc = none) (hy : ¬ y = 0) (hp : pc + 1 = pc') (q : ix_E mi pc' L (.int (x / y) :: st) h Q) : ix_E mi pc L (.int y :: .int x :: st) h Q := by
  refine jx1 (pc' := pc') (L' := L) (st' := .int (x / y) :: st) (h' := h) ?_ q
  rw [ix_s1_of hi rfl rfl ht]
  simp only [ix_x1, ix_x0, ix_id, if_neg hy, hp]
theorem jirem {x y : Int32} (hi : ix_ins mi pc = some .irem) (ht : ix_thr mi pc = none) (hy : ¬ y = 0) (hp : pc + 1 = pc') (q : ix_E mi pc' L (.int (x - x / y * y) :: st) h Q) : ix_E mi pc L (.int y :: .int x :: st) h Q := by
  refine jx1 (pc' := pc') (L' := L) (st' := .int (x - x / y * y) :: st) (h' := h) ?_ q
  rw [ix_s1_of hi rfl rfl ht]
  simp only [ix_x1, ix_x0, ix_id, if_neg hy, hp]
end IXW
theorem lN_t {n : Nat} (h : n < 2 ^ 63) : (lN n).toInt = (n : Int) := lg_ofNat_toInt (by omega)
theorem lN_div {a b : Nat} (ha : a < 2 ^ 63) (hb : b < 2 ^ 63) : lN a / lN b = lN (a / b) := by
  have h1 : a / b < 2 ^ 63 := Nat.lt_of_le_of_lt (Nat.div_le_self _ _) ha
  refine Int64.toInt_inj.mp ?_
  rw [Int64.toInt_div, lN_t ha, lN_t hb, lN_t h1, ← Int.ofNat_tdiv]
  generalize a / b = c at h1
  simp only [Int.bmod]
  split <;> omega
theorem lN_rem {a b : Nat} (ha : a < 2 ^ 63) (hb : b < 2 ^ 63) : lN a - lN a / lN b * lN b = lN (a % b) := by
  rw [lN_div ha hb, lN_mul, lN_sub (Nat.div_mul_le_self _ _)]
  congr 1
  have := Nat.div_add_mod a b
  rw [Nat.mul_comm] at this
  omega
theorem lN_n0 {b : Nat} (h0 : 0 < b) (h : b < 2 ^ 63) : ¬ lN b = 0 := fun z => by
  have := congrArg Int64.toInt z
  rw [lN_t h] at this
  have e : (0 : Int64).toInt = 0 := by decide
  omega
theorem kL1000000000 : (1000000000 : Int64) = lN 1000000000 := by decide
theorem kL4294967296 : (4294967296 : Int64) = lN 4294967296 := by decide
theorem kL4294967295 : (4294967295 : Int64) = lN 4294967295 := by decide
theorem kL10 : (10 : Int64) = lN 10 := by decide
theorem kc0 : Int64.ofNat 0 = lN 0 := rfl
theorem kc1 : Int64.ofNat 1 = lN 1 := rfl
section NAT
variable {h : ix_H} {Q : ix_O → ix_H → Prop} {a b d e : Nat} {f g : Nat → Nat}
/-- Natural.timesPlus -/
theorem c_timesPlus {m p : Nat} (A : nt h a d f) (hm : m ≤ 4294967296) (hpp : p ≤ 4294967296) (hs : vl f 16 * m + p < 1000000000 ^ 16) (q : ∀ f' : Nat → Nat, (∀ j, j < 16 → f' j < 1000000000) → vl f' 16 = vl f 16 * m + p → Q (.inl none) (ix_up h d (cN f'))) : ix_M 55 [.ref a, .long (lN m), .long (lN p)] h Q := by
  have loop : ∀ (k j c : Nat), j + k = 16 → c ≤ 4294967296 → ∀ (t : Option Value) (f' : Nat → Nat), (∀ i, i < 16 → f' i < 1000000000) → (∀ i, j ≤ i → f' i = f i) → vl f' j + c * 1000000000 ^ j = vl f j * m + p → ix_E 55 6 [some (.ref a), some (.long (lN m)), none, some (.long (lN p)), none, some (.long (lN c)), none, some (.int (nI j)), t, none] [] (ix_up h d (cN f')) Q := by
    intro k
    induction k with
    | zero =>
      intro j c hj hc t f' l hk hv
      obtain rfl : j = 16 := by omega
      refine jx (pc' := 10) (L' := [_, _, _, _, _, _, _, _, _, _]) (st' := [.int (nI 16), _]) 2 rfl ?_
      refine jct (pc' := 56) rfl rfl rfl (by rw [cc_ge (by omega) (by omega)]; exact decide_eq_true (by omega)) ?_
      refine ix_qr _ rfl rfl rfl ?_
      refine q f' l ?_
      have : c = 0 := by
        rcases Nat.eq_zero_or_pos c with z | z
        · exact z
        · have : 1000000000 ^ 16 ≤ c * 1000000000 ^ 16 := Nat.le_mul_of_pos_left _ z
          omega
      rw [this] at hv
      omega
    | succ k ih =>
      intro j c hj hc t f' l hk hv
      have hfj := A.2.2 j (by omega)
      have A' : nt (ix_up h d (cN f')) a d f' := A.nw l
      have hp1 : f j * m ≤ 999999999 * 4294967296 := Nat.mul_le_mul (by omega) hm
      have htl : f j * m + c < 2 ^ 63 := by omega
      refine jx (pc' := 10) (L' := [_, _, _, _, _, _, _, _, _, _]) (st' := [.int (nI 16), _]) 2 rfl ?_
      refine jcn (pc' := 13) 56 rfl rfl rfl rfl (by rw [cc_ge (by omega) (by omega)]; exact decide_eq_false (by omega)) ?_
      refine jx (pc' := 14) (L' := [_, _, _, _, _, _, _, _, _, _]) (st' := [_]) 1 rfl ?_
      refine jgf (pc' := 17) A'.1 rfl rfl rfl rfl rfl ?_
      refine jx (pc' := 19) (L' := [_, _, _, _, _, _, _, _, _, _]) (st' := [_, _]) 1 rfl ?_
      refine jal (pc' := 20) A'.2.1 rfl rfl (by omega) rfl ?_
      rw [hk j (by omega)]
      refine jx (pc' := 29) (L' := [_, _, _, _, _, _, _, _, _, _]) (st' := [_]) 7 rfl ?_
      simp (disch := omega) only [nI_add, nI_mul, nI_sub, nI_l, lN_i, lN_add, lN_mul, lN_sub, Nat.zero_mul, Nat.one_mul, Nat.sub_zero, Nat.add_zero, Nat.zero_add, Nat.add_sub_cancel]
      refine jgf (pc' := 32) A'.1 rfl rfl rfl rfl rfl ?_
      refine jx (pc' := 39) (L' := [_, _, _, _, _, _, _, _, _, _]) (st' := [_, _, _, _]) 3 rfl ?_
      simp (disch := omega) only [kL1000000000, nI_add, nI_mul, nI_sub, nI_l, lN_i, lN_add, lN_mul, lN_sub, Nat.zero_mul, Nat.one_mul, Nat.sub_zero, Nat.add_zero, Nat.zero_add, Nat.add_sub_cancel]
      refine jlrem (pc' := 40) rfl rfl (lN_n0 (by decide) (by decide)) rfl ?_
      rw [lN_rem htl (by decide)]
      refine jx (pc' := 41) (L' := [_, _, _, _, _, _, _, _, _, _]) (st' := [_, _, _]) 1 rfl ?_
      simp (disch := omega) only [nI_add, nI_mul, nI_sub, nI_l, lN_i, lN_add, lN_mul, lN_sub, Nat.zero_mul, Nat.one_mul, Nat.sub_zero, Nat.add_zero, Nat.zero_add, Nat.add_sub_cancel]
      refine jas' (pc' := 42) A.2.1 rfl rfl (by omega) rfl ?_
      refine jx (pc' := 47) (L' := [_, _, _, _, _, _, _, _, _, _]) (st' := [_, _]) 2 rfl ?_
      simp (disch := omega) only [kL1000000000, nI_add, nI_mul, nI_sub, nI_l, lN_i, lN_add, lN_mul, lN_sub, Nat.zero_mul, Nat.one_mul, Nat.sub_zero, Nat.add_zero, Nat.zero_add, Nat.add_sub_cancel]
      refine jldiv (pc' := 48) rfl rfl (lN_n0 (by decide) (by decide)) rfl ?_
      rw [lN_div htl (by decide)]
      refine jx (pc' := 6) (L' := [_, _, _, _, _, _, _, _, _, _]) (st' := []) 3 rfl ?_
      rw [nI_i, upd_nI]
      refine ih (j + 1) ((f j * m + c) / 1000000000) (by omega) (by omega) _ _ (fun i hi => ?_) (fun i hi => ?_) ?_
      · unfold va_up
        split
        · omega
        · exact l i hi
      · rw [va_up_ne _ _ (by omega)]; exact hk i (by omega)
      · rw [vl_s, vl_s, vl_up (Nat.le_refl _), va_up_self, Nat.pow_succ]
        have e1 : ((f j * m + c) % 1000000000) * 1000000000 ^ j + (f j * m + c) / 1000000000 * (1000000000 ^ j * 1000000000) = f j * m * 1000000000 ^ j + c * 1000000000 ^ j := by
          rw [Nat.mul_comm (1000000000 ^ j) 1000000000, ← Nat.mul_assoc, ← Nat.add_mul, ← Nat.add_mul]
          congr 1
          have := Nat.div_add_mod (f j * m + c) 1000000000
          omega
        have e2 : (vl f j + f j * 1000000000 ^ j) * m = vl f j * m + f j * m * 1000000000 ^ j := by
          rw [Nat.add_mul, Nat.mul_right_comm]
        rw [e2]
        omega
  refine jx (pc' := 6) (L' := [_, _, _, _, _, _, _, _, _, _]) (st' := []) 4 rfl ?_
  simp (disch := omega) only [ki0, nI_add, nI_mul, nI_sub, Nat.zero_mul, Nat.one_mul, Nat.sub_zero, Nat.add_zero, Nat.zero_add, Nat.add_sub_cancel]
  have := loop 16 0 p (by omega) hpp none f A.2.2 (fun _ _ => rfl) (by simp [vl_z])
  rw [A.2.1.id] at this
  exact this
end NAT
