/-! ===== numbers of sixteen limbs: copy, words, setOne, isOdd ===== -/
section IXW
variable {mi pc pc' mj k : Nat} {i : Instr} {L L' : ix_L} {st st' rest as : List Value} {h h' : ix_H} {Q : ix_O → ix_H → Prop}
/-- System.arraycopy of ints -/
theorem jcopy {r0 r1 n0 n1 n sp dp : Nat} {F G : Nat → Int32} (a0 : ix_ia h r0 0 n0 F) (a1 : ix_ia h r1 0 n1 G) (hi : ix_ins mi pc = some (.invokestatic k)) (hc : ix_cal (ix_o mi) k = some (2, mj)) (hL : L.length = ix_ml mi) (hw : (Nat.ble 1 (ix_fr mi) && Nat.ble ((st.map Value.category).sum + (nativeFrameWords "java/lang/System" "arraycopy" 5 + 11)) (ix_wd mi)) = true) (hp : pc + 3 = pc') (h1 : sp + n ≤ n0) (h2 : dp + n ≤ n1) (q : ix_E mi pc' L st (ix_up h r1 (cI 0 n1 (va_cpy F G sp dp n))) Q) : ix_E mi pc L (.int (nI n) :: .int (nI dp) :: .ref r1 :: .int (nI sp) :: .ref r0 :: st) h Q := by
  obtain ⟨x1, x2, x3, x4, x5⟩ := a0
  obtain ⟨y1, y2, y3, y4, y5⟩ := a1
  rw [Bool.and_eq_true] at hw
  refine ix_qp (.invokestatic k) k 1 pc' mj (L' := L) (st' := st) (h' := ix_up h r1 (cI 0 n1 (va_cpy F G sp dp n))) hi rfl rfl hc ?_ q
  have e1 := nI_clamp (n := n) (by omega)
  have e2 := nI_clamp (n := sp) (by omega)
  have e3 := nI_clamp (n := dp) (by omega)
  have p1 := nI_pos (n := n) (by omega)
  have p2 := nI_pos (n := sp) (by omega)
  have p3 := nI_pos (n := dp) (by omega)
  simp only [ix_pr, x1, y1, e1, e2, e3, hp]
  rw [if_pos ⟨hL, trivial, trivial, x2, x3, y2, y3, p2, p3, p1, h1, h2, Nat.le_of_ble_eq_true hw.1, Nat.le_of_ble_eq_true hw.2⟩]
end IXW
theorem vl_0 {f : Nat → Nat} {n : Nat} (e : ∀ j, j < n → f j = 0) : vl f n = 0 := by
  induction n with
  | zero => exact vl_z f
  | succ n ih => rw [vl_s, ih (fun j hj => e j (by omega)), e n (by omega), Nat.zero_mul]
theorem vl_par (f : Nat → Nat) (n : Nat) : vl f (n + 1) % 2 = f 0 % 2 := by
  induction n with
  | zero => rw [vl_s, vl_z, Nat.pow_zero, Nat.mul_one, Nat.zero_add]
  | succ n ih =>
    rw [vl_s, Nat.pow_succ, ← Nat.mul_assoc]
    omega
/-- the word of an int -/
def wd (w : Int32) : Nat := (w.toInt % 4294967296).toNat
theorem wd_lt (w : Int32) : wd w < 4294967296 := by unfold wd; omega
theorem lN_msk (w : Int32) : w.toInt64 &&& lN 4294967295 = lN (wd w) := by
  refine Int64.toInt_inj.mp ?_
  have h := wd_lt w
  rw [lN_t (by omega), Jvm.Kit.i64_mask _ _ (k := 32) (by decide) (by decide), Int32.toInt_toInt64]
  unfold wd
  omega
theorem nI_and1 {x : Nat} (h : x < 2 ^ 31) : nI x &&& nI 1 = nI (x % 2) := by
  refine Int32.toInt_inj.mp ?_
  rw [nI_toInt (by omega), Jvm.Kit.i32_mask _ _ (k := 1) (by decide) (by decide), nI_toInt h]
  omega
section NAT
variable {h : ix_H} {Q : ix_O → ix_H → Prop} {a b d e : Nat} {f g : Nat → Nat}
/-- Natural.copy -/
theorem c_copy (A : nt h a d f) (B : nt h b e g) (q : ∀ f' : Nat → Nat, (∀ j, j < 16 → f' j = g j) → Q (.inl none) (ix_up h d (cN f'))) : ix_M 48 [.ref a, .ref b] h Q := by
  refine jx (pc' := 1) (L' := [_, _]) (st' := [_]) 1 rfl ?_
  refine jgf (pc' := 4) B.1 rfl rfl rfl rfl rfl ?_
  refine jx (pc' := 6) (L' := [_, _]) (st' := [_, .int (nI 0), _]) 2 rfl ?_
  refine jgf (pc' := 9) A.1 rfl rfl rfl rfl rfl ?_
  refine jx (pc' := 12) (L' := [_, _]) (st' := [.int (nI 16), .int (nI 0), _, .int (nI 0), _]) 2 rfl ?_
  refine jcopy (pc' := 15) B.2.1 A.2.1 rfl rfl rfl rfl rfl (by decide) (by decide) ?_
  refine ix_qr _ rfl rfl rfl ?_
  have := q (fun j => if 0 ≤ j ∧ j < 0 + 16 then g (0 + (j - 0)) else f j) (fun j hj => by simp [hj])
  have e : (fun j => nI (if 0 ≤ j ∧ j < 0 + 16 then g (0 + (j - 0)) else f j)) = va_cpy (fun j => nI (g j)) (fun j => nI (f j)) 0 0 16 := by
    funext j
    unfold va_cpy
    split <;> rfl
  rw [show cN (fun j => if 0 ≤ j ∧ j < 0 + 16 then g (0 + (j - 0)) else f j) = cI 0 16 (fun j => nI (if 0 ≤ j ∧ j < 0 + 16 then g (0 + (j - 0)) else f j)) from rfl, e] at this
  exact this
/-- Natural.takeWord -/
theorem c_takeWord {w : Int32} (A : nt h a d f) (hs : vl f 16 * 4294967296 + wd w < 1000000000 ^ 16) (q : ∀ f' : Nat → Nat, (∀ j, j < 16 → f' j < 1000000000) → vl f' 16 = vl f 16 * 4294967296 + wd w → Q (.inl none) (ix_up h d (cN f'))) : ix_M 54 [.ref a, .int w] h Q := by
  have hw := wd_lt w
  refine jx (pc' := 10) (L' := [_, _]) (st' := [_, _, _]) 6 rfl ?_
  try simp (disch := omega) only [kL4294967295, kL4294967296, nI_add, nI_mul, nI_sub, nI_l, lN_i, lN_add, lN_mul, lN_sub, Nat.zero_mul, Nat.one_mul, Nat.sub_zero, Nat.add_zero, Nat.zero_add, Nat.add_sub_cancel]
  rw [lN_msk]
  refine jcv (pc' := 13) 55 [_, _] [] A.1 rfl rfl rfl rfl rfl rfl rfl rfl ?_
  refine c_timesPlus A (by omega) (by omega) hs fun f' l hv => jk ?_
  refine ix_qr _ rfl rfl rfl ?_
  exact q f' l hv
/-- Natural.giveWord -/
theorem c_giveWord (A : nt h a d f) (q : ∀ (f' : Nat → Nat) (r : Nat), (∀ j, j < 16 → f' j < 1000000000) → r < 4294967296 → vl f 16 = vl f' 16 * 4294967296 + r → Q (.inl (some (.int (nI r)))) (ix_up h d (cN f'))) : ix_M 49 [.ref a] h Q := by
  refine jx (pc' := 4) (L' := [_]) (st' := [_, _]) 2 rfl ?_
  try simp (disch := omega) only [kL4294967296, nI_add, nI_mul, nI_sub, nI_l, lN_i, lN_add, lN_mul, lN_sub, Nat.zero_mul, Nat.one_mul, Nat.sub_zero, Nat.add_zero, Nat.zero_add, Nat.add_sub_cancel]
  refine jcv (pc' := 7) 50 [_] [] A.1 rfl rfl rfl rfl rfl rfl rfl rfl ?_
  refine c_divideBy A (by omega) (by omega) fun f' r l hr hv => jk ?_
  refine jx (pc' := 8) (L' := [_]) (st' := [_]) 1 rfl ?_
  try simp (disch := omega) only [nI_add, nI_mul, nI_sub, nI_l, lN_i, lN_add, lN_mul, lN_sub, Nat.zero_mul, Nat.one_mul, Nat.sub_zero, Nat.add_zero, Nat.zero_add, Nat.add_sub_cancel]
  refine jri rfl rfl ?_
  exact q f' r l hr hv
/-- Natural.setOne -/
theorem c_setOne (A : nt h a d f) (q : ∀ f' : Nat → Nat, (∀ j, j < 16 → f' j < 1000000000) → vl f' 16 = 1 → Q (.inl none) (ix_up h d (cN f'))) : ix_M 57 [.ref a] h Q := by
  refine jx (pc' := 1) (L' := [_]) (st' := [_]) 1 rfl ?_
  refine jcv (pc' := 4) 53 [] [] A.1 rfl rfl rfl rfl rfl rfl rfl rfl ?_
  refine c_clear A fun f0 hz => jk ?_
  have A' : nt (ix_up h d (cN f0)) a d f0 := A.nw fun j hj => by rw [hz j hj]; decide
  refine jx (pc' := 5) (L' := [_]) (st' := [_]) 1 rfl ?_
  refine jgf (pc' := 8) A'.1 rfl rfl rfl rfl rfl ?_
  refine jx (pc' := 10) (L' := [_]) (st' := [.int (nI 1), .int (nI 0), _]) 2 rfl ?_
  refine jas' (pc' := 11) A.2.1 rfl rfl (by omega) rfl ?_
  refine ix_qr _ rfl rfl rfl ?_
  rw [upd_nI]
  refine q _ (fun j hj => ?_) ?_
  · unfold va_up
    split
    · decide
    · rw [hz j hj]; decide
  · have := vl_set (f := f0) (n := 16) (k := 0) (x := 1) (by decide)
    rw [vl_0 hz, hz 0 (by decide)] at this
    simpa using this
/-- Natural.isOdd -/
theorem c_isOdd (A : nt h a d f) (q1 : vl f 16 % 2 = 1 → Q (.inl (some (.int 1))) h) (q0 : vl f 16 % 2 = 0 → Q (.inl (some (.int 0))) h) : ix_M 65 [.ref a] h Q := by
  have hf := A.2.2 0 (by decide)
  have hp := vl_par f 15
  refine jx (pc' := 1) (L' := [_]) (st' := [_]) 1 rfl ?_
  refine jgf (pc' := 4) A.1 rfl rfl rfl rfl rfl ?_
  refine jx (pc' := 5) (L' := [_]) (st' := [.int (nI 0), _]) 1 rfl ?_
  refine jal (pc' := 6) A.2.1 rfl rfl (by omega) rfl ?_
  refine jx (pc' := 8) (L' := [_]) (st' := [_]) 2 rfl ?_
  try simp (disch := omega) only [ki1, nI_add, nI_mul, nI_sub, Nat.zero_mul, Nat.one_mul, Nat.sub_zero, Nat.add_zero, Nat.zero_add, Nat.add_sub_cancel]
  rw [nI_and1 (by omega)]
  by_cases hc : f 0 % 2 = 0
  · skip
    refine jit (pc' := 15) rfl rfl rfl (by rw [cz_eq (by omega)]; exact decide_eq_true (by omega)) ?_
    refine jx (pc' := 16) (L' := [_]) (st' := [.int (nI 0)]) 1 rfl ?_
    refine ix_qr _ rfl rfl rfl ?_
    exact q0 (hp.trans hc)
  · skip
    refine jin (pc' := 11) 15 rfl rfl rfl rfl (by rw [cz_eq (by omega)]; exact decide_eq_false (by omega)) ?_
    refine jx (pc' := 16) (L' := [_]) (st' := [.int (nI 1)]) 2 rfl ?_
    refine ix_qr _ rfl rfl rfl ?_
    exact q1 (hp.trans (by omega))
end NAT
