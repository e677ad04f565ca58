/-! ===== Divider: divide ===== -/
section IXW
variable {mi pc pc' mj k : Nat} {i : Instr} {L L' : ix_L} {st st' rest as : List Value} {h h' : ix_H} {Q : ix_O → ix_H → Prop} {S : Nat → AC}
/-- a limb of a number is written that was 0 -/
theorem jsN {n x j t : Nat} (I : Inv h S) (e : S n = aN x) (hi : ix_ins mi pc = some .iastore) (ht : ix_thr mi pc = none) (hj : j < 16) (hp : pc + 1 = pc') (h0 : lb x j = 0) (hb : t < 1000000000) (q : ∀ h', Inv h' (va_up S n (aN (x + t * 1000000000 ^ j))) → ix_E mi pc' L st h' Q) : ix_E mi pc L (.int (nI t) :: .int (nI j) :: .ref (n + 1) :: st) h Q := by
  obtain ⟨⟨f, m, hv⟩, _⟩ := I.nv e
  refine jas m.2.1 hi ht hj hp ?_
  rw [upd_nI]
  have hfj : f j = 0 := by
    have := vl_at hj m.2.2
    rw [hv] at this
    exact this.symm.trans h0
  have hs := vl_set (f := f) (n := 16) (k := j) (x := t) hj
  rw [hfj, Nat.zero_mul, Nat.add_zero, hv] at hs
  rw [← hs] at q
  exact q _ (I.pn e fun i hi => by
    by_cases z : i = j
    · rw [z, va_up_self]; exact hb
    · rw [va_up_ne _ _ z]; exact m.2.2 i hi)
end IXW
section DIV
variable {h : ix_H} {Q : ix_O → ix_H → Prop} {S : Nat → AC} {a dd dv rr x v z w : Nat}
theorem v_usedL (I : Inv h S) (A : S a = aN x) (q : ∀ u : Nat, u ≤ 16 → x < 1000000000 ^ u → (0 < u → 1000000000 ^ (u - 1) ≤ x) → Q (.inl (some (.int (nI u)))) h) : ix_M 51 [.ref a] h Q := by
  obtain ⟨⟨f, n, rfl⟩, _⟩ := I.nv A
  refine c_used n fun u hu e1 e2 => q u hu ?_ ?_
  · rw [vl_hi hu e1]
    exact vl_lt fun j hj => n.2.2 j (by omega)
  · intro h0
    rw [vl_hi hu e1]
    obtain ⟨m, rfl⟩ : ∃ m, u = m + 1 := ⟨u - 1, by omega⟩
    rw [vl_s, Nat.add_sub_cancel]
    have := e2 h0
    rw [Nat.add_sub_cancel] at this
    exact Nat.le_trans (Nat.le_mul_of_pos_left _ (Nat.pos_of_ne_zero this)) (Nat.le_add_left _ _)
theorem v_divide (I : Inv h S) (DV : S 44 = aC (cO 2 [.ref 45, .ref 46])) (R0 : isR S 45) (B0 : isR S 46) (Q0 : S 52 = aN w) (DD : S dd = aN x) (VV : S dv = aN v) (RM : S rr = aN z) (hv : 0 < v) (h1 : dd ≠ 52) (h2 : dv ≠ 52) (h3 : rr ≠ 52) (q : ∀ h' S', Inv h' S' → ag [45, 46, 52, rr] S S' → isR S' 45 → isR S' 46 → S' 52 = aN (x / v) → S' rr = aN (x % v) → Q (.inl none) h') : ix_M 72 [.ref 44, .ref dd, .ref dv, .ref 52, .ref rr] h Q := by
  obtain ⟨R0, r0⟩ := R0
  obtain ⟨B0, b0⟩ := B0
  have nd45 : dd ≠ 45 := fun e => by rw [e, r0] at DD; cases DD
  have nd46 : dd ≠ 46 := fun e => by rw [e, b0] at DD; cases DD
  have nv45 : dv ≠ 45 := fun e => by rw [e, r0] at VV; cases VV
  have nv46 : dv ≠ 46 := fun e => by rw [e, b0] at VV; cases VV
  have nr45 : rr ≠ 45 := fun e => by rw [e, r0] at RM; cases RM
  have nr46 : rr ≠ 46 := fun e => by rw [e, b0] at RM; cases RM
  have nr44 : rr ≠ 44 := fun e => by rw [e, DV] at RM; cases RM
  refine jx (pc' := 1) (L' := [_, _, _, _, _, _, _, _, _]) (st' := [_]) 1 rfl ?_
  refine jcv (pc' := 4) 53 [] [] (I.no (r := 52) Q0) rfl rfl rfl rfl rfl rfl rfl rfl ?_
  refine v_clear (a := 52) I Q0 fun k1 I => jk ?_
  have VV1 : va_up S 52 (aN 0) dv = aN v := by rw [va_up_ne _ _ h2]; exact VV
  have DD1 : va_up S 52 (aN 0) dd = aN x := by rw [va_up_ne _ _ h1]; exact DD
  refine jx (pc' := 5) (L' := [_, _, _, _, _, _, _, _, _]) (st' := [_]) 1 rfl ?_
  refine jcv (pc' := 8) 51 [] [] (I.no (r := dv) VV1) rfl rfl rfl rfl rfl rfl rfl rfl ?_
  refine v_usedL I VV1 fun n hn n1 n2 => jk ?_
  have hn0 : 0 < n := by
    by_cases e : n = 0
    · rw [e] at n1; omega
    · omega
  have n2 := n2 hn0
  refine jx (pc' := 12) (L' := [_, _, _, _, _, _, _, _, _]) (st' := [_]) 2 rfl ?_
  refine jit (pc' := 22) rfl rfl rfl (by rw [cz_ne (by omega)]; exact decide_eq_true (by omega)) ?_
  have O := I.no VV1
  refine jx (pc' := 25) (L' := [_, _, _, _, _, _, _, _, _]) (st' := [_, _]) 2 rfl ?_
  try simp (disch := omega) only [kl1000000000, nI_add, nI_mul, nI_sub, Nat.zero_mul, Nat.one_mul, Nat.sub_zero, Nat.add_zero, Nat.zero_add, Nat.add_sub_cancel]
  refine jgf (pc' := 28) O rfl rfl rfl rfl rfl ?_
  refine jx (pc' := 32) (L' := [_, _, _, _, _, _, _, _, _]) (st' := [_, _, _]) 3 rfl ?_
  try simp (disch := omega) only [ki1, nI_add, nI_mul, nI_sub, Nat.zero_mul, Nat.one_mul, Nat.sub_zero, Nat.add_zero, Nat.zero_add, Nat.add_sub_cancel]
  refine jlb (pc' := 33) (n := dv) I VV1 rfl rfl (by omega) rfl ?_
  have ht1 : lb v (n - 1) < 1000000000 := lb_lt _ _
  have hP : 0 < 1000000000 ^ (n - 1) := Nat.pow_pos (by decide)
  have hPn : 1000000000 ^ n = 1000000000 ^ (n - 1) * 1000000000 := by rw [← Nat.pow_succ]; congr 1; omega
  have htq : lb v (n - 1) = v / 1000000000 ^ (n - 1) := by
    unfold lb
    exact Nat.mod_eq_of_lt ((Nat.div_lt_iff_lt_mul hP).mpr (by rw [Nat.mul_comm, ← hPn]; exact n1))
  have ht0 : 1 ≤ lb v (n - 1) := by rw [htq]; exact Nat.div_pos n2 hP
  have hvt1 : lb v (n - 1) * 1000000000 ^ (n - 1) ≤ v := by rw [htq]; exact Nat.div_mul_le_self _ _
  have hvt2 : v < (lb v (n - 1) + 1) * 1000000000 ^ (n - 1) := by rw [htq]; exact Nat.lt_mul_of_div_lt (Nat.lt_succ_self _) hP
  generalize hd : 1000000000 / (lb v (n - 1) + 1) = d at *
  obtain ⟨m1, m2, m3, m4⟩ := nrm (t := lb v (n - 1)) (d := d) rfl ht0 ht1 hd.symm
  generalize hT : lb v (n - 1) = T at *
  have hvd1 : v * d < 1000000000 ^ n := by
    have e1 := Nat.mul_lt_mul_of_pos_right hvt2 (show 0 < d by omega)
    have e2 := Nat.mul_le_mul_right (1000000000 ^ (n - 1)) m4
    rw [hPn]
    rw [Nat.mul_right_comm] at e1
    omega
  have hvd2 : 500000000 * 1000000000 ^ (n - 1) ≤ v * d := by
    have e1 := Nat.mul_le_mul_right d hvt1
    have e2 := Nat.mul_le_mul_right (1000000000 ^ (n - 1)) m1
    rw [Nat.mul_right_comm] at e1
    omega
  refine jx (pc' := 35) (L' := [_, _, _, _, _, _, _, _, _]) (st' := [_, _]) 2 rfl ?_
  try simp (disch := omega) only [ki1, nI_add, nI_mul, nI_sub, Nat.zero_mul, Nat.one_mul, Nat.sub_zero, Nat.add_zero, Nat.zero_add, Nat.add_sub_cancel]
  refine jidiv (pc' := 36) rfl rfl (by rw [nz, z0]; intro e; have := congrArg Int32.toInt e; rw [zI_t ⟨by omega, by omega⟩, zI_t ⟨by omega, by omega⟩] at this; omega) rfl ?_
  rw [nI_div (by decide) (by omega), hd]
  refine jx (pc' := 42) (L' := [_, _, _, _, _, _, _, _, _]) (st' := [_, _, _]) 4 rfl ?_
  refine jgf (pc' := 45) (I.ob (r := 44) DV) rfl rfl rfl rfl rfl ?_
  refine jcs (pc' := 48) 73 [_, _, _] [] rfl rfl rfl rfl rfl rfl rfl rfl ?_
  refine v_spread (n := dd) (r := 45) I DD1 (r0 : va_up S 52 (aN 0) 45 = aC (cR R0)) nd45 (by omega) fun k2 R lR vR I => jk ?_
  refine jx (pc' := 52) (L' := [_, _, _, _, _, _, _, _, _]) (st' := [_, _, _]) 3 rfl ?_
  refine jgf (pc' := 55) (I.ob (r := 44) DV) rfl rfl rfl rfl rfl ?_
  refine jcs (pc' := 58) 73 [_, _, _] [] rfl rfl rfl rfl rfl rfl rfl rfl ?_
  have VV2 : va_up (va_up S 52 (aN 0)) 45 (aC (cR R)) dv = aN v := by rw [va_up_ne _ _ nv45]; exact VV1
  refine v_spread (n := dv) (r := 46) I VV2 (b0 : va_up (va_up S 52 (aN 0)) 45 (aC (cR R)) 46 = aC (cR B0)) nv46 (by omega) fun k3 B lB vB I => jk ?_
  have DD3 : va_up (va_up (va_up S 52 (aN 0)) 45 (aC (cR R))) 46 (aC (cR B)) dd = aN x := by rw [va_up_ne _ _ nd46, va_up_ne _ _ nd45]; exact DD1
  have RM3 : va_up (va_up (va_up S 52 (aN 0)) 45 (aC (cR R))) 46 (aC (cR B)) rr = aN z := by rw [va_up_ne _ _ nr46, va_up_ne _ _ nr45, va_up_ne _ _ h3]; exact RM
  have g3 : ag [45, 46, 52, rr] S (va_up (va_up (va_up S 52 (aN 0)) 45 (aC (cR R))) 46 (aC (cR B))) := ((((ag_0 _ S).up (by simp)).up (by simp)).up (by simp))
  have R3 : va_up (va_up (va_up S 52 (aN 0)) 45 (aC (cR R))) 46 (aC (cR B)) 45 = aC (cR R) := rfl
  have B3 : va_up (va_up (va_up S 52 (aN 0)) 45 (aC (cR R))) 46 (aC (cR B)) 46 = aC (cR B) := rfl
  have Q3 : va_up (va_up (va_up S 52 (aN 0)) 45 (aC (cR R))) 46 (aC (cR B)) 52 = aN 0 := rfl
  have V3 : va_up (va_up (va_up S 52 (aN 0)) 45 (aC (cR R))) 46 (aC (cR B)) 44 = aC (cO 2 [.ref 45, .ref 46]) := DV
  generalize va_up (va_up (va_up S 52 (aN 0)) 45 (aC (cR R))) 46 (aC (cR B)) = T3 at *
  have vBn : vl B n = v * d := by
    have := vl_mod (f := B) (n := 17) (k := n) (by omega) lB
    rw [vB, Nat.mod_eq_of_lt hvd1] at this
    exact this.symm
  have hBf : 500000000 ≤ B (n - 1) := by
    have e1 : vl B n = vl B (n - 1) + B (n - 1) * 1000000000 ^ (n - 1) := by
      have := vl_s B (n - 1)
      rw [show n - 1 + 1 = n by omega] at this
      exact this
    have e2 : vl B (n - 1) < 1000000000 ^ (n - 1) := vl_lt fun j hj => lB j (by omega)
    by_cases hc : 500000000 ≤ B (n - 1)
    · exact hc
    · have := Nat.mul_le_mul_right (1000000000 ^ (n - 1)) (show B (n - 1) + 1 ≤ 500000000 by omega)
      rw [Nat.add_mul] at this
      omega
  have hvd0 : 0 < v * d := Nat.mul_pos hv (by omega)
  have fin0 : ∀ (e : Int), e < 0 → -100 ≤ e → ∀ (Qh : Nat) (R : Nat → Nat) (h9 : ix_H) (T9 : Nat → AC) (l8 : Option Value), (∀ j, j < 17 → R j < 1000000000) → x * d = Qh * (v * d) + vl R n → vl R n < v * d → Inv h9 T9 → ag [45, 46, 52, rr] S T9 → T9 44 = aC (cO 2 [.ref 45, .ref 46]) → T9 45 = aC (cR R) → T9 46 = aC (cR B) → T9 52 = aN Qh → T9 rr = aN z → ix_E 72 67 [some (.ref 44), some (.ref dd), some (.ref dv), some (.ref 52), some (.ref rr), some (.int (nI n)), some (.int (nI d)), some (.int (zI e)), l8] [] h9 Q := by
    intro e he he2 Qh R h9 T9 l8 lR hx hhi I g V9 R9 B9 Q9 M9
    have hq : Qh = x / v ∧ vl R n / d = x % v := by
      have e1 : x * d = Qh * v * d + vl R n := by rw [Nat.mul_assoc]; exact hx
      have e2 : vl R n = (x - Qh * v) * d := by rw [Nat.sub_mul]; omega
      have e3 : Qh * v ≤ x := by
        have : Qh * v * d ≤ x * d := by omega
        exact Nat.le_of_mul_le_mul_right this (by omega)
      have e4 : x - Qh * v < v := by
        rw [e2] at hhi
        exact Nat.lt_of_mul_lt_mul_right hhi
      have e5 : x = (x - Qh * v) + v * Qh := by rw [Nat.mul_comm v]; omega
      refine ⟨?_, ?_⟩
      · rw [e5, Nat.add_mul_div_left _ _ hv, Nat.div_eq_of_lt e4, Nat.zero_add]
      · rw [e2, Nat.mul_div_cancel _ (by omega)]
        conv => rhs; rw [e5, Nat.add_mul_mod_self_left, Nat.mod_eq_of_lt e4]
    refine jx (pc' := 69) (L' := [_, _, _, _, _, _, _, _, _]) (st' := [_]) 1 rfl ?_
    refine jit (pc' := 121) rfl rfl rfl (by rw [zz_lt ⟨by omega, by omega⟩]; exact decide_eq_true he) ?_
    refine jx (pc' := 123) (L' := [_, _, _, _, _, _, _, _, _]) (st' := [_]) 1 rfl ?_
    refine jcv (pc' := 126) 53 [] [] (I.no (r := rr) M9) rfl rfl rfl rfl rfl rfl rfl rfl ?_
    refine v_clear (a := rr) I M9 fun _ I => jk ?_
    have M0 : va_up T9 rr (aN 0) rr = aN 0 := va_up_self _ _ _
    have R1 : va_up T9 rr (aN 0) 45 = aC (cR R) := by rw [va_up_ne _ _ nr45.symm]; exact R9
    have V1 : va_up T9 rr (aN 0) 44 = aC (cO 2 [.ref 45, .ref 46]) := by rw [va_up_ne _ _ nr44.symm]; exact V9
    have O1 := I.no M0
    refine jx (pc' := 127) (L' := [_, _, _, _, _, _, _, _, _]) (st' := [_]) 1 rfl ?_
    refine jgf (pc' := 130) (I.ob (r := 44) V1) rfl rfl rfl rfl rfl ?_
    refine jx (pc' := 133) (L' := [_, _, _, _, _, _, _, _, _]) (st' := [_, .int (nI 0), _]) 2 rfl ?_
    refine jgf (pc' := 136) O1 rfl rfl rfl rfl rfl ?_
    refine jx (pc' := 139) (L' := [_, _, _, _, _, _, _, _, _]) (st' := [_, .int (nI 0), _, .int (nI 0), _]) 2 rfl ?_
    obtain ⟨⟨f, m, hv0⟩, _⟩ := I.nv M0
    have hf0 : ∀ j, j < 16 → f j = 0 := fun j hj => by
      have := vl_at hj m.2.2
      rw [hv0] at this
      simp at this
      exact this.symm
    refine jcopy (pc' := 142) (sp := 0) (dp := 0) (n := n) (I.ia (r := 45) R1) m.2.1 rfl rfl rfl rfl rfl (by omega) (by omega) ?_
    have ec : va_cpy (fun j => nI (R j)) (fun j => nI (f j)) 0 0 n = (fun j => nI (if j < n then R j else f j)) := by
      funext j
      unfold va_cpy
      by_cases hj : j < n <;> simp [hj]
    rw [ec]
    have I2 := I.pn (f' := fun j => if j < n then R j else f j) M0 (fun j hj => by
      split
      · exact lR j (by omega)
      · rw [hf0 j hj]; decide)
    have ev : vl (fun j => if j < n then R j else f j) 16 = vl R n := by
      rw [vl_hi (u := n) (by omega) (fun j h1 h2 => by rw [if_neg (by omega)]; exact hf0 j h2)]
      exact vl_cg fun j hj => by simp [hj]
    rw [ev, va_up_up] at I2
    have O2 := I2.no (va_up_self _ _ _)
    have I := I2
    refine jx (pc' := 147) (L' := [_, _, _, _, _, _, _, _, _]) (st' := [_, _]) 3 rfl ?_
    try simp (disch := omega) only [nI_add, nI_mul, nI_sub, nI_l, lN_i, lN_add, lN_mul, lN_sub, Nat.zero_mul, Nat.one_mul, Nat.sub_zero, Nat.add_zero, Nat.zero_add, Nat.add_sub_cancel]
    refine jcv (pc' := 150) 50 [_] [] O2 rfl rfl rfl rfl rfl rfl rfl rfl ?_
    refine v_divideBy (a := rr) (m := d) I2 (va_up_self _ _ _) (by omega) (by omega) fun _ I => jk ?_
    rw [va_up_up, hq.2] at I
    refine jx (pc' := 151) (L' := [_, _, _, _, _, _, _, _, _]) (st' := []) 1 rfl ?_
    refine ix_qr _ rfl rfl rfl ?_
    refine q _ _ I (g.up (by simp)) ⟨R, ?_⟩ ⟨B, ?_⟩ ?_ (va_up_self _ _ _)
    · rw [va_up_ne _ _ nr45.symm]; exact R9
    · rw [va_up_ne _ _ nr46.symm]; exact B9
    · rw [va_up_ne _ _ h3.symm, ← hq.1]; exact Q9
  have loop : ∀ (k : Nat) (Qh : Nat) (R : Nat → Nat) (h9 : ix_H) (T9 : Nat → AC) (l8 : Option Value), k + n ≤ 17 → (∀ j, j < 17 → R j < 1000000000) → x * d = Qh * 1000000000 ^ k * (v * d) + vl R (k + n) → vl (fun j => R (k + j)) n < v * d → Inv h9 T9 → ag [45, 46, 52, rr] S T9 → T9 44 = aC (cO 2 [.ref 45, .ref 46]) → T9 45 = aC (cR R) → T9 46 = aC (cR B) → T9 52 = aN (Qh * 1000000000 ^ k) → T9 rr = aN z → ix_E 72 67 [some (.ref 44), some (.ref dd), some (.ref dv), some (.ref 52), some (.ref rr), some (.int (nI n)), some (.int (nI d)), some (.int (zI ((k : Int) - 1))), l8] [] h9 Q := by
    intro k
    induction k with
    | zero =>
      intro Qh R h9 T9 l8 hk lR hx hhi I g V9 R9 B9 Q9 M9
      rw [Nat.pow_zero, Nat.mul_one] at hx Q9
      simp only [Nat.zero_add] at hx hhi
      exact fin0 _ (by omega) (by omega) Qh R h9 T9 l8 lR hx hhi I g V9 R9 B9 Q9 M9
    | succ k ih =>
      intro Qh R h9 T9 l8 hk lR hx hhi I g V9 R9 B9 Q9 M9
      have hW := gs_all (n := n) (at' := k) (v := v * d) (R := R) (B := B) (by omega) (fun j hj => lR j (by omega)) (fun j hj => lB j (by omega)) vBn rfl hBf hhi _ _ rfl rfl
      generalize hWW : vl (fun j => R (k + j)) (n + 1) = W at *
      obtain ⟨c0, c1, c2, c3, c4, c5⟩ := hW
      have hW1 : W = vl (fun j => R (k + j)) n + R (k + n) * 1000000000 ^ n := by rw [← hWW, vl_s]
      have hsp : vl R (k + 1 + n) = vl R k + W * 1000000000 ^ k := by
        rw [show k + 1 + n = k + (n + 1) by omega, vl_split, hWW]
      have hPk : 0 < 1000000000 ^ k := Nat.pow_pos (by decide)
      have step : ∀ (R' : Nat → Nat), (∀ j, ¬ (k ≤ j ∧ j < k + n) → R' j = R j) → vl (fun j => R' (k + j)) n = W % (v * d) → x * d = (Qh * 1000000000 + W / (v * d)) * 1000000000 ^ k * (v * d) + vl R' (k + n) := by
        intro R' hk' hy
        rw [vl_split R' k n, hy, hx, hsp, vl_cg (f := R') (g := R) (n := k) fun j hj => hk' j (by omega)]
        have hdm := Nat.div_add_mod W (v * d)
        generalize W / (v * d) = qq at *
        generalize W % (v * d) = mm at *
        rw [Nat.pow_succ, ← hdm]
        generalize 1000000000 ^ k = P
        generalize v * d = vd
        have e1 : Qh * (P * 1000000000) * vd = Qh * 1000000000 * P * vd := by rw [Nat.mul_comm P 1000000000, ← Nat.mul_assoc]
        have e2 : (Qh * 1000000000 + qq) * P * vd = Qh * 1000000000 * P * vd + qq * P * vd := by rw [Nat.add_mul, Nat.add_mul]
        have e3 : (vd * qq + mm) * P = qq * P * vd + mm * P := by rw [Nat.add_mul, Nat.mul_assoc, Nat.mul_comm vd]
        rw [e1, e2, e3]
        omega
      have e7 : zI (((k + 1 : Nat) : Int) - 1) = nI k := by rw [nz]; congr 1; omega
      have lbq : lb (Qh * 1000000000 ^ (k + 1)) k = 0 := by
        unfold lb
        rw [Nat.pow_succ, Nat.mul_comm (1000000000 ^ k), ← Nat.mul_assoc, Nat.mul_div_cancel _ hPk, Nat.mul_mod_left]
      have fin : ∀ (h8 : ix_H) (T8 : Nat → AC) (R' : Nat → Nat), (∀ j, j < 17 → R' j < 1000000000) → (∀ j, ¬ (k ≤ j ∧ j < k + n) → R' j = R j) → vl (fun j => R' (k + j)) n = W % (v * d) → Inv h8 T8 → ag [45, 46, 52, rr] S T8 → T8 44 = aC (cO 2 [.ref 45, .ref 46]) → T8 45 = aC (cR R') → T8 46 = aC (cR B) → T8 52 = aN (Qh * 1000000000 ^ (k + 1)) → T8 rr = aN z → ix_E 72 106 [some (.ref 44), some (.ref dd), some (.ref dv), some (.ref 52), some (.ref rr), some (.int (nI n)), some (.int (nI d)), some (.int (nI k)), some (.int (nI (W / (v * d))))] [] h8 Q := by
        intro h8 T8 R' lR' hk' hy I g V8 R8 B8 Q8 M8
        have hlt : W / (v * d) < 1000000000 := (Nat.div_lt_iff_lt_mul hvd0).mpr c1
        have O8 := I.no Q8
        refine jx (pc' := 107) (L' := [_, _, _, _, _, _, _, _, _]) (st' := [_]) 1 rfl ?_
        refine jgf (pc' := 110) O8 rfl rfl rfl rfl rfl ?_
        refine jx (pc' := 114) (L' := [_, _, _, _, _, _, _, _, _]) (st' := [_, _, _]) 2 rfl ?_
        refine jsN (pc' := 115) (n := 52) I Q8 rfl rfl (by omega) rfl lbq hlt fun _ I => ?_
        refine jx (pc' := 67) (L' := [_, _, _, _, _, _, _, _, _]) (st' := []) 2 rfl ?_
        rw [show nI k + Int32.ofInt (-1) = zI ((k : Int) - 1) from by rw [nz, kz, zI_add]; rfl]
        have eQ : Qh * 1000000000 ^ (k + 1) + W / (v * d) * 1000000000 ^ k = (Qh * 1000000000 + W / (v * d)) * 1000000000 ^ k := by rw [Nat.add_mul, Nat.pow_succ, Nat.mul_comm (1000000000 ^ k), Nat.mul_assoc]
        rw [eQ] at I
        refine ih (Qh * 1000000000 + W / (v * d)) R' _ _ _ (by omega) lR' (step R' hk' hy) (by rw [hy]; exact Nat.mod_lt _ hvd0) I (g.up (by simp)) V8 R8 B8 rfl ?_
        rw [va_up_ne _ _ h3]
        exact M8
      rw [e7]
      refine jx (pc' := 69) (L' := [_, _, _, _, _, _, _, _, _]) (st' := [_]) 1 rfl ?_
      refine jin (pc' := 72) 121 rfl rfl rfl rfl (by rw [cz_lt (by omega)]; exact decide_eq_false (by omega)) ?_
      refine jx (pc' := 77) (L' := [_, _, _, _, _, _, _, _, _]) (st' := [_, _, _]) 3 rfl ?_
      refine jcv (pc' := 80) 74 [_, _] [] (I.ob (r := 44) V9) rfl rfl rfl rfl rfl rfl rfl rfl ?_
      refine v_guess (v := v * d) (W := W) I V9 R9 B9 (by omega) (by omega) lR lB hBf _ _ rfl rfl c0 hvd0 c1 c2 c3 c4 c5 fun G hG1 hG2 => jk ?_
      have hGb : G ≤ 1000000000 := by
        have hlt : W / (v * d) < 1000000000 := (Nat.div_lt_iff_lt_mul hvd0).mpr c1
        generalize W / (v * d) = qq at *
        omega
      refine jx (pc' := 89) (L' := [_, _, _, _, _, _, _, _, _]) (st' := [_, _, _, _]) 5 rfl ?_
      refine jcv (pc' := 92) 75 [_, _, _] [] (I.ob (r := 44) V9) rfl rfl rfl rfl rfl rfl rfl rfl ?_
      refine v_takeOut I V9 R9 B9 (by omega) lR lB hGb fun h7 R' c lR' hk' he I => jk ?_
      have hy : vl (fun j => R' (k + j)) n < 1000000000 ^ n := vl_lt fun j hj => lR' (k + j) (by omega)
      rw [vBn] at he
      have tk := to_ok (W := W) (v := v * d) (T := G) (c := c) (r := R (k + n)) hvd0 hvd1 hW1 hy he hG1 hG2
      have g' : ag [45, 46, 52, rr] S (va_up T9 45 (aC (cR R'))) := g.up (by simp)
      have M' : va_up T9 45 (aC (cR R')) rr = aN z := by rw [va_up_ne _ _ nr45]; exact M9
      by_cases hc : c ≤ R (k + n)
      · obtain ⟨t1, t2⟩ := tk.1 hc
        refine jit (pc' := 106) rfl rfl rfl (by rw [bz_ne]; exact decide_eq_true hc) ?_
        rw [t1]
        exact fin _ _ R' lR' hk' t2 I g' V9 (va_up_self _ _ _) B9 Q9 M'
      · obtain ⟨t1, t2⟩ := tk.2 hc
        refine jin (pc' := 95) 106 rfl rfl rfl rfl (by rw [bz_ne]; exact decide_eq_false hc) ?_
        refine jx (pc' := 100) (L' := [_, _, _, _, _, _, _, _, _]) (st' := [_, _, _]) 3 rfl ?_
        refine jcv (pc' := 103) 76 [_, _] [] (I.ob (r := 44) V9) rfl rfl rfl rfl rfl rfl rfl rfl ?_
        refine v_putBack (S := va_up T9 45 (aC (cR R'))) (R := R') I V9 (va_up_self _ _ _) B9 (by omega) lR' lB fun h6 R2 c' lR2 hk2 he2 I => jk ?_
        rw [va_up_up] at I
        have hy2 : vl (fun j => R2 (k + j)) n < 1000000000 ^ n := vl_lt fun j hj => lR2 (k + j) (by omega)
        have hm2 : W % (v * d) < v * d := Nat.mod_lt _ hvd0
        rw [vBn, t2] at he2
        have hc' : c' = 1 := by
          generalize W % (v * d) = mm at *
          rcases Nat.lt_trichotomy c' 1 with e | e | e
          · obtain rfl : c' = 0 := by omega
            omega
          · exact e
          · have := Nat.mul_le_mul_right (1000000000 ^ n) (show 2 ≤ c' by omega)
            omega
        have hy3 : vl (fun j => R2 (k + j)) n = W % (v * d) := by
          rw [hc'] at he2
          omega
        refine jx (pc' := 106) (L' := [_, _, _, _, _, _, _, _, _]) (st' := []) 1 rfl ?_
        rw [t1, nI_d]
        refine fin _ _ R2 lR2 (fun j hj => (hk2 j hj).trans (hk' j hj)) hy3 I (g.up (by simp)) V9 (va_up_self _ _ _) B9 Q9 ?_
        rw [va_up_ne _ _ nr45]
        exact M9
  have O3 := I.no DD3
  refine jx (pc' := 59) (L' := [_, _, _, _, _, _, _, _, _]) (st' := [_]) 1 rfl ?_
  refine jcv (pc' := 62) 51 [] [] O3 rfl rfl rfl rfl rfl rfl rfl rfl ?_
  refine v_usedL I DD3 fun u hu u1 u2 => jk ?_
  refine jx (pc' := 67) (L' := [_, _, _, _, _, _, _, _, _]) (st' := []) 3 rfl ?_
  try simp (disch := omega) only [nI_add, nI_mul, nI_sub, Nat.zero_mul, Nat.one_mul, Nat.sub_zero, Nat.add_zero, Nat.zero_add, Nat.add_sub_cancel]
  rw [nI_sz]
  have hxd : x * d < 1000000000 ^ (u + 1) := by
    have e1 := Nat.mul_lt_mul_of_pos_right u1 (show 0 < d by omega)
    rw [Nat.pow_succ]
    have e2 := Nat.mul_le_mul_left (1000000000 ^ u) (show d ≤ 1000000000 by omega)
    omega
  by_cases hun : n ≤ u
  · have e : (u : Int) - n = ((u - n + 1 : Nat) : Int) - 1 := by omega
    rw [e]
    have hvR : vl R (u - n + 1 + n) = x * d := by
      have := vl_mod (f := R) (n := 17) (k := u - n + 1 + n) (by omega) lR
      rw [vR, Nat.mod_eq_of_lt (by rw [show u - n + 1 + n = u + 1 by omega]; exact hxd)] at this
      exact this.symm
    refine loop (u - n + 1) 0 R _ _ _ (by omega) lR ?_ ?_ I g3 V3 R3 B3 ?_ RM3
    · rw [hvR]; simp
    · have e1 := vl_split R (u - n + 1) n
      rw [hvR] at e1
      have e2 : vl (fun j => R (u - n + 1 + j)) n * 1000000000 ^ (u - n + 1) < v * d * 1000000000 ^ (u - n + 1) := by
        have f1 := Nat.mul_lt_mul_of_pos_right u1 (show 0 < d by omega)
        have f2 := Nat.mul_le_mul_right (d * 1000000000 ^ (u - n + 1)) n2
        have f3 : 1000000000 ^ (n - 1) * (d * 1000000000 ^ (u - n + 1)) = 1000000000 ^ u * d := by
          rw [Nat.mul_comm d, ← Nat.mul_assoc, ← Nat.pow_add]
          congr 2
          omega
        have f4 : v * (d * 1000000000 ^ (u - n + 1)) = v * d * 1000000000 ^ (u - n + 1) := (Nat.mul_assoc ..).symm
        omega
      exact Nat.lt_of_mul_lt_mul_right e2
    · rw [Nat.zero_mul]; exact Q3
  · have hxv : x < v := Nat.lt_of_lt_of_le u1 (Nat.le_trans (Nat.pow_le_pow_right (by decide) (by omega)) n2)
    have hxd2 : x * d < v * d := Nat.mul_lt_mul_of_pos_right hxv (by omega)
    have hvR : vl R n = x * d := by
      have := vl_mod (f := R) (n := 17) (k := n) (by omega) lR
      rw [vR, Nat.mod_eq_of_lt (by omega)] at this
      exact this.symm
    exact fin0 _ (by omega) (by omega) 0 R _ _ _ lR (by rw [hvR]; simp) (by rw [hvR]; exact hxd2) I g3 V3 R3 B3 Q3 RM3
end DIV
