/-! ===== arrays over abstract heaps; Divider: spread ===== -/
abbrev bs : Nat := 1000000000
/-- a limb -/
def lb (x j : Nat) : Nat := x / 1000000000 ^ j % 1000000000
theorem lb_lt (x j : Nat) : lb x j < 1000000000 := Nat.mod_lt _ (by decide)
theorem vl_lb (x n : Nat) : vl (lb x) n = x % 1000000000 ^ n := by
  induction n with
  | zero => rw [vl_z, Nat.pow_zero, Nat.mod_one]
  | succ n ih =>
    rw [vl_s, ih, Nat.pow_succ, Nat.mod_mul, Nat.mul_comm (1000000000 ^ n)]
    rfl
section IXW
variable {mi pc pc' mj k : Nat} {i : Instr} {L L' : ix_L} {st st' rest as : List Value} {h h' : ix_H} {Q : ix_O → ix_H → Prop} {S : Nat → AC}
/-- a limb of a number is read -/
theorem jlb {n x j : Nat} (I : Inv h S) (e : S n = aN x) (hi : ix_ins mi pc = some .iaload) (ht : ix_thr mi pc = none) (hj : j < 16) (hp : pc + 1 = pc') (q : ix_E mi pc' L (.int (nI (lb x j)) :: st) h Q) : ix_E mi pc L (.int (nI j) :: .ref (n + 1) :: st) h Q := by
  obtain ⟨⟨f, m, hv⟩, _⟩ := I.nv e
  refine jal m.2.1 hi ht hj hp ?_
  have : f j = lb x j := by
    rw [← hv]
    exact (vl_at hj m.2.2).symm
  rw [this]
  exact q
/-- an int of an array is written -/
theorem jsA {r n j : Nat} {f : Nat → Nat} {x : Nat} (I : Inv h S) (e : S r = aC (cI 0 n (fun j => nI (f j)))) (hi : ix_ins mi pc = some .iastore) (ht : ix_thr mi pc = none) (hj : j < n) (hp : pc + 1 = pc') (q : ∀ h', Inv h' (va_up S r (aC (cI 0 n (fun j' => nI (va_up f j x j'))))) → ix_E mi pc' L st h' Q) : ix_E mi pc L (.int (nI x) :: .int (nI j) :: .ref r :: st) h Q := by
  refine jas (I.ia e) hi ht hj hp ?_
  rw [upd_nI]
  exact q _ (I.pc e (I.cl e).2.2.2)
end IXW
section DIV
variable {h : ix_H} {Q : ix_O → ix_H → Prop} {S : Nat → AC} {n x r d : Nat} {R0 : Nat → Nat}
/-- Divider.spread -/
theorem v_spread (I : Inv h S) (A : S n = aN x) (RR : S r = aC (cR R0)) (hn : n ≠ r) (hd : d ≤ 1000000000) (q : ∀ h' R, (∀ j, j < 17 → R j < 1000000000) → vl R 17 = x * d → Inv h' (va_up S r (aC (cR R))) → Q (.inl none) h') : ix_M 73 [.ref n, .int (nI d), .ref r] h Q := by
  have hx := I.lt A
  have loop : ∀ (k j c : Nat), j + k = 16 → c < 1000000000 → ∀ (t t' : Option Value) (R : Nat → Nat) (h1 : ix_H), (∀ i, i < j → R i < 1000000000) → vl R j + c * 1000000000 ^ j = vl (lb x) j * d → Inv h1 (va_up S r (aC (cR R))) → ix_E 73 5 [some (.ref n), some (.int (nI d)), some (.ref r), some (.long (lN c)), none, some (.int (nI j)), t, t'] [] h1 Q := by
    intro k
    induction k with
    | zero =>
      intro j c hj hc t t' R h1 l hv I
      obtain rfl : j = 16 := by omega
      refine jx (pc' := 9) (L' := [_, _, _, _, _, _, _, _]) (st' := [.int (nI 16), _]) 2 rfl ?_
      refine jct (pc' := 51) rfl rfl rfl (by rw [cc_ge (by omega) (by omega)]; exact decide_eq_true (by omega)) ?_
      refine jx (pc' := 56) (L' := [_, _, _, _, _, _, _, _]) (st' := [_, .int (nI 16), _]) 4 rfl ?_
      try simp (disch := omega) only [kb16, nI_add, nI_mul, nI_sub, nI_l, lN_i, lN_add, lN_mul, lN_sub, Nat.zero_mul, Nat.one_mul, Nat.sub_zero, Nat.add_zero, Nat.zero_add, Nat.add_sub_cancel]
      refine jsA (pc' := 57) (r := r) I (va_up_self _ _ _) rfl rfl (by decide) rfl fun _ I => ?_
      refine ix_qr _ rfl rfl rfl ?_
      rw [va_up_up] at I
      refine q _ _ (fun i hi => ?_) ?_ I
      · by_cases e : i = 16
        · rw [e, va_up_self]; exact hc
        · rw [va_up_ne _ _ e]; exact l i (by omega)
      · rw [vl_s, vl_up (Nat.le_refl _), va_up_self, hv, vl_lb, Nat.mod_eq_of_lt (by rw [p144]; exact hx)]
    | succ k ih =>
      intro j c hj hc t t' R h1 l hv I
      have hl := lb_lt x j
      have hp1 : lb x j * d ≤ 999999999 * 1000000000 := Nat.mul_le_mul (by omega) hd
      have htl : lb x j * d + c < 2 ^ 63 := by omega
      have A' : va_up S r (aC (cR R)) n = aN x := by rw [va_up_ne _ _ hn]; exact A
      have O := I.no A'
      refine jx (pc' := 9) (L' := [_, _, _, _, _, _, _, _]) (st' := [.int (nI 16), _]) 2 rfl ?_
      refine jcn (pc' := 12) 51 rfl rfl rfl rfl (by rw [cc_ge (by omega) (by omega)]; exact decide_eq_false (by omega)) ?_
      refine jx (pc' := 13) (L' := [_, _, _, _, _, _, _, _]) (st' := [_]) 1 rfl ?_
      refine jgf (pc' := 16) O rfl rfl rfl rfl rfl ?_
      refine jx (pc' := 18) (L' := [_, _, _, _, _, _, _, _]) (st' := [_, _]) 1 rfl ?_
      refine jlb (pc' := 19) (n := n) I A' rfl rfl (by omega) rfl ?_
      refine jx (pc' := 35) (L' := [_, _, _, _, _, _, _, _]) (st' := [_, _, _, _]) 11 rfl ?_
      try simp (disch := omega) only [kL1000000000, nI_add, nI_mul, nI_sub, nI_l, lN_i, lN_add, lN_mul, lN_sub, Nat.zero_mul, Nat.one_mul, Nat.sub_zero, Nat.add_zero, Nat.zero_add, Nat.add_sub_cancel]
      refine jlrem (pc' := 36) rfl rfl (lN_n0 (by decide) (by decide)) rfl ?_
      rw [lN_rem htl (by decide)]
      refine jx (pc' := 37) (L' := [_, _, _, _, _, _, _, _]) (st' := [_, _, _]) 1 rfl ?_
      try simp (disch := omega) only [nI_add, nI_mul, nI_sub, nI_l, lN_i, lN_add, lN_mul, lN_sub, Nat.zero_mul, Nat.one_mul, Nat.sub_zero, Nat.add_zero, Nat.zero_add, Nat.add_sub_cancel]
      refine jsA (pc' := 38) (r := r) I (va_up_self _ _ _) rfl rfl (by omega) rfl fun _ I => ?_
      refine jx (pc' := 43) (L' := [_, _, _, _, _, _, _, _]) (st' := [_, _]) 2 rfl ?_
      try simp (disch := omega) only [kL1000000000, nI_add, nI_mul, nI_sub, nI_l, lN_i, lN_add, lN_mul, lN_sub, Nat.zero_mul, Nat.one_mul, Nat.sub_zero, Nat.add_zero, Nat.zero_add, Nat.add_sub_cancel]
      refine jldiv (pc' := 44) rfl rfl (lN_n0 (by decide) (by decide)) rfl ?_
      rw [lN_div htl (by decide)]
      refine jx (pc' := 5) (L' := [_, _, _, _, _, _, _, _]) (st' := []) 3 rfl ?_
      rw [nI_i]
      rw [va_up_up] at I
      refine ih (j + 1) ((lb x j * d + c) / 1000000000) (by omega) (by omega) _ _ _ _ (fun i hi => ?_) ?_ I
      · by_cases e : i = j
        · rw [e, va_up_self]; omega
        · rw [va_up_ne _ _ e]; exact l i (by omega)
      · rw [vl_s, vl_s, vl_up (Nat.le_refl _), va_up_self, Nat.pow_succ]
        have e1 : ((lb x j * d + c) % 1000000000) * 1000000000 ^ j + (lb x j * d + c) / 1000000000 * (1000000000 ^ j * 1000000000) = lb x j * d * 1000000000 ^ j + c * 1000000000 ^ j := by
          rw [Nat.mul_comm (1000000000 ^ j) 1000000000, ← Nat.mul_assoc, ← Nat.add_mul, ← Nat.add_mul]
          congr 1
          have := Nat.div_add_mod (lb x j * d + c) 1000000000
          omega
        have e2 : (vl (lb x) j + lb x j * 1000000000 ^ j) * d = vl (lb x) j * d + lb x j * d * 1000000000 ^ j := by
          rw [Nat.add_mul, Nat.mul_right_comm]
        rw [e2]
        omega
  refine jx (pc' := 5) (L' := [_, _, _, _, _, _, _, _]) (st' := []) 4 rfl ?_
  try simp (disch := omega) only [ki0, nI_add, nI_mul, nI_sub, nI_l, lN_i, lN_add, lN_mul, lN_sub, Nat.zero_mul, Nat.one_mul, Nat.sub_zero, Nat.add_zero, Nat.zero_add, Nat.add_sub_cancel]
  refine loop 16 0 0 (by omega) (by decide) none none R0 h (fun i hi => by omega) (by simp [vl_z]) ?_
  rw [va_up_id RR]
  exact I
end DIV
