/-! ===== Divider: takeOut, putBack ===== -/
theorem nI_sz (a b : Nat) : nI a - nI b = zI ((a : Int) - b) := by rw [nz, nz, zI_sub]
theorem zI_wr {x y : Nat} (h : y ≤ x + 1000000000) : zI ((x : Int) - y) + nI 1000000000 = nI (x + 1000000000 - y) := by
  rw [nz, nz, zI_add]
  congr 1
  omega
theorem sh_up (R : Nat → Nat) (a i x : Nat) : (fun j => va_up R (a + i) x (a + j)) = va_up (fun j => R (a + j)) i x := by
  funext j
  by_cases e : j = i
  · rw [e, va_up_self, va_up_self]
  · rw [va_up_ne _ _ (by omega), va_up_ne _ _ e]
section DIV
variable {h : ix_H} {Q : ix_O → ix_H → Prop} {S : Nat → AC} {at' n T : Nat} {R B : Nat → Nat}
theorem v_takeOut (I : Inv h S) (DV : S 44 = aC (cO 2 [.ref 45, .ref 46])) (RR : S 45 = aC (cR R)) (BB : S 46 = aC (cR B)) (ha : at' + n ≤ 16) (lR : ∀ j, j < 17 → R j < 1000000000) (lB : ∀ j, j < 17 → B j < 1000000000) (hT : T ≤ 1000000000) (q : ∀ h' R' c, (∀ j, j < 17 → R' j < 1000000000) → (∀ j, ¬ (at' ≤ j ∧ j < at' + n) → R' j = R j) → vl (fun j => R' (at' + j)) n + T * vl B n = vl (fun j => R (at' + j)) n + c * 1000000000 ^ n → Inv h' (va_up S 45 (aC (cR R'))) → Q (.inl (some (.int (bI (decide (c ≤ R (at' + n))))))) h') : ix_M 75 [.ref 44, .int (nI at'), .int (nI n), .int (nI T)] h Q := by
  have loop : ∀ (k i c : Nat), i + k = n → c ≤ 1000000000 → ∀ (t7 t8 t9 : Option Value) (R' : Nat → Nat) (h1 : ix_H), (∀ j, j < 17 → R' j < 1000000000) → (∀ j, ¬ (at' ≤ j ∧ j < at' + i) → R' j = R j) → vl (fun j => R' (at' + j)) i + T * vl B i = vl (fun j => R (at' + j)) i + c * 1000000000 ^ i → Inv h1 (va_up S 45 (aC (cR R'))) → ix_E 75 6 [some (.ref 44), some (.int (nI at')), some (.int (nI n)), some (.int (nI T)), some (.long (lN c)), none, some (.int (nI i)), t7, t8, t9] [] h1 Q := by
    intro k
    induction k with
    | zero =>
      intro i c hi hc t7 t8 t9 R' h1 l hk hv I
      obtain rfl : i = n := by omega
      have RI := I.ia (r := 45) (va_up_self _ _ _)
      have hRn := hk (at' + i) (by omega)
      have hlt := lR (at' + i) (by omega)
      refine jx (pc' := 9) (L' := [_, _, _, _, _, _, _, _, _, _]) (st' := [_, _]) 2 rfl ?_
      refine jct (pc' := 97) rfl rfl rfl (by rw [cc_ge (by omega) (by omega)]; exact decide_eq_true (by omega)) ?_
      refine jx (pc' := 98) (L' := [_, _, _, _, _, _, _, _, _, _]) (st' := [_]) 1 rfl ?_
      refine jgf (pc' := 101) (I.ob (r := 44) DV) rfl rfl rfl rfl rfl ?_
      refine jx (pc' := 104) (L' := [_, _, _, _, _, _, _, _, _, _]) (st' := [_, _]) 3 rfl ?_
      try simp (disch := omega) only [nI_add, nI_mul, nI_sub, Nat.zero_mul, Nat.one_mul, Nat.sub_zero, Nat.add_zero, Nat.zero_add, Nat.add_sub_cancel]
      refine jal (pc' := 105) RI rfl rfl (by omega) rfl ?_
      refine jx (pc' := 109) (L' := [_, _, _, _, _, _, _, _, _, _]) (st' := [_]) 3 rfl ?_
      try simp (disch := omega) only [nI_add, nI_mul, nI_sub, nI_l, lN_i, lN_add, lN_mul, lN_sub, Nat.zero_mul, Nat.one_mul, Nat.sub_zero, Nat.add_zero, Nat.zero_add, Nat.add_sub_cancel]
      rw [hRn]
      by_cases hc2 : c ≤ R (at' + i)
      · skip
        refine jin (pc' := 112) 116 rfl rfl rfl rfl (by rw [lz, lz, zl_lt ⟨by omega, by omega⟩ ⟨by omega, by omega⟩]; exact decide_eq_false (by omega)) ?_
        refine jx (pc' := 117) (L' := [_, _, _, _, _, _, _, _, _, _]) (st' := [.int (nI 1)]) 2 rfl ?_
        refine ix_qr _ rfl rfl rfl ?_
        have := q h1 R' c l hk hv I
        rw [decide_eq_true hc2] at this
        exact this
      · skip
        refine jit (pc' := 116) rfl rfl rfl (by rw [lz, lz, zl_lt ⟨by omega, by omega⟩ ⟨by omega, by omega⟩]; exact decide_eq_true (by omega)) ?_
        refine jx (pc' := 117) (L' := [_, _, _, _, _, _, _, _, _, _]) (st' := [.int (nI 0)]) 1 rfl ?_
        refine ix_qr _ rfl rfl rfl ?_
        have := q h1 R' c l hk hv I
        rw [decide_eq_false hc2] at this
        exact this
    | succ k ih =>
      intro i c hi hc t7 t8 t9 R' h1 l hk hv I
      have RI := I.ia (r := 45) (va_up_self _ _ _)
      have BI := I.ia (r := 46) BB
      have hBi := lB i (by omega)
      have hRi := l (at' + i) (by omega)
      have hRe := hk (at' + i) (by omega)
      have hp1 : T * B i ≤ 1000000000 * 999999999 := Nat.mul_le_mul hT (by omega)
      have htl : T * B i + c < 2 ^ 63 := by omega
      have key : ∀ c' x, x < 1000000000 → x + (T * B i + c) = R' (at' + i) + c' * 1000000000 → vl (fun j => va_up R' (at' + i) x (at' + j)) (i + 1) + T * vl B (i + 1) = vl (fun j => R (at' + j)) (i + 1) + c' * 1000000000 ^ (i + 1) := by
        intro c' x hx he
        rw [sh_up, vl_s, vl_up (Nat.le_refl _), va_up_self, vl_s, vl_s, Nat.pow_succ, Nat.mul_add, ← hRe]
        have e1 : x * 1000000000 ^ i + T * (B i * 1000000000 ^ i) + c * 1000000000 ^ i = R' (at' + i) * 1000000000 ^ i + c' * (1000000000 ^ i * 1000000000) := by
          rw [← Nat.mul_assoc, ← Nat.add_mul, ← Nat.add_mul, Nat.mul_comm (1000000000 ^ i) 1000000000, ← Nat.mul_assoc, ← Nat.add_mul]
          congr 1
          omega
        omega
      have hB17 : ∀ x, x < 1000000000 → ∀ j, j < 17 → va_up R' (at' + i) x j < 1000000000 := fun x hx j hj => by
        by_cases e : j = at' + i
        · rw [e, va_up_self]; exact hx
        · rw [va_up_ne _ _ e]; exact l j hj
      have hK17 : ∀ x j, ¬ (at' ≤ j ∧ j < at' + (i + 1)) → va_up R' (at' + i) x j = R j := fun x j hj => by
        rw [va_up_ne _ _ (by omega)]
        exact hk j (by omega)
      refine jx (pc' := 9) (L' := [_, _, _, _, _, _, _, _, _, _]) (st' := [_, _]) 2 rfl ?_
      refine jcn (pc' := 12) 97 rfl rfl rfl rfl (by rw [cc_ge (by omega) (by omega)]; exact decide_eq_false (by omega)) ?_
      refine jx (pc' := 15) (L' := [_, _, _, _, _, _, _, _, _, _]) (st' := [_, _]) 3 rfl ?_
      try simp (disch := omega) only [nI_add, nI_mul, nI_sub, nI_l, lN_i, lN_add, lN_mul, lN_sub, Nat.zero_mul, Nat.one_mul, Nat.sub_zero, Nat.add_zero, Nat.zero_add, Nat.add_sub_cancel]
      refine jgf (pc' := 18) (I.ob (r := 44) DV) rfl rfl rfl rfl rfl ?_
      refine jx (pc' := 20) (L' := [_, _, _, _, _, _, _, _, _, _]) (st' := [_, _, _]) 1 rfl ?_
      refine jal (pc' := 21) BI rfl rfl (by omega) rfl ?_
      refine jx (pc' := 29) (L' := [_, _, _, _, _, _, _, _, _, _]) (st' := [_]) 6 rfl ?_
      try simp (disch := omega) only [nI_add, nI_mul, nI_sub, nI_l, lN_i, lN_add, lN_mul, lN_sub, Nat.zero_mul, Nat.one_mul, Nat.sub_zero, Nat.add_zero, Nat.zero_add, Nat.add_sub_cancel]
      refine jgf (pc' := 32) (I.ob (r := 44) DV) rfl rfl rfl rfl rfl ?_
      refine jx (pc' := 36) (L' := [_, _, _, _, _, _, _, _, _, _]) (st' := [_, _]) 3 rfl ?_
      try simp (disch := omega) only [nI_add, nI_mul, nI_sub, Nat.zero_mul, Nat.one_mul, Nat.sub_zero, Nat.add_zero, Nat.zero_add, Nat.add_sub_cancel]
      refine jal (pc' := 37) RI rfl rfl (by omega) rfl ?_
      refine jx (pc' := 42) (L' := [_, _, _, _, _, _, _, _, _, _]) (st' := [_, _, _]) 2 rfl ?_
      try simp (disch := omega) only [kL1000000000, nI_add, nI_mul, nI_sub, nI_l, lN_i, lN_add, lN_mul, lN_sub, Nat.zero_mul, Nat.one_mul, Nat.sub_zero, Nat.add_zero, Nat.zero_add, Nat.add_sub_cancel]
      refine jlrem (pc' := 43) rfl rfl (lN_n0 (by decide) (by decide)) rfl ?_
      rw [lN_rem htl (by decide)]
      have hvm := Nat.div_add_mod (T * B i + c) 1000000000
      have hvl : (T * B i + c) % 1000000000 < 1000000000 := Nat.mod_lt _ (by decide)
      generalize hval : T * B i + c = val at *
      by_cases hge : val % 1000000000 ≤ R' (at' + i)
      · skip
        refine jx (pc' := 52) (L' := [_, _, _, _, _, _, _, _, _, _]) (st' := [_, _]) 5 rfl ?_
        try simp (disch := omega) only [kL1000000000, nI_add, nI_mul, nI_sub, nI_l, lN_i, lN_add, lN_mul, lN_sub, Nat.zero_mul, Nat.one_mul, Nat.sub_zero, Nat.add_zero, Nat.zero_add, Nat.add_sub_cancel]
        refine jldiv (pc' := 53) rfl rfl (lN_n0 (by decide) (by decide)) rfl ?_
        rw [lN_div htl (by decide)]
        refine jx (pc' := 55) (L' := [_, _, _, _, _, _, _, _, _, _]) (st' := [_, _]) 1 rfl ?_
        refine jit (pc' := 62) rfl rfl rfl (by rw [cz_ge (by omega)]; exact decide_eq_true (by omega)) ?_
        refine jx (pc' := 68) (L' := [_, _, _, _, _, _, _, _, _, _]) (st' := [_]) 5 rfl ?_
        try simp (disch := omega) only [ki0, nI_add, nI_mul, nI_sub, nI_l, lN_i, lN_add, lN_mul, lN_sub, Nat.zero_mul, Nat.one_mul, Nat.sub_zero, Nat.add_zero, Nat.zero_add, Nat.add_sub_cancel]
        refine jgf (pc' := 71) (I.ob (r := 44) DV) rfl rfl rfl rfl rfl ?_
        refine jx (pc' := 77) (L' := [_, _, _, _, _, _, _, _, _, _]) (st' := [_, _, _]) 4 rfl ?_
        try simp (disch := omega) only [nI_add, nI_mul, nI_sub, Nat.zero_mul, Nat.one_mul, Nat.sub_zero, Nat.add_zero, Nat.zero_add, Nat.add_sub_cancel]
        refine jit (pc' := 88) rfl rfl rfl (by rw [cz_ge (by omega)]; exact decide_eq_true (by omega)) ?_
        refine jx (pc' := 90) (L' := [_, _, _, _, _, _, _, _, _, _]) (st' := [_, _, _]) 1 rfl ?_
        refine jsA (pc' := 91) (r := 45) I (va_up_self _ _ _) rfl rfl (by omega) rfl fun _ I => ?_
        refine jx (pc' := 6) (L' := [_, _, _, _, _, _, _, _, _, _]) (st' := []) 2 rfl ?_
        rw [nI_i]
        rw [va_up_up] at I
        exact ih (i + 1) _ (by omega) (by omega) _ _ _ _ _ (hB17 _ (by omega)) (hK17 _) (key _ _ (by omega) (by omega)) I
      · skip
        refine jx (pc' := 52) (L' := [_, _, _, _, _, _, _, _, _, _]) (st' := [_, _]) 5 rfl ?_
        try simp (disch := omega) only [kL1000000000, nI_add, nI_mul, nI_sub, nI_l, lN_i, lN_add, lN_mul, lN_sub, Nat.zero_mul, Nat.one_mul, Nat.sub_zero, Nat.add_zero, Nat.zero_add, Nat.add_sub_cancel]
        refine jldiv (pc' := 53) rfl rfl (lN_n0 (by decide) (by decide)) rfl ?_
        rw [lN_div htl (by decide), nI_sz]
        refine jx (pc' := 55) (L' := [_, _, _, _, _, _, _, _, _, _]) (st' := [_, _]) 1 rfl ?_
        refine jin (pc' := 58) 62 rfl rfl rfl rfl (by rw [zz_ge ⟨by omega, by omega⟩]; exact decide_eq_false (by omega)) ?_
        refine jx (pc' := 68) (L' := [_, _, _, _, _, _, _, _, _, _]) (st' := [_]) 6 rfl ?_
        try simp (disch := omega) only [ki1, nI_add, nI_mul, nI_sub, nI_l, lN_i, lN_add, lN_mul, lN_sub, Nat.zero_mul, Nat.one_mul, Nat.sub_zero, Nat.add_zero, Nat.zero_add, Nat.add_sub_cancel]
        refine jgf (pc' := 71) (I.ob (r := 44) DV) rfl rfl rfl rfl rfl ?_
        refine jx (pc' := 77) (L' := [_, _, _, _, _, _, _, _, _, _]) (st' := [_, _, _]) 4 rfl ?_
        try simp (disch := omega) only [nI_add, nI_mul, nI_sub, Nat.zero_mul, Nat.one_mul, Nat.sub_zero, Nat.add_zero, Nat.zero_add, Nat.add_sub_cancel]
        refine jin (pc' := 80) 88 rfl rfl rfl rfl (by rw [zz_ge ⟨by omega, by omega⟩]; exact decide_eq_false (by omega)) ?_
        refine jx (pc' := 90) (L' := [_, _, _, _, _, _, _, _, _, _]) (st' := [_, _, _]) 4 rfl ?_
        try simp (disch := omega) only [kl1000000000, nI_add, nI_mul, nI_sub, Nat.zero_mul, Nat.one_mul, Nat.sub_zero, Nat.add_zero, Nat.zero_add, Nat.add_sub_cancel]
        rw [zI_wr (by omega)]
        refine jsA (pc' := 91) (r := 45) I (va_up_self _ _ _) rfl rfl (by omega) rfl fun _ I => ?_
        refine jx (pc' := 6) (L' := [_, _, _, _, _, _, _, _, _, _]) (st' := []) 2 rfl ?_
        rw [nI_i]
        rw [va_up_up] at I
        exact ih (i + 1) _ (by omega) (by omega) _ _ _ _ _ (hB17 _ (by omega)) (hK17 _) (key _ _ (by omega) (by omega)) I
  refine jx (pc' := 6) (L' := [_, _, _, _, _, _, _, _, _, _]) (st' := []) 4 rfl ?_
  try simp (disch := omega) only [ki0, nI_add, nI_mul, nI_sub, nI_l, lN_i, lN_add, lN_mul, lN_sub, Nat.zero_mul, Nat.one_mul, Nat.sub_zero, Nat.add_zero, Nat.zero_add, Nat.add_sub_cancel]
  refine loop n 0 0 (by omega) (by decide) none none none R h lR (fun _ _ => rfl) (by simp [vl_z]) ?_
  rw [va_up_id RR]
  exact I
theorem v_putBack (I : Inv h S) (DV : S 44 = aC (cO 2 [.ref 45, .ref 46])) (RR : S 45 = aC (cR R)) (BB : S 46 = aC (cR B)) (ha : at' + n ≤ 16) (lR : ∀ j, j < 17 → R j < 1000000000) (lB : ∀ j, j < 17 → B j < 1000000000) (q : ∀ h' R' c, (∀ j, j < 17 → R' j < 1000000000) → (∀ j, ¬ (at' ≤ j ∧ j < at' + n) → R' j = R j) → vl (fun j => R' (at' + j)) n + c * 1000000000 ^ n = vl (fun j => R (at' + j)) n + vl B n → Inv h' (va_up S 45 (aC (cR R'))) → Q (.inl none) h') : ix_M 76 [.ref 44, .int (nI at'), .int (nI n)] h Q := by
  have loop : ∀ (k i c : Nat), i + k = n → c ≤ 1 → ∀ (t5 : Option Value) (R' : Nat → Nat) (h1 : ix_H), (∀ j, j < 17 → R' j < 1000000000) → (∀ j, ¬ (at' ≤ j ∧ j < at' + i) → R' j = R j) → vl (fun j => R' (at' + j)) i + c * 1000000000 ^ i = vl (fun j => R (at' + j)) i + vl B i → Inv h1 (va_up S 45 (aC (cR R'))) → ix_E 76 5 [some (.ref 44), some (.int (nI at')), some (.int (nI n)), some (.int (nI c)), some (.int (nI i)), t5] [] h1 Q := by
    intro k
    induction k with
    | zero =>
      intro i c hi hc t5 R' h1 l hk hv I
      obtain rfl : i = n := by omega
      refine jx (pc' := 8) (L' := [_, _, _, _, _, _]) (st' := [_, _]) 2 rfl ?_
      refine jct (pc' := 67) rfl rfl rfl (by rw [cc_ge (by omega) (by omega)]; exact decide_eq_true (by omega)) ?_
      refine ix_qr _ rfl rfl rfl ?_
      exact q h1 R' c l hk hv I
    | succ k ih =>
      intro i c hi hc t5 R' h1 l hk hv I
      have RI := I.ia (r := 45) (va_up_self _ _ _)
      have BI := I.ia (r := 46) BB
      have hBi := lB i (by omega)
      have hRi := l (at' + i) (by omega)
      have hRe := hk (at' + i) (by omega)
      have key : ∀ c' x, x < 1000000000 → x + c' * 1000000000 = R' (at' + i) + B i + c → vl (fun j => va_up R' (at' + i) x (at' + j)) (i + 1) + c' * 1000000000 ^ (i + 1) = vl (fun j => R (at' + j)) (i + 1) + vl B (i + 1) := by
        intro c' x hx he
        rw [sh_up, vl_s, vl_up (Nat.le_refl _), va_up_self, vl_s, vl_s, Nat.pow_succ, ← hRe]
        have e1 : x * 1000000000 ^ i + c' * (1000000000 ^ i * 1000000000) = R' (at' + i) * 1000000000 ^ i + B i * 1000000000 ^ i + c * 1000000000 ^ i := by
          rw [Nat.mul_comm (1000000000 ^ i) 1000000000, ← Nat.mul_assoc, ← Nat.add_mul, ← Nat.add_mul, ← Nat.add_mul]
          congr 1
        omega
      have hB17 : ∀ x, x < 1000000000 → ∀ j, j < 17 → va_up R' (at' + i) x j < 1000000000 := fun x hx j hj => by
        by_cases e : j = at' + i
        · rw [e, va_up_self]; exact hx
        · rw [va_up_ne _ _ e]; exact l j hj
      have hK17 : ∀ x j, ¬ (at' ≤ j ∧ j < at' + (i + 1)) → va_up R' (at' + i) x j = R j := fun x j hj => by
        rw [va_up_ne _ _ (by omega)]
        exact hk j (by omega)
      refine jx (pc' := 8) (L' := [_, _, _, _, _, _]) (st' := [_, _]) 2 rfl ?_
      refine jcn (pc' := 11) 67 rfl rfl rfl rfl (by rw [cc_ge (by omega) (by omega)]; exact decide_eq_false (by omega)) ?_
      refine jx (pc' := 12) (L' := [_, _, _, _, _, _]) (st' := [_]) 1 rfl ?_
      refine jgf (pc' := 15) (I.ob (r := 44) DV) rfl rfl rfl rfl rfl ?_
      refine jx (pc' := 19) (L' := [_, _, _, _, _, _]) (st' := [_, _]) 3 rfl ?_
      try simp (disch := omega) only [nI_add, nI_mul, nI_sub, Nat.zero_mul, Nat.one_mul, Nat.sub_zero, Nat.add_zero, Nat.zero_add, Nat.add_sub_cancel]
      refine jal (pc' := 20) RI rfl rfl (by omega) rfl ?_
      refine jx (pc' := 21) (L' := [_, _, _, _, _, _]) (st' := [_, _]) 1 rfl ?_
      refine jgf (pc' := 24) (I.ob (r := 44) DV) rfl rfl rfl rfl rfl ?_
      refine jx (pc' := 26) (L' := [_, _, _, _, _, _]) (st' := [_, _, _]) 1 rfl ?_
      refine jal (pc' := 27) BI rfl rfl (by omega) rfl ?_
      refine jx (pc' := 36) (L' := [_, _, _, _, _, _]) (st' := [_, _]) 6 rfl ?_
      try simp (disch := omega) only [kl1000000000, nI_add, nI_mul, nI_sub, Nat.zero_mul, Nat.one_mul, Nat.sub_zero, Nat.add_zero, Nat.zero_add, Nat.add_sub_cancel]
      by_cases hge : 1000000000 ≤ R' (at' + i) + B i + c
      · skip
        refine jcn (pc' := 39) 43 rfl rfl rfl rfl (by rw [cc_lt (by omega) (by omega)]; exact decide_eq_false (by omega)) ?_
        refine jx (pc' := 46) (L' := [_, _, _, _, _, _]) (st' := [_]) 4 rfl ?_
        try simp (disch := omega) only [ki1, nI_add, nI_mul, nI_sub, Nat.zero_mul, Nat.one_mul, Nat.sub_zero, Nat.add_zero, Nat.zero_add, Nat.add_sub_cancel]
        refine jgf (pc' := 49) (I.ob (r := 44) DV) rfl rfl rfl rfl rfl ?_
        refine jx (pc' := 60) (L' := [_, _, _, _, _, _]) (st' := [_, _, _]) 8 rfl ?_
        try simp (disch := omega) only [kl1000000000, nI_add, nI_mul, nI_sub, Nat.zero_mul, Nat.one_mul, Nat.sub_zero, Nat.add_zero, Nat.zero_add, Nat.add_sub_cancel]
        refine jsA (pc' := 61) (r := 45) I (va_up_self _ _ _) rfl rfl (by omega) rfl fun _ I => ?_
        refine jx (pc' := 5) (L' := [_, _, _, _, _, _]) (st' := []) 2 rfl ?_
        rw [nI_i]
        rw [va_up_up] at I
        exact ih (i + 1) 1 (by omega) (by omega) _ _ _ (hB17 _ (by omega)) (hK17 _) (key _ _ (by omega) (by omega)) I
      · skip
        refine jct (pc' := 43) rfl rfl rfl (by rw [cc_lt (by omega) (by omega)]; exact decide_eq_true (by omega)) ?_
        refine jx (pc' := 46) (L' := [_, _, _, _, _, _]) (st' := [_]) 3 rfl ?_
        try simp (disch := omega) only [ki0, nI_add, nI_mul, nI_sub, Nat.zero_mul, Nat.one_mul, Nat.sub_zero, Nat.add_zero, Nat.zero_add, Nat.add_sub_cancel]
        refine jgf (pc' := 49) (I.ob (r := 44) DV) rfl rfl rfl rfl rfl ?_
        refine jx (pc' := 60) (L' := [_, _, _, _, _, _]) (st' := [_, _, _]) 8 rfl ?_
        try simp (disch := omega) only [kl1000000000, nI_add, nI_mul, nI_sub, Nat.zero_mul, Nat.one_mul, Nat.sub_zero, Nat.add_zero, Nat.zero_add, Nat.add_sub_cancel]
        refine jsA (pc' := 61) (r := 45) I (va_up_self _ _ _) rfl rfl (by omega) rfl fun _ I => ?_
        refine jx (pc' := 5) (L' := [_, _, _, _, _, _]) (st' := []) 2 rfl ?_
        rw [nI_i]
        rw [va_up_up] at I
        exact ih (i + 1) 0 (by omega) (by omega) _ _ _ (hB17 _ (by omega)) (hK17 _) (key _ _ (by omega) (by omega)) I
  refine jx (pc' := 5) (L' := [_, _, _, _, _, _]) (st' := []) 4 rfl ?_
  try simp (disch := omega) only [ki0, nI_add, nI_mul, nI_sub, Nat.zero_mul, Nat.one_mul, Nat.sub_zero, Nat.add_zero, Nat.zero_add, Nat.add_sub_cancel]
  refine loop n 0 0 (by omega) (by decide) none R h lR (fun _ _ => rfl) (by simp [vl_z]) ?_
  rw [va_up_id RR]
  exact I
end DIV
