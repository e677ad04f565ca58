/-! ===== the reference: long division's rows ===== -/
theorem v10_up {f : Nat → Nat} {k y : Nat} : v10 (va_up f k y) k = v10 f k := v10_cg fun j hj => va_up_ne _ _ (by omega)
theorem v10_us {f : Nat → Nat} {k y : Nat} : v10 (va_up f k y) (k + 1) = v10 f k + y * 10 ^ k := by rw [v10_s, v10_up, va_up_self]
theorem v10_t {f g : Nat → Nat} {k n : Nat} (hk : k ≤ n) (h : ∀ j, k ≤ j → j < n → f j = g j) : v10 f n + v10 g k = v10 g n + v10 f k := by
  induction n with
  | zero =>
    obtain rfl : k = 0 := by omega
    rw [v10_0, v10_0]
  | succ n ih =>
    by_cases e : k = n + 1
    · subst e; omega
    · have i := ih (by omega) fun j h1 h2 => h j h1 (by omega)
      rw [v10_s, v10_s, h n (by omega) (by omega)]
      omega
theorem v10_sh {f g : Nat → Nat} {d n : Nat} (h0 : g 0 = d) (h : ∀ j, j < n → g (j + 1) = f j) : v10 g (n + 1) = 10 * v10 f n + d := by
  induction n with
  | zero => rw [v10_s, v10_0, v10_0, h0]; simp
  | succ n ih =>
    rw [v10_s, ih fun j hj => h j (by omega), h n (by omega), v10_s f n, Nat.pow_succ]
    rw [Nat.mul_add, ← Nat.mul_assoc, Nat.mul_comm (f n * 10 ^ n) 10 |>.symm]
    omega
theorem v10_z {f : Nat → Nat} {n : Nat} (h : v10 f n = 0) : ∀ j, j < n → f j = 0 := by
  induction n with
  | zero => intro j hj; omega
  | succ n ih =>
    rw [v10_s] at h
    have h1 : f n * 10 ^ n = 0 := by omega
    have h2 : f n = 0 := by
      rcases Nat.mul_eq_zero.mp h1 with z | z
      · exact z
      · have := pp0 n; omega
    intro j hj
    by_cases e : j = n
    · rw [e]; exact h2
    · exact ih (by omega) j (by omega)
section REF
variable {h : ix_H} {Q : ix_O → ix_H → Prop} {S0 : Nat → AC} {R : Nat → Dm} {V cd dr ra si tr : Nat} {mo ng : Bool} {sp sz wr : Nat} {il : Bool} {rs pt rl wo tx ou : Nat → Nat} {j x : Int} {r f s m a : Nat} {b t : Bool}
theorem m_isBelow (K : (RI S0 h R V cd dr ra si tr mo ng sp sz wr il rs pt rl wo tx ou)) (hsp : sp ≤ 130) (hr : ∀ j, j < sp → rs j < 10) (hp : ∀ j, j < sp → pt j < 10) (q : Q (.inl (some (.int (bI (decide (v10 rs sp < v10 pt sp)))))) h) : ix_M 224 [.ref 98] h Q := by
  have loop : ∀ n : Nat, n ≤ sp → (∀ j, n ≤ j → j < sp → rs j = pt j) → ix_E 224 7 [some (.ref 98), some (.int (zI ((n : Int) - 1)))] [] h Q := by
    intro n
    induction n with
    | zero =>
      intro hn he
      have e := v10_cg (f := rs) (g := pt) (n := sp) fun j hj => he j (by omega) hj
      rw [e, decide_eq_false (Nat.lt_irrefl _)] at q
      refine jx (pc' := 8) (L' := [_, _]) (st' := [_]) 1 rfl ?_
      refine jit (pc' := 53) rfl rfl rfl (by rw [zz_lt ⟨by omega, by omega⟩]; exact decide_eq_true (by omega)) ?_
      refine jx (pc' := 54) (L' := [_, _]) (st' := [.int (zI 0)]) 1 rfl ?_
      exact jrb rfl rfl q
    | succ n ih =>
      intro hn he
      have h1 := hr n (by omega)
      have h2 := hp n (by omega)
      refine jx (pc' := 8) (L' := [_, _]) (st' := [_]) 1 rfl ?_
      refine jin (pc' := 11) 53 rfl rfl rfl rfl (by rw [zz_lt ⟨by omega, by omega⟩]; exact decide_eq_false (by omega)) ?_
      refine jx (pc' := 12) (L' := [_, _]) (st' := [_]) 1 rfl ?_
      refine jgf (pc' := 15) K.ob rfl rfl rfl rfl rfl ?_
      refine jx (pc' := 16) (L' := [_, _]) (st' := [_, _]) 1 rfl ?_
      refine jR_e (pc' := 17) n K rfl rfl (by omega) (by omega)  rfl ?_
      refine jx (pc' := 18) (L' := [_, _]) (st' := [_, _]) 1 rfl ?_
      refine jgf (pc' := 21) K.ob rfl rfl rfl rfl rfl ?_
      refine jx (pc' := 22) (L' := [_, _]) (st' := [_, _, _]) 1 rfl ?_
      refine jR_t (pc' := 23) n K rfl rfl (by omega) (by omega)  rfl ?_
      by_cases h0 : rs n = pt n
      · skip
        refine jct (pc' := 47) rfl rfl rfl (by rw [zc_eq ⟨by omega, by omega⟩ ⟨by omega, by omega⟩]; exact decide_eq_true (by omega)) ?_
        refine jx (pc' := 7) (L' := [_, _]) (st' := []) 2 rfl ?_
        try simp (disch := omega) only [kz, kzl0, kzl1, kzb, kzs, zI_add, zI_sub, zI_neg, zI_mul, zL_i, zI_l, zL_add, zL_sub, zL_neg]
        rw [show ((n + 1 : Nat) : Int) - 1 + -1 = (n : Int) - 1 by omega]
        refine ih (by omega) fun j h1 h2 => ?_
        by_cases e : j = n
        · rw [e]; exact h0
        · exact he j (by omega) h2
      · have e := v10_t (f := rs) (g := pt) (k := n + 1) (n := sp) hn he
        have l1 := v10_lt (f := rs) (n := n) fun j hj => hr j (by omega)
        have l2 := v10_lt (f := pt) (n := n) fun j hj => hp j (by omega)
        rw [v10_s, v10_s] at e
        refine jcn (pc' := 26) 47 rfl rfl rfl rfl (by rw [zc_eq ⟨by omega, by omega⟩ ⟨by omega, by omega⟩]; exact decide_eq_false (by omega)) ?_
        refine jx (pc' := 27) (L' := [_, _]) (st' := [_]) 1 rfl ?_
        refine jgf (pc' := 30) K.ob rfl rfl rfl rfl rfl ?_
        refine jx (pc' := 31) (L' := [_, _]) (st' := [_, _]) 1 rfl ?_
        refine jR_e (pc' := 32) n K rfl rfl (by omega) (by omega)  rfl ?_
        refine jx (pc' := 33) (L' := [_, _]) (st' := [_, _]) 1 rfl ?_
        refine jgf (pc' := 36) K.ob rfl rfl rfl rfl rfl ?_
        refine jx (pc' := 37) (L' := [_, _]) (st' := [_, _, _]) 1 rfl ?_
        refine jR_t (pc' := 38) n K rfl rfl (by omega) (by omega)  rfl ?_
        by_cases h3 : rs n < pt n
        · have : (rs n + 1) * 10 ^ n ≤ pt n * 10 ^ n := Nat.mul_le_mul_right _ h3
          rw [Nat.add_mul, Nat.one_mul] at this
          rw [decide_eq_true (by omega)] at q
          refine jcn (pc' := 41) 45 rfl rfl rfl rfl (by rw [zc_ge ⟨by omega, by omega⟩ ⟨by omega, by omega⟩]; exact decide_eq_false (by omega)) ?_
          refine jx (pc' := 46) (L' := [_, _]) (st' := [.int (zI 1)]) 2 rfl ?_
          exact jrb rfl rfl q
        · have : (pt n + 1) * 10 ^ n ≤ rs n * 10 ^ n := Nat.mul_le_mul_right _ (by omega)
          rw [Nat.add_mul, Nat.one_mul] at this
          rw [decide_eq_false (by omega)] at q
          refine jct (pc' := 45) rfl rfl rfl (by rw [zc_ge ⟨by omega, by omega⟩ ⟨by omega, by omega⟩]; exact decide_eq_true (by omega)) ?_
          refine jx (pc' := 46) (L' := [_, _]) (st' := [.int (zI 0)]) 1 rfl ?_
          exact jrb rfl rfl q
  refine jx (pc' := 1) (L' := [_, _]) (st' := [_]) 1 rfl ?_
  refine jgf (pc' := 4) K.ob rfl rfl rfl rfl rfl ?_
  refine jx (pc' := 7) (L' := [_, _]) (st' := []) 3 rfl ?_
  try simp (disch := omega) only [kz, kzl0, kzl1, kzb, kzs, zI_add, zI_sub, zI_neg, zI_mul, zL_i, zI_l, zL_add, zL_sub, zL_neg]
  exact loop sp (by omega) fun j h1 h2 => by omega
/-- a difference in place: lessen takes part from rest, turn takes rest from part -/
theorem ls_s {f g f' : Nat → Nat} {k y : Nat} {ca ca' : Int} (e : (v10 f' k : Int) + ca * (10 ^ k : Nat) = v10 f k - v10 g k) (hy : (y : Int) + 10 * ca' = f k - g k + ca) : (v10 (va_up f' k y) (k + 1) : Int) + ca' * (10 ^ (k + 1) : Nat) = v10 f (k + 1) - v10 g (k + 1) := by
  rw [v10_us, v10_s, v10_s, Nat.pow_succ]
  generalize 10 ^ k = P at *
  have h1 : (y : Int) * P + 10 * ca' * P = f k * P - g k * P + ca * P := by rw [← Int.add_mul, hy, Int.add_mul, Int.sub_mul]
  push_cast
  have h2 : ca' * ((P : Int) * 10) = 10 * ca' * P := by rw [Int.mul_comm (P : Int) 10, ← Int.mul_assoc, Int.mul_comm ca' 10]
  rw [h2]
  omega
theorem m_lessen (K : (RI S0 h R V cd dr ra si tr mo ng sp sz wr il rs pt rl wo tx ou)) (hsp : sp ≤ 130) (hr : ∀ j, j < sp → rs j < 10) (hp : ∀ j, j < sp → pt j < 10) (hle : v10 pt sp ≤ v10 rs sp) (q : ∀ h' rs', (∀ j, j < sp → rs' j < 10) → v10 rs' sp = v10 rs sp - v10 pt sp → (RI S0 h' R V cd dr ra si tr mo ng sp sz wr il (rs') pt rl wo tx ou) → Q (.inl none) h') : ix_M 225 [.ref 98] h Q := by
  have loop : ∀ n k : Nat, k + n = sp → ∀ (h1 : ix_H) (f' : Nat → Nat) (ca : Int) (l3 : Option Value), (-1 ≤ ca ∧ ca ≤ 0) → (∀ j, j < sp → f' j < 10) → (∀ j, k ≤ j → f' j = rs j) → (v10 f' k : Int) + ca * (10 ^ k : Nat) = v10 rs k - v10 pt k → (RI S0 h1 R V cd dr ra si tr mo ng sp sz wr il (f') pt rl wo tx ou) → ix_E 225 4 [some (.ref 98), some (.int (zI ca)), some (.int (zI (k : Int))), l3] [] h1 Q := by
    intro n
    induction n with
    | zero =>
      intro k hk h f' ca l3 hca hf hj e K
      obtain rfl : k = sp := by omega
      refine jx (pc' := 6) (L' := [_, _, _, _]) (st' := [_, _]) 2 rfl ?_
      refine jgf (pc' := 9) K.ob rfl rfl rfl rfl rfl ?_
      refine jct (pc' := 57) rfl rfl rfl (by rw [zc_ge ⟨by omega, by omega⟩ ⟨by omega, by omega⟩]; exact decide_eq_true (by omega)) ?_
      refine ix_qr _ rfl rfl rfl ?_
      have l1 := v10_lt hf
      have hc0 : ca = 0 := by
        rcases (show ca = -1 ∨ ca = 0 by omega) with z | z
        · rw [z] at e; omega
        · exact z
      rw [hc0] at e
      exact q _ f' hf (by omega) K
    | succ n ih =>
      intro k hk h f' ca l3 hca hf hj e K
      have h1 := hr k (by omega)
      have h2 := hp k (by omega)
      refine jx (pc' := 6) (L' := [_, _, _, _]) (st' := [_, _]) 2 rfl ?_
      refine jgf (pc' := 9) K.ob rfl rfl rfl rfl rfl ?_
      refine jcn (pc' := 12) 57 rfl rfl rfl rfl (by rw [zc_ge ⟨by omega, by omega⟩ ⟨by omega, by omega⟩]; exact decide_eq_false (by omega)) ?_
      refine jx (pc' := 13) (L' := [_, _, _, _]) (st' := [_]) 1 rfl ?_
      refine jgf (pc' := 16) K.ob rfl rfl rfl rfl rfl ?_
      refine jx (pc' := 17) (L' := [_, _, _, _]) (st' := [_, _]) 1 rfl ?_
      refine jR_e (pc' := 18) k K rfl rfl (by omega) (by omega)  rfl ?_
      rw [hj k (Nat.le_refl k)]
      refine jx (pc' := 19) (L' := [_, _, _, _]) (st' := [_, _]) 1 rfl ?_
      refine jgf (pc' := 22) K.ob rfl rfl rfl rfl rfl ?_
      refine jx (pc' := 23) (L' := [_, _, _, _]) (st' := [_, _, _]) 1 rfl ?_
      refine jR_t (pc' := 24) k K rfl rfl (by omega) (by omega)  rfl ?_
      refine jx (pc' := 28) (L' := [_, _, _, _]) (st' := []) 4 rfl ?_
      try simp (disch := omega) only [kz, kzl0, kzl1, kzb, kzs, zI_add, zI_sub, zI_neg, zI_mul, zL_i, zI_l, zL_add, zL_sub, zL_neg]
      generalize hv : (rs k : Int) - (pt k : Int) + ca = v at *
      refine jx (pc' := 29) (L' := [_, _, _, _]) (st' := [_]) 1 rfl ?_
      refine jgf (pc' := 32) K.ob rfl rfl rfl rfl rfl ?_
      refine jx (pc' := 39) (L' := [_, _, _, _]) (st' := [.int (zI 10), _, _, _]) 5 rfl ?_
      try simp (disch := omega) only [kz, kzl0, kzl1, kzb, kzs, zI_add, zI_sub, zI_neg, zI_mul, zL_i, zI_l, zL_add, zL_sub, zL_neg]
      refine jirem (pc' := 40) rfl rfl (by decide) rfl ?_
      rw [zrem ⟨by omega, by omega⟩ ⟨by omega, by omega⟩]
      refine jW_e (pc' := 41) k (((v+10)%10).toNat) K (by first | rfl | (congr 1; omega)) rfl rfl (by omega) (by omega)  rfl  fun h K => ?_
      refine jx (pc' := 42) (L' := [_, _, _, _]) (st' := [_]) 1 rfl ?_
      have fin : ∀ ca' : Int, (-1 ≤ ca' ∧ ca' ≤ 0) → ((((v + 10) % 10).toNat : Nat) : Int) + 10 * ca' = v → ix_E 225 4 [some (.ref 98), some (.int (zI ca')), some (.int (zI ((k + 1 : Nat) : Int))), some (.int (zI v))] [] h Q := fun ca' hc' hy => by
        refine ih (k + 1) (by omega) h _ ca' _ hc' (fun j hjj => ?_) (fun j hjj => ?_) (ls_s e (by rw [hy, ← hv])) K
        · by_cases z : j = k
          · rw [z, va_up_self]; omega
          · rw [va_up_ne _ _ z]; exact hf j hjj
        · rw [va_up_ne _ _ (by omega)]; exact hj j (by omega)
      by_cases h0 : v < 0
      · skip
        refine jin (pc' := 45) 49 rfl rfl rfl rfl (by rw [zz_ge ⟨by omega, by omega⟩]; exact decide_eq_false (by omega)) ?_
        refine jx (pc' := 4) (L' := [_, _, _, _]) (st' := []) 5 rfl ?_
        try simp (disch := omega) only [kz, kzl0, kzl1, kzb, kzs, zI_add, zI_sub, zI_neg, zI_mul, zL_i, zI_l, zL_add, zL_sub, zL_neg]
        rw [show (k : Int) + 1 = ((k + 1 : Nat) : Int) by omega]
        exact fin (-1) (by omega) (by omega)
      · skip
        refine jit (pc' := 49) rfl rfl rfl (by rw [zz_ge ⟨by omega, by omega⟩]; exact decide_eq_true (by omega)) ?_
        refine jx (pc' := 4) (L' := [_, _, _, _]) (st' := []) 4 rfl ?_
        try simp (disch := omega) only [kz, kzl0, kzl1, kzb, kzs, zI_add, zI_sub, zI_neg, zI_mul, zL_i, zI_l, zL_add, zL_sub, zL_neg]
        rw [show (k : Int) + 1 = ((k + 1 : Nat) : Int) by omega]
        exact fin 0 (by omega) (by omega)
  refine jx (pc' := 4) (L' := [_, _, _, _]) (st' := []) 4 rfl ?_
  try simp (disch := omega) only [kz, kzl0, kzl1, kzb, kzs, zI_add, zI_sub, zI_neg, zI_mul, zL_i, zI_l, zL_add, zL_sub, zL_neg]
  exact loop sp 0 (by omega) h rs 0 _ ⟨by omega, by omega⟩ hr (fun _ _ => rfl) (by rw [v10_0, v10_0]; simp) K
theorem m_isRest (K : (RI S0 h R V cd dr ra si tr mo ng sp sz wr il rs pt rl wo tx ou)) (hsp : sp ≤ 130) (hr : ∀ j, j < sp → rs j < 10) (q : Q (.inl (some (.int (bI (decide (¬ v10 rs sp = 0)))))) h) : ix_M 226 [.ref 98] h Q := by
  have loop : ∀ n k : Nat, k + n = sp → ix_E 226 4 [some (.ref 98), some (.int (bI (decide (¬ v10 rs k = 0)))), some (.int (zI (k : Int)))] [] h Q := by
    intro n
    induction n with
    | zero =>
      intro k hk
      obtain rfl : k = sp := by omega
      refine jx (pc' := 6) (L' := [_, _, _]) (st' := [_, _]) 2 rfl ?_
      refine jgf (pc' := 9) K.ob rfl rfl rfl rfl rfl ?_
      refine jct (pc' := 37) rfl rfl rfl (by rw [zc_ge ⟨by omega, by omega⟩ ⟨by omega, by omega⟩]; exact decide_eq_true (by omega)) ?_
      refine jx (pc' := 38) (L' := [_, _, _]) (st' := [_]) 1 rfl ?_
      exact jrb rfl rfl q
    | succ n ih =>
      intro k hk
      have h1 := hr k (by omega)
      have nx := ih (k + 1) (by omega)
      have hp := pp0 k
      rw [v10_s] at nx
      refine jx (pc' := 6) (L' := [_, _, _]) (st' := [_, _]) 2 rfl ?_
      refine jgf (pc' := 9) K.ob rfl rfl rfl rfl rfl ?_
      refine jcn (pc' := 12) 37 rfl rfl rfl rfl (by rw [zc_ge ⟨by omega, by omega⟩ ⟨by omega, by omega⟩]; exact decide_eq_false (by omega)) ?_
      refine jx (pc' := 13) (L' := [_, _, _]) (st' := [_]) 1 rfl ?_
      by_cases h0 : v10 rs k = 0
      · rw [decide_eq_false (fun z => z h0)]
        refine jin (pc' := 16) 25 rfl rfl rfl rfl (by rfl) ?_
        refine jx (pc' := 17) (L' := [_, _, _]) (st' := [_]) 1 rfl ?_
        refine jgf (pc' := 20) K.ob rfl rfl rfl rfl rfl ?_
        refine jx (pc' := 21) (L' := [_, _, _]) (st' := [_, _]) 1 rfl ?_
        refine jR_e (pc' := 22) k K rfl rfl (by omega) (by omega)  rfl ?_
        by_cases h2 : rs k = 0
        · rw [h0, h2, Nat.zero_mul, decide_eq_false (fun z => z rfl)] at nx
          refine jit (pc' := 29) rfl rfl rfl (by rw [zz_eq ⟨by omega, by omega⟩]; exact decide_eq_true (by omega)) ?_
          refine jx (pc' := 4) (L' := [_, _, _]) (st' := []) 4 rfl ?_
          try simp (disch := omega) only [kz, kzl0, kzl1, kzb, kzs, zI_add, zI_sub, zI_neg, zI_mul, zL_i, zI_l, zL_add, zL_sub, zL_neg]
          rw [show (k : Int) + 1 = ((k + 1 : Nat) : Int) by omega]
          exact nx
        · have : 1 * 10 ^ k ≤ rs k * 10 ^ k := Nat.mul_le_mul_right _ (by omega)
          rw [decide_eq_true (by omega)] at nx
          refine jin (pc' := 25) 29 rfl rfl rfl rfl (by rw [zz_eq ⟨by omega, by omega⟩]; exact decide_eq_false (by omega)) ?_
          refine jx (pc' := 4) (L' := [_, _, _]) (st' := []) 5 rfl ?_
          try simp (disch := omega) only [kz, kzl0, kzl1, kzb, kzs, zI_add, zI_sub, zI_neg, zI_mul, zL_i, zI_l, zL_add, zL_sub, zL_neg]
          rw [show (k : Int) + 1 = ((k + 1 : Nat) : Int) by omega]
          exact nx
      · rw [decide_eq_true h0]
        rw [decide_eq_true (by omega)] at nx
        refine jit (pc' := 25) rfl rfl rfl (by rfl) ?_
        refine jx (pc' := 4) (L' := [_, _, _]) (st' := []) 5 rfl ?_
        try simp (disch := omega) only [kz, kzl0, kzl1, kzb, kzs, zI_add, zI_sub, zI_neg, zI_mul, zL_i, zI_l, zL_add, zL_sub, zL_neg]
        rw [show (k : Int) + 1 = ((k + 1 : Nat) : Int) by omega]
        exact nx
  refine jx (pc' := 4) (L' := [_, _, _]) (st' := []) 4 rfl ?_
  try simp (disch := omega) only [kz, kzl0, kzl1, kzb, kzs, zI_add, zI_sub, zI_neg, zI_mul, zL_i, zI_l, zL_add, zL_sub, zL_neg]
  have := loop sp 0 (by omega)
  rw [v10_0] at this
  exact this
theorem m_often {d0 : Int} {d : Nat} (K : (RI S0 h R V cd dr ra si tr mo ng sp sz wr il rs pt rl wo tx ou)) (hd0 : d0 = (d : Int)) (hd : d < 10) (hsp : sp ≤ 130) (hs1 : 1 ≤ sp) (hr : ∀ j, j < sp → rs j < 10) (hp : ∀ j, j < sp → pt j < 10) (hlt : v10 rs sp < v10 pt sp) (htop : v10 rs sp < 10 ^ (sp - 1)) (q : ∀ h' rs', (∀ j, j < sp → rs' j < 10) → v10 rs' sp = (10 * v10 rs sp + d) % v10 pt sp → (10 * v10 rs sp + d) / v10 pt sp < 10 → (RI S0 h' R V cd dr ra si tr mo ng sp sz wr il (rs') pt rl wo tx ou) → Q (.inl (some (.int (zI ((10 * v10 rs sp + d) / v10 pt sp : Nat))))) h') : ix_M 223 [.ref 98, .int (zI d0)] h Q := by
  subst hd0
  have hP : 0 < v10 pt sp := by omega
  have hq9 : (10 * v10 rs sp + d) / v10 pt sp < 10 := (Nat.div_lt_iff_lt_mul hP).mpr (by omega)
  have q := fun h' rs' a b c => q h' rs' a b hq9 c
  have loop : ∀ n c : Nat, c + n = (10 * v10 rs sp + d) / v10 pt sp → ∀ (h1 : ix_H) (f' : Nat → Nat), (∀ j, j < sp → f' j < 10) → v10 f' sp + c * v10 pt sp = 10 * v10 rs sp + d → (RI S0 h1 R V cd dr ra si tr mo ng sp sz wr il (f') pt rl wo tx ou) → ix_E 223 40 [some (.ref 98), some (.int (zI (d : Int))), some (.int (zI (c : Int)))] [] h1 Q := by
    intro n
    induction n with
    | zero =>
      intro c hc h f' hf e K
      have hdm := Nat.div_add_mod (10 * v10 rs sp + d) (v10 pt sp)
      have hml := Nat.mod_lt (10 * v10 rs sp + d) hP
      rw [← hc, Nat.add_zero, Nat.mul_comm] at hdm
      refine jx (pc' := 41) (L' := [_, _, _]) (st' := [_]) 1 rfl ?_
      refine jcv (pc' := 44) 224 [] [] K.ob rfl rfl rfl rfl rfl rfl rfl rfl ?_
      refine m_isBelow K hsp hf hp (jk ?_)
      refine jit (pc' := 57) rfl rfl rfl (by rw [bz_ne, decide_eq_true (by omega)]) ?_
      refine jx (pc' := 58) (L' := [_, _, _]) (st' := [_]) 1 rfl ?_
      refine jri rfl rfl ?_
      rw [← hc, Nat.add_zero] at q
      exact q _ f' hf (by omega) K
    | succ n ih =>
      intro c hc h f' hf e K
      have hle : (c + 1) * v10 pt sp ≤ 10 * v10 rs sp + d := by
        refine Nat.le_trans (Nat.mul_le_mul_right _ (show c + 1 ≤ (10 * v10 rs sp + d) / v10 pt sp by omega)) ?_
        exact Nat.div_mul_le_self _ _
      rw [Nat.add_mul, Nat.one_mul] at hle
      refine jx (pc' := 41) (L' := [_, _, _]) (st' := [_]) 1 rfl ?_
      refine jcv (pc' := 44) 224 [] [] K.ob rfl rfl rfl rfl rfl rfl rfl rfl ?_
      refine m_isBelow K hsp hf hp (jk ?_)
      refine jin (pc' := 47) 57 rfl rfl rfl rfl (by rw [bz_ne, decide_eq_false (by omega)]) ?_
      refine jx (pc' := 48) (L' := [_, _, _]) (st' := [_]) 1 rfl ?_
      refine jcv (pc' := 51) 225 [] [] K.ob rfl rfl rfl rfl rfl rfl rfl rfl ?_
      refine m_lessen K hsp hf hp (by omega) fun h f2 hf2 e2 K => jk ?_
      refine jx (pc' := 40) (L' := [_, _, _]) (st' := []) 2 rfl ?_
      try simp (disch := omega) only [kz, kzl0, kzl1, kzb, kzs, zI_add, zI_sub, zI_neg, zI_mul, zL_i, zI_l, zL_add, zL_sub, zL_neg]
      rw [show (c : Int) + 1 = ((c + 1 : Nat) : Int) by omega]
      refine ih (c + 1) (by omega) h f2 hf2 ?_ K
      rw [e2, Nat.add_mul, Nat.one_mul]
      omega
  have shift : ∀ n : Nat, n < sp → ∀ (h1 : ix_H) (f' : Nat → Nat), (∀ j, n < j → j < sp → f' j = rs (j - 1)) → (∀ j, j ≤ n → f' j = rs j) → (RI S0 h1 R V cd dr ra si tr mo ng sp sz wr il (f') pt rl wo tx ou) → ix_E 223 7 [some (.ref 98), some (.int (zI (d : Int))), some (.int (zI (n : Int)))] [] h1 Q := by
    intro n
    induction n with
    | zero =>
      intro hn h f' h1 h2 K
      refine jx (pc' := 8) (L' := [_, _, _]) (st' := [_]) 1 rfl ?_
      refine jit (pc' := 31) rfl rfl rfl (by rw [zz_le ⟨by omega, by omega⟩]; exact decide_eq_true (by omega)) ?_
      refine jx (pc' := 32) (L' := [_, _, _]) (st' := [_]) 1 rfl ?_
      refine jgf (pc' := 35) K.ob rfl rfl rfl rfl rfl ?_
      refine jx (pc' := 37) (L' := [_, _, _]) (st' := [_, .int (zI 0), _]) 2 rfl ?_
      refine jW_e (pc' := 38) 0 d K (by first | rfl | (congr 1; omega)) rfl rfl (by omega) (by omega)  rfl  fun h K => ?_
      refine jx (pc' := 40) (L' := [_, _, _]) (st' := []) 2 rfl ?_
      try simp (disch := omega) only [kz, kzl0, kzl1, kzb, kzs, zI_add, zI_sub, zI_neg, zI_mul, zL_i, zI_l, zL_add, zL_sub, zL_neg]
      have hs : v10 (va_up f' 0 d) (sp - 1 + 1) = 10 * v10 rs (sp - 1) + d := v10_sh (va_up_self _ _ _) fun j hj => by
        rw [va_up_ne _ _ (by omega), h1 (j + 1) (by omega) (by omega)]
        rfl
      have htz : v10 rs sp = v10 rs (sp - 1) := by
        have e := v10_s rs (sp - 1)
        rw [show sp - 1 + 1 = sp by omega] at e
        rcases Nat.eq_zero_or_pos (rs (sp - 1)) with z | z
        · rw [z, Nat.zero_mul] at e; omega
        · have : 1 * 10 ^ (sp - 1) ≤ rs (sp - 1) * 10 ^ (sp - 1) := Nat.mul_le_mul_right _ z
          omega
      rw [show sp - 1 + 1 = sp by omega, ← htz] at hs
      refine loop _ 0 (Nat.zero_add _) h _ (fun j hj => ?_) (by rw [hs]; omega) K
      by_cases z : j = 0
      · rw [z, va_up_self]; exact hd
      · rw [va_up_ne _ _ z, h1 j (by omega) hj]
        exact hr _ (by omega)
    | succ n ih =>
      intro hn h f' h1 h2 K
      refine jx (pc' := 8) (L' := [_, _, _]) (st' := [_]) 1 rfl ?_
      refine jin (pc' := 11) 31 rfl rfl rfl rfl (by rw [zz_le ⟨by omega, by omega⟩]; exact decide_eq_false (by omega)) ?_
      refine jx (pc' := 12) (L' := [_, _, _]) (st' := [_]) 1 rfl ?_
      refine jgf (pc' := 15) K.ob rfl rfl rfl rfl rfl ?_
      refine jx (pc' := 17) (L' := [_, _, _]) (st' := [_, _, _]) 2 rfl ?_
      refine jgf (pc' := 20) K.ob rfl rfl rfl rfl rfl ?_
      refine jx (pc' := 23) (L' := [_, _, _]) (st' := [_, _, _, _]) 3 rfl ?_
      try simp (disch := omega) only [kz, kzl0, kzl1, kzb, kzs, zI_add, zI_sub, zI_neg, zI_mul, zL_i, zI_l, zL_add, zL_sub, zL_neg]
      refine jR_e (pc' := 24) n K rfl rfl (by omega) (by omega)  rfl ?_
      rw [h2 n (by omega)]
      refine jW_e (pc' := 25) ((n+1)) ((rs n)) K (by first | rfl | (congr 1; omega)) rfl rfl (by omega) (by omega)  rfl  fun h K => ?_
      refine jx (pc' := 7) (L' := [_, _, _]) (st' := []) 2 rfl ?_
      try simp (disch := omega) only [kz, kzl0, kzl1, kzb, kzs, zI_add, zI_sub, zI_neg, zI_mul, zL_i, zI_l, zL_add, zL_sub, zL_neg]
      rw [show ((n + 1 : Nat) : Int) + -1 = (n : Int) by omega]
      refine ih (by omega) h _ (fun j hj hj2 => ?_) (fun j hj => ?_) K
      · by_cases z : j = n + 1
        · rw [z, va_up_self]; rfl
        · rw [va_up_ne _ _ z]; exact h1 j (by omega) hj2
      · rw [va_up_ne _ _ (by omega)]; exact h2 j (by omega)
  refine jx (pc' := 1) (L' := [_, _, _]) (st' := [_]) 1 rfl ?_
  refine jgf (pc' := 4) K.ob rfl rfl rfl rfl rfl ?_
  refine jx (pc' := 7) (L' := [_, _, _]) (st' := []) 3 rfl ?_
  try simp (disch := omega) only [kz, kzl0, kzl1, kzb, kzs, zI_add, zI_sub, zI_neg, zI_mul, zL_i, zI_l, zL_add, zL_sub, zL_neg]
  rw [show (sp : Int) - 1 = ((sp - 1 : Nat) : Int) by omega]
  exact shift (sp - 1) (by omega) h rs (fun j h1 h2 => by omega) (fun _ _ => rfl) K
theorem m_beginDivision {a0 : Int} (K : (RI S0 h R V cd dr ra si tr mo ng sp sz wr il rs pt rl wo tx ou)) (ha0 : a0 = (a : Int)) (ha : a < 12) (q : ∀ h' rs' pt', (∀ j, j < 130 → rs' j < 10) → (∀ j, j < 130 → pt' j < 10) → v10 rs' 130 = 0 → v10 pt' 130 = (R a).2.2.2.2 → (RI S0 h' R V cd dr ra si tr mo ng (130) sz wr il (rs') (pt') rl wo tx ou) → Q (.inl none) h') : ix_M 222 [.ref 98, .int (zI a0)] h Q := by
  subst ha0
  have hv := (K.rv ha).2.2.2.2
  have loop : ∀ n k : Nat, k + n = 130 → ∀ (h1 : ix_H) (f' g' : Nat → Nat), (∀ j, j < k → f' j = 0) → (∀ j, j < k → g' j = (R a).2.2.2.2 / 10 ^ j % 10) → (RI S0 h1 R V cd dr ra si tr mo ng (130) sz wr il (f') (g') rl wo tx ou) → ix_E 222 9 [some (.ref 98), some (.int (zI (a : Int))), some (.int (zI (k : Int)))] [] h1 Q := by
    intro n
    induction n with
    | zero =>
      intro k hk h f' g' h1 h2 K
      obtain rfl : k = 130 := by omega
      refine jx (pc' := 11) (L' := [_, _, _]) (st' := [_, _]) 2 rfl ?_
      refine jgf (pc' := 14) K.ob rfl rfl rfl rfl rfl ?_
      refine jct (pc' := 42) rfl rfl rfl (by rw [zc_ge ⟨by omega, by omega⟩ ⟨by omega, by omega⟩]; exact decide_eq_true (by omega)) ?_
      refine ix_qr _ rfl rfl rfl ?_
      refine q _ f' g' (fun j hj => by rw [h1 j hj]; decide) (fun j hj => by rw [h2 j hj]; exact dg_b _ _) ?_ ?_ K
      · rw [v10_cg (g := fun j => 0 / 10 ^ j % 10) (fun j hj => by rw [h1 j hj, Nat.zero_div]), v10_of, Nat.zero_mod]
      · rw [v10_cg h2, v10_of, Nat.mod_eq_of_lt (Nat.lt_of_lt_of_le hv (pl (by decide)))]
    | succ n ih =>
      intro k hk h f' g' h1 h2 K
      have hat : atD (R a).2.2.2.2 (k : Int) = (R a).2.2.2.2 / 10 ^ k % 10 := by unfold atD; rw [if_neg (by omega)]; rfl
      refine jx (pc' := 11) (L' := [_, _, _]) (st' := [_, _]) 2 rfl ?_
      refine jgf (pc' := 14) K.ob rfl rfl rfl rfl rfl ?_
      refine jcn (pc' := 17) 42 rfl rfl rfl rfl (by rw [zc_ge ⟨by omega, by omega⟩ ⟨by omega, by omega⟩]; exact decide_eq_false (by omega)) ?_
      refine jx (pc' := 18) (L' := [_, _, _]) (st' := [_]) 1 rfl ?_
      refine jgf (pc' := 21) K.ob rfl rfl rfl rfl rfl ?_
      refine jx (pc' := 23) (L' := [_, _, _]) (st' := [.int (zI 0), _, _]) 2 rfl ?_
      refine jW_e (pc' := 24) k 0 K (by first | rfl | (congr 1; omega)) rfl rfl (by omega) (by omega)  rfl  fun h K => ?_
      refine jx (pc' := 25) (L' := [_, _, _]) (st' := [_]) 1 rfl ?_
      refine jgf (pc' := 28) K.ob rfl rfl rfl rfl rfl ?_
      refine jx (pc' := 32) (L' := [_, _, _]) (st' := [_, _, _, _, _]) 4 rfl ?_
      refine jcv (pc' := 35) 198 [_, _] [_, _] K.ob rfl rfl rfl rfl rfl rfl rfl rfl ?_
      refine m_at K rfl ha ⟨by omega, by omega⟩ (jk ?_)
      rw [hat]
      refine jW_t (pc' := 36) k (((R a).2.2.2.2/10^k%10)) K (by first | rfl | (congr 1; omega)) rfl rfl (by omega) (by omega)  rfl  fun h K => ?_
      refine jx (pc' := 9) (L' := [_, _, _]) (st' := []) 2 rfl ?_
      try simp (disch := omega) only [kz, kzl0, kzl1, kzb, kzs, zI_add, zI_sub, zI_neg, zI_mul, zL_i, zI_l, zL_add, zL_sub, zL_neg]
      rw [show (k : Int) + 1 = ((k + 1 : Nat) : Int) by omega]
      refine ih (k + 1) (by omega) h _ _ (fun j hj => ?_) (fun j hj => ?_) K
      · by_cases z : j = k
        · rw [z, va_up_self]
        · rw [va_up_ne _ _ z]; exact h1 j (by omega)
      · by_cases z : j = k
        · rw [z, va_up_self]
        · rw [va_up_ne _ _ z]; exact h2 j (by omega)
  refine jx (pc' := 4) (L' := [_, _, _]) (st' := [.int (zI 130), _]) 2 rfl ?_
  refine jp_sp (pc' := 7) 130 K (by first | rfl | (congr 1; omega)) rfl rfl rfl rfl fun h K => ?_
  refine jx (pc' := 9) (L' := [_, _, _]) (st' := []) 2 rfl ?_
  try simp (disch := omega) only [kz, kzl0, kzl1, kzb, kzs, zI_add, zI_sub, zI_neg, zI_mul, zL_i, zI_l, zL_add, zL_sub, zL_neg]
  exact loop 130 0 (by omega) h rs pt (fun j hj => by omega) (fun j hj => by omega) K
end REF
