/-! ===== the reference: twice, turn, remain ===== -/
section REF
variable {h : ix_H} {Q : ix_O → ix_H → Prop} {S0 : Nat → AC} {R : Nat → Dm} {V cd dr ra si tr : Nat} {mo ng : Bool} {sp sz wr : Nat} {il : Bool} {rs pt rl wo tx ou : Nat → Nat} {j x : Int} {r f s m a : Nat} {b t : Bool}
theorem m_twice (K : (RI S0 h R V cd dr ra si tr mo ng sp sz wr il rs pt rl wo tx ou)) (hsp : sp ≤ 130) (hr : ∀ j, j < sp → rs j < 10) (hp : ∀ j, j < sp → pt j < 10) (h2 : 2 * v10 rs sp < 10 ^ sp) (q : ∀ h' rl' (w : Int), -9 ≤ w ∧ w ≤ 9 → (0 < w ↔ v10 pt sp < 2 * v10 rs sp) → (w = 0 ↔ v10 pt sp = 2 * v10 rs sp) → (RI S0 h' R V cd dr ra si tr mo ng sp sz wr il rs pt (rl') wo tx ou) → Q (.inl (some (.int (zI w)))) h') : ix_M 228 [.ref 98] h Q := by
  have cmp : ∀ (g : Nat → Nat) (h : ix_H), (RI S0 h R V cd dr ra si tr mo ng sp sz wr il rs pt (g) wo tx ou) → (∀ j, j < sp → g j < 10) → v10 g sp = 2 * v10 rs sp → ∀ n : Nat, n ≤ sp → (∀ j, n ≤ j → j < sp → g j = pt j) → ∀ (c1 : Int) (l3 : Option Value), ix_E 228 51 [some (.ref 98), some (.int (zI c1)), some (.int (zI ((n : Int) - 1))), l3] [] h Q := by
    intro g h K hg eg n
    induction n with
    | zero =>
      intro hn he c1 l3
      have e := v10_cg (f := g) (g := pt) (n := sp) fun j hj => he j (by omega) hj
      refine jx (pc' := 52) (L' := [_, _, _, _]) (st' := [_]) 1 rfl ?_
      refine jit (pc' := 90) rfl rfl rfl (by rw [zz_lt ⟨by omega, by omega⟩]; exact decide_eq_true (by omega)) ?_
      refine jx (pc' := 91) (L' := [_, _, _, _]) (st' := [.int (zI 0)]) 1 rfl ?_
      refine jri rfl rfl ?_
      exact q _ g 0 (by omega) (by omega) (by omega) K
    | succ n ih =>
      intro hn he c1 l3
      have h1 := hg n (by omega)
      have h2 := hp n (by omega)
      refine jx (pc' := 52) (L' := [_, _, _, _]) (st' := [_]) 1 rfl ?_
      refine jin (pc' := 55) 90 rfl rfl rfl rfl (by rw [zz_lt ⟨by omega, by omega⟩]; exact decide_eq_false (by omega)) ?_
      refine jx (pc' := 56) (L' := [_, _, _, _]) (st' := [_]) 1 rfl ?_
      refine jgf (pc' := 59) K.ob rfl rfl rfl rfl rfl ?_
      refine jx (pc' := 60) (L' := [_, _, _, _]) (st' := [_, _]) 1 rfl ?_
      refine jR_u (pc' := 61) n K rfl rfl (by omega) (by omega)  rfl ?_
      refine jx (pc' := 62) (L' := [_, _, _, _]) (st' := [_, _]) 1 rfl ?_
      refine jgf (pc' := 65) K.ob rfl rfl rfl rfl rfl ?_
      refine jx (pc' := 66) (L' := [_, _, _, _]) (st' := [_, _, _]) 1 rfl ?_
      refine jR_t (pc' := 67) n K rfl rfl (by omega) (by omega)  rfl ?_
      by_cases h0 : g n = pt n
      · skip
        refine jct (pc' := 84) rfl rfl rfl (by rw [zc_eq ⟨by omega, by omega⟩ ⟨by omega, by omega⟩]; exact decide_eq_true (by omega)) ?_
        refine jx (pc' := 51) (L' := [_, _, _, _]) (st' := []) 2 rfl ?_
        try simp (disch := omega) only [kz, kzl0, kzl1, kzb, kzs, zI_add, zI_sub, zI_neg, zI_mul, zL_i, zI_l, zL_add, zL_sub, zL_neg]
        rw [show ((n + 1 : Nat) : Int) - 1 + -1 = (n : Int) - 1 by omega]
        refine ih (by omega) (fun j h1 h2 => ?_) _ _
        by_cases e : j = n
        · rw [e]; exact h0
        · exact he j (by omega) h2
      · have e := v10_t (f := g) (g := pt) (k := n + 1) (n := sp) hn he
        have l1 := v10_lt (f := g) (n := n) fun j hj => hg j (by omega)
        have l2 := v10_lt (f := pt) (n := n) fun j hj => hp j (by omega)
        rw [v10_s, v10_s] at e
        refine jcn (pc' := 70) 84 rfl rfl rfl rfl (by rw [zc_eq ⟨by omega, by omega⟩ ⟨by omega, by omega⟩]; exact decide_eq_false (by omega)) ?_
        refine jx (pc' := 71) (L' := [_, _, _, _]) (st' := [_]) 1 rfl ?_
        refine jgf (pc' := 74) K.ob rfl rfl rfl rfl rfl ?_
        refine jx (pc' := 75) (L' := [_, _, _, _]) (st' := [_, _]) 1 rfl ?_
        refine jR_u (pc' := 76) n K rfl rfl (by omega) (by omega)  rfl ?_
        refine jx (pc' := 77) (L' := [_, _, _, _]) (st' := [_, _]) 1 rfl ?_
        refine jgf (pc' := 80) K.ob rfl rfl rfl rfl rfl ?_
        refine jx (pc' := 81) (L' := [_, _, _, _]) (st' := [_, _, _]) 1 rfl ?_
        refine jR_t (pc' := 82) n K rfl rfl (by omega) (by omega)  rfl ?_
        refine jx (pc' := 83) (L' := [_, _, _, _]) (st' := [_]) 1 rfl ?_
        try simp (disch := omega) only [kz, kzl0, kzl1, kzb, kzs, zI_add, zI_sub, zI_neg, zI_mul, zL_i, zI_l, zL_add, zL_sub, zL_neg]
        refine jri rfl rfl ?_
        by_cases h3 : g n < pt n
        · have : (g n + 1) * 10 ^ n ≤ pt n * 10 ^ n := Nat.mul_le_mul_right _ h3
          rw [Nat.add_mul, Nat.one_mul] at this
          exact q _ g _ (by omega) (by omega) (by omega) K
        · have : (pt n + 1) * 10 ^ n ≤ g n * 10 ^ n := Nat.mul_le_mul_right _ (by omega)
          rw [Nat.add_mul, Nat.one_mul] at this
          exact q _ g _ (by omega) (by omega) (by omega) K
  have loop : ∀ n k : Nat, k + n = sp → ∀ (h1 : ix_H) (g : Nat → Nat) (ca : Nat) (l3 : Option Value), ca ≤ 1 → (∀ j, j < k → g j < 10) → v10 g k + ca * 10 ^ k = 2 * v10 rs k → (RI S0 h1 R V cd dr ra si tr mo ng sp sz wr il rs pt (g) wo tx ou) → ix_E 228 4 [some (.ref 98), some (.int (zI (ca : Int))), some (.int (zI (k : Int))), l3] [] h1 Q := by
    intro n
    induction n with
    | zero =>
      intro k hk h g ca l3 hca hg e K
      obtain rfl : k = sp := by omega
      have hca0 : ca = 0 := by
        rcases (show ca = 0 ∨ ca = 1 by omega) with z | z
        · exact z
        · rw [z] at e; omega
      rw [hca0, Nat.zero_mul, Nat.add_zero] at e
      refine jx (pc' := 6) (L' := [_, _, _, _]) (st' := [_, _]) 2 rfl ?_
      refine jgf (pc' := 9) K.ob rfl rfl rfl rfl rfl ?_
      refine jct (pc' := 44) rfl rfl rfl (by rw [zc_ge ⟨by omega, by omega⟩ ⟨by omega, by omega⟩]; exact decide_eq_true (by omega)) ?_
      refine jx (pc' := 45) (L' := [_, _, _, _]) (st' := [_]) 1 rfl ?_
      refine jgf (pc' := 48) K.ob rfl rfl rfl rfl rfl ?_
      refine jx (pc' := 51) (L' := [_, _, _, _]) (st' := []) 3 rfl ?_
      try simp (disch := omega) only [kz, kzl0, kzl1, kzb, kzs, zI_add, zI_sub, zI_neg, zI_mul, zL_i, zI_l, zL_add, zL_sub, zL_neg]
      exact cmp g h K hg e k (Nat.le_refl _) (fun j h1 h2 => by omega) _ _
    | succ n ih =>
      intro k hk h g ca l3 hca hg e K
      have h1 := hr k (by omega)
      refine jx (pc' := 6) (L' := [_, _, _, _]) (st' := [_, _]) 2 rfl ?_
      refine jgf (pc' := 9) K.ob rfl rfl rfl rfl rfl ?_
      refine jcn (pc' := 12) 44 rfl rfl rfl rfl (by rw [zc_ge ⟨by omega, by omega⟩ ⟨by omega, by omega⟩]; exact decide_eq_false (by omega)) ?_
      refine jx (pc' := 14) (L' := [_, _, _, _]) (st' := [_, .int (zI 2)]) 2 rfl ?_
      refine jgf (pc' := 17) K.ob rfl rfl rfl rfl rfl ?_
      refine jx (pc' := 18) (L' := [_, _, _, _]) (st' := [_, _, .int (zI 2)]) 1 rfl ?_
      refine jR_e (pc' := 19) k K rfl rfl (by omega) (by omega)  rfl ?_
      refine jx (pc' := 23) (L' := [_, _, _, _]) (st' := []) 4 rfl ?_
      try simp (disch := omega) only [kz, kzl0, kzl1, kzb, kzs, zI_add, zI_sub, zI_neg, zI_mul, zL_i, zI_l, zL_add, zL_sub, zL_neg]
      rw [show (2 : Int) * (rs k : Int) + (ca : Int) = ((2 * rs k + ca : Nat) : Int) by push_cast; rfl]
      generalize hv : 2 * rs k + ca = v at *
      refine jx (pc' := 24) (L' := [_, _, _, _]) (st' := [_]) 1 rfl ?_
      refine jgf (pc' := 27) K.ob rfl rfl rfl rfl rfl ?_
      refine jx (pc' := 31) (L' := [_, _, _, _]) (st' := [.int (zI 10), _, _, _]) 3 rfl ?_
      refine jirem (pc' := 32) rfl rfl (by decide) rfl ?_
      rw [zrem ⟨by omega, by omega⟩ ⟨by omega, by omega⟩]
      refine jW_u (pc' := 33) k ((v%10)) K (by first | rfl | (congr 1; omega)) rfl rfl (by omega) (by omega)  rfl  fun h K => ?_
      refine jx (pc' := 36) (L' := [_, _, _, _]) (st' := [.int (zI 10), _]) 2 rfl ?_
      refine jidiv (pc' := 37) rfl rfl (by decide) rfl ?_
      rw [zdiv ⟨by omega, by omega⟩ ⟨by omega, by omega⟩]
      refine jx (pc' := 4) (L' := [_, _, _, _]) (st' := []) 3 rfl ?_
      try simp (disch := omega) only [kz, kzl0, kzl1, kzb, kzs, zI_add, zI_sub, zI_neg, zI_mul, zL_i, zI_l, zL_add, zL_sub, zL_neg]
      rw [show (k : Int) + 1 = ((k + 1 : Nat) : Int) by omega, show (v : Int) / 10 = ((v / 10 : Nat) : Int) by omega]
      refine ih (k + 1) (by omega) h _ (v / 10) _ (by omega) (fun j hj => ?_) ?_ K
      · by_cases z : j = k
        · rw [z, va_up_self]; omega
        · rw [va_up_ne _ _ z]; exact hg j (by omega)
      · rw [v10_us, v10_s, Nat.pow_succ, Nat.mul_add, ← e]
        have h3 : v = 10 * (v / 10) + v % 10 := by omega
        have h4 : (2 * rs k + ca) * 10 ^ k = 10 * (v / 10) * 10 ^ k + v % 10 * 10 ^ k := by rw [hv, ← Nat.add_mul, ← h3]
        rw [Nat.add_mul] at h4
        have h5 : v / 10 * (10 ^ k * 10) = 10 * (v / 10) * 10 ^ k := by rw [Nat.mul_comm (10 ^ k) 10, ← Nat.mul_assoc, Nat.mul_comm (v / 10) 10]
        have h6 : 2 * (rs k * 10 ^ k) = 2 * rs k * 10 ^ k := by rw [Nat.mul_assoc]
        rw [h5, h6]
        omega
  refine jx (pc' := 4) (L' := [_, _, _, _]) (st' := []) 4 rfl ?_
  try simp (disch := omega) only [kz, kzl0, kzl1, kzb, kzs, zI_add, zI_sub, zI_neg, zI_mul, zL_i, zI_l, zL_add, zL_sub, zL_neg]
  exact loop sp 0 (by omega) h rl 0 _ (by omega) (fun j hj => by omega) (by rw [v10_0, v10_0]) K
theorem m_turn (K : (RI S0 h R V cd dr ra si tr mo ng sp sz wr il rs pt rl wo tx ou)) (hsp : sp ≤ 130) (hr : ∀ j, j < sp → rs j < 10) (hp : ∀ j, j < sp → pt j < 10) (hle : v10 rs sp ≤ v10 pt sp) (q : ∀ h' rs', (∀ j, j < sp → rs' j < 10) → v10 rs' sp = v10 pt sp - v10 rs sp → (RI S0 h' R V cd dr ra si tr mo ng sp sz wr il (rs') pt rl wo tx ou) → Q (.inl none) h') : ix_M 229 [.ref 98] h Q := by
  have loop : ∀ n k : Nat, k + n = sp → ∀ (h1 : ix_H) (f' : Nat → Nat) (ca : Int) (l3 : Option Value), (-1 ≤ ca ∧ ca ≤ 0) → (∀ j, j < sp → f' j < 10) → (∀ j, k ≤ j → f' j = rs j) → (v10 f' k : Int) + ca * (10 ^ k : Nat) = v10 pt k - v10 rs k → (RI S0 h1 R V cd dr ra si tr mo ng sp sz wr il (f') pt rl wo tx ou) → ix_E 229 4 [some (.ref 98), some (.int (zI ca)), some (.int (zI (k : Int))), l3] [] h1 Q := by
    intro n
    induction n with
    | zero =>
      intro k hk h f' ca l3 hca hf hj e K
      obtain rfl : k = sp := by omega
      refine jx (pc' := 6) (L' := [_, _, _, _]) (st' := [_, _]) 2 rfl ?_
      refine jgf (pc' := 9) K.ob rfl rfl rfl rfl rfl ?_
      refine jct (pc' := 57) rfl rfl rfl (by rw [zc_ge ⟨by omega, by omega⟩ ⟨by omega, by omega⟩]; exact decide_eq_true (by omega)) ?_
      refine ix_qr _ rfl rfl rfl ?_
      have l1 := v10_lt hf
      have hc0 : ca = 0 := by
        rcases (show ca = -1 ∨ ca = 0 by omega) with z | z
        · rw [z] at e; omega
        · exact z
      rw [hc0] at e
      exact q _ f' hf (by omega) K
    | succ n ih =>
      intro k hk h f' ca l3 hca hf hj e K
      have h1 := hr k (by omega)
      have h2 := hp k (by omega)
      refine jx (pc' := 6) (L' := [_, _, _, _]) (st' := [_, _]) 2 rfl ?_
      refine jgf (pc' := 9) K.ob rfl rfl rfl rfl rfl ?_
      refine jcn (pc' := 12) 57 rfl rfl rfl rfl (by rw [zc_ge ⟨by omega, by omega⟩ ⟨by omega, by omega⟩]; exact decide_eq_false (by omega)) ?_
      refine jx (pc' := 13) (L' := [_, _, _, _]) (st' := [_]) 1 rfl ?_
      refine jgf (pc' := 16) K.ob rfl rfl rfl rfl rfl ?_
      refine jx (pc' := 17) (L' := [_, _, _, _]) (st' := [_, _]) 1 rfl ?_
      refine jR_t (pc' := 18) k K rfl rfl (by omega) (by omega)  rfl ?_
      refine jx (pc' := 19) (L' := [_, _, _, _]) (st' := [_, _]) 1 rfl ?_
      refine jgf (pc' := 22) K.ob rfl rfl rfl rfl rfl ?_
      refine jx (pc' := 23) (L' := [_, _, _, _]) (st' := [_, _, _]) 1 rfl ?_
      refine jR_e (pc' := 24) k K rfl rfl (by omega) (by omega)  rfl ?_
      rw [hj k (Nat.le_refl k)]
      refine jx (pc' := 28) (L' := [_, _, _, _]) (st' := []) 4 rfl ?_
      try simp (disch := omega) only [kz, kzl0, kzl1, kzb, kzs, zI_add, zI_sub, zI_neg, zI_mul, zL_i, zI_l, zL_add, zL_sub, zL_neg]
      generalize hv : (pt k : Int) - (rs k : Int) + ca = v at *
      refine jx (pc' := 29) (L' := [_, _, _, _]) (st' := [_]) 1 rfl ?_
      refine jgf (pc' := 32) K.ob rfl rfl rfl rfl rfl ?_
      refine jx (pc' := 39) (L' := [_, _, _, _]) (st' := [.int (zI 10), _, _, _]) 5 rfl ?_
      try simp (disch := omega) only [kz, kzl0, kzl1, kzb, kzs, zI_add, zI_sub, zI_neg, zI_mul, zL_i, zI_l, zL_add, zL_sub, zL_neg]
      refine jirem (pc' := 40) rfl rfl (by decide) rfl ?_
      rw [zrem ⟨by omega, by omega⟩ ⟨by omega, by omega⟩]
      refine jW_e (pc' := 41) k (((v+10)%10).toNat) K (by first | rfl | (congr 1; omega)) rfl rfl (by omega) (by omega)  rfl  fun h K => ?_
      refine jx (pc' := 42) (L' := [_, _, _, _]) (st' := [_]) 1 rfl ?_
      have fin : ∀ ca' : Int, (-1 ≤ ca' ∧ ca' ≤ 0) → ((((v + 10) % 10).toNat : Nat) : Int) + 10 * ca' = v → ix_E 229 4 [some (.ref 98), some (.int (zI ca')), some (.int (zI ((k + 1 : Nat) : Int))), some (.int (zI v))] [] h Q := fun ca' hc' hy => by
        refine ih (k + 1) (by omega) h _ ca' _ hc' (fun j hjj => ?_) (fun j hjj => ?_) (ls_s e (by rw [hy, ← hv])) K
        · by_cases z : j = k
          · rw [z, va_up_self]; omega
          · rw [va_up_ne _ _ z]; exact hf j hjj
        · rw [va_up_ne _ _ (by omega)]; exact hj j (by omega)
      by_cases h0 : v < 0
      · skip
        refine jin (pc' := 45) 49 rfl rfl rfl rfl (by rw [zz_ge ⟨by omega, by omega⟩]; exact decide_eq_false (by omega)) ?_
        refine jx (pc' := 4) (L' := [_, _, _, _]) (st' := []) 5 rfl ?_
        try simp (disch := omega) only [kz, kzl0, kzl1, kzb, kzs, zI_add, zI_sub, zI_neg, zI_mul, zL_i, zI_l, zL_add, zL_sub, zL_neg]
        rw [show (k : Int) + 1 = ((k + 1 : Nat) : Int) by omega]
        exact fin (-1) (by omega) (by omega)
      · skip
        refine jit (pc' := 49) rfl rfl rfl (by rw [zz_ge ⟨by omega, by omega⟩]; exact decide_eq_true (by omega)) ?_
        refine jx (pc' := 4) (L' := [_, _, _, _]) (st' := []) 4 rfl ?_
        try simp (disch := omega) only [kz, kzl0, kzl1, kzb, kzs, zI_add, zI_sub, zI_neg, zI_mul, zL_i, zI_l, zL_add, zL_sub, zL_neg]
        rw [show (k : Int) + 1 = ((k + 1 : Nat) : Int) by omega]
        exact fin 0 (by omega) (by omega)
  refine jx (pc' := 4) (L' := [_, _, _, _]) (st' := []) 4 rfl ?_
  try simp (disch := omega) only [kz, kzl0, kzl1, kzb, kzs, zI_add, zI_sub, zI_neg, zI_mul, zL_i, zI_l, zL_add, zL_sub, zL_neg]
  exact loop sp 0 (by omega) h rs 0 _ ⟨by omega, by omega⟩ hr (fun _ _ => rfl) (by rw [v10_0, v10_0]; simp) K
end REF
