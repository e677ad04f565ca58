/-! ===== BitPattern: decode ===== -/
section BIT
variable {h : ix_H} {Q : ix_O → ix_H → Prop} {S : Nat → AC} {W : Nat → Int32} {f top most w r fm so co : Nat} {ng : Bool} {ex : Int}
theorem v_decode (I : Inv h S) (K : S 61 = aC bpC) (WW : S 62 = aC (cI 0 4 W)) (WK : S 63 = aN w) (D : S r = aC (dC r fm so ng ex)) (C : S (r + 1) = aN co) (hso : so < 4) (hex : zr ex) (hr : 71 ≤ r) (hf : f < 3) (q : ∀ h' S', Inv h' S' → ag [63, r, r + 1] S S' → S' r = aC (dC r f (dcR f (wd (W 0)) W).1 (decide (2147483648 ≤ wd (W 0))) (dcR f (wd (W 0)) W).2.1) → S' (r + 1) = aN (dcR f (wd (W 0)) W).2.2 → isN S' 63 → Q (.inl none) h') : ix_M 92 [.ref 61, .int (nI f), .ref r] h Q := by
  have WI := I.ia (r := 62) WW
  have hH := wd_lt (W 0)
  obtain ⟨w1, w2, w3, w4⟩ := fWb hf
  obtain ⟨f1, f2, f3, f4, _⟩ := f3b hf
  unfold dcR at q
  have tail : ∀ (ng' : Bool) (k1 : ix_H) (T : Nat → AC), ng' = decide (2147483648 ≤ wd (W 0)) → Inv k1 T → T 61 = aC bpC → T 62 = aC (cI 0 4 W) → T 63 = aN w → ag [63, r, r + 1] S T → T r = aC (dC r f so ng' ex) → T (r + 1) = aN co → ix_E 92 32 [some (.ref 61), some (.int (nI f)), some (.ref r), some (.int (W 0)), some (.int (nI (fW f)))] [] k1 Q := by
    intro ng' k1 T hng I K WW WK g D C
    rw [← hng] at q
    refine jx (pc' := 36) (L' := [_, _, _, _, _]) (st' := [_]) 3 rfl ?_
    try simp (disch := omega) only [kl2013265920, nI_add, nI_mul, nI_sub, Nat.zero_mul, Nat.one_mul, Nat.sub_zero, Nat.add_zero, Nat.zero_add, Nat.add_sub_cancel]
    rw [show nI 2013265920 = nI ((2 ^ 4 - 1) * 2 ^ 27) from rfl, mskm]
    generalize hx : wd (W 0) = H at *
    refine jx (pc' := 38) (L' := [_, _, _, _, _]) (st' := [_, _]) 1 rfl ?_
    try simp (disch := omega) only [kl2013265920, nI_add, nI_mul, nI_sub, Nat.zero_mul, Nat.one_mul, Nat.sub_zero, Nat.add_zero, Nat.zero_add, Nat.add_sub_cancel]
    by_cases e1 : H / 2 ^ 27 % 2 ^ 4 = 15
    · simp only [if_pos e1] at q
      refine jcn (pc' := 41) 50 rfl rfl rfl rfl (by rw [cc_ne (by omega) (by omega)]; exact decide_eq_false (by omega)) ?_
      refine jx (pc' := 44) (L' := [_, _, _, _, _]) (st' := [_, _, _]) 3 rfl ?_
      refine jcv (pc' := 47) 93 [_, _] [] (I.ob (r := 61) K) rfl rfl rfl rfl rfl rfl rfl rfl ?_
      refine v_decodeSpecial I K WW WK D C hf hso hex hr hf fun k2 T2 I g2 D2 C2 n2 => jk ?_
      refine jx (pc' := 161) (L' := [_, _, _, _, _]) (st' := []) 1 rfl ?_
      refine ix_qr _ rfl rfl rfl ?_
      rw [hx] at D2 C2
      exact q _ _ I (g.tr g2 (fun _ z => z)) D2 C2 n2
    · simp only [if_neg e1] at q
      refine jct (pc' := 50) rfl rfl rfl (by rw [cc_ne (by omega) (by omega)]; exact decide_eq_true (by omega)) ?_
      refine jx (pc' := 56) (L' := [_, _, _, _, _]) (st' := [_]) 5 rfl ?_
      try simp (disch := omega) only [kb29, ki3, nI_add, nI_mul, nI_sub, Nat.zero_mul, Nat.one_mul, Nat.sub_zero, Nat.add_zero, Nat.zero_add, Nat.add_sub_cancel]
      rw [nI_shr (W 0) (by decide), hx, show nI 3 = nI (2 ^ 2 - 1) from rfl, nI_and, and_low]
      refine jx (pc' := 57) (L' := [_, _, _, _, _]) (st' := [.int (nI 3), _]) 1 rfl ?_
      have D3 : ∀ j : AC, va_up T 63 j r = aC (dC r f so ng' ex) := fun j => by rw [va_up_ne _ _ (by omega)]; exact D
      have C3 : ∀ j : AC, va_up T 63 j (r + 1) = aN co := fun j => by rw [va_up_ne _ _ (by omega)]; exact C
      by_cases e2 : H / 2 ^ 29 % 2 ^ 2 = 3
      · have nh : ¬ ¬ H / 2 ^ 29 % 2 ^ 2 = 3 := fun z => z e2
        simp only [if_neg nh] at q
        refine jct (pc' := 108) rfl rfl rfl (by rw [cc_eq (by omega) (by omega)]; exact decide_eq_true (by omega)) ?_
        refine jx (pc' := 117) (L' := [_, _, _, _, _]) (st' := [_, _, _]) 7 rfl ?_
        try simp (disch := omega) only [kb29, ki4, nI_add, nI_mul, nI_sub, Nat.zero_mul, Nat.one_mul, Nat.sub_zero, Nat.add_zero, Nat.zero_add, Nat.add_sub_cancel]
        rw [nI_shl 4 (by omega)]
        refine jx (pc' := 123) (L' := [_, _, _, _, _]) (st' := [_, _, _, _, _]) 4 rfl ?_
        try simp (disch := omega) only [kb29, nI_add, nI_mul, nI_sub, Nat.zero_mul, Nat.one_mul, Nat.sub_zero, Nat.add_zero, Nat.zero_add, Nat.add_sub_cancel]
        refine jcs (pc' := 126) 90 [_, _] [_, _, _] rfl rfl rfl rfl rfl rfl rfl rfl ?_
        refine c_lowBits (by omega) (jk ?_)
        rw [hx]
        refine jx (pc' := 127) (L' := [_, _, _, _, _]) (st' := [_, _, _]) 1 rfl ?_
        try simp (disch := omega) only [nI_add, nI_mul, nI_sub, Nat.zero_mul, Nat.one_mul, Nat.sub_zero, Nat.add_zero, Nat.zero_add, Nat.add_sub_cancel]
        have hml0 : H % 2 ^ (29 - fW f) < 2 ^ (29 - fW f) := Nat.mod_lt _ (Nat.pow_pos (by decide))
        have hpw : 2 ^ (29 - fW f) ≤ 2 ^ 21 := Nat.pow_le_pow_right (by decide) (by omega)
        rw [nI_or, nat_or_add hml0]
        refine jx (pc' := 131) (L' := [_, _, _, _, _]) (st' := [_, _, _, _, _]) 2 rfl ?_
        refine jat (pc' := 132) I.tab rfl rfl ⟨by decide, hf⟩ rfl ?_
        rw [tv1n hf]
        refine jcv (pc' := 135) 94 [_, _, _] [] (I.ob (r := 61) K) rfl rfl rfl rfl rfl rfl rfl rfl ?_
        refine v_joinWords I K WW WK hf (by omega) (by omega) fun k2 I => jk ?_
        refine jx (pc' := 137) (L' := [_, _, _, _, _]) (st' := [_, _]) 2 rfl ?_
        refine jgf (pc' := 140) (I.ob (r := 61) K) rfl rfl rfl rfl rfl ?_
        refine jx (pc' := 147) (L' := [_, _, _, _, _]) (st' := [_, _, _]) 5 rfl ?_
        try simp (disch := omega) only [kb29, nI_add, nI_mul, nI_sub, Nat.zero_mul, Nat.one_mul, Nat.sub_zero, Nat.add_zero, Nat.zero_add, Nat.add_sub_cancel]
        rw [nI_shr (W 0) (by omega), hx]
        refine jx (pc' := 149) (L' := [_, _, _, _, _]) (st' := [_, _, _, _]) 1 rfl ?_
        have hdl : H / 2 ^ (29 - fW f) < 4294967296 := Nat.lt_of_le_of_lt (Nat.div_le_self _ _) hH
        refine jcs (pc' := 152) 90 [_, _] [_, _] rfl rfl rfl rfl rfl rfl rfl rfl ?_
        refine c_lowBits (by omega) (jk ?_)
        rw [wd_n hdl]
        refine jx (pc' := 156) (L' := [_, _, _, _, _]) (st' := [_, _, _, _, _]) 2 rfl ?_
        refine jat (pc' := 157) I.tab rfl rfl ⟨by decide, hf⟩ rfl ?_
        rw [tv2 hf]
        refine jx (pc' := 158) (L' := [_, _, _, _, _]) (st' := [_, _, _]) 1 rfl ?_
        try simp (disch := omega) only [nI_add, nI_mul, nI_sub, Nat.zero_mul, Nat.one_mul, Nat.sub_zero, Nat.add_zero, Nat.zero_add, Nat.add_sub_cancel]
        rw [nz (H / 2 ^ (29 - fW f) % 2 ^ fW f), zI_sub]
        refine jcv (pc' := 161) 84 [_, _] [] (I.ob (r := r) (D3 _)) rfl rfl rfl rfl rfl rfl rfl rfl ?_
        refine v_setFinite (b := 63) I (D3 _) (C3 _) (va_up_self _ _ _) hf hso hex (by omega) fun k4 I => jk ?_
        refine ix_qr _ rfl rfl rfl ?_
        refine q _ _ I (((g.up (by simp)).up (by simp)).up (by simp)) ?_ (va_up_self _ _ _) ⟨jc f (4 * 2 ^ (29 - fW f) + H % 2 ^ (29 - fW f)) W (fD f), ?_⟩
        · rw [va_up_ne _ _ (by omega), va_up_self]
        · rw [va_up_ne _ _ (by omega), va_up_ne _ _ (by omega), va_up_self]
      · simp only [if_pos e2] at q
        refine jcn (pc' := 60) 108 rfl rfl rfl rfl (by rw [cc_eq (by omega) (by omega)]; exact decide_eq_false (by omega)) ?_
        refine jx (pc' := 68) (L' := [_, _, _, _, _]) (st' := [_, _, _, _]) 6 rfl ?_
        try simp (disch := omega) only [kb31, nI_add, nI_mul, nI_sub, Nat.zero_mul, Nat.one_mul, Nat.sub_zero, Nat.add_zero, Nat.zero_add, Nat.add_sub_cancel]
        refine jcs (pc' := 71) 90 [_, _] [_, _] rfl rfl rfl rfl rfl rfl rfl rfl ?_
        refine c_lowBits (by omega) (jk ?_)
        rw [hx]
        refine jx (pc' := 75) (L' := [_, _, _, _, _]) (st' := [_, _, _, _, _]) 2 rfl ?_
        refine jat (pc' := 76) I.tab rfl rfl ⟨by decide, hf⟩ rfl ?_
        rw [tv1n hf]
        refine jcv (pc' := 79) 94 [_, _, _] [] (I.ob (r := 61) K) rfl rfl rfl rfl rfl rfl rfl rfl ?_
        have hml : H % 2 ^ (31 - fW f) < 4294967296 := Nat.lt_of_le_of_lt (Nat.mod_le _ _) hH
        refine v_joinWords I K WW WK hf hml (by omega) fun k2 I => jk ?_
        refine jx (pc' := 81) (L' := [_, _, _, _, _]) (st' := [_, _]) 2 rfl ?_
        refine jgf (pc' := 84) (I.ob (r := 61) K) rfl rfl rfl rfl rfl ?_
        refine jx (pc' := 91) (L' := [_, _, _, _, _]) (st' := [_, _, _]) 5 rfl ?_
        try simp (disch := omega) only [kb31, nI_add, nI_mul, nI_sub, Nat.zero_mul, Nat.one_mul, Nat.sub_zero, Nat.add_zero, Nat.zero_add, Nat.add_sub_cancel]
        rw [nI_shr (W 0) (by omega), hx]
        refine jx (pc' := 93) (L' := [_, _, _, _, _]) (st' := [_, _, _, _]) 1 rfl ?_
        have hdl : H / 2 ^ (31 - fW f) < 4294967296 := Nat.lt_of_le_of_lt (Nat.div_le_self _ _) hH
        refine jcs (pc' := 96) 90 [_, _] [_, _] rfl rfl rfl rfl rfl rfl rfl rfl ?_
        refine c_lowBits (by omega) (jk ?_)
        rw [wd_n hdl]
        refine jx (pc' := 100) (L' := [_, _, _, _, _]) (st' := [_, _, _, _, _]) 2 rfl ?_
        refine jat (pc' := 101) I.tab rfl rfl ⟨by decide, hf⟩ rfl ?_
        rw [tv2 hf]
        refine jx (pc' := 102) (L' := [_, _, _, _, _]) (st' := [_, _, _]) 1 rfl ?_
        try simp (disch := omega) only [nI_add, nI_mul, nI_sub, Nat.zero_mul, Nat.one_mul, Nat.sub_zero, Nat.add_zero, Nat.zero_add, Nat.add_sub_cancel]
        rw [nz (H / 2 ^ (31 - fW f) % 2 ^ fW f), zI_sub]
        refine jcv (pc' := 105) 84 [_, _] [] (I.ob (r := r) (D3 _)) rfl rfl rfl rfl rfl rfl rfl rfl ?_
        refine v_setFinite (b := 63) I (D3 _) (C3 _) (va_up_self _ _ _) hf hso hex (by omega) fun k4 I => jk ?_
        refine jx (pc' := 161) (L' := [_, _, _, _, _]) (st' := []) 1 rfl ?_
        refine ix_qr _ rfl rfl rfl ?_
        refine q _ _ I (((g.up (by simp)).up (by simp)).up (by simp)) ?_ (va_up_self _ _ _) ⟨jc f (H % 2 ^ (31 - fW f)) W (fD f), ?_⟩
        · rw [va_up_ne _ _ (by omega), va_up_self]
        · rw [va_up_ne _ _ (by omega), va_up_ne _ _ (by omega), va_up_self]
  have WIt := WI
  refine jx (pc' := 1) (L' := [_, _, _, _, _]) (st' := [_]) 1 rfl ?_
  refine jgf (pc' := 4) (I.ob (r := 61) K) rfl rfl rfl rfl rfl ?_
  refine jx (pc' := 5) (L' := [_, _, _, _, _]) (st' := [.int (nI 0), _]) 1 rfl ?_
  refine jal (pc' := 6) WI rfl rfl (by omega) rfl ?_
  refine jx (pc' := 11) (L' := [_, _, _, _, _]) (st' := [_, _]) 3 rfl ?_
  refine jat (pc' := 12) I.tab rfl rfl ⟨by decide, hf⟩ rfl ?_
  rw [tv5 hf]
  refine jx (pc' := 16) (L' := [_, _, _, _, _]) (st' := [_, _]) 3 rfl ?_
  refine jpA (pc' := 19) (r := r) I D rfl rfl rfl (Nat.le_of_ble_eq_true rfl) (by intro z; cases z) rfl rfl rfl fun _ I D => ?_
  rename_i k0
  change Inv k0 (va_up S r (aC (dC r f so ng ex))) at I
  have L1 : ∀ (x : AC) (j : Nat), j ≠ r → va_up S r x j = S j := fun x j h1 => va_up_ne _ _ h1
  have D1 : va_up S r (aC (dC r f so ng ex)) r = aC (dC r f so ng ex) := va_up_self _ _ _
  refine jx (pc' := 21) (L' := [_, _, _, _, _]) (st' := [_, _]) 2 rfl ?_
  have hcc : ix_cc .ge (W 0) 0 = decide (¬ 2147483648 ≤ wd (W 0)) := by
    have := wd_neg (W 0)
    simp only [ix_cc, Int32.le_iff_toInt_le, show (0 : Int32).toInt = 0 from rfl]
    congr 1
    exact propext (by omega)
  have fin : ∀ ng' : Bool, ng' = decide (2147483648 ≤ wd (W 0)) → ix_E 92 29 [some (.ref 61), some (.int (nI f)), some (.ref r), some (.int (W 0)), some (.int (nI (fW f)))] [.int (bI ng'), .ref r] k0 Q := by
    intro ng' hng
    refine jpA (pc' := 32) (r := r) I D1 rfl rfl rfl (Nat.le_of_ble_eq_true rfl) (by intro z; cases z) (nb _) (fb _) rfl fun _ I D1 => ?_
    rename_i k1
    rw [va_up_up] at I
    exact tail ng' k1 _ hng I ((L1 _ 61 (by omega)).trans K) ((L1 _ 62 (by omega)).trans WW) ((L1 _ 63 (by omega)).trans WK) ((ag_0 _ S).up (by simp)) (va_up_self _ _ _) (by rw [va_up_ne _ _ (by omega)]; exact C)
  by_cases e : 2147483648 ≤ wd (W 0)
  · skip
    refine jin (pc' := 24) 28 rfl rfl rfl rfl (by rw [hcc]; exact decide_eq_false (fun z => z e)) ?_
    refine jx (pc' := 29) (L' := [_, _, _, _, _]) (st' := [.int (nI 1), _]) 2 rfl ?_
    exact fin true (decide_eq_true e).symm
  · skip
    refine jit (pc' := 28) rfl rfl rfl (by rw [hcc]; exact decide_eq_true e) ?_
    refine jx (pc' := 29) (L' := [_, _, _, _, _]) (st' := [.int (nI 0), _]) 1 rfl ?_
    exact fin false (decide_eq_false e).symm
end BIT
