/-! ===== the reference: writing texts ===== -/
def Ot (wr : Nat) (ou : Nat → Nat) (l : List Nat) : Prop := wr = l.length ∧ ∀ j, j < l.length → ou j = l.getD j 0
theorem Ot_s {wr : Nat} {ou : Nat → Nat} {l : List Nat} (O : Ot wr ou l) (c : Nat) : Ot (wr + 1) (va_up ou wr c) (l ++ [c]) := by
  obtain ⟨o1, o2⟩ := O
  subst o1
  refine ⟨by rw [List.length_append]; rfl, fun j hj => ?_⟩
  rw [List.length_append] at hj
  by_cases e : j = l.length
  · rw [e, va_up_self, List.getD_eq_getElem?_getD, List.getElem?_append_right (Nat.le_refl _)]
    simp
  · have hj' : j < l.length := by simp at hj; omega
    rw [va_up_ne _ _ e, o2 j hj', List.getD_eq_getElem?_getD, List.getD_eq_getElem?_getD, List.getElem?_append_left hj']
theorem by_4 : ∀ i : Nat, i < 8 → byE (zL 5291279215216915577) i = zI (byt 4 i : Nat) := by decide
theorem by_5 : ∀ i : Nat, i < 8 → byE (zL 1934516558) i = zI (byt 5 i : Nat) := by decide
theorem by_6 : ∀ i : Nat, i < 8 → byE (zL 5136718) i = zI (byt 6 i : Nat) := by decide
section REF
variable {h : ix_H} {Q : ix_O → ix_H → Prop} {S0 : Nat → AC} {R F : Nat → Dm} {V cd dr ra si tr : Nat} {mo ng : Bool} {sp sz wr : Nat} {il : Bool} {rs pt rl wo tx ou : Nat → Nat} {j x y z w a0 b0 k0 c0 : Int} {r f s m a c k n : Nat} {b t : Bool} {l : List Nat}
theorem m_print (K : (RI S0 h R V cd dr ra si tr mo ng sp sz wr il rs pt rl wo tx ou)) (O : Ot wr ou l) (hl : l.length < 64) (hc0 : c0 = (c : Int)) (q : ∀ h' wr' ou', Ot wr' ou' (l ++ [c]) → (RI S0 h' R V cd dr ra si tr mo ng sp sz (wr') il rs pt rl wo tx (ou')) → Q (.inl none) h') : ix_M 266 [.ref 98, .int (zI c0)] h Q := by
  have O' := Ot_s O c
  have hw := O.1
  refine jx (pc' := 1) (L' := [_, _]) (st' := [_]) 1 rfl ?_
  refine jgf (pc' := 4) K.ob rfl rfl rfl rfl rfl ?_
  refine jx (pc' := 5) (L' := [_, _]) (st' := [_, _]) 1 rfl ?_
  refine jgf (pc' := 8) K.ob rfl rfl rfl rfl rfl ?_
  refine jx (pc' := 9) (L' := [_, _]) (st' := [_, _, _]) 1 rfl ?_
  refine jW_o (pc' := 10) wr c K (congrArg zI hc0) rfl rfl (by omega) (by omega)  rfl  fun h K => ?_
  refine jx (pc' := 12) (L' := [_, _]) (st' := [_, _]) 2 rfl ?_
  refine jgf (pc' := 15) K.ob rfl rfl rfl rfl rfl ?_
  refine jx (pc' := 17) (L' := [_, _]) (st' := [_, _]) 2 rfl ?_
  try simp (disch := omega) only [kz, kzl0, kzl1, kzb, kzs, zI_add, zI_sub, zI_neg, zI_mul, zL_i, zI_l, zL_add, zL_sub, zL_neg]
  refine jp_wr (pc' := 20) ((wr+1)) K (by first | rfl | (congr 1; omega)) rfl rfl rfl rfl fun h K => ?_
  refine ix_qr _ rfl rfl rfl ?_
  exact q _ _ _ O' K
theorem m_addWord {L : Int64} (K : (RI S0 h R V cd dr ra si tr mo ng sp sz wr il rs pt rl wo tx ou)) (O : Ot wr ou l) (hr : r < 7) (hl : l.length + (sc r).length ≤ 64) (hb : ∀ i : Nat, i < 8 → byE L i = zI (byt r i : Nat)) (hz : ∀ i : Nat, i < 8 → ix_cc .eq (lg_cmp ((L >>> (zL (8 * (i : Int)) &&& 63)) &&& zL 255) (zL 0)) 0 = decide (byt r i = 0)) (q : ∀ h' wr' ou', Ot wr' ou' (l ++ sc r) → (RI S0 h' R V cd dr ra si tr mo ng sp sz (wr') il rs pt rl wo tx (ou')) → Q (.inl none) h') : ix_M 267 [.ref 98, .long L] h Q := by
  obtain ⟨hl8, hch⟩ := sc_8 hr
  have loop : ∀ n : Nat, n ≤ 8 → ∀ (h1 : ix_H) (wr' : Nat) (ou' : Nat → Nat), Ot wr' ou' (l ++ (sc r).take ((sc r).length - n)) → (RI S0 h1 R V cd dr ra si tr mo ng sp sz (wr') il rs pt rl wo tx (ou')) → ix_E 267 3 [some (.ref 98), some (.long L), none, some (.int (zI (8 * (n : Int) - 8)))] [] h1 Q := by
    intro n
    induction n with
    | zero =>
      intro hn h wr' ou' O K
      rw [Nat.sub_zero, List.take_length] at O
      refine jx (pc' := 4) (L' := [_, _, _, _]) (st' := [_]) 1 rfl ?_
      refine jit (pc' := 37) rfl rfl rfl (by rw [zz_lt ⟨by omega, by omega⟩]; exact decide_eq_true (by omega)) ?_
      refine ix_qr _ rfl rfl rfl ?_
      exact q _ _ _ O K
    | succ n ih =>
      intro hn h wr' ou' O K
      have hbn : ((L >>> (zL (8 * (n : Int)) &&& 63)) &&& zL 255).toInt32 = zI (byt r n : Nat) := hb n (by omega)
      have hzn := hz n (by omega)
      rw [show 8 * ((n + 1 : Nat) : Int) - 8 = 8 * (n : Int) by omega]
      refine jx (pc' := 4) (L' := [_, _, _, _]) (st' := [_]) 1 rfl ?_
      refine jin (pc' := 7) 37 rfl rfl rfl rfl (by rw [zz_lt ⟨by omega, by omega⟩]; exact decide_eq_false (by omega)) ?_
      refine jx (pc' := 16) (L' := [_, _, _, _]) (st' := [_]) 7 rfl ?_
      try simp (disch := omega) only [kM255, kz, kzl0, kzl1, kzb, kzs, zI_add, zI_sub, zI_neg, zI_mul, zL_i, zI_l, zL_add, zL_sub, zL_neg]
      by_cases h0 : n < (sc r).length
      · have hc := hch ((sc r).length - 1 - n) (by omega)
        have eb : byt r n = (sc r).getD ((sc r).length - 1 - n) 0 := by unfold byt; rw [if_pos h0]
        rw [eb] at hbn hzn
        refine jin (pc' := 19) 31 rfl rfl rfl rfl (by rw [hzn, decide_eq_false (by omega)]) ?_
        refine jx (pc' := 28) (L' := [_, _, _, _]) (st' := [_, _]) 7 rfl ?_
        try simp (disch := omega) only [kM255, kz, kzl0, kzl1, kzb, kzs, zI_add, zI_sub, zI_neg, zI_mul, zL_i, zI_l, zL_add, zL_sub, zL_neg]
        rw [hbn]
        refine jcv (pc' := 31) 266 [_] [] K.ob rfl rfl rfl rfl rfl rfl rfl rfl ?_
        refine m_print (c := (sc r).getD ((sc r).length - 1 - n) 0) K O (by
          rw [List.length_append, List.length_take]
          omega) rfl fun h wr2 ou2 O2 K => jk ?_
        have et : (sc r).take ((sc r).length - n) = (sc r).take ((sc r).length - (n + 1)) ++ [(sc r).getD ((sc r).length - 1 - n) 0] := by
          rw [show (sc r).length - n = (sc r).length - (n + 1) + 1 by omega, List.take_add_one, show (sc r).length - 1 - n = (sc r).length - (n + 1) by omega, List.getD_eq_getElem?_getD]
          rw [List.getElem?_eq_getElem (by omega)]
          rfl
        rw [List.append_assoc, ← et] at O2
        refine jx (pc' := 3) (L' := [_, _, _, _]) (st' := []) 2 rfl ?_
        try simp (disch := omega) only [kz, kzl0, kzl1, kzb, kzs, zI_add, zI_sub, zI_neg, zI_mul, zL_i, zI_l, zL_add, zL_sub, zL_neg]
        rw [show 8 * (n : Int) + -8 = 8 * (n : Int) - 8 by omega]
        exact ih (by omega) h wr2 ou2 O2 K
      · have eb : byt r n = 0 := by unfold byt; rw [if_neg h0]
        rw [eb] at hbn hzn
        rw [show (sc r).length - (n + 1) = (sc r).length - n by omega] at O
        refine jit (pc' := 31) rfl rfl rfl (by rw [hzn, decide_eq_true rfl]) ?_
        refine jx (pc' := 3) (L' := [_, _, _, _]) (st' := []) 2 rfl ?_
        try simp (disch := omega) only [kz, kzl0, kzl1, kzb, kzs, zI_add, zI_sub, zI_neg, zI_mul, zL_i, zI_l, zL_add, zL_sub, zL_neg]
        rw [show 8 * (n : Int) + -8 = 8 * (n : Int) - 8 by omega]
        exact ih (by omega) h wr' ou' O K
  refine jx (pc' := 3) (L' := [_, _, _, _]) (st' := []) 2 rfl ?_
  try simp (disch := omega) only [kz, kzl0, kzl1, kzb, kzs, zI_add, zI_sub, zI_neg, zI_mul, zL_i, zI_l, zL_add, zL_sub, zL_neg]
  refine loop 8 (Nat.le_refl _) h wr ou ?_ K
  rw [show (sc r).length - 8 = 0 by omega, List.take_zero, List.append_nil]
  exact O
theorem m_addDigits {f0 : Int} (K : (RI S0 h R V cd dr ra si tr mo ng sp sz wr il rs pt rl wo tx ou)) (O : Ot wr ou l) (ha0 : a0 = (a : Int)) (ha : a < 12) (hf0 : f0 = (n : Int) - 1) (hn : n ≤ 100) (hl : l.length + n ≤ 64) (q : ∀ h' wr' ou', Ot wr' ou' (l ++ dl (R a).2.2.2.2 n 0) → (RI S0 h' R V cd dr ra si tr mo ng sp sz (wr') il rs pt rl wo tx (ou')) → Q (.inl none) h') : ix_M 268 [.ref 98, .int (zI a0), .int (zI f0), .int (zI 0)] h Q := by
  subst hf0
  have loop : ∀ (f1 : Int) (n : Nat), n ≤ 100 → ∀ (h1 : ix_H) (l : List Nat) (wr' : Nat) (ou' : Nat → Nat), l.length + n ≤ 64 → (∀ h' wr2 ou2, Ot wr2 ou2 (l ++ dl (R a).2.2.2.2 n 0) → (RI S0 h' R V cd dr ra si tr mo ng sp sz (wr2) il rs pt rl wo tx (ou2)) → Q (.inl none) h') → Ot wr' ou' l → (RI S0 h1 R V cd dr ra si tr mo ng sp sz (wr') il rs pt rl wo tx (ou')) → ix_E 268 3 [some (.ref 98), some (.int (zI a0)), some (.int (zI f1)), some (.int (zI 0)), some (.int (zI ((n : Int) - 1)))] [] h1 Q := by
    intro f1 n
    induction n with
    | zero =>
      intro hn h l wr' ou' hl q O K
      rw [dl_z, List.append_nil] at q
      refine jx (pc' := 6) (L' := [_, _, _, _, _]) (st' := [_, _]) 2 rfl ?_
      refine jct (pc' := 29) rfl rfl rfl (by rw [zc_lt ⟨by omega, by omega⟩ ⟨by omega, by omega⟩]; exact decide_eq_true (by omega)) ?_
      refine ix_qr _ rfl rfl rfl ?_
      exact q _ _ _ O K
    | succ n ih =>
      intro hn h l wr' ou' hl q O K
      have hab := atD_b (R a).2.2.2.2 (((n + 1 : Nat) : Int) - 1)
      refine jx (pc' := 6) (L' := [_, _, _, _, _]) (st' := [_, _]) 2 rfl ?_
      refine jcn (pc' := 9) 29 rfl rfl rfl rfl (by rw [zc_lt ⟨by omega, by omega⟩ ⟨by omega, by omega⟩]; exact decide_eq_false (by omega)) ?_
      refine jx (pc' := 16) (L' := [_, _, _, _, _]) (st' := [_, _, _, .int (zI 48), _]) 5 rfl ?_
      refine jcv (pc' := 19) 198 [_, _] [.int (zI 48), _] K.ob rfl rfl rfl rfl rfl rfl rfl rfl ?_
      refine m_at K ha0 ha ⟨by omega, by omega⟩ (jk ?_)
      refine jx (pc' := 20) (L' := [_, _, _, _, _]) (st' := [_, _]) 1 rfl ?_
      try simp (disch := omega) only [kz, kzl0, kzl1, kzb, kzs, zI_add, zI_sub, zI_neg, zI_mul, zL_i, zI_l, zL_add, zL_sub, zL_neg]
      refine jcv (pc' := 23) 266 [_] [] K.ob rfl rfl rfl rfl rfl rfl rfl rfl ?_
      refine m_print (c := 48 + atD (R a).2.2.2.2 (((n + 1 : Nat) : Int) - 1)) K O (by omega) (by omega) fun h wr2 ou2 O2 K => jk ?_
      refine jx (pc' := 3) (L' := [_, _, _, _, _]) (st' := []) 2 rfl ?_
      try simp (disch := omega) only [kz, kzl0, kzl1, kzb, kzs, zI_add, zI_sub, zI_neg, zI_mul, zL_i, zI_l, zL_add, zL_sub, zL_neg]
      rw [show ((n + 1 : Nat) : Int) - 1 + -1 = (n : Int) - 1 by omega]
      refine ih (by omega) h _ wr2 ou2 (by rw [List.length_append]; show l.length + 1 + n ≤ 64; omega) (fun h wr3 ou3 O3 K => q _ _ _ ?_ K) O2 K
      rw [dl_s (Nat.zero_le n)]
      rw [List.append_assoc] at O3
      have : atD (R a).2.2.2.2 (((n + 1 : Nat) : Int) - 1) = dAt (R a).2.2.2.2 n := by rw [show ((n + 1 : Nat) : Int) - 1 = (n : Int) by omega]; rfl
      rw [this] at O3
      exact O3
  refine jx (pc' := 3) (L' := [_, _, _, _, _]) (st' := []) 2 rfl ?_
  exact loop _ n hn h l wr ou hl q O K
theorem zI_nz {b : Nat} (h : 0 < b ∧ b < 2147483648) : ¬ zI (b : Int) = 0 := fun z => by
  have e := congrArg Int32.toInt z
  rw [zI_t ⟨by omega, by omega⟩] at e
  have : (0 : Int32).toInt = 0 := by decide
  omega
theorem m_writeNumber (K : (RI S0 h R V cd dr ra si tr mo ng sp sz wr il rs pt rl wo tx ou)) (O : Ot wr ou l) (ha0 : a0 = (a : Int)) (ha : a < 12) (vA : ValD (R a)) (hl : l.length + (ptF (R a).2.2.2.1 (R a).2.2.2.2).length ≤ 64) (q : ∀ h' wr' ou', Ot wr' ou' (l ++ ptF (R a).2.2.2.1 (R a).2.2.2.2) → (RI S0 h' R V cd dr ra si tr mo ng sp sz (wr') il rs pt rl wo tx (ou')) → Q (.inl none) h') : ix_M 269 [.ref 98, .int (zI a0)] h Q := by
  subst ha0
  have bA := Val.b vA
  have cA := Val.c34 vA
  have dA := dgs_le cA
  have hN : ptN (R a).2.2.2.2 = max 1 (dgs (R a).2.2.2.2) := rfl
  have hcn : (R a).2.2.2.2 < 10 ^ ptN (R a).2.2.2.2 := Nat.lt_of_lt_of_le (dgs_l _) (pl (by omega))
  unfold ptF at q hl
  generalize hn : ptN (R a).2.2.2.2 = n at *
  generalize hq : (R a).2.2.2.1 = q0 at *
  have hn1 : 1 ≤ n ∧ n ≤ 34 := by omega
  generalize hc : (R a).2.2.2.2 = co at *
  have hat : ∀ k : Int, atD co k = dAt co k := fun k => rfl
  -- plain
  have plain : q0 ≤ 0 ∧ -6 ≤ q0 + n - 1 → ix_E 269 35 [some (.ref 98), some (.int (zI (a : Int))), some (.int (zI (n : Int))), some (.int (zI q0)), some (.int (zI (q0 + n - 1))), none, none] [] h Q := by
    intro hp
    rw [if_pos hp] at q hl
    obtain ⟨bh, hbh⟩ : ∃ bh : Nat, (bh : Int) = -q0 := ⟨(-q0).toNat, by omega⟩
    rw [show (-q0).toNat = bh by omega] at q hl
    have low : ∀ k : Nat, k ≤ bh → ∀ (h1 : ix_H) (l1 : List Nat) (wr' : Nat) (ou' : Nat → Nat), l1.length + k ≤ 64 → (∀ h' wr2 ou2, Ot wr2 ou2 (l1 ++ dl co k 0) → (RI S0 h' R V cd dr ra si tr mo ng sp sz (wr2) il rs pt rl wo tx (ou2)) → Q (.inl none) h') → Ot wr' ou' l1 → (RI S0 h1 R V cd dr ra si tr mo ng sp sz (wr') il rs pt rl wo tx (ou')) → ix_E 269 45 [some (.ref 98), some (.int (zI (a : Int))), some (.int (zI (n : Int))), some (.int (zI q0)), some (.int (zI (q0 + n - 1))), some (.int (zI ((k : Int) - 1))), none] [] h1 Q := by
      intro k
      induction k with
      | zero =>
        intro hk h l1 wr' ou' hl q O K
        rw [dl_z, List.append_nil] at q
        refine jx (pc' := 47) (L' := [_, _, _, _, _, _, _]) (st' := [_]) 1 rfl ?_
        refine jit (pc' := 88) rfl rfl rfl (by rw [zz_lt ⟨by omega, by omega⟩]; exact decide_eq_true (by omega)) ?_
        refine ix_qr _ rfl rfl rfl ?_
        exact q _ _ _ O K
      | succ k ih =>
        intro hk h l1 wr' ou' hl q O K
        have hab := atD_b co (((k + 1 : Nat) : Int) - 1)
        refine jx (pc' := 47) (L' := [_, _, _, _, _, _, _]) (st' := [_]) 1 rfl ?_
        refine jin (pc' := 50) 88 rfl rfl rfl rfl (by rw [zz_lt ⟨by omega, by omega⟩]; exact decide_eq_false (by omega)) ?_
        refine jx (pc' := 57) (L' := [_, _, _, _, _, _, _]) (st' := [_, _, _, .int (zI 48), _]) 5 rfl ?_
        refine jcv (pc' := 60) 198 [_, _] [.int (zI 48), _] K.ob rfl rfl rfl rfl rfl rfl rfl rfl ?_
        refine m_at K rfl ha ⟨by omega, by omega⟩ (jk ?_)
        rw [hc]
        refine jx (pc' := 61) (L' := [_, _, _, _, _, _, _]) (st' := [_, _]) 1 rfl ?_
        try simp (disch := omega) only [kz, kzl0, kzl1, kzb, kzs, zI_add, zI_sub, zI_neg, zI_mul, zL_i, zI_l, zL_add, zL_sub, zL_neg]
        refine jcv (pc' := 64) 266 [_] [] K.ob rfl rfl rfl rfl rfl rfl rfl rfl ?_
        refine m_print (c := 48 + atD co (((k + 1 : Nat) : Int) - 1)) K O (by omega) (by omega) fun h wr2 ou2 O2 K => jk ?_
        refine jx (pc' := 68) (L' := [_, _, _, _, _, _, _]) (st' := [_, _]) 3 rfl ?_
        try simp (disch := omega) only [kz, kzl0, kzl1, kzb, kzs, zI_add, zI_sub, zI_neg, zI_mul, zL_i, zI_l, zL_add, zL_sub, zL_neg]
        refine jct (pc' := 82) rfl rfl rfl (by rw [zc_ne ⟨by omega, by omega⟩ ⟨by omega, by omega⟩]; exact decide_eq_true (by omega)) ?_
        refine jx (pc' := 45) (L' := [_, _, _, _, _, _, _]) (st' := []) 2 rfl ?_
        try simp (disch := omega) only [kz, kzl0, kzl1, kzb, kzs, zI_add, zI_sub, zI_neg, zI_mul, zL_i, zI_l, zL_add, zL_sub, zL_neg]
        rw [show ((k + 1 : Nat) : Int) - 1 + -1 = (k : Int) - 1 by omega]
        refine ih (by omega) h _ wr2 ou2 (by rw [List.length_append]; show l1.length + 1 + k ≤ 64; omega) (fun h wr3 ou3 O3 K => q _ _ _ ?_ K) O2 K
        rw [dl_s (Nat.zero_le k)]
        rw [List.append_assoc, hat, show ((k + 1 : Nat) : Int) - 1 = (k : Int) by omega] at O3
        exact O3
    have high : ∀ m : Nat, bh + m ≤ 100 → ∀ (h1 : ix_H) (l1 : List Nat) (wr' : Nat) (ou' : Nat → Nat), l1.length + (dl co (bh + m + 1) bh ++ (if 0 < bh then 46 :: dl co bh 0 else [])).length ≤ 64 → (∀ h' wr2 ou2, Ot wr2 ou2 (l1 ++ (dl co (bh + m + 1) bh ++ (if 0 < bh then 46 :: dl co bh 0 else []))) → (RI S0 h' R V cd dr ra si tr mo ng sp sz (wr2) il rs pt rl wo tx (ou2)) → Q (.inl none) h') → Ot wr' ou' l1 → (RI S0 h1 R V cd dr ra si tr mo ng sp sz (wr') il rs pt rl wo tx (ou')) → ix_E 269 45 [some (.ref 98), some (.int (zI (a : Int))), some (.int (zI (n : Int))), some (.int (zI q0)), some (.int (zI (q0 + n - 1))), some (.int (zI ((bh + m : Nat) : Int))), none] [] h1 Q := by
      intro m
      induction m with
      | zero =>
        intro hm h l1 wr' ou' hl q O K
        have hab := atD_b co ((bh + 0 : Nat) : Int)
        rw [Nat.add_zero] at q hl ⊢
        rw [dl_s (Nat.le_refl bh), dl_z] at q hl
        refine jx (pc' := 47) (L' := [_, _, _, _, _, _, _]) (st' := [_]) 1 rfl ?_
        refine jin (pc' := 50) 88 rfl rfl rfl rfl (by rw [zz_lt ⟨by omega, by omega⟩]; exact decide_eq_false (by omega)) ?_
        refine jx (pc' := 57) (L' := [_, _, _, _, _, _, _]) (st' := [_, _, _, .int (zI 48), _]) 5 rfl ?_
        refine jcv (pc' := 60) 198 [_, _] [.int (zI 48), _] K.ob rfl rfl rfl rfl rfl rfl rfl rfl ?_
        refine m_at K rfl ha ⟨by omega, by omega⟩ (jk ?_)
        rw [hc]
        refine jx (pc' := 61) (L' := [_, _, _, _, _, _, _]) (st' := [_, _]) 1 rfl ?_
        try simp (disch := omega) only [kz, kzl0, kzl1, kzb, kzs, zI_add, zI_sub, zI_neg, zI_mul, zL_i, zI_l, zL_add, zL_sub, zL_neg]
        refine jcv (pc' := 64) 266 [_] [] K.ob rfl rfl rfl rfl rfl rfl rfl rfl ?_
        refine m_print (c := 48 + atD co (bh : Int)) K O (by
          simp only [List.cons_append, List.nil_append, List.length_cons] at hl
          omega) (by omega) fun h wr2 ou2 O2 K => jk ?_
        refine jx (pc' := 68) (L' := [_, _, _, _, _, _, _]) (st' := [_, _]) 3 rfl ?_
        try simp (disch := omega) only [kz, kzl0, kzl1, kzb, kzs, zI_add, zI_sub, zI_neg, zI_mul, zL_i, zI_l, zL_add, zL_sub, zL_neg]
        refine jcn (pc' := 71) 82 rfl rfl rfl rfl (by rw [zc_ne ⟨by omega, by omega⟩ ⟨by omega, by omega⟩]; exact decide_eq_false (by omega)) ?_
        refine jx (pc' := 73) (L' := [_, _, _, _, _, _, _]) (st' := [_]) 1 rfl ?_
        by_cases h0 : 0 < bh
        · rw [if_pos h0] at q hl
          refine jin (pc' := 76) 82 rfl rfl rfl rfl (by rw [zz_le ⟨by omega, by omega⟩]; exact decide_eq_false (by omega)) ?_
          refine jx (pc' := 79) (L' := [_, _, _, _, _, _, _]) (st' := [.int (zI 46), _]) 2 rfl ?_
          refine jcv (pc' := 82) 266 [.int (zI 46)] [] K.ob rfl rfl rfl rfl rfl rfl rfl rfl ?_
          refine m_print (c := 46) K O2 (by
            rw [List.length_append]
            simp only [List.cons_append, List.nil_append, List.length_cons] at hl ⊢
            show l1.length + 1 < 64
            omega) rfl fun h wr3 ou3 O3 K => jk ?_
          refine jx (pc' := 45) (L' := [_, _, _, _, _, _, _]) (st' := []) 2 rfl ?_
          try simp (disch := omega) only [kz, kzl0, kzl1, kzb, kzs, zI_add, zI_sub, zI_neg, zI_mul, zL_i, zI_l, zL_add, zL_sub, zL_neg]
          rw [show (bh : Int) + -1 = (bh : Int) - 1 by omega]
          refine low bh (Nat.le_refl _) h _ wr3 ou3 ?_ (fun h wr4 ou4 O4 K => q _ _ _ ?_ K) O3 K
          · simp only [List.cons_append, List.nil_append, List.length_cons, List.length_append, dl_l] at hl ⊢
            simp only [List.length_nil]
            omega
          · rw [List.append_assoc, List.append_assoc] at O4
            exact O4
        · rw [if_neg h0, List.append_nil] at q
          refine jit (pc' := 82) rfl rfl rfl (by rw [zz_le ⟨by omega, by omega⟩]; exact decide_eq_true (by omega)) ?_
          refine jx (pc' := 45) (L' := [_, _, _, _, _, _, _]) (st' := []) 2 rfl ?_
          try simp (disch := omega) only [kz, kzl0, kzl1, kzb, kzs, zI_add, zI_sub, zI_neg, zI_mul, zL_i, zI_l, zL_add, zL_sub, zL_neg]
          rw [show (bh : Int) + -1 = ((0 : Nat) : Int) - 1 by omega]
          refine low 0 (by omega) h _ wr2 ou2 ?_ (fun h wr4 ou4 O4 K => q _ _ _ ?_ K) O2 K
          · rw [List.length_append]
            simp only [List.cons_append, List.nil_append, List.length_cons] at hl ⊢
            simp only [List.length_nil]
            omega
          · rw [dl_z, List.append_nil] at O4
            exact O4
      | succ m ih =>
        intro hm h l1 wr' ou' hl q O K
        have hab := atD_b co ((bh + (m + 1) : Nat) : Int)
        rw [show bh + (m + 1) + 1 = bh + m + 1 + 1 by omega, dl_s (show bh ≤ bh + m + 1 by omega)] at q hl
        rw [List.cons_append] at hl
        rw [List.length_cons] at hl
        refine jx (pc' := 47) (L' := [_, _, _, _, _, _, _]) (st' := [_]) 1 rfl ?_
        refine jin (pc' := 50) 88 rfl rfl rfl rfl (by rw [zz_lt ⟨by omega, by omega⟩]; exact decide_eq_false (by omega)) ?_
        refine jx (pc' := 57) (L' := [_, _, _, _, _, _, _]) (st' := [_, _, _, .int (zI 48), _]) 5 rfl ?_
        refine jcv (pc' := 60) 198 [_, _] [.int (zI 48), _] K.ob rfl rfl rfl rfl rfl rfl rfl rfl ?_
        refine m_at K rfl ha ⟨by omega, by omega⟩ (jk ?_)
        rw [hc]
        refine jx (pc' := 61) (L' := [_, _, _, _, _, _, _]) (st' := [_, _]) 1 rfl ?_
        try simp (disch := omega) only [kz, kzl0, kzl1, kzb, kzs, zI_add, zI_sub, zI_neg, zI_mul, zL_i, zI_l, zL_add, zL_sub, zL_neg]
        refine jcv (pc' := 64) 266 [_] [] K.ob rfl rfl rfl rfl rfl rfl rfl rfl ?_
        refine m_print (c := 48 + atD co ((bh + (m + 1) : Nat) : Int)) K O (by omega) (by omega) fun h wr2 ou2 O2 K => jk ?_
        refine jx (pc' := 68) (L' := [_, _, _, _, _, _, _]) (st' := [_, _]) 3 rfl ?_
        try simp (disch := omega) only [kz, kzl0, kzl1, kzb, kzs, zI_add, zI_sub, zI_neg, zI_mul, zL_i, zI_l, zL_add, zL_sub, zL_neg]
        refine jct (pc' := 82) rfl rfl rfl (by rw [zc_ne ⟨by omega, by omega⟩ ⟨by omega, by omega⟩]; exact decide_eq_true (by omega)) ?_
        refine jx (pc' := 45) (L' := [_, _, _, _, _, _, _]) (st' := []) 2 rfl ?_
        try simp (disch := omega) only [kz, kzl0, kzl1, kzb, kzs, zI_add, zI_sub, zI_neg, zI_mul, zL_i, zI_l, zL_add, zL_sub, zL_neg]
        rw [show ((bh + (m + 1) : Nat) : Int) + -1 = ((bh + m : Nat) : Int) by omega]
        refine ih (by omega) h _ wr2 ou2 (by simp only [List.length_append, List.length_cons, List.length_nil] at hl ⊢; omega) (fun h wr3 ou3 O3 K => q _ _ _ ?_ K) O2 K
        rw [List.append_assoc] at O3
        exact O3
    refine jx (pc' := 40) (L' := [_, _, _, _, _, _, _]) (st' := [_, _]) 5 rfl ?_
    try simp (disch := omega) only [kz, kzl0, kzl1, kzb, kzs, zI_add, zI_sub, zI_neg, zI_mul, zL_i, zI_l, zL_add, zL_sub, zL_neg]
    refine jcs (pc' := 43) 273 [_, _] [] rfl rfl rfl rfl rfl rfl rfl rfl ?_
    refine c_maxI ⟨by omega, by omega⟩ ⟨by omega, by omega⟩ (jk ?_)
    refine jx (pc' := 45) (L' := [_, _, _, _, _, _, _]) (st' := []) 1 rfl ?_
    unfold ptP at q hl
    by_cases h0 : bh < n
    · rw [if_pos h0] at q hl
      have := high (n - 1 - bh) (by omega) h l wr ou
      rw [show bh + (n - 1 - bh) + 1 = n by omega] at this
      rw [show max ((n : Int) - 1) (-q0) = ((bh + (n - 1 - bh) : Nat) : Int) by omega]
      exact this hl q O K
    · rw [if_neg h0] at q hl
      have := high 0 (by omega) h l wr ou
      rw [Nat.add_zero, dl_s (Nat.le_refl bh), dl_z] at this
      have hz : dAt co bh = 0 := by
        unfold dAt
        rw [if_neg (by omega)]
        exact dg_z hcn (by omega)
      rw [hz] at this
      rw [show max ((n : Int) - 1) (-q0) = (bh : Int) by omega]
      exact this hl q O K
  -- the exponent's digits
  have ex : ∀ (v : Nat), v < 10000 → ∀ (h1 : ix_H) (l1 : List Nat) (wr' : Nat) (ou' : Nat → Nat), l1.length + (nml v).length ≤ 64 → (∀ h' wr2 ou2, Ot wr2 ou2 (l1 ++ nml v) → (RI S0 h' R V cd dr ra si tr mo ng sp sz (wr2) il rs pt rl wo tx (ou2)) → Q (.inl none) h') → Ot wr' ou' l1 → (RI S0 h1 R V cd dr ra si tr mo ng sp sz (wr') il rs pt rl wo tx (ou')) → ix_E 269 159 [some (.ref 98), some (.int (zI (a : Int))), some (.int (zI (n : Int))), some (.int (zI q0)), some (.int (zI (q0 + n - 1))), none, none] [.int (zI (v : Int))] h1 Q := by
    intro v hv h l1 wr' ou' hl q O K
    have stp : ∀ b : Nat, 0 < b → b ≤ 1000 → ∀ (h1 : ix_H) (l1 : List Nat) (wr' : Nat) (ou' : Nat → Nat), l1.length < 64 → Ot wr' ou' l1 → (RI S0 h1 R V cd dr ra si tr mo ng sp sz (wr') il rs pt rl wo tx (ou')) → (∀ h' wr2 ou2, Ot wr2 ou2 (l1 ++ [48 + v / b % 10]) → (RI S0 h' R V cd dr ra si tr mo ng sp sz (wr2) il rs pt rl wo tx (ou2)) → ix_E 269 184 [some (.ref 98), some (.int (zI (a : Int))), some (.int (zI (n : Int))), some (.int (zI q0)), some (.int (zI (q0 + n - 1))), some (.int (zI (v : Int))), some (.int (zI ((b / 10 : Nat) : Int)))] [] h' Q) → ix_E 269 184 [some (.ref 98), some (.int (zI (a : Int))), some (.int (zI (n : Int))), some (.int (zI q0)), some (.int (zI (q0 + n - 1))), some (.int (zI (v : Int))), some (.int (zI (b : Int)))] [] h1 Q := by
      intro b hb1 hb2 h l1 wr' ou' hl O K nxt
      have hvb : v / b ≤ v := Nat.div_le_self _ _
      refine jx (pc' := 186) (L' := [_, _, _, _, _, _, _]) (st' := [_]) 1 rfl ?_
      refine jin (pc' := 189) 214 rfl rfl rfl rfl (by rw [zz_le ⟨by omega, by omega⟩]; exact decide_eq_false (by omega)) ?_
      refine jx (pc' := 196) (L' := [_, _, _, _, _, _, _]) (st' := [_, _, .int (zI 48), _]) 4 rfl ?_
      refine jidiv (pc' := 197) rfl rfl (zI_nz ⟨hb1, by omega⟩) rfl ?_
      rw [zdiv ⟨by omega, by omega⟩ ⟨by omega, by omega⟩, show (v : Int) / (b : Int) = ((v / b : Nat) : Int) from rfl]
      generalize hd : v / b = d at *
      refine jx (pc' := 199) (L' := [_, _, _, _, _, _, _]) (st' := [.int (zI 10), _, .int (zI 48), _]) 1 rfl ?_
      refine jirem (pc' := 200) rfl rfl (by decide) rfl ?_
      rw [zrem ⟨by omega, by omega⟩ ⟨by omega, by omega⟩]
      refine jx (pc' := 201) (L' := [_, _, _, _, _, _, _]) (st' := [_, _]) 1 rfl ?_
      try simp (disch := omega) only [kz, kzl0, kzl1, kzb, kzs, zI_add, zI_sub, zI_neg, zI_mul, zL_i, zI_l, zL_add, zL_sub, zL_neg]
      refine jcv (pc' := 204) 266 [_] [] K.ob rfl rfl rfl rfl rfl rfl rfl rfl ?_
      refine m_print (c := 48 + d % 10) K O hl (by omega) fun h wr2 ou2 O2 K => jk ?_
      refine jx (pc' := 208) (L' := [_, _, _, _, _, _, _]) (st' := [.int (zI 10), _]) 2 rfl ?_
      refine jidiv (pc' := 209) rfl rfl (by decide) rfl ?_
      rw [zdiv ⟨by omega, by omega⟩ ⟨by omega, by omega⟩, show (b : Int) / 10 = ((b / 10 : Nat) : Int) from rfl]
      refine jx (pc' := 184) (L' := [_, _, _, _, _, _, _]) (st' := []) 2 rfl ?_
      exact nxt h wr2 ou2 O2 K
    have fin : ∀ (h1 : ix_H) (wr' : Nat) (ou' : Nat → Nat), Ot wr' ou' (l1 ++ nml v) → (RI S0 h1 R V cd dr ra si tr mo ng sp sz (wr') il rs pt rl wo tx (ou')) → ix_E 269 184 [some (.ref 98), some (.int (zI (a : Int))), some (.int (zI (n : Int))), some (.int (zI q0)), some (.int (zI (q0 + n - 1))), some (.int (zI (v : Int))), some (.int (zI ((0 : Nat) : Int)))] [] h1 Q := by
      intro h wr' ou' O K
      refine jx (pc' := 186) (L' := [_, _, _, _, _, _, _]) (st' := [_]) 1 rfl ?_
      refine jit (pc' := 214) rfl rfl rfl (by rfl) ?_
      refine ix_qr _ rfl rfl rfl ?_
      exact q _ _ _ O K
    have up : ∀ b : Nat, 0 < b → b ≤ 1000 → (v / b ≤ 9 → ix_E 269 184 [some (.ref 98), some (.int (zI (a : Int))), some (.int (zI (n : Int))), some (.int (zI q0)), some (.int (zI (q0 + n - 1))), some (.int (zI (v : Int))), some (.int (zI (b : Int)))] [] h Q) → (9 < v / b → ix_E 269 164 [some (.ref 98), some (.int (zI (a : Int))), some (.int (zI (n : Int))), some (.int (zI q0)), some (.int (zI (q0 + n - 1))), some (.int (zI (v : Int))), some (.int (zI ((10 * b : Nat) : Int)))] [] h Q) → ix_E 269 164 [some (.ref 98), some (.int (zI (a : Int))), some (.int (zI (n : Int))), some (.int (zI q0)), some (.int (zI (q0 + n - 1))), some (.int (zI (v : Int))), some (.int (zI (b : Int)))] [] h Q := by
      intro b hb1 hb2 k1 k2
      have hvb : v / b ≤ v := Nat.div_le_self _ _
      refine jx (pc' := 168) (L' := [_, _, _, _, _, _, _]) (st' := [_, _]) 2 rfl ?_
      refine jidiv (pc' := 169) rfl rfl (zI_nz ⟨hb1, by omega⟩) rfl ?_
      rw [zdiv ⟨by omega, by omega⟩ ⟨by omega, by omega⟩, show (v : Int) / (b : Int) = ((v / b : Nat) : Int) from rfl]
      generalize hd : v / b = d at *
      refine jx (pc' := 171) (L' := [_, _, _, _, _, _, _]) (st' := [.int (zI 9), _]) 1 rfl ?_
      by_cases h0 : d ≤ 9
      · skip
        refine jct (pc' := 184) rfl rfl rfl (by rw [zc_le ⟨by omega, by omega⟩ ⟨by omega, by omega⟩]; exact decide_eq_true (by omega)) ?_
        exact k1 h0
      · skip
        refine jcn (pc' := 174) 184 rfl rfl rfl rfl (by rw [zc_le ⟨by omega, by omega⟩ ⟨by omega, by omega⟩]; exact decide_eq_false (by omega)) ?_
        refine jx (pc' := 164) (L' := [_, _, _, _, _, _, _]) (st' := []) 5 rfl ?_
        try simp (disch := omega) only [kz, kzl0, kzl1, kzb, kzs, zI_add, zI_sub, zI_neg, zI_mul, zL_i, zI_l, zL_add, zL_sub, zL_neg]
        rw [show (10 : Int) * (b : Int) = ((10 * b : Nat) : Int) by omega]
        exact k2 (by omega)
    unfold nml at q hl fin
    refine jx (pc' := 164) (L' := [_, _, _, _, _, _, _]) (st' := []) 3 rfl ?_
    try simp (disch := omega) only [kz, kzl0, kzl1, kzb, kzs, zI_add, zI_sub, zI_neg, zI_mul, zL_i, zI_l, zL_add, zL_sub, zL_neg]
    refine up 1 (by decide) (by decide) (fun g0 => ?_) (fun g1 => ?_)
    · rw [Nat.div_one] at g0
      rw [if_pos (by omega)] at hl fin
      refine stp 1 (by decide) (by decide) h l1 wr' ou' (by simp only [List.length_cons, List.length_nil] at hl; omega) O K fun h wr2 ou2 O2 K => fin h wr2 ou2 ?_ K
      rw [Nat.div_one, Nat.mod_eq_of_lt (by omega)] at O2
      exact O2
    · rw [Nat.div_one] at g1
      rw [if_neg (by omega)] at hl fin
      refine up 10 (by decide) (by decide) (fun g2 => ?_) (fun g3 => ?_)
      · rw [if_pos (by omega)] at hl fin
        simp only [List.length_cons, List.length_nil] at hl
        refine stp 10 (by decide) (by decide) h l1 wr' ou' (by omega) O K fun h wr2 ou2 O2 K => ?_
        refine stp 1 (by decide) (by decide) h _ wr2 ou2 (by rw [List.length_append]; show l1.length + 1 < 64; omega) O2 K fun h wr3 ou3 O3 K => fin h wr3 ou3 ?_ K
        rw [Nat.div_one, Nat.mod_eq_of_lt (show v / 10 < 10 by omega), List.append_assoc] at O3
        exact O3
      · rw [if_neg (by omega)] at hl fin
        refine up 100 (by decide) (by decide) (fun g4 => ?_) (fun g5 => ?_)
        · rw [if_pos (by omega)] at hl fin
          simp only [List.length_cons, List.length_nil] at hl
          refine stp 100 (by decide) (by decide) h l1 wr' ou' (by omega) O K fun h wr2 ou2 O2 K => ?_
          refine stp 10 (by decide) (by decide) h _ wr2 ou2 (by rw [List.length_append]; show l1.length + 1 < 64; omega) O2 K fun h wr3 ou3 O3 K => ?_
          refine stp 1 (by decide) (by decide) h _ wr3 ou3 (by rw [List.length_append, List.length_append]; show l1.length + 1 + 1 < 64; omega) O3 K fun h wr4 ou4 O4 K => fin h wr4 ou4 ?_ K
          rw [Nat.div_one, Nat.mod_eq_of_lt (show v / 100 < 10 by omega), List.append_assoc, List.append_assoc] at O4
          exact O4
        · rw [if_neg (by omega)] at hl fin
          simp only [List.length_cons, List.length_nil] at hl
          refine up 1000 (by decide) (by decide) (fun g6 => ?_) (fun g7 => by omega)
          refine stp 1000 (by decide) (by decide) h l1 wr' ou' (by omega) O K fun h wr2 ou2 O2 K => ?_
          refine stp 100 (by decide) (by decide) h _ wr2 ou2 (by rw [List.length_append]; show l1.length + 1 < 64; omega) O2 K fun h wr3 ou3 O3 K => ?_
          refine stp 10 (by decide) (by decide) h _ wr3 ou3 (by rw [List.length_append, List.length_append]; show l1.length + 1 + 1 < 64; omega) O3 K fun h wr4 ou4 O4 K => ?_
          refine stp 1 (by decide) (by decide) h _ wr4 ou4 (by rw [List.length_append, List.length_append, List.length_append]; show l1.length + 1 + 1 + 1 < 64; omega) O4 K fun h wr5 ou5 O5 K => fin h wr5 ou5 ?_ K
          rw [Nat.div_one, Nat.mod_eq_of_lt (show v / 1000 < 10 by omega), List.append_assoc, List.append_assoc, List.append_assoc] at O5
          exact O5
  -- with an exponent
  have sci : ¬ (q0 ≤ 0 ∧ -6 ≤ q0 + n - 1) → ix_E 269 89 [some (.ref 98), some (.int (zI (a : Int))), some (.int (zI (n : Int))), some (.int (zI q0)), some (.int (zI (q0 + n - 1))), none, none] [] h Q := by
    intro hp
    rw [if_neg hp] at q hl
    obtain ⟨m, hm⟩ : ∃ m, n = m + 1 := ⟨n - 1, by omega⟩
    subst hm
    rw [show m + 1 - 1 = m from rfl, dl_s (Nat.le_refl m), dl_z] at q hl
    have hab := atD_b co (((m + 1 : Nat) : Int) - 1)
    generalize he : q0 + ((m + 1 : Nat) : Int) - 1 = e at *
    have heb : -7000 ≤ e ∧ e ≤ 7000 := by omega
    simp only [List.cons_append, List.nil_append, List.length_cons, List.length_append] at hl
    -- behind the digits
    have tl : ∀ (h1 : ix_H) (l1 : List Nat) (wr' : Nat) (ou' : Nat → Nat), l1.length + 2 + (nml e.natAbs).length ≤ 64 → (∀ h' wr2 ou2, Ot wr2 ou2 (l1 ++ (69 :: (if e < 0 then 45 else 43) :: nml e.natAbs)) → (RI S0 h' R V cd dr ra si tr mo ng sp sz (wr2) il rs pt rl wo tx (ou2)) → Q (.inl none) h') → Ot wr' ou' l1 → (RI S0 h1 R V cd dr ra si tr mo ng sp sz (wr') il rs pt rl wo tx (ou')) → ix_E 269 124 [some (.ref 98), some (.int (zI (a : Int))), some (.int (zI ((m + 1 : Nat) : Int))), some (.int (zI q0)), some (.int (zI e)), none, none] [] h1 Q := by
      intro h l1 wr' ou' hl q O K
      have ex := ex e.natAbs (by omega)
      refine jx (pc' := 127) (L' := [_, _, _, _, _, _, _]) (st' := [.int (zI 69), _]) 2 rfl ?_
      refine jcv (pc' := 130) 266 [.int (zI 69)] [] K.ob rfl rfl rfl rfl rfl rfl rfl rfl ?_
      refine m_print (c := 69) K O (by omega) rfl fun h wr2 ou2 O2 K => jk ?_
      refine jx (pc' := 133) (L' := [_, _, _, _, _, _, _]) (st' := [_, _]) 2 rfl ?_
      by_cases h0 : e < 0
      · rw [if_pos h0] at q
        refine jin (pc' := 136) 141 rfl rfl rfl rfl (by rw [zz_ge ⟨by omega, by omega⟩]; exact decide_eq_false (by omega)) ?_
        refine jx (pc' := 143) (L' := [_, _, _, _, _, _, _]) (st' := [.int (zI 45), _]) 2 rfl ?_
        refine jcv (pc' := 146) 266 [.int (zI 45)] [] K.ob rfl rfl rfl rfl rfl rfl rfl rfl ?_
        refine m_print (c := 45) K O2 (by rw [List.length_append]; show l1.length + 1 < 64; omega) rfl fun h wr3 ou3 O3 K => jk ?_
        refine jx (pc' := 148) (L' := [_, _, _, _, _, _, _]) (st' := [_]) 1 rfl ?_
        refine jin (pc' := 151) 157 rfl rfl rfl rfl (by rw [zz_ge ⟨by omega, by omega⟩]; exact decide_eq_false (by omega)) ?_
        refine jx (pc' := 159) (L' := [_, _, _, _, _, _, _]) (st' := [_]) 3 rfl ?_
        try simp (disch := omega) only [kz, kzl0, kzl1, kzb, kzs, zI_add, zI_sub, zI_neg, zI_mul, zL_i, zI_l, zL_add, zL_sub, zL_neg]
        rw [show -e = ((e.natAbs : Nat) : Int) by omega]
        refine ex h _ wr3 ou3 (by rw [List.length_append, List.length_append]; show l1.length + 1 + 1 + _ ≤ 64; omega) (fun h wr4 ou4 O4 K => q _ _ _ ?_ K) O3 K
        rw [List.append_assoc, List.append_assoc] at O4
        exact O4
      · rw [if_neg h0] at q
        refine jit (pc' := 141) rfl rfl rfl (by rw [zz_ge ⟨by omega, by omega⟩]; exact decide_eq_true (by omega)) ?_
        refine jx (pc' := 143) (L' := [_, _, _, _, _, _, _]) (st' := [.int (zI 43), _]) 1 rfl ?_
        refine jcv (pc' := 146) 266 [.int (zI 43)] [] K.ob rfl rfl rfl rfl rfl rfl rfl rfl ?_
        refine m_print (c := 43) K O2 (by rw [List.length_append]; show l1.length + 1 < 64; omega) rfl fun h wr3 ou3 O3 K => jk ?_
        refine jx (pc' := 148) (L' := [_, _, _, _, _, _, _]) (st' := [_]) 1 rfl ?_
        refine jit (pc' := 157) rfl rfl rfl (by rw [zz_ge ⟨by omega, by omega⟩]; exact decide_eq_true (by omega)) ?_
        refine jx (pc' := 159) (L' := [_, _, _, _, _, _, _]) (st' := [_]) 1 rfl ?_
        rw [show e = ((e.natAbs : Nat) : Int) by omega]
        have := ex h _ wr3 ou3 (by rw [List.length_append, List.length_append]; show l1.length + 1 + 1 + _ ≤ 64; omega) (fun h wr4 ou4 O4 K => q _ _ _ (by
          rw [List.append_assoc, List.append_assoc] at O4
          exact O4) K) O3 K
        rw [show e = ((e.natAbs : Nat) : Int) by omega] at this
        exact this
    refine jx (pc' := 97) (L' := [_, _, _, _, _, _, _]) (st' := [_, _, _, .int (zI 48), _]) 7 rfl ?_
    try simp (disch := omega) only [kz, kzl0, kzl1, kzb, kzs, zI_add, zI_sub, zI_neg, zI_mul, zL_i, zI_l, zL_add, zL_sub, zL_neg]
    refine jcv (pc' := 100) 198 [_, _] [.int (zI 48), _] K.ob rfl rfl rfl rfl rfl rfl rfl rfl ?_
    refine m_at K rfl ha ⟨by omega, by omega⟩ (jk ?_)
    rw [hc]
    refine jx (pc' := 101) (L' := [_, _, _, _, _, _, _]) (st' := [_, _]) 1 rfl ?_
    try simp (disch := omega) only [kz, kzl0, kzl1, kzb, kzs, zI_add, zI_sub, zI_neg, zI_mul, zL_i, zI_l, zL_add, zL_sub, zL_neg]
    refine jcv (pc' := 104) 266 [_] [] K.ob rfl rfl rfl rfl rfl rfl rfl rfl ?_
    refine m_print (c := 48 + atD co (((m + 1 : Nat) : Int) - 1)) K O (by omega) (by omega) fun h wr2 ou2 O2 K => jk ?_
    rw [hat, show ((m + 1 : Nat) : Int) - 1 = (m : Int) by omega] at O2
    refine jx (pc' := 106) (L' := [_, _, _, _, _, _, _]) (st' := [.int (zI 1), _]) 2 rfl ?_
    by_cases h1 : 1 < m + 1
    · rw [if_pos h1] at q hl
      simp only [List.length_cons, dl_l] at hl
      refine jcn (pc' := 109) 115 rfl rfl rfl rfl (by rw [zc_le ⟨by omega, by omega⟩ ⟨by omega, by omega⟩]; exact decide_eq_false (by omega)) ?_
      refine jx (pc' := 112) (L' := [_, _, _, _, _, _, _]) (st' := [.int (zI 46), _]) 2 rfl ?_
      refine jcv (pc' := 115) 266 [.int (zI 46)] [] K.ob rfl rfl rfl rfl rfl rfl rfl rfl ?_
      refine m_print (c := 46) K O2 (by rw [List.length_append]; show l.length + 1 < 64; omega) rfl fun h wr3 ou3 O3 K => jk ?_
      refine jx (pc' := 121) (L' := [_, _, _, _, _, _, _]) (st' := [.int (zI 0), _, _, _]) 6 rfl ?_
      try simp (disch := omega) only [kz, kzl0, kzl1, kzb, kzs, zI_add, zI_sub, zI_neg, zI_mul, zL_i, zI_l, zL_add, zL_sub, zL_neg]
      refine jcv (pc' := 124) 268 [_, _, .int (zI 0)] [] K.ob rfl rfl rfl rfl rfl rfl rfl rfl ?_
      refine m_addDigits (n := m) K O3 rfl ha (by omega) (by omega) (by rw [List.length_append, List.length_append]; show l.length + 1 + 1 + m ≤ 64; omega) fun h wr4 ou4 O4 K => jk ?_
      rw [hc] at O4
      refine tl h _ wr4 ou4 ?_ (fun h wr5 ou5 O5 K => q _ _ _ ?_ K) O4 K
      · simp only [List.length_append, List.length_cons, List.length_nil, dl_l]
        omega
      · simp only [List.append_assoc, List.cons_append, List.nil_append] at O5 ⊢
        exact O5
    · obtain rfl : m = 0 := by omega
      rw [if_neg h1] at q hl
      simp only [List.length_nil] at hl
      refine jct (pc' := 115) rfl rfl rfl (by rw [zc_le ⟨by omega, by omega⟩ ⟨by omega, by omega⟩]; exact decide_eq_true (by omega)) ?_
      refine jx (pc' := 121) (L' := [_, _, _, _, _, _, _]) (st' := [.int (zI 0), _, _, _]) 6 rfl ?_
      try simp (disch := omega) only [kz, kzl0, kzl1, kzb, kzs, zI_add, zI_sub, zI_neg, zI_mul, zL_i, zI_l, zL_add, zL_sub, zL_neg]
      refine jcv (pc' := 124) 268 [_, _, .int (zI 0)] [] K.ob rfl rfl rfl rfl rfl rfl rfl rfl ?_
      refine m_addDigits (n := 0) K O2 rfl ha (by omega) (by omega) (by rw [List.length_append]; show l.length + 1 + 0 ≤ 64; omega) fun h wr4 ou4 O4 K => jk ?_
      rw [dl_z, List.append_nil] at O4
      refine tl h _ wr4 ou4 ?_ (fun h wr5 ou5 O5 K => q _ _ _ ?_ K) O4 K
      · simp only [List.length_append, List.length_cons, List.length_nil]
        omega
      · simp only [List.append_assoc, List.cons_append, List.nil_append] at O5 ⊢
        exact O5
  refine jx (pc' := 3) (L' := [_, _, _, _, _, _, _]) (st' := [_, _, .int (zI 1)]) 3 rfl ?_
  refine jcv (pc' := 6) 178 [_] [.int (zI 1)] K.ob rfl rfl rfl rfl rfl rfl rfl rfl ?_
  refine m_many K rfl ha fun _ => jk ?_
  refine jcs (pc' := 9) 273 [.int (zI 1), _] [] rfl rfl rfl rfl rfl rfl rfl rfl ?_
  refine c_maxI ⟨by omega, by omega⟩ ⟨by omega, by omega⟩ (jk ?_)
  rw [hc, show max (1 : Int) (dgs co : Int) = (n : Int) by omega]
  refine jx (pc' := 11) (L' := [_, _, _, _, _, _, _]) (st' := [_]) 2 rfl ?_
  refine jgf (pc' := 14) K.ob rfl rfl rfl rfl rfl ?_
  refine jx (pc' := 15) (L' := [_, _, _, _, _, _, _]) (st' := [_, _]) 1 rfl ?_
  refine jR_p (pc' := 16) a K rfl rfl (by omega) (by omega)  rfl ?_
  rw [hq]
  refine jx (pc' := 25) (L' := [_, _, _, _, _, _, _]) (st' := [_]) 8 rfl ?_
  try simp (disch := omega) only [kz, kzl0, kzl1, kzb, kzs, zI_add, zI_sub, zI_neg, zI_mul, zL_i, zI_l, zL_add, zL_sub, zL_neg]
  by_cases h0 : 0 < q0
  · skip
    refine jit (pc' := 89) rfl rfl rfl (by rw [zz_gt ⟨by omega, by omega⟩]; exact decide_eq_true (by omega)) ?_
    exact sci (fun z => by omega)
  · skip
    refine jin (pc' := 28) 89 rfl rfl rfl rfl (by rw [zz_gt ⟨by omega, by omega⟩]; exact decide_eq_false (by omega)) ?_
    refine jx (pc' := 32) (L' := [_, _, _, _, _, _, _]) (st' := [.int (zI (-6)), _]) 2 rfl ?_
    by_cases h1 : q0 + n - 1 < -6
    · skip
      refine jct (pc' := 89) rfl rfl rfl (by rw [zc_lt ⟨by omega, by omega⟩ ⟨by omega, by omega⟩]; exact decide_eq_true (by omega)) ?_
      exact sci (fun z => by omega)
    · skip
      refine jcn (pc' := 35) 89 rfl rfl rfl rfl (by rw [zc_lt ⟨by omega, by omega⟩ ⟨by omega, by omega⟩]; exact decide_eq_false (by omega)) ?_
      exact plain ⟨by omega, by omega⟩
theorem zz_4 : ∀ i : Nat, i < 8 → ix_cc .eq (lg_cmp ((zL 5291279215216915577 >>> (zL (8 * (i : Int)) &&& 63)) &&& zL 255) (zL 0)) 0 = decide (byt 4 i = 0) := by decide
theorem zz_5 : ∀ i : Nat, i < 8 → ix_cc .eq (lg_cmp ((zL 1934516558 >>> (zL (8 * (i : Int)) &&& 63)) &&& zL 255) (zL 0)) 0 = decide (byt 5 i = 0) := by decide
theorem zz_6 : ∀ i : Nat, i < 8 → ix_cc .eq (lg_cmp ((zL 5136718 >>> (zL (8 * (i : Int)) &&& 63)) &&& zL 255) (zL 0)) 0 = decide (byt 6 i = 0) := by decide
end REF
