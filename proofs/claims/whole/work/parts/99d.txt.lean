/-! ===== TextWriter: putPlain, putFinite, put ===== -/
section TXT
variable {h : ix_H} {Q : ix_O → ix_H → Prop} {S : Nat → AC} {l : List Nat} {c r x n a b v co bh : Nat} {d : Dm} {e : Int}
theorem c_abs (hx : -2147483648 < e ∧ e < 2147483648) (q : Q (.inl (some (.int (nI e.natAbs)))) h) : ix_M 277 [.int (zI e)] h Q := by
  refine jx (pc' := 1) (L' := [_]) (st' := [_]) 1 rfl ?_
  by_cases h0 : e < 0
  · skip
    refine jin (pc' := 4) 9 rfl rfl rfl rfl (by rw [zz_ge ⟨by omega, by omega⟩]; exact decide_eq_false (by omega)) ?_
    refine jx (pc' := 10) (L' := [_]) (st' := [_]) 3 rfl ?_
    try simp (disch := omega) only [kz, kzl0, kzl1, kzb, kzs, zI_add, zI_sub, zI_neg, zI_mul, zL_i, zI_l, zL_add, zL_sub, zL_neg]
    refine jri rfl rfl ?_
    rw [nz, show ((e.natAbs : Nat) : Int) = -e by omega] at q
    exact q
  · skip
    refine jit (pc' := 9) rfl rfl rfl (by rw [zz_ge ⟨by omega, by omega⟩]; exact decide_eq_true (by omega)) ?_
    refine jx (pc' := 10) (L' := [_]) (st' := [_]) 1 rfl ?_
    refine jri rfl rfl ?_
    rw [nz, show ((e.natAbs : Nat) : Int) = e by omega] at q
    exact q
theorem Wr.nn {k : Nat} (W : Wr S l) (A : S k = aN x) : k ≠ 69 ∧ k ≠ 70 := by
  obtain ⟨w1, o, w2, _⟩ := W
  refine ⟨fun z => ?_, fun z => ?_⟩
  · rw [z, w1] at A; cases A
  · rw [z, w2] at A; cases A
theorem v_putPlain (I : Inv h S) (W : Wr S l) (A : S n = aN co) (ha : a < 50) (hb : bh < 50) (hl : l.length < 3) (q : ∀ h' S', Inv h' S' → ag [69, 70] S S' → Wr S' (l ++ ptP co a bh) → Q (.inl none) h') : ix_M 161 [.ref 69, .ref n, .int (nI a), .int (nI bh)] h Q := by
  have hn := W.nn A
  unfold ptP at q
  have t : ∀ (h1 : ix_H) (T : Nat → AC) (l1 : List Nat), Inv h1 T → ag [69, 70] S T → Wr T (l ++ l1) → l1.length ≤ 50 - bh ∨ l1.length ≤ 1 → l1 = (if bh < a then dl co a bh else [48]) → ix_E 161 21 [some (.ref 69), some (.ref n), some (.int (nI a)), some (.int (nI bh))] [] h1 Q := by
    intro h1 T l1 I g W hl1 e1
    rw [← e1] at q
    have A1 : T n = aN co := g.at n (by simp; omega) A
    refine jx (pc' := 22) (L' := [_, _, _, _]) (st' := [_]) 1 rfl ?_
    by_cases h0 : 0 < bh
    · rw [if_pos h0] at q
      refine jin (pc' := 25) 38 rfl rfl rfl rfl (by rw [cz_le (by omega)]; exact decide_eq_false (by omega)) ?_
      refine jx (pc' := 28) (L' := [_, _, _, _]) (st' := [.int (nI 46), _]) 2 rfl ?_
      refine jcv (pc' := 31) 157 [.int (nI 46)] [] (I.ob (r := 69) W.1) rfl rfl rfl rfl rfl rfl rfl rfl ?_
      refine v_wappend (c := 46) I W (by rw [List.length_append]; omega) (by decide) fun h2 T2 I g2 W2 => jk ?_
      have A2 : T2 n = aN co := g2.at n (by simp; omega) A1
      refine jx (pc' := 35) (L' := [_, _, _, _]) (st' := [.int (nI 0), _, _, _]) 4 rfl ?_
      refine jcv (pc' := 38) 159 [_, _, .int (nI 0)] [] (I.ob (r := 69) W2.1) rfl rfl rfl rfl rfl rfl rfl rfl ?_
      refine v_appendDigits I W2 A2 hn (by omega) (by omega) (by rw [List.length_append, List.length_append]; simp; omega) fun h3 T3 I g3 W3 => jk ?_
      refine ix_qr _ rfl rfl rfl ?_
      rw [List.append_assoc, List.append_assoc] at W3
      exact q _ _ I ((g.tr g2 (fun _ z => z)).tr g3 (fun _ z => z)) W3
    · rw [if_neg h0, List.append_nil] at q
      refine jit (pc' := 38) rfl rfl rfl (by rw [cz_le (by omega)]; exact decide_eq_true (by omega)) ?_
      refine ix_qr _ rfl rfl rfl ?_
      exact q _ _ I g W
  refine jx (pc' := 2) (L' := [_, _, _, _]) (st' := [_, _]) 2 rfl ?_
  by_cases e : bh < a
  · skip
    refine jcn (pc' := 5) 15 rfl rfl rfl rfl (by rw [cc_le (by omega) (by omega)]; exact decide_eq_false (by omega)) ?_
    refine jx (pc' := 9) (L' := [_, _, _, _]) (st' := [_, _, _, _]) 4 rfl ?_
    refine jcv (pc' := 12) 159 [_, _, _] [] (I.ob (r := 69) W.1) rfl rfl rfl rfl rfl rfl rfl rfl ?_
    refine v_appendDigits I W A hn (by omega) (by omega) (by omega) fun h1 T I g W1 => jk ?_
    refine jx (pc' := 21) (L' := [_, _, _, _]) (st' := []) 1 rfl ?_
    exact t _ _ _ I g W1 (Or.inl (by rw [dl_l]; omega)) (by rw [if_pos e])
  · skip
    refine jct (pc' := 15) rfl rfl rfl (by rw [cc_le (by omega) (by omega)]; exact decide_eq_true (by omega)) ?_
    refine jx (pc' := 18) (L' := [_, _, _, _]) (st' := [.int (nI 48), _]) 2 rfl ?_
    refine jcv (pc' := 21) 157 [.int (nI 48)] [] (I.ob (r := 69) W.1) rfl rfl rfl rfl rfl rfl rfl rfl ?_
    refine v_wappend (c := 48) I W (by omega) (by decide) fun h1 T I g W1 => jk ?_
    exact t _ _ _ I g W1 (Or.inr (by simp)) (by rw [if_neg e])
theorem nml_l (v : Nat) : (nml v).length ≤ 4 := by
  unfold nml
  split
  · simp
  · split
    · simp
    · split <;> simp
theorem v_putFinite (I : Inv h S) (W : Wr S l) (A : RegD S r d) (hl : l.length < 3) (q : ∀ h' S', Inv h' S' → ag [69, 70] S S' → Wr S' (l ++ ptF d.2.2.2.1 d.2.2.2.2) → Q (.inl none) h') : ix_M 160 [.ref 69, .ref r] h Q := by
  have A2 := A.2.1
  have A3 := A.2.2.1
  have vA := A.2.2.2
  have bA := vA.b
  have dA := vA.d
  have hn := W.nn A3
  have hr := A.1
  have hN : ptN d.2.2.2.2 = max 1 (dgs d.2.2.2.2) := rfl
  unfold ptF at q
  refine jx (pc' := 2) (L' := [_, _, _, _]) (st' := [_, .int (zI 1)]) 2 rfl ?_
  refine jgf (pc' := 5) (I.ob (r := r) A2) rfl rfl rfl rfl rfl ?_
  refine jcv (pc' := 8) 52 [] [.int (zI 1)] (I.no (r := (r+1)) A3) rfl rfl rfl rfl rfl rfl rfl rfl ?_
  refine v_digits I A3 fun _ => jk ?_
  rw [nz (dgs _)]
  refine jcs (pc' := 11) 273 [.int (zI 1), _] [] rfl rfl rfl rfl rfl rfl rfl rfl ?_
  refine c_maxI ⟨by omega, by omega⟩ ⟨by omega, by omega⟩ (jk ?_)
  rw [show max (1 : Int) (dgs d.2.2.2.2 : Int) = (ptN d.2.2.2.2 : Int) by omega]
  generalize ptN d.2.2.2.2 = N at *
  have sci : ¬ (d.2.2.2.1 ≤ 0 ∧ -6 ≤ d.2.2.2.1 + N - 1) → ix_E 160 49 [some (.ref 69), some (.ref r), some (.int (zI N)), some (.int (zI (d.2.2.2.1 + N - 1)))] [] h Q := by
    intro hc
    simp only [if_neg hc] at q
    have t84 : ∀ (h1 : ix_H) (T : Nat → AC) (l1 : List Nat), Inv h1 T → ag [69, 70] S T → Wr T l1 → l1.length < 50 → l1 = l ++ (dl d.2.2.2.2 N (N - 1) ++ (if 1 < N then 46 :: dl d.2.2.2.2 (N - 1) 0 else [])) → ix_E 160 84 [some (.ref 69), some (.ref r), some (.int (zI N)), some (.int (zI (d.2.2.2.1 + N - 1)))] [] h1 Q := by
      intro h1 T l1 I g W hl1 e1
      refine jx (pc' := 87) (L' := [_, _, _, _]) (st' := [.int (zI 69), _]) 2 rfl ?_
      refine jcv (pc' := 90) 157 [.int (zI 69)] [] (I.ob (r := 69) W.1) rfl rfl rfl rfl rfl rfl rfl rfl ?_
      refine v_wappend (c := 69) I W (by omega) (by decide) fun h2 T2 I g2 W2 => jk ?_
      refine jx (pc' := 92) (L' := [_, _, _, _]) (st' := [_, _]) 2 rfl ?_
      have t102 : ∀ ch : Nat, ch < 65536 → ch = (if d.2.2.2.1 + N - 1 < 0 then 45 else 43) → ix_E 160 102 [some (.ref 69), some (.ref r), some (.int (zI N)), some (.int (zI (d.2.2.2.1 + N - 1)))] [.int (nI ch), .ref 69] h2 Q := by
        intro ch hch hce
        rw [← hce] at q
        refine jcv (pc' := 105) 157 [_] [] (I.ob (r := 69) W2.1) rfl rfl rfl rfl rfl rfl rfl rfl ?_
        refine v_wappend (c := ch) I W2 (by rw [List.length_append]; simp; omega) hch fun h3 T3 I g3 W3 => jk ?_
        refine jx (pc' := 107) (L' := [_, _, _, _]) (st' := [_, _]) 2 rfl ?_
        refine jcs (pc' := 110) 277 [_] [_] rfl rfl rfl rfl rfl rfl rfl rfl ?_
        refine c_abs ⟨by omega, by omega⟩ (jk ?_)
        refine jcv (pc' := 113) 162 [_] [] (I.ob (r := 69) W3.1) rfl rfl rfl rfl rfl rfl rfl rfl ?_
        refine v_appendNumber I W3 (by rw [List.length_append, List.length_append]; simp; omega) (by omega) fun h4 T4 I g4 W4 => jk ?_
        refine ix_qr _ rfl rfl rfl ?_
        rw [e1] at W4
        simp only [List.append_assoc, List.cons_append, List.nil_append] at W4 q
        exact q _ _ I (((g.tr g2 (fun _ z => z)).tr g3 (fun _ z => z)).tr g4 (fun _ z => z)) W4
      by_cases e2 : d.2.2.2.1 + N - 1 < 0
      · skip
        refine jin (pc' := 95) 100 rfl rfl rfl rfl (by rw [zz_ge ⟨by omega, by omega⟩]; exact decide_eq_false (by omega)) ?_
        refine jx (pc' := 102) (L' := [_, _, _, _]) (st' := [.int (zI 45), _]) 2 rfl ?_
        exact t102 45 (by decide) (by rw [if_pos e2])
      · skip
        refine jit (pc' := 100) rfl rfl rfl (by rw [zz_ge ⟨by omega, by omega⟩]; exact decide_eq_true (by omega)) ?_
        refine jx (pc' := 102) (L' := [_, _, _, _]) (st' := [.int (zI 43), _]) 1 rfl ?_
        exact t102 43 (by decide) (by rw [if_neg e2])
    refine jx (pc' := 51) (L' := [_, _, _, _]) (st' := [_, _]) 2 rfl ?_
    refine jgf (pc' := 54) (I.ob (r := r) A2) rfl rfl rfl rfl rfl ?_
    refine jx (pc' := 58) (L' := [_, _, _, _]) (st' := [_, _, _, _]) 4 rfl ?_
    try simp (disch := omega) only [kz, kzl0, kzl1, kzb, kzs, zI_add, zI_sub, zI_neg, zI_mul, zL_i, zI_l, zL_add, zL_sub, zL_neg]
    rw [show ((N : Int) - 1) = ((N - 1 : Nat) : Int) by omega, ← nz (N - 1), ← nz N]
    refine jcv (pc' := 61) 159 [_, _, _] [] (I.ob (r := 69) W.1) rfl rfl rfl rfl rfl rfl rfl rfl ?_
    refine v_appendDigits I W A3 hn (by omega) (by omega) (by omega) fun h1 T I g W1 => jk ?_
    have Ar : RegD T r d := A.ag g (by decide)
    rw [nz N]
    refine jx (pc' := 63) (L' := [_, _, _, _]) (st' := [.int (zI 1), _]) 2 rfl ?_
    by_cases e3 : 1 < N
    · skip
      refine jcn (pc' := 66) 84 rfl rfl rfl rfl (by rw [zc_le ⟨by omega, by omega⟩ ⟨by omega, by omega⟩]; exact decide_eq_false (by omega)) ?_
      refine jx (pc' := 69) (L' := [_, _, _, _]) (st' := [.int (zI 46), _]) 2 rfl ?_
      refine jcv (pc' := 72) 157 [.int (zI 46)] [] (I.ob (r := 69) W1.1) rfl rfl rfl rfl rfl rfl rfl rfl ?_
      refine v_wappend (c := 46) I W1 (by rw [List.length_append, dl_l]; omega) (by decide) fun h2 T2 I g2 W2 => jk ?_
      have Ar2 : RegD T2 r d := Ar.ag g2 (by decide)
      refine jx (pc' := 74) (L' := [_, _, _, _]) (st' := [_, _]) 2 rfl ?_
      refine jgf (pc' := 77) (I.ob (r := r) Ar2.2.1) rfl rfl rfl rfl rfl ?_
      refine jx (pc' := 81) (L' := [_, _, _, _]) (st' := [.int (zI 0), _, _, _]) 4 rfl ?_
      try simp (disch := omega) only [kz, kzl0, kzl1, kzb, kzs, zI_add, zI_sub, zI_neg, zI_mul, zL_i, zI_l, zL_add, zL_sub, zL_neg]
      rw [show ((N : Int) - 1) = ((N - 1 : Nat) : Int) by omega, ← nz (N - 1)]
      refine jcv (pc' := 84) 159 [_, _, .int (zI 0)] [] (I.ob (r := 69) W2.1) rfl rfl rfl rfl rfl rfl rfl rfl ?_
      refine v_appendDigits (b := 0) I W2 Ar2.2.2.1 hn (by omega) (by omega) (by rw [List.length_append, List.length_append, dl_l]; simp; omega) fun h3 T3 I g3 W3 => jk ?_
      refine t84 _ _ _ I ((g.tr g2 (fun _ z => z)).tr g3 (fun _ z => z)) W3 (by simp [List.length_append, dl_l]; omega) ?_
      rw [if_pos e3, List.append_assoc, List.append_assoc]
      rfl
    · skip
      refine jct (pc' := 84) rfl rfl rfl (by rw [zc_le ⟨by omega, by omega⟩ ⟨by omega, by omega⟩]; exact decide_eq_true (by omega)) ?_
      refine t84 _ _ _ I g W1 (by rw [List.length_append, dl_l]; omega) ?_
      rw [if_neg e3, List.append_nil]
  refine jx (pc' := 13) (L' := [_, _, _, _]) (st' := [_]) 2 rfl ?_
  refine jgf (pc' := 16) (I.ob (r := r) A2) rfl rfl rfl rfl rfl ?_
  refine jx (pc' := 22) (L' := [_, _, _, _]) (st' := [_]) 6 rfl ?_
  try simp (disch := omega) only [kz, kzl0, kzl1, kzb, kzs, zI_add, zI_sub, zI_neg, zI_mul, zL_i, zI_l, zL_add, zL_sub, zL_neg]
  refine jgf (pc' := 25) (I.ob (r := r) A2) rfl rfl rfl rfl rfl ?_
  by_cases e1 : d.2.2.2.1 ≤ 0
  · skip
    refine jin (pc' := 28) 49 rfl rfl rfl rfl (by rw [zz_gt ⟨by omega, by omega⟩]; exact decide_eq_false (by omega)) ?_
    refine jx (pc' := 31) (L' := [_, _, _, _]) (st' := [.int (zI (-6)), _]) 2 rfl ?_
    by_cases e2 : -6 ≤ d.2.2.2.1 + N - 1
    · have hc : d.2.2.2.1 ≤ 0 ∧ -6 ≤ d.2.2.2.1 + N - 1 := ⟨e1, e2⟩
      simp only [if_pos hc] at q
      refine jcn (pc' := 34) 49 rfl rfl rfl rfl (by rw [zc_lt ⟨by omega, by omega⟩ ⟨by omega, by omega⟩]; exact decide_eq_false (by omega)) ?_
      refine jx (pc' := 36) (L' := [_, _, _, _]) (st' := [_, _]) 2 rfl ?_
      refine jgf (pc' := 39) (I.ob (r := r) A2) rfl rfl rfl rfl rfl ?_
      refine jx (pc' := 41) (L' := [_, _, _, _]) (st' := [_, _, _, _]) 2 rfl ?_
      refine jgf (pc' := 44) (I.ob (r := r) A2) rfl rfl rfl rfl rfl ?_
      refine jx (pc' := 45) (L' := [_, _, _, _]) (st' := [_, _, _, _]) 1 rfl ?_
      try simp (disch := omega) only [kz, kzl0, kzl1, kzb, kzs, zI_add, zI_sub, zI_neg, zI_mul, zL_i, zI_l, zL_add, zL_sub, zL_neg]
      rw [(zn (p := -d.2.2.2.1) ⟨by omega, by omega⟩ (by omega)).1, ← nz N]
      refine jcv (pc' := 48) 161 [_, _, _] [] (I.ob (r := 69) W.1) rfl rfl rfl rfl rfl rfl rfl rfl ?_
      refine v_putPlain I W A3 (by omega) (by omega) hl fun h1 T I g W1 => jk ?_
      refine ix_qr _ rfl rfl rfl ?_
      exact q _ _ I g W1
    · skip
      refine jct (pc' := 49) rfl rfl rfl (by rw [zc_lt ⟨by omega, by omega⟩ ⟨by omega, by omega⟩]; exact decide_eq_true (by omega)) ?_
      exact sci (fun z => e2 z.2)
  · skip
    refine jit (pc' := 49) rfl rfl rfl (by rw [zz_gt ⟨by omega, by omega⟩]; exact decide_eq_true (by omega)) ?_
    exact sci (fun z => e1 z.1)
/-- TextWriter.put -/
theorem v_put {l0 : List Nat} (I : Inv h S) (W : Wr S l0) (A : RegD S r d) (q : ∀ h' S', Inv h' S' → ag [69, 70] S S' → Wr S' (wtR d) → Q (.inl none) h') : ix_M 156 [.ref 69, .ref r] h Q := by
  have vA := A.2.2.2
  have bA := vA.b
  have dA := vA.d
  have hr := A.1
  obtain ⟨w1, o, w2, w3⟩ := W
  unfold wtR at q
  have t18 : ∀ (h1 : ix_H) (T : Nat → AC) (l : List Nat), Inv h1 T → ag [69, 70] S T → Wr T l → l.length < 2 → l = (if d.2.2.1 then [45] else []) → ix_E 156 18 [some (.ref 69), some (.ref r)] [] h1 Q := by
    intro h1 T l I g W hl e0
    rw [← e0] at q
    have Ar : RegD T r d := A.ag g (by decide)
    refine jx (pc' := 19) (L' := [_, _]) (st' := [_]) 1 rfl ?_
    refine jcv (pc' := 22) 78 [] [] (I.ob (r := r) Ar.2.1) rfl rfl rfl rfl rfl rfl rfl rfl ?_
    refine v_isInfinite I Ar.2.1 vA.2.1 (jk ?_)
    by_cases e1 : d.2.1 = 1
    · simp only [if_pos e1] at q
      refine jin (pc' := 25) 34 rfl rfl rfl rfl (by rw [bz_eq]; simp [e1]) ?_
      refine jx (pc' := 28) (L' := [_, _]) (st' := [_, _]) 2 rfl ?_
      refine jcv (pc' := 31) 158 [_] [] (I.ob (r := 69) W.1) rfl rfl rfl rfl rfl rfl rfl rfl ?_
      refine v_appendWord (r := 4) I W (by decide) (by omega) fun h2 T2 I g2 W2 => jk ?_
      refine jx (pc' := 84) (L' := [_, _]) (st' := []) 1 rfl ?_
      refine ix_qr _ rfl rfl rfl ?_
      exact q _ _ I (g.tr g2 (fun _ z => z)) W2
    · simp only [if_neg e1] at q
      refine jit (pc' := 34) rfl rfl rfl (by rw [bz_eq]; simp [e1]) ?_
      refine jx (pc' := 35) (L' := [_, _]) (st' := [_]) 1 rfl ?_
      refine jcv (pc' := 38) 79 [] [] (I.ob (r := r) Ar.2.1) rfl rfl rfl rfl rfl rfl rfl rfl ?_
      refine v_isNaN I Ar.2.1 vA.2.1 (jk ?_)
      by_cases e2 : 2 ≤ d.2.1
      · simp only [if_pos e2] at q
        refine jin (pc' := 41) 79 rfl rfl rfl rfl (by rw [bz_eq]; simp [e2]) ?_
        refine jx (pc' := 43) (L' := [_, _]) (st' := [_, _]) 2 rfl ?_
        refine jgf (pc' := 46) (I.ob (r := r) Ar.2.1) rfl rfl rfl rfl rfl ?_
        refine jx (pc' := 47) (L' := [_, _]) (st' := [.int (nI 2), _, _]) 1 rfl ?_
        have tn : ∀ k : Nat, k < 7 → sc k = (if d.2.1 = 2 then sc 5 else sc 6) → ix_E 156 57 [some (.ref 69), some (.ref r)] [.ref (k + 8), .ref 69] h1 Q := by
          intro k hk hke
          rw [← hke] at q
          refine jcv (pc' := 60) 158 [_] [] (I.ob (r := 69) W.1) rfl rfl rfl rfl rfl rfl rfl rfl ?_
          refine v_appendWord (r := k) I W hk (by omega) fun h2 T2 I g2 W2 => jk ?_
          have Ar2 : RegD T2 r d := Ar.ag g2 (by decide)
          have hsl := sc_l hk
          refine jx (pc' := 62) (L' := [_, _]) (st' := [_, _]) 2 rfl ?_
          refine jgf (pc' := 65) (I.ob (r := r) Ar2.2.1) rfl rfl rfl rfl rfl ?_
          refine jx (pc' := 66) (L' := [_, _]) (st' := [_, _, _]) 1 rfl ?_
          refine jgf (pc' := 69) (I.ob (r := r) Ar2.2.1) rfl rfl rfl rfl rfl ?_
          refine jcv (pc' := 72) 52 [] [_, _] (I.no (r := (r+1)) Ar2.2.2.1) rfl rfl rfl rfl rfl rfl rfl rfl ?_
          refine v_digits I Ar2.2.2.1 fun _ => jk ?_
          refine jx (pc' := 73) (L' := [_, _]) (st' := [.int (nI 0), _, _, _]) 1 rfl ?_
          refine jcv (pc' := 76) 159 [_, _, .int (nI 0)] [] (I.ob (r := 69) W2.1) rfl rfl rfl rfl rfl rfl rfl rfl ?_
          refine v_appendDigits (b := 0) I W2 Ar2.2.2.1 (W2.nn Ar2.2.2.1) (by omega) (by omega) (by rw [List.length_append]; omega) fun h3 T3 I g3 W3 => jk ?_
          refine jx (pc' := 84) (L' := [_, _]) (st' := []) 1 rfl ?_
          refine ix_qr _ rfl rfl rfl ?_
          rw [List.append_assoc] at W3
          exact q _ _ I ((g.tr g2 (fun _ z => z)).tr g3 (fun _ z => z)) W3
        have hs := vA.2.1
        by_cases e3 : d.2.1 = 2
        · skip
          refine jcn (pc' := 50) 55 rfl rfl rfl rfl (by rw [cc_ne (by omega) (by omega)]; exact decide_eq_false (by omega)) ?_
          refine jx (pc' := 57) (L' := [_, _]) (st' := [_, _]) 2 rfl ?_
          exact tn 5 (by decide) (by rw [if_pos e3])
        · skip
          refine jct (pc' := 55) rfl rfl rfl (by rw [cc_ne (by omega) (by omega)]; exact decide_eq_true (by omega)) ?_
          refine jx (pc' := 57) (L' := [_, _]) (st' := [_, _]) 1 rfl ?_
          exact tn 6 (by decide) (by rw [if_neg e3])
      · simp only [if_neg e2] at q
        refine jit (pc' := 79) rfl rfl rfl (by rw [bz_eq]; simp [e2]) ?_
        refine jx (pc' := 81) (L' := [_, _]) (st' := [_, _]) 2 rfl ?_
        refine jcv (pc' := 84) 160 [_] [] (I.ob (r := 69) W.1) rfl rfl rfl rfl rfl rfl rfl rfl ?_
        refine v_putFinite I W Ar (by omega) fun h2 T2 I g2 W2 => jk ?_
        refine ix_qr _ rfl rfl rfl ?_
        exact q _ _ I (g.tr g2 (fun _ z => z)) W2
  refine jx (pc' := 2) (L' := [_, _]) (st' := [.int (nI 0), _]) 2 rfl ?_
  refine jpA (pc' := 5) (r := 69) I w1 rfl rfl rfl (Nat.le_of_ble_eq_true rfl) (by intro z; cases z) rfl rfl rfl fun _ I w1 => ?_
  have A1 : RegD (va_up S 69 (aC (cO 9 [.ref 70, .int (nI 0)]))) r d := A.up (by decide)
  have W0 : Wr (va_up S 69 (aC (cO 9 [.ref 70, .int (nI 0)]))) [] := ⟨rfl, o, w2, fun j hj => by simp at hj⟩
  have g0 : ag [69, 70] S (va_up S 69 (aC (cO 9 [.ref 70, .int (nI 0)]))) := (ag_0 _ S).up (by decide)
  refine jx (pc' := 6) (L' := [_, _]) (st' := [_]) 1 rfl ?_
  refine jgf (pc' := 9) (I.ob (r := r) A1.2.1) rfl rfl rfl rfl rfl ?_
  cases hng : d.2.2.1 with
  | true =>
    refine jin (pc' := 12) 18 rfl rfl rfl rfl (rfl) ?_
    refine jx (pc' := 15) (L' := [_, _]) (st' := [.int (nI 45), _]) 2 rfl ?_
    refine jcv (pc' := 18) 157 [.int (nI 45)] [] (I.ob (r := 69) W0.1) rfl rfl rfl rfl rfl rfl rfl rfl ?_
    refine v_wappend (c := 45) I W0 (by decide) (by decide) fun h2 T2 I g2 W2 => jk ?_
    exact t18 _ _ _ I (g0.tr g2 (fun _ z => z)) W2 (by decide) (by rw [hng]; rfl)
  | false =>
    refine jit (pc' := 18) rfl rfl rfl (rfl) ?_
    exact t18 _ _ _ I g0 W0 (by decide) (by rw [hng]; rfl)
end TXT
