/-! ===== TextWriter: appendNumber, putPlain, putFinite, put ===== -/
def ptP (co n bh : Nat) : List Nat := (if bh < n then dl co n bh else [48]) ++ (if 0 < bh then 46 :: dl co bh 0 else [])
noncomputable def ptN (co : Nat) : Nat := max 1 (dgs co)
noncomputable def ptF (ex : Int) (co : Nat) : List Nat :=
  if ex ≤ 0 ∧ -6 ≤ ex + ptN co - 1 then ptP co (ptN co) (-ex).toNat else
  dl co (ptN co) (ptN co - 1) ++ ((if 1 < ptN co then 46 :: dl co (ptN co - 1) 0 else []) ++ (69 :: (if ex + ptN co - 1 < 0 then 45 else 43) :: nml (ex + ptN co - 1).natAbs))
noncomputable def wtR (d : Dm) : List Nat :=
  (if d.2.2.1 then [45] else []) ++ (if d.2.1 = 1 then sc 4 else if 2 ≤ d.2.1 then (if d.2.1 = 2 then sc 5 else sc 6) ++ dl d.2.2.2.2 (dgs d.2.2.2.2) 0 else ptF d.2.2.2.1 d.2.2.2.2)
section TXT
variable {h : ix_H} {Q : ix_O → ix_H → Prop} {S : Nat → AC} {l : List Nat} {c r x n a b v : Nat}
/-- one turn of appendNumber's second loop -/
theorem v_anStep {u : Nat} (I : Inv h S) (W : Wr S l) (hl : l.length < 64) (hv : v < 10000) (hu : 0 < u ∧ u ≤ 1000) (q : ∀ h' S', Inv h' S' → ag [69, 70] S S' → Wr S' (l ++ [48 + v / u % 10]) → ix_E 162 25 [some (.ref 69), some (.int (nI v)), some (.int (nI (u / 10)))] [] h' Q) : ix_E 162 25 [some (.ref 69), some (.int (nI v)), some (.int (nI u))] [] h Q := by
  have hd : v / u % 10 < 10 := Nat.mod_lt _ (by decide)
  have hvu : v / u ≤ v := Nat.div_le_self _ _
  refine jx (pc' := 26) (L' := [_, _, _]) (st' := [_]) 1 rfl ?_
  refine jin (pc' := 29) 51 rfl rfl rfl rfl (by rw [cz_le (by omega)]; exact decide_eq_false (by omega)) ?_
  refine jx (pc' := 34) (L' := [_, _, _]) (st' := [_, _, .int (nI 48), _]) 4 rfl ?_
  refine jidiv (pc' := 35) rfl rfl (by rw [nz, z0]; intro e; have := congrArg Int32.toInt e; rw [zI_t ⟨by omega, by omega⟩, zI_t ⟨by omega, by omega⟩] at this; omega) rfl ?_
  rw [nI_div (by omega) (by omega)]
  refine jx (pc' := 37) (L' := [_, _, _]) (st' := [.int (nI 10), _, .int (nI 48), _]) 1 rfl ?_
  refine jirem (pc' := 38) rfl rfl (by decide) rfl ?_
  generalize v / u = y at *
  rw [nI_rem (by omega) (by decide)]
  refine jx (pc' := 40) (L' := [_, _, _]) (st' := [_, _]) 2 rfl ?_
  try simp (disch := omega) only [nI_add, nI_mul, nI_sub, Nat.zero_mul, Nat.one_mul, Nat.sub_zero, Nat.add_zero, Nat.zero_add, Nat.add_sub_cancel]
  rw [i2c_n (by omega)]
  refine jcv (pc' := 43) 157 [_] [] (I.ob (r := 69) W.1) rfl rfl rfl rfl rfl rfl rfl rfl ?_
  refine v_wappend I W hl (by omega) fun h1 T I g W1 => jk ?_
  refine jx (pc' := 46) (L' := [_, _, _]) (st' := [.int (nI 10), _]) 2 rfl ?_
  refine jidiv (pc' := 47) rfl rfl (by decide) rfl ?_
  rw [nI_div (by omega) (by decide)]
  refine jx (pc' := 25) (L' := [_, _, _]) (st' := []) 2 rfl ?_
  exact q _ _ I g W1
theorem v_appendNumber (I : Inv h S) (W : Wr S l) (hl : l.length + 4 ≤ 64) (hv : v < 10000) (q : ∀ h' S', Inv h' S' → ag [69, 70] S S' → Wr S' (l ++ nml v) → Q (.inl none) h') : ix_M 162 [.ref 69, .int (nI v)] h Q := by
  have fin : ∀ (h1 : ix_H) (T : Nat → AC) (l1 : List Nat), Inv h1 T → ag [69, 70] S T → Wr T l1 → l1 = l ++ nml v → ix_E 162 25 [some (.ref 69), some (.int (nI v)), some (.int (nI 0))] [] h1 Q := by
    intro h1 T l1 I g W e
    subst e
    refine jx (pc' := 26) (L' := [_, _, _]) (st' := [_]) 1 rfl ?_
    refine jit (pc' := 51) rfl rfl rfl (by decide) ?_
    refine ix_qr _ rfl rfl rfl ?_
    exact q _ _ I g W
  have s1 : ∀ (h1 : ix_H) (T : Nat → AC) (l1 : List Nat), Inv h1 T → ag [69, 70] S T → Wr T l1 → l1.length < 64 → l1 ++ [48 + v % 10] = l ++ nml v → ix_E 162 25 [some (.ref 69), some (.int (nI v)), some (.int (nI 1))] [] h1 Q := by
    intro h1 T l1 I g W hl1 e
    refine v_anStep (u := 1) I W hl1 hv (by decide) fun h2 T2 I g2 W2 => ?_
    rw [Nat.div_one] at W2
    exact fin _ _ _ I (g.tr g2 (fun _ z => z)) W2 e
  have s2 : ∀ (h1 : ix_H) (T : Nat → AC) (l1 : List Nat), Inv h1 T → ag [69, 70] S T → Wr T l1 → l1.length < 63 → l1 ++ [48 + v / 10 % 10] ++ [48 + v % 10] = l ++ nml v → ix_E 162 25 [some (.ref 69), some (.int (nI v)), some (.int (nI 10))] [] h1 Q := by
    intro h1 T l1 I g W hl1 e
    refine v_anStep (u := 10) I W (by omega) hv (by decide) fun h2 T2 I g2 W2 => ?_
    exact s1 _ _ _ I (g.tr g2 (fun _ z => z)) W2 (by rw [List.length_append]; simp; omega) e
  have s3 : ∀ (h1 : ix_H) (T : Nat → AC) (l1 : List Nat), Inv h1 T → ag [69, 70] S T → Wr T l1 → l1.length < 62 → l1 ++ [48 + v / 100 % 10] ++ [48 + v / 10 % 10] ++ [48 + v % 10] = l ++ nml v → ix_E 162 25 [some (.ref 69), some (.int (nI v)), some (.int (nI 100))] [] h1 Q := by
    intro h1 T l1 I g W hl1 e
    refine v_anStep (u := 100) I W (by omega) hv (by decide) fun h2 T2 I g2 W2 => ?_
    exact s2 _ _ _ I (g.tr g2 (fun _ z => z)) W2 (by rw [List.length_append]; simp; omega) e
  have s4 : ∀ (h1 : ix_H) (T : Nat → AC) (l1 : List Nat), Inv h1 T → ag [69, 70] S T → Wr T l1 → l1.length < 61 → l1 ++ [48 + v / 1000 % 10] ++ [48 + v / 100 % 10] ++ [48 + v / 10 % 10] ++ [48 + v % 10] = l ++ nml v → ix_E 162 25 [some (.ref 69), some (.int (nI v)), some (.int (nI 1000))] [] h1 Q := by
    intro h1 T l1 I g W hl1 e
    refine v_anStep (u := 1000) I W (by omega) hv (by decide) fun h2 T2 I g2 W2 => ?_
    exact s3 _ _ _ I (g.tr g2 (fun _ z => z)) W2 (by rw [List.length_append]; simp; omega) e
  unfold nml at s1 s2 s3 s4
  refine jx (pc' := 6) (L' := [_, _, _]) (st' := [.int (nI 1000), _]) 4 rfl ?_
  try simp (disch := omega) only [ki1, ks1000, nI_add, nI_mul, nI_sub, Nat.zero_mul, Nat.one_mul, Nat.sub_zero, Nat.add_zero, Nat.zero_add, Nat.add_sub_cancel]
  refine jcn (pc' := 9) 25 rfl rfl rfl rfl (by decide) ?_
  refine jx (pc' := 11) (L' := [_, _, _]) (st' := [_, _]) 2 rfl ?_
  refine jidiv (pc' := 12) rfl rfl (by decide) rfl ?_
  rw [nI_div (by omega) (by decide), Nat.div_one]
  refine jx (pc' := 14) (L' := [_, _, _]) (st' := [.int (nI 10), _]) 1 rfl ?_
  by_cases e1 : v < 10
  · rw [if_pos e1] at s1
    refine jct (pc' := 25) rfl rfl rfl (by rw [cc_lt (by omega) (by omega)]; exact decide_eq_true (by omega)) ?_
    exact s1 _ _ _ I (ag_0 _ S) W (by omega) (by rw [Nat.mod_eq_of_lt e1])
  · rw [if_neg e1] at s2 s3 s4
    refine jcn (pc' := 17) 25 rfl rfl rfl rfl (by rw [cc_lt (by omega) (by omega)]; exact decide_eq_false (by omega)) ?_
    refine jx (pc' := 6) (L' := [_, _, _]) (st' := [.int (nI 1000), _]) 7 rfl ?_
    try simp (disch := omega) only [kb10, ks1000, nI_add, nI_mul, nI_sub, Nat.zero_mul, Nat.one_mul, Nat.sub_zero, Nat.add_zero, Nat.zero_add, Nat.add_sub_cancel]
    refine jcn (pc' := 9) 25 rfl rfl rfl rfl (by decide) ?_
    refine jx (pc' := 11) (L' := [_, _, _]) (st' := [_, _]) 2 rfl ?_
    refine jidiv (pc' := 12) rfl rfl (by decide) rfl ?_
    try simp only [nI_mul, Nat.reduceMul]
    rw [nI_div (by omega) (by decide)]
    refine jx (pc' := 14) (L' := [_, _, _]) (st' := [.int (nI 10), _]) 1 rfl ?_
    by_cases e2 : v < 100
    · rw [if_pos e2] at s2
      refine jct (pc' := 25) rfl rfl rfl (by rw [cc_lt (by omega) (by omega)]; exact decide_eq_true (by omega)) ?_
      exact s2 _ _ _ I (ag_0 _ S) W (by omega) (by rw [Nat.mod_eq_of_lt (show v / 10 < 10 by omega), List.append_assoc]; rfl)
    · rw [if_neg e2] at s3 s4
      refine jcn (pc' := 17) 25 rfl rfl rfl rfl (by rw [cc_lt (by omega) (by omega)]; exact decide_eq_false (by omega)) ?_
      refine jx (pc' := 6) (L' := [_, _, _]) (st' := [.int (nI 1000), _]) 7 rfl ?_
      try simp (disch := omega) only [kb10, ks1000, nI_add, nI_mul, nI_sub, Nat.zero_mul, Nat.one_mul, Nat.sub_zero, Nat.add_zero, Nat.zero_add, Nat.add_sub_cancel]
      refine jcn (pc' := 9) 25 rfl rfl rfl rfl (by decide) ?_
      refine jx (pc' := 11) (L' := [_, _, _]) (st' := [_, _]) 2 rfl ?_
      refine jidiv (pc' := 12) rfl rfl (by decide) rfl ?_
      try simp only [nI_mul, Nat.reduceMul]
      rw [nI_div (by omega) (by decide)]
      refine jx (pc' := 14) (L' := [_, _, _]) (st' := [.int (nI 10), _]) 1 rfl ?_
      by_cases e3 : v < 1000
      · rw [if_pos e3] at s3
        refine jct (pc' := 25) rfl rfl rfl (by rw [cc_lt (by omega) (by omega)]; exact decide_eq_true (by omega)) ?_
        exact s3 _ _ _ I (ag_0 _ S) W (by omega) (by rw [Nat.mod_eq_of_lt (show v / 100 < 10 by omega), List.append_assoc, List.append_assoc]; rfl)
      · rw [if_neg e3] at s4
        refine jcn (pc' := 17) 25 rfl rfl rfl rfl (by rw [cc_lt (by omega) (by omega)]; exact decide_eq_false (by omega)) ?_
        refine jx (pc' := 6) (L' := [_, _, _]) (st' := [.int (nI 1000), _]) 7 rfl ?_
        try simp (disch := omega) only [kb10, ks1000, nI_add, nI_mul, nI_sub, Nat.zero_mul, Nat.one_mul, Nat.sub_zero, Nat.add_zero, Nat.zero_add, Nat.add_sub_cancel]
        refine jcn (pc' := 9) 25 rfl rfl rfl rfl (by decide) ?_
        refine jx (pc' := 11) (L' := [_, _, _]) (st' := [_, _]) 2 rfl ?_
        refine jidiv (pc' := 12) rfl rfl (by decide) rfl ?_
        try simp only [nI_mul, Nat.reduceMul]
        rw [nI_div (by omega) (by decide)]
        refine jx (pc' := 14) (L' := [_, _, _]) (st' := [.int (nI 10), _]) 1 rfl ?_
        refine jct (pc' := 25) rfl rfl rfl (by rw [cc_lt (by omega) (by omega)]; exact decide_eq_true (by omega)) ?_
        exact s4 _ _ _ I (ag_0 _ S) W (by omega) (by rw [Nat.mod_eq_of_lt (show v / 1000 < 10 by omega), List.append_assoc, List.append_assoc, List.append_assoc]; rfl)
end TXT
