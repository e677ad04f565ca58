/-! ===== Rounding: roundInexact ===== -/
section RND
variable {h : ix_H} {Q : ix_O → ix_H → Prop} {S : Nat → AC} {fm so co c dir co' : Nat} {ng ng' ng2 mo mo' : Bool} {ex ex2 wi ex' wi' : Int}
theorem v_roundInexact (I : Inv h S) (X : S 38 = aC (uC 38 ng mo ex wi)) (XC : S 39 = aN c) (R : S 35 = aC (dC 35 fm so ng2 ex2)) (RC : S 36 = aN co) (hd : dir < 5) (hf : fm < 3) (hs : so < 4) (hx : zr ex2) (hc : c + 1 < 10 ^ 144) (he : -1099511627776 ≤ ex ∧ ex ≤ 1099511627776) (q : ∀ h' S', Inv h' S' → ag [35, 36, 38, 39] S S' → S' 35 = aC (dC 35 fm (rInx fm dir ng mo ex c).1 ng2 (rInx fm dir ng mo ex c).2.1) → S' 36 = aN (rInx fm dir ng mo ex c).2.2.1 → isU S' 38 → Q (.inl (some (.int (nI (rInx fm dir ng mo ex c).2.2.2)))) h') : ix_M 104 [.ref 38, .int (nI dir), .ref 35] h Q := by
  obtain ⟨f1, f2, f3, f4, f5, f6, f7⟩ := f3b hf
  obtain ⟨g1, g2⟩ := gEb hf
  have hg : gE fm = (fE fm : Int) - fD fm + 1 := rfl
  have hdg : dgs c ≤ 144 := dgs_le (by omega)
  have hq0 : rQ fm ex c = max (ex + dgs c - fD fm) (-(fB fm : Int)) := rfl
  have hq1 : -(fB fm : Int) ≤ rQ fm ex c := by omega
  have hq2 : ex + dgs c - fD fm ≤ rQ fm ex c := by omega
  have hq3 : rQ fm ex c ≤ 1099511627776 + 144 := by omega
  have tail2 : ∀ (q' : Int) (V : Nat) (tiny : Bool) (h1 : ix_H), Inv h1 (va_up S 39 (aN V)) → -(fB fm : Int) ≤ q' → q' ≤ gE fm + 1 → rInx fm dir ng mo ex c = (if gE fm < q' then rOvf fm dir ng else (0, q', V, if tiny then 24 else 16)) → ix_E 104 148 [some (.ref 38), some (.int (nI dir)), some (.ref 35), some (.int (nI fm)), some (.int (zI (dgs c))), some (.long (zL ((fE fm : Int) - fD fm + 1))), none, some (.long (zL q')), none, some (.int (bI tiny))] [] h1 Q := by
    intro q' V tiny h1 I b1 b2 hE
    refine jx (pc' := 153) (L' := [_, _, _, _, _, _, _, _, _, _]) (st' := [_]) 3 rfl ?_
    try simp (disch := omega) only [kz, kzl0, kzl1, kzb, kzs, zI_add, zI_sub, zI_neg, zI_mul, zL_i, zI_l, zL_add, zL_sub, zL_neg]
    by_cases hov : gE fm < q'
    · skip
      rw [if_pos hov] at hE
      rw [hE] at q
      refine jin (pc' := 156) 163 rfl rfl rfl rfl (by rw [zl_le ⟨by omega, by omega⟩ ⟨by omega, by omega⟩]; exact decide_eq_false (by omega)) ?_
      refine jx (pc' := 159) (L' := [_, _, _, _, _, _, _, _, _, _]) (st' := [_, _, _]) 3 rfl ?_
      refine jcs (pc' := 162) 105 [_, _, _] [] rfl rfl rfl rfl rfl rfl rfl rfl ?_
      refine v_overflow (S := va_up S 39 (aN V)) I X R RC hd hf hs hx fun _ I => jk ?_
      refine jri rfl rfl ?_
      exact q _ _ I ((((ag_0 _ S).up (by decide)).up (by decide)).up (by decide)) rfl rfl ⟨_, _, _, _, _, X, rfl⟩
    · skip
      rw [if_neg hov] at hE
      rw [hE] at q
      refine jit (pc' := 163) rfl rfl rfl (by rw [zl_le ⟨by omega, by omega⟩ ⟨by omega, by omega⟩]; exact decide_eq_true (by omega)) ?_
      refine jx (pc' := 165) (L' := [_, _, _, _, _, _, _, _, _, _]) (st' := [_, _]) 2 rfl ?_
      refine jgf (pc' := 168) (I.ob (r := 38) X) rfl rfl rfl rfl rfl ?_
      refine jx (pc' := 171) (L' := [_, _, _, _, _, _, _, _, _, _]) (st' := [_, _, _]) 2 rfl ?_
      try simp (disch := omega) only [kz, kzl0, kzl1, kzb, kzs, zI_add, zI_sub, zI_neg, zI_mul, zL_i, zI_l, zL_add, zL_sub, zL_neg]
      refine jcv (pc' := 174) 84 [_, _] [] (I.ob (r := 35) R) rfl rfl rfl rfl rfl rfl rfl rfl ?_
      refine v_setFinite (r := 35) (b := 39) I R RC rfl hf hs hx (by decide) fun _ I => jk ?_
      refine jx (pc' := 176) (L' := [_, _, _, _, _, _, _, _, _, _]) (st' := [_]) 1 rfl ?_
      cases tiny with
      | true =>
        refine jin (pc' := 179) 184 rfl rfl rfl rfl (rfl) ?_
        refine jx (pc' := 186) (L' := [_, _, _, _, _, _, _, _, _, _]) (st' := [.int (zI 24)]) 2 rfl ?_
        refine jri rfl rfl ?_
        exact q _ _ I ((((ag_0 _ S).up (by decide)).up (by decide)).up (by decide)) rfl rfl ⟨_, _, _, _, _, X, rfl⟩
      | false =>
        refine jit (pc' := 184) rfl rfl rfl (rfl) ?_
        refine jx (pc' := 186) (L' := [_, _, _, _, _, _, _, _, _, _]) (st' := [.int (zI 16)]) 1 rfl ?_
        refine jri rfl rfl ?_
        exact q _ _ I ((((ag_0 _ S).up (by decide)).up (by decide)).up (by decide)) rfl rfl ⟨_, _, _, _, _, X, rfl⟩
  have tail : ¬ gE fm < rQ fm ex c → ∀ tiny : Bool, tiny = decide (ex + dgs c ≤ 1 - fE fm) → ix_E 104 86 [some (.ref 38), some (.int (nI dir)), some (.ref 35), some (.int (nI fm)), some (.int (zI (dgs c))), some (.long (zL ((fE fm : Int) - fD fm + 1))), none, some (.long (zL (rQ fm ex c))), none, none] [.int (bI tiny)] h Q := by
    intro hov tiny ht
    have ht2 : (if ex + dgs c ≤ 1 - fE fm then 24 else 16) = (if tiny then 24 else 16) := by
      rw [ht]
      by_cases z : ex + dgs c ≤ 1 - fE fm <;> simp [z]
    have hm1 : min (rQ fm ex c - ex) 200 ≤ 200 := by omega
    have hm2 : -34 ≤ min (rQ fm ex c - ex) 200 := by omega
    refine jx (pc' := 89) (L' := [_, _, _, _, _, _, _, _, _, _]) (st' := [_]) 2 rfl ?_
    refine jgf (pc' := 92) (I.ob (r := 38) X) rfl rfl rfl rfl rfl ?_
    refine jx (pc' := 95) (L' := [_, _, _, _, _, _, _, _, _, _]) (st' := [_, _, _]) 2 rfl ?_
    refine jgf (pc' := 98) (I.ob (r := 38) X) rfl rfl rfl rfl rfl ?_
    refine jx (pc' := 102) (L' := [_, _, _, _, _, _, _, _, _, _]) (st' := [_, _, _]) 2 rfl ?_
    try simp (disch := omega) only [kL200, kz, kzl0, kzl1, kzb, kzs, zI_add, zI_sub, zI_neg, zI_mul, zL_i, zI_l, zL_add, zL_sub, zL_neg]
    refine jcs (pc' := 105) 272 [_, _] [_] rfl rfl rfl rfl rfl rfl rfl rfl ?_
    refine c_minL ⟨by omega, by omega⟩ ⟨by omega, by omega⟩ (jk ?_)
    refine jx (pc' := 107) (L' := [_, _, _, _, _, _, _, _, _, _]) (st' := [_, _, _]) 2 rfl ?_
    try simp (disch := omega) only [kz, kzl0, kzl1, kzb, kzs, zI_add, zI_sub, zI_neg, zI_mul, zL_i, zI_l, zL_add, zL_sub, zL_neg]
    refine jgf (pc' := 110) (I.ob (r := 38) X) rfl rfl rfl rfl rfl ?_
    refine jx (pc' := 112) (L' := [_, _, _, _, _, _, _, _, _, _]) (st' := [_, _, _, _, _]) 2 rfl ?_
    refine jgf (pc' := 115) (I.ob (r := 38) X) rfl rfl rfl rfl rfl ?_
    refine jcs (pc' := 118) 101 [_, _, _, _, _] [] rfl rfl rfl rfl rfl rfl rfl rfl ?_
    refine v_cut (a := 39) I XC ⟨by omega, by omega⟩ hd hc fun _ I => jk ?_
    refine jx (pc' := 120) (L' := [_, _, _, _, _, _, _, _, _, _]) (st' := [_]) 2 rfl ?_
    refine jgf (pc' := 123) (I.ob (r := 38) X) rfl rfl rfl rfl rfl ?_
    refine jcv (pc' := 126) 52 [] [] (I.no (r := 39) rfl) rfl rfl rfl rfl rfl rfl rfl rfl ?_
    refine v_digits (a := 39) I rfl fun hdg2 => jk ?_
    rw [nz (dgs _)]
    refine jx (pc' := 130) (L' := [_, _, _, _, _, _, _, _, _, _]) (st' := [_, _, _]) 2 rfl ?_
    refine jat (pc' := 131) I.tab rfl rfl ⟨by decide, hf⟩ rfl ?_
    rw [tv1 hf]
    by_cases h2 : fD fm < dgs (cutV c (min (rQ fm ex c - ex) 200) mo dir ng)
    · skip
      refine jcn (pc' := 134) 148 rfl rfl rfl rfl (by rw [zc_le ⟨by omega, by omega⟩ ⟨by omega, by omega⟩]; exact decide_eq_false (by omega)) ?_
      refine jx (pc' := 135) (L' := [_, _, _, _, _, _, _, _, _, _]) (st' := [_]) 1 rfl ?_
      refine jgf (pc' := 138) (I.ob (r := 38) X) rfl rfl rfl rfl rfl ?_
      refine jx (pc' := 139) (L' := [_, _, _, _, _, _, _, _, _, _]) (st' := [.int (zI 1), _]) 1 rfl ?_
      refine jcv (pc' := 142) 64 [.int (zI 1)] [] (I.no (r := 39) rfl) rfl rfl rfl rfl rfl rfl rfl rfl ?_
      refine v_shiftDown (a := 39) (p := 1) I rfl ⟨by decide, by decide⟩ fun _ I => jk ?_
      rw [va_up_up, show (10 : Nat) ^ (1 : Int).toNat = 10 from rfl] at I
      refine jx (pc' := 148) (L' := [_, _, _, _, _, _, _, _, _, _]) (st' := []) 4 rfl ?_
      try simp (disch := omega) only [kz, kzl0, kzl1, kzb, kzs, zI_add, zI_sub, zI_neg, zI_mul, zL_i, zI_l, zL_add, zL_sub, zL_neg]
      refine tail2 _ _ tiny _ I (by omega) (by omega) ?_
      unfold rInx
      rw [if_neg hov, if_pos h2, ht2]
    · skip
      refine jct (pc' := 148) rfl rfl rfl (by rw [zc_le ⟨by omega, by omega⟩ ⟨by omega, by omega⟩]; exact decide_eq_true (by omega)) ?_
      refine tail2 _ _ tiny _ I (by omega) (by omega) ?_
      unfold rInx
      rw [if_neg hov, if_neg h2, if_neg hov, ht2]
  refine jx (pc' := 1) (L' := [_, _, _, _, _, _, _, _, _, _]) (st' := [_]) 1 rfl ?_
  refine jgf (pc' := 4) (I.ob (r := 35) R) rfl rfl rfl rfl rfl ?_
  refine jx (pc' := 6) (L' := [_, _, _, _, _, _, _, _, _, _]) (st' := [_]) 2 rfl ?_
  refine jgf (pc' := 9) (I.ob (r := 38) X) rfl rfl rfl rfl rfl ?_
  refine jcv (pc' := 12) 52 [] [] (I.no (r := 39) XC) rfl rfl rfl rfl rfl rfl rfl rfl ?_
  refine v_digits (a := 39) I XC fun hdg => jk ?_
  rw [nz (dgs _)]
  refine jx (pc' := 15) (L' := [_, _, _, _, _, _, _, _, _, _]) (st' := [_]) 2 rfl ?_
  refine jcs (pc' := 18) 46 [_] [] rfl rfl rfl rfl rfl rfl rfl rfl ?_
  refine c_greatestExponent I.tab hf (jk ?_)
  refine jx (pc' := 22) (L' := [_, _, _, _, _, _, _, _, _, _]) (st' := [_]) 3 rfl ?_
  try simp (disch := omega) only [kz, kzl0, kzl1, kzb, kzs, zI_add, zI_sub, zI_neg, zI_mul, zL_i, zI_l, zL_add, zL_sub, zL_neg]
  refine jgf (pc' := 25) (I.ob (r := 38) X) rfl rfl rfl rfl rfl ?_
  refine jx (pc' := 33) (L' := [_, _, _, _, _, _, _, _, _, _]) (st' := [_, _, _]) 5 rfl ?_
  try simp (disch := omega) only [kz, kzl0, kzl1, kzb, kzs, zI_add, zI_sub, zI_neg, zI_mul, zL_i, zI_l, zL_add, zL_sub, zL_neg]
  refine jat (pc' := 34) I.tab rfl rfl ⟨by decide, hf⟩ rfl ?_
  rw [tv1 hf]
  refine jx (pc' := 37) (L' := [_, _, _, _, _, _, _, _, _, _]) (st' := [_, _]) 3 rfl ?_
  try simp (disch := omega) only [kz, kzl0, kzl1, kzb, kzs, zI_add, zI_sub, zI_neg, zI_mul, zL_i, zI_l, zL_add, zL_sub, zL_neg]
  refine jcs (pc' := 40) 45 [_] [_] rfl rfl rfl rfl rfl rfl rfl rfl ?_
  refine c_leastExponent I.tab hf (jk ?_)
  refine jx (pc' := 41) (L' := [_, _, _, _, _, _, _, _, _, _]) (st' := [_, _]) 1 rfl ?_
  try simp (disch := omega) only [kz, kzl0, kzl1, kzb, kzs, zI_add, zI_sub, zI_neg, zI_mul, zL_i, zI_l, zL_add, zL_sub, zL_neg]
  refine jcs (pc' := 44) 275 [_, _] [] rfl rfl rfl rfl rfl rfl rfl rfl ?_
  refine c_maxL ⟨by omega, by omega⟩ ⟨by omega, by omega⟩ (jk ?_)
  rw [← hq0]
  refine jx (pc' := 51) (L' := [_, _, _, _, _, _, _, _, _, _]) (st' := [_]) 4 rfl ?_
  try simp (disch := omega) only [kz, kzl0, kzl1, kzb, kzs, zI_add, zI_sub, zI_neg, zI_mul, zL_i, zI_l, zL_add, zL_sub, zL_neg]
  by_cases hov : gE fm < rQ fm ex c
  · skip
    have hE : rInx fm dir ng mo ex c = rOvf fm dir ng := by unfold rInx; rw [if_pos hov]
    rw [hE] at q
    refine jin (pc' := 54) 61 rfl rfl rfl rfl (by rw [zl_le ⟨by omega, by omega⟩ ⟨by omega, by omega⟩]; exact decide_eq_false (by omega)) ?_
    refine jx (pc' := 57) (L' := [_, _, _, _, _, _, _, _, _, _]) (st' := [_, _, _]) 3 rfl ?_
    refine jcs (pc' := 60) 105 [_, _, _] [] rfl rfl rfl rfl rfl rfl rfl rfl ?_
    refine v_overflow I X R RC hd hf hs hx fun _ I => jk ?_
    refine jri rfl rfl ?_
    exact q _ _ I (((ag_0 _ S).up (by decide)).up (by decide)) rfl rfl ⟨_, _, _, _, _, X, XC⟩
  · skip
    refine jit (pc' := 61) rfl rfl rfl (by rw [zl_le ⟨by omega, by omega⟩ ⟨by omega, by omega⟩]; exact decide_eq_true (by omega)) ?_
    refine jx (pc' := 62) (L' := [_, _, _, _, _, _, _, _, _, _]) (st' := [_]) 1 rfl ?_
    refine jgf (pc' := 65) (I.ob (r := 38) X) rfl rfl rfl rfl rfl ?_
    refine jx (pc' := 74) (L' := [_, _, _, _, _, _, _, _, _, _]) (st' := [_, _, .int (zI 1), _]) 6 rfl ?_
    try simp (disch := omega) only [kz, kzl0, kzl1, kzb, kzs, zI_add, zI_sub, zI_neg, zI_mul, zL_i, zI_l, zL_add, zL_sub, zL_neg]
    refine jat (pc' := 75) I.tab rfl rfl ⟨by decide, hf⟩ rfl ?_
    rw [tv3 hf]
    refine jx (pc' := 78) (L' := [_, _, _, _, _, _, _, _, _, _]) (st' := [_]) 3 rfl ?_
    try simp (disch := omega) only [kz, kzl0, kzl1, kzb, kzs, zI_add, zI_sub, zI_neg, zI_mul, zL_i, zI_l, zL_add, zL_sub, zL_neg]
    by_cases ht : ex + dgs c ≤ 1 - fE fm
    · skip
      refine jin (pc' := 81) 85 rfl rfl rfl rfl (by rw [zl_gt ⟨by omega, by omega⟩ ⟨by omega, by omega⟩]; exact decide_eq_false (by omega)) ?_
      refine jx (pc' := 86) (L' := [_, _, _, _, _, _, _, _, _, _]) (st' := [.int (zI 1)]) 2 rfl ?_
      exact tail hov true (decide_eq_true ht).symm
    · skip
      refine jit (pc' := 85) rfl rfl rfl (by rw [zl_gt ⟨by omega, by omega⟩ ⟨by omega, by omega⟩]; exact decide_eq_true (by omega)) ?_
      refine jx (pc' := 86) (L' := [_, _, _, _, _, _, _, _, _, _]) (st' := [.int (zI 0)]) 1 rfl ?_
      exact tail hov false (decide_eq_false ht).symm
end RND
