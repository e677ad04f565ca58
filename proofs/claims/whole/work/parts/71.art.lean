/-! ===== Arithmetic: addToX, sum, multiplyIntoX, product ===== -/
noncomputable def adX (D dir : Nat) (nx : Bool) (ex : Int) (cx : Nat) (ny : Bool) (ey : Int) (cy : Nat) : Bool × Int × Nat :=
  if cx = 0 ∧ cy = 0 then ((if nx = ny then nx else decide (dir = 3)), ex, 0) else
  if cx = 0 then (ny, ey, cy) else
  if cy = 0 then (nx, ex, cx) else
  if ey ≤ ex then ((adA dir nx ny (alg D ex cx ey cy).2.1 (alg D ex cx ey cy).2.2).1, (alg D ex cx ey cy).1, (adA dir nx ny (alg D ex cx ey cy).2.1 (alg D ex cx ey cy).2.2).2)
  else ((adA dir nx ny (alg D ey cy ex cx).2.2 (alg D ey cy ex cx).2.1).1, (alg D ey cy ex cx).1, (adA dir nx ny (alg D ey cy ex cx).2.2 (alg D ey cy ex cx).2.1).2)
theorem alg_b {D cu cl : Nat} {eu el : Int} (hD : D ≤ 34) (h1 : dgs cu ≤ 68) (h2 : dgs cl ≤ 68) (hle : el ≤ eu) : (alg D eu cu el cl).2.1 < 10 ^ 137 ∧ (alg D eu cu el cl).2.2 < 10 ^ 137 ∧ el - 100 ≤ (alg D eu cu el cl).1 ∧ (alg D eu cu el cl).1 ≤ eu := by
  have hsp0 : alS D cu = max 0 ((D : Int) + 2 - dgs cu) := rfl
  unfold alg
  generalize alS D cu = sp at *
  by_cases hc : el + dgs cl ≤ eu - sp
  · rw [if_pos hc]
    dsimp only
    exact ⟨Nat.lt_of_lt_of_le (dgs_sh _ _) (pl (by omega)), Nat.lt_of_lt_of_le (by decide : 1 < 10 ^ 1) (pl (by decide)), by omega, by omega⟩
  · rw [if_neg hc]
    dsimp only
    exact ⟨Nat.lt_of_lt_of_le (dgs_sh _ _) (pl (by omega)), Nat.lt_of_lt_of_le (dgs_l _) (pl (by omega)), by omega, by omega⟩
theorem adA_b {dir cx cy : Nat} {nx ny : Bool} : (adA dir nx ny cx cy).2 ≤ cx + cy := by
  unfold adA
  split
  · exact Nat.le_refl _
  · split
    · exact Nat.zero_le _
    · split
      · show cx - cy ≤ _; omega
      · show cy - cx ≤ _; omega
theorem b137 {x y : Nat} (h1 : x < 10 ^ 137) (h2 : y < 10 ^ 137) : x + y < 10 ^ 138 := by
  have : (10 : Nat) ^ 138 = 10 ^ 137 * 10 := Nat.pow_succ ..
  omega
theorem adX_b {D dir cx cy : Nat} {nx ny : Bool} {ex ey : Int} (hD : D ≤ 34) (h1 : dgs cx ≤ 68) (h2 : dgs cy ≤ 68) : (adX D dir nx ex cx ny ey cy).2.2 < 10 ^ 138 ∧ min ex ey - 100 ≤ (adX D dir nx ex cx ny ey cy).2.1 ∧ (adX D dir nx ex cx ny ey cy).2.1 ≤ max ex ey := by
  have k1 : cx < 10 ^ 138 := Nat.lt_of_lt_of_le (dgs_l _) (pl (by omega))
  have k2 : cy < 10 ^ 138 := Nat.lt_of_lt_of_le (dgs_l _) (pl (by omega))
  unfold adX
  split
  · dsimp only
    exact ⟨pp0 _, by omega, by omega⟩
  · split
    · dsimp only
      exact ⟨k2, by omega, by omega⟩
    · split
      · dsimp only
        exact ⟨k1, by omega, by omega⟩
      · split
        · next hle =>
          have b := alg_b hD h1 h2 hle
          dsimp only
          exact ⟨Nat.lt_of_le_of_lt adA_b (b137 b.1 b.2.1), by omega, by omega⟩
        · next hle =>
          have b := alg_b hD h2 h1 (show ex ≤ ey by omega)
          dsimp only
          exact ⟨Nat.lt_of_le_of_lt adA_b (b137 b.2.1 b.1), by omega, by omega⟩
section ART
variable {h : ix_H} {Q : ix_O → ix_H → Prop} {S : Nat → AC} {a b c what cx cy dir : Nat} {da db dc dr : Dm} {nx ny n : Bool} {ex ey wx wy : Int}
theorem v_addToX (I : Inv h S) (L : Lay S) (R : ResD S dr) (X : S 38 = aC (uC 38 nx false ex wx)) (XC : S 39 = aN cx) (Y : S 41 = aC (uC 41 ny false ey wy)) (YC : S 42 = aN cy) (hd : dir < 5) (h1 : dgs cx ≤ 68) (h2 : dgs cy ≤ 68) (hx : -100000 ≤ ex ∧ ex ≤ 100000) (hy : -100000 ≤ ey ∧ ey ≤ 100000) (q : ∀ h' S', Inv h' S' → Lay S' → ag [38, 39, 41, 42] S S' → S' 38 = aC (uC 38 (adX (fD dr.1) dir nx ex cx ny ey cy).1 false (adX (fD dr.1) dir nx ex cx ny ey cy).2.1 (min ex ey)) → S' 39 = aN (adX (fD dr.1) dir nx ex cx ny ey cy).2.2 → Q (.inl none) h') : ix_M 119 [.ref 34, .int (nI dir)] h Q := by
  obtain ⟨wn, AR⟩ := L.1
  have hD : fD dr.1 ≤ 34 := (f3b R.2.2.1).2.1
  have fin : ∀ (k : ix_H) (T : Nat → AC) (n : Bool) (e w' : Int) (c' : Nat) (l4 l5 : Option Value), Inv k T → Lay T → ag [38, 39, 41, 42] S T → T 38 = aC (uC 38 n false e w') → T 39 = aN c' → adX (fD dr.1) dir nx ex cx ny ey cy = (n, e, c') → ix_E 119 189 [some (.ref 34), some (.int (nI dir)), some (.long (zL (min ex ey))), none, l4, l5] [] k Q := by
    intro k T n e w' c' l4 l5 I L g X XC hE
    obtain ⟨wn, AR⟩ := L.1
    rw [hE] at q
    refine jx (pc' := 190) (L' := [_, _, _, _, _, _]) (st' := [_]) 1 rfl ?_
    refine jgf (pc' := 193) (I.ob (r := 34) AR) rfl rfl rfl rfl rfl ?_
    refine jx (pc' := 194) (L' := [_, _, _, _, _, _]) (st' := [_, _]) 1 rfl ?_
    refine jpA (pc' := 197) (r := 38) I X rfl rfl rfl (Nat.le_of_ble_eq_true rfl) (by intro z; cases z) rfl rfl rfl fun _ I X => ?_
    refine ix_qr _ rfl rfl rfl ?_
    exact q _ _ I L.up38 (g.up (by decide)) rfl XC
  have t2 : ∀ (zx zy : Bool), zx = decide (cx = 0) → zy = decide (cy = 0) → ix_E 119 56 [some (.ref 34), some (.int (nI dir)), some (.long (zL (min ex ey))), none, some (.int (bI zx)), none] [.int (bI zy)] h Q := by
    intro zx zy hzx hzy
    refine jx (pc' := 60) (L' := [_, _, _, _, _, _]) (st' := [_]) 2 rfl ?_
    cases zx with
    | true =>
      have hx0 := of_decide_eq_true hzx.symm
      refine jin (pc' := 63) 115 rfl rfl rfl rfl (rfl) ?_
      refine jx (pc' := 65) (L' := [_, _, _, _, _, _]) (st' := [_]) 1 rfl ?_
      cases zy with
      | true =>
        have hy0 := of_decide_eq_true hzy.symm
        have zz : ∀ m : Bool, m = (if nx = ny then nx else decide (dir = 3)) → ix_E 119 109 [some (.ref 34), some (.int (nI dir)), some (.long (zL (min ex ey))), none, some (.int (bI true)), some (.int (bI true))] [.int (bI m), .ref 38] h Q := by
          intro m hm
          refine jcv (pc' := 112) 97 [_] [] (I.ob (r := 38) X) rfl rfl rfl rfl rfl rfl rfl rfl ?_
          refine v_setZero (r := 38) I X XC fun _ I => jk ?_
          refine jx (pc' := 189) (L' := [_, _, _, _, _, _]) (st' := []) 1 rfl ?_
          exact fin _ _ _ _ _ _ _ _ I L.up38.up39 (((ag_0 _ S).up (by decide)).up (by decide)) rfl rfl (by unfold adX; rw [if_pos ⟨hx0, hy0⟩, hm])
        refine jin (pc' := 68) 115 rfl rfl rfl rfl (rfl) ?_
        refine jx (pc' := 69) (L' := [_, _, _, _, _, _]) (st' := [_]) 1 rfl ?_
        refine jgf (pc' := 72) (I.ob (r := 34) AR) rfl rfl rfl rfl rfl ?_
        refine jx (pc' := 73) (L' := [_, _, _, _, _, _]) (st' := [_, _]) 1 rfl ?_
        refine jgf (pc' := 76) (I.ob (r := 34) AR) rfl rfl rfl rfl rfl ?_
        refine jgf (pc' := 79) (I.ob (r := 38) X) rfl rfl rfl rfl rfl ?_
        refine jx (pc' := 80) (L' := [_, _, _, _, _, _]) (st' := [_, _, _]) 1 rfl ?_
        refine jgf (pc' := 83) (I.ob (r := 34) AR) rfl rfl rfl rfl rfl ?_
        refine jgf (pc' := 86) (I.ob (r := 41) Y) rfl rfl rfl rfl rfl ?_
        by_cases hn : nx = ny
        · skip
          refine jcn (pc' := 89) 99 rfl rfl rfl rfl (by rw [bc_ne]; exact decide_eq_false (fun z => z hn)) ?_
          refine jx (pc' := 90) (L' := [_, _, _, _, _, _]) (st' := [_, _]) 1 rfl ?_
          refine jgf (pc' := 93) (I.ob (r := 34) AR) rfl rfl rfl rfl rfl ?_
          refine jgf (pc' := 96) (I.ob (r := 38) X) rfl rfl rfl rfl rfl ?_
          refine jx (pc' := 109) (L' := [_, _, _, _, _, _]) (st' := [_, _]) 1 rfl ?_
          exact zz nx (by rw [if_pos hn])
        · skip
          refine jct (pc' := 99) rfl rfl rfl (by rw [bc_ne]; exact decide_eq_true hn) ?_
          refine jx (pc' := 101) (L' := [_, _, _, _, _, _]) (st' := [.int (nI 3), _, _]) 2 rfl ?_
          by_cases h3 : dir = 3
          · skip
            refine jcn (pc' := 104) 108 rfl rfl rfl rfl (by rw [cc_ne (by omega) (by omega)]; exact decide_eq_false (by omega)) ?_
            refine jx (pc' := 109) (L' := [_, _, _, _, _, _]) (st' := [.int (nI 1), _]) 2 rfl ?_
            exact zz true (by rw [if_neg hn, decide_eq_true h3])
          · skip
            refine jct (pc' := 108) rfl rfl rfl (by rw [cc_ne (by omega) (by omega)]; exact decide_eq_true (by omega)) ?_
            refine jx (pc' := 109) (L' := [_, _, _, _, _, _]) (st' := [.int (nI 0), _]) 1 rfl ?_
            exact zz false (by rw [if_neg hn, decide_eq_false h3])
      | false =>
        have hy0 := of_decide_eq_false hzy.symm
        refine jit (pc' := 115) rfl rfl rfl (rfl) ?_
        refine jx (pc' := 117) (L' := [_, _, _, _, _, _]) (st' := [_]) 1 rfl ?_
        refine jin (pc' := 120) 134 rfl rfl rfl rfl (rfl) ?_
        refine jx (pc' := 121) (L' := [_, _, _, _, _, _]) (st' := [_]) 1 rfl ?_
        refine jgf (pc' := 124) (I.ob (r := 34) AR) rfl rfl rfl rfl rfl ?_
        refine jx (pc' := 125) (L' := [_, _, _, _, _, _]) (st' := [_, _]) 1 rfl ?_
        refine jgf (pc' := 128) (I.ob (r := 34) AR) rfl rfl rfl rfl rfl ?_
        refine jcv (pc' := 131) 98 [_] [] (I.ob (r := 38) X) rfl rfl rfl rfl rfl rfl rfl rfl ?_
        refine v_ucopy I X XC Y YC fun _ I => jk ?_
        refine jx (pc' := 189) (L' := [_, _, _, _, _, _]) (st' := []) 1 rfl ?_
        exact fin _ _ _ _ _ _ _ _ I L.up39.up38 (((ag_0 _ S).up (by decide)).up (by decide)) rfl rfl (by unfold adX; rw [if_neg (fun z => hy0 z.2), if_pos hx0])
    | false =>
      have hx0 := of_decide_eq_false hzx.symm
      refine jit (pc' := 115) rfl rfl rfl (rfl) ?_
      refine jx (pc' := 117) (L' := [_, _, _, _, _, _]) (st' := [_]) 1 rfl ?_
      refine jit (pc' := 134) rfl rfl rfl (rfl) ?_
      refine jx (pc' := 136) (L' := [_, _, _, _, _, _]) (st' := [_]) 1 rfl ?_
      cases zy with
      | true =>
        have hy0 := of_decide_eq_true hzy.symm
        refine jit (pc' := 189) rfl rfl rfl (rfl) ?_
        exact fin _ _ _ _ _ _ _ _ I L (ag_0 _ S) X XC (by unfold adX; rw [if_neg (fun z => hx0 z.1), if_neg hx0, if_pos hy0])
      | false =>
        have hy0 := of_decide_eq_false hzy.symm
        refine jin (pc' := 139) 189 rfl rfl rfl rfl (rfl) ?_
        refine jx (pc' := 140) (L' := [_, _, _, _, _, _]) (st' := [_]) 1 rfl ?_
        refine jgf (pc' := 143) (I.ob (r := 34) AR) rfl rfl rfl rfl rfl ?_
        refine jgf (pc' := 146) (I.ob (r := 38) X) rfl rfl rfl rfl rfl ?_
        refine jx (pc' := 147) (L' := [_, _, _, _, _, _]) (st' := [_, _]) 1 rfl ?_
        refine jgf (pc' := 150) (I.ob (r := 34) AR) rfl rfl rfl rfl rfl ?_
        refine jgf (pc' := 153) (I.ob (r := 41) Y) rfl rfl rfl rfl rfl ?_
        refine jx (pc' := 154) (L' := [_, _, _, _, _, _]) (st' := [_]) 1 rfl ?_
        try simp (disch := omega) only [kz, kzl0, kzl1, kzb, kzs, zI_add, zI_sub, zI_neg, zI_mul, zL_i, zI_l, zL_add, zL_sub, zL_neg]
        by_cases hle : ey ≤ ex
        · skip
          refine jin (pc' := 157) 172 rfl rfl rfl rfl (by rw [zl_lt ⟨by omega, by omega⟩ ⟨by omega, by omega⟩]; exact decide_eq_false (by omega)) ?_
          refine jx (pc' := 159) (L' := [_, _, _, _, _, _]) (st' := [_, _]) 2 rfl ?_
          refine jgf (pc' := 162) (I.ob (r := 34) AR) rfl rfl rfl rfl rfl ?_
          refine jx (pc' := 163) (L' := [_, _, _, _, _, _]) (st' := [_, _, _]) 1 rfl ?_
          refine jgf (pc' := 166) (I.ob (r := 34) AR) rfl rfl rfl rfl rfl ?_
          refine jcv (pc' := 169) 120 [_, _] [] (I.ob (r := 34) AR) rfl rfl rfl rfl rfl rfl rfl rfl ?_
          refine v_align1 I L R X XC Y YC hle ⟨by omega, by omega⟩ h1 h2 fun k1 T1 I1 L1 g1 X1 XC1 Y1 YC1 => jk ?_
          have b := alg_b hD h1 h2 hle
          obtain ⟨wn1, AR1⟩ := L1.1
          refine jx (pc' := 184) (L' := [_, _, _, _, _, _]) (st' := []) 1 rfl ?_
          refine jx (pc' := 186) (L' := [_, _, _, _, _, _]) (st' := [_, _]) 2 rfl ?_
          refine jcv (pc' := 189) 121 [_] [] (I1.ob (r := 34) AR1) rfl rfl rfl rfl rfl rfl rfl rfl ?_
          refine v_addAligned I1 L1 X1 XC1 Y1 YC1 hd (Nat.lt_of_lt_of_le (b137 b.1 b.2.1) (pl (by decide))) fun k2 T2 w2 I2 L2 g2 X2 XC2 => jk ?_
          exact fin _ _ _ _ _ _ _ _ I2 L2 (g1.tr g2 (fun _ z => z)) X2 XC2 (by unfold adX; rw [if_neg (fun z => hx0 z.1), if_neg hx0, if_neg hy0, if_pos hle])
        · skip
          refine jit (pc' := 172) rfl rfl rfl (by rw [zl_lt ⟨by omega, by omega⟩ ⟨by omega, by omega⟩]; exact decide_eq_true (by omega)) ?_
          refine jx (pc' := 174) (L' := [_, _, _, _, _, _]) (st' := [_, _]) 2 rfl ?_
          refine jgf (pc' := 177) (I.ob (r := 34) AR) rfl rfl rfl rfl rfl ?_
          refine jx (pc' := 178) (L' := [_, _, _, _, _, _]) (st' := [_, _, _]) 1 rfl ?_
          refine jgf (pc' := 181) (I.ob (r := 34) AR) rfl rfl rfl rfl rfl ?_
          refine jcv (pc' := 184) 120 [_, _] [] (I.ob (r := 34) AR) rfl rfl rfl rfl rfl rfl rfl rfl ?_
          refine v_align2 I L R Y YC X XC (by omega) ⟨by omega, by omega⟩ h2 h1 fun k1 T1 I1 L1 g1 Y1 YC1 X1 XC1 => jk ?_
          have b := alg_b hD h2 h1 (show ex ≤ ey by omega)
          obtain ⟨wn1, AR1⟩ := L1.1
          refine jx (pc' := 186) (L' := [_, _, _, _, _, _]) (st' := [_, _]) 2 rfl ?_
          refine jcv (pc' := 189) 121 [_] [] (I1.ob (r := 34) AR1) rfl rfl rfl rfl rfl rfl rfl rfl ?_
          refine v_addAligned I1 L1 X1 XC1 Y1 YC1 hd (Nat.lt_of_lt_of_le (b137 b.2.1 b.1) (pl (by decide))) fun k2 T2 w2 I2 L2 g2 X2 XC2 => jk ?_
          exact fin _ _ _ _ _ _ _ _ I2 L2 (g1.tr g2 (fun _ z => z)) X2 XC2 (by unfold adX; rw [if_neg (fun z => hx0 z.1), if_neg hx0, if_neg hy0, if_neg hle])
  have t1 : ∀ zx : Bool, zx = decide (cx = 0) → ix_E 119 36 [some (.ref 34), some (.int (nI dir)), some (.long (zL (min ex ey))), none, none, none] [.int (bI zx)] h Q := by
    intro zx hzx
    refine jx (pc' := 39) (L' := [_, _, _, _, _, _]) (st' := [_]) 2 rfl ?_
    refine jgf (pc' := 42) (I.ob (r := 34) AR) rfl rfl rfl rfl rfl ?_
    refine jgf (pc' := 45) (I.ob (r := 41) Y) rfl rfl rfl rfl rfl ?_
    refine jcv (pc' := 48) 51 [] [] (I.no (r := 42) YC) rfl rfl rfl rfl rfl rfl rfl rfl ?_
    refine v_used (a := 42) I YC fun u hu hz => jk ?_
    by_cases h0 : cy = 0
    · have hu0 := hz.mpr h0
      refine jin (pc' := 51) 55 rfl rfl rfl rfl (by rw [cz_ne (by omega)]; exact decide_eq_false (by omega)) ?_
      refine jx (pc' := 56) (L' := [_, _, _, _, _, _]) (st' := [.int (nI 1)]) 2 rfl ?_
      exact t2 zx true hzx (decide_eq_true h0).symm
    · have hu0 : ¬ u = 0 := fun z => h0 (hz.mp z)
      refine jit (pc' := 55) rfl rfl rfl (by rw [cz_ne (by omega)]; exact decide_eq_true (by omega)) ?_
      refine jx (pc' := 56) (L' := [_, _, _, _, _, _]) (st' := [.int (nI 0)]) 1 rfl ?_
      exact t2 zx false hzx (decide_eq_false h0).symm
  refine jx (pc' := 1) (L' := [_, _, _, _, _, _]) (st' := [_]) 1 rfl ?_
  refine jgf (pc' := 4) (I.ob (r := 34) AR) rfl rfl rfl rfl rfl ?_
  refine jgf (pc' := 7) (I.ob (r := 38) X) rfl rfl rfl rfl rfl ?_
  refine jx (pc' := 8) (L' := [_, _, _, _, _, _]) (st' := [_, _]) 1 rfl ?_
  refine jgf (pc' := 11) (I.ob (r := 34) AR) rfl rfl rfl rfl rfl ?_
  refine jgf (pc' := 14) (I.ob (r := 41) Y) rfl rfl rfl rfl rfl ?_
  refine jcs (pc' := 17) 272 [_, _] [] rfl rfl rfl rfl rfl rfl rfl rfl ?_
  refine c_minL ⟨by omega, by omega⟩ ⟨by omega, by omega⟩ (jk ?_)
  refine jx (pc' := 19) (L' := [_, _, _, _, _, _]) (st' := [_]) 2 rfl ?_
  refine jgf (pc' := 22) (I.ob (r := 34) AR) rfl rfl rfl rfl rfl ?_
  refine jgf (pc' := 25) (I.ob (r := 38) X) rfl rfl rfl rfl rfl ?_
  refine jcv (pc' := 28) 51 [] [] (I.no (r := 39) XC) rfl rfl rfl rfl rfl rfl rfl rfl ?_
  refine v_used (a := 39) I XC fun u hu hz => jk ?_
  by_cases h0 : cx = 0
  · have hu0 := hz.mpr h0
    refine jin (pc' := 31) 35 rfl rfl rfl rfl (by rw [cz_ne (by omega)]; exact decide_eq_false (by omega)) ?_
    refine jx (pc' := 36) (L' := [_, _, _, _, _, _]) (st' := [.int (nI 1)]) 2 rfl ?_
    exact t1 true (decide_eq_true h0).symm
  · have hu0 : ¬ u = 0 := fun z => h0 (hz.mp z)
    refine jit (pc' := 35) rfl rfl rfl (by rw [cz_ne (by omega)]; exact decide_eq_true (by omega)) ?_
    refine jx (pc' := 36) (L' := [_, _, _, _, _, _]) (st' := [.int (nI 0)]) 1 rfl ?_
    exact t1 false (decide_eq_false h0).symm
end ART
