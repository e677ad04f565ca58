/-! ===== Arithmetic: rootOfX, root ===== -/
section ART
variable {h : ix_H} {Q : ix_O → ix_H → Prop} {S : Nat → AC} {a b c what cx cy dir f p M : Nat} {da db dc dr : Dm} {m nx ny mo nB : Bool} {ex wx ey wy P : Int}
theorem v_rootOfX (I : Inv h S) (L : Lay S) (R : ResD S dr) (X : S 38 = aC (uC 38 nx false ex wx)) (XC : S 39 = aN cx) (hc : 0 < cx) (hd : dgs cx ≤ 34) (he : -100000 ≤ ex ∧ ex ≤ 100000) (q : ∀ h' S', Inv h' S' → Lay S' → ag [38, 39, 45, 46, 50, 52, 56] S S' → S' 38 = aC (uC 38 nx (rtX (fD dr.1) ex cx).1 (rtX (fD dr.1) ex cx).2.1 wx) → S' 39 = aN (rtX (fD dr.1) ex cx).2.2 → Q (.inl none) h') : ix_M 134 [.ref 34] h Q := by
  obtain ⟨wn, AR⟩ := L.1
  obtain ⟨r1, r2, r3, r4, r5⟩ := R
  obtain ⟨f1, f2, f3, f4, f5, f6, f7⟩ := f3b r3
  have hd1 := (dgs_p hc).1
  have hPd : rtP (fD dr.1) ex cx = if ¬ (ex - (2 * ((fD dr.1 : Int) + 2) - dgs cx)) % 2 = 0 then 2 * ((fD dr.1 : Int) + 2) - dgs cx + 1 else 2 * ((fD dr.1 : Int) + 2) - dgs cx := rfl
  have hPe : (ex - rtP (fD dr.1) ex cx) % 2 = 0 := by rw [hPd]; split <;> omega
  have hPb : -20 ≤ rtP (fD dr.1) ex cx ∧ rtP (fD dr.1) ex cx + dgs cx ≤ 73 := by rw [hPd]; split <;> omega
  have hNd : rtN (fD dr.1) ex cx = cx * 10 ^ (rtP (fD dr.1) ex cx).toNat := rfl
  have hN0 : 0 < rtN (fD dr.1) ex cx := Nat.mul_pos hc (pp0 _)
  have hN1 : rtN (fD dr.1) ex cx < 10 ^ 107 := Nat.lt_of_lt_of_le (dgs_sh _ _) (pl (by omega))
  have hNg : dgs (rtN (fD dr.1) ex cx) ≤ 107 := dgs_le hN1
  have q1 := sq_1 (rtN (fD dr.1) ex cx)
  have q2 := sq_2 (rtN (fD dr.1) ex cx)
  have q3 : 0 < sq (rtN (fD dr.1) ex cx) := by
    rcases Nat.eq_zero_or_pos (sq (rtN (fD dr.1) ex cx)) with z | z
    · rw [z] at q2; omega
    · exact z
  have q4 : sq (rtN (fD dr.1) ex cx) < 10 ^ 54 := by
    rcases Nat.lt_or_ge (sq (rtN (fD dr.1) ex cx)) (10 ^ 54) with z | z
    · exact z
    · have := Nat.mul_le_mul z z
      rw [← Nat.pow_add] at this
      have : (10 : Nat) ^ 107 < 10 ^ (54 + 54) := plt (by decide)
      omega
  unfold rtX at q
  -- the end
  have fin : ∀ (h1 : ix_H) (T : Nat → AC) (l1 l2 l3 : Option Value), Inv h1 T → Lay T → ag [38, 39, 45, 46, 50, 52, 56] S T → T 38 = aC (uC 38 nx false (ex - rtP (fD dr.1) ex cx) wx) → T 39 = aN (rtN (fD dr.1) ex cx) → T 50 = aN (sq (rtN (fD dr.1) ex cx)) → ix_E 134 180 [some (.ref 34), l1, l2, l3] [] h1 Q := by
    intro h1 T l1 l2 l3 I L g X XC W
    obtain ⟨wn, AR⟩ := L.1
    obtain ⟨w56, W56⟩ := L.2.2.2.2.2.2.2.2.2.2.2
    generalize rtN (fD dr.1) ex cx = N at *
    generalize sq N = s at *
    generalize rtP (fD dr.1) ex cx = P at *
    refine jx (pc' := 181) (L' := [_, _, _, _]) (st' := [_]) 1 rfl ?_
    refine jgf (pc' := 184) (I.ob (r := 34) AR) rfl rfl rfl rfl rfl ?_
    refine jx (pc' := 185) (L' := [_, _, _, _]) (st' := [_, _]) 1 rfl ?_
    refine jgf (pc' := 188) (I.ob (r := 34) AR) rfl rfl rfl rfl rfl ?_
    refine jx (pc' := 189) (L' := [_, _, _, _]) (st' := [_, _, _]) 1 rfl ?_
    refine jgf (pc' := 192) (I.ob (r := 34) AR) rfl rfl rfl rfl rfl ?_
    refine jcv (pc' := 195) 61 [_, _] [] (I.no (r := 56) W56) rfl rfl rfl rfl rfl rfl rfl rfl ?_
    refine v_setProduct (c := 56) (a := 50) (b := 50) I W56 W W (by decide) (by decide) (by have : (10 : Nat) ^ 107 < 10 ^ 144 := plt (by decide); omega) fun h2 I => jk ?_
    refine jx (pc' := 196) (L' := [_, _, _, _]) (st' := [_]) 1 rfl ?_
    refine jgf (pc' := 199) (I.ob (r := 34) AR) rfl rfl rfl rfl rfl ?_
    refine jx (pc' := 200) (L' := [_, _, _, _]) (st' := [_, _]) 1 rfl ?_
    refine jgf (pc' := 203) (I.ob (r := 34) AR) rfl rfl rfl rfl rfl ?_
    refine jx (pc' := 204) (L' := [_, _, _, _]) (st' := [_, _, _]) 1 rfl ?_
    refine jgf (pc' := 207) (I.ob (r := 34) AR) rfl rfl rfl rfl rfl ?_
    refine jgf (pc' := 210) (I.ob (r := 38) X) rfl rfl rfl rfl rfl ?_
    refine jcv (pc' := 213) 59 [_] [_] (I.no (r := 56) rfl) rfl rfl rfl rfl rfl rfl rfl rfl ?_
    refine v_cmp (a := 56) (b := 39) I rfl XC (jk ?_)
    have hcb := cmpI_b ((s * s : Nat) : Int) N
    have hce := cmpI_e ((s * s : Nat) : Int) N
    have tl : ∀ m : Bool, m = decide (¬ s * s = N) → ix_E 134 221 [some (.ref 34), l1, l2, l3] [.int (bI m), .ref 38] h2 Q := by
      intro m hm
      rw [← hm] at q
      refine jpA (pc' := 224) (r := 38) I X rfl rfl rfl (Nat.le_of_ble_eq_true rfl) (by intro z; cases z) (nb _) (fb _) rfl fun _ I X => ?_
      refine jx (pc' := 225) (L' := [_, _, _, _]) (st' := [_]) 1 rfl ?_
      refine jgf (pc' := 228) (I.ob (r := 34) AR) rfl rfl rfl rfl rfl ?_
      refine jgf (pc' := 231) (I.ob (r := 38) X) rfl rfl rfl rfl rfl ?_
      refine jx (pc' := 232) (L' := [_, _, _, _]) (st' := [_, _]) 1 rfl ?_
      refine jgf (pc' := 235) (I.ob (r := 34) AR) rfl rfl rfl rfl rfl ?_
      refine jcv (pc' := 238) 48 [_] [] (I.no (r := 39) XC) rfl rfl rfl rfl rfl rfl rfl rfl ?_
      refine v_copy (a := 39) (b := 50) I XC W fun _ I => jk ?_
      refine jx (pc' := 239) (L' := [_, _, _, _]) (st' := [_]) 1 rfl ?_
      refine jgf (pc' := 242) (I.ob (r := 34) AR) rfl rfl rfl rfl rfl ?_
      refine jx (pc' := 243) (L' := [_, _, _, _]) (st' := [_, _]) 1 rfl ?_
      refine jgf (pc' := 246) (I.ob (r := 38) X) rfl rfl rfl rfl rfl ?_
      refine jx (pc' := 249) (L' := [_, _, _, _]) (st' := [_, _, _]) 1 rfl ?_
      try simp (disch := omega) only [kL2, kz, kzl0, kzl1, kzb, kzs, zI_add, zI_sub, zI_neg, zI_mul, zL_i, zI_l, zL_add, zL_sub, zL_neg]
      rw [kzL2]
      refine jldiv (pc' := 250) rfl rfl (by decide) rfl ?_
      rw [zL_half (by omega) (by omega) hPe]
      refine jpA (pc' := 253) (r := 38) I X rfl rfl rfl (Nat.le_of_ble_eq_true rfl) (by intro z; cases z) rfl rfl rfl fun _ I X => ?_
      refine ix_qr _ rfl rfl rfl ?_
      exact q _ _ I L.up56.up38.up39.up38 ((((g.up (by decide)).up (by decide)).up (by decide)).up (by decide)) rfl rfl
    by_cases e : s * s = N
    · skip
      refine jit (pc' := 220) rfl rfl rfl (by rw [zz_eq ⟨by omega, by omega⟩]; exact decide_eq_true (hce.mpr (by omega))) ?_
      refine jx (pc' := 221) (L' := [_, _, _, _]) (st' := [.int (zI 0), _]) 1 rfl ?_
      exact tl false (decide_eq_false (fun z => z e)).symm
    · skip
      refine jin (pc' := 216) 220 rfl rfl rfl rfl (by rw [zz_eq ⟨by omega, by omega⟩]; exact decide_eq_false (fun z => e (by have := hce.mp z; omega))) ?_
      refine jx (pc' := 221) (L' := [_, _, _, _]) (st' := [.int (zI 1), _]) 2 rfl ?_
      exact tl true (decide_eq_true e).symm
  have loop : ∀ (k t s : Nat) (h1 : ix_H) (T : Nat → AC) (l1 : Option Value) (l2 : Int32), k + t = 190 → sq (rtN (fD dr.1) ex cx) ≤ s → s - sq (rtN (fD dr.1) ex cx) < 2 ^ k → s < 10 ^ 55 → Inv h1 T → Lay T → ag [38, 39, 45, 46, 50, 52, 56] S T → T 38 = aC (uC 38 nx false (ex - rtP (fD dr.1) ex cx) wx) → T 39 = aN (rtN (fD dr.1) ex cx) → T 50 = aN s → ix_E 134 91 [some (.ref 34), l1, some (.int l2), some (.int (nI t))] [] h1 Q := by
    intro k
    induction k with
    | zero =>
      intro t s h1 T l1 l2 hk hs1 hs2 hs3 I L g X XC W
      have hs0 : s = sq (rtN (fD dr.1) ex cx) := by omega
      obtain ⟨wn, AR⟩ := L.1
      obtain ⟨w52, W52⟩ := L.2.2.2.2.2.2.2.2.2.1
      obtain ⟨w56, W56⟩ := L.2.2.2.2.2.2.2.2.2.2.2
      have nw := (nwt q1 q2 hs1 (by omega)).2 hs0.symm
      have hdl := Nat.div_le_self (rtN (fD dr.1) ex cx) s
      refine jx (pc' := 95) (L' := [_, _, _, _]) (st' := [.int (nI 200), _]) 2 rfl ?_
      refine jcn (pc' := 98) 180 rfl rfl rfl rfl (by rw [cc_ge (by omega) (by omega)]; exact decide_eq_false (by omega)) ?_
      refine jx (pc' := 99) (L' := [_, _, _, _]) (st' := [_]) 1 rfl ?_
      refine jgf (pc' := 102) (I.ob (r := 34) AR) rfl rfl rfl rfl rfl ?_
      refine jx (pc' := 103) (L' := [_, _, _, _]) (st' := [_, _]) 1 rfl ?_
      refine jgf (pc' := 106) (I.ob (r := 34) AR) rfl rfl rfl rfl rfl ?_
      refine jgf (pc' := 109) (I.ob (r := 38) X) rfl rfl rfl rfl rfl ?_
      refine jx (pc' := 110) (L' := [_, _, _, _]) (st' := [_, _, _]) 1 rfl ?_
      refine jgf (pc' := 113) (I.ob (r := 34) AR) rfl rfl rfl rfl rfl ?_
      refine jx (pc' := 114) (L' := [_, _, _, _]) (st' := [_, _, _, _]) 1 rfl ?_
      refine jgf (pc' := 117) (I.ob (r := 34) AR) rfl rfl rfl rfl rfl ?_
      refine jx (pc' := 118) (L' := [_, _, _, _]) (st' := [_, _, _, _, _]) 1 rfl ?_
      refine jgf (pc' := 121) (I.ob (r := 34) AR) rfl rfl rfl rfl rfl ?_
      refine jcv (pc' := 124) 72 [_, _, _, _] [] (I.ob (r := 44) L.2.2.2.1) rfl rfl rfl rfl rfl rfl rfl rfl ?_
      refine v_divide (dd := 39) (dv := 50) (rr := 56) I L.2.2.2.1 L.2.2.2.2.1 L.2.2.2.2.2.1 W52 XC W W56 (by omega) (by decide) (by decide) (by decide) fun h2 T2 I g2 r1 r2 q5 m1 => jk ?_
      have L2 := L.agd g2 r1 r2 ⟨_, q5⟩ ⟨_, m1⟩ (by decide)
      have X2 : T2 38 = aC (uC 38 nx false (ex - rtP (fD dr.1) ex cx) wx) := g2.at 38 (by decide) X
      have XC2 := g2.at 39 (by decide) XC
      have W2 := g2.at 50 (by decide) W
      obtain ⟨wn2, AR2⟩ := L2.1
      have hsum : rtN (fD dr.1) ex cx / s + s < 10 ^ 144 := by
        have : (10 : Nat) ^ 107 + 10 ^ 55 < 10 ^ 144 := by decide
        generalize rtN (fD dr.1) ex cx / s = dd at *
        omega
      refine jx (pc' := 125) (L' := [_, _, _, _]) (st' := [_]) 1 rfl ?_
      refine jgf (pc' := 128) (I.ob (r := 34) AR2) rfl rfl rfl rfl rfl ?_
      refine jx (pc' := 129) (L' := [_, _, _, _]) (st' := [_, _]) 1 rfl ?_
      refine jgf (pc' := 132) (I.ob (r := 34) AR2) rfl rfl rfl rfl rfl ?_
      refine jcv (pc' := 135) 58 [_] [] (I.no (r := 52) q5) rfl rfl rfl rfl rfl rfl rfl rfl ?_
      refine v_add (a := 52) (b := 50) I q5 W2 hsum fun _ I => jk ?_
      refine jx (pc' := 136) (L' := [_, _, _, _]) (st' := [_]) 1 rfl ?_
      refine jgf (pc' := 139) (I.ob (r := 34) AR2) rfl rfl rfl rfl rfl ?_
      refine jx (pc' := 142) (L' := [_, _, _, _]) (st' := [_, _]) 1 rfl ?_
      try simp (disch := omega) only [kL2, nI_add, nI_mul, nI_sub, nI_l, lN_i, lN_add, lN_mul, lN_sub, Nat.zero_mul, Nat.one_mul, Nat.sub_zero, Nat.add_zero, Nat.zero_add, Nat.add_sub_cancel]
      rw [show (2 : Int64) = lN 2 from by decide]
      refine jcv (pc' := 145) 50 [_] [] (I.no (r := 52) rfl) rfl rfl rfl rfl rfl rfl rfl rfl ?_
      refine v_divideBy (a := 52) (m := 2) I rfl (by decide) (by decide) fun _ I => jk ?_
      refine jx (pc' := 147) (L' := [_, _, _, _]) (st' := [_]) 2 rfl ?_
      refine jgf (pc' := 150) (I.ob (r := 34) AR2) rfl rfl rfl rfl rfl ?_
      refine jx (pc' := 151) (L' := [_, _, _, _]) (st' := [_, _]) 1 rfl ?_
      refine jgf (pc' := 154) (I.ob (r := 34) AR2) rfl rfl rfl rfl rfl ?_
      refine jcv (pc' := 157) 59 [_] [] (I.no (r := 52) rfl) rfl rfl rfl rfl rfl rfl rfl rfl ?_
      refine v_against (a := 52) (b := 50) I rfl W2 (fun z => ?_) (fun z => jk ?_) (fun z => jk ?_)
      · omega
      · skip
        refine jin (pc' := 160) 163 rfl rfl rfl rfl (by rfl) ?_
        refine jx (pc' := 180) (L' := [_, _, _, _]) (st' := []) 1 rfl ?_
        rw [hs0] at W2
        exact fin _ _ _ _ _ I L2.up52.up52 (((g.tr g2 (by decide)).up (by decide)).up (by decide)) X2 XC2 W2
      · skip
        refine jin (pc' := 160) 163 rfl rfl rfl rfl (by rfl) ?_
        refine jx (pc' := 180) (L' := [_, _, _, _]) (st' := []) 1 rfl ?_
        rw [hs0] at W2
        exact fin _ _ _ _ _ I L2.up52.up52 (((g.tr g2 (by decide)).up (by decide)).up (by decide)) X2 XC2 W2
    | succ k ih =>
      intro t s h1 T l1 l2 hk hs1 hs2 hs3 I L g X XC W
      obtain ⟨wn, AR⟩ := L.1
      obtain ⟨w52, W52⟩ := L.2.2.2.2.2.2.2.2.2.1
      obtain ⟨w56, W56⟩ := L.2.2.2.2.2.2.2.2.2.2.2
      have nw := nwt q1 q2 hs1 (by omega)
      have hdl := Nat.div_le_self (rtN (fD dr.1) ex cx) s
      refine jx (pc' := 95) (L' := [_, _, _, _]) (st' := [.int (nI 200), _]) 2 rfl ?_
      refine jcn (pc' := 98) 180 rfl rfl rfl rfl (by rw [cc_ge (by omega) (by omega)]; exact decide_eq_false (by omega)) ?_
      refine jx (pc' := 99) (L' := [_, _, _, _]) (st' := [_]) 1 rfl ?_
      refine jgf (pc' := 102) (I.ob (r := 34) AR) rfl rfl rfl rfl rfl ?_
      refine jx (pc' := 103) (L' := [_, _, _, _]) (st' := [_, _]) 1 rfl ?_
      refine jgf (pc' := 106) (I.ob (r := 34) AR) rfl rfl rfl rfl rfl ?_
      refine jgf (pc' := 109) (I.ob (r := 38) X) rfl rfl rfl rfl rfl ?_
      refine jx (pc' := 110) (L' := [_, _, _, _]) (st' := [_, _, _]) 1 rfl ?_
      refine jgf (pc' := 113) (I.ob (r := 34) AR) rfl rfl rfl rfl rfl ?_
      refine jx (pc' := 114) (L' := [_, _, _, _]) (st' := [_, _, _, _]) 1 rfl ?_
      refine jgf (pc' := 117) (I.ob (r := 34) AR) rfl rfl rfl rfl rfl ?_
      refine jx (pc' := 118) (L' := [_, _, _, _]) (st' := [_, _, _, _, _]) 1 rfl ?_
      refine jgf (pc' := 121) (I.ob (r := 34) AR) rfl rfl rfl rfl rfl ?_
      refine jcv (pc' := 124) 72 [_, _, _, _] [] (I.ob (r := 44) L.2.2.2.1) rfl rfl rfl rfl rfl rfl rfl rfl ?_
      refine v_divide (dd := 39) (dv := 50) (rr := 56) I L.2.2.2.1 L.2.2.2.2.1 L.2.2.2.2.2.1 W52 XC W W56 (by omega) (by decide) (by decide) (by decide) fun h2 T2 I g2 r1 r2 q5 m1 => jk ?_
      have L2 := L.agd g2 r1 r2 ⟨_, q5⟩ ⟨_, m1⟩ (by decide)
      have X2 : T2 38 = aC (uC 38 nx false (ex - rtP (fD dr.1) ex cx) wx) := g2.at 38 (by decide) X
      have XC2 := g2.at 39 (by decide) XC
      have W2 := g2.at 50 (by decide) W
      obtain ⟨wn2, AR2⟩ := L2.1
      have hsum : rtN (fD dr.1) ex cx / s + s < 10 ^ 144 := by
        have : (10 : Nat) ^ 107 + 10 ^ 55 < 10 ^ 144 := by decide
        generalize rtN (fD dr.1) ex cx / s = dd at *
        omega
      refine jx (pc' := 125) (L' := [_, _, _, _]) (st' := [_]) 1 rfl ?_
      refine jgf (pc' := 128) (I.ob (r := 34) AR2) rfl rfl rfl rfl rfl ?_
      refine jx (pc' := 129) (L' := [_, _, _, _]) (st' := [_, _]) 1 rfl ?_
      refine jgf (pc' := 132) (I.ob (r := 34) AR2) rfl rfl rfl rfl rfl ?_
      refine jcv (pc' := 135) 58 [_] [] (I.no (r := 52) q5) rfl rfl rfl rfl rfl rfl rfl rfl ?_
      refine v_add (a := 52) (b := 50) I q5 W2 hsum fun _ I => jk ?_
      refine jx (pc' := 136) (L' := [_, _, _, _]) (st' := [_]) 1 rfl ?_
      refine jgf (pc' := 139) (I.ob (r := 34) AR2) rfl rfl rfl rfl rfl ?_
      refine jx (pc' := 142) (L' := [_, _, _, _]) (st' := [_, _]) 1 rfl ?_
      try simp (disch := omega) only [kL2, nI_add, nI_mul, nI_sub, nI_l, lN_i, lN_add, lN_mul, lN_sub, Nat.zero_mul, Nat.one_mul, Nat.sub_zero, Nat.add_zero, Nat.zero_add, Nat.add_sub_cancel]
      rw [show (2 : Int64) = lN 2 from by decide]
      refine jcv (pc' := 145) 50 [_] [] (I.no (r := 52) rfl) rfl rfl rfl rfl rfl rfl rfl rfl ?_
      refine v_divideBy (a := 52) (m := 2) I rfl (by decide) (by decide) fun _ I => jk ?_
      generalize hqq : (rtN (fD dr.1) ex cx / s + s) / 2 = qq at *
      refine jx (pc' := 147) (L' := [_, _, _, _]) (st' := [_]) 2 rfl ?_
      refine jgf (pc' := 150) (I.ob (r := 34) AR2) rfl rfl rfl rfl rfl ?_
      refine jx (pc' := 151) (L' := [_, _, _, _]) (st' := [_, _]) 1 rfl ?_
      refine jgf (pc' := 154) (I.ob (r := 34) AR2) rfl rfl rfl rfl rfl ?_
      refine jcv (pc' := 157) 59 [_] [] (I.no (r := 52) rfl) rfl rfl rfl rfl rfl rfl rfl rfl ?_
      refine v_against (a := 52) (b := 50) I rfl W2 (fun z => jk ?_) (fun z => jk ?_) (fun z => jk ?_)
      · have hlt : sq (rtN (fD dr.1) ex cx) < s := by
          rcases Nat.eq_or_lt_of_le hs1 with e | e
          · have := nw.2 e; omega
          · exact e
        have nw1 := nw.1 hlt
        refine jit (pc' := 163) rfl rfl rfl (by rfl) ?_
        refine jx (pc' := 164) (L' := [_, _, _, _]) (st' := [_]) 1 rfl ?_
        refine jgf (pc' := 167) (I.ob (r := 34) AR2) rfl rfl rfl rfl rfl ?_
        refine jx (pc' := 168) (L' := [_, _, _, _]) (st' := [_, _]) 1 rfl ?_
        refine jgf (pc' := 171) (I.ob (r := 34) AR2) rfl rfl rfl rfl rfl ?_
        refine jcv (pc' := 174) 48 [_] [] (I.no (r := 50) W2) rfl rfl rfl rfl rfl rfl rfl rfl ?_
        refine v_copy (a := 50) (b := 52) I W2 rfl fun _ I => jk ?_
        refine jx (pc' := 91) (L' := [_, _, _, _]) (st' := []) 2 rfl ?_
        rw [nI_i]
        rw [Nat.pow_succ] at hs2
        exact ih (t + 1) qq _ _ _ _ (by omega) nw1.1 (by omega) (by omega) I L2.up52.up52.up50 ((((g.tr g2 (by decide)).up (by decide)).up (by decide)).up (by decide)) X2 XC2 rfl
      · have hs0 : s = sq (rtN (fD dr.1) ex cx) := by
          rcases Nat.eq_or_lt_of_le hs1 with e | e
          · exact e.symm
          · have := (nw.1 e).2.2; omega
        refine jin (pc' := 160) 163 rfl rfl rfl rfl (by rfl) ?_
        refine jx (pc' := 180) (L' := [_, _, _, _]) (st' := []) 1 rfl ?_
        rw [hs0] at W2
        exact fin _ _ _ _ _ I L2.up52.up52 (((g.tr g2 (by decide)).up (by decide)).up (by decide)) X2 XC2 W2
      · have hs0 : s = sq (rtN (fD dr.1) ex cx) := by
          rcases Nat.eq_or_lt_of_le hs1 with e | e
          · exact e.symm
          · have := (nw.1 e).2.2; omega
        refine jin (pc' := 160) 163 rfl rfl rfl rfl (by rfl) ?_
        refine jx (pc' := 180) (L' := [_, _, _, _]) (st' := []) 1 rfl ?_
        rw [hs0] at W2
        exact fin _ _ _ _ _ I L2.up52.up52 (((g.tr g2 (by decide)).up (by decide)).up (by decide)) X2 XC2 W2
  obtain ⟨w50, W50⟩ := L.2.2.2.2.2.2.2.2.1
  have t2 : ∀ (l1 : Option Value) (l2 : Int32), ix_E 134 65 [some (.ref 34), l1, some (.int l2), none] [.int (zI (rtP (fD dr.1) ex cx)), .ref 38] h Q := by
    intro l1 l2
    refine jcv (pc' := 68) 99 [_] [] (I.ob (r := 38) X) rfl rfl rfl rfl rfl rfl rfl rfl ?_
    refine v_lowerExponent (r := 38) I X XC ⟨by omega, by omega⟩ (by rw [← hNd]; exact Nat.lt_trans hN1 (plt (by decide))) fun h2 I => jk ?_
    rw [← hNd] at I
    have X1 : va_up (va_up S 39 (aN (rtN (fD dr.1) ex cx))) 38 (aC (uC 38 nx false (ex - rtP (fD dr.1) ex cx) wx)) 38 = aC (uC 38 nx false (ex - rtP (fD dr.1) ex cx) wx) := rfl
    refine jx (pc' := 69) (L' := [_, _, _, _]) (st' := [_]) 1 rfl ?_
    refine jgf (pc' := 72) (I.ob (r := 34) AR) rfl rfl rfl rfl rfl ?_
    refine jx (pc' := 73) (L' := [_, _, _, _]) (st' := [_, _]) 1 rfl ?_
    refine jgf (pc' := 76) (I.ob (r := 34) AR) rfl rfl rfl rfl rfl ?_
    refine jgf (pc' := 79) (I.ob (r := 38) X1) rfl rfl rfl rfl rfl ?_
    refine jcv (pc' := 82) 52 [] [_] (I.no (r := 39) rfl) rfl rfl rfl rfl rfl rfl rfl rfl ?_
    refine v_digits (a := 39) I rfl fun _ => jk ?_
    refine jx (pc' := 85) (L' := [_, _, _, _]) (st' := [.int (nI 2), _, _]) 3 rfl ?_
    try simp (disch := omega) only [ki1, ki2, nI_add, nI_mul, nI_sub, Nat.zero_mul, Nat.one_mul, Nat.sub_zero, Nat.add_zero, Nat.zero_add, Nat.add_sub_cancel]
    refine jidiv (pc' := 86) rfl rfl (by decide) rfl ?_
    rw [nI_div (by omega) (by decide)]
    refine jcv (pc' := 89) 68 [_] [] (I.no (r := 50) W50) rfl rfl rfl rfl rfl rfl rfl rfl ?_
    refine v_setPowerOfTen (a := 50) I W50 (by omega) fun h3 I => jk ?_
    refine jx (pc' := 91) (L' := [_, _, _, _]) (st' := []) 2 rfl ?_
    try simp (disch := omega) only [ki0, nI_add, nI_mul, nI_sub, Nat.zero_mul, Nat.one_mul, Nat.sub_zero, Nat.add_zero, Nat.zero_add, Nat.add_sub_cancel]
    have hl := dgs_l (rtN (fD dr.1) ex cx)
    have hs : sq (rtN (fD dr.1) ex cx) < 10 ^ ((dgs (rtN (fD dr.1) ex cx) + 1) / 2) := by
      rcases Nat.lt_or_ge (sq (rtN (fD dr.1) ex cx)) (10 ^ ((dgs (rtN (fD dr.1) ex cx) + 1) / 2)) with z | z
      · exact z
      · have := Nat.mul_le_mul z z
        rw [← Nat.pow_add] at this
        have := pl (a := dgs (rtN (fD dr.1) ex cx)) (b := (dgs (rtN (fD dr.1) ex cx) + 1) / 2 + (dgs (rtN (fD dr.1) ex cx) + 1) / 2) (by omega)
        omega
    have hu : 10 ^ ((dgs (rtN (fD dr.1) ex cx) + 1) / 2) ≤ 10 ^ 54 := pl (by omega)
    have h54 : (10 : Nat) ^ 54 < 2 ^ 190 := by decide
    have h55 : (10 : Nat) ^ 54 < 10 ^ 55 := plt (by decide)
    exact loop 190 0 _ _ _ _ _ (by omega) (by omega) (by omega) (by omega) I L.up39.up38.up50 ((((ag_0 _ S).up (by decide)).up (by decide)).up (by decide)) rfl rfl rfl
  refine jx (pc' := 5) (L' := [_, _, _, _]) (st' := [_, _, .int (zI 2)]) 3 rfl ?_
  refine jgf (pc' := 8) (I.ob (r := 34) AR) rfl rfl rfl rfl rfl ?_
  refine jgf (pc' := 11) (I.ob (r := 35) r1) rfl rfl rfl rfl rfl ?_
  refine jat (pc' := 12) I.tab rfl rfl ⟨by decide, r3⟩ rfl ?_
  rw [tv1 r3]
  refine jx (pc' := 16) (L' := [_, _, _, _]) (st' := [_, _]) 4 rfl ?_
  try simp (disch := omega) only [kz, kzl0, kzl1, kzb, kzs, zI_add, zI_sub, zI_neg, zI_mul, zL_i, zI_l, zL_add, zL_sub, zL_neg]
  refine jgf (pc' := 19) (I.ob (r := 34) AR) rfl rfl rfl rfl rfl ?_
  refine jgf (pc' := 22) (I.ob (r := 38) X) rfl rfl rfl rfl rfl ?_
  refine jcv (pc' := 25) 52 [] [_] (I.no (r := 39) XC) rfl rfl rfl rfl rfl rfl rfl rfl ?_
  refine v_digits (a := 39) I XC fun _ => jk ?_
  rw [nz (dgs _)]
  refine jx (pc' := 28) (L' := [_, _, _, _]) (st' := [_]) 3 rfl ?_
  try simp (disch := omega) only [kz, kzl0, kzl1, kzb, kzs, zI_add, zI_sub, zI_neg, zI_mul, zL_i, zI_l, zL_add, zL_sub, zL_neg]
  refine jgf (pc' := 31) (I.ob (r := 34) AR) rfl rfl rfl rfl rfl ?_
  refine jgf (pc' := 34) (I.ob (r := 38) X) rfl rfl rfl rfl rfl ?_
  refine jx (pc' := 41) (L' := [_, _, _, _]) (st' := [_]) 7 rfl ?_
  try simp (disch := omega) only [kz, kzl0, kzl1, kzb, kzs, zI_add, zI_sub, zI_neg, zI_mul, zL_i, zI_l, zL_add, zL_sub, zL_neg]
  rw [msk1 _ (by omega) (by omega)]
  by_cases e : (ex - (2 * ((fD dr.1 : Int) + 2) - dgs cx)) % 2 = 0
  · have nh : ¬ ¬ (ex - (2 * ((fD dr.1 : Int) + 2) - dgs cx)) % 2 = 0 := fun z => z e
    rw [if_neg nh] at hPd
    refine jit (pc' := 48) rfl rfl rfl (by rw [zl_eq ⟨by omega, by omega⟩ ⟨by omega, by omega⟩]; exact decide_eq_true e) ?_
    refine jx (pc' := 49) (L' := [_, _, _, _]) (st' := [.int (zI 0)]) 1 rfl ?_
    refine jx (pc' := 51) (L' := [_, _, _, _]) (st' := [_]) 2 rfl ?_
    refine jgf (pc' := 54) (I.ob (r := 34) AR) rfl rfl rfl rfl rfl ?_
    refine jx (pc' := 55) (L' := [_, _, _, _]) (st' := [_, _]) 1 rfl ?_
    refine jit (pc' := 64) rfl rfl rfl (rfl) ?_
    refine jx (pc' := 65) (L' := [_, _, _, _]) (st' := [_, _]) 1 rfl ?_
    rw [← hPd]
    exact t2 _ _
  · rw [if_pos e] at hPd
    refine jin (pc' := 44) 48 rfl rfl rfl rfl (by rw [zl_eq ⟨by omega, by omega⟩ ⟨by omega, by omega⟩]; exact decide_eq_false e) ?_
    refine jx (pc' := 49) (L' := [_, _, _, _]) (st' := [.int (zI 1)]) 2 rfl ?_
    refine jx (pc' := 51) (L' := [_, _, _, _]) (st' := [_]) 2 rfl ?_
    refine jgf (pc' := 54) (I.ob (r := 34) AR) rfl rfl rfl rfl rfl ?_
    refine jx (pc' := 55) (L' := [_, _, _, _]) (st' := [_, _]) 1 rfl ?_
    refine jin (pc' := 58) 64 rfl rfl rfl rfl (rfl) ?_
    refine jx (pc' := 65) (L' := [_, _, _, _]) (st' := [_, _]) 4 rfl ?_
    try simp (disch := omega) only [kz, kzl0, kzl1, kzb, kzs, zI_add, zI_sub, zI_neg, zI_mul, zL_i, zI_l, zL_add, zL_sub, zL_neg]
    rw [← hPd]
    exact t2 _ _
end ART
