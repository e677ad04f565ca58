/-! ===== Rounding: round ===== -/
theorem dgs_sh (c k : Nat) : c * 10 ^ k < 10 ^ (dgs c + k) := by
  rw [Nat.pow_add]
  exact Nat.mul_lt_mul_of_pos_right (dgs_l c) (pp0 k)
section RND
variable {h : ix_H} {Q : ix_O → ix_H → Prop} {S : Nat → AC} {fm so co c dir co' : Nat} {ng ng' ng2 mo mo' : Bool} {ex ex2 wi ex' wi' : Int}
theorem v_round (I : Inv h S) (X : S 38 = aC (uC 38 ng mo ex wi)) (XC : S 39 = aN c) (R : S 35 = aC (dC 35 fm so ng2 ex2)) (RC : S 36 = aN co) (hd : dir < 5) (hf : fm < 3) (hs : so < 4) (hx : zr ex2) (hc : c + 1 < 10 ^ 144) (he : -1099511627776 ≤ ex ∧ ex ≤ 1099511627776 - 144) (hw : -1099511627776 ≤ wi ∧ wi ≤ 1099511627776) (q : ∀ h' S', Inv h' S' → ag [35, 36, 38, 39] S S' → S' 35 = aC (dC 35 fm (rRnd fm dir ng mo ex wi c).1 ng (rRnd fm dir ng mo ex wi c).2.1) → S' 36 = aN (rRnd fm dir ng mo ex wi c).2.2.1 → isU S' 38 → Q (.inl (some (.int (nI (rRnd fm dir ng mo ex wi c).2.2.2)))) h') : ix_M 103 [.ref 38, .int (nI dir), .ref 35] h Q := by
  obtain ⟨f1, f2, f3, f4, f5, f6, f7⟩ := f3b hf
  obtain ⟨g1, g2⟩ := gEb hf
  have hg : gE fm = (fE fm : Int) - fD fm + 1 := rfl
  refine jx (pc' := 1) (L' := [_, _, _, _, _, _, _, _, _, _, _, _, _, _, _]) (st' := [_]) 1 rfl ?_
  refine jgf (pc' := 4) (I.ob (r := 35) R) rfl rfl rfl rfl rfl ?_
  refine jx (pc' := 6) (L' := [_, _, _, _, _, _, _, _, _, _, _, _, _, _, _]) (st' := [_]) 2 rfl ?_
  refine jcs (pc' := 9) 45 [_] [] rfl rfl rfl rfl rfl rfl rfl rfl ?_
  refine c_leastExponent I.tab hf (jk ?_)
  refine jx (pc' := 13) (L' := [_, _, _, _, _, _, _, _, _, _, _, _, _, _, _]) (st' := [_]) 3 rfl ?_
  try simp (disch := omega) only [kz, kzl0, kzl1, kzb, kzs, zI_add, zI_sub, zI_neg, zI_mul, zL_i, zI_l, zL_add, zL_sub, zL_neg]
  refine jcs (pc' := 16) 46 [_] [] rfl rfl rfl rfl rfl rfl rfl rfl ?_
  refine c_greatestExponent I.tab hf (jk ?_)
  refine jx (pc' := 21) (L' := [_, _, _, _, _, _, _, _, _, _, _, _, _, _, _]) (st' := [_, _]) 4 rfl ?_
  try simp (disch := omega) only [kz, kzl0, kzl1, kzb, kzs, zI_add, zI_sub, zI_neg, zI_mul, zL_i, zI_l, zL_add, zL_sub, zL_neg]
  refine jgf (pc' := 24) (I.ob (r := 38) X) rfl rfl rfl rfl rfl ?_
  refine jpA (pc' := 27) (r := 35) I R rfl rfl rfl (Nat.le_of_ble_eq_true rfl) (by intro z; cases z) (nb _) (fb _) rfl fun _ I R => ?_
  refine jx (pc' := 28) (L' := [_, _, _, _, _, _, _, _, _, _, _, _, _, _, _]) (st' := [_]) 1 rfl ?_
  refine jgf (pc' := 31) (I.ob (r := 38) X) rfl rfl rfl rfl rfl ?_
  have RR : va_up S 35 (aC (dC 35 fm so ng ex2)) 35 = aC (dC 35 fm so ng ex2) := va_up_self _ _ _
  cases mo with
  | true =>
    refine jin (pc' := 34) 41 rfl rfl rfl rfl (rfl) ?_
    refine jx (pc' := 37) (L' := [_, _, _, _, _, _, _, _, _, _, _, _, _, _, _]) (st' := [_, _, _]) 3 rfl ?_
    refine jcs (pc' := 40) 104 [_, _, _] [] rfl rfl rfl rfl rfl rfl rfl rfl ?_
    refine v_roundInexact (S := va_up S 35 (aC (dC 35 fm so ng ex2))) I X XC RR RC hd hf hs hx hc ⟨by omega, by omega⟩ fun h' S' I' g e1 e2 e3 => jk ?_
    refine jri rfl rfl ?_
    exact q _ _ I' (((ag_0 _ S).up (by decide)).tr g (fun _ z => z)) e1 e2 e3
  | false =>
    refine jit (pc' := 41) rfl rfl rfl (rfl) ?_
    refine jx (pc' := 42) (L' := [_, _, _, _, _, _, _, _, _, _, _, _, _, _, _]) (st' := [_]) 1 rfl ?_
    refine jgf (pc' := 45) (I.ob (r := 38) X) rfl rfl rfl rfl rfl ?_
    refine jcv (pc' := 48) 51 [] [] (I.no (r := 39) XC) rfl rfl rfl rfl rfl rfl rfl rfl ?_
    refine v_used (a := 39) I XC fun u hu hz => jk ?_
    rw [nz u]
    by_cases h0 : c = 0
    · have hu0 := hz.mpr h0
      have hE : rRnd fm dir ng false ex wi c = (0, max (-(fB fm : Int)) (min wi (gE fm)), 0, 0) := by
        unfold rRnd
        rw [if_neg (by simp), if_pos h0]
      rw [hE] at q
      refine jin (pc' := 51) 73 rfl rfl rfl rfl (by rw [zz_ne ⟨by omega, by omega⟩]; exact decide_eq_false (by omega)) ?_
      refine jx (pc' := 53) (L' := [_, _, _, _, _, _, _, _, _, _, _, _, _, _, _]) (st' := [_, _]) 2 rfl ?_
      refine jgf (pc' := 56) (I.ob (r := 38) X) rfl rfl rfl rfl rfl ?_
      refine jx (pc' := 57) (L' := [_, _, _, _, _, _, _, _, _, _, _, _, _, _, _]) (st' := [_, _, _]) 1 rfl ?_
      refine jgf (pc' := 60) (I.ob (r := 38) X) rfl rfl rfl rfl rfl ?_
      refine jx (pc' := 64) (L' := [_, _, _, _, _, _, _, _, _, _, _, _, _, _, _]) (st' := [_, _, _, _, _]) 2 rfl ?_
      refine jcs (pc' := 67) 106 [_, _, _] [_, _] rfl rfl rfl rfl rfl rfl rfl rfl ?_
      refine c_nearest ⟨by omega, by omega⟩ ⟨by omega, by omega⟩ ⟨by omega, by omega⟩ (jk ?_)
      rw [← hg]
      have b1 : -(fB fm : Int) ≤ max (-(fB fm : Int)) (min wi (gE fm)) := by omega
      have b2 : max (-(fB fm : Int)) (min wi (gE fm)) ≤ gE fm := by omega
      refine jx (pc' := 68) (L' := [_, _, _, _, _, _, _, _, _, _, _, _, _, _, _]) (st' := [_, _, _]) 1 rfl ?_
      try simp (disch := omega) only [kz, kzl0, kzl1, kzb, kzs, zI_add, zI_sub, zI_neg, zI_mul, zL_i, zI_l, zL_add, zL_sub, zL_neg]
      refine jcv (pc' := 71) 84 [_, _] [] (I.ob (r := 35) RR) rfl rfl rfl rfl rfl rfl rfl rfl ?_
      refine v_setFinite (r := 35) (b := 39) I RR RC XC hf hs hx (by decide) fun _ I => jk ?_
      refine jx (pc' := 72) (L' := [_, _, _, _, _, _, _, _, _, _, _, _, _, _, _]) (st' := [.int (zI 0)]) 1 rfl ?_
      refine jri rfl rfl ?_
      rw [h0] at I
      refine q _ _ I ((((ag_0 _ S).up (by decide)).up (by decide)).up (by decide)) rfl rfl ⟨_, _, _, _, _, X, XC⟩
    · have hu0 : ¬ u = 0 := fun z => h0 (hz.mp z)
      refine jit (pc' := 73) rfl rfl rfl (by rw [zz_ne ⟨by omega, by omega⟩]; exact decide_eq_true (by omega)) ?_
      refine jx (pc' := 74) (L' := [_, _, _, _, _, _, _, _, _, _, _, _, _, _, _]) (st' := [_]) 1 rfl ?_
      refine jcv (pc' := 77) 100 [] [] (I.ob (r := 38) X) rfl rfl rfl rfl rfl rfl rfl rfl ?_
      refine v_dropZeros (r := 38) I X XC fun ht h3 I => jk ?_
      have htz := tz_d c
      have hcz : 0 < c / 10 ^ tz c := Nat.div_pos (Nat.le_of_dvd (by omega) htz) (pp0 _)
      have hcl : c / 10 ^ tz c ≤ c := Nat.div_le_self _ _
      have hdd : dgs (c / 10 ^ tz c) ≤ 144 := dgs_le (by omega)
      have X1 : va_up (va_up (va_up S 35 (aC (dC 35 fm so ng ex2))) 39 (aN (c / 10 ^ tz c))) 38 (aC (uC 38 ng false (ex + tz c) wi)) 38 = aC (uC 38 ng false (ex + tz c) wi) := va_up_self _ _ _
      have XC1 : va_up (va_up (va_up S 35 (aC (dC 35 fm so ng ex2))) 39 (aN (c / 10 ^ tz c))) 38 (aC (uC 38 ng false (ex + tz c) wi)) 39 = aN (c / 10 ^ tz c) := rfl
      have hsp : dgs (c / 10 ^ tz c) ≤ fD fm → ∀ k, k ≤ fD fm - dgs (c / 10 ^ tz c) → c / 10 ^ tz c * 10 ^ k < 10 ^ 144 := fun z k hk => Nat.lt_of_lt_of_le (dgs_sh _ _) (pl (by omega))
      generalize hC : c / 10 ^ tz c = C at *
      generalize hT : tz c = T at *
      have hE : rRnd fm dir ng false ex wi c = if (fD fm : Int) - dgs C < 0 ∨ min (ex + T) (gE fm) < max (ex + T - (fD fm - dgs C)) (-(fB fm : Int)) then rInx fm dir ng false (ex + T) C else
          (0, max (max (ex + T - (fD fm - dgs C)) (-(fB fm : Int))) (min wi (min (ex + T) (gE fm))), C * 10 ^ (ex + T - max (max (ex + T - (fD fm - dgs C)) (-(fB fm : Int))) (min wi (min (ex + T) (gE fm)))).toNat, 0) := by
        unfold rRnd
        rw [hT, hC, if_neg (by simp), if_neg h0]
      rw [hE] at q
      refine jx (pc' := 81) (L' := [_, _, _, _, _, _, _, _, _, _, _, _, _, _, _]) (st' := [_, _]) 2 rfl ?_
      refine jat (pc' := 82) I.tab rfl rfl ⟨by decide, hf⟩ rfl ?_
      rw [tv1 hf]
      refine jx (pc' := 83) (L' := [_, _, _, _, _, _, _, _, _, _, _, _, _, _, _]) (st' := [_, _]) 1 rfl ?_
      refine jgf (pc' := 86) (I.ob (r := 38) X1) rfl rfl rfl rfl rfl ?_
      refine jcv (pc' := 89) 52 [] [_] (I.no (r := 39) XC1) rfl rfl rfl rfl rfl rfl rfl rfl ?_
      refine v_digits (a := 39) I XC1 fun hdg => jk ?_
      rw [nz (dgs _)]
      refine jx (pc' := 93) (L' := [_, _, _, _, _, _, _, _, _, _, _, _, _, _, _]) (st' := [_]) 3 rfl ?_
      try simp (disch := omega) only [kz, kzl0, kzl1, kzb, kzs, zI_add, zI_sub, zI_neg, zI_mul, zL_i, zI_l, zL_add, zL_sub, zL_neg]
      refine jgf (pc' := 96) (I.ob (r := 38) X1) rfl rfl rfl rfl rfl ?_
      refine jx (pc' := 102) (L' := [_, _, _, _, _, _, _, _, _, _, _, _, _, _, _]) (st' := [_, _]) 4 rfl ?_
      try simp (disch := omega) only [kz, kzl0, kzl1, kzb, kzs, zI_add, zI_sub, zI_neg, zI_mul, zL_i, zI_l, zL_add, zL_sub, zL_neg]
      refine jcs (pc' := 105) 275 [_, _] [] rfl rfl rfl rfl rfl rfl rfl rfl ?_
      refine c_maxL ⟨by omega, by omega⟩ ⟨by omega, by omega⟩ (jk ?_)
      refine jx (pc' := 108) (L' := [_, _, _, _, _, _, _, _, _, _, _, _, _, _, _]) (st' := [_]) 2 rfl ?_
      refine jgf (pc' := 111) (I.ob (r := 38) X1) rfl rfl rfl rfl rfl ?_
      refine jx (pc' := 113) (L' := [_, _, _, _, _, _, _, _, _, _, _, _, _, _, _]) (st' := [_, _]) 1 rfl ?_
      refine jcs (pc' := 116) 272 [_, _] [] rfl rfl rfl rfl rfl rfl rfl rfl ?_
      refine c_minL ⟨by omega, by omega⟩ ⟨by omega, by omega⟩ (jk ?_)
      rw [← hg]
      generalize hlo : max (ex + T - (fD fm - dgs C)) (-(fB fm : Int)) = lo at *
      generalize hhi : min (ex + T) (gE fm) = hi at *
      have inx : ((fD fm : Int) - dgs C < 0 ∨ hi < lo) → ∀ l, l.length = 12 → ix_E 103 131 (some (.ref 38) :: some (.int (nI dir)) :: some (.ref 35) :: l) [] h3 Q := by
        intro hcond l hl
        rw [if_pos hcond] at q
        match l, hl with
        | [_, _, _, _, _, _, _, _, _, _, _, _], _ =>
          refine jx (pc' := 134) (L' := [_, _, _, _, _, _, _, _, _, _, _, _, _, _, _]) (st' := [_, _, _]) 3 rfl ?_
          refine jcs (pc' := 137) 104 [_, _, _] [] rfl rfl rfl rfl rfl rfl rfl rfl ?_
          refine v_roundInexact (c := C) I X1 XC1 RR RC hd hf hs hx (by omega) ⟨by omega, by omega⟩ fun h' S' I' g e1 e2 e3 => jk ?_
          refine jri rfl rfl ?_
          exact q _ _ I' (((((ag_0 _ S).up (by decide)).up (by decide)).up (by decide)).tr g (fun _ z => z)) e1 e2 e3
      refine jx (pc' := 120) (L' := [_, _, _, _, _, _, _, _, _, _, _, _, _, _, _]) (st' := [_]) 2 rfl ?_
      by_cases hr : (fD fm : Int) - dgs C < 0
      · skip
        refine jit (pc' := 131) rfl rfl rfl (by rw [zz_lt ⟨by omega, by omega⟩]; exact decide_eq_true (by omega)) ?_
        exact inx (Or.inl hr) _ rfl
      · skip
        refine jin (pc' := 123) 131 rfl rfl rfl rfl (by rw [zz_lt ⟨by omega, by omega⟩]; exact decide_eq_false (by omega)) ?_
        refine jx (pc' := 128) (L' := [_, _, _, _, _, _, _, _, _, _, _, _, _, _, _]) (st' := [_]) 3 rfl ?_
        try simp (disch := omega) only [kz, kzl0, kzl1, kzb, kzs, zI_add, zI_sub, zI_neg, zI_mul, zL_i, zI_l, zL_add, zL_sub, zL_neg]
        by_cases hlh : hi < lo
        · skip
          refine jin (pc' := 131) 138 rfl rfl rfl rfl (by rw [zl_le ⟨by omega, by omega⟩ ⟨by omega, by omega⟩]; exact decide_eq_false (by omega)) ?_
          exact inx (Or.inr hlh) _ rfl
        · skip
          rw [if_neg (fun z => z.elim hr hlh)] at q
          refine jit (pc' := 138) rfl rfl rfl (by rw [zl_le ⟨by omega, by omega⟩ ⟨by omega, by omega⟩]; exact decide_eq_true (by omega)) ?_
          refine jx (pc' := 139) (L' := [_, _, _, _, _, _, _, _, _, _, _, _, _, _, _]) (st' := [_]) 1 rfl ?_
          refine jgf (pc' := 142) (I.ob (r := 38) X1) rfl rfl rfl rfl rfl ?_
          refine jx (pc' := 146) (L' := [_, _, _, _, _, _, _, _, _, _, _, _, _, _, _]) (st' := [_, _, _]) 2 rfl ?_
          refine jcs (pc' := 149) 106 [_, _, _] [] rfl rfl rfl rfl rfl rfl rfl rfl ?_
          refine c_nearest ⟨by omega, by omega⟩ ⟨by omega, by omega⟩ ⟨by omega, by omega⟩ (jk ?_)
          generalize hqq : max lo (min wi hi) = qq at *
          refine jx (pc' := 153) (L' := [_, _, _, _, _, _, _, _, _, _, _, _, _, _, _]) (st' := [_, _]) 3 rfl ?_
          refine jgf (pc' := 156) (I.ob (r := 38) X1) rfl rfl rfl rfl rfl ?_
          refine jx (pc' := 160) (L' := [_, _, _, _, _, _, _, _, _, _, _, _, _, _, _]) (st' := [_, _]) 3 rfl ?_
          try simp (disch := omega) only [kz, kzl0, kzl1, kzb, kzs, zI_add, zI_sub, zI_neg, zI_mul, zL_i, zI_l, zL_add, zL_sub, zL_neg]
          refine jcv (pc' := 163) 99 [_] [] (I.ob (r := 38) X1) rfl rfl rfl rfl rfl rfl rfl rfl ?_
          refine v_lowerExponent (r := 38) I X1 XC1 ⟨by omega, by omega⟩ (hsp (by omega) _ (by omega)) fun _ I => jk ?_
          refine jx (pc' := 165) (L' := [_, _, _, _, _, _, _, _, _, _, _, _, _, _, _]) (st' := [_, _]) 2 rfl ?_
          refine jgf (pc' := 168) (I.ob (r := 38) rfl) rfl rfl rfl rfl rfl ?_
          refine jx (pc' := 171) (L' := [_, _, _, _, _, _, _, _, _, _, _, _, _, _, _]) (st' := [_, _, _]) 2 rfl ?_
          try simp (disch := omega) only [kz, kzl0, kzl1, kzb, kzs, zI_add, zI_sub, zI_neg, zI_mul, zL_i, zI_l, zL_add, zL_sub, zL_neg]
          refine jcv (pc' := 174) 84 [_, _] [] (I.ob (r := 35) RR) rfl rfl rfl rfl rfl rfl rfl rfl ?_
          refine v_setFinite (r := 35) (b := 39) I RR RC rfl hf hs hx (by decide) fun _ I => jk ?_
          refine jx (pc' := 175) (L' := [_, _, _, _, _, _, _, _, _, _, _, _, _, _, _]) (st' := [.int (zI 0)]) 1 rfl ?_
          refine jri rfl rfl ?_
          exact q _ _ I ((((((((ag_0 _ S).up (by decide)).up (by decide)).up (by decide)).up (by decide)).up (by decide)).up (by decide)).up (by decide)) rfl rfl ⟨_, _, _, _, _, rfl, rfl⟩
end RND
