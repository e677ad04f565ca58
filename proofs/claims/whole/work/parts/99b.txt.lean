/-! ===== Arithmetic: fromText; TextWriter: append, appendWord, appendDigits, appendNumber ===== -/
noncomputable def ftR (dir f so : Nat) (ng : Bool) (ex : Int) (D : Nat) : Dm × Nat := if ¬ so = 0 then ((f, so, ng, 0, if dgs D < fD f then D else 0), 0) else rdo dir (f, 0, false, 0, 0) (.inr (ng, false, ex, ex, D))
section ART
variable {h : ix_H} {Q : ix_O → ix_H → Prop} {S : Nat → AC} {dir f so len pl D : Nat} {dr : Dm} {ng : Bool} {ex : Int}
theorem v_fromText (I : Inv h S) (L : Lay S) (R : ResD S dr) (RC : S 65 = aC (trC so ng ex len pl)) (DG : S 66 = aN D) (hd : dir < 5) (hf : f < 3) (hso : so < 4) (hD : D < 10 ^ 120) (he : -200000000 ≤ ex ∧ ex ≤ 200000000) (q : ∀ h' S', Inv h' S' → Lay S' → ag arl S S' → ResD S' (ftR dir f so ng ex D).1 → Q (.inl (some (.int (nI (ftR dir f so ng ex D).2)))) h') : ix_M 143 [.ref 34, .ref 65, .int (nI f), .int (nI dir)] h Q := by
  obtain ⟨wn, AR⟩ := L.1
  obtain ⟨r1, r2, r3, r4, r5⟩ := R
  obtain ⟨xn, xm, xe', xw, xc, X0, XC0⟩ := L.2.1
  obtain ⟨f1, f2, _⟩ := f3b hf
  unfold ftR at q
  refine jx (pc' := 1) (L' := [_, _, _, _]) (st' := [_]) 1 rfl ?_
  refine jgf (pc' := 4) (I.ob (r := 34) AR) rfl rfl rfl rfl rfl ?_
  refine jx (pc' := 5) (L' := [_, _, _, _]) (st' := [_, _]) 1 rfl ?_
  refine jpA (pc' := 8) (r := 35) I r1 rfl rfl rfl (Nat.le_of_ble_eq_true rfl) (by intro z; cases z) rfl rfl rfl fun _ I r1 => ?_
  refine jx (pc' := 9) (L' := [_, _, _, _]) (st' := [_]) 1 rfl ?_
  refine jgf (pc' := 12) (I.ob (r := 65) RC) rfl rfl rfl rfl rfl ?_
  rw [nz so]
  by_cases e0 : so = 0
  · have nh : ¬ ¬ so = 0 := fun z => z e0
    simp only [if_neg nh] at q
    refine jit (pc' := 68) rfl rfl rfl (by rw [zz_eq ⟨by omega, by omega⟩]; exact decide_eq_true (by omega)) ?_
    refine jx (pc' := 69) (L' := [_, _, _, _]) (st' := [_]) 1 rfl ?_
    refine jgf (pc' := 72) (I.ob (r := 34) AR) rfl rfl rfl rfl rfl ?_
    refine jx (pc' := 73) (L' := [_, _, _, _]) (st' := [_, _]) 1 rfl ?_
    refine jgf (pc' := 76) (I.ob (r := 65) RC) rfl rfl rfl rfl rfl ?_
    refine jcv (pc' := 79) 97 [_] [] (I.ob (r := 38) X0) rfl rfl rfl rfl rfl rfl rfl rfl ?_
    refine v_setZero (r := 38) I X0 XC0 fun _ I => jk ?_
    have X1 : va_up (va_up (va_up S 35 (aC (dC 35 f dr.2.1 dr.2.2.1 dr.2.2.2.1))) 38 (aC (uC 38 ng false xe' xw))) 39 (aN 0) 38 = aC (uC 38 ng false xe' xw) := rfl
    refine jx (pc' := 80) (L' := [_, _, _, _]) (st' := [_]) 1 rfl ?_
    refine jgf (pc' := 83) (I.ob (r := 34) AR) rfl rfl rfl rfl rfl ?_
    refine jgf (pc' := 86) (I.ob (r := 38) X1) rfl rfl rfl rfl rfl ?_
    refine jx (pc' := 87) (L' := [_, _, _, _]) (st' := [_, _]) 1 rfl ?_
    refine jgf (pc' := 90) (I.ob (r := 65) RC) rfl rfl rfl rfl rfl ?_
    refine jcv (pc' := 93) 48 [_] [] (I.no (r := 39) rfl) rfl rfl rfl rfl rfl rfl rfl rfl ?_
    refine v_copy (a := 39) (b := 66) I rfl DG fun _ I => jk ?_
    refine jx (pc' := 94) (L' := [_, _, _, _]) (st' := [_]) 1 rfl ?_
    refine jgf (pc' := 97) (I.ob (r := 34) AR) rfl rfl rfl rfl rfl ?_
    refine jx (pc' := 98) (L' := [_, _, _, _]) (st' := [_, _]) 1 rfl ?_
    refine jgf (pc' := 101) (I.ob (r := 65) RC) rfl rfl rfl rfl rfl ?_
    refine jx (pc' := 102) (L' := [_, _, _, _]) (st' := [_, _]) 1 rfl ?_
    try simp (disch := omega) only [kz, kzl0, kzl1, kzb, kzs, zI_add, zI_sub, zI_neg, zI_mul, zL_i, zI_l, zL_add, zL_sub, zL_neg]
    refine jpA (pc' := 105) (r := 38) I X1 rfl rfl rfl (Nat.le_of_ble_eq_true rfl) (by intro z; cases z) rfl rfl rfl fun _ I X1 => ?_
    refine jx (pc' := 106) (L' := [_, _, _, _]) (st' := [_]) 1 rfl ?_
    refine jgf (pc' := 109) (I.ob (r := 34) AR) rfl rfl rfl rfl rfl ?_
    refine jx (pc' := 110) (L' := [_, _, _, _]) (st' := [_, _]) 1 rfl ?_
    refine jgf (pc' := 113) (I.ob (r := 65) RC) rfl rfl rfl rfl rfl ?_
    refine jx (pc' := 114) (L' := [_, _, _, _]) (st' := [_, _]) 1 rfl ?_
    try simp (disch := omega) only [kz, kzl0, kzl1, kzb, kzs, zI_add, zI_sub, zI_neg, zI_mul, zL_i, zI_l, zL_add, zL_sub, zL_neg]
    refine jpA (pc' := 117) (r := 38) I X1 rfl rfl rfl (Nat.le_of_ble_eq_true rfl) (by intro z; cases z) rfl rfl rfl fun _ I X1 => ?_
    refine jx (pc' := 118) (L' := [_, _, _, _]) (st' := [_]) 1 rfl ?_
    refine jgf (pc' := 121) (I.ob (r := 34) AR) rfl rfl rfl rfl rfl ?_
    refine jx (pc' := 123) (L' := [_, _, _, _]) (st' := [_, _, _]) 2 rfl ?_
    refine jgf (pc' := 126) (I.ob (r := 34) AR) rfl rfl rfl rfl rfl ?_
    refine jcs (pc' := 129) 103 [_, _, _] [] rfl rfl rfl rfl rfl rfl rfl rfl ?_
    refine v_roundR (dr := (f, dr.2.1, dr.2.2.1, dr.2.2.2.1, dr.2.2.2.2)) (u := (ng, false, ex, ex, D)) I L.up35.up38.up39.up39.up38.up38 ⟨rfl, r2, hf, r4, r5⟩ rfl rfl ⟨b138 (Nat.lt_trans hD (plt (by decide))), by dsimp only; omega, by dsimp only; omega, by dsimp only; omega, by dsimp only; omega⟩ hd fun h' S' I' L' g R' => jk ?_
    refine jri rfl rfl ?_
    exact q _ _ I' L' ((((((((ag_0 arl S).up (by decide)).up (by decide)).up (by decide)).up (by decide)).up (by decide)).up (by decide)).tr g (fun _ z => z)) R'
  · simp only [if_pos e0] at q
    refine jin (pc' := 15) 68 rfl rfl rfl rfl (by rw [zz_eq ⟨by omega, by omega⟩]; exact decide_eq_false (by omega)) ?_
    refine jx (pc' := 16) (L' := [_, _, _, _]) (st' := [_]) 1 rfl ?_
    refine jgf (pc' := 19) (I.ob (r := 34) AR) rfl rfl rfl rfl rfl ?_
    refine jx (pc' := 20) (L' := [_, _, _, _]) (st' := [_, _]) 1 rfl ?_
    refine jgf (pc' := 23) (I.ob (r := 65) RC) rfl rfl rfl rfl rfl ?_
    refine jcv (pc' := 26) 83 [_] [] (I.ob (r := 35) r1) rfl rfl rfl rfl rfl rfl rfl rfl ?_
    refine v_setSpecial (r := 35) I r1 r2 hf r4 r5 fun _ I => jk ?_
    have r1b : va_up (va_up (va_up S 35 (aC (dC 35 f dr.2.1 dr.2.2.1 dr.2.2.2.1))) 35 (aC (dC 35 f so dr.2.2.1 0))) 36 (aN 0) 35 = aC (dC 35 f so dr.2.2.1 0) := rfl
    refine jx (pc' := 27) (L' := [_, _, _, _]) (st' := [_]) 1 rfl ?_
    refine jgf (pc' := 30) (I.ob (r := 34) AR) rfl rfl rfl rfl rfl ?_
    refine jx (pc' := 31) (L' := [_, _, _, _]) (st' := [_, _]) 1 rfl ?_
    refine jgf (pc' := 34) (I.ob (r := 65) RC) rfl rfl rfl rfl rfl ?_
    refine jpA (pc' := 37) (r := 35) I r1b rfl rfl rfl (Nat.le_of_ble_eq_true rfl) (by intro z; cases z) (nb _) (fb _) rfl fun _ I r1b => ?_
    refine jx (pc' := 38) (L' := [_, _, _, _]) (st' := [_]) 1 rfl ?_
    refine jgf (pc' := 41) (I.ob (r := 65) RC) rfl rfl rfl rfl rfl ?_
    refine jcv (pc' := 44) 52 [] [] (I.no (r := 66) DG) rfl rfl rfl rfl rfl rfl rfl rfl ?_
    refine v_digits (a := 66) I DG fun _ => jk ?_
    rw [nz (dgs _)]
    refine jx (pc' := 48) (L' := [_, _, _, _]) (st' := [_, _, _]) 2 rfl ?_
    refine jat (pc' := 49) I.tab rfl rfl ⟨by decide, hf⟩ rfl ?_
    rw [tv1 hf]
    have hdg : dgs D ≤ 144 := dgs_le (Nat.lt_trans hD (plt (by decide)))
    by_cases e1 : dgs D < fD f
    · rw [if_pos e1] at q
      refine jcn (pc' := 52) 66 rfl rfl rfl rfl (by rw [zc_ge ⟨by omega, by omega⟩ ⟨by omega, by omega⟩]; exact decide_eq_false (by omega)) ?_
      refine jx (pc' := 53) (L' := [_, _, _, _]) (st' := [_]) 1 rfl ?_
      refine jgf (pc' := 56) (I.ob (r := 34) AR) rfl rfl rfl rfl rfl ?_
      refine jgf (pc' := 59) (I.ob (r := 35) r1b) rfl rfl rfl rfl rfl ?_
      refine jx (pc' := 60) (L' := [_, _, _, _]) (st' := [_, _]) 1 rfl ?_
      refine jgf (pc' := 63) (I.ob (r := 65) RC) rfl rfl rfl rfl rfl ?_
      refine jcv (pc' := 66) 48 [_] [] (I.no (r := 36) rfl) rfl rfl rfl rfl rfl rfl rfl rfl ?_
      refine v_copy (a := 36) (b := 66) I rfl DG fun _ I => jk ?_
      refine jx (pc' := 67) (L' := [_, _, _, _]) (st' := [.int (zI 0)]) 1 rfl ?_
      refine jri rfl rfl ?_
      exact q _ _ I L.up35.up35.up36.up35.up36 ((((((ag_0 arl S).up (by decide)).up (by decide)).up (by decide)).up (by decide)).up (by decide)) ⟨rfl, rfl, hf, hso, zr0⟩
    · rw [if_neg e1] at q
      refine jct (pc' := 66) rfl rfl rfl (by rw [zc_ge ⟨by omega, by omega⟩ ⟨by omega, by omega⟩]; exact decide_eq_true (by omega)) ?_
      refine jx (pc' := 67) (L' := [_, _, _, _]) (st' := [.int (zI 0)]) 1 rfl ?_
      refine jri rfl rfl ?_
      exact q _ _ I L.up35.up35.up36.up35 (((((ag_0 arl S).up (by decide)).up (by decide)).up (by decide)).up (by decide)) ⟨rfl, rfl, hf, hso, zr0⟩
end ART
/-- the output -/
def Wr (S : Nat → AC) (l : List Nat) : Prop := S 69 = aC (cO 9 [.ref 70, .int (nI l.length)]) ∧ ∃ o : Nat → Nat, S 70 = aC (cI 2 64 (fun j => nI (o j))) ∧ ∀ j, j < l.length → o j = l.getD j 0
/-- digits from a place down to another -/
def dl (x a b : Nat) : List Nat := (List.range (a - b)).map fun (i : Nat) => 48 + dAt x ((a : Int) - 1 - (i : Int))
theorem dl_z (x a : Nat) : dl x a a = [] := by unfold dl; rw [Nat.sub_self]; rfl
theorem dl_l (x a b : Nat) : (dl x a b).length = a - b := by unfold dl; simp
theorem dl_s {x a b : Nat} (h : b ≤ a) : dl x (a + 1) b = (48 + dAt x a) :: dl x a b := by
  unfold dl
  rw [show a + 1 - b = (a - b) + 1 by omega, List.range_succ_eq_map, List.map_cons, List.map_map]
  congr 1
  · congr 2
    omega
  · apply List.map_congr_left
    intro i _
    show 48 + dAt x _ = 48 + dAt x _
    congr 2
    show ((a + 1 : Nat) : Int) - 1 - ((i + 1 : Nat) : Int) = (a : Int) - 1 - i
    omega
/-- a number below ten thousand -/
def nml (v : Nat) : List Nat := if v < 10 then [48 + v] else if v < 100 then [48 + v / 10, 48 + v % 10] else if v < 1000 then [48 + v / 100, 48 + v / 10 % 10, 48 + v % 10] else [48 + v / 1000, 48 + v / 100 % 10, 48 + v / 10 % 10, 48 + v % 10]
section TXT
variable {h : ix_H} {Q : ix_O → ix_H → Prop} {S : Nat → AC} {l : List Nat} {c r x n a b v : Nat}
theorem v_wappend (I : Inv h S) (W : Wr S l) (hl : l.length < 64) (hc : c < 65536) (q : ∀ h' S', Inv h' S' → ag [69, 70] S S' → Wr S' (l ++ [c]) → Q (.inl none) h') : ix_M 157 [.ref 69, .int (nI c)] h Q := by
  obtain ⟨w1, o, w2, w3⟩ := W
  refine jx (pc' := 1) (L' := [_, _]) (st' := [_]) 1 rfl ?_
  refine jgf (pc' := 4) (I.ob (r := 69) w1) rfl rfl rfl rfl rfl ?_
  refine jx (pc' := 6) (L' := [_, _]) (st' := [.int (nI 64), _]) 1 rfl ?_
  refine jcn (pc' := 9) 29 rfl rfl rfl rfl (by rw [cc_ge (by omega) (by omega)]; exact decide_eq_false (by omega)) ?_
  refine jx (pc' := 10) (L' := [_, _]) (st' := [_]) 1 rfl ?_
  refine jgf (pc' := 13) (I.ob (r := 69) w1) rfl rfl rfl rfl rfl ?_
  refine jx (pc' := 14) (L' := [_, _]) (st' := [_, _]) 1 rfl ?_
  refine jgf (pc' := 17) (I.ob (r := 69) w1) rfl rfl rfl rfl rfl ?_
  refine jx (pc' := 18) (L' := [_, _]) (st' := [_, _, _]) 1 rfl ?_
  refine jcA (pc' := 19) (r := 70) I w2 rfl rfl hl hc rfl fun k1 I => ?_
  refine jx (pc' := 21) (L' := [_, _]) (st' := [_, _]) 2 rfl ?_
  refine jgf (pc' := 24) (I.ob (r := 69) w1) rfl rfl rfl rfl rfl ?_
  refine jx (pc' := 26) (L' := [_, _]) (st' := [_, _]) 2 rfl ?_
  try simp (disch := omega) only [ki1, nI_add, nI_mul, nI_sub, Nat.zero_mul, Nat.one_mul, Nat.sub_zero, Nat.add_zero, Nat.zero_add, Nat.add_sub_cancel]
  refine jpA (pc' := 29) (r := 69) I w1 rfl rfl rfl (Nat.le_of_ble_eq_true rfl) (by intro z; cases z) rfl rfl rfl fun _ I w1 => ?_
  refine ix_qr _ rfl rfl rfl ?_
  refine q _ _ I (((ag_0 _ S).up (by decide)).up (by decide)) ⟨?_, _, rfl, fun j hj => ?_⟩
  · rw [List.length_append]; rfl
  · rw [List.length_append] at hj
    by_cases e : j = l.length
    · rw [e, va_up_self, List.getD_eq_getElem?_getD, List.getElem?_append_right (Nat.le_refl _)]
      simp
    · have hj' : j < l.length := by simp at hj; omega
      rw [va_up_ne _ _ e, w3 j hj', List.getD_eq_getElem?_getD, List.getD_eq_getElem?_getD, List.getElem?_append_left hj']
theorem v_appendWord (I : Inv h S) (W : Wr S l) (hr : r < 7) (hl : l.length + 8 ≤ 64) (q : ∀ h' S', Inv h' S' → ag [69, 70] S S' → Wr S' (l ++ sc r) → Q (.inl none) h') : ix_M 158 [.ref 69, .ref (r + 8)] h Q := by
  have hsl := sc_l hr
  have loop : ∀ (k i : Nat) (h1 : ix_H) (T : Nat → AC), i + k = (sc r).length → Inv h1 T → ag [69, 70] S T → Wr T (l ++ (sc r).take i) → ix_E 158 2 [some (.ref 69), some (.ref (r + 8)), some (.int (nI i))] [] h1 Q := by
    intro k
    induction k with
    | zero =>
      intro i h1 T hi I g W
      obtain rfl : i = (sc r).length := by omega
      rw [List.take_length] at W
      refine jx (pc' := 4) (L' := [_, _, _]) (st' := [_, _]) 2 rfl ?_
      refine jcvs (pc' := 7) 278 [] [_] I.tab hr rfl rfl rfl rfl rfl rfl rfl rfl rfl ?_
      refine c_strlen I.tab hr (jk ?_)
      refine jct (pc' := 25) rfl rfl rfl (by rw [cc_ge (by omega) (by omega)]; exact decide_eq_true (by omega)) ?_
      refine ix_qr _ rfl rfl rfl ?_
      exact q _ _ I g W
    | succ k ih =>
      intro i h1 T hi I g W
      have hv := sc_v (j := i) hr
      refine jx (pc' := 4) (L' := [_, _, _]) (st' := [_, _]) 2 rfl ?_
      refine jcvs (pc' := 7) 278 [] [_] I.tab hr rfl rfl rfl rfl rfl rfl rfl rfl rfl ?_
      refine c_strlen I.tab hr (jk ?_)
      refine jcn (pc' := 10) 25 rfl rfl rfl rfl (by rw [cc_ge (by omega) (by omega)]; exact decide_eq_false (by omega)) ?_
      refine jx (pc' := 13) (L' := [_, _, _]) (st' := [_, _, _]) 3 rfl ?_
      refine jcvs (pc' := 16) 280 [_] [_] I.tab hr rfl rfl rfl rfl rfl rfl rfl rfl rfl ?_
      refine c_charAt I.tab hr (by omega) (jk ?_)
      refine jcv (pc' := 19) 157 [_] [] (I.ob (r := 69) W.1) rfl rfl rfl rfl rfl rfl rfl rfl ?_
      refine v_wappend I W (by rw [List.length_append, List.length_take]; omega) (by omega) fun h2 T2 I g2 W2 => jk ?_
      refine jx (pc' := 2) (L' := [_, _, _]) (st' := []) 2 rfl ?_
      rw [nI_i]
      refine ih (i + 1) h2 T2 (by omega) I (g.tr g2 (fun _ z => z)) ?_
      rw [List.append_assoc, show List.take i (sc r) ++ [(sc r).getD i 0] = List.take (i + 1) (sc r) from by
        rw [List.take_add_one, List.getD_eq_getElem?_getD, List.getElem?_eq_getElem (by omega)]
        rfl] at W2
      exact W2
  refine jx (pc' := 2) (L' := [_, _, _]) (st' := []) 2 rfl ?_
  try simp (disch := omega) only [ki0, nI_add, nI_mul, nI_sub, Nat.zero_mul, Nat.one_mul, Nat.sub_zero, Nat.add_zero, Nat.zero_add, Nat.add_sub_cancel]
  exact loop (sc r).length 0 h S (by omega) I (ag_0 _ S) (by rw [List.take_zero, List.append_nil]; exact W)
theorem v_appendDigits (I : Inv h S) (W : Wr S l) (A : S n = aN x) (hn : n ≠ 69 ∧ n ≠ 70) (hab : b ≤ a) (ha : a < 1000) (hl : l.length + (a - b) ≤ 64) (q : ∀ h' S', Inv h' S' → ag [69, 70] S S' → Wr S' (l ++ dl x a b) → Q (.inl none) h') : ix_M 159 [.ref 69, .ref n, .int (nI a), .int (nI b)] h Q := by
  have loop : ∀ (k : Nat) (h1 : ix_H) (T : Nat → AC) (l1 : List Nat), l1.length + k ≤ 64 → (b + k) ≤ a → Inv h1 T → ag [69, 70] S T → Wr T l1 → l1 ++ dl x (b + k) b = l ++ dl x a b → ix_E 159 5 [some (.ref 69), some (.ref n), some (.int (nI a)), some (.int (nI b)), some (.int (zI ((b : Int) + k - 1)))] [] h1 Q := by
    intro k
    induction k with
    | zero =>
      intro h1 T l1 hl1 hk I g W he
      rw [Nat.add_zero, dl_z, List.append_nil] at he
      subst he
      refine jx (pc' := 8) (L' := [_, _, _, _, _]) (st' := [_, _]) 2 rfl ?_
      rw [nz b]
      refine jct (pc' := 31) rfl rfl rfl (by rw [zc_lt ⟨by omega, by omega⟩ ⟨by omega, by omega⟩]; exact decide_eq_true (by omega)) ?_
      refine ix_qr _ rfl rfl rfl ?_
      exact q _ _ I g W
    | succ k ih =>
      intro h1 T l1 hl1 hk I g W he
      have A1 : T n = aN x := g.at n (by simp; omega) A
      have O := I.no A1
      have hd := dAt_lt x (b + k : Nat)
      refine jx (pc' := 8) (L' := [_, _, _, _, _]) (st' := [_, _]) 2 rfl ?_
      rw [nz b]
      refine jcn (pc' := 11) 31 rfl rfl rfl rfl (by rw [zc_lt ⟨by omega, by omega⟩ ⟨by omega, by omega⟩]; exact decide_eq_false (by omega)) ?_
      refine jx (pc' := 17) (L' := [_, _, _, _, _]) (st' := [_, _, .int (zI 48), _]) 4 rfl ?_
      rw [show (b : Int) + ((k + 1 : Nat) : Int) - 1 = ((b + k : Nat) : Int) by omega, ← nz b]
      refine jcv (pc' := 20) 62 [_] [.int (zI 48), _] O rfl rfl rfl rfl rfl rfl rfl rfl ?_
      refine v_digitAt I A1 ⟨by omega, by omega⟩ (jk ?_)
      refine jx (pc' := 21) (L' := [_, _, _, _, _]) (st' := [_, _]) 1 rfl ?_
      try simp (disch := omega) only [nI_add, nI_mul, nI_sub, Nat.zero_mul, Nat.one_mul, Nat.sub_zero, Nat.add_zero, Nat.zero_add, Nat.add_sub_cancel]
      refine jx (pc' := 22) (L' := [_, _, _, _, _]) (st' := [_, _]) 1 rfl ?_
      try simp (disch := omega) only [nI_add, nI_mul, nI_sub, Nat.zero_mul, Nat.one_mul, Nat.sub_zero, Nat.add_zero, Nat.zero_add, Nat.add_sub_cancel]
      rw [show zI 48 = nI 48 from by decide, nI_add, i2c_n (by omega)]
      refine jcv (pc' := 25) 157 [_] [] (I.ob (r := 69) W.1) rfl rfl rfl rfl rfl rfl rfl rfl ?_
      refine v_wappend I W (by omega) (by omega) fun h2 T2 I g2 W2 => jk ?_
      refine jx (pc' := 5) (L' := [_, _, _, _, _]) (st' := []) 2 rfl ?_
      rw [show zI ((b + k : Nat) : Int) + Int32.ofInt (-1) = zI ((b : Int) + k - 1) from by rw [kz, zI_add]; congr 1]
      refine ih h2 T2 _ (by rw [List.length_append]; simp; omega) (by omega) I (g.tr g2 (fun _ z => z)) W2 ?_
      rw [← he, show b + (k + 1) = b + k + 1 by omega, dl_s (by omega), List.append_assoc]
      rfl
  rw [nz a]
  refine jx (pc' := 5) (L' := [_, _, _, _, _]) (st' := []) 4 rfl ?_
  try simp (disch := omega) only [kz, kzl0, kzl1, kzb, kzs, zI_add, zI_sub, zI_neg, zI_mul, zL_i, zI_l, zL_add, zL_sub, zL_neg]
  rw [← nz a]
  have := loop (a - b) h S l hl (by omega) I (ag_0 _ S) W (by rw [show b + (a - b) = a by omega])
  rw [show (b : Int) + ((a - b : Nat) : Int) - 1 = (a : Int) - 1 by omega] at this
  exact this
end TXT
