/-! ===== TextReader: passWord, passDigits, passExponent, passNumber ===== -/
section TXT
variable {h : ix_H} {Q : ix_O → ix_H → Prop} {S : Nat → AC} {t : Nat → Nat} {so len pl c D r : Nat} {ng : Bool} {ex : Int}
theorem v_passWord (I : Inv h S) (RC : S 65 = aC (trC so ng ex len pl)) (TX : S 68 = aC (txC t)) (hl : len ≤ 120) (hp : pl ≤ len) (ht : ∀ j, j < len → t j < 128) (hr : r < 7) (q : ∀ h', Inv h' (va_up S 65 (aC (trC so ng ex len (if wm t len pl r then pl + (sc r).length else pl)))) → Q (.inl (some (.int (bI (wm t len pl r))))) h') : ix_M 149 [.ref 65, .ref (r + 8)] h Q := by
  have hsl := sc_l hr
  have loop : ∀ (k i : Nat) (h1 : ix_H), i + k = (sc r).length → pl + i ≤ len → (∀ j, j < i → pl + j < len ∧ uc (t (pl + j)) = (sc r).getD j 0) → Inv h1 (va_up S 65 (aC (trC so ng ex len (pl + i)))) → ix_E 149 7 [some (.ref 65), some (.ref (r + 8)), some (.int (nI pl)), some (.int (nI i))] [] h1 Q := by
    intro k
    induction k with
    | zero =>
      intro i h1 hi hpi hm I
      obtain rfl : i = (sc r).length := by omega
      have hw : wm t len pl r = true := decide_eq_true hm
      rw [hw] at q
      refine jx (pc' := 9) (L' := [_, _, _, _]) (st' := [_, _]) 2 rfl ?_
      refine jcvs (pc' := 12) 278 [] [_] I.tab hr rfl rfl rfl rfl rfl rfl rfl rfl rfl ?_
      refine c_strlen I.tab hr (jk ?_)
      refine jct (pc' := 50) rfl rfl rfl (by rw [cc_ge (by omega) (by omega)]; exact decide_eq_true (by omega)) ?_
      refine jx (pc' := 51) (L' := [_, _, _, _]) (st' := [.int (nI 1)]) 1 rfl ?_
      refine ix_qr _ rfl rfl rfl ?_
      exact q _ I
    | succ k ih =>
      intro i h1 hi hpi hm I
      have hv := sc_v (j := i) hr
      have R1 : va_up S 65 (aC (trC so ng ex len (pl + i))) 65 = aC (trC so ng ex len (pl + i)) := va_up_self _ _ _
      refine jx (pc' := 9) (L' := [_, _, _, _]) (st' := [_, _]) 2 rfl ?_
      refine jcvs (pc' := 12) 278 [] [_] I.tab hr rfl rfl rfl rfl rfl rfl rfl rfl rfl ?_
      refine c_strlen I.tab hr (jk ?_)
      refine jcn (pc' := 15) 50 rfl rfl rfl rfl (by rw [cc_ge (by omega) (by omega)]; exact decide_eq_false (by omega)) ?_
      refine jx (pc' := 18) (L' := [_, _, _, _]) (st' := [_, _, _]) 3 rfl ?_
      refine jcvs (pc' := 21) 280 [_] [_] I.tab hr rfl rfl rfl rfl rfl rfl rfl rfl rfl ?_
      refine c_charAt I.tab hr (by omega) (jk ?_)
      refine jcv (pc' := 24) 148 [_] [] (I.ob (r := 65) R1) rfl rfl rfl rfl rfl rfl rfl rfl ?_
      refine v_isAt (c := (sc r).getD i 0) I R1 TX hl hpi ht (by omega) (jk ?_)
      by_cases e : pl + i < len ∧ uc (t (pl + i)) = (sc r).getD i 0
      · skip
        refine jit (pc' := 34) rfl rfl rfl (by rw [bz_ne]; exact decide_eq_true e) ?_
        refine jx (pc' := 36) (L' := [_, _, _, _]) (st' := [_, _]) 2 rfl ?_
        refine jgf (pc' := 39) (I.ob (r := 65) R1) rfl rfl rfl rfl rfl ?_
        refine jx (pc' := 41) (L' := [_, _, _, _]) (st' := [_, _]) 2 rfl ?_
        try simp (disch := omega) only [ki1, nI_add, nI_mul, nI_sub, Nat.zero_mul, Nat.one_mul, Nat.sub_zero, Nat.add_zero, Nat.zero_add, Nat.add_sub_cancel]
        refine jpA (pc' := 44) (r := 65) I R1 rfl rfl rfl (Nat.le_of_ble_eq_true rfl) (by intro z; cases z) rfl rfl rfl fun _ I R1 => ?_
        rw [va_up_up] at I
        refine jx (pc' := 7) (L' := [_, _, _, _]) (st' := []) 2 rfl ?_
        rw [nI_i]
        exact ih (i + 1) _ (by omega) (by omega) (fun j hj => by
          by_cases ej : j = i
          · rw [ej]; exact e
          · exact hm j (by omega)) I
      · have hw : wm t len pl r = false := decide_eq_false (fun z => e (z i (by omega)))
        rw [hw] at q
        refine jin (pc' := 27) 34 rfl rfl rfl rfl (by rw [bz_ne]; exact decide_eq_false e) ?_
        refine jx (pc' := 29) (L' := [_, _, _, _]) (st' := [_, _]) 2 rfl ?_
        refine jpA (pc' := 32) (r := 65) I R1 rfl rfl rfl (Nat.le_of_ble_eq_true rfl) (by intro z; cases z) rfl rfl rfl fun _ I R1 => ?_
        rw [va_up_up] at I
        refine jx (pc' := 33) (L' := [_, _, _, _]) (st' := [.int (nI 0)]) 1 rfl ?_
        refine ix_qr _ rfl rfl rfl ?_
        exact q _ I
  refine jx (pc' := 1) (L' := [_, _, _, _]) (st' := [_]) 1 rfl ?_
  refine jgf (pc' := 4) (I.ob (r := 65) RC) rfl rfl rfl rfl rfl ?_
  refine jx (pc' := 7) (L' := [_, _, _, _]) (st' := []) 3 rfl ?_
  try simp (disch := omega) only [ki0, nI_add, nI_mul, nI_sub, Nat.zero_mul, Nat.one_mul, Nat.sub_zero, Nat.add_zero, Nat.zero_add, Nat.add_sub_cancel]
  refine loop (sc r).length 0 h (by omega) (by omega) (fun j hj => by omega) ?_
  rw [Nat.add_zero, va_up_id RC]
  exact I
theorem c_isDigit (hc : c < 128) (q : Q (.inl (some (.int (bI (decide (48 ≤ c ∧ c ≤ 57)))))) h) : ix_M 151 [.int (nI c)] h Q := by
  refine jx (pc' := 3) (L' := [_]) (st' := [.int (nI 48), _]) 2 rfl ?_
  by_cases h1 : 48 ≤ c
  · skip
    refine jcn (pc' := 6) 16 rfl rfl rfl rfl (by rw [cc_lt (by omega) (by omega)]; exact decide_eq_false (by omega)) ?_
    refine jx (pc' := 9) (L' := [_]) (st' := [.int (nI 57), _]) 2 rfl ?_
    by_cases h2 : c ≤ 57
    · skip
      refine jcn (pc' := 12) 16 rfl rfl rfl rfl (by rw [cc_gt (by omega) (by omega)]; exact decide_eq_false (by omega)) ?_
      refine jx (pc' := 17) (L' := [_]) (st' := [.int (nI 1)]) 2 rfl ?_
      refine ix_qr _ rfl rfl rfl ?_
      rw [decide_eq_true ⟨h1, h2⟩] at q
      exact q
    · skip
      refine jct (pc' := 16) rfl rfl rfl (by rw [cc_gt (by omega) (by omega)]; exact decide_eq_true (by omega)) ?_
      refine jx (pc' := 17) (L' := [_]) (st' := [.int (nI 0)]) 1 rfl ?_
      refine ix_qr _ rfl rfl rfl ?_
      rw [decide_eq_false (fun z => h2 z.2)] at q
      exact q
  · skip
    refine jct (pc' := 16) rfl rfl rfl (by rw [cc_lt (by omega) (by omega)]; exact decide_eq_true (by omega)) ?_
    refine jx (pc' := 17) (L' := [_]) (st' := [.int (nI 0)]) 1 rfl ?_
    refine ix_qr _ rfl rfl rfl ?_
    rw [decide_eq_false (fun z => h1 z.1)] at q
    exact q
theorem v_passDigits (I : Inv h S) (RC : S 65 = aC (trC so ng ex len pl)) (TX : S 68 = aC (txC t)) (DG : S 66 = aN D) (hl : len ≤ 120) (hp : pl ≤ len) (ht : ∀ j, j < len → t j < 128) (hD : D < 10 ^ pl) (q : ∀ h', Inv h' (va_up (va_up S 66 (aN (vd D t pl (de t len pl - pl)))) 65 (aC (trC so ng ex len (de t len pl)))) → vd D t pl (de t len pl - pl) < 10 ^ de t len pl → Q (.inl (some (.int (nI (de t len pl - pl))))) h') : ix_M 150 [.ref 65] h Q := by
  have loop : ∀ (k i : Nat) (h1 : ix_H), pl + i + k = len → (∀ j, pl ≤ j → j < pl + i → 48 ≤ t j ∧ t j ≤ 57) → vd D t pl i < 10 ^ (pl + i) → Inv h1 (va_up (va_up S 66 (aN (vd D t pl i))) 65 (aC (trC so ng ex len (pl + i)))) → ix_E 150 5 [some (.ref 65), some (.int (nI pl))] [] h1 Q := by
    intro k
    induction k with
    | zero =>
      intro i h1 hi hd hv I
      have R1 : va_up (va_up S 66 (aN (vd D t pl i))) 65 (aC (trC so ng ex len (pl + i))) 65 = aC (trC so ng ex len (pl + i)) := va_up_self _ _ _
      have e := de_u (t := t) (len := len) (pl := pl) (e := pl + i) (by omega) (by omega) hd (fun z => by omega)
      rw [← e, show pl + i - pl = i by omega] at q
      refine jx (pc' := 6) (L' := [_, _]) (st' := [_]) 1 rfl ?_
      refine jgf (pc' := 9) (I.ob (r := 65) R1) rfl rfl rfl rfl rfl ?_
      refine jx (pc' := 10) (L' := [_, _]) (st' := [_, _]) 1 rfl ?_
      refine jgf (pc' := 13) (I.ob (r := 65) R1) rfl rfl rfl rfl rfl ?_
      refine jct (pc' := 67) rfl rfl rfl (by rw [cc_ge (by omega) (by omega)]; exact decide_eq_true (by omega)) ?_
      refine jx (pc' := 68) (L' := [_, _]) (st' := [_]) 1 rfl ?_
      refine jgf (pc' := 71) (I.ob (r := 65) R1) rfl rfl rfl rfl rfl ?_
      refine jx (pc' := 73) (L' := [_, _]) (st' := [_]) 2 rfl ?_
      try simp (disch := omega) only [nI_add, nI_mul, nI_sub, Nat.zero_mul, Nat.one_mul, Nat.sub_zero, Nat.add_zero, Nat.zero_add, Nat.add_sub_cancel]
      rw [show pl + i - pl = i by omega]
      refine jri rfl rfl ?_
      exact q _ I hv
    | succ k ih =>
      intro i h1 hi hd hv I
      have R1 : va_up (va_up S 66 (aN (vd D t pl i))) 65 (aC (trC so ng ex len (pl + i))) 65 = aC (trC so ng ex len (pl + i)) := va_up_self _ _ _
      have TI := I.ia (r := 68) TX
      have htp := ht (pl + i) (by omega)
      refine jx (pc' := 6) (L' := [_, _]) (st' := [_]) 1 rfl ?_
      refine jgf (pc' := 9) (I.ob (r := 65) R1) rfl rfl rfl rfl rfl ?_
      refine jx (pc' := 10) (L' := [_, _]) (st' := [_, _]) 1 rfl ?_
      refine jgf (pc' := 13) (I.ob (r := 65) R1) rfl rfl rfl rfl rfl ?_
      refine jcn (pc' := 16) 67 rfl rfl rfl rfl (by rw [cc_ge (by omega) (by omega)]; exact decide_eq_false (by omega)) ?_
      refine jx (pc' := 17) (L' := [_, _]) (st' := [_]) 1 rfl ?_
      refine jgf (pc' := 20) (I.ob (r := 65) R1) rfl rfl rfl rfl rfl ?_
      refine jx (pc' := 21) (L' := [_, _]) (st' := [_, _]) 1 rfl ?_
      refine jgf (pc' := 24) (I.ob (r := 65) R1) rfl rfl rfl rfl rfl ?_
      refine jcl (pc' := 25) TI rfl rfl (by omega) rfl ?_
      refine jcs (pc' := 28) 151 [_] [] rfl rfl rfl rfl rfl rfl rfl rfl ?_
      refine c_isDigit htp (jk ?_)
      by_cases ed : 48 ≤ t (pl + i) ∧ t (pl + i) ≤ 57
      · skip
        refine jin (pc' := 31) 67 rfl rfl rfl rfl (by rw [bz_eq]; simp [ed]) ?_
        refine jx (pc' := 32) (L' := [_, _]) (st' := [_]) 1 rfl ?_
        refine jgf (pc' := 35) (I.ob (r := 65) R1) rfl rfl rfl rfl rfl ?_
        refine jx (pc' := 39) (L' := [_, _]) (st' := [_, _, _]) 2 rfl ?_
        try simp (disch := omega) only [kL10, nI_add, nI_mul, nI_sub, nI_l, lN_i, lN_add, lN_mul, lN_sub, Nat.zero_mul, Nat.one_mul, Nat.sub_zero, Nat.add_zero, Nat.zero_add, Nat.add_sub_cancel]
        refine jgf (pc' := 42) (I.ob (r := 65) R1) rfl rfl rfl rfl rfl ?_
        refine jx (pc' := 43) (L' := [_, _]) (st' := [_, _, _, _]) 1 rfl ?_
        refine jgf (pc' := 46) (I.ob (r := 65) R1) rfl rfl rfl rfl rfl ?_
        refine jcl (pc' := 47) TI rfl rfl (by omega) rfl ?_
        refine jx (pc' := 51) (L' := [_, _]) (st' := [_, _, _]) 3 rfl ?_
        try simp (disch := omega) only [kb48, nI_add, nI_mul, nI_sub, nI_l, lN_i, lN_add, lN_mul, lN_sub, Nat.zero_mul, Nat.one_mul, Nat.sub_zero, Nat.add_zero, Nat.zero_add, Nat.add_sub_cancel]
        have hv1 : vd D t pl (i + 1) < 10 ^ (pl + (i + 1)) := by
          rw [vd_s, ← Nat.add_assoc, Nat.pow_succ]
          omega
        have h144 : vd D t pl i * 10 + (t (pl + i) - 48) < 10 ^ 144 := by
          rw [← vd_s]
          exact Nat.lt_of_lt_of_le hv1 (Nat.pow_le_pow_right (by decide) (by omega))
        refine jcv (pc' := 54) 55 [_, _] [] (I.no (r := 66) rfl) rfl rfl rfl rfl rfl rfl rfl rfl ?_
        refine v_timesPlus (a := 66) (m := 10) (p := t (pl + i) - 48) I rfl (by decide) (by omega) h144 fun h2 I => jk ?_
        rw [← vd_s] at I
        refine jx (pc' := 56) (L' := [_, _]) (st' := [_, _]) 2 rfl ?_
        refine jgf (pc' := 59) (I.ob (r := 65) R1) rfl rfl rfl rfl rfl ?_
        refine jx (pc' := 61) (L' := [_, _]) (st' := [_, _]) 2 rfl ?_
        try simp (disch := omega) only [ki1, nI_add, nI_mul, nI_sub, Nat.zero_mul, Nat.one_mul, Nat.sub_zero, Nat.add_zero, Nat.zero_add, Nat.add_sub_cancel]
        refine jpA (pc' := 64) (r := 65) I R1 rfl rfl rfl (Nat.le_of_ble_eq_true rfl) (by intro z; cases z) rfl rfl rfl fun _ I R1 => ?_
        refine jx (pc' := 5) (L' := [_, _]) (st' := []) 1 rfl ?_
        have sw : ∀ a b c d : AC, va_up (va_up (va_up (va_up S 66 a) 65 b) 66 c) 65 d = va_up (va_up S 66 c) 65 d := fun a b c d => by
          funext j
          by_cases e1 : j = 65
          · rw [e1, va_up_self, va_up_self]
          · rw [va_up_ne _ _ e1, va_up_ne _ _ e1]
            by_cases e2 : j = 66
            · rw [e2, va_up_self, va_up_self]
            · rw [va_up_ne _ _ e2, va_up_ne _ _ e2, va_up_ne _ _ e1, va_up_ne _ _ e2]
        rw [sw] at I
        exact ih (i + 1) _ (by omega) (fun j j1 j2 => by
          by_cases ej : j = pl + i
          · rw [ej]; exact ed
          · exact hd j j1 (by omega)) hv1 I
      · have e := de_u (t := t) (len := len) (pl := pl) (e := pl + i) (by omega) (by omega) hd (fun z => ed)
        rw [← e, show pl + i - pl = i by omega] at q
        refine jit (pc' := 67) rfl rfl rfl (by rw [bz_eq]; simp only [Bool.not_eq_true', decide_eq_false_iff_not]; exact ed) ?_
        refine jx (pc' := 68) (L' := [_, _]) (st' := [_]) 1 rfl ?_
        refine jgf (pc' := 71) (I.ob (r := 65) R1) rfl rfl rfl rfl rfl ?_
        refine jx (pc' := 73) (L' := [_, _]) (st' := [_]) 2 rfl ?_
        try simp (disch := omega) only [nI_add, nI_mul, nI_sub, Nat.zero_mul, Nat.one_mul, Nat.sub_zero, Nat.add_zero, Nat.zero_add, Nat.add_sub_cancel]
        rw [show pl + i - pl = i by omega]
        refine jri rfl rfl ?_
        exact q _ I hv
  refine jx (pc' := 1) (L' := [_, _]) (st' := [_]) 1 rfl ?_
  refine jgf (pc' := 4) (I.ob (r := 65) RC) rfl rfl rfl rfl rfl ?_
  refine jx (pc' := 5) (L' := [_, _]) (st' := []) 1 rfl ?_
  refine loop (len - pl) 0 h (by omega) (fun j j1 j2 => by omega) (by rw [vd_z, Nat.add_zero]; exact hD) ?_
  rw [vd_z, Nat.add_zero, va_up_id DG, va_up_id RC]
  exact I
end TXT
