/-! ===== TextReader: passExponent, passNumber ===== -/
def sgp (t : Nat → Nat) (len pl : Nat) : Nat := if atc t len pl 45 || atc t len pl 43 then pl + 1 else pl
noncomputable def xpE (t : Nat → Nat) (len pl : Nat) : Int := if atc t len pl 45 then -(xe t (sgp t len pl) (de t len (sgp t len pl) - sgp t len pl) : Int) else (xe t (sgp t len pl) (de t len (sgp t len pl) - sgp t len pl) : Int)
/-- digits, a point, digits: where they end, the number, how many behind the point -/
noncomputable def nmA (t : Nat → Nat) (len pl : Nat) : Nat × Nat × Nat :=
  if atc t len (de t len pl) 46 then (de t len (de t len pl + 1), vd (vd 0 t pl (de t len pl - pl)) t (de t len pl + 1) (de t len (de t len pl + 1) - (de t len pl + 1)), de t len (de t len pl + 1) - (de t len pl + 1)) else (de t len pl, vd 0 t pl (de t len pl - pl), 0)
noncomputable def nmR (t : Nat → Nat) (len pl : Nat) : Option (Int × Nat × Nat) :=
  if de t len pl - pl + (nmA t len pl).2.2 = 0 then none else
  if atc t len (nmA t len pl).1 69 then (if sgp t len ((nmA t len pl).1 + 1) < de t len (sgp t len ((nmA t len pl).1 + 1)) then some (xpE t len ((nmA t len pl).1 + 1) - (nmA t len pl).2.2, de t len (sgp t len ((nmA t len pl).1 + 1)), (nmA t len pl).2.1) else none) else
  some (0 - ((nmA t len pl).2.2 : Int), (nmA t len pl).1, (nmA t len pl).2.1)
theorem atc_lt {t : Nat → Nat} {len pl c : Nat} (h : atc t len pl c = true) : pl < len := (of_decide_eq_true h).1
theorem sgp_b {t : Nat → Nat} {len pl : Nat} (h : pl ≤ len) : pl ≤ sgp t len pl ∧ sgp t len pl ≤ len := by
  unfold sgp
  split
  · next z =>
    rw [Bool.or_eq_true] at z
    have : pl < len := z.elim atc_lt atc_lt
    omega
  · omega
/-- the reader's cells are what they should be -/
def isT (S : Nat → AC) (len : Nat) : Prop := (∃ so ng ex pl, S 65 = aC (trC so ng ex len pl)) ∧ isN S 66
section TXT
variable {h : ix_H} {Q : ix_O → ix_H → Prop} {S : Nat → AC} {t : Nat → Nat} {so len pl c D r : Nat} {ng : Bool} {ex : Int}
theorem v_passExponent (I : Inv h S) (RC : S 65 = aC (trC so ng ex len pl)) (TX : S 68 = aC (txC t)) (hl : len ≤ 120) (hp : pl ≤ len) (ht : ∀ j, j < len → t j < 128) (q : ∀ h', Inv h' (va_up S 65 (aC (trC so ng (xpE t len pl) len (de t len (sgp t len pl))))) → Q (.inl (some (.int (bI (decide (sgp t len pl < de t len (sgp t len pl))))))) h') : ix_M 153 [.ref 65] h Q := by
  obtain ⟨b1, b2⟩ := sgp_b (t := t) hp
  have hsg : sgp t len pl = if atc t len pl 45 || atc t len pl 43 then pl + 1 else pl := rfl
  have hxp : xpE t len pl = if atc t len pl 45 then -(xe t (sgp t len pl) (de t len (sgp t len pl) - sgp t len pl) : Int) else (xe t (sgp t len pl) (de t len (sgp t len pl) - sgp t len pl) : Int) := rfl
  have fin : ∀ (i : Nat) (h1 : ix_H), sgp t len pl + i = de t len (sgp t len pl) → sgp t len pl + i ≤ len → Inv h1 (va_up S 65 (aC (trC so ng ex len (sgp t len pl + i)))) → ix_E 153 74 [some (.ref 65), some (.int (bI (atc t len pl 45))), some (.int (nI (sgp t len pl))), some (.int (nI (xe t (sgp t len pl) i)))] [] h1 Q := by
    intro i h1 he hle I
    have hxb := xe_b t (sgp t len pl) i
    rw [show de t len (sgp t len pl) - sgp t len pl = i by omega] at hxp
    have R1 : va_up S 65 (aC (trC so ng ex len (sgp t len pl + i))) 65 = aC (trC so ng ex len (sgp t len pl + i)) := va_up_self _ _ _
    have t85 : ix_E 153 85 [some (.ref 65), some (.int (bI (atc t len pl 45))), some (.int (nI (sgp t len pl))), some (.int (nI (xe t (sgp t len pl) i)))] [.int (zI (xpE t len pl)), .ref 65] h1 Q := by
      refine jpA (pc' := 88) (r := 65) I R1 rfl rfl rfl (Nat.le_of_ble_eq_true rfl) (by intro z; cases z) rfl rfl rfl fun _ I R1 => ?_
      refine jx (pc' := 89) (L' := [_, _, _, _]) (st' := [_]) 1 rfl ?_
      refine jgf (pc' := 92) (I.ob (r := 65) R1) rfl rfl rfl rfl rfl ?_
      refine jx (pc' := 93) (L' := [_, _, _, _]) (st' := [_, _]) 1 rfl ?_
      rw [va_up_up, he] at I
      by_cases e : sgp t len pl < sgp t len pl + i
      · skip
        refine jcn (pc' := 96) 100 rfl rfl rfl rfl (by rw [cc_le (by omega) (by omega)]; exact decide_eq_false (by omega)) ?_
        refine jx (pc' := 101) (L' := [_, _, _, _]) (st' := [.int (nI 1)]) 2 rfl ?_
        refine ix_qr _ rfl rfl rfl ?_
        rw [decide_eq_true (by omega)] at q
        exact q _ I
      · skip
        refine jct (pc' := 100) rfl rfl rfl (by rw [cc_le (by omega) (by omega)]; exact decide_eq_true (by omega)) ?_
        refine jx (pc' := 101) (L' := [_, _, _, _]) (st' := [.int (nI 0)]) 1 rfl ?_
        refine ix_qr _ rfl rfl rfl ?_
        rw [decide_eq_false (by omega)] at q
        exact q _ I
    refine jx (pc' := 76) (L' := [_, _, _, _]) (st' := [_, _]) 2 rfl ?_
    cases e1 : atc t len pl 45 with
    | true =>
      rw [e1, if_pos rfl] at hxp
      refine jin (pc' := 79) 84 rfl rfl rfl rfl (rfl) ?_
      refine jx (pc' := 85) (L' := [_, _, _, _]) (st' := [_, _]) 3 rfl ?_
      try simp (disch := omega) only [nI_add, nI_mul, nI_sub, Nat.zero_mul, Nat.one_mul, Nat.sub_zero, Nat.add_zero, Nat.zero_add, Nat.add_sub_cancel]
      rw [nz (xe t (sgp t len pl) i), zI_neg, ← hxp, ← nz (xe t (sgp t len pl) i)]
      rw [e1] at t85
      exact t85
    | false =>
      rw [e1, if_neg (by decide)] at hxp
      refine jit (pc' := 84) rfl rfl rfl (rfl) ?_
      refine jx (pc' := 85) (L' := [_, _, _, _]) (st' := [_, _]) 1 rfl ?_
      rw [e1, hxp, ← nz] at t85
      exact t85
  have loop : ∀ (k i : Nat) (h1 : ix_H), sgp t len pl + i + k = len → (∀ j, sgp t len pl ≤ j → j < sgp t len pl + i → 48 ≤ t j ∧ t j ≤ 57) → Inv h1 (va_up S 65 (aC (trC so ng ex len (sgp t len pl + i)))) → ix_E 153 12 [some (.ref 65), some (.int (bI (atc t len pl 45))), some (.int (nI (sgp t len pl))), some (.int (nI (xe t (sgp t len pl) i)))] [] h1 Q := by
    intro k
    induction k with
    | zero =>
      intro i h1 hi hd I
      have R1 : va_up S 65 (aC (trC so ng ex len (sgp t len pl + i))) 65 = aC (trC so ng ex len (sgp t len pl + i)) := va_up_self _ _ _
      refine jx (pc' := 13) (L' := [_, _, _, _]) (st' := [_]) 1 rfl ?_
      refine jgf (pc' := 16) (I.ob (r := 65) R1) rfl rfl rfl rfl rfl ?_
      refine jx (pc' := 17) (L' := [_, _, _, _]) (st' := [_, _]) 1 rfl ?_
      refine jgf (pc' := 20) (I.ob (r := 65) R1) rfl rfl rfl rfl rfl ?_
      refine jct (pc' := 74) rfl rfl rfl (by rw [cc_ge (by omega) (by omega)]; exact decide_eq_true (by omega)) ?_
      exact fin i h1 (de_u (by omega) (by omega) hd (fun z => by omega)) (by omega) I
    | succ k ih =>
      intro i h1 hi hd I
      have R1 : va_up S 65 (aC (trC so ng ex len (sgp t len pl + i))) 65 = aC (trC so ng ex len (sgp t len pl + i)) := va_up_self _ _ _
      have TI := I.ia (r := 68) TX
      have htp := ht (sgp t len pl + i) (by omega)
      have hxb := xe_b t (sgp t len pl) i
      refine jx (pc' := 13) (L' := [_, _, _, _]) (st' := [_]) 1 rfl ?_
      refine jgf (pc' := 16) (I.ob (r := 65) R1) rfl rfl rfl rfl rfl ?_
      refine jx (pc' := 17) (L' := [_, _, _, _]) (st' := [_, _]) 1 rfl ?_
      refine jgf (pc' := 20) (I.ob (r := 65) R1) rfl rfl rfl rfl rfl ?_
      refine jcn (pc' := 23) 74 rfl rfl rfl rfl (by rw [cc_ge (by omega) (by omega)]; exact decide_eq_false (by omega)) ?_
      refine jx (pc' := 24) (L' := [_, _, _, _]) (st' := [_]) 1 rfl ?_
      refine jgf (pc' := 27) (I.ob (r := 65) R1) rfl rfl rfl rfl rfl ?_
      refine jx (pc' := 28) (L' := [_, _, _, _]) (st' := [_, _]) 1 rfl ?_
      refine jgf (pc' := 31) (I.ob (r := 65) R1) rfl rfl rfl rfl rfl ?_
      refine jcl (pc' := 32) TI rfl rfl (by omega) rfl ?_
      refine jcs (pc' := 35) 151 [_] [] rfl rfl rfl rfl rfl rfl rfl rfl ?_
      refine c_isDigit htp (jk ?_)
      by_cases ed : 48 ≤ t (sgp t len pl + i) ∧ t (sgp t len pl + i) ≤ 57
      · skip
        refine jin (pc' := 38) 74 rfl rfl rfl rfl (by rw [bz_eq]; simp [ed]) ?_
        refine jx (pc' := 43) (L' := [_, _, _, _]) (st' := [_, _]) 4 rfl ?_
        try simp (disch := omega) only [kb10, nI_add, nI_mul, nI_sub, Nat.zero_mul, Nat.one_mul, Nat.sub_zero, Nat.add_zero, Nat.zero_add, Nat.add_sub_cancel]
        refine jgf (pc' := 46) (I.ob (r := 65) R1) rfl rfl rfl rfl rfl ?_
        refine jx (pc' := 47) (L' := [_, _, _, _]) (st' := [_, _, _]) 1 rfl ?_
        refine jgf (pc' := 50) (I.ob (r := 65) R1) rfl rfl rfl rfl rfl ?_
        refine jcl (pc' := 51) TI rfl rfl (by omega) rfl ?_
        refine jx (pc' := 57) (L' := [_, _, _, _]) (st' := [_, _]) 4 rfl ?_
        try simp (disch := omega) only [kb48, kl99999999, nI_add, nI_mul, nI_sub, Nat.zero_mul, Nat.one_mul, Nat.sub_zero, Nat.add_zero, Nat.zero_add, Nat.add_sub_cancel]
        refine jcs (pc' := 60) 274 [_, _] [] rfl rfl rfl rfl rfl rfl rfl rfl ?_
        rw [nz, nz 99999999]
        refine c_minI ⟨by omega, by omega⟩ ⟨by omega, by omega⟩ (jk ?_)
        have ex1 : min ((xe t (sgp t len pl) i * 10 + t (sgp t len pl + i) - 48 : Nat) : Int) ((99999999 : Nat) : Int) = (xe t (sgp t len pl) (i + 1) : Int) := by
          rw [xe_s]
          omega
        rw [ex1, ← nz]
        refine jx (pc' := 63) (L' := [_, _, _, _]) (st' := [_, _]) 3 rfl ?_
        refine jgf (pc' := 66) (I.ob (r := 65) R1) rfl rfl rfl rfl rfl ?_
        refine jx (pc' := 68) (L' := [_, _, _, _]) (st' := [_, _]) 2 rfl ?_
        try simp (disch := omega) only [ki1, nI_add, nI_mul, nI_sub, Nat.zero_mul, Nat.one_mul, Nat.sub_zero, Nat.add_zero, Nat.zero_add, Nat.add_sub_cancel]
        refine jpA (pc' := 71) (r := 65) I R1 rfl rfl rfl (Nat.le_of_ble_eq_true rfl) (by intro z; cases z) rfl rfl rfl fun _ I R1 => ?_
        rw [va_up_up] at I
        refine jx (pc' := 12) (L' := [_, _, _, _]) (st' := []) 1 rfl ?_
        exact ih (i + 1) _ (by omega) (fun j j1 j2 => by
          by_cases ej : j = sgp t len pl + i
          · rw [ej]; exact ed
          · exact hd j j1 (by omega)) I
      · skip
        refine jit (pc' := 74) rfl rfl rfl (by rw [bz_eq]; simp only [Bool.not_eq_true', decide_eq_false_iff_not]; exact ed) ?_
        exact fin i h1 (de_u (by omega) (by omega) hd (fun z => ed)) (by omega) I
  refine jx (pc' := 1) (L' := [_, _, _, _]) (st' := [_]) 1 rfl ?_
  refine jcv (pc' := 4) 147 [] [] (I.ob (r := 65) RC) rfl rfl rfl rfl rfl rfl rfl rfl ?_
  refine v_passSign I RC TX hl hp ht fun h1 I => jk ?_
  rw [← hsg] at I
  have R1 : va_up S 65 (aC (trC so ng ex len (sgp t len pl))) 65 = aC (trC so ng ex len (sgp t len pl)) := va_up_self _ _ _
  refine jx (pc' := 6) (L' := [_, _, _, _]) (st' := [_]) 2 rfl ?_
  refine jgf (pc' := 9) (I.ob (r := 65) R1) rfl rfl rfl rfl rfl ?_
  refine jx (pc' := 12) (L' := [_, _, _, _]) (st' := []) 3 rfl ?_
  try simp (disch := omega) only [ki0, nI_add, nI_mul, nI_sub, Nat.zero_mul, Nat.one_mul, Nat.sub_zero, Nat.add_zero, Nat.zero_add, Nat.add_sub_cancel]
  have := loop (len - sgp t len pl) 0 h1 (by omega) (fun j j1 j2 => by omega) (by rw [Nat.add_zero]; exact I)
  rw [xe_z] at this
  exact this
theorem v_passNumber (I : Inv h S) (RC : S 65 = aC (trC so ng 0 len pl)) (TX : S 68 = aC (txC t)) (DG : S 66 = aN 0) (hl : len ≤ 120) (hp : pl ≤ len) (ht : ∀ j, j < len → t j < 128) (qf : nmR t len pl = none → ∀ h' S', Inv h' S' → ag [65, 66] S S' → isT S' len → Q (.inl (some (.int (bI false)))) h') (qt : ∀ e p D, nmR t len pl = some (e, p, D) → p ≤ len → D < 10 ^ p → ∀ h' S', Inv h' S' → ag [65, 66] S S' → S' 65 = aC (trC so ng e len p) → S' 66 = aN D → Q (.inl (some (.int (bI true)))) h') : ix_M 152 [.ref 65] h Q := by
  obtain ⟨d1, d2, _, _⟩ := de_s t len pl
  have d2 := d2 hp
  have hA : nmA t len pl = if atc t len (de t len pl) 46 then (de t len (de t len pl + 1), vd (vd 0 t pl (de t len pl - pl)) t (de t len pl + 1) (de t len (de t len pl + 1) - (de t len pl + 1)), de t len (de t len pl + 1) - (de t len pl + 1)) else (de t len pl, vd 0 t pl (de t len pl - pl), 0) := rfl
  have hR : nmR t len pl = if de t len pl - pl + (nmA t len pl).2.2 = 0 then none else
    if atc t len (nmA t len pl).1 69 then (if sgp t len ((nmA t len pl).1 + 1) < de t len (sgp t len ((nmA t len pl).1 + 1)) then some (xpE t len ((nmA t len pl).1 + 1) - (nmA t len pl).2.2, de t len (sgp t len ((nmA t len pl).1 + 1)), (nmA t len pl).2.1) else none) else
    some (0 - ((nmA t len pl).2.2 : Int), (nmA t len pl).1, (nmA t len pl).2.1) := rfl
  -- from 67 on
  have t67 : ∀ (h1 : ix_H) (T : Nat → AC) (e : Int) (p D bh l1 : Nat), Inv h1 T → ag [65, 66] S T → T 65 = aC (trC so ng e len p) → T 66 = aN D → nmR t len pl = some (e - bh, p, D) → p ≤ len → D < 10 ^ p → bh ≤ 120 → -99999999 ≤ e → e ≤ 99999999 → ix_E 152 67 [some (.ref 65), some (.int (nI l1)), some (.int (nI bh))] [] h1 Q := by
    intro h1 T e p D bh l1 I g RC DG hn hp hD hb e1 e2
    refine jx (pc' := 69) (L' := [_, _, _]) (st' := [_, _]) 2 rfl ?_
    refine jgf (pc' := 72) (I.ob (r := 65) RC) rfl rfl rfl rfl rfl ?_
    refine jx (pc' := 73) (L' := [_, _, _]) (st' := [_, _, _]) 1 rfl ?_
    rw [nz bh]
    refine jx (pc' := 74) (L' := [_, _, _]) (st' := [_, _]) 1 rfl ?_
    try simp (disch := omega) only [nI_add, nI_mul, nI_sub, Nat.zero_mul, Nat.one_mul, Nat.sub_zero, Nat.add_zero, Nat.zero_add, Nat.add_sub_cancel]
    rw [zI_sub]
    refine jpA (pc' := 77) (r := 65) I RC rfl rfl rfl (Nat.le_of_ble_eq_true rfl) (by intro z; cases z) rfl rfl rfl fun _ I RC => ?_
    refine jx (pc' := 78) (L' := [_, _, _]) (st' := [.int (nI 1)]) 1 rfl ?_
    refine ix_qr _ rfl rfl rfl ?_
    exact qt _ _ _ hn hp hD _ _ I (g.up (by decide)) rfl DG
  have t31 : ∀ (h1 : ix_H) (T : Nat → AC), Inv h1 T → ag [65, 66] S T → T 65 = aC (trC so ng 0 len (nmA t len pl).1) → T 66 = aN (nmA t len pl).2.1 → (nmA t len pl).1 ≤ len → (nmA t len pl).2.1 < 10 ^ (nmA t len pl).1 → (nmA t len pl).2.2 ≤ 120 → ix_E 152 31 [some (.ref 65), some (.int (nI (de t len pl - pl))), some (.int (nI (nmA t len pl).2.2))] [] h1 Q := by
    intro h1 T I g RC DG hA1 hA2 hA3
    have TX : T 68 = aC (txC t) := g.at 68 (by decide) TX
    refine jx (pc' := 34) (L' := [_, _, _]) (st' := [_]) 3 rfl ?_
    try simp (disch := omega) only [nI_add, nI_mul, nI_sub, Nat.zero_mul, Nat.one_mul, Nat.sub_zero, Nat.add_zero, Nat.zero_add, Nat.add_sub_cancel]
    by_cases e0 : de t len pl - pl + (nmA t len pl).2.2 = 0
    · rw [if_pos e0] at hR
      refine jin (pc' := 37) 39 rfl rfl rfl rfl (by rw [cz_ne (by omega)]; exact decide_eq_false (by omega)) ?_
      refine jx (pc' := 38) (L' := [_, _, _]) (st' := [.int (nI 0)]) 1 rfl ?_
      refine ix_qr _ rfl rfl rfl ?_
      exact qf hR _ _ I g ⟨⟨_, _, _, _, RC⟩, ⟨_, DG⟩⟩
    · rw [if_neg e0] at hR
      refine jit (pc' := 39) rfl rfl rfl (by rw [cz_ne (by omega)]; exact decide_eq_true (by omega)) ?_
      refine jx (pc' := 42) (L' := [_, _, _]) (st' := [.int (nI 69), _]) 2 rfl ?_
      refine jcv (pc' := 45) 148 [.int (nI 69)] [] (I.ob (r := 65) RC) rfl rfl rfl rfl rfl rfl rfl rfl ?_
      refine v_isAt (c := 69) I RC TX hl hA1 ht (by decide) (jk ?_)
      cases eE : atc t len (nmA t len pl).1 69 with
      | true =>
        rw [eE, if_pos rfl] at hR
        have hlt := atc_lt eE
        obtain ⟨s1, s2⟩ := sgp_b (t := t) (len := len) (pl := (nmA t len pl).1 + 1) (by omega)
        refine jin (pc' := 48) 67 rfl rfl rfl rfl (rfl) ?_
        refine jx (pc' := 50) (L' := [_, _, _]) (st' := [_, _]) 2 rfl ?_
        refine jgf (pc' := 53) (I.ob (r := 65) RC) rfl rfl rfl rfl rfl ?_
        refine jx (pc' := 55) (L' := [_, _, _]) (st' := [_, _]) 2 rfl ?_
        try simp (disch := omega) only [ki1, nI_add, nI_mul, nI_sub, Nat.zero_mul, Nat.one_mul, Nat.sub_zero, Nat.add_zero, Nat.zero_add, Nat.add_sub_cancel]
        refine jpA (pc' := 58) (r := 65) I RC rfl rfl rfl (Nat.le_of_ble_eq_true rfl) (by intro z; cases z) rfl rfl rfl fun _ I RC => ?_
        refine jx (pc' := 59) (L' := [_, _, _]) (st' := [_]) 1 rfl ?_
        refine jcv (pc' := 62) 153 [] [] (I.ob (r := 65) RC) rfl rfl rfl rfl rfl rfl rfl rfl ?_
        refine v_passExponent (pl := (nmA t len pl).1 + 1) I RC TX hl (by omega) ht fun h2 I => jk ?_
        obtain ⟨k1, k2, _, _⟩ := de_s t len (sgp t len ((nmA t len pl).1 + 1))
        have k2 := k2 s2
        have hxb : -99999999 ≤ xpE t len ((nmA t len pl).1 + 1) ∧ xpE t len ((nmA t len pl).1 + 1) ≤ 99999999 := by
          have := xe_b t (sgp t len ((nmA t len pl).1 + 1)) (de t len (sgp t len ((nmA t len pl).1 + 1)) - sgp t len ((nmA t len pl).1 + 1))
          unfold xpE
          split <;> omega
        by_cases e3 : sgp t len ((nmA t len pl).1 + 1) < de t len (sgp t len ((nmA t len pl).1 + 1))
        · rw [if_pos e3] at hR
          refine jit (pc' := 67) rfl rfl rfl (by rw [bz_ne]; exact decide_eq_true e3) ?_
          exact t67 _ _ _ _ _ _ _ I ((g.up (by decide)).up (by decide)) (va_up_self _ _ _) DG hR k2 (Nat.lt_of_lt_of_le hA2 (Nat.pow_le_pow_right (by decide) (by omega))) hA3 hxb.1 hxb.2
        · rw [if_neg e3] at hR
          refine jin (pc' := 65) 67 rfl rfl rfl rfl (by rw [bz_ne]; exact decide_eq_false e3) ?_
          refine jx (pc' := 66) (L' := [_, _, _]) (st' := [.int (nI 0)]) 1 rfl ?_
          refine ix_qr _ rfl rfl rfl ?_
          exact qf hR _ _ I ((g.up (by decide)).up (by decide)) ⟨⟨_, _, _, _, va_up_self _ _ _⟩, ⟨_, DG⟩⟩
      | false =>
        rw [eE, if_neg (by decide)] at hR
        refine jit (pc' := 67) rfl rfl rfl (rfl) ?_
        exact t67 _ _ _ _ _ _ _ I g RC DG hR hA1 hA2 hA3 (by decide) (by decide)
  refine jx (pc' := 1) (L' := [_, _, _]) (st' := [_]) 1 rfl ?_
  refine jcv (pc' := 4) 150 [] [] (I.ob (r := 65) RC) rfl rfl rfl rfl rfl rfl rfl rfl ?_
  refine v_passDigits I RC TX DG hl hp ht (pp0 _) fun h1 I hv => jk ?_
  have R1 : va_up (va_up S 66 (aN (vd 0 t pl (de t len pl - pl)))) 65 (aC (trC so ng 0 len (de t len pl))) 65 = aC (trC so ng 0 len (de t len pl)) := va_up_self _ _ _
  have g1 : ag [65, 66] S (va_up (va_up S 66 (aN (vd 0 t pl (de t len pl - pl)))) 65 (aC (trC so ng 0 len (de t len pl)))) := ((ag_0 _ S).up (by decide)).up (by decide)
  refine jx (pc' := 10) (L' := [_, _, _]) (st' := [.int (nI 46), _]) 5 rfl ?_
  try simp (disch := omega) only [kb46, ki0, nI_add, nI_mul, nI_sub, Nat.zero_mul, Nat.one_mul, Nat.sub_zero, Nat.add_zero, Nat.zero_add, Nat.add_sub_cancel]
  refine jcv (pc' := 13) 148 [.int (nI 46)] [] (I.ob (r := 65) R1) rfl rfl rfl rfl rfl rfl rfl rfl ?_
  refine v_isAt (c := 46) I R1 TX hl d2 ht (by decide) (jk ?_)
  cases e4 : atc t len (de t len pl) 46 with
  | true =>
    rw [e4, if_pos rfl] at hA
    have hlt := atc_lt e4
    refine jin (pc' := 16) 31 rfl rfl rfl rfl (rfl) ?_
    refine jx (pc' := 18) (L' := [_, _, _]) (st' := [_, _]) 2 rfl ?_
    refine jgf (pc' := 21) (I.ob (r := 65) R1) rfl rfl rfl rfl rfl ?_
    refine jx (pc' := 23) (L' := [_, _, _]) (st' := [_, _]) 2 rfl ?_
    try simp (disch := omega) only [ki1, nI_add, nI_mul, nI_sub, Nat.zero_mul, Nat.one_mul, Nat.sub_zero, Nat.add_zero, Nat.zero_add, Nat.add_sub_cancel]
    refine jpA (pc' := 26) (r := 65) I R1 rfl rfl rfl (Nat.le_of_ble_eq_true rfl) (by intro z; cases z) rfl rfl rfl fun _ I R1 => ?_
    refine jx (pc' := 27) (L' := [_, _, _]) (st' := [_]) 1 rfl ?_
    refine jcv (pc' := 30) 150 [] [] (I.ob (r := 65) R1) rfl rfl rfl rfl rfl rfl rfl rfl ?_
    refine v_passDigits (pl := de t len pl + 1) (D := vd 0 t pl (de t len pl - pl)) I R1 TX rfl hl (by omega) ht (Nat.lt_trans hv (plt (by omega))) fun h2 I hv2 => jk ?_
    obtain ⟨k1, k2, _, _⟩ := de_s t len (de t len pl + 1)
    have k2 := k2 (by omega)
    refine jx (pc' := 31) (L' := [_, _, _]) (st' := []) 1 rfl ?_
    have e1 : (nmA t len pl).1 = de t len (de t len pl + 1) := by rw [hA]
    have e2 : (nmA t len pl).2.1 = vd (vd 0 t pl (de t len pl - pl)) t (de t len pl + 1) (de t len (de t len pl + 1) - (de t len pl + 1)) := by rw [hA]
    have e3 : (nmA t len pl).2.2 = de t len (de t len pl + 1) - (de t len pl + 1) := by rw [hA]
    rw [← e2, ← e1] at I hv2
    rw [← e3]
    exact t31 _ _ I (((g1.up (by decide)).up (by decide)).up (by decide)) (va_up_self _ _ _) rfl (by omega) hv2 (by omega)
  | false =>
    rw [e4, if_neg (by decide)] at hA
    have e1 : (nmA t len pl).1 = de t len pl := by rw [hA]
    have e2 : (nmA t len pl).2.1 = vd 0 t pl (de t len pl - pl) := by rw [hA]
    have e3 : (nmA t len pl).2.2 = 0 := by rw [hA]
    refine jit (pc' := 31) rfl rfl rfl (rfl) ?_
    have := t31 _ _ I g1 (by rw [e1]; exact R1) (by rw [e2]; rfl) (by omega) (by rw [e1, e2]; exact hv) (by omega)
    rw [e3] at this
    exact this
end TXT
