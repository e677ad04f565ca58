/-! ===== TextReader: isAt, passSign, passWord, passDigits ===== -/
abbrev trC (so : Nat) (ng : Bool) (ex : Int) (len pl : Nat) : ix_C := cO 8 [.int (nI so), .int (bI ng), .ref 66, .int (zI ex), .ref 68, .int (nI len), .int (nI pl)]
abbrev txC (t : Nat → Nat) : ix_C := cI 2 120 (fun j => nI (t j))
/-- a character, made great -/
def uc (c : Nat) : Nat := if 97 ≤ c ∧ c ≤ 122 then c - 32 else c
def atc (t : Nat → Nat) (len pl c : Nat) : Bool := decide (pl < len ∧ uc (t pl) = c)
def dgc (c : Nat) : Prop := 48 ≤ c ∧ c ≤ 57
def wm (t : Nat → Nat) (len pl r : Nat) : Bool := decide (∀ j, j < (sc r).length → pl + j < len ∧ uc (t (pl + j)) = (sc r).getD j 0)
theorem de_ex (t : Nat → Nat) (len pl : Nat) : ∃ e : Nat, pl ≤ e ∧ (pl ≤ len → e ≤ len) ∧ (∀ j, pl ≤ j → j < e → 48 ≤ t j ∧ t j ≤ 57) ∧ (e < len → ¬ (48 ≤ t e ∧ t e ≤ 57)) := by
  by_cases h : pl < len
  · obtain ⟨k, hk⟩ : ∃ k, len = pl + k := ⟨len - pl, by omega⟩
    induction k generalizing pl with
    | zero => exact ⟨pl, by omega, by omega, by omega, by omega⟩
    | succ k ih =>
      by_cases hd : 48 ≤ t pl ∧ t pl ≤ 57
      · by_cases hl : pl + 1 < len
        · obtain ⟨e, h1, h2, h3, h4⟩ := ih (pl + 1) hl (by omega)
          refine ⟨e, by omega, fun _ => h2 (by omega), fun j j1 j2 => ?_, h4⟩
          by_cases hj : j = pl
          · rw [hj]; exact hd
          · exact h3 j (by omega) j2
        · refine ⟨pl + 1, by omega, fun _ => by omega, fun j j1 j2 => ?_, fun z => by omega⟩
          rw [show j = pl by omega]
          exact hd
      · exact ⟨pl, by omega, fun z => z, fun j j1 j2 => by omega, fun _ => hd⟩
  · exact ⟨pl, by omega, fun z => z, fun j j1 j2 => by omega, fun z => by omega⟩
/-- where the digits from a place on end -/
noncomputable def de (t : Nat → Nat) (len pl : Nat) : Nat := Classical.choose (de_ex t len pl)
theorem de_s (t : Nat → Nat) (len pl : Nat) : pl ≤ de t len pl ∧ (pl ≤ len → de t len pl ≤ len) ∧ (∀ j, pl ≤ j → j < de t len pl → 48 ≤ t j ∧ t j ≤ 57) ∧ (de t len pl < len → ¬ (48 ≤ t (de t len pl) ∧ t (de t len pl) ≤ 57)) := Classical.choose_spec (de_ex t len pl)
theorem de_u {t : Nat → Nat} {len pl e : Nat} (h1 : pl ≤ e) (h2 : e ≤ len) (h3 : ∀ j, pl ≤ j → j < e → 48 ≤ t j ∧ t j ≤ 57) (h4 : e < len → ¬ (48 ≤ t e ∧ t e ≤ 57)) : e = de t len pl := by
  obtain ⟨k1, k2, k3, k4⟩ := de_s t len pl
  rcases Nat.lt_trichotomy e (de t len pl) with a | a | a
  · exact absurd (k3 e h1 a) (h4 (by have := k2 (by omega); omega))
  · exact a
  · exact absurd (h3 _ k1 a) (k4 (by omega))
def vd0 (D : Nat) (t : Nat → Nat) (a : Nat) : Nat → Nat
  | 0 => D
  | n + 1 => vd0 D t a n * 10 + (t (a + n) - 48)
theorem vd_ex : ∃ v : Nat → (Nat → Nat) → Nat → Nat → Nat, (∀ D t a, v D t a 0 = D) ∧ ∀ D t a n, v D t a (n + 1) = v D t a n * 10 + (t (a + n) - 48) := ⟨vd0, fun _ _ _ => rfl, fun _ _ _ _ => rfl⟩
/-- a number with digits behind it -/
noncomputable def vd : Nat → (Nat → Nat) → Nat → Nat → Nat := Classical.choose vd_ex
theorem vd_z (D : Nat) (t : Nat → Nat) (a : Nat) : vd D t a 0 = D := (Classical.choose_spec vd_ex).1 D t a
theorem vd_s (D : Nat) (t : Nat → Nat) (a n : Nat) : vd D t a (n + 1) = vd D t a n * 10 + (t (a + n) - 48) := (Classical.choose_spec vd_ex).2 D t a n
def xe0 (t : Nat → Nat) (a : Nat) : Nat → Nat
  | 0 => 0
  | n + 1 => min (xe0 t a n * 10 + (t (a + n) - 48)) 99999999
theorem xe_ex : ∃ v : (Nat → Nat) → Nat → Nat → Nat, (∀ t a, v t a 0 = 0) ∧ ∀ t a n, v t a (n + 1) = min (v t a n * 10 + (t (a + n) - 48)) 99999999 := ⟨xe0, fun _ _ => rfl, fun _ _ _ => rfl⟩
/-- the size of an exponent, as far as it is looked at -/
noncomputable def xe : (Nat → Nat) → Nat → Nat → Nat := Classical.choose xe_ex
theorem xe_z (t : Nat → Nat) (a : Nat) : xe t a 0 = 0 := (Classical.choose_spec xe_ex).1 t a
theorem xe_s (t : Nat → Nat) (a n : Nat) : xe t a (n + 1) = min (xe t a n * 10 + (t (a + n) - 48)) 99999999 := (Classical.choose_spec xe_ex).2 t a n
theorem xe_b (t : Nat → Nat) (a n : Nat) : xe t a n ≤ 99999999 := by
  cases n with
  | zero => rw [xe_z]; decide
  | succ n => rw [xe_s]; omega
section TXT
variable {h : ix_H} {Q : ix_O → ix_H → Prop} {S : Nat → AC} {t : Nat → Nat} {so len pl c D r : Nat} {ng : Bool} {ex : Int}
theorem v_isAt (I : Inv h S) (RC : S 65 = aC (trC so ng ex len pl)) (TX : S 68 = aC (txC t)) (hl : len ≤ 120) (hp : pl ≤ len) (ht : ∀ j, j < len → t j < 128) (hc : c < 128) (q : Q (.inl (some (.int (bI (atc t len pl c))))) h) : ix_M 148 [.ref 65, .int (nI c)] h Q := by
  have TI := I.ia (r := 68) TX
  unfold atc at q
  refine jx (pc' := 1) (L' := [_, _, _]) (st' := [_]) 1 rfl ?_
  refine jgf (pc' := 4) (I.ob (r := 65) RC) rfl rfl rfl rfl rfl ?_
  refine jx (pc' := 5) (L' := [_, _, _]) (st' := [_, _]) 1 rfl ?_
  refine jgf (pc' := 8) (I.ob (r := 65) RC) rfl rfl rfl rfl rfl ?_
  by_cases h1 : pl < len
  · have htp := ht pl h1
    refine jct (pc' := 13) rfl rfl rfl (by rw [cc_lt (by omega) (by omega)]; exact decide_eq_true (by omega)) ?_
    refine jx (pc' := 14) (L' := [_, _, _]) (st' := [_]) 1 rfl ?_
    refine jgf (pc' := 17) (I.ob (r := 65) RC) rfl rfl rfl rfl rfl ?_
    refine jx (pc' := 18) (L' := [_, _, _]) (st' := [_, _]) 1 rfl ?_
    refine jgf (pc' := 21) (I.ob (r := 65) RC) rfl rfl rfl rfl rfl ?_
    refine jcl (pc' := 22) TI rfl rfl (by omega) rfl ?_
    refine jx (pc' := 26) (L' := [_, _, _]) (st' := [.int (nI 97), _]) 3 rfl ?_
    have fin : ∀ x, x = uc (t pl) → x < 128 → ix_E 148 47 [some (.ref 65), some (.int (nI c)), some (.int (nI (t pl)))] [.int (nI x)] h Q := by
      intro x hx hx2
      rw [← hx] at q
      refine jx (pc' := 48) (L' := [_, _, _]) (st' := [_, _]) 1 rfl ?_
      by_cases e : x = c
      · skip
        refine jcn (pc' := 51) 55 rfl rfl rfl rfl (by rw [cc_ne (by omega) (by omega)]; exact decide_eq_false (by omega)) ?_
        refine jx (pc' := 56) (L' := [_, _, _]) (st' := [.int (nI 1)]) 2 rfl ?_
        refine ix_qr _ rfl rfl rfl ?_
        rw [decide_eq_true ⟨h1, e⟩] at q
        exact q
      · skip
        refine jct (pc' := 55) rfl rfl rfl (by rw [cc_ne (by omega) (by omega)]; exact decide_eq_true (by omega)) ?_
        refine jx (pc' := 56) (L' := [_, _, _]) (st' := [.int (nI 0)]) 1 rfl ?_
        refine ix_qr _ rfl rfl rfl ?_
        rw [decide_eq_false (fun z => e z.2)] at q
        exact q
    by_cases e1 : 97 ≤ t pl
    · skip
      refine jcn (pc' := 29) 46 rfl rfl rfl rfl (by rw [cc_lt (by omega) (by omega)]; exact decide_eq_false (by omega)) ?_
      refine jx (pc' := 32) (L' := [_, _, _]) (st' := [.int (nI 122), _]) 2 rfl ?_
      by_cases e2 : t pl ≤ 122
      · skip
        refine jcn (pc' := 35) 46 rfl rfl rfl rfl (by rw [cc_gt (by omega) (by omega)]; exact decide_eq_false (by omega)) ?_
        refine jx (pc' := 42) (L' := [_, _, _]) (st' := [_]) 5 rfl ?_
        try simp (disch := omega) only [kb65, kb97, nI_add, nI_mul, nI_sub, Nat.zero_mul, Nat.one_mul, Nat.sub_zero, Nat.add_zero, Nat.zero_add, Nat.add_sub_cancel]
        rw [show t pl - 97 + 65 = t pl - 32 by omega]
        refine jx (pc' := 47) (L' := [_, _, _]) (st' := [_]) 2 rfl ?_
        try simp (disch := omega) only [nI_add, nI_mul, nI_sub, Nat.zero_mul, Nat.one_mul, Nat.sub_zero, Nat.add_zero, Nat.zero_add, Nat.add_sub_cancel]
        rw [i2c_n (by omega)]
        exact fin _ (by unfold uc; rw [if_pos ⟨e1, e2⟩]) (by omega)
      · skip
        refine jct (pc' := 46) rfl rfl rfl (by rw [cc_gt (by omega) (by omega)]; exact decide_eq_true (by omega)) ?_
        refine jx (pc' := 47) (L' := [_, _, _]) (st' := [_]) 1 rfl ?_
        exact fin _ (by unfold uc; rw [if_neg (fun z => e2 z.2)]) htp
    · skip
      refine jct (pc' := 46) rfl rfl rfl (by rw [cc_lt (by omega) (by omega)]; exact decide_eq_true (by omega)) ?_
      refine jx (pc' := 47) (L' := [_, _, _]) (st' := [_]) 1 rfl ?_
      exact fin _ (by unfold uc; rw [if_neg (fun z => e1 z.1)]) htp
  · skip
    refine jcn (pc' := 11) 13 rfl rfl rfl rfl (by rw [cc_lt (by omega) (by omega)]; exact decide_eq_false (by omega)) ?_
    refine jx (pc' := 12) (L' := [_, _, _]) (st' := [.int (nI 0)]) 1 rfl ?_
    refine ix_qr _ rfl rfl rfl ?_
    rw [decide_eq_false (fun z => h1 z.1)] at q
    exact q
theorem v_passSign (I : Inv h S) (RC : S 65 = aC (trC so ng ex len pl)) (TX : S 68 = aC (txC t)) (hl : len ≤ 120) (hp : pl ≤ len) (ht : ∀ j, j < len → t j < 128) (q : ∀ h', Inv h' (va_up S 65 (aC (trC so ng ex len (if atc t len pl 45 || atc t len pl 43 then pl + 1 else pl)))) → Q (.inl (some (.int (bI (atc t len pl 45))))) h') : ix_M 147 [.ref 65] h Q := by
  refine jx (pc' := 3) (L' := [_, _]) (st' := [.int (nI 45), _]) 2 rfl ?_
  refine jcv (pc' := 6) 148 [.int (nI 45)] [] (I.ob (r := 65) RC) rfl rfl rfl rfl rfl rfl rfl rfl ?_
  refine v_isAt (c := 45) I RC TX hl hp ht (by decide) (jk ?_)
  have t1 : (atc t len pl 45 || atc t len pl 43) = true → ix_E 147 20 [some (.ref 65), some (.int (bI (atc t len pl 45)))] [] h Q := by
    intro hc
    rw [if_pos hc] at q
    refine jx (pc' := 22) (L' := [_, _]) (st' := [_, _]) 2 rfl ?_
    refine jgf (pc' := 25) (I.ob (r := 65) RC) rfl rfl rfl rfl rfl ?_
    refine jx (pc' := 27) (L' := [_, _]) (st' := [_, _]) 2 rfl ?_
    try simp (disch := omega) only [ki1, nI_add, nI_mul, nI_sub, Nat.zero_mul, Nat.one_mul, Nat.sub_zero, Nat.add_zero, Nat.zero_add, Nat.add_sub_cancel]
    refine jpA (pc' := 30) (r := 65) I RC rfl rfl rfl (Nat.le_of_ble_eq_true rfl) (by intro z; cases z) rfl rfl rfl fun _ I RC => ?_
    refine jx (pc' := 31) (L' := [_, _]) (st' := [_]) 1 rfl ?_
    refine jrb rfl rfl ?_
    exact q _ I
  have t0 : ¬ (atc t len pl 45 || atc t len pl 43) = true → ix_E 147 30 [some (.ref 65), some (.int (bI (atc t len pl 45)))] [] h Q := by
    intro hc
    rw [if_neg hc, va_up_id RC] at q
    refine jx (pc' := 31) (L' := [_, _]) (st' := [_]) 1 rfl ?_
    refine jrb rfl rfl ?_
    exact q _ I
  refine jx (pc' := 8) (L' := [_, _]) (st' := [_]) 2 rfl ?_
  cases e1 : atc t len pl 45 with
  | true =>
    refine jit (pc' := 20) rfl rfl rfl (rfl) ?_
    rw [← e1]
    exact t1 (by rw [e1]; rfl)
  | false =>
    refine jin (pc' := 11) 20 rfl rfl rfl rfl (rfl) ?_
    refine jx (pc' := 14) (L' := [_, _]) (st' := [.int (nI 43), _]) 2 rfl ?_
    refine jcv (pc' := 17) 148 [.int (nI 43)] [] (I.ob (r := 65) RC) rfl rfl rfl rfl rfl rfl rfl rfl ?_
    refine v_isAt (c := 43) I RC TX hl hp ht (by decide) (jk ?_)
    cases e2 : atc t len pl 43 with
    | true =>
      refine jin (pc' := 20) 30 rfl rfl rfl rfl (rfl) ?_
      rw [← e1]
      exact t1 (by rw [e2]; simp)
    | false =>
      refine jit (pc' := 30) rfl rfl rfl (rfl) ?_
      rw [← e1]
      exact t0 (by rw [e1, e2]; decide)
end TXT
