/-! ===== TextReader: parse, append, empty ===== -/
noncomputable def prs (t : Nat → Nat) (len : Nat) : Option (Nat × Bool × Int × Nat) :=
  if wm t len (sgp t len 0) 0 then (if sgp t len 0 + 8 = len then some (1, atc t len 0 45, 0, 0) else none) else
  if wm t len (sgp t len 0) 1 then (if sgp t len 0 + 3 = len then some (1, atc t len 0 45, 0, 0) else none) else
  if wm t len (sgp t len 0) 2 then (if de t len (sgp t len 0 + 4) = len then some (2, atc t len 0 45, 0, vd 0 t (sgp t len 0 + 4) (de t len (sgp t len 0 + 4) - (sgp t len 0 + 4))) else none) else
  if wm t len (sgp t len 0) 3 then (if de t len (sgp t len 0 + 3) = len then some (3, atc t len 0 45, 0, vd 0 t (sgp t len 0 + 3) (de t len (sgp t len 0 + 3) - (sgp t len 0 + 3))) else none) else
  match nmR t len (sgp t len 0) with
  | none => none
  | some x => if x.2.1 = len then some (0, atc t len 0 45, x.1, x.2.2) else none
theorem wm_b {t : Nat → Nat} {len pl r : Nat} (h : wm t len pl r = true) (hr : 0 < (sc r).length) : pl + (sc r).length ≤ len := by
  have := (of_decide_eq_true h) ((sc r).length - 1) (by omega)
  omega
theorem pl' {a b : Nat} (h : a ≤ b) : 10 ^ a ≤ 10 ^ b := Nat.pow_le_pow_right (by decide) h
section TXT
variable {h : ix_H} {Q : ix_O → ix_H → Prop} {S : Nat → AC} {t : Nat → Nat} {so len pl c D r : Nat} {ng : Bool} {ex : Int}
theorem v_parse (I : Inv h S) (RC : S 65 = aC (trC so ng ex len pl)) (TX : S 68 = aC (txC t)) (DG : S 66 = aN D) (hl : len ≤ 120) (ht : ∀ j, j < len → t j < 128) (qf : prs t len = none → ∀ h' S', Inv h' S' → ag [65, 66] S S' → isT S' len → Q (.inl (some (.int (bI false)))) h') (qt : ∀ so' ng' e D, prs t len = some (so', ng', e, D) → D < 10 ^ len → ∀ h' S', Inv h' S' → ag [65, 66] S S' → S' 65 = aC (trC so' ng' e len len) → S' 66 = aN D → Q (.inl (some (.int (bI true)))) h') : ix_M 146 [.ref 65] h Q := by
  obtain ⟨s1, s2⟩ := sgp_b (t := t) (len := len) (pl := 0) (by omega)
  have hsg : sgp t len 0 = if atc t len 0 45 || atc t len 0 43 then 0 + 1 else 0 := rfl
  unfold prs at qf qt
  have t109 : ∀ (h1 : ix_H) (T : Nat → AC) (so' : Nat) (ng' : Bool) (e : Int) (p D : Nat), Inv h1 T → ag [65, 66] S T → T 65 = aC (trC so' ng' e len p) → T 66 = aN D → p ≤ len → D < 10 ^ p → (p = len → ∀ h' S', Inv h' S' → ag [65, 66] S S' → S' 65 = aC (trC so' ng' e len len) → S' 66 = aN D → Q (.inl (some (.int (bI true)))) h') → (¬ p = len → ∀ h' S', Inv h' S' → ag [65, 66] S S' → isT S' len → Q (.inl (some (.int (bI false)))) h') → ix_E 146 109 [some (.ref 65)] [] h1 Q := by
    intro h1 T so' ng' e p D I g RC DG hp hD q1 q0
    refine jx (pc' := 110) (L' := [_]) (st' := [_]) 1 rfl ?_
    refine jgf (pc' := 113) (I.ob (r := 65) RC) rfl rfl rfl rfl rfl ?_
    refine jx (pc' := 114) (L' := [_]) (st' := [_, _]) 1 rfl ?_
    refine jgf (pc' := 117) (I.ob (r := 65) RC) rfl rfl rfl rfl rfl ?_
    by_cases e : p = len
    · subst e
      refine jcn (pc' := 120) 124 rfl rfl rfl rfl (by rw [cc_ne (by omega) (by omega)]; exact decide_eq_false (by omega)) ?_
      refine jx (pc' := 125) (L' := [_]) (st' := [.int (nI 1)]) 2 rfl ?_
      refine ix_qr _ rfl rfl rfl ?_
      exact q1 rfl _ _ I g RC DG
    · skip
      refine jct (pc' := 124) rfl rfl rfl (by rw [cc_ne (by omega) (by omega)]; exact decide_eq_true (by omega)) ?_
      refine jx (pc' := 125) (L' := [_]) (st' := [.int (nI 0)]) 1 rfl ?_
      refine ix_qr _ rfl rfl rfl ?_
      exact q0 e _ _ I g ⟨⟨_, _, _, _, RC⟩, ⟨_, DG⟩⟩
  have main : ∀ (k2 : ix_H) (T : Nat → AC) (ng : Bool) (p0 : Nat), ng = atc t len 0 45 → p0 = sgp t len 0 → Inv k2 T → ag [65, 66] S T → T 65 = aC (trC 0 ng 0 len p0) → T 66 = aN 0 → T 68 = aC (txC t) → ix_E 146 30 [some (.ref 65)] [] k2 Q := by
    intro k2 T ng p0 hng hp0 I g2 R2 D2 X2
    rw [← hng, ← hp0] at qf qt
    rw [← hp0] at s1 s2
    have inf : ∀ (k3 : ix_H) (p : Nat), p ≤ len → Inv k3 (va_up T 65 (aC (trC 0 ng 0 len p))) → (p = len → ∀ h' S', Inv h' S' → ag [65, 66] S S' → S' 65 = aC (trC 1 ng 0 len len) → S' 66 = aN 0 → Q (.inl (some (.int (bI true)))) h') → (¬ p = len → ∀ h' S', Inv h' S' → ag [65, 66] S S' → isT S' len → Q (.inl (some (.int (bI false)))) h') → ix_E 146 48 [some (.ref 65)] [] k3 Q := by
      intro k3 p hp I q1 q0
      refine jx (pc' := 50) (L' := [_]) (st' := [.int (nI 1), _]) 2 rfl ?_
      refine jpA (pc' := 53) (r := 65) I (va_up_self _ _ _) rfl rfl rfl (Nat.le_of_ble_eq_true rfl) (by intro z; cases z) rfl rfl rfl fun _ I X_ => ?_
      refine jx (pc' := 109) (L' := [_]) (st' := []) 1 rfl ?_
      exact t109 _ _ _ _ _ _ _ I ((g2.up (by decide)).up (by decide)) rfl D2 hp (pp0 _) q1 q0
    refine jx (pc' := 33) (L' := [_]) (st' := [_, _]) 2 rfl ?_
    refine jcv (pc' := 36) 149 [_] [] (I.ob (r := 65) R2) rfl rfl rfl rfl rfl rfl rfl rfl ?_
    refine v_passWord (r := 0) I R2 X2 hl s2 ht (by decide) fun k3 I => jk ?_
    cases w0 : wm t len p0 0 with
    | true =>
      have wb := wm_b w0 (by decide)
      simp only [w0, if_true] at qf qt I
      refine jit (pc' := 48) rfl rfl rfl (rfl) ?_
      refine inf _ _ wb I (fun e => ?_) (fun e => ?_)
      · rw [if_pos (show p0 + 8 = len from e)] at qt
        exact qt 1 ng 0 0 rfl (pp0 _)
      · rw [if_neg (show ¬ p0 + 8 = len from e)] at qf
        exact qf rfl
    | false =>
      simp only [w0, Bool.false_eq_true, if_false] at qf qt I
      rw [va_up_id R2] at I
      refine jin (pc' := 39) 48 rfl rfl rfl rfl (rfl) ?_
      refine jx (pc' := 42) (L' := [_]) (st' := [_, _]) 2 rfl ?_
      refine jcv (pc' := 45) 149 [_] [] (I.ob (r := 65) R2) rfl rfl rfl rfl rfl rfl rfl rfl ?_
      refine v_passWord (r := 1) I R2 X2 hl s2 ht (by decide) fun k3 I => jk ?_
      cases w1 : wm t len p0 1 with
      | true =>
        have wb := wm_b w1 (by decide)
        simp only [w1, if_true] at qf qt I
        refine jin (pc' := 48) 56 rfl rfl rfl rfl (rfl) ?_
        refine inf _ _ wb I (fun e => ?_) (fun e => ?_)
        · rw [if_pos (show p0 + 3 = len from e)] at qt
          exact qt 1 ng 0 0 rfl (pp0 _)
        · rw [if_neg (show ¬ p0 + 3 = len from e)] at qf
          exact qf rfl
      | false =>
        simp only [w1, Bool.false_eq_true, if_false] at qf qt I
        rw [va_up_id R2] at I
        refine jit (pc' := 56) rfl rfl rfl (rfl) ?_
        refine jx (pc' := 59) (L' := [_]) (st' := [_, _]) 2 rfl ?_
        refine jcv (pc' := 62) 149 [_] [] (I.ob (r := 65) R2) rfl rfl rfl rfl rfl rfl rfl rfl ?_
        refine v_passWord (r := 2) I R2 X2 hl s2 ht (by decide) fun k3 I => jk ?_
        cases w2 : wm t len p0 2 with
        | true =>
          have wb := wm_b w2 (by decide)
          simp only [w2, if_true] at qf qt I
          have wb4 : p0 + 4 ≤ len := wb
          obtain ⟨k1', k2', _, _⟩ := de_s t len (p0 + 4)
          have k2' := k2' wb4
          change Inv k3 (va_up T 65 (aC (trC 0 ng 0 len (p0 + 4)))) at I
          have R4 : va_up T 65 (aC (trC 0 ng 0 len (p0 + 4))) 65 = aC (trC 0 ng 0 len (p0 + 4)) := va_up_self _ _ _
          refine jin (pc' := 65) 78 rfl rfl rfl rfl (rfl) ?_
          refine jx (pc' := 67) (L' := [_]) (st' := [.int (nI 2), _]) 2 rfl ?_
          refine jpA (pc' := 70) (r := 65) I R4 rfl rfl rfl (Nat.le_of_ble_eq_true rfl) (by intro z; cases z) rfl rfl rfl fun _ I R4 => ?_
          refine jx (pc' := 71) (L' := [_]) (st' := [_]) 1 rfl ?_
          refine jcv (pc' := 74) 150 [] [] (I.ob (r := 65) R4) rfl rfl rfl rfl rfl rfl rfl rfl ?_
          refine v_passDigits (so := 2) (pl := p0 + 4) I R4 X2 D2 hl wb4 ht (pp0 _) fun k5 I hv => jk ?_
          refine jx (pc' := 109) (L' := [_]) (st' := []) 2 rfl ?_
          refine t109 _ _ _ _ _ _ _ I ((((g2.up (by decide)).up (by decide)).up (by decide)).up (by decide)) (va_up_self _ _ _) rfl k2' hv (fun e => ?_) (fun e => ?_)
          · rw [if_pos e] at qt
            exact qt 2 ng 0 _ rfl (Nat.lt_of_lt_of_le hv (pl' (Nat.le_of_eq e)))
          · rw [if_neg e] at qf
            exact qf rfl
        | false =>
          simp only [w2, Bool.false_eq_true, if_false] at qf qt I
          rw [va_up_id R2] at I
          refine jit (pc' := 78) rfl rfl rfl (rfl) ?_
          refine jx (pc' := 81) (L' := [_]) (st' := [_, _]) 2 rfl ?_
          refine jcv (pc' := 84) 149 [_] [] (I.ob (r := 65) R2) rfl rfl rfl rfl rfl rfl rfl rfl ?_
          refine v_passWord (r := 3) I R2 X2 hl s2 ht (by decide) fun k3 I => jk ?_
          cases w3 : wm t len p0 3 with
          | true =>
            have wb := wm_b w3 (by decide)
            simp only [w3, if_true] at qf qt I
            have wb4 : p0 + 3 ≤ len := wb
            obtain ⟨k1', k2', _, _⟩ := de_s t len (p0 + 3)
            have k2' := k2' wb4
            change Inv k3 (va_up T 65 (aC (trC 0 ng 0 len (p0 + 3)))) at I
            have R4 : va_up T 65 (aC (trC 0 ng 0 len (p0 + 3))) 65 = aC (trC 0 ng 0 len (p0 + 3)) := va_up_self _ _ _
            refine jin (pc' := 87) 100 rfl rfl rfl rfl (rfl) ?_
            refine jx (pc' := 89) (L' := [_]) (st' := [.int (nI 3), _]) 2 rfl ?_
            refine jpA (pc' := 92) (r := 65) I R4 rfl rfl rfl (Nat.le_of_ble_eq_true rfl) (by intro z; cases z) rfl rfl rfl fun _ I R4 => ?_
            refine jx (pc' := 93) (L' := [_]) (st' := [_]) 1 rfl ?_
            refine jcv (pc' := 96) 150 [] [] (I.ob (r := 65) R4) rfl rfl rfl rfl rfl rfl rfl rfl ?_
            refine v_passDigits (so := 3) (pl := p0 + 3) I R4 X2 D2 hl wb4 ht (pp0 _) fun k5 I hv => jk ?_
            refine jx (pc' := 109) (L' := [_]) (st' := []) 2 rfl ?_
            refine t109 _ _ _ _ _ _ _ I ((((g2.up (by decide)).up (by decide)).up (by decide)).up (by decide)) (va_up_self _ _ _) rfl k2' hv (fun e => ?_) (fun e => ?_)
            · rw [if_pos e] at qt
              exact qt 3 ng 0 _ rfl (Nat.lt_of_lt_of_le hv (pl' (Nat.le_of_eq e)))
            · rw [if_neg e] at qf
              exact qf rfl
          | false =>
            simp only [w3, Bool.false_eq_true, if_false] at qf qt I
            rw [va_up_id R2] at I
            refine jit (pc' := 100) rfl rfl rfl (rfl) ?_
            refine jx (pc' := 101) (L' := [_]) (st' := [_]) 1 rfl ?_
            refine jcv (pc' := 104) 152 [] [] (I.ob (r := 65) R2) rfl rfl rfl rfl rfl rfl rfl rfl ?_
            refine v_passNumber I R2 X2 D2 hl s2 ht (fun hn h' S' I g iT => jk ?_) (fun e p D hn hp hD h' S' I g R D' => jk ?_)
            · rw [hn] at qf
              refine jin (pc' := 107) 109 rfl rfl rfl rfl (rfl) ?_
              refine jx (pc' := 108) (L' := [_]) (st' := [.int (nI 0)]) 1 rfl ?_
              refine ix_qr _ rfl rfl rfl ?_
              exact qf rfl _ _ I (g2.tr g (fun _ z => z)) iT
            · rw [hn] at qf qt
              dsimp only at qf qt
              refine jit (pc' := 109) rfl rfl rfl (rfl) ?_
              refine t109 _ _ _ _ _ _ _ I (g2.tr g (fun _ z => z)) R D' hp hD (fun e' => ?_) (fun e' => ?_)
              · rw [if_pos e'] at qt
                exact qt 0 ng _ _ rfl (by rw [← e']; exact hD)
              · rw [if_neg e'] at qf
                exact qf rfl
  refine jx (pc' := 2) (L' := [_]) (st' := [.int (nI 0), _]) 2 rfl ?_
  refine jpA (pc' := 5) (r := 65) I RC rfl rfl rfl (Nat.le_of_ble_eq_true rfl) (by intro z; cases z) rfl rfl rfl fun _ I RC => ?_
  refine jx (pc' := 7) (L' := [_]) (st' := [.int (nI 0), _]) 2 rfl ?_
  refine jpA (pc' := 10) (r := 65) I RC rfl rfl rfl (Nat.le_of_ble_eq_true rfl) (by intro z; cases z) rfl rfl rfl fun _ I RC => ?_
  refine jx (pc' := 11) (L' := [_]) (st' := [_]) 1 rfl ?_
  refine jgf (pc' := 14) (I.ob (r := 65) RC) rfl rfl rfl rfl rfl ?_
  refine jcv (pc' := 17) 53 [] [] (I.no (r := 66) DG) rfl rfl rfl rfl rfl rfl rfl rfl ?_
  refine v_clear (a := 66) I DG fun _ I => jk ?_
  refine jx (pc' := 19) (L' := [_]) (st' := [.int (nI 0), _]) 2 rfl ?_
  refine jpA (pc' := 22) (r := 65) I RC rfl rfl rfl (Nat.le_of_ble_eq_true rfl) (by intro z; cases z) rfl rfl rfl fun _ I RC => ?_
  rename_i k0
  have R1 : ∀ x y z w : AC, va_up (va_up (va_up (va_up S 65 x) 65 y) 66 z) 65 w 65 = w := fun x y z w => va_up_self _ _ _
  have g0 : ∀ x y z w : AC, ag [65, 66] S (va_up (va_up (va_up (va_up S 65 x) 65 y) 66 z) 65 w) := fun x y z w => ((((ag_0 _ S).up (by decide)).up (by decide)).up (by decide)).up (by decide)
  refine jx (pc' := 24) (L' := [_]) (st' := [_, _]) 2 rfl ?_
  refine jcv (pc' := 27) 147 [] [_] (I.ob (r := 65) RC) rfl rfl rfl rfl rfl rfl rfl rfl ?_
  refine v_passSign (so := 0) (ng := ng) (ex := 0) (pl := 0) I RC TX hl (by omega) ht fun k1 I => jk ?_
  refine jpA (pc' := 30) (r := 65) I rfl rfl rfl rfl (Nat.le_of_ble_eq_true rfl) (by intro z; cases z) (nb _) (fb _) rfl fun _ I X_ => ?_
  rename_i k2
  -- the state behind the sign
  have S2 : ∀ (x y z w u : AC), va_up (va_up (va_up (va_up (va_up (va_up S 65 x) 65 y) 66 z) 65 w) 65 u) 65 (aC (trC 0 (atc t len 0 45) 0 len (sgp t len 0))) = va_up (va_up S 66 z) 65 (aC (trC 0 (atc t len 0 45) 0 len (sgp t len 0))) := fun x y z w u => by
    rw [va_up_up, va_up_up, va_up_up]
    funext j
    by_cases e1 : j = 65
    · rw [e1, va_up_self, va_up_self]
    · rw [va_up_ne _ _ e1, va_up_ne _ _ e1]
      by_cases e2 : j = 66
      · rw [e2, va_up_self, va_up_self]
      · rw [va_up_ne _ _ e2, va_up_ne _ _ e2, va_up_ne _ _ e1]
  change Inv k2 (va_up (va_up (va_up (va_up (va_up (va_up S 65 _) 65 _) 66 (aN 0)) 65 _) 65 _) 65 (aC (trC 0 (atc t len 0 45) 0 len (sgp t len 0)))) at I
  rw [S2] at I
  have g2 : ag [65, 66] S (va_up (va_up S 66 (aN 0)) 65 (aC (trC 0 (atc t len 0 45) 0 len (sgp t len 0)))) := ((ag_0 _ S).up (by decide)).up (by decide)
  have R2 : va_up (va_up S 66 (aN 0)) 65 (aC (trC 0 (atc t len 0 45) 0 len (sgp t len 0))) 65 = aC (trC 0 (atc t len 0 45) 0 len (sgp t len 0)) := va_up_self _ _ _
  have D2 : va_up (va_up S 66 (aN 0)) 65 (aC (trC 0 (atc t len 0 45) 0 len (sgp t len 0))) 66 = aN 0 := rfl
  have X2 : va_up (va_up S 66 (aN 0)) 65 (aC (trC 0 (atc t len 0 45) 0 len (sgp t len 0))) 68 = aC (txC t) := TX
  exact main _ _ _ _ rfl rfl I g2 R2 D2 X2
/-- TextReader.append, empty -/
theorem v_append {x : Int} (I : Inv h S) (RC : S 65 = aC (trC so ng ex len pl)) (TX : S 68 = aC (txC t)) (hl : len ≤ 120) (hx : zr x) (q1 : 0 ≤ x ∧ x ≤ 127 ∧ len < 120 → ∀ h', Inv h' (va_up (va_up S 68 (aC (txC (va_up t len x.toNat)))) 65 (aC (trC so ng ex (len + 1) pl))) → Q (.inl (some (.int (bI true)))) h') (q0 : ¬ (0 ≤ x ∧ x ≤ 127 ∧ len < 120) → Q (.inl (some (.int (bI false)))) h) : ix_M 145 [.ref 65, .int (zI x)] h Q := by
  have hx1 := hx.1
  have hx2 := hx.2
  have t0 : ¬ (0 ≤ x ∧ x ≤ 127 ∧ len < 120) → ix_E 145 19 [some (.ref 65), some (.int (zI x))] [] h Q := by
    intro hc
    refine jx (pc' := 20) (L' := [_, _]) (st' := [.int (zI 0)]) 1 rfl ?_
    refine ix_qr _ rfl rfl rfl ?_
    exact q0 hc
  refine jx (pc' := 1) (L' := [_, _]) (st' := [_]) 1 rfl ?_
  by_cases h0 : x < 0
  · skip
    refine jit (pc' := 19) rfl rfl rfl (by rw [zz_lt ⟨by omega, by omega⟩]; exact decide_eq_true (by omega)) ?_
    exact t0 (by omega)
  · skip
    refine jin (pc' := 4) 19 rfl rfl rfl rfl (by rw [zz_lt ⟨by omega, by omega⟩]; exact decide_eq_false (by omega)) ?_
    refine jx (pc' := 7) (L' := [_, _]) (st' := [.int (zI 127), _]) 2 rfl ?_
    by_cases h1 : 127 < x
    · skip
      refine jct (pc' := 19) rfl rfl rfl (by rw [zc_gt ⟨by omega, by omega⟩ ⟨by omega, by omega⟩]; exact decide_eq_true (by omega)) ?_
      exact t0 (by omega)
    · skip
      refine jcn (pc' := 10) 19 rfl rfl rfl rfl (by rw [zc_gt ⟨by omega, by omega⟩ ⟨by omega, by omega⟩]; exact decide_eq_false (by omega)) ?_
      refine jx (pc' := 11) (L' := [_, _]) (st' := [_]) 1 rfl ?_
      refine jgf (pc' := 14) (I.ob (r := 65) RC) rfl rfl rfl rfl rfl ?_
      refine jx (pc' := 16) (L' := [_, _]) (st' := [.int (zI 120), _]) 1 rfl ?_
      rw [nz len]
      by_cases h2 : len < 120
      · skip
        refine jct (pc' := 21) rfl rfl rfl (by rw [zc_lt ⟨by omega, by omega⟩ ⟨by omega, by omega⟩]; exact decide_eq_true (by omega)) ?_
        refine jx (pc' := 22) (L' := [_, _]) (st' := [_]) 1 rfl ?_
        refine jgf (pc' := 25) (I.ob (r := 65) RC) rfl rfl rfl rfl rfl ?_
        refine jx (pc' := 26) (L' := [_, _]) (st' := [_, _]) 1 rfl ?_
        refine jgf (pc' := 29) (I.ob (r := 65) RC) rfl rfl rfl rfl rfl ?_
        refine jx (pc' := 31) (L' := [_, _]) (st' := [_, _, _]) 2 rfl ?_
        try simp (disch := omega) only [kz, kzl0, kzl1, kzb, kzs, zI_add, zI_sub, zI_neg, zI_mul, zL_i, zI_l, zL_add, zL_sub, zL_neg]
        rw [(zn hx (by omega)).1, i2c_n (by omega)]
        refine jcA (pc' := 32) (r := 68) I TX rfl rfl h2 (by omega) rfl fun k1 I => ?_
        refine jx (pc' := 34) (L' := [_, _]) (st' := [_, _]) 2 rfl ?_
        refine jgf (pc' := 37) (I.ob (r := 65) RC) rfl rfl rfl rfl rfl ?_
        refine jx (pc' := 39) (L' := [_, _]) (st' := [_, _]) 2 rfl ?_
        try simp (disch := omega) only [ki1, nI_add, nI_mul, nI_sub, Nat.zero_mul, Nat.one_mul, Nat.sub_zero, Nat.add_zero, Nat.zero_add, Nat.add_sub_cancel]
        refine jpA (pc' := 42) (r := 65) I RC rfl rfl rfl (Nat.le_of_ble_eq_true rfl) (by intro z; cases z) rfl rfl rfl fun _ I RC => ?_
        refine jx (pc' := 43) (L' := [_, _]) (st' := [.int (nI 1)]) 1 rfl ?_
        refine ix_qr _ rfl rfl rfl ?_
        exact q1 ⟨by omega, by omega, h2⟩ _ I
      · skip
        refine jcn (pc' := 19) 21 rfl rfl rfl rfl (by rw [zc_lt ⟨by omega, by omega⟩ ⟨by omega, by omega⟩]; exact decide_eq_false (by omega)) ?_
        exact t0 (by omega)
theorem v_empty (I : Inv h S) (RC : S 65 = aC (trC so ng ex len pl)) (q : ∀ h', Inv h' (va_up S 65 (aC (trC so ng ex 0 pl))) → Q (.inl none) h') : ix_M 154 [.ref 65] h Q := by
  refine jx (pc' := 2) (L' := [_]) (st' := [.int (nI 0), _]) 2 rfl ?_
  refine jpA (pc' := 5) (r := 65) I RC rfl rfl rfl (Nat.le_of_ble_eq_true rfl) (by intro z; cases z) rfl rfl rfl fun _ I RC => ?_
  refine ix_qr _ rfl rfl rfl ?_
  exact q _ I
end TXT
