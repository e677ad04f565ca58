/-! ===== DecimalBits: read; the length of what is written ===== -/
theorem nmA_b {t : Nat → Nat} {len pl : Nat} (h : pl ≤ len) : (nmA t len pl).2.2 ≤ len := by
  unfold nmA
  have d1 := (de_s t len pl).2.1 h
  split
  · next z =>
    have z' := atc_lt z
    have d2 := (de_s t len (de t len pl + 1)).2.1 (by omega)
    show de t len (de t len pl + 1) - (de t len pl + 1) ≤ len
    omega
  · exact Nat.zero_le _
theorem nmR_b {t : Nat → Nat} {len pl : Nat} {x : Int × Nat × Nat} (h : pl ≤ len) (hl : len ≤ 120) (e : nmR t len pl = some x) : -200000000 ≤ x.1 ∧ x.1 ≤ 200000000 := by
  have hb := nmA_b (t := t) h
  unfold nmR at e
  split at e
  · exact nomatch e
  · split at e
    · split at e
      · have := Option.some.inj e
        subst this
        show -200000000 ≤ xpE t len _ - _ ∧ xpE t len _ - _ ≤ 200000000
        unfold xpE
        have hx := xe_b t (sgp t len ((nmA t len pl).1 + 1)) (de t len (sgp t len ((nmA t len pl).1 + 1)) - sgp t len ((nmA t len pl).1 + 1))
        split <;> omega
      · exact nomatch e
    · have := Option.some.inj e
      subst this
      show -200000000 ≤ 0 - ((nmA t len pl).2.2 : Int) ∧ 0 - ((nmA t len pl).2.2 : Int) ≤ 200000000
      omega
theorem prs_b {t : Nat → Nat} {len : Nat} {so : Nat} {ng : Bool} {ex : Int} {D : Nat} (hl : len ≤ 120) (e : prs t len = some (so, ng, ex, D)) : so < 4 ∧ (so = 1 → D = 0) ∧ -200000000 ≤ ex ∧ ex ≤ 200000000 := by
  unfold prs at e
  have hs := (sgp_b (t := t) (Nat.zero_le len)).2
  split at e
  · split at e
    · obtain ⟨rfl, rfl, rfl, rfl⟩ : 1 = so ∧ _ = ng ∧ 0 = ex ∧ 0 = D := by simpa using Option.some.inj e
      omega
    · exact nomatch e
  · split at e
    · split at e
      · obtain ⟨rfl, rfl, rfl, rfl⟩ : 1 = so ∧ _ = ng ∧ 0 = ex ∧ 0 = D := by simpa using Option.some.inj e
        omega
      · exact nomatch e
    · split at e
      · split at e
        · obtain ⟨rfl, rfl, rfl, -⟩ : 2 = so ∧ _ = ng ∧ 0 = ex ∧ _ = D := by simpa using Option.some.inj e
          omega
        · exact nomatch e
      · split at e
        · split at e
          · obtain ⟨rfl, rfl, rfl, -⟩ : 3 = so ∧ _ = ng ∧ 0 = ex ∧ _ = D := by simpa using Option.some.inj e
            omega
          · exact nomatch e
        · split at e
          · exact nomatch e
          · next x ex1 =>
            have hb := nmR_b hs hl ex1
            split at e
            · obtain ⟨rfl, rfl, rfl, -⟩ : 0 = so ∧ _ = ng ∧ x.1 = ex ∧ _ = D := by simpa using Option.some.inj e
              omega
            · exact nomatch e
section TOP
variable {h : ix_H} {Q : ix_O → ix_H → Prop} {S : Nat → AC} {σ : Stt} {n m s f : Nat} {e : ix_C} {x y w z : Int} {exa : Bool}
/-- the state with an empty text -/
def emT (σ : Stt) : Stt := (σ.1, σ.2.1, σ.2.2.1, σ.2.2.2.1, σ.2.2.2.2.1, 0, σ.2.2.2.2.2.2)
def cRd (x w : Int) : Prop := (0 ≤ x ∧ x < 8) ∧ (0 ≤ w ∧ w < 3)
noncomputable def rRd (dir : Nat) (w : Int) (u : Nat × Bool × Int × Nat) : Dm × Nat := ftR dir w.toNat u.1 u.2.1 u.2.2.1 u.2.2.2
theorem v_read (I : Inv h S) (C : Cls S σ) (G : Rm S n m e) (hx : zr x) (hw : zr w) (q0 : prs σ.2.2.2.2.1 σ.2.2.2.2.2.1 = none ∨ ¬ cRd x w → ∀ h' S', Inv h' S' → Pst S S' (emT σ) (n + 1) (m + 6) e → Q (.inr (11, n)) h') (q1 : ∀ u, prs σ.2.2.2.2.1 σ.2.2.2.2.2.1 = some u → cRd x w → (rRd σ.2.1 w u).2 &&& σ.2.2.2.1 = 0 → ∀ h' S', Inv h' S' → Pst S S' (dv2 (emT σ) x.toNat (rRd σ.2.1 w u).1 (rRd σ.2.1 w u).2) n m e → Q (.inl (some (.int (nI (rRd σ.2.1 w u).2)))) h') (q2 : ∀ u, prs σ.2.2.2.2.1 σ.2.2.2.2.2.1 = some u → cRd x w → ¬ (rRd σ.2.1 w u).2 &&& σ.2.2.2.1 = 0 → ∀ h' S', Inv h' S' → Pst S S' (dv1 (emT σ) (rRd σ.2.1 w u).1 (rRd σ.2.1 w u).2) (n + 1) (m + 6) e → Q (.inr (12, n)) h') : ix_M 42 [.ref 32, .int (zI x), .int (zI w)] h Q := by
  have c1 := C.1
  have c9 := C.2.2.2.2.2.2.2.2
  obtain ⟨⟨so, ng, ex, pl, RC⟩, ⟨D, DG⟩, TX⟩ := C.2.2.2.2.2.1
  have hx1 := hx.1
  have hx2 := hx.2
  have hw1 := hw.1
  have hw2 := hw.2
  obtain ⟨d1, d2, d3, d4, d5, d6⟩ := c9
  -- behind the parsing
  have tJ : ∀ (h1 : ix_H) (T : Nat → AC) (b b0 : Bool) (so : Nat) (ng : Bool) (ex : Int) (pl D : Nat), Inv h1 T → ag [65, 66] S T → T 65 = aC (trC so ng ex 0 pl) → T 66 = aN D → (b = true → cRd x w ∧ prs σ.2.2.2.2.1 σ.2.2.2.2.2.1 = some (so, ng, ex, D) ∧ D < 10 ^ 120) → (b = false → prs σ.2.2.2.2.1 σ.2.2.2.2.2.1 = none ∨ ¬ cRd x w) → ix_E 42 38 [some (.ref 32), some (.int (zI x)), some (.int (zI w)), some (.int (bI b0))] [.int (bI b)] h1 Q := by
    intro h1 T b b0 so ng ex pl D I g RC DG hb1 hb0
    have C1 : Cls T (emT σ) := C.rd (t' := σ.2.2.2.2.1) (len' := 0) (g.w (by decide)) ⟨so, ng, ex, pl, RC⟩ ⟨_, DG⟩ (g.at 68 (by decide) TX) (by omega) (by intro j hj; omega)
    have G1 : Rm T n m e := ⟨g.at 0 (by decide) G.1, G.2⟩
    obtain ⟨L, dr, R⟩ := C1.2.2.1
    obtain ⟨wn, AR⟩ := L.1
    have c1' := C1.1
    have g98 := ag98 g (by decide)
    refine jcs (pc' := 41) 29 [_] [] rfl rfl rfl rfl rfl rfl rfl rfl ?_
    refine v_require I G1 (fun hb => jk ?_) (fun hb h' I' => jkt rfl ?_)
    · obtain ⟨cc, hp, hD⟩ := hb1 hb
      obtain ⟨k0, k1⟩ := cc
      obtain ⟨p1, p2, p3⟩ := prs_b d4 hp
      rw [(zn hx (by omega)).1, (zn hw (by omega)).1]
      refine jx (pc' := 44) (L' := [_, _, _, _]) (st' := [_, _, _]) 3 rfl ?_
      refine jgf (pc' := 47) (I.ob (r := 32) c1') rfl rfl rfl rfl rfl ?_
      refine jx (pc' := 48) (L' := [_, _, _, _]) (st' := [_, _, _, _]) 1 rfl ?_
      refine jgf (pc' := 51) (I.ob (r := 32) c1') rfl rfl rfl rfl rfl ?_
      refine jx (pc' := 53) (L' := [_, _, _, _]) (st' := [_, _, _, _, _, _]) 2 rfl ?_
      refine jgf (pc' := 56) (I.ob (r := 32) c1') rfl rfl rfl rfl rfl ?_
      refine jcv (pc' := 59) 143 [_, _, _] [_, _] (I.ob (r := 34) AR) rfl rfl rfl rfl rfl rfl rfl rfl ?_
      refine v_fromText I L R RC DG d1 (by omega) p1 hD p3 fun h2 T2 I2 L2 g2 R2 => jk ?_
      have hv : ValD (ftR σ.2.1 w.toNat so ng ex D).1 := val_ft (by omega) p1 p2 hD
      have hfl : (ftR σ.2.1 w.toNat so ng ex D).2 < 32 := fl_ft (by omega)
      have I := I2
      refine jcv (pc' := 62) 31 [_, _] [] (I.ob (r := 32) (g2.at 32 (by decide) c1')) rfl rfl rfl rfl rfl rfl rfl rfl ?_
      refine v_ret T2 arl g2 arl_b I2 C1 G1 L2 R2 (by omega) hv hfl rfl (fun e0 h' S' I' P => ?_) (fun e0 h' S' I' P => ?_)
      · refine jri rfl rfl ?_
        exact q1 _ hp ⟨k0, k1⟩ e0 h' S' I' ⟨P.1, P.2.1, fun r hr => (P.2.2 r hr).trans (g98 r hr)⟩
      · exact q2 _ hp ⟨k0, k1⟩ e0 h' S' I' ⟨P.1, P.2.1, fun r hr => (P.2.2 r hr).trans (g98 r hr)⟩
    · have P := Pst.no (n := n) (m := m) (e := e) C1
      exact q0 (hb0 hb) _ _ I' ⟨P.1, P.2.1, fun r hr => (P.2.2 r hr).trans (g98 r hr)⟩
  have tF : ∀ (h1 : ix_H) (T : Nat → AC) (b0 : Bool) (so : Nat) (ng : Bool) (ex : Int) (pl D : Nat), Inv h1 T → ag [65, 66] S T → T 65 = aC (trC so ng ex 0 pl) → T 66 = aN D → (prs σ.2.2.2.2.1 σ.2.2.2.2.2.1 = none ∨ ¬ cRd x w) → ix_E 42 37 [some (.ref 32), some (.int (zI x)), some (.int (zI w)), some (.int (bI b0))] [] h1 Q := by
    intro h1 T b0 so ng ex pl D I g RC DG hc
    refine jx (pc' := 38) (L' := [_, _, _, _]) (st' := [.int (nI 0)]) 1 rfl ?_
    exact tJ h1 T false b0 so ng ex pl D I g RC DG (fun z => nomatch z) (fun _ => hc)
  refine jx (pc' := 1) (L' := [_, _, _, _]) (st' := [_]) 1 rfl ?_
  refine jgf (pc' := 4) (I.ob (r := 32) c1) rfl rfl rfl rfl rfl ?_
  refine jcv (pc' := 7) 146 [] [] (I.ob (r := 65) RC) rfl rfl rfl rfl rfl rfl rfl rfl ?_
  refine v_parse I RC TX DG d4 d5 (fun e1 h1 T I1 g V => jk ?_) (fun so' ng' e' D' e1 hD h1 T I1 g RC1 DG1 => jk ?_)
  · obtain ⟨⟨so2, ng2, ex2, pl2, RC2⟩, D2, DG2⟩ := V
    have I := I1
    refine jx (pc' := 9) (L' := [_, _, _, _]) (st' := [_]) 2 rfl ?_
    refine jgf (pc' := 12) (I.ob (r := 32) (g.at 32 (by decide) c1)) rfl rfl rfl rfl rfl ?_
    refine jcv (pc' := 15) 154 [] [] (I.ob (r := 65) RC2) rfl rfl rfl rfl rfl rfl rfl rfl ?_
    refine v_empty I1 RC2 fun h2 I2 => jk ?_
    refine jx (pc' := 16) (L' := [_, _, _, _]) (st' := [_]) 1 rfl ?_
    refine jit (pc' := 37) rfl rfl rfl (by rfl) ?_
    exact tF _ _ _ so2 ng2 ex2 pl2 D2 I2 (g.up (by decide)) rfl DG2 (Or.inl e1)
  · have I := I1
    refine jx (pc' := 9) (L' := [_, _, _, _]) (st' := [_]) 2 rfl ?_
    refine jgf (pc' := 12) (I.ob (r := 32) (g.at 32 (by decide) c1)) rfl rfl rfl rfl rfl ?_
    refine jcv (pc' := 15) 154 [] [] (I.ob (r := 65) RC1) rfl rfl rfl rfl rfl rfl rfl rfl ?_
    refine v_empty I1 RC1 fun h2 I2 => jk ?_
    have hD2 : D' < 10 ^ 120 := Nat.lt_of_lt_of_le hD (pl' d4)
    have I := I2
    refine jx (pc' := 16) (L' := [_, _, _, _]) (st' := [_]) 1 rfl ?_
    refine jin (pc' := 19) 37 rfl rfl rfl rfl (by rfl) ?_
    refine jx (pc' := 20) (L' := [_, _, _, _]) (st' := [_]) 1 rfl ?_
    refine jcs (pc' := 23) 28 [_] [] rfl rfl rfl rfl rfl rfl rfl rfl ?_
    refine c_isTarget hx (jk ?_)
    by_cases hc0 : (0 ≤ x ∧ x < 8)
    · skip
      refine jin (pc' := 26) 37 rfl rfl rfl rfl (by rw [bz_eq, decide_eq_true hc0]; rfl) ?_
      refine jx (pc' := 27) (L' := [_, _, _, _]) (st' := [_]) 1 rfl ?_
      refine jcs (pc' := 30) 44 [_] [] rfl rfl rfl rfl rfl rfl rfl rfl ?_
      refine c_exists I.tab hw (fun hc1 => jk ?_) (fun hc1 => jk ?_)
      · skip
        refine jin (pc' := 33) 37 rfl rfl rfl rfl (by rfl) ?_
        refine jx (pc' := 38) (L' := [_, _, _, _]) (st' := [.int (zI 1)]) 2 rfl ?_
        exact tJ _ _ true _ so' ng' e' _ D' I2 (g.up (by decide)) rfl DG1 (fun _ => ⟨⟨hc0, hc1⟩, e1, hD2⟩) (fun z => nomatch z)
      · skip
        refine jit (pc' := 37) rfl rfl rfl (by rfl) ?_
        exact tF _ _ _ so' ng' e' _ D' I2 (g.up (by decide)) rfl DG1 (Or.inr fun zz => hc1 zz.2)
    · skip
      refine jit (pc' := 37) rfl rfl rfl (by rw [bz_eq, decide_eq_false hc0]; rfl) ?_
      exact tF _ _ _ so' ng' e' _ D' I2 (g.up (by decide)) rfl DG1 (Or.inr fun zz => hc0 zz.1)
/-! what is written has at most 64 characters -/
theorem wtR_b {d : Dm} (v : ValD d) : (wtR d).length ≤ 64 := by
  have vb := Val.b v
  have hc : d.2.2.2.2 < 10 ^ 34 := Nat.lt_of_lt_of_le v.2.2.2.1 (pl' (by rcases f3 v.1 with z | z | z <;> rw [z] <;> decide))
  have hd : dgs d.2.2.2.2 ≤ 34 := dgs_le hc
  have hN : ptN d.2.2.2.2 ≤ 34 ∧ 1 ≤ ptN d.2.2.2.2 := by unfold ptN; omega
  have h1 : (if d.2.2.1 then [45] else ([] : List Nat)).length ≤ 1 := by split <;> simp
  unfold wtR
  rw [List.length_append]
  generalize (if d.2.2.1 then [45] else ([] : List Nat)).length = l0 at *
  split
  · have : (sc 4).length = 8 := by decide
    omega
  · split
    · rw [List.length_append, dl_l]
      have : (if d.2.1 = 2 then sc 5 else sc 6).length ≤ 5 := by split <;> decide
      omega
    · unfold ptF
      generalize ptN d.2.2.2.2 = N at *
      split
      · next z =>
        unfold ptP
        rw [List.length_append]
        have a1 : (if (-d.2.2.2.1).toNat < N then dl d.2.2.2.2 N (-d.2.2.2.1).toNat else [48]).length ≤ 1 + (N - (-d.2.2.2.1).toNat) := by
          split
          · rw [dl_l]; omega
          · simp
        have a2 : (if 0 < (-d.2.2.2.1).toNat then 46 :: dl d.2.2.2.2 (-d.2.2.2.1).toNat 0 else []).length ≤ 1 + (-d.2.2.2.1).toNat := by
          split
          · rw [List.length_cons, dl_l]; omega
          · simp
        omega
      · rw [List.length_append, List.length_append, dl_l, List.length_cons, List.length_cons]
        have a3 := nml_l (d.2.2.2.1 + N - 1).natAbs
        have a2 : (if 1 < N then 46 :: dl d.2.2.2.2 (N - 1) 0 else []).length ≤ N := by
          split
          · rw [List.length_cons, dl_l]; omega
          · simp
        omega
end TOP
