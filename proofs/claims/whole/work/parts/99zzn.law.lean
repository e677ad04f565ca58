/-! ===== the law: both sides at one state ===== -/
/-- what a state keeps -/
def Gd (σ : Stt) : Prop := (∀ i, i < 9 → ValD (σ.1 i)) ∧ (σ.2.1 < 5 ∧ σ.2.2.1 < 32 ∧ σ.2.2.2.1 < 32 ∧ σ.2.2.2.2.2.1 ≤ 120 ∧ (∀ j, j < σ.2.2.2.2.2.1 → σ.2.2.2.2.1 j < 128) ∧ σ.2.2.2.2.2.2.length ≤ 64)
/-- the reference's cells -/
def RF (S : Nat → AC) (F : Nat → Dm) (cd dr ra tr sz wr : Nat) (tx ou : Nat → Nat) : Prop := ∃ (R : Nat → Dm) (si V : Nat) (mo ng : Bool) (sp : Nat) (il : Bool) (rs pt rl wo : Nat → Nat), (∀ i, i < 9 → R i = F i) ∧ S 98 = aC (cO 10 (mF cd dr ra si tr mo ng sp sz wr il)) ∧ RgP S R ∧ RwP S V ∧ S 105 = aC (dA 130 rs) ∧ S 106 = aC (dA 130 pt) ∧ S 107 = aC (dA 130 rl) ∧ S 108 = aC (cL 4 (fun j => zL (wo j : Int))) ∧ S 109 = aC (dA 120 tx) ∧ S 110 = aC (dA 64 ou)
def rel (σ : Stt) (wr : Nat) (tx ou : Nat → Nat) : Prop := Ot wr ou σ.2.2.2.2.2.2 ∧ tx = σ.2.2.2.2.1
/-- the reference stands at a state, with a code -/
def RT (S0 : Nat → AC) (h : ix_H) (σ : Stt) (cd : Nat) : Prop := ∃ (wr : Nat) (tx ou : Nat → Nat), RK S0 h σ.1 cd σ.2.1 σ.2.2.1 σ.2.2.2.1 σ.2.2.2.2.2.1 wr tx ou ∧ rel σ wr tx ou
section LAW
variable {h h' : ix_H} {S S' S0 : Nat → AC} {σ : Stt} {cd dr ra tr sz wr n m : Nat} {e : ix_C} {tx ou : Nat → Nat} {F : Nat → Dm}
theorem Cls.gd (C : Cls S σ) : Gd σ := ⟨fun i hi => (C.2.2.2.2.2.2.2.1 i hi).2.2.2, C.2.2.2.2.2.2.2.2⟩
theorem Cls.fr (C : Cls S σ) (E : ∀ r, 32 ≤ r → r < 98 → S' r = S r) : Cls S' σ := by
  obtain ⟨c1, ⟨f, c2, c3⟩, ⟨⟨⟨wn, l1⟩, ⟨a1, a2, a3, a4, a5, a6, a7⟩, ⟨b1, b2, b3, b4, b5, b6, b7⟩, l4, ⟨r1, l5⟩, ⟨r2, l6⟩, l7, ⟨v1, l8⟩, ⟨v2, l9⟩, ⟨v3, l10⟩, ⟨v4, l11⟩, ⟨v5, l12⟩⟩, dr, d1, d2, d3⟩, ⟨e1, v6, e2⟩, ⟨f1, ⟨W, f2⟩, v7, f3⟩, ⟨⟨so, ng, ex, pl, g1⟩, ⟨v8, g2⟩, g3⟩, ⟨h1, o, h2, h3⟩, k, z⟩ := C
  have t : ∀ j v, S j = v → 32 ≤ j → j < 98 → S' j = v := fun j v hv x y => (E j x y).trans hv
  refine ⟨t _ _ c1 (by decide) (by decide), ⟨f, t _ _ c2 (by decide) (by decide), c3⟩, ⟨⟨⟨wn, t _ _ l1 (by decide) (by decide)⟩, ⟨a1, a2, a3, a4, a5, t _ _ a6 (by decide) (by decide), t _ _ a7 (by decide) (by decide)⟩, ⟨b1, b2, b3, b4, b5, t _ _ b6 (by decide) (by decide), t _ _ b7 (by decide) (by decide)⟩, t _ _ l4 (by decide) (by decide), ⟨r1, t _ _ l5 (by decide) (by decide)⟩, ⟨r2, t _ _ l6 (by decide) (by decide)⟩, t _ _ l7 (by decide) (by decide), ⟨v1, t _ _ l8 (by decide) (by decide)⟩, ⟨v2, t _ _ l9 (by decide) (by decide)⟩, ⟨v3, t _ _ l10 (by decide) (by decide)⟩, ⟨v4, t _ _ l11 (by decide) (by decide)⟩, ⟨v5, t _ _ l12 (by decide) (by decide)⟩⟩, dr, t _ _ d1 (by decide) (by decide), t _ _ d2 (by decide) (by decide), d3⟩, ⟨t _ _ e1 (by decide) (by decide), v6, t _ _ e2 (by decide) (by decide)⟩, ⟨t _ _ f1 (by decide) (by decide), ⟨W, t _ _ f2 (by decide) (by decide)⟩, v7, t _ _ f3 (by decide) (by decide)⟩, ⟨⟨so, ng, ex, pl, t _ _ g1 (by decide) (by decide)⟩, ⟨v8, t _ _ g2 (by decide) (by decide)⟩, t _ _ g3 (by decide) (by decide)⟩, ⟨t _ _ h1 (by decide) (by decide), o, t _ _ h2 (by decide) (by decide), h3⟩, fun i hi => ?_, z⟩
  obtain ⟨k1, k2, k3, k4⟩ := k i hi
  exact ⟨k1, t _ _ k2 (by omega) (by omega), t _ _ k3 (by omega) (by omega), k4⟩
theorem RK.of (I : Inv h S) (K : RF S F cd dr ra tr sz wr tx ou) : RK S h F cd dr ra tr sz wr tx ou := by
  obtain ⟨R, si, V, mo, ng, sp, il, rs, pt, rl, wo, a, b⟩ := K
  exact ⟨R, si, a, V, mo, ng, sp, il, rs, pt, rl, wo, S, I, ag_0 _ _, b⟩
theorem RK.to (K : RK S0 h F cd dr ra tr sz wr tx ou) : ∃ S, Inv h S ∧ ag rfL S0 S ∧ RF S F cd dr ra tr sz wr tx ou := by
  obtain ⟨R, si, a, V, mo, ng, sp, il, rs, pt, rl, wo, S, I, g, b⟩ := K
  exact ⟨S, I, g, R, si, V, mo, ng, sp, il, rs, pt, rl, wo, a, b⟩
theorem RF.fr (K : RF S F cd dr ra tr sz wr tx ou) (E : ∀ r, 98 ≤ r → r ≤ 110 → S' r = S r) : RF S' F cd dr ra tr sz wr tx ou := by
  obtain ⟨R, si, V, mo, ng, sp, il, rs, pt, rl, wo, a, b1, ⟨gm, gs, gf, gp, gd, a1, a2, a3, a4, a5, a6⟩, ⟨b2, f, b3, b4⟩, c1, c2, c3, c4, c5, c6⟩ := K
  have t : ∀ j v, S j = v → 98 ≤ j → j ≤ 110 → S' j = v := fun j v hv x y => (E j x y).trans hv
  exact ⟨R, si, V, mo, ng, sp, il, rs, pt, rl, wo, a, t _ _ b1 (by decide) (by decide), ⟨gm, gs, gf, gp, gd, t _ _ a1 (by decide) (by decide), t _ _ a2 (by decide) (by decide), t _ _ a3 (by decide) (by decide), t _ _ a4 (by decide) (by decide), t _ _ a5 (by decide) (by decide), a6⟩, ⟨b2, f, t _ _ b3 (by decide) (by decide), b4⟩, t _ _ c1 (by decide) (by decide), t _ _ c2 (by decide) (by decide), t _ _ c3 (by decide) (by decide), t _ _ c4 (by decide) (by decide), t _ _ c5 (by decide) (by decide), t _ _ c6 (by decide) (by decide)⟩
/-- the class steps: the reference stays -/
theorem RF.rt (K : RF S σ.1 cd σ.2.1 σ.2.2.1 σ.2.2.2.1 σ.2.2.2.2.2.1 wr tx ou) (r : rel σ wr tx ou) (I : Inv h' S') (E : ∀ r, 98 ≤ r → r ≤ 110 → S' r = S r) : RT S' h' σ cd := ⟨wr, tx, ou, RK.of I (K.fr E), r⟩
end LAW
/-- both stand at a state: n cells, m slots, the script e -/
def J (h : ix_H) (σ : Stt) (n m : Nat) (e : ix_C) : Prop := ∃ (S : Nat → AC) (cd wr : Nat) (tx ou : Nat → Nat) (f : Nat → Int64), Inv h S ∧ Cls S σ ∧ S 0 = aG n m e ∧ S 111 = aC (cL 1 f) ∧ RF S σ.1 cd σ.2.1 σ.2.2.1 σ.2.2.2.1 σ.2.2.2.2.2.1 wr tx ou ∧ rel σ wr tx ou
/-- what a call on the class leaves -/
def CT (S S' : Nat → AC) (σ : Stt) (n m n' m' : Nat) (e : ix_C) : Prop := Cls S' σ ∧ S' 0 = aG n' m' e ∧ (∀ r, 98 ≤ r → r ≤ 110 → S' r = S r) ∧ n' ≤ n + 1 ∧ m' ≤ m + 6
/-- a call that may throw: what the class and the reference do -/
def Op (σ : Stt) (oc : Nat) (σ' : Stt) (u : Int64) (rv : Value) (mc : Nat) (ac : List Value) (mr : Nat) (ar : List Value) : Prop :=
  (∀ (h : ix_H) (S : Nat → AC) (n m : Nat) (e : ix_C) (f : Nat → Int64) (Q : ix_O → ix_H → Prop), Inv h S → Cls S σ → Rm S n m e → S 111 = aC (cL 1 f) → (∀ h' S' n' m' f', Inv h' S' → CT S S' σ' n m n' m' e → S' 111 = aC (cL 1 f') → (oc = 0 → f' 0 = u) → Q (.inl (some (.int (zI oc)))) h') → ix_M mc ac h Q) ∧
  (∀ (h : ix_H) (S0 : Nat → AC) (cd : Nat) (Q : ix_O → ix_H → Prop), RT S0 h σ cd → (∀ h', RT S0 h' σ' oc → Q (.inl (some rv)) h') → ix_M mr ar h Q)
/-- a call that answers -/
def Od (σ : Stt) (σ' : Stt) (rv : Option Value) (mc : Nat) (ac : List Value) (mr : Nat) (ar : List Value) : Prop :=
  (∀ (h : ix_H) (S : Nat → AC) (n m : Nat) (e : ix_C) (Q : ix_O → ix_H → Prop), Inv h S → Cls S σ → Rm S n m e → (∀ h' S' n' m', Inv h' S' → CT S S' σ' n m n' m' e → S' 111 = S 111 → Q (.inl rv) h') → ix_M mc ac h Q) ∧
  (∀ (h : ix_H) (S0 : Nat → AC) (cd : Nat) (Q : ix_O → ix_H → Prop), RT S0 h σ cd → (∀ h', RT S0 h' σ' 0 → Q (.inl rv) h') → ix_M mr ar h Q)
/-- load: no answer is kept -/
def Ol (σ : Stt) (oc : Nat) (σ' : Stt) (mc : Nat) (ac : List Value) (mr : Nat) (ar : List Value) : Prop :=
  (∀ (h : ix_H) (S : Nat → AC) (n m : Nat) (e : ix_C) (Q : ix_O → ix_H → Prop), Inv h S → Cls S σ → Rm S n m e → (∀ h' S' n' m', Inv h' S' → CT S S' σ' n m n' m' e → S' 111 = S 111 → Q (.inl (some (.int (zI oc)))) h') → ix_M mc ac h Q) ∧
  (∀ (h : ix_H) (S0 : Nat → AC) (cd : Nat) (Q : ix_O → ix_H → Prop), RT S0 h σ cd → (∀ h', RT S0 h' σ' oc → Q (.inl none) h') → ix_M mr ar h Q)
section LAW
variable {h h' : ix_H} {S S' S0 : Nat → AC} {σ σ' : Stt} {cd dr ra tr sz wr n m n' m' : Nat} {e : ix_C} {tx ou : Nat → Nat} {F : Nat → Dm} {f : Nat → Int64}
theorem Pst.ct (P : Pst S S' σ' n' m' e) (h1 : n' ≤ n + 1) (h2 : m' ≤ m + 6) : CT S S' σ' n m n' m' e := ⟨P.1, P.2.1, fun r a _ => P.2.2 r a, h1, h2⟩
theorem CT.up {x : AC} (P : CT S S' σ' n m n' m' e) : CT S (va_up S' 111 x) σ' n m n' m' e := by
  refine ⟨P.1.fr fun r _ b => va_up_ne _ _ (by omega), ?_, fun r a b => ?_, P.2.2.2⟩
  · rw [va_up_ne _ _ (by decide)]; exact P.2.1
  · rw [va_up_ne _ _ (by omega)]; exact P.2.2.1 r a b
/-- the reference steps: the class stays -/
theorem J.mk (K : RT S h σ cd) (C : Cls S σ) (g : S 0 = aG n m e) (H : S 111 = aC (cL 1 f)) : J h σ n m e := by
  obtain ⟨wr, tx, ou, K, r⟩ := K
  obtain ⟨S', I, a, K⟩ := K.to
  have b : ∀ q, ¬ (98 ≤ q ∧ q ≤ 110) → S' q = S q := fun q hq => a q fun z => by
    simp [rfL] at z
    omega
  exact ⟨S', cd, wr, tx, ou, f, I, C.fr fun r _ h2 => b r (by omega), (b 0 (by decide)).trans g, (b 111 (by decide)).trans H, K, r⟩
theorem CT.id (C : Cls S σ) (G : Rm S n m e) : CT S S σ n m n m e := ⟨C, G.1, fun _ _ _ => rfl, Nat.le_succ _, Nat.le_add_right _ _⟩
theorem zw (a : Int32) : ∃ w : Int, a = zI w ∧ zr w := ⟨a.toInt, (zI_w a).1.symm, (zI_w a).2⟩
theorem cc_self (x : Int32) : ix_cc .eq x x = true := by simp [ix_cc]
theorem lc_self (x : Int64) : lg_cmp x x = 0 := by
  unfold lg_cmp
  simp
end LAW
