/-! ===== new cells, upon abstract heaps ===== -/
def Fr (S : Nat → AC) (n : Nat) : Prop := ∀ j, n ≤ j → S j = none
theorem CM_e : ix_CM = 601056 := rfl
theorem SM_e : ix_SM = 7293034 := rfl
section NEW
variable {mi pc pc' mj k idx : Nat} {i : Instr} {L L' : ix_L} {st st' rest as : List Value} {h h' : ix_H} {Q : ix_O → ix_H → Prop} {S : Nat → AC} {n m r : Nat} {e c : ix_C}
/-- a cell that nothing was said of -/
theorem Inv.sc (I : Inv h S) (hs : S n = none) (hc : h.2.2 n = c) (h32 : 32 ≤ n) (hn : n < h.1) (ok : okC c) (hb : ∀ r v, S r = aN v → ¬ r + 1 = n) : Inv h (va_up S n (aC c)) := by
  refine ⟨I.1, fun q => ?_⟩
  have hq := I.2 q
  by_cases e1 : q = n
  · rw [e1, va_up_self]
    exact ⟨hc, h32, hn, ok⟩
  · rw [va_up_ne _ _ e1]
    generalize hx : S q = x at *
    match x, hq with
    | none, _ => exact trivial
    | some (.inl v), hq =>
      refine ⟨hq.1, ?_⟩
      rw [va_up_ne _ _ (hb q v hx)]
      exact hq.2
    | some (.inr (.inl c2)), hq => exact hq
    | some (.inr (.inr g2)), hq => exact hq
theorem Inv.nl {v : Nat} (I : Inv h S) (e1 : S r = aN v) : r + 1 < h.1 := by
  obtain ⟨⟨f, nn, _⟩, _⟩ := I.nv e1
  exact nn.2.1.2.2.1
theorem Inv.al (I : Inv h S) (g : S 0 = aG n m e) (hs : S n = none) (ok : okC c) : Inv (ix_pu h k c) (va_up (va_up S 0 (aG (n + 1) (m + k) e)) n (aC c)) := by
  obtain ⟨_, g1, g2, g3⟩ := I.gh g
  have h32 := I.1.1
  have I' := I.np (k := k) (c := c) g
  have hn0 : ¬ n = 0 := by omega
  refine I'.sc (by rw [va_up_ne _ _ hn0]; exact hs) ?_ (by omega) (by show n < h.1 + 1; omega) ok (fun r v hr z => ?_)
  · show (ix_pu h k c).2.2 n = c
    simp [ix_pu, va_up, g1]
  · by_cases r0 : r = 0
    · rw [r0, va_up_self] at hr
      exact nomatch hr
    · rw [va_up_ne _ _ r0] at hr
      have := I.nl hr
      omega
/-- a fresh object of numbers becomes a number -/
theorem Inv.tn {a : Nat} (I : Inv h S) (A : S a = aC (cO 1 [.ref (a + 1)])) (hs : S (a + 1) = none) (l : ix_ia h (a + 1) 0 16 (fun _ => nI 0)) : Inv h (va_up S a (aN 0)) := by
  refine ⟨I.1, fun q => ?_⟩
  have hq := I.2 q
  by_cases e1 : q = a
  · subst e1
    rw [va_up_self]
    refine ⟨⟨fun _ => 0, ⟨I.ob A, l, fun j _ => (by decide : (0 : Nat) < 1000000000)⟩, vl_0 fun j _ => rfl⟩, ?_⟩
    rw [va_up_ne _ _ (by omega)]
    exact hs
  · rw [va_up_ne _ _ e1]
    generalize hx : S q = x at *
    match x, hq with
    | none, _ => exact trivial
    | some (.inl v), hq =>
      refine ⟨hq.1, ?_⟩
      by_cases e2 : q + 1 = a
      · have := hq.2
        rw [e2, A] at this
        exact nomatch this
      · rw [va_up_ne _ _ e2]
        exact hq.2
    | some (.inr (.inl c2)), hq => exact hq
    | some (.inr (.inr g2)), hq => exact hq
/-- new -/
theorem kno {ci : Nat} (I : Inv h S) (g : S 0 = aG n m e) (F : Fr S n) (hi : ix_ins mi pc = some (.new k)) (ht : ix_thr mi pc = none) (hw : ix_nw (ix_o mi) k = some ci) (hc : ci < 100) (hp : pc + 3 = pc') (h1 : n < 1000) (h2 : m + (ix_dv ci).length ≤ 100000) (q : ∀ h' S', Inv h' S' → S' 0 = aG (n + 1) (m + (ix_dv ci).length) e → S' n = aC (cO ci (ix_dv ci)) → (∀ j, ¬ j = 0 → ¬ j = n → S' j = S j) → Fr S' (n + 1) → ix_E mi pc' L (.ref n :: st) h' Q) : ix_E mi pc L st h Q := by
  obtain ⟨_, g1, g2, g3⟩ := I.gh g
  have h32 := I.1.1
  have hcm := CM_e
  have hsm := SM_e
  refine jnew hi ht hw hp (by omega) (by omega) ?_
  rw [g1]
  have I' := I.al (k := (ix_dv ci).length) (c := cO ci (ix_dv ci)) g (F n (Nat.le_refl _)) hc
  refine q _ _ I' ?_ (va_up_self _ _ _) (fun j a b => by rw [va_up_ne _ _ b, va_up_ne _ _ a]) (fun j hj => ?_)
  · rw [va_up_ne _ _ (by omega), va_up_self]
  · rw [va_up_ne _ _ (by omega), va_up_ne _ _ (by omega)]
    exact F j (by omega)
/-- newarray -/
theorem kna {t : Nat} {a : ArrayType} {z : Nat} {x : Int32} {cc : ix_C} (I : Inv h S) (g : S 0 = aG n m e) (F : Fr S n) (hi : ix_ins mi pc = some (.newarray a)) (ht : ix_thr mi pc = none) (hx : x = nI z) (hz : z ≤ 26000) (ha : (a = .int ∧ cc = cI 0 z fun _ => 0) ∨ (a = .char ∧ cc = cI 2 z fun _ => 0) ∨ (a = .boolean ∧ cc = cI 3 z fun _ => 0) ∨ (a = .long ∧ cc = cL z fun _ => 0)) (hp : pc + 2 = pc') (h1 : n < 1000) (h2 : m + z ≤ 100000) (q : ∀ h' S', Inv h' S' → S' 0 = aG (n + 1) (m + z) e → S' n = aC cc → (∀ j, ¬ j = 0 → ¬ j = n → S' j = S j) → Fr S' (n + 1) → ix_E mi pc' L (.ref n :: st) h' Q) : ix_E mi pc L (.int x :: st) h Q := by
  obtain ⟨_, g1, g2, g3⟩ := I.gh g
  have h32 := I.1.1
  have hcm := CM_e
  have hsm := SM_e
  have e1 := nI_clamp (n := z) (by omega)
  have e2 := nI_pos (n := z) (by omega)
  subst hx
  have ok : okC cc := by
    rcases ha with ⟨_, b⟩ | ⟨_, b⟩ | ⟨_, b⟩ | ⟨_, b⟩ <;> rw [b]
    · exact ⟨show z ≤ 100000 by omega, show 0 < 5 by decide⟩
    · exact ⟨show z ≤ 100000 by omega, show 2 < 5 by decide⟩
    · exact ⟨show z ≤ 100000 by omega, show 3 < 5 by decide⟩
    · exact ⟨show z ≤ 100000 by omega, show 1 < 5 by decide⟩
  have I' := I.al (k := z) (c := cc) g (F n (Nat.le_refl _)) ok
  have q' := q _ _ I' (by rw [va_up_ne _ _ (by omega), va_up_self]) (va_up_self _ _ _) (fun j a b => by rw [va_up_ne _ _ b, va_up_ne _ _ a]) (fun j hj => by
    rw [va_up_ne _ _ (by omega), va_up_ne _ _ (by omega)]
    exact F j (by omega))
  have hm1 : m + z ≤ ix_SM := by omega
  have hn1 : n < ix_CM := by omega
  rcases ha with ⟨a1, b⟩ | ⟨a1, b⟩ | ⟨a1, b⟩ | ⟨a1, b⟩ <;> subst a1 <;> subst b
  · refine jx1 (pc' := pc') (L' := L) (st' := .ref n :: st) ?_ q'
    rw [ix_s1_of hi rfl rfl ht]
    simp only [ix_x1, ix_na, e1, hp, g1, g2]
    rw [if_pos ⟨e2, by omega, hn1, hm1⟩]
  · refine jx1 (pc' := pc') (L' := L) (st' := .ref n :: st) ?_ q'
    rw [ix_s1_of hi rfl rfl ht]
    simp only [ix_x1, ix_na, e1, hp, g1, g2]
    rw [if_pos ⟨e2, by omega, hn1, hm1⟩]
  · refine jx1 (pc' := pc') (L' := L) (st' := .ref n :: st) ?_ q'
    rw [ix_s1_of hi rfl rfl ht]
    simp only [ix_x1, ix_na, e1, hp, g1, g2]
    rw [if_pos ⟨e2, by omega, hn1, hm1⟩]
  · refine jx1 (pc' := pc') (L' := L) (st' := .ref n :: st) ?_ q'
    rw [ix_s1_of hi rfl rfl ht]
    simp only [ix_x1, ix_na, e1, hp, g1, g2]
    rw [if_pos ⟨e2, by omega, hn1, hm1⟩]
/-- putfield -/
theorem kpf {ci : Nat} {fs : List Value} {v : Value} (I : Inv h S) (A : S r = aC (cO ci fs)) (g : S 0 = aG n m e) (F : Fr S n) (hi : ix_ins mi pc = some (.putfield idx)) (ht : ix_thr mi pc = none) (hf : ix_fld (ix_o mi) idx = some (ci, k)) (hk : k < fs.length) (hfin : ix_fin ci k = true → ix_ini mi = true ∧ ix_o mi = ix_oc ci) (hn : narrow (ix_fty ci k) v = v) (hs : fits (ix_fty ci k) v = true) (hp : pc + 3 = pc') (q : ∀ h' S', Inv h' S' → S' r = aC (cO ci (fs.set k v)) → S' 0 = aG n m e → (∀ j, ¬ j = r → S' j = S j) → Fr S' n → ix_E mi pc' L st h' Q) : ix_E mi pc L (v :: .ref r :: st) h Q := by
  have hr := I.cl A
  obtain ⟨_, g1, g2, g3⟩ := I.gh g
  refine jpA I A hi ht hf hk hfin hn hs hp fun h' I' A' => q h' _ I' A' ?_ (fun j a => va_up_ne _ _ a) (fun j hj => ?_)
  · rw [va_up_ne _ _ (by omega)]; exact g
  · rw [va_up_ne _ _ (by omega)]; exact F j hj
/-- Natural's constructor -/
theorem k_natural {a : Nat} (I : Inv h S) (A : S a = aC (cO 1 (ix_dv 1))) (g : S 0 = aG (a + 1) m e) (F : Fr S (a + 1)) (h1 : a < 900) (h2 : m ≤ 90000) (q : ∀ h' S', Inv h' S' → S' a = aN 0 → S' 0 = aG (a + 2) (m + 16) e → (∀ j, ¬ j = 0 → j < a → S' j = S j) → Fr S' (a + 2) → Q (.inl none) h') : ix_M 47 [.ref a] h Q := by
  obtain ⟨_, g1, g2, g3⟩ := I.gh g
  have h32 := I.1.1
  have hcm := CM_e
  have hsm := SM_e
  have ha := I.cl A
  refine c_natural (I.ob A) (by omega) (by omega) ?_
  have I' := I.np (k := 16) (c := cN fun _ => 0) g
  have A' : va_up S 0 (aG (a + 1 + 1) (m + 16) e) a = aC (cO 1 (ix_dv 1)) := by rw [va_up_ne _ _ (by omega)]; exact A
  have I2 := I'.pc (c' := cO 1 [.ref (a + 1)]) A' (show 1 < 100 by decide)
  have l : ix_ia (ix_up (ix_pu h 16 (cN fun _ => 0)) a (cO 1 [.ref (a + 1)])) (a + 1) 0 16 (fun _ => nI 0) := by
    refine ⟨?_, by omega, ?_, show 16 ≤ 100000 by decide, by decide⟩
    · simp [ix_up, ix_pu, va_up, g1]
    · show a + 1 < h.1 + 1
      omega
  have I3 := I2.tn (va_up_self _ _ _) (by
    rw [va_up_ne _ _ (by omega), va_up_ne _ _ (by omega)]
    exact F _ (Nat.le_refl _)) l
  rw [va_up_up] at I3
  rw [g1]
  refine q _ _ I3 (va_up_self _ _ _) ?_ (fun j j0 ja => ?_) (fun j hj => ?_)
  · rw [va_up_ne _ _ (by omega), va_up_self]
  · rw [va_up_ne _ _ (by omega), va_up_ne _ _ j0]
  · rw [va_up_ne _ _ (by omega), va_up_ne _ _ (by omega)]
    exact F j (by omega)
end NEW
