/-! ===== heaps with numbers for the sixteen limbs: an abstract heap ===== -/
/-- nothing said (the limbs of the number before), a number of sixteen limbs (its limbs lie in the next cell), a cell as it is; at 0: how many cells and slots there are, and the script's cell -/
abbrev AC : Type := Option (Nat ⊕ (ix_C ⊕ (Nat × Nat × ix_C)))
abbrev aN (v : Nat) : AC := some (.inl v)
abbrev aC (c : ix_C) : AC := some (.inr (.inl c))
abbrev aG (n m : Nat) (c : ix_C) : AC := some (.inr (.inr (n, m, c)))
def okC (c : ix_C) : Prop := match c with
  | .inr x => x.1 < 100
  | .inl x => x.2.1 ≤ 100000 ∧ x.1 < 5
def NV (h : ix_H) (r v : Nat) : Prop := ∃ f, nt h r (r + 1) f ∧ vl f 16 = v
def InvC (h : ix_H) (S : Nat → AC) (r : Nat) (x : AC) : Prop := match x with
  | none => True
  | some (.inl v) => NV h r v ∧ S (r + 1) = none
  | some (.inr (.inl c)) => h.2.2 r = c ∧ 32 ≤ r ∧ r < h.1 ∧ okC c
  | some (.inr (.inr g)) => r = 0 ∧ h.1 = g.1 ∧ h.2.1 = g.2.1 ∧ h.2.2 31 = g.2.2
def Inv (h : ix_H) (S : Nat → AC) : Prop := ix_tab h ∧ ∀ r, InvC h S r (S r)
theorem p144 : (1000000000 : Nat) ^ 16 = 10 ^ 144 := by rw [show (1000000000 : Nat) = 10 ^ 9 from rfl, ← Nat.pow_mul]
section ABS
variable {h : ix_H} {S : Nat → AC}
theorem Inv.tab (I : Inv h S) : ix_tab h := I.1
theorem Inv.nv {r v : Nat} (I : Inv h S) (e : S r = aN v) : NV h r v ∧ S (r + 1) = none := by
  have := I.2 r
  rw [e] at this
  exact this
theorem Inv.cl {r : Nat} {c : ix_C} (I : Inv h S) (e : S r = aC c) : h.2.2 r = c ∧ 32 ≤ r ∧ r < h.1 ∧ okC c := by
  have := I.2 r
  rw [e] at this
  exact this
theorem Inv.gh {n m : Nat} {c : ix_C} {r : Nat} (I : Inv h S) (e : S r = aG n m c) : r = 0 ∧ h.1 = n ∧ h.2.1 = m ∧ h.2.2 31 = c := by
  have := I.2 r
  rw [e] at this
  exact this
theorem Inv.ob {r ci : Nat} {fs : List Value} (I : Inv h S) (e : S r = aC (cO ci fs)) : ix_ob h r ci fs := by
  obtain ⟨a, b, c, d⟩ := I.cl e
  exact ⟨a, b, c, d⟩
theorem Inv.ia {r t n : Nat} {f : Nat → Int32} (I : Inv h S) (e : S r = aC (cI t n f)) : ix_ia h r t n f := by
  obtain ⟨a, b, c, d⟩ := I.cl e
  exact ⟨a, b, c, d⟩
theorem Inv.la {r n : Nat} {f : Nat → Int64} (I : Inv h S) (e : S r = aC (cL n f)) : ix_la h r n f := by
  obtain ⟨a, b, c, d⟩ := I.cl e
  exact ⟨a, b, c, d.1⟩
theorem Inv.no {r v : Nat} (I : Inv h S) (e : S r = aN v) : ix_ob h r 1 [.ref (r + 1)] := by
  obtain ⟨⟨f, n, _⟩, _⟩ := I.nv e
  exact n.1
theorem Inv.lt {r v : Nat} (I : Inv h S) (e : S r = aN v) : v < 10 ^ 144 := by
  obtain ⟨⟨f, n, hv⟩, _⟩ := I.nv e
  rw [← hv, ← p144]
  exact vl_lt n.2.2
/-- a number is written -/
theorem Inv.pn {a v : Nat} {f' : Nat → Nat} (I : Inv h S) (e : S a = aN v) (l : ∀ j, j < 16 → f' j < 1000000000) : Inv (ix_up h (a + 1) (cN f')) (va_up S a (aN (vl f' 16))) := by
  obtain ⟨⟨f, n, hv⟩, e1⟩ := I.nv e
  have h32 : 32 ≤ a + 1 := n.2.1.2.1
  refine ⟨I.1.up h32, fun r => ?_⟩
  have hr := I.2 r
  by_cases hra : r = a
  · subst hra
    rw [va_up_self]
    refine ⟨⟨f', ⟨n.1.up (by omega), n.2.1.nw _, l⟩, rfl⟩, ?_⟩
    rw [va_up_ne _ _ (by omega)]
    exact e1
  · rw [va_up_ne _ _ hra]
    cases hs : S r with
    | none => trivial
    | some x =>
      have hr1 : r ≠ a + 1 := fun z => by rw [z, e1] at hs; cases hs
      rw [hs] at hr
      cases x with
      | inl w =>
        obtain ⟨⟨g, m, hw⟩, e2⟩ := hr
        have hr2 : r + 1 ≠ a := fun z => by rw [z, e] at e2; cases e2
        refine ⟨⟨g, ⟨m.1.up hr1, m.2.1.up (by omega), m.2.2⟩, hw⟩, ?_⟩
        rw [va_up_ne _ _ hr2]
        exact e2
      | inr y =>
        cases y with
        | inl c =>
          refine ⟨?_, hr.2⟩
          have := hr.1
          simp only [ix_up, va_up, hr1, if_false]
          exact this
        | inr g =>
          obtain ⟨g0, g1, g2, g3⟩ := hr
          refine ⟨g0, g1, g2, ?_⟩
          have h31 : (31 : Nat) ≠ a + 1 := by omega
          simp only [ix_up, va_up, h31, if_false]
          exact g3
/-- a cell is written -/
theorem Inv.pc {r : Nat} {c c' : ix_C} (I : Inv h S) (e : S r = aC c) (ok : okC c') : Inv (ix_up h r c') (va_up S r (aC c')) := by
  obtain ⟨e0, h1, h2, _⟩ := I.cl e
  refine ⟨I.1.up h1, fun q => ?_⟩
  have hq := I.2 q
  by_cases hqr : q = r
  · subst hqr
    rw [va_up_self]
    exact ⟨by simp [ix_up, va_up], h1, h2, ok⟩
  · rw [va_up_ne _ _ hqr]
    cases hs : S q with
    | none => trivial
    | some x =>
      rw [hs] at hq
      cases x with
      | inl w =>
        obtain ⟨⟨g, m, hw⟩, e2⟩ := hq
        have hr2 : q + 1 ≠ r := fun z => by rw [z, e] at e2; cases e2
        refine ⟨⟨g, ⟨m.1.up hqr, m.2.1.up hr2, m.2.2⟩, hw⟩, ?_⟩
        rw [va_up_ne _ _ hr2]
        exact e2
      | inr y =>
        cases y with
        | inl z =>
          refine ⟨?_, hq.2⟩
          have := hq.1
          simp only [ix_up, va_up, hqr, if_false]
          exact this
        | inr g =>
          obtain ⟨g0, g1, g2, g3⟩ := hq
          refine ⟨g0, g1, g2, ?_⟩
          have h31 : (31 : Nat) ≠ r := by omega
          simp only [ix_up, va_up, h31, if_false]
          exact g3
/-- a cell is made that nobody looks at -/
theorem Inv.np {n m k : Nat} {c e : ix_C} (I : Inv h S) (g : S 0 = aG n m e) : Inv (ix_pu h k c) (va_up S 0 (aG (n + 1) (m + k) e)) := by
  obtain ⟨_, g1, g2, g3⟩ := I.gh g
  have h32 := I.1.1
  refine ⟨I.1.pu, fun q => ?_⟩
  by_cases hq0 : q = 0
  · subst hq0
    rw [va_up_self]
    refine ⟨rfl, ?_, ?_, ?_⟩
    · show h.1 + 1 = n + 1; omega
    · show h.2.1 + k = m + k; omega
    · have h31 : (31 : Nat) ≠ h.1 := by omega
      simp only [ix_pu, va_up, h31, if_false]
      exact g3
  · rw [va_up_ne _ _ hq0]
    have hq := I.2 q
    cases hs : S q with
    | none => trivial
    | some x =>
      rw [hs] at hq
      cases x with
      | inl w =>
        obtain ⟨⟨f, m', hw⟩, e2⟩ := hq
        refine ⟨⟨f, ⟨m'.1.pu, m'.2.1.pu, m'.2.2⟩, hw⟩, ?_⟩
        rw [va_up_ne _ _ (by omega)]
        exact e2
      | inr y =>
        cases y with
        | inl z =>
          obtain ⟨a, b, c', d⟩ := hq
          refine ⟨?_, b, Nat.lt_succ_of_lt c', d⟩
          have : q ≠ h.1 := by omega
          simp only [ix_pu, va_up, this, if_false]
          exact a
        | inr g' => exact absurd hq.1 hq0
/-- two abstract heaps agree but at some cells -/
def ag (l : List Nat) (S T : Nat → AC) : Prop := ∀ r, r ∉ l → T r = S r
theorem ag_0 (l : List Nat) (S : Nat → AC) : ag l S S := fun _ _ => rfl
theorem ag.up {l : List Nat} {S T : Nat → AC} {r : Nat} {x : AC} (g : ag l S T) (hr : r ∈ l) : ag l S (va_up T r x) := fun q hq => by
  have hn : q ≠ r := fun z => hq (by rw [z]; exact hr)
  rw [va_up_ne _ _ hn]
  exact g q hq
theorem ag.tr {l m : List Nat} {S T U : Nat → AC} (g : ag l S T) (g2 : ag m T U) (hm : ∀ r, r ∈ m → r ∈ l) : ag l S U := fun q hq => (g2 q fun z => hq (hm q z)).trans (g q hq)
theorem ag.at {l : List Nat} {S T : Nat → AC} {x : AC} (g : ag l S T) (r : Nat) (hr : r ∉ l) (e : S r = x) : T r = x := (g r hr).trans e
end ABS
