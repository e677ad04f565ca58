/-! ===== a machine of my own: cells, heaps, locals; how they stand for the machine's ===== -/
/-- a cell: an array (its type's number, its length, what it holds), or an object (its class's number, its fields) -/
abbrev ix_C : Type := (Nat × vp_A) ⊕ (Nat × List Value)
/-- a heap: how many cells (those below 32 are only read), how many slots were made, the cells -/
abbrev ix_H : Type := Nat × Nat × (Nat → ix_C)
abbrev ix_L : Type := List (Option Value)
abbrev ix_S : Type := Nat × ix_L × List Value × ix_H
/-- returned, or threw an object of a class -/
abbrev ix_O : Type := Option Value ⊕ (Nat × Nat)
def ix_up (h : ix_H) (k : Nat) (c : ix_C) : ix_H := (h.1, h.2.1, va_up h.2.2 k c)
def ix_pu (h : ix_H) (n : Nat) (c : ix_C) : ix_H := (h.1 + 1, h.2.1 + n, va_up h.2.2 h.1 c)
def ix_clr (L : ix_L) (i : Nat) : ix_L := match i with
  | 0 => L
  | j + 1 => match L.getD j none with
    | some v => if v.category = 2 then L.set j none else L
    | none => L
def ix_st1 (L : ix_L) (i : Nat) (v : Value) : ix_L := (ix_clr L i).set i (some v)
def ix_st2 (L : ix_L) (i : Nat) (v : Value) : ix_L := ((ix_clr L i).set i (some v)).set (i + 1) none
theorem ix_clr_len (L : ix_L) (i : Nat) : (ix_clr L i).length = L.length := by
  unfold ix_clr
  split
  · rfl
  · split
    · split
      · simp
      · rfl
    · rfl
theorem ix_clr_at {L : ix_L} {i j : Nat} {w : Value} (h : (ix_clr L i)[j]? = some (some w)) : L[j]? = some (some w) ∧ ¬ (j + 1 = i ∧ w.category = 2) := by
  unfold ix_clr at h
  split at h
  · exact ⟨h, fun q => by omega⟩
  · next k =>
    split at h
    · next v hv =>
      split at h
      · next hc =>
        by_cases hj : k = j
        · subst hj
          rw [List.getElem?_set_self' ] at h
          cases hq : L[k]? with
          | none => rw [hq] at h; simp at h
          | some z => rw [hq] at h; simp at h
        · rw [List.getElem?_set_ne hj] at h
          exact ⟨h, fun q => hj (by omega)⟩
      · next hc =>
        refine ⟨h, fun q => hc ?_⟩
        have hk : k = j := by omega
        subst hk
        rw [List.getD_eq_getElem?_getD, h] at hv
        simp at hv
        rw [← hv]
        exact q.2
    · next hv =>
      refine ⟨h, fun q => ?_⟩
      have hk : k = j := by omega
      subst hk
      rw [List.getD_eq_getElem?_getD, h] at hv
      simp at hv
theorem ix_st1_at {L : ix_L} {i j : Nat} {v w : Value} (h : (ix_st1 L i v)[j]? = some (some w)) : (j = i ∧ w = v) ∨ (j ≠ i ∧ L[j]? = some (some w) ∧ ¬ (j + 1 = i ∧ w.category = 2)) := by
  unfold ix_st1 at h
  by_cases hj : i = j
  · subst hj
    rw [List.getElem?_set_self'] at h
    left
    refine ⟨rfl, ?_⟩
    cases hq : (ix_clr L i)[i]? with
    | none => rw [hq] at h; simp at h
    | some z => rw [hq] at h; simp at h; exact h.symm
  · rw [List.getElem?_set_ne hj] at h
    exact Or.inr ⟨fun q => hj q.symm, ix_clr_at h⟩
theorem ix_st2_at {L : ix_L} {i j : Nat} {v w : Value} (h : (ix_st2 L i v)[j]? = some (some w)) : (j = i ∧ w = v) ∨ (j ≠ i ∧ j ≠ i + 1 ∧ L[j]? = some (some w) ∧ ¬ (j + 1 = i ∧ w.category = 2)) := by
  unfold ix_st2 at h
  by_cases hj : i + 1 = j
  · subst hj
    rw [List.getElem?_set_self'] at h
    cases hq : ((ix_clr L i).set i (some v))[i + 1]? with
    | none => rw [hq] at h; simp at h
    | some z => rw [hq] at h; simp at h
  · rw [List.getElem?_set_ne hj] at h
    rcases ix_st1_at (v := v) h with q | ⟨q1, q2, q3⟩
    · exact Or.inl q
    · exact Or.inr ⟨q1, fun z => hj z.symm, q2, q3⟩
theorem ix_st1_len (L : ix_L) (i : Nat) (v : Value) : (ix_st1 L i v).length = L.length := by
  unfold ix_st1; rw [List.length_set, ix_clr_len]
theorem ix_st2_len (L : ix_L) (i : Nat) (v : Value) : (ix_st2 L i v).length = L.length := by
  unfold ix_st2; rw [List.length_set, List.length_set, ix_clr_len]
/-- the numbers that a run has: class numbers and slots, array types, where the new cells begin, where the read cells lie, a reference that nobody looks into -/
abbrev ix_G : Type := va_G × List (ClassId × FieldType) × Nat × (Nat → Nat) × Value
def ix_a (G : ix_G) (r : Nat) : Nat := if r < 32 then G.2.2.2.1 r else G.2.2.1 + (r - 32)
def ix_v (G : ix_G) (v : Value) : Value := match v with
  | .ref r => .ref (ix_a G r)
  | .retAddr _ => if G.2.2.2.2.category = 1 then G.2.2.2.2 else .null
  | w => w
def ix_k (G : ix_G) (t : Nat) : ClassId := (G.2.1.getD t (0, .int)).1
def ix_x5 (G : ix_G) (x : (Nat → Int32) ⊕ (Nat → Int64) ⊕ (Nat → UInt32) ⊕ (Nat → UInt64) ⊕ (Nat → Option Nat)) : (Nat → Int32) ⊕ (Nat → Int64) ⊕ (Nat → UInt32) ⊕ (Nat → UInt64) ⊕ (Nat → Option Nat) := match x with
  | .inr (.inr (.inr (.inr f))) => .inr (.inr (.inr (.inr fun j => (f j).map (ix_a G))))
  | y => y
def ix_c (G : ix_G) (c : ix_C) : va_E := match c with
  | .inl x => .inl (ix_k G x.1, x.2.1, ix_x5 G x.2.2)
  | .inr x => .inr (x.1, x.2.map (ix_v G))
def ix_w (G : ix_G) (h : ix_H) : va_W := (List.range (h.1 - 32)).map fun i => (G.2.2.1 + i, ix_c G (h.2.2 (32 + i)))
theorem ix_cat (G : ix_G) (v : Value) : (ix_v G v).category = v.category := by
  cases v with
  | retAddr k =>
    simp only [ix_v]
    split
    · next h => rw [h]; rfl
    · rfl
  | _ => rfl
theorem ix_w_at {G : ix_G} {h : ix_H} {r : Nat} (h1 : 32 ≤ r) (h2 : r < h.1) : (ix_w G h)[r - 32]? = some (ix_a G r, ix_c G (h.2.2 r)) := by
  unfold ix_w
  rw [List.getElem?_map, List.getElem?_range (by omega)]
  have e : 32 + (r - 32) = r := by omega
  simp only [Option.map_some, e, ix_a, if_neg (Nat.not_lt.mpr h1)]
theorem ix_w_len (G : ix_G) (h : ix_H) : (ix_w G h).length = h.1 - 32 := by simp [ix_w]
theorem ix_w_up {G : ix_G} {h : ix_H} {r : Nat} (c : ix_C) (h1 : 32 ≤ r) (h2 : r < h.1) : (ix_w G h).set (r - 32) (ix_a G r, ix_c G c) = ix_w G (ix_up h r c) := by
  apply List.ext_getElem?
  intro j
  by_cases hj : j = r - 32
  · subst hj
    rw [List.getElem?_set_self (by rw [ix_w_len]; omega), ix_w_at (h := ix_up h r c) h1 h2]
    simp [ix_up, va_up]
  · rw [List.getElem?_set_ne (fun q => hj q.symm)]
    unfold ix_w
    rw [List.getElem?_map, List.getElem?_map]
    have hne : ¬ 32 + j = r := by omega
    show Option.map _ (List.range (h.1 - 32))[j]? = Option.map _ (List.range (h.1 - 32))[j]?
    cases hq : (List.range (h.1 - 32))[j]? with
    | none => rfl
    | some z =>
      have hz : z = j := by
        have := List.getElem?_eq_some_iff.mp hq
        obtain ⟨hl, he⟩ := this
        simpa using he.symm
      subst hz
      simp [ix_up, va_up, hne]
theorem ix_w_pu {G : ix_G} {h : ix_H} (n : Nat) (c : ix_C) (h1 : 32 ≤ h.1) : ix_w G h ++ [(G.2.2.1 + (h.1 - 32), ix_c G c)] = ix_w G (ix_pu h n c) := by
  unfold ix_w
  have e : (ix_pu h n c).1 - 32 = (h.1 - 32) + 1 := by simp [ix_pu]; omega
  rw [e, List.range_succ, List.map_append]
  have e2 : 32 + (h.1 - 32) = h.1 := by omega
  congr 1
  · apply List.map_congr_left
    intro i hi
    have hl := List.mem_range.mp hi
    have hne : ¬ 32 + i = h.1 := by omega
    simp [ix_pu, va_up, hne]
  · simp [ix_pu, va_up, e2]
theorem ix_a_new {G : ix_G} {r : Nat} (h : 32 ≤ r) : ix_a G r = G.2.2.1 + (r - 32) := by simp [ix_a, Nat.not_lt.mpr h]
/-- the locals -/
def ix_hl (G : ix_G) (ls : Array Slot) (L : ix_L) : Prop := ls.size = L.length ∧ lv_wf ls ∧ ∀ (i : Nat) (v : Value), L[i]? = some (some v) → ls[i]? = some (.val (ix_v G v))
def ix_ll (G : ix_G) (L : ix_L) : List (Nat × Value) := (List.range L.length).filterMap fun i => (L.getD i none).map fun v => (i, ix_v G v)
theorem ix_ll_mem {G : ix_G} {L : ix_L} {q : Nat × Value} (h : q ∈ ix_ll G L) : ∃ v, L[q.1]? = some (some v) ∧ q.2 = ix_v G v := by
  obtain ⟨i, hi, hq⟩ := List.mem_filterMap.mp h
  cases hv : L.getD i none with
  | none => rw [hv] at hq; simp at hq
  | some v =>
    rw [hv] at hq
    simp at hq
    subst hq
    refine ⟨v, ?_, rfl⟩
    have hl := List.mem_range.mp hi
    rw [List.getD_eq_getElem?_getD, List.getElem?_eq_getElem hl] at hv
    simp at hv
    rw [List.getElem?_eq_getElem hl, hv]
theorem ix_ll_in {G : ix_G} {L : ix_L} {i : Nat} {v : Value} (h : L[i]? = some (some v)) : (i, ix_v G v) ∈ ix_ll G L := by
  have hl : i < L.length := (List.getElem?_eq_some_iff.mp h).1
  refine List.mem_filterMap.mpr ⟨i, List.mem_range.mpr hl, ?_⟩
  rw [List.getD_eq_getElem?_getD, h]
  rfl
theorem ix_hl.has {G : ix_G} {ls : Array Slot} {L : ix_L} (h : ix_hl G ls L) : lv_has ls L.length (ix_ll G L) := by
  refine ⟨h.1, h.2.1, fun q hq => ?_⟩
  obtain ⟨v, h1, h2⟩ := ix_ll_mem hq
  rw [h2]
  exact h.2.2 q.1 v h1
theorem ix_hl.of1 {G : ix_G} {ls : Array Slot} {L : ix_L} {i : Nat} {v : Value} (h : lv_has ls L.length ((i, ix_v G v) :: (ix_ll G L).filter (fun q => !(q.1 == i) && !(q.1 + 1 == i && q.2.category == 2)))) : ix_hl G ls (ix_st1 L i v) := by
  refine ⟨by rw [ix_st1_len]; exact h.1, h.2.1, fun j w hj => ?_⟩
  rcases ix_st1_at hj with ⟨rfl, rfl⟩ | ⟨q1, q2, q3⟩
  · exact h.2.2 _ List.mem_cons_self
  · refine h.2.2 (j, ix_v G w) (List.mem_cons_of_mem _ (List.mem_filter.mpr ⟨ix_ll_in q2, ?_⟩))
    simp only [ix_cat]
    simp only [Bool.and_eq_true, Bool.not_eq_true', beq_eq_false_iff_ne, ne_eq, Bool.and_eq_false_iff]
    refine ⟨q1, ?_⟩
    by_cases hc : j + 1 = i
    · exact Or.inr fun z => q3 ⟨hc, z⟩
    · exact Or.inl hc
theorem ix_hl.of2 {G : ix_G} {ls : Array Slot} {L : ix_L} {i : Nat} {v : Value} (h : lv_has ls L.length ((i, ix_v G v) :: (ix_ll G L).filter (fun q => !(q.1 == i) && (!(q.1 == i + 1) && !(q.1 + 1 == i && q.2.category == 2))))) : ix_hl G ls (ix_st2 L i v) := by
  refine ⟨by rw [ix_st2_len]; exact h.1, h.2.1, fun j w hj => ?_⟩
  rcases ix_st2_at hj with ⟨rfl, rfl⟩ | ⟨q1, q1', q2, q3⟩
  · exact h.2.2 _ List.mem_cons_self
  · refine h.2.2 (j, ix_v G w) (List.mem_cons_of_mem _ (List.mem_filter.mpr ⟨ix_ll_in q2, ?_⟩))
    simp only [ix_cat]
    simp only [Bool.and_eq_true, Bool.not_eq_true', beq_eq_false_iff_ne, ne_eq, Bool.and_eq_false_iff]
    refine ⟨q1, q1', ?_⟩
    by_cases hc : j + 1 = i
    · exact Or.inr fun z => q3 ⟨hc, z⟩
    · exact Or.inl hc
/-- the locals at a method's entry -/
def ix_en (vs : List Value) (n : Nat) : ix_L := let l := vs.flatMap (fun v => if v.category = 2 then [some v, none] else [some v]); l ++ List.replicate (n - l.length) none
/-- what the heap is, since the method's entry -/
def ix_D (cl : List vw_C) (G : ix_G) (H0 : Heap) (h : ix_H) (H : Heap) (locs : List Loc) : Prop :=
  va_P G.1 cl (ix_w G h) H ∧ va_D (fun q => G.2.2.1 ≤ q) (ix_w G h) ∧ va_S (fun q => G.2.2.1 ≤ q) H0 H locs ∧ 32 ≤ h.1
