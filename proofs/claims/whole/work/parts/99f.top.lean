/-! ===== DecimalBits: what keeps its cells; signal, deliver ===== -/
theorem Lay.eq {S T : Nat → AC} (L : Lay S) (hl : ∀ r, r < 71 → T r = S r) : Lay T := by
  obtain ⟨⟨wn, a⟩, ⟨xn, xm, xe', xw, xc, x1, x2⟩, ⟨n, m, e, w, c, y1, y2⟩, d, ⟨f1, r1⟩, ⟨f2, r2⟩, cm, ⟨v1, n48⟩, ⟨v2, n50⟩, ⟨v3, n52⟩, ⟨v4, n54⟩, ⟨v5, n56⟩⟩ := L
  exact ⟨⟨wn, (hl 34 (by decide)).trans a⟩, ⟨xn, xm, xe', xw, xc, (hl 38 (by decide)).trans x1, (hl 39 (by decide)).trans x2⟩, ⟨n, m, e, w, c, (hl 41 (by decide)).trans y1, (hl 42 (by decide)).trans y2⟩, (hl 44 (by decide)).trans d, ⟨f1, (hl 45 (by decide)).trans r1⟩, ⟨f2, (hl 46 (by decide)).trans r2⟩, (hl 47 (by decide)).trans cm, ⟨v1, (hl 48 (by decide)).trans n48⟩, ⟨v2, (hl 50 (by decide)).trans n50⟩, ⟨v3, (hl 52 (by decide)).trans n52⟩, ⟨v4, (hl 54 (by decide)).trans n54⟩, ⟨v5, (hl 56 (by decide)).trans n56⟩⟩
section CLS
variable {S T : Nat → AC} {σ : Stt} {dr : Dm}
/-- the cells below 71 are the same, the registers hold other data -/
theorem Cls.low {G : Nat → Dm} (C : Cls S σ) (hl : ∀ r, r < 71 → T r = S r) (hg : ∀ i, i < 9 → RegD T (71 + 3 * i) (G i)) : Cls T (G, σ.2) := by
  obtain ⟨c1, ⟨f, c2, c2f⟩, ⟨c3, dr, r1, r2, r3⟩, ⟨c4, n4, c4n⟩, ⟨c5, ⟨W, c5w⟩, n5, c5n⟩, ⟨⟨so, ng, ex, pl, c6⟩, ⟨n6, c6n⟩, c6t⟩, ⟨c7, o, c7o, c7l⟩, c8, c9⟩ := C
  exact ⟨(hl 32 (by decide)).trans c1, ⟨f, (hl 33 (by decide)).trans c2, c2f⟩, ⟨c3.eq hl, dr, (hl 35 (by decide)).trans r1, (hl 36 (by decide)).trans r2, r3⟩, ⟨(hl 58 (by decide)).trans c4, n4, (hl 59 (by decide)).trans c4n⟩, ⟨(hl 61 (by decide)).trans c5, ⟨W, (hl 62 (by decide)).trans c5w⟩, n5, (hl 63 (by decide)).trans c5n⟩, ⟨⟨so, ng, ex, pl, (hl 65 (by decide)).trans c6⟩, ⟨n6, (hl 66 (by decide)).trans c6n⟩, (hl 68 (by decide)).trans c6t⟩, ⟨(hl 69 (by decide)).trans c7, o, (hl 70 (by decide)).trans c7o, c7l⟩, hg, c9⟩
/-- the arithmetic has worked -/
theorem Cls.ar {l : List Nat} (C : Cls S σ) (g : ag l S T) (hl : ∀ r, r ∈ l → 34 ≤ r ∧ r ≤ 57) (L : Lay T) (R : ResD T dr) : Cls T σ := by
  obtain ⟨c1, ⟨f, c2, c2f⟩, _, ⟨c4, n4, c4n⟩, ⟨c5, ⟨W, c5w⟩, n5, c5n⟩, ⟨⟨so, ng, ex, pl, c6⟩, ⟨n6, c6n⟩, c6t⟩, ⟨c7, o, c7o, c7l⟩, c8, c9⟩ := C
  have k : ∀ r : Nat, ¬ (34 ≤ r ∧ r ≤ 57) → r ∉ l := fun r hr z => hr (hl r z)
  exact ⟨g.at 32 (k _ (by omega)) c1, ⟨f, g.at 33 (k _ (by omega)) c2, c2f⟩, ⟨L, dr, R⟩, ⟨g.at 58 (k _ (by omega)) c4, n4, g.at 59 (k _ (by omega)) c4n⟩, ⟨g.at 61 (k _ (by omega)) c5, ⟨W, g.at 62 (k _ (by omega)) c5w⟩, n5, g.at 63 (k _ (by omega)) c5n⟩, ⟨⟨so, ng, ex, pl, g.at 65 (k _ (by omega)) c6⟩, ⟨n6, g.at 66 (k _ (by omega)) c6n⟩, g.at 68 (k _ (by omega)) c6t⟩, ⟨g.at 69 (k _ (by omega)) c7, o, g.at 70 (k _ (by omega)) c7o, c7l⟩, fun i hi => (c8 i hi).ag g (fun r hr => by have := hl r hr; omega), c9⟩
/-- the object's own numbers -/
theorem Cls.own {d r t : Nat} (C : Cls S σ) (hd : d < 5) (hr : r < 32) (ht : t < 32) : Cls (va_up S 32 (aC (cO 0 [.ref 33, .ref 34, .ref 58, .ref 61, .ref 65, .ref 69, .int (nI d), .int (nI r), .int (nI t)]))) (σ.1, d, r, t, σ.2.2.2.2) := by
  obtain ⟨c1, c2, c3, c4, c5, c6, c7, c8, c9⟩ := C
  exact ⟨rfl, c2, c3, c4, c5, c6, c7, fun i hi => (c8 i hi).up (by decide), hd, hr, ht, c9.2.2.2⟩
/-- the number of cells -/
theorem Cls.gh {x : AC} (C : Cls S σ) : Cls (va_up S 0 x) σ := by
  obtain ⟨c1, c2, c3, c4, c5, c6, c7, c8, c9⟩ := C
  exact ⟨c1, c2, c3, c4, c5, c6, c7, fun i hi => (c8 i hi).up (by decide), c9⟩
/-- a register -/
theorem Cls.rg {i : Nat} {d : Dm} (C : Cls S σ) (hi : i < 9) (hv : ValD d) : Cls (va_up (va_up S (71 + 3 * i) (aC (dC (71 + 3 * i) d.1 d.2.1 d.2.2.1 d.2.2.2.1))) (71 + 3 * i + 1) (aN d.2.2.2.2)) (va_up σ.1 i d, σ.2) := by
  have c8 := C.2.2.2.2.2.2.2.1
  refine C.low (fun r hr => by rw [va_up_ne _ _ (by omega), va_up_ne _ _ (by omega)]) fun j hj => ?_
  by_cases e : j = i
  · subst e
    rw [va_up_self]
    exact ⟨by omega, by rw [va_up_ne _ _ (by omega), va_up_self], va_up_self _ _ _, hv⟩
  · rw [va_up_ne _ _ e]
    obtain ⟨h1, h2, h3, h4⟩ := c8 j hj
    exact ⟨h1, by rw [va_up_ne _ _ (by omega), va_up_ne _ _ (by omega)]; exact h2, by rw [va_up_ne _ _ (by omega), va_up_ne _ _ (by omega)]; exact h3, h4⟩
end CLS
section TOP
variable {h : ix_H} {Q : ix_O → ix_H → Prop} {S : Nat → AC} {σ : Stt} {n m s : Nat} {e : ix_C} {x y : Int} {d : Dm}
theorem or32 {a b : Nat} (ha : a < 32) (hb : b < 32) : a ||| b < 32 := Nat.or_lt_two_pow (n := 5) ha hb
theorem v_signal (I : Inv h S) (C : Cls S σ) (G : Rm S n m e) (hs : s < 32) (q1 : s &&& σ.2.2.2.1 = 0 → ∀ h' S', Inv h' S' → Cls S' (σ.1, σ.2.1, σ.2.2.1 ||| s, σ.2.2.2) → ag [32] S S' → Q (.inl none) h') (q0 : ¬ s &&& σ.2.2.2.1 = 0 → ∀ h' S', Inv h' S' → Cls S' (σ.1, σ.2.1, σ.2.2.1 ||| s, σ.2.2.2) → S' 0 = aG (n + 1) (m + 6) e → ag [0, 32] S S' → Q (.inr (12, n)) h') : ix_M 32 [.ref 32, .int (nI s)] h Q := by
  obtain ⟨g0, g1, g2⟩ := G
  have c9 := C.2.2.2.2.2.2.2.2
  have c1 := C.1
  refine jx (pc' := 2) (L' := [_, _]) (st' := [_, _]) 2 rfl ?_
  refine jgf (pc' := 5) (I.ob (r := 32) c1) rfl rfl rfl rfl rfl ?_
  refine jx (pc' := 7) (L' := [_, _]) (st' := [_, _]) 2 rfl ?_
  try simp (disch := omega) only [nI_add, nI_mul, nI_sub, Nat.zero_mul, Nat.one_mul, Nat.sub_zero, Nat.add_zero, Nat.zero_add, Nat.add_sub_cancel]
  rw [nI_or]
  refine jpA (pc' := 10) (r := 32) I c1 rfl rfl rfl (Nat.le_of_ble_eq_true rfl) (by intro z; cases z) rfl rfl rfl fun _ I c1 => ?_
  rename_i k
  have C1 := C.own c9.1 (or32 c9.2.1 hs) c9.2.2.1
  change Inv k (va_up S 32 (aC (cO 0 [.ref 33, .ref 34, .ref 58, .ref 61, .ref 65, .ref 69, .int (nI σ.2.1), .int (nI (σ.2.2.1 ||| s)), .int (nI σ.2.2.2.1)]))) at I
  refine jx (pc' := 12) (L' := [_, _]) (st' := [_, _]) 2 rfl ?_
  refine jgf (pc' := 15) (I.ob (r := 32) C1.1) rfl rfl rfl rfl rfl ?_
  refine jx (pc' := 16) (L' := [_, _]) (st' := [_]) 1 rfl ?_
  try simp (disch := omega) only [nI_add, nI_mul, nI_sub, Nat.zero_mul, Nat.one_mul, Nat.sub_zero, Nat.add_zero, Nat.zero_add, Nat.add_sub_cancel]
  rw [nI_and]
  have hb : s &&& σ.2.2.2.1 < 2 ^ 31 := Nat.lt_of_le_of_lt Nat.and_le_left (by omega)
  by_cases e0 : s &&& σ.2.2.2.1 = 0
  · skip
    refine jit (pc' := 27) rfl rfl rfl (by rw [cz_eq hb]; exact decide_eq_true e0) ?_
    refine ix_qr _ rfl rfl rfl ?_
    exact q1 e0 _ _ I C1 ((ag_0 _ S).up (by decide))
  · skip
    refine jin (pc' := 19) 27 rfl rfl rfl rfl (by rw [cz_eq hb]; exact decide_eq_false e0) ?_
    obtain ⟨_, k1, k2, k3⟩ := I.gh (r := 0) g0
    refine ix_qt (.new 213) 12 rfl rfl rfl rfl rfl (by omega) (by omega) ?_
    rw [k1]
    exact q0 e0 _ _ (I.np (n := n) (m := m) (e := e) g0) C1.gh rfl (((ag_0 _ S).up (by decide)).up (by decide))
end TOP
