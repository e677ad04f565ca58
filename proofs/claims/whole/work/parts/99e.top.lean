/-! ===== DecimalBits: its cells, throwing, signal, deliver ===== -/
abbrev cA (n : Nat) (f : Nat → Option Nat) : ix_C := .inl (4, n, .inr (.inr (.inr (.inr f))))
theorem zI_w (w : Int32) : zI w.toInt = w ∧ zr w.toInt := by
  have h1 := w.le_toInt
  have h2 := w.toInt_lt
  have hz : zr w.toInt := ⟨by omega, by omega⟩
  exact ⟨Int32.toInt_inj.mp (zI_t hz), hz⟩
section IXW
variable {mi pc pc' mj k : Nat} {i : Instr} {L L' : ix_L} {st st' rest as : List Value} {h h' : ix_H} {Q : ix_O → ix_H → Prop} {S : Nat → AC}
/-- an element of an array of references is read -/
theorem jaa {r n j z : Nat} {f : Nat → Option Nat} (I : Inv h S) (e : S r = aC (cA n f)) (hi : ix_ins mi pc = some .aaload) (ht : ix_thr mi pc = none) (hj : j < n) (hz : f j = some z) (hp : pc + 1 = pc') (q : ix_E mi pc' L (.ref z :: st) h Q) : ix_E mi pc L (.int (nI j) :: .ref r :: st) h Q := by
  obtain ⟨a1, a2, a3, a4⟩ := I.cl e
  have a4' : n ≤ 100000 ∧ 4 < 5 := a4
  refine jx1 (pc' := pc') (L' := L) (st' := .ref z :: st) (h' := h) ?_ q
  rw [ix_s1_of hi rfl rfl ht]
  have e1 := nI_clamp (n := j) (by omega)
  have e2 := nI_pos (n := j) (by omega)
  simp only [ix_x1, ix_aA, a1, e1, hp]
  rw [if_pos ⟨trivial, a2, a3, e2, hj⟩]
  simp only [hz]
/-- an exception goes through -/
theorem jkt {ci r : Nat} (hh : ix_hd mi pc ci = some none) (q : Q (.inr (ci, r)) h) : ix_K mi pc pc' L rest Q (.inr (ci, r)) h := by
  unfold ix_K
  simp only [hh]
  exact q
/-- an exception is caught -/
theorem jkc {ci r t : Nat} (hh : ix_hd mi pc ci = some (some t)) (q : ix_E mi t L [.ref r] h Q) : ix_K mi pc pc' L rest Q (.inr (ci, r)) h := by
  unfold ix_K
  simp only [hh]
  exact q
end IXW
/-- the state: registers, direction, raised, trapped, the text and its length, the output -/
abbrev Stt : Type := (Nat → Dm) × Nat × Nat × Nat × (Nat → Nat) × Nat × List Nat
def ValD (d : Dm) : Prop := Val d.1 d.2.1 d.2.2.2.1 d.2.2.2.2
def Cls (S : Nat → AC) (σ : Stt) : Prop :=
  (S 32 = aC (cO 0 [.ref 33, .ref 34, .ref 58, .ref 61, .ref 65, .ref 69, .int (nI σ.2.1), .int (nI σ.2.2.1), .int (nI σ.2.2.2.1)])) ∧
  (∃ f, S 33 = aC (cA 9 f) ∧ ∀ i, i < 9 → f i = some (71 + 3 * i)) ∧
  (Lay S ∧ ∃ dr, ResD S dr) ∧
  (S 58 = aC (cO 6 [.ref 59]) ∧ isN S 59) ∧
  (S 61 = aC bpC ∧ (∃ W, S 62 = aC (cI 0 4 W)) ∧ isN S 63) ∧
  ((∃ so ng ex pl, S 65 = aC (trC so ng ex σ.2.2.2.2.2.1 pl)) ∧ isN S 66 ∧ S 68 = aC (txC σ.2.2.2.2.1)) ∧
  Wr S σ.2.2.2.2.2.2 ∧
  (∀ i, i < 9 → RegD S (71 + 3 * i) (σ.1 i)) ∧
  (σ.2.1 < 5 ∧ σ.2.2.1 < 32 ∧ σ.2.2.2.1 < 32 ∧ σ.2.2.2.2.2.1 ≤ 120 ∧ (∀ j, j < σ.2.2.2.2.2.1 → σ.2.2.2.2.1 j < 128) ∧ σ.2.2.2.2.2.2.length ≤ 64)
/-- how many cells and slots there are, and the script -/
def Rm (S : Nat → AC) (n m : Nat) (c : ix_C) : Prop := S 0 = aG n m c ∧ n < ix_CM ∧ m + 6 ≤ ix_SM
section TOP
variable {h : ix_H} {Q : ix_O → ix_H → Prop} {S : Nat → AC} {σ : Stt} {n m : Nat} {e : ix_C} {x y : Int}
theorem c_isRegister (hx : zr x) (q : Q (.inl (some (.int (bI (decide (0 ≤ x ∧ x ≤ 8)))))) h) : ix_M 16 [.int (zI x)] h Q := by
  have hx1 := hx.1
  have hx2 := hx.2
  refine jx (pc' := 1) (L' := [_]) (st' := [_]) 1 rfl ?_
  by_cases h0 : x < 0
  · skip
    refine jit (pc' := 14) rfl rfl rfl (by rw [zz_lt ⟨by omega, by omega⟩]; exact decide_eq_true (by omega)) ?_
    refine jx (pc' := 15) (L' := [_]) (st' := [.int (zI 0)]) 1 rfl ?_
    refine ix_qr _ rfl rfl rfl ?_
    rw [decide_eq_false (by omega)] at q
    exact q
  · skip
    refine jin (pc' := 4) 14 rfl rfl rfl rfl (by rw [zz_lt ⟨by omega, by omega⟩]; exact decide_eq_false (by omega)) ?_
    refine jx (pc' := 7) (L' := [_]) (st' := [.int (zI 8), _]) 2 rfl ?_
    by_cases h8 : 8 < x
    · skip
      refine jct (pc' := 14) rfl rfl rfl (by rw [zc_gt ⟨by omega, by omega⟩ ⟨by omega, by omega⟩]; exact decide_eq_true (by omega)) ?_
      refine jx (pc' := 15) (L' := [_]) (st' := [.int (zI 0)]) 1 rfl ?_
      refine ix_qr _ rfl rfl rfl ?_
      rw [decide_eq_false (by omega)] at q
      exact q
    · skip
      refine jcn (pc' := 10) 14 rfl rfl rfl rfl (by rw [zc_gt ⟨by omega, by omega⟩ ⟨by omega, by omega⟩]; exact decide_eq_false (by omega)) ?_
      refine jx (pc' := 15) (L' := [_]) (st' := [.int (zI 1)]) 2 rfl ?_
      refine ix_qr _ rfl rfl rfl ?_
      rw [decide_eq_true ⟨by omega, by omega⟩] at q
      exact q
theorem c_isTarget (hx : zr x) (q : Q (.inl (some (.int (bI (decide (0 ≤ x ∧ x < 8)))))) h) : ix_M 28 [.int (zI x)] h Q := by
  have hx1 := hx.1
  have hx2 := hx.2
  refine jx (pc' := 1) (L' := [_]) (st' := [_]) 1 rfl ?_
  by_cases h0 : x < 0
  · skip
    refine jit (pc' := 14) rfl rfl rfl (by rw [zz_lt ⟨by omega, by omega⟩]; exact decide_eq_true (by omega)) ?_
    refine jx (pc' := 15) (L' := [_]) (st' := [.int (zI 0)]) 1 rfl ?_
    refine ix_qr _ rfl rfl rfl ?_
    rw [decide_eq_false (by omega)] at q
    exact q
  · skip
    refine jin (pc' := 4) 14 rfl rfl rfl rfl (by rw [zz_lt ⟨by omega, by omega⟩]; exact decide_eq_false (by omega)) ?_
    refine jx (pc' := 7) (L' := [_]) (st' := [.int (zI 8), _]) 2 rfl ?_
    by_cases h8 : 8 ≤ x
    · skip
      refine jct (pc' := 14) rfl rfl rfl (by rw [zc_ge ⟨by omega, by omega⟩ ⟨by omega, by omega⟩]; exact decide_eq_true (by omega)) ?_
      refine jx (pc' := 15) (L' := [_]) (st' := [.int (zI 0)]) 1 rfl ?_
      refine ix_qr _ rfl rfl rfl ?_
      rw [decide_eq_false (by omega)] at q
      exact q
    · skip
      refine jcn (pc' := 10) 14 rfl rfl rfl rfl (by rw [zc_ge ⟨by omega, by omega⟩ ⟨by omega, by omega⟩]; exact decide_eq_false (by omega)) ?_
      refine jx (pc' := 15) (L' := [_]) (st' := [.int (zI 1)]) 2 rfl ?_
      refine ix_qr _ rfl rfl rfl ?_
      rw [decide_eq_true ⟨by omega, by omega⟩] at q
      exact q
/-- a call is refused: what the heap is then -/
theorem v_require {b : Bool} (I : Inv h S) (G : Rm S n m e) (q1 : b = true → Q (.inl none) h) (q0 : b = false → ∀ h', Inv h' (va_up S 0 (aG (n + 1) (m + 6) e)) → Q (.inr (11, n)) h') : ix_M 29 [.int (bI b)] h Q := by
  obtain ⟨g0, g1, g2⟩ := G
  obtain ⟨_, k1, k2, k3⟩ := I.gh g0
  cases b with
  | true =>
    refine jx (pc' := 1) (L' := [_]) (st' := [_]) 1 rfl ?_
    refine jit (pc' := 12) rfl rfl rfl (rfl) ?_
    refine ix_qr _ rfl rfl rfl ?_
    exact q1 rfl
  | false =>
    refine jx (pc' := 1) (L' := [_]) (st' := [_]) 1 rfl ?_
    refine jin (pc' := 4) 12 rfl rfl rfl rfl (rfl) ?_
    refine ix_qt (.new 210) 11 rfl rfl rfl rfl rfl (by omega) (by omega) ?_
    rw [k1]
    exact q0 rfl _ (I.np g0)
theorem v_areOfOneFormat (I : Inv h S) (C : Cls S σ) (hx : zr x) (hy : zr y) (q : Q (.inl (some (.int (bI (decide ((0 ≤ x ∧ x ≤ 8) ∧ (0 ≤ y ∧ y ≤ 8) ∧ (σ.1 x.toNat).1 = (σ.1 y.toNat).1)))))) h) : ix_M 24 [.ref 32, .int (zI x), .int (zI y)] h Q := by
  obtain ⟨c1, ⟨f, c2, c2f⟩, _, _, _, _, _, c8, _⟩ := C
  have t0 : ¬ ((0 ≤ x ∧ x ≤ 8) ∧ (0 ≤ y ∧ y ≤ 8) ∧ (σ.1 x.toNat).1 = (σ.1 y.toNat).1) → ix_E 24 39 [some (.ref 32), some (.int (zI x)), some (.int (zI y))] [] h Q := by
    intro hc
    rw [decide_eq_false hc] at q
    refine jx (pc' := 40) (L' := [_, _, _]) (st' := [.int (nI 0)]) 1 rfl ?_
    refine ix_qr _ rfl rfl rfl ?_
    exact q
  refine jx (pc' := 1) (L' := [_, _, _]) (st' := [_]) 1 rfl ?_
  refine jcs (pc' := 4) 16 [_] [] rfl rfl rfl rfl rfl rfl rfl rfl ?_
  refine c_isRegister hx (jk ?_)
  by_cases e1 : 0 ≤ x ∧ x ≤ 8
  · skip
    refine jin (pc' := 7) 39 rfl rfl rfl rfl (by rw [bz_eq, decide_eq_true e1]; rfl) ?_
    refine jx (pc' := 8) (L' := [_, _, _]) (st' := [_]) 1 rfl ?_
    refine jcs (pc' := 11) 16 [_] [] rfl rfl rfl rfl rfl rfl rfl rfl ?_
    refine c_isRegister hy (jk ?_)
    by_cases e2 : 0 ≤ y ∧ y ≤ 8
    · skip
      refine jin (pc' := 14) 39 rfl rfl rfl rfl (by rw [bz_eq, decide_eq_true e2]; rfl) ?_
      have X := c8 x.toNat (by omega)
      have Y := c8 y.toNat (by omega)
      have f1 := X.2.2.2.1
      have f2 := Y.2.2.2.1
      obtain ⟨ex, _⟩ := zn hx e1.1
      obtain ⟨ey, _⟩ := zn hy e2.1
      rw [ex, ey]
      refine jx (pc' := 15) (L' := [_, _, _]) (st' := [_]) 1 rfl ?_
      refine jgf (pc' := 18) (I.ob (r := 32) c1) rfl rfl rfl rfl rfl ?_
      refine jx (pc' := 19) (L' := [_, _, _]) (st' := [_, _]) 1 rfl ?_
      refine jaa (pc' := 20) (r := 33) I c2 rfl rfl (by omega) (c2f _ (by omega)) rfl ?_
      refine jgf (pc' := 23) (I.ob (r := (71+3*x.toNat)) X.2.1) rfl rfl rfl rfl rfl ?_
      refine jx (pc' := 24) (L' := [_, _, _]) (st' := [_, _]) 1 rfl ?_
      refine jgf (pc' := 27) (I.ob (r := 32) c1) rfl rfl rfl rfl rfl ?_
      refine jx (pc' := 28) (L' := [_, _, _]) (st' := [_, _, _]) 1 rfl ?_
      refine jaa (pc' := 29) (r := 33) I c2 rfl rfl (by omega) (c2f _ (by omega)) rfl ?_
      refine jgf (pc' := 32) (I.ob (r := (71+3*y.toNat)) Y.2.1) rfl rfl rfl rfl rfl ?_
      by_cases e3 : (σ.1 x.toNat).1 = (σ.1 y.toNat).1
      · skip
        refine jcn (pc' := 35) 39 rfl rfl rfl rfl (by rw [cc_ne (by omega) (by omega)]; exact decide_eq_false (by omega)) ?_
        refine jx (pc' := 40) (L' := [_, _, _]) (st' := [.int (nI 1)]) 2 rfl ?_
        refine ix_qr _ rfl rfl rfl ?_
        rw [decide_eq_true ⟨e1, e2, e3⟩] at q
        exact q
      · skip
        refine jct (pc' := 39) rfl rfl rfl (by rw [cc_ne (by omega) (by omega)]; exact decide_eq_true (by omega)) ?_
        rw [← ex, ← ey]
        exact t0 (fun z => e3 z.2.2)
    · skip
      refine jit (pc' := 39) rfl rfl rfl (by rw [bz_eq, decide_eq_false e2]; rfl) ?_
      exact t0 (fun z => e2 z.2.1)
  · skip
    refine jit (pc' := 39) rfl rfl rfl (by rw [bz_eq, decide_eq_false e1]; rfl) ?_
    exact t0 (fun z => e1 z.1)
end TOP
