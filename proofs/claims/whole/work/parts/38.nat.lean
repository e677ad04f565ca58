/-! ===== tables, division of ints, digitAt ===== -/
/-- the tables are there -/
def ix_tab (h : ix_H) : Prop := 32 ≤ h.1 ∧ (∀ r, r < 7 → h.2.2 r = .inl (0, (ix_tv r).length, .inl fun j => (ix_tv r).getD j 0)) ∧ ∀ r, r < 7 → h.2.2 (r + 8) = .inr (100, [.ref (r + 16), .int 0]) ∧ h.2.2 (r + 16) = .inl (5, (ix_tv (r + 16)).length, .inl fun j => (ix_tv (r + 16)).getD j 0)
theorem ix_tab.up {h : ix_H} {q : Nat} {c : ix_C} (T : ix_tab h) (hq : 32 ≤ q) : ix_tab (ix_up h q c) := ⟨T.1, fun r hr => by
  have : r ≠ q := by omega
  simp only [ix_up, va_up, this, if_false]
  exact T.2.1 r hr, fun r hr => by
  have h1 : r + 8 ≠ q := by omega
  have h2 : r + 16 ≠ q := by omega
  simp only [ix_up, va_up, h1, h2, if_false]
  exact T.2.2 r hr⟩
section IXW
variable {mi pc pc' mj k : Nat} {i : Instr} {L L' : ix_L} {st st' rest as : List Value} {h h' : ix_H} {Q : ix_O → ix_H → Prop}
theorem ix_tv_len {r : Nat} (hr : r < 7) : (ix_tv r).length ≤ 9 := by
  have : r = 0 ∨ r = 1 ∨ r = 2 ∨ r = 3 ∨ r = 4 ∨ r = 5 ∨ r = 6 := by omega
  rcases this with rfl | rfl | rfl | rfl | rfl | rfl | rfl <;> decide
theorem jat {r j : Nat} (T : ix_tab h) (hi : ix_ins mi pc = some .iaload) (ht : ix_thr mi pc = none) (hj : r < 7 ∧ j < (ix_tv r).length) (hp : pc + 1 = pc') (q : ix_E mi pc' L (.int ((ix_tv r).getD j 0) :: st) h Q) : ix_E mi pc L (.int (nI j) :: .ref r :: st) h Q := by
  refine jx1 (pc' := pc') (L' := L) (st' := .int ((ix_tv r).getD j 0) :: st) (h' := h) ?_ q
  rw [ix_s1_of hi rfl rfl ht]
  have hl := ix_tv_len hj.1
  have e1 := nI_clamp (n := j) (by omega)
  have e2 := nI_pos (n := j) (by omega)
  have := T.1
  simp only [ix_x1, ix_al, T.2.1 r hj.1, e1, hp]
  rw [if_pos ⟨trivial, Or.inr trivial, Nat.lt_of_lt_of_le (Nat.lt_trans hj.1 (by decide)) T.1, e2, hj.2⟩]
end IXW
theorem nI_div {a b : Nat} (ha : a < 2 ^ 31) (hb : b < 2 ^ 31) : nI a / nI b = nI (a / b) := by
  have h1 : a / b < 2 ^ 31 := Nat.lt_of_le_of_lt (Nat.div_le_self _ _) ha
  refine Int32.toInt_inj.mp ?_
  rw [Int32.toInt_div, nI_toInt ha, nI_toInt hb, nI_toInt h1, ← Int.ofNat_tdiv]
  generalize a / b = c at h1
  simp only [Int.bmod]
  split <;> omega
theorem nI_rem {a b : Nat} (ha : a < 2 ^ 31) (hb : b < 2 ^ 31) : nI a - nI a / nI b * nI b = nI (a % b) := by
  rw [nI_div ha hb, nI_mul, nI_sub (Nat.div_mul_le_self _ _)]
  congr 1
  have := Nat.div_add_mod a b
  rw [Nat.mul_comm] at this
  omega
theorem tv4 {j : Nat} (hj : j < 9) : (ix_tv 4).getD j 0 = nI (10 ^ j) := by
  have : j = 0 ∨ j = 1 ∨ j = 2 ∨ j = 3 ∨ j = 4 ∨ j = 5 ∨ j = 6 ∨ j = 7 ∨ j = 8 := by omega
  rcases this with rfl | rfl | rfl | rfl | rfl | rfl | rfl | rfl | rfl <;> decide
theorem p10_lt {j : Nat} (hj : j < 9) : 10 ^ j ≤ 100000000 ∧ 0 < 10 ^ j := by
  refine ⟨?_, Nat.pow_pos (by decide)⟩
  have : 10 ^ j ≤ 10 ^ 8 := Nat.pow_le_pow_right (by decide) (by omega)
  exact this
/-- a digit of a number out of a limb of it -/
theorem dg_limb {V p : Nat} : V / 10 ^ p % 10 = V / 1000000000 ^ (p / 9) % 1000000000 / 10 ^ (p % 9) % 10 := by
  have h1 : 10 ^ p = 1000000000 ^ (p / 9) * 10 ^ (p % 9) := by
    have : (1000000000 : Nat) = 10 ^ 9 := by decide
    rw [this, ← Nat.pow_mul, ← Nat.pow_add]
    congr 1
    omega
  have hr : p % 9 < 9 := Nat.mod_lt _ (by decide)
  rw [h1, ← Nat.div_div_eq_div_mul]
  generalize V / 1000000000 ^ (p / 9) = x
  generalize p % 9 = r at hr
  have h2 : (1000000000 : Nat) = 10 ^ r * 10 ^ (9 - r) := by
    rw [← Nat.pow_add, show r + (9 - r) = 9 by omega]
  rw [h2, Nat.mod_mul_right_div_self]
  refine (Nat.mod_mod_of_dvd _ ?_).symm
  exact ⟨10 ^ (8 - r), by rw [← Nat.pow_succ']; congr 1; omega⟩
section NAT
variable {h : ix_H} {Q : ix_O → ix_H → Prop} {a b d e : Nat} {f g : Nat → Nat}
/-- Natural.digitAt -/
theorem c_digitAt {p : Nat} (A : nt h a d f) (T : ix_tab h) (hp : p < 2 ^ 31) (q : Q (.inl (some (.int (nI (vl f 16 / 10 ^ p % 10))))) h) : ix_M 62 [.ref a, .int (nI p)] h Q := by
  refine jx (pc' := 3) (L' := [_, _, _]) (st' := [.int (nI 9), _]) 2 rfl ?_
  refine jidiv (pc' := 4) rfl rfl (by decide) rfl ?_
  rw [nI_div hp (by decide)]
  refine jx (pc' := 6) (L' := [_, _, _]) (st' := [_]) 2 rfl ?_
  refine jin (pc' := 9) 15 rfl rfl rfl rfl (by rw [cz_lt (by omega)]; exact decide_eq_false (by omega)) ?_
  by_cases hc : p / 9 < 16
  · skip
    refine jx (pc' := 12) (L' := [_, _, _]) (st' := [.int (nI 16), _]) 2 rfl ?_
    refine jct (pc' := 19) rfl rfl rfl (by rw [cc_lt (by omega) (by omega)]; exact decide_eq_true (by omega)) ?_
    have hf := A.2.2 (p / 9) hc
    have hr : p % 9 < 9 := Nat.mod_lt _ (by decide)
    have ht := p10_lt hr
    refine jx (pc' := 20) (L' := [_, _, _]) (st' := [_]) 1 rfl ?_
    refine jgf (pc' := 23) A.1 rfl rfl rfl rfl rfl ?_
    refine jx (pc' := 24) (L' := [_, _, _]) (st' := [_, _]) 1 rfl ?_
    refine jal (pc' := 25) A.2.1 rfl rfl (by omega) rfl ?_
    refine jx (pc' := 31) (L' := [_, _, _]) (st' := [.int (nI 9), _, _, _]) 3 rfl ?_
    refine jirem (pc' := 32) rfl rfl (by decide) rfl ?_
    rw [nI_rem hp (by decide)]
    refine jat (pc' := 33) T rfl rfl ⟨by decide, hr⟩ rfl ?_
    rw [tv4 hr]
    refine jidiv (pc' := 34) rfl rfl (nI_ne0 (by omega) (by omega)) rfl ?_
    rw [nI_div (by omega) (by omega)]
    have hx : f (p / 9) / 10 ^ (p % 9) < 2 ^ 31 := Nat.lt_of_le_of_lt (Nat.div_le_self _ _) (by omega)
    refine jx (pc' := 36) (L' := [_, _, _]) (st' := [.int (nI 10), _]) 1 rfl ?_
    refine jirem (pc' := 37) rfl rfl (by decide) rfl ?_
    rw [nI_rem hx (by decide)]
    refine jri rfl rfl ?_
    rw [dg_limb, vl_at hc A.2.2] at q
    exact q
  · skip
    refine jx (pc' := 12) (L' := [_, _, _]) (st' := [.int (nI 16), _]) 2 rfl ?_
    refine jcn (pc' := 15) 19 rfl rfl rfl rfl (by rw [cc_lt (by omega) (by omega)]; exact decide_eq_false (by omega)) ?_
    refine jx (pc' := 37) (L' := [_, _, _]) (st' := [.int (nI 0)]) 2 rfl ?_
    refine jri rfl rfl ?_
    have h1 : vl f 16 < 1000000000 ^ 16 := vl_lt A.2.2
    have h2 : vl f 16 / 1000000000 ^ (p / 9) = 0 := Nat.div_eq_of_lt (Nat.lt_of_lt_of_le h1 (Nat.pow_le_pow_right (by decide) (by omega)))
    rw [dg_limb, h2] at q
    simp only [Nat.zero_mod, Nat.zero_div] at q
    exact q
end NAT
