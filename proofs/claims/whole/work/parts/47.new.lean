/-! ===== new cells ===== -/
section IXW
variable {mi pc pc' mj k : Nat} {i : Instr} {L L' : ix_L} {st st' rest as : List Value} {h h' : ix_H} {Q : ix_O → ix_H → Prop}
theorem ix_ob.pu {r ci n : Nat} {fs : List Value} {c : ix_C} (a : ix_ob h r ci fs) : ix_ob (ix_pu h n c) r ci fs := ⟨by
  have : r ≠ h.1 := by have := a.2.2.1; omega
  simp only [ix_pu, va_up, this, if_false]
  exact a.1, a.2.1, Nat.lt_succ_of_lt a.2.2.1, a.2.2.2⟩
theorem ix_ia.pu {r t m n : Nat} {f : Nat → Int32} {c : ix_C} (a : ix_ia h r t m f) : ix_ia (ix_pu h n c) r t m f := ⟨by
  have : r ≠ h.1 := by have := a.2.2.1; omega
  simp only [ix_pu, va_up, this, if_false]
  exact a.1, a.2.1, Nat.lt_succ_of_lt a.2.2.1, a.2.2.2⟩
theorem ix_ob.mk' {ci n : Nat} {fs : List Value} (h32 : 32 ≤ h.1) (hc : ci < 100) : ix_ob (ix_pu h n (cO ci fs)) h.1 ci fs := ⟨by simp [ix_pu, va_up], h32, Nat.lt_succ_self _, hc⟩
theorem ix_ia.mk' {t m n : Nat} {f : Nat → Int32} (h32 : 32 ≤ h.1) (hm : m ≤ 100000) (ht : t < 5) : ix_ia (ix_pu h n (cI t m f)) h.1 t m f := ⟨by simp [ix_pu, va_up], h32, Nat.lt_succ_self _, hm, ht⟩
theorem ix_tab.pu {n : Nat} {c : ix_C} (T : ix_tab h) : ix_tab (ix_pu h n c) := ⟨Nat.le_succ_of_le T.1, fun r hr => by
  have : r ≠ h.1 := by have := T.1; omega
  simp only [ix_pu, va_up, this, if_false]
  exact T.2.1 r hr, fun r hr => by
  have h1 : r + 8 ≠ h.1 := by have := T.1; omega
  have h2 : r + 16 ≠ h.1 := by have := T.1; omega
  simp only [ix_pu, va_up, h1, h2, if_false]
  exact T.2.2 r hr⟩
/-- an object is made -/
theorem jnew {ci : Nat} (hi : ix_ins mi pc = some (.new k)) (ht : ix_thr mi pc = none) (hw : ix_nw (ix_o mi) k = some ci) (hp : pc + 3 = pc') (h1 : h.1 < ix_CM) (h2 : h.2.1 + (ix_dv ci).length ≤ ix_SM) (q : ix_E mi pc' L (.ref h.1 :: st) (ix_pu h (ix_dv ci).length (cO ci (ix_dv ci))) Q) : ix_E mi pc L st h Q := by
  refine jx1 (pc' := pc') (L' := L) (st' := .ref h.1 :: st) (h' := ix_pu h (ix_dv ci).length (cO ci (ix_dv ci))) ?_ q
  rw [ix_s1_of hi rfl rfl ht]
  simp only [ix_x1, ix_no, hw, hp]
  rw [if_pos ⟨h1, h2⟩]
/-- an array of ints is made -/
theorem jni {n : Nat} (hi : ix_ins mi pc = some (.newarray .int)) (ht : ix_thr mi pc = none) (hp : pc + 2 = pc') (hn : n ≤ 100000) (h1 : h.1 < ix_CM) (h2 : h.2.1 + n ≤ ix_SM) (q : ix_E mi pc' L (.ref h.1 :: st) (ix_pu h n (cI 0 n fun _ => 0)) Q) : ix_E mi pc L (.int (nI n) :: st) h Q := by
  refine jx1 (pc' := pc') (L' := L) (st' := .ref h.1 :: st) (h' := ix_pu h n (cI 0 n fun _ => 0)) ?_ q
  rw [ix_s1_of hi rfl rfl ht]
  have e1 := nI_clamp (n := n) (by omega)
  have e2 := nI_pos (n := n) (by omega)
  simp only [ix_x1, ix_na, e1, hp]
  rw [if_pos ⟨e2, hn, h1, h2⟩]
/-- Object's constructor -/
theorem jobj {r : Nat} (hi : ix_ins mi pc = some (.invokespecial k)) (hc : ix_cal (ix_o mi) k = some (1, mj)) (hL : L.length = ix_ml mi) (hw : (Nat.ble 1 (ix_fr mi) && Nat.ble ((st.map Value.category).sum + 12) (ix_wd mi)) = true) (hp : pc + 3 = pc') (q : ix_E mi pc' L st h Q) : ix_E mi pc L (.ref r :: st) h Q := by
  rw [Bool.and_eq_true] at hw
  refine ix_qp (.invokespecial k) k 0 pc' mj (L' := L) (st' := st) (h' := h) hi rfl rfl hc ?_ q
  simp only [ix_pr, hp]
  rw [if_pos ⟨hL, Nat.le_of_ble_eq_true hw.1, Nat.le_of_ble_eq_true hw.2⟩]
end IXW
section NAT
variable {h : ix_H} {Q : ix_O → ix_H → Prop} {a : Nat}
/-- Natural's constructor -/
theorem c_natural (A : ix_ob h a 1 [.null]) (h1 : h.1 < ix_CM) (h2 : h.2.1 + 16 ≤ ix_SM) (q : Q (.inl none) (ix_up (ix_pu h 16 (cN fun _ => 0)) a (cO 1 [.ref h.1]))) : ix_M 47 [.ref a] h Q := by
  refine jx (pc' := 1) (L' := [_]) (st' := [_]) 1 rfl ?_
  refine jobj (pc' := 4) rfl rfl rfl rfl rfl ?_
  refine jx (pc' := 7) (L' := [_]) (st' := [.int (nI 16), _]) 2 rfl ?_
  refine jni (pc' := 9) (n := 16) rfl rfl rfl (by decide) h1 h2 ?_
  refine jpf (pc' := 12) A.pu rfl rfl rfl (by decide) (fun _ => ⟨rfl, rfl⟩) rfl rfl rfl ?_
  refine ix_qr _ rfl rfl rfl ?_
  exact q
end NAT
