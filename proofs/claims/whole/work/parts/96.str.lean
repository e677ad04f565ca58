/-! ===== chars, strings ===== -/
section IXW
variable {mi pc pc' mj k : Nat} {i : Instr} {L L' : ix_L} {st st' rest as : List Value} {h h' : ix_H} {Q : ix_O → ix_H → Prop} {S : Nat → AC}
theorem i2c_n {c : Nat} (hc : c < 65536) : ((nI c).toUInt32 % 65536).toInt32 = nI c := by
  refine lg_i2c_word ?_ ?_ <;> rw [nI_toInt (by omega)] <;> omega
/-- a char of an array is read, written -/
theorem jcl {r n j : Nat} {f : Nat → Int32} (a : ix_ia h r 2 n f) (hi : ix_ins mi pc = some .caload) (ht : ix_thr mi pc = none) (hj : j < n) (hp : pc + 1 = pc') (q : ix_E mi pc' L (.int (f j) :: st) h Q) : ix_E mi pc L (.int (nI j) :: .ref r :: st) h Q := by
  obtain ⟨a1, a2, a3, a4, a5⟩ := a
  refine jx1 (pc' := pc') (L' := L) (st' := .int (f j) :: st) (h' := h) ?_ q
  rw [ix_s1_of hi rfl rfl ht]
  have e1 := nI_clamp (n := j) (by omega)
  have e2 := nI_pos (n := j) (by omega)
  simp only [ix_x1, ix_al, a1, e1, hp]
  rw [if_pos ⟨trivial, Or.inl a2, a3, e2, hj⟩]
theorem jcA {r n j x : Nat} {f : Nat → Nat} (I : Inv h S) (e : S r = aC (cI 2 n (fun j => nI (f j)))) (hi : ix_ins mi pc = some .castore) (ht : ix_thr mi pc = none) (hj : j < n) (hx : x < 65536) (hp : pc + 1 = pc') (q : ∀ h', Inv h' (va_up S r (aC (cI 2 n (fun j' => nI (va_up f j x j'))))) → ix_E mi pc' L st h' Q) : ix_E mi pc L (.int (nI x) :: .int (nI j) :: .ref r :: st) h Q := by
  have J := q _ (I.pc (c' := cI 2 n (fun j' => nI (va_up f j x j'))) e (I.cl e).2.2.2)
  obtain ⟨a1, a2, a3, a4, a5⟩ := I.ia e
  refine jx1 (pc' := pc') (L' := L) (st' := st) (h' := ix_up h r (cI 2 n (fun j' => nI (va_up f j x j')))) ?_ J
  rw [ix_s1_of hi rfl rfl ht]
  have e1 := nI_clamp (n := j) (by omega)
  have e2 := nI_pos (n := j) (by omega)
  simp only [ix_x1, ix_as, a1, e1, hp]
  rw [if_pos ⟨trivial, a2, a3, e2, hj⟩]
  have e3 : vp_nar .char (nI x) = nI x := by
    show ((nI x).toUInt32 % 65536).toInt32 = nI x
    exact i2c_n hx
  rw [e3, upd_nI]
/-- a char is returned -/
theorem jrc {c : Nat} (hc : c < 65536) (hi : ix_ins mi pc = some .ireturn) (hr : ix_rt mi = some .char) (q : Q (.inl (some (.int (nI c)))) h) : ix_E mi pc L [.int (nI c)] h Q := by
  refine ix_qr .ireturn hi rfl (v := some (.int (nI c))) ?_ q
  rw [hr]
  have e : narrow .char (.int (nI c)) = .int (nI c) := by
    show Value.int ((nI c).toUInt32 % 65536).toInt32 = _
    rw [i2c_n hc]
  simp only [ix_rv, e, if_true]
/-- strings -/
theorem jgs {r k idx : Nat} {v : Value} (T : ix_tab h) (hr : r < 7) (hi : ix_ins mi pc = some (.getfield idx)) (ht : ix_thr mi pc = none) (hf : ix_fl (ix_o mi) idx = some (100, k)) (hv : [Value.ref (r + 16), .int 0][k]? = some v) (hp : pc + 3 = pc') (q : ix_E mi pc' L (v :: st) h Q) : ix_E mi pc L (.ref (r + 8) :: st) h Q := by
  refine jx1 (pc' := pc') (L' := L) (st' := v :: st) (h' := h) ?_ q
  rw [ix_s1_of hi rfl rfl ht]
  have e1 : Nat.blt (r + 8) 32 = Nat.beq 100 100 := by
    have : Nat.blt (r + 8) 32 = true := Nat.ble_eq_true_of_le (by omega)
    rw [this]; rfl
  have h32 := T.1
  have k1 : r + 8 < h.1 := by omega
  simp only [ix_x1, ix_gf, hf, (T.2.2 r hr).1, e1, hv, hp]
  rw [if_pos ⟨trivial, trivial, k1⟩]
theorem jls {r : Nat} (T : ix_tab h) (hr : r < 7) (hi : ix_ins mi pc = some .arraylength) (ht : ix_thr mi pc = none) (hp : pc + 1 = pc') (q : ix_E mi pc' L (.int (nI (ix_tv (r + 16)).length) :: st) h Q) : ix_E mi pc L (.ref (r + 16) :: st) h Q := by
  refine jx1 (pc' := pc') (L' := L) (st' := .int (nI (ix_tv (r + 16)).length) :: st) (h' := h) ?_ q
  rw [ix_s1_of hi rfl rfl ht]
  have h32 := T.1
  have k1 : r + 16 < h.1 := by omega
  have k2 : r + 16 < 32 := by omega
  simp only [ix_x1, ix_len, (T.2.2 r hr).2, hp]
  rw [if_pos ⟨Or.inr k2, k1⟩]
  rfl
theorem jbb {r j : Nat} (T : ix_tab h) (hr : r < 7) (hi : ix_ins mi pc = some .baload) (ht : ix_thr mi pc = none) (hj : j < (ix_tv (r + 16)).length) (hl : (ix_tv (r + 16)).length ≤ 8) (hp : pc + 1 = pc') (q : ix_E mi pc' L (.int ((ix_tv (r + 16)).getD j 0) :: st) h Q) : ix_E mi pc L (.int (nI j) :: .ref (r + 16) :: st) h Q := by
  refine jx1 (pc' := pc') (L' := L) (st' := .int ((ix_tv (r + 16)).getD j 0) :: st) (h' := h) ?_ q
  rw [ix_s1_of hi rfl rfl ht]
  have e1 := nI_clamp (n := j) (by omega)
  have e2 := nI_pos (n := j) (by omega)
  have h32 := T.1
  have k2 : r + 16 < 32 := by omega
  have e3 : ix_al 3 pc' L (.int (nI j) :: .ref (r + 16) :: st) h = none := by
    simp only [ix_al, (T.2.2 r hr).2]
    rw [if_neg (fun z => by have := z.1; omega)]
  simp only [ix_x1, hp, e3, ix_ab, (T.2.2 r hr).2, e1]
  rw [if_pos ⟨trivial, k2, e2, hj⟩]
theorem jcvs {i : Instr} {k r : Nat} (mj : Nat) (as rest : List Value) (T : ix_tab h) (hr : r < 7) (hc100 : ix_ci mj = 100) (hi : ix_ins mi pc = some i) (hz : ix_isr i = false) (hy : ix_ix i = some k) (hc : ix_cal (ix_o mi) k = some (0, mj)) (hp : pc + 3 = pc') (hs : st = (Value.ref (r + 8) :: as).reverse ++ rest) (hn : (Value.ref (r + 8) :: as).length = ix_na' mj) (ho : ix_ok' i mi mj L.length st) (q : ix_M mj (.ref (r + 8) :: as) h (ix_K mi pc pc' L rest Q)) : ix_E mi pc L st h Q := by
  refine ix_qc i k mj (.ref (r + 8) :: as) rest hi hz hy hc hp hs hn ?_ q
  unfold ix_ok
  unfold ix_ok' at ho
  rw [ho, Bool.true_and]
  have e1 : (st.take (ix_na' mj)).reverse = .ref (r + 8) :: as := by rw [hs, ← hn, ← List.length_reverse, List.take_left', List.reverse_reverse]; rfl
  rw [e1]
  have e2 : Nat.blt (r + 8) 32 = true := Nat.ble_eq_true_of_le (by omega)
  have h32 := T.1
  have e4 : Nat.blt (r + 8) h.1 = true := Nat.ble_eq_true_of_le (by omega)
  simp only [ix_rc, (T.2.2 r hr).1, e2, e4, hc100]
  simp
end IXW
/-- the characters of the words -/
def sc (r : Nat) : List Nat := [[73, 78, 70, 73, 78, 73, 84, 89], [73, 78, 70], [83, 78, 65, 78], [78, 65, 78], [73, 110, 102, 105, 110, 105, 116, 121], [115, 78, 97, 78], [78, 97, 78]].getD r []
theorem r7 {r : Nat} (h : r < 7) : r = 0 ∨ r = 1 ∨ r = 2 ∨ r = 3 ∨ r = 4 ∨ r = 5 ∨ r = 6 := by omega
theorem sc_l {r : Nat} (h : r < 7) : (ix_tv (r + 16)).length = (sc r).length ∧ (sc r).length ≤ 8 := by
  rcases r7 h with rfl | rfl | rfl | rfl | rfl | rfl | rfl <;> exact ⟨rfl, by decide⟩
theorem sc_v {r j : Nat} (h : r < 7) : (ix_tv (r + 16)).getD j 0 = nI ((sc r).getD j 0) ∧ (sc r).getD j 0 < 128 := by
  have hj : j = 0 ∨ j = 1 ∨ j = 2 ∨ j = 3 ∨ j = 4 ∨ j = 5 ∨ j = 6 ∨ j = 7 ∨ 8 ≤ j := by omega
  have hl := sc_l h
  rcases hj with rfl | rfl | rfl | rfl | rfl | rfl | rfl | rfl | hj
  · rcases r7 h with rfl | rfl | rfl | rfl | rfl | rfl | rfl <;> exact ⟨rfl, by decide⟩
  · rcases r7 h with rfl | rfl | rfl | rfl | rfl | rfl | rfl <;> exact ⟨rfl, by decide⟩
  · rcases r7 h with rfl | rfl | rfl | rfl | rfl | rfl | rfl <;> exact ⟨rfl, by decide⟩
  · rcases r7 h with rfl | rfl | rfl | rfl | rfl | rfl | rfl <;> exact ⟨rfl, by decide⟩
  · rcases r7 h with rfl | rfl | rfl | rfl | rfl | rfl | rfl <;> exact ⟨rfl, by decide⟩
  · rcases r7 h with rfl | rfl | rfl | rfl | rfl | rfl | rfl <;> exact ⟨rfl, by decide⟩
  · rcases r7 h with rfl | rfl | rfl | rfl | rfl | rfl | rfl <;> exact ⟨rfl, by decide⟩
  · rcases r7 h with rfl | rfl | rfl | rfl | rfl | rfl | rfl <;> exact ⟨rfl, by decide⟩
  · rw [List.getD_eq_getElem?_getD, List.getD_eq_getElem?_getD, List.getElem?_eq_none (by omega), List.getElem?_eq_none (by omega)]
    exact ⟨rfl, by decide⟩
section STR
variable {h : ix_H} {Q : ix_O → ix_H → Prop} {r j : Nat}
theorem c_coder (T : ix_tab h) (hr : r < 7) (q : Q (.inl (some (.int 0))) h) : ix_M 279 [.ref (r + 8)] h Q := by
  refine jx (pc' := 3) (L' := [_]) (st' := [_]) 1 rfl ?_
  refine jin (pc' := 6) 13 rfl rfl rfl rfl (by rfl) ?_
  refine jx (pc' := 7) (L' := [_]) (st' := [_]) 1 rfl ?_
  refine jgs (pc' := 10) T hr rfl rfl rfl rfl rfl ?_
  refine jx (pc' := 14) (L' := [_]) (st' := [_]) 1 rfl ?_
  refine ix_qr _ rfl rfl rfl ?_
  exact q
theorem c_isLatin1 (T : ix_tab h) (hr : r < 7) (q : Q (.inl (some (.int 1))) h) : ix_M 281 [.ref (r + 8)] h Q := by
  refine jx (pc' := 3) (L' := [_]) (st' := [_]) 1 rfl ?_
  refine jin (pc' := 6) 17 rfl rfl rfl rfl (by rfl) ?_
  refine jx (pc' := 7) (L' := [_]) (st' := [_]) 1 rfl ?_
  refine jgs (pc' := 10) T hr rfl rfl rfl rfl rfl ?_
  refine jin (pc' := 13) 17 rfl rfl rfl rfl (by rfl) ?_
  refine jx (pc' := 18) (L' := [_]) (st' := [.int (nI 1)]) 2 rfl ?_
  refine ix_qr _ rfl rfl rfl ?_
  exact q
theorem c_strlen (T : ix_tab h) (hr : r < 7) (q : Q (.inl (some (.int (nI (sc r).length)))) h) : ix_M 278 [.ref (r + 8)] h Q := by
  refine jx (pc' := 1) (L' := [_]) (st' := [_]) 1 rfl ?_
  refine jgs (pc' := 4) T hr rfl rfl rfl rfl rfl ?_
  refine jls (pc' := 5) T hr rfl rfl rfl ?_
  refine jx (pc' := 6) (L' := [_]) (st' := [_, _]) 1 rfl ?_
  refine jcvs (pc' := 9) 279 [] [_] T hr rfl rfl rfl rfl rfl rfl rfl rfl rfl ?_
  refine c_coder T hr (jk ?_)
  refine jx (pc' := 10) (L' := [_]) (st' := [_]) 1 rfl ?_
  try simp (disch := omega) only [nI_add, nI_mul, nI_sub, Nat.zero_mul, Nat.one_mul, Nat.sub_zero, Nat.add_zero, Nat.zero_add, Nat.add_sub_cancel]
  have e : nI (ix_tv (r + 16)).length >>> ((0 : Int32) &&& 31) = nI (sc r).length := by
    rw [(sc_l hr).1]
    rcases r7 hr with rfl | rfl | rfl | rfl | rfl | rfl | rfl <;> decide
  rw [e]
  refine jri rfl rfl ?_
  exact q
theorem c_checkIndex {n : Nat} (hj : j < n) (hn : n < 2 ^ 31) (q : Q (.inl (some (.int (nI j)))) h) : ix_M 285 [.int (nI j), .int (nI n), .retAddr 0] h Q := by
  refine jx (pc' := 1) (L' := [_, _, _]) (st' := [_]) 1 rfl ?_
  refine jin (pc' := 4) 9 rfl rfl rfl rfl (by rw [cz_lt (by omega)]; exact decide_eq_false (by omega)) ?_
  refine jx (pc' := 6) (L' := [_, _, _]) (st' := [_, _]) 2 rfl ?_
  refine jct (pc' := 16) rfl rfl rfl (by rw [cc_lt (by omega) (by omega)]; exact decide_eq_true (by omega)) ?_
  refine jx (pc' := 17) (L' := [_, _, _]) (st' := [_]) 1 rfl ?_
  refine jri rfl rfl ?_
  exact q
theorem c_sCheckIndex {n : Nat} (hj : j < n) (hn : n < 2 ^ 31) (q : Q (.inl none) h) : ix_M 282 [.int (nI j), .int (nI n)] h Q := by
  refine jx (pc' := 5) (L' := [_, _]) (st' := [_, _, _]) 3 rfl ?_
  refine jcs (pc' := 8) 285 [_, _, _] [] rfl rfl rfl rfl rfl rfl rfl rfl ?_
  refine c_checkIndex hj hn (jk ?_)
  refine jx (pc' := 9) (L' := [_, _]) (st' := []) 1 rfl ?_
  refine ix_qr _ rfl rfl rfl ?_
  exact q
theorem c_latCharAt (T : ix_tab h) (hr : r < 7) (hj : j < (sc r).length) (q : Q (.inl (some (.int (nI ((sc r).getD j 0))))) h) : ix_M 283 [.ref (r + 16), .int (nI j)] h Q := by
  have hl := sc_l hr
  have hv := sc_v (j := j) hr
  refine jx (pc' := 2) (L' := [_, _]) (st' := [_, _]) 2 rfl ?_
  refine jls (pc' := 3) T hr rfl rfl rfl ?_
  rw [hl.1]
  refine jcs (pc' := 6) 282 [_, _] [] rfl rfl rfl rfl rfl rfl rfl rfl ?_
  refine c_sCheckIndex hj (by omega) (jk ?_)
  refine jx (pc' := 8) (L' := [_, _]) (st' := [_, _]) 2 rfl ?_
  refine jbb (pc' := 9) T hr rfl rfl (by omega) (by omega) rfl ?_
  rw [hv.1]
  refine jx (pc' := 14) (L' := [_, _]) (st' := [_]) 3 rfl ?_
  try simp (disch := omega) only [ks255, nI_add, nI_mul, nI_sub, Nat.zero_mul, Nat.one_mul, Nat.sub_zero, Nat.add_zero, Nat.zero_add, Nat.add_sub_cancel]
  generalize (sc r).getD j 0 = c at *
  rw [nI_and, show c &&& 255 = c from by rw [show 255 = 2 ^ 8 - 1 from rfl, and_low]; exact Nat.mod_eq_of_lt (by omega), i2c_n (by omega)]
  exact jrc (by omega) rfl rfl q
theorem c_charAt (T : ix_tab h) (hr : r < 7) (hj : j < (sc r).length) (q : Q (.inl (some (.int (nI ((sc r).getD j 0))))) h) : ix_M 280 [.ref (r + 8), .int (nI j)] h Q := by
  have hv := sc_v (j := j) hr
  refine jx (pc' := 1) (L' := [_, _]) (st' := [_]) 1 rfl ?_
  refine jcvs (pc' := 4) 281 [] [] T hr rfl rfl rfl rfl rfl rfl rfl rfl rfl ?_
  refine c_isLatin1 T hr (jk ?_)
  refine jin (pc' := 7) 16 rfl rfl rfl rfl (by rfl) ?_
  refine jx (pc' := 8) (L' := [_, _]) (st' := [_]) 1 rfl ?_
  refine jgs (pc' := 11) T hr rfl rfl rfl rfl rfl ?_
  refine jx (pc' := 12) (L' := [_, _]) (st' := [_, _]) 1 rfl ?_
  refine jcs (pc' := 15) 283 [_, _] [] rfl rfl rfl rfl rfl rfl rfl rfl ?_
  refine c_latCharAt T hr hj (jk ?_)
  exact jrc (by omega) rfl rfl q
end STR
