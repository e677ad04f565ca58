/-! ===== the law: its loop, its start ===== -/
section LAW
variable {h : ix_H} {Q : ix_O → ix_H → Prop} {S S0 : Nat → AC} {σ : Stt} {n m L p mi : Nat} {xs : Nat → Int32} {y5 y6 y7 : Option Value} {cd : Nat} {f : Nat → Int64}
theorem jsc {D D' : Nat} {Lc : ix_L} {st : List Value} (I : Inv h S) (g : S 0 = aG n m (cI 0 L xs)) (hi : ix_ins mi D = some .iaload) (ht : ix_thr mi D = none) (hk : p < L) (hL : L ≤ 3584) (hp : D + 1 = D') (q : ix_E mi D' Lc (.int (xs p) :: st) h Q) : ix_E mi D Lc (.int (nI p) :: .ref 31 :: st) h Q := by
  have h32 := I.1.1
  have e0 := (I.gh g).2.2.2
  have e1 := nI_clamp (n := p) (by omega)
  have e2 := nI_pos (n := p) (by omega)
  refine jx1 (pc' := D') (L' := Lc) (st' := .int (xs p) :: st) (h' := h) ?_ q
  rw [ix_s1_of hi rfl rfl ht]
  simp only [ix_x1, ix_al, e0, e1, hp]
  have h3 : 31 < h.1 := by omega
  rw [if_pos ⟨trivial, Or.inr trivial, h3, e2, hk⟩]
theorem jsl {D D' : Nat} {Lc : ix_L} {st : List Value} (I : Inv h S) (g : S 0 = aG n m (cI 0 L xs)) (hi : ix_ins mi D = some .arraylength) (ht : ix_thr mi D = none) (hp : D + 1 = D') (q : ix_E mi D' Lc (.int (nI L) :: st) h Q) : ix_E mi D Lc (.ref 31 :: st) h Q := by
  have h32 := I.1.1
  have e0 := (I.gh g).2.2.2
  refine jx1 (pc' := D') (L' := Lc) (st' := .int (nI L) :: st) (h' := h) ?_ q
  rw [ix_s1_of hi rfl rfl ht]
  simp only [ix_x1, ix_len, e0, hp]
  have h3 : 31 < h.1 := by omega
  rw [if_pos ⟨Or.inl (by decide), h3⟩]
  rfl
/-- one turn: the call that the script names -/
theorem lw_turn (j : J h σ n m (cI 0 L xs)) (hp : p + 7 ≤ L) (hL : L ≤ 3584) (hn : n < 1000) (hm : m ≤ 100000) (q : ∀ h' σ' n' m' x5 x6 x7, J h' σ' n' m' (cI 0 L xs) → n' ≤ n + 1 → m' ≤ m + 6 → ix_E 0 1468 [some (.ref 31), some (.ref 32), some (.ref 98), some (.ref 111), some (.int (nI p)), x5, x6, x7] [] h' Q) : ix_E 0 33 [some (.ref 31), some (.ref 32), some (.ref 98), some (.ref 111), some (.int (nI p)), y5, y6, y7] [] h Q := by
  have j' := j
  obtain ⟨S, cd, wr, tx, ou, f, I, D, g, H, K, r⟩ := j'
  refine jx (pc' := 36) (L' := [_, _, _, _, _, _, _, _]) (st' := [.int (nI p), .ref 31]) 2 rfl ?_
  refine jsc (D' := 37) I g rfl rfl (by omega) hL rfl ?_
  refine jx (pc' := 40) (L' := [_, _, _, _, _, _, _, _]) (st' := [.int (xs p &&& nI (2 ^ 5 - 1))]) 2 rfl ?_
  rw [mskl]
  obtain ⟨k, hk, ek⟩ : ∃ k, k < 32 ∧ wd (xs p) % 2 ^ 5 = k := ⟨_, Nat.mod_lt _ (by decide), rfl⟩
  rw [ek]
  match k, hk with
  | 0, _ =>
    refine jx (pc' := 148) (L' := [_, _, _, _, _, _, _, _]) (st' := []) 1 rfl ?_
    exact lw_load j hp hL hn hm q
  | 1, _ =>
    refine jx (pc' := 246) (L' := [_, _, _, _, _, _, _, _]) (st' := []) 1 rfl ?_
    exact lw_bits j hp hL hn hm q
  | 2, _ =>
    refine jx (pc' := 283) (L' := [_, _, _, _, _, _, _, _]) (st' := []) 1 rfl ?_
    exact lw_format j hp hL hn hm q
  | 3, _ =>
    refine jx (pc' := 308) (L' := [_, _, _, _, _, _, _, _]) (st' := []) 1 rfl ?_
    exact lw_direct j hp hL hn hm q
  | 4, _ =>
    refine jx (pc' := 333) (L' := [_, _, _, _, _, _, _, _]) (st' := []) 1 rfl ?_
    exact lw_flags j hp hL hn hm q
  | 5, _ =>
    refine jx (pc' := 346) (L' := [_, _, _, _, _, _, _, _]) (st' := []) 1 rfl ?_
    exact lw_lower j hp hL hn hm q
  | 6, _ =>
    refine jx (pc' := 371) (L' := [_, _, _, _, _, _, _, _]) (st' := []) 1 rfl ?_
    exact lw_trap j hp hL hn hm q
  | 7, _ =>
    refine jx (pc' := 394) (L' := [_, _, _, _, _, _, _, _]) (st' := []) 1 rfl ?_
    exact lw_two j hp hL hn hm q
  | 8, _ =>
    refine jx (pc' := 486) (L' := [_, _, _, _, _, _, _, _]) (st' := []) 1 rfl ?_
    exact lw_fused j hp hL hn hm q
  | 9, _ =>
    refine jx (pc' := 578) (L' := [_, _, _, _, _, _, _, _]) (st' := []) 1 rfl ?_
    exact lw_one j hp hL hn hm q
  | 10, _ =>
    refine jx (pc' := 658) (L' := [_, _, _, _, _, _, _, _]) (st' := []) 1 rfl ?_
    exact lw_scale j hp hL hn hm q
  | 11, _ =>
    refine jx (pc' := 738) (L' := [_, _, _, _, _, _, _, _]) (st' := []) 1 rfl ?_
    exact lw_convert j hp hL hn hm q
  | 12, _ =>
    refine jx (pc' := 818) (L' := [_, _, _, _, _, _, _, _]) (st' := []) 1 rfl ?_
    exact lw_number j hp hL hn hm q
  | 13, _ =>
    refine jx (pc' := 910) (L' := [_, _, _, _, _, _, _, _]) (st' := []) 1 rfl ?_
    exact lw_whole j hp hL hn hm q
  | 14, _ =>
    refine jx (pc' := 1005) (L' := [_, _, _, _, _, _, _, _]) (st' := []) 1 rfl ?_
    exact lw_log j hp hL hn hm q
  | 15, _ =>
    refine jx (pc' := 1061) (L' := [_, _, _, _, _, _, _, _]) (st' := []) 1 rfl ?_
    exact lw_compare j hp hL hn hm q
  | 16, _ =>
    refine jx (pc' := 1157) (L' := [_, _, _, _, _, _, _, _]) (st' := []) 1 rfl ?_
    exact lw_ordered j hp hL hn hm q
  | 17, _ =>
    refine jx (pc' := 1232) (L' := [_, _, _, _, _, _, _, _]) (st' := []) 1 rfl ?_
    exact lw_kind j hp hL hn hm q
  | 18, _ =>
    refine jx (pc' := 1257) (L' := [_, _, _, _, _, _, _, _]) (st' := []) 1 rfl ?_
    exact lw_alike j hp hL hn hm q
  | 19, _ =>
    refine jx (pc' := 1294) (L' := [_, _, _, _, _, _, _, _]) (st' := []) 1 rfl ?_
    exact lw_type j hp hL hn hm q
  | 20, _ =>
    refine jx (pc' := 1319) (L' := [_, _, _, _, _, _, _, _]) (st' := []) 1 rfl ?_
    exact lw_read j hp hL hn hm q
  | 21, _ =>
    refine jx (pc' := 1387) (L' := [_, _, _, _, _, _, _, _]) (st' := []) 1 rfl ?_
    exact lw_write j hp hL hn hm q
  | 22, _ =>
    refine jx (pc' := 1443) (L' := [_, _, _, _, _, _, _, _]) (st' := []) 1 rfl ?_
    exact lw_output j hp hL hn hm q
  | 23, _ =>
    refine jx (pc' := 1468) (L' := [_, _, _, _, _, _, _, _]) (st' := []) 1 rfl ?_
    exact q _ _ _ _ _ _ _ j (Nat.le_succ _) (Nat.le_add_right _ _)
  | 24, _ =>
    refine jx (pc' := 1468) (L' := [_, _, _, _, _, _, _, _]) (st' := []) 1 rfl ?_
    exact q _ _ _ _ _ _ _ j (Nat.le_succ _) (Nat.le_add_right _ _)
  | 25, _ =>
    refine jx (pc' := 1468) (L' := [_, _, _, _, _, _, _, _]) (st' := []) 1 rfl ?_
    exact q _ _ _ _ _ _ _ j (Nat.le_succ _) (Nat.le_add_right _ _)
  | 26, _ =>
    refine jx (pc' := 1468) (L' := [_, _, _, _, _, _, _, _]) (st' := []) 1 rfl ?_
    exact q _ _ _ _ _ _ _ j (Nat.le_succ _) (Nat.le_add_right _ _)
  | 27, _ =>
    refine jx (pc' := 1468) (L' := [_, _, _, _, _, _, _, _]) (st' := []) 1 rfl ?_
    exact q _ _ _ _ _ _ _ j (Nat.le_succ _) (Nat.le_add_right _ _)
  | 28, _ =>
    refine jx (pc' := 1468) (L' := [_, _, _, _, _, _, _, _]) (st' := []) 1 rfl ?_
    exact q _ _ _ _ _ _ _ j (Nat.le_succ _) (Nat.le_add_right _ _)
  | 29, _ =>
    refine jx (pc' := 1468) (L' := [_, _, _, _, _, _, _, _]) (st' := []) 1 rfl ?_
    exact q _ _ _ _ _ _ _ j (Nat.le_succ _) (Nat.le_add_right _ _)
  | 30, _ =>
    refine jx (pc' := 1468) (L' := [_, _, _, _, _, _, _, _]) (st' := []) 1 rfl ?_
    exact q _ _ _ _ _ _ _ j (Nat.le_succ _) (Nat.le_add_right _ _)
  | 31, _ =>
    refine jx (pc' := 1468) (L' := [_, _, _, _, _, _, _, _]) (st' := []) 1 rfl ?_
    exact q _ _ _ _ _ _ _ j (Nat.le_succ _) (Nat.le_add_right _ _)
  | k + 32, hk => exact absurd hk (by omega)
/-- the loop -/
theorem lw_loop (hL : L ≤ 3584) (q : ∀ h', Q (.inl (some (.int 1))) h') : ∀ (d p n m : Nat) (h : ix_H) (σ : Stt) (y5 y6 y7 : Option Value), L < p + d → p ≤ L → J h σ n m (cI 0 L xs) → 7 * n ≤ 784 + p → 7 * m ≤ 350000 + 6 * p → ix_E 0 23 [some (.ref 31), some (.ref 32), some (.ref 98), some (.ref 111), some (.int (nI p)), y5, y6, y7] [] h Q
  | 0, p, n, m, h, σ, y5, y6, y7, h1, h2, j, h3, h4 => absurd h1 (by omega)
  | d + 1, p, n, m, h, σ, y5, y6, y7, h1, h2, j, h3, h4 => by
    have j' := j
    obtain ⟨S, cd, wr, tx, ou, f, I, D, g, H, K, r⟩ := j'
    refine jx (pc' := 26) (L' := [_, _, _, _, _, _, _, _]) (st' := [.ref 31, .int (nI p)]) 2 rfl ?_
    refine jsl (D' := 27) I g rfl rfl rfl ?_
    refine jx (pc' := 30) (L' := [_, _, _, _, _, _, _, _]) (st' := [.int (nI L - zI 7), .int (nI p)]) 2 rfl ?_
    rw [nz L, nz p, zI_sub]
    by_cases c : p + 7 ≤ L
    · refine jcn (pc' := 33) 1474 rfl rfl rfl rfl (by rw [zc_gt ⟨by omega, by omega⟩ ⟨by omega, by omega⟩]; exact decide_eq_false (by omega)) ?_
      rw [← nz p]
      refine lw_turn j c hL (by omega) (by omega) fun h' σ' n' m' x5 x6 x7 j2 e1 e2 => ?_
      refine jx (pc' := 23) (L' := [_, _, _, _, some (.int (nI p + nI 7)), _, _, _]) (st' := []) 2 rfl ?_
      rw [nI_add]
      exact lw_loop hL q d (p + 7) n' m' h' σ' x5 x6 x7 (by omega) c j2 (by omega) (by omega)
    · refine jct (pc' := 1474) rfl rfl rfl (by rw [zc_gt ⟨by omega, by omega⟩ ⟨by omega, by omega⟩]; exact decide_eq_true (by omega)) ?_
      refine jx (pc' := 1475) (L' := [_, _, _, _, _, _, _, _]) (st' := [.int (nI 1)]) 1 rfl ?_
      refine ix_qr _ rfl rfl rfl ?_
      exact q _
noncomputable def s00 (c : ix_C) (r : Nat) : AC := bif Nat.beq r 0 then aG 32 0 c else none
theorem inv0 : Inv (ix_h0 L xs) (s00 (cI 0 L xs)) := by
  refine ⟨⟨Nat.le_refl _, fun r hr => ?_, fun r hr => ?_⟩, fun r => ?_⟩
  · match r, hr with
    | 0, _ => rfl
    | 1, _ => rfl
    | 2, _ => rfl
    | 3, _ => rfl
    | 4, _ => rfl
    | 5, _ => rfl
    | 6, _ => rfl
  · match r, hr with
    | 0, _ => exact ⟨rfl, rfl⟩
    | 1, _ => exact ⟨rfl, rfl⟩
    | 2, _ => exact ⟨rfl, rfl⟩
    | 3, _ => exact ⟨rfl, rfl⟩
    | 4, _ => exact ⟨rfl, rfl⟩
    | 5, _ => exact ⟨rfl, rfl⟩
    | 6, _ => exact ⟨rfl, rfl⟩
  · match r with
    | 0 => exact ⟨rfl, rfl, rfl, rfl⟩
    | r + 1 => exact trivial
/-- the law holds -/
theorem lw_law (hL : L ≤ 3584) : ix_Law L xs := by
  suffices T : ix_E 0 0 (ix_en [.ref 31] 8) [] (ix_h0 L xs) (fun o _ => o = .inl (some (.int 1))) by
    obtain ⟨n, o, h', a, b⟩ := T
    exact ⟨n, h', by rw [a, b]⟩
  have q : ∀ h' : ix_H, (fun (o : ix_O) (_ : ix_H) => o = .inl (some (.int 1))) (.inl (some (.int 1))) h' := fun _ => rfl
  generalize (fun (o : ix_O) (_ : ix_H) => o = .inl (some (.int 1))) = Q at q ⊢
  have I := inv0 (L := L) (xs := xs)
  have F : Fr (s00 (cI 0 L xs)) 32 := fun j hj => by
    match j, hj with
    | j + 1, _ => rfl
  have g : s00 (cI 0 L xs) 0 = aG 32 0 (cI 0 L xs) := rfl
  show ix_E 0 0 [some (.ref 31), none, none, none, none, none, none, none] [] _ Q
  refine kno (pc' := 3) (ci := 0) I g F rfl rfl rfl (by decide) rfl (by omega) (by show 0 + 9 ≤ 100000; omega) fun h1 S1 I1 g1 A1 E1 F1 => ?_
  refine jx (pc' := 4) (L' := [_, _, _, _, _, _, _, _]) (st' := [_, _]) 1 rfl ?_
  refine jcv (pc' := 7) 14 [] [_] (I1.ob A1) rfl rfl rfl rfl rfl rfl rfl rfl ?_
  refine k_decimal (m := 9) I1 A1 g1 F1 (by omega) fun h2 S2 I2 C2 g2 P2 F2 => jk ?_
  refine jx (pc' := 8) (L' := [_, _, _, _, _, _, _, _]) (st' := []) 1 rfl ?_
  refine kno (pc' := 11) (ci := 10) I2 g2 F2 rfl rfl rfl (by decide) rfl (by omega) (by show 9 + 656 + 23 ≤ 100000; omega) fun h3 S3 I3 g3 A3 E3 F3 => ?_
  refine jx (pc' := 12) (L' := [_, _, _, _, _, _, _, _]) (st' := [_, _]) 1 rfl ?_
  refine jcv (pc' := 15) 163 [] [_] (I3.ob A3) rfl rfl rfl rfl rfl rfl rfl rfl ?_
  refine k_reference (m := 688) I3 A3 g3 F3 (by omega) fun h4 S4 g4 P4 F4 K4 => jk ?_
  obtain ⟨S5, I5, a5, K5⟩ := K4.to
  have b5 : ∀ q, ¬ (98 ≤ q ∧ q ≤ 110) → S5 q = S4 q := fun q hq => a5 q fun z => by
    simp [rfL] at z
    omega
  have g5 : S5 0 = aG 111 27194 (cI 0 L xs) := (b5 0 (by decide)).trans g4
  have F5 : Fr S5 111 := fun j hj => (b5 j (by omega)).trans (F4 j hj)
  have C5 : Cls S5 st0 := C2.fr fun r x y => (b5 r (by omega)).trans ((P4 r (by omega) y).trans (E3 r (by omega) (by omega)))
  refine jx (pc' := 17) (L' := [_, _, _, _, _, _, _, _]) (st' := [.int (nI 1)]) 2 rfl ?_
  refine kna (pc' := 19) (z := 1) (t := 0) (cc := cL 1 fun _ => 0) I5 g5 F5 rfl rfl rfl (by decide) (Or.inr (Or.inr (Or.inr ⟨rfl, rfl⟩))) rfl (by omega) (by omega) fun h6 S6 I6 g6 A6 E6 F6 => ?_
  refine jx (pc' := 23) (L' := [some (.ref 31), some (.ref 32), some (.ref 98), some (.ref 111), some (.int (nI 0)), _, _, _]) (st' := []) 3 rfl ?_
  refine lw_loop (xs := xs) hL q (L + 1) 0 112 27195 h6 st0 _ _ _ (by omega) (Nat.zero_le _) ?_ (by omega) (by omega)
  exact ⟨S6, 0, 0, fun _ => 0, fun _ => 0, fun _ => 0, I6, C5.fr fun r x y => E6 r (by omega) (by omega), g6, A6, K5.fr fun r x y => E6 r (by omega) (by omega), ⟨rfl, fun j hj => absurd hj (Nat.not_lt_zero j)⟩, rfl⟩
end LAW
