/-! ===== the small constructors (printed by gencon.py) ===== -/
theorem aG_c {n n' m m' : Nat} {e : ix_C} (h1 : n = n') (h2 : m = m') : aG n m e = aG n' m' e := by rw [h1, h2]
section NEW
variable {h : ix_H} {Q : ix_O → ix_H → Prop} {S : Nat → AC} {m : Nat} {e : ix_C}
theorem k_datum {a : Nat} (I : Inv h S) (A : S a = aC (cO 3 (ix_dv 3))) (g : S 0 = aG (a + 1) m e) (F : Fr S (a + 1)) (h1 : a < 880) (h2 : m ≤ 80000) (q : ∀ h' S', Inv h' S' → S' (a) = aC (dC a 1 0 false 0) → S' (a + 1) = aN 0 → S' 0 = aG (a + 3) (m + 17) e → (∀ j, ¬ j = 0 → j < a → S' j = S j) → Fr S' (a + 3) → Q (.inl none) h') : ix_M 77 [.ref (a)] h Q := by
  have A0 := A; have ha := (I.cl A).2.1; have P : ∀ j, ¬ j = 0 → j < a → S j = S j := fun _ _ _ => rfl
  refine jx (pc' := 1) (L' := [_]) (st' := [_]) 1 rfl ?_
  refine jobj (pc' := 4) rfl rfl rfl rfl rfl ?_
  refine jx (pc' := 6) (L' := [_]) (st' := [.int (nI 1), _]) 2 rfl ?_
  refine kpf (pc' := 9) I A0 g F rfl rfl rfl (Nat.le_of_ble_eq_true rfl) (fun _ => ⟨rfl, rfl⟩) rfl rfl rfl fun h1 S1 I B0 g E F => ?_
  have A0 := B0; have P : ∀ j, ¬ j = 0 → j < a → S1 j = S j := fun j j0 ja => (E j (by omega)).trans (P j j0 ja)
  refine jx (pc' := 11) (L' := [_]) (st' := [.int (nI 0), _]) 2 rfl ?_
  refine kpf (pc' := 14) I A0 g F rfl rfl rfl (Nat.le_of_ble_eq_true rfl) (fun _ => ⟨rfl, rfl⟩) rfl rfl rfl fun h2 S2 I B0 g E F => ?_
  have A0 := B0; have P : ∀ j, ¬ j = 0 → j < a → S2 j = S j := fun j j0 ja => (E j (by omega)).trans (P j j0 ja)
  refine jx (pc' := 16) (L' := [_]) (st' := [.int (nI 0), _]) 2 rfl ?_
  refine kpf (pc' := 19) I A0 g F rfl rfl rfl (Nat.le_of_ble_eq_true rfl) (fun _ => ⟨rfl, rfl⟩) rfl rfl rfl fun h3 S3 I B0 g E F => ?_
  have A0 := B0; have P : ∀ j, ¬ j = 0 → j < a → S3 j = S j := fun j j0 ja => (E j (by omega)).trans (P j j0 ja)
  refine jx (pc' := 21) (L' := [_]) (st' := [.int (nI 0), _]) 2 rfl ?_
  refine kpf (pc' := 24) I A0 g F rfl rfl rfl (Nat.le_of_ble_eq_true rfl) (fun _ => ⟨rfl, rfl⟩) rfl rfl rfl fun h4 S4 I B0 g E F => ?_
  have A0 := B0; have P : ∀ j, ¬ j = 0 → j < a → S4 j = S j := fun j j0 ja => (E j (by omega)).trans (P j j0 ja)
  refine jx (pc' := 25) (L' := [_]) (st' := [_]) 1 rfl ?_
  refine kno (pc' := 28) (ci := 1) I g F rfl rfl rfl (by decide) rfl (by omega) (by show m + 0 + 1 ≤ 100000; omega) fun h5 S5 I g A1 E F => ?_
  have g : S5 0 = aG (a + 1 + 1) (m + 0 + 1) e := g
  have A0 := (E (a) (by omega) (by omega)).trans A0
  have P : ∀ j, ¬ j = 0 → j < a → S5 j = S j := fun j j0 ja => (E j j0 (by omega)).trans (P j j0 ja)
  have g : S5 0 = aG (a + 2) (m + 1) e := g.trans (aG_c (by omega) (by omega))
  refine jx (pc' := 29) (L' := [_]) (st' := [_, _, _]) 1 rfl ?_
  refine jcv (pc' := 32) 47 [] [_, _] (I.ob A1) rfl rfl rfl rfl rfl rfl rfl rfl ?_
  refine k_natural (a := a + 1) I A1 g F (by omega) (by omega) fun h6 S6 I B1 g E F => jk ?_
  have A0 := (E (a) (by omega) (by omega)).trans A0
  have A1 := B1
  have P : ∀ j, ¬ j = 0 → j < a → S6 j = S j := fun j j0 ja => (E j j0 (by omega)).trans (P j j0 ja)
  have g : S6 0 = aG (a + 3) (m + 17) e := g.trans (aG_c (by omega) (by omega))
  have F : Fr S6 (a + 3) := fun j hj => F j (by omega)
  refine kpf (pc' := 35) I A0 g F rfl rfl rfl (Nat.le_of_ble_eq_true rfl) (fun _ => ⟨rfl, rfl⟩) rfl rfl rfl fun h7 S7 I B0 g E F => ?_
  have A1 := (E (a + 1) (by omega)).trans A1
  have A0 := B0; have P : ∀ j, ¬ j = 0 → j < a → S7 j = S j := fun j j0 ja => (E j (by omega)).trans (P j j0 ja)
  refine ix_qr _ rfl rfl rfl ?_
  exact q _ _ I A0 A1 g P F
theorem k_divider {a : Nat} (I : Inv h S) (A : S a = aC (cO 2 (ix_dv 2))) (g : S 0 = aG (a + 1) m e) (F : Fr S (a + 1)) (h1 : a < 880) (h2 : m ≤ 80000) (q : ∀ h' S', Inv h' S' → S' (a) = aC (cO 2 [.ref (a + 1), .ref (a + 2)]) → S' (a + 1) = aC (cI 0 17 fun _ => 0) → S' (a + 2) = aC (cI 0 17 fun _ => 0) → S' 0 = aG (a + 3) (m + 34) e → (∀ j, ¬ j = 0 → j < a → S' j = S j) → Fr S' (a + 3) → Q (.inl none) h') : ix_M 71 [.ref (a)] h Q := by
  have A0 := A; have ha := (I.cl A).2.1; have P : ∀ j, ¬ j = 0 → j < a → S j = S j := fun _ _ _ => rfl
  refine jx (pc' := 1) (L' := [_]) (st' := [_]) 1 rfl ?_
  refine jobj (pc' := 4) rfl rfl rfl rfl rfl ?_
  refine jx (pc' := 7) (L' := [_]) (st' := [.int (nI 17), _]) 2 rfl ?_
  refine kna (pc' := 9) (z := 17) (t := 0) (cc := cI 0 17 fun _ => 0) I g F rfl rfl rfl (by decide) (Or.inl ⟨rfl, rfl⟩) rfl (by omega) (by omega) fun h1 S1 I g A1 E F => ?_
  have A0 := (E (a) (by omega) (by omega)).trans A0
  have P : ∀ j, ¬ j = 0 → j < a → S1 j = S j := fun j j0 ja => (E j j0 (by omega)).trans (P j j0 ja)
  have g : S1 0 = aG (a + 2) (m + 17) e := g.trans (aG_c (by omega) (by omega))
  refine kpf (pc' := 12) I A0 g F rfl rfl rfl (Nat.le_of_ble_eq_true rfl) (fun _ => ⟨rfl, rfl⟩) rfl rfl rfl fun h2 S2 I B0 g E F => ?_
  have A1 := (E (a + 1) (by omega)).trans A1
  have A0 := B0; have P : ∀ j, ¬ j = 0 → j < a → S2 j = S j := fun j j0 ja => (E j (by omega)).trans (P j j0 ja)
  refine jx (pc' := 15) (L' := [_]) (st' := [.int (nI 17), _]) 2 rfl ?_
  refine kna (pc' := 17) (z := 17) (t := 0) (cc := cI 0 17 fun _ => 0) I g F rfl rfl rfl (by decide) (Or.inl ⟨rfl, rfl⟩) rfl (by omega) (by omega) fun h3 S3 I g A2 E F => ?_
  have A0 := (E (a) (by omega) (by omega)).trans A0
  have A1 := (E (a + 1) (by omega) (by omega)).trans A1
  have P : ∀ j, ¬ j = 0 → j < a → S3 j = S j := fun j j0 ja => (E j j0 (by omega)).trans (P j j0 ja)
  have g : S3 0 = aG (a + 3) (m + 34) e := g.trans (aG_c (by omega) (by omega))
  refine kpf (pc' := 20) I A0 g F rfl rfl rfl (Nat.le_of_ble_eq_true rfl) (fun _ => ⟨rfl, rfl⟩) rfl rfl rfl fun h4 S4 I B0 g E F => ?_
  have A1 := (E (a + 1) (by omega)).trans A1
  have A2 := (E (a + 2) (by omega)).trans A2
  have A0 := B0; have P : ∀ j, ¬ j = 0 → j < a → S4 j = S j := fun j j0 ja => (E j (by omega)).trans (P j j0 ja)
  refine ix_qr _ rfl rfl rfl ?_
  exact q _ _ I A0 A1 A2 g P F
theorem k_pattern {a : Nat} (I : Inv h S) (A : S a = aC (cO 4 (ix_dv 4))) (g : S 0 = aG (a + 1) m e) (F : Fr S (a + 1)) (h1 : a < 880) (h2 : m ≤ 80000) (q : ∀ h' S', Inv h' S' → S' (a) = aC (cO 4 [.ref (a + 1), .ref (a + 2)]) → S' (a + 1) = aC (cI 0 4 fun _ => 0) → S' (a + 2) = aN 0 → S' 0 = aG (a + 4) (m + 21) e → (∀ j, ¬ j = 0 → j < a → S' j = S j) → Fr S' (a + 4) → Q (.inl none) h') : ix_M 87 [.ref (a)] h Q := by
  have A0 := A; have ha := (I.cl A).2.1; have P : ∀ j, ¬ j = 0 → j < a → S j = S j := fun _ _ _ => rfl
  refine jx (pc' := 1) (L' := [_]) (st' := [_]) 1 rfl ?_
  refine jobj (pc' := 4) rfl rfl rfl rfl rfl ?_
  refine jx (pc' := 6) (L' := [_]) (st' := [.int (nI 4), _]) 2 rfl ?_
  refine kna (pc' := 8) (z := 4) (t := 0) (cc := cI 0 4 fun _ => 0) I g F rfl rfl rfl (by decide) (Or.inl ⟨rfl, rfl⟩) rfl (by omega) (by omega) fun h1 S1 I g A1 E F => ?_
  have A0 := (E (a) (by omega) (by omega)).trans A0
  have P : ∀ j, ¬ j = 0 → j < a → S1 j = S j := fun j j0 ja => (E j j0 (by omega)).trans (P j j0 ja)
  have g : S1 0 = aG (a + 2) (m + 4) e := g.trans (aG_c (by omega) (by omega))
  refine kpf (pc' := 11) I A0 g F rfl rfl rfl (Nat.le_of_ble_eq_true rfl) (fun _ => ⟨rfl, rfl⟩) rfl rfl rfl fun h2 S2 I B0 g E F => ?_
  have A1 := (E (a + 1) (by omega)).trans A1
  have A0 := B0; have P : ∀ j, ¬ j = 0 → j < a → S2 j = S j := fun j j0 ja => (E j (by omega)).trans (P j j0 ja)
  refine jx (pc' := 12) (L' := [_]) (st' := [_]) 1 rfl ?_
  refine kno (pc' := 15) (ci := 1) I g F rfl rfl rfl (by decide) rfl (by omega) (by show m + 4 + 1 ≤ 100000; omega) fun h3 S3 I g A2 E F => ?_
  have g : S3 0 = aG (a + 2 + 1) (m + 4 + 1) e := g
  have A0 := (E (a) (by omega) (by omega)).trans A0
  have A1 := (E (a + 1) (by omega) (by omega)).trans A1
  have P : ∀ j, ¬ j = 0 → j < a → S3 j = S j := fun j j0 ja => (E j j0 (by omega)).trans (P j j0 ja)
  have g : S3 0 = aG (a + 3) (m + 5) e := g.trans (aG_c (by omega) (by omega))
  refine jx (pc' := 16) (L' := [_]) (st' := [_, _, _]) 1 rfl ?_
  refine jcv (pc' := 19) 47 [] [_, _] (I.ob A2) rfl rfl rfl rfl rfl rfl rfl rfl ?_
  refine k_natural (a := a + 2) I A2 g F (by omega) (by omega) fun h4 S4 I B2 g E F => jk ?_
  have A0 := (E (a) (by omega) (by omega)).trans A0
  have A1 := (E (a + 1) (by omega) (by omega)).trans A1
  have A2 := B2
  have P : ∀ j, ¬ j = 0 → j < a → S4 j = S j := fun j j0 ja => (E j j0 (by omega)).trans (P j j0 ja)
  have g : S4 0 = aG (a + 4) (m + 21) e := g.trans (aG_c (by omega) (by omega))
  have F : Fr S4 (a + 4) := fun j hj => F j (by omega)
  refine kpf (pc' := 22) I A0 g F rfl rfl rfl (Nat.le_of_ble_eq_true rfl) (fun _ => ⟨rfl, rfl⟩) rfl rfl rfl fun h5 S5 I B0 g E F => ?_
  have A1 := (E (a + 1) (by omega)).trans A1
  have A2 := (E (a + 2) (by omega)).trans A2
  have A0 := B0; have P : ∀ j, ¬ j = 0 → j < a → S5 j = S j := fun j j0 ja => (E j (by omega)).trans (P j j0 ja)
  refine ix_qr _ rfl rfl rfl ?_
  exact q _ _ I A0 A1 A2 g P F
theorem k_unrounded {a : Nat} (I : Inv h S) (A : S a = aC (cO 5 (ix_dv 5))) (g : S 0 = aG (a + 1) m e) (F : Fr S (a + 1)) (h1 : a < 880) (h2 : m ≤ 80000) (q : ∀ h' S', Inv h' S' → S' (a) = aC (uC a false false 0 0) → S' (a + 1) = aN 0 → S' 0 = aG (a + 3) (m + 17) e → (∀ j, ¬ j = 0 → j < a → S' j = S j) → Fr S' (a + 3) → Q (.inl none) h') : ix_M 95 [.ref (a)] h Q := by
  have A0 := A; have ha := (I.cl A).2.1; have P : ∀ j, ¬ j = 0 → j < a → S j = S j := fun _ _ _ => rfl
  refine jx (pc' := 1) (L' := [_]) (st' := [_]) 1 rfl ?_
  refine jobj (pc' := 4) rfl rfl rfl rfl rfl ?_
  refine jx (pc' := 6) (L' := [_]) (st' := [.int (nI 0), _]) 2 rfl ?_
  refine kpf (pc' := 9) I A0 g F rfl rfl rfl (Nat.le_of_ble_eq_true rfl) (fun _ => ⟨rfl, rfl⟩) rfl rfl rfl fun h1 S1 I B0 g E F => ?_
  have A0 := B0; have P : ∀ j, ¬ j = 0 → j < a → S1 j = S j := fun j j0 ja => (E j (by omega)).trans (P j j0 ja)
  refine jx (pc' := 10) (L' := [_]) (st' := [_]) 1 rfl ?_
  refine kno (pc' := 13) (ci := 1) I g F rfl rfl rfl (by decide) rfl (by omega) (by show m + 0 + 1 ≤ 100000; omega) fun h2 S2 I g A1 E F => ?_
  have g : S2 0 = aG (a + 1 + 1) (m + 0 + 1) e := g
  have A0 := (E (a) (by omega) (by omega)).trans A0
  have P : ∀ j, ¬ j = 0 → j < a → S2 j = S j := fun j j0 ja => (E j j0 (by omega)).trans (P j j0 ja)
  have g : S2 0 = aG (a + 2) (m + 1) e := g.trans (aG_c (by omega) (by omega))
  refine jx (pc' := 14) (L' := [_]) (st' := [_, _, _]) 1 rfl ?_
  refine jcv (pc' := 17) 47 [] [_, _] (I.ob A1) rfl rfl rfl rfl rfl rfl rfl rfl ?_
  refine k_natural (a := a + 1) I A1 g F (by omega) (by omega) fun h3 S3 I B1 g E F => jk ?_
  have A0 := (E (a) (by omega) (by omega)).trans A0
  have A1 := B1
  have P : ∀ j, ¬ j = 0 → j < a → S3 j = S j := fun j j0 ja => (E j j0 (by omega)).trans (P j j0 ja)
  have g : S3 0 = aG (a + 3) (m + 17) e := g.trans (aG_c (by omega) (by omega))
  have F : Fr S3 (a + 3) := fun j hj => F j (by omega)
  refine kpf (pc' := 20) I A0 g F rfl rfl rfl (Nat.le_of_ble_eq_true rfl) (fun _ => ⟨rfl, rfl⟩) rfl rfl rfl fun h4 S4 I B0 g E F => ?_
  have A1 := (E (a + 1) (by omega)).trans A1
  have A0 := B0; have P : ∀ j, ¬ j = 0 → j < a → S4 j = S j := fun j j0 ja => (E j (by omega)).trans (P j j0 ja)
  refine jx (pc' := 22) (L' := [_]) (st' := [.long 0, _]) 2 rfl ?_
  refine kpf (pc' := 25) I A0 g F rfl rfl rfl (Nat.le_of_ble_eq_true rfl) (fun _ => ⟨rfl, rfl⟩) rfl rfl rfl fun h5 S5 I B0 g E F => ?_
  have A1 := (E (a + 1) (by omega)).trans A1
  have A0 := B0; have P : ∀ j, ¬ j = 0 → j < a → S5 j = S j := fun j j0 ja => (E j (by omega)).trans (P j j0 ja)
  refine jx (pc' := 27) (L' := [_]) (st' := [.long 0, _]) 2 rfl ?_
  refine kpf (pc' := 30) I A0 g F rfl rfl rfl (Nat.le_of_ble_eq_true rfl) (fun _ => ⟨rfl, rfl⟩) rfl rfl rfl fun h6 S6 I B0 g E F => ?_
  have A1 := (E (a + 1) (by omega)).trans A1
  have A0 := B0; have P : ∀ j, ¬ j = 0 → j < a → S6 j = S j := fun j j0 ja => (E j (by omega)).trans (P j j0 ja)
  refine jx (pc' := 32) (L' := [_]) (st' := [.int (nI 0), _]) 2 rfl ?_
  refine kpf (pc' := 35) I A0 g F rfl rfl rfl (Nat.le_of_ble_eq_true rfl) (fun _ => ⟨rfl, rfl⟩) rfl rfl rfl fun h7 S7 I B0 g E F => ?_
  have A1 := (E (a + 1) (by omega)).trans A1
  have A0 := B0; have P : ∀ j, ¬ j = 0 → j < a → S7 j = S j := fun j j0 ja => (E j (by omega)).trans (P j j0 ja)
  refine ix_qr _ rfl rfl rfl ?_
  exact q _ _ I A0 A1 g P F
theorem k_comparison {a : Nat} (I : Inv h S) (A : S a = aC (cO 6 (ix_dv 6))) (g : S 0 = aG (a + 1) m e) (F : Fr S (a + 1)) (h1 : a < 880) (h2 : m ≤ 80000) (q : ∀ h' S', Inv h' S' → S' (a) = aC (cO 6 [.ref (a + 1)]) → S' (a + 1) = aN 0 → S' 0 = aG (a + 3) (m + 17) e → (∀ j, ¬ j = 0 → j < a → S' j = S j) → Fr S' (a + 3) → Q (.inl none) h') : ix_M 107 [.ref (a)] h Q := by
  have A0 := A; have ha := (I.cl A).2.1; have P : ∀ j, ¬ j = 0 → j < a → S j = S j := fun _ _ _ => rfl
  refine jx (pc' := 1) (L' := [_]) (st' := [_]) 1 rfl ?_
  refine jobj (pc' := 4) rfl rfl rfl rfl rfl ?_
  refine jx (pc' := 5) (L' := [_]) (st' := [_]) 1 rfl ?_
  refine kno (pc' := 8) (ci := 1) I g F rfl rfl rfl (by decide) rfl (by omega) (by show m + 0 + 1 ≤ 100000; omega) fun h1 S1 I g A1 E F => ?_
  have g : S1 0 = aG (a + 1 + 1) (m + 0 + 1) e := g
  have A0 := (E (a) (by omega) (by omega)).trans A0
  have P : ∀ j, ¬ j = 0 → j < a → S1 j = S j := fun j j0 ja => (E j j0 (by omega)).trans (P j j0 ja)
  have g : S1 0 = aG (a + 2) (m + 1) e := g.trans (aG_c (by omega) (by omega))
  refine jx (pc' := 9) (L' := [_]) (st' := [_, _, _]) 1 rfl ?_
  refine jcv (pc' := 12) 47 [] [_, _] (I.ob A1) rfl rfl rfl rfl rfl rfl rfl rfl ?_
  refine k_natural (a := a + 1) I A1 g F (by omega) (by omega) fun h2 S2 I B1 g E F => jk ?_
  have A0 := (E (a) (by omega) (by omega)).trans A0
  have A1 := B1
  have P : ∀ j, ¬ j = 0 → j < a → S2 j = S j := fun j j0 ja => (E j j0 (by omega)).trans (P j j0 ja)
  have g : S2 0 = aG (a + 3) (m + 17) e := g.trans (aG_c (by omega) (by omega))
  have F : Fr S2 (a + 3) := fun j hj => F j (by omega)
  refine kpf (pc' := 15) I A0 g F rfl rfl rfl (Nat.le_of_ble_eq_true rfl) (fun _ => ⟨rfl, rfl⟩) rfl rfl rfl fun h3 S3 I B0 g E F => ?_
  have A1 := (E (a + 1) (by omega)).trans A1
  have A0 := B0; have P : ∀ j, ¬ j = 0 → j < a → S3 j = S j := fun j j0 ja => (E j (by omega)).trans (P j j0 ja)
  refine ix_qr _ rfl rfl rfl ?_
  exact q _ _ I A0 A1 g P F
theorem k_reader {a : Nat} (I : Inv h S) (A : S a = aC (cO 8 (ix_dv 8))) (g : S 0 = aG (a + 1) m e) (F : Fr S (a + 1)) (h1 : a < 880) (h2 : m ≤ 80000) (q : ∀ h' S', Inv h' S' → S' (a) = aC (cO 8 [.int (nI 0), .int (bI false), .ref (a + 1), .int (zI 0), .ref (a + 3), .int (nI 0), .int (nI 0)]) → S' (a + 1) = aN 0 → S' (a + 3) = aC (cI 2 120 fun _ => 0) → S' 0 = aG (a + 4) (m + 137) e → (∀ j, ¬ j = 0 → j < a → S' j = S j) → Fr S' (a + 4) → Q (.inl none) h') : ix_M 144 [.ref (a)] h Q := by
  have A0 := A; have ha := (I.cl A).2.1; have P : ∀ j, ¬ j = 0 → j < a → S j = S j := fun _ _ _ => rfl
  refine jx (pc' := 1) (L' := [_]) (st' := [_]) 1 rfl ?_
  refine jobj (pc' := 4) rfl rfl rfl rfl rfl ?_
  refine jx (pc' := 6) (L' := [_]) (st' := [.int (nI 0), _]) 2 rfl ?_
  refine kpf (pc' := 9) I A0 g F rfl rfl rfl (Nat.le_of_ble_eq_true rfl) (fun _ => ⟨rfl, rfl⟩) rfl rfl rfl fun h1 S1 I B0 g E F => ?_
  have A0 := B0; have P : ∀ j, ¬ j = 0 → j < a → S1 j = S j := fun j j0 ja => (E j (by omega)).trans (P j j0 ja)
  refine jx (pc' := 11) (L' := [_]) (st' := [.int (nI 0), _]) 2 rfl ?_
  refine kpf (pc' := 14) I A0 g F rfl rfl rfl (Nat.le_of_ble_eq_true rfl) (fun _ => ⟨rfl, rfl⟩) rfl rfl rfl fun h2 S2 I B0 g E F => ?_
  have A0 := B0; have P : ∀ j, ¬ j = 0 → j < a → S2 j = S j := fun j j0 ja => (E j (by omega)).trans (P j j0 ja)
  refine jx (pc' := 15) (L' := [_]) (st' := [_]) 1 rfl ?_
  refine kno (pc' := 18) (ci := 1) I g F rfl rfl rfl (by decide) rfl (by omega) (by show m + 0 + 1 ≤ 100000; omega) fun h3 S3 I g A1 E F => ?_
  have g : S3 0 = aG (a + 1 + 1) (m + 0 + 1) e := g
  have A0 := (E (a) (by omega) (by omega)).trans A0
  have P : ∀ j, ¬ j = 0 → j < a → S3 j = S j := fun j j0 ja => (E j j0 (by omega)).trans (P j j0 ja)
  have g : S3 0 = aG (a + 2) (m + 1) e := g.trans (aG_c (by omega) (by omega))
  refine jx (pc' := 19) (L' := [_]) (st' := [_, _, _]) 1 rfl ?_
  refine jcv (pc' := 22) 47 [] [_, _] (I.ob A1) rfl rfl rfl rfl rfl rfl rfl rfl ?_
  refine k_natural (a := a + 1) I A1 g F (by omega) (by omega) fun h4 S4 I B1 g E F => jk ?_
  have A0 := (E (a) (by omega) (by omega)).trans A0
  have A1 := B1
  have P : ∀ j, ¬ j = 0 → j < a → S4 j = S j := fun j j0 ja => (E j j0 (by omega)).trans (P j j0 ja)
  have g : S4 0 = aG (a + 3) (m + 17) e := g.trans (aG_c (by omega) (by omega))
  have F : Fr S4 (a + 3) := fun j hj => F j (by omega)
  refine kpf (pc' := 25) I A0 g F rfl rfl rfl (Nat.le_of_ble_eq_true rfl) (fun _ => ⟨rfl, rfl⟩) rfl rfl rfl fun h5 S5 I B0 g E F => ?_
  have A1 := (E (a + 1) (by omega)).trans A1
  have A0 := B0; have P : ∀ j, ¬ j = 0 → j < a → S5 j = S j := fun j j0 ja => (E j (by omega)).trans (P j j0 ja)
  refine jx (pc' := 27) (L' := [_]) (st' := [.int (nI 0), _]) 2 rfl ?_
  refine kpf (pc' := 30) I A0 g F rfl rfl rfl (Nat.le_of_ble_eq_true rfl) (fun _ => ⟨rfl, rfl⟩) rfl rfl rfl fun h6 S6 I B0 g E F => ?_
  have A1 := (E (a + 1) (by omega)).trans A1
  have A0 := B0; have P : ∀ j, ¬ j = 0 → j < a → S6 j = S j := fun j j0 ja => (E j (by omega)).trans (P j j0 ja)
  refine jx (pc' := 33) (L' := [_]) (st' := [.int (nI 120), _]) 2 rfl ?_
  refine kna (pc' := 35) (z := 120) (t := 0) (cc := cI 2 120 fun _ => 0) I g F rfl rfl rfl (by decide) (Or.inr (Or.inl ⟨rfl, rfl⟩)) rfl (by omega) (by omega) fun h7 S7 I g A3 E F => ?_
  have A0 := (E (a) (by omega) (by omega)).trans A0
  have A1 := (E (a + 1) (by omega) (by omega)).trans A1
  have P : ∀ j, ¬ j = 0 → j < a → S7 j = S j := fun j j0 ja => (E j j0 (by omega)).trans (P j j0 ja)
  have g : S7 0 = aG (a + 4) (m + 137) e := g.trans (aG_c (by omega) (by omega))
  refine kpf (pc' := 38) I A0 g F rfl rfl rfl (Nat.le_of_ble_eq_true rfl) (fun _ => ⟨rfl, rfl⟩) rfl rfl rfl fun h8 S8 I B0 g E F => ?_
  have A1 := (E (a + 1) (by omega)).trans A1
  have A3 := (E (a + 3) (by omega)).trans A3
  have A0 := B0; have P : ∀ j, ¬ j = 0 → j < a → S8 j = S j := fun j j0 ja => (E j (by omega)).trans (P j j0 ja)
  refine jx (pc' := 40) (L' := [_]) (st' := [.int (nI 0), _]) 2 rfl ?_
  refine kpf (pc' := 43) I A0 g F rfl rfl rfl (Nat.le_of_ble_eq_true rfl) (fun _ => ⟨rfl, rfl⟩) rfl rfl rfl fun h9 S9 I B0 g E F => ?_
  have A1 := (E (a + 1) (by omega)).trans A1
  have A3 := (E (a + 3) (by omega)).trans A3
  have A0 := B0; have P : ∀ j, ¬ j = 0 → j < a → S9 j = S j := fun j j0 ja => (E j (by omega)).trans (P j j0 ja)
  refine jx (pc' := 45) (L' := [_]) (st' := [.int (nI 0), _]) 2 rfl ?_
  refine kpf (pc' := 48) I A0 g F rfl rfl rfl (Nat.le_of_ble_eq_true rfl) (fun _ => ⟨rfl, rfl⟩) rfl rfl rfl fun h10 S10 I B0 g E F => ?_
  have A1 := (E (a + 1) (by omega)).trans A1
  have A3 := (E (a + 3) (by omega)).trans A3
  have A0 := B0; have P : ∀ j, ¬ j = 0 → j < a → S10 j = S j := fun j j0 ja => (E j (by omega)).trans (P j j0 ja)
  refine ix_qr _ rfl rfl rfl ?_
  exact q _ _ I A0 A1 A3 g P F
theorem k_writer {a : Nat} (I : Inv h S) (A : S a = aC (cO 9 (ix_dv 9))) (g : S 0 = aG (a + 1) m e) (F : Fr S (a + 1)) (h1 : a < 880) (h2 : m ≤ 80000) (q : ∀ h' S', Inv h' S' → S' (a) = aC (cO 9 [.ref (a + 1), .int (nI 0)]) → S' (a + 1) = aC (cI 2 64 fun _ => 0) → S' 0 = aG (a + 2) (m + 64) e → (∀ j, ¬ j = 0 → j < a → S' j = S j) → Fr S' (a + 2) → Q (.inl none) h') : ix_M 155 [.ref (a)] h Q := by
  have A0 := A; have ha := (I.cl A).2.1; have P : ∀ j, ¬ j = 0 → j < a → S j = S j := fun _ _ _ => rfl
  refine jx (pc' := 1) (L' := [_]) (st' := [_]) 1 rfl ?_
  refine jobj (pc' := 4) rfl rfl rfl rfl rfl ?_
  refine jx (pc' := 7) (L' := [_]) (st' := [.int (nI 64), _]) 2 rfl ?_
  refine kna (pc' := 9) (z := 64) (t := 0) (cc := cI 2 64 fun _ => 0) I g F rfl rfl rfl (by decide) (Or.inr (Or.inl ⟨rfl, rfl⟩)) rfl (by omega) (by omega) fun h1 S1 I g A1 E F => ?_
  have A0 := (E (a) (by omega) (by omega)).trans A0
  have P : ∀ j, ¬ j = 0 → j < a → S1 j = S j := fun j j0 ja => (E j j0 (by omega)).trans (P j j0 ja)
  have g : S1 0 = aG (a + 2) (m + 64) e := g.trans (aG_c (by omega) (by omega))
  refine kpf (pc' := 12) I A0 g F rfl rfl rfl (Nat.le_of_ble_eq_true rfl) (fun _ => ⟨rfl, rfl⟩) rfl rfl rfl fun h2 S2 I B0 g E F => ?_
  have A1 := (E (a + 1) (by omega)).trans A1
  have A0 := B0; have P : ∀ j, ¬ j = 0 → j < a → S2 j = S j := fun j j0 ja => (E j (by omega)).trans (P j j0 ja)
  refine jx (pc' := 14) (L' := [_]) (st' := [.int (nI 0), _]) 2 rfl ?_
  refine kpf (pc' := 17) I A0 g F rfl rfl rfl (Nat.le_of_ble_eq_true rfl) (fun _ => ⟨rfl, rfl⟩) rfl rfl rfl fun h3 S3 I B0 g E F => ?_
  have A1 := (E (a + 1) (by omega)).trans A1
  have A0 := B0; have P : ∀ j, ¬ j = 0 → j < a → S3 j = S j := fun j j0 ja => (E j (by omega)).trans (P j j0 ja)
  refine ix_qr _ rfl rfl rfl ?_
  exact q _ _ I A0 A1 g P F
end NEW
