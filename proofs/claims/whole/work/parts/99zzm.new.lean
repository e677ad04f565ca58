/-! ===== the reference's constructor (printed by gencon.py) ===== -/
section NEW
variable {h : ix_H} {Q : ix_O → ix_H → Prop} {S S0 : Nat → AC} {n m r : Nat} {e c : ix_C} {V cd dr ra si tr : Nat} {mo ng : Bool} {sp sz wr : Nat} {il : Bool} {rs pt rl wo tx ou : Nat → Nat}
theorem k_ref0 (I : Inv h S) (A : S 98 = aC (cO 10 (ix_dv 10))) (g : S 0 = aG (99) m e) (F : Fr S (99)) (h2 : m ≤ 50000) (q : ∀ h' S', Inv h' S' → S' (98) = aC (cO 10 (mF 0 0 0 0 0 false false 0 0 0 false)) → S' (99) = aC (cI 3 12 fun _ => 0) → S' (100) = aC (cI 0 12 fun _ => 0) → S' (101) = aC (cI 0 12 fun _ => 0) → S' (102) = aC (cI 0 12 fun _ => 0) → S' (103) = aC (cI 0 480 fun _ => 0) → S' (104) = aC (cI 0 25400 fun _ => 0) → S' (105) = aC (cI 0 130 fun _ => 0) → S' (106) = aC (cI 0 130 fun _ => 0) → S' (107) = aC (cI 0 130 fun _ => 0) → S' (108) = aC (cL 4 fun _ => 0) → S' (109) = aC (cI 0 120 fun _ => 0) → S' (110) = aC (cI 0 64 fun _ => 0) → S' 0 = aG (111) (m + 26506) e → (∀ j, ¬ j = 0 → j < 98 → S' j = S j) → Fr S' (111) → ix_E 163 106 [some (.ref 98), some (.int (nI 0))] [] h' Q) : ix_M 163 [.ref 98] h Q := by
  have A0 := A; have ha := (I.cl A).2.1; have P : ∀ j, ¬ j = 0 → j < 98 → S j = S j := fun _ _ _ => rfl
  refine jx (pc' := 1) (L' := [_, _]) (st' := [_]) 1 rfl ?_
  refine jobj (pc' := 4) rfl rfl rfl rfl rfl ?_
  refine jx (pc' := 7) (L' := [_, _]) (st' := [.int (nI 12), _]) 2 rfl ?_
  refine kna (pc' := 9) (z := 12) (t := 0) (cc := cI 3 12 fun _ => 0) I g F rfl rfl rfl (by decide) (Or.inr (Or.inr (Or.inl ⟨rfl, rfl⟩))) rfl (by omega) (by omega) fun h1 S1 I g A1 E F => ?_
  have A0 := (E (98) (by decide) (by decide)).trans A0
  have P : ∀ j, ¬ j = 0 → j < 98 → S1 j = S j := fun j j0 ja => (E j j0 (by omega)).trans (P j j0 ja)
  have g : S1 0 = aG (100) (m + 12) e := g.trans (aG_c (by omega) (by omega))
  refine kpf (pc' := 12) I A0 g F rfl rfl rfl (Nat.le_of_ble_eq_true rfl) (fun _ => ⟨rfl, rfl⟩) rfl rfl rfl fun h2 S2 I B0 g E F => ?_
  have A1 := (E (99) (by decide)).trans A1
  have A0 := B0; have P : ∀ j, ¬ j = 0 → j < 98 → S2 j = S j := fun j j0 ja => (E j (by omega)).trans (P j j0 ja)
  refine jx (pc' := 15) (L' := [_, _]) (st' := [.int (nI 12), _]) 2 rfl ?_
  refine kna (pc' := 17) (z := 12) (t := 0) (cc := cI 0 12 fun _ => 0) I g F rfl rfl rfl (by decide) (Or.inl ⟨rfl, rfl⟩) rfl (by omega) (by omega) fun h3 S3 I g A2 E F => ?_
  have A0 := (E (98) (by decide) (by decide)).trans A0
  have A1 := (E (99) (by decide) (by decide)).trans A1
  have P : ∀ j, ¬ j = 0 → j < 98 → S3 j = S j := fun j j0 ja => (E j j0 (by omega)).trans (P j j0 ja)
  have g : S3 0 = aG (101) (m + 24) e := g.trans (aG_c (by omega) (by omega))
  refine kpf (pc' := 20) I A0 g F rfl rfl rfl (Nat.le_of_ble_eq_true rfl) (fun _ => ⟨rfl, rfl⟩) rfl rfl rfl fun h4 S4 I B0 g E F => ?_
  have A1 := (E (99) (by decide)).trans A1
  have A2 := (E (100) (by decide)).trans A2
  have A0 := B0; have P : ∀ j, ¬ j = 0 → j < 98 → S4 j = S j := fun j j0 ja => (E j (by omega)).trans (P j j0 ja)
  refine jx (pc' := 23) (L' := [_, _]) (st' := [.int (nI 12), _]) 2 rfl ?_
  refine kna (pc' := 25) (z := 12) (t := 0) (cc := cI 0 12 fun _ => 0) I g F rfl rfl rfl (by decide) (Or.inl ⟨rfl, rfl⟩) rfl (by omega) (by omega) fun h5 S5 I g A3 E F => ?_
  have A0 := (E (98) (by decide) (by decide)).trans A0
  have A1 := (E (99) (by decide) (by decide)).trans A1
  have A2 := (E (100) (by decide) (by decide)).trans A2
  have P : ∀ j, ¬ j = 0 → j < 98 → S5 j = S j := fun j j0 ja => (E j j0 (by omega)).trans (P j j0 ja)
  have g : S5 0 = aG (102) (m + 36) e := g.trans (aG_c (by omega) (by omega))
  refine kpf (pc' := 28) I A0 g F rfl rfl rfl (Nat.le_of_ble_eq_true rfl) (fun _ => ⟨rfl, rfl⟩) rfl rfl rfl fun h6 S6 I B0 g E F => ?_
  have A1 := (E (99) (by decide)).trans A1
  have A2 := (E (100) (by decide)).trans A2
  have A3 := (E (101) (by decide)).trans A3
  have A0 := B0; have P : ∀ j, ¬ j = 0 → j < 98 → S6 j = S j := fun j j0 ja => (E j (by omega)).trans (P j j0 ja)
  refine jx (pc' := 31) (L' := [_, _]) (st' := [.int (nI 12), _]) 2 rfl ?_
  refine kna (pc' := 33) (z := 12) (t := 0) (cc := cI 0 12 fun _ => 0) I g F rfl rfl rfl (by decide) (Or.inl ⟨rfl, rfl⟩) rfl (by omega) (by omega) fun h7 S7 I g A4 E F => ?_
  have A0 := (E (98) (by decide) (by decide)).trans A0
  have A1 := (E (99) (by decide) (by decide)).trans A1
  have A2 := (E (100) (by decide) (by decide)).trans A2
  have A3 := (E (101) (by decide) (by decide)).trans A3
  have P : ∀ j, ¬ j = 0 → j < 98 → S7 j = S j := fun j j0 ja => (E j j0 (by omega)).trans (P j j0 ja)
  have g : S7 0 = aG (103) (m + 48) e := g.trans (aG_c (by omega) (by omega))
  refine kpf (pc' := 36) I A0 g F rfl rfl rfl (Nat.le_of_ble_eq_true rfl) (fun _ => ⟨rfl, rfl⟩) rfl rfl rfl fun h8 S8 I B0 g E F => ?_
  have A1 := (E (99) (by decide)).trans A1
  have A2 := (E (100) (by decide)).trans A2
  have A3 := (E (101) (by decide)).trans A3
  have A4 := (E (102) (by decide)).trans A4
  have A0 := B0; have P : ∀ j, ¬ j = 0 → j < 98 → S8 j = S j := fun j j0 ja => (E j (by omega)).trans (P j j0 ja)
  refine jx (pc' := 40) (L' := [_, _]) (st' := [.int (nI 480), _]) 2 rfl ?_
  refine kna (pc' := 42) (z := 480) (t := 0) (cc := cI 0 480 fun _ => 0) I g F rfl rfl rfl (by decide) (Or.inl ⟨rfl, rfl⟩) rfl (by omega) (by omega) fun h9 S9 I g A5 E F => ?_
  have A0 := (E (98) (by decide) (by decide)).trans A0
  have A1 := (E (99) (by decide) (by decide)).trans A1
  have A2 := (E (100) (by decide) (by decide)).trans A2
  have A3 := (E (101) (by decide) (by decide)).trans A3
  have A4 := (E (102) (by decide) (by decide)).trans A4
  have P : ∀ j, ¬ j = 0 → j < 98 → S9 j = S j := fun j j0 ja => (E j j0 (by omega)).trans (P j j0 ja)
  have g : S9 0 = aG (104) (m + 528) e := g.trans (aG_c (by omega) (by omega))
  refine kpf (pc' := 45) I A0 g F rfl rfl rfl (Nat.le_of_ble_eq_true rfl) (fun _ => ⟨rfl, rfl⟩) rfl rfl rfl fun h10 S10 I B0 g E F => ?_
  have A1 := (E (99) (by decide)).trans A1
  have A2 := (E (100) (by decide)).trans A2
  have A3 := (E (101) (by decide)).trans A3
  have A4 := (E (102) (by decide)).trans A4
  have A5 := (E (103) (by decide)).trans A5
  have A0 := B0; have P : ∀ j, ¬ j = 0 → j < 98 → S10 j = S j := fun j j0 ja => (E j (by omega)).trans (P j j0 ja)
  refine jx (pc' := 49) (L' := [_, _]) (st' := [.int (nI 25400), _]) 2 rfl ?_
  refine kna (pc' := 51) (z := 25400) (t := 0) (cc := cI 0 25400 fun _ => 0) I g F rfl rfl rfl (by decide) (Or.inl ⟨rfl, rfl⟩) rfl (by omega) (by omega) fun h11 S11 I g A6 E F => ?_
  have A0 := (E (98) (by decide) (by decide)).trans A0
  have A1 := (E (99) (by decide) (by decide)).trans A1
  have A2 := (E (100) (by decide) (by decide)).trans A2
  have A3 := (E (101) (by decide) (by decide)).trans A3
  have A4 := (E (102) (by decide) (by decide)).trans A4
  have A5 := (E (103) (by decide) (by decide)).trans A5
  have P : ∀ j, ¬ j = 0 → j < 98 → S11 j = S j := fun j j0 ja => (E j j0 (by omega)).trans (P j j0 ja)
  have g : S11 0 = aG (105) (m + 25928) e := g.trans (aG_c (by omega) (by omega))
  refine kpf (pc' := 54) I A0 g F rfl rfl rfl (Nat.le_of_ble_eq_true rfl) (fun _ => ⟨rfl, rfl⟩) rfl rfl rfl fun h12 S12 I B0 g E F => ?_
  have A1 := (E (99) (by decide)).trans A1
  have A2 := (E (100) (by decide)).trans A2
  have A3 := (E (101) (by decide)).trans A3
  have A4 := (E (102) (by decide)).trans A4
  have A5 := (E (103) (by decide)).trans A5
  have A6 := (E (104) (by decide)).trans A6
  have A0 := B0; have P : ∀ j, ¬ j = 0 → j < 98 → S12 j = S j := fun j j0 ja => (E j (by omega)).trans (P j j0 ja)
  refine jx (pc' := 58) (L' := [_, _]) (st' := [.int (nI 130), _]) 2 rfl ?_
  refine kna (pc' := 60) (z := 130) (t := 0) (cc := cI 0 130 fun _ => 0) I g F rfl rfl rfl (by decide) (Or.inl ⟨rfl, rfl⟩) rfl (by omega) (by omega) fun h13 S13 I g A7 E F => ?_
  have A0 := (E (98) (by decide) (by decide)).trans A0
  have A1 := (E (99) (by decide) (by decide)).trans A1
  have A2 := (E (100) (by decide) (by decide)).trans A2
  have A3 := (E (101) (by decide) (by decide)).trans A3
  have A4 := (E (102) (by decide) (by decide)).trans A4
  have A5 := (E (103) (by decide) (by decide)).trans A5
  have A6 := (E (104) (by decide) (by decide)).trans A6
  have P : ∀ j, ¬ j = 0 → j < 98 → S13 j = S j := fun j j0 ja => (E j j0 (by omega)).trans (P j j0 ja)
  have g : S13 0 = aG (106) (m + 26058) e := g.trans (aG_c (by omega) (by omega))
  refine kpf (pc' := 63) I A0 g F rfl rfl rfl (Nat.le_of_ble_eq_true rfl) (fun _ => ⟨rfl, rfl⟩) rfl rfl rfl fun h14 S14 I B0 g E F => ?_
  have A1 := (E (99) (by decide)).trans A1
  have A2 := (E (100) (by decide)).trans A2
  have A3 := (E (101) (by decide)).trans A3
  have A4 := (E (102) (by decide)).trans A4
  have A5 := (E (103) (by decide)).trans A5
  have A6 := (E (104) (by decide)).trans A6
  have A7 := (E (105) (by decide)).trans A7
  have A0 := B0; have P : ∀ j, ¬ j = 0 → j < 98 → S14 j = S j := fun j j0 ja => (E j (by omega)).trans (P j j0 ja)
  refine jx (pc' := 67) (L' := [_, _]) (st' := [.int (nI 130), _]) 2 rfl ?_
  refine kna (pc' := 69) (z := 130) (t := 0) (cc := cI 0 130 fun _ => 0) I g F rfl rfl rfl (by decide) (Or.inl ⟨rfl, rfl⟩) rfl (by omega) (by omega) fun h15 S15 I g A8 E F => ?_
  have A0 := (E (98) (by decide) (by decide)).trans A0
  have A1 := (E (99) (by decide) (by decide)).trans A1
  have A2 := (E (100) (by decide) (by decide)).trans A2
  have A3 := (E (101) (by decide) (by decide)).trans A3
  have A4 := (E (102) (by decide) (by decide)).trans A4
  have A5 := (E (103) (by decide) (by decide)).trans A5
  have A6 := (E (104) (by decide) (by decide)).trans A6
  have A7 := (E (105) (by decide) (by decide)).trans A7
  have P : ∀ j, ¬ j = 0 → j < 98 → S15 j = S j := fun j j0 ja => (E j j0 (by omega)).trans (P j j0 ja)
  have g : S15 0 = aG (107) (m + 26188) e := g.trans (aG_c (by omega) (by omega))
  refine kpf (pc' := 72) I A0 g F rfl rfl rfl (Nat.le_of_ble_eq_true rfl) (fun _ => ⟨rfl, rfl⟩) rfl rfl rfl fun h16 S16 I B0 g E F => ?_
  have A1 := (E (99) (by decide)).trans A1
  have A2 := (E (100) (by decide)).trans A2
  have A3 := (E (101) (by decide)).trans A3
  have A4 := (E (102) (by decide)).trans A4
  have A5 := (E (103) (by decide)).trans A5
  have A6 := (E (104) (by decide)).trans A6
  have A7 := (E (105) (by decide)).trans A7
  have A8 := (E (106) (by decide)).trans A8
  have A0 := B0; have P : ∀ j, ¬ j = 0 → j < 98 → S16 j = S j := fun j j0 ja => (E j (by omega)).trans (P j j0 ja)
  refine jx (pc' := 76) (L' := [_, _]) (st' := [.int (nI 130), _]) 2 rfl ?_
  refine kna (pc' := 78) (z := 130) (t := 0) (cc := cI 0 130 fun _ => 0) I g F rfl rfl rfl (by decide) (Or.inl ⟨rfl, rfl⟩) rfl (by omega) (by omega) fun h17 S17 I g A9 E F => ?_
  have A0 := (E (98) (by decide) (by decide)).trans A0
  have A1 := (E (99) (by decide) (by decide)).trans A1
  have A2 := (E (100) (by decide) (by decide)).trans A2
  have A3 := (E (101) (by decide) (by decide)).trans A3
  have A4 := (E (102) (by decide) (by decide)).trans A4
  have A5 := (E (103) (by decide) (by decide)).trans A5
  have A6 := (E (104) (by decide) (by decide)).trans A6
  have A7 := (E (105) (by decide) (by decide)).trans A7
  have A8 := (E (106) (by decide) (by decide)).trans A8
  have P : ∀ j, ¬ j = 0 → j < 98 → S17 j = S j := fun j j0 ja => (E j j0 (by omega)).trans (P j j0 ja)
  have g : S17 0 = aG (108) (m + 26318) e := g.trans (aG_c (by omega) (by omega))
  refine kpf (pc' := 81) I A0 g F rfl rfl rfl (Nat.le_of_ble_eq_true rfl) (fun _ => ⟨rfl, rfl⟩) rfl rfl rfl fun h18 S18 I B0 g E F => ?_
  have A1 := (E (99) (by decide)).trans A1
  have A2 := (E (100) (by decide)).trans A2
  have A3 := (E (101) (by decide)).trans A3
  have A4 := (E (102) (by decide)).trans A4
  have A5 := (E (103) (by decide)).trans A5
  have A6 := (E (104) (by decide)).trans A6
  have A7 := (E (105) (by decide)).trans A7
  have A8 := (E (106) (by decide)).trans A8
  have A9 := (E (107) (by decide)).trans A9
  have A0 := B0; have P : ∀ j, ¬ j = 0 → j < 98 → S18 j = S j := fun j j0 ja => (E j (by omega)).trans (P j j0 ja)
  refine jx (pc' := 83) (L' := [_, _]) (st' := [.int (nI 4), _]) 2 rfl ?_
  refine kna (pc' := 85) (z := 4) (t := 0) (cc := cL 4 fun _ => 0) I g F rfl rfl rfl (by decide) (Or.inr (Or.inr (Or.inr ⟨rfl, rfl⟩))) rfl (by omega) (by omega) fun h19 S19 I g A10 E F => ?_
  have A0 := (E (98) (by decide) (by decide)).trans A0
  have A1 := (E (99) (by decide) (by decide)).trans A1
  have A2 := (E (100) (by decide) (by decide)).trans A2
  have A3 := (E (101) (by decide) (by decide)).trans A3
  have A4 := (E (102) (by decide) (by decide)).trans A4
  have A5 := (E (103) (by decide) (by decide)).trans A5
  have A6 := (E (104) (by decide) (by decide)).trans A6
  have A7 := (E (105) (by decide) (by decide)).trans A7
  have A8 := (E (106) (by decide) (by decide)).trans A8
  have A9 := (E (107) (by decide) (by decide)).trans A9
  have P : ∀ j, ¬ j = 0 → j < 98 → S19 j = S j := fun j j0 ja => (E j j0 (by omega)).trans (P j j0 ja)
  have g : S19 0 = aG (109) (m + 26322) e := g.trans (aG_c (by omega) (by omega))
  refine kpf (pc' := 88) I A0 g F rfl rfl rfl (Nat.le_of_ble_eq_true rfl) (fun _ => ⟨rfl, rfl⟩) rfl rfl rfl fun h20 S20 I B0 g E F => ?_
  have A1 := (E (99) (by decide)).trans A1
  have A2 := (E (100) (by decide)).trans A2
  have A3 := (E (101) (by decide)).trans A3
  have A4 := (E (102) (by decide)).trans A4
  have A5 := (E (103) (by decide)).trans A5
  have A6 := (E (104) (by decide)).trans A6
  have A7 := (E (105) (by decide)).trans A7
  have A8 := (E (106) (by decide)).trans A8
  have A9 := (E (107) (by decide)).trans A9
  have A10 := (E (108) (by decide)).trans A10
  have A0 := B0; have P : ∀ j, ¬ j = 0 → j < 98 → S20 j = S j := fun j j0 ja => (E j (by omega)).trans (P j j0 ja)
  refine jx (pc' := 91) (L' := [_, _]) (st' := [.int (nI 120), _]) 2 rfl ?_
  refine kna (pc' := 93) (z := 120) (t := 0) (cc := cI 0 120 fun _ => 0) I g F rfl rfl rfl (by decide) (Or.inl ⟨rfl, rfl⟩) rfl (by omega) (by omega) fun h21 S21 I g A11 E F => ?_
  have A0 := (E (98) (by decide) (by decide)).trans A0
  have A1 := (E (99) (by decide) (by decide)).trans A1
  have A2 := (E (100) (by decide) (by decide)).trans A2
  have A3 := (E (101) (by decide) (by decide)).trans A3
  have A4 := (E (102) (by decide) (by decide)).trans A4
  have A5 := (E (103) (by decide) (by decide)).trans A5
  have A6 := (E (104) (by decide) (by decide)).trans A6
  have A7 := (E (105) (by decide) (by decide)).trans A7
  have A8 := (E (106) (by decide) (by decide)).trans A8
  have A9 := (E (107) (by decide) (by decide)).trans A9
  have A10 := (E (108) (by decide) (by decide)).trans A10
  have P : ∀ j, ¬ j = 0 → j < 98 → S21 j = S j := fun j j0 ja => (E j j0 (by omega)).trans (P j j0 ja)
  have g : S21 0 = aG (110) (m + 26442) e := g.trans (aG_c (by omega) (by omega))
  refine kpf (pc' := 96) I A0 g F rfl rfl rfl (Nat.le_of_ble_eq_true rfl) (fun _ => ⟨rfl, rfl⟩) rfl rfl rfl fun h22 S22 I B0 g E F => ?_
  have A1 := (E (99) (by decide)).trans A1
  have A2 := (E (100) (by decide)).trans A2
  have A3 := (E (101) (by decide)).trans A3
  have A4 := (E (102) (by decide)).trans A4
  have A5 := (E (103) (by decide)).trans A5
  have A6 := (E (104) (by decide)).trans A6
  have A7 := (E (105) (by decide)).trans A7
  have A8 := (E (106) (by decide)).trans A8
  have A9 := (E (107) (by decide)).trans A9
  have A10 := (E (108) (by decide)).trans A10
  have A11 := (E (109) (by decide)).trans A11
  have A0 := B0; have P : ∀ j, ¬ j = 0 → j < 98 → S22 j = S j := fun j j0 ja => (E j (by omega)).trans (P j j0 ja)
  refine jx (pc' := 99) (L' := [_, _]) (st' := [.int (nI 64), _]) 2 rfl ?_
  refine kna (pc' := 101) (z := 64) (t := 0) (cc := cI 0 64 fun _ => 0) I g F rfl rfl rfl (by decide) (Or.inl ⟨rfl, rfl⟩) rfl (by omega) (by omega) fun h23 S23 I g A12 E F => ?_
  have A0 := (E (98) (by decide) (by decide)).trans A0
  have A1 := (E (99) (by decide) (by decide)).trans A1
  have A2 := (E (100) (by decide) (by decide)).trans A2
  have A3 := (E (101) (by decide) (by decide)).trans A3
  have A4 := (E (102) (by decide) (by decide)).trans A4
  have A5 := (E (103) (by decide) (by decide)).trans A5
  have A6 := (E (104) (by decide) (by decide)).trans A6
  have A7 := (E (105) (by decide) (by decide)).trans A7
  have A8 := (E (106) (by decide) (by decide)).trans A8
  have A9 := (E (107) (by decide) (by decide)).trans A9
  have A10 := (E (108) (by decide) (by decide)).trans A10
  have A11 := (E (109) (by decide) (by decide)).trans A11
  have P : ∀ j, ¬ j = 0 → j < 98 → S23 j = S j := fun j j0 ja => (E j j0 (by omega)).trans (P j j0 ja)
  have g : S23 0 = aG (111) (m + 26506) e := g.trans (aG_c (by omega) (by omega))
  refine kpf (pc' := 104) I A0 g F rfl rfl rfl (Nat.le_of_ble_eq_true rfl) (fun _ => ⟨rfl, rfl⟩) rfl rfl rfl fun h24 S24 I B0 g E F => ?_
  have A1 := (E (99) (by decide)).trans A1
  have A2 := (E (100) (by decide)).trans A2
  have A3 := (E (101) (by decide)).trans A3
  have A4 := (E (102) (by decide)).trans A4
  have A5 := (E (103) (by decide)).trans A5
  have A6 := (E (104) (by decide)).trans A6
  have A7 := (E (105) (by decide)).trans A7
  have A8 := (E (106) (by decide)).trans A8
  have A9 := (E (107) (by decide)).trans A9
  have A10 := (E (108) (by decide)).trans A10
  have A11 := (E (109) (by decide)).trans A11
  have A12 := (E (110) (by decide)).trans A12
  have A0 := B0; have P : ∀ j, ¬ j = 0 → j < 98 → S24 j = S j := fun j j0 ja => (E j (by omega)).trans (P j j0 ja)
  refine jx (pc' := 106) (L' := [_, _]) (st' := []) 2 rfl ?_
  exact q _ _ I A0 A1 A2 A3 A4 A5 A6 A7 A8 A9 A10 A11 A12 g P F
def rgz : Dm := (0, 0, false, 0, 0)
theorem k_rl : ∀ (d k : Nat) (R : Nat → Dm) (h : ix_H), k + d = 9 → (RI S0 h R V cd dr ra si tr mo ng sp sz wr il rs pt rl wo tx ou) → (∀ i, i < k → R i = rg0) → (∀ i, k ≤ i → R i = rgz) → (∀ h' R', (∀ i, i < 9 → R' i = rg0) → (RI S0 h' (R') V cd dr ra si tr mo ng sp sz wr il rs pt rl wo tx ou) → Q (.inl none) h') → ix_E 163 106 [some (.ref 98), some (.int (zI (k : Int)))] [] h Q
  | 0, k, R, h, hk, K, a, b, q => by
    have e9 : k = 9 := by omega
    subst e9
    refine jx (pc' := 109) (L' := [_, _]) (st' := [.int (zI 9), _]) 2 rfl ?_
    refine jct (pc' := 125) rfl rfl rfl (by rw [zc_ge ⟨by omega, by omega⟩ ⟨by omega, by omega⟩]; exact decide_eq_true (by omega)) ?_
    refine ix_qr _ rfl rfl rfl ?_
    exact q _ _ a K
  | d + 1, k, R, h, hk, K, a, b, q => by
    refine jx (pc' := 109) (L' := [_, _]) (st' := [.int (zI 9), _]) 2 rfl ?_
    refine jcn (pc' := 112) 125 rfl rfl rfl rfl (by rw [zc_ge ⟨by omega, by omega⟩ ⟨by omega, by omega⟩]; exact decide_eq_false (by omega)) ?_
    refine jx (pc' := 113) (L' := [_, _]) (st' := [_]) 1 rfl ?_
    refine jgf (pc' := 116) K.ob rfl rfl rfl rfl rfl ?_
    refine jx (pc' := 118) (L' := [_, _]) (st' := [.int (zI 1), _, _]) 2 rfl ?_
    refine jW_f (pc' := 119) k 1 K (by first | rfl | (congr 1; omega)) rfl rfl (by omega) (by omega)  rfl (by omega) fun h K => ?_
    refine jx (pc' := 106) (L' := [_, _]) (st' := []) 2 rfl ?_
    try simp (disch := omega) only [kz, kzl0, kzl1, kzb, kzs, zI_add, zI_sub, zI_neg, zI_mul, zL_i, zI_l, zL_add, zL_sub, zL_neg]
    refine k_rl d (k + 1) _ h (by omega) K (fun i hi => ?_) (fun i hi => ?_) q
    · by_cases z : i = k
      · rw [z, va_up_self, b k (Nat.le_refl _)]
        rfl
      · rw [va_up_ne _ _ z]
        exact a i (by omega)
    · rw [va_up_ne _ _ (by omega)]
      exact b i (by omega)
theorem rv_z : RV rgz := ⟨by decide, by decide, by decide, by decide, Nat.pow_pos (by decide)⟩
theorem z0_m (k : Nat) : (0 : Nat) / 10 ^ k % 10 = 0 := by rw [Nat.zero_div]
/-- the reference's constructor -/
theorem k_reference (I : Inv h S) (A : S 98 = aC (cO 10 (ix_dv 10))) (g : S 0 = aG 99 m e) (F : Fr S 99) (h2 : m ≤ 50000) (q : ∀ h' S', S' 0 = aG 111 (m + 26506) e → (∀ j, ¬ j = 0 → j < 98 → S' j = S j) → Fr S' 111 → RK S' h' (fun _ => rg0) 0 0 0 0 0 0 (fun _ => 0) (fun _ => 0) → Q (.inl none) h') : ix_M 163 [.ref 98] h Q := by
  refine k_ref0 I A g F h2 fun h1 S1 I1 c98 c99 c100 c101 c102 c103 c104 c105 c106 c107 c108 c109 c110 g1 P1 F1 => ?_
  have K : RI S1 h1 (fun _ => rgz) 0 0 0 0 0 0 false false 0 0 0 false (fun _ => 0) (fun _ => 0) (fun _ => 0) (fun _ => 0) (fun _ => 0) (fun _ => 0) := by
    refine ⟨S1, I1, ag_0 _ _, c98, ⟨_, _, _, _, _, c99, c100, c101, c102, c103, fun r hr => ⟨rfl, rfl, rfl, rfl, fun k hk => ?_, rv_z⟩⟩, ⟨Nat.pow_pos (by decide), _, c104, fun k hk => ?_⟩, c105, c106, c107, c108, c109, c110⟩
    · show (0 : Int32) = zI (((0 : Nat) / 10 ^ k % 10 : Nat) : Int)
      rw [z0_m]
      rfl
    · show (0 : Int32) = zI (((0 : Nat) / 10 ^ k % 10 : Nat) : Int)
      rw [z0_m]
      rfl
  refine k_rl 9 0 _ _ rfl K (fun i hi => absurd hi (Nat.not_lt_zero i)) (fun i hi => rfl) fun h' R' a K' => q h' S1 g1 P1 F1 ⟨R', 0, a, K'.rj⟩
end NEW
