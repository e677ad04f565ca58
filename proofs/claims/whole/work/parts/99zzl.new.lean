/-! ===== arrays of references; the constructors of Arithmetic and DecimalBits (printed by gencon.py) ===== -/
section NEW
variable {mi pc pc' mj k idx : Nat} {i : Instr} {L L' : ix_L} {st st' rest as : List Value} {h h' : ix_H} {Q : ix_O → ix_H → Prop} {S : Nat → AC} {n m r : Nat} {e c : ix_C}
/-- anewarray -/
theorem kaa {z : Nat} {x : Int32} (I : Inv h S) (g : S 0 = aG n m e) (F : Fr S n) (hi : ix_ins mi pc = some (.anewarray k)) (ht : ix_thr mi pc = none) (hw : ix_anw (ix_o mi) k = true) (hx : x = nI z) (hz : z ≤ 26000) (hp : pc + 3 = pc') (h1 : n < 1000) (h2 : m + z ≤ 100000) (q : ∀ h' S', Inv h' S' → S' 0 = aG (n + 1) (m + z) e → S' n = aC (cA z fun _ => none) → (∀ j, ¬ j = 0 → ¬ j = n → S' j = S j) → Fr S' (n + 1) → ix_E mi pc' L (.ref n :: st) h' Q) : ix_E mi pc L (.int x :: st) h Q := by
  obtain ⟨_, g1, g2, g3⟩ := I.gh g
  have h32 := I.1.1
  have hcm := CM_e
  have hsm := SM_e
  have e1 := nI_clamp (n := z) (by omega)
  have e2 := nI_pos (n := z) (by omega)
  subst hx
  have I' := I.al (k := z) (c := cA z fun _ => none) g (F n (Nat.le_refl _)) ⟨show z ≤ 100000 by omega, show 4 < 5 by decide⟩
  have q' := q _ _ I' (by rw [va_up_ne _ _ (by omega), va_up_self]) (va_up_self _ _ _) (fun j a b => by rw [va_up_ne _ _ b, va_up_ne _ _ a]) (fun j hj => by
    rw [va_up_ne _ _ (by omega), va_up_ne _ _ (by omega)]
    exact F j (by omega))
  have hm1 : m + z ≤ ix_SM := by omega
  have hn1 : n < ix_CM := by omega
  refine jx1 (pc' := pc') (L' := L) (st' := .ref n :: st) ?_ q'
  rw [ix_s1_of hi rfl rfl ht]
  simp only [ix_x1, ix_nq, e1, hp, g1, g2]
  rw [if_pos ⟨hw, e2, by omega, hn1, hm1⟩]
/-- aastore -/
theorem ksA {x j z : Nat} {f : Nat → Option Nat} {fs : List Value} (I : Inv h S) (A : S r = aC (cA z f)) (X : S x = aC (cO 3 fs)) (hi : ix_ins mi pc = some .aastore) (ht : ix_thr mi pc = none) (hj : j < z) (hp : pc + 1 = pc') (q : ∀ h', Inv h' (va_up S r (aC (cA z (va_up f j (some x))))) → ix_E mi pc' L st h' Q) : ix_E mi pc L (.ref x :: .int (nI j) :: .ref r :: st) h Q := by
  obtain ⟨a1, a2, a3, a4⟩ := I.cl A
  obtain ⟨b1, b2, b3, b4⟩ := I.cl X
  have a4' : z ≤ 100000 ∧ 4 < 5 := a4
  have e1 := nI_clamp (n := j) (by omega)
  have e2 := nI_pos (n := j) (by omega)
  have I' := I.pc (c' := cA z (va_up f j (some x))) A a4
  refine jx1 (pc' := pc') (L' := L) (st' := st) (h' := ix_up h r (cA z (va_up f j (some x)))) ?_ (q _ I')
  rw [ix_s1_of hi rfl rfl ht]
  simp only [ix_x1, ix_sA, a1, b1, e1, hp]
  rw [if_pos ⟨trivial, rfl, a2, a3, b2, b3, e2, hj⟩]
theorem k_arithmetic (I : Inv h S) (A : S 34 = aC (cO 7 (ix_dv 7))) (g : S 0 = aG (35) m e) (F : Fr S (35)) (h2 : m ≤ 70000) (q : ∀ h' S', Inv h' S' → S' (34) = aC (arC 0) → S' (35) = aC (dC 35 1 0 false 0) → S' (36) = aN 0 → S' (38) = aC (uC 38 false false 0 0) → S' (39) = aN 0 → S' (41) = aC (uC 41 false false 0 0) → S' (42) = aN 0 → S' (44) = aC (cO 2 [.ref 45, .ref 46]) → S' (45) = aC (cI 0 17 fun _ => 0) → S' (46) = aC (cI 0 17 fun _ => 0) → S' (47) = aC (cO 6 [.ref 48]) → S' (48) = aN 0 → S' (50) = aN 0 → S' (52) = aN 0 → S' (54) = aN 0 → S' (56) = aN 0 → S' 0 = aG (58) (m + 188) e → (∀ j, ¬ j = 0 → j < 34 → S' j = S j) → Fr S' (58) → Q (.inl none) h') : ix_M 112 [.ref 34] h Q := by
  have A0 := A; have ha := (I.cl A).2.1; have P : ∀ j, ¬ j = 0 → j < 34 → S j = S j := fun _ _ _ => rfl
  refine jx (pc' := 1) (L' := [_]) (st' := [_]) 1 rfl ?_
  refine jobj (pc' := 4) rfl rfl rfl rfl rfl ?_
  refine jx (pc' := 5) (L' := [_]) (st' := [_]) 1 rfl ?_
  refine kno (pc' := 8) (ci := 3) I g F rfl rfl rfl (by decide) rfl (by omega) (by show m + 0 + 5 ≤ 100000; omega) fun h1 S1 I g A1 E F => ?_
  have g : S1 0 = aG (35 + 1) (m + 0 + 5) e := g
  have A0 := (E (34) (by decide) (by decide)).trans A0
  have P : ∀ j, ¬ j = 0 → j < 34 → S1 j = S j := fun j j0 ja => (E j j0 (by omega)).trans (P j j0 ja)
  have g : S1 0 = aG (36) (m + 5) e := g.trans (aG_c (by omega) (by omega))
  refine jx (pc' := 9) (L' := [_]) (st' := [_, _, _]) 1 rfl ?_
  refine jcv (pc' := 12) 77 [] [_, _] (I.ob A1) rfl rfl rfl rfl rfl rfl rfl rfl ?_
  refine k_datum (a := 35) I A1 g F (by omega) (by omega) fun h2 S2 I B1 B2 g E F => jk ?_
  have A0 := (E (34) (by decide) (by decide)).trans A0
  have A1 := B1
  have A2 := B2
  have P : ∀ j, ¬ j = 0 → j < 34 → S2 j = S j := fun j j0 ja => (E j j0 (by omega)).trans (P j j0 ja)
  have g : S2 0 = aG (38) (m + 22) e := g.trans (aG_c (by omega) (by omega))
  have F : Fr S2 (38) := fun j hj => F j (by omega)
  refine kpf (pc' := 15) I A0 g F rfl rfl rfl (Nat.le_of_ble_eq_true rfl) (fun _ => ⟨rfl, rfl⟩) rfl rfl rfl fun h3 S3 I B0 g E F => ?_
  have A1 := (E (35) (by decide)).trans A1
  have A2 := (E (36) (by decide)).trans A2
  have A0 := B0; have P : ∀ j, ¬ j = 0 → j < 34 → S3 j = S j := fun j j0 ja => (E j (by omega)).trans (P j j0 ja)
  refine jx (pc' := 17) (L' := [_]) (st' := [.long 0, _]) 2 rfl ?_
  refine kpf (pc' := 20) I A0 g F rfl rfl rfl (Nat.le_of_ble_eq_true rfl) (fun _ => ⟨rfl, rfl⟩) rfl rfl rfl fun h4 S4 I B0 g E F => ?_
  have A1 := (E (35) (by decide)).trans A1
  have A2 := (E (36) (by decide)).trans A2
  have A0 := B0; have P : ∀ j, ¬ j = 0 → j < 34 → S4 j = S j := fun j j0 ja => (E j (by omega)).trans (P j j0 ja)
  refine jx (pc' := 21) (L' := [_]) (st' := [_]) 1 rfl ?_
  refine kno (pc' := 24) (ci := 5) I g F rfl rfl rfl (by decide) rfl (by omega) (by show m + 22 + 5 ≤ 100000; omega) fun h5 S5 I g A4 E F => ?_
  have g : S5 0 = aG (38 + 1) (m + 22 + 5) e := g
  have A0 := (E (34) (by decide) (by decide)).trans A0
  have A1 := (E (35) (by decide) (by decide)).trans A1
  have A2 := (E (36) (by decide) (by decide)).trans A2
  have P : ∀ j, ¬ j = 0 → j < 34 → S5 j = S j := fun j j0 ja => (E j j0 (by omega)).trans (P j j0 ja)
  have g : S5 0 = aG (39) (m + 27) e := g.trans (aG_c (by omega) (by omega))
  refine jx (pc' := 25) (L' := [_]) (st' := [_, _, _]) 1 rfl ?_
  refine jcv (pc' := 28) 95 [] [_, _] (I.ob A4) rfl rfl rfl rfl rfl rfl rfl rfl ?_
  refine k_unrounded (a := 38) I A4 g F (by omega) (by omega) fun h6 S6 I B4 B5 g E F => jk ?_
  have A0 := (E (34) (by decide) (by decide)).trans A0
  have A1 := (E (35) (by decide) (by decide)).trans A1
  have A2 := (E (36) (by decide) (by decide)).trans A2
  have A4 := B4
  have A5 := B5
  have P : ∀ j, ¬ j = 0 → j < 34 → S6 j = S j := fun j j0 ja => (E j j0 (by omega)).trans (P j j0 ja)
  have g : S6 0 = aG (41) (m + 44) e := g.trans (aG_c (by omega) (by omega))
  have F : Fr S6 (41) := fun j hj => F j (by omega)
  refine kpf (pc' := 31) I A0 g F rfl rfl rfl (Nat.le_of_ble_eq_true rfl) (fun _ => ⟨rfl, rfl⟩) rfl rfl rfl fun h7 S7 I B0 g E F => ?_
  have A1 := (E (35) (by decide)).trans A1
  have A2 := (E (36) (by decide)).trans A2
  have A4 := (E (38) (by decide)).trans A4
  have A5 := (E (39) (by decide)).trans A5
  have A0 := B0; have P : ∀ j, ¬ j = 0 → j < 34 → S7 j = S j := fun j j0 ja => (E j (by omega)).trans (P j j0 ja)
  refine jx (pc' := 32) (L' := [_]) (st' := [_]) 1 rfl ?_
  refine kno (pc' := 35) (ci := 5) I g F rfl rfl rfl (by decide) rfl (by omega) (by show m + 44 + 5 ≤ 100000; omega) fun h8 S8 I g A7 E F => ?_
  have g : S8 0 = aG (41 + 1) (m + 44 + 5) e := g
  have A0 := (E (34) (by decide) (by decide)).trans A0
  have A1 := (E (35) (by decide) (by decide)).trans A1
  have A2 := (E (36) (by decide) (by decide)).trans A2
  have A4 := (E (38) (by decide) (by decide)).trans A4
  have A5 := (E (39) (by decide) (by decide)).trans A5
  have P : ∀ j, ¬ j = 0 → j < 34 → S8 j = S j := fun j j0 ja => (E j j0 (by omega)).trans (P j j0 ja)
  have g : S8 0 = aG (42) (m + 49) e := g.trans (aG_c (by omega) (by omega))
  refine jx (pc' := 36) (L' := [_]) (st' := [_, _, _]) 1 rfl ?_
  refine jcv (pc' := 39) 95 [] [_, _] (I.ob A7) rfl rfl rfl rfl rfl rfl rfl rfl ?_
  refine k_unrounded (a := 41) I A7 g F (by omega) (by omega) fun h9 S9 I B7 B8 g E F => jk ?_
  have A0 := (E (34) (by decide) (by decide)).trans A0
  have A1 := (E (35) (by decide) (by decide)).trans A1
  have A2 := (E (36) (by decide) (by decide)).trans A2
  have A4 := (E (38) (by decide) (by decide)).trans A4
  have A5 := (E (39) (by decide) (by decide)).trans A5
  have A7 := B7
  have A8 := B8
  have P : ∀ j, ¬ j = 0 → j < 34 → S9 j = S j := fun j j0 ja => (E j j0 (by omega)).trans (P j j0 ja)
  have g : S9 0 = aG (44) (m + 66) e := g.trans (aG_c (by omega) (by omega))
  have F : Fr S9 (44) := fun j hj => F j (by omega)
  refine kpf (pc' := 42) I A0 g F rfl rfl rfl (Nat.le_of_ble_eq_true rfl) (fun _ => ⟨rfl, rfl⟩) rfl rfl rfl fun h10 S10 I B0 g E F => ?_
  have A1 := (E (35) (by decide)).trans A1
  have A2 := (E (36) (by decide)).trans A2
  have A4 := (E (38) (by decide)).trans A4
  have A5 := (E (39) (by decide)).trans A5
  have A7 := (E (41) (by decide)).trans A7
  have A8 := (E (42) (by decide)).trans A8
  have A0 := B0; have P : ∀ j, ¬ j = 0 → j < 34 → S10 j = S j := fun j j0 ja => (E j (by omega)).trans (P j j0 ja)
  refine jx (pc' := 43) (L' := [_]) (st' := [_]) 1 rfl ?_
  refine kno (pc' := 46) (ci := 2) I g F rfl rfl rfl (by decide) rfl (by omega) (by show m + 66 + 2 ≤ 100000; omega) fun h11 S11 I g A10 E F => ?_
  have g : S11 0 = aG (44 + 1) (m + 66 + 2) e := g
  have A0 := (E (34) (by decide) (by decide)).trans A0
  have A1 := (E (35) (by decide) (by decide)).trans A1
  have A2 := (E (36) (by decide) (by decide)).trans A2
  have A4 := (E (38) (by decide) (by decide)).trans A4
  have A5 := (E (39) (by decide) (by decide)).trans A5
  have A7 := (E (41) (by decide) (by decide)).trans A7
  have A8 := (E (42) (by decide) (by decide)).trans A8
  have P : ∀ j, ¬ j = 0 → j < 34 → S11 j = S j := fun j j0 ja => (E j j0 (by omega)).trans (P j j0 ja)
  have g : S11 0 = aG (45) (m + 68) e := g.trans (aG_c (by omega) (by omega))
  refine jx (pc' := 47) (L' := [_]) (st' := [_, _, _]) 1 rfl ?_
  refine jcv (pc' := 50) 71 [] [_, _] (I.ob A10) rfl rfl rfl rfl rfl rfl rfl rfl ?_
  refine k_divider (a := 44) I A10 g F (by omega) (by omega) fun h12 S12 I B10 B11 B12 g E F => jk ?_
  have A0 := (E (34) (by decide) (by decide)).trans A0
  have A1 := (E (35) (by decide) (by decide)).trans A1
  have A2 := (E (36) (by decide) (by decide)).trans A2
  have A4 := (E (38) (by decide) (by decide)).trans A4
  have A5 := (E (39) (by decide) (by decide)).trans A5
  have A7 := (E (41) (by decide) (by decide)).trans A7
  have A8 := (E (42) (by decide) (by decide)).trans A8
  have A10 := B10
  have A11 := B11
  have A12 := B12
  have P : ∀ j, ¬ j = 0 → j < 34 → S12 j = S j := fun j j0 ja => (E j j0 (by omega)).trans (P j j0 ja)
  have g : S12 0 = aG (47) (m + 102) e := g.trans (aG_c (by omega) (by omega))
  have F : Fr S12 (47) := fun j hj => F j (by omega)
  refine kpf (pc' := 53) I A0 g F rfl rfl rfl (Nat.le_of_ble_eq_true rfl) (fun _ => ⟨rfl, rfl⟩) rfl rfl rfl fun h13 S13 I B0 g E F => ?_
  have A1 := (E (35) (by decide)).trans A1
  have A2 := (E (36) (by decide)).trans A2
  have A4 := (E (38) (by decide)).trans A4
  have A5 := (E (39) (by decide)).trans A5
  have A7 := (E (41) (by decide)).trans A7
  have A8 := (E (42) (by decide)).trans A8
  have A10 := (E (44) (by decide)).trans A10
  have A11 := (E (45) (by decide)).trans A11
  have A12 := (E (46) (by decide)).trans A12
  have A0 := B0; have P : ∀ j, ¬ j = 0 → j < 34 → S13 j = S j := fun j j0 ja => (E j (by omega)).trans (P j j0 ja)
  refine jx (pc' := 54) (L' := [_]) (st' := [_]) 1 rfl ?_
  refine kno (pc' := 57) (ci := 6) I g F rfl rfl rfl (by decide) rfl (by omega) (by show m + 102 + 1 ≤ 100000; omega) fun h14 S14 I g A13 E F => ?_
  have g : S14 0 = aG (47 + 1) (m + 102 + 1) e := g
  have A0 := (E (34) (by decide) (by decide)).trans A0
  have A1 := (E (35) (by decide) (by decide)).trans A1
  have A2 := (E (36) (by decide) (by decide)).trans A2
  have A4 := (E (38) (by decide) (by decide)).trans A4
  have A5 := (E (39) (by decide) (by decide)).trans A5
  have A7 := (E (41) (by decide) (by decide)).trans A7
  have A8 := (E (42) (by decide) (by decide)).trans A8
  have A10 := (E (44) (by decide) (by decide)).trans A10
  have A11 := (E (45) (by decide) (by decide)).trans A11
  have A12 := (E (46) (by decide) (by decide)).trans A12
  have P : ∀ j, ¬ j = 0 → j < 34 → S14 j = S j := fun j j0 ja => (E j j0 (by omega)).trans (P j j0 ja)
  have g : S14 0 = aG (48) (m + 103) e := g.trans (aG_c (by omega) (by omega))
  refine jx (pc' := 58) (L' := [_]) (st' := [_, _, _]) 1 rfl ?_
  refine jcv (pc' := 61) 107 [] [_, _] (I.ob A13) rfl rfl rfl rfl rfl rfl rfl rfl ?_
  refine k_comparison (a := 47) I A13 g F (by omega) (by omega) fun h15 S15 I B13 B14 g E F => jk ?_
  have A0 := (E (34) (by decide) (by decide)).trans A0
  have A1 := (E (35) (by decide) (by decide)).trans A1
  have A2 := (E (36) (by decide) (by decide)).trans A2
  have A4 := (E (38) (by decide) (by decide)).trans A4
  have A5 := (E (39) (by decide) (by decide)).trans A5
  have A7 := (E (41) (by decide) (by decide)).trans A7
  have A8 := (E (42) (by decide) (by decide)).trans A8
  have A10 := (E (44) (by decide) (by decide)).trans A10
  have A11 := (E (45) (by decide) (by decide)).trans A11
  have A12 := (E (46) (by decide) (by decide)).trans A12
  have A13 := B13
  have A14 := B14
  have P : ∀ j, ¬ j = 0 → j < 34 → S15 j = S j := fun j j0 ja => (E j j0 (by omega)).trans (P j j0 ja)
  have g : S15 0 = aG (50) (m + 120) e := g.trans (aG_c (by omega) (by omega))
  have F : Fr S15 (50) := fun j hj => F j (by omega)
  refine kpf (pc' := 64) I A0 g F rfl rfl rfl (Nat.le_of_ble_eq_true rfl) (fun _ => ⟨rfl, rfl⟩) rfl rfl rfl fun h16 S16 I B0 g E F => ?_
  have A1 := (E (35) (by decide)).trans A1
  have A2 := (E (36) (by decide)).trans A2
  have A4 := (E (38) (by decide)).trans A4
  have A5 := (E (39) (by decide)).trans A5
  have A7 := (E (41) (by decide)).trans A7
  have A8 := (E (42) (by decide)).trans A8
  have A10 := (E (44) (by decide)).trans A10
  have A11 := (E (45) (by decide)).trans A11
  have A12 := (E (46) (by decide)).trans A12
  have A13 := (E (47) (by decide)).trans A13
  have A14 := (E (48) (by decide)).trans A14
  have A0 := B0; have P : ∀ j, ¬ j = 0 → j < 34 → S16 j = S j := fun j j0 ja => (E j (by omega)).trans (P j j0 ja)
  refine jx (pc' := 65) (L' := [_]) (st' := [_]) 1 rfl ?_
  refine kno (pc' := 68) (ci := 1) I g F rfl rfl rfl (by decide) rfl (by omega) (by show m + 120 + 1 ≤ 100000; omega) fun h17 S17 I g A16 E F => ?_
  have g : S17 0 = aG (50 + 1) (m + 120 + 1) e := g
  have A0 := (E (34) (by decide) (by decide)).trans A0
  have A1 := (E (35) (by decide) (by decide)).trans A1
  have A2 := (E (36) (by decide) (by decide)).trans A2
  have A4 := (E (38) (by decide) (by decide)).trans A4
  have A5 := (E (39) (by decide) (by decide)).trans A5
  have A7 := (E (41) (by decide) (by decide)).trans A7
  have A8 := (E (42) (by decide) (by decide)).trans A8
  have A10 := (E (44) (by decide) (by decide)).trans A10
  have A11 := (E (45) (by decide) (by decide)).trans A11
  have A12 := (E (46) (by decide) (by decide)).trans A12
  have A13 := (E (47) (by decide) (by decide)).trans A13
  have A14 := (E (48) (by decide) (by decide)).trans A14
  have P : ∀ j, ¬ j = 0 → j < 34 → S17 j = S j := fun j j0 ja => (E j j0 (by omega)).trans (P j j0 ja)
  have g : S17 0 = aG (51) (m + 121) e := g.trans (aG_c (by omega) (by omega))
  refine jx (pc' := 69) (L' := [_]) (st' := [_, _, _]) 1 rfl ?_
  refine jcv (pc' := 72) 47 [] [_, _] (I.ob A16) rfl rfl rfl rfl rfl rfl rfl rfl ?_
  refine k_natural (a := 50) I A16 g F (by omega) (by omega) fun h18 S18 I B16 g E F => jk ?_
  have A0 := (E (34) (by decide) (by decide)).trans A0
  have A1 := (E (35) (by decide) (by decide)).trans A1
  have A2 := (E (36) (by decide) (by decide)).trans A2
  have A4 := (E (38) (by decide) (by decide)).trans A4
  have A5 := (E (39) (by decide) (by decide)).trans A5
  have A7 := (E (41) (by decide) (by decide)).trans A7
  have A8 := (E (42) (by decide) (by decide)).trans A8
  have A10 := (E (44) (by decide) (by decide)).trans A10
  have A11 := (E (45) (by decide) (by decide)).trans A11
  have A12 := (E (46) (by decide) (by decide)).trans A12
  have A13 := (E (47) (by decide) (by decide)).trans A13
  have A14 := (E (48) (by decide) (by decide)).trans A14
  have A16 := B16
  have P : ∀ j, ¬ j = 0 → j < 34 → S18 j = S j := fun j j0 ja => (E j j0 (by omega)).trans (P j j0 ja)
  have g : S18 0 = aG (52) (m + 137) e := g.trans (aG_c (by omega) (by omega))
  have F : Fr S18 (52) := fun j hj => F j (by omega)
  refine kpf (pc' := 75) I A0 g F rfl rfl rfl (Nat.le_of_ble_eq_true rfl) (fun _ => ⟨rfl, rfl⟩) rfl rfl rfl fun h19 S19 I B0 g E F => ?_
  have A1 := (E (35) (by decide)).trans A1
  have A2 := (E (36) (by decide)).trans A2
  have A4 := (E (38) (by decide)).trans A4
  have A5 := (E (39) (by decide)).trans A5
  have A7 := (E (41) (by decide)).trans A7
  have A8 := (E (42) (by decide)).trans A8
  have A10 := (E (44) (by decide)).trans A10
  have A11 := (E (45) (by decide)).trans A11
  have A12 := (E (46) (by decide)).trans A12
  have A13 := (E (47) (by decide)).trans A13
  have A14 := (E (48) (by decide)).trans A14
  have A16 := (E (50) (by decide)).trans A16
  have A0 := B0; have P : ∀ j, ¬ j = 0 → j < 34 → S19 j = S j := fun j j0 ja => (E j (by omega)).trans (P j j0 ja)
  refine jx (pc' := 76) (L' := [_]) (st' := [_]) 1 rfl ?_
  refine kno (pc' := 79) (ci := 1) I g F rfl rfl rfl (by decide) rfl (by omega) (by show m + 137 + 1 ≤ 100000; omega) fun h20 S20 I g A18 E F => ?_
  have g : S20 0 = aG (52 + 1) (m + 137 + 1) e := g
  have A0 := (E (34) (by decide) (by decide)).trans A0
  have A1 := (E (35) (by decide) (by decide)).trans A1
  have A2 := (E (36) (by decide) (by decide)).trans A2
  have A4 := (E (38) (by decide) (by decide)).trans A4
  have A5 := (E (39) (by decide) (by decide)).trans A5
  have A7 := (E (41) (by decide) (by decide)).trans A7
  have A8 := (E (42) (by decide) (by decide)).trans A8
  have A10 := (E (44) (by decide) (by decide)).trans A10
  have A11 := (E (45) (by decide) (by decide)).trans A11
  have A12 := (E (46) (by decide) (by decide)).trans A12
  have A13 := (E (47) (by decide) (by decide)).trans A13
  have A14 := (E (48) (by decide) (by decide)).trans A14
  have A16 := (E (50) (by decide) (by decide)).trans A16
  have P : ∀ j, ¬ j = 0 → j < 34 → S20 j = S j := fun j j0 ja => (E j j0 (by omega)).trans (P j j0 ja)
  have g : S20 0 = aG (53) (m + 138) e := g.trans (aG_c (by omega) (by omega))
  refine jx (pc' := 80) (L' := [_]) (st' := [_, _, _]) 1 rfl ?_
  refine jcv (pc' := 83) 47 [] [_, _] (I.ob A18) rfl rfl rfl rfl rfl rfl rfl rfl ?_
  refine k_natural (a := 52) I A18 g F (by omega) (by omega) fun h21 S21 I B18 g E F => jk ?_
  have A0 := (E (34) (by decide) (by decide)).trans A0
  have A1 := (E (35) (by decide) (by decide)).trans A1
  have A2 := (E (36) (by decide) (by decide)).trans A2
  have A4 := (E (38) (by decide) (by decide)).trans A4
  have A5 := (E (39) (by decide) (by decide)).trans A5
  have A7 := (E (41) (by decide) (by decide)).trans A7
  have A8 := (E (42) (by decide) (by decide)).trans A8
  have A10 := (E (44) (by decide) (by decide)).trans A10
  have A11 := (E (45) (by decide) (by decide)).trans A11
  have A12 := (E (46) (by decide) (by decide)).trans A12
  have A13 := (E (47) (by decide) (by decide)).trans A13
  have A14 := (E (48) (by decide) (by decide)).trans A14
  have A16 := (E (50) (by decide) (by decide)).trans A16
  have A18 := B18
  have P : ∀ j, ¬ j = 0 → j < 34 → S21 j = S j := fun j j0 ja => (E j j0 (by omega)).trans (P j j0 ja)
  have g : S21 0 = aG (54) (m + 154) e := g.trans (aG_c (by omega) (by omega))
  have F : Fr S21 (54) := fun j hj => F j (by omega)
  refine kpf (pc' := 86) I A0 g F rfl rfl rfl (Nat.le_of_ble_eq_true rfl) (fun _ => ⟨rfl, rfl⟩) rfl rfl rfl fun h22 S22 I B0 g E F => ?_
  have A1 := (E (35) (by decide)).trans A1
  have A2 := (E (36) (by decide)).trans A2
  have A4 := (E (38) (by decide)).trans A4
  have A5 := (E (39) (by decide)).trans A5
  have A7 := (E (41) (by decide)).trans A7
  have A8 := (E (42) (by decide)).trans A8
  have A10 := (E (44) (by decide)).trans A10
  have A11 := (E (45) (by decide)).trans A11
  have A12 := (E (46) (by decide)).trans A12
  have A13 := (E (47) (by decide)).trans A13
  have A14 := (E (48) (by decide)).trans A14
  have A16 := (E (50) (by decide)).trans A16
  have A18 := (E (52) (by decide)).trans A18
  have A0 := B0; have P : ∀ j, ¬ j = 0 → j < 34 → S22 j = S j := fun j j0 ja => (E j (by omega)).trans (P j j0 ja)
  refine jx (pc' := 87) (L' := [_]) (st' := [_]) 1 rfl ?_
  refine kno (pc' := 90) (ci := 1) I g F rfl rfl rfl (by decide) rfl (by omega) (by show m + 154 + 1 ≤ 100000; omega) fun h23 S23 I g A20 E F => ?_
  have g : S23 0 = aG (54 + 1) (m + 154 + 1) e := g
  have A0 := (E (34) (by decide) (by decide)).trans A0
  have A1 := (E (35) (by decide) (by decide)).trans A1
  have A2 := (E (36) (by decide) (by decide)).trans A2
  have A4 := (E (38) (by decide) (by decide)).trans A4
  have A5 := (E (39) (by decide) (by decide)).trans A5
  have A7 := (E (41) (by decide) (by decide)).trans A7
  have A8 := (E (42) (by decide) (by decide)).trans A8
  have A10 := (E (44) (by decide) (by decide)).trans A10
  have A11 := (E (45) (by decide) (by decide)).trans A11
  have A12 := (E (46) (by decide) (by decide)).trans A12
  have A13 := (E (47) (by decide) (by decide)).trans A13
  have A14 := (E (48) (by decide) (by decide)).trans A14
  have A16 := (E (50) (by decide) (by decide)).trans A16
  have A18 := (E (52) (by decide) (by decide)).trans A18
  have P : ∀ j, ¬ j = 0 → j < 34 → S23 j = S j := fun j j0 ja => (E j j0 (by omega)).trans (P j j0 ja)
  have g : S23 0 = aG (55) (m + 155) e := g.trans (aG_c (by omega) (by omega))
  refine jx (pc' := 91) (L' := [_]) (st' := [_, _, _]) 1 rfl ?_
  refine jcv (pc' := 94) 47 [] [_, _] (I.ob A20) rfl rfl rfl rfl rfl rfl rfl rfl ?_
  refine k_natural (a := 54) I A20 g F (by omega) (by omega) fun h24 S24 I B20 g E F => jk ?_
  have A0 := (E (34) (by decide) (by decide)).trans A0
  have A1 := (E (35) (by decide) (by decide)).trans A1
  have A2 := (E (36) (by decide) (by decide)).trans A2
  have A4 := (E (38) (by decide) (by decide)).trans A4
  have A5 := (E (39) (by decide) (by decide)).trans A5
  have A7 := (E (41) (by decide) (by decide)).trans A7
  have A8 := (E (42) (by decide) (by decide)).trans A8
  have A10 := (E (44) (by decide) (by decide)).trans A10
  have A11 := (E (45) (by decide) (by decide)).trans A11
  have A12 := (E (46) (by decide) (by decide)).trans A12
  have A13 := (E (47) (by decide) (by decide)).trans A13
  have A14 := (E (48) (by decide) (by decide)).trans A14
  have A16 := (E (50) (by decide) (by decide)).trans A16
  have A18 := (E (52) (by decide) (by decide)).trans A18
  have A20 := B20
  have P : ∀ j, ¬ j = 0 → j < 34 → S24 j = S j := fun j j0 ja => (E j j0 (by omega)).trans (P j j0 ja)
  have g : S24 0 = aG (56) (m + 171) e := g.trans (aG_c (by omega) (by omega))
  have F : Fr S24 (56) := fun j hj => F j (by omega)
  refine kpf (pc' := 97) I A0 g F rfl rfl rfl (Nat.le_of_ble_eq_true rfl) (fun _ => ⟨rfl, rfl⟩) rfl rfl rfl fun h25 S25 I B0 g E F => ?_
  have A1 := (E (35) (by decide)).trans A1
  have A2 := (E (36) (by decide)).trans A2
  have A4 := (E (38) (by decide)).trans A4
  have A5 := (E (39) (by decide)).trans A5
  have A7 := (E (41) (by decide)).trans A7
  have A8 := (E (42) (by decide)).trans A8
  have A10 := (E (44) (by decide)).trans A10
  have A11 := (E (45) (by decide)).trans A11
  have A12 := (E (46) (by decide)).trans A12
  have A13 := (E (47) (by decide)).trans A13
  have A14 := (E (48) (by decide)).trans A14
  have A16 := (E (50) (by decide)).trans A16
  have A18 := (E (52) (by decide)).trans A18
  have A20 := (E (54) (by decide)).trans A20
  have A0 := B0; have P : ∀ j, ¬ j = 0 → j < 34 → S25 j = S j := fun j j0 ja => (E j (by omega)).trans (P j j0 ja)
  refine jx (pc' := 98) (L' := [_]) (st' := [_]) 1 rfl ?_
  refine kno (pc' := 101) (ci := 1) I g F rfl rfl rfl (by decide) rfl (by omega) (by show m + 171 + 1 ≤ 100000; omega) fun h26 S26 I g A22 E F => ?_
  have g : S26 0 = aG (56 + 1) (m + 171 + 1) e := g
  have A0 := (E (34) (by decide) (by decide)).trans A0
  have A1 := (E (35) (by decide) (by decide)).trans A1
  have A2 := (E (36) (by decide) (by decide)).trans A2
  have A4 := (E (38) (by decide) (by decide)).trans A4
  have A5 := (E (39) (by decide) (by decide)).trans A5
  have A7 := (E (41) (by decide) (by decide)).trans A7
  have A8 := (E (42) (by decide) (by decide)).trans A8
  have A10 := (E (44) (by decide) (by decide)).trans A10
  have A11 := (E (45) (by decide) (by decide)).trans A11
  have A12 := (E (46) (by decide) (by decide)).trans A12
  have A13 := (E (47) (by decide) (by decide)).trans A13
  have A14 := (E (48) (by decide) (by decide)).trans A14
  have A16 := (E (50) (by decide) (by decide)).trans A16
  have A18 := (E (52) (by decide) (by decide)).trans A18
  have A20 := (E (54) (by decide) (by decide)).trans A20
  have P : ∀ j, ¬ j = 0 → j < 34 → S26 j = S j := fun j j0 ja => (E j j0 (by omega)).trans (P j j0 ja)
  have g : S26 0 = aG (57) (m + 172) e := g.trans (aG_c (by omega) (by omega))
  refine jx (pc' := 102) (L' := [_]) (st' := [_, _, _]) 1 rfl ?_
  refine jcv (pc' := 105) 47 [] [_, _] (I.ob A22) rfl rfl rfl rfl rfl rfl rfl rfl ?_
  refine k_natural (a := 56) I A22 g F (by omega) (by omega) fun h27 S27 I B22 g E F => jk ?_
  have A0 := (E (34) (by decide) (by decide)).trans A0
  have A1 := (E (35) (by decide) (by decide)).trans A1
  have A2 := (E (36) (by decide) (by decide)).trans A2
  have A4 := (E (38) (by decide) (by decide)).trans A4
  have A5 := (E (39) (by decide) (by decide)).trans A5
  have A7 := (E (41) (by decide) (by decide)).trans A7
  have A8 := (E (42) (by decide) (by decide)).trans A8
  have A10 := (E (44) (by decide) (by decide)).trans A10
  have A11 := (E (45) (by decide) (by decide)).trans A11
  have A12 := (E (46) (by decide) (by decide)).trans A12
  have A13 := (E (47) (by decide) (by decide)).trans A13
  have A14 := (E (48) (by decide) (by decide)).trans A14
  have A16 := (E (50) (by decide) (by decide)).trans A16
  have A18 := (E (52) (by decide) (by decide)).trans A18
  have A20 := (E (54) (by decide) (by decide)).trans A20
  have A22 := B22
  have P : ∀ j, ¬ j = 0 → j < 34 → S27 j = S j := fun j j0 ja => (E j j0 (by omega)).trans (P j j0 ja)
  have g : S27 0 = aG (58) (m + 188) e := g.trans (aG_c (by omega) (by omega))
  have F : Fr S27 (58) := fun j hj => F j (by omega)
  refine kpf (pc' := 108) I A0 g F rfl rfl rfl (Nat.le_of_ble_eq_true rfl) (fun _ => ⟨rfl, rfl⟩) rfl rfl rfl fun h28 S28 I B0 g E F => ?_
  have A1 := (E (35) (by decide)).trans A1
  have A2 := (E (36) (by decide)).trans A2
  have A4 := (E (38) (by decide)).trans A4
  have A5 := (E (39) (by decide)).trans A5
  have A7 := (E (41) (by decide)).trans A7
  have A8 := (E (42) (by decide)).trans A8
  have A10 := (E (44) (by decide)).trans A10
  have A11 := (E (45) (by decide)).trans A11
  have A12 := (E (46) (by decide)).trans A12
  have A13 := (E (47) (by decide)).trans A13
  have A14 := (E (48) (by decide)).trans A14
  have A16 := (E (50) (by decide)).trans A16
  have A18 := (E (52) (by decide)).trans A18
  have A20 := (E (54) (by decide)).trans A20
  have A22 := (E (56) (by decide)).trans A22
  have A0 := B0; have P : ∀ j, ¬ j = 0 → j < 34 → S28 j = S j := fun j j0 ja => (E j (by omega)).trans (P j j0 ja)
  refine ix_qr _ rfl rfl rfl ?_
  exact q _ _ I A0 A1 A2 A4 A5 A7 A8 A10 A11 A12 A13 A14 A16 A18 A20 A22 g P F
theorem k_dec0 (I : Inv h S) (A : S 32 = aC (cO 0 (ix_dv 0))) (g : S 0 = aG (33) m e) (F : Fr S (33)) (h2 : m ≤ 60000) (q : ∀ h' S', Inv h' S' → S' (32) = aC (cO 0 [.ref 33, .ref 34, .ref 58, .ref 61, .ref 65, .ref 69, .int (nI 0), .int (nI 0), .int (nI 0)]) → S' (33) = aC (cA 9 fun _ => none) → S' (34) = aC (arC 0) → S' (35) = aC (dC 35 1 0 false 0) → S' (36) = aN 0 → S' (38) = aC (uC 38 false false 0 0) → S' (39) = aN 0 → S' (41) = aC (uC 41 false false 0 0) → S' (42) = aN 0 → S' (44) = aC (cO 2 [.ref 45, .ref 46]) → S' (45) = aC (cI 0 17 fun _ => 0) → S' (46) = aC (cI 0 17 fun _ => 0) → S' (47) = aC (cO 6 [.ref 48]) → S' (48) = aN 0 → S' (50) = aN 0 → S' (52) = aN 0 → S' (54) = aN 0 → S' (56) = aN 0 → S' (58) = aC (cO 6 [.ref 59]) → S' (59) = aN 0 → S' (61) = aC bpC → S' (62) = aC (cI 0 4 fun _ => 0) → S' (63) = aN 0 → S' (65) = aC (trC 0 false 0 0 0) → S' (66) = aN 0 → S' (68) = aC (cI 2 120 fun _ => 0) → S' (69) = aC (cO 9 [.ref 70, .int (nI 0)]) → S' (70) = aC (cI 2 64 fun _ => 0) → S' 0 = aG (71) (m + 458) e → (∀ j, ¬ j = 0 → j < 32 → S' j = S j) → Fr S' (71) → ix_E 14 85 [some (.ref 32), some (.int (nI 0))] [] h' Q) : ix_M 14 [.ref 32] h Q := by
  have A0 := A; have ha := (I.cl A).2.1; have P : ∀ j, ¬ j = 0 → j < 32 → S j = S j := fun _ _ _ => rfl
  refine jx (pc' := 1) (L' := [_, _]) (st' := [_]) 1 rfl ?_
  refine jobj (pc' := 4) rfl rfl rfl rfl rfl ?_
  refine jx (pc' := 7) (L' := [_, _]) (st' := [.int (nI 9), _]) 2 rfl ?_
  refine kaa (pc' := 10) (z := 9) I g F rfl rfl rfl rfl (by decide) rfl (by omega) (by omega) fun h1 S1 I g A1 E F => ?_
  have A0 := (E (32) (by decide) (by decide)).trans A0
  have P : ∀ j, ¬ j = 0 → j < 32 → S1 j = S j := fun j j0 ja => (E j j0 (by omega)).trans (P j j0 ja)
  have g : S1 0 = aG (34) (m + 9) e := g.trans (aG_c (by omega) (by omega))
  refine kpf (pc' := 13) I A0 g F rfl rfl rfl (Nat.le_of_ble_eq_true rfl) (fun _ => ⟨rfl, rfl⟩) rfl rfl rfl fun h2 S2 I B0 g E F => ?_
  have A1 := (E (33) (by decide)).trans A1
  have A0 := B0; have P : ∀ j, ¬ j = 0 → j < 32 → S2 j = S j := fun j j0 ja => (E j (by omega)).trans (P j j0 ja)
  refine jx (pc' := 14) (L' := [_, _]) (st' := [_]) 1 rfl ?_
  refine kno (pc' := 17) (ci := 7) I g F rfl rfl rfl (by decide) rfl (by omega) (by show m + 9 + 10 ≤ 100000; omega) fun h3 S3 I g A2 E F => ?_
  have g : S3 0 = aG (34 + 1) (m + 9 + 10) e := g
  have A0 := (E (32) (by decide) (by decide)).trans A0
  have A1 := (E (33) (by decide) (by decide)).trans A1
  have P : ∀ j, ¬ j = 0 → j < 32 → S3 j = S j := fun j j0 ja => (E j j0 (by omega)).trans (P j j0 ja)
  have g : S3 0 = aG (35) (m + 19) e := g.trans (aG_c (by omega) (by omega))
  refine jx (pc' := 18) (L' := [_, _]) (st' := [_, _, _]) 1 rfl ?_
  refine jcv (pc' := 21) 112 [] [_, _] (I.ob A2) rfl rfl rfl rfl rfl rfl rfl rfl ?_
  refine k_arithmetic I A2 g F (by omega) fun h4 S4 I B2 B3 B4 B6 B7 B9 B10 B12 B13 B14 B15 B16 B18 B20 B22 B24 g E F => jk ?_
  have A0 := (E (32) (by decide) (by decide)).trans A0
  have A1 := (E (33) (by decide) (by decide)).trans A1
  have A2 := B2
  have A3 := B3
  have A4 := B4
  have A6 := B6
  have A7 := B7
  have A9 := B9
  have A10 := B10
  have A12 := B12
  have A13 := B13
  have A14 := B14
  have A15 := B15
  have A16 := B16
  have A18 := B18
  have A20 := B20
  have A22 := B22
  have A24 := B24
  have P : ∀ j, ¬ j = 0 → j < 32 → S4 j = S j := fun j j0 ja => (E j j0 (by omega)).trans (P j j0 ja)
  have g : S4 0 = aG (58) (m + 207) e := g.trans (aG_c (by omega) (by omega))
  have F : Fr S4 (58) := fun j hj => F j (by omega)
  refine kpf (pc' := 24) I A0 g F rfl rfl rfl (Nat.le_of_ble_eq_true rfl) (fun _ => ⟨rfl, rfl⟩) rfl rfl rfl fun h5 S5 I B0 g E F => ?_
  have A1 := (E (33) (by decide)).trans A1
  have A2 := (E (34) (by decide)).trans A2
  have A3 := (E (35) (by decide)).trans A3
  have A4 := (E (36) (by decide)).trans A4
  have A6 := (E (38) (by decide)).trans A6
  have A7 := (E (39) (by decide)).trans A7
  have A9 := (E (41) (by decide)).trans A9
  have A10 := (E (42) (by decide)).trans A10
  have A12 := (E (44) (by decide)).trans A12
  have A13 := (E (45) (by decide)).trans A13
  have A14 := (E (46) (by decide)).trans A14
  have A15 := (E (47) (by decide)).trans A15
  have A16 := (E (48) (by decide)).trans A16
  have A18 := (E (50) (by decide)).trans A18
  have A20 := (E (52) (by decide)).trans A20
  have A22 := (E (54) (by decide)).trans A22
  have A24 := (E (56) (by decide)).trans A24
  have A0 := B0; have P : ∀ j, ¬ j = 0 → j < 32 → S5 j = S j := fun j j0 ja => (E j (by omega)).trans (P j j0 ja)
  refine jx (pc' := 25) (L' := [_, _]) (st' := [_]) 1 rfl ?_
  refine kno (pc' := 28) (ci := 6) I g F rfl rfl rfl (by decide) rfl (by omega) (by show m + 207 + 1 ≤ 100000; omega) fun h6 S6 I g A26 E F => ?_
  have g : S6 0 = aG (58 + 1) (m + 207 + 1) e := g
  have A0 := (E (32) (by decide) (by decide)).trans A0
  have A1 := (E (33) (by decide) (by decide)).trans A1
  have A2 := (E (34) (by decide) (by decide)).trans A2
  have A3 := (E (35) (by decide) (by decide)).trans A3
  have A4 := (E (36) (by decide) (by decide)).trans A4
  have A6 := (E (38) (by decide) (by decide)).trans A6
  have A7 := (E (39) (by decide) (by decide)).trans A7
  have A9 := (E (41) (by decide) (by decide)).trans A9
  have A10 := (E (42) (by decide) (by decide)).trans A10
  have A12 := (E (44) (by decide) (by decide)).trans A12
  have A13 := (E (45) (by decide) (by decide)).trans A13
  have A14 := (E (46) (by decide) (by decide)).trans A14
  have A15 := (E (47) (by decide) (by decide)).trans A15
  have A16 := (E (48) (by decide) (by decide)).trans A16
  have A18 := (E (50) (by decide) (by decide)).trans A18
  have A20 := (E (52) (by decide) (by decide)).trans A20
  have A22 := (E (54) (by decide) (by decide)).trans A22
  have A24 := (E (56) (by decide) (by decide)).trans A24
  have P : ∀ j, ¬ j = 0 → j < 32 → S6 j = S j := fun j j0 ja => (E j j0 (by omega)).trans (P j j0 ja)
  have g : S6 0 = aG (59) (m + 208) e := g.trans (aG_c (by omega) (by omega))
  refine jx (pc' := 29) (L' := [_, _]) (st' := [_, _, _]) 1 rfl ?_
  refine jcv (pc' := 32) 107 [] [_, _] (I.ob A26) rfl rfl rfl rfl rfl rfl rfl rfl ?_
  refine k_comparison (a := 58) I A26 g F (by omega) (by omega) fun h7 S7 I B26 B27 g E F => jk ?_
  have A0 := (E (32) (by decide) (by decide)).trans A0
  have A1 := (E (33) (by decide) (by decide)).trans A1
  have A2 := (E (34) (by decide) (by decide)).trans A2
  have A3 := (E (35) (by decide) (by decide)).trans A3
  have A4 := (E (36) (by decide) (by decide)).trans A4
  have A6 := (E (38) (by decide) (by decide)).trans A6
  have A7 := (E (39) (by decide) (by decide)).trans A7
  have A9 := (E (41) (by decide) (by decide)).trans A9
  have A10 := (E (42) (by decide) (by decide)).trans A10
  have A12 := (E (44) (by decide) (by decide)).trans A12
  have A13 := (E (45) (by decide) (by decide)).trans A13
  have A14 := (E (46) (by decide) (by decide)).trans A14
  have A15 := (E (47) (by decide) (by decide)).trans A15
  have A16 := (E (48) (by decide) (by decide)).trans A16
  have A18 := (E (50) (by decide) (by decide)).trans A18
  have A20 := (E (52) (by decide) (by decide)).trans A20
  have A22 := (E (54) (by decide) (by decide)).trans A22
  have A24 := (E (56) (by decide) (by decide)).trans A24
  have A26 := B26
  have A27 := B27
  have P : ∀ j, ¬ j = 0 → j < 32 → S7 j = S j := fun j j0 ja => (E j j0 (by omega)).trans (P j j0 ja)
  have g : S7 0 = aG (61) (m + 225) e := g.trans (aG_c (by omega) (by omega))
  have F : Fr S7 (61) := fun j hj => F j (by omega)
  refine kpf (pc' := 35) I A0 g F rfl rfl rfl (Nat.le_of_ble_eq_true rfl) (fun _ => ⟨rfl, rfl⟩) rfl rfl rfl fun h8 S8 I B0 g E F => ?_
  have A1 := (E (33) (by decide)).trans A1
  have A2 := (E (34) (by decide)).trans A2
  have A3 := (E (35) (by decide)).trans A3
  have A4 := (E (36) (by decide)).trans A4
  have A6 := (E (38) (by decide)).trans A6
  have A7 := (E (39) (by decide)).trans A7
  have A9 := (E (41) (by decide)).trans A9
  have A10 := (E (42) (by decide)).trans A10
  have A12 := (E (44) (by decide)).trans A12
  have A13 := (E (45) (by decide)).trans A13
  have A14 := (E (46) (by decide)).trans A14
  have A15 := (E (47) (by decide)).trans A15
  have A16 := (E (48) (by decide)).trans A16
  have A18 := (E (50) (by decide)).trans A18
  have A20 := (E (52) (by decide)).trans A20
  have A22 := (E (54) (by decide)).trans A22
  have A24 := (E (56) (by decide)).trans A24
  have A26 := (E (58) (by decide)).trans A26
  have A27 := (E (59) (by decide)).trans A27
  have A0 := B0; have P : ∀ j, ¬ j = 0 → j < 32 → S8 j = S j := fun j j0 ja => (E j (by omega)).trans (P j j0 ja)
  refine jx (pc' := 36) (L' := [_, _]) (st' := [_]) 1 rfl ?_
  refine kno (pc' := 39) (ci := 4) I g F rfl rfl rfl (by decide) rfl (by omega) (by show m + 225 + 2 ≤ 100000; omega) fun h9 S9 I g A29 E F => ?_
  have g : S9 0 = aG (61 + 1) (m + 225 + 2) e := g
  have A0 := (E (32) (by decide) (by decide)).trans A0
  have A1 := (E (33) (by decide) (by decide)).trans A1
  have A2 := (E (34) (by decide) (by decide)).trans A2
  have A3 := (E (35) (by decide) (by decide)).trans A3
  have A4 := (E (36) (by decide) (by decide)).trans A4
  have A6 := (E (38) (by decide) (by decide)).trans A6
  have A7 := (E (39) (by decide) (by decide)).trans A7
  have A9 := (E (41) (by decide) (by decide)).trans A9
  have A10 := (E (42) (by decide) (by decide)).trans A10
  have A12 := (E (44) (by decide) (by decide)).trans A12
  have A13 := (E (45) (by decide) (by decide)).trans A13
  have A14 := (E (46) (by decide) (by decide)).trans A14
  have A15 := (E (47) (by decide) (by decide)).trans A15
  have A16 := (E (48) (by decide) (by decide)).trans A16
  have A18 := (E (50) (by decide) (by decide)).trans A18
  have A20 := (E (52) (by decide) (by decide)).trans A20
  have A22 := (E (54) (by decide) (by decide)).trans A22
  have A24 := (E (56) (by decide) (by decide)).trans A24
  have A26 := (E (58) (by decide) (by decide)).trans A26
  have A27 := (E (59) (by decide) (by decide)).trans A27
  have P : ∀ j, ¬ j = 0 → j < 32 → S9 j = S j := fun j j0 ja => (E j j0 (by omega)).trans (P j j0 ja)
  have g : S9 0 = aG (62) (m + 227) e := g.trans (aG_c (by omega) (by omega))
  refine jx (pc' := 40) (L' := [_, _]) (st' := [_, _, _]) 1 rfl ?_
  refine jcv (pc' := 43) 87 [] [_, _] (I.ob A29) rfl rfl rfl rfl rfl rfl rfl rfl ?_
  refine k_pattern (a := 61) I A29 g F (by omega) (by omega) fun h10 S10 I B29 B30 B31 g E F => jk ?_
  have A0 := (E (32) (by decide) (by decide)).trans A0
  have A1 := (E (33) (by decide) (by decide)).trans A1
  have A2 := (E (34) (by decide) (by decide)).trans A2
  have A3 := (E (35) (by decide) (by decide)).trans A3
  have A4 := (E (36) (by decide) (by decide)).trans A4
  have A6 := (E (38) (by decide) (by decide)).trans A6
  have A7 := (E (39) (by decide) (by decide)).trans A7
  have A9 := (E (41) (by decide) (by decide)).trans A9
  have A10 := (E (42) (by decide) (by decide)).trans A10
  have A12 := (E (44) (by decide) (by decide)).trans A12
  have A13 := (E (45) (by decide) (by decide)).trans A13
  have A14 := (E (46) (by decide) (by decide)).trans A14
  have A15 := (E (47) (by decide) (by decide)).trans A15
  have A16 := (E (48) (by decide) (by decide)).trans A16
  have A18 := (E (50) (by decide) (by decide)).trans A18
  have A20 := (E (52) (by decide) (by decide)).trans A20
  have A22 := (E (54) (by decide) (by decide)).trans A22
  have A24 := (E (56) (by decide) (by decide)).trans A24
  have A26 := (E (58) (by decide) (by decide)).trans A26
  have A27 := (E (59) (by decide) (by decide)).trans A27
  have A29 := B29
  have A30 := B30
  have A31 := B31
  have P : ∀ j, ¬ j = 0 → j < 32 → S10 j = S j := fun j j0 ja => (E j j0 (by omega)).trans (P j j0 ja)
  have g : S10 0 = aG (65) (m + 248) e := g.trans (aG_c (by omega) (by omega))
  have F : Fr S10 (65) := fun j hj => F j (by omega)
  refine kpf (pc' := 46) I A0 g F rfl rfl rfl (Nat.le_of_ble_eq_true rfl) (fun _ => ⟨rfl, rfl⟩) rfl rfl rfl fun h11 S11 I B0 g E F => ?_
  have A1 := (E (33) (by decide)).trans A1
  have A2 := (E (34) (by decide)).trans A2
  have A3 := (E (35) (by decide)).trans A3
  have A4 := (E (36) (by decide)).trans A4
  have A6 := (E (38) (by decide)).trans A6
  have A7 := (E (39) (by decide)).trans A7
  have A9 := (E (41) (by decide)).trans A9
  have A10 := (E (42) (by decide)).trans A10
  have A12 := (E (44) (by decide)).trans A12
  have A13 := (E (45) (by decide)).trans A13
  have A14 := (E (46) (by decide)).trans A14
  have A15 := (E (47) (by decide)).trans A15
  have A16 := (E (48) (by decide)).trans A16
  have A18 := (E (50) (by decide)).trans A18
  have A20 := (E (52) (by decide)).trans A20
  have A22 := (E (54) (by decide)).trans A22
  have A24 := (E (56) (by decide)).trans A24
  have A26 := (E (58) (by decide)).trans A26
  have A27 := (E (59) (by decide)).trans A27
  have A29 := (E (61) (by decide)).trans A29
  have A30 := (E (62) (by decide)).trans A30
  have A31 := (E (63) (by decide)).trans A31
  have A0 := B0; have P : ∀ j, ¬ j = 0 → j < 32 → S11 j = S j := fun j j0 ja => (E j (by omega)).trans (P j j0 ja)
  refine jx (pc' := 47) (L' := [_, _]) (st' := [_]) 1 rfl ?_
  refine kno (pc' := 50) (ci := 8) I g F rfl rfl rfl (by decide) rfl (by omega) (by show m + 248 + 7 ≤ 100000; omega) fun h12 S12 I g A33 E F => ?_
  have g : S12 0 = aG (65 + 1) (m + 248 + 7) e := g
  have A0 := (E (32) (by decide) (by decide)).trans A0
  have A1 := (E (33) (by decide) (by decide)).trans A1
  have A2 := (E (34) (by decide) (by decide)).trans A2
  have A3 := (E (35) (by decide) (by decide)).trans A3
  have A4 := (E (36) (by decide) (by decide)).trans A4
  have A6 := (E (38) (by decide) (by decide)).trans A6
  have A7 := (E (39) (by decide) (by decide)).trans A7
  have A9 := (E (41) (by decide) (by decide)).trans A9
  have A10 := (E (42) (by decide) (by decide)).trans A10
  have A12 := (E (44) (by decide) (by decide)).trans A12
  have A13 := (E (45) (by decide) (by decide)).trans A13
  have A14 := (E (46) (by decide) (by decide)).trans A14
  have A15 := (E (47) (by decide) (by decide)).trans A15
  have A16 := (E (48) (by decide) (by decide)).trans A16
  have A18 := (E (50) (by decide) (by decide)).trans A18
  have A20 := (E (52) (by decide) (by decide)).trans A20
  have A22 := (E (54) (by decide) (by decide)).trans A22
  have A24 := (E (56) (by decide) (by decide)).trans A24
  have A26 := (E (58) (by decide) (by decide)).trans A26
  have A27 := (E (59) (by decide) (by decide)).trans A27
  have A29 := (E (61) (by decide) (by decide)).trans A29
  have A30 := (E (62) (by decide) (by decide)).trans A30
  have A31 := (E (63) (by decide) (by decide)).trans A31
  have P : ∀ j, ¬ j = 0 → j < 32 → S12 j = S j := fun j j0 ja => (E j j0 (by omega)).trans (P j j0 ja)
  have g : S12 0 = aG (66) (m + 255) e := g.trans (aG_c (by omega) (by omega))
  refine jx (pc' := 51) (L' := [_, _]) (st' := [_, _, _]) 1 rfl ?_
  refine jcv (pc' := 54) 144 [] [_, _] (I.ob A33) rfl rfl rfl rfl rfl rfl rfl rfl ?_
  refine k_reader (a := 65) I A33 g F (by omega) (by omega) fun h13 S13 I B33 B34 B36 g E F => jk ?_
  have A0 := (E (32) (by decide) (by decide)).trans A0
  have A1 := (E (33) (by decide) (by decide)).trans A1
  have A2 := (E (34) (by decide) (by decide)).trans A2
  have A3 := (E (35) (by decide) (by decide)).trans A3
  have A4 := (E (36) (by decide) (by decide)).trans A4
  have A6 := (E (38) (by decide) (by decide)).trans A6
  have A7 := (E (39) (by decide) (by decide)).trans A7
  have A9 := (E (41) (by decide) (by decide)).trans A9
  have A10 := (E (42) (by decide) (by decide)).trans A10
  have A12 := (E (44) (by decide) (by decide)).trans A12
  have A13 := (E (45) (by decide) (by decide)).trans A13
  have A14 := (E (46) (by decide) (by decide)).trans A14
  have A15 := (E (47) (by decide) (by decide)).trans A15
  have A16 := (E (48) (by decide) (by decide)).trans A16
  have A18 := (E (50) (by decide) (by decide)).trans A18
  have A20 := (E (52) (by decide) (by decide)).trans A20
  have A22 := (E (54) (by decide) (by decide)).trans A22
  have A24 := (E (56) (by decide) (by decide)).trans A24
  have A26 := (E (58) (by decide) (by decide)).trans A26
  have A27 := (E (59) (by decide) (by decide)).trans A27
  have A29 := (E (61) (by decide) (by decide)).trans A29
  have A30 := (E (62) (by decide) (by decide)).trans A30
  have A31 := (E (63) (by decide) (by decide)).trans A31
  have A33 := B33
  have A34 := B34
  have A36 := B36
  have P : ∀ j, ¬ j = 0 → j < 32 → S13 j = S j := fun j j0 ja => (E j j0 (by omega)).trans (P j j0 ja)
  have g : S13 0 = aG (69) (m + 392) e := g.trans (aG_c (by omega) (by omega))
  have F : Fr S13 (69) := fun j hj => F j (by omega)
  refine kpf (pc' := 57) I A0 g F rfl rfl rfl (Nat.le_of_ble_eq_true rfl) (fun _ => ⟨rfl, rfl⟩) rfl rfl rfl fun h14 S14 I B0 g E F => ?_
  have A1 := (E (33) (by decide)).trans A1
  have A2 := (E (34) (by decide)).trans A2
  have A3 := (E (35) (by decide)).trans A3
  have A4 := (E (36) (by decide)).trans A4
  have A6 := (E (38) (by decide)).trans A6
  have A7 := (E (39) (by decide)).trans A7
  have A9 := (E (41) (by decide)).trans A9
  have A10 := (E (42) (by decide)).trans A10
  have A12 := (E (44) (by decide)).trans A12
  have A13 := (E (45) (by decide)).trans A13
  have A14 := (E (46) (by decide)).trans A14
  have A15 := (E (47) (by decide)).trans A15
  have A16 := (E (48) (by decide)).trans A16
  have A18 := (E (50) (by decide)).trans A18
  have A20 := (E (52) (by decide)).trans A20
  have A22 := (E (54) (by decide)).trans A22
  have A24 := (E (56) (by decide)).trans A24
  have A26 := (E (58) (by decide)).trans A26
  have A27 := (E (59) (by decide)).trans A27
  have A29 := (E (61) (by decide)).trans A29
  have A30 := (E (62) (by decide)).trans A30
  have A31 := (E (63) (by decide)).trans A31
  have A33 := (E (65) (by decide)).trans A33
  have A34 := (E (66) (by decide)).trans A34
  have A36 := (E (68) (by decide)).trans A36
  have A0 := B0; have P : ∀ j, ¬ j = 0 → j < 32 → S14 j = S j := fun j j0 ja => (E j (by omega)).trans (P j j0 ja)
  refine jx (pc' := 58) (L' := [_, _]) (st' := [_]) 1 rfl ?_
  refine kno (pc' := 61) (ci := 9) I g F rfl rfl rfl (by decide) rfl (by omega) (by show m + 392 + 2 ≤ 100000; omega) fun h15 S15 I g A37 E F => ?_
  have g : S15 0 = aG (69 + 1) (m + 392 + 2) e := g
  have A0 := (E (32) (by decide) (by decide)).trans A0
  have A1 := (E (33) (by decide) (by decide)).trans A1
  have A2 := (E (34) (by decide) (by decide)).trans A2
  have A3 := (E (35) (by decide) (by decide)).trans A3
  have A4 := (E (36) (by decide) (by decide)).trans A4
  have A6 := (E (38) (by decide) (by decide)).trans A6
  have A7 := (E (39) (by decide) (by decide)).trans A7
  have A9 := (E (41) (by decide) (by decide)).trans A9
  have A10 := (E (42) (by decide) (by decide)).trans A10
  have A12 := (E (44) (by decide) (by decide)).trans A12
  have A13 := (E (45) (by decide) (by decide)).trans A13
  have A14 := (E (46) (by decide) (by decide)).trans A14
  have A15 := (E (47) (by decide) (by decide)).trans A15
  have A16 := (E (48) (by decide) (by decide)).trans A16
  have A18 := (E (50) (by decide) (by decide)).trans A18
  have A20 := (E (52) (by decide) (by decide)).trans A20
  have A22 := (E (54) (by decide) (by decide)).trans A22
  have A24 := (E (56) (by decide) (by decide)).trans A24
  have A26 := (E (58) (by decide) (by decide)).trans A26
  have A27 := (E (59) (by decide) (by decide)).trans A27
  have A29 := (E (61) (by decide) (by decide)).trans A29
  have A30 := (E (62) (by decide) (by decide)).trans A30
  have A31 := (E (63) (by decide) (by decide)).trans A31
  have A33 := (E (65) (by decide) (by decide)).trans A33
  have A34 := (E (66) (by decide) (by decide)).trans A34
  have A36 := (E (68) (by decide) (by decide)).trans A36
  have P : ∀ j, ¬ j = 0 → j < 32 → S15 j = S j := fun j j0 ja => (E j j0 (by omega)).trans (P j j0 ja)
  have g : S15 0 = aG (70) (m + 394) e := g.trans (aG_c (by omega) (by omega))
  refine jx (pc' := 62) (L' := [_, _]) (st' := [_, _, _]) 1 rfl ?_
  refine jcv (pc' := 65) 155 [] [_, _] (I.ob A37) rfl rfl rfl rfl rfl rfl rfl rfl ?_
  refine k_writer (a := 69) I A37 g F (by omega) (by omega) fun h16 S16 I B37 B38 g E F => jk ?_
  have A0 := (E (32) (by decide) (by decide)).trans A0
  have A1 := (E (33) (by decide) (by decide)).trans A1
  have A2 := (E (34) (by decide) (by decide)).trans A2
  have A3 := (E (35) (by decide) (by decide)).trans A3
  have A4 := (E (36) (by decide) (by decide)).trans A4
  have A6 := (E (38) (by decide) (by decide)).trans A6
  have A7 := (E (39) (by decide) (by decide)).trans A7
  have A9 := (E (41) (by decide) (by decide)).trans A9
  have A10 := (E (42) (by decide) (by decide)).trans A10
  have A12 := (E (44) (by decide) (by decide)).trans A12
  have A13 := (E (45) (by decide) (by decide)).trans A13
  have A14 := (E (46) (by decide) (by decide)).trans A14
  have A15 := (E (47) (by decide) (by decide)).trans A15
  have A16 := (E (48) (by decide) (by decide)).trans A16
  have A18 := (E (50) (by decide) (by decide)).trans A18
  have A20 := (E (52) (by decide) (by decide)).trans A20
  have A22 := (E (54) (by decide) (by decide)).trans A22
  have A24 := (E (56) (by decide) (by decide)).trans A24
  have A26 := (E (58) (by decide) (by decide)).trans A26
  have A27 := (E (59) (by decide) (by decide)).trans A27
  have A29 := (E (61) (by decide) (by decide)).trans A29
  have A30 := (E (62) (by decide) (by decide)).trans A30
  have A31 := (E (63) (by decide) (by decide)).trans A31
  have A33 := (E (65) (by decide) (by decide)).trans A33
  have A34 := (E (66) (by decide) (by decide)).trans A34
  have A36 := (E (68) (by decide) (by decide)).trans A36
  have A37 := B37
  have A38 := B38
  have P : ∀ j, ¬ j = 0 → j < 32 → S16 j = S j := fun j j0 ja => (E j j0 (by omega)).trans (P j j0 ja)
  have g : S16 0 = aG (71) (m + 458) e := g.trans (aG_c (by omega) (by omega))
  have F : Fr S16 (71) := fun j hj => F j (by omega)
  refine kpf (pc' := 68) I A0 g F rfl rfl rfl (Nat.le_of_ble_eq_true rfl) (fun _ => ⟨rfl, rfl⟩) rfl rfl rfl fun h17 S17 I B0 g E F => ?_
  have A1 := (E (33) (by decide)).trans A1
  have A2 := (E (34) (by decide)).trans A2
  have A3 := (E (35) (by decide)).trans A3
  have A4 := (E (36) (by decide)).trans A4
  have A6 := (E (38) (by decide)).trans A6
  have A7 := (E (39) (by decide)).trans A7
  have A9 := (E (41) (by decide)).trans A9
  have A10 := (E (42) (by decide)).trans A10
  have A12 := (E (44) (by decide)).trans A12
  have A13 := (E (45) (by decide)).trans A13
  have A14 := (E (46) (by decide)).trans A14
  have A15 := (E (47) (by decide)).trans A15
  have A16 := (E (48) (by decide)).trans A16
  have A18 := (E (50) (by decide)).trans A18
  have A20 := (E (52) (by decide)).trans A20
  have A22 := (E (54) (by decide)).trans A22
  have A24 := (E (56) (by decide)).trans A24
  have A26 := (E (58) (by decide)).trans A26
  have A27 := (E (59) (by decide)).trans A27
  have A29 := (E (61) (by decide)).trans A29
  have A30 := (E (62) (by decide)).trans A30
  have A31 := (E (63) (by decide)).trans A31
  have A33 := (E (65) (by decide)).trans A33
  have A34 := (E (66) (by decide)).trans A34
  have A36 := (E (68) (by decide)).trans A36
  have A37 := (E (69) (by decide)).trans A37
  have A38 := (E (70) (by decide)).trans A38
  have A0 := B0; have P : ∀ j, ¬ j = 0 → j < 32 → S17 j = S j := fun j j0 ja => (E j (by omega)).trans (P j j0 ja)
  refine jx (pc' := 70) (L' := [_, _]) (st' := [.int (nI 0), _]) 2 rfl ?_
  refine kpf (pc' := 73) I A0 g F rfl rfl rfl (Nat.le_of_ble_eq_true rfl) (fun _ => ⟨rfl, rfl⟩) rfl rfl rfl fun h18 S18 I B0 g E F => ?_
  have A1 := (E (33) (by decide)).trans A1
  have A2 := (E (34) (by decide)).trans A2
  have A3 := (E (35) (by decide)).trans A3
  have A4 := (E (36) (by decide)).trans A4
  have A6 := (E (38) (by decide)).trans A6
  have A7 := (E (39) (by decide)).trans A7
  have A9 := (E (41) (by decide)).trans A9
  have A10 := (E (42) (by decide)).trans A10
  have A12 := (E (44) (by decide)).trans A12
  have A13 := (E (45) (by decide)).trans A13
  have A14 := (E (46) (by decide)).trans A14
  have A15 := (E (47) (by decide)).trans A15
  have A16 := (E (48) (by decide)).trans A16
  have A18 := (E (50) (by decide)).trans A18
  have A20 := (E (52) (by decide)).trans A20
  have A22 := (E (54) (by decide)).trans A22
  have A24 := (E (56) (by decide)).trans A24
  have A26 := (E (58) (by decide)).trans A26
  have A27 := (E (59) (by decide)).trans A27
  have A29 := (E (61) (by decide)).trans A29
  have A30 := (E (62) (by decide)).trans A30
  have A31 := (E (63) (by decide)).trans A31
  have A33 := (E (65) (by decide)).trans A33
  have A34 := (E (66) (by decide)).trans A34
  have A36 := (E (68) (by decide)).trans A36
  have A37 := (E (69) (by decide)).trans A37
  have A38 := (E (70) (by decide)).trans A38
  have A0 := B0; have P : ∀ j, ¬ j = 0 → j < 32 → S18 j = S j := fun j j0 ja => (E j (by omega)).trans (P j j0 ja)
  refine jx (pc' := 75) (L' := [_, _]) (st' := [.int (nI 0), _]) 2 rfl ?_
  refine kpf (pc' := 78) I A0 g F rfl rfl rfl (Nat.le_of_ble_eq_true rfl) (fun _ => ⟨rfl, rfl⟩) rfl rfl rfl fun h19 S19 I B0 g E F => ?_
  have A1 := (E (33) (by decide)).trans A1
  have A2 := (E (34) (by decide)).trans A2
  have A3 := (E (35) (by decide)).trans A3
  have A4 := (E (36) (by decide)).trans A4
  have A6 := (E (38) (by decide)).trans A6
  have A7 := (E (39) (by decide)).trans A7
  have A9 := (E (41) (by decide)).trans A9
  have A10 := (E (42) (by decide)).trans A10
  have A12 := (E (44) (by decide)).trans A12
  have A13 := (E (45) (by decide)).trans A13
  have A14 := (E (46) (by decide)).trans A14
  have A15 := (E (47) (by decide)).trans A15
  have A16 := (E (48) (by decide)).trans A16
  have A18 := (E (50) (by decide)).trans A18
  have A20 := (E (52) (by decide)).trans A20
  have A22 := (E (54) (by decide)).trans A22
  have A24 := (E (56) (by decide)).trans A24
  have A26 := (E (58) (by decide)).trans A26
  have A27 := (E (59) (by decide)).trans A27
  have A29 := (E (61) (by decide)).trans A29
  have A30 := (E (62) (by decide)).trans A30
  have A31 := (E (63) (by decide)).trans A31
  have A33 := (E (65) (by decide)).trans A33
  have A34 := (E (66) (by decide)).trans A34
  have A36 := (E (68) (by decide)).trans A36
  have A37 := (E (69) (by decide)).trans A37
  have A38 := (E (70) (by decide)).trans A38
  have A0 := B0; have P : ∀ j, ¬ j = 0 → j < 32 → S19 j = S j := fun j j0 ja => (E j (by omega)).trans (P j j0 ja)
  refine jx (pc' := 80) (L' := [_, _]) (st' := [.int (nI 0), _]) 2 rfl ?_
  refine kpf (pc' := 83) I A0 g F rfl rfl rfl (Nat.le_of_ble_eq_true rfl) (fun _ => ⟨rfl, rfl⟩) rfl rfl rfl fun h20 S20 I B0 g E F => ?_
  have A1 := (E (33) (by decide)).trans A1
  have A2 := (E (34) (by decide)).trans A2
  have A3 := (E (35) (by decide)).trans A3
  have A4 := (E (36) (by decide)).trans A4
  have A6 := (E (38) (by decide)).trans A6
  have A7 := (E (39) (by decide)).trans A7
  have A9 := (E (41) (by decide)).trans A9
  have A10 := (E (42) (by decide)).trans A10
  have A12 := (E (44) (by decide)).trans A12
  have A13 := (E (45) (by decide)).trans A13
  have A14 := (E (46) (by decide)).trans A14
  have A15 := (E (47) (by decide)).trans A15
  have A16 := (E (48) (by decide)).trans A16
  have A18 := (E (50) (by decide)).trans A18
  have A20 := (E (52) (by decide)).trans A20
  have A22 := (E (54) (by decide)).trans A22
  have A24 := (E (56) (by decide)).trans A24
  have A26 := (E (58) (by decide)).trans A26
  have A27 := (E (59) (by decide)).trans A27
  have A29 := (E (61) (by decide)).trans A29
  have A30 := (E (62) (by decide)).trans A30
  have A31 := (E (63) (by decide)).trans A31
  have A33 := (E (65) (by decide)).trans A33
  have A34 := (E (66) (by decide)).trans A34
  have A36 := (E (68) (by decide)).trans A36
  have A37 := (E (69) (by decide)).trans A37
  have A38 := (E (70) (by decide)).trans A38
  have A0 := B0; have P : ∀ j, ¬ j = 0 → j < 32 → S20 j = S j := fun j j0 ja => (E j (by omega)).trans (P j j0 ja)
  refine jx (pc' := 85) (L' := [_, _]) (st' := []) 2 rfl ?_
  exact q _ _ I A0 A1 A2 A3 A4 A6 A7 A9 A10 A12 A13 A14 A15 A16 A18 A20 A22 A24 A26 A27 A29 A30 A31 A33 A34 A36 A37 A38 g P F
def rg0 : Dm := (1, 0, false, 0, 0)
theorem val_rg0 : ValD rg0 := by
  show Val 1 0 0 0
  refine ⟨by decide, by decide, ?_, ?_⟩ <;> decide
/-- the registers -/
theorem k_regs {fs : List Value} : ∀ (d k : Nat) (h : ix_H) (S : Nat → AC) (f : Nat → Option Nat) (m : Nat), k + d = 9 → Inv h S → S 32 = aC (cO 0 (.ref 33 :: fs)) → S 33 = aC (cA 9 f) → (∀ i, i < k → f i = some (71 + 3 * i)) → (∀ i, i < k → RegD S (71 + 3 * i) rg0) → S 0 = aG (71 + 3 * k) m e → Fr S (71 + 3 * k) → m + 22 * d ≤ 80000 → (∀ h' S' f', Inv h' S' → S' 33 = aC (cA 9 f') → (∀ i, i < 9 → f' i = some (71 + 3 * i)) → (∀ i, i < 9 → RegD S' (71 + 3 * i) rg0) → S' 0 = aG 98 (m + 22 * d) e → (∀ j, ¬ j = 0 → ¬ j = 33 → j < 71 → S' j = S j) → Fr S' 98 → Q (.inl none) h') → ix_E 14 85 [some (.ref 32), some (.int (nI k))] [] h Q
  | 0, k, h, S, f, m, hk, I, A, B, ff, fr, g, F, hm, q => by
    have e9 : k = 9 := by omega
    subst e9
    refine jx (pc' := 88) (L' := [_, _]) (st' := [.int (nI 8), _]) 2 rfl ?_
    refine jct (pc' := 110) rfl rfl rfl (by rw [cc_gt (by omega) (by omega)]; exact decide_eq_true (by omega)) ?_
    refine ix_qr _ rfl rfl rfl ?_
    exact q _ _ f I B ff fr (g.trans (aG_c (by omega) (by omega))) (fun _ _ _ _ => rfl) F
  | d + 1, k, h, S, f, m, hk, I, A, B, ff, fr, g, F, hm, q => by
    refine jx (pc' := 88) (L' := [_, _]) (st' := [.int (nI 8), _]) 2 rfl ?_
    refine jcn (pc' := 91) 110 rfl rfl rfl rfl (by rw [cc_gt (by omega) (by omega)]; exact decide_eq_false (by omega)) ?_
    refine jx (pc' := 92) (L' := [_, _]) (st' := [_]) 1 rfl ?_
    refine jgf (pc' := 95) (I.ob A) rfl rfl rfl rfl rfl ?_
    refine jx (pc' := 96) (L' := [_, _]) (st' := [_, _]) 1 rfl ?_
    refine kno (pc' := 99) (ci := 3) I g F rfl rfl rfl (by decide) rfl (by omega) (by show m + 5 ≤ 100000; omega) fun h1 S1 I g A1 E F => ?_
    have g : S1 0 = aG (71 + 3 * k + 1) (m + 5) e := g
    refine jx (pc' := 100) (L' := [_, _]) (st' := [_, _, _, _]) 1 rfl ?_
    refine jcv (pc' := 103) 77 [] [_, _, _] (I.ob A1) rfl rfl rfl rfl rfl rfl rfl rfl ?_
    refine k_datum (a := 71 + 3 * k) I A1 g F (by omega) (by omega) fun h2 S2 I B0 B1 g E2 F => jk ?_
    have E3 : ∀ j, ¬ j = 0 → j < 71 + 3 * k → S2 j = S j := fun j j0 jk => (E2 j j0 jk).trans (E j j0 (by omega))
    have A' := (E3 32 (by omega) (by omega)).trans A
    have B' := (E3 33 (by omega) (by omega)).trans B
    refine ksA (pc' := 104) I B' B0 rfl rfl (by omega) rfl fun h3 I => ?_
    refine jx (pc' := 85) (L' := [_, _]) (st' := []) 2 rfl ?_
    try simp (disch := omega) only [nI_add, ki1]
    refine k_regs d (k + 1) _ _ _ (m + 22) (by omega) I (by rw [va_up_ne _ _ (by omega)]; exact A') (va_up_self _ _ _) (fun i hi => ?_) (fun i hi => ?_) ?_ (fun j hj => ?_) (by omega) fun h' S' f' I a1 a2 a3 a4 a5 a6 => ?_
    · by_cases e1 : i = k
      · rw [e1, va_up_self]
      · rw [va_up_ne _ _ e1]
        exact ff i (by omega)
    · by_cases e1 : i = k
      · subst e1
        refine ⟨by omega, ?_, ?_, val_rg0⟩
        · rw [va_up_ne _ _ (by omega)]
          exact B0
        · rw [va_up_ne _ _ (by omega)]
          exact B1
      · obtain ⟨r1, r2, r3, r4⟩ := fr i (by omega)
        refine ⟨r1, ?_, ?_, r4⟩
        · rw [va_up_ne _ _ (by omega), E3 _ (by omega) (by omega)]
          exact r2
        · rw [va_up_ne _ _ (by omega), E3 _ (by omega) (by omega)]
          exact r3
    · rw [va_up_ne _ _ (by omega)]
      exact g.trans (aG_c (by omega) (by omega))
    · rw [va_up_ne _ _ (by omega)]
      exact F j (by omega)
    · refine q h' S' f' I a1 a2 a3 (a4.trans (aG_c rfl (by omega))) (fun j j0 j1 j2 => ?_) a6
      rw [a5 j j0 j1 j2, va_up_ne _ _ j1]
      exact E3 j j0 (by omega)
def st0 : Stt := (fun _ => rg0, 0, 0, 0, fun _ => 0, 0, [])
/-- DecimalBits' constructor -/
theorem k_decimal (I : Inv h S) (A : S 32 = aC (cO 0 (ix_dv 0))) (g : S 0 = aG 33 m e) (F : Fr S 33) (h2 : m ≤ 50000) (q : ∀ h' S', Inv h' S' → Cls S' st0 → S' 0 = aG 98 (m + 656) e → (∀ j, ¬ j = 0 → j < 32 → S' j = S j) → Fr S' 98 → Q (.inl none) h') : ix_M 14 [.ref 32] h Q := by
  refine k_dec0 I A g F (by omega) fun h1 S1 I1 c32 c33 c34 c35 c36 c38 c39 c41 c42 c44 c45 c46 c47 c48 c50 c52 c54 c56 c58 c59 c61 c62 c63 c65 c66 c68 c69 c70 g1 P1 F1 => ?_
  refine k_regs 9 0 _ _ _ _ rfl I1 c32 c33 (fun i hi => absurd hi (Nat.not_lt_zero i)) (fun i hi => absurd hi (Nat.not_lt_zero i)) g1 F1 (by omega) fun h2 S2 f2 I2 d33 df dr g2 E F2 => ?_
  have t : ∀ j v, S1 j = v → ¬ j = 0 → ¬ j = 33 → j < 71 → S2 j = v := fun j v hv a b c => (E j a b c).trans hv
  have u : ∀ j v, S1 j = aN v → ¬ j = 0 → ¬ j = 33 → j < 71 → isN S2 j := fun j v hv a b c => ⟨v, (E j a b c).trans hv⟩
  refine q _ _ I2 ⟨t _ _ c32 (by decide) (by decide) (by decide), ⟨f2, d33, df⟩, ⟨⟨⟨0, t _ _ c34 (by decide) (by decide) (by decide)⟩, ⟨false, false, 0, 0, 0, t _ _ c38 (by decide) (by decide) (by decide), t _ _ c39 (by decide) (by decide) (by decide)⟩, ⟨false, false, 0, 0, 0, t _ _ c41 (by decide) (by decide) (by decide), t _ _ c42 (by decide) (by decide) (by decide)⟩, t _ _ c44 (by decide) (by decide) (by decide), ⟨fun _ => 0, t _ _ c45 (by decide) (by decide) (by decide)⟩, ⟨fun _ => 0, t _ _ c46 (by decide) (by decide) (by decide)⟩, t _ _ c47 (by decide) (by decide) (by decide), u _ _ c48 (by decide) (by decide) (by decide), u _ _ c50 (by decide) (by decide) (by decide), u _ _ c52 (by decide) (by decide) (by decide), u _ _ c54 (by decide) (by decide) (by decide), u _ _ c56 (by decide) (by decide) (by decide)⟩, rg0, t _ _ c35 (by decide) (by decide) (by decide), t _ _ c36 (by decide) (by decide) (by decide), by decide, by decide, zr0⟩, ⟨t _ _ c58 (by decide) (by decide) (by decide), u _ _ c59 (by decide) (by decide) (by decide)⟩, ⟨t _ _ c61 (by decide) (by decide) (by decide), ⟨_, t _ _ c62 (by decide) (by decide) (by decide)⟩, u _ _ c63 (by decide) (by decide) (by decide)⟩, ⟨⟨0, false, 0, 0, t _ _ c65 (by decide) (by decide) (by decide)⟩, u _ _ c66 (by decide) (by decide) (by decide), t _ _ c68 (by decide) (by decide) (by decide)⟩, ⟨t _ _ c69 (by decide) (by decide) (by decide), fun _ => 0, t _ _ c70 (by decide) (by decide) (by decide), fun j hj => absurd hj (Nat.not_lt_zero j)⟩, dr, ?_⟩ (g2.trans (aG_c rfl (by omega))) (fun j j0 j1 => (E j j0 (by omega) (by omega)).trans (P1 j j0 j1)) F2
  exact ⟨show 0 < 5 by decide, show 0 < 32 by decide, show 0 < 32 by decide, show 0 ≤ 120 by decide, fun j hj => absurd hj (Nat.not_lt_zero j), show 0 ≤ 64 by decide⟩
end NEW
