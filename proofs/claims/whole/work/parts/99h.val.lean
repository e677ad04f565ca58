/-! ===== every operation's result is a datum of its format ===== -/
theorem ValD.bb {A : Dm} (v : ValD A) : (-6176 ≤ A.2.2.2.1 ∧ A.2.2.2.1 ≤ 6111) ∧ A.2.2.2.2 < 10 ^ 34 ∧ dgs A.2.2.2.2 ≤ fD A.1 ∧ fD A.1 ≤ 34 ∧ 7 ≤ fD A.1 := ⟨Val.b v, Val.c v, (Val.d v).1, (Val.d v).2, (f3b v.1).1⟩
theorem cut1 {x dir fD' : Nat} {p : Int} {n : Bool} (hx : x < 10 ^ fD') (hp : 0 ≤ p) (hf : 2 ≤ fD') : cutV x p false dir n < 10 ^ fD' := by
  by_cases h0 : p = 0
  · rw [h0, (cut0 (by omega)).2]; exact hx
  · have h1 := cutV_le x p false dir n
    have h2 : x / 10 ^ p.toNat < 10 ^ (fD' - 1) := by
      refine (Nat.div_lt_iff_lt_mul (pp0 _)).mpr ?_
      rw [← Nat.pow_add]
      exact Nat.lt_of_lt_of_le hx (pl (by omega))
    have h3 : 10 ^ fD' = 10 ^ (fD' - 1) * 10 := by rw [← Nat.pow_succ]; congr 1; omega
    have := pp0 (fD' - 1)
    omega
theorem val_qz {dir : Nat} {A B : Dm} (vA : ValD A) (vB : ValD B) (hf : A.1 = B.1) (hA : A.2.1 < 2) : ValD (qzR dir A B).1 := by
  obtain ⟨a1, a2, a3, a4, a5⟩ := vA.bb
  have b3 := vB.2.2.1
  unfold qzR
  split
  · split
    · exact vA
    · exact val_iv vA
  · next h1 =>
    split
    · exact val_iv vA
    · next h2 =>
      have hso : A.2.1 = 0 := by omega
      refine ⟨vA.1, vA.2.1, ?_, ?_, Or.inl hso, fun z => ?_, fun z => ?_⟩
      · show -(fB A.1 : Int) ≤ B.2.2.2.1 ∧ B.2.2.2.1 ≤ gE A.1
        rw [hf]; exact b3
      · show cutV A.2.2.2.2 (B.2.2.2.1 - A.2.2.2.1) false dir A.2.2.1 * 10 ^ (-(B.2.2.2.1 - A.2.2.2.1)).toNat < 10 ^ fD A.1
        by_cases hp : B.2.2.2.1 - A.2.2.2.1 < 0
        · rw [(cut0 (by omega)).2]
          by_cases h0 : A.2.2.2.2 = 0
          · rw [h0, Nat.zero_mul]; exact pp0 _
          · exact Nat.lt_of_lt_of_le (dgs_sh _ _) (pl (by omega))
        · rw [show (-(B.2.2.2.1 - A.2.2.2.1)).toNat = 0 by omega, Nat.pow_zero, Nat.mul_one]
          exact cut1 vA.2.2.2.1 (by omega) (by omega)
      · have : A.2.1 = 1 := z; omega
      · have : 2 ≤ A.2.1 := z; omega
theorem val_op2 {what dir : Nat} {A B : Dm} (vA : ValD A) (vB : ValD B) (hf : A.1 = B.1) (hA : A.2.1 < 2) (hB : B.2.1 < 2) : (∀ x, op2 what dir A B = .inl x → ValD x.1) ∧ (∀ u, op2 what dir A B = .inr u → u.2.2.2.2 < 10 ^ 144) := by
  obtain ⟨a1, a2, a3, a4, a5⟩ := vA.bb
  obtain ⟨b1, b2, b3, b4, b5⟩ := vB.bb
  have sm : ∀ n : Bool, (∀ x, smR (fD A.1) dir A B n = .inl x → ValD x.1) ∧ (∀ u, smR (fD A.1) dir A B n = .inr u → u.2.2.2.2 < 10 ^ 144) := by
    intro n
    have hb := adX_b (D := fD A.1) (dir := dir) (nx := A.2.2.1) (ny := n) (ex := A.2.2.2.1) (ey := B.2.2.2.1) (cx := A.2.2.2.2) (cy := B.2.2.2.2) (by omega) (by omega) (by omega)
    unfold smR
    split
    · split
      · exact ⟨fun x z => by cases z; exact val_iv vA, fun u z => by cases z⟩
      · exact ⟨fun x z => by cases z; exact val_inf vA, fun u z => by cases z⟩
    · split
      · exact ⟨fun x z => by cases z; exact val_inf vA, fun u z => by cases z⟩
      · exact ⟨fun x z => (nomatch z), fun u z => by cases z; exact lt144 hb.1⟩
  have hpr : A.2.2.2.2 * B.2.2.2.2 < 10 ^ 138 := Nat.lt_of_lt_of_le (Nat.mul_lt_mul'' a2 b2) (by rw [← Nat.pow_add]; exact pl (by decide))
  unfold op2
  split
  · exact sm _
  · split
    · exact sm _
    · split
      · unfold prR
        split
        · exact ⟨fun x z => by cases z; exact val_iv vA, fun u z => by cases z⟩
        · split
          · exact ⟨fun x z => by cases z; exact val_inf vA, fun u z => by cases z⟩
          · exact ⟨fun x z => (nomatch z), fun u z => by cases z; exact lt144 hpr⟩
      · split
        · have hPb : dvP (fD B.1) A.2.2.2.2 B.2.2.2.2 ≤ 71 := by unfold dvP; omega
          have hsh : A.2.2.2.2 * 10 ^ (dvP (fD B.1) A.2.2.2.2 B.2.2.2.2).toNat / B.2.2.2.2 < 10 ^ 138 := Nat.lt_of_le_of_lt (Nat.div_le_self _ _) (Nat.lt_of_lt_of_le (dgs_sh _ _) (pl (by omega)))
          unfold raR
          split
          · exact ⟨fun x z => by cases z; exact val_iv vA, fun u z => by cases z⟩
          · split
            · exact ⟨fun x z => by cases z; exact val_inf vA, fun u z => by cases z⟩
            · split
              · exact ⟨fun x z => (nomatch z), fun u z => by cases z; exact pp0 _⟩
              · split
                · exact ⟨fun x z => (nomatch z), fun u z => by cases z; exact lt144' a2⟩
                · exact ⟨fun x z => (nomatch z), fun u z => by cases z; exact lt144 hsh⟩
        · split
          · unfold reR
            split
            · exact ⟨fun x z => by cases z; exact val_iv vA, fun u z => by cases z⟩
            · next h1 =>
              split
              · exact ⟨fun x z => by cases z; exact vA, fun u z => by cases z⟩
              · next h2 =>
                split
                · next h3 =>
                  have hcb : 0 < B.2.2.2.2 := by omega
                  have hsp : 0 < B.2.2.2.2 * 10 ^ (B.2.2.2.1 - A.2.2.2.1).toNat := Nat.mul_pos hcb (pp0 _)
                  have hsh : B.2.2.2.2 * 10 ^ (B.2.2.2.1 - A.2.2.2.1).toNat < 10 ^ 138 := Nat.lt_of_lt_of_le (dgs_sh _ _) (pl (by omega))
                  have hb := rdX_b (n := A.2.2.1) (cx := A.2.2.2.2) (P := -(B.2.2.2.1 - A.2.2.2.1)) hsp
                  exact ⟨fun x z => (nomatch z), fun u z => by cases z; exact lt144 (Nat.lt_of_le_of_lt hb hsh)⟩
                · exact ⟨fun x z => (nomatch z), fun u z => by cases z; exact lt144' a2⟩
          · split
            · exact ⟨fun x z => by cases z; exact val_qz vA vB hf hA, fun u z => by cases z⟩
            · refine ⟨fun x z => ?_, fun u z => by cases z⟩
              cases z
              show ValD (pkD what A B)
              unfold pkD
              by_cases hc : (if what = 7 ∨ what = 9 then pkO what A B < 0 else 0 < pkO what A B)
              · rw [if_pos hc]; exact vB
              · rw [if_neg hc]; exact vA
theorem val_o2 {what dir : Nat} {A B : Dm} (vA : ValD A) (vB : ValD B) (hf : A.1 = B.1) : ValD (o2R what dir A B).1 := by
  have a4 := vA.2.1
  have b4 := vB.2.1
  unfold o2R
  split
  · exact vA
  · split
    · next h1 =>
      have hn := nanP_c A B B vA vB vB (h1.elim Or.inl (fun z => Or.inr (Or.inl z)))
      split
      · unfold pbN
        split
        · exact vB
        · split
          · exact vA
          · exact val_nq hn.1 hn.2
      · exact val_nq hn.1 hn.2
    · next h1 =>
      have hA : A.2.1 < 2 := by omega
      have hB : B.2.1 < 2 := by omega
      have h := val_op2 (what := what) (dir := dir) vA vB hf hA hB
      exact val_rdo vA.1 h.1 h.2
theorem val_o3 {dir : Nat} {A B C : Dm} (vA : ValD A) (vB : ValD B) (vC : ValD C) : ValD (o3R dir A B C).1 := by
  obtain ⟨a1, a2, a3, a4, a5⟩ := vA.bb
  obtain ⟨b1, b2, b3, b4, b5⟩ := vB.bb
  obtain ⟨c1, c2, c3, c4, c5⟩ := vC.bb
  have hp : A.2.2.2.2 * B.2.2.2.2 < 10 ^ 68 := Nat.lt_of_lt_of_le (Nat.mul_lt_mul'' a2 b2) (by rw [← Nat.pow_add]; exact pl (by decide))
  have hb := adX_b (D := fD A.1) (dir := dir) (nx := xo A B) (ny := C.2.2.1) (ex := A.2.2.2.1 + B.2.2.2.1) (ey := C.2.2.2.1) (cx := A.2.2.2.2 * B.2.2.2.2) (cy := C.2.2.2.2) (by omega) (dgs_le hp) (by omega)
  unfold o3R
  split
  · next h1 =>
    have hn := nanP_c A B C vA vB vC h1
    exact val_nq hn.1 hn.2
  · split
    · exact val_iv vA
    · split
      · split
        · exact val_iv vA
        · exact val_inf vA
      · split
        · exact val_inf vA
        · refine val_rdo vA.1 (fun x z => nomatch z) (fun u z => ?_)
          cases z
          exact lt144 hb.1
theorem val_mw {dir : Nat} {A : Dm} (vA : ValD A) : ValD (mwR dir A).1 := by
  obtain ⟨a1, a2, a3, a4, a5⟩ := vA.bb
  have g := gEb vA.1
  obtain ⟨f1, f2, f3, f4, f5, f6, f7⟩ := f3b vA.1
  unfold mwR
  split
  · next h =>
    refine ⟨vA.1, vA.2.1, ⟨(by omega : -(fB A.1 : Int) ≤ 0), (by omega : (0 : Int) ≤ gE A.1)⟩, cut1 (fD' := fD A.1) vA.2.2.2.1 (by omega) (by omega), Or.inl h.1, fun z => ?_, fun z => ?_⟩
    · have : A.2.1 = 1 := z; omega
    · have : 2 ≤ A.2.1 := z; omega
  · exact vA
theorem val_nx {m : Bool} {A : Dm} (vA : ValD A) (hA : A.2.1 < 2) : ValD (nxR A m) := by
  obtain ⟨a1, a2, a3, a4, a5⟩ := vA.bb
  have g := gEb vA.1
  have a6 := vA.2.2.1
  obtain ⟨f1, f2, f3, f4, f5, f6, f7⟩ := f3b vA.1
  have hp0 := pp0 (fD A.1)
  have h10 : 10 ^ fD A.1 = 10 ^ (fD A.1 - 1) * 10 := by rw [← Nat.pow_succ]; congr 1; omega
  unfold nxR
  split
  · split
    · exact val_0 (fm := A.1) (ex := gE A.1) (co := 10 ^ fD A.1 - 1) vA.1 (by omega) (by omega) (by omega)
    · exact vA
  · next h1 =>
    split
    · next h2 =>
      rw [h2.1]
      exact val_0 (fm := A.1) (ex := -(fB A.1 : Int)) (co := 1) vA.1 (by omega) (by omega) (by have := plt (show 0 < fD A.1 by omega); omega)
    · next h2 =>
      have hso : A.2.1 = 0 := by omega
      have hc0 : 0 < A.2.2.2.2 := by omega
      have hd1 := (dgs_p hc0).1
      have hP : nxP A = min ((fD A.1 : Int) - dgs A.2.2.2.2) (A.2.2.2.1 + fB A.1) := rfl
      have hsh : A.2.2.2.2 * 10 ^ (nxP A).toNat < 10 ^ fD A.1 := Nat.lt_of_lt_of_le (dgs_sh _ _) (pl (by omega))
      have hsp : 0 < A.2.2.2.2 * 10 ^ (nxP A).toNat := Nat.mul_pos hc0 (pp0 _)
      generalize nxP A = P at *
      generalize A.2.2.2.2 * 10 ^ P.toNat = CC at *
      rw [hso]
      split
      · unfold sIn
        dsimp only
        split
        · next h3 =>
          have : CC - 1 < 10 ^ (fD A.1 - 1) := Nat.lt_of_lt_of_le (dgs_l _) (pl (by omega))
          exact val_0 (fm := A.1) (ex := A.2.2.2.1 - P - 1) (co := (CC - 1) * 10 + 9) vA.1 (by omega) (by omega) (by omega)
        · exact val_0 (fm := A.1) (ex := A.2.2.2.1 - P) (co := CC - 1) vA.1 (by omega) (by omega) (by omega)
      · unfold sOu
        dsimp only
        split
        · exact val_inf (A := (A.1, 0, A.2.2.1, A.2.2.2.1, A.2.2.2.2)) (val_0 vA.1 a6.1 a6.2 vA.2.2.2.1)
        · next h3 =>
          unfold sOu1 at h3 ⊢
          dsimp only at h3 ⊢
          split
          · next h4 =>
            rw [if_pos h4] at h3
            dsimp only at h3
            exact val_0 (fm := A.1) (ex := A.2.2.2.1 - P + 1) (co := (CC + 1) / 10) vA.1 (by omega) (by omega) (by omega)
          · next h4 =>
            rw [if_neg h4] at h3
            dsimp only at h3
            exact val_0 (fm := A.1) (ex := A.2.2.2.1 - P) (co := CC + 1) vA.1 (by omega) (by omega) (Nat.lt_of_lt_of_le (dgs_l _) (pl (by omega)))
theorem val_o1 {what dir : Nat} {A : Dm} (vA : ValD A) : ValD (o1R what dir A).1 := by
  obtain ⟨a1, a2, a3, a4, a5⟩ := vA.bb
  unfold o1R
  split
  · exact vA
  · split
    · next h1 =>
      have hn := nanP_c A A A vA vA vA (Or.inl h1)
      exact val_nq hn.1 hn.2
    · next h1 =>
      have hA : A.2.1 < 2 := by omega
      split
      · refine val_rdo vA.1 (fun x z => ?_) (fun u z => ?_)
        · unfold roR at z
          split at z
          · cases z; exact val_iv vA
          · split at z
            · cases z; exact vA
            · split at z <;> cases z
        · unfold roR at z
          split at z
          · cases z
          · split at z
            · cases z
            · split at z
              · cases z; exact lt144' a2
              · cases z
                have hPb : rtP (fD A.1) A.2.2.2.1 A.2.2.2.2 + dgs A.2.2.2.2 ≤ 73 := by unfold rtP; split <;> omega
                have hN1 : rtN (fD A.1) A.2.2.2.1 A.2.2.2.2 < 10 ^ 107 := Nat.lt_of_lt_of_le (dgs_sh _ _) (pl (by omega))
                exact Nat.lt_trans (sq_107 hN1) (plt (by decide))
      · split
        · exact val_mw vA
        · split
          · exact val_nx vA hA
          · split
            · exact val_nx vA hA
            · split
              · exact vA
              · exact val_mw vA
theorem val_sc {dir : Nat} {n : Int} {A : Dm} (vA : ValD A) : ValD (scR dir n A).1 := by
  unfold scR
  split
  · next h1 =>
    have hn := nanP_c A A A vA vA vA (Or.inl h1)
    exact val_nq hn.1 hn.2
  · split
    · exact vA
    · refine val_rdo vA.1 (fun x z => nomatch z) (fun u z => ?_)
      cases z
      exact lt144' vA.bb.2.1
theorem val_cv {dir f : Nat} {A : Dm} (vA : ValD A) (hf : f < 3) : ValD (cvR dir f A).1 := by
  have g := gEb hf
  obtain ⟨f1, f2, f3, f4, f5, f6, f7⟩ := f3b hf
  have a4 := vA.2.1
  have a5 := vA.2.2.2.2.1
  unfold cvR
  split
  · next h1 =>
    have hn := nanP_c A A A vA vA vA (Or.inl h1)
    have hex : (nanP A A A).2.2.2.1 = 0 := hn.1.2.2.2.2.1.elim (fun z => by have := hn.2; omega) (fun z => z)
    have hm : (nanP A A A).2.2.2.2 % 10 ^ (fD f - 1) < 10 ^ (fD f - 1) := Nat.mod_lt _ (pp0 _)
    refine ⟨hf, (by decide : 3 < 4), ?_, ?_, Or.inr hex, fun z => absurd z (by decide : ¬ 3 = 1), fun _ => hm⟩
    · show -(fB f : Int) ≤ (nanP A A A).2.2.2.1 ∧ (nanP A A A).2.2.2.1 ≤ gE f
      rw [hex]
      exact ⟨by omega, by omega⟩
    · exact Nat.lt_of_lt_of_le hm (pl (show fD f - 1 ≤ fD f by omega))
  · split
    · next h1 h2 =>
      have hex : A.2.2.2.1 = 0 := a5.elim (fun z => by omega) (fun z => z)
      have hco := vA.2.2.2.2.2.1 h2
      refine ⟨hf, vA.2.1, ?_, ?_, Or.inr hex, fun _ => hco, fun z => ?_⟩
      · show -(fB f : Int) ≤ A.2.2.2.1 ∧ A.2.2.2.1 ≤ gE f
        rw [hex]
        exact ⟨by omega, by omega⟩
      · show A.2.2.2.2 < 10 ^ fD f
        rw [hco]; exact pp0 _
      · show A.2.2.2.2 < 10 ^ (fD f - 1)
        rw [hco]; exact pp0 _
    · refine val_rdo hf (fun x z => nomatch z) (fun u z => ?_)
      cases z
      exact lt144' vA.bb.2.1
theorem val_fw {dir f : Nat} {v : Int} (hf : f < 3) (hv : -9223372036854775808 ≤ v ∧ v < 9223372036854775808) : ValD (fwR dir f v).1 := by
  unfold fwR
  refine val_rdo hf (fun x z => nomatch z) (fun u z => ?_)
  cases z
  show v.natAbs < 10 ^ 144
  have : (9223372036854775808 : Nat) < 10 ^ 144 := by decide
  omega
theorem val_ft {dir f so D : Nat} {ng : Bool} {ex : Int} (hf : f < 3) (hso : so < 4) (h1 : so = 1 → D = 0) (hD : D < 10 ^ 120) : ValD (ftR dir f so ng ex D).1 := by
  have g := gEb hf
  obtain ⟨f1, f2, f3, f4, f5, f6, f7⟩ := f3b hf
  unfold ftR
  split
  · next h0 =>
    have hb : (if dgs D < fD f then D else 0) < 10 ^ (fD f - 1) := by
      split
      · exact Nat.lt_of_lt_of_le (dgs_l _) (pl (by omega))
      · exact pp0 _
    refine ⟨hf, hso, ⟨(by omega : -(fB f : Int) ≤ 0), (by omega : (0 : Int) ≤ gE f)⟩, Nat.lt_of_lt_of_le hb (pl (show fD f - 1 ≤ fD f by omega)), Or.inr rfl, fun z => ?_, fun _ => hb⟩
    show (if dgs D < fD f then D else 0) = 0
    rw [h1 z]
    split <;> rfl
  · refine val_rdo hf (fun x z => nomatch z) (fun u z => ?_)
    cases z
    exact Nat.lt_trans hD (plt (by decide))
