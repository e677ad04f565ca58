/-! ===== every result is a datum of its format ===== -/
theorem val_ovf {fm dir : Nat} {ng : Bool} (hf : fm < 3) : Val fm (rOvf fm dir ng).1 (rOvf fm dir ng).2.1 (rOvf fm dir ng).2.2.1 := by
  have g := gEb hf
  obtain ⟨f1, f2, f3, f4, f5, f6, f7⟩ := f3b hf
  have hp := pp0 (fD fm)
  unfold rOvf
  generalize (decide (dir = 0) || decide (dir = 4) || (if ng then decide (dir = 3) else decide (dir = 2))) = bb
  cases bb with
  | true => exact ⟨hf, (by decide : 1 < 4), ⟨(by omega : -(fB fm : Int) ≤ 0), (by omega : (0 : Int) ≤ gE fm)⟩, hp, Or.inr rfl, fun _ => rfl, fun z => absurd z (by decide : ¬ 2 ≤ 1)⟩
  | false => exact ⟨hf, (by decide : 0 < 4), ⟨(by omega : -(fB fm : Int) ≤ gE fm), (by omega : gE fm ≤ gE fm)⟩, (by omega : 10 ^ fD fm - 1 < 10 ^ fD fm), Or.inl rfl, fun z => absurd z (by decide : ¬ 0 = 1), fun z => absurd z (by decide : ¬ 2 ≤ 0)⟩
theorem val_0 {fm co : Nat} {ex : Int} (hf : fm < 3) (h1 : -(fB fm : Int) ≤ ex) (h2 : ex ≤ gE fm) (h3 : co < 10 ^ fD fm) : Val fm 0 ex co := ⟨hf, by decide, ⟨h1, h2⟩, h3, Or.inl rfl, fun z => absurd z (by decide), fun z => absurd z (by decide)⟩
theorem cut_fD {fm c dir : Nat} {ng mo : Bool} {ex : Int} (hc : c < 10 ^ 144) : cutV c (min (rQ fm ex c - ex) 200) mo dir ng ≤ 10 ^ fD fm := by
  have h1 := cutV_le c (min (rQ fm ex c - ex) 200) mo dir ng
  have hd : dgs c ≤ 144 := dgs_le hc
  have hq : ex + dgs c - fD fm ≤ rQ fm ex c := by unfold rQ; omega
  have h2 : c / 10 ^ (min (rQ fm ex c - ex) 200).toNat < 10 ^ fD fm := by
    refine (Nat.div_lt_iff_lt_mul (pp0 _)).mpr ?_
    rw [← Nat.pow_add]
    exact Nat.lt_of_lt_of_le (dgs_l c) (pl (by omega))
  omega
theorem val_inx {fm dir c : Nat} {ng mo : Bool} {ex : Int} (hf : fm < 3) (hc : c < 10 ^ 144) : Val fm (rInx fm dir ng mo ex c).1 (rInx fm dir ng mo ex c).2.1 (rInx fm dir ng mo ex c).2.2.1 := by
  have g := gEb hf
  obtain ⟨f1, f2, f3, f4, f5, f6, f7⟩ := f3b hf
  have hq : -(fB fm : Int) ≤ rQ fm ex c := by unfold rQ; omega
  have hV := cut_fD (fm := fm) (dir := dir) (ng := ng) (mo := mo) (ex := ex) hc
  unfold rInx
  split
  · exact val_ovf hf
  · split
    · split
      · exact val_ovf hf
      · refine val_0 hf (show -(fB fm : Int) ≤ rQ fm ex c + 1 by omega) (show rQ fm ex c + 1 ≤ gE fm by omega) (show _ / 10 < _ from ?_)
        have := pp0 (fD fm)
        omega
    · next hd =>
      exact val_0 hf hq (show rQ fm ex c ≤ gE fm by omega) (show cutV c (min (rQ fm ex c - ex) 200) mo dir ng < 10 ^ fD fm from Nat.lt_of_lt_of_le (dgs_l _) (pl (by omega)))
theorem val_rnd {fm dir c : Nat} {ng mo : Bool} {ex wi : Int} (hf : fm < 3) (hc : c < 10 ^ 144) : Val fm (rRnd fm dir ng mo ex wi c).1 (rRnd fm dir ng mo ex wi c).2.1 (rRnd fm dir ng mo ex wi c).2.2.1 := by
  have g := gEb hf
  obtain ⟨f1, f2, f3, f4, f5, f6, f7⟩ := f3b hf
  unfold rRnd
  split
  · exact val_inx hf hc
  · split
    · exact val_0 hf (show -(fB fm : Int) ≤ max (-(fB fm : Int)) (min wi (gE fm)) by omega) (show max (-(fB fm : Int)) (min wi (gE fm)) ≤ gE fm by omega) (pp0 _)
    · split
      · exact val_inx hf (Nat.lt_of_le_of_lt (Nat.div_le_self _ _) hc)
      · next hn =>
        have hn1 : ¬ ((fD fm : Int) - dgs (c / 10 ^ tz c) < 0) := fun z => hn (Or.inl z)
        have hn2 : ¬ (min (ex + tz c) (gE fm) < max (ex + tz c - (fD fm - dgs (c / 10 ^ tz c))) (-(fB fm : Int))) := fun z => hn (Or.inr z)
        generalize hlo : max (ex + tz c - (fD fm - dgs (c / 10 ^ tz c))) (-(fB fm : Int)) = lo at *
        generalize hhi : min (ex + tz c) (gE fm) = hi at *
        generalize c / 10 ^ tz c = C at *
        refine val_0 hf (show -(fB fm : Int) ≤ max lo (min wi hi) by omega) (show max lo (min wi hi) ≤ gE fm by omega) (Nat.lt_of_lt_of_le (dgs_sh _ _) (pl (by omega)))
theorem val_iv {A : Dm} (v : ValD A) : ValD (iv A) := by
  have g := gEb v.1
  obtain ⟨f1, f2, f3, f4, f5, f6, f7⟩ := f3b v.1
  exact ⟨v.1, (by decide : 3 < 4), ⟨(by omega : -(fB A.1 : Int) ≤ 0), (by omega : (0 : Int) ≤ gE A.1)⟩, pp0 _, Or.inr rfl, fun _ => rfl, fun _ => pp0 _⟩
theorem val_inf {A : Dm} {n : Bool} (v : ValD A) : ValD (inf A n) := by
  have g := gEb v.1
  obtain ⟨f1, f2, f3, f4, f5, f6, f7⟩ := f3b v.1
  exact ⟨v.1, (by decide : 1 < 4), ⟨(by omega : -(fB A.1 : Int) ≤ 0), (by omega : (0 : Int) ≤ gE A.1)⟩, pp0 _, Or.inr rfl, fun _ => rfl, fun _ => pp0 _⟩
theorem val_nq {A : Dm} (v : ValD A) (h : 2 ≤ A.2.1) : ValD (nq A) := by
  obtain ⟨v1, v2, v3, v4, v5, v6, v7⟩ := v
  exact ⟨v1, (by decide : 3 < 4), v3, v4, Or.inr (v5.elim (fun z => by omega) (fun z => z)), fun z => absurd z (by decide : ¬ 3 = 1), fun _ => v7 h⟩
theorem val_ng {A : Dm} {n : Bool} (v : ValD A) : ValD (A.1, A.2.1, n, A.2.2.2.1, A.2.2.2.2) := v
theorem nanP_c (A B C : Dm) (vA : ValD A) (vB : ValD B) (vC : ValD C) (h : 2 ≤ A.2.1 ∨ 2 ≤ B.2.1 ∨ 2 ≤ C.2.1) : ValD (nanP A B C) ∧ 2 ≤ (nanP A B C).2.1 := by
  have a4 := vA.2.1
  have b4 := vB.2.1
  have c4 := vC.2.1
  cases hs : nanS A B C with
  | true =>
    unfold nanP
    rw [hs]
    simp only [if_true]
    split
    · next e => exact ⟨vA, by omega⟩
    · split
      · next e => exact ⟨vB, by omega⟩
      · next e1 e2 =>
        unfold nanS at hs
        simp [e1, e2] at hs
        exact ⟨vC, by omega⟩
  | false =>
    unfold nanS at hs
    simp at hs
    unfold nanP
    rw [show nanS A B C = false by unfold nanS; simp [hs]]
    simp only [Bool.false_eq_true, if_false]
    split
    · next e => exact ⟨vA, by omega⟩
    · split
      · next e => exact ⟨vB, by omega⟩
      · next e1 e2 => exact ⟨vC, by omega⟩
theorem val_rdo {dir : Nat} {d : Dm} {o : OR} (hf : d.1 < 3) (h1 : ∀ x, o = .inl x → ValD x.1) (h2 : ∀ u, o = .inr u → u.2.2.2.2 < 10 ^ 144) : ValD (rdo dir d o).1 := by
  cases o with
  | inl x => exact h1 x rfl
  | inr u => exact val_rnd hf (h2 u rfl)
theorem lt144 {x : Nat} (h : x < 10 ^ 138) : x < 10 ^ 144 := Nat.lt_trans h (plt (by decide))
theorem lt144' {x : Nat} (h : x < 10 ^ 34) : x < 10 ^ 144 := Nat.lt_trans h (plt (by decide))
