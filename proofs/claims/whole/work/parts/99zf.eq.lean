/-! ===== the class's results are the reference's: sums and products ===== -/
theorem rdo_rr {A : Dm} {dr co V : Nat} {ng mo zs ng' mo' : Bool} {ex wi : Int} (hf : A.1 < 3) (hc : co < 10 ^ 144) (h : rRn2 A.1 dr ng mo ex wi co = rRn2 A.1 dr ng' mo' (-12500) wi V) (hs : ng = if V = 0 then zs else ng') : rdo dr A (.inr (ng, mo, ex, wi, co)) = rr A.1 dr zs ng' mo' wi V := by
  show ((A.1, (rRnd A.1 dr ng mo ex wi co).1, ng, (rRnd A.1 dr ng mo ex wi co).2.1, (rRnd A.1 dr ng mo ex wi co).2.2.1), (rRnd A.1 dr ng mo ex wi co).2.2.2) = _
  unfold rr
  rw [rRnd_2 hf hc, h, ← hs]
theorem rRn2_p {f dr co : Nat} {ng : Bool} {ex wi : Int} (he : -12500 ≤ ex) : rRn2 f dr ng false ex wi co = rRn2 f dr ng false (-12500) wi (pV ex co) := by
  have := rRn2_e (c := co) f dr (12500 + ex).toNat ng ex wi
  rw [show ex - ((12500 + ex).toNat : Int) = -12500 by omega] at this
  exact this.symm
theorem rdo_p {A : Dm} {dr co : Nat} {ng zs : Bool} {ex wi : Int} (hf : A.1 < 3) (hc : co < 10 ^ 144) (he : -12500 ≤ ex) (hs : co = 0 → ng = zs) : rdo dr A (.inr (ng, false, ex, wi, co)) = rr A.1 dr zs ng false wi (pV ex co) := by
  refine rdo_rr hf hc (rRn2_p he) ?_
  split
  · next e =>
    refine hs ?_
    unfold pV at e
    rcases Nat.mul_eq_zero.mp e with z | z
    · exact z
    · have := pp0 (12500 + ex).toNat; omega
  · rfl
theorem pV_0 (e : Int) : pV e 0 = 0 := Nat.zero_mul _
theorem pV_p {e : Int} {c : Nat} (h : 0 < c) : 0 < pV e c := Nat.mul_pos h (pp0 _)
theorem bnn {a b : Bool} (h : ¬ a = b) : (!a) = b := by cases a <;> cases b <;> simp_all
theorem jn_a {nA nB : Bool} (h : nA = nB) (P X : Nat) : jnV (decide (¬ nA = nB)) P X = P + X ∧ jnN (decide (¬ nA = nB)) nA P X = nA := by
  rw [decide_eq_false (fun z => z h)]
  exact ⟨rfl, if_neg fun z => nomatch z.1⟩
theorem jn_b {nA nB : Bool} {P X : Nat} (h : ¬ nA = nB) (hx : X ≤ P) : jnV (decide (¬ nA = nB)) P X = P - X ∧ jnN (decide (¬ nA = nB)) nA P X = nA := by
  rw [decide_eq_true h]
  exact ⟨if_pos hx, if_neg fun z => by have := z.2; omega⟩
theorem jn_c {nA nB : Bool} {P X : Nat} (h : ¬ nA = nB) (hx : P < X) : jnV (decide (¬ nA = nB)) P X = X - P ∧ jnN (decide (¬ nA = nB)) nA P X = nB := by
  rw [decide_eq_true h, ← bnn h]
  refine ⟨?_, if_pos ⟨rfl, hx⟩⟩
  show (if X ≤ P then P - X else X - P) = _
  exact if_neg (by omega)
theorem ad_a {nA nB : Bool} {dr cx cy : Nat} (h : nA = nB) : adA dr nA nB cx cy = (nA, cx + cy) := if_pos h
theorem ad_e {nA nB : Bool} {dr cx cy : Nat} (h : ¬ nA = nB) (e : cx = cy) : adA dr nA nB cx cy = (decide (dr = 3), 0) := by unfold adA; rw [if_neg h, if_pos e]
theorem ad_b {nA nB : Bool} {dr cx cy : Nat} (h : ¬ nA = nB) (e : cy < cx) : adA dr nA nB cx cy = (nA, cx - cy) := by unfold adA; rw [if_neg h, if_neg (by omega), if_pos e]
theorem ad_c {nA nB : Bool} {dr cx cy : Nat} (h : ¬ nA = nB) (e : cx < cy) : adA dr nA nB cx cy = (nB, cy - cx) := by unfold adA; rw [if_neg h, if_neg (by omega), if_neg (by omega)]
/-- both at one exponent -/
theorem sum_x {A : Dm} {dr cx cy P X : Nat} {nA nB : Bool} {e wi : Int} (hf : A.1 < 3) (he : -12500 ≤ e) (hP : P = pV e cx) (hX : X = pV e cy) (hc : cx + cy < 10 ^ 144) : rdo dr A (.inr ((adA dr nA nB cx cy).1, false, e, wi, (adA dr nA nB cx cy).2)) = rr A.1 dr (if nA = nB then nA else decide (dr = 3)) (jnN (decide (¬ nA = nB)) nA P X) false wi (jnV (decide (¬ nA = nB)) P X) := by
  have hJ := pp0 (12500 + e).toNat
  by_cases h : nA = nB
  · rw [(jn_a h P X).1, (jn_a h P X).2, ad_a h, if_pos h]
    have : P + X = pV e (cx + cy) := by rw [hP, hX]; unfold pV; rw [Nat.add_mul]
    rw [this]
    exact rdo_p hf hc he (fun _ => rfl)
  · rw [if_neg h]
    by_cases h1 : cx = cy
    · have hPX : X = P := by rw [hP, hX, h1]
      rw [(jn_b h (Nat.le_of_eq hPX)).1, (jn_b h (Nat.le_of_eq hPX)).2, ad_e h h1, hPX, Nat.sub_self]
      refine rdo_rr hf (pp0 144) ?_ (by rw [if_pos rfl])
      rw [rRn2_z, rRn2_z]
    · by_cases h2 : cy < cx
      · have hlt : X < P := by rw [hP, hX]; exact Nat.mul_lt_mul_of_pos_right h2 hJ
        rw [(jn_b h (Nat.le_of_lt hlt)).1, (jn_b h (Nat.le_of_lt hlt)).2, ad_b h h2]
        have : P - X = pV e (cx - cy) := by rw [hP, hX]; unfold pV; rw [Nat.sub_mul]
        rw [this]
        exact rdo_p hf (by omega) he (fun z => by omega)
      · have hlt : P < X := by rw [hP, hX]; exact Nat.mul_lt_mul_of_pos_right (by omega) hJ
        rw [(jn_c h hlt).1, (jn_c h hlt).2, ad_c h (by omega)]
        have : X - P = pV e (cy - cx) := by rw [hP, hX]; unfold pV; rw [Nat.sub_mul]
        rw [this]
        exact rdo_p hf (by omega) he (fun z => by omega)
/-- a trace is a trace -/
theorem trc {f dr C k lo : Nat} {ng : Bool} {e wi : Int} (hk : (k : Int) = 12500 + e) (hd : fD f < dgs C) (h0 : 0 < lo) (hl : lo < 10 ^ k) (t : Nat) (ht : 0 < t) (ht2 : t < 10) : rRn2 f dr ng false (e - 1) wi (C * 10 + t) = rRn2 f dr ng false (-12500) wi (C * 10 ^ k + lo) := by
  have a := rRn2_t (c := C) f dr 1 t ng false e wi (by omega) (by rw [Bool.or_false]; exact decide_eq_true (by omega)) hd
  have b := rRn2_t (c := C) f dr k lo ng false e wi hl (by rw [Bool.or_false]; exact decide_eq_true (by omega)) hd
  rw [Nat.pow_one] at a
  rw [show e - (k : Int) = -12500 by omega] at b
  rw [b]
  exact a
/-- far apart -/
theorem far_b {D cu : Nat} (hc : 0 < cu) : D + 2 ≤ dgs (cu * 10 ^ (alS D cu).toNat) ∧ D < dgs (cu * 10 ^ (alS D cu).toNat - 1) := by
  have e := dgs_m hc (alS D cu).toNat 0 (pp0 _)
  have hs : alS D cu = max 0 ((D : Int) + 2 - dgs cu) := rfl
  rw [Nat.add_zero] at e
  have h1 : D + 2 ≤ dgs (cu * 10 ^ (alS D cu).toNat) := by omega
  refine ⟨h1, ?_⟩
  refine dgs_gt ?_
  have h2 : 10 ^ (D + 1) ≤ cu * 10 ^ (alS D cu).toNat := by
    refine Nat.le_of_not_lt fun z => ?_
    have := dgs_le z
    omega
  have h3 : 10 ^ (D + 1) = 10 * 10 ^ D := by rw [Nat.pow_succ, Nat.mul_comm]
  have := pp0 D
  omega
theorem sum_f {A : Dm} {dr cu cl P X : Nat} {nA nB : Bool} {eu el wi : Int} (hf : A.1 < 3) (hu : 0 < cu) (hl : 0 < cl) (hb : dgs cu ≤ 68) (hle : -12400 ≤ el) (hP : P = pV eu cu) (hX : X = pV el cl) (hfar : el + dgs cl ≤ eu - alS (fD A.1) cu) (zs : Bool) : 
    (nA = nB → rdo dr A (.inr (nA, false, eu - (alS (fD A.1) cu + 1), wi, cu * 10 ^ (alS (fD A.1) cu + 1).toNat + 1)) = rr A.1 dr zs nA false wi (P + X)) ∧ (X < P ∧ ∀ n, rdo dr A (.inr (n, false, eu - (alS (fD A.1) cu + 1), wi, cu * 10 ^ (alS (fD A.1) cu + 1).toNat - 1)) = rr A.1 dr zs n false wi (P - X)) := by
  have fb := f3b hf
  have hs : alS (fD A.1) cu = max 0 ((fD A.1 : Int) + 2 - dgs cu) := rfl
  obtain ⟨b1, b2⟩ := far_b (D := fD A.1) hu
  have hm := dgs_m hu (alS (fD A.1) cu).toNat 0 (pp0 _)
  rw [Nat.add_zero] at hm
  have hdc := dgs_p hl
  generalize hsp : alS (fD A.1) cu = sp at *
  have e1 : cu * 10 ^ (sp + 1).toNat = cu * 10 ^ sp.toNat * 10 := by rw [show (sp + 1).toNat = sp.toNat + 1 by omega, Nat.pow_succ, ← Nat.mul_assoc]
  generalize hC : cu * 10 ^ sp.toNat = C at *
  have hCp : 0 < C := by rw [← hC]; exact Nat.mul_pos hu (pp0 _)
  obtain ⟨k, hk⟩ : ∃ k : Nat, (k : Int) = 12500 + (eu - sp) := ⟨(12500 + (eu - sp)).toNat, by omega⟩
  have hPC : P = C * 10 ^ k := by
    rw [hP, ← hC]
    unfold pV
    rw [Nat.mul_assoc, ← Nat.pow_add]
    congr 2
    omega
  have hXk : X < 10 ^ k := by
    rw [hX]
    unfold pV
    have h1 : cl * 10 ^ (12500 + el).toNat < 10 ^ dgs cl * 10 ^ (12500 + el).toNat := Nat.mul_lt_mul_of_pos_right (dgs_l cl) (pp0 _)
    rw [← Nat.pow_add] at h1
    exact Nat.lt_of_lt_of_le h1 (pl (by omega))
  have hX0 : 0 < X := by rw [hX]; exact pV_p hl
  have hC144 : C * 10 + 1 < 10 ^ 144 := by
    have h1 := dgs_l C
    have h2 : (10 : Nat) ^ dgs C ≤ 10 ^ 110 := pl (by omega)
    have h3 : (10 : Nat) ^ 110 * 10 + 1 < 10 ^ 144 := by decide
    omega
  have hCk : 10 ^ k ≤ C * 10 ^ k := Nat.le_mul_of_pos_left _ hCp
  refine ⟨fun hn => ?_, ?_, fun n => ?_⟩
  · rw [e1, hPC]
    refine rdo_rr hf hC144 ?_ (by rw [if_neg (by omega)])
    rw [show eu - (sp + 1) = eu - sp - 1 by omega]
    exact trc hk (by omega) hX0 hXk 1 (by decide) (by decide)
  · rw [hPC]
    omega
  · rw [e1, hPC]
    have e2 : C * 10 - 1 = (C - 1) * 10 + 9 := by omega
    have e3 : C * 10 ^ k - X = (C - 1) * 10 ^ k + (10 ^ k - X) := by
      rw [Nat.sub_mul, Nat.one_mul]
      omega
    rw [e2, e3]
    refine rdo_rr hf (by omega) ?_ (by rw [if_neg (by omega)])
    rw [show eu - (sp + 1) = eu - sp - 1 by omega]
    exact trc hk b2 (by omega) (by omega) 9 (by decide) (by decide)
theorem sum_e {A : Dm} {dr cA cB : Nat} {nA nB : Bool} {eA eB : Int} (hf : A.1 < 3) (hA : -12400 ≤ eA) (hB : -12400 ≤ eB) (h1 : dgs cA ≤ 68) (h2 : dgs cB ≤ 68) : rdo dr A (.inr ((adX (fD A.1) dr nA eA cA nB eB cB).1, false, (adX (fD A.1) dr nA eA cA nB eB cB).2.1, min eA eB, (adX (fD A.1) dr nA eA cA nB eB cB).2.2)) = sumF A.1 dr nA eA cA nB eB cB := by
  have fb := f3b hf
  have c144 : ∀ {c : Nat}, dgs c ≤ 68 → c < 10 ^ 144 := fun h => Nat.lt_of_lt_of_le (dgs_l _) (pl (by omega))
  unfold adX sumF
  by_cases z : cA = 0 ∧ cB = 0
  · rw [if_pos z, z.1, z.2, pV_0, pV_0]
    have eV : jnV (decide (¬ nA = nB)) 0 0 = 0 := by unfold jnV; split <;> rfl
    rw [eV]
    refine rdo_rr hf (pp0 144) ?_ (by rw [if_pos rfl])
    rw [rRn2_z, rRn2_z]
  · rw [if_neg z]
    by_cases zA : cA = 0
    · rw [if_pos zA, zA, pV_0]
      have hX := pV_p (e := eB) (c := cB) (by omega)
      have e1 : jnV (decide (¬ nA = nB)) 0 (pV eB cB) = pV eB cB := by
        unfold jnV
        split
        · rw [if_neg (by omega), Nat.sub_zero]
        · rw [Nat.zero_add]
      have e2 : jnN (decide (¬ nA = nB)) nA 0 (pV eB cB) = nB := by
        unfold jnN
        by_cases h : nA = nB
        · rw [decide_eq_false (fun z => z h), if_neg (fun z => nomatch z.1)]; exact h
        · rw [decide_eq_true h, if_pos ⟨rfl, hX⟩]; exact bnn h
      rw [e1, e2]
      exact rdo_p (co := cB) (ex := eB) hf (c144 h2) (by omega) (fun z => absurd z (by omega))
    · rw [if_neg zA]
      by_cases zB : cB = 0
      · rw [if_pos zB, zB, pV_0]
        have e1 : jnV (decide (¬ nA = nB)) (pV eA cA) 0 = pV eA cA := by
          unfold jnV
          split
          · rw [if_pos (by omega), Nat.sub_zero]
          · rw [Nat.add_zero]
        have e2 : jnN (decide (¬ nA = nB)) nA (pV eA cA) 0 = nA := by
          unfold jnN
          rw [if_neg (fun z => by have := z.2; omega)]
        rw [e1, e2]
        exact rdo_p (co := cA) (ex := eA) hf (c144 h1) (by omega) (fun z => absurd z (by omega))
      · rw [if_neg zB]
        by_cases hle : eB ≤ eA
        · rw [if_pos hle]
          have ab := alg_b (D := fD A.1) fb.2.1 h1 h2 hle
          have hs : (alg (fD A.1) eA cA eB cB).2.1 + (alg (fD A.1) eA cA eB cB).2.2 < 10 ^ 144 := by
            have : (10 : Nat) ^ 137 + 10 ^ 137 < 10 ^ 144 := by decide
            omega
          revert hs
          unfold alg
          by_cases hfar : eB + dgs cB ≤ eA - alS (fD A.1) cA
          · rw [if_pos hfar]
            intro hs
            have hk := sum_f (A := A) (dr := dr) (nA := nA) (nB := nB) (wi := min eA eB) hf (Nat.pos_of_ne_zero zA) (Nat.pos_of_ne_zero zB) h1 hB rfl rfl hfar (if nA = nB then nA else decide (dr = 3))
            have hC : 1 < cA * 10 ^ (alS (fD A.1) cA + 1).toNat := by
              have h0 : (0 : Int) ≤ alS (fD A.1) cA := by unfold alS; omega
              rw [show (alS (fD A.1) cA + 1).toNat = (alS (fD A.1) cA).toNat + 1 by omega, Nat.pow_succ, ← Nat.mul_assoc]
              have := Nat.mul_pos (Nat.pos_of_ne_zero zA) (pp0 (alS (fD A.1) cA).toNat)
              omega
            dsimp only
            by_cases h : nA = nB
            · rw [(jn_a h _ _).1, (jn_a h _ _).2, ad_a h]
              exact hk.1 h
            · rw [(jn_b h (Nat.le_of_lt hk.2.1)).1, (jn_b h (Nat.le_of_lt hk.2.1)).2, ad_b h hC]
              exact hk.2.2 nA
          · rw [if_neg hfar]
            intro hs
            refine sum_x (e := eB) hf (by omega) ?_ rfl hs
            unfold pV
            rw [Nat.mul_assoc, ← Nat.pow_add]
            congr 2
            omega
        · rw [if_neg hle]
          have ab := alg_b (D := fD A.1) fb.2.1 h2 h1 (show eA ≤ eB by omega)
          have hs : (alg (fD A.1) eB cB eA cA).2.2 + (alg (fD A.1) eB cB eA cA).2.1 < 10 ^ 144 := by
            have : (10 : Nat) ^ 137 + 10 ^ 137 < 10 ^ 144 := by decide
            omega
          revert hs
          unfold alg
          by_cases hfar : eA + dgs cA ≤ eB - alS (fD A.1) cB
          · rw [if_pos hfar]
            intro hs
            have hk := sum_f (A := A) (dr := dr) (nA := nB) (nB := nA) (wi := min eA eB) hf (Nat.pos_of_ne_zero zB) (Nat.pos_of_ne_zero zA) h2 hA rfl rfl hfar (if nA = nB then nA else decide (dr = 3))
            have hC : 1 < cB * 10 ^ (alS (fD A.1) cB + 1).toNat := by
              have h0 : (0 : Int) ≤ alS (fD A.1) cB := by unfold alS; omega
              rw [show (alS (fD A.1) cB + 1).toNat = (alS (fD A.1) cB).toNat + 1 by omega, Nat.pow_succ, ← Nat.mul_assoc]
              have := Nat.mul_pos (Nat.pos_of_ne_zero zB) (pp0 (alS (fD A.1) cB).toNat)
              omega
            dsimp only
            by_cases h : nA = nB
            · rw [(jn_a h _ _).1, (jn_a h _ _).2, ad_a h]
              have := hk.1 h.symm
              rw [← h] at this
              rw [Nat.add_comm 1, Nat.add_comm (pV eA cA), ← h]
              exact this
            · rw [(jn_c h hk.2.1).1, (jn_c h hk.2.1).2, ad_c h hC]
              exact hk.2.2 nB
          · rw [if_neg hfar]
            intro hs
            refine sum_x (e := eA) hf (by omega) rfl ?_ hs
            unfold pV
            rw [Nat.mul_assoc, ← Nat.pow_add]
            congr 2
            omega
