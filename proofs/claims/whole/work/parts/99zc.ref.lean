/-! ===== the reference: divide ===== -/
/-- a number with 120 zeros more -/
def sX (c : Nat) : Nat := c * 10 ^ 120
def dvV (eA : Int) (cA : Nat) (eB : Int) (cB : Nat) : Nat := sX cA / cB * 10 ^ (12500 + eA - eB - 120).toNat
noncomputable def dvF (dr : Nat) (A B : Dm) : Dm × Nat :=
  if A.2.1 = B.2.1 ∧ (A.2.1 = 1 ∨ ((A.2.1 = 0 ∧ A.2.2.2.2 = 0) ∧ (B.2.1 = 0 ∧ B.2.2.2.2 = 0))) then (iv A, 1) else
  if A.2.1 = 1 then (inf A (xo A B), 0) else
  if B.2.1 = 1 then ((A.1, 0, xo A B, -(fB A.1 : Int), 0), 0) else
  if B.2.1 = 0 ∧ B.2.2.2.2 = 0 then (inf A (xo A B), 2) else
  rr A.1 dr (xo A B) (xo A B) (decide (¬ sX A.2.2.2.2 % B.2.2.2.2 = 0)) (A.2.2.2.1 - B.2.2.2.1) (dvV A.2.2.2.1 A.2.2.2.2 B.2.2.2.1 B.2.2.2.2)
theorem sX_0 : sX 0 = 0 := by unfold sX; exact Nat.zero_mul _
theorem sX_b {c : Nat} (h : c < 10 ^ 34) : sX c < 10 ^ 154 := by
  unfold sX
  rw [show (154 : Nat) = 34 + 120 from rfl, Nat.pow_add]
  exact Nat.mul_lt_mul_of_pos_right h (pp0 120)
theorem sX_z {a b : Nat} (h : sX a / b = 0) (hb : 0 < b) (h34 : b < 10 ^ 34) : a = 0 := by
  have h2 := Nat.lt_of_div_eq_zero hb h
  rcases Nat.eq_zero_or_pos a with z | z
  · exact z
  · have h5 : 1 * 10 ^ 120 ≤ sX a := Nat.mul_le_mul_right _ z
    rw [Nat.one_mul] at h5
    have h4 : (10 : Nat) ^ 34 ≤ 10 ^ 120 := pl (by decide)
    exact absurd (Nat.lt_of_lt_of_le (Nat.lt_trans h2 h34) (Nat.le_trans h4 h5)) (Nat.lt_irrefl _)
theorem div_s (X m : Nat) : X / 10 ^ m = 10 * (X / 10 ^ (m + 1)) + X / 10 ^ m % 10 := by
  rw [Nat.pow_succ, ← Nat.div_div_eq_div_mul]
  generalize X / 10 ^ m = y
  omega
theorem dv_dig {a i : Nat} (hi : i < 160) : sX a / 10 ^ (160 - (i + 1)) % 10 = atD a (39 - (i : Int)) := by
  unfold atD sX
  by_cases h : i ≤ 39
  · rw [if_neg (by omega)]
    have e : (10 : Nat) ^ (160 - (i + 1)) = 10 ^ 120 * 10 ^ (39 - i) := by rw [← Nat.pow_add]; congr 1; omega
    rw [e, ← Nat.div_div_eq_div_mul, Nat.mul_div_cancel _ (pp0 120), show (39 - (i : Int)).toNat = 39 - i by omega]
  · rw [if_pos (by omega)]
    have e : (10 : Nat) ^ 120 = 10 ^ (i - 40) * 10 * 10 ^ (160 - (i + 1)) := by rw [← Nat.pow_succ, ← Nat.pow_add]; congr 1; omega
    rw [e, ← Nat.mul_assoc, ← Nat.mul_assoc, Nat.mul_div_cancel _ (pp0 _), Nat.mul_mod_left]
theorem dv_step {N b d n : Nat} (hb : 0 < b) (hn : n = (10 * (N % b) + d) / b) : (10 * N + d) / b = 10 * (N / b) + n ∧ (10 * N + d) % b = (10 * (N % b) + d) % b := by
  have e : 10 * N + d = (10 * (N % b) + d) + b * (10 * (N / b)) := by
    have h := Nat.div_add_mod N b
    have h1 : b * (10 * (N / b)) = 10 * (b * (N / b)) := Nat.mul_left_comm _ _ _
    rw [h1]
    generalize b * (N / b) = y at *
    omega
  rw [e, Nat.add_mul_div_left _ _ hb, Nat.add_mul_mod_self_left, ← hn]
  exact ⟨Nat.add_comm _ _, rfl⟩
section REF
variable {h : ix_H} {Q : ix_O → ix_H → Prop} {S0 : Nat → AC} {R : Nat → Dm} {V cd dr ra si tr : Nat} {mo ng : Bool} {sp sz wr : Nat} {il : Bool} {rs pt rl wo tx ou : Nat → Nat} {j x : Int} {r f s m a : Nat} {b t : Bool}
/-- round, with what it leaves named -/
theorem m_roundR {f0 wi : Int} {zs : Bool} {W : Nat} (K : (RI S0 h R V cd dr ra si tr mo ng sp sz wr il rs pt rl wo tx ou)) (hW : V = W) (hf0 : f0 = (f : Int)) (hf : f < 3) (hdr : dr < 5) (hwi : -30000 ≤ wi ∧ wi ≤ 30000) (hz : W = 0 → mo = false) (q : ∀ h', (RJ S0 h' (va_up R 8 (rr f dr zs ng mo wi W).1) cd dr ra (si ||| (rr f dr zs ng mo wi W).2) tr sz wr tx ou) → Q (.inl none) h') : ix_M 208 [.ref 98, .int (zI f0), .int (zI wi), .int (bI zs)] h Q := by
  subst hW
  exact m_round K hf0 hf hdr hwi hz fun h K => q _ K.rj
theorem m_divide (K : (RI S0 h R V cd dr ra si tr mo ng sp sz wr il rs pt rl wo tx ou)) (vA : ValD (R 9)) (vB : ValD (R 10)) (hA : (R 9).2.1 < 2) (hB : (R 10).2.1 < 2) (hdr : dr < 5) (q : ∀ h', (RJ S0 h' (va_up R 8 (dvF dr (R 9) (R 10)).1) cd dr ra (si ||| (dvF dr (R 9) (R 10)).2) tr sz wr tx ou) → Q (.inl none) h') : ix_M 221 [.ref 98, .int (zI 9), .int (zI 10)] h Q := by
  have bA := Val.b vA
  have bB := Val.b vB
  have cA := Val.c34 vA
  have cB := Val.c34 vB
  have hsA := swp_b vA.2.1
  have hsB := swp_b vB.2.1
  have fA := vA.1
  have fb := f3b fA
  unfold dvF at q
  have t27 : ∀ sg : Bool, sg = xo (R 9) (R 10) → ix_E 221 27 [some (.ref 98), some (.int (zI 9)), some (.int (zI 10)), some (.int (zI (R 9).1)), none, none, none] [.int (bI sg)] h Q := by
    intro sg hsg
    rw [← hsg] at q
    have t152 : (R 9).2.1 = 0 → ¬ (R 10).2.2.2.2 = 0 → (∀ h', (RJ S0 h' (va_up R 8 (rr (R 9).1 dr sg sg (decide (¬ sX (R 9).2.2.2.2 % (R 10).2.2.2.2 = 0)) ((R 9).2.2.2.1 - (R 10).2.2.2.1) (dvV (R 9).2.2.2.1 (R 9).2.2.2.2 (R 10).2.2.2.1 (R 10).2.2.2.2)).1) cd dr ra (si ||| (rr (R 9).1 dr sg sg (decide (¬ sX (R 9).2.2.2.2 % (R 10).2.2.2.2 = 0)) ((R 9).2.2.2.1 - (R 10).2.2.2.1) (dvV (R 9).2.2.2.1 (R 9).2.2.2.2 (R 10).2.2.2.1 (R 10).2.2.2.2)).2) tr sz wr tx ou) → Q (.inl none) h') → ix_E 221 152 [some (.ref 98), some (.int (zI 9)), some (.int (zI 10)), some (.int (zI (R 9).1)), some (.int (bI sg)), none, none] [] h Q := by
      intro hs0 hb0 q
      have hbp : 0 < (R 10).2.2.2.2 := Nat.pos_of_ne_zero hb0
      have loop : ∀ n i : Nat, i + n = 160 → ∀ (h1 : ix_H) (f' pt' : Nat → Nat), (∀ j, j < 130 → f' j < 10) → (∀ j, j < 130 → pt' j < 10) → v10 pt' 130 = (R 10).2.2.2.2 → v10 f' 130 = sX (R 9).2.2.2.2 / 10 ^ (160 - i) % (R 10).2.2.2.2 → (RI S0 h1 R (sX (R 9).2.2.2.2 / 10 ^ (160 - i) / (R 10).2.2.2.2 * 10 ^ ((12500 + (R 9).2.2.2.1 - (R 10).2.2.2.1).toNat + 40 - i)) cd dr ra si tr (false) ng (130) sz wr il (f') (pt') rl wo tx ou) → ix_E 221 184 [some (.ref 98), some (.int (zI 9)), some (.int (zI 10)), some (.int (zI (R 9).1)), some (.int (bI sg)), some (.int (zI (12500 + (R 9).2.2.2.1 - (R 10).2.2.2.1))), some (.int (zI (39 - (i : Int))))] [] h1 Q := by
        intro n
        induction n with
        | zero =>
          intro i hi h f' pt' hf hp ep er K
          obtain rfl : i = 160 := by omega
          rw [Nat.sub_self, Nat.pow_zero, Nat.div_one] at er K
          refine jx (pc' := 188) (L' := [_, _, _, _, _, _, _]) (st' := [.int (zI (-120)), _]) 2 rfl ?_
          refine jct (pc' := 218) rfl rfl rfl (by rw [zc_lt ⟨by omega, by omega⟩ ⟨by omega, by omega⟩]; exact decide_eq_true (by omega)) ?_
          refine jx (pc' := 220) (L' := [_, _, _, _, _, _, _]) (st' := [_, _]) 2 rfl ?_
          refine jcv (pc' := 223) 226 [] [_] K.ob rfl rfl rfl rfl rfl rfl rfl rfl ?_
          refine m_isRest K (by decide) hf (jk ?_)
          rw [er]
          refine jp_mo (pc' := 226) ((decide (¬ sX (R 9).2.2.2.2 % (R 10).2.2.2.2 = 0))) K (by first | rfl | (congr 1; omega)) rfl rfl rfl rfl fun h K => ?_
          refine jx (pc' := 229) (L' := [_, _, _, _, _, _, _]) (st' := [_, _]) 2 rfl ?_
          refine jp_ng (pc' := 232) sg K (by first | rfl | (congr 1; omega)) rfl rfl rfl rfl fun h K => ?_
          refine jx (pc' := 235) (L' := [_, _, _, _, _, _, _]) (st' := [_, _, _]) 3 rfl ?_
          refine jgf (pc' := 238) K.ob rfl rfl rfl rfl rfl ?_
          refine jx (pc' := 239) (L' := [_, _, _, _, _, _, _]) (st' := [_, _, _, _]) 1 rfl ?_
          refine jR_p (pc' := 240) 9 K rfl rfl (by omega) (by omega)  rfl ?_
          refine jx (pc' := 241) (L' := [_, _, _, _, _, _, _]) (st' := [_, _, _, _]) 1 rfl ?_
          refine jgf (pc' := 244) K.ob rfl rfl rfl rfl rfl ?_
          refine jx (pc' := 245) (L' := [_, _, _, _, _, _, _]) (st' := [_, _, _, _, _]) 1 rfl ?_
          refine jR_p (pc' := 246) 10 K rfl rfl (by omega) (by omega)  rfl ?_
          refine jx (pc' := 249) (L' := [_, _, _, _, _, _, _]) (st' := [_, _, _, _]) 2 rfl ?_
          try simp (disch := omega) only [kz, kzl0, kzl1, kzb, kzs, zI_add, zI_sub, zI_neg, zI_mul, zL_i, zI_l, zL_add, zL_sub, zL_neg]
          refine jcv (pc' := 252) 208 [_, _, _] [] K.ob rfl rfl rfl rfl rfl rfl rfl rfl ?_
          rw [show (12500 + (R 9).2.2.2.1 - (R 10).2.2.2.1).toNat + 40 - 160 = (12500 + (R 9).2.2.2.1 - (R 10).2.2.2.1 - 120).toNat by omega] at K
          refine m_roundR (W := dvV (R 9).2.2.2.1 (R 9).2.2.2.2 (R 10).2.2.2.1 (R 10).2.2.2.2) K rfl rfl fA hdr ⟨by omega, by omega⟩ (fun hz => ?_) fun h K => jk ?_
          · refine decide_eq_false fun z => z ?_
            have h1 : sX (R 9).2.2.2.2 / (R 10).2.2.2.2 = 0 := by
              rcases Nat.mul_eq_zero.mp hz with z | z
              · exact z
              · have := pp0 (12500 + (R 9).2.2.2.1 - (R 10).2.2.2.1 - 120).toNat; omega
            have h3 := sX_z h1 hbp cB
            rw [h3, sX_0, Nat.zero_mod]
          · refine ix_qr _ rfl rfl rfl ?_
            exact q _ K
        | succ n ih =>
          intro i hi h f' pt' hf hp ep er K
          have hdg := dv_dig (a := (R 9).2.2.2.2) (i := i) (by omega)
          have hds := div_s (sX (R 9).2.2.2.2) (160 - (i + 1))
          rw [show 160 - (i + 1) + 1 = 160 - i by omega, hdg] at hds
          have hab := atD_b (R 9).2.2.2.2 (39 - (i : Int))
          have hml := Nat.mod_lt (sX (R 9).2.2.2.2 / 10 ^ (160 - i)) hbp
          generalize hN : sX (R 9).2.2.2.2 / 10 ^ (160 - i) = N at *
          refine jx (pc' := 188) (L' := [_, _, _, _, _, _, _]) (st' := [.int (zI (-120)), _]) 2 rfl ?_
          refine jcn (pc' := 191) 218 rfl rfl rfl rfl (by rw [zc_lt ⟨by omega, by omega⟩ ⟨by omega, by omega⟩]; exact decide_eq_false (by omega)) ?_
          refine jx (pc' := 192) (L' := [_, _, _, _, _, _, _]) (st' := [_]) 1 rfl ?_
          refine jgf (pc' := 195) K.ob rfl rfl rfl rfl rfl ?_
          refine jx (pc' := 205) (L' := [_, _, _, _, _, _, _]) (st' := [_, _, _, _, _, _]) 7 rfl ?_
          try simp (disch := omega) only [kz, kzl0, kzl1, kzb, kzs, zI_add, zI_sub, zI_neg, zI_mul, zL_i, zI_l, zL_add, zL_sub, zL_neg]
          refine jcv (pc' := 208) 198 [_, _] [_, _, _] K.ob rfl rfl rfl rfl rfl rfl rfl rfl ?_
          refine m_at K rfl (by decide) ⟨by omega, by omega⟩ (jk ?_)
          generalize hd : atD (R 9).2.2.2.2 (39 - (i : Int)) = d at *
          refine jcv (pc' := 211) 223 [_] [_, _] K.ob rfl rfl rfl rfl rfl rfl rfl rfl ?_
          refine m_often (d := d) K rfl hab (by decide) (by decide) hf hp (by rw [er, ep]; exact hml) (by rw [er]; exact Nat.lt_trans hml (Nat.lt_of_lt_of_le cB (pl (by decide)))) fun h rs' hr' er' h10 K => jk ?_
          rw [er, ep] at er' h10 ⊢
          obtain ⟨s1, s2⟩ := dv_step (N := N) (d := d) hbp rfl
          generalize hn : (10 * (N % (R 10).2.2.2.2) + d) / (R 10).2.2.2.2 = n' at *
          refine jW_r (pc' := 212) (((12500+(R 9).2.2.2.1-(R 10).2.2.2.1).toNat+39-i)) n' K (by first | rfl | (congr 1; omega)) rfl rfl (by omega) (by omega)  rfl (by omega) fun h K => ?_
          have e : sd (N / (R 10).2.2.2.2 * 10 ^ ((12500 + (R 9).2.2.2.1 - (R 10).2.2.2.1).toNat + 40 - i)) ((12500 + (R 9).2.2.2.1 - (R 10).2.2.2.1).toNat + 39 - i) n' = sX (R 9).2.2.2.2 / 10 ^ (160 - (i + 1)) / (R 10).2.2.2.2 * 10 ^ ((12500 + (R 9).2.2.2.1 - (R 10).2.2.2.1).toNat + 40 - (i + 1)) := by
            rw [hds, s1]
            have hw : (12500 + (R 9).2.2.2.1 - (R 10).2.2.2.1).toNat + 40 - i = (12500 + (R 9).2.2.2.1 - (R 10).2.2.2.1).toNat + 39 - i + 1 := by omega
            rw [hw, show (12500 + (R 9).2.2.2.1 - (R 10).2.2.2.1).toNat + 40 - (i + 1) = (12500 + (R 9).2.2.2.1 - (R 10).2.2.2.1).toNat + 39 - i by omega]
            unfold sd
            rw [Nat.mul_div_cancel _ (pp0 _), Nat.pow_succ, ← Nat.mul_assoc, Nat.mul_right_comm, Nat.mul_mod_left, Nat.add_mul]
            rw [Nat.mul_comm (N / (R 10).2.2.2.2) 10, Nat.add_zero]
          rw [e] at K
          refine jx (pc' := 184) (L' := [_, _, _, _, _, _, _]) (st' := []) 2 rfl ?_
          try simp (disch := omega) only [kz, kzl0, kzl1, kzb, kzs, zI_add, zI_sub, zI_neg, zI_mul, zL_i, zI_l, zL_add, zL_sub, zL_neg]
          rw [show (39 : Int) - (i : Int) + -1 = 39 - ((i + 1 : Nat) : Int) by omega]
          refine ih (i + 1) (by omega) h rs' pt' hr' hp ep ?_ K
          rw [er', hds, s2]
      refine jx (pc' := 153) (L' := [_, _, _, _, _, _, _]) (st' := [_]) 1 rfl ?_
      refine jcv (pc' := 156) 204 [] [] K.ob rfl rfl rfl rfl rfl rfl rfl rfl ?_
      refine m_empty K fun h K => jk ?_
      refine jx (pc' := 158) (L' := [_, _, _, _, _, _, _]) (st' := [_, _]) 2 rfl ?_
      refine jcv (pc' := 161) 222 [_] [] K.ob rfl rfl rfl rfl rfl rfl rfl rfl ?_
      refine m_beginDivision (a := 10) K rfl (by decide) fun h rs' pt' h1 h2 e1 e2 K => jk ?_
      refine jx (pc' := 165) (L' := [_, _, _, _, _, _, _]) (st' := [_, .int (zI 12500)]) 2 rfl ?_
      refine jgf (pc' := 168) K.ob rfl rfl rfl rfl rfl ?_
      refine jx (pc' := 169) (L' := [_, _, _, _, _, _, _]) (st' := [_, _, .int (zI 12500)]) 1 rfl ?_
      refine jR_p (pc' := 170) 9 K rfl rfl (by omega) (by omega)  rfl ?_
      refine jx (pc' := 172) (L' := [_, _, _, _, _, _, _]) (st' := [_, _]) 2 rfl ?_
      try simp (disch := omega) only [kz, kzl0, kzl1, kzb, kzs, zI_add, zI_sub, zI_neg, zI_mul, zL_i, zI_l, zL_add, zL_sub, zL_neg]
      refine jgf (pc' := 175) K.ob rfl rfl rfl rfl rfl ?_
      refine jx (pc' := 176) (L' := [_, _, _, _, _, _, _]) (st' := [_, _, _]) 1 rfl ?_
      refine jR_p (pc' := 177) 10 K rfl rfl (by omega) (by omega)  rfl ?_
      refine jx (pc' := 184) (L' := [_, _, _, _, _, _, _]) (st' := []) 4 rfl ?_
      try simp (disch := omega) only [kz, kzl0, kzl1, kzb, kzs, zI_add, zI_sub, zI_neg, zI_mul, zL_i, zI_l, zL_add, zL_sub, zL_neg]
      have hz : sX (R 9).2.2.2.2 / 10 ^ (160 - 0) = 0 := Nat.div_eq_of_lt (by
        exact Nat.lt_of_lt_of_le (sX_b cA) (pl (by decide)))
      refine loop 160 0 (by omega) h rs' pt' h1 h2 e2 ?_ ?_
      · rw [e1, hz, Nat.zero_mod]
      · rw [hz, Nat.zero_div, Nat.zero_mul]
        exact K
    have t78 : ¬ ((R 9).2.1 = (R 10).2.1 ∧ ((R 9).2.1 = 1 ∨ (((R 9).2.1 = 0 ∧ (R 9).2.2.2.2 = 0) ∧ ((R 10).2.1 = 0 ∧ (R 10).2.2.2.2 = 0)))) → ix_E 221 78 [some (.ref 98), some (.int (zI 9)), some (.int (zI 10)), some (.int (zI (R 9).1)), some (.int (bI sg)), none, none] [] h Q := by
      intro hn
      rw [if_neg hn] at q
      refine jx (pc' := 79) (L' := [_, _, _, _, _, _, _]) (st' := [_]) 1 rfl ?_
      refine jgf (pc' := 82) K.ob rfl rfl rfl rfl rfl ?_
      refine jx (pc' := 83) (L' := [_, _, _, _, _, _, _]) (st' := [_, _]) 1 rfl ?_
      refine jR_so (pc' := 84) 9 K rfl rfl (by omega) (by omega)  rfl ?_
      refine jx (pc' := 85) (L' := [_, _, _, _, _, _, _]) (st' := [.int (zI 1), _]) 1 rfl ?_
      by_cases e : (R 9).2.1 = 1
      · have e1 := swp_1.mpr e
        rw [if_pos e] at q
        simp only [Nat.or_zero] at q
        refine jcn (pc' := 88) 98 rfl rfl rfl rfl (by rw [zc_ne ⟨by omega, by omega⟩ ⟨by omega, by omega⟩]; exact decide_eq_false (by omega)) ?_
        refine jx (pc' := 92) (L' := [_, _, _, _, _, _, _]) (st' := [_, _, _]) 3 rfl ?_
        refine jcv (pc' := 95) 203 [_, _] [] K.ob rfl rfl rfl rfl rfl rfl rfl rfl ?_
        refine m_infinite K rfl fA fun h K => jk ?_
        refine jx (pc' := 252) (L' := [_, _, _, _, _, _, _]) (st' := []) 1 rfl ?_
        refine ix_qr _ rfl rfl rfl ?_
        exact q _ K.rj
      · have e1 : ¬ swp (R 9).2.1 = 1 := fun z => e (swp_1.mp z)
        rw [if_neg e] at q
        refine jct (pc' := 98) rfl rfl rfl (by rw [zc_ne ⟨by omega, by omega⟩ ⟨by omega, by omega⟩]; exact decide_eq_true (by omega)) ?_
        refine jx (pc' := 99) (L' := [_, _, _, _, _, _, _]) (st' := [_]) 1 rfl ?_
        refine jgf (pc' := 102) K.ob rfl rfl rfl rfl rfl ?_
        refine jx (pc' := 103) (L' := [_, _, _, _, _, _, _]) (st' := [_, _]) 1 rfl ?_
        refine jR_so (pc' := 104) 10 K rfl rfl (by omega) (by omega)  rfl ?_
        refine jx (pc' := 105) (L' := [_, _, _, _, _, _, _]) (st' := [.int (zI 1), _]) 1 rfl ?_
        by_cases e2 : (R 10).2.1 = 1
        · have e3 := swp_1.mpr e2
          rw [if_pos e2] at q
          simp only [Nat.or_zero] at q
          refine jcn (pc' := 108) 124 rfl rfl rfl rfl (by rw [zc_ne ⟨by omega, by omega⟩ ⟨by omega, by omega⟩]; exact decide_eq_false (by omega)) ?_
          refine jx (pc' := 114) (L' := [_, _, _, _, _, _, _]) (st' := [_, _, .int (zI 0), _, _]) 5 rfl ?_
          refine jcs (pc' := 117) 179 [_] [_, .int (zI 0), _, _] rfl rfl rfl rfl rfl rfl rfl rfl ?_
          refine m_biasOf rfl fA (jk ?_)
          refine jx (pc' := 118) (L' := [_, _, _, _, _, _, _]) (st' := [_, _, .int (zI 0), _, _]) 1 rfl ?_
          try simp (disch := omega) only [kz, kzl0, kzl1, kzb, kzs, zI_add, zI_sub, zI_neg, zI_mul, zL_i, zI_l, zL_add, zL_sub, zL_neg]
          refine jcv (pc' := 121) 202 [_, .int (zI 0), _, _] [] K.ob rfl rfl rfl rfl rfl rfl rfl rfl ?_
          refine m_become (s := 0) K rfl rfl fA (by decide) ⟨by omega, by omega⟩ fun h K => jk ?_
          refine jx (pc' := 252) (L' := [_, _, _, _, _, _, _]) (st' := []) 1 rfl ?_
          refine ix_qr _ rfl rfl rfl ?_
          exact q _ K.rj
        · have e3 : ¬ swp (R 10).2.1 = 1 := fun z => e2 (swp_1.mp z)
          rw [if_neg e2] at q
          refine jct (pc' := 124) rfl rfl rfl (by rw [zc_ne ⟨by omega, by omega⟩ ⟨by omega, by omega⟩]; exact decide_eq_true (by omega)) ?_
          refine jx (pc' := 126) (L' := [_, _, _, _, _, _, _]) (st' := [_, _]) 2 rfl ?_
          refine jcv (pc' := 129) 197 [_] [] K.ob rfl rfl rfl rfl rfl rfl rfl rfl ?_
          refine m_isZero (r := 10) K rfl (by decide) (jk ?_)
          by_cases hz : (R 10).2.1 = 0 ∧ (R 10).2.2.2.2 = 0
          · rw [if_pos hz] at q
            refine jin (pc' := 132) 152 rfl rfl rfl rfl (by rw [bz_eq, decide_eq_true hz]; rfl) ?_
            refine jx (pc' := 134) (L' := [_, _, _, _, _, _, _]) (st' := [_, _]) 2 rfl ?_
            refine jgf (pc' := 137) K.ob rfl rfl rfl rfl rfl ?_
            refine jx (pc' := 139) (L' := [_, _, _, _, _, _, _]) (st' := [_, _]) 2 rfl ?_
            try simp (disch := omega) only [kz, kzl0, kzl1, kzb, kzs, zI_add, zI_sub, zI_neg, zI_mul, zL_i, zI_l, zL_add, zL_sub, zL_neg]
            refine jp_si (pc' := 142) ((si ||| 2)) K (zor si 2) rfl rfl rfl rfl fun h K => ?_
            refine jx (pc' := 146) (L' := [_, _, _, _, _, _, _]) (st' := [_, _, _]) 3 rfl ?_
            refine jcv (pc' := 149) 203 [_, _] [] K.ob rfl rfl rfl rfl rfl rfl rfl rfl ?_
            refine m_infinite K rfl fA fun h K => jk ?_
            refine jx (pc' := 252) (L' := [_, _, _, _, _, _, _]) (st' := []) 1 rfl ?_
            refine ix_qr _ rfl rfl rfl ?_
            exact q _ K.rj
          · rw [if_neg hz] at q
            refine jit (pc' := 152) rfl rfl rfl (by rw [bz_eq, decide_eq_false hz]; rfl) ?_
            exact t152 (by omega) (fun z => hz ⟨by omega, z⟩) q
    have t70 : ((R 9).2.1 = (R 10).2.1 ∧ ((R 9).2.1 = 1 ∨ (((R 9).2.1 = 0 ∧ (R 9).2.2.2.2 = 0) ∧ ((R 10).2.1 = 0 ∧ (R 10).2.2.2.2 = 0)))) → ix_E 221 70 [some (.ref 98), some (.int (zI 9)), some (.int (zI 10)), some (.int (zI (R 9).1)), some (.int (bI sg)), none, none] [] h Q := by
      intro hn
      rw [if_pos hn] at q
      refine jx (pc' := 72) (L' := [_, _, _, _, _, _, _]) (st' := [_, _]) 2 rfl ?_
      refine jcv (pc' := 75) 201 [_] [] K.ob rfl rfl rfl rfl rfl rfl rfl rfl ?_
      refine m_invalid K rfl fA fun h K => jk ?_
      refine jx (pc' := 252) (L' := [_, _, _, _, _, _, _]) (st' := []) 1 rfl ?_
      refine ix_qr _ rfl rfl rfl ?_
      exact q _ K.rj
    refine jx (pc' := 30) (L' := [_, _, _, _, _, _, _]) (st' := [_]) 2 rfl ?_
    refine jgf (pc' := 33) K.ob rfl rfl rfl rfl rfl ?_
    refine jx (pc' := 34) (L' := [_, _, _, _, _, _, _]) (st' := [_, _]) 1 rfl ?_
    refine jR_so (pc' := 35) 9 K rfl rfl (by omega) (by omega)  rfl ?_
    refine jx (pc' := 36) (L' := [_, _, _, _, _, _, _]) (st' := [_, _]) 1 rfl ?_
    refine jgf (pc' := 39) K.ob rfl rfl rfl rfl rfl ?_
    refine jx (pc' := 40) (L' := [_, _, _, _, _, _, _]) (st' := [_, _, _]) 1 rfl ?_
    refine jR_so (pc' := 41) 10 K rfl rfl (by omega) (by omega)  rfl ?_
    by_cases e : (R 9).2.1 = (R 10).2.1
    · have e1 := congrArg swp e
      refine jcn (pc' := 44) 78 rfl rfl rfl rfl (by rw [zc_ne ⟨by omega, by omega⟩ ⟨by omega, by omega⟩]; exact decide_eq_false (by omega)) ?_
      refine jx (pc' := 45) (L' := [_, _, _, _, _, _, _]) (st' := [_]) 1 rfl ?_
      refine jgf (pc' := 48) K.ob rfl rfl rfl rfl rfl ?_
      refine jx (pc' := 49) (L' := [_, _, _, _, _, _, _]) (st' := [_, _]) 1 rfl ?_
      refine jR_so (pc' := 50) 9 K rfl rfl (by omega) (by omega)  rfl ?_
      refine jx (pc' := 51) (L' := [_, _, _, _, _, _, _]) (st' := [.int (zI 1), _]) 1 rfl ?_
      by_cases e2 : (R 9).2.1 = 1
      · have e3 := swp_1.mpr e2
        refine jct (pc' := 70) rfl rfl rfl (by rw [zc_eq ⟨by omega, by omega⟩ ⟨by omega, by omega⟩]; exact decide_eq_true (by omega)) ?_
        exact t70 ⟨e, Or.inl e2⟩
      · have e3 : ¬ swp (R 9).2.1 = 1 := fun z => e2 (swp_1.mp z)
        refine jcn (pc' := 54) 70 rfl rfl rfl rfl (by rw [zc_eq ⟨by omega, by omega⟩ ⟨by omega, by omega⟩]; exact decide_eq_false (by omega)) ?_
        refine jx (pc' := 56) (L' := [_, _, _, _, _, _, _]) (st' := [_, _]) 2 rfl ?_
        refine jcv (pc' := 59) 197 [_] [] K.ob rfl rfl rfl rfl rfl rfl rfl rfl ?_
        refine m_isZero (r := 9) K rfl (by decide) (jk ?_)
        by_cases hz : (R 9).2.1 = 0 ∧ (R 9).2.2.2.2 = 0
        · skip
          refine jin (pc' := 62) 78 rfl rfl rfl rfl (by rw [bz_eq, decide_eq_true hz]; rfl) ?_
          refine jx (pc' := 64) (L' := [_, _, _, _, _, _, _]) (st' := [_, _]) 2 rfl ?_
          refine jcv (pc' := 67) 197 [_] [] K.ob rfl rfl rfl rfl rfl rfl rfl rfl ?_
          refine m_isZero (r := 10) K rfl (by decide) (jk ?_)
          by_cases hz2 : (R 10).2.1 = 0 ∧ (R 10).2.2.2.2 = 0
          · skip
            refine jin (pc' := 70) 78 rfl rfl rfl rfl (by rw [bz_eq, decide_eq_true hz2]; rfl) ?_
            exact t70 ⟨e, Or.inr ⟨hz, hz2⟩⟩
          · skip
            refine jit (pc' := 78) rfl rfl rfl (by rw [bz_eq, decide_eq_false hz2]; rfl) ?_
            exact t78 (fun z => z.2.elim e2 fun z => hz2 z.2)
        · skip
          refine jit (pc' := 78) rfl rfl rfl (by rw [bz_eq, decide_eq_false hz]; rfl) ?_
          exact t78 (fun z => z.2.elim e2 fun z => hz z.1)
    · have e1 : ¬ swp (R 9).2.1 = swp (R 10).2.1 := fun z => e (swp_i.mp z)
      refine jct (pc' := 78) rfl rfl rfl (by rw [zc_ne ⟨by omega, by omega⟩ ⟨by omega, by omega⟩]; exact decide_eq_true (by omega)) ?_
      exact t78 (fun z => e z.1)
  refine jx (pc' := 1) (L' := [_, _, _, _, _, _, _]) (st' := [_]) 1 rfl ?_
  refine jgf (pc' := 4) K.ob rfl rfl rfl rfl rfl ?_
  refine jx (pc' := 5) (L' := [_, _, _, _, _, _, _]) (st' := [_, _]) 1 rfl ?_
  refine jR_f (pc' := 6) 9 K rfl rfl (by omega) (by omega)  rfl ?_
  refine jx (pc' := 8) (L' := [_, _, _, _, _, _, _]) (st' := [_]) 2 rfl ?_
  refine jgf (pc' := 11) K.ob rfl rfl rfl rfl rfl ?_
  refine jx (pc' := 12) (L' := [_, _, _, _, _, _, _]) (st' := [_, _]) 1 rfl ?_
  refine jR_m (pc' := 13) 9 K rfl rfl (by omega) (by omega)  rfl ?_
  refine jx (pc' := 14) (L' := [_, _, _, _, _, _, _]) (st' := [_, _]) 1 rfl ?_
  refine jgf (pc' := 17) K.ob rfl rfl rfl rfl rfl ?_
  refine jx (pc' := 18) (L' := [_, _, _, _, _, _, _]) (st' := [_, _, _]) 1 rfl ?_
  refine jR_m (pc' := 19) 10 K rfl rfl (by omega) (by omega)  rfl ?_
  by_cases e : (R 9).2.2.1 = (R 10).2.2.1
  · skip
    refine jct (pc' := 26) rfl rfl rfl (by rw [bc_eq, decide_eq_true e]) ?_
    refine jx (pc' := 27) (L' := [_, _, _, _, _, _, _]) (st' := [.int (zI 0)]) 1 rfl ?_
    exact t27 false (decide_eq_false (fun z => z e)).symm
  · skip
    refine jcn (pc' := 22) 26 rfl rfl rfl rfl (by rw [bc_eq, decide_eq_false e]) ?_
    refine jx (pc' := 27) (L' := [_, _, _, _, _, _, _]) (st' := [.int (zI 1)]) 2 rfl ?_
    exact t27 true (decide_eq_true e).symm
end REF
