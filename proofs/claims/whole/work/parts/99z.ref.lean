/-! ===== the reference: add, multiply, fuse ===== -/
/-- what rounding leaves: the result and the signals -/
noncomputable def rr (f dr : Nat) (zs ng mo : Bool) (wi : Int) (V : Nat) : Dm × Nat := ((f, (rRn2 f dr ng mo (-12500) wi V).1, (if V = 0 then zs else ng), (rRn2 f dr ng mo (-12500) wi V).2.1, (rRn2 f dr ng mo (-12500) wi V).2.2.1), (rRn2 f dr ng mo (-12500) wi V).2.2.2)
/-- where a number lies in the row -/
def pV (e : Int) (c : Nat) : Nat := c * 10 ^ (12500 + e).toNat
def jnV (le : Bool) (P X : Nat) : Nat := if le then (if X ≤ P then P - X else X - P) else P + X
def jnN (le ng : Bool) (P X : Nat) : Bool := if le = true ∧ P < X then !ng else ng
noncomputable def sumF (f dr : Nat) (nA : Bool) (eA : Int) (cA : Nat) (nB : Bool) (eB : Int) (cB : Nat) : Dm × Nat := rr f dr (if nA = nB then nA else decide (dr = 3)) (jnN (decide (¬ nA = nB)) nA (pV eA cA) (pV eB cB)) false (min eA eB) (jnV (decide (¬ nA = nB)) (pV eA cA) (pV eB cB))
noncomputable def adF (dr : Nat) (A B : Dm) (nB : Bool) : Dm × Nat :=
  if A.2.1 = 1 ∨ B.2.1 = 1 then (if A.2.1 = B.2.1 ∧ ¬ A.2.2.1 = nB then (iv A, 1) else ((A.1, 1, (if A.2.1 = 1 then A.2.2.1 else nB), 0, 0), 0)) else
  sumF A.1 dr A.2.2.1 A.2.2.2.1 A.2.2.2.2 nB B.2.2.2.1 B.2.2.2.2
section REF
variable {h : ix_H} {Q : ix_O → ix_H → Prop} {S0 : Nat → AC} {R : Nat → Dm} {V cd dr ra si tr : Nat} {mo ng : Bool} {sp sz wr : Nat} {il : Bool} {rs pt rl wo tx ou : Nat → Nat} {j x : Int} {r f s m a : Nat} {b t : Bool}
theorem Val.c34 {d : Dm} (v : ValD d) : d.2.2.2.2 < 10 ^ 34 := Nat.lt_of_lt_of_le v.2.2.2.1 (pl (by rcases f3 v.1 with z | z | z <;> rw [z] <;> decide))
theorem pV_b {e : Int} {c k : Nat} (hc : c < 10 ^ k) (he : 12500 + e + k + 10 ≤ 25400) (hk : k + 10 ≤ 12000) : pV e c < 10 ^ (aL - 5) := by
  have h1 : c * 10 ^ (12500 + e).toNat < 10 ^ k * 10 ^ (12500 + e).toNat := Nat.mul_lt_mul_of_pos_right hc (pp0 _)
  rw [← Nat.pow_add] at h1
  exact Nat.lt_of_lt_of_le h1 (pl (by unfold aL; omega))
theorem aL5 {a b : Nat} (ha : a < 10 ^ (aL - 5)) (hb : b < 10 ^ (aL - 5)) : a + b < 10 ^ aL := by
  have : 10 ^ aL = 10 ^ (aL - 5) * 10 ^ 5 := by rw [← Nat.pow_add]; rfl
  omega
theorem m_add (K : (RI S0 h R V cd dr ra si tr mo ng sp sz wr il rs pt rl wo tx ou)) (vA : ValD (R 9)) (vB : ValD (R 10)) (hA : (R 9).2.1 < 2) (hB : (R 10).2.1 < 2) (hdr : dr < 5) (q : ∀ h', (RJ S0 h' (va_up R 8 (adF dr (R 9) (R 10) ((R 10).2.2.1 != t)).1) cd dr ra (si ||| (adF dr (R 9) (R 10) ((R 10).2.2.1 != t)).2) tr sz wr tx ou) → Q (.inl none) h') : ix_M 200 [.ref 98, .int (zI 9), .int (zI 10), .int (bI t)] h Q := by
  have bA := Val.b vA
  have bB := Val.b vB
  have cA := Val.c34 vA
  have cB := Val.c34 vB
  have hsA := swp_b vA.2.1
  have hsB := swp_b vB.2.1
  have fA := vA.1
  have hdA := dgs_le cA
  have hdB := dgs_le cB
  have t23 : ∀ sg : Bool, sg = ((R 10).2.2.1 != t) → ix_E 200 23 [some (.ref 98), some (.int (zI 9)), some (.int (zI 10)), some (.int (bI t)), some (.int (zI (R 9).1)), none] [.int (bI sg)] h Q := by
    intro sg hsg
    rw [← hsg] at q
    unfold adF at q
    -- finite
    have t108 : ¬ ((R 9).2.1 = 1 ∨ (R 10).2.1 = 1) → ix_E 200 108 [some (.ref 98), some (.int (zI 9)), some (.int (zI 10)), some (.int (bI t)), some (.int (zI (R 9).1)), some (.int (bI sg))] [] h Q := by
      intro hi
      rw [if_neg hi] at q
      refine jx (pc' := 109) (L' := [_, _, _, _, _, _]) (st' := [_]) 1 rfl ?_
      refine jcv (pc' := 112) 204 [] [] K.ob rfl rfl rfl rfl rfl rfl rfl rfl ?_
      refine m_empty K fun h K => jk ?_
      refine jx (pc' := 114) (L' := [_, _, _, _, _, _]) (st' := [_, _]) 2 rfl ?_
      refine jgf (pc' := 117) K.ob rfl rfl rfl rfl rfl ?_
      refine jx (pc' := 118) (L' := [_, _, _, _, _, _]) (st' := [_, _, _]) 1 rfl ?_
      refine jR_m (pc' := 119) 9 K rfl rfl (by omega) (by omega)  rfl ?_
      refine jp_ng (pc' := 122) ((R 9).2.2.1) K (by first | rfl | (congr 1; omega)) rfl rfl rfl rfl fun h K => ?_
      refine jx (pc' := 125) (L' := [_, _, _, _, _, _]) (st' := [_, _, _]) 3 rfl ?_
      refine jgf (pc' := 128) K.ob rfl rfl rfl rfl rfl ?_
      refine jx (pc' := 129) (L' := [_, _, _, _, _, _]) (st' := [_, _, _, _]) 1 rfl ?_
      refine jR_p (pc' := 130) 9 K rfl rfl (by omega) (by omega)  rfl ?_
      refine jcv (pc' := 133) 205 [_, _] [] K.ob rfl rfl rfl rfl rfl rfl rfl rfl ?_
      have hu1 : (((12500 + (R 9).2.2.2.1).toNat : Nat) : Int) = 12500 + (R 9).2.2.2.1 := by omega
      have hu2 : (((12500 + (R 10).2.2.2.1).toNat : Nat) : Int) = 12500 + (R 10).2.2.2.1 := by omega
      refine m_lay (r := 9) K rfl (by decide) _ hu1 (by omega) fun h K => jk ?_
      refine jx (pc' := 136) (L' := [_, _, _, _, _, _]) (st' := [_, _, _]) 3 rfl ?_
      refine jgf (pc' := 139) K.ob rfl rfl rfl rfl rfl ?_
      refine jx (pc' := 140) (L' := [_, _, _, _, _, _]) (st' := [_, _, _, _]) 1 rfl ?_
      refine jR_p (pc' := 141) 10 K rfl rfl (by omega) (by omega)  rfl ?_
      refine jx (pc' := 142) (L' := [_, _, _, _, _, _]) (st' := [_, _, _, _]) 1 rfl ?_
      refine jgf (pc' := 145) K.ob rfl rfl rfl rfl rfl ?_
      refine jx (pc' := 146) (L' := [_, _, _, _, _, _]) (st' := [_, _, _, _, _]) 1 rfl ?_
      refine jR_m (pc' := 147) 9 K rfl rfl (by omega) (by omega)  rfl ?_
      refine jx (pc' := 149) (L' := [_, _, _, _, _, _]) (st' := [_, _, _, _, _]) 1 rfl ?_
      have t157 : ∀ le : Bool, le = decide (¬ (R 9).2.2.1 = sg) → ix_E 200 157 [some (.ref 98), some (.int (zI 9)), some (.int (zI 10)), some (.int (bI t)), some (.int (zI (R 9).1)), some (.int (bI sg))] [.int (bI le), .int (zI (R 10).2.2.2.1), .int (zI 10), .ref 98] h Q := by
        intro le hle
        refine jcv (pc' := 160) 206 [_, _, _] [] K.ob rfl rfl rfl rfl rfl rfl rfl rfl ?_
        refine m_join (r := 10) K rfl (by decide) _ hu2 (by omega) (fun _ => aL5 (pV_b cA (by omega) (by omega)) (pV_b cB (by omega) (by omega))) fun h K => jk ?_
        refine jx (pc' := 164) (L' := [_, _, _, _, _, _]) (st' := [_, _, _]) 3 rfl ?_
        refine jgf (pc' := 167) K.ob rfl rfl rfl rfl rfl ?_
        refine jx (pc' := 168) (L' := [_, _, _, _, _, _]) (st' := [_, _, _, _]) 1 rfl ?_
        refine jR_p (pc' := 169) 9 K rfl rfl (by omega) (by omega)  rfl ?_
        refine jx (pc' := 170) (L' := [_, _, _, _, _, _]) (st' := [_, _, _, _]) 1 rfl ?_
        refine jgf (pc' := 173) K.ob rfl rfl rfl rfl rfl ?_
        refine jx (pc' := 174) (L' := [_, _, _, _, _, _]) (st' := [_, _, _, _, _]) 1 rfl ?_
        refine jR_p (pc' := 175) 10 K rfl rfl (by omega) (by omega)  rfl ?_
        refine jcs (pc' := 178) 274 [_, _] [_, _] rfl rfl rfl rfl rfl rfl rfl rfl ?_
        refine c_minI ⟨by omega, by omega⟩ ⟨by omega, by omega⟩ (jk ?_)
        refine jx (pc' := 179) (L' := [_, _, _, _, _, _]) (st' := [_, _, _, _]) 1 rfl ?_
        refine jgf (pc' := 182) K.ob rfl rfl rfl rfl rfl ?_
        refine jx (pc' := 183) (L' := [_, _, _, _, _, _]) (st' := [_, _, _, _, _]) 1 rfl ?_
        refine jR_m (pc' := 184) 9 K rfl rfl (by omega) (by omega)  rfl ?_
        refine jx (pc' := 186) (L' := [_, _, _, _, _, _]) (st' := [_, _, _, _, _]) 1 rfl ?_
        have t211 : ∀ zs : Bool, zs = (if (R 9).2.2.1 = sg then (R 9).2.2.1 else decide (dr = 3)) → ix_E 200 211 [some (.ref 98), some (.int (zI 9)), some (.int (zI 10)), some (.int (bI t)), some (.int (zI (R 9).1)), some (.int (bI sg))] [.int (bI zs), .int (zI (min (R 9).2.2.2.1 (R 10).2.2.2.1)), .int (zI (R 9).1), .ref 98] h Q := by
          intro zs hzs
          refine jcv (pc' := 214) 208 [_, _, _] [] K.ob rfl rfl rfl rfl rfl rfl rfl rfl ?_
          refine m_round K rfl fA hdr ⟨by omega, by omega⟩ (fun _ => rfl) fun h K => jk ?_
          refine ix_qr _ rfl rfl rfl ?_
          refine q _ ?_
          rw [hle, hzs] at K
          exact K.rj
        by_cases e : (R 9).2.2.1 = sg
        · skip
          refine jcn (pc' := 189) 198 rfl rfl rfl rfl (by rw [bc_ne, decide_eq_false (fun z => z e)]) ?_
          refine jx (pc' := 190) (L' := [_, _, _, _, _, _]) (st' := [_, _, _, _]) 1 rfl ?_
          refine jgf (pc' := 193) K.ob rfl rfl rfl rfl rfl ?_
          refine jx (pc' := 194) (L' := [_, _, _, _, _, _]) (st' := [_, _, _, _, _]) 1 rfl ?_
          refine jR_m (pc' := 195) 9 K rfl rfl (by omega) (by omega)  rfl ?_
          refine jx (pc' := 211) (L' := [_, _, _, _, _, _]) (st' := [_, _, _, _]) 1 rfl ?_
          exact t211 _ (by rw [if_pos e])
        · skip
          refine jct (pc' := 198) rfl rfl rfl (by rw [bc_ne, decide_eq_true e]) ?_
          refine jx (pc' := 199) (L' := [_, _, _, _, _, _]) (st' := [_, _, _, _]) 1 rfl ?_
          refine jgf (pc' := 202) K.ob rfl rfl rfl rfl rfl ?_
          refine jx (pc' := 203) (L' := [_, _, _, _, _, _]) (st' := [.int (zI 3), _, _, _, _]) 1 rfl ?_
          by_cases d3 : dr = 3
          · skip
            refine jcn (pc' := 206) 210 rfl rfl rfl rfl (by rw [zc_ne ⟨by omega, by omega⟩ ⟨by omega, by omega⟩]; exact decide_eq_false (by omega)) ?_
            refine jx (pc' := 211) (L' := [_, _, _, _, _, _]) (st' := [.int (zI 1), _, _, _]) 2 rfl ?_
            exact t211 true (by rw [if_neg e, decide_eq_true d3])
          · skip
            refine jct (pc' := 210) rfl rfl rfl (by rw [zc_ne ⟨by omega, by omega⟩ ⟨by omega, by omega⟩]; exact decide_eq_true (by omega)) ?_
            refine jx (pc' := 211) (L' := [_, _, _, _, _, _]) (st' := [.int (zI 0), _, _, _]) 1 rfl ?_
            exact t211 false (by rw [if_neg e, decide_eq_false d3])
      by_cases e : (R 9).2.2.1 = sg
      · skip
        refine jct (pc' := 156) rfl rfl rfl (by rw [bc_eq, decide_eq_true e]) ?_
        refine jx (pc' := 157) (L' := [_, _, _, _, _, _]) (st' := [.int (zI 0), _, _, _]) 1 rfl ?_
        exact t157 false (by rw [decide_eq_false (fun z => z e)])
      · skip
        refine jcn (pc' := 152) 156 rfl rfl rfl rfl (by rw [bc_eq, decide_eq_false e]) ?_
        refine jx (pc' := 157) (L' := [_, _, _, _, _, _]) (st' := [.int (zI 1), _, _, _]) 2 rfl ?_
        exact t157 true (by rw [decide_eq_true e])
    -- infinite
    have t45 : ((R 9).2.1 = 1 ∨ (R 10).2.1 = 1) → ix_E 200 45 [some (.ref 98), some (.int (zI 9)), some (.int (zI 10)), some (.int (bI t)), some (.int (zI (R 9).1)), some (.int (bI sg))] [] h Q := by
      intro hi
      rw [if_pos hi] at q
      have t80 : ¬ ((R 9).2.1 = (R 10).2.1 ∧ ¬ (R 9).2.2.1 = sg) → ix_E 200 80 [some (.ref 98), some (.int (zI 9)), some (.int (zI 10)), some (.int (bI t)), some (.int (zI (R 9).1)), some (.int (bI sg))] [] h Q := by
        intro hn
        rw [if_neg hn] at q
        simp only [Nat.or_zero] at q
        refine jx (pc' := 84) (L' := [_, _, _, _, _, _]) (st' := [_, _, _]) 3 rfl ?_
        refine jgf (pc' := 87) K.ob rfl rfl rfl rfl rfl ?_
        refine jx (pc' := 88) (L' := [_, _, _, _, _, _]) (st' := [_, _, _, _]) 1 rfl ?_
        refine jR_so (pc' := 89) 9 K rfl rfl (by omega) (by omega)  rfl ?_
        refine jx (pc' := 90) (L' := [_, _, _, _, _, _]) (st' := [.int (zI 1), _, _, _]) 1 rfl ?_
        by_cases e : (R 9).2.1 = 1
        · have e1 := swp_1.mpr e
          rw [if_pos e] at q
          refine jcn (pc' := 93) 102 rfl rfl rfl rfl (by rw [zc_ne ⟨by omega, by omega⟩ ⟨by omega, by omega⟩]; exact decide_eq_false (by omega)) ?_
          refine jx (pc' := 94) (L' := [_, _, _, _, _, _]) (st' := [_, _, _]) 1 rfl ?_
          refine jgf (pc' := 97) K.ob rfl rfl rfl rfl rfl ?_
          refine jx (pc' := 98) (L' := [_, _, _, _, _, _]) (st' := [_, _, _, _]) 1 rfl ?_
          refine jR_m (pc' := 99) 9 K rfl rfl (by omega) (by omega)  rfl ?_
          refine jx (pc' := 104) (L' := [_, _, _, _, _, _]) (st' := [_, _, _]) 1 rfl ?_
          refine jcv (pc' := 107) 203 [_, _] [] K.ob rfl rfl rfl rfl rfl rfl rfl rfl ?_
          refine m_infinite K rfl fA fun h K => jk ?_
          refine ix_qr _ rfl rfl rfl ?_
          exact q _ K.rj
        · have e1 : ¬ swp (R 9).2.1 = 1 := fun z => e (swp_1.mp z)
          rw [if_neg e] at q
          refine jct (pc' := 102) rfl rfl rfl (by rw [zc_ne ⟨by omega, by omega⟩ ⟨by omega, by omega⟩]; exact decide_eq_true (by omega)) ?_
          refine jx (pc' := 104) (L' := [_, _, _, _, _, _]) (st' := [_, _, _]) 1 rfl ?_
          refine jcv (pc' := 107) 203 [_, _] [] K.ob rfl rfl rfl rfl rfl rfl rfl rfl ?_
          refine m_infinite K rfl fA fun h K => jk ?_
          refine ix_qr _ rfl rfl rfl ?_
          exact q _ K.rj
      refine jx (pc' := 46) (L' := [_, _, _, _, _, _]) (st' := [_]) 1 rfl ?_
      refine jgf (pc' := 49) K.ob rfl rfl rfl rfl rfl ?_
      refine jx (pc' := 50) (L' := [_, _, _, _, _, _]) (st' := [_, _]) 1 rfl ?_
      refine jR_so (pc' := 51) 9 K rfl rfl (by omega) (by omega)  rfl ?_
      refine jx (pc' := 52) (L' := [_, _, _, _, _, _]) (st' := [_, _]) 1 rfl ?_
      refine jgf (pc' := 55) K.ob rfl rfl rfl rfl rfl ?_
      refine jx (pc' := 56) (L' := [_, _, _, _, _, _]) (st' := [_, _, _]) 1 rfl ?_
      refine jR_so (pc' := 57) 10 K rfl rfl (by omega) (by omega)  rfl ?_
      by_cases e : (R 9).2.1 = (R 10).2.1
      · have e1 := congrArg swp e
        refine jcn (pc' := 60) 80 rfl rfl rfl rfl (by rw [zc_ne ⟨by omega, by omega⟩ ⟨by omega, by omega⟩]; exact decide_eq_false (by omega)) ?_
        refine jx (pc' := 61) (L' := [_, _, _, _, _, _]) (st' := [_]) 1 rfl ?_
        refine jgf (pc' := 64) K.ob rfl rfl rfl rfl rfl ?_
        refine jx (pc' := 65) (L' := [_, _, _, _, _, _]) (st' := [_, _]) 1 rfl ?_
        refine jR_m (pc' := 66) 9 K rfl rfl (by omega) (by omega)  rfl ?_
        refine jx (pc' := 68) (L' := [_, _, _, _, _, _]) (st' := [_, _]) 1 rfl ?_
        by_cases e2 : (R 9).2.2.1 = sg
        · skip
          refine jct (pc' := 80) rfl rfl rfl (by rw [bc_eq, decide_eq_true e2]) ?_
          exact t80 (fun z => z.2 e2)
        · rw [if_pos ⟨e, e2⟩] at q
          refine jcn (pc' := 71) 80 rfl rfl rfl rfl (by rw [bc_eq, decide_eq_false e2]) ?_
          refine jx (pc' := 74) (L' := [_, _, _, _, _, _]) (st' := [_, _]) 2 rfl ?_
          refine jcv (pc' := 77) 201 [_] [] K.ob rfl rfl rfl rfl rfl rfl rfl rfl ?_
          refine m_invalid K rfl fA fun h K => jk ?_
          refine jx (pc' := 107) (L' := [_, _, _, _, _, _]) (st' := []) 1 rfl ?_
          refine ix_qr _ rfl rfl rfl ?_
          exact q _ K.rj
      · have e1 : ¬ swp (R 9).2.1 = swp (R 10).2.1 := fun z => e (swp_i.mp z)
        refine jct (pc' := 80) rfl rfl rfl (by rw [zc_ne ⟨by omega, by omega⟩ ⟨by omega, by omega⟩]; exact decide_eq_true (by omega)) ?_
        exact t80 (fun z => e z.1)
    refine jx (pc' := 26) (L' := [_, _, _, _, _, _]) (st' := [_]) 2 rfl ?_
    refine jgf (pc' := 29) K.ob rfl rfl rfl rfl rfl ?_
    refine jx (pc' := 30) (L' := [_, _, _, _, _, _]) (st' := [_, _]) 1 rfl ?_
    refine jR_so (pc' := 31) 9 K rfl rfl (by omega) (by omega)  rfl ?_
    refine jx (pc' := 32) (L' := [_, _, _, _, _, _]) (st' := [.int (zI 1), _]) 1 rfl ?_
    by_cases e : (R 9).2.1 = 1
    · have e1 := swp_1.mpr e
      refine jct (pc' := 45) rfl rfl rfl (by rw [zc_eq ⟨by omega, by omega⟩ ⟨by omega, by omega⟩]; exact decide_eq_true (by omega)) ?_
      exact t45 (Or.inl e)
    · have e1 : ¬ swp (R 9).2.1 = 1 := fun z => e (swp_1.mp z)
      refine jcn (pc' := 35) 45 rfl rfl rfl rfl (by rw [zc_eq ⟨by omega, by omega⟩ ⟨by omega, by omega⟩]; exact decide_eq_false (by omega)) ?_
      refine jx (pc' := 36) (L' := [_, _, _, _, _, _]) (st' := [_]) 1 rfl ?_
      refine jgf (pc' := 39) K.ob rfl rfl rfl rfl rfl ?_
      refine jx (pc' := 40) (L' := [_, _, _, _, _, _]) (st' := [_, _]) 1 rfl ?_
      refine jR_so (pc' := 41) 10 K rfl rfl (by omega) (by omega)  rfl ?_
      refine jx (pc' := 42) (L' := [_, _, _, _, _, _]) (st' := [.int (zI 1), _]) 1 rfl ?_
      by_cases e2 : (R 10).2.1 = 1
      · have e3 := swp_1.mpr e2
        refine jcn (pc' := 45) 108 rfl rfl rfl rfl (by rw [zc_ne ⟨by omega, by omega⟩ ⟨by omega, by omega⟩]; exact decide_eq_false (by omega)) ?_
        exact t45 (Or.inr e2)
      · have e3 : ¬ swp (R 10).2.1 = 1 := fun z => e2 (swp_1.mp z)
        refine jct (pc' := 108) rfl rfl rfl (by rw [zc_ne ⟨by omega, by omega⟩ ⟨by omega, by omega⟩]; exact decide_eq_true (by omega)) ?_
        exact t108 (fun z => z.elim e e2)
  refine jx (pc' := 1) (L' := [_, _, _, _, _, _]) (st' := [_]) 1 rfl ?_
  refine jgf (pc' := 4) K.ob rfl rfl rfl rfl rfl ?_
  refine jx (pc' := 5) (L' := [_, _, _, _, _, _]) (st' := [_, _]) 1 rfl ?_
  refine jR_f (pc' := 6) 9 K rfl rfl (by omega) (by omega)  rfl ?_
  refine jx (pc' := 9) (L' := [_, _, _, _, _, _]) (st' := [_]) 2 rfl ?_
  refine jgf (pc' := 12) K.ob rfl rfl rfl rfl rfl ?_
  refine jx (pc' := 13) (L' := [_, _, _, _, _, _]) (st' := [_, _]) 1 rfl ?_
  refine jR_m (pc' := 14) 10 K rfl rfl (by omega) (by omega)  rfl ?_
  refine jx (pc' := 15) (L' := [_, _, _, _, _, _]) (st' := [_, _]) 1 rfl ?_
  by_cases e : (R 10).2.2.1 = t
  · skip
    refine jct (pc' := 22) rfl rfl rfl (by rw [bc_eq, decide_eq_true e]) ?_
    refine jx (pc' := 23) (L' := [_, _, _, _, _, _]) (st' := [.int (zI 0)]) 1 rfl ?_
    exact t23 false (by rw [e]; simp)
  · skip
    refine jcn (pc' := 18) 22 rfl rfl rfl rfl (by rw [bc_eq, decide_eq_false e]) ?_
    refine jx (pc' := 23) (L' := [_, _, _, _, _, _]) (st' := [.int (zI 1)]) 2 rfl ?_
    exact t23 true (by simp [e])
end REF
