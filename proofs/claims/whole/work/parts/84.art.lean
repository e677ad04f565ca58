/-! ===== Arithmetic: reduceX, remainder ===== -/
def rdr (cx cy : Nat) (P : Int) : Nat := cx * 10 ^ P.toNat % (cy + cy)
def rds (cx cy : Nat) (P : Int) : Nat := if cy ≤ rdr cx cy P then rdr cx cy P - cy else rdr cx cy P
def rdX (n : Bool) (cx cy : Nat) (P : Int) : Bool × Nat := if cy < rds cx cy P + rds cx cy P ∨ (rds cx cy P + rds cx cy P = cy ∧ cy ≤ rdr cx cy P) then (!n, cy - rds cx cy P) else (n, rds cx cy P)
def reR (A B : Dm) : OR :=
  if A.2.1 = 1 ∨ (B.2.1 = 0 ∧ B.2.2.2.2 = 0) then .inl (iv A, 1) else
  if B.2.1 = 1 then .inl (A, 0) else
  if B.2.2.2.1 - A.2.2.2.1 ≤ fD A.1 + 1 then .inr ((rdX A.2.2.1 A.2.2.2.2 (B.2.2.2.2 * 10 ^ (B.2.2.2.1 - A.2.2.2.1).toNat) (-(B.2.2.2.1 - A.2.2.2.1))).1, false, min A.2.2.2.1 B.2.2.2.1, min A.2.2.2.1 B.2.2.2.1, (rdX A.2.2.1 A.2.2.2.2 (B.2.2.2.2 * 10 ^ (B.2.2.2.1 - A.2.2.2.1).toNat) (-(B.2.2.2.1 - A.2.2.2.1))).2) else
  .inr (A.2.2.1, false, A.2.2.2.1, A.2.2.2.1, A.2.2.2.2)
theorem cmpI_g (x y : Int) : 0 < cmpI x y ↔ y < x := by
  unfold cmpI
  by_cases e1 : x < y
  · rw [if_pos e1]; omega
  · rw [if_neg e1]
    by_cases e2 : x = y
    · rw [if_pos e2]; omega
    · rw [if_neg e2]; omega
theorem cmpI_e (x y : Int) : cmpI x y = 0 ↔ x = y := by
  unfold cmpI
  by_cases e1 : x < y
  · rw [if_pos e1]; omega
  · rw [if_neg e1]
    by_cases e2 : x = y
    · rw [if_pos e2]; omega
    · rw [if_neg e2]; omega
theorem rds_b {cx cy : Nat} {P : Int} (hy : 0 < cy) : rds cx cy P < cy := by
  have h : rdr cx cy P < cy + cy := Nat.mod_lt _ (by omega)
  unfold rds
  split <;> omega
theorem rdX_b {n : Bool} {cx cy : Nat} {P : Int} (hy : 0 < cy) : (rdX n cx cy P).2 ≤ cy := by
  have := rds_b (cx := cx) (P := P) hy
  unfold rdX
  split
  · exact Nat.sub_le _ _
  · show rds cx cy P ≤ cy; omega
section ART
variable {h : ix_H} {Q : ix_O → ix_H → Prop} {S : Nat → AC} {a b c what cx cy dir f p M : Nat} {da db dc dr : Dm} {m nx ny mo nB : Bool} {ex wx ey wy P : Int}
theorem v_reduceX (I : Inv h S) (L : Lay S) (X : S 38 = aC (uC 38 nx mo ex wx)) (XC : S 39 = aN cx) (YC : S 42 = aN cy) (hx : cx < 10 ^ 34) (hy : 0 < cy ∧ cy < 10 ^ 70) (hP : P < 32768 ∧ -32768 < P ∧ (0 < P → cy < 10 ^ 34)) (q : ∀ h' S', Inv h' S' → Lay S' → ag [38, 39, 42, 45, 46, 50, 52, 54, 56] S S' → S' 38 = aC (uC 38 (rdX nx cx cy P).1 mo ex wx) → S' 39 = aN (rdX nx cx cy P).2 → Q (.inl none) h') : ix_M 127 [.ref 34, .int (zI P)] h Q := by
  obtain ⟨wn, AR⟩ := L.1
  obtain ⟨yn, ym, ye, yw, yc, Y, YC0⟩ := L.2.2.1
  obtain ⟨w54, W54⟩ := L.2.2.2.2.2.2.2.2.2.2.1
  have hb70 : (10 : Nat) ^ 70 + 10 ^ 70 < 10 ^ 144 := by decide
  -- from 69 on
  have t2 : ∀ (h1 : ix_H) (T : Nat → AC) (c1 : Nat), Inv h1 T → Lay T → ag [38, 39, 42, 45, 46, 50, 52, 54, 56] S T → T 38 = aC (uC 38 nx mo ex wx) → T 39 = aN c1 → T 42 = aN cy → T 54 = aN (cy + cy) → c1 % (cy + cy) = rdr cx cy P → ∀ l2 l3, ix_E 127 69 [some (.ref 34), some (.int (zI P)), l2, l3] [] h1 Q := by
    intro h1 T c1 I L g X XC YC MM hr l2 l3
    obtain ⟨wn, AR⟩ := L.1
    obtain ⟨yn, ym, ye, yw, yc, Y, YC0⟩ := L.2.2.1
    obtain ⟨w52, W52⟩ := L.2.2.2.2.2.2.2.2.2.1
    refine jx (pc' := 70) (L' := [_, _, _, _]) (st' := [_]) 1 rfl ?_
    refine jgf (pc' := 73) (I.ob (r := 34) AR) rfl rfl rfl rfl rfl ?_
    refine jx (pc' := 74) (L' := [_, _, _, _]) (st' := [_, _]) 1 rfl ?_
    refine jgf (pc' := 77) (I.ob (r := 34) AR) rfl rfl rfl rfl rfl ?_
    refine jgf (pc' := 80) (I.ob (r := 38) X) rfl rfl rfl rfl rfl ?_
    refine jx (pc' := 81) (L' := [_, _, _, _]) (st' := [_, _, _]) 1 rfl ?_
    refine jgf (pc' := 84) (I.ob (r := 34) AR) rfl rfl rfl rfl rfl ?_
    refine jx (pc' := 85) (L' := [_, _, _, _]) (st' := [_, _, _, _]) 1 rfl ?_
    refine jgf (pc' := 88) (I.ob (r := 34) AR) rfl rfl rfl rfl rfl ?_
    refine jx (pc' := 89) (L' := [_, _, _, _]) (st' := [_, _, _, _, _]) 1 rfl ?_
    refine jgf (pc' := 92) (I.ob (r := 34) AR) rfl rfl rfl rfl rfl ?_
    refine jgf (pc' := 95) (I.ob (r := 38) X) rfl rfl rfl rfl rfl ?_
    refine jcv (pc' := 98) 72 [_, _, _, _] [] (I.ob (r := 44) L.2.2.2.1) rfl rfl rfl rfl rfl rfl rfl rfl ?_
    refine v_divide (dd := 39) (dv := 54) (rr := 39) I L.2.2.2.1 L.2.2.2.2.1 L.2.2.2.2.2.1 W52 XC MM XC (by omega) (by decide) (by decide) (by decide) fun h2 T2 I g2 r1 r2 q1 m1 => jk ?_
    have L2 := L.agd g2 r1 r2 ⟨_, q1⟩ ⟨_, m1⟩ (by decide)
    rw [hr] at m1
    have X2 : T2 38 = aC (uC 38 nx mo ex wx) := g2.at 38 (by decide) X
    have Y2 : T2 41 = aC (uC 41 yn ym ye yw) := g2.at 41 (by decide) Y
    have YC2 : T2 42 = aN cy := g2.at 42 (by decide) YC
    have gg : ag [38, 39, 42, 45, 46, 50, 52, 54, 56] S T2 := g.tr g2 (by decide)
    obtain ⟨wn2, AR2⟩ := L2.1
    obtain ⟨w50, W50⟩ := L2.2.2.2.2.2.2.2.2.1
    have hrb : rdr cx cy P < cy + cy := Nat.mod_lt _ (by omega)
    have hcb := cmpI_b (rdr cx cy P) cy
    have hsb := rds_b (cx := cx) (P := P) hy.1
    -- from 145 on
    have t3 : ∀ (h3 : ix_H) (odd : Bool), odd = decide (cy ≤ rdr cx cy P) → Inv h3 (va_up T2 39 (aN (rds cx cy P))) → ∀ l3, ix_E 127 145 [some (.ref 34), some (.int (zI P)), some (.int (bI odd)), l3] [] h3 Q := by
      intro h3 odd ho I l3
      have L3 := L2.up39 (v := rds cx cy P)
      refine jx (pc' := 146) (L' := [_, _, _, _]) (st' := [_]) 1 rfl ?_
      refine jgf (pc' := 149) (I.ob (r := 34) AR2) rfl rfl rfl rfl rfl ?_
      refine jx (pc' := 150) (L' := [_, _, _, _]) (st' := [_, _]) 1 rfl ?_
      refine jgf (pc' := 153) (I.ob (r := 34) AR2) rfl rfl rfl rfl rfl ?_
      refine jgf (pc' := 156) (I.ob (r := 38) X2) rfl rfl rfl rfl rfl ?_
      refine jcv (pc' := 159) 48 [_] [] (I.no (r := 50) W50) rfl rfl rfl rfl rfl rfl rfl rfl ?_
      refine v_copy (a := 50) (b := 39) I W50 rfl fun _ I => jk ?_
      refine jx (pc' := 160) (L' := [_, _, _, _]) (st' := [_]) 1 rfl ?_
      refine jgf (pc' := 163) (I.ob (r := 34) AR2) rfl rfl rfl rfl rfl ?_
      refine jx (pc' := 164) (L' := [_, _, _, _]) (st' := [_, _]) 1 rfl ?_
      refine jgf (pc' := 167) (I.ob (r := 34) AR2) rfl rfl rfl rfl rfl ?_
      refine jgf (pc' := 170) (I.ob (r := 38) X2) rfl rfl rfl rfl rfl ?_
      refine jcv (pc' := 173) 58 [_] [] (I.no (r := 50) rfl) rfl rfl rfl rfl rfl rfl rfl rfl ?_
      refine v_add (a := 50) (b := 39) I rfl rfl (by omega) fun h4 I => jk ?_
      refine jx (pc' := 174) (L' := [_, _, _, _]) (st' := [_]) 1 rfl ?_
      refine jgf (pc' := 177) (I.ob (r := 34) AR2) rfl rfl rfl rfl rfl ?_
      refine jx (pc' := 178) (L' := [_, _, _, _]) (st' := [_, _]) 1 rfl ?_
      refine jgf (pc' := 181) (I.ob (r := 34) AR2) rfl rfl rfl rfl rfl ?_
      refine jgf (pc' := 184) (I.ob (r := 41) Y2) rfl rfl rfl rfl rfl ?_
      refine jcv (pc' := 187) 59 [_] [] (I.no (r := 50) rfl) rfl rfl rfl rfl rfl rfl rfl rfl ?_
      refine v_cmp (a := 50) (b := 42) I rfl YC2 (jk ?_)
      have hcb2 := cmpI_b ((rds cx cy P + rds cx cy P : Nat) : Int) cy
      have hcg := cmpI_g ((rds cx cy P + rds cx cy P : Nat) : Int) cy
      have hce := cmpI_e ((rds cx cy P + rds cx cy P : Nat) : Int) cy
      have tno : ¬ (cy < rds cx cy P + rds cx cy P ∨ (rds cx cy P + rds cx cy P = cy ∧ cy ≤ rdr cx cy P)) → ∀ l3, ix_E 127 256 [some (.ref 34), some (.int (zI P)), some (.int (bI odd)), l3] [] h4 Q := by
        intro hn l3
        unfold rdX at q
        simp only [if_neg hn] at q
        refine ix_qr _ rfl rfl rfl ?_
        exact q _ _ I L3.up50.up50 (((gg.up (by decide)).up (by decide)).up (by decide)) X2 rfl
      have tyes : (cy < rds cx cy P + rds cx cy P ∨ (rds cx cy P + rds cx cy P = cy ∧ cy ≤ rdr cx cy P)) → ∀ l3, ix_E 127 200 [some (.ref 34), some (.int (zI P)), some (.int (bI odd)), l3] [] h4 Q := by
        intro hn l3
        unfold rdX at q
        simp only [if_pos hn] at q
        refine jx (pc' := 201) (L' := [_, _, _, _]) (st' := [_]) 1 rfl ?_
        refine jgf (pc' := 204) (I.ob (r := 34) AR2) rfl rfl rfl rfl rfl ?_
        refine jgf (pc' := 207) (I.ob (r := 41) Y2) rfl rfl rfl rfl rfl ?_
        refine jx (pc' := 208) (L' := [_, _, _, _]) (st' := [_, _]) 1 rfl ?_
        refine jgf (pc' := 211) (I.ob (r := 34) AR2) rfl rfl rfl rfl rfl ?_
        refine jgf (pc' := 214) (I.ob (r := 38) X2) rfl rfl rfl rfl rfl ?_
        refine jcv (pc' := 217) 60 [_] [] (I.no (r := 42) YC2) rfl rfl rfl rfl rfl rfl rfl rfl ?_
        refine v_subtract (a := 42) (b := 39) I YC2 rfl (by omega) fun _ I => jk ?_
        refine jx (pc' := 218) (L' := [_, _, _, _]) (st' := [_]) 1 rfl ?_
        refine jgf (pc' := 221) (I.ob (r := 34) AR2) rfl rfl rfl rfl rfl ?_
        refine jgf (pc' := 224) (I.ob (r := 38) X2) rfl rfl rfl rfl rfl ?_
        refine jx (pc' := 225) (L' := [_, _, _, _]) (st' := [_, _]) 1 rfl ?_
        refine jgf (pc' := 228) (I.ob (r := 34) AR2) rfl rfl rfl rfl rfl ?_
        refine jgf (pc' := 231) (I.ob (r := 41) Y2) rfl rfl rfl rfl rfl ?_
        refine jcv (pc' := 234) 48 [_] [] (I.no (r := 39) rfl) rfl rfl rfl rfl rfl rfl rfl rfl ?_
        refine v_copy (a := 39) (b := 42) I rfl rfl fun _ I => jk ?_
        refine jx (pc' := 235) (L' := [_, _, _, _]) (st' := [_]) 1 rfl ?_
        refine jgf (pc' := 238) (I.ob (r := 34) AR2) rfl rfl rfl rfl rfl ?_
        refine jx (pc' := 239) (L' := [_, _, _, _]) (st' := [_, _]) 1 rfl ?_
        refine jgf (pc' := 242) (I.ob (r := 34) AR2) rfl rfl rfl rfl rfl ?_
        refine jgf (pc' := 245) (I.ob (r := 38) X2) rfl rfl rfl rfl rfl ?_
        cases nx with
        | true =>
          refine jit (pc' := 252) rfl rfl rfl (rfl) ?_
          refine jx (pc' := 253) (L' := [_, _, _, _]) (st' := [.int (nI 0), _]) 1 rfl ?_
          refine jpA (pc' := 256) (r := 38) I X2 rfl rfl rfl (Nat.le_of_ble_eq_true rfl) (by intro z; cases z) rfl rfl rfl fun _ I X2 => ?_
          refine ix_qr _ rfl rfl rfl ?_
          exact q _ _ I (L3.up50.up50.up42.up39.up38 (ng := false)) ((((((gg.up (by decide)).up (by decide)).up (by decide)).up (by decide)).up (by decide)).up (by decide)) rfl rfl
        | false =>
          refine jin (pc' := 248) 252 rfl rfl rfl rfl (rfl) ?_
          refine jx (pc' := 253) (L' := [_, _, _, _]) (st' := [.int (nI 1), _]) 2 rfl ?_
          refine jpA (pc' := 256) (r := 38) I X2 rfl rfl rfl (Nat.le_of_ble_eq_true rfl) (by intro z; cases z) rfl rfl rfl fun _ I X2 => ?_
          refine ix_qr _ rfl rfl rfl ?_
          exact q _ _ I (L3.up50.up50.up42.up39.up38 (ng := true)) ((((((gg.up (by decide)).up (by decide)).up (by decide)).up (by decide)).up (by decide)).up (by decide)) rfl rfl
      refine jx (pc' := 189) (L' := [_, _, _, _]) (st' := [_]) 2 rfl ?_
      by_cases e1 : cy < rds cx cy P + rds cx cy P
      · skip
        refine jit (pc' := 200) rfl rfl rfl (by rw [zz_gt ⟨by omega, by omega⟩]; exact decide_eq_true (hcg.mpr (by omega))) ?_
        exact tyes (Or.inl e1) _
      · skip
        refine jin (pc' := 192) 200 rfl rfl rfl rfl (by rw [zz_gt ⟨by omega, by omega⟩]; exact decide_eq_false (fun z => e1 (by have := hcg.mp z; omega))) ?_
        refine jx (pc' := 193) (L' := [_, _, _, _]) (st' := [_]) 1 rfl ?_
        by_cases e2 : rds cx cy P + rds cx cy P = cy
        · skip
          refine jin (pc' := 196) 256 rfl rfl rfl rfl (by rw [zz_ne ⟨by omega, by omega⟩]; exact decide_eq_false (fun z => z (hce.mpr (by omega)))) ?_
          refine jx (pc' := 197) (L' := [_, _, _, _]) (st' := [_]) 1 rfl ?_
          cases odd with
          | true =>
            refine jin (pc' := 200) 256 rfl rfl rfl rfl (rfl) ?_
            exact tyes (Or.inr ⟨e2, of_decide_eq_true ho.symm⟩) _
          | false =>
            refine jit (pc' := 256) rfl rfl rfl (rfl) ?_
            exact tno (fun z => z.elim e1 (fun w => (of_decide_eq_false ho.symm) w.2)) _
        · skip
          refine jit (pc' := 256) rfl rfl rfl (by rw [zz_ne ⟨by omega, by omega⟩]; exact decide_eq_true (fun z => e2 (by have := hce.mp z; omega))) ?_
          exact tno (fun z => z.elim e1 (fun w => e2 w.1)) _
    refine jx (pc' := 99) (L' := [_, _, _, _]) (st' := [_]) 1 rfl ?_
    refine jgf (pc' := 102) (I.ob (r := 34) AR2) rfl rfl rfl rfl rfl ?_
    refine jgf (pc' := 105) (I.ob (r := 38) X2) rfl rfl rfl rfl rfl ?_
    refine jx (pc' := 106) (L' := [_, _, _, _]) (st' := [_, _]) 1 rfl ?_
    refine jgf (pc' := 109) (I.ob (r := 34) AR2) rfl rfl rfl rfl rfl ?_
    refine jgf (pc' := 112) (I.ob (r := 41) Y2) rfl rfl rfl rfl rfl ?_
    refine jcv (pc' := 115) 59 [_] [] (I.no (r := 39) m1) rfl rfl rfl rfl rfl rfl rfl rfl ?_
    refine v_cmp (a := 39) (b := 42) I m1 YC2 (jk ?_)
    have hcg := cmpI_g (cy : Int) (rdr cx cy P : Int)
    have hlt : cmpI (rdr cx cy P) cy < 0 ↔ rdr cx cy P < cy := by
      unfold cmpI
      by_cases e1 : (rdr cx cy P : Int) < cy
      · rw [if_pos e1]; omega
      · rw [if_neg e1]
        split <;> omega
    by_cases e1 : cy ≤ rdr cx cy P
    · skip
      refine jin (pc' := 118) 122 rfl rfl rfl rfl (by rw [zz_lt ⟨by omega, by omega⟩]; exact decide_eq_false (by omega)) ?_
      refine jx (pc' := 123) (L' := [_, _, _, _]) (st' := [.int (nI 1)]) 2 rfl ?_
      refine jx (pc' := 125) (L' := [_, _, _, _]) (st' := [_]) 2 rfl ?_
      refine jin (pc' := 128) 145 rfl rfl rfl rfl (rfl) ?_
      refine jx (pc' := 129) (L' := [_, _, _, _]) (st' := [_]) 1 rfl ?_
      refine jgf (pc' := 132) (I.ob (r := 34) AR2) rfl rfl rfl rfl rfl ?_
      refine jgf (pc' := 135) (I.ob (r := 38) X2) rfl rfl rfl rfl rfl ?_
      refine jx (pc' := 136) (L' := [_, _, _, _]) (st' := [_, _]) 1 rfl ?_
      refine jgf (pc' := 139) (I.ob (r := 34) AR2) rfl rfl rfl rfl rfl ?_
      refine jgf (pc' := 142) (I.ob (r := 41) Y2) rfl rfl rfl rfl rfl ?_
      refine jcv (pc' := 145) 60 [_] [] (I.no (r := 39) m1) rfl rfl rfl rfl rfl rfl rfl rfl ?_
      refine v_subtract (a := 39) (b := 42) I m1 YC2 e1 fun _ I => jk ?_
      refine t3 _ true (decide_eq_true e1).symm ?_ _
      unfold rds
      rw [if_pos e1]
      exact I
    · skip
      refine jit (pc' := 122) rfl rfl rfl (by rw [zz_lt ⟨by omega, by omega⟩]; exact decide_eq_true (by omega)) ?_
      refine jx (pc' := 123) (L' := [_, _, _, _]) (st' := [.int (nI 0)]) 1 rfl ?_
      refine jx (pc' := 125) (L' := [_, _, _, _]) (st' := [_]) 2 rfl ?_
      refine jit (pc' := 145) rfl rfl rfl (rfl) ?_
      refine t3 _ false (decide_eq_false e1).symm ?_ _
      unfold rds
      rw [if_neg e1, va_up_id m1]
      exact I
  refine jx (pc' := 1) (L' := [_, _, _, _]) (st' := [_]) 1 rfl ?_
  refine jgf (pc' := 4) (I.ob (r := 34) AR) rfl rfl rfl rfl rfl ?_
  refine jx (pc' := 5) (L' := [_, _, _, _]) (st' := [_, _]) 1 rfl ?_
  refine jgf (pc' := 8) (I.ob (r := 34) AR) rfl rfl rfl rfl rfl ?_
  refine jgf (pc' := 11) (I.ob (r := 41) Y) rfl rfl rfl rfl rfl ?_
  refine jcv (pc' := 14) 48 [_] [] (I.no (r := 54) W54) rfl rfl rfl rfl rfl rfl rfl rfl ?_
  refine v_copy (a := 54) (b := 42) I W54 YC fun _ I => jk ?_
  refine jx (pc' := 15) (L' := [_, _, _, _]) (st' := [_]) 1 rfl ?_
  refine jgf (pc' := 18) (I.ob (r := 34) AR) rfl rfl rfl rfl rfl ?_
  refine jx (pc' := 19) (L' := [_, _, _, _]) (st' := [_, _]) 1 rfl ?_
  refine jgf (pc' := 22) (I.ob (r := 34) AR) rfl rfl rfl rfl rfl ?_
  refine jgf (pc' := 25) (I.ob (r := 41) Y) rfl rfl rfl rfl rfl ?_
  refine jcv (pc' := 28) 58 [_] [] (I.no (r := 54) rfl) rfl rfl rfl rfl rfl rfl rfl rfl ?_
  refine v_add (a := 54) (b := 42) I rfl YC (by omega) fun h1 I => jk ?_
  have L1 := L.up54 (v := cy) |>.up54 (v := cy + cy)
  have g1 : ag [38, 39, 42, 45, 46, 50, 52, 54, 56] S (va_up (va_up S 54 (aN cy)) 54 (aN (cy + cy))) := ((ag_0 _ S).up (by decide)).up (by decide)
  refine jx (pc' := 29) (L' := [_, _, _, _]) (st' := [_]) 1 rfl ?_
  by_cases hp : 0 < P
  · skip
    refine jin (pc' := 32) 69 rfl rfl rfl rfl (by rw [zz_le ⟨by omega, by omega⟩]; exact decide_eq_false (by omega)) ?_
    have hc34 := hP.2.2 hp
    have hb34 : (10 : Nat) ^ 34 + 10 ^ 34 < 10 ^ 36 := by decide
    refine jx (pc' := 34) (L' := [_, _, _, _]) (st' := [_, _]) 2 rfl ?_
    rw [(zn (p := P) ⟨by omega, by omega⟩ (by omega)).1]
    refine jcv (pc' := 37) 128 [_] [] (I.ob (r := 34) AR) rfl rfl rfl rfl rfl rfl rfl rfl ?_
    refine v_setReducedPower (S := va_up (va_up S 54 (aN cy)) 54 (aN (cy + cy))) (M := cy + cy) (p := P.toNat) I L1 rfl ⟨by omega, by omega⟩ (by omega) fun h2 T2 I L2 g2 PW => jk ?_
    have X2 : T2 38 = aC (uC 38 nx mo ex wx) := g2.at 38 (by decide) X
    have XC2 : T2 39 = aN cx := g2.at 39 (by decide) XC
    have YC2 : T2 42 = aN cy := g2.at 42 (by decide) YC
    have M2 : T2 54 = aN (cy + cy) := g2.at 54 (by decide) rfl
    obtain ⟨wn2, AR2⟩ := L2.1
    obtain ⟨w50, W50⟩ := L2.2.2.2.2.2.2.2.2.1
    have hpw : 10 ^ P.toNat % (cy + cy) < cy + cy := Nat.mod_lt _ (by omega)
    have hpr : cx * (10 ^ P.toNat % (cy + cy)) < 10 ^ 70 := Nat.lt_of_lt_of_le (Nat.mul_lt_mul'' hx (show 10 ^ P.toNat % (cy + cy) < 10 ^ 36 by omega)) (by rw [← Nat.pow_add]; exact pl (by decide))
    refine jx (pc' := 38) (L' := [_, _, _, _]) (st' := [_]) 1 rfl ?_
    refine jgf (pc' := 41) (I.ob (r := 34) AR2) rfl rfl rfl rfl rfl ?_
    refine jx (pc' := 42) (L' := [_, _, _, _]) (st' := [_, _]) 1 rfl ?_
    refine jgf (pc' := 45) (I.ob (r := 34) AR2) rfl rfl rfl rfl rfl ?_
    refine jgf (pc' := 48) (I.ob (r := 38) X2) rfl rfl rfl rfl rfl ?_
    refine jx (pc' := 49) (L' := [_, _, _, _]) (st' := [_, _, _]) 1 rfl ?_
    refine jgf (pc' := 52) (I.ob (r := 34) AR2) rfl rfl rfl rfl rfl ?_
    refine jcv (pc' := 55) 61 [_, _] [] (I.no (r := 50) W50) rfl rfl rfl rfl rfl rfl rfl rfl ?_
    refine v_setProduct (c := 50) (a := 39) (b := 56) I W50 XC2 PW (by decide) (by decide) (Nat.lt_trans hpr (plt (by decide))) fun _ I => jk ?_
    refine jx (pc' := 56) (L' := [_, _, _, _]) (st' := [_]) 1 rfl ?_
    refine jgf (pc' := 59) (I.ob (r := 34) AR2) rfl rfl rfl rfl rfl ?_
    refine jgf (pc' := 62) (I.ob (r := 38) X2) rfl rfl rfl rfl rfl ?_
    refine jx (pc' := 63) (L' := [_, _, _, _]) (st' := [_, _]) 1 rfl ?_
    refine jgf (pc' := 66) (I.ob (r := 34) AR2) rfl rfl rfl rfl rfl ?_
    refine jcv (pc' := 69) 48 [_] [] (I.no (r := 39) XC2) rfl rfl rfl rfl rfl rfl rfl rfl ?_
    refine v_copy (a := 39) (b := 50) I XC2 rfl fun _ I => jk ?_
    rw [← (zn (p := P) ⟨by omega, by omega⟩ (by omega)).1]
    refine t2 _ _ _ I L2.up50.up39 (((g1.tr g2 (by decide)).up (by decide)).up (by decide)) X2 rfl YC2 M2 ?_ _ _
    unfold rdr
    rw [Nat.mul_mod, Nat.mod_mod, ← Nat.mul_mod]
  · skip
    refine jit (pc' := 69) rfl rfl rfl (by rw [zz_le ⟨by omega, by omega⟩]; exact decide_eq_true (by omega)) ?_
    refine t2 _ _ _ I L1 g1 X XC YC rfl ?_ _ _
    unfold rdr
    rw [show P.toNat = 0 by omega, Nat.pow_zero, Nat.mul_one]
/-- Arithmetic.remainder -/
theorem v_remainder (I : Inv h S) (L : Lay S) (R : ResD S da) (A : RegD S a da) (B : RegD S b db) (hA : da.2.1 < 2) (hB : db.2.1 < 2) (q : ∀ h' S' v, Inv h' S' → Lay S' → ag arl S S' → Out S' da (reR da db) v → Q (.inl (some v)) h') : ix_M 126 [.ref 34, .ref a, .ref b] h Q := by
  obtain ⟨wn, AR⟩ := L.1
  have A2 := A.2.1
  have B2 := B.2.1
  have A3 := A.2.2.1
  have B3 := B.2.2.1
  have vA := A.2.2.2
  have vB := B.2.2.2
  have bA := vA.b
  have bB := vB.b
  have dA := vA.d
  have dB := vB.d
  obtain ⟨f1, f2, f3, f4, f5, f6, f7⟩ := f3b vA.1
  unfold reR at q
  have t0 : (da.2.1 = 1 ∨ (db.2.1 = 0 ∧ db.2.2.2.2 = 0)) → ix_E 126 14 [some (.ref 34), some (.ref a), some (.ref b), none] [] h Q := by
    intro n1
    simp only [if_pos n1] at q
    refine jx (pc' := 15) (L' := [_, _, _, _]) (st' := [_]) 1 rfl ?_
    refine jcv (pc' := 18) 117 [] [] (I.ob (r := 34) AR) rfl rfl rfl rfl rfl rfl rfl rfl ?_
    refine v_invalid I L R fun h' S' I' L' g R' => jk ?_
    refine jri rfl rfl ?_
    exact q _ _ _ I' L' (g.w (by decide)) ⟨R', (by decide : 1 < 32), rfl⟩
  refine jx (pc' := 1) (L' := [_, _, _, _]) (st' := [_]) 1 rfl ?_
  refine jcv (pc' := 4) 78 [] [] (I.ob (r := a) A2) rfl rfl rfl rfl rfl rfl rfl rfl ?_
  refine v_isInfinite I A2 vA.2.1 (jk ?_)
  by_cases e1 : da.2.1 = 1
  · skip
    refine jit (pc' := 14) rfl rfl rfl (by rw [bz_ne]; simp [e1]) ?_
    exact t0 (Or.inl e1)
  · skip
    refine jin (pc' := 7) 14 rfl rfl rfl rfl (by rw [bz_ne]; simp [e1]) ?_
    refine jx (pc' := 8) (L' := [_, _, _, _]) (st' := [_]) 1 rfl ?_
    refine jcv (pc' := 11) 80 [] [] (I.ob (r := b) B2) rfl rfl rfl rfl rfl rfl rfl rfl ?_
    refine v_isZero I B2 B3 vB.2.1 (jk ?_)
    by_cases e2 : db.2.1 = 0 ∧ db.2.2.2.2 = 0
    · skip
      refine jin (pc' := 14) 19 rfl rfl rfl rfl (by rw [bz_eq]; simp [e2]) ?_
      exact t0 (Or.inr e2)
    · have n1 : ¬ (da.2.1 = 1 ∨ (db.2.1 = 0 ∧ db.2.2.2.2 = 0)) := fun z => z.elim e1 e2
      simp only [if_neg n1] at q
      refine jit (pc' := 19) rfl rfl rfl (by rw [bz_eq]; simp; omega) ?_
      refine jx (pc' := 20) (L' := [_, _, _, _]) (st' := [_]) 1 rfl ?_
      refine jcv (pc' := 23) 78 [] [] (I.ob (r := b) B2) rfl rfl rfl rfl rfl rfl rfl rfl ?_
      refine v_isInfinite I B2 vB.2.1 (jk ?_)
      by_cases e3 : db.2.1 = 1
      · simp only [if_pos e3] at q
        refine jin (pc' := 26) 28 rfl rfl rfl rfl (by rw [bz_eq]; simp [e3]) ?_
        refine jx (pc' := 27) (L' := [_, _, _, _]) (st' := [.int (zI 0)]) 1 rfl ?_
        refine jri rfl rfl ?_
        exact q _ _ _ I L (ag_0 _ S) ⟨R, (by decide : 0 < 32), rfl⟩
      · simp only [if_neg e3] at q
        have hcb : 0 < db.2.2.2.2 := by omega
        refine jit (pc' := 28) rfl rfl rfl (by rw [bz_eq]; simp [e3]) ?_
        obtain ⟨xn, xm, xe, xw, xc, X0, XC0⟩ := L.2.1
        obtain ⟨yn, ym, ye, yw, yc, Y0, YC0⟩ := L.2.2.1
        refine jx (pc' := 29) (L' := [_, _, _, _]) (st' := [_]) 1 rfl ?_
        refine jgf (pc' := 32) (I.ob (r := 34) AR) rfl rfl rfl rfl rfl ?_
        refine jx (pc' := 33) (L' := [_, _, _, _]) (st' := [_, _]) 1 rfl ?_
        refine jcv (pc' := 36) 96 [_] [] (I.ob (r := 38) X0) rfl rfl rfl rfl rfl rfl rfl rfl ?_
        refine v_takeX I L A fun _ I => jk ?_
        have A4 : RegD (va_up (va_up S 38 (aC (uC 38 da.2.2.1 false da.2.2.2.1 da.2.2.2.1))) 39 (aN da.2.2.2.2)) a da := (A.up (by decide)).up (by decide)
        have B4 : RegD (va_up (va_up S 38 (aC (uC 38 da.2.2.1 false da.2.2.2.1 da.2.2.2.1))) 39 (aN da.2.2.2.2)) b db := (B.up (by decide)).up (by decide)
        have X4 : va_up (va_up S 38 (aC (uC 38 da.2.2.1 false da.2.2.2.1 da.2.2.2.1))) 39 (aN da.2.2.2.2) 38 = aC (uC 38 da.2.2.1 false da.2.2.2.1 da.2.2.2.1) := rfl
        refine jx (pc' := 37) (L' := [_, _, _, _]) (st' := [_]) 1 rfl ?_
        refine jgf (pc' := 40) (I.ob (r := b) B4.2.1) rfl rfl rfl rfl rfl ?_
        refine jx (pc' := 41) (L' := [_, _, _, _]) (st' := [_, _]) 1 rfl ?_
        refine jgf (pc' := 44) (I.ob (r := a) A4.2.1) rfl rfl rfl rfl rfl ?_
        refine jx (pc' := 51) (L' := [_, _, _, _]) (st' := [_, _, _]) 5 rfl ?_
        try simp (disch := omega) only [kz, kzl0, kzl1, kzb, kzs, zI_add, zI_sub, zI_neg, zI_mul, zL_i, zI_l, zL_add, zL_sub, zL_neg]
        refine jgf (pc' := 54) (I.ob (r := a) A4.2.1) rfl rfl rfl rfl rfl ?_
        refine jat (pc' := 55) I.tab rfl rfl ⟨by decide, vA.1⟩ rfl ?_
        rw [tv1 vA.1]
        refine jx (pc' := 57) (L' := [_, _, _, _]) (st' := [_, _]) 2 rfl ?_
        try simp (disch := omega) only [kz, kzl0, kzl1, kzb, kzs, zI_add, zI_sub, zI_neg, zI_mul, zL_i, zI_l, zL_add, zL_sub, zL_neg]
        by_cases hp : db.2.2.2.1 - da.2.2.2.1 ≤ fD da.1 + 1
        · simp only [if_pos hp] at q
          refine jcn (pc' := 60) 124 rfl rfl rfl rfl (by rw [zc_gt ⟨by omega, by omega⟩ ⟨by omega, by omega⟩]; exact decide_eq_false (by omega)) ?_
          refine jx (pc' := 61) (L' := [_, _, _, _]) (st' := [_]) 1 rfl ?_
          refine jgf (pc' := 64) (I.ob (r := 34) AR) rfl rfl rfl rfl rfl ?_
          refine jx (pc' := 65) (L' := [_, _, _, _]) (st' := [_, _]) 1 rfl ?_
          refine jgf (pc' := 68) (I.ob (r := a) A4.2.1) rfl rfl rfl rfl rfl ?_
          refine jx (pc' := 69) (L' := [_, _, _, _]) (st' := [_, _, _]) 1 rfl ?_
          refine jgf (pc' := 72) (I.ob (r := b) B4.2.1) rfl rfl rfl rfl rfl ?_
          refine jcs (pc' := 75) 274 [_, _] [_] rfl rfl rfl rfl rfl rfl rfl rfl ?_
          refine c_minI vA.z vB.z (jk ?_)
          have hmin : -6176 ≤ min da.2.2.2.1 db.2.2.2.1 ∧ min da.2.2.2.1 db.2.2.2.1 ≤ 6111 := by omega
          refine jx (pc' := 76) (L' := [_, _, _, _]) (st' := [_, _]) 1 rfl ?_
          try simp (disch := omega) only [kz, kzl0, kzl1, kzb, kzs, zI_add, zI_sub, zI_neg, zI_mul, zL_i, zI_l, zL_add, zL_sub, zL_neg]
          refine jpA (pc' := 79) (r := 38) I X4 rfl rfl rfl (Nat.le_of_ble_eq_true rfl) (by intro z; cases z) rfl rfl rfl fun _ I X4 => ?_
          refine jx (pc' := 80) (L' := [_, _, _, _]) (st' := [_]) 1 rfl ?_
          refine jgf (pc' := 83) (I.ob (r := 34) AR) rfl rfl rfl rfl rfl ?_
          refine jx (pc' := 84) (L' := [_, _, _, _]) (st' := [_, _]) 1 rfl ?_
          refine jgf (pc' := 87) (I.ob (r := 34) AR) rfl rfl rfl rfl rfl ?_
          refine jgf (pc' := 90) (I.ob (r := 38) X4) rfl rfl rfl rfl rfl ?_
          refine jpA (pc' := 93) (r := 38) I X4 rfl rfl rfl (Nat.le_of_ble_eq_true rfl) (by intro z; cases z) rfl rfl rfl fun _ I X4 => ?_
          have B6 : RegD (va_up (va_up (va_up (va_up S 38 (aC (uC 38 da.2.2.1 false da.2.2.2.1 da.2.2.2.1))) 39 (aN da.2.2.2.2)) 38 (aC (uC 38 da.2.2.1 false da.2.2.2.1 (min da.2.2.2.1 db.2.2.2.1)))) 38 (aC (uC 38 da.2.2.1 false (min da.2.2.2.1 db.2.2.2.1) (min da.2.2.2.1 db.2.2.2.1)))) b db := (B4.up (by decide)).up (by decide)
          refine jx (pc' := 94) (L' := [_, _, _, _]) (st' := [_]) 1 rfl ?_
          refine jgf (pc' := 97) (I.ob (r := 34) AR) rfl rfl rfl rfl rfl ?_
          refine jgf (pc' := 100) (I.ob (r := 41) Y0) rfl rfl rfl rfl rfl ?_
          refine jx (pc' := 101) (L' := [_, _, _, _]) (st' := [_, _]) 1 rfl ?_
          refine jgf (pc' := 104) (I.ob (r := b) B6.2.1) rfl rfl rfl rfl rfl ?_
          refine jcv (pc' := 107) 48 [_] [] (I.no (r := 42) YC0) rfl rfl rfl rfl rfl rfl rfl rfl ?_
          refine v_copy (a := 42) I YC0 B6.2.2.1 fun _ I => jk ?_
          have hsh : db.2.2.2.2 * 10 ^ (db.2.2.2.1 - da.2.2.2.1).toNat < 10 ^ 69 := Nat.lt_of_lt_of_le (dgs_sh _ _) (pl (by omega))
          have hsp : 0 < db.2.2.2.2 * 10 ^ (db.2.2.2.1 - da.2.2.2.1).toNat := Nat.mul_pos hcb (pp0 _)
          refine jx (pc' := 108) (L' := [_, _, _, _]) (st' := [_]) 1 rfl ?_
          refine jgf (pc' := 111) (I.ob (r := 34) AR) rfl rfl rfl rfl rfl ?_
          refine jgf (pc' := 114) (I.ob (r := 41) Y0) rfl rfl rfl rfl rfl ?_
          refine jx (pc' := 115) (L' := [_, _, _, _]) (st' := [_, _]) 1 rfl ?_
          refine jcv (pc' := 118) 56 [_] [] (I.no (r := 42) rfl) rfl rfl rfl rfl rfl rfl rfl rfl ?_
          refine v_shiftUp (a := 42) I rfl ⟨by omega, by omega⟩ (Nat.lt_trans hsh (plt (by decide))) fun _ I => jk ?_
          refine jx (pc' := 121) (L' := [_, _, _, _]) (st' := [_, _]) 3 rfl ?_
          try simp (disch := omega) only [kz, kzl0, kzl1, kzb, kzs, zI_add, zI_sub, zI_neg, zI_mul, zL_i, zI_l, zL_add, zL_sub, zL_neg]
          refine jcv (pc' := 124) 127 [_] [] (I.ob (r := 34) AR) rfl rfl rfl rfl rfl rfl rfl rfl ?_
          have hc34 : 0 < -(db.2.2.2.1 - da.2.2.2.1) → db.2.2.2.2 * 10 ^ (db.2.2.2.1 - da.2.2.2.1).toNat < 10 ^ 34 := fun z => by
            rw [show (db.2.2.2.1 - da.2.2.2.1).toNat = 0 by omega, Nat.pow_zero, Nat.mul_one]
            exact vB.c
          have hb := rdX_b (n := da.2.2.1) (cx := da.2.2.2.2) (P := -(db.2.2.2.1 - da.2.2.2.1)) hsp
          refine v_reduceX (cx := da.2.2.2.2) (cy := db.2.2.2.2 * 10 ^ (db.2.2.2.1 - da.2.2.2.1).toNat) I L.up38.up39.up38.up38.up42.up42 rfl rfl rfl vA.c ⟨hsp, Nat.lt_trans hsh (plt (by decide))⟩ ⟨by omega, by omega, hc34⟩ fun h' S' I' L' g X' XC' => jk ?_
          refine jx (pc' := 125) (L' := [_, _, _, _]) (st' := [.int (zI (-1))]) 1 rfl ?_
          refine jri rfl rfl ?_
          exact q _ _ _ I' L' (((((((((ag_0 arl S).up (by decide)).up (by decide)).up (by decide)).up (by decide)).up (by decide)).up (by decide))).tr g (by decide)) ⟨⟨g.at 35 (by decide) R.1, g.at 36 (by decide) R.2.1, R.2.2⟩, X', XC', ⟨b138 (Nat.lt_of_le_of_lt hb (Nat.lt_trans hsh (plt (by decide)))), by dsimp only; omega, by dsimp only; omega, by dsimp only; omega, by dsimp only; omega⟩, rfl⟩
        · simp only [if_neg hp] at q
          refine jct (pc' := 124) rfl rfl rfl (by rw [zc_gt ⟨by omega, by omega⟩ ⟨by omega, by omega⟩]; exact decide_eq_true (by omega)) ?_
          refine jx (pc' := 125) (L' := [_, _, _, _]) (st' := [.int (zI (-1))]) 1 rfl ?_
          refine jri rfl rfl ?_
          exact q _ _ _ I L.up38.up39 (((ag_0 _ S).up (by decide)).up (by decide)) ⟨R, rfl, rfl, ⟨b34 vA.c, by dsimp only; omega, by dsimp only; omega, by dsimp only; omega, by dsimp only; omega⟩, rfl⟩
end ART
