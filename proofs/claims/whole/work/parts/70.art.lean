/-! ===== Arithmetic: align, addAligned ===== -/
noncomputable def alS (D cu : Nat) : Int := max 0 ((D : Int) + 2 - dgs cu)
noncomputable def alg (D : Nat) (eu : Int) (cu : Nat) (el : Int) (cl : Nat) : Int × Nat × Nat :=
  if el + dgs cl ≤ eu - alS D cu then (eu - (alS D cu + 1), cu * 10 ^ (alS D cu + 1).toNat, 1) else (el, cu * 10 ^ (eu - el).toNat, cl)
section ART
variable {h : ix_H} {Q : ix_O → ix_H → Prop} {S : Nat → AC} {a b c what cu cl cx cy dir : Nat} {da db dc dr : Dm} {nu nl nx ny : Bool} {eu el wu wl ex ey wx wy : Int}
theorem v_align1 (I : Inv h S) (L : Lay S) (R : ResD S dr) (U : S 38 = aC (uC 38 nu false eu wu)) (UC : S 39 = aN cu) (W : S 41 = aC (uC 41 nl false el wl)) (WC : S 42 = aN cl) (hle : el ≤ eu) (he : -100000 ≤ el ∧ eu ≤ 100000) (h1 : dgs cu ≤ 68) (h2 : dgs cl ≤ 68) (q : ∀ h' S', Inv h' S' → Lay S' → ag [38, 39, 41, 42] S S' → S' 38 = aC (uC 38 nu false (alg (fD dr.1) eu cu el cl).1 wu) → S' 39 = aN (alg (fD dr.1) eu cu el cl).2.1 → S' 41 = aC (uC 41 nl false (alg (fD dr.1) eu cu el cl).1 wl) → S' 42 = aN (alg (fD dr.1) eu cu el cl).2.2 → Q (.inl none) h') : ix_M 120 [.ref 34, .ref 38, .ref 41] h Q := by
  obtain ⟨wn, AR⟩ := L.1
  obtain ⟨r1, r2, r3, r4, r5⟩ := R
  obtain ⟨f1, f2, f3, f4, f5, f6, f7⟩ := f3b r3
  have hsp0 : alS (fD dr.1) cu = max 0 ((fD dr.1 : Int) + 2 - dgs cu) := rfl
  unfold alg at q
  refine jx (pc' := 4) (L' := [_, _, _, _, _]) (st' := [_, _]) 2 rfl ?_
  refine jgf (pc' := 7) (I.ob (r := 34) AR) rfl rfl rfl rfl rfl ?_
  refine jgf (pc' := 10) (I.ob (r := 35) r1) rfl rfl rfl rfl rfl ?_
  refine jat (pc' := 11) I.tab rfl rfl ⟨by decide, r3⟩ rfl ?_
  rw [tv1 r3]
  refine jx (pc' := 17) (L' := [_, _, _, _, _]) (st' := [_, _, .int (zI 0)]) 6 rfl ?_
  try simp (disch := omega) only [kz, kzl0, kzl1, kzb, kzs, zI_add, zI_sub, zI_neg, zI_mul, zL_i, zI_l, zL_add, zL_sub, zL_neg]
  refine jgf (pc' := 20) (I.ob (r := 38) U) rfl rfl rfl rfl rfl ?_
  refine jcv (pc' := 23) 52 [] [_, .int (zI 0)] (I.no (r := 39) UC) rfl rfl rfl rfl rfl rfl rfl rfl ?_
  refine v_digits (a := 39) I UC fun _ => jk ?_
  rw [nz (dgs _)]
  refine jx (pc' := 24) (L' := [_, _, _, _, _]) (st' := [_, .int (zI 0)]) 1 rfl ?_
  try simp (disch := omega) only [kz, kzl0, kzl1, kzb, kzs, zI_add, zI_sub, zI_neg, zI_mul, zL_i, zI_l, zL_add, zL_sub, zL_neg]
  refine jcs (pc' := 27) 273 [.int (zI 0), _] [] rfl rfl rfl rfl rfl rfl rfl rfl ?_
  refine c_maxI ⟨by omega, by omega⟩ ⟨by omega, by omega⟩ (jk ?_)
  rw [← hsp0]
  generalize alS (fD dr.1) cu = sp at *
  refine jx (pc' := 30) (L' := [_, _, _, _, _]) (st' := [_]) 2 rfl ?_
  refine jgf (pc' := 33) (I.ob (r := 41) W) rfl rfl rfl rfl rfl ?_
  refine jx (pc' := 34) (L' := [_, _, _, _, _]) (st' := [_, _]) 1 rfl ?_
  refine jgf (pc' := 37) (I.ob (r := 41) W) rfl rfl rfl rfl rfl ?_
  refine jcv (pc' := 40) 52 [] [_] (I.no (r := 42) WC) rfl rfl rfl rfl rfl rfl rfl rfl ?_
  refine v_digits (a := 42) I WC fun _ => jk ?_
  rw [nz (dgs _)]
  refine jx (pc' := 43) (L' := [_, _, _, _, _]) (st' := [_, _]) 3 rfl ?_
  try simp (disch := omega) only [kz, kzl0, kzl1, kzb, kzs, zI_add, zI_sub, zI_neg, zI_mul, zL_i, zI_l, zL_add, zL_sub, zL_neg]
  refine jgf (pc' := 46) (I.ob (r := 38) U) rfl rfl rfl rfl rfl ?_
  refine jx (pc' := 51) (L' := [_, _, _, _, _]) (st' := [_]) 4 rfl ?_
  try simp (disch := omega) only [kz, kzl0, kzl1, kzb, kzs, zI_add, zI_sub, zI_neg, zI_mul, zL_i, zI_l, zL_add, zL_sub, zL_neg]
  by_cases hc : el + dgs cl ≤ eu - sp
  · simp only [if_pos hc] at q
    refine jin (pc' := 54) 97 rfl rfl rfl rfl (by rw [zl_gt ⟨by omega, by omega⟩ ⟨by omega, by omega⟩]; exact decide_eq_false (by omega)) ?_
    refine jx (pc' := 55) (L' := [_, _, _, _, _]) (st' := [_]) 1 rfl ?_
    refine jgf (pc' := 58) (I.ob (r := 38) U) rfl rfl rfl rfl rfl ?_
    refine jx (pc' := 62) (L' := [_, _, _, _, _]) (st' := [_, _]) 3 rfl ?_
    try simp (disch := omega) only [kz, kzl0, kzl1, kzb, kzs, zI_add, zI_sub, zI_neg, zI_mul, zL_i, zI_l, zL_add, zL_sub, zL_neg]
    refine jcv (pc' := 65) 56 [_] [] (I.no (r := 39) UC) rfl rfl rfl rfl rfl rfl rfl rfl ?_
    refine v_shiftUp (a := 39) I UC ⟨by omega, by omega⟩ (Nat.lt_of_lt_of_le (dgs_sh _ _) (pl (by omega))) fun _ I => jk ?_
    refine jx (pc' := 67) (L' := [_, _, _, _, _]) (st' := [_, _]) 2 rfl ?_
    refine jgf (pc' := 70) (I.ob (r := 38) U) rfl rfl rfl rfl rfl ?_
    refine jx (pc' := 76) (L' := [_, _, _, _, _]) (st' := [_, _]) 5 rfl ?_
    try simp (disch := omega) only [kz, kzl0, kzl1, kzb, kzs, zI_add, zI_sub, zI_neg, zI_mul, zL_i, zI_l, zL_add, zL_sub, zL_neg]
    refine jpA (pc' := 79) (r := 38) I U rfl rfl rfl (Nat.le_of_ble_eq_true rfl) (by intro z; cases z) rfl rfl rfl fun _ I U => ?_
    refine jx (pc' := 80) (L' := [_, _, _, _, _]) (st' := [_]) 1 rfl ?_
    refine jgf (pc' := 83) (I.ob (r := 41) W) rfl rfl rfl rfl rfl ?_
    refine jcv (pc' := 86) 57 [] [] (I.no (r := 42) WC) rfl rfl rfl rfl rfl rfl rfl rfl ?_
    refine v_setOne (a := 42) I WC fun _ I => jk ?_
    refine jx (pc' := 88) (L' := [_, _, _, _, _]) (st' := [_, _]) 2 rfl ?_
    refine jgf (pc' := 91) (I.ob (r := 38) U) rfl rfl rfl rfl rfl ?_
    refine jpA (pc' := 94) (r := 41) I W rfl rfl rfl (Nat.le_of_ble_eq_true rfl) (by intro z; cases z) rfl rfl rfl fun _ I W => ?_
    refine jx (pc' := 122) (L' := [_, _, _, _, _]) (st' := []) 1 rfl ?_
    refine ix_qr _ rfl rfl rfl ?_
    exact q _ _ I L.up39.up38.up42.up41 (((((ag_0 _ S).up (by decide)).up (by decide)).up (by decide)).up (by decide)) rfl rfl rfl rfl
  · simp only [if_neg hc] at q
    refine jit (pc' := 97) rfl rfl rfl (by rw [zl_gt ⟨by omega, by omega⟩ ⟨by omega, by omega⟩]; exact decide_eq_true (by omega)) ?_
    refine jx (pc' := 98) (L' := [_, _, _, _, _]) (st' := [_]) 1 rfl ?_
    refine jgf (pc' := 101) (I.ob (r := 38) U) rfl rfl rfl rfl rfl ?_
    refine jx (pc' := 102) (L' := [_, _, _, _, _]) (st' := [_, _]) 1 rfl ?_
    refine jgf (pc' := 105) (I.ob (r := 38) U) rfl rfl rfl rfl rfl ?_
    refine jx (pc' := 106) (L' := [_, _, _, _, _]) (st' := [_, _, _]) 1 rfl ?_
    refine jgf (pc' := 109) (I.ob (r := 41) W) rfl rfl rfl rfl rfl ?_
    refine jx (pc' := 111) (L' := [_, _, _, _, _]) (st' := [_, _]) 2 rfl ?_
    try simp (disch := omega) only [kz, kzl0, kzl1, kzb, kzs, zI_add, zI_sub, zI_neg, zI_mul, zL_i, zI_l, zL_add, zL_sub, zL_neg]
    refine jcv (pc' := 114) 56 [_] [] (I.no (r := 39) UC) rfl rfl rfl rfl rfl rfl rfl rfl ?_
    refine v_shiftUp (a := 39) I UC ⟨by omega, by omega⟩ (Nat.lt_of_lt_of_le (dgs_sh _ _) (pl (by omega))) fun _ I => jk ?_
    refine jx (pc' := 116) (L' := [_, _, _, _, _]) (st' := [_, _]) 2 rfl ?_
    refine jgf (pc' := 119) (I.ob (r := 41) W) rfl rfl rfl rfl rfl ?_
    refine jpA (pc' := 122) (r := 38) I U rfl rfl rfl (Nat.le_of_ble_eq_true rfl) (by intro z; cases z) rfl rfl rfl fun _ I U => ?_
    refine ix_qr _ rfl rfl rfl ?_
    exact q _ _ I L.up39.up38 (((ag_0 _ S).up (by decide)).up (by decide)) rfl rfl W WC
theorem v_align2 (I : Inv h S) (L : Lay S) (R : ResD S dr) (U : S 41 = aC (uC 41 nu false eu wu)) (UC : S 42 = aN cu) (W : S 38 = aC (uC 38 nl false el wl)) (WC : S 39 = aN cl) (hle : el ≤ eu) (he : -100000 ≤ el ∧ eu ≤ 100000) (h1 : dgs cu ≤ 68) (h2 : dgs cl ≤ 68) (q : ∀ h' S', Inv h' S' → Lay S' → ag [38, 39, 41, 42] S S' → S' 41 = aC (uC 41 nu false (alg (fD dr.1) eu cu el cl).1 wu) → S' 42 = aN (alg (fD dr.1) eu cu el cl).2.1 → S' 38 = aC (uC 38 nl false (alg (fD dr.1) eu cu el cl).1 wl) → S' 39 = aN (alg (fD dr.1) eu cu el cl).2.2 → Q (.inl none) h') : ix_M 120 [.ref 34, .ref 41, .ref 38] h Q := by
  obtain ⟨wn, AR⟩ := L.1
  obtain ⟨r1, r2, r3, r4, r5⟩ := R
  obtain ⟨f1, f2, f3, f4, f5, f6, f7⟩ := f3b r3
  have hsp0 : alS (fD dr.1) cu = max 0 ((fD dr.1 : Int) + 2 - dgs cu) := rfl
  unfold alg at q
  refine jx (pc' := 4) (L' := [_, _, _, _, _]) (st' := [_, _]) 2 rfl ?_
  refine jgf (pc' := 7) (I.ob (r := 34) AR) rfl rfl rfl rfl rfl ?_
  refine jgf (pc' := 10) (I.ob (r := 35) r1) rfl rfl rfl rfl rfl ?_
  refine jat (pc' := 11) I.tab rfl rfl ⟨by decide, r3⟩ rfl ?_
  rw [tv1 r3]
  refine jx (pc' := 17) (L' := [_, _, _, _, _]) (st' := [_, _, .int (zI 0)]) 6 rfl ?_
  try simp (disch := omega) only [kz, kzl0, kzl1, kzb, kzs, zI_add, zI_sub, zI_neg, zI_mul, zL_i, zI_l, zL_add, zL_sub, zL_neg]
  refine jgf (pc' := 20) (I.ob (r := 41) U) rfl rfl rfl rfl rfl ?_
  refine jcv (pc' := 23) 52 [] [_, .int (zI 0)] (I.no (r := 42) UC) rfl rfl rfl rfl rfl rfl rfl rfl ?_
  refine v_digits (a := 42) I UC fun _ => jk ?_
  rw [nz (dgs _)]
  refine jx (pc' := 24) (L' := [_, _, _, _, _]) (st' := [_, .int (zI 0)]) 1 rfl ?_
  try simp (disch := omega) only [kz, kzl0, kzl1, kzb, kzs, zI_add, zI_sub, zI_neg, zI_mul, zL_i, zI_l, zL_add, zL_sub, zL_neg]
  refine jcs (pc' := 27) 273 [.int (zI 0), _] [] rfl rfl rfl rfl rfl rfl rfl rfl ?_
  refine c_maxI ⟨by omega, by omega⟩ ⟨by omega, by omega⟩ (jk ?_)
  rw [← hsp0]
  generalize alS (fD dr.1) cu = sp at *
  refine jx (pc' := 30) (L' := [_, _, _, _, _]) (st' := [_]) 2 rfl ?_
  refine jgf (pc' := 33) (I.ob (r := 38) W) rfl rfl rfl rfl rfl ?_
  refine jx (pc' := 34) (L' := [_, _, _, _, _]) (st' := [_, _]) 1 rfl ?_
  refine jgf (pc' := 37) (I.ob (r := 38) W) rfl rfl rfl rfl rfl ?_
  refine jcv (pc' := 40) 52 [] [_] (I.no (r := 39) WC) rfl rfl rfl rfl rfl rfl rfl rfl ?_
  refine v_digits (a := 39) I WC fun _ => jk ?_
  rw [nz (dgs _)]
  refine jx (pc' := 43) (L' := [_, _, _, _, _]) (st' := [_, _]) 3 rfl ?_
  try simp (disch := omega) only [kz, kzl0, kzl1, kzb, kzs, zI_add, zI_sub, zI_neg, zI_mul, zL_i, zI_l, zL_add, zL_sub, zL_neg]
  refine jgf (pc' := 46) (I.ob (r := 41) U) rfl rfl rfl rfl rfl ?_
  refine jx (pc' := 51) (L' := [_, _, _, _, _]) (st' := [_]) 4 rfl ?_
  try simp (disch := omega) only [kz, kzl0, kzl1, kzb, kzs, zI_add, zI_sub, zI_neg, zI_mul, zL_i, zI_l, zL_add, zL_sub, zL_neg]
  by_cases hc : el + dgs cl ≤ eu - sp
  · simp only [if_pos hc] at q
    refine jin (pc' := 54) 97 rfl rfl rfl rfl (by rw [zl_gt ⟨by omega, by omega⟩ ⟨by omega, by omega⟩]; exact decide_eq_false (by omega)) ?_
    refine jx (pc' := 55) (L' := [_, _, _, _, _]) (st' := [_]) 1 rfl ?_
    refine jgf (pc' := 58) (I.ob (r := 41) U) rfl rfl rfl rfl rfl ?_
    refine jx (pc' := 62) (L' := [_, _, _, _, _]) (st' := [_, _]) 3 rfl ?_
    try simp (disch := omega) only [kz, kzl0, kzl1, kzb, kzs, zI_add, zI_sub, zI_neg, zI_mul, zL_i, zI_l, zL_add, zL_sub, zL_neg]
    refine jcv (pc' := 65) 56 [_] [] (I.no (r := 42) UC) rfl rfl rfl rfl rfl rfl rfl rfl ?_
    refine v_shiftUp (a := 42) I UC ⟨by omega, by omega⟩ (Nat.lt_of_lt_of_le (dgs_sh _ _) (pl (by omega))) fun _ I => jk ?_
    refine jx (pc' := 67) (L' := [_, _, _, _, _]) (st' := [_, _]) 2 rfl ?_
    refine jgf (pc' := 70) (I.ob (r := 41) U) rfl rfl rfl rfl rfl ?_
    refine jx (pc' := 76) (L' := [_, _, _, _, _]) (st' := [_, _]) 5 rfl ?_
    try simp (disch := omega) only [kz, kzl0, kzl1, kzb, kzs, zI_add, zI_sub, zI_neg, zI_mul, zL_i, zI_l, zL_add, zL_sub, zL_neg]
    refine jpA (pc' := 79) (r := 41) I U rfl rfl rfl (Nat.le_of_ble_eq_true rfl) (by intro z; cases z) rfl rfl rfl fun _ I U => ?_
    refine jx (pc' := 80) (L' := [_, _, _, _, _]) (st' := [_]) 1 rfl ?_
    refine jgf (pc' := 83) (I.ob (r := 38) W) rfl rfl rfl rfl rfl ?_
    refine jcv (pc' := 86) 57 [] [] (I.no (r := 39) WC) rfl rfl rfl rfl rfl rfl rfl rfl ?_
    refine v_setOne (a := 39) I WC fun _ I => jk ?_
    refine jx (pc' := 88) (L' := [_, _, _, _, _]) (st' := [_, _]) 2 rfl ?_
    refine jgf (pc' := 91) (I.ob (r := 41) U) rfl rfl rfl rfl rfl ?_
    refine jpA (pc' := 94) (r := 38) I W rfl rfl rfl (Nat.le_of_ble_eq_true rfl) (by intro z; cases z) rfl rfl rfl fun _ I W => ?_
    refine jx (pc' := 122) (L' := [_, _, _, _, _]) (st' := []) 1 rfl ?_
    refine ix_qr _ rfl rfl rfl ?_
    exact q _ _ I L.up42.up41.up39.up38 (((((ag_0 _ S).up (by decide)).up (by decide)).up (by decide)).up (by decide)) rfl rfl rfl rfl
  · simp only [if_neg hc] at q
    refine jit (pc' := 97) rfl rfl rfl (by rw [zl_gt ⟨by omega, by omega⟩ ⟨by omega, by omega⟩]; exact decide_eq_true (by omega)) ?_
    refine jx (pc' := 98) (L' := [_, _, _, _, _]) (st' := [_]) 1 rfl ?_
    refine jgf (pc' := 101) (I.ob (r := 41) U) rfl rfl rfl rfl rfl ?_
    refine jx (pc' := 102) (L' := [_, _, _, _, _]) (st' := [_, _]) 1 rfl ?_
    refine jgf (pc' := 105) (I.ob (r := 41) U) rfl rfl rfl rfl rfl ?_
    refine jx (pc' := 106) (L' := [_, _, _, _, _]) (st' := [_, _, _]) 1 rfl ?_
    refine jgf (pc' := 109) (I.ob (r := 38) W) rfl rfl rfl rfl rfl ?_
    refine jx (pc' := 111) (L' := [_, _, _, _, _]) (st' := [_, _]) 2 rfl ?_
    try simp (disch := omega) only [kz, kzl0, kzl1, kzb, kzs, zI_add, zI_sub, zI_neg, zI_mul, zL_i, zI_l, zL_add, zL_sub, zL_neg]
    refine jcv (pc' := 114) 56 [_] [] (I.no (r := 42) UC) rfl rfl rfl rfl rfl rfl rfl rfl ?_
    refine v_shiftUp (a := 42) I UC ⟨by omega, by omega⟩ (Nat.lt_of_lt_of_le (dgs_sh _ _) (pl (by omega))) fun _ I => jk ?_
    refine jx (pc' := 116) (L' := [_, _, _, _, _]) (st' := [_, _]) 2 rfl ?_
    refine jgf (pc' := 119) (I.ob (r := 38) W) rfl rfl rfl rfl rfl ?_
    refine jpA (pc' := 122) (r := 41) I U rfl rfl rfl (Nat.le_of_ble_eq_true rfl) (by intro z; cases z) rfl rfl rfl fun _ I U => ?_
    refine ix_qr _ rfl rfl rfl ?_
    exact q _ _ I L.up42.up41 (((ag_0 _ S).up (by decide)).up (by decide)) rfl rfl W WC
/-- the sum of two with one exponent: sign, size -/
def adA (dir : Nat) (nx ny : Bool) (cx cy : Nat) : Bool × Nat := if nx = ny then (nx, cx + cy) else if cx = cy then (decide (dir = 3), 0) else if cy < cx then (nx, cx - cy) else (ny, cy - cx)
theorem v_addAligned (I : Inv h S) (L : Lay S) (X : S 38 = aC (uC 38 nx false ex wx)) (XC : S 39 = aN cx) (Y : S 41 = aC (uC 41 ny false ex wy)) (YC : S 42 = aN cy) (hd : dir < 5) (hs : cx + cy < 10 ^ 144) (q : ∀ h' S' w', Inv h' S' → Lay S' → ag [38, 39, 41, 42] S S' → S' 38 = aC (uC 38 (adA dir nx ny cx cy).1 false ex w') → S' 39 = aN (adA dir nx ny cx cy).2 → Q (.inl none) h') : ix_M 121 [.ref 34, .int (nI dir)] h Q := by
  obtain ⟨wn, AR⟩ := L.1
  unfold adA at q
  refine jx (pc' := 1) (L' := [_, _, _]) (st' := [_]) 1 rfl ?_
  refine jgf (pc' := 4) (I.ob (r := 34) AR) rfl rfl rfl rfl rfl ?_
  refine jgf (pc' := 7) (I.ob (r := 38) X) rfl rfl rfl rfl rfl ?_
  refine jx (pc' := 8) (L' := [_, _, _]) (st' := [_, _]) 1 rfl ?_
  refine jgf (pc' := 11) (I.ob (r := 34) AR) rfl rfl rfl rfl rfl ?_
  refine jgf (pc' := 14) (I.ob (r := 41) Y) rfl rfl rfl rfl rfl ?_
  by_cases hn : nx = ny
  · simp only [if_pos hn] at q
    refine jcn (pc' := 17) 35 rfl rfl rfl rfl (by rw [bc_ne]; exact decide_eq_false (fun z => z hn)) ?_
    refine jx (pc' := 18) (L' := [_, _, _]) (st' := [_]) 1 rfl ?_
    refine jgf (pc' := 21) (I.ob (r := 34) AR) rfl rfl rfl rfl rfl ?_
    refine jgf (pc' := 24) (I.ob (r := 38) X) rfl rfl rfl rfl rfl ?_
    refine jx (pc' := 25) (L' := [_, _, _]) (st' := [_, _]) 1 rfl ?_
    refine jgf (pc' := 28) (I.ob (r := 34) AR) rfl rfl rfl rfl rfl ?_
    refine jgf (pc' := 31) (I.ob (r := 41) Y) rfl rfl rfl rfl rfl ?_
    refine jcv (pc' := 34) 58 [_] [] (I.no (r := 39) XC) rfl rfl rfl rfl rfl rfl rfl rfl ?_
    refine v_add (a := 39) (b := 42) I XC YC hs fun _ I => jk ?_
    refine ix_qr _ rfl rfl rfl ?_
    exact q _ _ _ I L.up39 ((ag_0 _ S).up (by decide)) X rfl
  · simp only [if_neg hn] at q
    refine jct (pc' := 35) rfl rfl rfl (by rw [bc_ne]; exact decide_eq_true hn) ?_
    refine jx (pc' := 36) (L' := [_, _, _]) (st' := [_]) 1 rfl ?_
    refine jgf (pc' := 39) (I.ob (r := 34) AR) rfl rfl rfl rfl rfl ?_
    refine jgf (pc' := 42) (I.ob (r := 38) X) rfl rfl rfl rfl rfl ?_
    refine jx (pc' := 43) (L' := [_, _, _]) (st' := [_, _]) 1 rfl ?_
    refine jgf (pc' := 46) (I.ob (r := 34) AR) rfl rfl rfl rfl rfl ?_
    refine jgf (pc' := 49) (I.ob (r := 41) Y) rfl rfl rfl rfl rfl ?_
    refine jcv (pc' := 52) 59 [_] [] (I.no (r := 39) XC) rfl rfl rfl rfl rfl rfl rfl rfl ?_
    refine v_cmp (a := 39) (b := 42) I XC YC (jk ?_)
    have hcb := cmpI_b cx cy
    have hce : cmpI cx cy = 0 ↔ cx = cy := by
      unfold cmpI
      by_cases e1 : (cx : Int) < cy
      · rw [if_pos e1]; omega
      · rw [if_neg e1]
        by_cases e2 : (cx : Int) = cy
        · rw [if_pos e2]; omega
        · rw [if_neg e2]; omega
    have hcg : 0 < cmpI cx cy ↔ cy < cx := by
      unfold cmpI
      by_cases e1 : (cx : Int) < cy
      · rw [if_pos e1]; omega
      · rw [if_neg e1]
        by_cases e2 : (cx : Int) = cy
        · rw [if_pos e2]; omega
        · rw [if_neg e2]; omega
    refine jx (pc' := 54) (L' := [_, _, _]) (st' := [_]) 2 rfl ?_
    by_cases h0 : cx = cy
    · have h0' := hce.mpr h0
      simp only [if_pos h0] at q
      have fin : ∀ n : Bool, n = decide (dir = 3) → ∀ l2, ix_E 121 71 [some (.ref 34), some (.int (nI dir)), l2] [.int (bI n), .ref 38] h Q := by
        intro n hn' l2
        rw [← hn'] at q
        refine jcv (pc' := 74) 97 [_] [] (I.ob (r := 38) X) rfl rfl rfl rfl rfl rfl rfl rfl ?_
        refine v_setZero (r := 38) I X XC fun _ I => jk ?_
        refine jx (pc' := 129) (L' := [_, _, _]) (st' := []) 1 rfl ?_
        refine ix_qr _ rfl rfl rfl ?_
        exact q _ _ _ I L.up38.up39 (((ag_0 _ S).up (by decide)).up (by decide)) rfl rfl
      refine jin (pc' := 57) 77 rfl rfl rfl rfl (by rw [zz_ne ⟨by omega, by omega⟩]; exact decide_eq_false (by omega)) ?_
      refine jx (pc' := 58) (L' := [_, _, _]) (st' := [_]) 1 rfl ?_
      refine jgf (pc' := 61) (I.ob (r := 34) AR) rfl rfl rfl rfl rfl ?_
      refine jx (pc' := 63) (L' := [_, _, _]) (st' := [.int (nI 3), _, _]) 2 rfl ?_
      by_cases h3 : dir = 3
      · skip
        refine jcn (pc' := 66) 70 rfl rfl rfl rfl (by rw [cc_ne (by omega) (by omega)]; exact decide_eq_false (by omega)) ?_
        refine jx (pc' := 71) (L' := [_, _, _]) (st' := [.int (nI 1), _]) 2 rfl ?_
        exact fin true (decide_eq_true h3).symm _
      · skip
        refine jct (pc' := 70) rfl rfl rfl (by rw [cc_ne (by omega) (by omega)]; exact decide_eq_true (by omega)) ?_
        refine jx (pc' := 71) (L' := [_, _, _]) (st' := [.int (nI 0), _]) 1 rfl ?_
        exact fin false (decide_eq_false h3).symm _
    · have h0' : ¬ cmpI cx cy = 0 := fun z => h0 (hce.mp z)
      simp only [if_neg h0] at q
      refine jit (pc' := 77) rfl rfl rfl (by rw [zz_ne ⟨by omega, by omega⟩]; exact decide_eq_true (by omega)) ?_
      refine jx (pc' := 78) (L' := [_, _, _]) (st' := [_]) 1 rfl ?_
      by_cases hg : cy < cx
      · have hg' := hcg.mpr hg
        simp only [if_pos hg] at q
        refine jin (pc' := 81) 101 rfl rfl rfl rfl (by rw [zz_le ⟨by omega, by omega⟩]; exact decide_eq_false (by omega)) ?_
        refine jx (pc' := 82) (L' := [_, _, _]) (st' := [_]) 1 rfl ?_
        refine jgf (pc' := 85) (I.ob (r := 34) AR) rfl rfl rfl rfl rfl ?_
        refine jgf (pc' := 88) (I.ob (r := 38) X) rfl rfl rfl rfl rfl ?_
        refine jx (pc' := 89) (L' := [_, _, _]) (st' := [_, _]) 1 rfl ?_
        refine jgf (pc' := 92) (I.ob (r := 34) AR) rfl rfl rfl rfl rfl ?_
        refine jgf (pc' := 95) (I.ob (r := 41) Y) rfl rfl rfl rfl rfl ?_
        refine jcv (pc' := 98) 60 [_] [] (I.no (r := 39) XC) rfl rfl rfl rfl rfl rfl rfl rfl ?_
        refine v_subtract (a := 39) (b := 42) I XC YC (by omega) fun _ I => jk ?_
        refine jx (pc' := 129) (L' := [_, _, _]) (st' := []) 1 rfl ?_
        refine ix_qr _ rfl rfl rfl ?_
        exact q _ _ _ I L.up39 ((ag_0 _ S).up (by decide)) X rfl
      · have hg' : ¬ 0 < cmpI cx cy := fun z => hg (hcg.mp z)
        simp only [if_neg hg] at q
        refine jit (pc' := 101) rfl rfl rfl (by rw [zz_le ⟨by omega, by omega⟩]; exact decide_eq_true (by omega)) ?_
        refine jx (pc' := 102) (L' := [_, _, _]) (st' := [_]) 1 rfl ?_
        refine jgf (pc' := 105) (I.ob (r := 34) AR) rfl rfl rfl rfl rfl ?_
        refine jgf (pc' := 108) (I.ob (r := 41) Y) rfl rfl rfl rfl rfl ?_
        refine jx (pc' := 109) (L' := [_, _, _]) (st' := [_, _]) 1 rfl ?_
        refine jgf (pc' := 112) (I.ob (r := 34) AR) rfl rfl rfl rfl rfl ?_
        refine jgf (pc' := 115) (I.ob (r := 38) X) rfl rfl rfl rfl rfl ?_
        refine jcv (pc' := 118) 60 [_] [] (I.no (r := 42) YC) rfl rfl rfl rfl rfl rfl rfl rfl ?_
        refine v_subtract (a := 42) (b := 39) I YC XC (by omega) fun _ I => jk ?_
        refine jx (pc' := 119) (L' := [_, _, _]) (st' := [_]) 1 rfl ?_
        refine jgf (pc' := 122) (I.ob (r := 34) AR) rfl rfl rfl rfl rfl ?_
        refine jx (pc' := 123) (L' := [_, _, _]) (st' := [_, _]) 1 rfl ?_
        refine jgf (pc' := 126) (I.ob (r := 34) AR) rfl rfl rfl rfl rfl ?_
        refine jcv (pc' := 129) 98 [_] [] (I.ob (r := 38) X) rfl rfl rfl rfl rfl rfl rfl rfl ?_
        refine v_ucopy I X XC Y rfl fun _ I => jk ?_
        refine ix_qr _ rfl rfl rfl ?_
        exact q _ _ _ I L.up42.up39.up38 ((((ag_0 _ S).up (by decide)).up (by decide)).up (by decide)) rfl rfl
end ART
