/-! ===== DecimalBits: bits, format, direct, flags, lower, trap, kind, alike, type, output ===== -/
theorem nI_xor (a b : Nat) : nI a ^^^ nI b = nI (a ^^^ b) := by
  refine Int32.toBitVec_inj.mp ?_
  unfold nI
  rw [Int32.toBitVec_xor]
  show BitVec.ofNat 32 a ^^^ BitVec.ofNat 32 b = BitVec.ofNat 32 (a ^^^ b)
  exact (BitVec.ofNat_xor ..).symm
theorem and_w (a : Nat) (b : Int32) : nI a &&& b = nI (a &&& wd b) := by
  have e : nI a &&& b = nI a &&& nI (wd b) := by rw [nI_wd]
  rw [e, nI_and]
/-- the flags without some of them -/
def lwr (a : Nat) (b : Int32) : Nat := a &&& (wd b ^^^ 4294967295)
theorem and_nw (a : Nat) (b : Int32) : nI a &&& (b ^^^ Int32.ofInt (-1)) = nI (lwr a b) := by
  have e : b ^^^ Int32.ofInt (-1) = nI (wd b) ^^^ nI 4294967295 := by rw [nI_wd]; rfl
  rw [e, nI_xor, nI_and]
  rfl
section TOP
variable {h : ix_H} {Q : ix_O → ix_H → Prop} {S : Nat → AC} {σ : Stt} {n m s f : Nat} {e : ix_C} {x y w z : Int} {a b c d : Int32}
theorem v_bits (I : Inv h S) (C : Cls S σ) (G : Rm S n m e) (hx : zr x) (hy : zr y) (q0 : ¬ ((0 ≤ x ∧ x ≤ 8) ∧ 0 ≤ y ∧ y < fN (σ.1 x.toNat).1) → Q (.inl (some (.int (nI 0)))) h) (q1 : (0 ≤ x ∧ x ≤ 8) ∧ 0 ≤ y ∧ y < fN (σ.1 x.toNat).1 → ∀ h' S', Inv h' S' → Pst S S' σ n m e → Q (.inl (some (.int (nI (ecW (σ.1 x.toNat) y.toNat))))) h') : ix_M 15 [.ref 32, .int (zI x), .int (zI y)] h Q := by
  have c1 := C.1
  have hy1 := hy.1
  have hy2 := hy.2
  obtain ⟨f33, c2, c2f⟩ := C.2.1
  obtain ⟨K, ⟨W, WW⟩, k63, WK⟩ := C.2.2.2.2.1
  have t0 : ¬ ((0 ≤ x ∧ x ≤ 8) ∧ 0 ≤ y ∧ y < fN (σ.1 x.toNat).1) → ix_E 15 28 [some (.ref 32), some (.int (zI x)), some (.int (zI y))] [] h Q := by
    intro hc
    refine jx (pc' := 29) (L' := [_, _, _]) (st' := [.int (nI 0)]) 1 rfl ?_
    refine jri rfl rfl ?_
    exact q0 hc
  refine jx (pc' := 1) (L' := [_, _, _]) (st' := [_]) 1 rfl ?_
  refine jcs (pc' := 4) 16 [_] [] rfl rfl rfl rfl rfl rfl rfl rfl ?_
  refine c_isRegister hx (jk ?_)
  by_cases hc0 : (0 ≤ x ∧ x ≤ 8)
  · skip
    refine jin (pc' := 7) 28 rfl rfl rfl rfl (by rw [bz_eq, decide_eq_true hc0]; rfl) ?_
    have X := C.get (i := x.toNat) (by omega)
    have hf := X.2.2.2.1
    have hfN : fN (σ.1 x.toNat).1 ≤ 4 := by rcases f3 hf with z | z | z <;> rw [z] <;> decide
    refine jx (pc' := 8) (L' := [_, _, _]) (st' := [_]) 1 rfl ?_
    by_cases y0 : y < 0
    · skip
      refine jit (pc' := 28) rfl rfl rfl (by rw [zz_lt ⟨by omega, by omega⟩]; exact decide_eq_true (by omega)) ?_
      exact t0 (fun zz => by have := zz.2.1; omega)
    · skip
      refine jin (pc' := 11) 28 rfl rfl rfl rfl (by rw [zz_lt ⟨by omega, by omega⟩]; exact decide_eq_false (by omega)) ?_
      rw [(zn hx (by omega)).1]
      refine jx (pc' := 16) (L' := [_, _, _]) (st' := [_, _, _]) 3 rfl ?_
      refine jgf (pc' := 19) (I.ob (r := 32) c1) rfl rfl rfl rfl rfl ?_
      refine jx (pc' := 20) (L' := [_, _, _]) (st' := [_, _, _, _]) 1 rfl ?_
      refine jaa (pc' := 21) (r := 33) (z := 71 + 3 * x.toNat) I c2 rfl rfl (by omega) (c2f _ (by omega)) rfl ?_
      refine jgf (pc' := 24) (I.ob (r := (71+3*x.toNat)) X.2.1) rfl rfl rfl rfl rfl ?_
      refine jat (pc' := 25) I.tab rfl rfl ⟨by decide, hf⟩ rfl ?_
      rw [tv0 hf, nz (fN _)]
      by_cases yn : y < fN (σ.1 x.toNat).1
      · skip
        refine jct (pc' := 30) rfl rfl rfl (by rw [zc_lt ⟨by omega, by omega⟩ ⟨by omega, by omega⟩]; exact decide_eq_true (by omega)) ?_
        have cc : (0 ≤ x ∧ x ≤ 8) ∧ 0 ≤ y ∧ y < fN (σ.1 x.toNat).1 := ⟨hc0, by omega, yn⟩
        refine jx (pc' := 31) (L' := [_, _, _]) (st' := [_]) 1 rfl ?_
        refine jgf (pc' := 34) (I.ob (r := 32) c1) rfl rfl rfl rfl rfl ?_
        refine jx (pc' := 35) (L' := [_, _, _]) (st' := [_, _]) 1 rfl ?_
        refine jgf (pc' := 38) (I.ob (r := 32) c1) rfl rfl rfl rfl rfl ?_
        refine jx (pc' := 39) (L' := [_, _, _]) (st' := [_, _, _]) 1 rfl ?_
        refine jaa (pc' := 40) (r := 33) (z := 71 + 3 * x.toNat) I c2 rfl rfl (by omega) (c2f _ (by omega)) rfl ?_
        refine jcv (pc' := 43) 88 [_] [] (I.ob (r := 61) K) rfl rfl rfl rfl rfl rfl rfl rfl ?_
        refine v_encode I K WW WK X fun h1 T W' I g w62 n63 hw => jk ?_
        have C1 : Cls T σ := C.bp g ⟨W', w62⟩ n63
        have WI := I.ia (r := 62) w62
        have K1 := C1.2.2.2.2.1.1
        refine jx (pc' := 44) (L' := [_, _, _]) (st' := [_]) 1 rfl ?_
        refine jgf (pc' := 47) (I.ob (r := 32) C1.1) rfl rfl rfl rfl rfl ?_
        refine jgf (pc' := 50) (I.ob (r := 61) K1) rfl rfl rfl rfl rfl ?_
        refine jx (pc' := 51) (L' := [_, _, _]) (st' := [_, _]) 1 rfl ?_
        rw [(zn hy (by omega)).1]
        refine jal (pc' := 52) WI rfl rfl (by omega) rfl ?_
        rw [hw _ (by omega)]
        refine jri rfl rfl ?_
        exact q1 cc _ _ I ⟨C1, g.at 0 (by decide) G.1, ag98 g (by decide)⟩
      · skip
        refine jcn (pc' := 28) 30 rfl rfl rfl rfl (by rw [zc_lt ⟨by omega, by omega⟩ ⟨by omega, by omega⟩]; exact decide_eq_false (by omega)) ?_
        rw [← (zn hx (by omega)).1]
        exact t0 (fun zz => yn zz.2.2)
  · skip
    refine jit (pc' := 28) rfl rfl rfl (by rw [bz_eq, decide_eq_false hc0]; rfl) ?_
    exact t0 (fun zz => hc0 zz.1)
theorem v_format (I : Inv h S) (C : Cls S σ) (hx : zr x) (q0 : ¬ (0 ≤ x ∧ x ≤ 8) → Q (.inl (some (.int (zI (-1))))) h) (q1 : (0 ≤ x ∧ x ≤ 8) → Q (.inl (some (.int (nI (σ.1 x.toNat).1)))) h) : ix_M 17 [.ref 32, .int (zI x)] h Q := by
  have c1 := C.1
  obtain ⟨f33, c2, c2f⟩ := C.2.1
  refine jx (pc' := 1) (L' := [_, _]) (st' := [_]) 1 rfl ?_
  refine jcs (pc' := 4) 16 [_] [] rfl rfl rfl rfl rfl rfl rfl rfl ?_
  refine c_isRegister hx (jk ?_)
  by_cases hc0 : (0 ≤ x ∧ x ≤ 8)
  · skip
    refine jin (pc' := 7) 19 rfl rfl rfl rfl (by rw [bz_eq, decide_eq_true hc0]; rfl) ?_
    have X := C.get (i := x.toNat) (by omega)
    rw [(zn hx (by omega)).1]
    refine jx (pc' := 8) (L' := [_, _]) (st' := [_]) 1 rfl ?_
    refine jgf (pc' := 11) (I.ob (r := 32) c1) rfl rfl rfl rfl rfl ?_
    refine jx (pc' := 12) (L' := [_, _]) (st' := [_, _]) 1 rfl ?_
    refine jaa (pc' := 13) (r := 33) (z := 71 + 3 * x.toNat) I c2 rfl rfl (by omega) (c2f _ (by omega)) rfl ?_
    refine jgf (pc' := 16) (I.ob (r := (71+3*x.toNat)) X.2.1) rfl rfl rfl rfl rfl ?_
    refine jx (pc' := 20) (L' := [_, _]) (st' := [_]) 1 rfl ?_
    refine jri rfl rfl ?_
    exact q1 hc0
  · skip
    refine jit (pc' := 19) rfl rfl rfl (by rw [bz_eq, decide_eq_false hc0]; rfl) ?_
    refine jx (pc' := 20) (L' := [_, _]) (st' := [_]) 1 rfl ?_
    refine jri rfl rfl ?_
    exact q0 hc0
theorem v_direct (I : Inv h S) (C : Cls S σ) (G : Rm S n m e) (hx : zr x) (q0 : ¬ (0 ≤ x ∧ x ≤ 4) → Q (.inl (some (.int (bI false)))) h) (q1 : (0 ≤ x ∧ x ≤ 4) → ∀ h' S', Inv h' S' → Pst S S' (σ.1, x.toNat, σ.2.2) n m e → Q (.inl (some (.int (bI true)))) h') : ix_M 18 [.ref 32, .int (zI x)] h Q := by
  have c1 := C.1
  have c9 := C.2.2.2.2.2.2.2.2
  have hx1 := hx.1
  have hx2 := hx.2
  have t0 : ¬ (0 ≤ x ∧ x ≤ 4) → ix_E 18 9 [some (.ref 32), some (.int (zI x))] [] h Q := by
    intro hc
    refine jx (pc' := 10) (L' := [_, _]) (st' := [.int (nI 0)]) 1 rfl ?_
    refine ix_qr _ rfl rfl rfl ?_
    exact q0 hc
  refine jx (pc' := 1) (L' := [_, _]) (st' := [_]) 1 rfl ?_
  by_cases h0 : x < 0
  · skip
    refine jit (pc' := 9) rfl rfl rfl (by rw [zz_lt ⟨by omega, by omega⟩]; exact decide_eq_true (by omega)) ?_
    exact t0 (by omega)
  · skip
    refine jin (pc' := 4) 9 rfl rfl rfl rfl (by rw [zz_lt ⟨by omega, by omega⟩]; exact decide_eq_false (by omega)) ?_
    refine jx (pc' := 6) (L' := [_, _]) (st' := [.int (zI 4), _]) 2 rfl ?_
    by_cases h4 : x ≤ 4
    · skip
      refine jct (pc' := 11) rfl rfl rfl (by rw [zc_le ⟨by omega, by omega⟩ ⟨by omega, by omega⟩]; exact decide_eq_true (by omega)) ?_
      rw [(zn hx (by omega)).1]
      refine jx (pc' := 13) (L' := [_, _]) (st' := [_, _]) 2 rfl ?_
      refine jpA (pc' := 16) (r := 32) I c1 rfl rfl rfl (Nat.le_of_ble_eq_true rfl) (by intro z; cases z) rfl rfl rfl fun _ I c1 => ?_
      refine jx (pc' := 17) (L' := [_, _]) (st' := [.int (zI 1)]) 1 rfl ?_
      refine ix_qr _ rfl rfl rfl ?_
      exact q1 ⟨by omega, h4⟩ _ _ I ⟨C.own (by omega) c9.2.1 c9.2.2.1, G.1, fun r hr => va_up_ne _ _ (by omega)⟩
    · skip
      refine jcn (pc' := 9) 11 rfl rfl rfl rfl (by rw [zc_le ⟨by omega, by omega⟩ ⟨by omega, by omega⟩]; exact decide_eq_false (by omega)) ?_
      exact t0 (by omega)
theorem v_flags (I : Inv h S) (C : Cls S σ) (q : Q (.inl (some (.int (nI σ.2.2.1)))) h) : ix_M 19 [.ref 32] h Q := by
  have c1 := C.1
  refine jx (pc' := 1) (L' := [_]) (st' := [_]) 1 rfl ?_
  refine jgf (pc' := 4) (I.ob (r := 32) c1) rfl rfl rfl rfl rfl ?_
  refine jri rfl rfl ?_
  exact q
theorem v_lower (I : Inv h S) (C : Cls S σ) (G : Rm S n m e) (q : ∀ h' S', Inv h' S' → Pst S S' (σ.1, σ.2.1, lwr σ.2.2.1 a, σ.2.2.2) n m e → Q (.inl (some (.int (nI (σ.2.2.1 &&& wd a))))) h') : ix_M 20 [.ref 32, .int a] h Q := by
  have c1 := C.1
  have c9 := C.2.2.2.2.2.2.2.2
  have hb : lwr σ.2.2.1 a < 32 := Nat.lt_of_le_of_lt Nat.and_le_left c9.2.1
  refine jx (pc' := 1) (L' := [_, _, _]) (st' := [_]) 1 rfl ?_
  refine jgf (pc' := 4) (I.ob (r := 32) c1) rfl rfl rfl rfl rfl ?_
  refine jx (pc' := 6) (L' := [_, _, _]) (st' := [_]) 2 rfl ?_
  try simp (disch := omega) only [nI_add, nI_mul, nI_sub, Nat.zero_mul, Nat.one_mul, Nat.sub_zero, Nat.add_zero, Nat.zero_add, Nat.add_sub_cancel]
  rw [and_w]
  refine jx (pc' := 9) (L' := [_, _, _]) (st' := [_, _]) 3 rfl ?_
  refine jgf (pc' := 12) (I.ob (r := 32) c1) rfl rfl rfl rfl rfl ?_
  refine jx (pc' := 16) (L' := [_, _, _]) (st' := [_, _]) 4 rfl ?_
  try simp (disch := omega) only [nI_add, nI_mul, nI_sub, Nat.zero_mul, Nat.one_mul, Nat.sub_zero, Nat.add_zero, Nat.zero_add, Nat.add_sub_cancel]
  rw [and_nw]
  refine jpA (pc' := 19) (r := 32) I c1 rfl rfl rfl (Nat.le_of_ble_eq_true rfl) (by intro z; cases z) rfl rfl rfl fun _ I c1 => ?_
  refine jx (pc' := 20) (L' := [_, _, _]) (st' := [_]) 1 rfl ?_
  refine jri rfl rfl ?_
  exact q _ _ I ⟨C.own c9.1 hb c9.2.2.1, G.1, fun r hr => va_up_ne _ _ (by omega)⟩
theorem v_trap (I : Inv h S) (C : Cls S σ) (G : Rm S n m e) (q : ∀ h' S', Inv h' S' → Pst S S' (σ.1, σ.2.1, σ.2.2.1, wd a % 32, σ.2.2.2.2) n m e → Q (.inl none) h') : ix_M 21 [.ref 32, .int a] h Q := by
  have c1 := C.1
  have c9 := C.2.2.2.2.2.2.2.2
  refine jx (pc' := 5) (L' := [_, _]) (st' := [_, _]) 4 rfl ?_
  try simp (disch := omega) only [kb31, nI_add, nI_mul, nI_sub, Nat.zero_mul, Nat.one_mul, Nat.sub_zero, Nat.add_zero, Nat.zero_add, Nat.add_sub_cancel]
  rw [show nI 31 = nI (2 ^ 5 - 1) from rfl, mskl]
  refine jpA (pc' := 8) (r := 32) I c1 rfl rfl rfl (Nat.le_of_ble_eq_true rfl) (by intro z; cases z) rfl rfl rfl fun _ I c1 => ?_
  refine ix_qr _ rfl rfl rfl ?_
  exact q _ _ I ⟨C.own c9.1 c9.2.1 (show wd a % 2 ^ 5 < 32 from Nat.mod_lt _ (by decide)), G.1, fun r hr => va_up_ne _ _ (by omega)⟩
theorem v_type (I : Inv h S) (C : Cls S σ) (G : Rm S n m e) (hx : zr x) (q0 : ¬ (0 ≤ x ∧ x ≤ 127 ∧ σ.2.2.2.2.2.1 < 120) → Q (.inl (some (.int (bI false)))) h) (q1 : (0 ≤ x ∧ x ≤ 127 ∧ σ.2.2.2.2.2.1 < 120) → ∀ h' S', Inv h' S' → Pst S S' (σ.1, σ.2.1, σ.2.2.1, σ.2.2.2.1, va_up σ.2.2.2.2.1 σ.2.2.2.2.2.1 x.toNat, σ.2.2.2.2.2.1 + 1, σ.2.2.2.2.2.2) n m e → Q (.inl (some (.int (bI true)))) h') : ix_M 25 [.ref 32, .int (zI x)] h Q := by
  have c1 := C.1
  have c9 := C.2.2.2.2.2.2.2.2
  obtain ⟨⟨so, ng, ex, pl, RC⟩, ⟨n6, DG⟩, TX⟩ := C.2.2.2.2.2.1
  refine jx (pc' := 1) (L' := [_, _]) (st' := [_]) 1 rfl ?_
  refine jgf (pc' := 4) (I.ob (r := 32) c1) rfl rfl rfl rfl rfl ?_
  refine jx (pc' := 5) (L' := [_, _]) (st' := [_, _]) 1 rfl ?_
  refine jcv (pc' := 8) 145 [_] [] (I.ob (r := 65) RC) rfl rfl rfl rfl rfl rfl rfl rfl ?_
  refine v_append I RC TX c9.2.2.2.1 hx (fun hc h' I => jk ?_) (fun hc => jk ?_)
  · refine jrb rfl rfl ?_
    have g : ag [65, 66, 68] S (va_up (va_up S 68 (aC (txC (va_up σ.2.2.2.2.1 σ.2.2.2.2.2.1 x.toNat)))) 65 (aC (trC so ng ex (σ.2.2.2.2.2.1 + 1) pl))) := ((ag_0 _ S).up (by decide)).up (by decide)
    refine q1 hc _ _ I ⟨C.rd g ⟨_, _, _, _, rfl⟩ ⟨n6, DG⟩ rfl (by omega) (fun j hj => ?_), G.1, ag98 g (by decide)⟩
    by_cases ej : j = σ.2.2.2.2.2.1
    · rw [ej, va_up_self]; omega
    · rw [va_up_ne _ _ ej]; exact c9.2.2.2.2.1 j (by omega)
  · refine jrb rfl rfl ?_
    exact q0 hc
theorem v_output (I : Inv h S) (C : Cls S σ) (hx : zr x) (q0 : ¬ (0 ≤ x ∧ x < σ.2.2.2.2.2.2.length) → Q (.inl (some (.int (zI (-1))))) h) (q1 : (0 ≤ x ∧ x < σ.2.2.2.2.2.2.length) → Q (.inl (some (.int (nI (σ.2.2.2.2.2.2.getD x.toNat 0))))) h) : ix_M 26 [.ref 32, .int (zI x)] h Q := by
  have c1 := C.1
  have c9 := C.2.2.2.2.2.2.2.2
  have hx1 := hx.1
  have hx2 := hx.2
  obtain ⟨w1, o, w2, w3⟩ := C.2.2.2.2.2.2.1
  have WI := I.ia (r := 70) w2
  have t0 : ¬ (0 ≤ x ∧ x < σ.2.2.2.2.2.2.length) → ix_E 26 27 [some (.ref 32), some (.int (zI x))] [] h Q := by
    intro hc
    refine jx (pc' := 28) (L' := [_, _]) (st' := [_]) 1 rfl ?_
    refine jri rfl rfl ?_
    exact q0 hc
  refine jx (pc' := 1) (L' := [_, _]) (st' := [_]) 1 rfl ?_
  by_cases h0 : x < 0
  · skip
    refine jit (pc' := 27) rfl rfl rfl (by rw [zz_lt ⟨by omega, by omega⟩]; exact decide_eq_true (by omega)) ?_
    exact t0 (by omega)
  · skip
    refine jin (pc' := 4) 27 rfl rfl rfl rfl (by rw [zz_lt ⟨by omega, by omega⟩]; exact decide_eq_false (by omega)) ?_
    refine jx (pc' := 6) (L' := [_, _]) (st' := [_, _]) 2 rfl ?_
    refine jgf (pc' := 9) (I.ob (r := 32) c1) rfl rfl rfl rfl rfl ?_
    refine jgf (pc' := 12) (I.ob (r := 69) w1) rfl rfl rfl rfl rfl ?_
    rw [nz σ.2.2.2.2.2.2.length]
    by_cases hl : x < σ.2.2.2.2.2.2.length
    · skip
      refine jcn (pc' := 15) 27 rfl rfl rfl rfl (by rw [zc_ge ⟨by omega, by omega⟩ ⟨by omega, by omega⟩]; exact decide_eq_false (by omega)) ?_
      rw [(zn hx (by omega)).1]
      refine jx (pc' := 16) (L' := [_, _]) (st' := [_]) 1 rfl ?_
      refine jgf (pc' := 19) (I.ob (r := 32) c1) rfl rfl rfl rfl rfl ?_
      refine jgf (pc' := 22) (I.ob (r := 69) w1) rfl rfl rfl rfl rfl ?_
      refine jx (pc' := 23) (L' := [_, _]) (st' := [_, _]) 1 rfl ?_
      refine jcl (pc' := 24) WI rfl rfl (by omega) rfl ?_
      rw [w3 _ (by omega)]
      refine jx (pc' := 28) (L' := [_, _]) (st' := [_]) 1 rfl ?_
      refine jri rfl rfl ?_
      exact q1 ⟨by omega, hl⟩
    · skip
      refine jct (pc' := 27) rfl rfl rfl (by rw [zc_ge ⟨by omega, by omega⟩ ⟨by omega, by omega⟩]; exact decide_eq_true (by omega)) ?_
      exact t0 (fun zz => hl zz.2)
/-- kinds -/
noncomputable def kdS (d : Dm) : Nat := if d.2.1 = 1 then 3 else if d.2.2.2.2 = 0 then 0 else if d.2.2.2.1 + dgs d.2.2.2.2 ≤ 1 - fE d.1 then 1 else 2
noncomputable def kdR (d : Dm) : Nat := if 2 ≤ d.2.1 then (if d.2.1 = 2 then 0 else 1) else if d.2.2.1 then 5 - kdS d else 6 + kdS d
theorem kdS_b (d : Dm) : kdS d ≤ 3 := by
  unfold kdS
  split
  · omega
  · split
    · omega
    · split <;> omega
theorem v_kind (I : Inv h S) (C : Cls S σ) (hx : zr x) (q0 : ¬ (0 ≤ x ∧ x ≤ 8) → Q (.inl (some (.int (zI (-1))))) h) (q1 : (0 ≤ x ∧ x ≤ 8) → Q (.inl (some (.int (nI (kdR (σ.1 x.toNat)))))) h) : ix_M 22 [.ref 32, .int (zI x)] h Q := by
  have c1 := C.1
  obtain ⟨f33, c2, c2f⟩ := C.2.1
  refine jx (pc' := 1) (L' := [_, _, _, _]) (st' := [_]) 1 rfl ?_
  refine jcs (pc' := 4) 16 [_] [] rfl rfl rfl rfl rfl rfl rfl rfl ?_
  refine c_isRegister hx (jk ?_)
  by_cases hc0 : (0 ≤ x ∧ x ≤ 8)
  · have q1 := q1 hc0
    refine jit (pc' := 9) rfl rfl rfl (by rw [bz_ne, decide_eq_true hc0]) ?_
    have X := C.get (i := x.toNat) (by omega)
    rw [(zn hx (by omega)).1]
    refine jx (pc' := 10) (L' := [_, _, _, _]) (st' := [_]) 1 rfl ?_
    refine jgf (pc' := 13) (I.ob (r := 32) c1) rfl rfl rfl rfl rfl ?_
    refine jx (pc' := 14) (L' := [_, _, _, _]) (st' := [_, _]) 1 rfl ?_
    refine jaa (pc' := 15) (r := 33) (z := 71 + 3 * x.toNat) I c2 rfl rfl (by omega) (c2f _ (by omega)) rfl ?_
    generalize σ.1 x.toNat = D at *
    have vX := X.2.2.2
    have bX := vX.b
    unfold kdR at q1
    have hks := kdS_b D
    have t71 : ∀ k : Nat, k = kdS D → ¬ 2 ≤ D.2.1 → ∀ l3, ix_E 22 71 [some (.ref 32), some (.int (nI x.toNat)), some (.ref (71 + 3 * x.toNat)), l3] [.int (nI k)] h Q := by
      intro k hk hn l3
      rw [if_neg hn, ← hk] at q1
      refine jx (pc' := 73) (L' := [_, _, _, _]) (st' := [_]) 2 rfl ?_
      refine jgf (pc' := 76) (I.ob (r := (71+3*x.toNat)) X.2.1) rfl rfl rfl rfl rfl ?_
      cases hng : D.2.2.1 with
      | true =>
        rw [hng] at q1
        refine jin (pc' := 79) 85 rfl rfl rfl rfl (rfl) ?_
        refine jx (pc' := 89) (L' := [_, _, _, _]) (st' := [_]) 4 rfl ?_
        try simp (disch := omega) only [ki5, nI_add, nI_mul, nI_sub, Nat.zero_mul, Nat.one_mul, Nat.sub_zero, Nat.add_zero, Nat.zero_add, Nat.add_sub_cancel]
        refine jri rfl rfl ?_
        exact q1
      | false =>
        rw [hng] at q1
        refine jit (pc' := 85) rfl rfl rfl (rfl) ?_
        refine jx (pc' := 89) (L' := [_, _, _, _]) (st' := [_]) 3 rfl ?_
        try simp (disch := omega) only [kb6, nI_add, nI_mul, nI_sub, Nat.zero_mul, Nat.one_mul, Nat.sub_zero, Nat.add_zero, Nat.zero_add, Nat.add_sub_cancel]
        refine jri rfl rfl ?_
        exact q1
    refine jx (pc' := 17) (L' := [_, _, _, _]) (st' := [_]) 2 rfl ?_
    refine jcv (pc' := 20) 79 [] [] (I.ob (r := (71+3*x.toNat)) X.2.1) rfl rfl rfl rfl rfl rfl rfl rfl ?_
    refine v_isNaN I X.2.1 vX.2.1 (jk ?_)
    by_cases e1 : 2 ≤ D.2.1
    · rw [if_pos e1] at q1
      have hs := vX.2.1
      refine jin (pc' := 23) 37 rfl rfl rfl rfl (by rw [bz_eq]; simp [e1]) ?_
      refine jx (pc' := 24) (L' := [_, _, _, _]) (st' := [_]) 1 rfl ?_
      refine jgf (pc' := 27) (I.ob (r := (71+3*x.toNat)) X.2.1) rfl rfl rfl rfl rfl ?_
      refine jx (pc' := 28) (L' := [_, _, _, _]) (st' := [.int (nI 2), _]) 1 rfl ?_
      by_cases e2 : D.2.1 = 2
      · rw [if_pos e2] at q1
        refine jcn (pc' := 31) 35 rfl rfl rfl rfl (by rw [cc_ne (by omega) (by omega)]; exact decide_eq_false (by omega)) ?_
        refine jx (pc' := 36) (L' := [_, _, _, _]) (st' := [.int (nI 0)]) 2 rfl ?_
        refine jri rfl rfl ?_
        exact q1
      · rw [if_neg e2] at q1
        refine jct (pc' := 35) rfl rfl rfl (by rw [cc_ne (by omega) (by omega)]; exact decide_eq_true (by omega)) ?_
        refine jx (pc' := 36) (L' := [_, _, _, _]) (st' := [.int (nI 1)]) 1 rfl ?_
        refine jri rfl rfl ?_
        exact q1
    · skip
      refine jit (pc' := 37) rfl rfl rfl (by rw [bz_eq]; simp [e1]) ?_
      refine jx (pc' := 38) (L' := [_, _, _, _]) (st' := [_]) 1 rfl ?_
      refine jcv (pc' := 41) 78 [] [] (I.ob (r := (71+3*x.toNat)) X.2.1) rfl rfl rfl rfl rfl rfl rfl rfl ?_
      refine v_isInfinite I X.2.1 vX.2.1 (jk ?_)
      by_cases e2 : D.2.1 = 1
      · skip
        refine jin (pc' := 44) 48 rfl rfl rfl rfl (by rw [bz_eq]; simp [e2]) ?_
        refine jx (pc' := 71) (L' := [_, _, _, _]) (st' := [.int (nI 3)]) 2 rfl ?_
        exact t71 3 (by unfold kdS; rw [if_pos e2]) e1 _
      · skip
        refine jit (pc' := 48) rfl rfl rfl (by rw [bz_eq]; simp [e2]) ?_
        refine jx (pc' := 49) (L' := [_, _, _, _]) (st' := [_]) 1 rfl ?_
        refine jcv (pc' := 52) 80 [] [] (I.ob (r := (71+3*x.toNat)) X.2.1) rfl rfl rfl rfl rfl rfl rfl rfl ?_
        refine v_isZero I X.2.1 X.2.2.1 vX.2.1 (jk ?_)
        by_cases e3 : D.2.2.2.2 = 0
        · skip
          refine jin (pc' := 55) 59 rfl rfl rfl rfl (by rw [bz_eq]; simp [e3, show D.2.1 = 0 by omega]) ?_
          refine jx (pc' := 71) (L' := [_, _, _, _]) (st' := [.int (nI 0)]) 2 rfl ?_
          exact t71 0 (by unfold kdS; rw [if_neg e2, if_pos e3]) e1 _
        · skip
          refine jit (pc' := 59) rfl rfl rfl (by rw [bz_eq]; simp [e3]) ?_
          refine jx (pc' := 60) (L' := [_, _, _, _]) (st' := [_]) 1 rfl ?_
          refine jcv (pc' := 63) 81 [] [] (I.ob (r := (71+3*x.toNat)) X.2.1) rfl rfl rfl rfl rfl rfl rfl rfl ?_
          refine v_isTiny I X.2.1 X.2.2.1 vX.1 vX.2.1 ⟨by omega, by omega⟩ (jk ?_)
          by_cases e4 : D.2.2.2.1 + dgs D.2.2.2.2 ≤ 1 - fE D.1
          · skip
            refine jin (pc' := 66) 70 rfl rfl rfl rfl (by rw [bz_eq]; simp [e4]) ?_
            refine jx (pc' := 71) (L' := [_, _, _, _]) (st' := [.int (nI 1)]) 2 rfl ?_
            exact t71 1 (by unfold kdS; rw [if_neg e2, if_neg e3, if_pos e4]) e1 _
          · skip
            refine jit (pc' := 70) rfl rfl rfl (by rw [bz_eq]; simp only [Bool.not_eq_true', decide_eq_false_iff_not]; exact e4) ?_
            refine jx (pc' := 71) (L' := [_, _, _, _]) (st' := [.int (nI 2)]) 1 rfl ?_
            exact t71 2 (by unfold kdS; rw [if_neg e2, if_neg e3, if_neg e4]) e1 _
  · skip
    refine jin (pc' := 7) 9 rfl rfl rfl rfl (by rw [bz_ne, decide_eq_false hc0]) ?_
    refine jx (pc' := 8) (L' := [_, _, _, _]) (st' := [_]) 1 rfl ?_
    refine jri rfl rfl ?_
    exact q0 hc0
end TOP
