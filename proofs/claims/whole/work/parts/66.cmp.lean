/-! ===== registers; Comparison ===== -/
def Val (fa sa : Nat) (ea : Int) (ca : Nat) : Prop := fa < 3 ∧ sa < 4 ∧ (-(fB fa : Int) ≤ ea ∧ ea ≤ gE fa) ∧ ca < 10 ^ fD fa ∧ (sa = 0 ∨ ea = 0) ∧ (sa = 1 → ca = 0) ∧ (2 ≤ sa → ca < 10 ^ (fD fa - 1))
def Reg (S : Nat → AC) (a fa sa : Nat) (na : Bool) (ea : Int) (ca : Nat) : Prop := 71 ≤ a ∧ S a = aC (dC a fa sa na ea) ∧ S (a + 1) = aN ca ∧ Val fa sa ea ca
section REG
variable {S T : Nat → AC} {a fa sa ca k : Nat} {na : Bool} {ea : Int}
theorem Val.b (v : Val fa sa ea ca) : -6176 ≤ ea ∧ ea ≤ 6111 := by
  obtain ⟨f1, f2, f3, f4, f5, f6, f7⟩ := f3b v.1
  obtain ⟨g1, g2⟩ := gEb v.1
  have := v.2.2.1
  omega
theorem Val.z (v : Val fa sa ea ca) : zr ea := by
  have := v.b
  exact ⟨by omega, by omega⟩
theorem Val.c (v : Val fa sa ea ca) : ca < 10 ^ 34 := Nat.lt_of_lt_of_le v.2.2.2.1 (pl (f3b v.1).2.1)
theorem Val.d (v : Val fa sa ea ca) : dgs ca ≤ fD fa ∧ fD fa ≤ 34 := ⟨dgs_le v.2.2.2.1, (f3b v.1).2.1⟩
theorem Reg.up {x : AC} (A : Reg S a fa sa na ea ca) (hk : k < 71) : Reg (va_up S k x) a fa sa na ea ca := by
  obtain ⟨h1, h2, h3, v⟩ := A
  exact ⟨h1, by rw [va_up_ne _ _ (by omega)]; exact h2, by rw [va_up_ne _ _ (by omega)]; exact h3, v⟩
theorem Reg.ag {l : List Nat} (A : Reg S a fa sa na ea ca) (g : ag l S T) (hl : ∀ r, r ∈ l → r < 71) : Reg T a fa sa na ea ca := by
  obtain ⟨h1, h2, h3, v⟩ := A
  exact ⟨h1, g.at _ (fun z => by have := hl _ z; omega) h2, g.at _ (fun z => by have := hl _ z; omega) h3, v⟩
end REG
def cmpI (x y : Int) : Int := if x < y then -1 else if x = y then 0 else 1
theorem cmpI_b (x y : Int) : -1 ≤ cmpI x y ∧ cmpI x y ≤ 1 := by
  unfold cmpI
  split
  · omega
  · split <;> omega
noncomputable def szs (sa : Nat) (ea : Int) (ca sb : Nat) (eb : Int) (cb : Nat) : Int :=
  if sa = 1 ∨ sb = 1 then cmpI sa sb else
  if ca = 0 ∨ cb = 0 then cmpI (if ca = 0 then 0 else 1) (if cb = 0 then 0 else 1) else
  if ¬ ea + dgs ca = eb + dgs cb then (if ea + dgs ca < eb + dgs cb then -1 else 1) else
  cmpI (ca * 10 ^ (ea - eb).toNat : Nat) (cb * 10 ^ (eb - ea).toNat : Nat)
theorem szs_b (sa : Nat) (ea : Int) (ca sb : Nat) (eb : Int) (cb : Nat) : -1 ≤ szs sa ea ca sb eb cb ∧ szs sa ea ca sb eb cb ≤ 1 := by
  unfold szs
  split
  · exact cmpI_b _ _
  · split
    · exact cmpI_b _ _
    · split
      · split <;> omega
      · exact cmpI_b _ _
theorem bc_eq (a b : Bool) : ix_cc .eq (bI a) (bI b) = decide (a = b) := by cases a <;> cases b <;> rfl
theorem bc_ne (a b : Bool) : ix_cc .ne (bI a) (bI b) = decide (¬ a = b) := by cases a <;> cases b <;> rfl
section CMP
variable {h : ix_H} {Q : ix_O → ix_H → Prop} {S : Nat → AC} {a fa sa ca b fb' sb cb k w x y : Nat} {na nb' : Bool} {ea eb : Int}
theorem v_cmpI {x y : Int} (hx : zr x) (hy : zr y) (q : Q (.inl (some (.int (zI (cmpI x y))))) h) : ix_M 271 [.int (zI x), .int (zI y)] h Q := by
  unfold cmpI at q
  refine c_cmpI hx hy (fun z => ?_) (fun z => ?_) (fun z => ?_)
  · rw [if_pos z] at q; exact q
  · rw [if_neg (by omega), if_pos z] at q; exact q
  · rw [if_neg (by omega), if_neg (by omega)] at q; exact q
theorem v_cmp (I : Inv h S) (A : S a = aN x) (B : S b = aN y) (q : Q (.inl (some (.int (zI (cmpI x y))))) h) : ix_M 59 [.ref a, .ref b] h Q := by
  unfold cmpI at q
  refine v_against I A B (fun z => ?_) (fun z => ?_) (fun z => ?_)
  · rw [if_pos (by omega)] at q; exact q
  · rw [if_neg (by omega), if_pos (by omega)] at q; exact q
  · rw [if_neg (by omega), if_neg (by omega)] at q; exact q
/-- Comparison.sizes -/
theorem v_sizes (I : Inv h S) (K : S k = aC (cO 6 [.ref (k + 1)])) (W : S (k + 1) = aN w) (hk : k < 70) (A : Reg S a fa sa na ea ca) (B : Reg S b fb' sb nb' eb cb) (h1 : sa < 2) (h2 : sb < 2) (q : ∀ h' w', Inv h' (va_up S (k + 1) (aN w')) → Q (.inl (some (.int (zI (szs sa ea ca sb eb cb))))) h') : ix_M 108 [.ref k, .ref a, .ref b] h Q := by
  obtain ⟨a1, a2, a3, va⟩ := A
  obtain ⟨b1, b2, b3, vb⟩ := B
  have ab := va.b
  have bb := vb.b
  have ad := va.d
  have bd := vb.d
  have q0 : Q (.inl (some (.int (zI (szs sa ea ca sb eb cb))))) h := q h w (by rw [va_up_id W]; exact I)
  have inf : sa = 1 ∨ sb = 1 → ∀ l l', ix_E 108 14 [some (.ref k), some (.ref a), some (.ref b), l, l'] [] h Q := by
    intro hi l l'
    unfold szs at q0
    rw [if_pos hi] at q0
    refine jx (pc' := 15) (L' := [_, _, _, _, _]) (st' := [_]) 1 rfl ?_
    refine jgf (pc' := 18) (I.ob (r := a) a2) rfl rfl rfl rfl rfl ?_
    refine jx (pc' := 19) (L' := [_, _, _, _, _]) (st' := [_, _]) 1 rfl ?_
    refine jgf (pc' := 22) (I.ob (r := b) b2) rfl rfl rfl rfl rfl ?_
    rw [nz sa, nz sb]
    refine jcs (pc' := 25) 271 [_, _] [] rfl rfl rfl rfl rfl rfl rfl rfl ?_
    refine v_cmpI ⟨by omega, by omega⟩ ⟨by omega, by omega⟩ (jk ?_)
    refine jri rfl rfl ?_
    exact q0
  have zer : ¬ (sa = 1 ∨ sb = 1) → ca = 0 ∨ cb = 0 → ∀ l l', ix_E 108 40 [some (.ref k), some (.ref a), some (.ref b), l, l'] [] h Q := by
    intro hi hz l l'
    unfold szs at q0
    rw [if_neg hi, if_pos hz] at q0
    have t : ∀ z : Int, z = (if ca = 0 then 0 else 1) → ix_E 108 52 [some (.ref k), some (.ref a), some (.ref b), l, l'] [.int (zI z)] h Q := by
      intro z hz
      rw [← hz] at q0
      have hzb : 0 ≤ z ∧ z ≤ 1 := by rw [hz]; split <;> omega
      refine jx (pc' := 53) (L' := [_, _, _, _, _]) (st' := [_, _]) 1 rfl ?_
      refine jcv (pc' := 56) 80 [] [_] (I.ob (r := b) b2) rfl rfl rfl rfl rfl rfl rfl rfl ?_
      refine v_isZero I b2 b3 (by omega) (jk ?_)
      by_cases hb0 : cb = 0
      · skip
        refine jin (pc' := 59) 63 rfl rfl rfl rfl (by simp [hb0, show sb = 0 by omega, bz_eq]) ?_
        refine jx (pc' := 64) (L' := [_, _, _, _, _]) (st' := [.int (zI 0), _]) 2 rfl ?_
        refine jcs (pc' := 67) 271 [_, .int (zI 0)] [] rfl rfl rfl rfl rfl rfl rfl rfl ?_
        refine v_cmpI ⟨by omega, by omega⟩ ⟨by omega, by omega⟩ (jk ?_)
        refine jri rfl rfl ?_
        rw [if_pos hb0] at q0
        exact q0
      · skip
        refine jit (pc' := 63) rfl rfl rfl (by simp [hb0, bz_eq]) ?_
        refine jx (pc' := 64) (L' := [_, _, _, _, _]) (st' := [.int (zI 1), _]) 1 rfl ?_
        refine jcs (pc' := 67) 271 [_, .int (zI 1)] [] rfl rfl rfl rfl rfl rfl rfl rfl ?_
        refine v_cmpI ⟨by omega, by omega⟩ ⟨by omega, by omega⟩ (jk ?_)
        refine jri rfl rfl ?_
        rw [if_neg hb0] at q0
        exact q0
    refine jx (pc' := 41) (L' := [_, _, _, _, _]) (st' := [_]) 1 rfl ?_
    refine jcv (pc' := 44) 80 [] [] (I.ob (r := a) a2) rfl rfl rfl rfl rfl rfl rfl rfl ?_
    refine v_isZero I a2 a3 (by omega) (jk ?_)
    by_cases ha0 : ca = 0
    · skip
      refine jin (pc' := 47) 51 rfl rfl rfl rfl (by simp [ha0, show sa = 0 by omega, bz_eq]) ?_
      refine jx (pc' := 52) (L' := [_, _, _, _, _]) (st' := [.int (zI 0)]) 2 rfl ?_
      exact t 0 (by rw [if_pos ha0])
    · skip
      refine jit (pc' := 51) rfl rfl rfl (by simp [ha0, bz_eq]) ?_
      refine jx (pc' := 52) (L' := [_, _, _, _, _]) (st' := [.int (zI 1)]) 1 rfl ?_
      exact t 1 (by rw [if_neg ha0])
  have fin : ¬ (sa = 1 ∨ sb = 1) → ¬ (ca = 0 ∨ cb = 0) → ∀ l l', ix_E 108 68 [some (.ref k), some (.ref a), some (.ref b), l, l'] [] h Q := by
    intro hi hz l l'
    unfold szs at q q0
    rw [if_neg hi, if_neg hz] at q0
    simp only [if_neg hi, if_neg hz] at q
    refine jx (pc' := 69) (L' := [_, _, _, _, _]) (st' := [_]) 1 rfl ?_
    refine jgf (pc' := 72) (I.ob (r := a) a2) rfl rfl rfl rfl rfl ?_
    refine jx (pc' := 73) (L' := [_, _, _, _, _]) (st' := [_, _]) 1 rfl ?_
    refine jgf (pc' := 76) (I.ob (r := a) a2) rfl rfl rfl rfl rfl ?_
    refine jcv (pc' := 79) 52 [] [_] (I.no (r := (a+1)) a3) rfl rfl rfl rfl rfl rfl rfl rfl ?_
    refine v_digits I a3 fun _ => jk ?_
    rw [nz (dgs _)]
    refine jx (pc' := 82) (L' := [_, _, _, _, _]) (st' := [_]) 3 rfl ?_
    try simp (disch := omega) only [kz, kzl0, kzl1, kzb, kzs, zI_add, zI_sub, zI_neg, zI_mul, zL_i, zI_l, zL_add, zL_sub, zL_neg]
    refine jgf (pc' := 85) (I.ob (r := b) b2) rfl rfl rfl rfl rfl ?_
    refine jx (pc' := 86) (L' := [_, _, _, _, _]) (st' := [_, _]) 1 rfl ?_
    refine jgf (pc' := 89) (I.ob (r := b) b2) rfl rfl rfl rfl rfl ?_
    refine jcv (pc' := 92) 52 [] [_] (I.no (r := (b+1)) b3) rfl rfl rfl rfl rfl rfl rfl rfl ?_
    refine v_digits I b3 fun _ => jk ?_
    rw [nz (dgs _)]
    refine jx (pc' := 98) (L' := [_, _, _, _, _]) (st' := [_, _]) 4 rfl ?_
    try simp (disch := omega) only [kz, kzl0, kzl1, kzb, kzs, zI_add, zI_sub, zI_neg, zI_mul, zL_i, zI_l, zL_add, zL_sub, zL_neg]
    by_cases ht : ea + dgs ca = eb + dgs cb
    · have nh : ¬ ¬ ea + dgs ca = eb + dgs cb := fun z => z ht
      rw [if_neg nh] at q0
      simp only [if_neg nh] at q
      refine jct (pc' := 113) rfl rfl rfl (by rw [zc_eq ⟨by omega, by omega⟩ ⟨by omega, by omega⟩]; exact decide_eq_true (by omega)) ?_
      refine jx (pc' := 114) (L' := [_, _, _, _, _]) (st' := [_]) 1 rfl ?_
      refine jgf (pc' := 117) (I.ob (r := a) a2) rfl rfl rfl rfl rfl ?_
      refine jx (pc' := 118) (L' := [_, _, _, _, _]) (st' := [_, _]) 1 rfl ?_
      refine jgf (pc' := 121) (I.ob (r := b) b2) rfl rfl rfl rfl rfl ?_
      by_cases he : eb ≤ ea
      · have e0 : (eb - ea).toNat = 0 := by omega
        rw [e0, Nat.pow_zero, Nat.mul_one] at q
        refine jcn (pc' := 124) 163 rfl rfl rfl rfl (by rw [zc_lt ⟨by omega, by omega⟩ ⟨by omega, by omega⟩]; exact decide_eq_false (by omega)) ?_
        refine jx (pc' := 125) (L' := [_, _, _, _, _]) (st' := [_]) 1 rfl ?_
        refine jgf (pc' := 128) (I.ob (r := k) K) rfl rfl rfl rfl rfl ?_
        refine jx (pc' := 129) (L' := [_, _, _, _, _]) (st' := [_, _]) 1 rfl ?_
        refine jgf (pc' := 132) (I.ob (r := a) a2) rfl rfl rfl rfl rfl ?_
        refine jcv (pc' := 135) 48 [_] [] (I.no (r := (k+1)) W) rfl rfl rfl rfl rfl rfl rfl rfl ?_
        refine v_copy I W a3 fun _ I => jk ?_
        have K1 : ∀ v : AC, va_up S (k + 1) v k = aC (cO 6 [.ref (k + 1)]) := fun v => by rw [va_up_ne _ _ (by omega)]; exact K
        have A1 : ∀ v : AC, va_up S (k + 1) v a = aC (dC a fa sa na ea) := fun v => by rw [va_up_ne _ _ (by omega)]; exact a2
        have B1 : ∀ v : AC, va_up S (k + 1) v b = aC (dC b fb' sb nb' eb) := fun v => by rw [va_up_ne _ _ (by omega)]; exact b2
        have B2 : ∀ v : AC, va_up S (k + 1) v (b + 1) = aN cb := fun v => by rw [va_up_ne _ _ (by omega)]; exact b3
        refine jx (pc' := 136) (L' := [_, _, _, _, _]) (st' := [_]) 1 rfl ?_
        refine jgf (pc' := 139) (I.ob (r := k) (K1 _)) rfl rfl rfl rfl rfl ?_
        refine jx (pc' := 140) (L' := [_, _, _, _, _]) (st' := [_, _]) 1 rfl ?_
        refine jgf (pc' := 143) (I.ob (r := a) (A1 _)) rfl rfl rfl rfl rfl ?_
        refine jx (pc' := 144) (L' := [_, _, _, _, _]) (st' := [_, _, _]) 1 rfl ?_
        refine jgf (pc' := 147) (I.ob (r := b) (B1 _)) rfl rfl rfl rfl rfl ?_
        refine jx (pc' := 148) (L' := [_, _, _, _, _]) (st' := [_, _]) 1 rfl ?_
        try simp (disch := omega) only [kz, kzl0, kzl1, kzb, kzs, zI_add, zI_sub, zI_neg, zI_mul, zL_i, zI_l, zL_add, zL_sub, zL_neg]
        refine jcv (pc' := 151) 56 [_] [] (I.no (r := (k+1)) (va_up_self _ _ _)) rfl rfl rfl rfl rfl rfl rfl rfl ?_
        refine v_shiftUp I (va_up_self _ _ _) ⟨by omega, by omega⟩ (Nat.lt_of_lt_of_le (dgs_sh _ _) (pl (by omega))) fun _ I => jk ?_
        rw [va_up_up] at I
        refine jx (pc' := 152) (L' := [_, _, _, _, _]) (st' := [_]) 1 rfl ?_
        refine jgf (pc' := 155) (I.ob (r := k) (K1 _)) rfl rfl rfl rfl rfl ?_
        refine jx (pc' := 156) (L' := [_, _, _, _, _]) (st' := [_, _]) 1 rfl ?_
        refine jgf (pc' := 159) (I.ob (r := b) (B1 _)) rfl rfl rfl rfl rfl ?_
        refine jcv (pc' := 162) 59 [_] [] (I.no (r := (k+1)) (va_up_self _ _ _)) rfl rfl rfl rfl rfl rfl rfl rfl ?_
        refine v_cmp I (va_up_self _ _ _) (B2 _) (jk ?_)
        refine jri rfl rfl ?_
        exact q _ _ I
      · have e0 : (ea - eb).toNat = 0 := by omega
        rw [e0, Nat.pow_zero, Nat.mul_one] at q
        refine jct (pc' := 163) rfl rfl rfl (by rw [zc_lt ⟨by omega, by omega⟩ ⟨by omega, by omega⟩]; exact decide_eq_true (by omega)) ?_
        refine jx (pc' := 164) (L' := [_, _, _, _, _]) (st' := [_]) 1 rfl ?_
        refine jgf (pc' := 167) (I.ob (r := k) K) rfl rfl rfl rfl rfl ?_
        refine jx (pc' := 168) (L' := [_, _, _, _, _]) (st' := [_, _]) 1 rfl ?_
        refine jgf (pc' := 171) (I.ob (r := b) b2) rfl rfl rfl rfl rfl ?_
        refine jcv (pc' := 174) 48 [_] [] (I.no (r := (k+1)) W) rfl rfl rfl rfl rfl rfl rfl rfl ?_
        refine v_copy I W b3 fun _ I => jk ?_
        have K1 : ∀ v : AC, va_up S (k + 1) v k = aC (cO 6 [.ref (k + 1)]) := fun v => by rw [va_up_ne _ _ (by omega)]; exact K
        have A1 : ∀ v : AC, va_up S (k + 1) v a = aC (dC a fa sa na ea) := fun v => by rw [va_up_ne _ _ (by omega)]; exact a2
        have B1 : ∀ v : AC, va_up S (k + 1) v b = aC (dC b fb' sb nb' eb) := fun v => by rw [va_up_ne _ _ (by omega)]; exact b2
        have A2 : ∀ v : AC, va_up S (k + 1) v (a + 1) = aN ca := fun v => by rw [va_up_ne _ _ (by omega)]; exact a3
        refine jx (pc' := 175) (L' := [_, _, _, _, _]) (st' := [_]) 1 rfl ?_
        refine jgf (pc' := 178) (I.ob (r := k) (K1 _)) rfl rfl rfl rfl rfl ?_
        refine jx (pc' := 179) (L' := [_, _, _, _, _]) (st' := [_, _]) 1 rfl ?_
        refine jgf (pc' := 182) (I.ob (r := b) (B1 _)) rfl rfl rfl rfl rfl ?_
        refine jx (pc' := 183) (L' := [_, _, _, _, _]) (st' := [_, _, _]) 1 rfl ?_
        refine jgf (pc' := 186) (I.ob (r := a) (A1 _)) rfl rfl rfl rfl rfl ?_
        refine jx (pc' := 187) (L' := [_, _, _, _, _]) (st' := [_, _]) 1 rfl ?_
        try simp (disch := omega) only [kz, kzl0, kzl1, kzb, kzs, zI_add, zI_sub, zI_neg, zI_mul, zL_i, zI_l, zL_add, zL_sub, zL_neg]
        refine jcv (pc' := 190) 56 [_] [] (I.no (r := (k+1)) (va_up_self _ _ _)) rfl rfl rfl rfl rfl rfl rfl rfl ?_
        refine v_shiftUp I (va_up_self _ _ _) ⟨by omega, by omega⟩ (Nat.lt_of_lt_of_le (dgs_sh _ _) (pl (by omega))) fun _ I => jk ?_
        rw [va_up_up] at I
        refine jx (pc' := 191) (L' := [_, _, _, _, _]) (st' := [_]) 1 rfl ?_
        refine jgf (pc' := 194) (I.ob (r := a) (A1 _)) rfl rfl rfl rfl rfl ?_
        refine jx (pc' := 195) (L' := [_, _, _, _, _]) (st' := [_, _]) 1 rfl ?_
        refine jgf (pc' := 198) (I.ob (r := k) (K1 _)) rfl rfl rfl rfl rfl ?_
        refine jcv (pc' := 201) 59 [_] [] (I.no (r := (a+1)) (A2 _)) rfl rfl rfl rfl rfl rfl rfl rfl ?_
        refine v_cmp I (A2 _) (va_up_self _ _ _) (jk ?_)
        refine jri rfl rfl ?_
        exact q _ _ I
    · rw [if_pos ht] at q0
      refine jcn (pc' := 101) 113 rfl rfl rfl rfl (by rw [zc_eq ⟨by omega, by omega⟩ ⟨by omega, by omega⟩]; exact decide_eq_false (by omega)) ?_
      refine jx (pc' := 104) (L' := [_, _, _, _, _]) (st' := [_, _]) 2 rfl ?_
      by_cases hl : ea + dgs ca < eb + dgs cb
      · rw [if_pos hl] at q0
        refine jcn (pc' := 107) 111 rfl rfl rfl rfl (by rw [zc_ge ⟨by omega, by omega⟩ ⟨by omega, by omega⟩]; exact decide_eq_false (by omega)) ?_
        refine jx (pc' := 112) (L' := [_, _, _, _, _]) (st' := [.int (zI (-1))]) 2 rfl ?_
        refine jri rfl rfl ?_
        exact q0
      · rw [if_neg hl] at q0
        refine jct (pc' := 111) rfl rfl rfl (by rw [zc_ge ⟨by omega, by omega⟩ ⟨by omega, by omega⟩]; exact decide_eq_true (by omega)) ?_
        refine jx (pc' := 112) (L' := [_, _, _, _, _]) (st' := [.int (zI 1)]) 1 rfl ?_
        refine jri rfl rfl ?_
        exact q0
  refine jx (pc' := 1) (L' := [_, _, _, _, _]) (st' := [_]) 1 rfl ?_
  refine jcv (pc' := 4) 78 [] [] (I.ob (r := a) a2) rfl rfl rfl rfl rfl rfl rfl rfl ?_
  refine v_isInfinite I a2 (by omega) (jk ?_)
  by_cases hi1 : sa = 1
  · skip
    refine jit (pc' := 14) rfl rfl rfl (by simp [hi1, bz_ne]) ?_
    exact inf (Or.inl hi1) _ _
  · skip
    refine jin (pc' := 7) 14 rfl rfl rfl rfl (by simp [hi1, bz_ne]) ?_
    refine jx (pc' := 8) (L' := [_, _, _, _, _]) (st' := [_]) 1 rfl ?_
    refine jcv (pc' := 11) 78 [] [] (I.ob (r := b) b2) rfl rfl rfl rfl rfl rfl rfl rfl ?_
    refine v_isInfinite I b2 (by omega) (jk ?_)
    by_cases hi2 : sb = 1
    · skip
      refine jin (pc' := 14) 26 rfl rfl rfl rfl (by simp [hi2, bz_eq]) ?_
      exact inf (Or.inr hi2) _ _
    · have hi : ¬ (sa = 1 ∨ sb = 1) := fun z => z.elim hi1 hi2
      refine jit (pc' := 26) rfl rfl rfl (by simp [hi2, bz_eq]) ?_
      refine jx (pc' := 27) (L' := [_, _, _, _, _]) (st' := [_]) 1 rfl ?_
      refine jcv (pc' := 30) 80 [] [] (I.ob (r := a) a2) rfl rfl rfl rfl rfl rfl rfl rfl ?_
      refine v_isZero I a2 a3 (by omega) (jk ?_)
      by_cases ha0 : ca = 0
      · skip
        refine jit (pc' := 40) rfl rfl rfl (by simp [ha0, show sa = 0 by omega, bz_ne]) ?_
        exact zer hi (Or.inl ha0) _ _
      · skip
        refine jin (pc' := 33) 40 rfl rfl rfl rfl (by simp [ha0, bz_ne]) ?_
        refine jx (pc' := 34) (L' := [_, _, _, _, _]) (st' := [_]) 1 rfl ?_
        refine jcv (pc' := 37) 80 [] [] (I.ob (r := b) b2) rfl rfl rfl rfl rfl rfl rfl rfl ?_
        refine v_isZero I b2 b3 (by omega) (jk ?_)
        by_cases hb0 : cb = 0
        · skip
          refine jin (pc' := 40) 68 rfl rfl rfl rfl (by simp [hb0, show sb = 0 by omega, bz_eq]) ?_
          exact zer hi (Or.inr hb0) _ _
        · skip
          refine jit (pc' := 68) rfl rfl rfl (by simp [hb0, bz_eq]) ?_
          exact fin hi (fun z => z.elim ha0 hb0) _ _
/-- the order of values -/
noncomputable def vls (sa : Nat) (na : Bool) (ea : Int) (ca sb : Nat) (nb' : Bool) (eb : Int) (cb : Nat) : Int :=
  if (sa = 0 ∧ ca = 0) ∧ (sb = 0 ∧ cb = 0) then 0 else
  if ¬ na = nb' then (if na then -1 else 1) else
  if na then -(szs sa ea ca sb eb cb) else szs sa ea ca sb eb cb
/-- Comparison.values -/
theorem v_values (I : Inv h S) (K : S k = aC (cO 6 [.ref (k + 1)])) (W : S (k + 1) = aN w) (hk : k < 70) (A : Reg S a fa sa na ea ca) (B : Reg S b fb' sb nb' eb cb) (h1 : sa < 2) (h2 : sb < 2) (q : ∀ h' w', Inv h' (va_up S (k + 1) (aN w')) → Q (.inl (some (.int (zI (vls sa na ea ca sb nb' eb cb))))) h') : ix_M 109 [.ref k, .ref a, .ref b] h Q := by
  have A0 := A
  have B0 := B
  obtain ⟨a1, a2, a3, va⟩ := A
  obtain ⟨b1, b2, b3, vb⟩ := B
  have q0 : Q (.inl (some (.int (zI (vls sa na ea ca sb nb' eb cb))))) h := q h w (by rw [va_up_id W]; exact I)
  have t : ¬ ((sa = 0 ∧ ca = 0) ∧ (sb = 0 ∧ cb = 0)) → ∀ l, ix_E 109 16 [some (.ref k), some (.ref a), some (.ref b), l] [] h Q := by
    intro hz l
    unfold vls at q q0
    rw [if_neg hz] at q0
    simp only [if_neg hz] at q
    refine jx (pc' := 17) (L' := [_, _, _, _]) (st' := [_]) 1 rfl ?_
    refine jgf (pc' := 20) (I.ob (r := a) a2) rfl rfl rfl rfl rfl ?_
    refine jx (pc' := 21) (L' := [_, _, _, _]) (st' := [_, _]) 1 rfl ?_
    refine jgf (pc' := 24) (I.ob (r := b) b2) rfl rfl rfl rfl rfl ?_
    by_cases hn : na = nb'
    · have nh : ¬ ¬ na = nb' := fun z => z hn
      rw [if_neg nh] at q0
      simp only [if_neg nh] at q
      refine jct (pc' := 40) rfl rfl rfl (by rw [bc_eq]; exact decide_eq_true hn) ?_
      refine jx (pc' := 43) (L' := [_, _, _, _]) (st' := [_, _, _]) 3 rfl ?_
      refine jcv (pc' := 46) 108 [_, _] [] (I.ob (r := k) K) rfl rfl rfl rfl rfl rfl rfl rfl ?_
      refine v_sizes I K W hk A0 B0 h1 h2 fun _ w' I => jk ?_
      have hb := szs_b sa ea ca sb eb cb
      have A1 : ∀ v : AC, va_up S (k + 1) v a = aC (dC a fa sa na ea) := fun v => by rw [va_up_ne _ _ (by omega)]; exact a2
      refine jx (pc' := 48) (L' := [_, _, _, _]) (st' := [_]) 2 rfl ?_
      refine jgf (pc' := 51) (I.ob (r := a) (A1 _)) rfl rfl rfl rfl rfl ?_
      cases na with
      | true =>
        refine jin (pc' := 54) 59 rfl rfl rfl rfl (rfl) ?_
        refine jx (pc' := 60) (L' := [_, _, _, _]) (st' := [_]) 3 rfl ?_
        try simp (disch := omega) only [kz, kzl0, kzl1, kzb, kzs, zI_add, zI_sub, zI_neg, zI_mul, zL_i, zI_l, zL_add, zL_sub, zL_neg]
        refine jri rfl rfl ?_
        exact q _ _ I
      | false =>
        refine jit (pc' := 59) rfl rfl rfl (rfl) ?_
        refine jx (pc' := 60) (L' := [_, _, _, _]) (st' := [_]) 1 rfl ?_
        refine jri rfl rfl ?_
        exact q _ _ I
    · rw [if_pos hn] at q0
      refine jcn (pc' := 27) 40 rfl rfl rfl rfl (by rw [bc_eq]; exact decide_eq_false hn) ?_
      refine jx (pc' := 28) (L' := [_, _, _, _]) (st' := [_]) 1 rfl ?_
      refine jgf (pc' := 31) (I.ob (r := a) a2) rfl rfl rfl rfl rfl ?_
      cases na with
      | true =>
        refine jin (pc' := 34) 38 rfl rfl rfl rfl (rfl) ?_
        refine jx (pc' := 39) (L' := [_, _, _, _]) (st' := [.int (zI (-1))]) 2 rfl ?_
        refine jri rfl rfl ?_
        exact q0
      | false =>
        refine jit (pc' := 38) rfl rfl rfl (rfl) ?_
        refine jx (pc' := 39) (L' := [_, _, _, _]) (st' := [.int (zI 1)]) 1 rfl ?_
        refine jri rfl rfl ?_
        exact q0
  refine jx (pc' := 1) (L' := [_, _, _, _]) (st' := [_]) 1 rfl ?_
  refine jcv (pc' := 4) 80 [] [] (I.ob (r := a) a2) rfl rfl rfl rfl rfl rfl rfl rfl ?_
  refine v_isZero I a2 a3 (by omega) (jk ?_)
  by_cases ha0 : sa = 0 ∧ ca = 0
  · skip
    refine jin (pc' := 7) 16 rfl rfl rfl rfl (by simp [ha0, bz_eq]) ?_
    refine jx (pc' := 8) (L' := [_, _, _, _]) (st' := [_]) 1 rfl ?_
    refine jcv (pc' := 11) 80 [] [] (I.ob (r := b) b2) rfl rfl rfl rfl rfl rfl rfl rfl ?_
    refine v_isZero I b2 b3 (by omega) (jk ?_)
    by_cases hb0 : sb = 0 ∧ cb = 0
    · skip
      refine jin (pc' := 14) 16 rfl rfl rfl rfl (by simp [hb0, bz_eq]) ?_
      refine jx (pc' := 15) (L' := [_, _, _, _]) (st' := [.int (zI 0)]) 1 rfl ?_
      refine jri rfl rfl ?_
      unfold vls at q0
      rw [if_pos ⟨ha0, hb0⟩] at q0
      exact q0
    · skip
      refine jit (pc' := 16) rfl rfl rfl (by rw [bz_eq]; simp; omega) ?_
      exact t (fun z => hb0 z.2) _
  · skip
    refine jit (pc' := 16) rfl rfl rfl (by rw [bz_eq]; simp; omega) ?_
    exact t (fun z => ha0 z.1) _
end CMP
