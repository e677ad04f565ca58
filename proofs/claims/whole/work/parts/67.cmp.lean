/-! ===== Comparison: inOrder ===== -/
noncomputable def fzo (sa : Nat) (ea : Int) (ca sb : Nat) (eb : Int) (cb : Nat) : Int :=
  if ¬ sa = sb then (if sa < sb then -1 else 1) else
  if 2 ≤ sa then cmpI ca cb else
  if ¬ szs sa ea ca sb eb cb = 0 then szs sa ea ca sb eb cb else cmpI ea eb
noncomputable def ino (sa : Nat) (na : Bool) (ea : Int) (ca sb : Nat) (nb' : Bool) (eb : Int) (cb : Nat) : Bool :=
  if ¬ na = nb' then na else if na then decide (0 ≤ fzo sa ea ca sb eb cb) else decide (fzo sa ea ca sb eb cb ≤ 0)
theorem fzo_b (sa : Nat) (ea : Int) (ca sb : Nat) (eb : Int) (cb : Nat) : -1 ≤ fzo sa ea ca sb eb cb ∧ fzo sa ea ca sb eb cb ≤ 1 := by
  have := szs_b sa ea ca sb eb cb
  unfold fzo
  split
  · split <;> omega
  · split
    · exact cmpI_b _ _
    · split
      · exact this
      · exact cmpI_b _ _
section CMP
variable {h : ix_H} {Q : ix_O → ix_H → Prop} {S : Nat → AC} {a fa sa ca b fb' sb cb k w x y : Nat} {na nb' : Bool} {ea eb : Int}
theorem v_fzo (I : Inv h S) (K : S k = aC (cO 6 [.ref (k + 1)])) (W : S (k + 1) = aN w) (hk : k < 70) (A : Reg S a fa sa na ea ca) (B : Reg S b fb' sb nb' eb cb) (q : ∀ h' w', Inv h' (va_up S (k + 1) (aN w')) → Q (.inl (some (.int (zI (fzo sa ea ca sb eb cb))))) h') : ix_M 111 [.ref k, .ref a, .ref b] h Q := by
  have A0 := A
  have B0 := B
  obtain ⟨a1, a2, a3, va⟩ := A
  obtain ⟨b1, b2, b3, vb⟩ := B
  have hsa := va.2.1
  have hsb := vb.2.1
  have q0 : Q (.inl (some (.int (zI (fzo sa ea ca sb eb cb))))) h := q h w (by rw [va_up_id W]; exact I)
  unfold fzo at q q0
  refine jx (pc' := 1) (L' := [_, _, _, _]) (st' := [_]) 1 rfl ?_
  refine jgf (pc' := 4) (I.ob (r := a) a2) rfl rfl rfl rfl rfl ?_
  refine jx (pc' := 5) (L' := [_, _, _, _]) (st' := [_, _]) 1 rfl ?_
  refine jgf (pc' := 8) (I.ob (r := b) b2) rfl rfl rfl rfl rfl ?_
  rw [nz sa, nz sb]
  by_cases hs : sa = sb
  · have nh : ¬ ¬ sa = sb := fun z => z hs
    rw [if_neg nh] at q0
    simp only [if_neg nh] at q
    refine jct (pc' := 28) rfl rfl rfl (by rw [zc_eq ⟨by omega, by omega⟩ ⟨by omega, by omega⟩]; exact decide_eq_true (by omega)) ?_
    refine jx (pc' := 29) (L' := [_, _, _, _]) (st' := [_]) 1 rfl ?_
    refine jcv (pc' := 32) 79 [] [] (I.ob (r := a) a2) rfl rfl rfl rfl rfl rfl rfl rfl ?_
    refine v_isNaN I a2 hsa (jk ?_)
    by_cases hn : 2 ≤ sa
    · rw [if_pos hn] at q0
      refine jin (pc' := 35) 47 rfl rfl rfl rfl (by simp [hn, bz_eq]) ?_
      refine jx (pc' := 36) (L' := [_, _, _, _]) (st' := [_]) 1 rfl ?_
      refine jgf (pc' := 39) (I.ob (r := a) a2) rfl rfl rfl rfl rfl ?_
      refine jx (pc' := 40) (L' := [_, _, _, _]) (st' := [_, _]) 1 rfl ?_
      refine jgf (pc' := 43) (I.ob (r := b) b2) rfl rfl rfl rfl rfl ?_
      refine jcv (pc' := 46) 59 [_] [] (I.no (r := (a+1)) a3) rfl rfl rfl rfl rfl rfl rfl rfl ?_
      refine v_cmp I a3 b3 (jk ?_)
      refine jri rfl rfl ?_
      exact q0
    · simp only [if_neg hn] at q
      refine jit (pc' := 47) rfl rfl rfl (by simp [hn, bz_eq]) ?_
      refine jx (pc' := 50) (L' := [_, _, _, _]) (st' := [_, _, _]) 3 rfl ?_
      refine jcv (pc' := 53) 108 [_, _] [] (I.ob (r := k) K) rfl rfl rfl rfl rfl rfl rfl rfl ?_
      refine v_sizes I K W hk A0 B0 (by omega) (by omega) fun _ w' I => jk ?_
      have hb := szs_b sa ea ca sb eb cb
      have A1 : ∀ v : AC, va_up S (k + 1) v a = aC (dC a fa sa na ea) := fun v => by rw [va_up_ne _ _ (by omega)]; exact a2
      have B1 : ∀ v : AC, va_up S (k + 1) v b = aC (dC b fb' sb nb' eb) := fun v => by rw [va_up_ne _ _ (by omega)]; exact b2
      refine jx (pc' := 55) (L' := [_, _, _, _]) (st' := [_]) 2 rfl ?_
      by_cases hz : szs sa ea ca sb eb cb = 0
      · have nz' : ¬ ¬ szs sa ea ca sb eb cb = 0 := fun z => z hz
        simp only [if_neg nz'] at q
        refine jit (pc' := 62) rfl rfl rfl (by rw [zz_eq ⟨by omega, by omega⟩]; exact decide_eq_true (by omega)) ?_
        refine jx (pc' := 63) (L' := [_, _, _, _]) (st' := [_]) 1 rfl ?_
        refine jgf (pc' := 66) (I.ob (r := a) (A1 _)) rfl rfl rfl rfl rfl ?_
        refine jx (pc' := 67) (L' := [_, _, _, _]) (st' := [_, _]) 1 rfl ?_
        refine jgf (pc' := 70) (I.ob (r := b) (B1 _)) rfl rfl rfl rfl rfl ?_
        refine jcs (pc' := 73) 271 [_, _] [] rfl rfl rfl rfl rfl rfl rfl rfl ?_
        refine v_cmpI va.z vb.z (jk ?_)
        refine jri rfl rfl ?_
        exact q _ _ I
      · simp only [if_pos hz] at q
        refine jin (pc' := 58) 62 rfl rfl rfl rfl (by rw [zz_eq ⟨by omega, by omega⟩]; exact decide_eq_false (by omega)) ?_
        refine jx (pc' := 73) (L' := [_, _, _, _]) (st' := [_]) 2 rfl ?_
        refine jri rfl rfl ?_
        exact q _ _ I
  · rw [if_pos hs] at q0
    refine jcn (pc' := 11) 28 rfl rfl rfl rfl (by rw [zc_eq ⟨by omega, by omega⟩ ⟨by omega, by omega⟩]; exact decide_eq_false (by omega)) ?_
    refine jx (pc' := 12) (L' := [_, _, _, _]) (st' := [_]) 1 rfl ?_
    refine jgf (pc' := 15) (I.ob (r := a) a2) rfl rfl rfl rfl rfl ?_
    refine jx (pc' := 16) (L' := [_, _, _, _]) (st' := [_, _]) 1 rfl ?_
    refine jgf (pc' := 19) (I.ob (r := b) b2) rfl rfl rfl rfl rfl ?_
    rw [nz sa, nz sb]
    by_cases hl : sa < sb
    · rw [if_pos hl] at q0
      refine jcn (pc' := 22) 26 rfl rfl rfl rfl (by rw [zc_ge ⟨by omega, by omega⟩ ⟨by omega, by omega⟩]; exact decide_eq_false (by omega)) ?_
      refine jx (pc' := 27) (L' := [_, _, _, _]) (st' := [.int (zI (-1))]) 2 rfl ?_
      refine jri rfl rfl ?_
      exact q0
    · rw [if_neg hl] at q0
      refine jct (pc' := 26) rfl rfl rfl (by rw [zc_ge ⟨by omega, by omega⟩ ⟨by omega, by omega⟩]; exact decide_eq_true (by omega)) ?_
      refine jx (pc' := 27) (L' := [_, _, _, _]) (st' := [.int (zI 1)]) 1 rfl ?_
      refine jri rfl rfl ?_
      exact q0
theorem v_inOrder (I : Inv h S) (K : S k = aC (cO 6 [.ref (k + 1)])) (W : S (k + 1) = aN w) (hk : k < 70) (A : Reg S a fa sa na ea ca) (B : Reg S b fb' sb nb' eb cb) (q : ∀ h' w', Inv h' (va_up S (k + 1) (aN w')) → Q (.inl (some (.int (bI (ino sa na ea ca sb nb' eb cb))))) h') : ix_M 110 [.ref k, .ref a, .ref b] h Q := by
  have A0 := A
  have B0 := B
  obtain ⟨a1, a2, a3, va⟩ := A
  obtain ⟨b1, b2, b3, vb⟩ := B
  have q0 : Q (.inl (some (.int (bI (ino sa na ea ca sb nb' eb cb))))) h := q h w (by rw [va_up_id W]; exact I)
  have hb := fzo_b sa ea ca sb eb cb
  unfold ino at q q0
  refine jx (pc' := 1) (L' := [_, _, _, _]) (st' := [_]) 1 rfl ?_
  refine jgf (pc' := 4) (I.ob (r := a) a2) rfl rfl rfl rfl rfl ?_
  refine jx (pc' := 5) (L' := [_, _, _, _]) (st' := [_, _]) 1 rfl ?_
  refine jgf (pc' := 8) (I.ob (r := b) b2) rfl rfl rfl rfl rfl ?_
  by_cases hn : na = nb'
  · have nh : ¬ ¬ na = nb' := fun z => z hn
    simp only [if_neg nh] at q
    refine jct (pc' := 16) rfl rfl rfl (by rw [bc_eq]; exact decide_eq_true hn) ?_
    refine jx (pc' := 19) (L' := [_, _, _, _]) (st' := [_, _, _]) 3 rfl ?_
    refine jcv (pc' := 22) 111 [_, _] [] (I.ob (r := k) K) rfl rfl rfl rfl rfl rfl rfl rfl ?_
    refine v_fzo I K W hk A0 B0 fun _ w' I => jk ?_
    have A1 : ∀ v : AC, va_up S (k + 1) v a = aC (dC a fa sa na ea) := fun v => by rw [va_up_ne _ _ (by omega)]; exact a2
    refine jx (pc' := 24) (L' := [_, _, _, _]) (st' := [_]) 2 rfl ?_
    refine jgf (pc' := 27) (I.ob (r := a) (A1 _)) rfl rfl rfl rfl rfl ?_
    cases na with
    | true =>
      refine jin (pc' := 30) 42 rfl rfl rfl rfl (rfl) ?_
      refine jx (pc' := 31) (L' := [_, _, _, _]) (st' := [_]) 1 rfl ?_
      by_cases hz : 0 ≤ fzo sa ea ca sb eb cb
      · skip
        refine jin (pc' := 34) 38 rfl rfl rfl rfl (by rw [zz_lt ⟨by omega, by omega⟩]; exact decide_eq_false (by omega)) ?_
        refine jx (pc' := 51) (L' := [_, _, _, _]) (st' := [.int (zI 1)]) 2 rfl ?_
        refine ix_qr _ rfl rfl rfl ?_
        simp only [decide_eq_true hz] at q
        exact q _ _ I
      · skip
        refine jit (pc' := 38) rfl rfl rfl (by rw [zz_lt ⟨by omega, by omega⟩]; exact decide_eq_true (by omega)) ?_
        refine jx (pc' := 51) (L' := [_, _, _, _]) (st' := [.int (zI 0)]) 2 rfl ?_
        refine ix_qr _ rfl rfl rfl ?_
        simp only [decide_eq_false hz] at q
        exact q _ _ I
    | false =>
      refine jit (pc' := 42) rfl rfl rfl (rfl) ?_
      refine jx (pc' := 43) (L' := [_, _, _, _]) (st' := [_]) 1 rfl ?_
      by_cases hz : fzo sa ea ca sb eb cb ≤ 0
      · skip
        refine jin (pc' := 46) 50 rfl rfl rfl rfl (by rw [zz_gt ⟨by omega, by omega⟩]; exact decide_eq_false (by omega)) ?_
        refine jx (pc' := 51) (L' := [_, _, _, _]) (st' := [.int (zI 1)]) 2 rfl ?_
        refine ix_qr _ rfl rfl rfl ?_
        simp only [decide_eq_true hz] at q
        exact q _ _ I
      · skip
        refine jit (pc' := 50) rfl rfl rfl (by rw [zz_gt ⟨by omega, by omega⟩]; exact decide_eq_true (by omega)) ?_
        refine jx (pc' := 51) (L' := [_, _, _, _]) (st' := [.int (zI 0)]) 1 rfl ?_
        refine ix_qr _ rfl rfl rfl ?_
        simp only [decide_eq_false hz] at q
        exact q _ _ I
  · rw [if_pos hn] at q0
    refine jcn (pc' := 11) 16 rfl rfl rfl rfl (by rw [bc_eq]; exact decide_eq_false hn) ?_
    refine jx (pc' := 12) (L' := [_, _, _, _]) (st' := [_]) 1 rfl ?_
    refine jgf (pc' := 15) (I.ob (r := a) a2) rfl rfl rfl rfl rfl ?_
    refine jrb rfl rfl ?_
    exact q0
end CMP
