/-! ===== the law: what each call does on both sides (printed by genops.py) ===== -/
theorem vpu (f : Nat → Int64) (x : Int64) : vp_updL f 0 x 0 = x := by simp [vp_updL]
section LAW
variable {σ : Stt}
theorem o_bits (g : Gd σ) (a b : Int32) : ∃ σ' v, Od σ σ' (some (.int v)) 15 [.ref 32, .int a, .int b] 180 [.ref 98, .int a, .int b] := by
  obtain ⟨x, rfl, hx⟩ := zw a
  obtain ⟨y, rfl, hy⟩ := zw b
  by_cases c : (0 ≤ x ∧ x ≤ 8) ∧ 0 ≤ y ∧ y < fN (σ.1 x.toNat).1
  · exact ⟨σ, _, fun h S n m e Q I C G q => v_bits I C G hx hy (fun z => absurd c z) (fun _ h' S' I' P => q _ _ _ _ I' (P.ct (by omega) (by omega)) (P.2.2 111 (by decide))), fun h S0 cd Q ⟨wr, tx, ou, K, r⟩ q => m_bits K g.1 hx hy (fun z => absurd c z) (fun _ h' K => q _ ⟨wr, tx, ou, K, r⟩)⟩
  · exact ⟨σ, nI 0, fun h S n m e Q I C G q => v_bits I C G hx hy (fun _ => q _ _ _ _ I (CT.id C G) rfl) (fun z => absurd z c), fun h S0 cd Q ⟨wr, tx, ou, K, r⟩ q => m_bits K g.1 hx hy (fun _ h' K => q _ ⟨wr, tx, ou, K, r⟩) (fun z => absurd z c)⟩
theorem o_format (g : Gd σ) (a : Int32) : ∃ σ' v, Od σ σ' (some (.int v)) 17 [.ref 32, .int a] 186 [.ref 98, .int a] := by
  obtain ⟨x, rfl, hx⟩ := zw a
  by_cases c : 0 ≤ x ∧ x ≤ 8
  · exact ⟨σ, zI ((σ.1 x.toNat).1 : Nat), fun h S n m e Q I C G q => v_format I C hx (fun z => absurd c z) (fun _ => by rw [nz]; exact q _ _ _ _ I (CT.id C G) rfl), fun h S0 cd Q ⟨wr, tx, ou, K, r⟩ q => m_format K hx (fun z => absurd c z) (fun _ h' K => q _ ⟨wr, tx, ou, K, r⟩)⟩
  · exact ⟨σ, _, fun h S n m e Q I C G q => v_format I C hx (fun _ => q _ _ _ _ I (CT.id C G) rfl) (fun z => absurd z c), fun h S0 cd Q ⟨wr, tx, ou, K, r⟩ q => m_format K hx (fun _ h' K => q _ ⟨wr, tx, ou, K, r⟩) (fun z => absurd z c)⟩
theorem o_direct (g : Gd σ) (a : Int32) : ∃ σ' v, Od σ σ' (some (.int v)) 18 [.ref 32, .int a] 187 [.ref 98, .int a] := by
  obtain ⟨x, rfl, hx⟩ := zw a
  by_cases c : 0 ≤ x ∧ x ≤ 4
  · exact ⟨_, _, fun h S n m e Q I C G q => v_direct I C G hx (fun z => absurd c z) (fun _ h' S' I' P => q _ _ _ _ I' (P.ct (by omega) (by omega)) (P.2.2 111 (by decide))), fun h S0 cd Q ⟨wr, tx, ou, K, r⟩ q => m_direct K hx (fun z => absurd c z) (fun _ h' K => q _ ⟨wr, tx, ou, K, r⟩)⟩
  · exact ⟨σ, _, fun h S n m e Q I C G q => v_direct I C G hx (fun _ => q _ _ _ _ I (CT.id C G) rfl) (fun z => absurd z c), fun h S0 cd Q ⟨wr, tx, ou, K, r⟩ q => m_direct K hx (fun _ h' K => q _ ⟨wr, tx, ou, K, r⟩) (fun z => absurd z c)⟩
theorem o_flags (g : Gd σ) : ∃ σ' v, Od σ σ' (some (.int v)) 19 [.ref 32] 188 [.ref 98] :=
  ⟨σ, zI (σ.2.2.1 : Int), fun h S n m e Q I C G q => v_flags I C (by rw [nz]; exact q _ _ _ _ I (CT.id C G) rfl), fun h S0 cd Q ⟨wr, tx, ou, K, r⟩ q => m_flags K (fun h' K => q _ ⟨wr, tx, ou, K, r⟩)⟩
theorem o_lower (g : Gd σ) (a : Int32) : ∃ σ' v, Od σ σ' (some (.int v)) 20 [.ref 32, .int a] 189 [.ref 98, .int a] :=
  ⟨(σ.1, σ.2.1, lwr σ.2.2.1 a, σ.2.2.2), zI ((σ.2.2.1 &&& wd a : Nat) : Int), fun h S n m e Q I C G q => v_lower I C G (fun h' S' I' P => by rw [nz]; exact q _ _ _ _ I' (P.ct (by omega) (by omega)) (P.2.2 111 (by decide))), fun h S0 cd Q ⟨wr, tx, ou, K, r⟩ q => m_lower K (fun h' K => q _ ⟨wr, tx, ou, K, r⟩)⟩
theorem o_trap (g : Gd σ) (a : Int32) : ∃ σ', Od σ σ' none 21 [.ref 32, .int a] 190 [.ref 98, .int a] :=
  ⟨(σ.1, σ.2.1, σ.2.2.1, wd a % 32, σ.2.2.2.2), fun h S n m e Q I C G q => v_trap I C G (fun h' S' I' P => q _ _ _ _ I' (P.ct (by omega) (by omega)) (P.2.2 111 (by decide))), fun h S0 cd Q ⟨wr, tx, ou, K, r⟩ q => m_trap K (fun h' K => q _ ⟨wr, tx, ou, K, r⟩)⟩
theorem o_kind (g : Gd σ) (a : Int32) : ∃ σ' v, Od σ σ' (some (.int v)) 22 [.ref 32, .int a] 256 [.ref 98, .int a] := by
  obtain ⟨x, rfl, hx⟩ := zw a
  by_cases c : 0 ≤ x ∧ x ≤ 8
  · exact ⟨σ, zI (kdR (σ.1 x.toNat) : Nat), fun h S n m e Q I C G q => v_kind I C hx (fun z => absurd c z) (fun _ => by rw [nz]; exact q _ _ _ _ I (CT.id C G) rfl), fun h S0 cd Q ⟨wr, tx, ou, K, r⟩ q => m_kind K g.1 hx (fun z => absurd c z) (fun _ h' K => q _ ⟨wr, tx, ou, K, r⟩)⟩
  · exact ⟨σ, _, fun h S n m e Q I C G q => v_kind I C hx (fun _ => q _ _ _ _ I (CT.id C G) rfl) (fun z => absurd z c), fun h S0 cd Q ⟨wr, tx, ou, K, r⟩ q => m_kind K g.1 hx (fun _ h' K => q _ ⟨wr, tx, ou, K, r⟩) (fun z => absurd z c)⟩
theorem o_alike (g : Gd σ) (a b : Int32) : ∃ σ' v, Od σ σ' (some (.int v)) 23 [.ref 32, .int a, .int b] 257 [.ref 98, .int a, .int b] := by
  obtain ⟨x, rfl, hx⟩ := zw a
  obtain ⟨y, rfl, hy⟩ := zw b
  by_cases c : cFmt σ x y
  · exact ⟨σ, _, fun h S n m e Q I C G q => v_alike I C hx hy (fun z => absurd c z) (fun _ => q _ _ _ _ I (CT.id C G) rfl), fun h S0 cd Q ⟨wr, tx, ou, K, r⟩ q => m_alike K g.1 hx hy (fun z => absurd c z) (fun _ h' K => q _ ⟨wr, tx, ou, K, r⟩)⟩
  · exact ⟨σ, _, fun h S n m e Q I C G q => v_alike I C hx hy (fun _ => q _ _ _ _ I (CT.id C G) rfl) (fun z => absurd z c), fun h S0 cd Q ⟨wr, tx, ou, K, r⟩ q => m_alike K g.1 hx hy (fun _ h' K => q _ ⟨wr, tx, ou, K, r⟩) (fun z => absurd z c)⟩
theorem o_type (g : Gd σ) (a : Int32) : ∃ σ' v, Od σ σ' (some (.int v)) 25 [.ref 32, .int a] 258 [.ref 98, .int a] := by
  obtain ⟨x, rfl, hx⟩ := zw a
  by_cases c : 0 ≤ x ∧ x ≤ 127 ∧ σ.2.2.2.2.2.1 < 120
  · refine ⟨_, _, fun h S n m e Q I C G q => v_type I C G hx (fun z => absurd c z) (fun _ h' S' I' P => q _ _ _ _ I' (P.ct (by omega) (by omega)) (P.2.2 111 (by decide))), fun h S0 cd Q ⟨wr, tx, ou, K, r⟩ q => m_type K g.2.2.2.2.1 hx (fun z => absurd c z) (fun _ h' K => q _ ⟨wr, _, ou, K, r.1, ?_⟩)⟩
    show va_up tx σ.2.2.2.2.2.1 x.toNat = va_up σ.2.2.2.2.1 σ.2.2.2.2.2.1 x.toNat
    rw [r.2]
  · exact ⟨σ, _, fun h S n m e Q I C G q => v_type I C G hx (fun _ => q _ _ _ _ I (CT.id C G) rfl) (fun z => absurd z c), fun h S0 cd Q ⟨wr, tx, ou, K, r⟩ q => m_type K g.2.2.2.2.1 hx (fun _ h' K => q _ ⟨wr, tx, ou, K, r⟩) (fun z => absurd z c)⟩
theorem o_output (g : Gd σ) (a : Int32) : ∃ σ' v, Od σ σ' (some (.int v)) 26 [.ref 32, .int a] 270 [.ref 98, .int a] := by
  obtain ⟨x, rfl, hx⟩ := zw a
  have gl := g.2.2.2.2.2.2
  by_cases c : 0 ≤ x ∧ x < σ.2.2.2.2.2.2.length
  · refine ⟨σ, zI (σ.2.2.2.2.2.2.getD x.toNat 0 : Nat), fun h S n m e Q I C G q => v_output I C hx (fun z => absurd c z) (fun _ => by rw [nz]; exact q _ _ _ _ I (CT.id C G) rfl), fun h S0 cd Q ⟨wr, tx, ou, K, r⟩ q => ?_⟩
    have e1 := r.1.1
    have e2 := r.1.2 x.toNat (by omega)
    exact m_output K (by omega) hx (fun z => absurd c (by omega)) (fun _ h' K => by rw [e2]; exact q _ ⟨wr, tx, ou, K, r⟩)
  · refine ⟨σ, _, fun h S n m e Q I C G q => v_output I C hx (fun _ => q _ _ _ _ I (CT.id C G) rfl) (fun z => absurd z c), fun h S0 cd Q ⟨wr, tx, ou, K, r⟩ q => ?_⟩
    have e1 := r.1.1
    exact m_output K (by omega) hx (fun _ h' K => q _ ⟨wr, tx, ou, K, r⟩) (fun z => absurd z (by omega))
theorem o_two (g : Gd σ) (w32 x32 y32 z32 : Int32) : ∃ oc σ' v, oc < 3 ∧ Op σ oc σ' v.toInt64 (.int v) 2 [.ref 32, .int w32, .int x32, .int y32, .int z32, .ref 111] 191 [.ref 98, .int w32, .int x32, .int y32, .int z32] := by
  obtain ⟨w, rfl, hw⟩ := zw w32
  obtain ⟨x, rfl, hx⟩ := zw x32
  obtain ⟨y, rfl, hy⟩ := zw y32
  obtain ⟨z, rfl, hz⟩ := zw z32
  by_cases c : cTwo σ w x y z
  · by_cases t : (rTwo σ w y z).2 &&& σ.2.2.2.1 = 0
    · refine ⟨0, dv2 σ x.toNat (rTwo σ w y z).1 (rTwo σ w y z).2, zI ((rTwo σ w y z).2 : Nat), by decide, fun h S n m e f Q I C G H q => ?_, fun h S0 cd Q ⟨wr, tx, ou, K, r⟩ q => ?_⟩
      · skip
        refine jx (pc' := 9) (L' := [_, _, _, _, _, _, _]) (st' := [_, _, _, _, _, .int (zI 0), _]) 7 rfl ?_
        refine jcv (pc' := 12) 30 [_, _, _, _] [.int (zI 0), _] (I.ob C.1) rfl rfl rfl rfl rfl rfl rfl rfl ?_
        refine v_two I C G hw hx hy hz (fun z => absurd c z) (fun _ _ h1 S1 I1 P => jk ?_) (fun _ z => absurd t z)
        have H1 := (P.2.2 111 (by decide)).trans H
        refine jx (pc' := 13) (L' := [_, _, _, _, _, _, _]) (st' := [_, .int (zI 0), _]) 1 rfl ?_
        try simp (disch := omega) only [kz, kzl0, kzl1, kzb, kzs, zI_add, zI_sub, zI_neg, zI_mul, zL_i, zI_l, zL_add, zL_sub, zL_neg]
        refine jaWL (pc' := 14) 0 I1 H1 rfl rfl rfl (by decide) rfl fun h2 I2 => ?_
        refine jx (pc' := 26) (L' := [_, _, _, _, _, _, _]) (st' := [.int (zI 0)]) 2 rfl ?_
        refine jri rfl rfl ?_
        exact q _ _ _ _ _ I2 (P.ct (by omega) (by omega)).up (va_up_self _ _ _) (fun _ => by rw [vpu, nz])
      · exact m_two K g.1 g.2.1 g.2.2.2.1 hw hx hy hz (fun z => absurd c z) (fun _ _ h' K => q _ ⟨wr, tx, ou, K, r⟩) (fun _ z => absurd t z)
    · refine ⟨2, dv1 σ (rTwo σ w y z).1 (rTwo σ w y z).2, zI 0, by decide, fun h S n m e f Q I C G H q => ?_, fun h S0 cd Q ⟨wr, tx, ou, K, r⟩ q => ?_⟩
      · skip
        refine jx (pc' := 9) (L' := [_, _, _, _, _, _, _]) (st' := [_, _, _, _, _, .int (zI 0), _]) 7 rfl ?_
        refine jcv (pc' := 12) 30 [_, _, _, _] [.int (zI 0), _] (I.ob C.1) rfl rfl rfl rfl rfl rfl rfl rfl ?_
        refine v_two I C G hw hx hy hz (fun z => absurd c z) (fun _ z => absurd z t) (fun _ _ h1 S1 I1 P => ?_)
        refine jkc (t := 21) rfl ?_
        refine jx (pc' := 24) (L' := [_, _, _, _, _, _, _]) (st' := [.int (zI 2)]) 2 rfl ?_
        try simp (disch := omega) only [kz, kzl0, kzl1, kzb, kzs, zI_add, zI_sub, zI_neg, zI_mul, zL_i, zI_l, zL_add, zL_sub, zL_neg]
        refine jri rfl rfl ?_
        exact q _ _ _ _ _ I1 (P.ct (by omega) (by omega)) ((P.2.2 111 (by decide)).trans H) (fun z => absurd z (by decide))
      · exact m_two K g.1 g.2.1 g.2.2.2.1 hw hx hy hz (fun z => absurd c z) (fun _ z => absurd z t) (fun _ _ h' K => q _ ⟨wr, tx, ou, K, r⟩)
  · refine ⟨1, σ, zI 0, by decide, fun h S n m e f Q I C G H q => ?_, fun h S0 cd Q ⟨wr, tx, ou, K, r⟩ q => ?_⟩
    · skip
      refine jx (pc' := 9) (L' := [_, _, _, _, _, _, _]) (st' := [_, _, _, _, _, .int (zI 0), _]) 7 rfl ?_
      refine jcv (pc' := 12) 30 [_, _, _, _] [.int (zI 0), _] (I.ob C.1) rfl rfl rfl rfl rfl rfl rfl rfl ?_
      refine v_two I C G hw hx hy hz (fun _ h1 S1 I1 P => ?_) (fun z => absurd z c) (fun z => absurd z c)
      refine jkc (t := 17) rfl ?_
      refine jx (pc' := 20) (L' := [_, _, _, _, _, _, _]) (st' := [.int (zI 1)]) 2 rfl ?_
      try simp (disch := omega) only [kz, kzl0, kzl1, kzb, kzs, zI_add, zI_sub, zI_neg, zI_mul, zL_i, zI_l, zL_add, zL_sub, zL_neg]
      refine jri rfl rfl ?_
      exact q _ _ _ _ _ I1 (P.ct (by omega) (by omega)) ((P.2.2 111 (by decide)).trans H) (fun z => absurd z (by decide))
    · exact m_two K g.1 g.2.1 g.2.2.2.1 hw hx hy hz (fun _ h' K => q _ ⟨wr, tx, ou, K, r⟩) (fun z => absurd z c) (fun z => absurd z c)
theorem o_fused (g : Gd σ) (x32 y32 z32 w32 : Int32) : ∃ oc σ' v, oc < 3 ∧ Op σ oc σ' v.toInt64 (.int v) 3 [.ref 32, .int x32, .int y32, .int z32, .int w32, .ref 111] 234 [.ref 98, .int x32, .int y32, .int z32, .int w32] := by
  obtain ⟨x, rfl, hx⟩ := zw x32
  obtain ⟨y, rfl, hy⟩ := zw y32
  obtain ⟨z, rfl, hz⟩ := zw z32
  obtain ⟨w, rfl, hw⟩ := zw w32
  by_cases c : cFused σ x y z w
  · by_cases t : (rFused σ x y z w).2 &&& σ.2.2.2.1 = 0
    · refine ⟨0, dv2 σ x.toNat (rFused σ x y z w).1 (rFused σ x y z w).2, zI ((rFused σ x y z w).2 : Nat), by decide, fun h S n m e f Q I C G H q => ?_, fun h S0 cd Q ⟨wr, tx, ou, K, r⟩ q => ?_⟩
      · skip
        refine jx (pc' := 9) (L' := [_, _, _, _, _, _, _]) (st' := [_, _, _, _, _, .int (zI 0), _]) 7 rfl ?_
        refine jcv (pc' := 12) 33 [_, _, _, _] [.int (zI 0), _] (I.ob C.1) rfl rfl rfl rfl rfl rfl rfl rfl ?_
        refine v_Fused I C G hx hy hz hw (fun z => absurd c z) (fun _ _ h1 S1 I1 P => jk ?_) (fun _ z => absurd t z)
        have H1 := (P.2.2 111 (by decide)).trans H
        refine jx (pc' := 13) (L' := [_, _, _, _, _, _, _]) (st' := [_, .int (zI 0), _]) 1 rfl ?_
        try simp (disch := omega) only [kz, kzl0, kzl1, kzb, kzs, zI_add, zI_sub, zI_neg, zI_mul, zL_i, zI_l, zL_add, zL_sub, zL_neg]
        refine jaWL (pc' := 14) 0 I1 H1 rfl rfl rfl (by decide) rfl fun h2 I2 => ?_
        refine jx (pc' := 26) (L' := [_, _, _, _, _, _, _]) (st' := [.int (zI 0)]) 2 rfl ?_
        refine jri rfl rfl ?_
        exact q _ _ _ _ _ I2 (P.ct (by omega) (by omega)).up (va_up_self _ _ _) (fun _ => by rw [vpu, nz])
      · exact m_fused K g.1 g.2.1 g.2.2.2.1 hw hx hy hz (fun z => absurd c z) (fun _ _ h' K => q _ ⟨wr, tx, ou, K, r⟩) (fun _ z => absurd t z)
    · refine ⟨2, dv1 σ (rFused σ x y z w).1 (rFused σ x y z w).2, zI 0, by decide, fun h S n m e f Q I C G H q => ?_, fun h S0 cd Q ⟨wr, tx, ou, K, r⟩ q => ?_⟩
      · skip
        refine jx (pc' := 9) (L' := [_, _, _, _, _, _, _]) (st' := [_, _, _, _, _, .int (zI 0), _]) 7 rfl ?_
        refine jcv (pc' := 12) 33 [_, _, _, _] [.int (zI 0), _] (I.ob C.1) rfl rfl rfl rfl rfl rfl rfl rfl ?_
        refine v_Fused I C G hx hy hz hw (fun z => absurd c z) (fun _ z => absurd z t) (fun _ _ h1 S1 I1 P => ?_)
        refine jkc (t := 21) rfl ?_
        refine jx (pc' := 24) (L' := [_, _, _, _, _, _, _]) (st' := [.int (zI 2)]) 2 rfl ?_
        try simp (disch := omega) only [kz, kzl0, kzl1, kzb, kzs, zI_add, zI_sub, zI_neg, zI_mul, zL_i, zI_l, zL_add, zL_sub, zL_neg]
        refine jri rfl rfl ?_
        exact q _ _ _ _ _ I1 (P.ct (by omega) (by omega)) ((P.2.2 111 (by decide)).trans H) (fun z => absurd z (by decide))
      · exact m_fused K g.1 g.2.1 g.2.2.2.1 hw hx hy hz (fun z => absurd c z) (fun _ z => absurd z t) (fun _ _ h' K => q _ ⟨wr, tx, ou, K, r⟩)
  · refine ⟨1, σ, zI 0, by decide, fun h S n m e f Q I C G H q => ?_, fun h S0 cd Q ⟨wr, tx, ou, K, r⟩ q => ?_⟩
    · skip
      refine jx (pc' := 9) (L' := [_, _, _, _, _, _, _]) (st' := [_, _, _, _, _, .int (zI 0), _]) 7 rfl ?_
      refine jcv (pc' := 12) 33 [_, _, _, _] [.int (zI 0), _] (I.ob C.1) rfl rfl rfl rfl rfl rfl rfl rfl ?_
      refine v_Fused I C G hx hy hz hw (fun _ h1 S1 I1 P => ?_) (fun z => absurd z c) (fun z => absurd z c)
      refine jkc (t := 17) rfl ?_
      refine jx (pc' := 20) (L' := [_, _, _, _, _, _, _]) (st' := [.int (zI 1)]) 2 rfl ?_
      try simp (disch := omega) only [kz, kzl0, kzl1, kzb, kzs, zI_add, zI_sub, zI_neg, zI_mul, zL_i, zI_l, zL_add, zL_sub, zL_neg]
      refine jri rfl rfl ?_
      exact q _ _ _ _ _ I1 (P.ct (by omega) (by omega)) ((P.2.2 111 (by decide)).trans H) (fun z => absurd z (by decide))
    · exact m_fused K g.1 g.2.1 g.2.2.2.1 hw hx hy hz (fun _ h' K => q _ ⟨wr, tx, ou, K, r⟩) (fun z => absurd z c) (fun z => absurd z c)
theorem o_one (g : Gd σ) (w32 x32 y32 : Int32) : ∃ oc σ' v, oc < 3 ∧ Op σ oc σ' v.toInt64 (.int v) 4 [.ref 32, .int w32, .int x32, .int y32, .ref 111] 236 [.ref 98, .int w32, .int x32, .int y32] := by
  obtain ⟨w, rfl, hw⟩ := zw w32
  obtain ⟨x, rfl, hx⟩ := zw x32
  obtain ⟨y, rfl, hy⟩ := zw y32
  by_cases c : cOne σ w x y
  · by_cases t : (rOne σ w x y).2 &&& σ.2.2.2.1 = 0
    · refine ⟨0, dv2 σ x.toNat (rOne σ w x y).1 (rOne σ w x y).2, zI ((rOne σ w x y).2 : Nat), by decide, fun h S n m e f Q I C G H q => ?_, fun h S0 cd Q ⟨wr, tx, ou, K, r⟩ q => ?_⟩
      · skip
        refine jx (pc' := 7) (L' := [_, _, _, _, _, _]) (st' := [_, _, _, _, .int (zI 0), _]) 6 rfl ?_
        refine jcv (pc' := 10) 34 [_, _, _] [.int (zI 0), _] (I.ob C.1) rfl rfl rfl rfl rfl rfl rfl rfl ?_
        refine v_One I C G hw hx hy (fun z => absurd c z) (fun _ _ h1 S1 I1 P => jk ?_) (fun _ z => absurd t z)
        have H1 := (P.2.2 111 (by decide)).trans H
        refine jx (pc' := 11) (L' := [_, _, _, _, _, _]) (st' := [_, .int (zI 0), _]) 1 rfl ?_
        try simp (disch := omega) only [kz, kzl0, kzl1, kzb, kzs, zI_add, zI_sub, zI_neg, zI_mul, zL_i, zI_l, zL_add, zL_sub, zL_neg]
        refine jaWL (pc' := 12) 0 I1 H1 rfl rfl rfl (by decide) rfl fun h2 I2 => ?_
        refine jx (pc' := 24) (L' := [_, _, _, _, _, _]) (st' := [.int (zI 0)]) 2 rfl ?_
        refine jri rfl rfl ?_
        exact q _ _ _ _ _ I2 (P.ct (by omega) (by omega)).up (va_up_self _ _ _) (fun _ => by rw [vpu, nz])
      · exact m_one K g.1 g.2.1 g.2.2.2.1 hw hx hy (fun z => absurd c z) (fun _ _ h' K => q _ ⟨wr, tx, ou, K, r⟩) (fun _ z => absurd t z)
    · refine ⟨2, dv1 σ (rOne σ w x y).1 (rOne σ w x y).2, zI 0, by decide, fun h S n m e f Q I C G H q => ?_, fun h S0 cd Q ⟨wr, tx, ou, K, r⟩ q => ?_⟩
      · skip
        refine jx (pc' := 7) (L' := [_, _, _, _, _, _]) (st' := [_, _, _, _, .int (zI 0), _]) 6 rfl ?_
        refine jcv (pc' := 10) 34 [_, _, _] [.int (zI 0), _] (I.ob C.1) rfl rfl rfl rfl rfl rfl rfl rfl ?_
        refine v_One I C G hw hx hy (fun z => absurd c z) (fun _ z => absurd z t) (fun _ _ h1 S1 I1 P => ?_)
        refine jkc (t := 19) rfl ?_
        refine jx (pc' := 22) (L' := [_, _, _, _, _, _]) (st' := [.int (zI 2)]) 2 rfl ?_
        try simp (disch := omega) only [kz, kzl0, kzl1, kzb, kzs, zI_add, zI_sub, zI_neg, zI_mul, zL_i, zI_l, zL_add, zL_sub, zL_neg]
        refine jri rfl rfl ?_
        exact q _ _ _ _ _ I1 (P.ct (by omega) (by omega)) ((P.2.2 111 (by decide)).trans H) (fun z => absurd z (by decide))
      · exact m_one K g.1 g.2.1 g.2.2.2.1 hw hx hy (fun z => absurd c z) (fun _ z => absurd z t) (fun _ _ h' K => q _ ⟨wr, tx, ou, K, r⟩)
  · refine ⟨1, σ, zI 0, by decide, fun h S n m e f Q I C G H q => ?_, fun h S0 cd Q ⟨wr, tx, ou, K, r⟩ q => ?_⟩
    · skip
      refine jx (pc' := 7) (L' := [_, _, _, _, _, _]) (st' := [_, _, _, _, .int (zI 0), _]) 6 rfl ?_
      refine jcv (pc' := 10) 34 [_, _, _] [.int (zI 0), _] (I.ob C.1) rfl rfl rfl rfl rfl rfl rfl rfl ?_
      refine v_One I C G hw hx hy (fun _ h1 S1 I1 P => ?_) (fun z => absurd z c) (fun z => absurd z c)
      refine jkc (t := 15) rfl ?_
      refine jx (pc' := 18) (L' := [_, _, _, _, _, _]) (st' := [.int (zI 1)]) 2 rfl ?_
      try simp (disch := omega) only [kz, kzl0, kzl1, kzb, kzs, zI_add, zI_sub, zI_neg, zI_mul, zL_i, zI_l, zL_add, zL_sub, zL_neg]
      refine jri rfl rfl ?_
      exact q _ _ _ _ _ I1 (P.ct (by omega) (by omega)) ((P.2.2 111 (by decide)).trans H) (fun z => absurd z (by decide))
    · exact m_one K g.1 g.2.1 g.2.2.2.1 hw hx hy (fun _ h' K => q _ ⟨wr, tx, ou, K, r⟩) (fun z => absurd z c) (fun z => absurd z c)
theorem o_scale (g : Gd σ) (x32 y32 w32 : Int32) : ∃ oc σ' v, oc < 3 ∧ Op σ oc σ' v.toInt64 (.int v) 5 [.ref 32, .int x32, .int y32, .int w32, .ref 111] 245 [.ref 98, .int x32, .int y32, .int w32] := by
  obtain ⟨x, rfl, hx⟩ := zw x32
  obtain ⟨y, rfl, hy⟩ := zw y32
  obtain ⟨w, rfl, hw⟩ := zw w32
  by_cases c : cScale σ x y w
  · by_cases t : (rScale σ x y w).2 &&& σ.2.2.2.1 = 0
    · refine ⟨0, dv2 σ x.toNat (rScale σ x y w).1 (rScale σ x y w).2, zI ((rScale σ x y w).2 : Nat), by decide, fun h S n m e f Q I C G H q => ?_, fun h S0 cd Q ⟨wr, tx, ou, K, r⟩ q => ?_⟩
      · skip
        refine jx (pc' := 7) (L' := [_, _, _, _, _, _]) (st' := [_, _, _, _, .int (zI 0), _]) 6 rfl ?_
        refine jcv (pc' := 10) 35 [_, _, _] [.int (zI 0), _] (I.ob C.1) rfl rfl rfl rfl rfl rfl rfl rfl ?_
        refine v_Scale I C G hx hy hw (fun z => absurd c z) (fun _ _ h1 S1 I1 P => jk ?_) (fun _ z => absurd t z)
        have H1 := (P.2.2 111 (by decide)).trans H
        refine jx (pc' := 11) (L' := [_, _, _, _, _, _]) (st' := [_, .int (zI 0), _]) 1 rfl ?_
        try simp (disch := omega) only [kz, kzl0, kzl1, kzb, kzs, zI_add, zI_sub, zI_neg, zI_mul, zL_i, zI_l, zL_add, zL_sub, zL_neg]
        refine jaWL (pc' := 12) 0 I1 H1 rfl rfl rfl (by decide) rfl fun h2 I2 => ?_
        refine jx (pc' := 24) (L' := [_, _, _, _, _, _]) (st' := [.int (zI 0)]) 2 rfl ?_
        refine jri rfl rfl ?_
        exact q _ _ _ _ _ I2 (P.ct (by omega) (by omega)).up (va_up_self _ _ _) (fun _ => by rw [vpu, nz])
      · exact m_scale K g.1 g.2.1 g.2.2.2.1 hw hx hy (fun z => absurd c z) (fun _ _ h' K => q _ ⟨wr, tx, ou, K, r⟩) (fun _ z => absurd t z)
    · refine ⟨2, dv1 σ (rScale σ x y w).1 (rScale σ x y w).2, zI 0, by decide, fun h S n m e f Q I C G H q => ?_, fun h S0 cd Q ⟨wr, tx, ou, K, r⟩ q => ?_⟩
      · skip
        refine jx (pc' := 7) (L' := [_, _, _, _, _, _]) (st' := [_, _, _, _, .int (zI 0), _]) 6 rfl ?_
        refine jcv (pc' := 10) 35 [_, _, _] [.int (zI 0), _] (I.ob C.1) rfl rfl rfl rfl rfl rfl rfl rfl ?_
        refine v_Scale I C G hx hy hw (fun z => absurd c z) (fun _ z => absurd z t) (fun _ _ h1 S1 I1 P => ?_)
        refine jkc (t := 19) rfl ?_
        refine jx (pc' := 22) (L' := [_, _, _, _, _, _]) (st' := [.int (zI 2)]) 2 rfl ?_
        try simp (disch := omega) only [kz, kzl0, kzl1, kzb, kzs, zI_add, zI_sub, zI_neg, zI_mul, zL_i, zI_l, zL_add, zL_sub, zL_neg]
        refine jri rfl rfl ?_
        exact q _ _ _ _ _ I1 (P.ct (by omega) (by omega)) ((P.2.2 111 (by decide)).trans H) (fun z => absurd z (by decide))
      · exact m_scale K g.1 g.2.1 g.2.2.2.1 hw hx hy (fun z => absurd c z) (fun _ z => absurd z t) (fun _ _ h' K => q _ ⟨wr, tx, ou, K, r⟩)
  · refine ⟨1, σ, zI 0, by decide, fun h S n m e f Q I C G H q => ?_, fun h S0 cd Q ⟨wr, tx, ou, K, r⟩ q => ?_⟩
    · skip
      refine jx (pc' := 7) (L' := [_, _, _, _, _, _]) (st' := [_, _, _, _, .int (zI 0), _]) 6 rfl ?_
      refine jcv (pc' := 10) 35 [_, _, _] [.int (zI 0), _] (I.ob C.1) rfl rfl rfl rfl rfl rfl rfl rfl ?_
      refine v_Scale I C G hx hy hw (fun _ h1 S1 I1 P => ?_) (fun z => absurd z c) (fun z => absurd z c)
      refine jkc (t := 15) rfl ?_
      refine jx (pc' := 18) (L' := [_, _, _, _, _, _]) (st' := [.int (zI 1)]) 2 rfl ?_
      try simp (disch := omega) only [kz, kzl0, kzl1, kzb, kzs, zI_add, zI_sub, zI_neg, zI_mul, zL_i, zI_l, zL_add, zL_sub, zL_neg]
      refine jri rfl rfl ?_
      exact q _ _ _ _ _ I1 (P.ct (by omega) (by omega)) ((P.2.2 111 (by decide)).trans H) (fun z => absurd z (by decide))
    · exact m_scale K g.1 g.2.1 g.2.2.2.1 hw hx hy (fun _ h' K => q _ ⟨wr, tx, ou, K, r⟩) (fun z => absurd z c) (fun z => absurd z c)
theorem o_convert (g : Gd σ) (x32 y32 w32 : Int32) : ∃ oc σ' v, oc < 3 ∧ Op σ oc σ' v.toInt64 (.int v) 6 [.ref 32, .int x32, .int y32, .int w32, .ref 111] 247 [.ref 98, .int x32, .int y32, .int w32] := by
  obtain ⟨x, rfl, hx⟩ := zw x32
  obtain ⟨y, rfl, hy⟩ := zw y32
  obtain ⟨w, rfl, hw⟩ := zw w32
  by_cases c : cConvert σ x y w
  · by_cases t : (rConvert σ x y w).2 &&& σ.2.2.2.1 = 0
    · refine ⟨0, dv2 σ x.toNat (rConvert σ x y w).1 (rConvert σ x y w).2, zI ((rConvert σ x y w).2 : Nat), by decide, fun h S n m e f Q I C G H q => ?_, fun h S0 cd Q ⟨wr, tx, ou, K, r⟩ q => ?_⟩
      · skip
        refine jx (pc' := 7) (L' := [_, _, _, _, _, _]) (st' := [_, _, _, _, .int (zI 0), _]) 6 rfl ?_
        refine jcv (pc' := 10) 36 [_, _, _] [.int (zI 0), _] (I.ob C.1) rfl rfl rfl rfl rfl rfl rfl rfl ?_
        refine v_Convert I C G hx hy hw (fun z => absurd c z) (fun _ _ h1 S1 I1 P => jk ?_) (fun _ z => absurd t z)
        have H1 := (P.2.2 111 (by decide)).trans H
        refine jx (pc' := 11) (L' := [_, _, _, _, _, _]) (st' := [_, .int (zI 0), _]) 1 rfl ?_
        try simp (disch := omega) only [kz, kzl0, kzl1, kzb, kzs, zI_add, zI_sub, zI_neg, zI_mul, zL_i, zI_l, zL_add, zL_sub, zL_neg]
        refine jaWL (pc' := 12) 0 I1 H1 rfl rfl rfl (by decide) rfl fun h2 I2 => ?_
        refine jx (pc' := 24) (L' := [_, _, _, _, _, _]) (st' := [.int (zI 0)]) 2 rfl ?_
        refine jri rfl rfl ?_
        exact q _ _ _ _ _ I2 (P.ct (by omega) (by omega)).up (va_up_self _ _ _) (fun _ => by rw [vpu, nz])
      · exact m_convert K g.1 g.2.1 g.2.2.2.1 hw hx hy (fun z => absurd c z) (fun _ _ h' K => q _ ⟨wr, tx, ou, K, r⟩) (fun _ z => absurd t z)
    · refine ⟨2, dv1 σ (rConvert σ x y w).1 (rConvert σ x y w).2, zI 0, by decide, fun h S n m e f Q I C G H q => ?_, fun h S0 cd Q ⟨wr, tx, ou, K, r⟩ q => ?_⟩
      · skip
        refine jx (pc' := 7) (L' := [_, _, _, _, _, _]) (st' := [_, _, _, _, .int (zI 0), _]) 6 rfl ?_
        refine jcv (pc' := 10) 36 [_, _, _] [.int (zI 0), _] (I.ob C.1) rfl rfl rfl rfl rfl rfl rfl rfl ?_
        refine v_Convert I C G hx hy hw (fun z => absurd c z) (fun _ z => absurd z t) (fun _ _ h1 S1 I1 P => ?_)
        refine jkc (t := 19) rfl ?_
        refine jx (pc' := 22) (L' := [_, _, _, _, _, _]) (st' := [.int (zI 2)]) 2 rfl ?_
        try simp (disch := omega) only [kz, kzl0, kzl1, kzb, kzs, zI_add, zI_sub, zI_neg, zI_mul, zL_i, zI_l, zL_add, zL_sub, zL_neg]
        refine jri rfl rfl ?_
        exact q _ _ _ _ _ I1 (P.ct (by omega) (by omega)) ((P.2.2 111 (by decide)).trans H) (fun z => absurd z (by decide))
      · exact m_convert K g.1 g.2.1 g.2.2.2.1 hw hx hy (fun z => absurd c z) (fun _ z => absurd z t) (fun _ _ h' K => q _ ⟨wr, tx, ou, K, r⟩)
  · refine ⟨1, σ, zI 0, by decide, fun h S n m e f Q I C G H q => ?_, fun h S0 cd Q ⟨wr, tx, ou, K, r⟩ q => ?_⟩
    · skip
      refine jx (pc' := 7) (L' := [_, _, _, _, _, _]) (st' := [_, _, _, _, .int (zI 0), _]) 6 rfl ?_
      refine jcv (pc' := 10) 36 [_, _, _] [.int (zI 0), _] (I.ob C.1) rfl rfl rfl rfl rfl rfl rfl rfl ?_
      refine v_Convert I C G hx hy hw (fun _ h1 S1 I1 P => ?_) (fun z => absurd z c) (fun z => absurd z c)
      refine jkc (t := 15) rfl ?_
      refine jx (pc' := 18) (L' := [_, _, _, _, _, _]) (st' := [.int (zI 1)]) 2 rfl ?_
      try simp (disch := omega) only [kz, kzl0, kzl1, kzb, kzs, zI_add, zI_sub, zI_neg, zI_mul, zL_i, zI_l, zL_add, zL_sub, zL_neg]
      refine jri rfl rfl ?_
      exact q _ _ _ _ _ I1 (P.ct (by omega) (by omega)) ((P.2.2 111 (by decide)).trans H) (fun z => absurd z (by decide))
    · exact m_convert K g.1 g.2.1 g.2.2.2.1 hw hx hy (fun _ h' K => q _ ⟨wr, tx, ou, K, r⟩) (fun z => absurd z c) (fun z => absurd z c)
theorem o_number (g : Gd σ) (x32 w32 hi32 lo32 : Int32) : ∃ oc σ' v, oc < 3 ∧ Op σ oc σ' v.toInt64 (.int v) 7 [.ref 32, .int x32, .int w32, .int hi32, .int lo32, .ref 111] 248 [.ref 98, .int x32, .int w32, .int hi32, .int lo32] := by
  obtain ⟨x, rfl, hx⟩ := zw x32
  obtain ⟨w, rfl, hw⟩ := zw w32
  by_cases c : cNumber σ x w
  · by_cases t : (rNumber σ x w hi32 lo32).2 &&& σ.2.2.2.1 = 0
    · refine ⟨0, dv2 σ x.toNat (rNumber σ x w hi32 lo32).1 (rNumber σ x w hi32 lo32).2, zI ((rNumber σ x w hi32 lo32).2 : Nat), by decide, fun h S n m e f Q I C G H q => ?_, fun h S0 cd Q ⟨wr, tx, ou, K, r⟩ q => ?_⟩
      · skip
        refine jx (pc' := 9) (L' := [_, _, _, _, _, _, _]) (st' := [_, _, _, _, _, .int (zI 0), _]) 7 rfl ?_
        refine jcv (pc' := 12) 37 [_, _, _, _] [.int (zI 0), _] (I.ob C.1) rfl rfl rfl rfl rfl rfl rfl rfl ?_
        refine v_Number I C G hx hw (fun z => absurd c z) (fun _ _ h1 S1 I1 P => jk ?_) (fun _ z => absurd t z)
        have H1 := (P.2.2 111 (by decide)).trans H
        refine jx (pc' := 13) (L' := [_, _, _, _, _, _, _]) (st' := [_, .int (zI 0), _]) 1 rfl ?_
        try simp (disch := omega) only [kz, kzl0, kzl1, kzb, kzs, zI_add, zI_sub, zI_neg, zI_mul, zL_i, zI_l, zL_add, zL_sub, zL_neg]
        refine jaWL (pc' := 14) 0 I1 H1 rfl rfl rfl (by decide) rfl fun h2 I2 => ?_
        refine jx (pc' := 26) (L' := [_, _, _, _, _, _, _]) (st' := [.int (zI 0)]) 2 rfl ?_
        refine jri rfl rfl ?_
        exact q _ _ _ _ _ I2 (P.ct (by omega) (by omega)).up (va_up_self _ _ _) (fun _ => by rw [vpu, nz])
      · exact m_number K g.2.1 g.2.2.2.1 hw hx (fun z => absurd c z) (fun _ _ h' K => q _ ⟨wr, tx, ou, K, r⟩) (fun _ z => absurd t z)
    · refine ⟨2, dv1 σ (rNumber σ x w hi32 lo32).1 (rNumber σ x w hi32 lo32).2, zI 0, by decide, fun h S n m e f Q I C G H q => ?_, fun h S0 cd Q ⟨wr, tx, ou, K, r⟩ q => ?_⟩
      · skip
        refine jx (pc' := 9) (L' := [_, _, _, _, _, _, _]) (st' := [_, _, _, _, _, .int (zI 0), _]) 7 rfl ?_
        refine jcv (pc' := 12) 37 [_, _, _, _] [.int (zI 0), _] (I.ob C.1) rfl rfl rfl rfl rfl rfl rfl rfl ?_
        refine v_Number I C G hx hw (fun z => absurd c z) (fun _ z => absurd z t) (fun _ _ h1 S1 I1 P => ?_)
        refine jkc (t := 21) rfl ?_
        refine jx (pc' := 24) (L' := [_, _, _, _, _, _, _]) (st' := [.int (zI 2)]) 2 rfl ?_
        try simp (disch := omega) only [kz, kzl0, kzl1, kzb, kzs, zI_add, zI_sub, zI_neg, zI_mul, zL_i, zI_l, zL_add, zL_sub, zL_neg]
        refine jri rfl rfl ?_
        exact q _ _ _ _ _ I1 (P.ct (by omega) (by omega)) ((P.2.2 111 (by decide)).trans H) (fun z => absurd z (by decide))
      · exact m_number K g.2.1 g.2.2.2.1 hw hx (fun z => absurd c z) (fun _ z => absurd z t) (fun _ _ h' K => q _ ⟨wr, tx, ou, K, r⟩)
  · refine ⟨1, σ, zI 0, by decide, fun h S n m e f Q I C G H q => ?_, fun h S0 cd Q ⟨wr, tx, ou, K, r⟩ q => ?_⟩
    · skip
      refine jx (pc' := 9) (L' := [_, _, _, _, _, _, _]) (st' := [_, _, _, _, _, .int (zI 0), _]) 7 rfl ?_
      refine jcv (pc' := 12) 37 [_, _, _, _] [.int (zI 0), _] (I.ob C.1) rfl rfl rfl rfl rfl rfl rfl rfl ?_
      refine v_Number I C G hx hw (fun _ h1 S1 I1 P => ?_) (fun z => absurd z c) (fun z => absurd z c)
      refine jkc (t := 17) rfl ?_
      refine jx (pc' := 20) (L' := [_, _, _, _, _, _, _]) (st' := [.int (zI 1)]) 2 rfl ?_
      try simp (disch := omega) only [kz, kzl0, kzl1, kzb, kzs, zI_add, zI_sub, zI_neg, zI_mul, zL_i, zI_l, zL_add, zL_sub, zL_neg]
      refine jri rfl rfl ?_
      exact q _ _ _ _ _ I1 (P.ct (by omega) (by omega)) ((P.2.2 111 (by decide)).trans H) (fun z => absurd z (by decide))
    · exact m_number K g.2.1 g.2.2.2.1 hw hx (fun _ h' K => q _ ⟨wr, tx, ou, K, r⟩) (fun z => absurd z c) (fun z => absurd z c)
end LAW
