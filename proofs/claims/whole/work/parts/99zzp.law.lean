/-! ===== the law: the other calls on both sides (printed by genops.py) ===== -/
noncomputable def uB (b : Bool) : Int64 := zL (cond b 1 0)
section LAW
variable {σ : Stt}
theorem o_load (g : Gd σ) (x32 w32 a b c d : Int32) : ∃ oc σ', oc < 3 ∧ Ol σ oc σ' 1 [.ref 32, .int x32, .int w32, .int a, .int b, .int c, .int d] 165 [.ref 98, .int x32, .int w32, .int a, .int b, .int c, .int d] := by
  obtain ⟨x, rfl, hx⟩ := zw x32
  obtain ⟨w, rfl, hw⟩ := zw w32
  by_cases k : (0 ≤ x ∧ x < 8) ∧ (0 ≤ w ∧ w < 3)
  · refine ⟨0, (va_up σ.1 x.toNat (dcD w.toNat a b c d), σ.2), by decide, fun h S n m e Q I C G q => ?_, fun h S0 cd Q ⟨wr, tx, ou, K, r⟩ q => ?_⟩
    · skip
      refine jx (pc' := 10) (L' := [_, _, _, _, _, _, _, _]) (st' := [_, _, _, _, _, _, _]) 7 rfl ?_
      refine jcv (pc' := 13) 27 [_, _, _, _, _, _] [] (I.ob C.1) rfl rfl rfl rfl rfl rfl rfl rfl ?_
      refine v_load I C G hx hw (fun z => absurd k z) (fun _ h1 S1 I1 P => jk ?_)
      refine jx (pc' := 21) (L' := [_, _, _, _, _, _, _, _]) (st' := [.int (zI 0)]) 2 rfl ?_
      refine jri rfl rfl ?_
      exact q _ _ _ _ I1 (P.ct (by omega) (by omega)) (P.2.2 111 (by decide))
    · exact m_load K hx hw (fun z => absurd k z) (fun _ h' K => q _ ⟨wr, tx, ou, K, r⟩)
  · refine ⟨1, σ, by decide, fun h S n m e Q I C G q => ?_, fun h S0 cd Q ⟨wr, tx, ou, K, r⟩ q => ?_⟩
    · skip
      refine jx (pc' := 10) (L' := [_, _, _, _, _, _, _, _]) (st' := [_, _, _, _, _, _, _]) 7 rfl ?_
      refine jcv (pc' := 13) 27 [_, _, _, _, _, _] [] (I.ob C.1) rfl rfl rfl rfl rfl rfl rfl rfl ?_
      refine v_load I C G hx hw (fun _ h1 S1 I1 P => ?_) (fun z => absurd z k)
      refine jkc (t := 16) rfl ?_
      refine jx (pc' := 19) (L' := [_, _, _, _, _, _, _, _]) (st' := [.int (zI 1)]) 2 rfl ?_
      try simp (disch := omega) only [kz, kzl0, kzl1, kzb, kzs, zI_add, zI_sub, zI_neg, zI_mul, zL_i, zI_l, zL_add, zL_sub, zL_neg]
      refine jri rfl rfl ?_
      exact q _ _ _ _ I1 (P.ct (by omega) (by omega)) (P.2.2 111 (by decide))
    · exact m_load K hx hw (fun _ h' K => q _ ⟨wr, tx, ou, K, r⟩) (fun z => absurd z k)
theorem o_whole (g : Gd σ) (x32 w32 : Int32) (b : Bool) : ∃ oc σ' v, oc < 3 ∧ Op σ oc σ' v (.long v) 8 [.ref 32, .int x32, .int w32, .int (bI b), .ref 111] 249 [.ref 98, .int x32, .int w32, .int (bI b)] := by
  obtain ⟨x, rfl, hx⟩ := zw x32
  obtain ⟨w, rfl, hw⟩ := zw w32
  by_cases c : cWh x w
  · by_cases t : (rWh σ x w b).2 &&& σ.2.2.2.1 = 0
    · refine ⟨0, sg σ (rWh σ x w b).2, zL (rWh σ x w b).1, by decide, fun h S n m e f Q I C G H q => ?_, fun h S0 cd Q ⟨wr, tx, ou, K, r⟩ q => ?_⟩
      · skip
        refine jx (pc' := 7) (L' := [_, _, _, _, _, _]) (st' := [_, _, _, _, .int (zI 0), _]) 6 rfl ?_
        refine jcv (pc' := 10) 38 [_, _, _] [.int (zI 0), _] (I.ob C.1) rfl rfl rfl rfl rfl rfl rfl rfl ?_
        refine v_whole I C G hx hw (fun z => absurd c z) (fun _ _ h1 S1 I1 P => jk ?_) (fun _ z => absurd t z)
        have H1 := (P.2.2 111 (by decide)).trans H
        refine jaWL (pc' := 11) 0 I1 H1 rfl rfl rfl (by decide) rfl fun h2 I2 => ?_
        refine jx (pc' := 23) (L' := [_, _, _, _, _, _]) (st' := [.int (zI 0)]) 2 rfl ?_
        refine jri rfl rfl ?_
        exact q _ _ _ _ _ I2 (P.ct (by omega) (by omega)).up (va_up_self _ _ _) (fun _ => vpu _ _)
      · exact m_whole K g.1 g.2.1 g.2.2.2.1 hx hw (fun z => absurd c z) (fun _ _ h' K => q _ ⟨wr, tx, ou, K, r⟩) (fun _ z => absurd t z)
    · refine ⟨2, sg σ (rWh σ x w b).2, zL 0, by decide, fun h S n m e f Q I C G H q => ?_, fun h S0 cd Q ⟨wr, tx, ou, K, r⟩ q => ?_⟩
      · skip
        refine jx (pc' := 7) (L' := [_, _, _, _, _, _]) (st' := [_, _, _, _, .int (zI 0), _]) 6 rfl ?_
        refine jcv (pc' := 10) 38 [_, _, _] [.int (zI 0), _] (I.ob C.1) rfl rfl rfl rfl rfl rfl rfl rfl ?_
        refine v_whole I C G hx hw (fun z => absurd c z) (fun _ z => absurd z t) (fun _ _ h1 S1 I1 P => ?_)
        refine jkc (t := 18) rfl ?_
        refine jx (pc' := 21) (L' := [_, _, _, _, _, _]) (st' := [.int (zI 2)]) 2 rfl ?_
        try simp (disch := omega) only [kz, kzl0, kzl1, kzb, kzs, zI_add, zI_sub, zI_neg, zI_mul, zL_i, zI_l, zL_add, zL_sub, zL_neg]
        refine jri rfl rfl ?_
        exact q _ _ _ _ _ I1 (P.ct (by omega) (by omega)) ((P.2.2 111 (by decide)).trans H) (fun z => absurd z (by decide))
      · exact m_whole K g.1 g.2.1 g.2.2.2.1 hx hw (fun z => absurd c z) (fun _ z => absurd z t) (fun _ _ h' K => q _ ⟨wr, tx, ou, K, r⟩)
  · refine ⟨1, σ, zL 0, by decide, fun h S n m e f Q I C G H q => ?_, fun h S0 cd Q ⟨wr, tx, ou, K, r⟩ q => ?_⟩
    · skip
      refine jx (pc' := 7) (L' := [_, _, _, _, _, _]) (st' := [_, _, _, _, .int (zI 0), _]) 6 rfl ?_
      refine jcv (pc' := 10) 38 [_, _, _] [.int (zI 0), _] (I.ob C.1) rfl rfl rfl rfl rfl rfl rfl rfl ?_
      refine v_whole I C G hx hw (fun _ h1 S1 I1 P => ?_) (fun z => absurd z c) (fun z => absurd z c)
      refine jkc (t := 14) rfl ?_
      refine jx (pc' := 17) (L' := [_, _, _, _, _, _]) (st' := [.int (zI 1)]) 2 rfl ?_
      try simp (disch := omega) only [kz, kzl0, kzl1, kzb, kzs, zI_add, zI_sub, zI_neg, zI_mul, zL_i, zI_l, zL_add, zL_sub, zL_neg]
      refine jri rfl rfl ?_
      exact q _ _ _ _ _ I1 (P.ct (by omega) (by omega)) ((P.2.2 111 (by decide)).trans H) (fun z => absurd z (by decide))
    · exact m_whole K g.1 g.2.1 g.2.2.2.1 hx hw (fun _ h' K => q _ ⟨wr, tx, ou, K, r⟩) (fun z => absurd z c) (fun z => absurd z c)
theorem o_log (g : Gd σ) (x32 : Int32) : ∃ oc σ' v, oc < 3 ∧ Op σ oc σ' v.toInt64 (.int v) 9 [.ref 32, .int x32, .ref 111] 251 [.ref 98, .int x32] := by
  obtain ⟨x, rfl, hx⟩ := zw x32
  by_cases c : 0 ≤ x ∧ x ≤ 8
  · by_cases b : bLg (σ.1 x.toNat)
    · by_cases t : 1 &&& σ.2.2.2.1 = 0
      · refine ⟨0, sg σ 1, zI (-2147483648), by decide, fun h S n m e f Q I C G H q => ?_, fun h S0 cd Q ⟨wr, tx, ou, K, r⟩ q => ?_⟩
        · skip
          refine jx (pc' := 4) (L' := [_, _, _, _]) (st' := [_, _, .int (zI 0), _]) 4 rfl ?_
          refine jcv (pc' := 7) 39 [_] [.int (zI 0), _] (I.ob C.1) rfl rfl rfl rfl rfl rfl rfl rfl ?_
          refine v_log I C G hx (fun z => absurd c z) (fun _ _ _ h1 S1 I1 P => jk ?_) (fun _ _ z => absurd t z) (fun _ z => absurd b z)
          have H1 := (P.2.2 111 (by decide)).trans H
          refine jx (pc' := 8) (L' := [_, _, _, _]) (st' := [_, .int (zI 0), _]) 1 rfl ?_
          try simp (disch := omega) only [kz, kzl0, kzl1, kzb, kzs, zI_add, zI_sub, zI_neg, zI_mul, zL_i, zI_l, zL_add, zL_sub, zL_neg]
          refine jaWL (pc' := 9) 0 I1 H1 rfl rfl rfl (by decide) rfl fun h2 I2 => ?_
          refine jx (pc' := 19) (L' := [_, _, _, _]) (st' := [.int (zI 0)]) 2 rfl ?_
          refine jri rfl rfl ?_
          exact q _ _ _ _ _ I2 (P.ct (by omega) (by omega)).up (va_up_self _ _ _) (fun _ => vpu _ _)
        · exact m_log K g.1 g.2.2.2.1 hx (fun z => absurd c z) (fun _ _ _ h' K => q _ ⟨wr, tx, ou, K, r⟩) (fun _ _ z => absurd t z) (fun _ z => absurd b z)
      · refine ⟨2, sg σ 1, zI 0, by decide, fun h S n m e f Q I C G H q => ?_, fun h S0 cd Q ⟨wr, tx, ou, K, r⟩ q => ?_⟩
        · skip
          refine jx (pc' := 4) (L' := [_, _, _, _]) (st' := [_, _, .int (zI 0), _]) 4 rfl ?_
          refine jcv (pc' := 7) 39 [_] [.int (zI 0), _] (I.ob C.1) rfl rfl rfl rfl rfl rfl rfl rfl ?_
          refine v_log I C G hx (fun z => absurd c z) (fun _ _ z => absurd z t) (fun _ _ _ h1 S1 I1 P => ?_) (fun _ z => absurd b z)
          refine jkc (t := 15) rfl ?_
          refine jx (pc' := 17) (L' := [_, _, _, _]) (st' := [.int (zI 2)]) 2 rfl ?_
          try simp (disch := omega) only [kz, kzl0, kzl1, kzb, kzs, zI_add, zI_sub, zI_neg, zI_mul, zL_i, zI_l, zL_add, zL_sub, zL_neg]
          refine jri rfl rfl ?_
          exact q _ _ _ _ _ I1 (P.ct (by omega) (by omega)) ((P.2.2 111 (by decide)).trans H) (fun z => absurd z (by decide))
        · exact m_log K g.1 g.2.2.2.1 hx (fun z => absurd c z) (fun _ _ z => absurd z t) (fun _ _ _ h' K => q _ ⟨wr, tx, ou, K, r⟩) (fun _ z => absurd b z)
    · refine ⟨0, σ, zI ((dgs (σ.1 x.toNat).2.2.2.2 : Int) + (σ.1 x.toNat).2.2.2.1 - 1), by decide, fun h S n m e f Q I C G H q => ?_, fun h S0 cd Q ⟨wr, tx, ou, K, r⟩ q => ?_⟩
      · skip
        refine jx (pc' := 4) (L' := [_, _, _, _]) (st' := [_, _, .int (zI 0), _]) 4 rfl ?_
        refine jcv (pc' := 7) 39 [_] [.int (zI 0), _] (I.ob C.1) rfl rfl rfl rfl rfl rfl rfl rfl ?_
        refine v_log I C G hx (fun z => absurd c z) (fun _ z => absurd z b) (fun _ z => absurd z b) (fun _ _ => jk ?_)
        refine jx (pc' := 8) (L' := [_, _, _, _]) (st' := [_, .int (zI 0), _]) 1 rfl ?_
        try simp (disch := omega) only [kz, kzl0, kzl1, kzb, kzs, zI_add, zI_sub, zI_neg, zI_mul, zL_i, zI_l, zL_add, zL_sub, zL_neg]
        refine jaWL (pc' := 9) 0 I H rfl rfl rfl (by decide) rfl fun h2 I2 => ?_
        refine jx (pc' := 19) (L' := [_, _, _, _]) (st' := [.int (zI 0)]) 2 rfl ?_
        refine jri rfl rfl ?_
        exact q _ _ _ _ _ I2 (CT.id C G).up (va_up_self _ _ _) (fun _ => vpu _ _)
      · exact m_log K g.1 g.2.2.2.1 hx (fun z => absurd c z) (fun _ z => absurd z b) (fun _ z => absurd z b) (fun _ _ h' K => q _ ⟨wr, tx, ou, K, r⟩)
  · refine ⟨1, σ, zI 0, by decide, fun h S n m e f Q I C G H q => ?_, fun h S0 cd Q ⟨wr, tx, ou, K, r⟩ q => ?_⟩
    · skip
      refine jx (pc' := 4) (L' := [_, _, _, _]) (st' := [_, _, .int (zI 0), _]) 4 rfl ?_
      refine jcv (pc' := 7) 39 [_] [.int (zI 0), _] (I.ob C.1) rfl rfl rfl rfl rfl rfl rfl rfl ?_
      refine v_log I C G hx (fun _ h1 S1 I1 P => ?_) (fun z => absurd z c) (fun z => absurd z c) (fun z => absurd z c)
      refine jkc (t := 12) rfl ?_
      refine jx (pc' := 14) (L' := [_, _, _, _]) (st' := [.int (zI 1)]) 2 rfl ?_
      try simp (disch := omega) only [kz, kzl0, kzl1, kzb, kzs, zI_add, zI_sub, zI_neg, zI_mul, zL_i, zI_l, zL_add, zL_sub, zL_neg]
      refine jri rfl rfl ?_
      exact q _ _ _ _ _ I1 (P.ct (by omega) (by omega)) ((P.2.2 111 (by decide)).trans H) (fun z => absurd z (by decide))
    · exact m_log K g.1 g.2.2.2.1 hx (fun _ h' K => q _ ⟨wr, tx, ou, K, r⟩) (fun z => absurd z c) (fun z => absurd z c) (fun z => absurd z c)
theorem o_compare (g : Gd σ) (x32 y32 : Int32) (b : Bool) : ∃ oc σ' v, oc < 3 ∧ Op σ oc σ' v.toInt64 (.int v) 10 [.ref 32, .int x32, .int y32, .int (bI b), .ref 111] 252 [.ref 98, .int x32, .int y32, .int (bI b)] := by
  obtain ⟨x, rfl, hx⟩ := zw x32
  obtain ⟨y, rfl, hy⟩ := zw y32
  by_cases c : cFmt σ x y
  · by_cases nn : nnC (σ.1 x.toNat) (σ.1 y.toNat)
    · refine ⟨0, σ, zI (vlC (σ.1 x.toNat) (σ.1 y.toNat)), by decide, fun h S n m e f Q I C G H q => ?_, fun h S0 cd Q ⟨wr, tx, ou, K, r⟩ q => ?_⟩
      · skip
        refine jx (pc' := 7) (L' := [_, _, _, _, _, _]) (st' := [_, _, _, _, .int (zI 0), _]) 6 rfl ?_
        refine jcv (pc' := 10) 40 [_, _, _] [.int (zI 0), _] (I.ob C.1) rfl rfl rfl rfl rfl rfl rfl rfl ?_
        refine v_compare I C G hx hy (fun z => absurd c z) (fun _ _ h1 S1 I1 P => jk ?_) (fun _ z => absurd nn z) (fun _ z => absurd nn z)
        have H1 := (P.2.2 111 (by decide)).trans H
        refine jx (pc' := 11) (L' := [_, _, _, _, _, _]) (st' := [_, .int (zI 0), _]) 1 rfl ?_
        try simp (disch := omega) only [kz, kzl0, kzl1, kzb, kzs, zI_add, zI_sub, zI_neg, zI_mul, zL_i, zI_l, zL_add, zL_sub, zL_neg]
        refine jaWL (pc' := 12) 0 I1 H1 rfl rfl rfl (by decide) rfl fun h2 I2 => ?_
        refine jx (pc' := 24) (L' := [_, _, _, _, _, _]) (st' := [.int (zI 0)]) 2 rfl ?_
        refine jri rfl rfl ?_
        exact q _ _ _ _ _ I2 (P.ct (by omega) (by omega)).up (va_up_self _ _ _) (fun _ => vpu _ _)
      · exact m_compare K g.1 g.2.2.2.1 hx hy (fun z => absurd c z) (fun _ _ h' K => q _ ⟨wr, tx, ou, K, r⟩) (fun _ z => absurd nn z) (fun _ z => absurd nn z)
    · by_cases t : sgC (σ.1 x.toNat) (σ.1 y.toNat) b &&& σ.2.2.2.1 = 0
      · refine ⟨0, sg σ (sgC (σ.1 x.toNat) (σ.1 y.toNat) b), nI 2, by decide, fun h S n m e f Q I C G H q => ?_, fun h S0 cd Q ⟨wr, tx, ou, K, r⟩ q => ?_⟩
        · skip
          refine jx (pc' := 7) (L' := [_, _, _, _, _, _]) (st' := [_, _, _, _, .int (zI 0), _]) 6 rfl ?_
          refine jcv (pc' := 10) 40 [_, _, _] [.int (zI 0), _] (I.ob C.1) rfl rfl rfl rfl rfl rfl rfl rfl ?_
          refine v_compare I C G hx hy (fun z => absurd c z) (fun _ z => absurd z nn) (fun _ _ _ h1 S1 I1 P => jk ?_) (fun _ _ z => absurd t z)
          have H1 := (P.2.2 111 (by decide)).trans H
          refine jx (pc' := 11) (L' := [_, _, _, _, _, _]) (st' := [_, .int (zI 0), _]) 1 rfl ?_
          try simp (disch := omega) only [kz, kzl0, kzl1, kzb, kzs, zI_add, zI_sub, zI_neg, zI_mul, zL_i, zI_l, zL_add, zL_sub, zL_neg]
          refine jaWL (pc' := 12) 0 I1 H1 rfl rfl rfl (by decide) rfl fun h2 I2 => ?_
          refine jx (pc' := 24) (L' := [_, _, _, _, _, _]) (st' := [.int (zI 0)]) 2 rfl ?_
          refine jri rfl rfl ?_
          exact q _ _ _ _ _ I2 (P.ct (by omega) (by omega)).up (va_up_self _ _ _) (fun _ => vpu _ _)
        · exact m_compare K g.1 g.2.2.2.1 hx hy (fun z => absurd c z) (fun _ z => absurd z nn) (fun _ _ _ h' K => q _ ⟨wr, tx, ou, K, r⟩) (fun _ _ z => absurd t z)
      · refine ⟨2, sg σ (sgC (σ.1 x.toNat) (σ.1 y.toNat) b), zI 0, by decide, fun h S n m e f Q I C G H q => ?_, fun h S0 cd Q ⟨wr, tx, ou, K, r⟩ q => ?_⟩
        · skip
          refine jx (pc' := 7) (L' := [_, _, _, _, _, _]) (st' := [_, _, _, _, .int (zI 0), _]) 6 rfl ?_
          refine jcv (pc' := 10) 40 [_, _, _] [.int (zI 0), _] (I.ob C.1) rfl rfl rfl rfl rfl rfl rfl rfl ?_
          refine v_compare I C G hx hy (fun z => absurd c z) (fun _ z => absurd z nn) (fun _ _ z => absurd z t) (fun _ _ _ h1 S1 I1 P => ?_)
          refine jkc (t := 19) rfl ?_
          refine jx (pc' := 22) (L' := [_, _, _, _, _, _]) (st' := [.int (zI 2)]) 2 rfl ?_
          try simp (disch := omega) only [kz, kzl0, kzl1, kzb, kzs, zI_add, zI_sub, zI_neg, zI_mul, zL_i, zI_l, zL_add, zL_sub, zL_neg]
          refine jri rfl rfl ?_
          exact q _ _ _ _ _ I1 (P.ct (by omega) (by omega)) ((P.2.2 111 (by decide)).trans H) (fun z => absurd z (by decide))
        · exact m_compare K g.1 g.2.2.2.1 hx hy (fun z => absurd c z) (fun _ z => absurd z nn) (fun _ _ z => absurd z t) (fun _ _ _ h' K => q _ ⟨wr, tx, ou, K, r⟩)
  · refine ⟨1, σ, zI 0, by decide, fun h S n m e f Q I C G H q => ?_, fun h S0 cd Q ⟨wr, tx, ou, K, r⟩ q => ?_⟩
    · skip
      refine jx (pc' := 7) (L' := [_, _, _, _, _, _]) (st' := [_, _, _, _, .int (zI 0), _]) 6 rfl ?_
      refine jcv (pc' := 10) 40 [_, _, _] [.int (zI 0), _] (I.ob C.1) rfl rfl rfl rfl rfl rfl rfl rfl ?_
      refine v_compare I C G hx hy (fun _ h1 S1 I1 P => ?_) (fun z => absurd z c) (fun z => absurd z c) (fun z => absurd z c)
      refine jkc (t := 15) rfl ?_
      refine jx (pc' := 18) (L' := [_, _, _, _, _, _]) (st' := [.int (zI 1)]) 2 rfl ?_
      try simp (disch := omega) only [kz, kzl0, kzl1, kzb, kzs, zI_add, zI_sub, zI_neg, zI_mul, zL_i, zI_l, zL_add, zL_sub, zL_neg]
      refine jri rfl rfl ?_
      exact q _ _ _ _ _ I1 (P.ct (by omega) (by omega)) ((P.2.2 111 (by decide)).trans H) (fun z => absurd z (by decide))
    · exact m_compare K g.1 g.2.2.2.1 hx hy (fun _ h' K => q _ ⟨wr, tx, ou, K, r⟩) (fun z => absurd z c) (fun z => absurd z c) (fun z => absurd z c)
theorem o_ordered (g : Gd σ) (x32 y32 : Int32) : ∃ oc σ' b, oc < 3 ∧ Op σ oc σ' (uB b) (.int (bI b)) 11 [.ref 32, .int x32, .int y32, .ref 111] 253 [.ref 98, .int x32, .int y32] := by
  obtain ⟨x, rfl, hx⟩ := zw x32
  obtain ⟨y, rfl, hy⟩ := zw y32
  by_cases c : cFmt σ x y
  · refine ⟨0, σ, ino (σ.1 x.toNat).2.1 (σ.1 x.toNat).2.2.1 (σ.1 x.toNat).2.2.2.1 (σ.1 x.toNat).2.2.2.2 (σ.1 y.toNat).2.1 (σ.1 y.toNat).2.2.1 (σ.1 y.toNat).2.2.2.1 (σ.1 y.toNat).2.2.2.2, by decide, fun h S n m e f Q I C G H q => ?_, fun h S0 cd Q ⟨wr, tx, ou, K, r⟩ q => ?_⟩
    · skip
      refine jx (pc' := 5) (L' := [_, _, _, _, _]) (st' := [_, _, _, .int (zI 0), _]) 5 rfl ?_
      refine jcv (pc' := 8) 41 [_, _] [.int (zI 0), _] (I.ob C.1) rfl rfl rfl rfl rfl rfl rfl rfl ?_
      refine v_ordered I C G hx hy (fun z => absurd c z) (fun _ h1 S1 I1 P => jk ?_)
      have H1 := (P.2.2 111 (by decide)).trans H
      generalize ino (σ.1 x.toNat).2.1 (σ.1 x.toNat).2.2.1 (σ.1 x.toNat).2.2.2.1 (σ.1 x.toNat).2.2.2.2 (σ.1 y.toNat).2.1 (σ.1 y.toNat).2.2.1 (σ.1 y.toNat).2.2.2.1 (σ.1 y.toNat).2.2.2.2 = b at *
      show ix_E 11 8 _ [.int (bI b), _, _] _ _
      cases b
      · skip
        refine jit (pc' := 15) rfl rfl rfl (rfl) ?_
        refine jx (pc' := 16) (L' := [_, _, _, _, _]) (st' := [.long (zL 0), _, _]) 1 rfl ?_
        refine jaWL (pc' := 17) 0 I1 H1 rfl rfl rfl (by decide) rfl fun h2 I2 => ?_
        refine jx (pc' := 25) (L' := [_, _, _, _, _]) (st' := [.int (zI 0)]) 2 rfl ?_
        refine jri rfl rfl ?_
        exact q _ _ _ _ _ I2 (P.ct (by omega) (by omega)).up (va_up_self _ _ _) (fun _ => vpu _ _)
      · skip
        refine jin (pc' := 11) 15 rfl rfl rfl rfl (rfl) ?_
        refine jx (pc' := 16) (L' := [_, _, _, _, _]) (st' := [.long (zL 1), _, _]) 2 rfl ?_
        refine jaWL (pc' := 17) 0 I1 H1 rfl rfl rfl (by decide) rfl fun h2 I2 => ?_
        refine jx (pc' := 25) (L' := [_, _, _, _, _]) (st' := [.int (zI 0)]) 2 rfl ?_
        refine jri rfl rfl ?_
        exact q _ _ _ _ _ I2 (P.ct (by omega) (by omega)).up (va_up_self _ _ _) (fun _ => vpu _ _)
    · exact m_ordered K g.1 hx hy (fun z => absurd c z) (fun _ h' K => q _ ⟨wr, tx, ou, K, r⟩)
  · refine ⟨1, σ, false, by decide, fun h S n m e f Q I C G H q => ?_, fun h S0 cd Q ⟨wr, tx, ou, K, r⟩ q => ?_⟩
    · skip
      refine jx (pc' := 5) (L' := [_, _, _, _, _]) (st' := [_, _, _, .int (zI 0), _]) 5 rfl ?_
      refine jcv (pc' := 8) 41 [_, _] [.int (zI 0), _] (I.ob C.1) rfl rfl rfl rfl rfl rfl rfl rfl ?_
      refine v_ordered I C G hx hy (fun _ h1 S1 I1 P => ?_) (fun z => absurd z c)
      refine jkc (t := 20) rfl ?_
      refine jx (pc' := 23) (L' := [_, _, _, _, _]) (st' := [.int (zI 1)]) 2 rfl ?_
      try simp (disch := omega) only [kz, kzl0, kzl1, kzb, kzs, zI_add, zI_sub, zI_neg, zI_mul, zL_i, zI_l, zL_add, zL_sub, zL_neg]
      refine jri rfl rfl ?_
      exact q _ _ _ _ _ I1 (P.ct (by omega) (by omega)) ((P.2.2 111 (by decide)).trans H) (fun z => absurd z (by decide))
    · exact m_ordered K g.1 hx hy (fun _ h' K => q _ ⟨wr, tx, ou, K, r⟩) (fun z => absurd z c)
theorem o_read (g : Gd σ) (x32 w32 : Int32) : ∃ oc σ' v, oc < 3 ∧ Op σ oc σ' v.toInt64 (.int v) 12 [.ref 32, .int x32, .int w32, .ref 111] 259 [.ref 98, .int x32, .int w32] := by
  obtain ⟨x, rfl, hx⟩ := zw x32
  obtain ⟨w, rfl, hw⟩ := zw w32
  by_cases c : prs σ.2.2.2.2.1 σ.2.2.2.2.2.1 = none ∨ ¬ cRd x w
  · refine ⟨1, emT σ, zI 0, by decide, fun h S n m e f Q I C G H q => ?_, fun h S0 cd Q ⟨wr, tx, ou, K, r⟩ q => ?_⟩
    · skip
      refine jx (pc' := 5) (L' := [_, _, _, _, _]) (st' := [_, _, _, .int (zI 0), _]) 5 rfl ?_
      refine jcv (pc' := 8) 42 [_, _] [.int (zI 0), _] (I.ob C.1) rfl rfl rfl rfl rfl rfl rfl rfl ?_
      refine v_read I C G hx hw (fun _ h1 S1 I1 P => ?_) (fun u z y => absurd c (by rw [z]; exact not_or.mpr ⟨nofun, not_not_intro y⟩)) (fun u z y => absurd c (by rw [z]; exact not_or.mpr ⟨nofun, not_not_intro y⟩))
      refine jkc (t := 13) rfl ?_
      refine jx (pc' := 16) (L' := [_, _, _, _, _]) (st' := [.int (zI 1)]) 2 rfl ?_
      try simp (disch := omega) only [kz, kzl0, kzl1, kzb, kzs, zI_add, zI_sub, zI_neg, zI_mul, zL_i, zI_l, zL_add, zL_sub, zL_neg]
      refine jri rfl rfl ?_
      exact q _ _ _ _ _ I1 (P.ct (by omega) (by omega)) ((P.2.2 111 (by decide)).trans H) (fun z => absurd z (by decide))
    · obtain ⟨r1, rfl⟩ := r
      exact m_read K g.2.1 g.2.2.2.1 g.2.2.2.2.1 g.2.2.2.2.2.1 hx hw (fun _ h' K => q _ ⟨wr, _, ou, K, r1, rfl⟩) (fun u z y => absurd c (by rw [z]; exact not_or.mpr ⟨nofun, not_not_intro y⟩)) (fun u z y => absurd c (by rw [z]; exact not_or.mpr ⟨nofun, not_not_intro y⟩))
  · obtain ⟨c1, c2⟩ := not_or.mp c
    have c2 := Classical.not_not.mp c2
    obtain ⟨u, hu⟩ := Option.ne_none_iff_exists'.mp c1
    by_cases t : (rRd σ.2.1 w u).2 &&& σ.2.2.2.1 = 0
    · refine ⟨0, dv2 (emT σ) x.toNat (rRd σ.2.1 w u).1 (rRd σ.2.1 w u).2, zI ((rRd σ.2.1 w u).2 : Nat), by decide, fun h S n m e f Q I C G H q => ?_, fun h S0 cd Q ⟨wr, tx, ou, K, r⟩ q => ?_⟩
      · skip
        refine jx (pc' := 5) (L' := [_, _, _, _, _]) (st' := [_, _, _, .int (zI 0), _]) 5 rfl ?_
        refine jcv (pc' := 8) 42 [_, _] [.int (zI 0), _] (I.ob C.1) rfl rfl rfl rfl rfl rfl rfl rfl ?_
        refine v_read I C G hx hw (fun z => absurd z c) (fun v z _ _ h1 S1 I1 P => jk ?_) (fun v z _ t' => absurd t (by rw [Option.some.inj (hu.symm.trans z)]; exact t'))
        have e := Option.some.inj (hu.symm.trans z)
        subst e
        have H1 := (P.2.2 111 (by decide)).trans H
        refine jx (pc' := 9) (L' := [_, _, _, _, _]) (st' := [_, .int (zI 0), _]) 1 rfl ?_
        try simp (disch := omega) only [kz, kzl0, kzl1, kzb, kzs, zI_add, zI_sub, zI_neg, zI_mul, zL_i, zI_l, zL_add, zL_sub, zL_neg]
        refine jaWL (pc' := 10) 0 I1 H1 rfl rfl rfl (by decide) rfl fun h2 I2 => ?_
        refine jx (pc' := 22) (L' := [_, _, _, _, _]) (st' := [.int (zI 0)]) 2 rfl ?_
        refine jri rfl rfl ?_
        exact q _ _ _ _ _ I2 (P.ct (by omega) (by omega)).up (va_up_self _ _ _) (fun _ => by rw [vpu, nz])
      · obtain ⟨r1, rfl⟩ := r
        exact m_read K g.2.1 g.2.2.2.1 g.2.2.2.2.1 g.2.2.2.2.2.1 hx hw (fun z => absurd z c) (fun v z _ _ h' K => by rw [← Option.some.inj (hu.symm.trans z)] at K ⊢; exact q _ ⟨wr, _, ou, K, r1, rfl⟩) (fun v z _ t' => absurd t (by rw [Option.some.inj (hu.symm.trans z)]; exact t'))
    · refine ⟨2, dv1 (emT σ) (rRd σ.2.1 w u).1 (rRd σ.2.1 w u).2, zI 0, by decide, fun h S n m e f Q I C G H q => ?_, fun h S0 cd Q ⟨wr, tx, ou, K, r⟩ q => ?_⟩
      · skip
        refine jx (pc' := 5) (L' := [_, _, _, _, _]) (st' := [_, _, _, .int (zI 0), _]) 5 rfl ?_
        refine jcv (pc' := 8) 42 [_, _] [.int (zI 0), _] (I.ob C.1) rfl rfl rfl rfl rfl rfl rfl rfl ?_
        refine v_read I C G hx hw (fun z => absurd z c) (fun v z _ t' => absurd t' (by rw [← Option.some.inj (hu.symm.trans z)]; exact t)) (fun v z _ _ h1 S1 I1 P => ?_)
        have e := Option.some.inj (hu.symm.trans z)
        subst e
        refine jkc (t := 17) rfl ?_
        refine jx (pc' := 20) (L' := [_, _, _, _, _]) (st' := [.int (zI 2)]) 2 rfl ?_
        try simp (disch := omega) only [kz, kzl0, kzl1, kzb, kzs, zI_add, zI_sub, zI_neg, zI_mul, zL_i, zI_l, zL_add, zL_sub, zL_neg]
        refine jri rfl rfl ?_
        exact q _ _ _ _ _ I1 (P.ct (by omega) (by omega)) ((P.2.2 111 (by decide)).trans H) (fun z => absurd z (by decide))
      · obtain ⟨r1, rfl⟩ := r
        exact m_read K g.2.1 g.2.2.2.1 g.2.2.2.2.1 g.2.2.2.2.2.1 hx hw (fun z => absurd z c) (fun v z _ t' => absurd t' (by rw [← Option.some.inj (hu.symm.trans z)]; exact t)) (fun v z _ _ h' K => by rw [← Option.some.inj (hu.symm.trans z)] at K; exact q _ ⟨wr, _, ou, K, r1, rfl⟩)
theorem o_write (g : Gd σ) (x32 : Int32) : ∃ oc σ' v, oc < 3 ∧ Op σ oc σ' v.toInt64 (.int v) 13 [.ref 32, .int x32, .ref 111] 265 [.ref 98, .int x32] := by
  obtain ⟨x, rfl, hx⟩ := zw x32
  have hl : ∀ i, i < 9 → (wtR (σ.1 i)).length ≤ 64 := fun i hi => wtR_b (g.1 i hi)
  by_cases c : 0 ≤ x ∧ x ≤ 8
  · refine ⟨0, (σ.1, σ.2.1, σ.2.2.1, σ.2.2.2.1, σ.2.2.2.2.1, σ.2.2.2.2.2.1, wtR (σ.1 x.toNat)), zI ((wtR (σ.1 x.toNat)).length : Nat), by decide, fun h S n m e f Q I C G H q => ?_, fun h S0 cd Q ⟨wr, tx, ou, K, r⟩ q => ?_⟩
    · skip
      refine jx (pc' := 4) (L' := [_, _, _, _]) (st' := [_, _, .int (zI 0), _]) 4 rfl ?_
      refine jcv (pc' := 7) 43 [_] [.int (zI 0), _] (I.ob C.1) rfl rfl rfl rfl rfl rfl rfl rfl ?_
      refine v_write I C G hx hl (fun z => absurd c z) (fun _ h1 S1 I1 P => jk ?_)
      have H1 := (P.2.2 111 (by decide)).trans H
      refine jx (pc' := 8) (L' := [_, _, _, _]) (st' := [_, .int (zI 0), _]) 1 rfl ?_
      try simp (disch := omega) only [kz, kzl0, kzl1, kzb, kzs, zI_add, zI_sub, zI_neg, zI_mul, zL_i, zI_l, zL_add, zL_sub, zL_neg]
      refine jaWL (pc' := 9) 0 I1 H1 rfl rfl rfl (by decide) rfl fun h2 I2 => ?_
      refine jx (pc' := 16) (L' := [_, _, _, _]) (st' := [.int (zI 0)]) 2 rfl ?_
      refine jri rfl rfl ?_
      exact q _ _ _ _ _ I2 (P.ct (by omega) (by omega)).up (va_up_self _ _ _) (fun _ => by rw [vpu, nz])
    · exact m_write K g.1 hx (fun z => absurd c z) (fun _ h' wr' ou' O K => q _ ⟨wr', tx, ou', K, O, r.2⟩)
  · refine ⟨1, σ, zI 0, by decide, fun h S n m e f Q I C G H q => ?_, fun h S0 cd Q ⟨wr, tx, ou, K, r⟩ q => ?_⟩
    · skip
      refine jx (pc' := 4) (L' := [_, _, _, _]) (st' := [_, _, .int (zI 0), _]) 4 rfl ?_
      refine jcv (pc' := 7) 43 [_] [.int (zI 0), _] (I.ob C.1) rfl rfl rfl rfl rfl rfl rfl rfl ?_
      refine v_write I C G hx hl (fun _ h1 S1 I1 P => ?_) (fun z => absurd z c)
      refine jkc (t := 12) rfl ?_
      refine jx (pc' := 14) (L' := [_, _, _, _]) (st' := [.int (zI 1)]) 2 rfl ?_
      try simp (disch := omega) only [kz, kzl0, kzl1, kzb, kzs, zI_add, zI_sub, zI_neg, zI_mul, zL_i, zI_l, zL_add, zL_sub, zL_neg]
      refine jri rfl rfl ?_
      exact q _ _ _ _ _ I1 (P.ct (by omega) (by omega)) ((P.2.2 111 (by decide)).trans H) (fun z => absurd z (by decide))
    · exact m_write K g.1 hx (fun _ h' K => q _ ⟨wr, tx, ou, K, r⟩) (fun z => absurd z c)
end LAW
