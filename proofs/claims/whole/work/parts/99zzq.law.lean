/-! ===== the law: its 23 calls (printed by genlaw.py) ===== -/
section LAW
variable {h : ix_H} {Q : ix_O → ix_H → Prop} {S S0 : Nat → AC} {σ : Stt} {n m L p mi : Nat} {xs : Nat → Int32} {y5 y6 y7 : Option Value} {cd : Nat} {f : Nat → Int64}
theorem RT.ob (K : RT S0 h σ cd) : ∃ fs, ix_ob h 98 10 fs := by
  obtain ⟨wr, tx, ou, K, r⟩ := K
  obtain ⟨S', I, a, R, si, V, mo, ng, sp, il, rs, pt, rl, wo, b1, b2, b3⟩ := K.to
  exact ⟨_, I.ob b2⟩
theorem RT.thrown (K : RT S0 h σ cd) (q : Q (.inl (some (.int (zI (cd : Int))))) h) : ix_M 164 [.ref 98] h Q := by
  obtain ⟨wr, tx, ou, K, r⟩ := K
  exact m_thrown K q
theorem RT.at111 (K : RT S0 h σ cd) (H : S0 111 = aC (cL 1 f)) : ∃ S, Inv h S ∧ S 111 = aC (cL 1 f) := by
  obtain ⟨wr, tx, ou, K, r⟩ := K
  obtain ⟨S', I, a, K⟩ := K.to
  exact ⟨S', I, (a 111 (by decide)).trans H⟩
/-- an element of the script -/
theorem jld {A D D' k : Nat} {Lc : ix_L} {st : List Value} (hx : ix_ru 4 mi A Lc st h = some (D, Lc, .int (nI p + nI k) :: .ref 31 :: st, h)) (I : Inv h S) (g : S 0 = aG n m (cI 0 L xs)) (hi : ix_ins mi D = some .iaload) (ht : ix_thr mi D = none) (hk : p + k < L) (hL : L ≤ 3584) (hp : D + 1 = D') (q : ix_E mi D' Lc (.int (xs (p + k)) :: st) h Q) : ix_E mi A Lc st h Q := by
  refine jx 4 hx ?_
  have h32 := I.1.1
  have e0 := (I.gh g).2.2.2
  rw [nI_add]
  have e1 := nI_clamp (n := p + k) (by omega)
  have e2 := nI_pos (n := p + k) (by omega)
  refine jx1 (pc' := D') (L' := Lc) (st' := .int (xs (p + k)) :: st) (h' := h) ?_ q
  rw [ix_s1_of hi rfl rfl ht]
  simp only [ix_x1, ix_al, e0, e1, hp]
  have h3 : 31 < h.1 := by omega
  rw [if_pos ⟨trivial, Or.inr trivial, h3, e2, hk⟩]
theorem lw_load (j : J h σ n m (cI 0 L xs)) (hp : p + 7 ≤ L) (hL : L ≤ 3584) (hn : n < 1000) (hm : m ≤ 100000) (q : ∀ h' σ' n' m' x5 x6 x7, J h' σ' n' m' (cI 0 L xs) → n' ≤ n + 1 → m' ≤ m + 6 → ix_E 0 1468 [some (.ref 31), some (.ref 32), some (.ref 98), some (.ref 111), some (.int (nI p)), x5, x6, x7] [] h' Q) : ix_E 0 148 [some (.ref 31), some (.ref 32), some (.ref 98), some (.ref 111), some (.int (nI p)), y5, y6, y7] [] h Q := by
  obtain ⟨S, cd, wr, tx, ou, f, I, D, g, H, K, r⟩ := j
  have G : Rm S n m (cI 0 L xs) := ⟨g, by rw [CM_e]; omega, by rw [SM_e]; omega⟩
  obtain ⟨oc, σ', ho, O1, O2⟩ := o_load D.gd (xs (p + 1)) (xs (p + 2)) (xs (p + 3)) (xs (p + 4)) (xs (p + 5)) (xs (p + 6))
  refine jx (pc' := 149) (L' := [_, _, _, _, _, _, _, _]) (st' := [.ref 32]) 1 rfl ?_
  refine jld (D := 154) (D' := 155) (k := 1) (p := p) rfl I g rfl rfl (by omega) hL rfl ?_
  refine jld (D := 160) (D' := 161) (k := 2) (p := p) rfl I g rfl rfl (by omega) hL rfl ?_
  refine jld (D := 166) (D' := 167) (k := 3) (p := p) rfl I g rfl rfl (by omega) hL rfl ?_
  refine jld (D := 172) (D' := 173) (k := 4) (p := p) rfl I g rfl rfl (by omega) hL rfl ?_
  refine jld (D := 178) (D' := 179) (k := 5) (p := p) rfl I g rfl rfl (by omega) hL rfl ?_
  refine jld (D := 185) (D' := 186) (k := 6) (p := p) rfl I g rfl rfl (by omega) hL rfl ?_
  refine jcs (pc' := 189) 1 [.ref 32, .int (xs (p + 1)), .int (xs (p + 2)), .int (xs (p + 3)), .int (xs (p + 4)), .int (xs (p + 5)), .int (xs (p + 6))] [] rfl rfl rfl rfl rfl rfl rfl rfl ?_
  refine O1 _ S n m _ _ I D G fun h1 S1 n1 m1 I1 P H1 => jk ?_
  have g1 := P.2.1
  refine jx (pc' := 192) (L' := [_, _, _, _, _, _, _, _]) (st' := [.ref 98]) 2 rfl ?_
  refine jld (D := 197) (D' := 198) (k := 1) (p := p) rfl I1 g1 rfl rfl (by omega) hL rfl ?_
  refine jld (D := 203) (D' := 204) (k := 2) (p := p) rfl I1 g1 rfl rfl (by omega) hL rfl ?_
  refine jld (D := 209) (D' := 210) (k := 3) (p := p) rfl I1 g1 rfl rfl (by omega) hL rfl ?_
  refine jld (D := 215) (D' := 216) (k := 4) (p := p) rfl I1 g1 rfl rfl (by omega) hL rfl ?_
  refine jld (D := 221) (D' := 222) (k := 5) (p := p) rfl I1 g1 rfl rfl (by omega) hL rfl ?_
  refine jld (D := 228) (D' := 229) (k := 6) (p := p) rfl I1 g1 rfl rfl (by omega) hL rfl ?_
  have K1 := K.rt r I1 P.2.2.1
  obtain ⟨fs1, B1⟩ := K1.ob
  refine jcv (pc' := 232) 165 [.int (xs (p + 1)), .int (xs (p + 2)), .int (xs (p + 3)), .int (xs (p + 4)), .int (xs (p + 5)), .int (xs (p + 6))] [] B1 rfl rfl rfl rfl rfl rfl rfl rfl ?_
  refine O2 _ S1 cd _ K1 fun h2 K2 => jk ?_
  have j2 := J.mk K2 P.1 g1 (H1.trans H)
  refine jx (pc' := 233) (L' := [_, _, _, _, _, _, _, _]) (st' := [.ref 98]) 1 rfl ?_
  obtain ⟨fs2, B2⟩ := K2.ob
  refine jcv (pc' := 236) 164 [] [] B2 rfl rfl rfl rfl rfl rfl rfl rfl ?_
  refine K2.thrown (jk ?_)
  refine jx (pc' := 238) (L' := [_, _, _, _, _, _, _, _]) (st' := [.int (zI oc), .int (zI oc)]) 1 rfl ?_
  refine jct (pc' := 243) rfl rfl rfl (cc_self _) ?_
  refine jx (pc' := 1468) (L' := [_, _, _, _, _, _, _, _]) (st' := []) 1 rfl ?_
  exact q _ _ _ _ _ _ _ j2 P.2.2.2.1 P.2.2.2.2
theorem lw_bits (j : J h σ n m (cI 0 L xs)) (hp : p + 7 ≤ L) (hL : L ≤ 3584) (hn : n < 1000) (hm : m ≤ 100000) (q : ∀ h' σ' n' m' x5 x6 x7, J h' σ' n' m' (cI 0 L xs) → n' ≤ n + 1 → m' ≤ m + 6 → ix_E 0 1468 [some (.ref 31), some (.ref 32), some (.ref 98), some (.ref 111), some (.int (nI p)), x5, x6, x7] [] h' Q) : ix_E 0 246 [some (.ref 31), some (.ref 32), some (.ref 98), some (.ref 111), some (.int (nI p)), y5, y6, y7] [] h Q := by
  obtain ⟨S, cd, wr, tx, ou, f, I, D, g, H, K, r⟩ := j
  have G : Rm S n m (cI 0 L xs) := ⟨g, by rw [CM_e]; omega, by rw [SM_e]; omega⟩
  obtain ⟨σ', v, O1, O2⟩ := o_bits D.gd (xs (p + 1)) (xs (p + 2))
  refine jx (pc' := 247) (L' := [_, _, _, _, _, _, _, _]) (st' := [.ref 32]) 1 rfl ?_
  refine jld (D := 252) (D' := 253) (k := 1) (p := p) rfl I g rfl rfl (by omega) hL rfl ?_
  refine jld (D := 258) (D' := 259) (k := 2) (p := p) rfl I g rfl rfl (by omega) hL rfl ?_
  refine jcv (pc' := 262) 15 [.int (xs (p + 1)), .int (xs (p + 2))] [] (I.ob D.1) rfl rfl rfl rfl rfl rfl rfl rfl ?_
  refine O1 _ S n m _ _ I D G fun h1 S1 n1 m1 I1 P H1 => jk ?_
  have g1 := P.2.1
  refine jx (pc' := 263) (L' := [_, _, _, _, _, _, _, _]) (st' := [.ref 98, .int v]) 1 rfl ?_
  refine jld (D := 268) (D' := 269) (k := 1) (p := p) rfl I1 g1 rfl rfl (by omega) hL rfl ?_
  refine jld (D := 274) (D' := 275) (k := 2) (p := p) rfl I1 g1 rfl rfl (by omega) hL rfl ?_
  have K1 := K.rt r I1 P.2.2.1
  obtain ⟨fs1, B1⟩ := K1.ob
  refine jcv (pc' := 278) 180 [.int (xs (p + 1)), .int (xs (p + 2))] [.int v] B1 rfl rfl rfl rfl rfl rfl rfl rfl ?_
  refine O2 _ S1 cd _ K1 fun h2 K2 => jk ?_
  have j2 := J.mk K2 P.1 g1 (H1.trans H)
  refine jct (pc' := 1468) rfl rfl rfl (cc_self _) ?_
  exact q _ _ _ _ _ _ _ j2 P.2.2.2.1 P.2.2.2.2
theorem lw_format (j : J h σ n m (cI 0 L xs)) (hp : p + 7 ≤ L) (hL : L ≤ 3584) (hn : n < 1000) (hm : m ≤ 100000) (q : ∀ h' σ' n' m' x5 x6 x7, J h' σ' n' m' (cI 0 L xs) → n' ≤ n + 1 → m' ≤ m + 6 → ix_E 0 1468 [some (.ref 31), some (.ref 32), some (.ref 98), some (.ref 111), some (.int (nI p)), x5, x6, x7] [] h' Q) : ix_E 0 283 [some (.ref 31), some (.ref 32), some (.ref 98), some (.ref 111), some (.int (nI p)), y5, y6, y7] [] h Q := by
  obtain ⟨S, cd, wr, tx, ou, f, I, D, g, H, K, r⟩ := j
  have G : Rm S n m (cI 0 L xs) := ⟨g, by rw [CM_e]; omega, by rw [SM_e]; omega⟩
  obtain ⟨σ', v, O1, O2⟩ := o_format D.gd (xs (p + 1))
  refine jx (pc' := 284) (L' := [_, _, _, _, _, _, _, _]) (st' := [.ref 32]) 1 rfl ?_
  refine jld (D := 289) (D' := 290) (k := 1) (p := p) rfl I g rfl rfl (by omega) hL rfl ?_
  refine jcv (pc' := 293) 17 [.int (xs (p + 1))] [] (I.ob D.1) rfl rfl rfl rfl rfl rfl rfl rfl ?_
  refine O1 _ S n m _ _ I D G fun h1 S1 n1 m1 I1 P H1 => jk ?_
  have g1 := P.2.1
  refine jx (pc' := 294) (L' := [_, _, _, _, _, _, _, _]) (st' := [.ref 98, .int v]) 1 rfl ?_
  refine jld (D := 299) (D' := 300) (k := 1) (p := p) rfl I1 g1 rfl rfl (by omega) hL rfl ?_
  have K1 := K.rt r I1 P.2.2.1
  obtain ⟨fs1, B1⟩ := K1.ob
  refine jcv (pc' := 303) 186 [.int (xs (p + 1))] [.int v] B1 rfl rfl rfl rfl rfl rfl rfl rfl ?_
  refine O2 _ S1 cd _ K1 fun h2 K2 => jk ?_
  have j2 := J.mk K2 P.1 g1 (H1.trans H)
  refine jct (pc' := 1468) rfl rfl rfl (cc_self _) ?_
  exact q _ _ _ _ _ _ _ j2 P.2.2.2.1 P.2.2.2.2
theorem lw_direct (j : J h σ n m (cI 0 L xs)) (hp : p + 7 ≤ L) (hL : L ≤ 3584) (hn : n < 1000) (hm : m ≤ 100000) (q : ∀ h' σ' n' m' x5 x6 x7, J h' σ' n' m' (cI 0 L xs) → n' ≤ n + 1 → m' ≤ m + 6 → ix_E 0 1468 [some (.ref 31), some (.ref 32), some (.ref 98), some (.ref 111), some (.int (nI p)), x5, x6, x7] [] h' Q) : ix_E 0 308 [some (.ref 31), some (.ref 32), some (.ref 98), some (.ref 111), some (.int (nI p)), y5, y6, y7] [] h Q := by
  obtain ⟨S, cd, wr, tx, ou, f, I, D, g, H, K, r⟩ := j
  have G : Rm S n m (cI 0 L xs) := ⟨g, by rw [CM_e]; omega, by rw [SM_e]; omega⟩
  obtain ⟨σ', v, O1, O2⟩ := o_direct D.gd (xs (p + 1))
  refine jx (pc' := 309) (L' := [_, _, _, _, _, _, _, _]) (st' := [.ref 32]) 1 rfl ?_
  refine jld (D := 314) (D' := 315) (k := 1) (p := p) rfl I g rfl rfl (by omega) hL rfl ?_
  refine jcv (pc' := 318) 18 [.int (xs (p + 1))] [] (I.ob D.1) rfl rfl rfl rfl rfl rfl rfl rfl ?_
  refine O1 _ S n m _ _ I D G fun h1 S1 n1 m1 I1 P H1 => jk ?_
  have g1 := P.2.1
  refine jx (pc' := 319) (L' := [_, _, _, _, _, _, _, _]) (st' := [.ref 98, .int v]) 1 rfl ?_
  refine jld (D := 324) (D' := 325) (k := 1) (p := p) rfl I1 g1 rfl rfl (by omega) hL rfl ?_
  have K1 := K.rt r I1 P.2.2.1
  obtain ⟨fs1, B1⟩ := K1.ob
  refine jcv (pc' := 328) 187 [.int (xs (p + 1))] [.int v] B1 rfl rfl rfl rfl rfl rfl rfl rfl ?_
  refine O2 _ S1 cd _ K1 fun h2 K2 => jk ?_
  have j2 := J.mk K2 P.1 g1 (H1.trans H)
  refine jct (pc' := 1468) rfl rfl rfl (cc_self _) ?_
  exact q _ _ _ _ _ _ _ j2 P.2.2.2.1 P.2.2.2.2
theorem lw_flags (j : J h σ n m (cI 0 L xs)) (hp : p + 7 ≤ L) (hL : L ≤ 3584) (hn : n < 1000) (hm : m ≤ 100000) (q : ∀ h' σ' n' m' x5 x6 x7, J h' σ' n' m' (cI 0 L xs) → n' ≤ n + 1 → m' ≤ m + 6 → ix_E 0 1468 [some (.ref 31), some (.ref 32), some (.ref 98), some (.ref 111), some (.int (nI p)), x5, x6, x7] [] h' Q) : ix_E 0 333 [some (.ref 31), some (.ref 32), some (.ref 98), some (.ref 111), some (.int (nI p)), y5, y6, y7] [] h Q := by
  obtain ⟨S, cd, wr, tx, ou, f, I, D, g, H, K, r⟩ := j
  have G : Rm S n m (cI 0 L xs) := ⟨g, by rw [CM_e]; omega, by rw [SM_e]; omega⟩
  obtain ⟨σ', v, O1, O2⟩ := o_flags D.gd 
  refine jx (pc' := 334) (L' := [_, _, _, _, _, _, _, _]) (st' := [.ref 32]) 1 rfl ?_
  refine jcv (pc' := 337) 19 [] [] (I.ob D.1) rfl rfl rfl rfl rfl rfl rfl rfl ?_
  refine O1 _ S n m _ _ I D G fun h1 S1 n1 m1 I1 P H1 => jk ?_
  have g1 := P.2.1
  refine jx (pc' := 338) (L' := [_, _, _, _, _, _, _, _]) (st' := [.ref 98, .int v]) 1 rfl ?_
  have K1 := K.rt r I1 P.2.2.1
  obtain ⟨fs1, B1⟩ := K1.ob
  refine jcv (pc' := 341) 188 [] [.int v] B1 rfl rfl rfl rfl rfl rfl rfl rfl ?_
  refine O2 _ S1 cd _ K1 fun h2 K2 => jk ?_
  have j2 := J.mk K2 P.1 g1 (H1.trans H)
  refine jct (pc' := 1468) rfl rfl rfl (cc_self _) ?_
  exact q _ _ _ _ _ _ _ j2 P.2.2.2.1 P.2.2.2.2
theorem lw_lower (j : J h σ n m (cI 0 L xs)) (hp : p + 7 ≤ L) (hL : L ≤ 3584) (hn : n < 1000) (hm : m ≤ 100000) (q : ∀ h' σ' n' m' x5 x6 x7, J h' σ' n' m' (cI 0 L xs) → n' ≤ n + 1 → m' ≤ m + 6 → ix_E 0 1468 [some (.ref 31), some (.ref 32), some (.ref 98), some (.ref 111), some (.int (nI p)), x5, x6, x7] [] h' Q) : ix_E 0 346 [some (.ref 31), some (.ref 32), some (.ref 98), some (.ref 111), some (.int (nI p)), y5, y6, y7] [] h Q := by
  obtain ⟨S, cd, wr, tx, ou, f, I, D, g, H, K, r⟩ := j
  have G : Rm S n m (cI 0 L xs) := ⟨g, by rw [CM_e]; omega, by rw [SM_e]; omega⟩
  obtain ⟨σ', v, O1, O2⟩ := o_lower D.gd (xs (p + 1))
  refine jx (pc' := 347) (L' := [_, _, _, _, _, _, _, _]) (st' := [.ref 32]) 1 rfl ?_
  refine jld (D := 352) (D' := 353) (k := 1) (p := p) rfl I g rfl rfl (by omega) hL rfl ?_
  refine jcv (pc' := 356) 20 [.int (xs (p + 1))] [] (I.ob D.1) rfl rfl rfl rfl rfl rfl rfl rfl ?_
  refine O1 _ S n m _ _ I D G fun h1 S1 n1 m1 I1 P H1 => jk ?_
  have g1 := P.2.1
  refine jx (pc' := 357) (L' := [_, _, _, _, _, _, _, _]) (st' := [.ref 98, .int v]) 1 rfl ?_
  refine jld (D := 362) (D' := 363) (k := 1) (p := p) rfl I1 g1 rfl rfl (by omega) hL rfl ?_
  have K1 := K.rt r I1 P.2.2.1
  obtain ⟨fs1, B1⟩ := K1.ob
  refine jcv (pc' := 366) 189 [.int (xs (p + 1))] [.int v] B1 rfl rfl rfl rfl rfl rfl rfl rfl ?_
  refine O2 _ S1 cd _ K1 fun h2 K2 => jk ?_
  have j2 := J.mk K2 P.1 g1 (H1.trans H)
  refine jct (pc' := 1468) rfl rfl rfl (cc_self _) ?_
  exact q _ _ _ _ _ _ _ j2 P.2.2.2.1 P.2.2.2.2
theorem lw_trap (j : J h σ n m (cI 0 L xs)) (hp : p + 7 ≤ L) (hL : L ≤ 3584) (hn : n < 1000) (hm : m ≤ 100000) (q : ∀ h' σ' n' m' x5 x6 x7, J h' σ' n' m' (cI 0 L xs) → n' ≤ n + 1 → m' ≤ m + 6 → ix_E 0 1468 [some (.ref 31), some (.ref 32), some (.ref 98), some (.ref 111), some (.int (nI p)), x5, x6, x7] [] h' Q) : ix_E 0 371 [some (.ref 31), some (.ref 32), some (.ref 98), some (.ref 111), some (.int (nI p)), y5, y6, y7] [] h Q := by
  obtain ⟨S, cd, wr, tx, ou, f, I, D, g, H, K, r⟩ := j
  have G : Rm S n m (cI 0 L xs) := ⟨g, by rw [CM_e]; omega, by rw [SM_e]; omega⟩
  obtain ⟨σ', O1, O2⟩ := o_trap D.gd (xs (p + 1))
  refine jx (pc' := 372) (L' := [_, _, _, _, _, _, _, _]) (st' := [.ref 32]) 1 rfl ?_
  refine jld (D := 377) (D' := 378) (k := 1) (p := p) rfl I g rfl rfl (by omega) hL rfl ?_
  refine jcv (pc' := 381) 21 [.int (xs (p + 1))] [] (I.ob D.1) rfl rfl rfl rfl rfl rfl rfl rfl ?_
  refine O1 _ S n m _ _ I D G fun h1 S1 n1 m1 I1 P H1 => jk ?_
  have g1 := P.2.1
  refine jx (pc' := 382) (L' := [_, _, _, _, _, _, _, _]) (st' := [.ref 98]) 1 rfl ?_
  refine jld (D := 387) (D' := 388) (k := 1) (p := p) rfl I1 g1 rfl rfl (by omega) hL rfl ?_
  have K1 := K.rt r I1 P.2.2.1
  obtain ⟨fs1, B1⟩ := K1.ob
  refine jcv (pc' := 391) 190 [.int (xs (p + 1))] [] B1 rfl rfl rfl rfl rfl rfl rfl rfl ?_
  refine O2 _ S1 cd _ K1 fun h2 K2 => jk ?_
  have j2 := J.mk K2 P.1 g1 (H1.trans H)
  refine jx (pc' := 1468) (L' := [_, _, _, _, _, _, _, _]) (st' := []) 1 rfl ?_
  exact q _ _ _ _ _ _ _ j2 P.2.2.2.1 P.2.2.2.2
theorem lw_two (j : J h σ n m (cI 0 L xs)) (hp : p + 7 ≤ L) (hL : L ≤ 3584) (hn : n < 1000) (hm : m ≤ 100000) (q : ∀ h' σ' n' m' x5 x6 x7, J h' σ' n' m' (cI 0 L xs) → n' ≤ n + 1 → m' ≤ m + 6 → ix_E 0 1468 [some (.ref 31), some (.ref 32), some (.ref 98), some (.ref 111), some (.int (nI p)), x5, x6, x7] [] h' Q) : ix_E 0 394 [some (.ref 31), some (.ref 32), some (.ref 98), some (.ref 111), some (.int (nI p)), y5, y6, y7] [] h Q := by
  obtain ⟨S, cd, wr, tx, ou, f, I, D, g, H, K, r⟩ := j
  have G : Rm S n m (cI 0 L xs) := ⟨g, by rw [CM_e]; omega, by rw [SM_e]; omega⟩
  obtain ⟨oc, σ', v, ho, O1, O2⟩ := o_two D.gd (xs (p + 1)) (xs (p + 2)) (xs (p + 3)) (xs (p + 4))
  refine jx (pc' := 395) (L' := [_, _, _, _, _, _, _, _]) (st' := [.ref 32]) 1 rfl ?_
  refine jld (D := 400) (D' := 401) (k := 1) (p := p) rfl I g rfl rfl (by omega) hL rfl ?_
  refine jld (D := 406) (D' := 407) (k := 2) (p := p) rfl I g rfl rfl (by omega) hL rfl ?_
  refine jld (D := 412) (D' := 413) (k := 3) (p := p) rfl I g rfl rfl (by omega) hL rfl ?_
  refine jld (D := 418) (D' := 419) (k := 4) (p := p) rfl I g rfl rfl (by omega) hL rfl ?_
  refine jx (pc' := 420) (L' := [_, _, _, _, _, _, _, _]) (st' := [.ref 111, .int (xs (p + 4)), .int (xs (p + 3)), .int (xs (p + 2)), .int (xs (p + 1)), .ref 32]) 1 rfl ?_
  refine jcs (pc' := 423) 2 [.ref 32, .int (xs (p + 1)), .int (xs (p + 2)), .int (xs (p + 3)), .int (xs (p + 4)), .ref 111] [] rfl rfl rfl rfl rfl rfl rfl rfl ?_
  refine O1 _ S n m _ f _ I D G H fun h1 S1 n1 m1 f1 I1 P H1 hv => jk ?_
  have g1 := P.2.1
  refine jx (pc' := 426) (L' := [_, _, _, _, _, _, _, _]) (st' := [.ref 98]) 2 rfl ?_
  refine jld (D := 431) (D' := 432) (k := 1) (p := p) rfl I1 g1 rfl rfl (by omega) hL rfl ?_
  refine jld (D := 437) (D' := 438) (k := 2) (p := p) rfl I1 g1 rfl rfl (by omega) hL rfl ?_
  refine jld (D := 443) (D' := 444) (k := 3) (p := p) rfl I1 g1 rfl rfl (by omega) hL rfl ?_
  refine jld (D := 449) (D' := 450) (k := 4) (p := p) rfl I1 g1 rfl rfl (by omega) hL rfl ?_
  have K1 := K.rt r I1 P.2.2.1
  obtain ⟨fs1, B1⟩ := K1.ob
  refine jcv (pc' := 453) 191 [.int (xs (p + 1)), .int (xs (p + 2)), .int (xs (p + 3)), .int (xs (p + 4))] [] B1 rfl rfl rfl rfl rfl rfl rfl rfl ?_
  refine O2 _ S1 cd _ K1 fun h2 K2 => jk ?_
  have j2 := J.mk K2 P.1 g1 H1
  refine jx (pc' := 456) (L' := [_, _, _, _, _, _, _, _]) (st' := [.ref 98]) 2 rfl ?_
  obtain ⟨fs2, B2⟩ := K2.ob
  refine jcv (pc' := 459) 164 [] [] B2 rfl rfl rfl rfl rfl rfl rfl rfl ?_
  refine K2.thrown (jk ?_)
  refine jx (pc' := 461) (L' := [_, _, _, _, _, _, _, _]) (st' := [.int (zI oc), .int (zI oc)]) 1 rfl ?_
  refine jct (pc' := 466) rfl rfl rfl (cc_self _) ?_
  refine jx (pc' := 468) (L' := [_, _, _, _, _, _, _, _]) (st' := [.int (zI oc)]) 1 rfl ?_
  by_cases z : oc = 0
  · subst z
    refine jin (pc' := 471) 483 rfl rfl rfl rfl rfl ?_
    obtain ⟨S2, I2, H2⟩ := K2.at111 H1
    refine jx (pc' := 473) (L' := [_, _, _, _, _, _, _, _]) (st' := [.int (zI 0), .ref 111]) 2 rfl ?_
    refine jaL (pc' := 474) 0 I2 H2 rfl rfl rfl (by decide) rfl ?_
    rw [hv rfl]
    refine jx (pc' := 478) (L' := [_, _, _, _, _, _, _, _]) (st' := [.int (lg_cmp v.toInt64 v.toInt64)]) 3 rfl ?_
    refine jit (pc' := 483) rfl rfl rfl (by rw [lc_self]; rfl) ?_
    refine jx (pc' := 1468) (L' := [_, _, _, _, _, _, _, _]) (st' := []) 1 rfl ?_
    exact q _ _ _ _ _ _ _ j2 P.2.2.2.1 P.2.2.2.2
  · refine jit (pc' := 483) rfl rfl rfl (by rw [zz_ne ⟨by omega, by omega⟩]; exact decide_eq_true (by omega)) ?_
    refine jx (pc' := 1468) (L' := [_, _, _, _, _, _, _, _]) (st' := []) 1 rfl ?_
    exact q _ _ _ _ _ _ _ j2 P.2.2.2.1 P.2.2.2.2
theorem lw_fused (j : J h σ n m (cI 0 L xs)) (hp : p + 7 ≤ L) (hL : L ≤ 3584) (hn : n < 1000) (hm : m ≤ 100000) (q : ∀ h' σ' n' m' x5 x6 x7, J h' σ' n' m' (cI 0 L xs) → n' ≤ n + 1 → m' ≤ m + 6 → ix_E 0 1468 [some (.ref 31), some (.ref 32), some (.ref 98), some (.ref 111), some (.int (nI p)), x5, x6, x7] [] h' Q) : ix_E 0 486 [some (.ref 31), some (.ref 32), some (.ref 98), some (.ref 111), some (.int (nI p)), y5, y6, y7] [] h Q := by
  obtain ⟨S, cd, wr, tx, ou, f, I, D, g, H, K, r⟩ := j
  have G : Rm S n m (cI 0 L xs) := ⟨g, by rw [CM_e]; omega, by rw [SM_e]; omega⟩
  obtain ⟨oc, σ', v, ho, O1, O2⟩ := o_fused D.gd (xs (p + 1)) (xs (p + 2)) (xs (p + 3)) (xs (p + 4))
  refine jx (pc' := 487) (L' := [_, _, _, _, _, _, _, _]) (st' := [.ref 32]) 1 rfl ?_
  refine jld (D := 492) (D' := 493) (k := 1) (p := p) rfl I g rfl rfl (by omega) hL rfl ?_
  refine jld (D := 498) (D' := 499) (k := 2) (p := p) rfl I g rfl rfl (by omega) hL rfl ?_
  refine jld (D := 504) (D' := 505) (k := 3) (p := p) rfl I g rfl rfl (by omega) hL rfl ?_
  refine jld (D := 510) (D' := 511) (k := 4) (p := p) rfl I g rfl rfl (by omega) hL rfl ?_
  refine jx (pc' := 512) (L' := [_, _, _, _, _, _, _, _]) (st' := [.ref 111, .int (xs (p + 4)), .int (xs (p + 3)), .int (xs (p + 2)), .int (xs (p + 1)), .ref 32]) 1 rfl ?_
  refine jcs (pc' := 515) 3 [.ref 32, .int (xs (p + 1)), .int (xs (p + 2)), .int (xs (p + 3)), .int (xs (p + 4)), .ref 111] [] rfl rfl rfl rfl rfl rfl rfl rfl ?_
  refine O1 _ S n m _ f _ I D G H fun h1 S1 n1 m1 f1 I1 P H1 hv => jk ?_
  have g1 := P.2.1
  refine jx (pc' := 518) (L' := [_, _, _, _, _, _, _, _]) (st' := [.ref 98]) 2 rfl ?_
  refine jld (D := 523) (D' := 524) (k := 1) (p := p) rfl I1 g1 rfl rfl (by omega) hL rfl ?_
  refine jld (D := 529) (D' := 530) (k := 2) (p := p) rfl I1 g1 rfl rfl (by omega) hL rfl ?_
  refine jld (D := 535) (D' := 536) (k := 3) (p := p) rfl I1 g1 rfl rfl (by omega) hL rfl ?_
  refine jld (D := 541) (D' := 542) (k := 4) (p := p) rfl I1 g1 rfl rfl (by omega) hL rfl ?_
  have K1 := K.rt r I1 P.2.2.1
  obtain ⟨fs1, B1⟩ := K1.ob
  refine jcv (pc' := 545) 234 [.int (xs (p + 1)), .int (xs (p + 2)), .int (xs (p + 3)), .int (xs (p + 4))] [] B1 rfl rfl rfl rfl rfl rfl rfl rfl ?_
  refine O2 _ S1 cd _ K1 fun h2 K2 => jk ?_
  have j2 := J.mk K2 P.1 g1 H1
  refine jx (pc' := 548) (L' := [_, _, _, _, _, _, _, _]) (st' := [.ref 98]) 2 rfl ?_
  obtain ⟨fs2, B2⟩ := K2.ob
  refine jcv (pc' := 551) 164 [] [] B2 rfl rfl rfl rfl rfl rfl rfl rfl ?_
  refine K2.thrown (jk ?_)
  refine jx (pc' := 553) (L' := [_, _, _, _, _, _, _, _]) (st' := [.int (zI oc), .int (zI oc)]) 1 rfl ?_
  refine jct (pc' := 558) rfl rfl rfl (cc_self _) ?_
  refine jx (pc' := 560) (L' := [_, _, _, _, _, _, _, _]) (st' := [.int (zI oc)]) 1 rfl ?_
  by_cases z : oc = 0
  · subst z
    refine jin (pc' := 563) 575 rfl rfl rfl rfl rfl ?_
    obtain ⟨S2, I2, H2⟩ := K2.at111 H1
    refine jx (pc' := 565) (L' := [_, _, _, _, _, _, _, _]) (st' := [.int (zI 0), .ref 111]) 2 rfl ?_
    refine jaL (pc' := 566) 0 I2 H2 rfl rfl rfl (by decide) rfl ?_
    rw [hv rfl]
    refine jx (pc' := 570) (L' := [_, _, _, _, _, _, _, _]) (st' := [.int (lg_cmp v.toInt64 v.toInt64)]) 3 rfl ?_
    refine jit (pc' := 575) rfl rfl rfl (by rw [lc_self]; rfl) ?_
    refine jx (pc' := 1468) (L' := [_, _, _, _, _, _, _, _]) (st' := []) 1 rfl ?_
    exact q _ _ _ _ _ _ _ j2 P.2.2.2.1 P.2.2.2.2
  · refine jit (pc' := 575) rfl rfl rfl (by rw [zz_ne ⟨by omega, by omega⟩]; exact decide_eq_true (by omega)) ?_
    refine jx (pc' := 1468) (L' := [_, _, _, _, _, _, _, _]) (st' := []) 1 rfl ?_
    exact q _ _ _ _ _ _ _ j2 P.2.2.2.1 P.2.2.2.2
theorem lw_one (j : J h σ n m (cI 0 L xs)) (hp : p + 7 ≤ L) (hL : L ≤ 3584) (hn : n < 1000) (hm : m ≤ 100000) (q : ∀ h' σ' n' m' x5 x6 x7, J h' σ' n' m' (cI 0 L xs) → n' ≤ n + 1 → m' ≤ m + 6 → ix_E 0 1468 [some (.ref 31), some (.ref 32), some (.ref 98), some (.ref 111), some (.int (nI p)), x5, x6, x7] [] h' Q) : ix_E 0 578 [some (.ref 31), some (.ref 32), some (.ref 98), some (.ref 111), some (.int (nI p)), y5, y6, y7] [] h Q := by
  obtain ⟨S, cd, wr, tx, ou, f, I, D, g, H, K, r⟩ := j
  have G : Rm S n m (cI 0 L xs) := ⟨g, by rw [CM_e]; omega, by rw [SM_e]; omega⟩
  obtain ⟨oc, σ', v, ho, O1, O2⟩ := o_one D.gd (xs (p + 1)) (xs (p + 2)) (xs (p + 3))
  refine jx (pc' := 579) (L' := [_, _, _, _, _, _, _, _]) (st' := [.ref 32]) 1 rfl ?_
  refine jld (D := 584) (D' := 585) (k := 1) (p := p) rfl I g rfl rfl (by omega) hL rfl ?_
  refine jld (D := 590) (D' := 591) (k := 2) (p := p) rfl I g rfl rfl (by omega) hL rfl ?_
  refine jld (D := 596) (D' := 597) (k := 3) (p := p) rfl I g rfl rfl (by omega) hL rfl ?_
  refine jx (pc' := 598) (L' := [_, _, _, _, _, _, _, _]) (st' := [.ref 111, .int (xs (p + 3)), .int (xs (p + 2)), .int (xs (p + 1)), .ref 32]) 1 rfl ?_
  refine jcs (pc' := 601) 4 [.ref 32, .int (xs (p + 1)), .int (xs (p + 2)), .int (xs (p + 3)), .ref 111] [] rfl rfl rfl rfl rfl rfl rfl rfl ?_
  refine O1 _ S n m _ f _ I D G H fun h1 S1 n1 m1 f1 I1 P H1 hv => jk ?_
  have g1 := P.2.1
  refine jx (pc' := 604) (L' := [_, _, _, _, _, _, _, _]) (st' := [.ref 98]) 2 rfl ?_
  refine jld (D := 609) (D' := 610) (k := 1) (p := p) rfl I1 g1 rfl rfl (by omega) hL rfl ?_
  refine jld (D := 615) (D' := 616) (k := 2) (p := p) rfl I1 g1 rfl rfl (by omega) hL rfl ?_
  refine jld (D := 621) (D' := 622) (k := 3) (p := p) rfl I1 g1 rfl rfl (by omega) hL rfl ?_
  have K1 := K.rt r I1 P.2.2.1
  obtain ⟨fs1, B1⟩ := K1.ob
  refine jcv (pc' := 625) 236 [.int (xs (p + 1)), .int (xs (p + 2)), .int (xs (p + 3))] [] B1 rfl rfl rfl rfl rfl rfl rfl rfl ?_
  refine O2 _ S1 cd _ K1 fun h2 K2 => jk ?_
  have j2 := J.mk K2 P.1 g1 H1
  refine jx (pc' := 628) (L' := [_, _, _, _, _, _, _, _]) (st' := [.ref 98]) 2 rfl ?_
  obtain ⟨fs2, B2⟩ := K2.ob
  refine jcv (pc' := 631) 164 [] [] B2 rfl rfl rfl rfl rfl rfl rfl rfl ?_
  refine K2.thrown (jk ?_)
  refine jx (pc' := 633) (L' := [_, _, _, _, _, _, _, _]) (st' := [.int (zI oc), .int (zI oc)]) 1 rfl ?_
  refine jct (pc' := 638) rfl rfl rfl (cc_self _) ?_
  refine jx (pc' := 640) (L' := [_, _, _, _, _, _, _, _]) (st' := [.int (zI oc)]) 1 rfl ?_
  by_cases z : oc = 0
  · subst z
    refine jin (pc' := 643) 655 rfl rfl rfl rfl rfl ?_
    obtain ⟨S2, I2, H2⟩ := K2.at111 H1
    refine jx (pc' := 645) (L' := [_, _, _, _, _, _, _, _]) (st' := [.int (zI 0), .ref 111]) 2 rfl ?_
    refine jaL (pc' := 646) 0 I2 H2 rfl rfl rfl (by decide) rfl ?_
    rw [hv rfl]
    refine jx (pc' := 650) (L' := [_, _, _, _, _, _, _, _]) (st' := [.int (lg_cmp v.toInt64 v.toInt64)]) 3 rfl ?_
    refine jit (pc' := 655) rfl rfl rfl (by rw [lc_self]; rfl) ?_
    refine jx (pc' := 1468) (L' := [_, _, _, _, _, _, _, _]) (st' := []) 1 rfl ?_
    exact q _ _ _ _ _ _ _ j2 P.2.2.2.1 P.2.2.2.2
  · refine jit (pc' := 655) rfl rfl rfl (by rw [zz_ne ⟨by omega, by omega⟩]; exact decide_eq_true (by omega)) ?_
    refine jx (pc' := 1468) (L' := [_, _, _, _, _, _, _, _]) (st' := []) 1 rfl ?_
    exact q _ _ _ _ _ _ _ j2 P.2.2.2.1 P.2.2.2.2
theorem lw_scale (j : J h σ n m (cI 0 L xs)) (hp : p + 7 ≤ L) (hL : L ≤ 3584) (hn : n < 1000) (hm : m ≤ 100000) (q : ∀ h' σ' n' m' x5 x6 x7, J h' σ' n' m' (cI 0 L xs) → n' ≤ n + 1 → m' ≤ m + 6 → ix_E 0 1468 [some (.ref 31), some (.ref 32), some (.ref 98), some (.ref 111), some (.int (nI p)), x5, x6, x7] [] h' Q) : ix_E 0 658 [some (.ref 31), some (.ref 32), some (.ref 98), some (.ref 111), some (.int (nI p)), y5, y6, y7] [] h Q := by
  obtain ⟨S, cd, wr, tx, ou, f, I, D, g, H, K, r⟩ := j
  have G : Rm S n m (cI 0 L xs) := ⟨g, by rw [CM_e]; omega, by rw [SM_e]; omega⟩
  obtain ⟨oc, σ', v, ho, O1, O2⟩ := o_scale D.gd (xs (p + 1)) (xs (p + 2)) (xs (p + 3))
  refine jx (pc' := 659) (L' := [_, _, _, _, _, _, _, _]) (st' := [.ref 32]) 1 rfl ?_
  refine jld (D := 664) (D' := 665) (k := 1) (p := p) rfl I g rfl rfl (by omega) hL rfl ?_
  refine jld (D := 670) (D' := 671) (k := 2) (p := p) rfl I g rfl rfl (by omega) hL rfl ?_
  refine jld (D := 676) (D' := 677) (k := 3) (p := p) rfl I g rfl rfl (by omega) hL rfl ?_
  refine jx (pc' := 678) (L' := [_, _, _, _, _, _, _, _]) (st' := [.ref 111, .int (xs (p + 3)), .int (xs (p + 2)), .int (xs (p + 1)), .ref 32]) 1 rfl ?_
  refine jcs (pc' := 681) 5 [.ref 32, .int (xs (p + 1)), .int (xs (p + 2)), .int (xs (p + 3)), .ref 111] [] rfl rfl rfl rfl rfl rfl rfl rfl ?_
  refine O1 _ S n m _ f _ I D G H fun h1 S1 n1 m1 f1 I1 P H1 hv => jk ?_
  have g1 := P.2.1
  refine jx (pc' := 684) (L' := [_, _, _, _, _, _, _, _]) (st' := [.ref 98]) 2 rfl ?_
  refine jld (D := 689) (D' := 690) (k := 1) (p := p) rfl I1 g1 rfl rfl (by omega) hL rfl ?_
  refine jld (D := 695) (D' := 696) (k := 2) (p := p) rfl I1 g1 rfl rfl (by omega) hL rfl ?_
  refine jld (D := 701) (D' := 702) (k := 3) (p := p) rfl I1 g1 rfl rfl (by omega) hL rfl ?_
  have K1 := K.rt r I1 P.2.2.1
  obtain ⟨fs1, B1⟩ := K1.ob
  refine jcv (pc' := 705) 245 [.int (xs (p + 1)), .int (xs (p + 2)), .int (xs (p + 3))] [] B1 rfl rfl rfl rfl rfl rfl rfl rfl ?_
  refine O2 _ S1 cd _ K1 fun h2 K2 => jk ?_
  have j2 := J.mk K2 P.1 g1 H1
  refine jx (pc' := 708) (L' := [_, _, _, _, _, _, _, _]) (st' := [.ref 98]) 2 rfl ?_
  obtain ⟨fs2, B2⟩ := K2.ob
  refine jcv (pc' := 711) 164 [] [] B2 rfl rfl rfl rfl rfl rfl rfl rfl ?_
  refine K2.thrown (jk ?_)
  refine jx (pc' := 713) (L' := [_, _, _, _, _, _, _, _]) (st' := [.int (zI oc), .int (zI oc)]) 1 rfl ?_
  refine jct (pc' := 718) rfl rfl rfl (cc_self _) ?_
  refine jx (pc' := 720) (L' := [_, _, _, _, _, _, _, _]) (st' := [.int (zI oc)]) 1 rfl ?_
  by_cases z : oc = 0
  · subst z
    refine jin (pc' := 723) 735 rfl rfl rfl rfl rfl ?_
    obtain ⟨S2, I2, H2⟩ := K2.at111 H1
    refine jx (pc' := 725) (L' := [_, _, _, _, _, _, _, _]) (st' := [.int (zI 0), .ref 111]) 2 rfl ?_
    refine jaL (pc' := 726) 0 I2 H2 rfl rfl rfl (by decide) rfl ?_
    rw [hv rfl]
    refine jx (pc' := 730) (L' := [_, _, _, _, _, _, _, _]) (st' := [.int (lg_cmp v.toInt64 v.toInt64)]) 3 rfl ?_
    refine jit (pc' := 735) rfl rfl rfl (by rw [lc_self]; rfl) ?_
    refine jx (pc' := 1468) (L' := [_, _, _, _, _, _, _, _]) (st' := []) 1 rfl ?_
    exact q _ _ _ _ _ _ _ j2 P.2.2.2.1 P.2.2.2.2
  · refine jit (pc' := 735) rfl rfl rfl (by rw [zz_ne ⟨by omega, by omega⟩]; exact decide_eq_true (by omega)) ?_
    refine jx (pc' := 1468) (L' := [_, _, _, _, _, _, _, _]) (st' := []) 1 rfl ?_
    exact q _ _ _ _ _ _ _ j2 P.2.2.2.1 P.2.2.2.2
theorem lw_convert (j : J h σ n m (cI 0 L xs)) (hp : p + 7 ≤ L) (hL : L ≤ 3584) (hn : n < 1000) (hm : m ≤ 100000) (q : ∀ h' σ' n' m' x5 x6 x7, J h' σ' n' m' (cI 0 L xs) → n' ≤ n + 1 → m' ≤ m + 6 → ix_E 0 1468 [some (.ref 31), some (.ref 32), some (.ref 98), some (.ref 111), some (.int (nI p)), x5, x6, x7] [] h' Q) : ix_E 0 738 [some (.ref 31), some (.ref 32), some (.ref 98), some (.ref 111), some (.int (nI p)), y5, y6, y7] [] h Q := by
  obtain ⟨S, cd, wr, tx, ou, f, I, D, g, H, K, r⟩ := j
  have G : Rm S n m (cI 0 L xs) := ⟨g, by rw [CM_e]; omega, by rw [SM_e]; omega⟩
  obtain ⟨oc, σ', v, ho, O1, O2⟩ := o_convert D.gd (xs (p + 1)) (xs (p + 2)) (xs (p + 3))
  refine jx (pc' := 739) (L' := [_, _, _, _, _, _, _, _]) (st' := [.ref 32]) 1 rfl ?_
  refine jld (D := 744) (D' := 745) (k := 1) (p := p) rfl I g rfl rfl (by omega) hL rfl ?_
  refine jld (D := 750) (D' := 751) (k := 2) (p := p) rfl I g rfl rfl (by omega) hL rfl ?_
  refine jld (D := 756) (D' := 757) (k := 3) (p := p) rfl I g rfl rfl (by omega) hL rfl ?_
  refine jx (pc' := 758) (L' := [_, _, _, _, _, _, _, _]) (st' := [.ref 111, .int (xs (p + 3)), .int (xs (p + 2)), .int (xs (p + 1)), .ref 32]) 1 rfl ?_
  refine jcs (pc' := 761) 6 [.ref 32, .int (xs (p + 1)), .int (xs (p + 2)), .int (xs (p + 3)), .ref 111] [] rfl rfl rfl rfl rfl rfl rfl rfl ?_
  refine O1 _ S n m _ f _ I D G H fun h1 S1 n1 m1 f1 I1 P H1 hv => jk ?_
  have g1 := P.2.1
  refine jx (pc' := 764) (L' := [_, _, _, _, _, _, _, _]) (st' := [.ref 98]) 2 rfl ?_
  refine jld (D := 769) (D' := 770) (k := 1) (p := p) rfl I1 g1 rfl rfl (by omega) hL rfl ?_
  refine jld (D := 775) (D' := 776) (k := 2) (p := p) rfl I1 g1 rfl rfl (by omega) hL rfl ?_
  refine jld (D := 781) (D' := 782) (k := 3) (p := p) rfl I1 g1 rfl rfl (by omega) hL rfl ?_
  have K1 := K.rt r I1 P.2.2.1
  obtain ⟨fs1, B1⟩ := K1.ob
  refine jcv (pc' := 785) 247 [.int (xs (p + 1)), .int (xs (p + 2)), .int (xs (p + 3))] [] B1 rfl rfl rfl rfl rfl rfl rfl rfl ?_
  refine O2 _ S1 cd _ K1 fun h2 K2 => jk ?_
  have j2 := J.mk K2 P.1 g1 H1
  refine jx (pc' := 788) (L' := [_, _, _, _, _, _, _, _]) (st' := [.ref 98]) 2 rfl ?_
  obtain ⟨fs2, B2⟩ := K2.ob
  refine jcv (pc' := 791) 164 [] [] B2 rfl rfl rfl rfl rfl rfl rfl rfl ?_
  refine K2.thrown (jk ?_)
  refine jx (pc' := 793) (L' := [_, _, _, _, _, _, _, _]) (st' := [.int (zI oc), .int (zI oc)]) 1 rfl ?_
  refine jct (pc' := 798) rfl rfl rfl (cc_self _) ?_
  refine jx (pc' := 800) (L' := [_, _, _, _, _, _, _, _]) (st' := [.int (zI oc)]) 1 rfl ?_
  by_cases z : oc = 0
  · subst z
    refine jin (pc' := 803) 815 rfl rfl rfl rfl rfl ?_
    obtain ⟨S2, I2, H2⟩ := K2.at111 H1
    refine jx (pc' := 805) (L' := [_, _, _, _, _, _, _, _]) (st' := [.int (zI 0), .ref 111]) 2 rfl ?_
    refine jaL (pc' := 806) 0 I2 H2 rfl rfl rfl (by decide) rfl ?_
    rw [hv rfl]
    refine jx (pc' := 810) (L' := [_, _, _, _, _, _, _, _]) (st' := [.int (lg_cmp v.toInt64 v.toInt64)]) 3 rfl ?_
    refine jit (pc' := 815) rfl rfl rfl (by rw [lc_self]; rfl) ?_
    refine jx (pc' := 1468) (L' := [_, _, _, _, _, _, _, _]) (st' := []) 1 rfl ?_
    exact q _ _ _ _ _ _ _ j2 P.2.2.2.1 P.2.2.2.2
  · refine jit (pc' := 815) rfl rfl rfl (by rw [zz_ne ⟨by omega, by omega⟩]; exact decide_eq_true (by omega)) ?_
    refine jx (pc' := 1468) (L' := [_, _, _, _, _, _, _, _]) (st' := []) 1 rfl ?_
    exact q _ _ _ _ _ _ _ j2 P.2.2.2.1 P.2.2.2.2
theorem lw_number (j : J h σ n m (cI 0 L xs)) (hp : p + 7 ≤ L) (hL : L ≤ 3584) (hn : n < 1000) (hm : m ≤ 100000) (q : ∀ h' σ' n' m' x5 x6 x7, J h' σ' n' m' (cI 0 L xs) → n' ≤ n + 1 → m' ≤ m + 6 → ix_E 0 1468 [some (.ref 31), some (.ref 32), some (.ref 98), some (.ref 111), some (.int (nI p)), x5, x6, x7] [] h' Q) : ix_E 0 818 [some (.ref 31), some (.ref 32), some (.ref 98), some (.ref 111), some (.int (nI p)), y5, y6, y7] [] h Q := by
  obtain ⟨S, cd, wr, tx, ou, f, I, D, g, H, K, r⟩ := j
  have G : Rm S n m (cI 0 L xs) := ⟨g, by rw [CM_e]; omega, by rw [SM_e]; omega⟩
  obtain ⟨oc, σ', v, ho, O1, O2⟩ := o_number D.gd (xs (p + 1)) (xs (p + 2)) (xs (p + 3)) (xs (p + 4))
  refine jx (pc' := 819) (L' := [_, _, _, _, _, _, _, _]) (st' := [.ref 32]) 1 rfl ?_
  refine jld (D := 824) (D' := 825) (k := 1) (p := p) rfl I g rfl rfl (by omega) hL rfl ?_
  refine jld (D := 830) (D' := 831) (k := 2) (p := p) rfl I g rfl rfl (by omega) hL rfl ?_
  refine jld (D := 836) (D' := 837) (k := 3) (p := p) rfl I g rfl rfl (by omega) hL rfl ?_
  refine jld (D := 842) (D' := 843) (k := 4) (p := p) rfl I g rfl rfl (by omega) hL rfl ?_
  refine jx (pc' := 844) (L' := [_, _, _, _, _, _, _, _]) (st' := [.ref 111, .int (xs (p + 4)), .int (xs (p + 3)), .int (xs (p + 2)), .int (xs (p + 1)), .ref 32]) 1 rfl ?_
  refine jcs (pc' := 847) 7 [.ref 32, .int (xs (p + 1)), .int (xs (p + 2)), .int (xs (p + 3)), .int (xs (p + 4)), .ref 111] [] rfl rfl rfl rfl rfl rfl rfl rfl ?_
  refine O1 _ S n m _ f _ I D G H fun h1 S1 n1 m1 f1 I1 P H1 hv => jk ?_
  have g1 := P.2.1
  refine jx (pc' := 850) (L' := [_, _, _, _, _, _, _, _]) (st' := [.ref 98]) 2 rfl ?_
  refine jld (D := 855) (D' := 856) (k := 1) (p := p) rfl I1 g1 rfl rfl (by omega) hL rfl ?_
  refine jld (D := 861) (D' := 862) (k := 2) (p := p) rfl I1 g1 rfl rfl (by omega) hL rfl ?_
  refine jld (D := 867) (D' := 868) (k := 3) (p := p) rfl I1 g1 rfl rfl (by omega) hL rfl ?_
  refine jld (D := 873) (D' := 874) (k := 4) (p := p) rfl I1 g1 rfl rfl (by omega) hL rfl ?_
  have K1 := K.rt r I1 P.2.2.1
  obtain ⟨fs1, B1⟩ := K1.ob
  refine jcv (pc' := 877) 248 [.int (xs (p + 1)), .int (xs (p + 2)), .int (xs (p + 3)), .int (xs (p + 4))] [] B1 rfl rfl rfl rfl rfl rfl rfl rfl ?_
  refine O2 _ S1 cd _ K1 fun h2 K2 => jk ?_
  have j2 := J.mk K2 P.1 g1 H1
  refine jx (pc' := 880) (L' := [_, _, _, _, _, _, _, _]) (st' := [.ref 98]) 2 rfl ?_
  obtain ⟨fs2, B2⟩ := K2.ob
  refine jcv (pc' := 883) 164 [] [] B2 rfl rfl rfl rfl rfl rfl rfl rfl ?_
  refine K2.thrown (jk ?_)
  refine jx (pc' := 885) (L' := [_, _, _, _, _, _, _, _]) (st' := [.int (zI oc), .int (zI oc)]) 1 rfl ?_
  refine jct (pc' := 890) rfl rfl rfl (cc_self _) ?_
  refine jx (pc' := 892) (L' := [_, _, _, _, _, _, _, _]) (st' := [.int (zI oc)]) 1 rfl ?_
  by_cases z : oc = 0
  · subst z
    refine jin (pc' := 895) 907 rfl rfl rfl rfl rfl ?_
    obtain ⟨S2, I2, H2⟩ := K2.at111 H1
    refine jx (pc' := 897) (L' := [_, _, _, _, _, _, _, _]) (st' := [.int (zI 0), .ref 111]) 2 rfl ?_
    refine jaL (pc' := 898) 0 I2 H2 rfl rfl rfl (by decide) rfl ?_
    rw [hv rfl]
    refine jx (pc' := 902) (L' := [_, _, _, _, _, _, _, _]) (st' := [.int (lg_cmp v.toInt64 v.toInt64)]) 3 rfl ?_
    refine jit (pc' := 907) rfl rfl rfl (by rw [lc_self]; rfl) ?_
    refine jx (pc' := 1468) (L' := [_, _, _, _, _, _, _, _]) (st' := []) 1 rfl ?_
    exact q _ _ _ _ _ _ _ j2 P.2.2.2.1 P.2.2.2.2
  · refine jit (pc' := 907) rfl rfl rfl (by rw [zz_ne ⟨by omega, by omega⟩]; exact decide_eq_true (by omega)) ?_
    refine jx (pc' := 1468) (L' := [_, _, _, _, _, _, _, _]) (st' := []) 1 rfl ?_
    exact q _ _ _ _ _ _ _ j2 P.2.2.2.1 P.2.2.2.2
theorem lw_whole (j : J h σ n m (cI 0 L xs)) (hp : p + 7 ≤ L) (hL : L ≤ 3584) (hn : n < 1000) (hm : m ≤ 100000) (q : ∀ h' σ' n' m' x5 x6 x7, J h' σ' n' m' (cI 0 L xs) → n' ≤ n + 1 → m' ≤ m + 6 → ix_E 0 1468 [some (.ref 31), some (.ref 32), some (.ref 98), some (.ref 111), some (.int (nI p)), x5, x6, x7] [] h' Q) : ix_E 0 910 [some (.ref 31), some (.ref 32), some (.ref 98), some (.ref 111), some (.int (nI p)), y5, y6, y7] [] h Q := by
  obtain ⟨S, cd, wr, tx, ou, f, I, D, g, H, K, r⟩ := j
  have G : Rm S n m (cI 0 L xs) := ⟨g, by rw [CM_e]; omega, by rw [SM_e]; omega⟩
  obtain ⟨b, hb⟩ : ∃ b : Bool, ix_cc .eq (xs (p + 3)) 0 = !b := ⟨!ix_cc .eq (xs (p + 3)) 0, (Bool.not_not _).symm⟩
  obtain ⟨oc, σ', v, ho, O1, O2⟩ := o_whole D.gd (xs (p + 1)) (xs (p + 2)) b
  refine jx (pc' := 911) (L' := [_, _, _, _, _, _, _, _]) (st' := [.ref 32]) 1 rfl ?_
  refine jld (D := 916) (D' := 917) (k := 1) (p := p) rfl I g rfl rfl (by omega) hL rfl ?_
  refine jld (D := 922) (D' := 923) (k := 2) (p := p) rfl I g rfl rfl (by omega) hL rfl ?_
  refine jld (D := 928) (D' := 929) (k := 3) (p := p) rfl I g rfl rfl (by omega) hL rfl ?_
  suffices T : ix_E 0 937 [some (.ref 31), some (.ref 32), some (.ref 98), some (.ref 111), some (.int (nI p)), y5, y6, y7] [.int (bI b), .int (xs (p + 2)), .int (xs (p + 1)), .ref 32] h Q by
    cases b
    · refine jit (pc' := 936) rfl rfl rfl hb ?_
      refine jx (pc' := 937) (L' := [_, _, _, _, _, _, _, _]) (st' := [.int (bI false), _, _, _]) 1 rfl ?_
      exact T
    · refine jin (pc' := 932) 936 rfl rfl rfl rfl hb ?_
      refine jx (pc' := 937) (L' := [_, _, _, _, _, _, _, _]) (st' := [.int (bI true), _, _, _]) 2 rfl ?_
      exact T
  refine jx (pc' := 938) (L' := [_, _, _, _, _, _, _, _]) (st' := [.ref 111, .int (bI b), .int (xs (p + 2)), .int (xs (p + 1)), .ref 32]) 1 rfl ?_
  refine jcs (pc' := 941) 8 [.ref 32, .int (xs (p + 1)), .int (xs (p + 2)), .int (bI b), .ref 111] [] rfl rfl rfl rfl rfl rfl rfl rfl ?_
  refine O1 _ S n m _ f _ I D G H fun h1 S1 n1 m1 f1 I1 P H1 hv => jk ?_
  have g1 := P.2.1
  refine jx (pc' := 944) (L' := [_, _, _, _, _, _, _, _]) (st' := [.ref 98]) 2 rfl ?_
  refine jld (D := 949) (D' := 950) (k := 1) (p := p) rfl I1 g1 rfl rfl (by omega) hL rfl ?_
  refine jld (D := 955) (D' := 956) (k := 2) (p := p) rfl I1 g1 rfl rfl (by omega) hL rfl ?_
  refine jld (D := 961) (D' := 962) (k := 3) (p := p) rfl I1 g1 rfl rfl (by omega) hL rfl ?_
  suffices T : ix_E 0 970 [some (.ref 31), some (.ref 32), some (.ref 98), some (.ref 111), some (.int (nI p)), some (.int (zI oc)), y6, y7] [.int (bI b), .int (xs (p + 2)), .int (xs (p + 1)), .ref 98] h1 Q by
    cases b
    · refine jit (pc' := 969) rfl rfl rfl hb ?_
      refine jx (pc' := 970) (L' := [_, _, _, _, _, _, _, _]) (st' := [.int (bI false), _, _, _]) 1 rfl ?_
      exact T
    · refine jin (pc' := 965) 969 rfl rfl rfl rfl hb ?_
      refine jx (pc' := 970) (L' := [_, _, _, _, _, _, _, _]) (st' := [.int (bI true), _, _, _]) 2 rfl ?_
      exact T
  have K1 := K.rt r I1 P.2.2.1
  obtain ⟨fs1, B1⟩ := K1.ob
  refine jcv (pc' := 973) 249 [.int (xs (p + 1)), .int (xs (p + 2)), .int (bI b)] [] B1 rfl rfl rfl rfl rfl rfl rfl rfl ?_
  refine O2 _ S1 cd _ K1 fun h2 K2 => jk ?_
  have j2 := J.mk K2 P.1 g1 H1
  refine jx (pc' := 976) (L' := [_, _, _, _, _, _, _, _]) (st' := [.ref 98]) 2 rfl ?_
  obtain ⟨fs2, B2⟩ := K2.ob
  refine jcv (pc' := 979) 164 [] [] B2 rfl rfl rfl rfl rfl rfl rfl rfl ?_
  refine K2.thrown (jk ?_)
  refine jx (pc' := 981) (L' := [_, _, _, _, _, _, _, _]) (st' := [.int (zI oc), .int (zI oc)]) 1 rfl ?_
  refine jct (pc' := 986) rfl rfl rfl (cc_self _) ?_
  refine jx (pc' := 988) (L' := [_, _, _, _, _, _, _, _]) (st' := [.int (zI oc)]) 1 rfl ?_
  by_cases z : oc = 0
  · subst z
    refine jin (pc' := 991) 1002 rfl rfl rfl rfl rfl ?_
    obtain ⟨S2, I2, H2⟩ := K2.at111 H1
    refine jx (pc' := 993) (L' := [_, _, _, _, _, _, _, _]) (st' := [.int (zI 0), .ref 111]) 2 rfl ?_
    refine jaL (pc' := 994) 0 I2 H2 rfl rfl rfl (by decide) rfl ?_
    rw [hv rfl]
    refine jx (pc' := 997) (L' := [_, _, _, _, _, _, _, _]) (st' := [.int (lg_cmp v v)]) 2 rfl ?_
    refine jit (pc' := 1002) rfl rfl rfl (by rw [lc_self]; rfl) ?_
    refine jx (pc' := 1468) (L' := [_, _, _, _, _, _, _, _]) (st' := []) 1 rfl ?_
    exact q _ _ _ _ _ _ _ j2 P.2.2.2.1 P.2.2.2.2
  · refine jit (pc' := 1002) rfl rfl rfl (by rw [zz_ne ⟨by omega, by omega⟩]; exact decide_eq_true (by omega)) ?_
    refine jx (pc' := 1468) (L' := [_, _, _, _, _, _, _, _]) (st' := []) 1 rfl ?_
    exact q _ _ _ _ _ _ _ j2 P.2.2.2.1 P.2.2.2.2
theorem lw_log (j : J h σ n m (cI 0 L xs)) (hp : p + 7 ≤ L) (hL : L ≤ 3584) (hn : n < 1000) (hm : m ≤ 100000) (q : ∀ h' σ' n' m' x5 x6 x7, J h' σ' n' m' (cI 0 L xs) → n' ≤ n + 1 → m' ≤ m + 6 → ix_E 0 1468 [some (.ref 31), some (.ref 32), some (.ref 98), some (.ref 111), some (.int (nI p)), x5, x6, x7] [] h' Q) : ix_E 0 1005 [some (.ref 31), some (.ref 32), some (.ref 98), some (.ref 111), some (.int (nI p)), y5, y6, y7] [] h Q := by
  obtain ⟨S, cd, wr, tx, ou, f, I, D, g, H, K, r⟩ := j
  have G : Rm S n m (cI 0 L xs) := ⟨g, by rw [CM_e]; omega, by rw [SM_e]; omega⟩
  obtain ⟨oc, σ', v, ho, O1, O2⟩ := o_log D.gd (xs (p + 1))
  refine jx (pc' := 1006) (L' := [_, _, _, _, _, _, _, _]) (st' := [.ref 32]) 1 rfl ?_
  refine jld (D := 1011) (D' := 1012) (k := 1) (p := p) rfl I g rfl rfl (by omega) hL rfl ?_
  refine jx (pc' := 1013) (L' := [_, _, _, _, _, _, _, _]) (st' := [.ref 111, .int (xs (p + 1)), .ref 32]) 1 rfl ?_
  refine jcs (pc' := 1016) 9 [.ref 32, .int (xs (p + 1)), .ref 111] [] rfl rfl rfl rfl rfl rfl rfl rfl ?_
  refine O1 _ S n m _ f _ I D G H fun h1 S1 n1 m1 f1 I1 P H1 hv => jk ?_
  have g1 := P.2.1
  refine jx (pc' := 1019) (L' := [_, _, _, _, _, _, _, _]) (st' := [.ref 98]) 2 rfl ?_
  refine jld (D := 1024) (D' := 1025) (k := 1) (p := p) rfl I1 g1 rfl rfl (by omega) hL rfl ?_
  have K1 := K.rt r I1 P.2.2.1
  obtain ⟨fs1, B1⟩ := K1.ob
  refine jcv (pc' := 1028) 251 [.int (xs (p + 1))] [] B1 rfl rfl rfl rfl rfl rfl rfl rfl ?_
  refine O2 _ S1 cd _ K1 fun h2 K2 => jk ?_
  have j2 := J.mk K2 P.1 g1 H1
  refine jx (pc' := 1031) (L' := [_, _, _, _, _, _, _, _]) (st' := [.ref 98]) 2 rfl ?_
  obtain ⟨fs2, B2⟩ := K2.ob
  refine jcv (pc' := 1034) 164 [] [] B2 rfl rfl rfl rfl rfl rfl rfl rfl ?_
  refine K2.thrown (jk ?_)
  refine jx (pc' := 1036) (L' := [_, _, _, _, _, _, _, _]) (st' := [.int (zI oc), .int (zI oc)]) 1 rfl ?_
  refine jct (pc' := 1041) rfl rfl rfl (cc_self _) ?_
  refine jx (pc' := 1043) (L' := [_, _, _, _, _, _, _, _]) (st' := [.int (zI oc)]) 1 rfl ?_
  by_cases z : oc = 0
  · subst z
    refine jin (pc' := 1046) 1058 rfl rfl rfl rfl rfl ?_
    obtain ⟨S2, I2, H2⟩ := K2.at111 H1
    refine jx (pc' := 1048) (L' := [_, _, _, _, _, _, _, _]) (st' := [.int (zI 0), .ref 111]) 2 rfl ?_
    refine jaL (pc' := 1049) 0 I2 H2 rfl rfl rfl (by decide) rfl ?_
    rw [hv rfl]
    refine jx (pc' := 1053) (L' := [_, _, _, _, _, _, _, _]) (st' := [.int (lg_cmp v.toInt64 v.toInt64)]) 3 rfl ?_
    refine jit (pc' := 1058) rfl rfl rfl (by rw [lc_self]; rfl) ?_
    refine jx (pc' := 1468) (L' := [_, _, _, _, _, _, _, _]) (st' := []) 1 rfl ?_
    exact q _ _ _ _ _ _ _ j2 P.2.2.2.1 P.2.2.2.2
  · refine jit (pc' := 1058) rfl rfl rfl (by rw [zz_ne ⟨by omega, by omega⟩]; exact decide_eq_true (by omega)) ?_
    refine jx (pc' := 1468) (L' := [_, _, _, _, _, _, _, _]) (st' := []) 1 rfl ?_
    exact q _ _ _ _ _ _ _ j2 P.2.2.2.1 P.2.2.2.2
theorem lw_compare (j : J h σ n m (cI 0 L xs)) (hp : p + 7 ≤ L) (hL : L ≤ 3584) (hn : n < 1000) (hm : m ≤ 100000) (q : ∀ h' σ' n' m' x5 x6 x7, J h' σ' n' m' (cI 0 L xs) → n' ≤ n + 1 → m' ≤ m + 6 → ix_E 0 1468 [some (.ref 31), some (.ref 32), some (.ref 98), some (.ref 111), some (.int (nI p)), x5, x6, x7] [] h' Q) : ix_E 0 1061 [some (.ref 31), some (.ref 32), some (.ref 98), some (.ref 111), some (.int (nI p)), y5, y6, y7] [] h Q := by
  obtain ⟨S, cd, wr, tx, ou, f, I, D, g, H, K, r⟩ := j
  have G : Rm S n m (cI 0 L xs) := ⟨g, by rw [CM_e]; omega, by rw [SM_e]; omega⟩
  obtain ⟨b, hb⟩ : ∃ b : Bool, ix_cc .eq (xs (p + 3)) 0 = !b := ⟨!ix_cc .eq (xs (p + 3)) 0, (Bool.not_not _).symm⟩
  obtain ⟨oc, σ', v, ho, O1, O2⟩ := o_compare D.gd (xs (p + 1)) (xs (p + 2)) b
  refine jx (pc' := 1062) (L' := [_, _, _, _, _, _, _, _]) (st' := [.ref 32]) 1 rfl ?_
  refine jld (D := 1067) (D' := 1068) (k := 1) (p := p) rfl I g rfl rfl (by omega) hL rfl ?_
  refine jld (D := 1073) (D' := 1074) (k := 2) (p := p) rfl I g rfl rfl (by omega) hL rfl ?_
  refine jld (D := 1079) (D' := 1080) (k := 3) (p := p) rfl I g rfl rfl (by omega) hL rfl ?_
  suffices T : ix_E 0 1088 [some (.ref 31), some (.ref 32), some (.ref 98), some (.ref 111), some (.int (nI p)), y5, y6, y7] [.int (bI b), .int (xs (p + 2)), .int (xs (p + 1)), .ref 32] h Q by
    cases b
    · refine jit (pc' := 1087) rfl rfl rfl hb ?_
      refine jx (pc' := 1088) (L' := [_, _, _, _, _, _, _, _]) (st' := [.int (bI false), _, _, _]) 1 rfl ?_
      exact T
    · refine jin (pc' := 1083) 1087 rfl rfl rfl rfl hb ?_
      refine jx (pc' := 1088) (L' := [_, _, _, _, _, _, _, _]) (st' := [.int (bI true), _, _, _]) 2 rfl ?_
      exact T
  refine jx (pc' := 1089) (L' := [_, _, _, _, _, _, _, _]) (st' := [.ref 111, .int (bI b), .int (xs (p + 2)), .int (xs (p + 1)), .ref 32]) 1 rfl ?_
  refine jcs (pc' := 1092) 10 [.ref 32, .int (xs (p + 1)), .int (xs (p + 2)), .int (bI b), .ref 111] [] rfl rfl rfl rfl rfl rfl rfl rfl ?_
  refine O1 _ S n m _ f _ I D G H fun h1 S1 n1 m1 f1 I1 P H1 hv => jk ?_
  have g1 := P.2.1
  refine jx (pc' := 1095) (L' := [_, _, _, _, _, _, _, _]) (st' := [.ref 98]) 2 rfl ?_
  refine jld (D := 1100) (D' := 1101) (k := 1) (p := p) rfl I1 g1 rfl rfl (by omega) hL rfl ?_
  refine jld (D := 1106) (D' := 1107) (k := 2) (p := p) rfl I1 g1 rfl rfl (by omega) hL rfl ?_
  refine jld (D := 1112) (D' := 1113) (k := 3) (p := p) rfl I1 g1 rfl rfl (by omega) hL rfl ?_
  suffices T : ix_E 0 1121 [some (.ref 31), some (.ref 32), some (.ref 98), some (.ref 111), some (.int (nI p)), some (.int (zI oc)), y6, y7] [.int (bI b), .int (xs (p + 2)), .int (xs (p + 1)), .ref 98] h1 Q by
    cases b
    · refine jit (pc' := 1120) rfl rfl rfl hb ?_
      refine jx (pc' := 1121) (L' := [_, _, _, _, _, _, _, _]) (st' := [.int (bI false), _, _, _]) 1 rfl ?_
      exact T
    · refine jin (pc' := 1116) 1120 rfl rfl rfl rfl hb ?_
      refine jx (pc' := 1121) (L' := [_, _, _, _, _, _, _, _]) (st' := [.int (bI true), _, _, _]) 2 rfl ?_
      exact T
  have K1 := K.rt r I1 P.2.2.1
  obtain ⟨fs1, B1⟩ := K1.ob
  refine jcv (pc' := 1124) 252 [.int (xs (p + 1)), .int (xs (p + 2)), .int (bI b)] [] B1 rfl rfl rfl rfl rfl rfl rfl rfl ?_
  refine O2 _ S1 cd _ K1 fun h2 K2 => jk ?_
  have j2 := J.mk K2 P.1 g1 H1
  refine jx (pc' := 1127) (L' := [_, _, _, _, _, _, _, _]) (st' := [.ref 98]) 2 rfl ?_
  obtain ⟨fs2, B2⟩ := K2.ob
  refine jcv (pc' := 1130) 164 [] [] B2 rfl rfl rfl rfl rfl rfl rfl rfl ?_
  refine K2.thrown (jk ?_)
  refine jx (pc' := 1132) (L' := [_, _, _, _, _, _, _, _]) (st' := [.int (zI oc), .int (zI oc)]) 1 rfl ?_
  refine jct (pc' := 1137) rfl rfl rfl (cc_self _) ?_
  refine jx (pc' := 1139) (L' := [_, _, _, _, _, _, _, _]) (st' := [.int (zI oc)]) 1 rfl ?_
  by_cases z : oc = 0
  · subst z
    refine jin (pc' := 1142) 1154 rfl rfl rfl rfl rfl ?_
    obtain ⟨S2, I2, H2⟩ := K2.at111 H1
    refine jx (pc' := 1144) (L' := [_, _, _, _, _, _, _, _]) (st' := [.int (zI 0), .ref 111]) 2 rfl ?_
    refine jaL (pc' := 1145) 0 I2 H2 rfl rfl rfl (by decide) rfl ?_
    rw [hv rfl]
    refine jx (pc' := 1149) (L' := [_, _, _, _, _, _, _, _]) (st' := [.int (lg_cmp v.toInt64 v.toInt64)]) 3 rfl ?_
    refine jit (pc' := 1154) rfl rfl rfl (by rw [lc_self]; rfl) ?_
    refine jx (pc' := 1468) (L' := [_, _, _, _, _, _, _, _]) (st' := []) 1 rfl ?_
    exact q _ _ _ _ _ _ _ j2 P.2.2.2.1 P.2.2.2.2
  · refine jit (pc' := 1154) rfl rfl rfl (by rw [zz_ne ⟨by omega, by omega⟩]; exact decide_eq_true (by omega)) ?_
    refine jx (pc' := 1468) (L' := [_, _, _, _, _, _, _, _]) (st' := []) 1 rfl ?_
    exact q _ _ _ _ _ _ _ j2 P.2.2.2.1 P.2.2.2.2
theorem lw_ordered (j : J h σ n m (cI 0 L xs)) (hp : p + 7 ≤ L) (hL : L ≤ 3584) (hn : n < 1000) (hm : m ≤ 100000) (q : ∀ h' σ' n' m' x5 x6 x7, J h' σ' n' m' (cI 0 L xs) → n' ≤ n + 1 → m' ≤ m + 6 → ix_E 0 1468 [some (.ref 31), some (.ref 32), some (.ref 98), some (.ref 111), some (.int (nI p)), x5, x6, x7] [] h' Q) : ix_E 0 1157 [some (.ref 31), some (.ref 32), some (.ref 98), some (.ref 111), some (.int (nI p)), y5, y6, y7] [] h Q := by
  obtain ⟨S, cd, wr, tx, ou, f, I, D, g, H, K, r⟩ := j
  have G : Rm S n m (cI 0 L xs) := ⟨g, by rw [CM_e]; omega, by rw [SM_e]; omega⟩
  obtain ⟨oc, σ', v, ho, O1, O2⟩ := o_ordered D.gd (xs (p + 1)) (xs (p + 2))
  refine jx (pc' := 1158) (L' := [_, _, _, _, _, _, _, _]) (st' := [.ref 32]) 1 rfl ?_
  refine jld (D := 1163) (D' := 1164) (k := 1) (p := p) rfl I g rfl rfl (by omega) hL rfl ?_
  refine jld (D := 1169) (D' := 1170) (k := 2) (p := p) rfl I g rfl rfl (by omega) hL rfl ?_
  refine jx (pc' := 1171) (L' := [_, _, _, _, _, _, _, _]) (st' := [.ref 111, .int (xs (p + 2)), .int (xs (p + 1)), .ref 32]) 1 rfl ?_
  refine jcs (pc' := 1174) 11 [.ref 32, .int (xs (p + 1)), .int (xs (p + 2)), .ref 111] [] rfl rfl rfl rfl rfl rfl rfl rfl ?_
  refine O1 _ S n m _ f _ I D G H fun h1 S1 n1 m1 f1 I1 P H1 hv => jk ?_
  have g1 := P.2.1
  refine jx (pc' := 1177) (L' := [_, _, _, _, _, _, _, _]) (st' := [.ref 98]) 2 rfl ?_
  refine jld (D := 1182) (D' := 1183) (k := 1) (p := p) rfl I1 g1 rfl rfl (by omega) hL rfl ?_
  refine jld (D := 1188) (D' := 1189) (k := 2) (p := p) rfl I1 g1 rfl rfl (by omega) hL rfl ?_
  have K1 := K.rt r I1 P.2.2.1
  obtain ⟨fs1, B1⟩ := K1.ob
  refine jcv (pc' := 1192) 253 [.int (xs (p + 1)), .int (xs (p + 2))] [] B1 rfl rfl rfl rfl rfl rfl rfl rfl ?_
  refine O2 _ S1 cd _ K1 fun h2 K2 => jk ?_
  have j2 := J.mk K2 P.1 g1 H1
  refine jx (pc' := 1195) (L' := [_, _, _, _, _, _, _, _]) (st' := [.ref 98]) 2 rfl ?_
  obtain ⟨fs2, B2⟩ := K2.ob
  refine jcv (pc' := 1198) 164 [] [] B2 rfl rfl rfl rfl rfl rfl rfl rfl ?_
  refine K2.thrown (jk ?_)
  refine jx (pc' := 1200) (L' := [_, _, _, _, _, _, _, _]) (st' := [.int (zI oc), .int (zI oc)]) 1 rfl ?_
  refine jct (pc' := 1205) rfl rfl rfl (cc_self _) ?_
  refine jx (pc' := 1207) (L' := [_, _, _, _, _, _, _, _]) (st' := [.int (zI oc)]) 1 rfl ?_
  by_cases z : oc = 0
  · subst z
    refine jin (pc' := 1210) 1229 rfl rfl rfl rfl rfl ?_
    obtain ⟨S2, I2, H2⟩ := K2.at111 H1
    refine jx (pc' := 1212) (L' := [_, _, _, _, _, _, _, _]) (st' := [.int (zI 0), .ref 111]) 2 rfl ?_
    refine jaL (pc' := 1213) 0 I2 H2 rfl rfl rfl (by decide) rfl ?_
    rw [hv rfl]
    refine jx (pc' := 1215) (L' := [_, _, _, _, _, _, _, _]) (st' := [.int (bI v), .long (uB v)]) 1 rfl ?_
    suffices T : ix_E 0 1223 [some (.ref 31), some (.ref 32), some (.ref 98), some (.ref 111), some (.int (nI p)), some (.int (zI 0)), some (.int (bI v)), y7] [.long (uB v), .long (uB v)] h2 Q by
      cases v
      · refine jit (pc' := 1222) rfl rfl rfl rfl ?_
        refine jx (pc' := 1223) (L' := [_, _, _, _, _, _, _, _]) (st' := [.long (uB false), _]) 1 rfl ?_
        exact T
      · refine jin (pc' := 1218) 1222 rfl rfl rfl rfl rfl ?_
        refine jx (pc' := 1223) (L' := [_, _, _, _, _, _, _, _]) (st' := [.long (uB true), _]) 2 rfl ?_
        exact T
    refine jx (pc' := 1224) (L' := [_, _, _, _, _, _, _, _]) (st' := [.int (lg_cmp (uB v) (uB v))]) 1 rfl ?_
    refine jit (pc' := 1229) rfl rfl rfl (by rw [lc_self]; rfl) ?_
    refine jx (pc' := 1468) (L' := [_, _, _, _, _, _, _, _]) (st' := []) 1 rfl ?_
    exact q _ _ _ _ _ _ _ j2 P.2.2.2.1 P.2.2.2.2
  · refine jit (pc' := 1229) rfl rfl rfl (by rw [zz_ne ⟨by omega, by omega⟩]; exact decide_eq_true (by omega)) ?_
    refine jx (pc' := 1468) (L' := [_, _, _, _, _, _, _, _]) (st' := []) 1 rfl ?_
    exact q _ _ _ _ _ _ _ j2 P.2.2.2.1 P.2.2.2.2
theorem lw_kind (j : J h σ n m (cI 0 L xs)) (hp : p + 7 ≤ L) (hL : L ≤ 3584) (hn : n < 1000) (hm : m ≤ 100000) (q : ∀ h' σ' n' m' x5 x6 x7, J h' σ' n' m' (cI 0 L xs) → n' ≤ n + 1 → m' ≤ m + 6 → ix_E 0 1468 [some (.ref 31), some (.ref 32), some (.ref 98), some (.ref 111), some (.int (nI p)), x5, x6, x7] [] h' Q) : ix_E 0 1232 [some (.ref 31), some (.ref 32), some (.ref 98), some (.ref 111), some (.int (nI p)), y5, y6, y7] [] h Q := by
  obtain ⟨S, cd, wr, tx, ou, f, I, D, g, H, K, r⟩ := j
  have G : Rm S n m (cI 0 L xs) := ⟨g, by rw [CM_e]; omega, by rw [SM_e]; omega⟩
  obtain ⟨σ', v, O1, O2⟩ := o_kind D.gd (xs (p + 1))
  refine jx (pc' := 1233) (L' := [_, _, _, _, _, _, _, _]) (st' := [.ref 32]) 1 rfl ?_
  refine jld (D := 1238) (D' := 1239) (k := 1) (p := p) rfl I g rfl rfl (by omega) hL rfl ?_
  refine jcv (pc' := 1242) 22 [.int (xs (p + 1))] [] (I.ob D.1) rfl rfl rfl rfl rfl rfl rfl rfl ?_
  refine O1 _ S n m _ _ I D G fun h1 S1 n1 m1 I1 P H1 => jk ?_
  have g1 := P.2.1
  refine jx (pc' := 1243) (L' := [_, _, _, _, _, _, _, _]) (st' := [.ref 98, .int v]) 1 rfl ?_
  refine jld (D := 1248) (D' := 1249) (k := 1) (p := p) rfl I1 g1 rfl rfl (by omega) hL rfl ?_
  have K1 := K.rt r I1 P.2.2.1
  obtain ⟨fs1, B1⟩ := K1.ob
  refine jcv (pc' := 1252) 256 [.int (xs (p + 1))] [.int v] B1 rfl rfl rfl rfl rfl rfl rfl rfl ?_
  refine O2 _ S1 cd _ K1 fun h2 K2 => jk ?_
  have j2 := J.mk K2 P.1 g1 (H1.trans H)
  refine jct (pc' := 1468) rfl rfl rfl (cc_self _) ?_
  exact q _ _ _ _ _ _ _ j2 P.2.2.2.1 P.2.2.2.2
theorem lw_alike (j : J h σ n m (cI 0 L xs)) (hp : p + 7 ≤ L) (hL : L ≤ 3584) (hn : n < 1000) (hm : m ≤ 100000) (q : ∀ h' σ' n' m' x5 x6 x7, J h' σ' n' m' (cI 0 L xs) → n' ≤ n + 1 → m' ≤ m + 6 → ix_E 0 1468 [some (.ref 31), some (.ref 32), some (.ref 98), some (.ref 111), some (.int (nI p)), x5, x6, x7] [] h' Q) : ix_E 0 1257 [some (.ref 31), some (.ref 32), some (.ref 98), some (.ref 111), some (.int (nI p)), y5, y6, y7] [] h Q := by
  obtain ⟨S, cd, wr, tx, ou, f, I, D, g, H, K, r⟩ := j
  have G : Rm S n m (cI 0 L xs) := ⟨g, by rw [CM_e]; omega, by rw [SM_e]; omega⟩
  obtain ⟨σ', v, O1, O2⟩ := o_alike D.gd (xs (p + 1)) (xs (p + 2))
  refine jx (pc' := 1258) (L' := [_, _, _, _, _, _, _, _]) (st' := [.ref 32]) 1 rfl ?_
  refine jld (D := 1263) (D' := 1264) (k := 1) (p := p) rfl I g rfl rfl (by omega) hL rfl ?_
  refine jld (D := 1269) (D' := 1270) (k := 2) (p := p) rfl I g rfl rfl (by omega) hL rfl ?_
  refine jcv (pc' := 1273) 23 [.int (xs (p + 1)), .int (xs (p + 2))] [] (I.ob D.1) rfl rfl rfl rfl rfl rfl rfl rfl ?_
  refine O1 _ S n m _ _ I D G fun h1 S1 n1 m1 I1 P H1 => jk ?_
  have g1 := P.2.1
  refine jx (pc' := 1274) (L' := [_, _, _, _, _, _, _, _]) (st' := [.ref 98, .int v]) 1 rfl ?_
  refine jld (D := 1279) (D' := 1280) (k := 1) (p := p) rfl I1 g1 rfl rfl (by omega) hL rfl ?_
  refine jld (D := 1285) (D' := 1286) (k := 2) (p := p) rfl I1 g1 rfl rfl (by omega) hL rfl ?_
  have K1 := K.rt r I1 P.2.2.1
  obtain ⟨fs1, B1⟩ := K1.ob
  refine jcv (pc' := 1289) 257 [.int (xs (p + 1)), .int (xs (p + 2))] [.int v] B1 rfl rfl rfl rfl rfl rfl rfl rfl ?_
  refine O2 _ S1 cd _ K1 fun h2 K2 => jk ?_
  have j2 := J.mk K2 P.1 g1 (H1.trans H)
  refine jct (pc' := 1468) rfl rfl rfl (cc_self _) ?_
  exact q _ _ _ _ _ _ _ j2 P.2.2.2.1 P.2.2.2.2
theorem lw_type (j : J h σ n m (cI 0 L xs)) (hp : p + 7 ≤ L) (hL : L ≤ 3584) (hn : n < 1000) (hm : m ≤ 100000) (q : ∀ h' σ' n' m' x5 x6 x7, J h' σ' n' m' (cI 0 L xs) → n' ≤ n + 1 → m' ≤ m + 6 → ix_E 0 1468 [some (.ref 31), some (.ref 32), some (.ref 98), some (.ref 111), some (.int (nI p)), x5, x6, x7] [] h' Q) : ix_E 0 1294 [some (.ref 31), some (.ref 32), some (.ref 98), some (.ref 111), some (.int (nI p)), y5, y6, y7] [] h Q := by
  obtain ⟨S, cd, wr, tx, ou, f, I, D, g, H, K, r⟩ := j
  have G : Rm S n m (cI 0 L xs) := ⟨g, by rw [CM_e]; omega, by rw [SM_e]; omega⟩
  obtain ⟨σ', v, O1, O2⟩ := o_type D.gd (xs (p + 1))
  refine jx (pc' := 1295) (L' := [_, _, _, _, _, _, _, _]) (st' := [.ref 32]) 1 rfl ?_
  refine jld (D := 1300) (D' := 1301) (k := 1) (p := p) rfl I g rfl rfl (by omega) hL rfl ?_
  refine jcv (pc' := 1304) 25 [.int (xs (p + 1))] [] (I.ob D.1) rfl rfl rfl rfl rfl rfl rfl rfl ?_
  refine O1 _ S n m _ _ I D G fun h1 S1 n1 m1 I1 P H1 => jk ?_
  have g1 := P.2.1
  refine jx (pc' := 1305) (L' := [_, _, _, _, _, _, _, _]) (st' := [.ref 98, .int v]) 1 rfl ?_
  refine jld (D := 1310) (D' := 1311) (k := 1) (p := p) rfl I1 g1 rfl rfl (by omega) hL rfl ?_
  have K1 := K.rt r I1 P.2.2.1
  obtain ⟨fs1, B1⟩ := K1.ob
  refine jcv (pc' := 1314) 258 [.int (xs (p + 1))] [.int v] B1 rfl rfl rfl rfl rfl rfl rfl rfl ?_
  refine O2 _ S1 cd _ K1 fun h2 K2 => jk ?_
  have j2 := J.mk K2 P.1 g1 (H1.trans H)
  refine jct (pc' := 1468) rfl rfl rfl (cc_self _) ?_
  exact q _ _ _ _ _ _ _ j2 P.2.2.2.1 P.2.2.2.2
theorem lw_read (j : J h σ n m (cI 0 L xs)) (hp : p + 7 ≤ L) (hL : L ≤ 3584) (hn : n < 1000) (hm : m ≤ 100000) (q : ∀ h' σ' n' m' x5 x6 x7, J h' σ' n' m' (cI 0 L xs) → n' ≤ n + 1 → m' ≤ m + 6 → ix_E 0 1468 [some (.ref 31), some (.ref 32), some (.ref 98), some (.ref 111), some (.int (nI p)), x5, x6, x7] [] h' Q) : ix_E 0 1319 [some (.ref 31), some (.ref 32), some (.ref 98), some (.ref 111), some (.int (nI p)), y5, y6, y7] [] h Q := by
  obtain ⟨S, cd, wr, tx, ou, f, I, D, g, H, K, r⟩ := j
  have G : Rm S n m (cI 0 L xs) := ⟨g, by rw [CM_e]; omega, by rw [SM_e]; omega⟩
  obtain ⟨oc, σ', v, ho, O1, O2⟩ := o_read D.gd (xs (p + 1)) (xs (p + 2))
  refine jx (pc' := 1320) (L' := [_, _, _, _, _, _, _, _]) (st' := [.ref 32]) 1 rfl ?_
  refine jld (D := 1325) (D' := 1326) (k := 1) (p := p) rfl I g rfl rfl (by omega) hL rfl ?_
  refine jld (D := 1331) (D' := 1332) (k := 2) (p := p) rfl I g rfl rfl (by omega) hL rfl ?_
  refine jx (pc' := 1333) (L' := [_, _, _, _, _, _, _, _]) (st' := [.ref 111, .int (xs (p + 2)), .int (xs (p + 1)), .ref 32]) 1 rfl ?_
  refine jcs (pc' := 1336) 12 [.ref 32, .int (xs (p + 1)), .int (xs (p + 2)), .ref 111] [] rfl rfl rfl rfl rfl rfl rfl rfl ?_
  refine O1 _ S n m _ f _ I D G H fun h1 S1 n1 m1 f1 I1 P H1 hv => jk ?_
  have g1 := P.2.1
  refine jx (pc' := 1339) (L' := [_, _, _, _, _, _, _, _]) (st' := [.ref 98]) 2 rfl ?_
  refine jld (D := 1344) (D' := 1345) (k := 1) (p := p) rfl I1 g1 rfl rfl (by omega) hL rfl ?_
  refine jld (D := 1350) (D' := 1351) (k := 2) (p := p) rfl I1 g1 rfl rfl (by omega) hL rfl ?_
  have K1 := K.rt r I1 P.2.2.1
  obtain ⟨fs1, B1⟩ := K1.ob
  refine jcv (pc' := 1354) 259 [.int (xs (p + 1)), .int (xs (p + 2))] [] B1 rfl rfl rfl rfl rfl rfl rfl rfl ?_
  refine O2 _ S1 cd _ K1 fun h2 K2 => jk ?_
  have j2 := J.mk K2 P.1 g1 H1
  refine jx (pc' := 1357) (L' := [_, _, _, _, _, _, _, _]) (st' := [.ref 98]) 2 rfl ?_
  obtain ⟨fs2, B2⟩ := K2.ob
  refine jcv (pc' := 1360) 164 [] [] B2 rfl rfl rfl rfl rfl rfl rfl rfl ?_
  refine K2.thrown (jk ?_)
  refine jx (pc' := 1362) (L' := [_, _, _, _, _, _, _, _]) (st' := [.int (zI oc), .int (zI oc)]) 1 rfl ?_
  refine jct (pc' := 1367) rfl rfl rfl (cc_self _) ?_
  refine jx (pc' := 1369) (L' := [_, _, _, _, _, _, _, _]) (st' := [.int (zI oc)]) 1 rfl ?_
  by_cases z : oc = 0
  · subst z
    refine jin (pc' := 1372) 1384 rfl rfl rfl rfl rfl ?_
    obtain ⟨S2, I2, H2⟩ := K2.at111 H1
    refine jx (pc' := 1374) (L' := [_, _, _, _, _, _, _, _]) (st' := [.int (zI 0), .ref 111]) 2 rfl ?_
    refine jaL (pc' := 1375) 0 I2 H2 rfl rfl rfl (by decide) rfl ?_
    rw [hv rfl]
    refine jx (pc' := 1379) (L' := [_, _, _, _, _, _, _, _]) (st' := [.int (lg_cmp v.toInt64 v.toInt64)]) 3 rfl ?_
    refine jit (pc' := 1384) rfl rfl rfl (by rw [lc_self]; rfl) ?_
    refine jx (pc' := 1468) (L' := [_, _, _, _, _, _, _, _]) (st' := []) 1 rfl ?_
    exact q _ _ _ _ _ _ _ j2 P.2.2.2.1 P.2.2.2.2
  · refine jit (pc' := 1384) rfl rfl rfl (by rw [zz_ne ⟨by omega, by omega⟩]; exact decide_eq_true (by omega)) ?_
    refine jx (pc' := 1468) (L' := [_, _, _, _, _, _, _, _]) (st' := []) 1 rfl ?_
    exact q _ _ _ _ _ _ _ j2 P.2.2.2.1 P.2.2.2.2
theorem lw_write (j : J h σ n m (cI 0 L xs)) (hp : p + 7 ≤ L) (hL : L ≤ 3584) (hn : n < 1000) (hm : m ≤ 100000) (q : ∀ h' σ' n' m' x5 x6 x7, J h' σ' n' m' (cI 0 L xs) → n' ≤ n + 1 → m' ≤ m + 6 → ix_E 0 1468 [some (.ref 31), some (.ref 32), some (.ref 98), some (.ref 111), some (.int (nI p)), x5, x6, x7] [] h' Q) : ix_E 0 1387 [some (.ref 31), some (.ref 32), some (.ref 98), some (.ref 111), some (.int (nI p)), y5, y6, y7] [] h Q := by
  obtain ⟨S, cd, wr, tx, ou, f, I, D, g, H, K, r⟩ := j
  have G : Rm S n m (cI 0 L xs) := ⟨g, by rw [CM_e]; omega, by rw [SM_e]; omega⟩
  obtain ⟨oc, σ', v, ho, O1, O2⟩ := o_write D.gd (xs (p + 1))
  refine jx (pc' := 1388) (L' := [_, _, _, _, _, _, _, _]) (st' := [.ref 32]) 1 rfl ?_
  refine jld (D := 1393) (D' := 1394) (k := 1) (p := p) rfl I g rfl rfl (by omega) hL rfl ?_
  refine jx (pc' := 1395) (L' := [_, _, _, _, _, _, _, _]) (st' := [.ref 111, .int (xs (p + 1)), .ref 32]) 1 rfl ?_
  refine jcs (pc' := 1398) 13 [.ref 32, .int (xs (p + 1)), .ref 111] [] rfl rfl rfl rfl rfl rfl rfl rfl ?_
  refine O1 _ S n m _ f _ I D G H fun h1 S1 n1 m1 f1 I1 P H1 hv => jk ?_
  have g1 := P.2.1
  refine jx (pc' := 1401) (L' := [_, _, _, _, _, _, _, _]) (st' := [.ref 98]) 2 rfl ?_
  refine jld (D := 1406) (D' := 1407) (k := 1) (p := p) rfl I1 g1 rfl rfl (by omega) hL rfl ?_
  have K1 := K.rt r I1 P.2.2.1
  obtain ⟨fs1, B1⟩ := K1.ob
  refine jcv (pc' := 1410) 265 [.int (xs (p + 1))] [] B1 rfl rfl rfl rfl rfl rfl rfl rfl ?_
  refine O2 _ S1 cd _ K1 fun h2 K2 => jk ?_
  have j2 := J.mk K2 P.1 g1 H1
  refine jx (pc' := 1413) (L' := [_, _, _, _, _, _, _, _]) (st' := [.ref 98]) 2 rfl ?_
  obtain ⟨fs2, B2⟩ := K2.ob
  refine jcv (pc' := 1416) 164 [] [] B2 rfl rfl rfl rfl rfl rfl rfl rfl ?_
  refine K2.thrown (jk ?_)
  refine jx (pc' := 1418) (L' := [_, _, _, _, _, _, _, _]) (st' := [.int (zI oc), .int (zI oc)]) 1 rfl ?_
  refine jct (pc' := 1423) rfl rfl rfl (cc_self _) ?_
  refine jx (pc' := 1425) (L' := [_, _, _, _, _, _, _, _]) (st' := [.int (zI oc)]) 1 rfl ?_
  by_cases z : oc = 0
  · subst z
    refine jin (pc' := 1428) 1440 rfl rfl rfl rfl rfl ?_
    obtain ⟨S2, I2, H2⟩ := K2.at111 H1
    refine jx (pc' := 1430) (L' := [_, _, _, _, _, _, _, _]) (st' := [.int (zI 0), .ref 111]) 2 rfl ?_
    refine jaL (pc' := 1431) 0 I2 H2 rfl rfl rfl (by decide) rfl ?_
    rw [hv rfl]
    refine jx (pc' := 1435) (L' := [_, _, _, _, _, _, _, _]) (st' := [.int (lg_cmp v.toInt64 v.toInt64)]) 3 rfl ?_
    refine jit (pc' := 1440) rfl rfl rfl (by rw [lc_self]; rfl) ?_
    refine jx (pc' := 1468) (L' := [_, _, _, _, _, _, _, _]) (st' := []) 1 rfl ?_
    exact q _ _ _ _ _ _ _ j2 P.2.2.2.1 P.2.2.2.2
  · refine jit (pc' := 1440) rfl rfl rfl (by rw [zz_ne ⟨by omega, by omega⟩]; exact decide_eq_true (by omega)) ?_
    refine jx (pc' := 1468) (L' := [_, _, _, _, _, _, _, _]) (st' := []) 1 rfl ?_
    exact q _ _ _ _ _ _ _ j2 P.2.2.2.1 P.2.2.2.2
theorem lw_output (j : J h σ n m (cI 0 L xs)) (hp : p + 7 ≤ L) (hL : L ≤ 3584) (hn : n < 1000) (hm : m ≤ 100000) (q : ∀ h' σ' n' m' x5 x6 x7, J h' σ' n' m' (cI 0 L xs) → n' ≤ n + 1 → m' ≤ m + 6 → ix_E 0 1468 [some (.ref 31), some (.ref 32), some (.ref 98), some (.ref 111), some (.int (nI p)), x5, x6, x7] [] h' Q) : ix_E 0 1443 [some (.ref 31), some (.ref 32), some (.ref 98), some (.ref 111), some (.int (nI p)), y5, y6, y7] [] h Q := by
  obtain ⟨S, cd, wr, tx, ou, f, I, D, g, H, K, r⟩ := j
  have G : Rm S n m (cI 0 L xs) := ⟨g, by rw [CM_e]; omega, by rw [SM_e]; omega⟩
  obtain ⟨σ', v, O1, O2⟩ := o_output D.gd (xs (p + 1))
  refine jx (pc' := 1444) (L' := [_, _, _, _, _, _, _, _]) (st' := [.ref 32]) 1 rfl ?_
  refine jld (D := 1449) (D' := 1450) (k := 1) (p := p) rfl I g rfl rfl (by omega) hL rfl ?_
  refine jcv (pc' := 1453) 26 [.int (xs (p + 1))] [] (I.ob D.1) rfl rfl rfl rfl rfl rfl rfl rfl ?_
  refine O1 _ S n m _ _ I D G fun h1 S1 n1 m1 I1 P H1 => jk ?_
  have g1 := P.2.1
  refine jx (pc' := 1454) (L' := [_, _, _, _, _, _, _, _]) (st' := [.ref 98, .int v]) 1 rfl ?_
  refine jld (D := 1459) (D' := 1460) (k := 1) (p := p) rfl I1 g1 rfl rfl (by omega) hL rfl ?_
  have K1 := K.rt r I1 P.2.2.1
  obtain ⟨fs1, B1⟩ := K1.ob
  refine jcv (pc' := 1463) 270 [.int (xs (p + 1))] [.int v] B1 rfl rfl rfl rfl rfl rfl rfl rfl ?_
  refine O2 _ S1 cd _ K1 fun h2 K2 => jk ?_
  have j2 := J.mk K2 P.1 g1 (H1.trans H)
  refine jct (pc' := 1468) rfl rfl rfl (cc_self _) ?_
  exact q _ _ _ _ _ _ _ j2 P.2.2.2.1 P.2.2.2.2
end LAW
