/-! ===== the tables' words are the claim's ===== -/
noncomputable def ix_tb (c : Nat) : List Cond := bif Nat.beq c 0 then tables_1_1 else bif Nat.beq c 1 then tables_1_2 else bif Nat.beq c 2 then tables_1_3 else bif Nat.beq c 3 then tables_1_4 else bif Nat.beq c 4 then tables_1_5 else bif Nat.beq c 5 then tables_1_6 else tables_1_7
noncomputable def ix_at (p : Nat) : Option Cond := bif Nat.blt p 115 then (k2_sels lw_privs)[p]? else (ix_tb ((p - 115) / 240))[(p - 115) % 240]?
noncomputable def ix_wa (p : Nat) (w : Cond) : Bool := decide (ix_at p = some w)
theorem ix_tb_mem {c : Nat} {w : Cond} (h : w ∈ ix_tb c) : w ∈ lw_tbl := by
  have key : w ∈ tables_1 → w ∈ lw_tbl := fun q => List.mem_append_right _ q
  unfold ix_tb at h
  apply key
  unfold tables_1
  cases h0 : Nat.beq c 0 with
  | true => rw [h0] at h; exact List.mem_append_left _ h
  | false =>
    rw [h0] at h
    refine List.mem_append_right _ ?_
    cases h1 : Nat.beq c 1 with
    | true => rw [h1] at h; exact List.mem_append_left _ h
    | false =>
      rw [h1] at h
      refine List.mem_append_right _ ?_
      cases h2 : Nat.beq c 2 with
      | true => rw [h2] at h; exact List.mem_append_left _ h
      | false =>
        rw [h2] at h
        refine List.mem_append_right _ ?_
        cases h3 : Nat.beq c 3 with
        | true => rw [h3] at h; exact List.mem_append_left _ h
        | false =>
          rw [h3] at h
          refine List.mem_append_right _ ?_
          cases h4 : Nat.beq c 4 with
          | true => rw [h4] at h; exact List.mem_append_left _ h
          | false =>
            rw [h4] at h
            refine List.mem_append_right _ ?_
            cases h5 : Nat.beq c 5 with
            | true => rw [h5] at h; exact List.mem_append_left _ h
            | false => rw [h5] at h; exact List.mem_append_right _ h
theorem ix_wa_mem {p : Nat} {w : Cond} (h : ix_wa p w = true) : w ∈ lw_tbl := by
  have h1 : ix_at p = some w := of_decide_eq_true h
  unfold ix_at at h1
  cases hb : Nat.blt p 115 with
  | true => rw [hb] at h1; exact List.mem_append_left _ (List.mem_of_getElem? h1)
  | false => rw [hb] at h1; exact ix_tb_mem (List.mem_of_getElem? h1)
/-! ===== where the claim's words stand: laid by a program ===== -/
noncomputable def ix_lp (ci k : Nat) : Nat := (bif Nat.blt (ci * 32 + k) 232 then (bif Nat.blt (ci * 32 + k) 100 then (bif Nat.blt (ci * 32 + k) 8 then (bif Nat.blt (ci * 32 + k) 4 then (bif Nat.blt (ci * 32 + k) 2 then (bif Nat.blt (ci * 32 + k) 1 then 392 else 394) else (bif Nat.blt (ci * 32 + k) 3 then 396 else 398)) else (bif Nat.blt (ci * 32 + k) 6 then (bif Nat.blt (ci * 32 + k) 5 then 400 else 402) else (bif Nat.blt (ci * 32 + k) 7 then 404 else 406))) else (bif Nat.blt (ci * 32 + k) 96 then (bif Nat.blt (ci * 32 + k) 64 then (bif Nat.blt (ci * 32 + k) 32 then 408 else 172) else (bif Nat.blt (ci * 32 + k) 65 then 262 else 264)) else (bif Nat.blt (ci * 32 + k) 98 then (bif Nat.blt (ci * 32 + k) 97 then 209 else 211) else (bif Nat.blt (ci * 32 + k) 99 then 213 else 215)))) else (bif Nat.blt (ci * 32 + k) 192 then (bif Nat.blt (ci * 32 + k) 161 then (bif Nat.blt (ci * 32 + k) 129 then (bif Nat.blt (ci * 32 + k) 128 then 217 else 327) else (bif Nat.blt (ci * 32 + k) 160 then 329 else 243)) else (bif Nat.blt (ci * 32 + k) 163 then (bif Nat.blt (ci * 32 + k) 162 then 245 else 247) else (bif Nat.blt (ci * 32 + k) 164 then 249 else 251))) else (bif Nat.blt (ci * 32 + k) 227 then (bif Nat.blt (ci * 32 + k) 225 then (bif Nat.blt (ci * 32 + k) 224 then 276 else 293) else (bif Nat.blt (ci * 32 + k) 226 then 295 else 297)) else (bif Nat.blt (ci * 32 + k) 229 then (bif Nat.blt (ci * 32 + k) 228 then 299 else 301) else (bif Nat.blt (ci * 32 + k) 230 then 303 else (bif Nat.blt (ci * 32 + k) 231 then 305 else 307)))))) else (bif Nat.blt (ci * 32 + k) 326 then (bif Nat.blt (ci * 32 + k) 262 then (bif Nat.blt (ci * 32 + k) 258 then (bif Nat.blt (ci * 32 + k) 256 then (bif Nat.blt (ci * 32 + k) 233 then 309 else 311) else (bif Nat.blt (ci * 32 + k) 257 then 351 else 353)) else (bif Nat.blt (ci * 32 + k) 260 then (bif Nat.blt (ci * 32 + k) 259 then 355 else 357) else (bif Nat.blt (ci * 32 + k) 261 then 359 else 361))) else (bif Nat.blt (ci * 32 + k) 321 then (bif Nat.blt (ci * 32 + k) 289 then (bif Nat.blt (ci * 32 + k) 288 then 363 else 377) else (bif Nat.blt (ci * 32 + k) 320 then 379 else 1288)) else (bif Nat.blt (ci * 32 + k) 323 then (bif Nat.blt (ci * 32 + k) 322 then 1290 else 1292) else (bif Nat.blt (ci * 32 + k) 324 then 1294 else (bif Nat.blt (ci * 32 + k) 325 then 1296 else 1298))))) else (bif Nat.blt (ci * 32 + k) 334 then (bif Nat.blt (ci * 32 + k) 330 then (bif Nat.blt (ci * 32 + k) 328 then (bif Nat.blt (ci * 32 + k) 327 then 1300 else 1302) else (bif Nat.blt (ci * 32 + k) 329 then 1304 else 1306)) else (bif Nat.blt (ci * 32 + k) 332 then (bif Nat.blt (ci * 32 + k) 331 then 1308 else 1310) else (bif Nat.blt (ci * 32 + k) 333 then 1312 else 1314))) else (bif Nat.blt (ci * 32 + k) 338 then (bif Nat.blt (ci * 32 + k) 336 then (bif Nat.blt (ci * 32 + k) 335 then 1316 else 1318) else (bif Nat.blt (ci * 32 + k) 337 then 1320 else 1322)) else (bif Nat.blt (ci * 32 + k) 340 then (bif Nat.blt (ci * 32 + k) 339 then 1324 else 1326) else (bif Nat.blt (ci * 32 + k) 341 then 1328 else (bif Nat.blt (ci * 32 + k) 342 then 1330 else 1332)))))))
noncomputable def ix_np2 (ci : Nat) : Nat × Nat := (bif Nat.blt ci 6 then (bif Nat.blt ci 3 then (bif Nat.blt ci 1 then (143, 116) else (bif Nat.blt ci 2 then (165, 119) else (255, 121))) else (bif Nat.blt ci 4 then (159, 118) else (bif Nat.blt ci 5 then (317, 123) else (221, 120)))) else (bif Nat.blt ci 9 then (bif Nat.blt ci 7 then (268, 122) else (bif Nat.blt ci 8 then (153, 117) else (333, 124))) else (bif Nat.blt ci 11 then (bif Nat.blt ci 10 then (368, 125) else (1260, 126)) else (bif Nat.blt ci 12 then (556, 131) else (944, 137)))))
theorem ix_ar_int : Cond.arrayClass .int ∈ lw_tbl := ix_wa_mem (p := 175) (by decide +kernel)
theorem ix_ar_long : Cond.arrayClass .long ∈ lw_tbl := ix_wa_mem (p := 1336) (by decide +kernel)
theorem ix_ar_char : Cond.arrayClass .char ∈ lw_tbl := ix_wa_mem (p := 366) (by decide +kernel)
theorem ix_ar_boolean : Cond.arrayClass .boolean ∈ lw_tbl := ix_wa_mem (p := 1335) (by decide +kernel)
theorem ix_ar_q : Cond.arrayOver (.object ix_nD) ∈ lw_tbl := ix_wa_mem (p := 151) (by decide +kernel)
theorem ix_ob_i : Cond.instanceMethod Lib.objectInit ∈ lw_tbl := ix_wa_mem (p := 148) (by decide +kernel)
theorem ix_ob_c : Cond.code Lib.objectInit ⟨#[0xb1]⟩ 1 none ∈ lw_tbl := ix_wa_mem (p := 149) (by decide +kernel)
theorem ix_cp_n : Cond.native arraycopyName ∈ lw_tbl := ix_wa_mem (p := 430) (by decide +kernel)
theorem ix_cp_s : Cond.static arraycopyName ∈ lw_tbl := ix_wa_mem (p := 429) (by decide +kernel)
theorem ix_cp_i : Cond.initialized "java/lang/System" ∈ lw_tbl := ix_wa_mem (p := 133) (by decide +kernel)
/-! fields -/
noncomputable def ix_fF (o : Nat) (e : Nat × Nat × Nat × Nat) : Bool := match ix_cls[e.2.1]? with
  | some q => Nat.blt e.2.2.1 q.2.2 && ix_wa e.2.2.2 (Cond.fieldLink (ix_cn o) e.1 q.1 (q.2.1 e.2.2.1).2.1 (q.2.1 e.2.2.1).2.2.1)
  | none => false
theorem ix_fF_all : ((List.range 20).all fun o => (ix_jF o).all fun e => ix_fF o e) = true := by decide +kernel
theorem ix_fnd {α : Type} {l : List (Nat × α)} {idx : Nat} {e : Nat × α} (h : (l.find? fun e => Nat.beq e.1 idx) = some e) : e ∈ l ∧ e.1 = idx := ⟨List.mem_of_find?_eq_some h, Nat.eq_of_beq_eq_true (by simpa using List.find?_some h)⟩
theorem ix_fld_ok {o idx ci k : Nat} (h : ix_fld o idx = some (ci, k)) : ∃ C T N, ix_cls[ci]? = some (C, T, N) ∧ k < N ∧ Cond.fieldLink (ix_cn o) idx C (T k).2.1 (T k).2.2.1 ∈ lw_tbl := by
  unfold ix_fld at h
  cases hb : Nat.blt o ix_NO with
  | false => rw [hb] at h; cases h
  | true =>
    rw [hb] at h
    have ho : o < 20 := Nat.le_of_ble_eq_true hb
    cases hf : ((ix_jF o).find? fun e => Nat.beq e.1 idx) with
    | none => simp [hf] at h
    | some e =>
      simp only [hf, cond_true, Option.map_some, Option.some.injEq, Prod.mk.injEq] at h
      obtain ⟨rfl, rfl⟩ := h
      obtain ⟨hm, rfl⟩ := ix_fnd hf
      have h2 := List.all_eq_true.mp (List.all_eq_true.mp ix_fF_all o (List.mem_range.mpr ho)) e hm
      unfold ix_fF at h2
      cases hc : ix_cls[e.2.1]? with
      | none => rw [hc] at h2; cases h2
      | some q =>
        rw [hc] at h2
        simp only [Bool.and_eq_true] at h2
        exact ⟨q.1, q.2.1, q.2.2, rfl, Nat.le_of_ble_eq_true h2.1, ix_wa_mem h2.2⟩
/-! classes -/
noncomputable def ix_fC (ci : Nat) : Bool := match ix_cls[ci]? with
  | some q => (List.range q.2.2).all fun k => ix_wa (ix_lp ci k) (u_lay q.1 q.2.1 k) && decide (parseFieldDescriptor (q.2.1 k).2.2.1 = some (ix_fty ci k)) && decide ((q.2.1 k).1 = q.1) && decide ((q.2.1 k).2.2.2 = ix_fin ci k) && decide (q.1 = ix_cn (ix_oc ci)) && (List.range q.2.2).all fun j => Nat.beq j k || decide ((q.2.1 j).2.1 ≠ (q.2.1 k).2.1)
  | none => true
theorem ix_fC_all : ((List.range 13).all fun ci => ix_fC ci) = true := by decide +kernel
theorem ix_cls_len : ix_cls.length = 13 := by rfl
theorem ix_cls_ok {ci N : Nat} {C : String} {T : u_T} (h : ix_cls[ci]? = some (C, T, N)) : (∀ w ∈ u_ws C T N, w ∈ lw_tbl) ∧ (∀ k, k < N → parseFieldDescriptor (T k).2.2.1 = some (ix_fty ci k)) ∧ (∀ a, a < N → ∀ b, b < N → a ≠ b → (T a).2.1 ≠ (T b).2.1) ∧ (∀ k, k < N → (T k).1 = C ∧ (T k).2.2.2 = ix_fin ci k) ∧ (0 < N → C = ix_cn (ix_oc ci)) := by
  have hlt : ci < 13 := by rw [← ix_cls_len]; exact (List.getElem?_eq_some_iff.mp h).1
  have h2 := List.all_eq_true.mp ix_fC_all ci (List.mem_range.mpr hlt)
  unfold ix_fC at h2
  rw [h] at h2
  have key : ∀ k, k < N → _ := fun k hk => List.all_eq_true.mp h2 k (List.mem_range.mpr hk)
  simp only [Bool.and_eq_true, decide_eq_true_eq] at key
  refine ⟨fun w hw => ?_, fun k hk => (key k hk).1.1.1.1.2, fun a ha b hb hab => ?_, fun k hk => ⟨(key k hk).1.1.1.2, (key k hk).1.1.2⟩, fun h0 => (key 0 h0).1.2⟩
  · obtain ⟨k, hk, rfl⟩ := List.mem_map.mp hw
    exact ix_wa_mem (key k (List.mem_range.mp hk)).1.1.1.1.1
  · have := List.all_eq_true.mp (key b hb).2 a (List.mem_range.mpr ha)
    simp only [Bool.or_eq_true, decide_eq_true_eq] at this
    exact this.resolve_left (fun z => hab (Nat.eq_of_beq_eq_true z))
/-! new, constants, reads -/
noncomputable def ix_fN (o : Nat) (e : Nat × Nat × Nat) : Bool := match ix_cls[e.2.1]? with
  | some q => ix_wa e.2.2 (Cond.classLink (ix_cn o) e.1 q.1) && ix_wa (ix_np2 e.2.1).1 (Cond.instantiable q.1 q.2.2) && ix_wa (ix_np2 e.2.1).2 (Cond.initialized q.1) && Nat.beq (ix_dv e.2.1).length q.2.2 && ((List.range q.2.2).all fun j => decide (defaultValue (ix_fty e.2.1 j) = vp_V (ix_dv e.2.1) j)) && ((ix_dv e.2.1).all fun v => match v with
    | .ref _ => false
    | _ => true)
  | none => false
theorem ix_fN_all : ((List.range 20).all fun o => (ix_jN o).all fun e => ix_fN o e) = true := by decide +kernel
theorem ix_nw_ok {o idx ci : Nat} (h : ix_nw o idx = some ci) : ∃ C T N, ix_cls[ci]? = some (C, T, N) ∧ Cond.classLink (ix_cn o) idx C ∈ lw_tbl ∧ Cond.instantiable C N ∈ lw_tbl ∧ Cond.initialized C ∈ lw_tbl ∧ (ix_dv ci).length = N ∧ (∀ j, j < N → defaultValue (ix_fty ci j) = vp_V (ix_dv ci) j) ∧ (∀ v ∈ ix_dv ci, ∀ r, v ≠ .ref r) := by
  unfold ix_nw at h
  cases hb : Nat.blt o ix_NO with
  | false => rw [hb] at h; cases h
  | true =>
    rw [hb] at h
    have ho : o < 20 := Nat.le_of_ble_eq_true hb
    cases hf : ((ix_jN o).find? fun e => Nat.beq e.1 idx) with
    | none => simp [hf] at h
    | some e =>
      simp only [hf, cond_true, Option.map_some, Option.some.injEq] at h
      subst h
      obtain ⟨hm, rfl⟩ := ix_fnd hf
      have h2 := List.all_eq_true.mp (List.all_eq_true.mp ix_fN_all o (List.mem_range.mpr ho)) e hm
      unfold ix_fN at h2
      cases hc : ix_cls[e.2.1]? with
      | none => rw [hc] at h2; cases h2
      | some q =>
        rw [hc] at h2
        simp only [Bool.and_eq_true] at h2
        obtain ⟨⟨⟨⟨⟨a1, a2⟩, a3⟩, a4⟩, a5⟩, a6⟩ := h2
        refine ⟨q.1, q.2.1, q.2.2, rfl, ix_wa_mem a1, ix_wa_mem a2, ix_wa_mem a3, Nat.eq_of_beq_eq_true a4, fun j hj => of_decide_eq_true (List.all_eq_true.mp a5 j (List.mem_range.mpr hj)), fun v hv r hr => ?_⟩
        have := List.all_eq_true.mp a6 v hv
        rw [hr] at this
        cases this
theorem ix_fL_all : ((List.range 20).all fun o => (ix_jL o).all fun e => ix_wa e.2.2 (Cond.constantLong (ix_cn o) e.1 e.2.1)) = true := by decide +kernel
theorem ix_kl_ok {o idx : Nat} {v : Int64} (h : ix_kl o idx = some v) : Cond.constantLong (ix_cn o) idx v ∈ lw_tbl := by
  unfold ix_kl at h
  cases hb : Nat.blt o ix_NO with
  | false => rw [hb] at h; cases h
  | true =>
    rw [hb] at h
    have ho : o < 20 := Nat.le_of_ble_eq_true hb
    cases hf : ((ix_jL o).find? fun e => Nat.beq e.1 idx) with
    | none => simp [hf] at h
    | some e =>
      simp only [hf, cond_true, Option.map_some, Option.some.injEq] at h
      subst h
      obtain ⟨hm, rfl⟩ := ix_fnd hf
      exact ix_wa_mem (List.all_eq_true.mp (List.all_eq_true.mp ix_fL_all o (List.mem_range.mpr ho)) e hm)
theorem ix_fK_all : ((List.range 20).all fun o => (ix_jC o).all fun e => ix_wa e.2.2 (Cond.constant (ix_cn o) e.1 e.2.1)) = true := by decide +kernel
theorem ix_kc_ok {o idx : Nat} {v : Value} (h : ix_kc o idx = some v) : ∃ x, v = .int x ∧ Cond.constant (ix_cn o) idx x ∈ lw_tbl := by
  unfold ix_kc at h
  cases hb : Nat.blt o ix_NO with
  | false => rw [hb] at h; cases h
  | true =>
    rw [hb] at h
    have ho : o < 20 := Nat.le_of_ble_eq_true hb
    cases hf : ((ix_jC o).find? fun e => Nat.beq e.1 idx) with
    | none => simp [hf] at h
    | some e =>
      simp only [hf, cond_true, Option.map_some, Option.some.injEq] at h
      subst h
      obtain ⟨hm, rfl⟩ := ix_fnd hf
      exact ⟨_, rfl, ix_wa_mem (List.all_eq_true.mp (List.all_eq_true.mp ix_fK_all o (List.mem_range.mpr ho)) e hm)⟩
theorem ix_fA_all : ((List.range 20).all fun o => (ix_jA o).all fun e => ix_wa e.2.2 (Cond.classLink (ix_cn o) e.1 ix_nD)) = true := by decide +kernel
theorem ix_anw_ok {o idx : Nat} (h : ix_anw o idx = true) : Cond.classLink (ix_cn o) idx ix_nD ∈ lw_tbl ∧ Cond.arrayOver (.object ix_nD) ∈ lw_tbl := by
  unfold ix_anw at h
  simp only [Bool.and_eq_true] at h
  have ho : o < 20 := Nat.le_of_ble_eq_true h.1
  cases hf : ((ix_jA o).find? fun e => Nat.beq e.1 idx) with
  | none => rw [hf] at h; cases h.2
  | some e =>
    obtain ⟨hm, rfl⟩ := ix_fnd hf
    exact ⟨ix_wa_mem (List.all_eq_true.mp (List.all_eq_true.mp ix_fA_all o (List.mem_range.mpr ho)) e hm), ix_ar_q⟩
theorem ix_arr_ok : Cond.arrayClass .int ∈ lw_tbl ∧ Cond.arrayClass .long ∈ lw_tbl ∧ Cond.arrayClass .char ∈ lw_tbl ∧ Cond.arrayClass .boolean ∈ lw_tbl := ⟨ix_ar_int, ix_ar_long, ix_ar_char, ix_ar_boolean⟩
theorem ix_cD_ok : ∃ T N, ix_cls[ix_cD]? = some (ix_nD, T, N) := ⟨_, _, rfl⟩
/-! calls -/
noncomputable def ix_fM (o : Nat) (e : Nat × Nat × Nat × Nat) : Bool := match e.2.1 with
  | 0 => Nat.blt e.2.2.1 ix_NM && !Nat.beq e.2.2.1 0 && (ix_wa e.2.2.2 (Cond.methodLink (ix_cn o) e.1 (ix_y e.2.2.1)) || ix_wa e.2.2.2 (Cond.methodLinkNest (ix_cn o) e.1 (ix_y e.2.2.1) "DecimalBits"))
  | 1 => ix_wa e.2.2.2 (Cond.methodLink (ix_cn o) e.1 Lib.objectInit)
  | 2 => ix_wa e.2.2.2 (Cond.methodLink (ix_cn o) e.1 arraycopyName)
  | _ => false
theorem ix_fM_all : ((List.range 20).all fun o => (ix_jM o).all fun e => ix_fM o e) = true := by decide +kernel
theorem ix_cal_in {o idx q mj : Nat} (h : ix_cal o idx = some (q, mj)) : ∃ p, ix_fM o (idx, q, mj, p) = true := by
  unfold ix_cal at h
  cases hb : Nat.blt o ix_NO with
  | false => rw [hb] at h; cases h
  | true =>
    rw [hb] at h
    have ho : o < 20 := Nat.le_of_ble_eq_true hb
    cases hf : ((ix_jM o).find? fun e => Nat.beq e.1 idx) with
    | none => simp [hf] at h
    | some e =>
      simp only [hf, cond_true, Option.map_some, Option.some.injEq, Prod.mk.injEq] at h
      obtain ⟨rfl, rfl⟩ := h
      obtain ⟨hm, rfl⟩ := ix_fnd hf
      exact ⟨e.2.2.2, List.all_eq_true.mp (List.all_eq_true.mp ix_fM_all o (List.mem_range.mpr ho)) e hm⟩
theorem ix_obj_ok {o idx mj : Nat} (h : ix_cal o idx = some (1, mj)) : Cond.methodLink (ix_cn o) idx Lib.objectInit ∈ lw_tbl ∧ Cond.instanceMethod Lib.objectInit ∈ lw_tbl ∧ Cond.code Lib.objectInit ⟨#[0xb1]⟩ 1 none ∈ lw_tbl := by
  obtain ⟨p, hp⟩ := ix_cal_in h
  exact ⟨ix_wa_mem hp, ix_ob_i, ix_ob_c⟩
theorem ix_cpy_ok {o idx mj : Nat} (h : ix_cal o idx = some (2, mj)) : Cond.methodLink (ix_cn o) idx arraycopyName ∈ lw_tbl ∧ Cond.native arraycopyName ∈ lw_tbl ∧ Cond.static arraycopyName ∈ lw_tbl ∧ Cond.initialized "java/lang/System" ∈ lw_tbl := by
  obtain ⟨p, hp⟩ := ix_cal_in h
  exact ⟨ix_wa_mem hp, ix_cp_n, ix_cp_s, ix_cp_i⟩
noncomputable def ix_fY (mj : Nat) : Bool :=
  (bif (ix_hh mj).isEmpty then ix_wa (ix_mp mj).1 (Cond.code (ix_y mj) (ix_by mj) (ix_ml mj) (ix_rt mj)) else ix_wa (ix_mp mj).1 (Cond.codeWith (ix_y mj) (ix_by mj) (ix_ml mj) (ix_rt mj) (ix_hh mj))) &&
  plainFor (ix_y mj) && decide ((ix_y mj).cls ≠ "java/lang/invoke/MethodHandle" ∧ (ix_y mj).cls ≠ "java/lang/invoke/VarHandle") && decide ((parseMethodDescriptor (ix_y mj).desc).map (fun d => d.parameters.length) = some (ix_np mj)) && ix_wa (ix_mp mj).2.1 (Cond.initialized (ix_y mj).cls) &&
  (bif ix_sta mj then ix_wa (ix_mp mj).2.2.1 (Cond.static (ix_y mj)) else ix_wa (ix_mp mj).2.2.1 (Cond.instanceMethod (ix_y mj))) && (ix_sta mj || ix_ini mj || Nat.beq (ix_ci mj) 100 || (ix_wa (ix_mp mj).2.2.2 (Cond.selects (ix_y mj).cls (ix_y mj) (ix_y mj)) && decide ((ix_cls[ix_ci mj]?).map (fun q => q.1) = some (ix_y mj).cls))) &&
  decide (ix_cn (ix_o mj) = (ix_y mj).cls) && (!ix_ini mj || (decide ((ix_y mj).name = "<init>") && decide (ix_rt mj = none) && (ix_hh mj).isEmpty && !ix_sta mj))
theorem ix_fY1 : ((List.range 19).all fun j => ix_fY (1 + j)) = true := by decide +kernel
theorem ix_fY20 : ((List.range 19).all fun j => ix_fY (20 + j)) = true := by decide +kernel
theorem ix_fY39 : ((List.range 19).all fun j => ix_fY (39 + j)) = true := by decide +kernel
theorem ix_fY58 : ((List.range 19).all fun j => ix_fY (58 + j)) = true := by decide +kernel
theorem ix_fY77 : ((List.range 19).all fun j => ix_fY (77 + j)) = true := by decide +kernel
theorem ix_fY96 : ((List.range 19).all fun j => ix_fY (96 + j)) = true := by decide +kernel
theorem ix_fY115 : ((List.range 19).all fun j => ix_fY (115 + j)) = true := by decide +kernel
theorem ix_fY134 : ((List.range 19).all fun j => ix_fY (134 + j)) = true := by decide +kernel
theorem ix_fY153 : ((List.range 19).all fun j => ix_fY (153 + j)) = true := by decide +kernel
theorem ix_fY172 : ((List.range 19).all fun j => ix_fY (172 + j)) = true := by decide +kernel
theorem ix_fY191 : ((List.range 19).all fun j => ix_fY (191 + j)) = true := by decide +kernel
theorem ix_fY210 : ((List.range 19).all fun j => ix_fY (210 + j)) = true := by decide +kernel
theorem ix_fY229 : ((List.range 19).all fun j => ix_fY (229 + j)) = true := by decide +kernel
theorem ix_fY248 : ((List.range 19).all fun j => ix_fY (248 + j)) = true := by decide +kernel
theorem ix_fY267 : ((List.range 19).all fun j => ix_fY (267 + j)) = true := by decide +kernel
theorem ix_fYs : ∀ mj, mj < 286 → (!Nat.beq mj 0) = true → ix_fY mj = true := by
  intro mj h h0
  have hz : ∀ a, a < 1 → (fun mj => Nat.beq mj 0 || ix_fY mj) a = true := fun a ha => by rw [show a = 0 by omega]; rfl
  have up : ∀ {i k : Nat}, ((List.range k).all fun j => ix_fY (i + j)) = true → ((List.range k).all fun j => (fun mj => Nat.beq mj 0 || ix_fY mj) (i + j)) = true := fun {i k} q => List.all_eq_true.mpr fun x hx => by have := List.all_eq_true.mp q x hx; simp only at this ⊢; rw [this, Bool.or_true]
  have := (ix_rg (i := 267) 19 (ix_rg (i := 248) 19 (ix_rg (i := 229) 19 (ix_rg (i := 210) 19 (ix_rg (i := 191) 19 (ix_rg (i := 172) 19 (ix_rg (i := 153) 19 (ix_rg (i := 134) 19 (ix_rg (i := 115) 19 (ix_rg (i := 96) 19 (ix_rg (i := 77) 19 (ix_rg (i := 58) 19 (ix_rg (i := 39) 19 (ix_rg (i := 20) 19 (ix_rg (i := 1) 19 hz (up ix_fY1)) (up ix_fY20)) (up ix_fY39)) (up ix_fY58)) (up ix_fY77)) (up ix_fY96)) (up ix_fY115)) (up ix_fY134)) (up ix_fY153)) (up ix_fY172)) (up ix_fY191)) (up ix_fY210)) (up ix_fY229)) (up ix_fY248)) (up ix_fY267)) mj h
  simp only [Bool.or_eq_true] at this
  refine this.resolve_left fun z => ?_
  rw [z] at h0
  cases h0
theorem ix_Y {mj : Nat} (h : mj < 286) (h0 : (!Nat.beq mj 0) = true) : (((ix_hh mj = [] ∧ Cond.code (ix_y mj) (ix_by mj) (ix_ml mj) (ix_rt mj) ∈ lw_tbl) ∨ (ix_hh mj ≠ [] ∧ Cond.codeWith (ix_y mj) (ix_by mj) (ix_ml mj) (ix_rt mj) (ix_hh mj) ∈ lw_tbl)) ∧ plainFor (ix_y mj) = true ∧ ix_cn (ix_o mj) = (ix_y mj).cls) ∧
    (parseMethodDescriptor (ix_y mj).desc).map (fun d => d.parameters.length) = some (ix_np mj) ∧ ((ix_y mj).cls ≠ "java/lang/invoke/MethodHandle" ∧ (ix_y mj).cls ≠ "java/lang/invoke/VarHandle") ∧ Cond.initialized (ix_y mj).cls ∈ lw_tbl ∧ (ix_sta mj = true → Cond.static (ix_y mj) ∈ lw_tbl) ∧ (ix_sta mj = false → Cond.instanceMethod (ix_y mj) ∈ lw_tbl) ∧
    (ix_sta mj = false → ix_ini mj = false → ix_ci mj ≠ 100 → Cond.selects (ix_y mj).cls (ix_y mj) (ix_y mj) ∈ lw_tbl ∧ (ix_cls[ix_ci mj]?).map (fun q => q.1) = some (ix_y mj).cls) ∧
    (ix_ini mj = true → (ix_y mj).name = "<init>" ∧ ix_rt mj = none ∧ ix_hh mj = []) := by
  have h1 := ix_fYs mj h h0
  unfold ix_fY at h1
  simp only [Bool.and_eq_true, decide_eq_true_eq] at h1
  obtain ⟨⟨⟨⟨⟨⟨⟨⟨a1, a2⟩, a3⟩, a4⟩, a5⟩, a6⟩, a7⟩, a8⟩, a9⟩ := h1
  refine ⟨⟨?_, a2, a8⟩, a4, a3, ix_wa_mem a5, fun q => ?_, fun q => ?_, fun q1 q2 q3 => ?_, fun q => ?_⟩
  · cases hq : (ix_hh mj).isEmpty with
    | true => rw [hq] at a1; exact Or.inl ⟨List.isEmpty_iff.mp hq, ix_wa_mem a1⟩
    | false => rw [hq] at a1; exact Or.inr ⟨fun z => by rw [z] at hq; cases hq, ix_wa_mem a1⟩
  · rw [q] at a6; exact ix_wa_mem a6
  · rw [q] at a6; exact ix_wa_mem a6
  · simp only [q1, q2, Bool.false_or, Bool.or_eq_true, Bool.and_eq_true, decide_eq_true_eq] at a7
    rcases a7 with z | z
    · exact absurd (Nat.eq_of_beq_eq_true z) q3
    · exact ⟨ix_wa_mem z.1, z.2⟩
  · simp only [q, Bool.not_true, Bool.false_or, Bool.and_eq_true, decide_eq_true_eq] at a9
    exact ⟨a9.1.1.1, a9.1.1.2, List.isEmpty_iff.mp a9.1.2⟩
theorem ix_cal_ok {o idx mj : Nat} (h : ix_cal o idx = some (0, mj)) : (mj < 286 ∧ (!Nat.beq mj 0) = true) ∧ (Cond.methodLink (ix_cn o) idx (ix_y mj) ∈ lw_tbl ∨ ∃ host, Cond.methodLinkNest (ix_cn o) idx (ix_y mj) host ∈ lw_tbl) := by
  obtain ⟨p, hp⟩ := ix_cal_in h
  have hp' : (Nat.blt mj ix_NM && !Nat.beq mj 0 && (ix_wa p (Cond.methodLink (ix_cn o) idx (ix_y mj)) || ix_wa p (Cond.methodLinkNest (ix_cn o) idx (ix_y mj) "DecimalBits"))) = true := hp
  simp only [Bool.and_eq_true, Bool.or_eq_true] at hp'
  refine ⟨⟨Nat.le_of_ble_eq_true hp'.1.1, hp'.1.2⟩, ?_⟩
  rcases hp'.2 with z | z
  · exact Or.inl (ix_wa_mem z)
  · exact Or.inr ⟨_, ix_wa_mem z⟩
/-! words that stay true under warmer tables -/
def ix_gw (w : Cond) : Bool := match w with
  | .methodLinkNest _ _ _ _ => true
  | .arrayOver (.object _) => true
  | w => goodWord w
abbrev ix_Ws (args : Array Value) (s : State) : Prop := ∀ w ∈ lw_tbl, ix_gw w = true → w.before args s = true
theorem ix_warm {s U : State} {args a' : Array Value} (hW : s.WarmedH U.vm) (hts : ix_Ws args s) : ix_Ws a' U := by
  intro w hw hg
  have h := hts w hw hg
  cases w with
  | methodLinkNest a i x hh => exact va_Nw.use rfl (va_Nw.warmM hW (va_Nw.of rfl h))
  | arrayOver t =>
    cases t with
    | object C => exact va_AO.use ((va_AO.of h).moved hW.alike)
    | _ => exact word_at hW (good_of_word hg) h
  | _ => exact word_at hW (good_of_word hg) h
theorem ix_lay_gw {C : String} {T : u_T} {N : Nat} {w : Cond} (h : w ∈ u_ws C T N) : ix_gw w = true := by
  obtain ⟨k, -, rfl⟩ := List.mem_map.mp h
  unfold u_lay
  split <;> rfl
