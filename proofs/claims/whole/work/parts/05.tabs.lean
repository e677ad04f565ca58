/-! ===== the tables' words are the claim's ===== -/
noncomputable def ix_tb (c : Nat) : List Cond := bif Nat.beq c 0 then tables_1_1 else bif Nat.beq c 1 then tables_1_2 else bif Nat.beq c 2 then tables_1_3 else bif Nat.beq c 3 then tables_1_4 else bif Nat.beq c 4 then tables_1_5 else bif Nat.beq c 5 then tables_1_6 else tables_1_7
noncomputable def ix_at (p : Nat) : Option Cond := bif Nat.blt p 115 then (k2_sels lw_privs)[p]? else (ix_tb ((p - 115) / 240))[(p - 115) % 240]?
theorem ix_tb_mem {c : Nat} {w : Cond} (h : w ∈ ix_tb c) : w ∈ lw_tbl := by
  have key : w ∈ tables_1 → w ∈ lw_tbl := fun q => List.mem_append_right _ q
  unfold ix_tb at h
  apply key
  unfold tables_1
  cases h0 : Nat.beq c 0 with
  | true => rw [h0] at h; exact List.mem_append_left _ h
  | false =>
    rw [h0] at h
    refine List.mem_append_right _ ?_
    cases h1 : Nat.beq c 1 with
    | true => rw [h1] at h; exact List.mem_append_left _ h
    | false =>
      rw [h1] at h
      refine List.mem_append_right _ ?_
      cases h2 : Nat.beq c 2 with
      | true => rw [h2] at h; exact List.mem_append_left _ h
      | false =>
        rw [h2] at h
        refine List.mem_append_right _ ?_
        cases h3 : Nat.beq c 3 with
        | true => rw [h3] at h; exact List.mem_append_left _ h
        | false =>
          rw [h3] at h
          refine List.mem_append_right _ ?_
          cases h4 : Nat.beq c 4 with
          | true => rw [h4] at h; exact List.mem_append_left _ h
          | false =>
            rw [h4] at h
            refine List.mem_append_right _ ?_
            cases h5 : Nat.beq c 5 with
            | true => rw [h5] at h; exact List.mem_append_left _ h
            | false => rw [h5] at h; exact List.mem_append_right _ h
theorem ix_wa_mem {p : Nat} {w : Cond} (h1 : ix_at p = some w) : w ∈ lw_tbl := by
  unfold ix_at at h1
  cases hb : Nat.blt p 115 with
  | true => rw [hb] at h1; exact List.mem_append_left _ (List.mem_of_getElem? h1)
  | false => rw [hb] at h1; exact ix_tb_mem (List.mem_of_getElem? h1)
/-! ===== where the claim's words stand: laid by a program ===== -/
noncomputable def ix_lp (ci k : Nat) : Nat := (bif Nat.blt (ci * 32 + k) 232 then (bif Nat.blt (ci * 32 + k) 100 then (bif Nat.blt (ci * 32 + k) 8 then (bif Nat.blt (ci * 32 + k) 4 then (bif Nat.blt (ci * 32 + k) 2 then (bif Nat.blt (ci * 32 + k) 1 then 392 else 394) else (bif Nat.blt (ci * 32 + k) 3 then 396 else 398)) else (bif Nat.blt (ci * 32 + k) 6 then (bif Nat.blt (ci * 32 + k) 5 then 400 else 402) else (bif Nat.blt (ci * 32 + k) 7 then 404 else 406))) else (bif Nat.blt (ci * 32 + k) 96 then (bif Nat.blt (ci * 32 + k) 64 then (bif Nat.blt (ci * 32 + k) 32 then 408 else 172) else (bif Nat.blt (ci * 32 + k) 65 then 262 else 264)) else (bif Nat.blt (ci * 32 + k) 98 then (bif Nat.blt (ci * 32 + k) 97 then 209 else 211) else (bif Nat.blt (ci * 32 + k) 99 then 213 else 215)))) else (bif Nat.blt (ci * 32 + k) 192 then (bif Nat.blt (ci * 32 + k) 161 then (bif Nat.blt (ci * 32 + k) 129 then (bif Nat.blt (ci * 32 + k) 128 then 217 else 327) else (bif Nat.blt (ci * 32 + k) 160 then 329 else 243)) else (bif Nat.blt (ci * 32 + k) 163 then (bif Nat.blt (ci * 32 + k) 162 then 245 else 247) else (bif Nat.blt (ci * 32 + k) 164 then 249 else 251))) else (bif Nat.blt (ci * 32 + k) 227 then (bif Nat.blt (ci * 32 + k) 225 then (bif Nat.blt (ci * 32 + k) 224 then 276 else 293) else (bif Nat.blt (ci * 32 + k) 226 then 295 else 297)) else (bif Nat.blt (ci * 32 + k) 229 then (bif Nat.blt (ci * 32 + k) 228 then 299 else 301) else (bif Nat.blt (ci * 32 + k) 230 then 303 else (bif Nat.blt (ci * 32 + k) 231 then 305 else 307)))))) else (bif Nat.blt (ci * 32 + k) 326 then (bif Nat.blt (ci * 32 + k) 262 then (bif Nat.blt (ci * 32 + k) 258 then (bif Nat.blt (ci * 32 + k) 256 then (bif Nat.blt (ci * 32 + k) 233 then 309 else 311) else (bif Nat.blt (ci * 32 + k) 257 then 351 else 353)) else (bif Nat.blt (ci * 32 + k) 260 then (bif Nat.blt (ci * 32 + k) 259 then 355 else 357) else (bif Nat.blt (ci * 32 + k) 261 then 359 else 361))) else (bif Nat.blt (ci * 32 + k) 321 then (bif Nat.blt (ci * 32 + k) 289 then (bif Nat.blt (ci * 32 + k) 288 then 363 else 377) else (bif Nat.blt (ci * 32 + k) 320 then 379 else 1288)) else (bif Nat.blt (ci * 32 + k) 323 then (bif Nat.blt (ci * 32 + k) 322 then 1290 else 1292) else (bif Nat.blt (ci * 32 + k) 324 then 1294 else (bif Nat.blt (ci * 32 + k) 325 then 1296 else 1298))))) else (bif Nat.blt (ci * 32 + k) 334 then (bif Nat.blt (ci * 32 + k) 330 then (bif Nat.blt (ci * 32 + k) 328 then (bif Nat.blt (ci * 32 + k) 327 then 1300 else 1302) else (bif Nat.blt (ci * 32 + k) 329 then 1304 else 1306)) else (bif Nat.blt (ci * 32 + k) 332 then (bif Nat.blt (ci * 32 + k) 331 then 1308 else 1310) else (bif Nat.blt (ci * 32 + k) 333 then 1312 else 1314))) else (bif Nat.blt (ci * 32 + k) 338 then (bif Nat.blt (ci * 32 + k) 336 then (bif Nat.blt (ci * 32 + k) 335 then 1316 else 1318) else (bif Nat.blt (ci * 32 + k) 337 then 1320 else 1322)) else (bif Nat.blt (ci * 32 + k) 340 then (bif Nat.blt (ci * 32 + k) 339 then 1324 else 1326) else (bif Nat.blt (ci * 32 + k) 341 then 1328 else (bif Nat.blt (ci * 32 + k) 342 then 1330 else 1332)))))))
noncomputable def ix_np2 (ci : Nat) : Nat × Nat := (bif Nat.blt ci 6 then (bif Nat.blt ci 3 then (bif Nat.blt ci 1 then (143, 116) else (bif Nat.blt ci 2 then (165, 119) else (255, 121))) else (bif Nat.blt ci 4 then (159, 118) else (bif Nat.blt ci 5 then (317, 123) else (221, 120)))) else (bif Nat.blt ci 9 then (bif Nat.blt ci 7 then (268, 122) else (bif Nat.blt ci 8 then (153, 117) else (333, 124))) else (bif Nat.blt ci 11 then (bif Nat.blt ci 10 then (368, 125) else (1260, 126)) else (bif Nat.blt ci 12 then (556, 131) else (944, 137)))))
theorem ix_ar_int : Cond.arrayClass .int ∈ lw_tbl := ix_wa_mem (p := 175) rfl
theorem ix_ar_long : Cond.arrayClass .long ∈ lw_tbl := ix_wa_mem (p := 1336) rfl
theorem ix_ar_char : Cond.arrayClass .char ∈ lw_tbl := ix_wa_mem (p := 366) rfl
theorem ix_ar_boolean : Cond.arrayClass .boolean ∈ lw_tbl := ix_wa_mem (p := 1335) rfl
theorem ix_ar_q : Cond.arrayOver (.object ix_nD) ∈ lw_tbl := ix_wa_mem (p := 151) rfl
theorem ix_ob_i : Cond.instanceMethod Lib.objectInit ∈ lw_tbl := ix_wa_mem (p := 148) rfl
theorem ix_ob_c : Cond.code Lib.objectInit ⟨#[0xb1]⟩ 1 none ∈ lw_tbl := ix_wa_mem (p := 149) rfl
theorem ix_cp_n : Cond.native arraycopyName ∈ lw_tbl := ix_wa_mem (p := 430) rfl
theorem ix_cp_s : Cond.static arraycopyName ∈ lw_tbl := ix_wa_mem (p := 429) rfl
theorem ix_cp_i : Cond.initialized "java/lang/System" ∈ lw_tbl := ix_wa_mem (p := 133) rfl
noncomputable def ix_PF (o : Nat) (e : Nat × Nat × Nat × Nat) : Prop := ∃ q, ix_cls[e.2.1]? = some q ∧ e.2.2.1 < q.2.2 ∧ ix_at e.2.2.2 = some (Cond.fieldLink (ix_cn o) e.1 q.1 (q.2.1 e.2.2.1).2.1 (q.2.1 e.2.2.1).2.2.1)
noncomputable def ix_PM (o : Nat) (e : Nat × Nat × Nat × Nat) : Prop := match e.2.1 with
  | 0 => e.2.2.1 < 286 ∧ (!Nat.beq e.2.2.1 0) = true ∧ (ix_at e.2.2.2 = some (Cond.methodLink (ix_cn o) e.1 (ix_y e.2.2.1)) ∨ ix_at e.2.2.2 = some (Cond.methodLinkNest (ix_cn o) e.1 (ix_y e.2.2.1) "DecimalBits"))
  | 1 => ix_at e.2.2.2 = some (Cond.methodLink (ix_cn o) e.1 Lib.objectInit)
  | 2 => ix_at e.2.2.2 = some (Cond.methodLink (ix_cn o) e.1 arraycopyName)
  | _ => False
noncomputable def ix_PN (o : Nat) (e : Nat × Nat × Nat) : Prop := ∃ q, ix_cls[e.2.1]? = some q ∧ ix_at e.2.2 = some (Cond.classLink (ix_cn o) e.1 q.1) ∧ ix_at (ix_np2 e.2.1).1 = some (Cond.instantiable q.1 q.2.2) ∧ ix_at (ix_np2 e.2.1).2 = some (Cond.initialized q.1)
noncomputable def ix_PX (o : Nat) (e : Nat × Nat × Nat) : Prop := ∃ q, ix_cls[e.2.1]? = some q ∧ ix_at e.2.2 = some (Cond.classLink (ix_cn o) e.1 q.1)
noncomputable def ix_PY (mj : Nat) : Prop := ((ix_hh mj = [] ∧ ix_at (ix_mp mj).1 = some (Cond.code (ix_y mj) (ix_by mj) (ix_ml mj) (ix_rt mj))) ∨ (ix_hh mj ≠ [] ∧ ix_at (ix_mp mj).1 = some (Cond.codeWith (ix_y mj) (ix_by mj) (ix_ml mj) (ix_rt mj) (ix_hh mj)))) ∧ plainFor (ix_y mj) = true ∧ ix_cn (ix_o mj) = (ix_y mj).cls ∧
    (parseMethodDescriptor (ix_y mj).desc).map (fun d => d.parameters.length) = some (ix_np mj) ∧ ((ix_y mj).cls ≠ "java/lang/invoke/MethodHandle" ∧ (ix_y mj).cls ≠ "java/lang/invoke/VarHandle") ∧ ix_at (ix_mp mj).2.1 = some (Cond.initialized (ix_y mj).cls) ∧ (ix_sta mj = true → ix_at (ix_mp mj).2.2.1 = some (Cond.static (ix_y mj))) ∧ (ix_sta mj = false → ix_at (ix_mp mj).2.2.1 = some (Cond.instanceMethod (ix_y mj))) ∧
    (ix_sta mj = false → ix_ini mj = false → ix_ci mj ≠ 100 → ix_at (ix_mp mj).2.2.2 = some (Cond.selects (ix_y mj).cls (ix_y mj) (ix_y mj)) ∧ (ix_cls[ix_ci mj]?).map (fun q => q.1) = some (ix_y mj).cls) ∧
    (ix_ini mj = true → (ix_y mj).name = "<init>" ∧ ix_rt mj = none ∧ ix_hh mj = [])
theorem ix_de0 : (parseMethodDescriptor "()B").map (fun d => d.parameters.length) = some 0 := by decide +kernel
theorem ix_de1 : (parseMethodDescriptor "()I").map (fun d => d.parameters.length) = some 0 := by decide +kernel
theorem ix_de2 : (parseMethodDescriptor "()V").map (fun d => d.parameters.length) = some 0 := by decide +kernel
theorem ix_de3 : (parseMethodDescriptor "()Z").map (fun d => d.parameters.length) = some 0 := by decide +kernel
theorem ix_de4 : (parseMethodDescriptor "(C)V").map (fun d => d.parameters.length) = some 1 := by decide +kernel
theorem ix_de5 : (parseMethodDescriptor "(C)Z").map (fun d => d.parameters.length) = some 1 := by decide +kernel
theorem ix_de6 : (parseMethodDescriptor "(I)C").map (fun d => d.parameters.length) = some 1 := by decide +kernel
theorem ix_de7 : (parseMethodDescriptor "(I)I").map (fun d => d.parameters.length) = some 1 := by decide +kernel
theorem ix_de8 : (parseMethodDescriptor "(I)J").map (fun d => d.parameters.length) = some 1 := by decide +kernel
theorem ix_de9 : (parseMethodDescriptor "(I)V").map (fun d => d.parameters.length) = some 1 := by decide +kernel
theorem ix_de10 : (parseMethodDescriptor "(I)Z").map (fun d => d.parameters.length) = some 1 := by decide +kernel
theorem ix_de11 : (parseMethodDescriptor "(II)I").map (fun d => d.parameters.length) = some 2 := by decide +kernel
theorem ix_de12 : (parseMethodDescriptor "(II)V").map (fun d => d.parameters.length) = some 2 := by decide +kernel
theorem ix_de13 : (parseMethodDescriptor "(II)Z").map (fun d => d.parameters.length) = some 2 := by decide +kernel
theorem ix_de14 : (parseMethodDescriptor "(III)I").map (fun d => d.parameters.length) = some 3 := by decide +kernel
theorem ix_de15 : (parseMethodDescriptor "(III)V").map (fun d => d.parameters.length) = some 3 := by decide +kernel
theorem ix_de16 : (parseMethodDescriptor "(III)Z").map (fun d => d.parameters.length) = some 3 := by decide +kernel
theorem ix_de17 : (parseMethodDescriptor "(IIII)I").map (fun d => d.parameters.length) = some 4 := by decide +kernel
theorem ix_de18 : (parseMethodDescriptor "(IIII)V").map (fun d => d.parameters.length) = some 4 := by decide +kernel
theorem ix_de19 : (parseMethodDescriptor "(IIIIII)V").map (fun d => d.parameters.length) = some 6 := by decide +kernel
theorem ix_de20 : (parseMethodDescriptor "(IILjava/util/function/BiFunction;)I").map (fun d => d.parameters.length) = some 3 := by decide +kernel
theorem ix_de21 : (parseMethodDescriptor "(IIZ)I").map (fun d => d.parameters.length) = some 3 := by decide +kernel
theorem ix_de22 : (parseMethodDescriptor "(IIZ)J").map (fun d => d.parameters.length) = some 3 := by decide +kernel
theorem ix_de23 : (parseMethodDescriptor "(IIZ)V").map (fun d => d.parameters.length) = some 3 := by decide +kernel
theorem ix_de24 : (parseMethodDescriptor "(IIZI)V").map (fun d => d.parameters.length) = some 4 := by decide +kernel
theorem ix_de25 : (parseMethodDescriptor "(IJ)Z").map (fun d => d.parameters.length) = some 2 := by decide +kernel
theorem ix_de26 : (parseMethodDescriptor "(IJI)V").map (fun d => d.parameters.length) = some 3 := by decide +kernel
theorem ix_de27 : (parseMethodDescriptor "(ILDecimalBits$Datum;)V").map (fun d => d.parameters.length) = some 2 := by decide +kernel
theorem ix_de28 : (parseMethodDescriptor "(ILDecimalBits$Datum;I)I").map (fun d => d.parameters.length) = some 3 := by decide +kernel
theorem ix_de29 : (parseMethodDescriptor "(ILDecimalBits$Datum;LDecimalBits$Datum;)I").map (fun d => d.parameters.length) = some 3 := by decide +kernel
theorem ix_de30 : (parseMethodDescriptor "(ILDecimalBits$Datum;LDecimalBits$Datum;I)I").map (fun d => d.parameters.length) = some 4 := by decide +kernel
theorem ix_de31 : (parseMethodDescriptor "(IZ)V").map (fun d => d.parameters.length) = some 2 := by decide +kernel
theorem ix_de32 : (parseMethodDescriptor "(IZZIZ)Z").map (fun d => d.parameters.length) = some 5 := by decide +kernel
theorem ix_de33 : (parseMethodDescriptor "(J)J").map (fun d => d.parameters.length) = some 1 := by decide +kernel
theorem ix_de34 : (parseMethodDescriptor "(J)V").map (fun d => d.parameters.length) = some 1 := by decide +kernel
theorem ix_de35 : (parseMethodDescriptor "(JJ)J").map (fun d => d.parameters.length) = some 2 := by decide +kernel
theorem ix_de36 : (parseMethodDescriptor "(JJ)V").map (fun d => d.parameters.length) = some 2 := by decide +kernel
theorem ix_de37 : (parseMethodDescriptor "(JJJ)J").map (fun d => d.parameters.length) = some 3 := by decide +kernel
theorem ix_de38 : (parseMethodDescriptor "(LDecimalBits$Datum;)I").map (fun d => d.parameters.length) = some 1 := by decide +kernel
theorem ix_de39 : (parseMethodDescriptor "(LDecimalBits$Datum;)V").map (fun d => d.parameters.length) = some 1 := by decide +kernel
theorem ix_de40 : (parseMethodDescriptor "(LDecimalBits$Datum;I)I").map (fun d => d.parameters.length) = some 2 := by decide +kernel
theorem ix_de41 : (parseMethodDescriptor "(LDecimalBits$Datum;II)I").map (fun d => d.parameters.length) = some 3 := by decide +kernel
theorem ix_de42 : (parseMethodDescriptor "(LDecimalBits$Datum;IZ)I").map (fun d => d.parameters.length) = some 3 := by decide +kernel
theorem ix_de43 : (parseMethodDescriptor "(LDecimalBits$Datum;LDecimalBits$Datum;)I").map (fun d => d.parameters.length) = some 2 := by decide +kernel
theorem ix_de44 : (parseMethodDescriptor "(LDecimalBits$Datum;LDecimalBits$Datum;)V").map (fun d => d.parameters.length) = some 2 := by decide +kernel
theorem ix_de45 : (parseMethodDescriptor "(LDecimalBits$Datum;LDecimalBits$Datum;)Z").map (fun d => d.parameters.length) = some 2 := by decide +kernel
theorem ix_de46 : (parseMethodDescriptor "(LDecimalBits$Datum;LDecimalBits$Datum;I)I").map (fun d => d.parameters.length) = some 3 := by decide +kernel
theorem ix_de47 : (parseMethodDescriptor "(LDecimalBits$Datum;LDecimalBits$Datum;LDecimalBits$Datum;)I").map (fun d => d.parameters.length) = some 3 := by decide +kernel
theorem ix_de48 : (parseMethodDescriptor "(LDecimalBits$Datum;LDecimalBits$Datum;LDecimalBits$Datum;I)I").map (fun d => d.parameters.length) = some 4 := by decide +kernel
theorem ix_de49 : (parseMethodDescriptor "(LDecimalBits$Datum;LDecimalBits$Datum;ZI)I").map (fun d => d.parameters.length) = some 4 := by decide +kernel
theorem ix_de50 : (parseMethodDescriptor "(LDecimalBits$Datum;Z)V").map (fun d => d.parameters.length) = some 2 := by decide +kernel
theorem ix_de51 : (parseMethodDescriptor "(LDecimalBits$Natural;)I").map (fun d => d.parameters.length) = some 1 := by decide +kernel
theorem ix_de52 : (parseMethodDescriptor "(LDecimalBits$Natural;)V").map (fun d => d.parameters.length) = some 1 := by decide +kernel
theorem ix_de53 : (parseMethodDescriptor "(LDecimalBits$Natural;I)V").map (fun d => d.parameters.length) = some 2 := by decide +kernel
theorem ix_de54 : (parseMethodDescriptor "(LDecimalBits$Natural;II)V").map (fun d => d.parameters.length) = some 3 := by decide +kernel
theorem ix_de55 : (parseMethodDescriptor "(LDecimalBits$Natural;IZIZ)Z").map (fun d => d.parameters.length) = some 5 := by decide +kernel
theorem ix_de56 : (parseMethodDescriptor "(LDecimalBits$Natural;I[I)V").map (fun d => d.parameters.length) = some 3 := by decide +kernel
theorem ix_de57 : (parseMethodDescriptor "(LDecimalBits$Natural;LDecimalBits$Natural;)V").map (fun d => d.parameters.length) = some 2 := by decide +kernel
theorem ix_de58 : (parseMethodDescriptor "(LDecimalBits$Natural;LDecimalBits$Natural;LDecimalBits$Natural;LDecimalBits$Natural;)V").map (fun d => d.parameters.length) = some 4 := by decide +kernel
theorem ix_de59 : (parseMethodDescriptor "(LDecimalBits$TextReader;II)I").map (fun d => d.parameters.length) = some 3 := by decide +kernel
theorem ix_de60 : (parseMethodDescriptor "(LDecimalBits$Unrounded;)V").map (fun d => d.parameters.length) = some 1 := by decide +kernel
theorem ix_de61 : (parseMethodDescriptor "(LDecimalBits$Unrounded;ILDecimalBits$Datum;)I").map (fun d => d.parameters.length) = some 3 := by decide +kernel
theorem ix_de62 : (parseMethodDescriptor "(LDecimalBits$Unrounded;LDecimalBits$Unrounded;)V").map (fun d => d.parameters.length) = some 2 := by decide +kernel
theorem ix_de63 : (parseMethodDescriptor "(LDecimalBits;IIIIII)I").map (fun d => d.parameters.length) = some 7 := by decide +kernel
theorem ix_de64 : (parseMethodDescriptor "(LDecimalBits;IIII[J)I").map (fun d => d.parameters.length) = some 6 := by decide +kernel
theorem ix_de65 : (parseMethodDescriptor "(LDecimalBits;III[J)I").map (fun d => d.parameters.length) = some 5 := by decide +kernel
theorem ix_de66 : (parseMethodDescriptor "(LDecimalBits;IIZ[J)I").map (fun d => d.parameters.length) = some 5 := by decide +kernel
theorem ix_de67 : (parseMethodDescriptor "(LDecimalBits;II[J)I").map (fun d => d.parameters.length) = some 4 := by decide +kernel
theorem ix_de68 : (parseMethodDescriptor "(LDecimalBits;I[J)I").map (fun d => d.parameters.length) = some 3 := by decide +kernel
theorem ix_de69 : (parseMethodDescriptor "(Ljava/lang/String;)V").map (fun d => d.parameters.length) = some 1 := by decide +kernel
theorem ix_de70 : (parseMethodDescriptor "(Ljava/lang/String;)Z").map (fun d => d.parameters.length) = some 1 := by decide +kernel
theorem ix_de71 : (parseMethodDescriptor "(Z)I").map (fun d => d.parameters.length) = some 1 := by decide +kernel
theorem ix_de72 : (parseMethodDescriptor "(Z)V").map (fun d => d.parameters.length) = some 1 := by decide +kernel
theorem ix_de73 : (parseMethodDescriptor "(Z)Z").map (fun d => d.parameters.length) = some 1 := by decide +kernel
theorem ix_de74 : (parseMethodDescriptor "([BI)C").map (fun d => d.parameters.length) = some 2 := by decide +kernel
theorem ix_de75 : (parseMethodDescriptor "([I)Z").map (fun d => d.parameters.length) = some 1 := by decide +kernel
theorem ix_de76 : (parseMethodDescriptor "([II)V").map (fun d => d.parameters.length) = some 2 := by decide +kernel
theorem ix_pn0 : plainName "DecimalBitsLaw" = true := by decide +kernel
theorem ix_pn1 : plainName "DecimalBits" = true := by decide +kernel
theorem ix_pn2 : plainName "DecimalBits$Formats" = true := by decide +kernel
theorem ix_pn3 : plainName "DecimalBits$Natural" = true := by decide +kernel
theorem ix_pn4 : plainName "DecimalBits$Divider" = true := by decide +kernel
theorem ix_pn5 : plainName "DecimalBits$Datum" = true := by decide +kernel
theorem ix_pn6 : plainName "DecimalBits$BitPattern" = true := by decide +kernel
theorem ix_pn7 : plainName "DecimalBits$Unrounded" = true := by decide +kernel
theorem ix_pn8 : plainName "DecimalBits$Rounding" = true := by decide +kernel
theorem ix_pn9 : plainName "DecimalBits$Comparison" = true := by decide +kernel
theorem ix_pn10 : plainName "DecimalBits$Arithmetic" = true := by decide +kernel
theorem ix_pn11 : plainName "DecimalBits$TextReader" = true := by decide +kernel
theorem ix_pn12 : plainName "DecimalBits$TextWriter" = true := by decide +kernel
theorem ix_pn13 : plainName "DecimalBitsModel" = true := by decide +kernel
theorem ix_pq271 : plainFor ⟨"java/lang/Integer", "compare", "(II)I"⟩ = true := by decide +kernel
theorem ix_pq272 : plainFor ⟨"java/lang/Math", "min", "(JJ)J"⟩ = true := by decide +kernel
theorem ix_pq273 : plainFor ⟨"java/lang/Math", "max", "(II)I"⟩ = true := by decide +kernel
theorem ix_pq274 : plainFor ⟨"java/lang/Math", "min", "(II)I"⟩ = true := by decide +kernel
theorem ix_pq275 : plainFor ⟨"java/lang/Math", "max", "(JJ)J"⟩ = true := by decide +kernel
theorem ix_pq276 : plainFor ⟨"java/lang/Math", "floorDiv", "(II)I"⟩ = true := by decide +kernel
theorem ix_pq277 : plainFor ⟨"java/lang/Math", "abs", "(I)I"⟩ = true := by decide +kernel
theorem ix_pq278 : plainFor ⟨"java/lang/String", "length", "()I"⟩ = true := by decide +kernel
theorem ix_pq279 : plainFor ⟨"java/lang/String", "coder", "()B"⟩ = true := by decide +kernel
theorem ix_pq280 : plainFor ⟨"java/lang/String", "charAt", "(I)C"⟩ = true := by decide +kernel
theorem ix_pq281 : plainFor ⟨"java/lang/String", "isLatin1", "()Z"⟩ = true := by decide +kernel
theorem ix_pq282 : plainFor ⟨"java/lang/String", "checkIndex", "(II)V"⟩ = true := by decide +kernel
theorem ix_pq283 : plainFor ⟨"java/lang/StringLatin1", "charAt", "([BI)C"⟩ = true := by decide +kernel
theorem ix_pq284 : plainFor ⟨"java/util/Arrays", "fill", "([II)V"⟩ = true := by decide +kernel
theorem ix_pq285 : plainFor ⟨"jdk/internal/util/Preconditions", "checkIndex", "(IILjava/util/function/BiFunction;)I"⟩ = true := by decide +kernel
theorem ix_mh0 : "DecimalBitsLaw" ≠ "java/lang/invoke/MethodHandle" ∧ "DecimalBitsLaw" ≠ "java/lang/invoke/VarHandle" := by decide +kernel
theorem ix_mh1 : "DecimalBits" ≠ "java/lang/invoke/MethodHandle" ∧ "DecimalBits" ≠ "java/lang/invoke/VarHandle" := by decide +kernel
theorem ix_mh2 : "DecimalBits$Formats" ≠ "java/lang/invoke/MethodHandle" ∧ "DecimalBits$Formats" ≠ "java/lang/invoke/VarHandle" := by decide +kernel
theorem ix_mh3 : "DecimalBits$Natural" ≠ "java/lang/invoke/MethodHandle" ∧ "DecimalBits$Natural" ≠ "java/lang/invoke/VarHandle" := by decide +kernel
theorem ix_mh4 : "DecimalBits$Divider" ≠ "java/lang/invoke/MethodHandle" ∧ "DecimalBits$Divider" ≠ "java/lang/invoke/VarHandle" := by decide +kernel
theorem ix_mh5 : "DecimalBits$Datum" ≠ "java/lang/invoke/MethodHandle" ∧ "DecimalBits$Datum" ≠ "java/lang/invoke/VarHandle" := by decide +kernel
theorem ix_mh6 : "DecimalBits$BitPattern" ≠ "java/lang/invoke/MethodHandle" ∧ "DecimalBits$BitPattern" ≠ "java/lang/invoke/VarHandle" := by decide +kernel
theorem ix_mh7 : "DecimalBits$Unrounded" ≠ "java/lang/invoke/MethodHandle" ∧ "DecimalBits$Unrounded" ≠ "java/lang/invoke/VarHandle" := by decide +kernel
theorem ix_mh8 : "DecimalBits$Rounding" ≠ "java/lang/invoke/MethodHandle" ∧ "DecimalBits$Rounding" ≠ "java/lang/invoke/VarHandle" := by decide +kernel
theorem ix_mh9 : "DecimalBits$Comparison" ≠ "java/lang/invoke/MethodHandle" ∧ "DecimalBits$Comparison" ≠ "java/lang/invoke/VarHandle" := by decide +kernel
theorem ix_mh10 : "DecimalBits$Arithmetic" ≠ "java/lang/invoke/MethodHandle" ∧ "DecimalBits$Arithmetic" ≠ "java/lang/invoke/VarHandle" := by decide +kernel
theorem ix_mh11 : "DecimalBits$TextReader" ≠ "java/lang/invoke/MethodHandle" ∧ "DecimalBits$TextReader" ≠ "java/lang/invoke/VarHandle" := by decide +kernel
theorem ix_mh12 : "DecimalBits$TextWriter" ≠ "java/lang/invoke/MethodHandle" ∧ "DecimalBits$TextWriter" ≠ "java/lang/invoke/VarHandle" := by decide +kernel
theorem ix_mh13 : "DecimalBitsModel" ≠ "java/lang/invoke/MethodHandle" ∧ "DecimalBitsModel" ≠ "java/lang/invoke/VarHandle" := by decide +kernel
theorem ix_mh14 : "java/lang/Integer" ≠ "java/lang/invoke/MethodHandle" ∧ "java/lang/Integer" ≠ "java/lang/invoke/VarHandle" := by decide +kernel
theorem ix_mh15 : "java/lang/Math" ≠ "java/lang/invoke/MethodHandle" ∧ "java/lang/Math" ≠ "java/lang/invoke/VarHandle" := by decide +kernel
theorem ix_mh16 : "java/lang/String" ≠ "java/lang/invoke/MethodHandle" ∧ "java/lang/String" ≠ "java/lang/invoke/VarHandle" := by decide +kernel
theorem ix_mh17 : "java/lang/StringLatin1" ≠ "java/lang/invoke/MethodHandle" ∧ "java/lang/StringLatin1" ≠ "java/lang/invoke/VarHandle" := by decide +kernel
theorem ix_mh18 : "java/util/Arrays" ≠ "java/lang/invoke/MethodHandle" ∧ "java/util/Arrays" ≠ "java/lang/invoke/VarHandle" := by decide +kernel
theorem ix_mh19 : "jdk/internal/util/Preconditions" ≠ "java/lang/invoke/MethodHandle" ∧ "jdk/internal/util/Preconditions" ≠ "java/lang/invoke/VarHandle" := by decide +kernel
noncomputable def ix_sC (r : Nat) : String × String × String := (bif Nat.blt r 3 then (bif Nat.blt r 1 then ("DecimalBits$Formats", "WORDS", "[I") else (bif Nat.blt r 2 then ("DecimalBits$Formats", "DIGITS", "[I") else ("DecimalBits$Formats", "BIAS", "[I"))) else (bif Nat.blt r 5 then (bif Nat.blt r 4 then ("DecimalBits$Formats", "EMAX", "[I") else ("DecimalBits$Natural", "POWERS", "[I")) else (bif Nat.blt r 6 then ("DecimalBits$Formats", "EXPONENT_BITS", "[I") else ("DecimalBits$Formats", "PAYLOAD_BITS", "[I"))))
noncomputable def ix_PS (o : Nat) (e : Nat × Nat × Nat) : Prop := ix_at e.2.2 = some (Cond.fieldLink (ix_cn o) e.1 (ix_sC e.2.1).1 (ix_sC e.2.1).2.1 (ix_sC e.2.1).2.2)
theorem ix_wF0 : ∀ e ∈ ix_jF_0, ix_PF 0 e := fun _ h => absurd h List.not_mem_nil
theorem ix_wF1 : ∀ e ∈ ix_jF_1, ix_PF 1 e := List.forall_mem_cons.mpr ⟨⟨_, rfl, by decide, rfl⟩, List.forall_mem_cons.mpr ⟨⟨_, rfl, by decide, rfl⟩, List.forall_mem_cons.mpr ⟨⟨_, rfl, by decide, rfl⟩, List.forall_mem_cons.mpr ⟨⟨_, rfl, by decide, rfl⟩, List.forall_mem_cons.mpr ⟨⟨_, rfl, by decide, rfl⟩, List.forall_mem_cons.mpr ⟨⟨_, rfl, by decide, rfl⟩, List.forall_mem_cons.mpr ⟨⟨_, rfl, by decide, rfl⟩, List.forall_mem_cons.mpr ⟨⟨_, rfl, by decide, rfl⟩, List.forall_mem_cons.mpr ⟨⟨_, rfl, by decide, rfl⟩, List.forall_mem_cons.mpr ⟨⟨_, rfl, by decide, rfl⟩, List.forall_mem_cons.mpr ⟨⟨_, rfl, by decide, rfl⟩, List.forall_mem_cons.mpr ⟨⟨_, rfl, by decide, rfl⟩, List.forall_mem_cons.mpr ⟨⟨_, rfl, by decide, rfl⟩, List.forall_mem_cons.mpr ⟨⟨_, rfl, by decide, rfl⟩, List.forall_mem_cons.mpr ⟨⟨_, rfl, by decide, rfl⟩, List.forall_mem_cons.mpr ⟨⟨_, rfl, by decide, rfl⟩, List.forall_mem_cons.mpr ⟨⟨_, rfl, by decide, rfl⟩, List.forall_mem_cons.mpr ⟨⟨_, rfl, by decide, rfl⟩, List.forall_mem_cons.mpr ⟨⟨_, rfl, by decide, rfl⟩, fun _ h => absurd h List.not_mem_nil⟩⟩⟩⟩⟩⟩⟩⟩⟩⟩⟩⟩⟩⟩⟩⟩⟩⟩⟩
theorem ix_wF2 : ∀ e ∈ ix_jF_2, ix_PF 2 e := fun _ h => absurd h List.not_mem_nil
theorem ix_wF3 : ∀ e ∈ ix_jF_3, ix_PF 3 e := List.forall_mem_cons.mpr ⟨⟨_, rfl, by decide, rfl⟩, fun _ h => absurd h List.not_mem_nil⟩
theorem ix_wF4 : ∀ e ∈ ix_jF_4, ix_PF 4 e := List.forall_mem_cons.mpr ⟨⟨_, rfl, by decide, rfl⟩, List.forall_mem_cons.mpr ⟨⟨_, rfl, by decide, rfl⟩, List.forall_mem_cons.mpr ⟨⟨_, rfl, by decide, rfl⟩, fun _ h => absurd h List.not_mem_nil⟩⟩⟩
theorem ix_wF5 : ∀ e ∈ ix_jF_5, ix_PF 5 e := List.forall_mem_cons.mpr ⟨⟨_, rfl, by decide, rfl⟩, List.forall_mem_cons.mpr ⟨⟨_, rfl, by decide, rfl⟩, List.forall_mem_cons.mpr ⟨⟨_, rfl, by decide, rfl⟩, List.forall_mem_cons.mpr ⟨⟨_, rfl, by decide, rfl⟩, List.forall_mem_cons.mpr ⟨⟨_, rfl, by decide, rfl⟩, fun _ h => absurd h List.not_mem_nil⟩⟩⟩⟩⟩
theorem ix_wF6 : ∀ e ∈ ix_jF_6, ix_PF 6 e := List.forall_mem_cons.mpr ⟨⟨_, rfl, by decide, rfl⟩, List.forall_mem_cons.mpr ⟨⟨_, rfl, by decide, rfl⟩, List.forall_mem_cons.mpr ⟨⟨_, rfl, by decide, rfl⟩, List.forall_mem_cons.mpr ⟨⟨_, rfl, by decide, rfl⟩, List.forall_mem_cons.mpr ⟨⟨_, rfl, by decide, rfl⟩, List.forall_mem_cons.mpr ⟨⟨_, rfl, by decide, rfl⟩, List.forall_mem_cons.mpr ⟨⟨_, rfl, by decide, rfl⟩, fun _ h => absurd h List.not_mem_nil⟩⟩⟩⟩⟩⟩⟩
theorem ix_wF7 : ∀ e ∈ ix_jF_7, ix_PF 7 e := List.forall_mem_cons.mpr ⟨⟨_, rfl, by decide, rfl⟩, List.forall_mem_cons.mpr ⟨⟨_, rfl, by decide, rfl⟩, List.forall_mem_cons.mpr ⟨⟨_, rfl, by decide, rfl⟩, List.forall_mem_cons.mpr ⟨⟨_, rfl, by decide, rfl⟩, List.forall_mem_cons.mpr ⟨⟨_, rfl, by decide, rfl⟩, List.forall_mem_cons.mpr ⟨⟨_, rfl, by decide, rfl⟩, List.forall_mem_cons.mpr ⟨⟨_, rfl, by decide, rfl⟩, List.forall_mem_cons.mpr ⟨⟨_, rfl, by decide, rfl⟩, fun _ h => absurd h List.not_mem_nil⟩⟩⟩⟩⟩⟩⟩⟩
theorem ix_wF8 : ∀ e ∈ ix_jF_8, ix_PF 8 e := List.forall_mem_cons.mpr ⟨⟨_, rfl, by decide, rfl⟩, List.forall_mem_cons.mpr ⟨⟨_, rfl, by decide, rfl⟩, List.forall_mem_cons.mpr ⟨⟨_, rfl, by decide, rfl⟩, List.forall_mem_cons.mpr ⟨⟨_, rfl, by decide, rfl⟩, List.forall_mem_cons.mpr ⟨⟨_, rfl, by decide, rfl⟩, List.forall_mem_cons.mpr ⟨⟨_, rfl, by decide, rfl⟩, List.forall_mem_cons.mpr ⟨⟨_, rfl, by decide, rfl⟩, fun _ h => absurd h List.not_mem_nil⟩⟩⟩⟩⟩⟩⟩
theorem ix_wF9 : ∀ e ∈ ix_jF_9, ix_PF 9 e := List.forall_mem_cons.mpr ⟨⟨_, rfl, by decide, rfl⟩, List.forall_mem_cons.mpr ⟨⟨_, rfl, by decide, rfl⟩, List.forall_mem_cons.mpr ⟨⟨_, rfl, by decide, rfl⟩, List.forall_mem_cons.mpr ⟨⟨_, rfl, by decide, rfl⟩, List.forall_mem_cons.mpr ⟨⟨_, rfl, by decide, rfl⟩, fun _ h => absurd h List.not_mem_nil⟩⟩⟩⟩⟩
theorem ix_wF10 : ∀ e ∈ ix_jF_10, ix_PF 10 e := List.forall_mem_cons.mpr ⟨⟨_, rfl, by decide, rfl⟩, List.forall_mem_cons.mpr ⟨⟨_, rfl, by decide, rfl⟩, List.forall_mem_cons.mpr ⟨⟨_, rfl, by decide, rfl⟩, List.forall_mem_cons.mpr ⟨⟨_, rfl, by decide, rfl⟩, List.forall_mem_cons.mpr ⟨⟨_, rfl, by decide, rfl⟩, List.forall_mem_cons.mpr ⟨⟨_, rfl, by decide, rfl⟩, List.forall_mem_cons.mpr ⟨⟨_, rfl, by decide, rfl⟩, List.forall_mem_cons.mpr ⟨⟨_, rfl, by decide, rfl⟩, List.forall_mem_cons.mpr ⟨⟨_, rfl, by decide, rfl⟩, List.forall_mem_cons.mpr ⟨⟨_, rfl, by decide, rfl⟩, List.forall_mem_cons.mpr ⟨⟨_, rfl, by decide, rfl⟩, List.forall_mem_cons.mpr ⟨⟨_, rfl, by decide, rfl⟩, List.forall_mem_cons.mpr ⟨⟨_, rfl, by decide, rfl⟩, List.forall_mem_cons.mpr ⟨⟨_, rfl, by decide, rfl⟩, List.forall_mem_cons.mpr ⟨⟨_, rfl, by decide, rfl⟩, List.forall_mem_cons.mpr ⟨⟨_, rfl, by decide, rfl⟩, List.forall_mem_cons.mpr ⟨⟨_, rfl, by decide, rfl⟩, List.forall_mem_cons.mpr ⟨⟨_, rfl, by decide, rfl⟩, List.forall_mem_cons.mpr ⟨⟨_, rfl, by decide, rfl⟩, List.forall_mem_cons.mpr ⟨⟨_, rfl, by decide, rfl⟩, List.forall_mem_cons.mpr ⟨⟨_, rfl, by decide, rfl⟩, List.forall_mem_cons.mpr ⟨⟨_, rfl, by decide, rfl⟩, List.forall_mem_cons.mpr ⟨⟨_, rfl, by decide, rfl⟩, List.forall_mem_cons.mpr ⟨⟨_, rfl, by decide, rfl⟩, fun _ h => absurd h List.not_mem_nil⟩⟩⟩⟩⟩⟩⟩⟩⟩⟩⟩⟩⟩⟩⟩⟩⟩⟩⟩⟩⟩⟩⟩⟩
theorem ix_wF11 : ∀ e ∈ ix_jF_11, ix_PF 11 e := List.forall_mem_cons.mpr ⟨⟨_, rfl, by decide, rfl⟩, List.forall_mem_cons.mpr ⟨⟨_, rfl, by decide, rfl⟩, List.forall_mem_cons.mpr ⟨⟨_, rfl, by decide, rfl⟩, List.forall_mem_cons.mpr ⟨⟨_, rfl, by decide, rfl⟩, List.forall_mem_cons.mpr ⟨⟨_, rfl, by decide, rfl⟩, List.forall_mem_cons.mpr ⟨⟨_, rfl, by decide, rfl⟩, List.forall_mem_cons.mpr ⟨⟨_, rfl, by decide, rfl⟩, fun _ h => absurd h List.not_mem_nil⟩⟩⟩⟩⟩⟩⟩
theorem ix_wF12 : ∀ e ∈ ix_jF_12, ix_PF 12 e := List.forall_mem_cons.mpr ⟨⟨_, rfl, by decide, rfl⟩, List.forall_mem_cons.mpr ⟨⟨_, rfl, by decide, rfl⟩, List.forall_mem_cons.mpr ⟨⟨_, rfl, by decide, rfl⟩, List.forall_mem_cons.mpr ⟨⟨_, rfl, by decide, rfl⟩, List.forall_mem_cons.mpr ⟨⟨_, rfl, by decide, rfl⟩, List.forall_mem_cons.mpr ⟨⟨_, rfl, by decide, rfl⟩, fun _ h => absurd h List.not_mem_nil⟩⟩⟩⟩⟩⟩
theorem ix_wF13 : ∀ e ∈ ix_jF_13, ix_PF 13 e := List.forall_mem_cons.mpr ⟨⟨_, rfl, by decide, rfl⟩, List.forall_mem_cons.mpr ⟨⟨_, rfl, by decide, rfl⟩, List.forall_mem_cons.mpr ⟨⟨_, rfl, by decide, rfl⟩, List.forall_mem_cons.mpr ⟨⟨_, rfl, by decide, rfl⟩, List.forall_mem_cons.mpr ⟨⟨_, rfl, by decide, rfl⟩, List.forall_mem_cons.mpr ⟨⟨_, rfl, by decide, rfl⟩, List.forall_mem_cons.mpr ⟨⟨_, rfl, by decide, rfl⟩, List.forall_mem_cons.mpr ⟨⟨_, rfl, by decide, rfl⟩, List.forall_mem_cons.mpr ⟨⟨_, rfl, by decide, rfl⟩, List.forall_mem_cons.mpr ⟨⟨_, rfl, by decide, rfl⟩, List.forall_mem_cons.mpr ⟨⟨_, rfl, by decide, rfl⟩, List.forall_mem_cons.mpr ⟨⟨_, rfl, by decide, rfl⟩, List.forall_mem_cons.mpr ⟨⟨_, rfl, by decide, rfl⟩, List.forall_mem_cons.mpr ⟨⟨_, rfl, by decide, rfl⟩, List.forall_mem_cons.mpr ⟨⟨_, rfl, by decide, rfl⟩, List.forall_mem_cons.mpr ⟨⟨_, rfl, by decide, rfl⟩, List.forall_mem_cons.mpr ⟨⟨_, rfl, by decide, rfl⟩, List.forall_mem_cons.mpr ⟨⟨_, rfl, by decide, rfl⟩, List.forall_mem_cons.mpr ⟨⟨_, rfl, by decide, rfl⟩, List.forall_mem_cons.mpr ⟨⟨_, rfl, by decide, rfl⟩, List.forall_mem_cons.mpr ⟨⟨_, rfl, by decide, rfl⟩, List.forall_mem_cons.mpr ⟨⟨_, rfl, by decide, rfl⟩, List.forall_mem_cons.mpr ⟨⟨_, rfl, by decide, rfl⟩, fun _ h => absurd h List.not_mem_nil⟩⟩⟩⟩⟩⟩⟩⟩⟩⟩⟩⟩⟩⟩⟩⟩⟩⟩⟩⟩⟩⟩⟩
theorem ix_wF14 : ∀ e ∈ ix_jF_14, ix_PF 14 e := fun _ h => absurd h List.not_mem_nil
theorem ix_wF15 : ∀ e ∈ ix_jF_15, ix_PF 15 e := fun _ h => absurd h List.not_mem_nil
theorem ix_wF16 : ∀ e ∈ ix_jF_16, ix_PF 16 e := fun _ h => absurd h List.not_mem_nil
theorem ix_wF17 : ∀ e ∈ ix_jF_17, ix_PF 17 e := fun _ h => absurd h List.not_mem_nil
theorem ix_wF18 : ∀ e ∈ ix_jF_18, ix_PF 18 e := fun _ h => absurd h List.not_mem_nil
theorem ix_wF19 : ∀ e ∈ ix_jF_19, ix_PF 19 e := fun _ h => absurd h List.not_mem_nil
theorem ix_wM0 : ∀ e ∈ ix_jM_0, ix_PM 0 e := List.forall_mem_cons.mpr ⟨⟨by decide, by decide, Or.inl rfl⟩, List.forall_mem_cons.mpr ⟨⟨by decide, by decide, Or.inl rfl⟩, List.forall_mem_cons.mpr ⟨⟨by decide, by decide, Or.inl rfl⟩, List.forall_mem_cons.mpr ⟨⟨by decide, by decide, Or.inl rfl⟩, List.forall_mem_cons.mpr ⟨⟨by decide, by decide, Or.inl rfl⟩, List.forall_mem_cons.mpr ⟨⟨by decide, by decide, Or.inl rfl⟩, List.forall_mem_cons.mpr ⟨⟨by decide, by decide, Or.inl rfl⟩, List.forall_mem_cons.mpr ⟨⟨by decide, by decide, Or.inl rfl⟩, List.forall_mem_cons.mpr ⟨⟨by decide, by decide, Or.inl rfl⟩, List.forall_mem_cons.mpr ⟨⟨by decide, by decide, Or.inl rfl⟩, List.forall_mem_cons.mpr ⟨⟨by decide, by decide, Or.inl rfl⟩, List.forall_mem_cons.mpr ⟨⟨by decide, by decide, Or.inl rfl⟩, List.forall_mem_cons.mpr ⟨⟨by decide, by decide, Or.inl rfl⟩, List.forall_mem_cons.mpr ⟨⟨by decide, by decide, Or.inl rfl⟩, List.forall_mem_cons.mpr ⟨⟨by decide, by decide, Or.inl rfl⟩, List.forall_mem_cons.mpr ⟨⟨by decide, by decide, Or.inl rfl⟩, List.forall_mem_cons.mpr ⟨⟨by decide, by decide, Or.inl rfl⟩, List.forall_mem_cons.mpr ⟨⟨by decide, by decide, Or.inl rfl⟩, List.forall_mem_cons.mpr ⟨⟨by decide, by decide, Or.inl rfl⟩, List.forall_mem_cons.mpr ⟨⟨by decide, by decide, Or.inl rfl⟩, List.forall_mem_cons.mpr ⟨⟨by decide, by decide, Or.inl rfl⟩, List.forall_mem_cons.mpr ⟨⟨by decide, by decide, Or.inl rfl⟩, List.forall_mem_cons.mpr ⟨⟨by decide, by decide, Or.inl rfl⟩, List.forall_mem_cons.mpr ⟨⟨by decide, by decide, Or.inl rfl⟩, List.forall_mem_cons.mpr ⟨⟨by decide, by decide, Or.inl rfl⟩, List.forall_mem_cons.mpr ⟨⟨by decide, by decide, Or.inl rfl⟩, List.forall_mem_cons.mpr ⟨⟨by decide, by decide, Or.inl rfl⟩, List.forall_mem_cons.mpr ⟨⟨by decide, by decide, Or.inl rfl⟩, List.forall_mem_cons.mpr ⟨⟨by decide, by decide, Or.inl rfl⟩, List.forall_mem_cons.mpr ⟨⟨by decide, by decide, Or.inl rfl⟩, List.forall_mem_cons.mpr ⟨⟨by decide, by decide, Or.inl rfl⟩, List.forall_mem_cons.mpr ⟨⟨by decide, by decide, Or.inl rfl⟩, List.forall_mem_cons.mpr ⟨⟨by decide, by decide, Or.inl rfl⟩, List.forall_mem_cons.mpr ⟨⟨by decide, by decide, Or.inl rfl⟩, List.forall_mem_cons.mpr ⟨⟨by decide, by decide, Or.inl rfl⟩, List.forall_mem_cons.mpr ⟨⟨by decide, by decide, Or.inl rfl⟩, List.forall_mem_cons.mpr ⟨⟨by decide, by decide, Or.inl rfl⟩, List.forall_mem_cons.mpr ⟨⟨by decide, by decide, Or.inl rfl⟩, List.forall_mem_cons.mpr ⟨⟨by decide, by decide, Or.inl rfl⟩, List.forall_mem_cons.mpr ⟨⟨by decide, by decide, Or.inl rfl⟩, List.forall_mem_cons.mpr ⟨⟨by decide, by decide, Or.inl rfl⟩, List.forall_mem_cons.mpr ⟨⟨by decide, by decide, Or.inl rfl⟩, List.forall_mem_cons.mpr ⟨⟨by decide, by decide, Or.inl rfl⟩, List.forall_mem_cons.mpr ⟨⟨by decide, by decide, Or.inl rfl⟩, List.forall_mem_cons.mpr ⟨⟨by decide, by decide, Or.inl rfl⟩, List.forall_mem_cons.mpr ⟨⟨by decide, by decide, Or.inl rfl⟩, List.forall_mem_cons.mpr ⟨⟨by decide, by decide, Or.inl rfl⟩, List.forall_mem_cons.mpr ⟨⟨by decide, by decide, Or.inl rfl⟩, List.forall_mem_cons.mpr ⟨⟨by decide, by decide, Or.inl rfl⟩, List.forall_mem_cons.mpr ⟨⟨by decide, by decide, Or.inl rfl⟩, List.forall_mem_cons.mpr ⟨⟨by decide, by decide, Or.inl rfl⟩, List.forall_mem_cons.mpr ⟨⟨by decide, by decide, Or.inl rfl⟩, List.forall_mem_cons.mpr ⟨⟨by decide, by decide, Or.inl rfl⟩, List.forall_mem_cons.mpr ⟨⟨by decide, by decide, Or.inl rfl⟩, List.forall_mem_cons.mpr ⟨⟨by decide, by decide, Or.inl rfl⟩, List.forall_mem_cons.mpr ⟨⟨by decide, by decide, Or.inl rfl⟩, List.forall_mem_cons.mpr ⟨⟨by decide, by decide, Or.inl rfl⟩, List.forall_mem_cons.mpr ⟨⟨by decide, by decide, Or.inl rfl⟩, List.forall_mem_cons.mpr ⟨⟨by decide, by decide, Or.inl rfl⟩, List.forall_mem_cons.mpr ⟨⟨by decide, by decide, Or.inl rfl⟩, List.forall_mem_cons.mpr ⟨⟨by decide, by decide, Or.inl rfl⟩, List.forall_mem_cons.mpr ⟨⟨by decide, by decide, Or.inl rfl⟩, fun _ h => absurd h List.not_mem_nil⟩⟩⟩⟩⟩⟩⟩⟩⟩⟩⟩⟩⟩⟩⟩⟩⟩⟩⟩⟩⟩⟩⟩⟩⟩⟩⟩⟩⟩⟩⟩⟩⟩⟩⟩⟩⟩⟩⟩⟩⟩⟩⟩⟩⟩⟩⟩⟩⟩⟩⟩⟩⟩⟩⟩⟩⟩⟩⟩⟩⟩⟩
theorem ix_wM1 : ∀ e ∈ ix_jM_1, ix_PM 1 e := List.forall_mem_cons.mpr ⟨rfl, List.forall_mem_cons.mpr ⟨⟨by decide, by decide, Or.inr rfl⟩, List.forall_mem_cons.mpr ⟨⟨by decide, by decide, Or.inr rfl⟩, List.forall_mem_cons.mpr ⟨⟨by decide, by decide, Or.inr rfl⟩, List.forall_mem_cons.mpr ⟨⟨by decide, by decide, Or.inr rfl⟩, List.forall_mem_cons.mpr ⟨⟨by decide, by decide, Or.inr rfl⟩, List.forall_mem_cons.mpr ⟨⟨by decide, by decide, Or.inr rfl⟩, List.forall_mem_cons.mpr ⟨⟨by decide, by decide, Or.inl rfl⟩, List.forall_mem_cons.mpr ⟨⟨by decide, by decide, Or.inl rfl⟩, List.forall_mem_cons.mpr ⟨⟨by decide, by decide, Or.inl rfl⟩, List.forall_mem_cons.mpr ⟨⟨by decide, by decide, Or.inl rfl⟩, List.forall_mem_cons.mpr ⟨⟨by decide, by decide, Or.inl rfl⟩, List.forall_mem_cons.mpr ⟨⟨by decide, by decide, Or.inl rfl⟩, List.forall_mem_cons.mpr ⟨⟨by decide, by decide, Or.inl rfl⟩, List.forall_mem_cons.mpr ⟨⟨by decide, by decide, Or.inl rfl⟩, List.forall_mem_cons.mpr ⟨⟨by decide, by decide, Or.inl rfl⟩, List.forall_mem_cons.mpr ⟨⟨by decide, by decide, Or.inl rfl⟩, List.forall_mem_cons.mpr ⟨⟨by decide, by decide, Or.inl rfl⟩, List.forall_mem_cons.mpr ⟨⟨by decide, by decide, Or.inl rfl⟩, List.forall_mem_cons.mpr ⟨⟨by decide, by decide, Or.inl rfl⟩, List.forall_mem_cons.mpr ⟨⟨by decide, by decide, Or.inl rfl⟩, List.forall_mem_cons.mpr ⟨⟨by decide, by decide, Or.inl rfl⟩, List.forall_mem_cons.mpr ⟨⟨by decide, by decide, Or.inl rfl⟩, List.forall_mem_cons.mpr ⟨⟨by decide, by decide, Or.inl rfl⟩, List.forall_mem_cons.mpr ⟨⟨by decide, by decide, Or.inl rfl⟩, List.forall_mem_cons.mpr ⟨⟨by decide, by decide, Or.inl rfl⟩, List.forall_mem_cons.mpr ⟨⟨by decide, by decide, Or.inl rfl⟩, List.forall_mem_cons.mpr ⟨⟨by decide, by decide, Or.inl rfl⟩, List.forall_mem_cons.mpr ⟨⟨by decide, by decide, Or.inl rfl⟩, List.forall_mem_cons.mpr ⟨⟨by decide, by decide, Or.inl rfl⟩, List.forall_mem_cons.mpr ⟨⟨by decide, by decide, Or.inl rfl⟩, List.forall_mem_cons.mpr ⟨⟨by decide, by decide, Or.inl rfl⟩, List.forall_mem_cons.mpr ⟨⟨by decide, by decide, Or.inl rfl⟩, List.forall_mem_cons.mpr ⟨⟨by decide, by decide, Or.inl rfl⟩, List.forall_mem_cons.mpr ⟨⟨by decide, by decide, Or.inl rfl⟩, List.forall_mem_cons.mpr ⟨⟨by decide, by decide, Or.inl rfl⟩, List.forall_mem_cons.mpr ⟨⟨by decide, by decide, Or.inl rfl⟩, List.forall_mem_cons.mpr ⟨⟨by decide, by decide, Or.inl rfl⟩, fun _ h => absurd h List.not_mem_nil⟩⟩⟩⟩⟩⟩⟩⟩⟩⟩⟩⟩⟩⟩⟩⟩⟩⟩⟩⟩⟩⟩⟩⟩⟩⟩⟩⟩⟩⟩⟩⟩⟩⟩⟩⟩⟩⟩
theorem ix_wM2 : ∀ e ∈ ix_jM_2, ix_PM 2 e := fun _ h => absurd h List.not_mem_nil
theorem ix_wM3 : ∀ e ∈ ix_jM_3, ix_PM 3 e := List.forall_mem_cons.mpr ⟨rfl, List.forall_mem_cons.mpr ⟨⟨by decide, by decide, Or.inl rfl⟩, List.forall_mem_cons.mpr ⟨rfl, List.forall_mem_cons.mpr ⟨⟨by decide, by decide, Or.inl rfl⟩, List.forall_mem_cons.mpr ⟨⟨by decide, by decide, Or.inl rfl⟩, List.forall_mem_cons.mpr ⟨⟨by decide, by decide, Or.inl rfl⟩, List.forall_mem_cons.mpr ⟨⟨by decide, by decide, Or.inl rfl⟩, List.forall_mem_cons.mpr ⟨⟨by decide, by decide, Or.inl rfl⟩, List.forall_mem_cons.mpr ⟨⟨by decide, by decide, Or.inl rfl⟩, fun _ h => absurd h List.not_mem_nil⟩⟩⟩⟩⟩⟩⟩⟩⟩
theorem ix_wM4 : ∀ e ∈ ix_jM_4, ix_PM 4 e := List.forall_mem_cons.mpr ⟨rfl, List.forall_mem_cons.mpr ⟨⟨by decide, by decide, Or.inl rfl⟩, List.forall_mem_cons.mpr ⟨⟨by decide, by decide, Or.inl rfl⟩, List.forall_mem_cons.mpr ⟨⟨by decide, by decide, Or.inl rfl⟩, List.forall_mem_cons.mpr ⟨⟨by decide, by decide, Or.inl rfl⟩, List.forall_mem_cons.mpr ⟨⟨by decide, by decide, Or.inl rfl⟩, List.forall_mem_cons.mpr ⟨⟨by decide, by decide, Or.inl rfl⟩, List.forall_mem_cons.mpr ⟨⟨by decide, by decide, Or.inl rfl⟩, List.forall_mem_cons.mpr ⟨rfl, List.forall_mem_cons.mpr ⟨⟨by decide, by decide, Or.inl rfl⟩, fun _ h => absurd h List.not_mem_nil⟩⟩⟩⟩⟩⟩⟩⟩⟩⟩
theorem ix_wM5 : ∀ e ∈ ix_jM_5, ix_PM 5 e := List.forall_mem_cons.mpr ⟨rfl, List.forall_mem_cons.mpr ⟨⟨by decide, by decide, Or.inr rfl⟩, List.forall_mem_cons.mpr ⟨⟨by decide, by decide, Or.inl rfl⟩, List.forall_mem_cons.mpr ⟨⟨by decide, by decide, Or.inl rfl⟩, List.forall_mem_cons.mpr ⟨⟨by decide, by decide, Or.inl rfl⟩, List.forall_mem_cons.mpr ⟨⟨by decide, by decide, Or.inl rfl⟩, List.forall_mem_cons.mpr ⟨⟨by decide, by decide, Or.inl rfl⟩, List.forall_mem_cons.mpr ⟨⟨by decide, by decide, Or.inl rfl⟩, fun _ h => absurd h List.not_mem_nil⟩⟩⟩⟩⟩⟩⟩⟩
theorem ix_wM6 : ∀ e ∈ ix_jM_6, ix_PM 6 e := List.forall_mem_cons.mpr ⟨rfl, List.forall_mem_cons.mpr ⟨⟨by decide, by decide, Or.inr rfl⟩, List.forall_mem_cons.mpr ⟨⟨by decide, by decide, Or.inl rfl⟩, List.forall_mem_cons.mpr ⟨⟨by decide, by decide, Or.inl rfl⟩, List.forall_mem_cons.mpr ⟨⟨by decide, by decide, Or.inl rfl⟩, List.forall_mem_cons.mpr ⟨⟨by decide, by decide, Or.inl rfl⟩, List.forall_mem_cons.mpr ⟨⟨by decide, by decide, Or.inl rfl⟩, List.forall_mem_cons.mpr ⟨⟨by decide, by decide, Or.inl rfl⟩, List.forall_mem_cons.mpr ⟨⟨by decide, by decide, Or.inl rfl⟩, List.forall_mem_cons.mpr ⟨⟨by decide, by decide, Or.inl rfl⟩, List.forall_mem_cons.mpr ⟨⟨by decide, by decide, Or.inl rfl⟩, List.forall_mem_cons.mpr ⟨⟨by decide, by decide, Or.inl rfl⟩, List.forall_mem_cons.mpr ⟨⟨by decide, by decide, Or.inl rfl⟩, List.forall_mem_cons.mpr ⟨⟨by decide, by decide, Or.inl rfl⟩, List.forall_mem_cons.mpr ⟨⟨by decide, by decide, Or.inl rfl⟩, fun _ h => absurd h List.not_mem_nil⟩⟩⟩⟩⟩⟩⟩⟩⟩⟩⟩⟩⟩⟩⟩
theorem ix_wM7 : ∀ e ∈ ix_jM_7, ix_PM 7 e := List.forall_mem_cons.mpr ⟨rfl, List.forall_mem_cons.mpr ⟨⟨by decide, by decide, Or.inr rfl⟩, List.forall_mem_cons.mpr ⟨⟨by decide, by decide, Or.inl rfl⟩, List.forall_mem_cons.mpr ⟨⟨by decide, by decide, Or.inl rfl⟩, List.forall_mem_cons.mpr ⟨⟨by decide, by decide, Or.inl rfl⟩, List.forall_mem_cons.mpr ⟨⟨by decide, by decide, Or.inl rfl⟩, List.forall_mem_cons.mpr ⟨⟨by decide, by decide, Or.inl rfl⟩, fun _ h => absurd h List.not_mem_nil⟩⟩⟩⟩⟩⟩⟩
theorem ix_wM8 : ∀ e ∈ ix_jM_8, ix_PM 8 e := List.forall_mem_cons.mpr ⟨⟨by decide, by decide, Or.inl rfl⟩, List.forall_mem_cons.mpr ⟨⟨by decide, by decide, Or.inl rfl⟩, List.forall_mem_cons.mpr ⟨⟨by decide, by decide, Or.inl rfl⟩, List.forall_mem_cons.mpr ⟨⟨by decide, by decide, Or.inl rfl⟩, List.forall_mem_cons.mpr ⟨⟨by decide, by decide, Or.inl rfl⟩, List.forall_mem_cons.mpr ⟨⟨by decide, by decide, Or.inl rfl⟩, List.forall_mem_cons.mpr ⟨⟨by decide, by decide, Or.inl rfl⟩, List.forall_mem_cons.mpr ⟨⟨by decide, by decide, Or.inl rfl⟩, List.forall_mem_cons.mpr ⟨⟨by decide, by decide, Or.inl rfl⟩, List.forall_mem_cons.mpr ⟨⟨by decide, by decide, Or.inl rfl⟩, List.forall_mem_cons.mpr ⟨⟨by decide, by decide, Or.inl rfl⟩, List.forall_mem_cons.mpr ⟨⟨by decide, by decide, Or.inl rfl⟩, List.forall_mem_cons.mpr ⟨⟨by decide, by decide, Or.inl rfl⟩, List.forall_mem_cons.mpr ⟨⟨by decide, by decide, Or.inl rfl⟩, List.forall_mem_cons.mpr ⟨⟨by decide, by decide, Or.inl rfl⟩, List.forall_mem_cons.mpr ⟨⟨by decide, by decide, Or.inl rfl⟩, List.forall_mem_cons.mpr ⟨⟨by decide, by decide, Or.inl rfl⟩, List.forall_mem_cons.mpr ⟨⟨by decide, by decide, Or.inl rfl⟩, List.forall_mem_cons.mpr ⟨⟨by decide, by decide, Or.inl rfl⟩, List.forall_mem_cons.mpr ⟨⟨by decide, by decide, Or.inl rfl⟩, List.forall_mem_cons.mpr ⟨⟨by decide, by decide, Or.inl rfl⟩, fun _ h => absurd h List.not_mem_nil⟩⟩⟩⟩⟩⟩⟩⟩⟩⟩⟩⟩⟩⟩⟩⟩⟩⟩⟩⟩⟩
theorem ix_wM9 : ∀ e ∈ ix_jM_9, ix_PM 9 e := List.forall_mem_cons.mpr ⟨rfl, List.forall_mem_cons.mpr ⟨⟨by decide, by decide, Or.inr rfl⟩, List.forall_mem_cons.mpr ⟨⟨by decide, by decide, Or.inl rfl⟩, List.forall_mem_cons.mpr ⟨⟨by decide, by decide, Or.inl rfl⟩, List.forall_mem_cons.mpr ⟨⟨by decide, by decide, Or.inl rfl⟩, List.forall_mem_cons.mpr ⟨⟨by decide, by decide, Or.inl rfl⟩, List.forall_mem_cons.mpr ⟨⟨by decide, by decide, Or.inl rfl⟩, List.forall_mem_cons.mpr ⟨⟨by decide, by decide, Or.inl rfl⟩, List.forall_mem_cons.mpr ⟨⟨by decide, by decide, Or.inl rfl⟩, List.forall_mem_cons.mpr ⟨⟨by decide, by decide, Or.inl rfl⟩, List.forall_mem_cons.mpr ⟨⟨by decide, by decide, Or.inl rfl⟩, List.forall_mem_cons.mpr ⟨⟨by decide, by decide, Or.inl rfl⟩, fun _ h => absurd h List.not_mem_nil⟩⟩⟩⟩⟩⟩⟩⟩⟩⟩⟩⟩
theorem ix_wM10 : ∀ e ∈ ix_jM_10, ix_PM 10 e := List.forall_mem_cons.mpr ⟨rfl, List.forall_mem_cons.mpr ⟨⟨by decide, by decide, Or.inr rfl⟩, List.forall_mem_cons.mpr ⟨⟨by decide, by decide, Or.inr rfl⟩, List.forall_mem_cons.mpr ⟨⟨by decide, by decide, Or.inr rfl⟩, List.forall_mem_cons.mpr ⟨⟨by decide, by decide, Or.inr rfl⟩, List.forall_mem_cons.mpr ⟨⟨by decide, by decide, Or.inr rfl⟩, List.forall_mem_cons.mpr ⟨⟨by decide, by decide, Or.inl rfl⟩, List.forall_mem_cons.mpr ⟨⟨by decide, by decide, Or.inl rfl⟩, List.forall_mem_cons.mpr ⟨⟨by decide, by decide, Or.inl rfl⟩, List.forall_mem_cons.mpr ⟨⟨by decide, by decide, Or.inl rfl⟩, List.forall_mem_cons.mpr ⟨⟨by decide, by decide, Or.inl rfl⟩, List.forall_mem_cons.mpr ⟨⟨by decide, by decide, Or.inl rfl⟩, List.forall_mem_cons.mpr ⟨⟨by decide, by decide, Or.inl rfl⟩, List.forall_mem_cons.mpr ⟨⟨by decide, by decide, Or.inl rfl⟩, List.forall_mem_cons.mpr ⟨⟨by decide, by decide, Or.inl rfl⟩, List.forall_mem_cons.mpr ⟨⟨by decide, by decide, Or.inl rfl⟩, List.forall_mem_cons.mpr ⟨⟨by decide, by decide, Or.inl rfl⟩, List.forall_mem_cons.mpr ⟨⟨by decide, by decide, Or.inl rfl⟩, List.forall_mem_cons.mpr ⟨⟨by decide, by decide, Or.inl rfl⟩, List.forall_mem_cons.mpr ⟨⟨by decide, by decide, Or.inl rfl⟩, List.forall_mem_cons.mpr ⟨⟨by decide, by decide, Or.inl rfl⟩, List.forall_mem_cons.mpr ⟨⟨by decide, by decide, Or.inl rfl⟩, List.forall_mem_cons.mpr ⟨⟨by decide, by decide, Or.inl rfl⟩, List.forall_mem_cons.mpr ⟨⟨by decide, by decide, Or.inl rfl⟩, List.forall_mem_cons.mpr ⟨⟨by decide, by decide, Or.inl rfl⟩, List.forall_mem_cons.mpr ⟨⟨by decide, by decide, Or.inl rfl⟩, List.forall_mem_cons.mpr ⟨⟨by decide, by decide, Or.inl rfl⟩, List.forall_mem_cons.mpr ⟨⟨by decide, by decide, Or.inl rfl⟩, List.forall_mem_cons.mpr ⟨⟨by decide, by decide, Or.inl rfl⟩, List.forall_mem_cons.mpr ⟨⟨by decide, by decide, Or.inl rfl⟩, List.forall_mem_cons.mpr ⟨⟨by decide, by decide, Or.inl rfl⟩, List.forall_mem_cons.mpr ⟨⟨by decide, by decide, Or.inl rfl⟩, List.forall_mem_cons.mpr ⟨⟨by decide, by decide, Or.inl rfl⟩, List.forall_mem_cons.mpr ⟨⟨by decide, by decide, Or.inl rfl⟩, List.forall_mem_cons.mpr ⟨⟨by decide, by decide, Or.inl rfl⟩, List.forall_mem_cons.mpr ⟨⟨by decide, by decide, Or.inl rfl⟩, List.forall_mem_cons.mpr ⟨⟨by decide, by decide, Or.inl rfl⟩, List.forall_mem_cons.mpr ⟨⟨by decide, by decide, Or.inl rfl⟩, List.forall_mem_cons.mpr ⟨⟨by decide, by decide, Or.inl rfl⟩, List.forall_mem_cons.mpr ⟨⟨by decide, by decide, Or.inl rfl⟩, List.forall_mem_cons.mpr ⟨⟨by decide, by decide, Or.inl rfl⟩, List.forall_mem_cons.mpr ⟨⟨by decide, by decide, Or.inl rfl⟩, List.forall_mem_cons.mpr ⟨⟨by decide, by decide, Or.inl rfl⟩, List.forall_mem_cons.mpr ⟨⟨by decide, by decide, Or.inl rfl⟩, List.forall_mem_cons.mpr ⟨⟨by decide, by decide, Or.inl rfl⟩, List.forall_mem_cons.mpr ⟨⟨by decide, by decide, Or.inl rfl⟩, List.forall_mem_cons.mpr ⟨⟨by decide, by decide, Or.inl rfl⟩, List.forall_mem_cons.mpr ⟨⟨by decide, by decide, Or.inl rfl⟩, List.forall_mem_cons.mpr ⟨⟨by decide, by decide, Or.inl rfl⟩, List.forall_mem_cons.mpr ⟨⟨by decide, by decide, Or.inl rfl⟩, List.forall_mem_cons.mpr ⟨⟨by decide, by decide, Or.inl rfl⟩, List.forall_mem_cons.mpr ⟨⟨by decide, by decide, Or.inl rfl⟩, List.forall_mem_cons.mpr ⟨⟨by decide, by decide, Or.inl rfl⟩, List.forall_mem_cons.mpr ⟨⟨by decide, by decide, Or.inl rfl⟩, List.forall_mem_cons.mpr ⟨⟨by decide, by decide, Or.inl rfl⟩, List.forall_mem_cons.mpr ⟨⟨by decide, by decide, Or.inl rfl⟩, List.forall_mem_cons.mpr ⟨⟨by decide, by decide, Or.inl rfl⟩, List.forall_mem_cons.mpr ⟨⟨by decide, by decide, Or.inl rfl⟩, List.forall_mem_cons.mpr ⟨⟨by decide, by decide, Or.inl rfl⟩, List.forall_mem_cons.mpr ⟨⟨by decide, by decide, Or.inl rfl⟩, List.forall_mem_cons.mpr ⟨⟨by decide, by decide, Or.inl rfl⟩, List.forall_mem_cons.mpr ⟨⟨by decide, by decide, Or.inl rfl⟩, List.forall_mem_cons.mpr ⟨⟨by decide, by decide, Or.inl rfl⟩, List.forall_mem_cons.mpr ⟨⟨by decide, by decide, Or.inl rfl⟩, List.forall_mem_cons.mpr ⟨⟨by decide, by decide, Or.inl rfl⟩, List.forall_mem_cons.mpr ⟨⟨by decide, by decide, Or.inl rfl⟩, List.forall_mem_cons.mpr ⟨⟨by decide, by decide, Or.inl rfl⟩, List.forall_mem_cons.mpr ⟨⟨by decide, by decide, Or.inl rfl⟩, fun _ h => absurd h List.not_mem_nil⟩⟩⟩⟩⟩⟩⟩⟩⟩⟩⟩⟩⟩⟩⟩⟩⟩⟩⟩⟩⟩⟩⟩⟩⟩⟩⟩⟩⟩⟩⟩⟩⟩⟩⟩⟩⟩⟩⟩⟩⟩⟩⟩⟩⟩⟩⟩⟩⟩⟩⟩⟩⟩⟩⟩⟩⟩⟩⟩⟩⟩⟩⟩⟩⟩⟩⟩⟩
theorem ix_wM11 : ∀ e ∈ ix_jM_11, ix_PM 11 e := List.forall_mem_cons.mpr ⟨rfl, List.forall_mem_cons.mpr ⟨⟨by decide, by decide, Or.inr rfl⟩, List.forall_mem_cons.mpr ⟨⟨by decide, by decide, Or.inl rfl⟩, List.forall_mem_cons.mpr ⟨⟨by decide, by decide, Or.inl rfl⟩, List.forall_mem_cons.mpr ⟨⟨by decide, by decide, Or.inl rfl⟩, List.forall_mem_cons.mpr ⟨⟨by decide, by decide, Or.inl rfl⟩, List.forall_mem_cons.mpr ⟨⟨by decide, by decide, Or.inl rfl⟩, List.forall_mem_cons.mpr ⟨⟨by decide, by decide, Or.inl rfl⟩, List.forall_mem_cons.mpr ⟨⟨by decide, by decide, Or.inl rfl⟩, List.forall_mem_cons.mpr ⟨⟨by decide, by decide, Or.inl rfl⟩, List.forall_mem_cons.mpr ⟨⟨by decide, by decide, Or.inl rfl⟩, List.forall_mem_cons.mpr ⟨⟨by decide, by decide, Or.inl rfl⟩, List.forall_mem_cons.mpr ⟨⟨by decide, by decide, Or.inl rfl⟩, List.forall_mem_cons.mpr ⟨⟨by decide, by decide, Or.inl rfl⟩, fun _ h => absurd h List.not_mem_nil⟩⟩⟩⟩⟩⟩⟩⟩⟩⟩⟩⟩⟩⟩
theorem ix_wM12 : ∀ e ∈ ix_jM_12, ix_PM 12 e := List.forall_mem_cons.mpr ⟨rfl, List.forall_mem_cons.mpr ⟨⟨by decide, by decide, Or.inl rfl⟩, List.forall_mem_cons.mpr ⟨⟨by decide, by decide, Or.inl rfl⟩, List.forall_mem_cons.mpr ⟨⟨by decide, by decide, Or.inl rfl⟩, List.forall_mem_cons.mpr ⟨⟨by decide, by decide, Or.inl rfl⟩, List.forall_mem_cons.mpr ⟨⟨by decide, by decide, Or.inl rfl⟩, List.forall_mem_cons.mpr ⟨⟨by decide, by decide, Or.inl rfl⟩, List.forall_mem_cons.mpr ⟨⟨by decide, by decide, Or.inl rfl⟩, List.forall_mem_cons.mpr ⟨⟨by decide, by decide, Or.inl rfl⟩, List.forall_mem_cons.mpr ⟨⟨by decide, by decide, Or.inl rfl⟩, List.forall_mem_cons.mpr ⟨⟨by decide, by decide, Or.inl rfl⟩, List.forall_mem_cons.mpr ⟨⟨by decide, by decide, Or.inl rfl⟩, List.forall_mem_cons.mpr ⟨⟨by decide, by decide, Or.inl rfl⟩, List.forall_mem_cons.mpr ⟨⟨by decide, by decide, Or.inl rfl⟩, List.forall_mem_cons.mpr ⟨⟨by decide, by decide, Or.inl rfl⟩, fun _ h => absurd h List.not_mem_nil⟩⟩⟩⟩⟩⟩⟩⟩⟩⟩⟩⟩⟩⟩⟩
theorem ix_wM13 : ∀ e ∈ ix_jM_13, ix_PM 13 e := List.forall_mem_cons.mpr ⟨rfl, List.forall_mem_cons.mpr ⟨⟨by decide, by decide, Or.inl rfl⟩, List.forall_mem_cons.mpr ⟨⟨by decide, by decide, Or.inl rfl⟩, List.forall_mem_cons.mpr ⟨⟨by decide, by decide, Or.inl rfl⟩, List.forall_mem_cons.mpr ⟨⟨by decide, by decide, Or.inl rfl⟩, List.forall_mem_cons.mpr ⟨⟨by decide, by decide, Or.inl rfl⟩, List.forall_mem_cons.mpr ⟨⟨by decide, by decide, Or.inl rfl⟩, List.forall_mem_cons.mpr ⟨⟨by decide, by decide, Or.inl rfl⟩, List.forall_mem_cons.mpr ⟨⟨by decide, by decide, Or.inl rfl⟩, List.forall_mem_cons.mpr ⟨⟨by decide, by decide, Or.inl rfl⟩, List.forall_mem_cons.mpr ⟨⟨by decide, by decide, Or.inl rfl⟩, List.forall_mem_cons.mpr ⟨⟨by decide, by decide, Or.inl rfl⟩, List.forall_mem_cons.mpr ⟨⟨by decide, by decide, Or.inl rfl⟩, List.forall_mem_cons.mpr ⟨⟨by decide, by decide, Or.inl rfl⟩, List.forall_mem_cons.mpr ⟨⟨by decide, by decide, Or.inl rfl⟩, List.forall_mem_cons.mpr ⟨⟨by decide, by decide, Or.inl rfl⟩, List.forall_mem_cons.mpr ⟨⟨by decide, by decide, Or.inl rfl⟩, List.forall_mem_cons.mpr ⟨⟨by decide, by decide, Or.inl rfl⟩, List.forall_mem_cons.mpr ⟨⟨by decide, by decide, Or.inl rfl⟩, List.forall_mem_cons.mpr ⟨⟨by decide, by decide, Or.inl rfl⟩, List.forall_mem_cons.mpr ⟨⟨by decide, by decide, Or.inl rfl⟩, List.forall_mem_cons.mpr ⟨⟨by decide, by decide, Or.inl rfl⟩, List.forall_mem_cons.mpr ⟨⟨by decide, by decide, Or.inl rfl⟩, List.forall_mem_cons.mpr ⟨⟨by decide, by decide, Or.inl rfl⟩, List.forall_mem_cons.mpr ⟨⟨by decide, by decide, Or.inl rfl⟩, List.forall_mem_cons.mpr ⟨⟨by decide, by decide, Or.inl rfl⟩, List.forall_mem_cons.mpr ⟨⟨by decide, by decide, Or.inl rfl⟩, List.forall_mem_cons.mpr ⟨⟨by decide, by decide, Or.inl rfl⟩, List.forall_mem_cons.mpr ⟨⟨by decide, by decide, Or.inl rfl⟩, List.forall_mem_cons.mpr ⟨⟨by decide, by decide, Or.inl rfl⟩, List.forall_mem_cons.mpr ⟨⟨by decide, by decide, Or.inl rfl⟩, List.forall_mem_cons.mpr ⟨⟨by decide, by decide, Or.inl rfl⟩, List.forall_mem_cons.mpr ⟨⟨by decide, by decide, Or.inl rfl⟩, List.forall_mem_cons.mpr ⟨⟨by decide, by decide, Or.inl rfl⟩, List.forall_mem_cons.mpr ⟨⟨by decide, by decide, Or.inl rfl⟩, List.forall_mem_cons.mpr ⟨⟨by decide, by decide, Or.inl rfl⟩, List.forall_mem_cons.mpr ⟨⟨by decide, by decide, Or.inl rfl⟩, List.forall_mem_cons.mpr ⟨⟨by decide, by decide, Or.inl rfl⟩, List.forall_mem_cons.mpr ⟨⟨by decide, by decide, Or.inl rfl⟩, List.forall_mem_cons.mpr ⟨⟨by decide, by decide, Or.inl rfl⟩, List.forall_mem_cons.mpr ⟨⟨by decide, by decide, Or.inl rfl⟩, List.forall_mem_cons.mpr ⟨⟨by decide, by decide, Or.inl rfl⟩, List.forall_mem_cons.mpr ⟨⟨by decide, by decide, Or.inl rfl⟩, List.forall_mem_cons.mpr ⟨⟨by decide, by decide, Or.inl rfl⟩, List.forall_mem_cons.mpr ⟨⟨by decide, by decide, Or.inl rfl⟩, List.forall_mem_cons.mpr ⟨⟨by decide, by decide, Or.inl rfl⟩, List.forall_mem_cons.mpr ⟨⟨by decide, by decide, Or.inl rfl⟩, List.forall_mem_cons.mpr ⟨⟨by decide, by decide, Or.inl rfl⟩, List.forall_mem_cons.mpr ⟨⟨by decide, by decide, Or.inl rfl⟩, List.forall_mem_cons.mpr ⟨⟨by decide, by decide, Or.inl rfl⟩, List.forall_mem_cons.mpr ⟨⟨by decide, by decide, Or.inl rfl⟩, List.forall_mem_cons.mpr ⟨⟨by decide, by decide, Or.inl rfl⟩, List.forall_mem_cons.mpr ⟨⟨by decide, by decide, Or.inl rfl⟩, List.forall_mem_cons.mpr ⟨⟨by decide, by decide, Or.inl rfl⟩, List.forall_mem_cons.mpr ⟨⟨by decide, by decide, Or.inl rfl⟩, List.forall_mem_cons.mpr ⟨⟨by decide, by decide, Or.inl rfl⟩, List.forall_mem_cons.mpr ⟨⟨by decide, by decide, Or.inl rfl⟩, List.forall_mem_cons.mpr ⟨⟨by decide, by decide, Or.inl rfl⟩, List.forall_mem_cons.mpr ⟨⟨by decide, by decide, Or.inl rfl⟩, List.forall_mem_cons.mpr ⟨⟨by decide, by decide, Or.inl rfl⟩, List.forall_mem_cons.mpr ⟨⟨by decide, by decide, Or.inl rfl⟩, List.forall_mem_cons.mpr ⟨⟨by decide, by decide, Or.inl rfl⟩, List.forall_mem_cons.mpr ⟨⟨by decide, by decide, Or.inl rfl⟩, List.forall_mem_cons.mpr ⟨⟨by decide, by decide, Or.inl rfl⟩, List.forall_mem_cons.mpr ⟨⟨by decide, by decide, Or.inl rfl⟩, List.forall_mem_cons.mpr ⟨⟨by decide, by decide, Or.inl rfl⟩, List.forall_mem_cons.mpr ⟨⟨by decide, by decide, Or.inl rfl⟩, List.forall_mem_cons.mpr ⟨⟨by decide, by decide, Or.inl rfl⟩, List.forall_mem_cons.mpr ⟨⟨by decide, by decide, Or.inl rfl⟩, List.forall_mem_cons.mpr ⟨⟨by decide, by decide, Or.inl rfl⟩, List.forall_mem_cons.mpr ⟨⟨by decide, by decide, Or.inl rfl⟩, List.forall_mem_cons.mpr ⟨⟨by decide, by decide, Or.inl rfl⟩, List.forall_mem_cons.mpr ⟨⟨by decide, by decide, Or.inl rfl⟩, List.forall_mem_cons.mpr ⟨⟨by decide, by decide, Or.inl rfl⟩, List.forall_mem_cons.mpr ⟨⟨by decide, by decide, Or.inl rfl⟩, List.forall_mem_cons.mpr ⟨⟨by decide, by decide, Or.inl rfl⟩, List.forall_mem_cons.mpr ⟨⟨by decide, by decide, Or.inl rfl⟩, List.forall_mem_cons.mpr ⟨⟨by decide, by decide, Or.inl rfl⟩, List.forall_mem_cons.mpr ⟨⟨by decide, by decide, Or.inl rfl⟩, List.forall_mem_cons.mpr ⟨⟨by decide, by decide, Or.inl rfl⟩, List.forall_mem_cons.mpr ⟨⟨by decide, by decide, Or.inl rfl⟩, List.forall_mem_cons.mpr ⟨⟨by decide, by decide, Or.inl rfl⟩, List.forall_mem_cons.mpr ⟨⟨by decide, by decide, Or.inl rfl⟩, List.forall_mem_cons.mpr ⟨⟨by decide, by decide, Or.inl rfl⟩, List.forall_mem_cons.mpr ⟨⟨by decide, by decide, Or.inl rfl⟩, List.forall_mem_cons.mpr ⟨⟨by decide, by decide, Or.inl rfl⟩, List.forall_mem_cons.mpr ⟨⟨by decide, by decide, Or.inl rfl⟩, fun _ h => absurd h List.not_mem_nil⟩⟩⟩⟩⟩⟩⟩⟩⟩⟩⟩⟩⟩⟩⟩⟩⟩⟩⟩⟩⟩⟩⟩⟩⟩⟩⟩⟩⟩⟩⟩⟩⟩⟩⟩⟩⟩⟩⟩⟩⟩⟩⟩⟩⟩⟩⟩⟩⟩⟩⟩⟩⟩⟩⟩⟩⟩⟩⟩⟩⟩⟩⟩⟩⟩⟩⟩⟩⟩⟩⟩⟩⟩⟩⟩⟩⟩⟩⟩⟩⟩⟩⟩⟩⟩⟩⟩
theorem ix_wM14 : ∀ e ∈ ix_jM_14, ix_PM 14 e := fun _ h => absurd h List.not_mem_nil
theorem ix_wM15 : ∀ e ∈ ix_jM_15, ix_PM 15 e := fun _ h => absurd h List.not_mem_nil
theorem ix_wM16 : ∀ e ∈ ix_jM_16, ix_PM 16 e := List.forall_mem_cons.mpr ⟨⟨by decide, by decide, Or.inl rfl⟩, List.forall_mem_cons.mpr ⟨⟨by decide, by decide, Or.inl rfl⟩, List.forall_mem_cons.mpr ⟨⟨by decide, by decide, Or.inl rfl⟩, List.forall_mem_cons.mpr ⟨⟨by decide, by decide, Or.inl rfl⟩, fun _ h => absurd h List.not_mem_nil⟩⟩⟩⟩
theorem ix_wM17 : ∀ e ∈ ix_jM_17, ix_PM 17 e := List.forall_mem_cons.mpr ⟨⟨by decide, by decide, Or.inl rfl⟩, fun _ h => absurd h List.not_mem_nil⟩
theorem ix_wM18 : ∀ e ∈ ix_jM_18, ix_PM 18 e := fun _ h => absurd h List.not_mem_nil
theorem ix_wM19 : ∀ e ∈ ix_jM_19, ix_PM 19 e := fun _ h => absurd h List.not_mem_nil
theorem ix_wN0 : ∀ e ∈ ix_jN_0, ix_PN 0 e := List.forall_mem_cons.mpr ⟨⟨_, rfl, rfl, rfl, rfl⟩, List.forall_mem_cons.mpr ⟨⟨_, rfl, rfl, rfl, rfl⟩, fun _ h => absurd h List.not_mem_nil⟩⟩
theorem ix_wC0 : ∀ e ∈ ix_jC_0, ix_at e.2.2 = some (Cond.constant (ix_cn 0) e.1 e.2.1) := fun _ h => absurd h List.not_mem_nil
theorem ix_wL0 : ∀ e ∈ ix_jL_0, ix_at e.2.2 = some (Cond.constantLong (ix_cn 0) e.1 e.2.1) := fun _ h => absurd h List.not_mem_nil
theorem ix_wA0 : ∀ e ∈ ix_jA_0, ix_at e.2.2 = some (Cond.classLink (ix_cn 0) e.1 ix_nD) := fun _ h => absurd h List.not_mem_nil
theorem ix_wX0 : ∀ e ∈ ix_jX_0, ix_PX 0 e := List.forall_mem_cons.mpr ⟨⟨_, rfl, rfl⟩, List.forall_mem_cons.mpr ⟨⟨_, rfl, rfl⟩, fun _ h => absurd h List.not_mem_nil⟩⟩
theorem ix_wS0 : ∀ e ∈ ix_jS_0, ix_PS 0 e := fun _ h => absurd h List.not_mem_nil
theorem ix_wN1 : ∀ e ∈ ix_jN_1, ix_PN 1 e := List.forall_mem_cons.mpr ⟨⟨_, rfl, rfl, rfl, rfl⟩, List.forall_mem_cons.mpr ⟨⟨_, rfl, rfl, rfl, rfl⟩, List.forall_mem_cons.mpr ⟨⟨_, rfl, rfl, rfl, rfl⟩, List.forall_mem_cons.mpr ⟨⟨_, rfl, rfl, rfl, rfl⟩, List.forall_mem_cons.mpr ⟨⟨_, rfl, rfl, rfl, rfl⟩, List.forall_mem_cons.mpr ⟨⟨_, rfl, rfl, rfl, rfl⟩, fun _ h => absurd h List.not_mem_nil⟩⟩⟩⟩⟩⟩
theorem ix_wC1 : ∀ e ∈ ix_jC_1, ix_at e.2.2 = some (Cond.constant (ix_cn 1) e.1 e.2.1) := List.forall_mem_cons.mpr ⟨rfl, fun _ h => absurd h List.not_mem_nil⟩
theorem ix_wL1 : ∀ e ∈ ix_jL_1, ix_at e.2.2 = some (Cond.constantLong (ix_cn 1) e.1 e.2.1) := fun _ h => absurd h List.not_mem_nil
theorem ix_wA1 : ∀ e ∈ ix_jA_1, ix_at e.2.2 = some (Cond.classLink (ix_cn 1) e.1 ix_nD) := List.forall_mem_cons.mpr ⟨rfl, fun _ h => absurd h List.not_mem_nil⟩
theorem ix_wX1 : ∀ e ∈ ix_jX_1, ix_PX 1 e := List.forall_mem_cons.mpr ⟨⟨_, rfl, rfl⟩, List.forall_mem_cons.mpr ⟨⟨_, rfl, rfl⟩, fun _ h => absurd h List.not_mem_nil⟩⟩
theorem ix_wS1 : ∀ e ∈ ix_jS_1, ix_PS 1 e := List.forall_mem_cons.mpr ⟨rfl, fun _ h => absurd h List.not_mem_nil⟩
theorem ix_wN2 : ∀ e ∈ ix_jN_2, ix_PN 2 e := fun _ h => absurd h List.not_mem_nil
theorem ix_wC2 : ∀ e ∈ ix_jC_2, ix_at e.2.2 = some (Cond.constant (ix_cn 2) e.1 e.2.1) := fun _ h => absurd h List.not_mem_nil
theorem ix_wL2 : ∀ e ∈ ix_jL_2, ix_at e.2.2 = some (Cond.constantLong (ix_cn 2) e.1 e.2.1) := fun _ h => absurd h List.not_mem_nil
theorem ix_wA2 : ∀ e ∈ ix_jA_2, ix_at e.2.2 = some (Cond.classLink (ix_cn 2) e.1 ix_nD) := fun _ h => absurd h List.not_mem_nil
theorem ix_wX2 : ∀ e ∈ ix_jX_2, ix_PX 2 e := fun _ h => absurd h List.not_mem_nil
theorem ix_wS2 : ∀ e ∈ ix_jS_2, ix_PS 2 e := List.forall_mem_cons.mpr ⟨rfl, List.forall_mem_cons.mpr ⟨rfl, List.forall_mem_cons.mpr ⟨rfl, fun _ h => absurd h List.not_mem_nil⟩⟩⟩
theorem ix_wN3 : ∀ e ∈ ix_jN_3, ix_PN 3 e := fun _ h => absurd h List.not_mem_nil
theorem ix_wC3 : ∀ e ∈ ix_jC_3, ix_at e.2.2 = some (Cond.constant (ix_cn 3) e.1 e.2.1) := List.forall_mem_cons.mpr ⟨rfl, List.forall_mem_cons.mpr ⟨rfl, fun _ h => absurd h List.not_mem_nil⟩⟩
theorem ix_wL3 : ∀ e ∈ ix_jL_3, ix_at e.2.2 = some (Cond.constantLong (ix_cn 3) e.1 e.2.1) := List.forall_mem_cons.mpr ⟨rfl, List.forall_mem_cons.mpr ⟨rfl, List.forall_mem_cons.mpr ⟨rfl, fun _ h => absurd h List.not_mem_nil⟩⟩⟩
theorem ix_wA3 : ∀ e ∈ ix_jA_3, ix_at e.2.2 = some (Cond.classLink (ix_cn 3) e.1 ix_nD) := fun _ h => absurd h List.not_mem_nil
theorem ix_wX3 : ∀ e ∈ ix_jX_3, ix_PX 3 e := fun _ h => absurd h List.not_mem_nil
theorem ix_wS3 : ∀ e ∈ ix_jS_3, ix_PS 3 e := List.forall_mem_cons.mpr ⟨rfl, fun _ h => absurd h List.not_mem_nil⟩
theorem ix_wN4 : ∀ e ∈ ix_jN_4, ix_PN 4 e := fun _ h => absurd h List.not_mem_nil
theorem ix_wC4 : ∀ e ∈ ix_jC_4, ix_at e.2.2 = some (Cond.constant (ix_cn 4) e.1 e.2.1) := List.forall_mem_cons.mpr ⟨rfl, fun _ h => absurd h List.not_mem_nil⟩
theorem ix_wL4 : ∀ e ∈ ix_jL_4, ix_at e.2.2 = some (Cond.constantLong (ix_cn 4) e.1 e.2.1) := List.forall_mem_cons.mpr ⟨rfl, fun _ h => absurd h List.not_mem_nil⟩
theorem ix_wA4 : ∀ e ∈ ix_jA_4, ix_at e.2.2 = some (Cond.classLink (ix_cn 4) e.1 ix_nD) := fun _ h => absurd h List.not_mem_nil
theorem ix_wX4 : ∀ e ∈ ix_jX_4, ix_PX 4 e := fun _ h => absurd h List.not_mem_nil
theorem ix_wS4 : ∀ e ∈ ix_jS_4, ix_PS 4 e := fun _ h => absurd h List.not_mem_nil
theorem ix_wN5 : ∀ e ∈ ix_jN_5, ix_PN 5 e := List.forall_mem_cons.mpr ⟨⟨_, rfl, rfl, rfl, rfl⟩, fun _ h => absurd h List.not_mem_nil⟩
theorem ix_wC5 : ∀ e ∈ ix_jC_5, ix_at e.2.2 = some (Cond.constant (ix_cn 5) e.1 e.2.1) := fun _ h => absurd h List.not_mem_nil
theorem ix_wL5 : ∀ e ∈ ix_jL_5, ix_at e.2.2 = some (Cond.constantLong (ix_cn 5) e.1 e.2.1) := fun _ h => absurd h List.not_mem_nil
theorem ix_wA5 : ∀ e ∈ ix_jA_5, ix_at e.2.2 = some (Cond.classLink (ix_cn 5) e.1 ix_nD) := fun _ h => absurd h List.not_mem_nil
theorem ix_wX5 : ∀ e ∈ ix_jX_5, ix_PX 5 e := fun _ h => absurd h List.not_mem_nil
theorem ix_wS5 : ∀ e ∈ ix_jS_5, ix_PS 5 e := List.forall_mem_cons.mpr ⟨rfl, List.forall_mem_cons.mpr ⟨rfl, fun _ h => absurd h List.not_mem_nil⟩⟩
theorem ix_wN6 : ∀ e ∈ ix_jN_6, ix_PN 6 e := List.forall_mem_cons.mpr ⟨⟨_, rfl, rfl, rfl, rfl⟩, fun _ h => absurd h List.not_mem_nil⟩
theorem ix_wC6 : ∀ e ∈ ix_jC_6, ix_at e.2.2 = some (Cond.constant (ix_cn 6) e.1 e.2.1) := List.forall_mem_cons.mpr ⟨rfl, List.forall_mem_cons.mpr ⟨rfl, List.forall_mem_cons.mpr ⟨rfl, List.forall_mem_cons.mpr ⟨rfl, List.forall_mem_cons.mpr ⟨rfl, fun _ h => absurd h List.not_mem_nil⟩⟩⟩⟩⟩
theorem ix_wL6 : ∀ e ∈ ix_jL_6, ix_at e.2.2 = some (Cond.constantLong (ix_cn 6) e.1 e.2.1) := fun _ h => absurd h List.not_mem_nil
theorem ix_wA6 : ∀ e ∈ ix_jA_6, ix_at e.2.2 = some (Cond.classLink (ix_cn 6) e.1 ix_nD) := fun _ h => absurd h List.not_mem_nil
theorem ix_wX6 : ∀ e ∈ ix_jX_6, ix_PX 6 e := fun _ h => absurd h List.not_mem_nil
theorem ix_wS6 : ∀ e ∈ ix_jS_6, ix_PS 6 e := List.forall_mem_cons.mpr ⟨rfl, List.forall_mem_cons.mpr ⟨rfl, List.forall_mem_cons.mpr ⟨rfl, List.forall_mem_cons.mpr ⟨rfl, List.forall_mem_cons.mpr ⟨rfl, fun _ h => absurd h List.not_mem_nil⟩⟩⟩⟩⟩
theorem ix_wN7 : ∀ e ∈ ix_jN_7, ix_PN 7 e := List.forall_mem_cons.mpr ⟨⟨_, rfl, rfl, rfl, rfl⟩, fun _ h => absurd h List.not_mem_nil⟩
theorem ix_wC7 : ∀ e ∈ ix_jC_7, ix_at e.2.2 = some (Cond.constant (ix_cn 7) e.1 e.2.1) := fun _ h => absurd h List.not_mem_nil
theorem ix_wL7 : ∀ e ∈ ix_jL_7, ix_at e.2.2 = some (Cond.constantLong (ix_cn 7) e.1 e.2.1) := fun _ h => absurd h List.not_mem_nil
theorem ix_wA7 : ∀ e ∈ ix_jA_7, ix_at e.2.2 = some (Cond.classLink (ix_cn 7) e.1 ix_nD) := fun _ h => absurd h List.not_mem_nil
theorem ix_wX7 : ∀ e ∈ ix_jX_7, ix_PX 7 e := fun _ h => absurd h List.not_mem_nil
theorem ix_wS7 : ∀ e ∈ ix_jS_7, ix_PS 7 e := fun _ h => absurd h List.not_mem_nil
theorem ix_wN8 : ∀ e ∈ ix_jN_8, ix_PN 8 e := fun _ h => absurd h List.not_mem_nil
theorem ix_wC8 : ∀ e ∈ ix_jC_8, ix_at e.2.2 = some (Cond.constant (ix_cn 8) e.1 e.2.1) := fun _ h => absurd h List.not_mem_nil
theorem ix_wL8 : ∀ e ∈ ix_jL_8, ix_at e.2.2 = some (Cond.constantLong (ix_cn 8) e.1 e.2.1) := List.forall_mem_cons.mpr ⟨rfl, fun _ h => absurd h List.not_mem_nil⟩
theorem ix_wA8 : ∀ e ∈ ix_jA_8, ix_at e.2.2 = some (Cond.classLink (ix_cn 8) e.1 ix_nD) := fun _ h => absurd h List.not_mem_nil
theorem ix_wX8 : ∀ e ∈ ix_jX_8, ix_PX 8 e := fun _ h => absurd h List.not_mem_nil
theorem ix_wS8 : ∀ e ∈ ix_jS_8, ix_PS 8 e := List.forall_mem_cons.mpr ⟨rfl, List.forall_mem_cons.mpr ⟨rfl, fun _ h => absurd h List.not_mem_nil⟩⟩
theorem ix_wN9 : ∀ e ∈ ix_jN_9, ix_PN 9 e := List.forall_mem_cons.mpr ⟨⟨_, rfl, rfl, rfl, rfl⟩, fun _ h => absurd h List.not_mem_nil⟩
theorem ix_wC9 : ∀ e ∈ ix_jC_9, ix_at e.2.2 = some (Cond.constant (ix_cn 9) e.1 e.2.1) := fun _ h => absurd h List.not_mem_nil
theorem ix_wL9 : ∀ e ∈ ix_jL_9, ix_at e.2.2 = some (Cond.constantLong (ix_cn 9) e.1 e.2.1) := fun _ h => absurd h List.not_mem_nil
theorem ix_wA9 : ∀ e ∈ ix_jA_9, ix_at e.2.2 = some (Cond.classLink (ix_cn 9) e.1 ix_nD) := fun _ h => absurd h List.not_mem_nil
theorem ix_wX9 : ∀ e ∈ ix_jX_9, ix_PX 9 e := fun _ h => absurd h List.not_mem_nil
theorem ix_wS9 : ∀ e ∈ ix_jS_9, ix_PS 9 e := fun _ h => absurd h List.not_mem_nil
theorem ix_wN10 : ∀ e ∈ ix_jN_10, ix_PN 10 e := List.forall_mem_cons.mpr ⟨⟨_, rfl, rfl, rfl, rfl⟩, List.forall_mem_cons.mpr ⟨⟨_, rfl, rfl, rfl, rfl⟩, List.forall_mem_cons.mpr ⟨⟨_, rfl, rfl, rfl, rfl⟩, List.forall_mem_cons.mpr ⟨⟨_, rfl, rfl, rfl, rfl⟩, List.forall_mem_cons.mpr ⟨⟨_, rfl, rfl, rfl, rfl⟩, fun _ h => absurd h List.not_mem_nil⟩⟩⟩⟩⟩
theorem ix_wC10 : ∀ e ∈ ix_jC_10, ix_at e.2.2 = some (Cond.constant (ix_cn 10) e.1 e.2.1) := fun _ h => absurd h List.not_mem_nil
theorem ix_wL10 : ∀ e ∈ ix_jL_10, ix_at e.2.2 = some (Cond.constantLong (ix_cn 10) e.1 e.2.1) := List.forall_mem_cons.mpr ⟨rfl, List.forall_mem_cons.mpr ⟨rfl, List.forall_mem_cons.mpr ⟨rfl, List.forall_mem_cons.mpr ⟨rfl, List.forall_mem_cons.mpr ⟨rfl, fun _ h => absurd h List.not_mem_nil⟩⟩⟩⟩⟩
theorem ix_wA10 : ∀ e ∈ ix_jA_10, ix_at e.2.2 = some (Cond.classLink (ix_cn 10) e.1 ix_nD) := fun _ h => absurd h List.not_mem_nil
theorem ix_wX10 : ∀ e ∈ ix_jX_10, ix_PX 10 e := fun _ h => absurd h List.not_mem_nil
theorem ix_wS10 : ∀ e ∈ ix_jS_10, ix_PS 10 e := List.forall_mem_cons.mpr ⟨rfl, fun _ h => absurd h List.not_mem_nil⟩
theorem ix_wN11 : ∀ e ∈ ix_jN_11, ix_PN 11 e := List.forall_mem_cons.mpr ⟨⟨_, rfl, rfl, rfl, rfl⟩, fun _ h => absurd h List.not_mem_nil⟩
theorem ix_wC11 : ∀ e ∈ ix_jC_11, ix_at e.2.2 = some (Cond.constant (ix_cn 11) e.1 e.2.1) := List.forall_mem_cons.mpr ⟨rfl, fun _ h => absurd h List.not_mem_nil⟩
theorem ix_wL11 : ∀ e ∈ ix_jL_11, ix_at e.2.2 = some (Cond.constantLong (ix_cn 11) e.1 e.2.1) := List.forall_mem_cons.mpr ⟨rfl, fun _ h => absurd h List.not_mem_nil⟩
theorem ix_wA11 : ∀ e ∈ ix_jA_11, ix_at e.2.2 = some (Cond.classLink (ix_cn 11) e.1 ix_nD) := fun _ h => absurd h List.not_mem_nil
theorem ix_wX11 : ∀ e ∈ ix_jX_11, ix_PX 11 e := fun _ h => absurd h List.not_mem_nil
theorem ix_wS11 : ∀ e ∈ ix_jS_11, ix_PS 11 e := fun _ h => absurd h List.not_mem_nil
theorem ix_wN12 : ∀ e ∈ ix_jN_12, ix_PN 12 e := fun _ h => absurd h List.not_mem_nil
theorem ix_wC12 : ∀ e ∈ ix_jC_12, ix_at e.2.2 = some (Cond.constant (ix_cn 12) e.1 e.2.1) := fun _ h => absurd h List.not_mem_nil
theorem ix_wL12 : ∀ e ∈ ix_jL_12, ix_at e.2.2 = some (Cond.constantLong (ix_cn 12) e.1 e.2.1) := fun _ h => absurd h List.not_mem_nil
theorem ix_wA12 : ∀ e ∈ ix_jA_12, ix_at e.2.2 = some (Cond.classLink (ix_cn 12) e.1 ix_nD) := fun _ h => absurd h List.not_mem_nil
theorem ix_wX12 : ∀ e ∈ ix_jX_12, ix_PX 12 e := fun _ h => absurd h List.not_mem_nil
theorem ix_wS12 : ∀ e ∈ ix_jS_12, ix_PS 12 e := fun _ h => absurd h List.not_mem_nil
theorem ix_wN13 : ∀ e ∈ ix_jN_13, ix_PN 13 e := fun _ h => absurd h List.not_mem_nil
theorem ix_wC13 : ∀ e ∈ ix_jC_13, ix_at e.2.2 = some (Cond.constant (ix_cn 13) e.1 e.2.1) := List.forall_mem_cons.mpr ⟨rfl, fun _ h => absurd h List.not_mem_nil⟩
theorem ix_wL13 : ∀ e ∈ ix_jL_13, ix_at e.2.2 = some (Cond.constantLong (ix_cn 13) e.1 e.2.1) := List.forall_mem_cons.mpr ⟨rfl, List.forall_mem_cons.mpr ⟨rfl, List.forall_mem_cons.mpr ⟨rfl, List.forall_mem_cons.mpr ⟨rfl, List.forall_mem_cons.mpr ⟨rfl, List.forall_mem_cons.mpr ⟨rfl, List.forall_mem_cons.mpr ⟨rfl, List.forall_mem_cons.mpr ⟨rfl, List.forall_mem_cons.mpr ⟨rfl, List.forall_mem_cons.mpr ⟨rfl, List.forall_mem_cons.mpr ⟨rfl, List.forall_mem_cons.mpr ⟨rfl, List.forall_mem_cons.mpr ⟨rfl, List.forall_mem_cons.mpr ⟨rfl, List.forall_mem_cons.mpr ⟨rfl, List.forall_mem_cons.mpr ⟨rfl, fun _ h => absurd h List.not_mem_nil⟩⟩⟩⟩⟩⟩⟩⟩⟩⟩⟩⟩⟩⟩⟩⟩
theorem ix_wA13 : ∀ e ∈ ix_jA_13, ix_at e.2.2 = some (Cond.classLink (ix_cn 13) e.1 ix_nD) := fun _ h => absurd h List.not_mem_nil
theorem ix_wX13 : ∀ e ∈ ix_jX_13, ix_PX 13 e := fun _ h => absurd h List.not_mem_nil
theorem ix_wS13 : ∀ e ∈ ix_jS_13, ix_PS 13 e := fun _ h => absurd h List.not_mem_nil
theorem ix_wN14 : ∀ e ∈ ix_jN_14, ix_PN 14 e := fun _ h => absurd h List.not_mem_nil
theorem ix_wC14 : ∀ e ∈ ix_jC_14, ix_at e.2.2 = some (Cond.constant (ix_cn 14) e.1 e.2.1) := fun _ h => absurd h List.not_mem_nil
theorem ix_wL14 : ∀ e ∈ ix_jL_14, ix_at e.2.2 = some (Cond.constantLong (ix_cn 14) e.1 e.2.1) := fun _ h => absurd h List.not_mem_nil
theorem ix_wA14 : ∀ e ∈ ix_jA_14, ix_at e.2.2 = some (Cond.classLink (ix_cn 14) e.1 ix_nD) := fun _ h => absurd h List.not_mem_nil
theorem ix_wX14 : ∀ e ∈ ix_jX_14, ix_PX 14 e := fun _ h => absurd h List.not_mem_nil
theorem ix_wS14 : ∀ e ∈ ix_jS_14, ix_PS 14 e := fun _ h => absurd h List.not_mem_nil
theorem ix_wN15 : ∀ e ∈ ix_jN_15, ix_PN 15 e := fun _ h => absurd h List.not_mem_nil
theorem ix_wC15 : ∀ e ∈ ix_jC_15, ix_at e.2.2 = some (Cond.constant (ix_cn 15) e.1 e.2.1) := fun _ h => absurd h List.not_mem_nil
theorem ix_wL15 : ∀ e ∈ ix_jL_15, ix_at e.2.2 = some (Cond.constantLong (ix_cn 15) e.1 e.2.1) := fun _ h => absurd h List.not_mem_nil
theorem ix_wA15 : ∀ e ∈ ix_jA_15, ix_at e.2.2 = some (Cond.classLink (ix_cn 15) e.1 ix_nD) := fun _ h => absurd h List.not_mem_nil
theorem ix_wX15 : ∀ e ∈ ix_jX_15, ix_PX 15 e := fun _ h => absurd h List.not_mem_nil
theorem ix_wS15 : ∀ e ∈ ix_jS_15, ix_PS 15 e := fun _ h => absurd h List.not_mem_nil
theorem ix_wN16 : ∀ e ∈ ix_jN_16, ix_PN 16 e := fun _ h => absurd h List.not_mem_nil
theorem ix_wC16 : ∀ e ∈ ix_jC_16, ix_at e.2.2 = some (Cond.constant (ix_cn 16) e.1 e.2.1) := fun _ h => absurd h List.not_mem_nil
theorem ix_wL16 : ∀ e ∈ ix_jL_16, ix_at e.2.2 = some (Cond.constantLong (ix_cn 16) e.1 e.2.1) := fun _ h => absurd h List.not_mem_nil
theorem ix_wA16 : ∀ e ∈ ix_jA_16, ix_at e.2.2 = some (Cond.classLink (ix_cn 16) e.1 ix_nD) := fun _ h => absurd h List.not_mem_nil
theorem ix_wX16 : ∀ e ∈ ix_jX_16, ix_PX 16 e := fun _ h => absurd h List.not_mem_nil
theorem ix_wS16 : ∀ e ∈ ix_jS_16, ix_PS 16 e := fun _ h => absurd h List.not_mem_nil
theorem ix_wN17 : ∀ e ∈ ix_jN_17, ix_PN 17 e := fun _ h => absurd h List.not_mem_nil
theorem ix_wC17 : ∀ e ∈ ix_jC_17, ix_at e.2.2 = some (Cond.constant (ix_cn 17) e.1 e.2.1) := fun _ h => absurd h List.not_mem_nil
theorem ix_wL17 : ∀ e ∈ ix_jL_17, ix_at e.2.2 = some (Cond.constantLong (ix_cn 17) e.1 e.2.1) := fun _ h => absurd h List.not_mem_nil
theorem ix_wA17 : ∀ e ∈ ix_jA_17, ix_at e.2.2 = some (Cond.classLink (ix_cn 17) e.1 ix_nD) := fun _ h => absurd h List.not_mem_nil
theorem ix_wX17 : ∀ e ∈ ix_jX_17, ix_PX 17 e := fun _ h => absurd h List.not_mem_nil
theorem ix_wS17 : ∀ e ∈ ix_jS_17, ix_PS 17 e := fun _ h => absurd h List.not_mem_nil
theorem ix_wN18 : ∀ e ∈ ix_jN_18, ix_PN 18 e := fun _ h => absurd h List.not_mem_nil
theorem ix_wC18 : ∀ e ∈ ix_jC_18, ix_at e.2.2 = some (Cond.constant (ix_cn 18) e.1 e.2.1) := fun _ h => absurd h List.not_mem_nil
theorem ix_wL18 : ∀ e ∈ ix_jL_18, ix_at e.2.2 = some (Cond.constantLong (ix_cn 18) e.1 e.2.1) := fun _ h => absurd h List.not_mem_nil
theorem ix_wA18 : ∀ e ∈ ix_jA_18, ix_at e.2.2 = some (Cond.classLink (ix_cn 18) e.1 ix_nD) := fun _ h => absurd h List.not_mem_nil
theorem ix_wX18 : ∀ e ∈ ix_jX_18, ix_PX 18 e := fun _ h => absurd h List.not_mem_nil
theorem ix_wS18 : ∀ e ∈ ix_jS_18, ix_PS 18 e := fun _ h => absurd h List.not_mem_nil
theorem ix_wN19 : ∀ e ∈ ix_jN_19, ix_PN 19 e := fun _ h => absurd h List.not_mem_nil
theorem ix_wC19 : ∀ e ∈ ix_jC_19, ix_at e.2.2 = some (Cond.constant (ix_cn 19) e.1 e.2.1) := fun _ h => absurd h List.not_mem_nil
theorem ix_wL19 : ∀ e ∈ ix_jL_19, ix_at e.2.2 = some (Cond.constantLong (ix_cn 19) e.1 e.2.1) := fun _ h => absurd h List.not_mem_nil
theorem ix_wA19 : ∀ e ∈ ix_jA_19, ix_at e.2.2 = some (Cond.classLink (ix_cn 19) e.1 ix_nD) := fun _ h => absurd h List.not_mem_nil
theorem ix_wX19 : ∀ e ∈ ix_jX_19, ix_PX 19 e := fun _ h => absurd h List.not_mem_nil
theorem ix_wS19 : ∀ e ∈ ix_jS_19, ix_PS 19 e := fun _ h => absurd h List.not_mem_nil
theorem ix_wF : ∀ o, o < 20 → ∀ e ∈ ix_jF o, ix_PF o e := by
  intro o h
  match o, h with
  | 0, _ => exact ix_wF0
  | 1, _ => exact ix_wF1
  | 2, _ => exact ix_wF2
  | 3, _ => exact ix_wF3
  | 4, _ => exact ix_wF4
  | 5, _ => exact ix_wF5
  | 6, _ => exact ix_wF6
  | 7, _ => exact ix_wF7
  | 8, _ => exact ix_wF8
  | 9, _ => exact ix_wF9
  | 10, _ => exact ix_wF10
  | 11, _ => exact ix_wF11
  | 12, _ => exact ix_wF12
  | 13, _ => exact ix_wF13
  | 14, _ => exact ix_wF14
  | 15, _ => exact ix_wF15
  | 16, _ => exact ix_wF16
  | 17, _ => exact ix_wF17
  | 18, _ => exact ix_wF18
  | 19, _ => exact ix_wF19
  | n + 20, h => exact absurd h (by omega)
theorem ix_wM : ∀ o, o < 20 → ∀ e ∈ ix_jM o, ix_PM o e := by
  intro o h
  match o, h with
  | 0, _ => exact ix_wM0
  | 1, _ => exact ix_wM1
  | 2, _ => exact ix_wM2
  | 3, _ => exact ix_wM3
  | 4, _ => exact ix_wM4
  | 5, _ => exact ix_wM5
  | 6, _ => exact ix_wM6
  | 7, _ => exact ix_wM7
  | 8, _ => exact ix_wM8
  | 9, _ => exact ix_wM9
  | 10, _ => exact ix_wM10
  | 11, _ => exact ix_wM11
  | 12, _ => exact ix_wM12
  | 13, _ => exact ix_wM13
  | 14, _ => exact ix_wM14
  | 15, _ => exact ix_wM15
  | 16, _ => exact ix_wM16
  | 17, _ => exact ix_wM17
  | 18, _ => exact ix_wM18
  | 19, _ => exact ix_wM19
  | n + 20, h => exact absurd h (by omega)
theorem ix_wN : ∀ o, o < 20 → ∀ e ∈ ix_jN o, ix_PN o e := by
  intro o h
  match o, h with
  | 0, _ => exact ix_wN0
  | 1, _ => exact ix_wN1
  | 2, _ => exact ix_wN2
  | 3, _ => exact ix_wN3
  | 4, _ => exact ix_wN4
  | 5, _ => exact ix_wN5
  | 6, _ => exact ix_wN6
  | 7, _ => exact ix_wN7
  | 8, _ => exact ix_wN8
  | 9, _ => exact ix_wN9
  | 10, _ => exact ix_wN10
  | 11, _ => exact ix_wN11
  | 12, _ => exact ix_wN12
  | 13, _ => exact ix_wN13
  | 14, _ => exact ix_wN14
  | 15, _ => exact ix_wN15
  | 16, _ => exact ix_wN16
  | 17, _ => exact ix_wN17
  | 18, _ => exact ix_wN18
  | 19, _ => exact ix_wN19
  | n + 20, h => exact absurd h (by omega)
theorem ix_wC : ∀ o, o < 20 → ∀ e ∈ ix_jC o, ix_at e.2.2 = some (Cond.constant (ix_cn o) e.1 e.2.1) := by
  intro o h
  match o, h with
  | 0, _ => exact ix_wC0
  | 1, _ => exact ix_wC1
  | 2, _ => exact ix_wC2
  | 3, _ => exact ix_wC3
  | 4, _ => exact ix_wC4
  | 5, _ => exact ix_wC5
  | 6, _ => exact ix_wC6
  | 7, _ => exact ix_wC7
  | 8, _ => exact ix_wC8
  | 9, _ => exact ix_wC9
  | 10, _ => exact ix_wC10
  | 11, _ => exact ix_wC11
  | 12, _ => exact ix_wC12
  | 13, _ => exact ix_wC13
  | 14, _ => exact ix_wC14
  | 15, _ => exact ix_wC15
  | 16, _ => exact ix_wC16
  | 17, _ => exact ix_wC17
  | 18, _ => exact ix_wC18
  | 19, _ => exact ix_wC19
  | n + 20, h => exact absurd h (by omega)
theorem ix_wL : ∀ o, o < 20 → ∀ e ∈ ix_jL o, ix_at e.2.2 = some (Cond.constantLong (ix_cn o) e.1 e.2.1) := by
  intro o h
  match o, h with
  | 0, _ => exact ix_wL0
  | 1, _ => exact ix_wL1
  | 2, _ => exact ix_wL2
  | 3, _ => exact ix_wL3
  | 4, _ => exact ix_wL4
  | 5, _ => exact ix_wL5
  | 6, _ => exact ix_wL6
  | 7, _ => exact ix_wL7
  | 8, _ => exact ix_wL8
  | 9, _ => exact ix_wL9
  | 10, _ => exact ix_wL10
  | 11, _ => exact ix_wL11
  | 12, _ => exact ix_wL12
  | 13, _ => exact ix_wL13
  | 14, _ => exact ix_wL14
  | 15, _ => exact ix_wL15
  | 16, _ => exact ix_wL16
  | 17, _ => exact ix_wL17
  | 18, _ => exact ix_wL18
  | 19, _ => exact ix_wL19
  | n + 20, h => exact absurd h (by omega)
theorem ix_wA : ∀ o, o < 20 → ∀ e ∈ ix_jA o, ix_at e.2.2 = some (Cond.classLink (ix_cn o) e.1 ix_nD) := by
  intro o h
  match o, h with
  | 0, _ => exact ix_wA0
  | 1, _ => exact ix_wA1
  | 2, _ => exact ix_wA2
  | 3, _ => exact ix_wA3
  | 4, _ => exact ix_wA4
  | 5, _ => exact ix_wA5
  | 6, _ => exact ix_wA6
  | 7, _ => exact ix_wA7
  | 8, _ => exact ix_wA8
  | 9, _ => exact ix_wA9
  | 10, _ => exact ix_wA10
  | 11, _ => exact ix_wA11
  | 12, _ => exact ix_wA12
  | 13, _ => exact ix_wA13
  | 14, _ => exact ix_wA14
  | 15, _ => exact ix_wA15
  | 16, _ => exact ix_wA16
  | 17, _ => exact ix_wA17
  | 18, _ => exact ix_wA18
  | 19, _ => exact ix_wA19
  | n + 20, h => exact absurd h (by omega)
theorem ix_wX : ∀ o, o < 20 → ∀ e ∈ ix_jX o, ix_PX o e := by
  intro o h
  match o, h with
  | 0, _ => exact ix_wX0
  | 1, _ => exact ix_wX1
  | 2, _ => exact ix_wX2
  | 3, _ => exact ix_wX3
  | 4, _ => exact ix_wX4
  | 5, _ => exact ix_wX5
  | 6, _ => exact ix_wX6
  | 7, _ => exact ix_wX7
  | 8, _ => exact ix_wX8
  | 9, _ => exact ix_wX9
  | 10, _ => exact ix_wX10
  | 11, _ => exact ix_wX11
  | 12, _ => exact ix_wX12
  | 13, _ => exact ix_wX13
  | 14, _ => exact ix_wX14
  | 15, _ => exact ix_wX15
  | 16, _ => exact ix_wX16
  | 17, _ => exact ix_wX17
  | 18, _ => exact ix_wX18
  | 19, _ => exact ix_wX19
  | n + 20, h => exact absurd h (by omega)
theorem ix_wS : ∀ o, o < 20 → ∀ e ∈ ix_jS o, ix_PS o e := by
  intro o h
  match o, h with
  | 0, _ => exact ix_wS0
  | 1, _ => exact ix_wS1
  | 2, _ => exact ix_wS2
  | 3, _ => exact ix_wS3
  | 4, _ => exact ix_wS4
  | 5, _ => exact ix_wS5
  | 6, _ => exact ix_wS6
  | 7, _ => exact ix_wS7
  | 8, _ => exact ix_wS8
  | 9, _ => exact ix_wS9
  | 10, _ => exact ix_wS10
  | 11, _ => exact ix_wS11
  | 12, _ => exact ix_wS12
  | 13, _ => exact ix_wS13
  | 14, _ => exact ix_wS14
  | 15, _ => exact ix_wS15
  | 16, _ => exact ix_wS16
  | 17, _ => exact ix_wS17
  | 18, _ => exact ix_wS18
  | 19, _ => exact ix_wS19
  | n + 20, h => exact absurd h (by omega)
theorem ix_wK0 : ∀ k, k < 9 → ix_at (ix_lp 0 k) = some (u_lay "DecimalBits" ix_T0 k) := (lt_s (lt_s (lt_s (lt_s (lt_s (lt_s (lt_s (lt_s (lt_s lt_0 rfl) rfl) rfl) rfl) rfl) rfl) rfl) rfl) rfl)
theorem ix_wK1 : ∀ k, k < 1 → ix_at (ix_lp 1 k) = some (u_lay "DecimalBits$Natural" ix_T1 k) := (lt_s lt_0 rfl)
theorem ix_wK2 : ∀ k, k < 2 → ix_at (ix_lp 2 k) = some (u_lay "DecimalBits$Divider" ix_T2 k) := (lt_s (lt_s lt_0 rfl) rfl)
theorem ix_wK3 : ∀ k, k < 5 → ix_at (ix_lp 3 k) = some (u_lay "DecimalBits$Datum" ix_T3 k) := (lt_s (lt_s (lt_s (lt_s (lt_s lt_0 rfl) rfl) rfl) rfl) rfl)
theorem ix_wK4 : ∀ k, k < 2 → ix_at (ix_lp 4 k) = some (u_lay "DecimalBits$BitPattern" ix_T4 k) := (lt_s (lt_s lt_0 rfl) rfl)
theorem ix_wK5 : ∀ k, k < 5 → ix_at (ix_lp 5 k) = some (u_lay "DecimalBits$Unrounded" ix_T5 k) := (lt_s (lt_s (lt_s (lt_s (lt_s lt_0 rfl) rfl) rfl) rfl) rfl)
theorem ix_wK6 : ∀ k, k < 1 → ix_at (ix_lp 6 k) = some (u_lay "DecimalBits$Comparison" ix_T6 k) := (lt_s lt_0 rfl)
theorem ix_wK7 : ∀ k, k < 10 → ix_at (ix_lp 7 k) = some (u_lay "DecimalBits$Arithmetic" ix_T7 k) := (lt_s (lt_s (lt_s (lt_s (lt_s (lt_s (lt_s (lt_s (lt_s (lt_s lt_0 rfl) rfl) rfl) rfl) rfl) rfl) rfl) rfl) rfl) rfl)
theorem ix_wK8 : ∀ k, k < 7 → ix_at (ix_lp 8 k) = some (u_lay "DecimalBits$TextReader" ix_T8 k) := (lt_s (lt_s (lt_s (lt_s (lt_s (lt_s (lt_s lt_0 rfl) rfl) rfl) rfl) rfl) rfl) rfl)
theorem ix_wK9 : ∀ k, k < 2 → ix_at (ix_lp 9 k) = some (u_lay "DecimalBits$TextWriter" ix_T9 k) := (lt_s (lt_s lt_0 rfl) rfl)
theorem ix_wK10 : ∀ k, k < 23 → ix_at (ix_lp 10 k) = some (u_lay "DecimalBitsModel" ix_T10 k) := (lt_s (lt_s (lt_s (lt_s (lt_s (lt_s (lt_s (lt_s (lt_s (lt_s (lt_s (lt_s (lt_s (lt_s (lt_s (lt_s (lt_s (lt_s (lt_s (lt_s (lt_s (lt_s (lt_s lt_0 rfl) rfl) rfl) rfl) rfl) rfl) rfl) rfl) rfl) rfl) rfl) rfl) rfl) rfl) rfl) rfl) rfl) rfl) rfl) rfl) rfl) rfl) rfl)
theorem ix_wK11 : ∀ k, k < 0 → ix_at (ix_lp 11 k) = some (u_lay "java/lang/IllegalArgumentException" ix_T99 k) := lt_0
theorem ix_wK12 : ∀ k, k < 0 → ix_at (ix_lp 12 k) = some (u_lay "java/lang/ArithmeticException" ix_T99 k) := lt_0
