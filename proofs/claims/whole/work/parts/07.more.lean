/-! ===== String constants and other statics ===== -/
/-- a static field's value -/
noncomputable def ix_gv (o idx : Nat) : Option Value := match ix_gs o idx with
  | some r => some (.ref r)
  | none => bif Nat.beq o 16 && Nat.beq idx 38 then some (.int 1) else bif Nat.beq o 16 && Nat.beq idx 1053 then some (.retAddr 0) else none
/-- a String constant's cell -/
noncomputable def ix_ks (o idx : Nat) : Option Nat := bif Nat.beq o 11 then (bif Nat.beq idx 46 then some 8 else bif Nat.beq idx 52 then some 9 else bif Nat.beq idx 54 then some 10 else bif Nat.beq idx 60 then some 11 else none) else bif Nat.beq o 12 then (bif Nat.beq idx 31 then some 12 else bif Nat.beq idx 43 then some 13 else bif Nat.beq idx 45 then some 14 else none) else none
noncomputable def ix_kv (o idx : Nat) : Option Value := match ix_kc o idx with
  | some v => some v
  | none => (ix_ks o idx).map .ref
/-- a field, of a String's too (100) -/
noncomputable def ix_fl (o idx : Nat) : Option (Nat × Nat) := match ix_fld o idx with
  | some q => some q
  | none => bif Nat.beq o 16 && Nat.beq idx 9 then some (100, 0) else bif Nat.beq o 16 && Nat.beq idx 15 then some (100, 1) else none
theorem ix_fl_ok {o idx ci k : Nat} (h : ix_fl o idx = some (ci, k)) : ix_fld o idx = some (ci, k) ∨ (ci = 100 ∧ ((k = 0 ∧ Cond.fieldLink (ix_cn o) idx "java/lang/String" "value" "[B" ∈ lw_tbl) ∨ (k = 1 ∧ Cond.fieldLink (ix_cn o) idx "java/lang/String" "coder" "B" ∈ lw_tbl))) := by
  unfold ix_fl at h
  cases hf : ix_fld o idx with
  | some q => rw [hf] at h; exact Or.inl h
  | none =>
    rw [hf] at h
    simp only at h
    cases h1 : (Nat.beq o 16 && Nat.beq idx 9) with
    | true =>
      rw [h1] at h
      simp only [Bool.and_eq_true] at h1
      obtain rfl := Nat.eq_of_beq_eq_true h1.1
      obtain rfl := Nat.eq_of_beq_eq_true h1.2
      cases h
      exact Or.inr ⟨rfl, Or.inl ⟨rfl, ix_wa_mem (p := 1773) rfl⟩⟩
    | false =>
      rw [h1] at h
      cases h2 : (Nat.beq o 16 && Nat.beq idx 15) with
      | true =>
        rw [h2] at h
        simp only [Bool.and_eq_true] at h2
        obtain rfl := Nat.eq_of_beq_eq_true h2.1
        obtain rfl := Nat.eq_of_beq_eq_true h2.2
        cases h
        exact Or.inr ⟨rfl, Or.inr ⟨rfl, ix_wa_mem (p := 1774) rfl⟩⟩
      | false => rw [h2] at h; cases h
theorem ix_cs_ok : Cond.fieldLink "java/lang/String" 38 "java/lang/String" "COMPACT_STRINGS" "Z" ∈ lw_tbl := ix_wa_mem (p := 1140) rfl
theorem ix_sf_ok : Cond.fieldLink "java/lang/String" 1053 "jdk/internal/util/Preconditions" "SIOOBE_FORMATTER" "Ljava/util/function/BiFunction;" ∈ lw_tbl := ix_wa_mem (p := 1156) rfl
/-- a String's methods are its own -/
theorem ix_s100 {mj : Nat} (h : mj < 286) (hc : ix_ci mj = 100) (hs : ix_sta mj = false) : (ix_y mj).cls = "java/lang/String" ∧ Cond.selects "java/lang/String" (ix_y mj) (ix_y mj) ∈ lw_tbl := by
  have key : ∀ mj, mj < 286 → ix_ci mj = 100 → ix_sta mj = false → mj = 278 ∨ mj = 279 ∨ mj = 280 ∨ mj = 281 := by decide +kernel
  rcases key mj h hc hs with rfl | rfl | rfl | rfl
  · exact ⟨rfl, ix_wa_mem (p := 1134) rfl⟩
  · exact ⟨rfl, ix_wa_mem (p := 1138) rfl⟩
  · exact ⟨rfl, ix_wa_mem (p := 1144) rfl⟩
  · exact ⟨rfl, ix_wa_mem (p := 1148) rfl⟩
