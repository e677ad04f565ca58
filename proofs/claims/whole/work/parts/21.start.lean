/-! ===== the law's start: what my machine begins with ===== -/
noncomputable def ix_tv (r : Nat) : List Int32 := (bif Nat.blt r 16 then (bif Nat.blt r 3 then (bif Nat.blt r 1 then [1, 2, 4] else (bif Nat.blt r 2 then [7, 16, 34] else [101, 398, 6176])) else (bif Nat.blt r 5 then (bif Nat.blt r 4 then [96, 384, 6144] else [1, 10, 100, 1000, 10000, 100000, 1000000, 10000000, 100000000]) else (bif Nat.blt r 6 then [8, 10, 14] else [20, 18, 14]))) else (bif Nat.blt r 19 then (bif Nat.blt r 17 then [73, 78, 70, 73, 78, 73, 84, 89] else (bif Nat.blt r 18 then [73, 78, 70] else [83, 78, 65, 78])) else (bif Nat.blt r 21 then (bif Nat.blt r 20 then [78, 65, 78] else [73, 110, 102, 105, 110, 105, 116, 121]) else (bif Nat.blt r 22 then [115, 78, 97, 78] else [78, 97, 78]))))
noncomputable def ix_l0 (L : Nat) (xs : Nat → Int32) (r : Nat) : ix_C := bif Nat.blt r 7 then .inl (0, (ix_tv r).length, .inl fun j => (ix_tv r).getD j 0) else bif Nat.ble 8 r && Nat.ble r 14 then .inr (100, [.ref (r + 8), .int 0]) else bif Nat.ble 16 r && Nat.ble r 22 then .inl (5, (ix_tv r).length, .inl fun j => (ix_tv r).getD j 0) else bif Nat.beq r 31 then .inl (0, L, .inl xs) else .inl (99, 0, .inr (.inl fun _ => 0))
noncomputable def ix_h0 (L : Nat) (xs : Nat → Int32) : ix_H := (32, 0, ix_l0 L xs)
abbrev ix_gn : Cond := Jvm.Cond.and given_1 narrow_1
theorem ix_g {args : Array Value} {s : State} (h : ix_gn.before args s = true) {k : Nat} {w : Cond} (hk : (flatC ix_gn)[k]? = some w) : w.before args s = true := flat_of_before _ h w (List.mem_of_getElem? hk)
theorem ix_g0 {s : State} {G : ix_G} (hb : G.2.2.1 = s.heap.size) : ∀ a : Nat, a < s.heap.size → ¬ ix_A G a := fun a h z => by
  have : G.2.2.1 ≤ a := z
  omega
section IXB
variable {args : Array Value} {s : State} {A : Nat → Prop}
theorem ix_exr {t : Term} {nm : String} (h : (Cond.exactly t nm).before args s = true) : ∃ a, t.eval args s none [] s = some (.ref a) := by
  cases hv : t.eval args s none [] s with
  | none => simp [Cond.before, Cond.holds, Cond.value, hv] at h
  | some w =>
    cases w with
    | ref a => exact ⟨a, rfl⟩
    | _ => cases hf : s.vm.findClass nm <;> simp [Cond.before, Cond.holds, Cond.value, hv, hf] at h
theorem ix_bT0 (hA : ∀ a : Nat, a < s.heap.size → ¬ A a) (hts : ∀ w ∈ lw_tbl, w.before args s = true) (h : ix_gn.before args s = true) : ∃ t : Nat, va_T .int t 3 (fun j => .int ((ix_tv 0).getD j 0)) A s s.heap ∧ va_Z "DecimalBits$Formats" "WORDS" "[I" (.ref t) A s s.heap := by
  obtain ⟨t, h1, h2⟩ := va_Tof (tm := (.static "DecimalBits$Formats" "WORDS" "[I")) (ty := .int) (N := 3) (f := fun j => .int ((ix_tv 0).getD j 0)) (by decide) (ix_g h (k := 5) rfl) (va_eqt (ix_g h (k := 6) rfl)) (lt_s (lt_s (lt_s lt_0 (va_eqt (ix_g h (k := 7) rfl))) (va_eqt (ix_g h (k := 8) rfl))) (va_eqt (ix_g h (k := 9) rfl))) hA
  exact ⟨t, h2, va_Zof (hts _ (ix_wa_mem (p := 419) rfl)) (hts _ (ix_wa_mem (p := 127) rfl)) h1 hA⟩
theorem ix_bT1 (hA : ∀ a : Nat, a < s.heap.size → ¬ A a) (hts : ∀ w ∈ lw_tbl, w.before args s = true) (h : ix_gn.before args s = true) : ∃ t : Nat, va_T .int t 3 (fun j => .int ((ix_tv 1).getD j 0)) A s s.heap ∧ va_Z "DecimalBits$Formats" "DIGITS" "[I" (.ref t) A s s.heap := by
  obtain ⟨t, h1, h2⟩ := va_Tof (tm := (.static "DecimalBits$Formats" "DIGITS" "[I")) (ty := .int) (N := 3) (f := fun j => .int ((ix_tv 1).getD j 0)) (by decide) (ix_g h (k := 41) rfl) (va_eqt (ix_g h (k := 42) rfl)) (lt_s (lt_s (lt_s lt_0 (va_eqt (ix_g h (k := 43) rfl))) (va_eqt (ix_g h (k := 44) rfl))) (va_eqt (ix_g h (k := 45) rfl))) hA
  exact ⟨t, h2, va_Zof (hts _ (ix_wa_mem (p := 551) rfl)) (hts _ (ix_wa_mem (p := 127) rfl)) h1 hA⟩
theorem ix_bT2 (hA : ∀ a : Nat, a < s.heap.size → ¬ A a) (hts : ∀ w ∈ lw_tbl, w.before args s = true) (h : ix_gn.before args s = true) : ∃ t : Nat, va_T .int t 3 (fun j => .int ((ix_tv 2).getD j 0)) A s s.heap ∧ va_Z "DecimalBits$Formats" "BIAS" "[I" (.ref t) A s s.heap := by
  obtain ⟨t, h1, h2⟩ := va_Tof (tm := (.static "DecimalBits$Formats" "BIAS" "[I")) (ty := .int) (N := 3) (f := fun j => .int ((ix_tv 2).getD j 0)) (by decide) (ix_g h (k := 17) rfl) (va_eqt (ix_g h (k := 18) rfl)) (lt_s (lt_s (lt_s lt_0 (va_eqt (ix_g h (k := 19) rfl))) (va_eqt (ix_g h (k := 20) rfl))) (va_eqt (ix_g h (k := 21) rfl))) hA
  exact ⟨t, h2, va_Zof (hts _ (ix_wa_mem (p := 460) rfl)) (hts _ (ix_wa_mem (p := 127) rfl)) h1 hA⟩
theorem ix_bT3 (hA : ∀ a : Nat, a < s.heap.size → ¬ A a) (hts : ∀ w ∈ lw_tbl, w.before args s = true) (h : ix_gn.before args s = true) : ∃ t : Nat, va_T .int t 3 (fun j => .int ((ix_tv 3).getD j 0)) A s s.heap ∧ va_Z "DecimalBits$Formats" "EMAX" "[I" (.ref t) A s s.heap := by
  obtain ⟨t, h1, h2⟩ := va_Tof (tm := (.static "DecimalBits$Formats" "EMAX" "[I")) (ty := .int) (N := 3) (f := fun j => .int ((ix_tv 3).getD j 0)) (by decide) (ix_g h (k := 35) rfl) (va_eqt (ix_g h (k := 36) rfl)) (lt_s (lt_s (lt_s lt_0 (va_eqt (ix_g h (k := 37) rfl))) (va_eqt (ix_g h (k := 38) rfl))) (va_eqt (ix_g h (k := 39) rfl))) hA
  exact ⟨t, h2, va_Zof (hts _ (ix_wa_mem (p := 511) rfl)) (hts _ (ix_wa_mem (p := 127) rfl)) h1 hA⟩
theorem ix_bT4 (hA : ∀ a : Nat, a < s.heap.size → ¬ A a) (hts : ∀ w ∈ lw_tbl, w.before args s = true) (h : ix_gn.before args s = true) : ∃ t : Nat, va_T .int t 9 (fun j => .int ((ix_tv 4).getD j 0)) A s s.heap ∧ va_Z "DecimalBits$Natural" "POWERS" "[I" (.ref t) A s s.heap := by
  obtain ⟨t, h1, h2⟩ := va_Tof (tm := (.static "DecimalBits$Natural" "POWERS" "[I")) (ty := .int) (N := 9) (f := fun j => .int ((ix_tv 4).getD j 0)) (by decide) (ix_g h (k := 23) rfl) (va_eqt (ix_g h (k := 24) rfl)) (lt_s (lt_s (lt_s (lt_s (lt_s (lt_s (lt_s (lt_s (lt_s lt_0 (va_eqt (ix_g h (k := 25) rfl))) (va_eqt (ix_g h (k := 26) rfl))) (va_eqt (ix_g h (k := 27) rfl))) (va_eqt (ix_g h (k := 28) rfl))) (va_eqt (ix_g h (k := 29) rfl))) (va_eqt (ix_g h (k := 30) rfl))) (va_eqt (ix_g h (k := 31) rfl))) (va_eqt (ix_g h (k := 32) rfl))) (va_eqt (ix_g h (k := 33) rfl))) hA
  exact ⟨t, h2, va_Zof (hts _ (ix_wa_mem (p := 509) rfl)) (hts _ (ix_wa_mem (p := 119) rfl)) h1 hA⟩
theorem ix_bT5 (hA : ∀ a : Nat, a < s.heap.size → ¬ A a) (hts : ∀ w ∈ lw_tbl, w.before args s = true) (h : ix_gn.before args s = true) : ∃ t : Nat, va_T .int t 3 (fun j => .int ((ix_tv 5).getD j 0)) A s s.heap ∧ va_Z "DecimalBits$Formats" "EXPONENT_BITS" "[I" (.ref t) A s s.heap := by
  obtain ⟨t, h1, h2⟩ := va_Tof (tm := (.static "DecimalBits$Formats" "EXPONENT_BITS" "[I")) (ty := .int) (N := 3) (f := fun j => .int ((ix_tv 5).getD j 0)) (by decide) (ix_g h (k := 11) rfl) (va_eqt (ix_g h (k := 12) rfl)) (lt_s (lt_s (lt_s lt_0 (va_eqt (ix_g h (k := 13) rfl))) (va_eqt (ix_g h (k := 14) rfl))) (va_eqt (ix_g h (k := 15) rfl))) hA
  exact ⟨t, h2, va_Zof (hts _ (ix_wa_mem (p := 458) rfl)) (hts _ (ix_wa_mem (p := 127) rfl)) h1 hA⟩
theorem ix_bT6 (hA : ∀ a : Nat, a < s.heap.size → ¬ A a) (hts : ∀ w ∈ lw_tbl, w.before args s = true) (h : ix_gn.before args s = true) : ∃ t : Nat, va_T .int t 3 (fun j => .int ((ix_tv 6).getD j 0)) A s s.heap ∧ va_Z "DecimalBits$Formats" "PAYLOAD_BITS" "[I" (.ref t) A s s.heap := by
  obtain ⟨t, h1, h2⟩ := va_Tof (tm := (.static "DecimalBits$Formats" "PAYLOAD_BITS" "[I")) (ty := .int) (N := 3) (f := fun j => .int ((ix_tv 6).getD j 0)) (by decide) (ix_g h (k := 49) rfl) (va_eqt (ix_g h (k := 50) rfl)) (lt_s (lt_s (lt_s lt_0 (va_eqt (ix_g h (k := 51) rfl))) (va_eqt (ix_g h (k := 52) rfl))) (va_eqt (ix_g h (k := 53) rfl))) hA
  exact ⟨t, h2, va_Zof (hts _ (ix_wa_mem (p := 641) rfl)) (hts _ (ix_wa_mem (p := 127) rfl)) h1 hA⟩
theorem ix_bS8 (hA : ∀ a : Nat, a < s.heap.size → ¬ A a) (hts : ∀ w ∈ lw_tbl, w.before args s = true) (h : ix_gn.before args s = true) : ∃ a t : Nat, vk_R "DecimalBits$TextReader" 46 "INFINITY" a s ∧ va_O "java/lang/String" a A s s.heap ∧ va_OF "java/lang/String" "value" "[B" (.ref t) a A s s.heap ∧ va_OF "java/lang/String" "coder" "B" (.int 0) a A s s.heap ∧ va_T .byte t 8 (fun j => .int ((ix_tv 16).getD j 0)) A s s.heap := by
  have hex := ix_g h (k := 83) rfl
  obtain ⟨a, ha⟩ := ix_exr hex
  obtain ⟨t, h1, h2⟩ := va_Tof (tm := (.field (.string "DecimalBits$TextReader" 46) "java/lang/String" "value" "[B")) (ty := .byte) (N := 8) (f := fun j => .int ((ix_tv 16).getD j 0)) (by decide) (ix_g h (k := 85) rfl) (va_eqt (ix_g h (k := 86) rfl)) (lt_s (lt_s (lt_s (lt_s (lt_s (lt_s (lt_s (lt_s lt_0 (va_eqt (ix_g h (k := 87) rfl))) (va_eqt (ix_g h (k := 88) rfl))) (va_eqt (ix_g h (k := 89) rfl))) (va_eqt (ix_g h (k := 90) rfl))) (va_eqt (ix_g h (k := 91) rfl))) (va_eqt (ix_g h (k := 92) rfl))) (va_eqt (ix_g h (k := 93) rfl))) (va_eqt (ix_g h (k := 94) rfl))) hA
  have hco := va_eqt (ix_g h (k := 84) rfl)
  exact ⟨a, t, vk_R.of (hts _ (ix_wa_mem (p := 1127) rfl)) ha, va_Oof hex ha hA, vk_OFof ha h1 hA, vk_OFof ha hco hA, h2⟩
theorem ix_bS9 (hA : ∀ a : Nat, a < s.heap.size → ¬ A a) (hts : ∀ w ∈ lw_tbl, w.before args s = true) (h : ix_gn.before args s = true) : ∃ a t : Nat, vk_R "DecimalBits$TextReader" 52 "INF" a s ∧ va_O "java/lang/String" a A s s.heap ∧ va_OF "java/lang/String" "value" "[B" (.ref t) a A s s.heap ∧ va_OF "java/lang/String" "coder" "B" (.int 0) a A s s.heap ∧ va_T .byte t 3 (fun j => .int ((ix_tv 17).getD j 0)) A s s.heap := by
  have hex := ix_g h (k := 95) rfl
  obtain ⟨a, ha⟩ := ix_exr hex
  obtain ⟨t, h1, h2⟩ := va_Tof (tm := (.field (.string "DecimalBits$TextReader" 52) "java/lang/String" "value" "[B")) (ty := .byte) (N := 3) (f := fun j => .int ((ix_tv 17).getD j 0)) (by decide) (ix_g h (k := 97) rfl) (va_eqt (ix_g h (k := 98) rfl)) (lt_s (lt_s (lt_s lt_0 (va_eqt (ix_g h (k := 99) rfl))) (va_eqt (ix_g h (k := 100) rfl))) (va_eqt (ix_g h (k := 101) rfl))) hA
  have hco := va_eqt (ix_g h (k := 96) rfl)
  exact ⟨a, t, vk_R.of (hts _ (ix_wa_mem (p := 1180) rfl)) ha, va_Oof hex ha hA, vk_OFof ha h1 hA, vk_OFof ha hco hA, h2⟩
theorem ix_bS10 (hA : ∀ a : Nat, a < s.heap.size → ¬ A a) (hts : ∀ w ∈ lw_tbl, w.before args s = true) (h : ix_gn.before args s = true) : ∃ a t : Nat, vk_R "DecimalBits$TextReader" 54 "SNAN" a s ∧ va_O "java/lang/String" a A s s.heap ∧ va_OF "java/lang/String" "value" "[B" (.ref t) a A s s.heap ∧ va_OF "java/lang/String" "coder" "B" (.int 0) a A s s.heap ∧ va_T .byte t 4 (fun j => .int ((ix_tv 18).getD j 0)) A s s.heap := by
  have hex := ix_g h (k := 103) rfl
  obtain ⟨a, ha⟩ := ix_exr hex
  obtain ⟨t, h1, h2⟩ := va_Tof (tm := (.field (.string "DecimalBits$TextReader" 54) "java/lang/String" "value" "[B")) (ty := .byte) (N := 4) (f := fun j => .int ((ix_tv 18).getD j 0)) (by decide) (ix_g h (k := 105) rfl) (va_eqt (ix_g h (k := 106) rfl)) (lt_s (lt_s (lt_s (lt_s lt_0 (va_eqt (ix_g h (k := 107) rfl))) (va_eqt (ix_g h (k := 108) rfl))) (va_eqt (ix_g h (k := 109) rfl))) (va_eqt (ix_g h (k := 110) rfl))) hA
  have hco := va_eqt (ix_g h (k := 104) rfl)
  exact ⟨a, t, vk_R.of (hts _ (ix_wa_mem (p := 1181) rfl)) ha, va_Oof hex ha hA, vk_OFof ha h1 hA, vk_OFof ha hco hA, h2⟩
theorem ix_bS11 (hA : ∀ a : Nat, a < s.heap.size → ¬ A a) (hts : ∀ w ∈ lw_tbl, w.before args s = true) (h : ix_gn.before args s = true) : ∃ a t : Nat, vk_R "DecimalBits$TextReader" 60 "NAN" a s ∧ va_O "java/lang/String" a A s s.heap ∧ va_OF "java/lang/String" "value" "[B" (.ref t) a A s s.heap ∧ va_OF "java/lang/String" "coder" "B" (.int 0) a A s s.heap ∧ va_T .byte t 3 (fun j => .int ((ix_tv 19).getD j 0)) A s s.heap := by
  have hex := ix_g h (k := 113) rfl
  obtain ⟨a, ha⟩ := ix_exr hex
  obtain ⟨t, h1, h2⟩ := va_Tof (tm := (.field (.string "DecimalBits$TextReader" 60) "java/lang/String" "value" "[B")) (ty := .byte) (N := 3) (f := fun j => .int ((ix_tv 19).getD j 0)) (by decide) (ix_g h (k := 115) rfl) (va_eqt (ix_g h (k := 116) rfl)) (lt_s (lt_s (lt_s lt_0 (va_eqt (ix_g h (k := 117) rfl))) (va_eqt (ix_g h (k := 118) rfl))) (va_eqt (ix_g h (k := 119) rfl))) hA
  have hco := va_eqt (ix_g h (k := 114) rfl)
  exact ⟨a, t, vk_R.of (hts _ (ix_wa_mem (p := 1191) rfl)) ha, va_Oof hex ha hA, vk_OFof ha h1 hA, vk_OFof ha hco hA, h2⟩
theorem ix_bS12 (hA : ∀ a : Nat, a < s.heap.size → ¬ A a) (hts : ∀ w ∈ lw_tbl, w.before args s = true) (h : ix_gn.before args s = true) : ∃ a t : Nat, vk_R "DecimalBits$TextWriter" 31 "Infinity" a s ∧ va_O "java/lang/String" a A s s.heap ∧ va_OF "java/lang/String" "value" "[B" (.ref t) a A s s.heap ∧ va_OF "java/lang/String" "coder" "B" (.int 0) a A s s.heap ∧ va_T .byte t 8 (fun j => .int ((ix_tv 20).getD j 0)) A s s.heap := by
  have hex := ix_g h (k := 123) rfl
  obtain ⟨a, ha⟩ := ix_exr hex
  obtain ⟨t, h1, h2⟩ := va_Tof (tm := (.field (.string "DecimalBits$TextWriter" 31) "java/lang/String" "value" "[B")) (ty := .byte) (N := 8) (f := fun j => .int ((ix_tv 20).getD j 0)) (by decide) (ix_g h (k := 125) rfl) (va_eqt (ix_g h (k := 126) rfl)) (lt_s (lt_s (lt_s (lt_s (lt_s (lt_s (lt_s (lt_s lt_0 (va_eqt (ix_g h (k := 127) rfl))) (va_eqt (ix_g h (k := 128) rfl))) (va_eqt (ix_g h (k := 129) rfl))) (va_eqt (ix_g h (k := 130) rfl))) (va_eqt (ix_g h (k := 131) rfl))) (va_eqt (ix_g h (k := 132) rfl))) (va_eqt (ix_g h (k := 133) rfl))) (va_eqt (ix_g h (k := 134) rfl))) hA
  have hco := va_eqt (ix_g h (k := 124) rfl)
  exact ⟨a, t, vk_R.of (hts _ (ix_wa_mem (p := 1227) rfl)) ha, va_Oof hex ha hA, vk_OFof ha h1 hA, vk_OFof ha hco hA, h2⟩
theorem ix_bS13 (hA : ∀ a : Nat, a < s.heap.size → ¬ A a) (hts : ∀ w ∈ lw_tbl, w.before args s = true) (h : ix_gn.before args s = true) : ∃ a t : Nat, vk_R "DecimalBits$TextWriter" 43 "sNaN" a s ∧ va_O "java/lang/String" a A s s.heap ∧ va_OF "java/lang/String" "value" "[B" (.ref t) a A s s.heap ∧ va_OF "java/lang/String" "coder" "B" (.int 0) a A s s.heap ∧ va_T .byte t 4 (fun j => .int ((ix_tv 21).getD j 0)) A s s.heap := by
  have hex := ix_g h (k := 139) rfl
  obtain ⟨a, ha⟩ := ix_exr hex
  obtain ⟨t, h1, h2⟩ := va_Tof (tm := (.field (.string "DecimalBits$TextWriter" 43) "java/lang/String" "value" "[B")) (ty := .byte) (N := 4) (f := fun j => .int ((ix_tv 21).getD j 0)) (by decide) (ix_g h (k := 141) rfl) (va_eqt (ix_g h (k := 142) rfl)) (lt_s (lt_s (lt_s (lt_s lt_0 (va_eqt (ix_g h (k := 143) rfl))) (va_eqt (ix_g h (k := 144) rfl))) (va_eqt (ix_g h (k := 145) rfl))) (va_eqt (ix_g h (k := 146) rfl))) hA
  have hco := va_eqt (ix_g h (k := 140) rfl)
  exact ⟨a, t, vk_R.of (hts _ (ix_wa_mem (p := 1235) rfl)) ha, va_Oof hex ha hA, vk_OFof ha h1 hA, vk_OFof ha hco hA, h2⟩
theorem ix_bS14 (hA : ∀ a : Nat, a < s.heap.size → ¬ A a) (hts : ∀ w ∈ lw_tbl, w.before args s = true) (h : ix_gn.before args s = true) : ∃ a t : Nat, vk_R "DecimalBits$TextWriter" 45 "NaN" a s ∧ va_O "java/lang/String" a A s s.heap ∧ va_OF "java/lang/String" "value" "[B" (.ref t) a A s s.heap ∧ va_OF "java/lang/String" "coder" "B" (.int 0) a A s s.heap ∧ va_T .byte t 3 (fun j => .int ((ix_tv 22).getD j 0)) A s s.heap := by
  have hex := ix_g h (k := 152) rfl
  obtain ⟨a, ha⟩ := ix_exr hex
  obtain ⟨t, h1, h2⟩ := va_Tof (tm := (.field (.string "DecimalBits$TextWriter" 45) "java/lang/String" "value" "[B")) (ty := .byte) (N := 3) (f := fun j => .int ((ix_tv 22).getD j 0)) (by decide) (ix_g h (k := 154) rfl) (va_eqt (ix_g h (k := 155) rfl)) (lt_s (lt_s (lt_s lt_0 (va_eqt (ix_g h (k := 156) rfl))) (va_eqt (ix_g h (k := 157) rfl))) (va_eqt (ix_g h (k := 158) rfl))) hA
  have hco := va_eqt (ix_g h (k := 153) rfl)
  exact ⟨a, t, vk_R.of (hts _ (ix_wa_mem (p := 1236) rfl)) ha, va_Oof hex ha hA, vk_OFof ha h1 hA, vk_OFof ha hco hA, h2⟩
end IXB
theorem ix_cls_kn {args : Array Value} {s : State} (hts : ∀ w ∈ lw_tbl, w.before args s = true) : ∃ D : va_G, ∀ (ci : Nat) (q : vw_C), ix_cls[ci]? = some q → u_Kn s q.1 q.2.1 q.2.2 (D.1 ci) (D.2 ci) := by
  have h : ∀ ci : Nat, ∃ (cC : ClassId) (iS : Nat → Nat), ∀ q : vw_C, ix_cls[ci]? = some q → u_Kn s q.1 q.2.1 q.2.2 cC iS := by
    intro ci
    cases hc : ix_cls[ci]? with
    | none => exact ⟨0, fun _ => 0, fun q h => by cases h⟩
    | some q =>
      obtain ⟨C, T, N⟩ := q
      have hw := (ix_cls_ok hc).1
      have hlt : ci < 13 := by rw [← ix_cls_len]; exact (List.getElem?_eq_some_iff.mp hc).1
      have hins : ∃ n, (Cond.instantiable C n).before args s = true := by
        have : ci = 0 ∨ ci = 1 ∨ ci = 2 ∨ ci = 3 ∨ ci = 4 ∨ ci = 5 ∨ ci = 6 ∨ ci = 7 ∨ ci = 8 ∨ ci = 9 ∨ ci = 10 ∨ ci = 11 ∨ ci = 12 := by omega
        rcases this with rfl | rfl | rfl | rfl | rfl | rfl | rfl | rfl | rfl | rfl | rfl | rfl | rfl
        · cases hc; exact ⟨_, hts _ (ix_wa_mem (p := (ix_np2 0).1) rfl)⟩
        · cases hc; exact ⟨_, hts _ (ix_wa_mem (p := (ix_np2 1).1) rfl)⟩
        · cases hc; exact ⟨_, hts _ (ix_wa_mem (p := (ix_np2 2).1) rfl)⟩
        · cases hc; exact ⟨_, hts _ (ix_wa_mem (p := (ix_np2 3).1) rfl)⟩
        · cases hc; exact ⟨_, hts _ (ix_wa_mem (p := (ix_np2 4).1) rfl)⟩
        · cases hc; exact ⟨_, hts _ (ix_wa_mem (p := (ix_np2 5).1) rfl)⟩
        · cases hc; exact ⟨_, hts _ (ix_wa_mem (p := (ix_np2 6).1) rfl)⟩
        · cases hc; exact ⟨_, hts _ (ix_wa_mem (p := (ix_np2 7).1) rfl)⟩
        · cases hc; exact ⟨_, hts _ (ix_wa_mem (p := (ix_np2 8).1) rfl)⟩
        · cases hc; exact ⟨_, hts _ (ix_wa_mem (p := (ix_np2 9).1) rfl)⟩
        · cases hc; exact ⟨_, hts _ (ix_wa_mem (p := (ix_np2 10).1) rfl)⟩
        · cases hc; exact ⟨_, hts _ (ix_wa_mem (p := (ix_np2 11).1) rfl)⟩
        · cases hc; exact ⟨_, hts _ (ix_wa_mem (p := (ix_np2 12).1) rfl)⟩
      obtain ⟨n, hi⟩ := hins
      obtain ⟨cC, iS, hK⟩ := u_known hts hw hi
      exact ⟨cC, iS, fun q h => by cases h; exact hK⟩
  exact ⟨(fun ci => Classical.choose (h ci), fun ci => Classical.choose (Classical.choose_spec (h ci))), fun ci q hq => Classical.choose_spec (Classical.choose_spec (h ci)) q hq⟩
theorem ix_tys {args : Array Value} {s : State} (hts : ∀ w ∈ lw_tbl, w.before args s = true) : ∃ tys : List (ClassId × FieldType), tys.map (fun q => q.2) = [.int, .long, .char, .boolean, .object ix_nD] ∧ ∀ (k : Nat) (q : ClassId × FieldType), tys[k]? = some q → ArrOfT s q.1 q.2 ∧ va_RA s q.1 q.2 := by
  obtain ⟨c0, k0, m0, i0, j0, l0⟩ := Cond.arrayClass_spec (hts _ ix_ar_int)
  obtain ⟨c1, k1, m1, i1, j1, l1⟩ := Cond.arrayClass_spec (hts _ ix_ar_long)
  obtain ⟨c2, k2, m2, i2, j2, l2⟩ := Cond.arrayClass_spec (hts _ ix_ar_char)
  obtain ⟨c3, k3, m3, i3, j3, l3⟩ := Cond.arrayClass_spec (hts _ ix_ar_boolean)
  obtain ⟨m4, c4, k4, f1, f2, f3, f4, f5⟩ := Cond.arrayOver_spec (hts _ ix_ar_q)
  refine ⟨[(c0, .int), (c1, .long), (c2, .char), (c3, .boolean), (c4, .object ix_nD)], rfl, fun k q hq => ?_⟩
  rcases k with _ | _ | _ | _ | _ | k
  · cases hq; exact ⟨fun n z => ⟨fun k h => (by cases h), k0, j0, m0, l0⟩, i0⟩
  · cases hq; exact ⟨fun n z => ⟨fun k h => (by cases h), k1, j1, m1, l1⟩, i1⟩
  · cases hq; exact ⟨fun n z => ⟨fun k h => (by cases h), k2, j2, m2, l2⟩, i2⟩
  · cases hq; exact ⟨fun n z => ⟨fun k h => (by cases h), k3, j3, m3, l3⟩, i3⟩
  · cases hq; exact ⟨fun n z => ⟨fun k h => (by cases h), k4, f3, m4, f4⟩, k4, m4, f3, f4, f1, f5⟩
  · cases hq
theorem ix_gs_lt {o idx r : Nat} (h : ix_gs o idx = some r) : r < 7 := by
  have key : ((List.range 20).all fun o => (ix_jS o).all fun e => Nat.blt e.2.1 7) = true := by decide +kernel
  unfold ix_gs at h
  cases hb : Nat.blt o ix_NO with
  | false => rw [hb] at h; cases h
  | true =>
    rw [hb] at h
    have ho : o < 20 := Nat.le_of_ble_eq_true hb
    cases hf : ((ix_jS o).find? fun e => Nat.beq e.1 idx) with
    | none => simp [hf] at h
    | some e =>
      simp only [hf, cond_true, Option.map_some, Option.some.injEq] at h
      subst h
      obtain ⟨hm, rfl⟩ := ix_fnd hf
      exact Nat.le_of_ble_eq_true (List.all_eq_true.mp (List.all_eq_true.mp key o (List.mem_range.mpr ho)) e hm)
theorem ix_gv_ok {o idx : Nat} {v : Value} (h : ix_gv o idx = some v) : (∃ r, ix_gs o idx = some r ∧ v = .ref r) ∨ (o = 16 ∧ idx = 38 ∧ v = .int 1) ∨ (o = 16 ∧ idx = 1053 ∧ v = .retAddr 0) := by
  unfold ix_gv at h
  cases hg : ix_gs o idx with
  | some r => rw [hg] at h; cases h; exact Or.inl ⟨r, rfl, rfl⟩
  | none =>
    rw [hg] at h
    simp only at h
    cases h1 : (Nat.beq o 16 && Nat.beq idx 38) with
    | true =>
      rw [h1] at h
      simp only [Bool.and_eq_true] at h1
      cases h
      exact Or.inr (Or.inl ⟨Nat.eq_of_beq_eq_true h1.1, Nat.eq_of_beq_eq_true h1.2, rfl⟩)
    | false =>
      rw [h1] at h
      cases h2 : (Nat.beq o 16 && Nat.beq idx 1053) with
      | true =>
        rw [h2] at h
        simp only [Bool.and_eq_true] at h2
        cases h
        exact Or.inr (Or.inr ⟨Nat.eq_of_beq_eq_true h2.1, Nat.eq_of_beq_eq_true h2.2, rfl⟩)
      | false => rw [h2] at h; cases h
theorem ix_ks_ok {o idx r : Nat} (h : ix_ks o idx = some r) : (o = 11 ∧ ((idx = 46 ∧ r = 8) ∨ (idx = 52 ∧ r = 9) ∨ (idx = 54 ∧ r = 10) ∨ (idx = 60 ∧ r = 11))) ∨ (o = 12 ∧ ((idx = 31 ∧ r = 12) ∨ (idx = 43 ∧ r = 13) ∨ (idx = 45 ∧ r = 14))) := by
  unfold ix_ks at h
  cases h1 : Nat.beq o 11 with
  | true =>
    rw [h1] at h
    refine Or.inl ⟨Nat.eq_of_beq_eq_true h1, ?_⟩
    cases h2 : Nat.beq idx 46 with
    | true => rw [h2] at h; cases h; exact Or.inl ⟨Nat.eq_of_beq_eq_true h2, rfl⟩
    | false =>
      rw [h2] at h
      cases h3 : Nat.beq idx 52 with
      | true => rw [h3] at h; cases h; exact Or.inr (Or.inl ⟨Nat.eq_of_beq_eq_true h3, rfl⟩)
      | false =>
        rw [h3] at h
        cases h4 : Nat.beq idx 54 with
        | true => rw [h4] at h; cases h; exact Or.inr (Or.inr (Or.inl ⟨Nat.eq_of_beq_eq_true h4, rfl⟩))
        | false =>
          rw [h4] at h
          cases h5 : Nat.beq idx 60 with
          | true => rw [h5] at h; cases h; exact Or.inr (Or.inr (Or.inr ⟨Nat.eq_of_beq_eq_true h5, rfl⟩))
          | false => rw [h5] at h; cases h
  | false =>
    rw [h1] at h
    cases h1' : Nat.beq o 12 with
    | false => rw [h1'] at h; cases h
    | true =>
      rw [h1'] at h
      refine Or.inr ⟨Nat.eq_of_beq_eq_true h1', ?_⟩
      cases h2 : Nat.beq idx 31 with
      | true => rw [h2] at h; cases h; exact Or.inl ⟨Nat.eq_of_beq_eq_true h2, rfl⟩
      | false =>
        rw [h2] at h
        cases h3 : Nat.beq idx 43 with
        | true => rw [h3] at h; cases h; exact Or.inr (Or.inl ⟨Nat.eq_of_beq_eq_true h3, rfl⟩)
        | false =>
          rw [h3] at h
          cases h4 : Nat.beq idx 45 with
          | true => rw [h4] at h; cases h; exact Or.inr (Or.inr ⟨Nat.eq_of_beq_eq_true h4, rfl⟩)
          | false => rw [h4] at h; cases h
theorem ix_lsof {args : Array Value} {s : State} {O n d : String} {A : Nat → Prop} (h : (Cond.laysStatic O n d).before args s = true) (hA : ∀ a : Nat, a < s.heap.size → ¬ A a) : ix_ls O n d A s s.heap := by
  obtain ⟨c, k, i, f, a, cell, h0, h1, h2, h3, h4, h5, h6, h7, h8⟩ := Cond.laysStatic_spec h
  exact ⟨c, k, i, f, a, cell, h0, h1, h2, h3, h4, h5, h6, h7, h8, hA a (Array.getElem?_eq_some_iff.mp h4).1⟩
set_option maxHeartbeats 1000000 in
/-- what the run begins with -/
theorem ix_ro0 {args : Array Value} {s : State} {b L : Nat} {xs : Nat → Int32} (D : va_G) (tys : List (ClassId × FieldType)) (hLs : L < 2 ^ 31) (hts : ∀ w ∈ lw_tbl, w.before args s = true) (hg : ix_gn.before args s = true) (hX : va_X b L xs s s.heap) (hbl : b < s.heap.size) : ∃ (tad : Nat → Nat) (fmt : Value), tad 31 = b ∧ ix_ro (D, tys, s.heap.size, tad, fmt) (ix_l0 L xs) s s.heap := by
  have hA : ∀ a : Nat, a < s.heap.size → ¬ (fun q => s.heap.size ≤ q) a := fun a h z => by
    have : s.heap.size ≤ a := z
    omega
  obtain ⟨t0, hT0, hZ0⟩ := ix_bT0 hA hts hg
  obtain ⟨t1, hT1, hZ1⟩ := ix_bT1 hA hts hg
  obtain ⟨t2, hT2, hZ2⟩ := ix_bT2 hA hts hg
  obtain ⟨t3, hT3, hZ3⟩ := ix_bT3 hA hts hg
  obtain ⟨t4, hT4, hZ4⟩ := ix_bT4 hA hts hg
  obtain ⟨t5, hT5, hZ5⟩ := ix_bT5 hA hts hg
  obtain ⟨t6, hT6, hZ6⟩ := ix_bT6 hA hts hg
  obtain ⟨a8, u8, hR8, hO8, hV8, hC8, hB8⟩ := ix_bS8 hA hts hg
  obtain ⟨a9, u9, hR9, hO9, hV9, hC9, hB9⟩ := ix_bS9 hA hts hg
  obtain ⟨a10, u10, hR10, hO10, hV10, hC10, hB10⟩ := ix_bS10 hA hts hg
  obtain ⟨a11, u11, hR11, hO11, hV11, hC11, hB11⟩ := ix_bS11 hA hts hg
  obtain ⟨a12, u12, hR12, hO12, hV12, hC12, hB12⟩ := ix_bS12 hA hts hg
  obtain ⟨a13, u13, hR13, hO13, hV13, hC13, hB13⟩ := ix_bS13 hA hts hg
  obtain ⟨a14, u14, hR14, hO14, hV14, hC14, hB14⟩ := ix_bS14 hA hts hg
  have hX31 : va_T .int b L (fun j => .int (xs j)) (fun q => s.heap.size ≤ q) s s.heap := by
    obtain ⟨scr, x1, x2, x3, x4, x5⟩ := hX
    exact ⟨scr, x1, x2, x3, by rw [x4]; exact Nat.le_refl _, by rw [x4], x5, hA b hbl⟩
  have hcs := va_Zof (A := fun q => s.heap.size ≤ q) (hts _ (ix_wa_mem (p := 1141) rfl)) (hts _ (ix_wa_mem (p := 138) rfl)) (va_eqt (ix_g hg (k := 54) rfl)) hA
  have hsf := va_Zqof (A := fun q => s.heap.size ≤ q) (hts _ (ix_wa_mem (p := 1157) rfl)) (hts _ (ix_wa_mem (p := 140) rfl)) (ix_g hg (k := 55) rfl) hA
  have hus := va_Zqof (A := fun q => s.heap.size ≤ q) (hts _ (ix_wa_mem (p := 582) rfl)) (hts _ (ix_wa_mem (p := 128) rfl)) (ix_g hg (k := 46) rfl) hA
  have hss := va_Zqof (A := fun q => s.heap.size ≤ q) (hts _ (ix_wa_mem (p := 584) rfl)) (hts _ (ix_wa_mem (p := 128) rfl)) (ix_g hg (k := 47) rfl) hA
  have hlu := ix_lsof (hts _ (ix_wa_mem (p := 582) rfl)) hA
  have hlss := ix_lsof (hts _ (ix_wa_mem (p := 584) rfl)) hA
  obtain ⟨fmt, hfc, hfz⟩ : ∃ fmt : Value, fmt.category = 1 ∧ va_Z "jdk/internal/util/Preconditions" "SIOOBE_FORMATTER" "Ljava/util/function/BiFunction;" fmt (fun q => s.heap.size ≤ q) s s.heap := by
    rcases hsf with z | ⟨t, z⟩
    · exact ⟨.null, rfl, z⟩
    · exact ⟨.ref t, rfl, z⟩
  refine ⟨fun r => ([t0, t1, t2, t3, t4, t5, t6, 0, a8, a9, a10, a11, a12, a13, a14, 0, u8, u9, u10, u11, u12, u13, u14, 0, 0, 0, 0, 0, 0, 0, 0, b] : List Nat).getD r 0, fmt, rfl, fun r t n f hr hlq => ?_, fun o idx v hv => ?_, ?_, fun o idx r hk => ?_, fun r fs hr hlq => ?_⟩
  · have : r = 0 ∨ r = 1 ∨ r = 2 ∨ r = 3 ∨ r = 4 ∨ r = 5 ∨ r = 6 ∨ r = 7 ∨ r = 8 ∨ r = 9 ∨ r = 10 ∨ r = 11 ∨ r = 12 ∨ r = 13 ∨ r = 14 ∨ r = 15 ∨ r = 16 ∨ r = 17 ∨ r = 18 ∨ r = 19 ∨ r = 20 ∨ r = 21 ∨ r = 22 ∨ r = 23 ∨ r = 24 ∨ r = 25 ∨ r = 26 ∨ r = 27 ∨ r = 28 ∨ r = 29 ∨ r = 30 ∨ r = 31 := by omega
    rcases this with rfl | rfl | rfl | rfl | rfl | rfl | rfl | rfl | rfl | rfl | rfl | rfl | rfl | rfl | rfl | rfl | rfl | rfl | rfl | rfl | rfl | rfl | rfl | rfl | rfl | rfl | rfl | rfl | rfl | rfl | rfl | rfl
    · cases hlq; exact hT0
    · cases hlq; exact hT1
    · cases hlq; exact hT2
    · cases hlq; exact hT3
    · cases hlq; exact hT4
    · cases hlq; exact hT5
    · cases hlq; exact hT6
    · cases hlq
    · cases hlq
    · cases hlq
    · cases hlq
    · cases hlq
    · cases hlq
    · cases hlq
    · cases hlq
    · cases hlq
    · cases hlq; exact hB8
    · cases hlq; exact hB9
    · cases hlq; exact hB10
    · cases hlq; exact hB11
    · cases hlq; exact hB12
    · cases hlq; exact hB13
    · cases hlq; exact hB14
    · cases hlq
    · cases hlq
    · cases hlq
    · cases hlq
    · cases hlq
    · cases hlq
    · cases hlq
    · cases hlq
    · cases hlq; exact hX31
  · rcases ix_gv_ok hv with ⟨r, hr, rfl⟩ | ⟨rfl, rfl, rfl⟩ | ⟨rfl, rfl, rfl⟩
    · have hw := ix_gs_ok hr
      have hlt := ix_gs_lt hr
      have : r = 0 ∨ r = 1 ∨ r = 2 ∨ r = 3 ∨ r = 4 ∨ r = 5 ∨ r = 6 := by omega
      rcases this with rfl | rfl | rfl | rfl | rfl | rfl | rfl
      · exact ⟨_, _, _, hZ0, hw⟩
      · exact ⟨_, _, _, hZ1, hw⟩
      · exact ⟨_, _, _, hZ2, hw⟩
      · exact ⟨_, _, _, hZ3, hw⟩
      · exact ⟨_, _, _, hZ4, hw⟩
      · exact ⟨_, _, _, hZ5, hw⟩
      · exact ⟨_, _, _, hZ6, hw⟩
    · exact ⟨_, _, _, hcs, ix_cs_ok⟩
    · refine ⟨_, _, _, ?_, ix_sf_ok⟩
      simp only [ix_v, hfc, if_true]
      exact hfz
  · exact ⟨va_Nc.of (ix_g hg (k := 82) rfl), va_Nc.of (ix_g hg (k := 70) rfl), va_Nw.of rfl (hts _ (ix_wa_mem (p := 557) rfl)), va_Nw.of rfl (hts _ (ix_wa_mem (p := 945) rfl)), va_Nw.of rfl (hts _ (ix_wa_mem (p := 558) rfl)), va_Nw.of rfl (hts _ (ix_wa_mem (p := 560) rfl)), va_Nw.of rfl (hts _ (ix_wa_mem (p := 562) rfl)), hus, hss, hlu, hlss⟩
  · rcases ix_ks_ok hk with ⟨rfl, ⟨rfl, rfl⟩ | ⟨rfl, rfl⟩ | ⟨rfl, rfl⟩ | ⟨rfl, rfl⟩⟩ | ⟨rfl, ⟨rfl, rfl⟩ | ⟨rfl, rfl⟩ | ⟨rfl, rfl⟩⟩
    · exact ⟨by decide, _, hR8⟩
    · exact ⟨by decide, _, hR9⟩
    · exact ⟨by decide, _, hR10⟩
    · exact ⟨by decide, _, hR11⟩
    · exact ⟨by decide, _, hR12⟩
    · exact ⟨by decide, _, hR13⟩
    · exact ⟨by decide, _, hR14⟩
  · have : r = 0 ∨ r = 1 ∨ r = 2 ∨ r = 3 ∨ r = 4 ∨ r = 5 ∨ r = 6 ∨ r = 7 ∨ r = 8 ∨ r = 9 ∨ r = 10 ∨ r = 11 ∨ r = 12 ∨ r = 13 ∨ r = 14 ∨ r = 15 ∨ r = 16 ∨ r = 17 ∨ r = 18 ∨ r = 19 ∨ r = 20 ∨ r = 21 ∨ r = 22 ∨ r = 23 ∨ r = 24 ∨ r = 25 ∨ r = 26 ∨ r = 27 ∨ r = 28 ∨ r = 29 ∨ r = 30 ∨ r = 31 := by omega
    rcases this with rfl | rfl | rfl | rfl | rfl | rfl | rfl | rfl | rfl | rfl | rfl | rfl | rfl | rfl | rfl | rfl | rfl | rfl | rfl | rfl | rfl | rfl | rfl | rfl | rfl | rfl | rfl | rfl | rfl | rfl | rfl | rfl
    · cases hlq
    · cases hlq
    · cases hlq
    · cases hlq
    · cases hlq
    · cases hlq
    · cases hlq
    · cases hlq
    · cases hlq; exact ⟨hO8, fun v hv => (by cases hv; exact hV8), fun v hv => (by cases hv; exact hC8)⟩
    · cases hlq; exact ⟨hO9, fun v hv => (by cases hv; exact hV9), fun v hv => (by cases hv; exact hC9)⟩
    · cases hlq; exact ⟨hO10, fun v hv => (by cases hv; exact hV10), fun v hv => (by cases hv; exact hC10)⟩
    · cases hlq; exact ⟨hO11, fun v hv => (by cases hv; exact hV11), fun v hv => (by cases hv; exact hC11)⟩
    · cases hlq; exact ⟨hO12, fun v hv => (by cases hv; exact hV12), fun v hv => (by cases hv; exact hC12)⟩
    · cases hlq; exact ⟨hO13, fun v hv => (by cases hv; exact hV13), fun v hv => (by cases hv; exact hC13)⟩
    · cases hlq; exact ⟨hO14, fun v hv => (by cases hv; exact hV14), fun v hv => (by cases hv; exact hC14)⟩
    · cases hlq
    · cases hlq
    · cases hlq
    · cases hlq
    · cases hlq
    · cases hlq
    · cases hlq
    · cases hlq
    · cases hlq
    · cases hlq
    · cases hlq
    · cases hlq
    · cases hlq
    · cases hlq
    · cases hlq
    · cases hlq
    · cases hlq
