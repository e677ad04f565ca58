/-! ===== the tables are the claim's bytes: laid by a program ===== -/
noncomputable def ix_ch (mi pc : Nat) : Bool := match ix_f mi pc with
  | none => true
  | some i => match decode (ix_by mi) pc with
    | .ok (j, len) => decide (i = j) && (Nat.beq (ix_ln i) 0 || Nat.beq len (ix_ln i))
    | .error _ => false
noncomputable def ix_cm (mi : Nat) : Bool := (List.range (ix_sz mi)).all fun pc => ix_ch mi pc
theorem ix_rg {P : Nat → Bool} {i : Nat} (k : Nat) (h : ∀ a, a < i → P a = true) (h2 : ((List.range k).all fun j => P (i + j)) = true) : ∀ a, a < i + k → P a = true := by
  intro a ha
  rcases Nat.lt_or_ge a i with z | z
  · exact h a z
  · have := List.all_eq_true.mp h2 (a - i) (List.mem_range.mpr (by omega))
    rwa [show i + (a - i) = a by omega] at this
theorem ix_r0 {P : Nat → Bool} : ∀ a, a < 0 → P a = true := fun a h => absurd h (Nat.not_lt_zero a)
theorem ix_cmo {mi n : Nat} (hn : ix_sz mi = n) (h : ∀ a, a < n → ix_ch mi a = true) : ix_cm mi = true := by
  unfold ix_cm
  rw [hn]
  exact List.all_eq_true.mpr fun x hx => h x (List.mem_range.mp hx)
theorem ix_rm {P : Nat → Bool} {i : Nat} (h : ∀ a, a < i → P a = true) (h2 : P i = true) : ∀ a, a < i + 1 → P a = true := by
  intro a ha
  rcases Nat.lt_or_ge a i with z | z
  · exact h a z
  · rwa [show a = i by omega]
theorem ix_kp0_0 : ((List.range 228).all fun j => ix_ch 0 (0 + j)) = true := by decide +kernel
theorem ix_kp0_228 : ((List.range 71).all fun j => ix_ch 0 (228 + j)) = true := by decide +kernel
theorem ix_kp0_299 : ((List.range 61).all fun j => ix_ch 0 (299 + j)) = true := by decide +kernel
theorem ix_kp0_360 : ((List.range 47).all fun j => ix_ch 0 (360 + j)) = true := by decide +kernel
theorem ix_kp0_407 : ((List.range 38).all fun j => ix_ch 0 (407 + j)) = true := by decide +kernel
theorem ix_kp0_445 : ((List.range 45).all fun j => ix_ch 0 (445 + j)) = true := by decide +kernel
theorem ix_kp0_490 : ((List.range 32).all fun j => ix_ch 0 (490 + j)) = true := by decide +kernel
theorem ix_kp0_522 : ((List.range 35).all fun j => ix_ch 0 (522 + j)) = true := by decide +kernel
theorem ix_kp0_557 : ((List.range 32).all fun j => ix_ch 0 (557 + j)) = true := by decide +kernel
theorem ix_kp0_589 : ((List.range 27).all fun j => ix_ch 0 (589 + j)) = true := by decide +kernel
theorem ix_kp0_616 : ((List.range 33).all fun j => ix_ch 0 (616 + j)) = true := by decide +kernel
theorem ix_kp0_649 : ((List.range 26).all fun j => ix_ch 0 (649 + j)) = true := by decide +kernel
theorem ix_kp0_675 : ((List.range 25).all fun j => ix_ch 0 (675 + j)) = true := by decide +kernel
theorem ix_kp0_700 : ((List.range 30).all fun j => ix_ch 0 (700 + j)) = true := by decide +kernel
theorem ix_kp0_730 : ((List.range 24).all fun j => ix_ch 0 (730 + j)) = true := by decide +kernel
theorem ix_kp0_754 : ((List.range 22).all fun j => ix_ch 0 (754 + j)) = true := by decide +kernel
theorem ix_kp0_776 : ((List.range 28).all fun j => ix_ch 0 (776 + j)) = true := by decide +kernel
theorem ix_kp0_804 : ((List.range 22).all fun j => ix_ch 0 (804 + j)) = true := by decide +kernel
theorem ix_kp0_826 : ((List.range 18).all fun j => ix_ch 0 (826 + j)) = true := by decide +kernel
theorem ix_kp0_844 : ((List.range 21).all fun j => ix_ch 0 (844 + j)) = true := by decide +kernel
theorem ix_kp0_865 : ((List.range 24).all fun j => ix_ch 0 (865 + j)) = true := by decide +kernel
theorem ix_kp0_889 : ((List.range 22).all fun j => ix_ch 0 (889 + j)) = true := by decide +kernel
theorem ix_kp0_911 : ((List.range 17).all fun j => ix_ch 0 (911 + j)) = true := by decide +kernel
theorem ix_kp0_928 : ((List.range 22).all fun j => ix_ch 0 (928 + j)) = true := by decide +kernel
theorem ix_kp0_950 : ((List.range 19).all fun j => ix_ch 0 (950 + j)) = true := by decide +kernel
theorem ix_kp0_969 : ((List.range 24).all fun j => ix_ch 0 (969 + j)) = true := by decide +kernel
theorem ix_kp0_993 : ((List.range 19).all fun j => ix_ch 0 (993 + j)) = true := by decide +kernel
theorem ix_kp0_1012 : ((List.range 19).all fun j => ix_ch 0 (1012 + j)) = true := by decide +kernel
theorem ix_kp0_1031 : ((List.range 21).all fun j => ix_ch 0 (1031 + j)) = true := by decide +kernel
theorem ix_kp0_1052 : ((List.range 17).all fun j => ix_ch 0 (1052 + j)) = true := by decide +kernel
theorem ix_kp0_1069 : ((List.range 18).all fun j => ix_ch 0 (1069 + j)) = true := by decide +kernel
theorem ix_kp0_1087 : ((List.range 17).all fun j => ix_ch 0 (1087 + j)) = true := by decide +kernel
theorem ix_kp0_1104 : ((List.range 16).all fun j => ix_ch 0 (1104 + j)) = true := by decide +kernel
theorem ix_kp0_1120 : ((List.range 22).all fun j => ix_ch 0 (1120 + j)) = true := by decide +kernel
theorem ix_kp0_1142 : ((List.range 16).all fun j => ix_ch 0 (1142 + j)) = true := by decide +kernel
theorem ix_kp0_1158 : ((List.range 13).all fun j => ix_ch 0 (1158 + j)) = true := by decide +kernel
theorem ix_kp0_1171 : ((List.range 16).all fun j => ix_ch 0 (1171 + j)) = true := by decide +kernel
theorem ix_kp0_1187 : ((List.range 20).all fun j => ix_ch 0 (1187 + j)) = true := by decide +kernel
theorem ix_kp0_1207 : ((List.range 17).all fun j => ix_ch 0 (1207 + j)) = true := by decide +kernel
theorem ix_kp0_1224 : ((List.range 15).all fun j => ix_ch 0 (1224 + j)) = true := by decide +kernel
theorem ix_kp0_1239 : ((List.range 17).all fun j => ix_ch 0 (1239 + j)) = true := by decide +kernel
theorem ix_kp0_1256 : ((List.range 12).all fun j => ix_ch 0 (1256 + j)) = true := by decide +kernel
theorem ix_kp0_1268 : ((List.range 13).all fun j => ix_ch 0 (1268 + j)) = true := by decide +kernel
theorem ix_kp0_1281 : ((List.range 15).all fun j => ix_ch 0 (1281 + j)) = true := by decide +kernel
theorem ix_kp0_1296 : ((List.range 14).all fun j => ix_ch 0 (1296 + j)) = true := by decide +kernel
theorem ix_kp0_1310 : ((List.range 15).all fun j => ix_ch 0 (1310 + j)) = true := by decide +kernel
theorem ix_kp0_1325 : ((List.range 13).all fun j => ix_ch 0 (1325 + j)) = true := by decide +kernel
theorem ix_kp0_1338 : ((List.range 11).all fun j => ix_ch 0 (1338 + j)) = true := by decide +kernel
theorem ix_kp0_1349 : ((List.range 17).all fun j => ix_ch 0 (1349 + j)) = true := by decide +kernel
theorem ix_kp0_1366 : ((List.range 13).all fun j => ix_ch 0 (1366 + j)) = true := by decide +kernel
theorem ix_kp0_1379 : ((List.range 14).all fun j => ix_ch 0 (1379 + j)) = true := by decide +kernel
theorem ix_kp0_1393 : ((List.range 13).all fun j => ix_ch 0 (1393 + j)) = true := by decide +kernel
theorem ix_kp0_1406 : ((List.range 17).all fun j => ix_ch 0 (1406 + j)) = true := by decide +kernel
theorem ix_kp0_1423 : ((List.range 15).all fun j => ix_ch 0 (1423 + j)) = true := by decide +kernel
theorem ix_kp0_1438 : ((List.range 12).all fun j => ix_ch 0 (1438 + j)) = true := by decide +kernel
theorem ix_kp0_1450 : ((List.range 16).all fun j => ix_ch 0 (1450 + j)) = true := by decide +kernel
theorem ix_kp0_1466 : ((List.range 10).all fun j => ix_ch 0 (1466 + j)) = true := by decide +kernel
theorem ix_km0 : ix_cm 0 = true := ix_cmo (n := 1476) rfl (ix_rg (i := 1466) 10 (ix_rg (i := 1450) 16 (ix_rg (i := 1438) 12 (ix_rg (i := 1423) 15 (ix_rg (i := 1406) 17 (ix_rg (i := 1393) 13 (ix_rg (i := 1379) 14 (ix_rg (i := 1366) 13 (ix_rg (i := 1349) 17 (ix_rg (i := 1338) 11 (ix_rg (i := 1325) 13 (ix_rg (i := 1310) 15 (ix_rg (i := 1296) 14 (ix_rg (i := 1281) 15 (ix_rg (i := 1268) 13 (ix_rg (i := 1256) 12 (ix_rg (i := 1239) 17 (ix_rg (i := 1224) 15 (ix_rg (i := 1207) 17 (ix_rg (i := 1187) 20 (ix_rg (i := 1171) 16 (ix_rg (i := 1158) 13 (ix_rg (i := 1142) 16 (ix_rg (i := 1120) 22 (ix_rg (i := 1104) 16 (ix_rg (i := 1087) 17 (ix_rg (i := 1069) 18 (ix_rg (i := 1052) 17 (ix_rg (i := 1031) 21 (ix_rg (i := 1012) 19 (ix_rg (i := 993) 19 (ix_rg (i := 969) 24 (ix_rg (i := 950) 19 (ix_rg (i := 928) 22 (ix_rg (i := 911) 17 (ix_rg (i := 889) 22 (ix_rg (i := 865) 24 (ix_rg (i := 844) 21 (ix_rg (i := 826) 18 (ix_rg (i := 804) 22 (ix_rg (i := 776) 28 (ix_rg (i := 754) 22 (ix_rg (i := 730) 24 (ix_rg (i := 700) 30 (ix_rg (i := 675) 25 (ix_rg (i := 649) 26 (ix_rg (i := 616) 33 (ix_rg (i := 589) 27 (ix_rg (i := 557) 32 (ix_rg (i := 522) 35 (ix_rg (i := 490) 32 (ix_rg (i := 445) 45 (ix_rg (i := 407) 38 (ix_rg (i := 360) 47 (ix_rg (i := 299) 61 (ix_rg (i := 228) 71 (ix_rg (i := 0) 228 ix_r0 ix_kp0_0) ix_kp0_228) ix_kp0_299) ix_kp0_360) ix_kp0_407) ix_kp0_445) ix_kp0_490) ix_kp0_522) ix_kp0_557) ix_kp0_589) ix_kp0_616) ix_kp0_649) ix_kp0_675) ix_kp0_700) ix_kp0_730) ix_kp0_754) ix_kp0_776) ix_kp0_804) ix_kp0_826) ix_kp0_844) ix_kp0_865) ix_kp0_889) ix_kp0_911) ix_kp0_928) ix_kp0_950) ix_kp0_969) ix_kp0_993) ix_kp0_1012) ix_kp0_1031) ix_kp0_1052) ix_kp0_1069) ix_kp0_1087) ix_kp0_1104) ix_kp0_1120) ix_kp0_1142) ix_kp0_1158) ix_kp0_1171) ix_kp0_1187) ix_kp0_1207) ix_kp0_1224) ix_kp0_1239) ix_kp0_1256) ix_kp0_1268) ix_kp0_1281) ix_kp0_1296) ix_kp0_1310) ix_kp0_1325) ix_kp0_1338) ix_kp0_1349) ix_kp0_1366) ix_kp0_1379) ix_kp0_1393) ix_kp0_1406) ix_kp0_1423) ix_kp0_1438) ix_kp0_1450) ix_kp0_1466)
theorem ix_kc1 : ((List.range 22).all fun j => ix_cm (1 + j)) = true := by decide +kernel
theorem ix_kc23 : ((List.range 15).all fun j => ix_cm (23 + j)) = true := by decide +kernel
theorem ix_kc38 : ((List.range 18).all fun j => ix_cm (38 + j)) = true := by decide +kernel
theorem ix_kc56 : ((List.range 7).all fun j => ix_cm (56 + j)) = true := by decide +kernel
theorem ix_kc63 : ((List.range 9).all fun j => ix_cm (63 + j)) = true := by decide +kernel
theorem ix_kc72 : ((List.range 2).all fun j => ix_cm (72 + j)) = true := by decide +kernel
theorem ix_kc74 : ((List.range 1).all fun j => ix_cm (74 + j)) = true := by decide +kernel
theorem ix_kc75 : ((List.range 14).all fun j => ix_cm (75 + j)) = true := by decide +kernel
theorem ix_kc89 : ((List.range 4).all fun j => ix_cm (89 + j)) = true := by decide +kernel
theorem ix_kc93 : ((List.range 10).all fun j => ix_cm (93 + j)) = true := by decide +kernel
theorem ix_kc103 : ((List.range 1).all fun j => ix_cm (103 + j)) = true := by decide +kernel
theorem ix_kc104 : ((List.range 4).all fun j => ix_cm (104 + j)) = true := by decide +kernel
theorem ix_kc108 : ((List.range 3).all fun j => ix_cm (108 + j)) = true := by decide +kernel
theorem ix_kc111 : ((List.range 2).all fun j => ix_cm (111 + j)) = true := by decide +kernel
theorem ix_kc113 : ((List.range 1).all fun j => ix_cm (113 + j)) = true := by decide +kernel
theorem ix_kc114 : ((List.range 5).all fun j => ix_cm (114 + j)) = true := by decide +kernel
theorem ix_kc119 : ((List.range 1).all fun j => ix_cm (119 + j)) = true := by decide +kernel
theorem ix_kc120 : ((List.range 4).all fun j => ix_cm (120 + j)) = true := by decide +kernel
theorem ix_kc124 : ((List.range 2).all fun j => ix_cm (124 + j)) = true := by decide +kernel
theorem ix_kc126 : ((List.range 1).all fun j => ix_cm (126 + j)) = true := by decide +kernel
theorem ix_kp127_0 : ((List.range 235).all fun j => ix_ch 127 (0 + j)) = true := by decide +kernel
theorem ix_kp127_235 : ((List.range 22).all fun j => ix_ch 127 (235 + j)) = true := by decide +kernel
theorem ix_km127 : ix_cm 127 = true := ix_cmo (n := 257) rfl (ix_rg (i := 235) 22 (ix_rg (i := 0) 235 ix_r0 ix_kp127_0) ix_kp127_235)
theorem ix_kc128 : ((List.range 3).all fun j => ix_cm (128 + j)) = true := by decide +kernel
theorem ix_kc131 : ((List.range 1).all fun j => ix_cm (131 + j)) = true := by decide +kernel
theorem ix_kc132 : ((List.range 2).all fun j => ix_cm (132 + j)) = true := by decide +kernel
theorem ix_kp134_0 : ((List.range 228).all fun j => ix_ch 134 (0 + j)) = true := by decide +kernel
theorem ix_kp134_228 : ((List.range 26).all fun j => ix_ch 134 (228 + j)) = true := by decide +kernel
theorem ix_km134 : ix_cm 134 = true := ix_cmo (n := 254) rfl (ix_rg (i := 228) 26 (ix_rg (i := 0) 228 ix_r0 ix_kp134_0) ix_kp134_228)
theorem ix_kc135 : ((List.range 4).all fun j => ix_cm (135 + j)) = true := by decide +kernel
theorem ix_kc139 : ((List.range 3).all fun j => ix_cm (139 + j)) = true := by decide +kernel
theorem ix_kc142 : ((List.range 2).all fun j => ix_cm (142 + j)) = true := by decide +kernel
theorem ix_kc144 : ((List.range 8).all fun j => ix_cm (144 + j)) = true := by decide +kernel
theorem ix_kc152 : ((List.range 8).all fun j => ix_cm (152 + j)) = true := by decide +kernel
theorem ix_kc160 : ((List.range 5).all fun j => ix_cm (160 + j)) = true := by decide +kernel
theorem ix_kc165 : ((List.range 5).all fun j => ix_cm (165 + j)) = true := by decide +kernel
theorem ix_kp170_0 : ((List.range 204).all fun j => ix_ch 170 (0 + j)) = true := by decide +kernel
theorem ix_kp170_204 : ((List.range 27).all fun j => ix_ch 170 (204 + j)) = true := by decide +kernel
theorem ix_km170 : ix_cm 170 = true := ix_cmo (n := 231) rfl (ix_rg (i := 204) 27 (ix_rg (i := 0) 204 ix_r0 ix_kp170_0) ix_kp170_204)
theorem ix_kc171 : ((List.range 11).all fun j => ix_cm (171 + j)) = true := by decide +kernel
theorem ix_kc182 : ((List.range 1).all fun j => ix_cm (182 + j)) = true := by decide +kernel
theorem ix_kc183 : ((List.range 8).all fun j => ix_cm (183 + j)) = true := by decide +kernel
theorem ix_kp191_0 : ((List.range 216).all fun j => ix_ch 191 (0 + j)) = true := by decide +kernel
theorem ix_kp191_216 : ((List.range 20).all fun j => ix_ch 191 (216 + j)) = true := by decide +kernel
theorem ix_km191 : ix_cm 191 = true := ix_cmo (n := 236) rfl (ix_rg (i := 216) 20 (ix_rg (i := 0) 216 ix_r0 ix_kp191_0) ix_kp191_216)
theorem ix_kc192 : ((List.range 3).all fun j => ix_cm (192 + j)) = true := by decide +kernel
theorem ix_kc195 : ((List.range 1).all fun j => ix_cm (195 + j)) = true := by decide +kernel
theorem ix_kc196 : ((List.range 3).all fun j => ix_cm (196 + j)) = true := by decide +kernel
theorem ix_kc199 : ((List.range 1).all fun j => ix_cm (199 + j)) = true := by decide +kernel
theorem ix_kp200_0 : ((List.range 206).all fun j => ix_ch 200 (0 + j)) = true := by decide +kernel
theorem ix_kp200_206 : ((List.range 9).all fun j => ix_ch 200 (206 + j)) = true := by decide +kernel
theorem ix_km200 : ix_cm 200 = true := ix_cmo (n := 215) rfl (ix_rg (i := 206) 9 (ix_rg (i := 0) 206 ix_r0 ix_kp200_0) ix_kp200_206)
theorem ix_kc201 : ((List.range 7).all fun j => ix_cm (201 + j)) = true := by decide +kernel
theorem ix_kp208_0 : ((List.range 220).all fun j => ix_ch 208 (0 + j)) = true := by decide +kernel
theorem ix_kp208_220 : ((List.range 88).all fun j => ix_ch 208 (220 + j)) = true := by decide +kernel
theorem ix_kp208_308 : ((List.range 48).all fun j => ix_ch 208 (308 + j)) = true := by decide +kernel
theorem ix_km208 : ix_cm 208 = true := ix_cmo (n := 356) rfl (ix_rg (i := 308) 48 (ix_rg (i := 220) 88 (ix_rg (i := 0) 220 ix_r0 ix_kp208_0) ix_kp208_220) ix_kp208_308)
theorem ix_kc209 : ((List.range 8).all fun j => ix_cm (209 + j)) = true := by decide +kernel
theorem ix_kc217 : ((List.range 3).all fun j => ix_cm (217 + j)) = true := by decide +kernel
theorem ix_kc220 : ((List.range 1).all fun j => ix_cm (220 + j)) = true := by decide +kernel
theorem ix_kp221_0 : ((List.range 208).all fun j => ix_ch 221 (0 + j)) = true := by decide +kernel
theorem ix_kp221_208 : ((List.range 45).all fun j => ix_ch 221 (208 + j)) = true := by decide +kernel
theorem ix_km221 : ix_cm 221 = true := ix_cmo (n := 253) rfl (ix_rg (i := 208) 45 (ix_rg (i := 0) 208 ix_r0 ix_kp221_0) ix_kp221_208)
theorem ix_kc222 : ((List.range 5).all fun j => ix_cm (222 + j)) = true := by decide +kernel
theorem ix_kp227_0 : ((List.range 202).all fun j => ix_ch 227 (0 + j)) = true := by decide +kernel
theorem ix_kp227_202 : ((List.range 84).all fun j => ix_ch 227 (202 + j)) = true := by decide +kernel
theorem ix_kp227_286 : ((List.range 78).all fun j => ix_ch 227 (286 + j)) = true := by decide +kernel
theorem ix_kp227_364 : ((List.range 61).all fun j => ix_ch 227 (364 + j)) = true := by decide +kernel
theorem ix_kp227_425 : ((List.range 1).all fun j => ix_ch 227 (425 + j)) = true := by decide +kernel
theorem ix_km227 : ix_cm 227 = true := ix_cmo (n := 426) rfl (ix_rg (i := 425) 1 (ix_rg (i := 364) 61 (ix_rg (i := 286) 78 (ix_rg (i := 202) 84 (ix_rg (i := 0) 202 ix_r0 ix_kp227_0) ix_kp227_202) ix_kp227_286) ix_kp227_364) ix_kp227_425)
theorem ix_kc228 : ((List.range 3).all fun j => ix_cm (228 + j)) = true := by decide +kernel
theorem ix_kc231 : ((List.range 3).all fun j => ix_cm (231 + j)) = true := by decide +kernel
theorem ix_kc234 : ((List.range 1).all fun j => ix_cm (234 + j)) = true := by decide +kernel
theorem ix_kp235_0 : ((List.range 208).all fun j => ix_ch 235 (0 + j)) = true := by decide +kernel
theorem ix_kp235_208 : ((List.range 66).all fun j => ix_ch 235 (208 + j)) = true := by decide +kernel
theorem ix_km235 : ix_cm 235 = true := ix_cmo (n := 274) rfl (ix_rg (i := 208) 66 (ix_rg (i := 0) 208 ix_r0 ix_kp235_0) ix_kp235_208)
theorem ix_kc236 : ((List.range 1).all fun j => ix_cm (236 + j)) = true := by decide +kernel
theorem ix_kp237_0 : ((List.range 204).all fun j => ix_ch 237 (0 + j)) = true := by decide +kernel
theorem ix_kp237_204 : ((List.range 39).all fun j => ix_ch 237 (204 + j)) = true := by decide +kernel
theorem ix_km237 : ix_cm 237 = true := ix_cmo (n := 243) rfl (ix_rg (i := 204) 39 (ix_rg (i := 0) 204 ix_r0 ix_kp237_0) ix_kp237_204)
theorem ix_kc238 : ((List.range 4).all fun j => ix_cm (238 + j)) = true := by decide +kernel
theorem ix_kp242_0 : ((List.range 206).all fun j => ix_ch 242 (0 + j)) = true := by decide +kernel
theorem ix_kp242_206 : ((List.range 49).all fun j => ix_ch 242 (206 + j)) = true := by decide +kernel
theorem ix_km242 : ix_cm 242 = true := ix_cmo (n := 255) rfl (ix_rg (i := 206) 49 (ix_rg (i := 0) 206 ix_r0 ix_kp242_0) ix_kp242_206)
theorem ix_kc243 : ((List.range 1).all fun j => ix_cm (243 + j)) = true := by decide +kernel
theorem ix_kc244 : ((List.range 1).all fun j => ix_cm (244 + j)) = true := by decide +kernel
theorem ix_kc245 : ((List.range 3).all fun j => ix_cm (245 + j)) = true := by decide +kernel
theorem ix_kc248 : ((List.range 1).all fun j => ix_cm (248 + j)) = true := by decide +kernel
theorem ix_kc249 : ((List.range 1).all fun j => ix_cm (249 + j)) = true := by decide +kernel
theorem ix_kc250 : ((List.range 2).all fun j => ix_cm (250 + j)) = true := by decide +kernel
theorem ix_kc252 : ((List.range 2).all fun j => ix_cm (252 + j)) = true := by decide +kernel
theorem ix_kc254 : ((List.range 2).all fun j => ix_cm (254 + j)) = true := by decide +kernel
theorem ix_kc256 : ((List.range 2).all fun j => ix_cm (256 + j)) = true := by decide +kernel
theorem ix_kc258 : ((List.range 1).all fun j => ix_cm (258 + j)) = true := by decide +kernel
theorem ix_kp259_0 : ((List.range 215).all fun j => ix_ch 259 (0 + j)) = true := by decide +kernel
theorem ix_kp259_215 : ((List.range 29).all fun j => ix_ch 259 (215 + j)) = true := by decide +kernel
theorem ix_km259 : ix_cm 259 = true := ix_cmo (n := 244) rfl (ix_rg (i := 215) 29 (ix_rg (i := 0) 215 ix_r0 ix_kp259_0) ix_kp259_215)
theorem ix_kc260 : ((List.range 4).all fun j => ix_cm (260 + j)) = true := by decide +kernel
theorem ix_kp264_0 : ((List.range 221).all fun j => ix_ch 264 (0 + j)) = true := by decide +kernel
theorem ix_kp264_221 : ((List.range 95).all fun j => ix_ch 264 (221 + j)) = true := by decide +kernel
theorem ix_kp264_316 : ((List.range 56).all fun j => ix_ch 264 (316 + j)) = true := by decide +kernel
theorem ix_km264 : ix_cm 264 = true := ix_cmo (n := 372) rfl (ix_rg (i := 316) 56 (ix_rg (i := 221) 95 (ix_rg (i := 0) 221 ix_r0 ix_kp264_0) ix_kp264_221) ix_kp264_316)
theorem ix_kc265 : ((List.range 4).all fun j => ix_cm (265 + j)) = true := by decide +kernel
theorem ix_kp269_0 : ((List.range 214).all fun j => ix_ch 269 (0 + j)) = true := by decide +kernel
theorem ix_kp269_214 : ((List.range 1).all fun j => ix_ch 269 (214 + j)) = true := by decide +kernel
theorem ix_km269 : ix_cm 269 = true := ix_cmo (n := 215) rfl (ix_rg (i := 214) 1 (ix_rg (i := 0) 214 ix_r0 ix_kp269_0) ix_kp269_214)
theorem ix_kc270 : ((List.range 16).all fun j => ix_cm (270 + j)) = true := by decide +kernel
theorem ix_cms : ∀ mi, mi < 286 → ix_cm mi = true := (ix_rg (i := 270) 16 (ix_rm (i := 269) (ix_rg (i := 265) 4 (ix_rm (i := 264) (ix_rg (i := 260) 4 (ix_rm (i := 259) (ix_rg (i := 258) 1 (ix_rg (i := 256) 2 (ix_rg (i := 254) 2 (ix_rg (i := 252) 2 (ix_rg (i := 250) 2 (ix_rg (i := 249) 1 (ix_rg (i := 248) 1 (ix_rg (i := 245) 3 (ix_rg (i := 244) 1 (ix_rg (i := 243) 1 (ix_rm (i := 242) (ix_rg (i := 238) 4 (ix_rm (i := 237) (ix_rg (i := 236) 1 (ix_rm (i := 235) (ix_rg (i := 234) 1 (ix_rg (i := 231) 3 (ix_rg (i := 228) 3 (ix_rm (i := 227) (ix_rg (i := 222) 5 (ix_rm (i := 221) (ix_rg (i := 220) 1 (ix_rg (i := 217) 3 (ix_rg (i := 209) 8 (ix_rm (i := 208) (ix_rg (i := 201) 7 (ix_rm (i := 200) (ix_rg (i := 199) 1 (ix_rg (i := 196) 3 (ix_rg (i := 195) 1 (ix_rg (i := 192) 3 (ix_rm (i := 191) (ix_rg (i := 183) 8 (ix_rg (i := 182) 1 (ix_rg (i := 171) 11 (ix_rm (i := 170) (ix_rg (i := 165) 5 (ix_rg (i := 160) 5 (ix_rg (i := 152) 8 (ix_rg (i := 144) 8 (ix_rg (i := 142) 2 (ix_rg (i := 139) 3 (ix_rg (i := 135) 4 (ix_rm (i := 134) (ix_rg (i := 132) 2 (ix_rg (i := 131) 1 (ix_rg (i := 128) 3 (ix_rm (i := 127) (ix_rg (i := 126) 1 (ix_rg (i := 124) 2 (ix_rg (i := 120) 4 (ix_rg (i := 119) 1 (ix_rg (i := 114) 5 (ix_rg (i := 113) 1 (ix_rg (i := 111) 2 (ix_rg (i := 108) 3 (ix_rg (i := 104) 4 (ix_rg (i := 103) 1 (ix_rg (i := 93) 10 (ix_rg (i := 89) 4 (ix_rg (i := 75) 14 (ix_rg (i := 74) 1 (ix_rg (i := 72) 2 (ix_rg (i := 63) 9 (ix_rg (i := 56) 7 (ix_rg (i := 38) 18 (ix_rg (i := 23) 15 (ix_rg (i := 1) 22 (ix_rm (i := 0) ix_r0 ix_km0) ix_kc1) ix_kc23) ix_kc38) ix_kc56) ix_kc63) ix_kc72) ix_kc74) ix_kc75) ix_kc89) ix_kc93) ix_kc103) ix_kc104) ix_kc108) ix_kc111) ix_kc113) ix_kc114) ix_kc119) ix_kc120) ix_kc124) ix_kc126) ix_km127) ix_kc128) ix_kc131) ix_kc132) ix_km134) ix_kc135) ix_kc139) ix_kc142) ix_kc144) ix_kc152) ix_kc160) ix_kc165) ix_km170) ix_kc171) ix_kc182) ix_kc183) ix_km191) ix_kc192) ix_kc195) ix_kc196) ix_kc199) ix_km200) ix_kc201) ix_km208) ix_kc209) ix_kc217) ix_kc220) ix_km221) ix_kc222) ix_km227) ix_kc228) ix_kc231) ix_kc234) ix_km235) ix_kc236) ix_km237) ix_kc238) ix_km242) ix_kc243) ix_kc244) ix_kc245) ix_kc248) ix_kc249) ix_kc250) ix_kc252) ix_kc254) ix_kc256) ix_kc258) ix_km259) ix_kc260) ix_km264) ix_kc265) ix_km269) ix_kc270)
theorem ix_ins_ok {mi pc : Nat} {i : Instr} (h : ix_ins mi pc = some i) : ∃ len, decode (ix_by mi) pc = .ok (i, len) ∧ (ix_ln i = 0 ∨ len = ix_ln i) := by
  unfold ix_ins at h
  cases hb : (Nat.blt mi ix_NM && Nat.blt pc (ix_sz mi)) with
  | false => rw [hb] at h; cases h
  | true =>
    rw [hb] at h
    simp only [Bool.and_eq_true] at hb
    have h1 : mi < ix_NM := Nat.le_of_ble_eq_true hb.1
    have h2 : pc < ix_sz mi := Nat.le_of_ble_eq_true hb.2
    have h3 := List.all_eq_true.mp (ix_cms mi h1) pc (List.mem_range.mpr h2)
    have hf : ix_f mi pc = some i := h
    unfold ix_ch at h3
    rw [hf] at h3
    simp only at h3
    cases hd : decode (ix_by mi) pc with
    | error z => rw [hd] at h3; cases h3
    | ok z =>
      obtain ⟨j, len⟩ := z
      rw [hd] at h3
      simp only [Bool.and_eq_true, decide_eq_true_eq, Bool.or_eq_true] at h3
      obtain ⟨rfl, h4⟩ := h3
      refine ⟨len, rfl, ?_⟩
      rcases h4 with z | z
      · exact Or.inl (Nat.eq_of_beq_eq_true z)
      · exact Or.inr (Nat.eq_of_beq_eq_true z)
