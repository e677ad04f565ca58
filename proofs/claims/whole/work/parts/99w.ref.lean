/-! ===== the reference: round ===== -/
noncomputable def rIn2 (fm dir : Nat) (ng mo : Bool) (ex : Int) (c : Nat) : Nat × Int × Nat × Nat :=
  if gE fm < rQ fm ex c then rOvf fm dir ng else
  if fD fm < dgs (cutV c (rQ fm ex c - ex) mo dir ng) then
    (if gE fm < rQ fm ex c + 1 then rOvf fm dir ng else (0, rQ fm ex c + 1, 10 ^ (fD fm - 1), if ex + dgs c ≤ 1 - fE fm then 24 else 16))
  else (0, rQ fm ex c, cutV c (rQ fm ex c - ex) mo dir ng, if ex + dgs c ≤ 1 - fE fm then 24 else 16)
/-- the exponents between which an exact number may lie -/
noncomputable def rTo (fm : Nat) (ex : Int) (c : Nat) : Int := min (gE fm) (ex + tz c)
noncomputable def rEx (fm : Nat) (ex wi : Int) (c : Nat) : Int := if wi < rQ fm ex c then rQ fm ex c else if rTo fm ex c < wi then rTo fm ex c else wi
noncomputable def rRn2 (fm dir : Nat) (ng mo : Bool) (ex wi : Int) (c : Nat) : Nat × Int × Nat × Nat :=
  if c = 0 ∧ mo = false then (0, if wi < -(fB fm : Int) then -(fB fm : Int) else if gE fm < wi then gE fm else wi, 0, 0) else
  if mo = false ∧ rQ fm ex c ≤ rTo fm ex c then (0, rEx fm ex wi c, c * 10 ^ (ex - rEx fm ex wi c).toNat / 10 ^ (rEx fm ex wi c - ex).toNat, 0) else
  rIn2 fm dir ng mo ex c
theorem gUp_e {m : Nat} (hm : m < 5) (sg od : Bool) (d : Nat) (bh : Bool) : gUp m sg od d bh = ((decide (d ≠ 0) || bh) && grw m d bh od sg) := by
  have hc : m = 0 ∨ m = 1 ∨ m = 2 ∨ m = 3 ∨ m = 4 := by omega
  unfold gUp grw
  by_cases h5 : d = 0
  · subst h5
    rcases hc with rfl | rfl | rfl | rfl | rfl <;> cases sg <;> cases bh <;> simp
  · have : 0 < d := by omega
    rcases hc with rfl | rfl | rfl | rfl | rfl <;> cases sg <;> simp [h5, this]
theorem cutV_u {u dr V : Nat} {mo ng : Bool} (hu : 1 ≤ u) (hd : dr < 5) : cutV V (u : Int) mo dr ng = V / 10 ^ u + (gUp dr ng (decide (V / 10 ^ u % 10 % 2 = 1)) (V / 10 ^ (u - 1) % 10) (mo || decide (¬ V % 10 ^ (u - 1) = 0))).toNat := by
  unfold cutV cutI dAt
  rw [gUp_e hd, if_neg (by omega), Int.toNat_natCast, show ((u : Int) - 1).toNat = u - 1 by omega, show V / 10 ^ u % 10 % 2 = V / 10 ^ u % 2 from Nat.mod_mod_of_dvd _ (by decide)]
theorem rOvf_20 (f dr : Nat) (ng : Bool) : (rOvf f dr ng).2.2.2 = 20 := by
  unfold rOvf
  cases ng <;> simp only [Bool.false_eq_true, if_false, if_true] <;> split <;> rfl
theorem dgs_pr {V f u : Nat} (h : dgs V ≤ u + f) : V / 10 ^ u < 10 ^ f := by
  refine (Nat.div_lt_iff_lt_mul (pp0 u)).mpr ?_
  rw [← Nat.pow_add]
  exact Nat.lt_of_lt_of_le (dgs_l V) (pl (by omega))
section REF
variable {h : ix_H} {Q : ix_O → ix_H → Prop} {S0 : Nat → AC} {R : Nat → Dm} {V cd dr ra si tr : Nat} {mo ng : Bool} {sp sz wr : Nat} {il : Bool} {rs pt rl wo tx ou : Nat → Nat} {j x : Int} {r f s m : Nat} {b : Bool}
theorem m_round {f0 wi : Int} {zs : Bool} (K : (RI S0 h R V cd dr ra si tr mo ng sp sz wr il rs pt rl wo tx ou)) (hf0 : f0 = (f : Int)) (hf : f < 3) (hdr : dr < 5) (hwi : -30000 ≤ wi ∧ wi ≤ 30000) (hz : V = 0 → mo = false) (q : ∀ h', (RI S0 h' (va_up R 8 (f, (rRn2 f dr ng mo (-12500) wi V).1, (if V = 0 then zs else ng), (rRn2 f dr ng mo (-12500) wi V).2.1, (rRn2 f dr ng mo (-12500) wi V).2.2.1)) V cd dr ra (si ||| (rRn2 f dr ng mo (-12500) wi V).2.2.2) tr mo ng sp sz wr il rs pt rl wo tx ou) → Q (.inl none) h') : ix_M 208 [.ref 98, .int (zI f0), .int (zI wi), .int (bI zs)] h Q := by
  have fb := f3b hf
  have gb := gEb hf
  have gd : gE f = (fE f : Int) - fD f + 1 := rfl
  -- inexact
  have t162 : ∀ (h1 : ix_H) (e : Int) (to : Int) (u : Nat), ¬ V = 0 → dgs V ≤ 25400 → (mo = false ∧ rQ f (-12500) V ≤ rTo f (-12500) V → False) → (u : Int) = 12500 + rQ f (-12500) V → (RI S0 h1 (va_up R 8 (f, 0, ng, e, 0)) V cd dr ra si tr mo ng sp sz wr il rs pt rl wo tx ou) → ix_E 208 162 [some (.ref 98), some (.int (zI f0)), some (.int (zI wi)), some (.int (bI zs)), some (.int (zI (fD f))), some (.int (zI (-(fB f : Int)))), some (.int (zI (gE f))), some (.int (zI ((dgs V : Int) - 1 - 12500))), some (.int (zI 0)), some (.int (zI (rQ f (-12500) V))), some (.int (zI to)), none, none, none] [] h1 Q := by
    intro h e to u hV hd hin hu K
    have hA : rRn2 f dr ng mo (-12500) wi V = rIn2 f dr ng mo (-12500) V := by
      unfold rRn2
      rw [if_neg (fun z => hV z.1), if_neg hin]
    rw [hA, if_neg hV] at q
    have hq : rQ f (-12500) V = max ((-12500 : Int) + dgs V - fD f) (-(fB f : Int)) := rfl
    have hcv := cutV_u (u := u) (V := V) (mo := mo) (ng := ng) (by omega) hdr
    unfold rIn2 at q
    generalize hqq : rQ f (-12500) V = qq at *
    rw [show qq - -12500 = (u : Int) by omega] at q
    generalize hup : gUp dr ng (decide (V / 10 ^ u % 10 % 2 = 1)) (V / 10 ^ (u - 1) % 10) (mo || decide (¬ V % 10 ^ (u - 1) = 0)) = up at *
    generalize hv : cutV V (u : Int) mo dr ng = v at *
    have hC := dgs_pr (V := V) (f := fD f) (u := u) (by omega)
    have hC34 : (10 : Nat) ^ fD f ≤ 10 ^ 34 := pl (by omega)
    have hup1 : up.toNat ≤ 1 := by cases up <;> decide
    have hsu : ∀ (h1 : ix_H) (sg : Nat), sg = (if -12500 + (dgs V : Int) ≤ 1 - fE f then 24 else 16) → (RI S0 h1 (va_up R 8 (f, 0, ng, e, 0)) V cd dr ra (si ||| sg) tr mo ng sp sz wr il rs pt rl wo tx ou) → ix_E 208 200 [some (.ref 98), some (.int (zI f0)), some (.int (zI wi)), some (.int (bI zs)), some (.int (zI (fD f))), some (.int (zI (-(fB f : Int)))), some (.int (zI (gE f))), some (.int (zI ((dgs V : Int) - 1 - 12500))), some (.int (zI 0)), some (.int (zI qq)), some (.int (zI to)), none, none, none] [] h1 Q := by
      intro h sg hsg K
      rw [← hsg] at q
      have t338 : ∀ (h1 : ix_H) (E : Int) (c : Nat), -12500 ≤ E → E ≤ 30000 → (RI S0 h1 (va_up R 8 (f, 0, ng, E, c)) V cd dr ra (si ||| sg) tr mo ng sp sz wr il rs pt rl wo tx ou) → (¬ gE f < E → ∀ h', (RI S0 h' (va_up R 8 (f, 0, ng, E, c)) V cd dr ra (si ||| sg) tr mo ng sp sz wr il rs pt rl wo tx ou) → Q (.inl none) h') → (gE f < E → ∀ h', (RI S0 h' (va_up R 8 (f, (rOvf f dr ng).1, ng, (rOvf f dr ng).2.1, (rOvf f dr ng).2.2.1)) V cd dr ra (si ||| sg ||| 20) tr mo ng sp sz wr il rs pt rl wo tx ou) → Q (.inl none) h') → ∀ l12 l13, ix_E 208 338 [some (.ref 98), some (.int (zI f0)), some (.int (zI wi)), some (.int (bI zs)), some (.int (zI (fD f))), some (.int (zI (-(fB f : Int)))), some (.int (zI (gE f))), some (.int (zI ((dgs V : Int) - 1 - 12500))), some (.int (zI 0)), some (.int (zI qq)), some (.int (zI to)), some (.int (zI qq)), l12, l13] [] h1 Q := by
        intro h E c hE1 hE2 K k1 k2 l12 l13
        refine jx (pc' := 339) (L' := [_, _, _, _, _, _, _, _, _, _, _, _, _, _]) (st' := [_]) 1 rfl ?_
        refine jgf (pc' := 342) K.ob rfl rfl rfl rfl rfl ?_
        refine jx (pc' := 344) (L' := [_, _, _, _, _, _, _, _, _, _, _, _, _, _]) (st' := [.int (zI 8), _]) 1 rfl ?_
        refine jR_p (pc' := 345) 8 K rfl rfl (by omega) (by omega)  rfl ?_
        simp only [va_up_self]
        refine jx (pc' := 347) (L' := [_, _, _, _, _, _, _, _, _, _, _, _, _, _]) (st' := [_, _]) 1 rfl ?_
        by_cases hg : gE f < E
        · skip
          refine jcn (pc' := 350) 355 rfl rfl rfl rfl (by rw [zc_le ⟨by omega, by omega⟩ ⟨by omega, by omega⟩]; exact decide_eq_false (by omega)) ?_
          refine jx (pc' := 352) (L' := [_, _, _, _, _, _, _, _, _, _, _, _, _, _]) (st' := [_, _]) 2 rfl ?_
          refine jcv (pc' := 355) 217 [_] [] K.ob rfl rfl rfl rfl rfl rfl rfl rfl ?_
          refine m_overflow K hf0 hf hdr fun h K => jk ?_
          rw [va_up_up] at K
          refine ix_qr _ rfl rfl rfl ?_
          exact k2 hg _ K
        · skip
          refine jct (pc' := 355) rfl rfl rfl (by rw [zc_le ⟨by omega, by omega⟩ ⟨by omega, by omega⟩]; exact decide_eq_true (by omega)) ?_
          refine ix_qr _ rfl rfl rfl ?_
          exact k1 hg _ K
      have hov : gE f < qq + 1 → si ||| sg ||| 20 = si ||| 20 := fun z => by
        rw [if_neg (by omega)] at hsg
        rw [hsg, Nat.or_assoc]
        rfl
      have t248 : ∀ od : Bool, od = decide (V / 10 ^ u % 10 % 2 = 1) → ix_E 208 248 [some (.ref 98), some (.int (zI f0)), some (.int (zI wi)), some (.int (bI zs)), some (.int (zI (fD f))), some (.int (zI (-(fB f : Int)))), some (.int (zI (gE f))), some (.int (zI ((dgs V : Int) - 1 - 12500))), some (.int (zI 0)), some (.int (zI qq)), some (.int (zI to)), some (.int (zI qq)), some (.int (zI (12500 + qq))), none] [.int (bI od), .int (bI ng), .int (zI (dr : Int))] h Q := by
        intro od hod
        refine jx (pc' := 249) (L' := [_, _, _, _, _, _, _, _, _, _, _, _, _, _]) (st' := [_, _, _, _]) 1 rfl ?_
        refine jgf (pc' := 252) K.ob rfl rfl rfl rfl rfl ?_
        refine jx (pc' := 256) (L' := [_, _, _, _, _, _, _, _, _, _, _, _, _, _]) (st' := [_, _, _, _, _]) 3 rfl ?_
        try simp (disch := omega) only [kz, kzl0, kzl1, kzb, kzs, zI_add, zI_sub, zI_neg, zI_mul, zL_i, zI_l, zL_add, zL_sub, zL_neg]
        refine jR_r (pc' := 257) ((u-1)) K rfl rfl (by omega) (by omega)  rfl ?_
        refine jx (pc' := 262) (L' := [_, _, _, _, _, _, _, _, _, _, _, _, _, _]) (st' := [_, _, _, _, _, _]) 4 rfl ?_
        try simp (disch := omega) only [kz, kzl0, kzl1, kzb, kzs, zI_add, zI_sub, zI_neg, zI_mul, zL_i, zI_l, zL_add, zL_sub, zL_neg]
        refine jcv (pc' := 265) 215 [_] [_, _, _, _] K.ob rfl rfl rfl rfl rfl rfl rfl rfl ?_
        refine m_behind (k := u - 1) K (by omega) (by omega) (jk ?_)
        refine jcs (pc' := 268) 216 [_, _, _, _, _] [] rfl rfl rfl rfl rfl rfl rfl rfl ?_
        have hb := dg_b V (u - 1)
        refine m_goesUp (m := dr) (d := V / 10 ^ (u - 1) % 10) rfl rfl hdr hb (jk ?_)
        rw [hod, hup]
        refine jx (pc' := 271) (L' := [_, _, _, _, _, _, _, _, _, _, _, _, _, _]) (st' := [_]) 2 rfl ?_
        refine jgf (pc' := 274) K.ob rfl rfl rfl rfl rfl ?_
        refine jx (pc' := 278) (L' := [_, _, _, _, _, _, _, _, _, _, _, _, _, _]) (st' := [_, .int (zI 8), _]) 2 rfl ?_
        refine jW_p (pc' := 279) 8 qq K (by first | rfl | (congr 1; omega)) rfl rfl (by omega) (by omega)  rfl ⟨by omega, by omega⟩ fun h K => ?_
        rw [va_up_self, va_up_up] at K
        refine jx (pc' := 284) (L' := [_, _, _, _, _, _, _, _, _, _, _, _, _, _]) (st' := [_, _, _]) 3 rfl ?_
        refine jcv (pc' := 287) 214 [_, _] [] K.ob rfl rfl rfl rfl rfl rfl rfl rfl ?_
        have hle : V / 10 ^ u % 10 ^ 40 = V / 10 ^ u := Nat.mod_eq_of_lt (Nat.lt_of_lt_of_le hC (pl (by omega)))
        refine m_take K u hu ⟨by omega, by omega⟩ (fun _ => by rw [hle]; omega) fun h K => jk ?_
        rw [va_up_self, va_up_up, hle, ← hcv] at K
        refine jx (pc' := 288) (L' := [_, _, _, _, _, _, _, _, _, _, _, _, _, _]) (st' := [_]) 1 rfl ?_
        refine jgf (pc' := 291) K.ob rfl rfl rfl rfl rfl ?_
        refine jx (pc' := 295) (L' := [_, _, _, _, _, _, _, _, _, _, _, _, _, _]) (st' := [_, .int (zI 8), _]) 2 rfl ?_
        refine jW_p (pc' := 296) 8 qq K (by first | rfl | (congr 1; omega)) rfl rfl (by omega) (by omega)  rfl ⟨by omega, by omega⟩ fun h K => ?_
        rw [va_up_self, va_up_up] at K
        refine jx (pc' := 299) (L' := [_, _, _, _, _, _, _, _, _, _, _, _, _, _]) (st' := [.int (zI 8), _]) 2 rfl ?_
        refine jcv (pc' := 302) 178 [.int (zI 8)] [] K.ob rfl rfl rfl rfl rfl rfl rfl rfl ?_
        refine m_many (r := 8) K rfl (by decide) fun hm => jk ?_
        rw [va_up_self] at hm ⊢
        have hm' : dgs v ≤ 40 := hm
        show ix_E 208 302 _ [.int (zI ((dgs v : Nat) : Int))] h Q
        refine jx (pc' := 304) (L' := [_, _, _, _, _, _, _, _, _, _, _, _, _, _]) (st' := [_, _]) 1 rfl ?_
        by_cases hp : fD f < dgs v
        · rw [if_pos hp] at q
          refine jcn (pc' := 307) 338 rfl rfl rfl rfl (by rw [zc_le ⟨by omega, by omega⟩ ⟨by omega, by omega⟩]; exact decide_eq_false (by omega)) ?_
          refine jx (pc' := 310) (L' := [_, _, _, _, _, _, _, _, _, _, _, _, _, _]) (st' := [.int (zI 8), _]) 2 rfl ?_
          refine jcv (pc' := 313) 175 [.int (zI 8)] [] K.ob rfl rfl rfl rfl rfl rfl rfl rfl ?_
          refine m_clear (r := 8) K rfl (by decide) fun h K => jk ?_
          refine jx (pc' := 314) (L' := [_, _, _, _, _, _, _, _, _, _, _, _, _, _]) (st' := [_]) 1 rfl ?_
          refine jgf (pc' := 317) K.ob rfl rfl rfl rfl rfl ?_
          refine jx (pc' := 326) (L' := [_, _, _, _, _, _, _, _, _, _, _, _, _, _]) (st' := [.int (zI 1), _, _]) 6 rfl ?_
          try simp (disch := omega) only [kz, kzl0, kzl1, kzb, kzs, zI_add, zI_sub, zI_neg, zI_mul, zL_i, zI_l, zL_add, zL_sub, zL_neg]
          refine jW_d (pc' := 327) 8 ((fD f - 1)) 1 K (by first | rfl | (congr 1; omega)) rfl rfl (by omega) (by omega) (by omega)  rfl (by omega) fun h K => ?_
          refine jx (pc' := 328) (L' := [_, _, _, _, _, _, _, _, _, _, _, _, _, _]) (st' := [_]) 1 rfl ?_
          refine jgf (pc' := 331) K.ob rfl rfl rfl rfl rfl ?_
          refine jx (pc' := 337) (L' := [_, _, _, _, _, _, _, _, _, _, _, _, _, _]) (st' := [_, .int (zI 8), _]) 4 rfl ?_
          try simp (disch := omega) only [kz, kzl0, kzl1, kzb, kzs, zI_add, zI_sub, zI_neg, zI_mul, zL_i, zI_l, zL_add, zL_sub, zL_neg]
          refine jW_p (pc' := 338) 8 ((qq+1)) K (by first | rfl | (congr 1; omega)) rfl rfl (by omega) (by omega)  rfl ⟨by omega, by omega⟩ fun h K => ?_
          have e1 : sd 0 (fD f - 1) 1 = 10 ^ (fD f - 1) := by unfold sd; simp
          simp only [va_up_self, va_up_up, e1] at K
          refine t338 _ (qq + 1) _ (by omega) (by omega) K (fun hg h K => ?_) (fun hg h K => ?_) _ _
          · rw [if_neg (by omega), if_neg hg] at q
            exact q _ K
          · rw [if_pos hg] at q
            rw [hov hg] at K
            by_cases hg2 : gE f < qq
            · rw [if_pos hg2] at q
              have e20 := rOvf_20 f dr ng
              rw [e20] at q
              exact q _ K
            · rw [if_neg hg2] at q
              have e20 := rOvf_20 f dr ng
              rw [e20] at q
              exact q _ K
        · rw [if_neg hp] at q
          refine jct (pc' := 338) rfl rfl rfl (by rw [zc_le ⟨by omega, by omega⟩ ⟨by omega, by omega⟩]; exact decide_eq_true (by omega)) ?_
          refine t338 _ qq v (by omega) (by omega) K (fun hg h K => ?_) (fun hg h K => ?_) _ _
          · rw [if_neg hg] at q
            exact q _ K
          · rw [if_pos hg] at q
            rw [hov (by omega)] at K
            have e20 := rOvf_20 f dr ng
            rw [e20] at q
            exact q _ K
      have hb0 := dg_b V u
      refine jx (pc' := 202) (L' := [_, _, _, _, _, _, _, _, _, _, _, _, _, _]) (st' := [_]) 1 rfl ?_
      refine jit (pc' := 210) rfl rfl rfl (by rfl) ?_
      refine jx (pc' := 223) (L' := [_, _, _, _, _, _, _, _, _, _, _, _, _, _]) (st' := [_]) 7 rfl ?_
      try simp (disch := omega) only [kz, kzl0, kzl1, kzb, kzs, zI_add, zI_sub, zI_neg, zI_mul, zL_i, zI_l, zL_add, zL_sub, zL_neg]
      refine jgf (pc' := 226) K.ob rfl rfl rfl rfl rfl ?_
      refine jx (pc' := 227) (L' := [_, _, _, _, _, _, _, _, _, _, _, _, _, _]) (st' := [_, _]) 1 rfl ?_
      refine jgf (pc' := 230) K.ob rfl rfl rfl rfl rfl ?_
      refine jx (pc' := 231) (L' := [_, _, _, _, _, _, _, _, _, _, _, _, _, _]) (st' := [_, _, _]) 1 rfl ?_
      refine jgf (pc' := 234) K.ob rfl rfl rfl rfl rfl ?_
      refine jx (pc' := 236) (L' := [_, _, _, _, _, _, _, _, _, _, _, _, _, _]) (st' := [_, _, _, _]) 1 rfl ?_
      refine jR_r (pc' := 237) u K rfl rfl (by omega) (by omega)  rfl ?_
      refine jx (pc' := 238) (L' := [_, _, _, _, _, _, _, _, _, _, _, _, _, _]) (st' := [.int (zI 2), _, _, _]) 1 rfl ?_
      refine jirem (pc' := 239) rfl rfl (by decide) rfl ?_
      rw [zrem ⟨by omega, by omega⟩ ⟨by omega, by omega⟩]
      refine jx (pc' := 240) (L' := [_, _, _, _, _, _, _, _, _, _, _, _, _, _]) (st' := [.int (zI 1), _, _, _]) 1 rfl ?_
      by_cases ho : V / 10 ^ u % 10 % 2 = 1
      · skip
        refine jcn (pc' := 243) 247 rfl rfl rfl rfl (by rw [zc_ne ⟨by omega, by omega⟩ ⟨by omega, by omega⟩]; exact decide_eq_false (by omega)) ?_
        refine jx (pc' := 248) (L' := [_, _, _, _, _, _, _, _, _, _, _, _, _, _]) (st' := [.int (zI 1), _, _]) 2 rfl ?_
        exact t248 true (by rw [decide_eq_true ho])
      · skip
        refine jct (pc' := 247) rfl rfl rfl (by rw [zc_ne ⟨by omega, by omega⟩ ⟨by omega, by omega⟩]; exact decide_eq_true (by omega)) ?_
        refine jx (pc' := 248) (L' := [_, _, _, _, _, _, _, _, _, _, _, _, _, _]) (st' := [.int (zI 0), _, _]) 1 rfl ?_
        exact t248 false (by rw [decide_eq_false ho])
    refine jx (pc' := 164) (L' := [_, _, _, _, _, _, _, _, _, _, _, _, _, _]) (st' := [_, _]) 2 rfl ?_
    refine jgf (pc' := 167) K.ob rfl rfl rfl rfl rfl ?_
    refine jx (pc' := 170) (L' := [_, _, _, _, _, _, _, _, _, _, _, _, _, _]) (st' := [_, _]) 2 rfl ?_
    try simp (disch := omega) only [kz, kzl0, kzl1, kzb, kzs, zI_add, zI_sub, zI_neg, zI_mul, zL_i, zI_l, zL_add, zL_sub, zL_neg]
    refine jp_si (pc' := 173) ((si ||| 16)) K (zor si 16) rfl rfl rfl rfl fun h K => ?_
    refine jx (pc' := 175) (L' := [_, _, _, _, _, _, _, _, _, _, _, _, _, _]) (st' := [_]) 1 rfl ?_
    refine jin (pc' := 178) 189 rfl rfl rfl rfl (by rfl) ?_
    refine jx (pc' := 182) (L' := [_, _, _, _, _, _, _, _, _, _, _, _, _, _]) (st' := [_, .int (zI 1), _]) 3 rfl ?_
    refine jcs (pc' := 185) 210 [_] [.int (zI 1), _] rfl rfl rfl rfl rfl rfl rfl rfl ?_
    refine m_mostOf hf0 hf (jk ?_)
    refine jx (pc' := 186) (L' := [_, _, _, _, _, _, _, _, _, _, _, _, _, _]) (st' := [_, _]) 1 rfl ?_
    try simp (disch := omega) only [kz, kzl0, kzl1, kzb, kzs, zI_add, zI_sub, zI_neg, zI_mul, zL_i, zI_l, zL_add, zL_sub, zL_neg]
    by_cases hun : -12500 + (dgs V : Int) ≤ 1 - fE f
    · skip
      refine jcn (pc' := 189) 200 rfl rfl rfl rfl (by rw [zc_ge ⟨by omega, by omega⟩ ⟨by omega, by omega⟩]; exact decide_eq_false (by omega)) ?_
      refine jx (pc' := 191) (L' := [_, _, _, _, _, _, _, _, _, _, _, _, _, _]) (st' := [_, _]) 2 rfl ?_
      refine jgf (pc' := 194) K.ob rfl rfl rfl rfl rfl ?_
      refine jx (pc' := 197) (L' := [_, _, _, _, _, _, _, _, _, _, _, _, _, _]) (st' := [_, _]) 2 rfl ?_
      try simp (disch := omega) only [kz, kzl0, kzl1, kzb, kzs, zI_add, zI_sub, zI_neg, zI_mul, zL_i, zI_l, zL_add, zL_sub, zL_neg]
      refine jp_si (pc' := 200) ((si ||| 16 ||| 8)) K (zor (si ||| 16) 8) rfl rfl rfl rfl fun h K => ?_
      refine hsu _ 24 (by rw [if_pos hun]) ?_
      rw [Nat.or_assoc] at K
      exact K
    · skip
      refine jct (pc' := 200) rfl rfl rfl (by rw [zc_ge ⟨by omega, by omega⟩ ⟨by omega, by omega⟩]; exact decide_eq_true (by omega)) ?_
      exact hsu _ 16 (by rw [if_neg hun]) K
  -- there is something
  have t42 : ∀ b : Bool, ¬ V = 0 → dgs V ≤ 25400 → b = false → ix_E 208 42 [some (.ref 98), some (.int (zI f0)), some (.int (zI wi)), some (.int (bI zs)), some (.int (zI (fD f))), some (.int (zI (-(fB f : Int)))), some (.int (zI (gE f))), some (.int (zI ((dgs V : Int) - 1 - 12500))), none, none, none, none, none, none] [.int (bI b)] h Q := by
    intro b hV hd hb
    have hd1 := (dgs_p (Nat.pos_of_ne_zero hV)).1
    subst hb
    have hq : rQ f (-12500) V = max ((-12500 : Int) + dgs V - fD f) (-(fB f : Int)) := rfl
    refine jx (pc' := 49) (L' := [_, _, _, _, _, _, _, _, _, _, _, _, _, _]) (st' := [_, .int (zI 0), _, _]) 5 rfl ?_
    refine jit (pc' := 63) rfl rfl rfl (by rfl) ?_
    refine jx (pc' := 64) (L' := [_, _, _, _, _, _, _, _, _, _, _, _, _, _]) (st' := [_, .int (zI 0), _, _]) 1 rfl ?_
    refine jgf (pc' := 67) K.ob rfl rfl rfl rfl rfl ?_
    refine jx (pc' := 72) (L' := [_, _, _, _, _, _, _, _, _, _, _, _, _, _]) (st' := [_, _, _, _, .int (zI 0), _, _]) 3 rfl ?_
    refine jcs (pc' := 75) 212 [_, _, _] [_, .int (zI 0), _, _] rfl rfl rfl rfl rfl rfl rfl rfl ?_
    refine m_within ⟨by omega, by omega⟩ ⟨by omega, by omega⟩ ⟨by omega, by omega⟩ (jk ?_)
    generalize hww : (if wi < -(fB f : Int) then -(fB f : Int) else if gE f < wi then gE f else wi) = ww
    have hwb : -30000 ≤ ww ∧ ww ≤ 30000 := by rw [← hww]; split <;> (try split) <;> omega
    refine jcv (pc' := 78) 202 [_, .int (zI 0), _, _] [] K.ob rfl rfl rfl rfl rfl rfl rfl rfl ?_
    refine m_become (s := 0) (b := ng) K hf0 rfl hf (by decide) hwb fun h K => jk ?_
    refine jx (pc' := 80) (L' := [_, _, _, _, _, _, _, _, _, _, _, _, _, _]) (st' := [_]) 1 rfl ?_
    refine jit (pc' := 91) rfl rfl rfl (by rfl) ?_
    refine jx (pc' := 100) (L' := [_, _, _, _, _, _, _, _, _, _, _, _, _, _]) (st' := [_, _]) 6 rfl ?_
    try simp (disch := omega) only [kz, kzl0, kzl1, kzb, kzs, zI_add, zI_sub, zI_neg, zI_mul, zL_i, zI_l, zL_add, zL_sub, zL_neg]
    refine jcs (pc' := 103) 273 [_, _] [] rfl rfl rfl rfl rfl rfl rfl rfl ?_
    refine c_maxI ⟨by omega, by omega⟩ ⟨by omega, by omega⟩ (jk ?_)
    rw [show max (-(fB f : Int)) ((dgs V : Int) - 1 - 12500 - fD f + 1) = rQ f (-12500) V by rw [hq]; omega]
    refine jx (pc' := 108) (L' := [_, _, _, _, _, _, _, _, _, _, _, _, _, _]) (st' := [_, _]) 3 rfl ?_
    refine jcv (pc' := 111) 213 [] [_] K.ob rfl rfl rfl rfl rfl rfl rfl rfl ?_
    refine m_last K fun ht => jk ?_
    rw [if_neg hV]
    refine jx (pc' := 115) (L' := [_, _, _, _, _, _, _, _, _, _, _, _, _, _]) (st' := [_, _]) 2 rfl ?_
    try simp (disch := omega) only [kz, kzl0, kzl1, kzb, kzs, zI_add, zI_sub, zI_neg, zI_mul, zL_i, zI_l, zL_add, zL_sub, zL_neg]
    refine jcs (pc' := 118) 274 [_, _] [] rfl rfl rfl rfl rfl rfl rfl rfl ?_
    refine c_minI ⟨by omega, by omega⟩ ⟨by omega, by omega⟩ (jk ?_)
    have hto : rTo f (-12500) V = min (gE f) ((tz V : Int) - 12500) := by unfold rTo; omega
    rw [← hto]
    refine jx (pc' := 121) (L' := [_, _, _, _, _, _, _, _, _, _, _, _, _, _]) (st' := [_]) 2 rfl ?_
    refine jgf (pc' := 124) K.ob rfl rfl rfl rfl rfl ?_
    have hu : ((12500 + rQ f (-12500) V).toNat : Int) = 12500 + rQ f (-12500) V := by omega
    cases hmo : mo
    · rw [hmo] at t162 q K
      refine jin (pc' := 127) 162 rfl rfl rfl rfl (by rfl) ?_
      refine jx (pc' := 131) (L' := [_, _, _, _, _, _, _, _, _, _, _, _, _, _]) (st' := [_, _]) 2 rfl ?_
      by_cases hex : rQ f (-12500) V ≤ rTo f (-12500) V
      · have hA : rRn2 f dr ng false (-12500) wi V = (0, rEx f (-12500) wi V, V * 10 ^ (-12500 - rEx f (-12500) wi V).toNat / 10 ^ (rEx f (-12500) wi V - -12500).toNat, 0) := by
          unfold rRn2
          rw [if_neg (fun z => hV z.1), if_pos ⟨rfl, hex⟩]
        rw [hA, if_neg hV] at q
        simp only [Nat.or_zero] at q
        have hE : (if wi < rQ f (-12500) V then rQ f (-12500) V else if rTo f (-12500) V < wi then rTo f (-12500) V else wi) = rEx f (-12500) wi V := rfl
        have hEb : rQ f (-12500) V ≤ rEx f (-12500) wi V ∧ rEx f (-12500) wi V ≤ rTo f (-12500) V := by rw [← hE]; split <;> (try split) <;> omega
        refine jcn (pc' := 134) 162 rfl rfl rfl rfl (by rw [zc_gt ⟨by omega, by omega⟩ ⟨by omega, by omega⟩]; exact decide_eq_false (by omega)) ?_
        refine jx (pc' := 135) (L' := [_, _, _, _, _, _, _, _, _, _, _, _, _, _]) (st' := [_]) 1 rfl ?_
        refine jgf (pc' := 138) K.ob rfl rfl rfl rfl rfl ?_
        refine jx (pc' := 145) (L' := [_, _, _, _, _, _, _, _, _, _, _, _, _, _]) (st' := [_, _, _, .int (zI 8), _]) 4 rfl ?_
        refine jcs (pc' := 148) 212 [_, _, _] [.int (zI 8), _] rfl rfl rfl rfl rfl rfl rfl rfl ?_
        refine m_within ⟨by omega, by omega⟩ ⟨by omega, by omega⟩ ⟨by omega, by omega⟩ (jk ?_)
        rw [hE]
        generalize rEx f (-12500) wi V = E at *
        refine jW_p (pc' := 149) 8 E K (by first | rfl | (congr 1; omega)) rfl rfl (by omega) (by omega)  rfl ⟨by omega, by omega⟩ fun h K => ?_
        rw [va_up_self, va_up_up] at K
        refine jx (pc' := 151) (L' := [_, _, _, _, _, _, _, _, _, _, _, _, _, _]) (st' := [_, _]) 2 rfl ?_
        refine jgf (pc' := 154) K.ob rfl rfl rfl rfl rfl ?_
        refine jx (pc' := 156) (L' := [_, _, _, _, _, _, _, _, _, _, _, _, _, _]) (st' := [.int (zI 8), _, _]) 1 rfl ?_
        refine jR_p (pc' := 157) 8 K rfl rfl (by omega) (by omega)  rfl ?_
        simp only [va_up_self]
        refine jx (pc' := 158) (L' := [_, _, _, _, _, _, _, _, _, _, _, _, _, _]) (st' := [.int (zI 0), _, _]) 1 rfl ?_
        refine jcv (pc' := 161) 214 [_, .int (zI 0)] [] K.ob rfl rfl rfl rfl rfl rfl rfl rfl ?_
        refine m_take (q0 := E) (b := false) K (12500 + E).toNat (by omega) ⟨by omega, by omega⟩ (fun z => nomatch z) fun h K => jk ?_
        rw [va_up_self, va_up_up] at K
        refine ix_qr _ rfl rfl rfl ?_
        have hC := dgs_pr (V := V) (f := fD f) (u := (12500 + E).toNat) (by omega)
        have e1 : V / 10 ^ (12500 + E).toNat % 10 ^ 40 + false.toNat = V * 10 ^ (-12500 - E).toNat / 10 ^ (E - -12500).toNat := by
          rw [Nat.mod_eq_of_lt (Nat.lt_of_lt_of_le hC (pl (by omega))), show (-12500 - E).toNat = 0 by omega, show (E - -12500).toNat = (12500 + E).toNat by omega, Nat.pow_zero, Nat.mul_one]
          rfl
        rw [e1] at K
        exact q _ K
      · skip
        refine jct (pc' := 162) rfl rfl rfl (by rw [zc_gt ⟨by omega, by omega⟩ ⟨by omega, by omega⟩]; exact decide_eq_true (by omega)) ?_
        exact t162 _ _ _ _ hV hd (fun z => hex z.2) hu K
    · rw [hmo] at t162 q K
      refine jit (pc' := 162) rfl rfl rfl (by rfl) ?_
      exact t162 _ _ _ _ hV hd (fun z => nomatch z.1) hu K
  refine jx (pc' := 1) (L' := [_, _, _, _, _, _, _, _, _, _, _, _, _, _]) (st' := [_]) 1 rfl ?_
  refine jcs (pc' := 4) 176 [_] [] rfl rfl rfl rfl rfl rfl rfl rfl ?_
  refine m_digitsOf hf0 hf (jk ?_)
  refine jx (pc' := 7) (L' := [_, _, _, _, _, _, _, _, _, _, _, _, _, _]) (st' := [_]) 2 rfl ?_
  refine jcs (pc' := 10) 179 [_] [] rfl rfl rfl rfl rfl rfl rfl rfl ?_
  refine m_biasOf hf0 hf (jk ?_)
  refine jx (pc' := 14) (L' := [_, _, _, _, _, _, _, _, _, _, _, _, _, _]) (st' := [_]) 3 rfl ?_
  try simp (disch := omega) only [kz, kzl0, kzl1, kzb, kzs, zI_add, zI_sub, zI_neg, zI_mul, zL_i, zI_l, zL_add, zL_sub, zL_neg]
  refine jcs (pc' := 17) 209 [_] [] rfl rfl rfl rfl rfl rfl rfl rfl ?_
  refine m_greatestPower hf0 hf (jk ?_)
  refine jx (pc' := 20) (L' := [_, _, _, _, _, _, _, _, _, _, _, _, _, _]) (st' := [_]) 2 rfl ?_
  refine jcv (pc' := 23) 211 [] [] K.ob rfl rfl rfl rfl rfl rfl rfl rfl ?_
  refine m_first K fun hd => jk ?_
  refine jx (pc' := 34) (L' := [_, _, _, _, _, _, _, _, _, _, _, _, _, _]) (st' := [.int (zI (-12500)), _]) 5 rfl ?_
  try simp (disch := omega) only [kz, kzl0, kzl1, kzb, kzs, zI_add, zI_sub, zI_neg, zI_mul, zL_i, zI_l, zL_add, zL_sub, zL_neg]
  by_cases hV : V = 0
  · have hm := hz hV
    have hd0 := dgs_0 hV
    refine jcn (pc' := 37) 41 rfl rfl rfl rfl (by rw [zc_ge ⟨by omega, by omega⟩ ⟨by omega, by omega⟩]; exact decide_eq_false (by omega)) ?_
    refine jx (pc' := 49) (L' := [_, _, _, _, _, _, _, _, _, _, _, _, _, _]) (st' := [_, .int (zI 0), _, _]) 7 rfl ?_
    try simp (disch := omega) only [kz, kzl0, kzl1, kzb, kzs, zI_add, zI_sub, zI_neg, zI_mul, zL_i, zI_l, zL_add, zL_sub, zL_neg]
    refine jin (pc' := 52) 63 rfl rfl rfl rfl (by rfl) ?_
    refine jx (pc' := 53) (L' := [_, _, _, _, _, _, _, _, _, _, _, _, _, _]) (st' := [_, .int (zI 0), _, _]) 1 rfl ?_
    refine jgf (pc' := 56) K.ob rfl rfl rfl rfl rfl ?_
    refine jin (pc' := 59) 63 rfl rfl rfl rfl (by rw [hm]; rfl) ?_
    refine jx (pc' := 72) (L' := [_, _, _, _, _, _, _, _, _, _, _, _, _, _]) (st' := [_, _, _, _, .int (zI 0), _, _]) 5 rfl ?_
    refine jcs (pc' := 75) 212 [_, _, _] [_, .int (zI 0), _, _] rfl rfl rfl rfl rfl rfl rfl rfl ?_
    refine m_within ⟨by omega, by omega⟩ ⟨by omega, by omega⟩ ⟨by omega, by omega⟩ (jk ?_)
    have hA : rRn2 f dr ng mo (-12500) wi V = (0, if wi < -(fB f : Int) then -(fB f : Int) else if gE f < wi then gE f else wi, 0, 0) := by
      unfold rRn2
      rw [if_pos ⟨hV, hm⟩]
    rw [hA, if_pos hV] at q
    simp only [Nat.or_zero] at q
    generalize hww : (if wi < -(fB f : Int) then -(fB f : Int) else if gE f < wi then gE f else wi) = ww at *
    have hwb : -30000 ≤ ww ∧ ww ≤ 30000 := by rw [← hww]; split <;> (try split) <;> omega
    refine jcv (pc' := 78) 202 [_, .int (zI 0), _, _] [] K.ob rfl rfl rfl rfl rfl rfl rfl rfl ?_
    refine m_become (s := 0) K hf0 rfl hf (by decide) hwb fun h K => jk ?_
    refine jx (pc' := 80) (L' := [_, _, _, _, _, _, _, _, _, _, _, _, _, _]) (st' := [_]) 1 rfl ?_
    refine jin (pc' := 83) 91 rfl rfl rfl rfl (by rfl) ?_
    refine jx (pc' := 84) (L' := [_, _, _, _, _, _, _, _, _, _, _, _, _, _]) (st' := [_]) 1 rfl ?_
    refine jgf (pc' := 87) K.ob rfl rfl rfl rfl rfl ?_
    refine jin (pc' := 90) 91 rfl rfl rfl rfl (by rw [hm]; rfl) ?_
    refine ix_qr _ rfl rfl rfl ?_
    exact q _ K
  · have hd1 := (dgs_p (Nat.pos_of_ne_zero hV)).1
    refine jct (pc' := 41) rfl rfl rfl (by rw [zc_ge ⟨by omega, by omega⟩ ⟨by omega, by omega⟩]; exact decide_eq_true (by omega)) ?_
    refine jx (pc' := 42) (L' := [_, _, _, _, _, _, _, _, _, _, _, _, _, _]) (st' := [.int (zI 0)]) 1 rfl ?_
    exact t42 false hV hd rfl
end REF
