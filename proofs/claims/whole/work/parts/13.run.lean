/-! ===== the run of my machine ===== -/
def ix_CM : Nat := 32 + 601024
def ix_SM : Nat := 7293034
/-- reads of an array of ints, chars, bytes or booleans (its type's number: t) -/
def ix_al (t pc : Nat) (L : ix_L) (st : List Value) (h : ix_H) : Option ix_S := match st with
  | .int i :: .ref r :: q => match h.2.2 r with
    | .inl (t', n, .inl f) => if t' = t ∧ (32 ≤ r ∨ t = 0) ∧ r < h.1 ∧ ¬ i < 0 ∧ i.toNatClampNeg < n then some (pc, L, .int (f i.toNatClampNeg) :: q, h) else none
    | _ => none
  | _ => none
/-- reads of a byte of a string's -/
def ix_ab (pc : Nat) (L : ix_L) (st : List Value) (h : ix_H) : Option ix_S := match st with
  | .int i :: .ref r :: q => match h.2.2 r with
    | .inl (t', n, .inl f) => if t' = 5 ∧ r < 32 ∧ ¬ i < 0 ∧ i.toNatClampNeg < n then some (pc, L, .int (f i.toNatClampNeg) :: q, h) else none
    | _ => none
  | _ => none
def ix_aL (pc : Nat) (L : ix_L) (st : List Value) (h : ix_H) : Option ix_S := match st with
  | .int i :: .ref r :: q => match h.2.2 r with
    | .inl (t', n, .inr (.inl f)) => if t' = 1 ∧ 32 ≤ r ∧ r < h.1 ∧ ¬ i < 0 ∧ i.toNatClampNeg < n then some (pc, L, .long (f i.toNatClampNeg) :: q, h) else none
    | _ => none
  | _ => none
def ix_aA (pc : Nat) (L : ix_L) (st : List Value) (h : ix_H) : Option ix_S := match st with
  | .int i :: .ref r :: q => match h.2.2 r with
    | .inl (t', n, .inr (.inr (.inr (.inr f)))) => if t' = 4 ∧ 32 ≤ r ∧ r < h.1 ∧ ¬ i < 0 ∧ i.toNatClampNeg < n then (match f i.toNatClampNeg with
      | some z => some (pc, L, .ref z :: q, h)
      | none => none) else none
    | _ => none
  | _ => none
def ix_as (t : Nat) (nar : Int32 → Int32) (pc : Nat) (L : ix_L) (st : List Value) (h : ix_H) : Option ix_S := match st with
  | .int x :: .int i :: .ref r :: q => match h.2.2 r with
    | .inl (t', n, .inl f) => if t' = t ∧ 32 ≤ r ∧ r < h.1 ∧ ¬ i < 0 ∧ i.toNatClampNeg < n then some (pc, L, q, ix_up h r (.inl (t', n, .inl (upd f i.toNatClampNeg (nar x))))) else none
    | _ => none
  | _ => none
def ix_sL (pc : Nat) (L : ix_L) (st : List Value) (h : ix_H) : Option ix_S := match st with
  | .long x :: .int i :: .ref r :: q => match h.2.2 r with
    | .inl (t', n, .inr (.inl f)) => if t' = 1 ∧ 32 ≤ r ∧ r < h.1 ∧ ¬ i < 0 ∧ i.toNatClampNeg < n then some (pc, L, q, ix_up h r (.inl (t', n, .inr (.inl (vp_updL f i.toNatClampNeg x))))) else none
    | _ => none
  | _ => none
noncomputable def ix_sA (pc : Nat) (L : ix_L) (st : List Value) (h : ix_H) : Option ix_S := match st with
  | .ref x :: .int i :: .ref r :: q => match h.2.2 r, h.2.2 x with
    | .inl (t', n, .inr (.inr (.inr (.inr f)))), .inr (ci, _) => if t' = 4 ∧ ci = ix_cD ∧ 32 ≤ r ∧ r < h.1 ∧ 32 ≤ x ∧ x < h.1 ∧ ¬ i < 0 ∧ i.toNatClampNeg < n then some (pc, L, q, ix_up h r (.inl (t', n, .inr (.inr (.inr (.inr (va_up f i.toNatClampNeg (some x)))))))) else none
    | _, _ => none
  | _ => none
def ix_len (pc : Nat) (L : ix_L) (st : List Value) (h : ix_H) : Option ix_S := match st with
  | .ref r :: q => match h.2.2 r with
    | .inl (t', n, .inl _) => if (t' < 5 ∨ r < 32) ∧ r < h.1 then some (pc, L, .int (Int32.ofNat n) :: q, h) else none
    | .inl (t', n, .inr _) => if t' < 5 ∧ 32 ≤ r ∧ r < h.1 then some (pc, L, .int (Int32.ofNat n) :: q, h) else none
    | _ => none
  | _ => none
noncomputable def ix_gf (o idx pc : Nat) (L : ix_L) (st : List Value) (h : ix_H) : Option ix_S := match ix_fl o idx, st with
  | some (ci, k), .ref r :: q => match h.2.2 r with
    | .inr (c', fs) => if c' = ci ∧ Nat.blt r 32 = Nat.beq ci 100 ∧ r < h.1 then (match fs[k]? with
      | some v => some (pc, L, v :: q, h)
      | none => none) else none
    | _ => none
  | _, _ => none
noncomputable def ix_pf (ini : Bool) (o idx pc : Nat) (L : ix_L) (st : List Value) (h : ix_H) : Option ix_S := match ix_fld o idx, st with
  | some (ci, k), v :: .ref r :: q => match h.2.2 r with
    | .inr (c', fs) => if c' = ci ∧ 32 ≤ r ∧ r < h.1 ∧ k < fs.length ∧ (ix_fin ci k = true → ini = true ∧ o = ix_oc ci) ∧ narrow (ix_fty ci k) v = v ∧ fits (ix_fty ci k) v = true then some (pc, L, q, ix_up h r (.inr (c', fs.set k v))) else none
    | _ => none
  | _, _ => none
def ix_na (a : ArrayType) (pc : Nat) (L : ix_L) (st : List Value) (h : ix_H) : Option ix_S := match st with
  | .int i :: q => if ¬ i < 0 ∧ i.toNatClampNeg ≤ 100000 ∧ h.1 < ix_CM ∧ h.2.1 + i.toNatClampNeg ≤ ix_SM then (match a with
    | .int => some (pc, L, .ref h.1 :: q, ix_pu h i.toNatClampNeg (.inl (0, i.toNatClampNeg, .inl fun _ => 0)))
    | .long => some (pc, L, .ref h.1 :: q, ix_pu h i.toNatClampNeg (.inl (1, i.toNatClampNeg, .inr (.inl fun _ => 0))))
    | .char => some (pc, L, .ref h.1 :: q, ix_pu h i.toNatClampNeg (.inl (2, i.toNatClampNeg, .inl fun _ => 0)))
    | .boolean => some (pc, L, .ref h.1 :: q, ix_pu h i.toNatClampNeg (.inl (3, i.toNatClampNeg, .inl fun _ => 0)))
    | _ => none) else none
  | _ => none
noncomputable def ix_nq (o idx pc : Nat) (L : ix_L) (st : List Value) (h : ix_H) : Option ix_S := match st with
  | .int i :: q => if ix_anw o idx = true ∧ ¬ i < 0 ∧ i.toNatClampNeg ≤ 100000 ∧ h.1 < ix_CM ∧ h.2.1 + i.toNatClampNeg ≤ ix_SM then some (pc, L, .ref h.1 :: q, ix_pu h i.toNatClampNeg (.inl (4, i.toNatClampNeg, .inr (.inr (.inr (.inr fun _ => none)))))) else none
  | _ => none
noncomputable def ix_no (o idx pc : Nat) (L : ix_L) (st : List Value) (h : ix_H) : Option ix_S := match ix_nw o idx with
  | some ci => if h.1 < ix_CM ∧ h.2.1 + (ix_dv ci).length ≤ ix_SM then some (pc, L, .ref h.1 :: st, ix_pu h (ix_dv ci).length (.inr (ci, ix_dv ci))) else none
  | none => none
/-- the step of an instruction that looks at cells or constants -/
noncomputable def ix_x1 (ini : Bool) (o : Nat) (i : Instr) (pc : Nat) (L : ix_L) (st : List Value) (h : ix_H) : Option ix_S := match i with
  | .iaload => ix_al 0 (pc + 1) L st h
  | .caload => ix_al 2 (pc + 1) L st h
  | .baload => match ix_al 3 (pc + 1) L st h with
    | some z => some z
    | none => ix_ab (pc + 1) L st h
  | .laload => ix_aL (pc + 1) L st h
  | .aaload => ix_aA (pc + 1) L st h
  | .iastore => ix_as 0 (fun x => x) (pc + 1) L st h
  | .castore => ix_as 2 (vp_nar .char) (pc + 1) L st h
  | .bastore => ix_as 3 (vp_nar .boolean) (pc + 1) L st h
  | .lastore => ix_sL (pc + 1) L st h
  | .aastore => ix_sA (pc + 1) L st h
  | .arraylength => ix_len (pc + 1) L st h
  | .getfield k => ix_gf o k (pc + 3) L st h
  | .putfield k => ix_pf ini o k (pc + 3) L st h
  | .newarray a => ix_na a (pc + 2) L st h
  | .anewarray k => ix_nq o k (pc + 3) L st h
  | .new k => ix_no o k (pc + 3) L st h
  | .getstatic k => (ix_gv o k).map fun v => (pc + 3, L, v :: st, h)
  | .ldc k => (ix_kv o k).map fun v => (pc + 2, L, v :: st, h)
  | .ldc_w k => (ix_kc o k).map fun v => (pc + 3, L, v :: st, h)
  | .ldc2_w k => (ix_kl o k).map fun v => (pc + 3, L, .long v :: st, h)
  | _ => ix_x0 i pc L st h
/-- the receiver is an object of the method's class -/
noncomputable def ix_rc (mj : Nat) (as : List Value) (h : ix_H) : Bool := match as with
  | .ref r :: _ => match h.2.2 r with
    | .inr (ci, _) => Nat.beq ci (ix_ci mj) && (Nat.blt r 32 == Nat.beq ci 100) && Nat.blt r h.1
    | _ => false
  | _ => false
/-- an instruction and a method go together -/
noncomputable def ix_kd (i : Instr) (mj : Nat) : Bool := match i with
  | .invokestatic _ => ix_sta mj
  | .invokespecial _ => !ix_sta mj && ix_ini mj
  | .invokevirtual _ => !ix_sta mj && !ix_ini mj
  | _ => false
noncomputable def ix_na' (mj : Nat) : Nat := if ix_sta mj = true then ix_np mj else ix_np mj + 1
/-- may it be called from the method mi: operands, frames, words, receiver -/
noncomputable def ix_ok (i : Instr) (mi mj n : Nat) (st : List Value) (h : ix_H) : Bool :=
  Nat.beq n (ix_ml mi) && ix_kd i mj && Nat.ble (ix_na' mj) st.length && Nat.ble (ix_fr mj + 1) (ix_fr mi) && Nat.ble (ix_wd mj + (ix_ml mj + 19)) (ix_wd mi) && Nat.ble ((st.drop (ix_na' mj)).map Value.category).sum 8 && Nat.ble ((st.take (ix_na' mj)).map Value.category).sum (ix_ml mj) && (ix_sta mj || ix_rc mj (st.take (ix_na' mj)).reverse h)
def ix_ix (i : Instr) : Option Nat := match i with
  | .invokestatic k | .invokespecial k | .invokevirtual k => some k
  | _ => none
def ix_rv (rt : Option FieldType) (i : Instr) (st : List Value) : Option (Option Value) := match i, st, rt with
  | .ireturn, [.int v], some ty => if narrow ty (.int v) = .int v then some (some (.int v)) else none
  | .lreturn, [.long v], some .long => some (some (.long v))
  | .areturn, [.ref r], some (.object _) => some (some (.ref r))
  | .areturn, [.ref r], some (.array _) => some (some (.ref r))
  | .return_, [], none => some none
  | _, _, _ => none
def ix_isr (i : Instr) : Bool := match i with
  | .ireturn | .lreturn | .areturn | .return_ => true
  | _ => false
/-- the handler of a place for a class's exceptions -/
noncomputable def ix_hs (o pc ci : Nat) : List (Nat × Nat × Nat × Nat) → Option Nat
  | [] => none
  | (a, b, q, ct) :: r => bif Nat.ble a pc && Nat.blt pc b then (match ix_ct o ct with
    | some ci' => bif Nat.beq ci ci' then some q else ix_hs o pc ci r
    | none => none) else ix_hs o pc ci r
noncomputable def ix_hd (mi pc ci : Nat) : Option (Option Nat) := match ix_hh mi with
  | [] => some none
  | l => (ix_hs (ix_o mi) pc ci l).map some
/-- calls that are no walks: Object's constructor (1), a copy of ints (2) -/
noncomputable def ix_pr (i : Instr) (q mi pc : Nat) (L : ix_L) (st : List Value) (h : ix_H) : Option ix_S := match i, q, st with
  | .invokespecial _, 1, .ref _ :: t => if L.length = ix_ml mi ∧ 1 ≤ ix_fr mi ∧ (t.map Value.category).sum + 12 ≤ ix_wd mi then some (pc + 3, L, t, h) else none
  | .invokestatic _, 2, .int n :: .int dp :: .ref r1 :: .int sp :: .ref r0 :: t => match h.2.2 r0, h.2.2 r1 with
    | .inl (t0, n0, .inl f), .inl (t1, n1, .inl g) => if L.length = ix_ml mi ∧ t0 = 0 ∧ t1 = 0 ∧ 32 ≤ r0 ∧ r0 < h.1 ∧ 32 ≤ r1 ∧ r1 < h.1 ∧ ¬ sp < 0 ∧ ¬ dp < 0 ∧ ¬ n < 0 ∧ sp.toNatClampNeg + n.toNatClampNeg ≤ n0 ∧ dp.toNatClampNeg + n.toNatClampNeg ≤ n1 ∧ 1 ≤ ix_fr mi ∧ (t.map Value.category).sum + (nativeFrameWords "java/lang/System" "arraycopy" 5 + 11) ≤ ix_wd mi then
        some (pc + 3, L, t, ix_up h r1 (.inl (t1, n1, .inl (va_cpy f g sp.toNatClampNeg dp.toNatClampNeg n.toNatClampNeg)))) else none
    | _, _ => none
  | _, _, _ => none
noncomputable def ix_ev : Nat → Nat → Nat → ix_L → List Value → ix_H → Option (ix_O × ix_H)
  | 0, _, _, _, _, _ => none
  | n + 1, mi, pc, L, st, h => match ix_ins mi pc with
    | none => none
    | some i => match ix_isr i with
      | true => (ix_rv (ix_rt mi) i st).map fun v => (.inl v, h)
      | false => match ix_ix i with
        | some k => match ix_cal (ix_o mi) k with
          | none => none
          | some (0, mj) => match ix_ok i mi mj L.length st h with
            | false => none
            | true => match ix_ev n mj 0 (ix_en (st.take (ix_na' mj)).reverse (ix_ml mj)) [] h with
              | none => none
              | some (.inl v, h') => ix_ev n mi (pc + 3) L (v.toList ++ st.drop (ix_na' mj)) h'
              | some (.inr x, h') => match ix_hd mi pc x.1 with
                | some (some q) => ix_ev n mi q L [.ref x.2] h'
                | some none => some (.inr x, h')
                | none => none
          | some (q, _) => match ix_pr i q mi pc L st h with
            | some (pc', L', st', h') => ix_ev n mi pc' L' st' h'
            | none => none
        | none => match ix_thr mi pc with
          | some ci => match st with
            | [] => if L.length = ix_ml mi ∧ h.1 < ix_CM ∧ h.2.1 + 6 ≤ ix_SM then some (.inr (ci, h.1), ix_pu h 6 (.inr (ci, []))) else none
            | _ => none
          | none => match ix_x1 (ix_ini mi) (ix_o mi) i pc L st h with
            | some (pc', L', st', h') => ix_ev n mi pc' L' st' h'
            | none => none
