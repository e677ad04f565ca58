/-! ===== Unrounded.copy; Rounding: overflow, roundInexact, round ===== -/
def isU (S : Nat → AC) (r : Nat) : Prop := ∃ (ng mo : Bool) (ex wi : Int) (c : Nat), S r = aC (uC r ng mo ex wi) ∧ S (r + 1) = aN c
/-- the greatest exponent -/
def gE (fm : Nat) : Int := (fE fm : Int) - fD fm + 1
theorem f3b {fm : Nat} (h : fm < 3) : 7 ≤ fD fm ∧ fD fm ≤ 34 ∧ 101 ≤ fB fm ∧ fB fm ≤ 6176 ∧ 96 ≤ fE fm ∧ fE fm ≤ 6144 ∧ (fB fm : Int) = fE fm + fD fm - 2 := by
  rcases f3 h with rfl | rfl | rfl <;> decide
theorem gEb {fm : Nat} (h : fm < 3) : 90 ≤ gE fm ∧ gE fm ≤ 6111 := by
  unfold gE
  rcases f3 h with rfl | rfl | rfl <;> decide
/-- out of range: kind, exponent, coefficient, signals -/
def rOvf (fm dir : Nat) (ng : Bool) : Nat × Int × Nat × Nat := if (decide (dir = 0) || decide (dir = 4) || (if ng then decide (dir = 3) else decide (dir = 2))) then (1, 0, 0, 20) else (0, gE fm, 10 ^ fD fm - 1, 20)
noncomputable def rQ (fm : Nat) (ex : Int) (c : Nat) : Int := max (ex + dgs c - fD fm) (-(fB fm : Int))
noncomputable def rInx (fm dir : Nat) (ng mo : Bool) (ex : Int) (c : Nat) : Nat × Int × Nat × Nat :=
  if gE fm < rQ fm ex c then rOvf fm dir ng else
  if fD fm < dgs (cutV c (min (rQ fm ex c - ex) 200) mo dir ng) then
    (if gE fm < rQ fm ex c + 1 then rOvf fm dir ng else (0, rQ fm ex c + 1, cutV c (min (rQ fm ex c - ex) 200) mo dir ng / 10, if ex + dgs c ≤ 1 - fE fm then 24 else 16))
  else (0, rQ fm ex c, cutV c (min (rQ fm ex c - ex) 200) mo dir ng, if ex + dgs c ≤ 1 - fE fm then 24 else 16)
noncomputable def rRnd (fm dir : Nat) (ng mo : Bool) (ex wi : Int) (c : Nat) : Nat × Int × Nat × Nat :=
  if mo then rInx fm dir ng true ex c else
  if c = 0 then (0, max (-(fB fm : Int)) (min wi (gE fm)), 0, 0) else
  if (fD fm : Int) - dgs (c / 10 ^ tz c) < 0 ∨ min (ex + tz c) (gE fm) < max (ex + tz c - (fD fm - dgs (c / 10 ^ tz c))) (-(fB fm : Int)) then rInx fm dir ng false (ex + tz c) (c / 10 ^ tz c) else
  (0, max (max (ex + tz c - (fD fm - dgs (c / 10 ^ tz c))) (-(fB fm : Int))) (min wi (min (ex + tz c) (gE fm))), c / 10 ^ tz c * 10 ^ (ex + tz c - max (max (ex + tz c - (fD fm - dgs (c / 10 ^ tz c))) (-(fB fm : Int))) (min wi (min (ex + tz c) (gE fm)))).toNat, 0)
section RND
variable {h : ix_H} {Q : ix_O → ix_H → Prop} {S : Nat → AC} {fm so co c dir co' : Nat} {ng ng' ng2 mo mo' : Bool} {ex ex2 wi ex' wi' : Int}
/-- x.copy(y) -/
theorem v_ucopy (I : Inv h S) (X : S 38 = aC (uC 38 ng mo ex wi)) (XC : S 39 = aN co) (Y : S 41 = aC (uC 41 ng' mo' ex' wi')) (YC : S 42 = aN co') (q : ∀ h', Inv h' (va_up (va_up S 39 (aN co')) 38 (aC (uC 38 ng' mo' ex' wi'))) → Q (.inl none) h') : ix_M 98 [.ref 38, .ref 41] h Q := by
  refine jx (pc' := 2) (L' := [_, _]) (st' := [_, _]) 2 rfl ?_
  refine jgf (pc' := 5) (I.ob (r := 41) Y) rfl rfl rfl rfl rfl ?_
  refine jpA (pc' := 8) (r := 38) I X rfl rfl rfl (Nat.le_of_ble_eq_true rfl) (by intro z; cases z) (nb _) (fb _) rfl fun _ I X => ?_
  refine jx (pc' := 9) (L' := [_, _]) (st' := [_]) 1 rfl ?_
  refine jgf (pc' := 12) (I.ob (r := 38) X) rfl rfl rfl rfl rfl ?_
  refine jx (pc' := 13) (L' := [_, _]) (st' := [_, _]) 1 rfl ?_
  refine jgf (pc' := 16) (I.ob (r := 41) Y) rfl rfl rfl rfl rfl ?_
  refine jcv (pc' := 19) 48 [_] [] (I.no (r := 39) XC) rfl rfl rfl rfl rfl rfl rfl rfl ?_
  refine v_copy (a := 39) (b := 42) I XC YC fun _ I => jk ?_
  refine jx (pc' := 21) (L' := [_, _]) (st' := [_, _]) 2 rfl ?_
  refine jgf (pc' := 24) (I.ob (r := 41) Y) rfl rfl rfl rfl rfl ?_
  refine jpA (pc' := 27) (r := 38) I X rfl rfl rfl (Nat.le_of_ble_eq_true rfl) (by intro z; cases z) rfl rfl rfl fun _ I X => ?_
  refine jx (pc' := 29) (L' := [_, _]) (st' := [_, _]) 2 rfl ?_
  refine jgf (pc' := 32) (I.ob (r := 41) Y) rfl rfl rfl rfl rfl ?_
  refine jpA (pc' := 35) (r := 38) I X rfl rfl rfl (Nat.le_of_ble_eq_true rfl) (by intro z; cases z) rfl rfl rfl fun _ I X => ?_
  refine jx (pc' := 37) (L' := [_, _]) (st' := [_, _]) 2 rfl ?_
  refine jgf (pc' := 40) (I.ob (r := 41) Y) rfl rfl rfl rfl rfl ?_
  refine jpA (pc' := 43) (r := 38) I X rfl rfl rfl (Nat.le_of_ble_eq_true rfl) (by intro z; cases z) (nb _) (fb _) rfl fun _ I X => ?_
  refine ix_qr _ rfl rfl rfl ?_
  refine q _ ?_
  rw [va_up_up, va_up_up] at I
  have e : ∀ x y z : AC, va_up (va_up (va_up S 38 x) 39 y) 38 z = va_up (va_up S 39 y) 38 z := fun x y z => by
    funext j
    by_cases e1 : j = 38
    · rw [e1, va_up_self, va_up_self]
    · rw [va_up_ne _ _ e1, va_up_ne _ _ e1]
      by_cases e2 : j = 39
      · rw [e2, va_up_self, va_up_self]
      · rw [va_up_ne _ _ e2, va_up_ne _ _ e2, va_up_ne _ _ e1]
  rw [e] at I
  exact I
theorem v_overflow (I : Inv h S) (X : S 38 = aC (uC 38 ng mo ex wi)) (R : S 35 = aC (dC 35 fm so ng2 ex2)) (RC : S 36 = aN co) (hd : dir < 5) (hf : fm < 3) (hs : so < 4) (hx : zr ex2) (q : ∀ h', Inv h' (va_up (va_up S 35 (aC (dC 35 fm (rOvf fm dir ng).1 ng2 (rOvf fm dir ng).2.1))) 36 (aN (rOvf fm dir ng).2.2.1)) → Q (.inl (some (.int (nI (rOvf fm dir ng).2.2.2)))) h') : ix_M 105 [.ref 38, .int (nI dir), .ref 35] h Q := by
  have fin1 : (decide (dir = 0) || decide (dir = 4) || (if ng then decide (dir = 3) else decide (dir = 2))) = true → ∀ v, ix_E 105 44 [some (.ref 38), some (.int (nI dir)), some (.ref 35), v] [] h Q := by
    intro hc v
    unfold rOvf at q
    rw [hc] at q
    refine jx (pc' := 46) (L' := [_, _, _, _]) (st' := [.int (nI 1), _]) 2 rfl ?_
    refine jcv (pc' := 49) 83 [.int (nI 1)] [] (I.ob (r := 35) R) rfl rfl rfl rfl rfl rfl rfl rfl ?_
    refine v_setSpecial (r := 35) I R RC hf hs hx fun _ I => jk ?_
    refine jx (pc' := 58) (L' := [_, _, _, _]) (st' := [.int (nI 20)]) 2 rfl ?_
    refine jri rfl rfl ?_
    exact q _ I
  have fin0 : (decide (dir = 0) || decide (dir = 4) || (if ng then decide (dir = 3) else decide (dir = 2))) = false → ∀ v, ix_E 105 52 [some (.ref 38), some (.int (nI dir)), some (.ref 35), v] [] h Q := by
    intro hc v
    unfold rOvf at q
    rw [hc] at q
    refine jx (pc' := 53) (L' := [_, _, _, _]) (st' := [_]) 1 rfl ?_
    refine jcv (pc' := 56) 86 [] [] (I.ob (r := 35) R) rfl rfl rfl rfl rfl rfl rfl rfl ?_
    refine v_setGreatest (r := 35) I R RC hf hs hx fun _ I => jk ?_
    refine jx (pc' := 58) (L' := [_, _, _, _]) (st' := [.int (nI 20)]) 1 rfl ?_
    refine jri rfl rfl ?_
    exact q _ I
  have t1 : ∀ o : Bool, o = (if ng then decide (dir = 3) else decide (dir = 2)) → ∀ v, ix_E 105 30 [some (.ref 38), some (.int (nI dir)), some (.ref 35), v] [.int (bI o)] h Q := by
    intro o ho v
    refine jx (pc' := 32) (L' := [_, _, _, _]) (st' := [_]) 2 rfl ?_
    cases o with
    | true =>
      refine jit (pc' := 44) rfl rfl rfl (rfl) ?_
      exact fin1 (by rw [← ho]; simp) _
    | false =>
      refine jin (pc' := 35) 44 rfl rfl rfl rfl (rfl) ?_
      refine jx (pc' := 36) (L' := [_, _, _, _]) (st' := [_]) 1 rfl ?_
      by_cases h0 : dir = 0
      · skip
        refine jit (pc' := 44) rfl rfl rfl (by rw [cz_eq (by omega)]; exact decide_eq_true (by omega)) ?_
        exact fin1 (by simp [h0]) _
      · skip
        refine jin (pc' := 39) 44 rfl rfl rfl rfl (by rw [cz_eq (by omega)]; exact decide_eq_false (by omega)) ?_
        refine jx (pc' := 41) (L' := [_, _, _, _]) (st' := [.int (nI 4), _]) 2 rfl ?_
        by_cases h4 : dir = 4
        · skip
          refine jcn (pc' := 44) 52 rfl rfl rfl rfl (by rw [cc_ne (by omega) (by omega)]; exact decide_eq_false (by omega)) ?_
          exact fin1 (by simp [h4]) _
        · skip
          refine jct (pc' := 52) rfl rfl rfl (by rw [cc_ne (by omega) (by omega)]; exact decide_eq_true (by omega)) ?_
          exact fin0 (by rw [← ho]; simp [h0, h4]) _
  refine jx (pc' := 1) (L' := [_, _, _, _]) (st' := [_]) 1 rfl ?_
  refine jgf (pc' := 4) (I.ob (r := 38) X) rfl rfl rfl rfl rfl ?_
  cases ng with
  | true =>
    refine jin (pc' := 7) 20 rfl rfl rfl rfl (rfl) ?_
    refine jx (pc' := 9) (L' := [_, _, _, _]) (st' := [.int (nI 3), _]) 2 rfl ?_
    by_cases h3 : dir = 3
    · skip
      refine jcn (pc' := 12) 16 rfl rfl rfl rfl (by rw [cc_ne (by omega) (by omega)]; exact decide_eq_false (by omega)) ?_
      refine jx (pc' := 30) (L' := [_, _, _, _]) (st' := [.int (nI 1)]) 2 rfl ?_
      exact t1 true (by simp [h3]) _
    · skip
      refine jct (pc' := 16) rfl rfl rfl (by rw [cc_ne (by omega) (by omega)]; exact decide_eq_true (by omega)) ?_
      refine jx (pc' := 30) (L' := [_, _, _, _]) (st' := [.int (nI 0)]) 2 rfl ?_
      exact t1 false (by simp [h3]) _
  | false =>
    refine jit (pc' := 20) rfl rfl rfl (rfl) ?_
    refine jx (pc' := 22) (L' := [_, _, _, _]) (st' := [.int (nI 2), _]) 2 rfl ?_
    by_cases h3 : dir = 2
    · skip
      refine jcn (pc' := 25) 29 rfl rfl rfl rfl (by rw [cc_ne (by omega) (by omega)]; exact decide_eq_false (by omega)) ?_
      refine jx (pc' := 30) (L' := [_, _, _, _]) (st' := [.int (nI 1)]) 2 rfl ?_
      exact t1 true (by simp [h3]) _
    · skip
      refine jct (pc' := 29) rfl rfl rfl (by rw [cc_ne (by omega) (by omega)]; exact decide_eq_true (by omega)) ?_
      refine jx (pc' := 30) (L' := [_, _, _, _]) (st' := [.int (nI 0)]) 1 rfl ?_
      exact t1 false (by simp [h3]) _
end RND
