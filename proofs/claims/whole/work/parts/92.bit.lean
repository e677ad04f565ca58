/-! ===== BitPattern: decode ===== -/
noncomputable def dcS (f H : Nat) (W : Nat → Int32) : Nat × Nat := if ¬ H / 2 ^ 26 % 2 ^ 5 = 31 then (1, 0) else ((if H / 2 ^ 25 % 2 ^ 6 = 63 then 2 else 3), jc f (H % 2 ^ fP f) W (fD f - 1))
noncomputable def dcR (f H : Nat) (W : Nat → Int32) : Nat × Int × Nat :=
  if H / 2 ^ 27 % 2 ^ 4 = 15 then ((dcS f H W).1, 0, (dcS f H W).2) else
  if ¬ H / 2 ^ 29 % 2 ^ 2 = 3 then (0, (H / 2 ^ (31 - fW f) % 2 ^ fW f : Nat) - (fB f : Int), jc f (H % 2 ^ (31 - fW f)) W (fD f)) else
  (0, (H / 2 ^ (29 - fW f) % 2 ^ fW f : Nat) - (fB f : Int), jc f (4 * 2 ^ (29 - fW f) + H % 2 ^ (29 - fW f)) W (fD f))
theorem dcS_b (f H : Nat) (W : Nat → Int32) : (dcS f H W).1 < 4 := by
  unfold dcS
  split
  · exact (by decide : 1 < 4)
  · show (if _ then 2 else 3) < 4
    split <;> decide
section BIT
variable {h : ix_H} {Q : ix_O → ix_H → Prop} {S : Nat → AC} {W : Nat → Int32} {f top most w r fm so co : Nat} {ng : Bool} {ex : Int}
theorem v_decodeSpecial (I : Inv h S) (K : S 61 = aC bpC) (WW : S 62 = aC (cI 0 4 W)) (WK : S 63 = aN w) (D : S r = aC (dC r fm so ng ex)) (C : S (r + 1) = aN co) (hfm : fm < 3) (hso : so < 4) (hex : zr ex) (hr : 71 ≤ r) (hf : f < 3) (q : ∀ h' S', Inv h' S' → ag [63, r, r + 1] S S' → S' r = aC (dC r fm (dcS f (wd (W 0)) W).1 ng 0) → S' (r + 1) = aN (dcS f (wd (W 0)) W).2 → isN S' 63 → Q (.inl none) h') : ix_M 93 [.ref 61, .int (nI f), .ref r] h Q := by
  have WI := I.ia (r := 62) WW
  have hH := wd_lt (W 0)
  obtain ⟨w1, w2, w3, w4⟩ := fWb hf
  obtain ⟨f1, f2, _⟩ := f3b hf
  unfold dcS at q
  refine jx (pc' := 1) (L' := [_, _, _, _]) (st' := [_]) 1 rfl ?_
  refine jgf (pc' := 4) (I.ob (r := 61) K) rfl rfl rfl rfl rfl ?_
  refine jx (pc' := 5) (L' := [_, _, _, _]) (st' := [.int (nI 0), _]) 1 rfl ?_
  refine jal (pc' := 6) WI rfl rfl (by omega) rfl ?_
  refine jx (pc' := 13) (L' := [_, _, _, _]) (st' := [_, _]) 5 rfl ?_
  try simp (disch := omega) only [kl2080374784, nI_add, nI_mul, nI_sub, Nat.zero_mul, Nat.one_mul, Nat.sub_zero, Nat.add_zero, Nat.zero_add, Nat.add_sub_cancel]
  rw [show nI 2080374784 = nI ((2 ^ 5 - 1) * 2 ^ 26) from rfl, mskm]
  generalize hx : wd (W 0) = H at *
  by_cases e1 : H / 2 ^ 26 % 2 ^ 5 = 31
  · have nh : ¬ ¬ H / 2 ^ 26 % 2 ^ 5 = 31 := fun z => z e1
    simp only [if_neg nh] at q
    refine jct (pc' := 22) rfl rfl rfl (by rw [cc_eq (by omega) (by omega)]; exact decide_eq_true (by omega)) ?_
    have tail : ∀ s : Nat, s = (if H / 2 ^ 25 % 2 ^ 6 = 63 then 2 else 3) → ix_E 93 37 [some (.ref 61), some (.int (nI f)), some (.ref r), some (.int (W 0))] [.int (nI s), .ref r] h Q := by
      intro s hs
      rw [← hs] at q
      refine jcv (pc' := 40) 83 [_] [] (I.ob (r := r) D) rfl rfl rfl rfl rfl rfl rfl rfl ?_
      refine v_setSpecial I D C hfm hso hex fun k1 I => jk ?_
      have L1 : ∀ j, j ≠ r → j ≠ r + 1 → va_up (va_up S r (aC (dC r fm s ng 0))) (r + 1) (aN 0) j = S j := fun j h1 h2 => by rw [va_up_ne _ _ h2, va_up_ne _ _ h1]
      have K1 := (L1 61 (by omega) (by omega)).trans K
      have WW1 := (L1 62 (by omega) (by omega)).trans WW
      have WK1 := (L1 63 (by omega) (by omega)).trans WK
      have D1 : va_up (va_up S r (aC (dC r fm s ng 0))) (r + 1) (aN 0) r = aC (dC r fm s ng 0) := by rw [va_up_ne _ _ (by omega), va_up_self]
      have C1 : va_up (va_up S r (aC (dC r fm s ng 0))) (r + 1) (aN 0) (r + 1) = aN 0 := va_up_self _ _ _
      have g1 : ag [63, r, r + 1] S (va_up (va_up S r (aC (dC r fm s ng 0))) (r + 1) (aN 0)) := ((ag_0 _ S).up (by simp)).up (by simp)
      generalize va_up (va_up S r (aC (dC r fm s ng 0))) (r + 1) (aN 0) = T at *
      refine jx (pc' := 47) (L' := [_, _, _, _]) (st' := [_, _, _, _, _]) 5 rfl ?_
      refine jat (pc' := 48) I.tab rfl rfl ⟨by decide, hf⟩ rfl ?_
      rw [tv6 hf]
      refine jcs (pc' := 51) 90 [_, _] [_, _] rfl rfl rfl rfl rfl rfl rfl rfl ?_
      refine c_lowBits (by omega) (jk ?_)
      rw [hx]
      refine jx (pc' := 55) (L' := [_, _, _, _]) (st' := [_, _, _, _, _]) 2 rfl ?_
      refine jat (pc' := 56) I.tab rfl rfl ⟨by decide, hf⟩ rfl ?_
      rw [tv1n hf]
      refine jx (pc' := 58) (L' := [_, _, _, _]) (st' := [_, _, _, _]) 2 rfl ?_
      try simp (disch := omega) only [ki1, nI_add, nI_mul, nI_sub, Nat.zero_mul, Nat.one_mul, Nat.sub_zero, Nat.add_zero, Nat.zero_add, Nat.add_sub_cancel]
      refine jcv (pc' := 61) 94 [_, _, _] [] (I.ob (r := 61) K1) rfl rfl rfl rfl rfl rfl rfl rfl ?_
      have hml : H % 2 ^ fP f < 4294967296 := Nat.lt_of_le_of_lt (Nat.mod_le _ _) hH
      refine v_joinWords I K1 WW1 WK1 hf hml (by omega) fun k2 I => jk ?_
      have D2 : ∀ x : AC, va_up T 63 x r = aC (dC r fm s ng 0) := fun x => by rw [va_up_ne _ _ (by omega)]; exact D1
      have C2 : ∀ x : AC, va_up T 63 x (r + 1) = aN 0 := fun x => by rw [va_up_ne _ _ (by omega)]; exact C1
      refine jx (pc' := 62) (L' := [_, _, _, _]) (st' := [_]) 1 rfl ?_
      refine jgf (pc' := 65) (I.ob (r := r) (D2 _)) rfl rfl rfl rfl rfl ?_
      refine jx (pc' := 66) (L' := [_, _, _, _]) (st' := [_, _]) 1 rfl ?_
      refine jgf (pc' := 69) (I.ob (r := 61) K1) rfl rfl rfl rfl rfl ?_
      refine jcv (pc' := 72) 48 [_] [] (I.no (r := (r+1)) (C2 _)) rfl rfl rfl rfl rfl rfl rfl rfl ?_
      refine v_copy (b := 63) I (C2 _) rfl fun k3 I => jk ?_
      refine ix_qr _ rfl rfl rfl ?_
      refine q _ _ I ((g1.up (by simp)).up (by simp)) ?_ (va_up_self _ _ _) ⟨jc f (H % 2 ^ fP f) W (fD f - 1), ?_⟩
      · rw [va_up_ne _ _ (by omega)]; exact D2 _
      · rw [va_up_ne _ _ (by omega), va_up_self]
    refine jx (pc' := 29) (L' := [_, _, _, _]) (st' := [_, _, _]) 5 rfl ?_
    try simp (disch := omega) only [kl2113929216, nI_add, nI_mul, nI_sub, Nat.zero_mul, Nat.one_mul, Nat.sub_zero, Nat.add_zero, Nat.zero_add, Nat.add_sub_cancel]
    rw [show nI 2113929216 = nI ((2 ^ 6 - 1) * 2 ^ 25) from rfl, mskm, hx]
    by_cases e2 : H / 2 ^ 25 % 2 ^ 6 = 63
    · skip
      refine jcn (pc' := 32) 36 rfl rfl rfl rfl (by rw [cc_ne (by omega) (by omega)]; exact decide_eq_false (by omega)) ?_
      refine jx (pc' := 37) (L' := [_, _, _, _]) (st' := [.int (nI 2), _]) 2 rfl ?_
      exact tail 2 (by rw [if_pos e2])
    · skip
      refine jct (pc' := 36) rfl rfl rfl (by rw [cc_ne (by omega) (by omega)]; exact decide_eq_true (by omega)) ?_
      refine jx (pc' := 37) (L' := [_, _, _, _]) (st' := [.int (nI 3), _]) 1 rfl ?_
      exact tail 3 (by rw [if_neg e2])
  · simp only [if_pos e1] at q
    refine jcn (pc' := 16) 22 rfl rfl rfl rfl (by rw [cc_eq (by omega) (by omega)]; exact decide_eq_false (by omega)) ?_
    refine jx (pc' := 18) (L' := [_, _, _, _]) (st' := [.int (nI 1), _]) 2 rfl ?_
    refine jcv (pc' := 21) 83 [.int (nI 1)] [] (I.ob (r := r) D) rfl rfl rfl rfl rfl rfl rfl rfl ?_
    refine v_setSpecial (s := 1) I D C hfm hso hex fun k1 I => jk ?_
    refine ix_qr _ rfl rfl rfl ?_
    refine q _ _ I (((ag_0 _ S).up (by simp)).up (by simp)) ?_ (va_up_self _ _ _) ⟨w, ?_⟩
    · rw [va_up_ne _ _ (by omega), va_up_self]
    · rw [va_up_ne _ _ (by omega), va_up_ne _ _ (by omega)]; exact WK
end BIT
