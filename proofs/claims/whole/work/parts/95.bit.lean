/-! ===== BitPattern: encode ===== -/
def cB (d : Dm) (k : Nat) : Nat := d.2.2.2.2 / 4294967296 ^ (fN d.1 - 1 - k) % 4294967296
def ecW (d : Dm) (k : Nat) : Nat := if k = 0 then (if d.2.2.1 then 2147483648 else 0) ||| hdV d (cB d 0) else cB d k
section BIT
variable {h : ix_H} {Q : ix_O → ix_H → Prop} {S : Nat → AC} {W : Nat → Int32} {top w r : Nat} {d : Dm}
theorem v_encode (I : Inv h S) (K : S 61 = aC bpC) (WW : S 62 = aC (cI 0 4 W)) (WK : S 63 = aN w) (A : RegD S r d) (q : ∀ h' S' W', Inv h' S' → ag [62, 63] S S' → S' 62 = aC (cI 0 4 W') → isN S' 63 → (∀ k, k < fN d.1 → W' k = nI (ecW d k)) → Q (.inl none) h') : ix_M 88 [.ref 61, .ref r] h Q := by
  have A2 := A.2.1
  have A3 := A.2.2.1
  have vA := A.2.2.2
  have hf := vA.1
  have hco := vA.2.2.2.1
  have fin : ∀ (k1 : ix_H) (W1 : Nat → Int32) (c1 : Nat) (l2 : Int32), Inv k1 (va_up (va_up S 63 (aN c1)) 62 (aC (cI 0 4 W1))) → c1 % 4294967296 = cB d 0 → cB d 0 < 2 ^ 31 → (∀ k, 1 ≤ k → k < fN d.1 → W1 k = nI (cB d k)) → ix_E 88 45 [some (.ref 61), some (.ref r), some (.int l2)] [] k1 Q := by
    intro k1 W1 c1 l2 I hc1 htop hw
    have A' : RegD (va_up (va_up S 63 (aN c1)) 62 (aC (cI 0 4 W1))) r d := (A.up (by decide)).up (by decide)
    have t : ∀ s : Nat, s = (if d.2.2.1 then 2147483648 else 0) → ∀ x : Int32, x = nI s → ix_E 88 58 [some (.ref 61), some (.ref r), some (.int l2)] [.int x] k1 Q := by
      intro s hs x hx
      subst hx
      refine jx (pc' := 60) (L' := [_, _, _]) (st' := [_]) 2 rfl ?_
      refine jgf (pc' := 63) (I.ob (r := 61) K) rfl rfl rfl rfl rfl ?_
      refine jx (pc' := 67) (L' := [_, _, _]) (st' := [_, _, _, .int (nI 0), _]) 4 rfl ?_
      refine jgf (pc' := 70) (I.ob (r := 61) K) rfl rfl rfl rfl rfl ?_
      refine jcv (pc' := 73) 49 [] [_, _, .int (nI 0), _] (I.no (r := 63) rfl) rfl rfl rfl rfl rfl rfl rfl rfl ?_
      refine v_giveWord (a := 63) I rfl fun k2 I => jk ?_
      rw [hc1]
      refine jcs (pc' := 76) 89 [_, _] [_, .int (nI 0), _] rfl rfl rfl rfl rfl rfl rfl rfl ?_
      have A'' : RegD (va_up (va_up (va_up S 63 (aN c1)) 62 (aC (cI 0 4 W1))) 63 (aN (c1 / 4294967296))) r d := A'.up (by decide)
      refine v_head I A'' htop (jk ?_)
      refine jx (pc' := 77) (L' := [_, _, _]) (st' := [_, .int (nI 0), _]) 1 rfl ?_
      try simp (disch := omega) only [nI_add, nI_mul, nI_sub, Nat.zero_mul, Nat.one_mul, Nat.sub_zero, Nat.add_zero, Nat.zero_add, Nat.add_sub_cancel]
      rw [nI_or]
      refine jsB (pc' := 78) (r := 62) (f := W1) (j := 0) I rfl rfl rfl (by decide) rfl fun k3 I => ?_
      refine ix_qr _ rfl rfl rfl ?_
      refine q _ _ _ I (((((ag_0 _ S).up (by decide)).up (by decide)).up (by decide)).up (by decide)) rfl ⟨_, rfl⟩ fun k hk => ?_
      unfold ecW
      by_cases e : k = 0
      · rw [if_pos e, e, ← hs]; rfl
      · rw [if_neg e, ← hw k (by omega) hk]
        unfold upd
        rw [if_neg e]
    refine jx (pc' := 46) (L' := [_, _, _]) (st' := [_]) 1 rfl ?_
    refine jgf (pc' := 49) (I.ob (r := r) A'.2.1) rfl rfl rfl rfl rfl ?_
    cases hng : d.2.2.1 with
    | true =>
      refine jin (pc' := 52) 57 rfl rfl rfl rfl (rfl) ?_
      refine jx (pc' := 58) (L' := [_, _, _]) (st' := [_]) 2 rfl ?_
      try simp (disch := omega) only [nI_add, nI_mul, nI_sub, Nat.zero_mul, Nat.one_mul, Nat.sub_zero, Nat.add_zero, Nat.zero_add, Nat.add_sub_cancel]
      exact t 2147483648 (by rw [hng]; rfl) _ (by decide)
    | false =>
      refine jit (pc' := 57) rfl rfl rfl (rfl) ?_
      refine jx (pc' := 58) (L' := [_, _, _]) (st' := [.int (nI 0)]) 1 rfl ?_
      exact t 0 (by rw [hng]; rfl) _ (by decide)
  refine jx (pc' := 1) (L' := [_, _, _]) (st' := [_]) 1 rfl ?_
  refine jgf (pc' := 4) (I.ob (r := 61) K) rfl rfl rfl rfl rfl ?_
  refine jx (pc' := 5) (L' := [_, _, _]) (st' := [_, _]) 1 rfl ?_
  refine jgf (pc' := 8) (I.ob (r := r) A2) rfl rfl rfl rfl rfl ?_
  refine jcv (pc' := 11) 48 [_] [] (I.no (r := 63) WK) rfl rfl rfl rfl rfl rfl rfl rfl ?_
  refine v_copy (a := 63) I WK A3 fun k1 I => jk ?_
  have A' : RegD (va_up S 63 (aN d.2.2.2.2)) r d := A.up (by decide)
  refine jx (pc' := 15) (L' := [_, _, _]) (st' := [_, _]) 2 rfl ?_
  refine jgf (pc' := 18) (I.ob (r := r) A'.2.1) rfl rfl rfl rfl rfl ?_
  refine jat (pc' := 19) I.tab rfl rfl ⟨by decide, hf⟩ rfl ?_
  rw [tv0 hf]
  have hIW : ∀ {k : ix_H} {c : Nat}, Inv k (va_up S 63 (aN c)) → Inv k (va_up (va_up S 63 (aN c)) 62 (aC (cI 0 4 W))) := fun {k c} I => by
    rw [va_up_id (show va_up S 63 (aN c) 62 = aC (cI 0 4 W) from WW)]
    exact I
  have sw : ∀ (c c' : Nat) (W1 W2 : Nat → Int32), va_up (va_up (va_up (va_up S 63 (aN c)) 62 (aC (cI 0 4 W1))) 63 (aN c')) 62 (aC (cI 0 4 W2)) = va_up (va_up S 63 (aN c')) 62 (aC (cI 0 4 W2)) := fun c c' W1 W2 => by
    funext j
    by_cases e1 : j = 62
    · rw [e1, va_up_self, va_up_self]
    · rw [va_up_ne _ _ e1, va_up_ne _ _ e1]
      by_cases e2 : j = 63
      · rw [e2, va_up_self, va_up_self]
      · rw [va_up_ne _ _ e2, va_up_ne _ _ e2, va_up_ne _ _ e1, va_up_ne _ _ e2]
  obtain ⟨fm, so, ng, ex, co⟩ := d
  dsimp only at *
  have I := hIW I
  rcases f3 hf with rfl | rfl | rfl
  · have hc7 : co < 10 ^ 7 := hco
    refine jx (pc' := 23) (L' := [_, _, _]) (st' := [_]) 4 rfl ?_
    try simp (disch := omega) only [ki1, nI_add, nI_mul, nI_sub, Nat.zero_mul, Nat.one_mul, Nat.sub_zero, Nat.add_zero, Nat.zero_add, Nat.add_sub_cancel]
    refine jit (pc' := 45) rfl rfl rfl (by decide) ?_
    exact fin _ W co _ I (by simp [cB, fN]) (by simp [cB, fN]; omega) (fun k h1 h2 => by simp [fN] at h2; omega)
  · have hc16 : co < 10 ^ 16 := hco
    refine jx (pc' := 23) (L' := [_, _, _]) (st' := [_]) 4 rfl ?_
    try simp (disch := omega) only [ki1, nI_add, nI_mul, nI_sub, Nat.zero_mul, Nat.one_mul, Nat.sub_zero, Nat.add_zero, Nat.zero_add, Nat.add_sub_cancel]
    refine jin (pc' := 26) 45 rfl rfl rfl rfl (by decide) ?_
    refine jx (pc' := 27) (L' := [_, _, _]) (st' := [_]) 1 rfl ?_
    refine jgf (pc' := 30) (I.ob (r := 61) K) rfl rfl rfl rfl rfl ?_
    refine jx (pc' := 32) (L' := [_, _, _]) (st' := [_, _, _]) 2 rfl ?_
    refine jgf (pc' := 35) (I.ob (r := 61) K) rfl rfl rfl rfl rfl ?_
    refine jcv (pc' := 38) 49 [] [_, _] (I.no (r := 63) rfl) rfl rfl rfl rfl rfl rfl rfl rfl ?_
    refine v_giveWord (a := 63) I rfl fun k2 I => jk ?_
    refine jsB (pc' := 39) (r := 62) (f := W) (j := 1) I rfl rfl rfl (by decide) rfl fun k3 I => ?_
    rw [sw] at I
    refine jx (pc' := 23) (L' := [_, _, _]) (st' := [_]) 3 rfl ?_
    refine jit (pc' := 45) rfl rfl rfl (by decide) ?_
    refine fin _ _ _ _ I (by simp [cB, fN]) (by simp [cB, fN]; omega) (fun k h1 h2 => ?_)
    obtain rfl : k = 1 := by simp [fN] at h2; omega
    simp [cB, fN, upd]
  · have hc34 : co < 10 ^ 34 := hco
    refine jx (pc' := 23) (L' := [_, _, _]) (st' := [_]) 4 rfl ?_
    try simp (disch := omega) only [ki1, nI_add, nI_mul, nI_sub, Nat.zero_mul, Nat.one_mul, Nat.sub_zero, Nat.add_zero, Nat.zero_add, Nat.add_sub_cancel]
    refine jin (pc' := 26) 45 rfl rfl rfl rfl (by decide) ?_
    refine jx (pc' := 27) (L' := [_, _, _]) (st' := [_]) 1 rfl ?_
    refine jgf (pc' := 30) (I.ob (r := 61) K) rfl rfl rfl rfl rfl ?_
    refine jx (pc' := 32) (L' := [_, _, _]) (st' := [_, _, _]) 2 rfl ?_
    refine jgf (pc' := 35) (I.ob (r := 61) K) rfl rfl rfl rfl rfl ?_
    refine jcv (pc' := 38) 49 [] [_, _] (I.no (r := 63) rfl) rfl rfl rfl rfl rfl rfl rfl rfl ?_
    refine v_giveWord (a := 63) I rfl fun k2 I => jk ?_
    refine jsB (pc' := 39) (r := 62) (f := W) (j := 3) I rfl rfl rfl (by decide) rfl fun k3 I => ?_
    rw [sw] at I
    refine jx (pc' := 23) (L' := [_, _, _]) (st' := [_]) 3 rfl ?_
    refine jin (pc' := 26) 45 rfl rfl rfl rfl (by decide) ?_
    refine jx (pc' := 27) (L' := [_, _, _]) (st' := [_]) 1 rfl ?_
    refine jgf (pc' := 30) (I.ob (r := 61) K) rfl rfl rfl rfl rfl ?_
    refine jx (pc' := 32) (L' := [_, _, _]) (st' := [_, _, _]) 2 rfl ?_
    refine jgf (pc' := 35) (I.ob (r := 61) K) rfl rfl rfl rfl rfl ?_
    refine jcv (pc' := 38) 49 [] [_, _] (I.no (r := 63) rfl) rfl rfl rfl rfl rfl rfl rfl rfl ?_
    refine v_giveWord (a := 63) I rfl fun k2 I => jk ?_
    refine jsB (pc' := 39) (r := 62) (f := upd W 3 _) (j := 2) I rfl rfl rfl (by decide) rfl fun k3 I => ?_
    rw [sw] at I
    refine jx (pc' := 23) (L' := [_, _, _]) (st' := [_]) 3 rfl ?_
    refine jin (pc' := 26) 45 rfl rfl rfl rfl (by decide) ?_
    refine jx (pc' := 27) (L' := [_, _, _]) (st' := [_]) 1 rfl ?_
    refine jgf (pc' := 30) (I.ob (r := 61) K) rfl rfl rfl rfl rfl ?_
    refine jx (pc' := 32) (L' := [_, _, _]) (st' := [_, _, _]) 2 rfl ?_
    refine jgf (pc' := 35) (I.ob (r := 61) K) rfl rfl rfl rfl rfl ?_
    refine jcv (pc' := 38) 49 [] [_, _] (I.no (r := 63) rfl) rfl rfl rfl rfl rfl rfl rfl rfl ?_
    refine v_giveWord (a := 63) I rfl fun k2 I => jk ?_
    refine jsB (pc' := 39) (r := 62) (f := upd (upd W 3 _) 2 _) (j := 1) I rfl rfl rfl (by decide) rfl fun k3 I => ?_
    rw [sw] at I
    refine jx (pc' := 23) (L' := [_, _, _]) (st' := [_]) 3 rfl ?_
    refine jit (pc' := 45) rfl rfl rfl (by decide) ?_
    refine fin _ _ _ _ I (by simp [cB, fN, Nat.div_div_eq_div_mul]) (by simp [cB, fN]; omega) (fun k h1 h2 => ?_)
    have hk : k = 1 ∨ k = 2 ∨ k = 3 := by simp [fN] at h2; omega
    rcases hk with rfl | rfl | rfl
    · simp [cB, fN, upd, Nat.div_div_eq_div_mul]
    · simp [cB, fN, upd]
    · simp [cB, fN, upd]
end BIT
