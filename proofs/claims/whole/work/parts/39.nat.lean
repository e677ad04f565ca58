/-! ===== numbers of sixteen limbs: setPowerOfTen, digits ===== -/
theorem p10_9 (k r : Nat) : 10 ^ (k * 9 + r) = 1000000000 ^ k * 10 ^ r := by
  rw [Nat.pow_add, Nat.mul_comm k 9, Nat.pow_mul]
theorem vl_hi {f : Nat → Nat} {n u : Nat} (hu : u ≤ n) (e : ∀ j, u ≤ j → j < n → f j = 0) : vl f n = vl f u := by
  induction n with
  | zero =>
    obtain rfl : u = 0 := by omega
    rfl
  | succ n ih =>
    rcases Nat.lt_or_ge n u with z | z
    · obtain rfl : u = n + 1 := by omega
      rfl
    · rw [vl_s, e n z (by omega), Nat.zero_mul, Nat.add_zero]
      exact ih z fun j h1 h2 => e j h1 (by omega)
section NAT
variable {h : ix_H} {Q : ix_O → ix_H → Prop} {a b d e : Nat} {f g : Nat → Nat}
/-- Natural.setPowerOfTen -/
theorem c_setPowerOfTen {p : Nat} (A : nt h a d f) (T : ix_tab h) (hp : p < 144) (q : ∀ f' : Nat → Nat, (∀ j, j < 16 → f' j < 1000000000) → vl f' 16 = 10 ^ p → Q (.inl none) (ix_up h d (cN f'))) : ix_M 68 [.ref a, .int (nI p)] h Q := by
  have hc : p / 9 < 16 := by omega
  have hr : p % 9 < 9 := Nat.mod_lt _ (by decide)
  have ht := p10_lt hr
  refine jx (pc' := 1) (L' := [_, _, _]) (st' := [_]) 1 rfl ?_
  refine jcv (pc' := 4) 53 [] [] A.1 rfl rfl rfl rfl rfl rfl rfl rfl ?_
  refine c_clear A fun f0 hz => jk ?_
  have A' : nt (ix_up h d (cN f0)) a d f0 := A.nw fun j hj => by rw [hz j hj]; decide
  refine jx (pc' := 7) (L' := [_, _, _]) (st' := [.int (nI 9), _]) 2 rfl ?_
  refine jidiv (pc' := 8) rfl rfl (by decide) rfl ?_
  rw [nI_div (by omega) (by decide)]
  refine jx (pc' := 10) (L' := [_, _, _]) (st' := [_]) 2 rfl ?_
  refine jin (pc' := 13) 33 rfl rfl rfl rfl (by rw [cz_lt (by omega)]; exact decide_eq_false (by omega)) ?_
  refine jx (pc' := 16) (L' := [_, _, _]) (st' := [.int (nI 16), _]) 2 rfl ?_
  refine jcn (pc' := 19) 33 rfl rfl rfl rfl (by rw [cc_ge (by omega) (by omega)]; exact decide_eq_false (by omega)) ?_
  refine jx (pc' := 20) (L' := [_, _, _]) (st' := [_]) 1 rfl ?_
  refine jgf (pc' := 23) A'.1 rfl rfl rfl rfl rfl ?_
  refine jx (pc' := 30) (L' := [_, _, _]) (st' := [.int (nI 9), _, _, _, _]) 4 rfl ?_
  refine jirem (pc' := 31) rfl rfl (by decide) rfl ?_
  rw [nI_rem (by omega) (by decide)]
  have T' : ix_tab (ix_up h d (cN f0)) := T.up A.2.1.2.1
  refine jat (pc' := 32) T' rfl rfl ⟨by decide, hr⟩ rfl ?_
  rw [tv4 hr]
  refine jas' (pc' := 33) A.2.1 rfl rfl (by omega) rfl ?_
  refine ix_qr _ rfl rfl rfl ?_
  rw [upd_nI]
  refine q _ (fun j hj => ?_) ?_
  · unfold va_up
    split
    · omega
    · rw [hz j hj]; decide
  · have := vl_set (f := f0) (n := 16) (k := p / 9) (x := 10 ^ (p % 9)) hc
    rw [vl_0 hz, hz _ hc, Nat.zero_mul, Nat.zero_add, Nat.add_zero] at this
    rw [this, Nat.mul_comm, ← p10_9]
    congr 1
    omega
/-- Natural.digits -/
theorem c_digits (A : nt h a d f) (T : ix_tab h) (q : ∀ D : Nat, D ≤ 144 → (vl f 16 = 0 → D = 0) → (0 < vl f 16 → 1 ≤ D ∧ 10 ^ (D - 1) ≤ vl f 16) → vl f 16 < 10 ^ D → Q (.inl (some (.int (nI D)))) h) : ix_M 52 [.ref a] h Q := by
  refine jx (pc' := 1) (L' := [_, _, _]) (st' := [_]) 1 rfl ?_
  refine jcv (pc' := 4) 51 [] [] A.1 rfl rfl rfl rfl rfl rfl rfl rfl ?_
  refine c_used A fun u hu hz hn => jk ?_
  refine jx (pc' := 6) (L' := [_, _, _]) (st' := [_]) 2 rfl ?_
  rcases Nat.eq_zero_or_pos u with rfl | h0
  · skip
    refine jin (pc' := 9) 11 rfl rfl rfl rfl (by rw [cz_ne (by omega)]; exact decide_eq_false (by omega)) ?_
    refine jx (pc' := 10) (L' := [_, _, _]) (st' := [.int (nI 0)]) 1 rfl ?_
    refine jri rfl rfl ?_
    have hv : vl f 16 = 0 := vl_0 fun j hj => hz j (by omega) hj
    exact q 0 (by omega) (fun _ => rfl) (fun z => absurd z (by omega)) (by rw [hv]; decide)
  · skip
    refine jit (pc' := 11) rfl rfl rfl (by rw [cz_ne (by omega)]; exact decide_eq_true (by omega)) ?_
    refine jx (pc' := 13) (L' := [_, _, _]) (st' := []) 2 rfl ?_
    try simp (disch := omega) only [ki1, nI_add, nI_mul, nI_sub, Nat.zero_mul, Nat.one_mul, Nat.sub_zero, Nat.add_zero, Nat.zero_add, Nat.add_sub_cancel]
    have hfu := A.2.2 (u - 1) (by omega)
    have hf0 := hn h0
    have hV : vl f 16 = vl f (u - 1) + f (u - 1) * 1000000000 ^ (u - 1) := by
      rw [vl_hi hu hz, show u = u - 1 + 1 by omega, vl_s]
      rfl
    have hlo : vl f (u - 1) < 1000000000 ^ (u - 1) := vl_lt fun j hj => A.2.2 j (by omega)
    have fin : ∀ n : Nat, 1 ≤ n → n ≤ 9 → 10 ^ (n - 1) ≤ f (u - 1) → f (u - 1) < 10 ^ n → ix_E 52 41 [some (.ref a), some (.int (nI u)), some (.int (nI n))] [] h Q := by
      intro n h1 h9 hge hlt
      refine jx (pc' := 49) (L' := [_, _, _]) (st' := [_]) 7 rfl ?_
      try simp (disch := omega) only [kb9, ki1, nI_add, nI_mul, nI_sub, Nat.zero_mul, Nat.one_mul, Nat.sub_zero, Nat.add_zero, Nat.zero_add, Nat.add_sub_cancel]
      refine jri rfl rfl ?_
      have a1 : 1000000000 ^ (u - 1) * 10 ^ (n - 1) ≤ 1000000000 ^ (u - 1) * f (u - 1) := Nat.mul_le_mul_left _ hge
      have a2 : (f (u - 1) + 1) * 1000000000 ^ (u - 1) ≤ 10 ^ n * 1000000000 ^ (u - 1) := Nat.mul_le_mul_right _ (by omega)
      rw [Nat.add_mul, Nat.one_mul] at a2
      have hp : 0 < 1000000000 ^ (u - 1) := Nat.pow_pos (by decide)
      have hq : 0 < f (u - 1) * 1000000000 ^ (u - 1) := Nat.mul_pos (by omega) hp
      refine q ((u - 1) * 9 + n) (by omega) (fun z => absurd z (by omega)) (fun _ => ⟨by omega, ?_⟩) ?_
      · rw [show (u - 1) * 9 + n - 1 = (u - 1) * 9 + (n - 1) by omega, p10_9, hV]
        rw [Nat.mul_comm _ (f (u - 1))] at a1
        omega
      · rw [p10_9, hV, Nat.mul_comm (1000000000 ^ (u - 1))]
        omega
    have loop : ∀ (k n : Nat), n + k = 9 → 1 ≤ n → 10 ^ (n - 1) ≤ f (u - 1) → ix_E 52 13 [some (.ref a), some (.int (nI u)), some (.int (nI n))] [] h Q := by
      intro k
      induction k with
      | zero =>
        intro n hk h1 hge
        obtain rfl : n = 9 := by omega
        refine jx (pc' := 16) (L' := [_, _, _]) (st' := [.int (nI 9), _]) 2 rfl ?_
        refine jct (pc' := 41) rfl rfl rfl (by rw [cc_ge (by omega) (by omega)]; exact decide_eq_true (by omega)) ?_
        exact fin 9 h1 (by omega) hge hfu
      | succ k ih =>
        intro n hk h1 hge
        have ht := p10_lt (j := n) (by omega)
        refine jx (pc' := 16) (L' := [_, _, _]) (st' := [.int (nI 9), _]) 2 rfl ?_
        refine jcn (pc' := 19) 41 rfl rfl rfl rfl (by rw [cc_ge (by omega) (by omega)]; exact decide_eq_false (by omega)) ?_
        refine jx (pc' := 20) (L' := [_, _, _]) (st' := [_]) 1 rfl ?_
        refine jgf (pc' := 23) A.1 rfl rfl rfl rfl rfl ?_
        refine jx (pc' := 26) (L' := [_, _, _]) (st' := [_, _]) 3 rfl ?_
        try simp (disch := omega) only [ki1, nI_add, nI_mul, nI_sub, Nat.zero_mul, Nat.one_mul, Nat.sub_zero, Nat.add_zero, Nat.zero_add, Nat.add_sub_cancel]
        refine jal (pc' := 27) A.2.1 rfl rfl (by omega) rfl ?_
        refine jx (pc' := 31) (L' := [_, _, _]) (st' := [_, _, _]) 2 rfl ?_
        refine jat (pc' := 32) T rfl rfl ⟨by decide, (by omega : n < 9)⟩ rfl ?_
        rw [tv4 (by omega)]
        by_cases hc : f (u - 1) < 10 ^ n
        · skip
          refine jct (pc' := 41) rfl rfl rfl (by rw [cc_lt (by omega) (by omega)]; exact decide_eq_true (by omega)) ?_
          exact fin n h1 (by omega) hge hc
        · skip
          refine jcn (pc' := 35) 41 rfl rfl rfl rfl (by rw [cc_lt (by omega) (by omega)]; exact decide_eq_false (by omega)) ?_
          refine jx (pc' := 13) (L' := [_, _, _]) (st' := []) 2 rfl ?_
          rw [nI_i]
          exact ih (n + 1) (by omega) (by omega) (by simpa using hc)
    exact loop 8 1 (by omega) (by omega) (by simp; omega)
end NAT
