/-! ===== numbers of sixteen limbs: lessOne, digitAt ===== -/
theorem vl_tail {f g : Nat → Nat} {n k : Nat} (hk : k ≤ n) (e : ∀ j, k ≤ j → j < n → f j = g j) : vl f n + vl g k = vl g n + vl f k := by
  induction n with
  | zero =>
    obtain rfl : k = 0 := by omega
    rw [vl_z, vl_z]
  | succ n ih =>
    rcases Nat.lt_or_ge n k with z | z
    · obtain rfl : k = n + 1 := by omega
      omega
    · have := ih z (fun j h1 h2 => e j h1 (by omega))
      rw [vl_s, vl_s, e n z (by omega)]
      omega
theorem vl_at {f : Nat → Nat} {n k : Nat} (hk : k < n) (l : ∀ j, j < n → f j < 1000000000) : vl f n / 1000000000 ^ k % 1000000000 = f k := by
  induction n with
  | zero => omega
  | succ n ih =>
    rw [vl_s]
    rcases Nat.lt_or_ge k n with z | z
    · have e : f n * 1000000000 ^ n = 1000000000 ^ k * (1000000000 * (f n * 1000000000 ^ (n - k - 1))) := by
        have : n = k + 1 + (n - k - 1) := by omega
        have e2 : 1000000000 ^ n = 1000000000 ^ k * 1000000000 * 1000000000 ^ (n - k - 1) := by
          rw [← Nat.pow_succ, ← Nat.pow_add]
          congr 1
        rw [e2, ← Nat.mul_assoc, ← Nat.mul_assoc, Nat.mul_comm (f n), Nat.mul_assoc (1000000000 ^ k), Nat.mul_assoc (1000000000 ^ k), Nat.mul_comm (f n) 1000000000, Nat.mul_assoc 1000000000]
      rw [e, Nat.add_mul_div_left _ _ (Nat.pow_pos (by decide)), Nat.add_mul_mod_self_left]
      exact ih z fun j hj => l j (by omega)
    · obtain rfl : k = n := by omega
      have h1 : vl f k < 1000000000 ^ k := vl_lt fun j hj => l j (by omega)
      rw [Nat.mul_comm (f k), Nat.add_mul_div_left _ _ (Nat.pow_pos (by decide)), Nat.div_eq_of_lt h1, Nat.zero_add]
      exact Nat.mod_eq_of_lt (l k (by omega))
section NAT
variable {h : ix_H} {Q : ix_O → ix_H → Prop} {a b d e : Nat} {f g : Nat → Nat}
/-- Natural.lessOne -/
theorem c_lessOne (A : nt h a d f) (hs : 0 < vl f 16) (q : ∀ f' : Nat → Nat, (∀ j, j < 16 → f' j < 1000000000) → vl f' 16 = vl f 16 - 1 → Q (.inl none) (ix_up h d (cN f'))) : ix_M 69 [.ref a] h Q := by
  have loop : ∀ (k j : Nat), j + k = 15 → ∀ f' : Nat → Nat, (∀ i, i < 16 → f' i < 1000000000) → (∀ i, j ≤ i → f' i = f i) → vl f' j + 1 = 1000000000 ^ j → vl f j = 0 → ix_E 69 2 [some (.ref a), some (.int (nI j))] [] (ix_up h d (cN f')) Q := by
    have fin : ∀ (j : Nat), j ≤ 15 → ∀ f' : Nat → Nat, (∀ i, i < 16 → f' i < 1000000000) → (∀ i, j ≤ i → f' i = f i) → vl f' j + 1 = 1000000000 ^ j → vl f j = 0 → 1 ≤ f j → ix_E 69 31 [some (.ref a), some (.int (nI j))] [] (ix_up h d (cN f')) Q := by
      intro j hj f' l hk hv hz hf
      have A' : nt (ix_up h d (cN f')) a d f' := A.nw l
      have hfj := A.2.2 j (by omega)
      refine jx (pc' := 32) (L' := [_, _]) (st' := [_]) 1 rfl ?_
      refine jgf (pc' := 35) A'.1 rfl rfl rfl rfl rfl ?_
      refine jx (pc' := 37) (L' := [_, _]) (st' := [_, _, _, _]) 2 rfl ?_
      refine jal (pc' := 38) A'.2.1 rfl rfl (by omega) rfl ?_
      rw [hk j (by omega)]
      refine jx (pc' := 40) (L' := [_, _]) (st' := [_, _, _]) 2 rfl ?_
      try simp (disch := omega) only [ki1, nI_add, nI_mul, nI_sub, Nat.zero_mul, Nat.one_mul, Nat.sub_zero, Nat.add_zero, Nat.zero_add, Nat.add_sub_cancel]
      refine jas' (pc' := 41) A.2.1 rfl rfl (by omega) rfl ?_
      refine ix_qr _ rfl rfl rfl ?_
      rw [upd_nI]
      refine q _ (fun i hi => ?_) ?_
      · unfold va_up
        split
        · omega
        · exact l i hi
      · have e1 := vl_set (f := f') (n := 16) (k := j) (x := f j - 1) (by omega)
        have e2 := vl_tail (f := f') (g := f) (n := 16) (k := j) (by omega) (fun i h1 h2 => hk i h1)
        rw [hk j (by omega)] at e1
        have e3 : f j * 1000000000 ^ j = (f j - 1) * 1000000000 ^ j + 1000000000 ^ j := by
          rw [← Nat.succ_mul]
          congr 1
          omega
        omega
    intro k
    induction k with
    | zero =>
      intro j hj f' l hk hv hz
      obtain rfl : j = 15 := by omega
      have hf : 1 ≤ f 15 := by
        rcases Nat.eq_zero_or_pos (f 15) with z | z
        · rw [vl_s f 15, hz, z] at hs
          omega
        · exact z
      refine jx (pc' := 5) (L' := [_, _]) (st' := [.int (nI 15), _]) 2 rfl ?_
      refine jct (pc' := 31) rfl rfl rfl (by rw [cc_ge (by omega) (by omega)]; exact decide_eq_true (by omega)) ?_
      exact fin 15 (by omega) f' l hk hv hz hf
    | succ k ih =>
      intro j hj f' l hk hv hz
      have A' : nt (ix_up h d (cN f')) a d f' := A.nw l
      have hfj := A.2.2 j (by omega)
      refine jx (pc' := 5) (L' := [_, _]) (st' := [.int (nI 15), _]) 2 rfl ?_
      refine jcn (pc' := 8) 31 rfl rfl rfl rfl (by rw [cc_ge (by omega) (by omega)]; exact decide_eq_false (by omega)) ?_
      refine jx (pc' := 9) (L' := [_, _]) (st' := [_]) 1 rfl ?_
      refine jgf (pc' := 12) A'.1 rfl rfl rfl rfl rfl ?_
      refine jx (pc' := 13) (L' := [_, _]) (st' := [_, _]) 1 rfl ?_
      refine jal (pc' := 14) A'.2.1 rfl rfl (by omega) rfl ?_
      rw [hk j (by omega)]
      by_cases hc : f j = 0
      · skip
        refine jin (pc' := 17) 31 rfl rfl rfl rfl (by rw [cz_ne (by omega)]; exact decide_eq_false (by omega)) ?_
        refine jx (pc' := 18) (L' := [_, _]) (st' := [_]) 1 rfl ?_
        refine jgf (pc' := 21) A'.1 rfl rfl rfl rfl rfl ?_
        refine jx (pc' := 24) (L' := [_, _]) (st' := [_, _, _]) 2 rfl ?_
        try simp (disch := omega) only [kl999999999, nI_add, nI_mul, nI_sub, Nat.zero_mul, Nat.one_mul, Nat.sub_zero, Nat.add_zero, Nat.zero_add, Nat.add_sub_cancel]
        refine jas' (pc' := 25) A.2.1 rfl rfl (by omega) rfl ?_
        refine jx (pc' := 2) (L' := [_, _]) (st' := []) 2 rfl ?_
        rw [nI_i, upd_nI]
        refine ih (j + 1) (by omega) _ (fun i hi => ?_) (fun i hi => ?_) ?_ ?_
        · unfold va_up
          split
          · omega
          · exact l i hi
        · rw [va_up_ne _ _ (by omega)]; exact hk i (by omega)
        · rw [vl_s, vl_up (Nat.le_refl _), va_up_self, Nat.pow_succ]
          omega
        · rw [vl_s, hz, hc, Nat.zero_mul]
      · skip
        refine jit (pc' := 31) rfl rfl rfl (by rw [cz_ne (by omega)]; exact decide_eq_true (by omega)) ?_
        exact fin j (by omega) f' l hk hv hz (by omega)
  refine jx (pc' := 2) (L' := [_, _]) (st' := []) 2 rfl ?_
  try simp (disch := omega) only [ki0, nI_add, nI_mul, nI_sub, Nat.zero_mul, Nat.one_mul, Nat.sub_zero, Nat.add_zero, Nat.zero_add, Nat.add_sub_cancel]
  have := loop 15 0 (by omega) f A.2.2 (fun _ _ => rfl) (by rw [vl_z]) (vl_z f)
  rw [A.2.1.id] at this
  exact this
end NAT
