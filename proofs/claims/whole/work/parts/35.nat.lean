/-! ===== numbers of sixteen limbs: divideBy, copy, setOne ===== -/
theorem vl_set {f : Nat → Nat} {n k x : Nat} (hk : k < n) : vl (va_up f k x) n + f k * 1000000000 ^ k = vl f n + x * 1000000000 ^ k := by
  induction n with
  | zero => omega
  | succ n ih =>
    rw [vl_s, vl_s]
    rcases Nat.lt_or_ge k n with z | z
    · have := ih z
      rw [va_up_ne f x (by omega)]
      omega
    · obtain rfl : k = n := by omega
      rw [vl_up (Nat.le_refl _), va_up_self]
      omega
section NAT
variable {h : ix_H} {Q : ix_O → ix_H → Prop} {a b d e : Nat} {f g : Nat → Nat}
set_option maxHeartbeats 1000000 in
/-- Natural.divideBy -/
theorem c_divideBy {m : Nat} (A : nt h a d f) (h0 : 1 ≤ m) (hm : m ≤ 4294967296) (q : ∀ (f' : Nat → Nat) (r : Nat), (∀ j, j < 16 → f' j < 1000000000) → r < m → vl f 16 = vl f' 16 * m + r → Q (.inl (some (.long (lN r)))) (ix_up h d (cN f'))) : ix_M 50 [.ref a, .long (lN m)] h Q := by
  have loop : ∀ (k r u : Nat), k ≤ 16 → r < m → ∀ (t : Option Value) (f' : Nat → Nat), (∀ i, i < 16 → f' i < 1000000000) → (∀ i, i < k → f' i = f i) → vl f' 16 = vl f' k + u * 1000000000 ^ k → vl f 16 = vl f k + (u * m + r) * 1000000000 ^ k → ix_E 50 14 [some (.ref a), some (.long (lN m)), none, some (.long (lN r)), none, some (.int (nI k + Int32.ofInt (-1))), t, none] [] (ix_up h d (cN f')) Q := by
    intro k
    induction k with
    | zero =>
      intro r u hk hr t f' l he h1 h2
      refine jx (pc' := 16) (L' := [_, _, _, _, _, _, _, _]) (st' := [_]) 1 rfl ?_
      refine jit (pc' := 58) rfl rfl rfl (by decide) ?_
      refine jx (pc' := 59) (L' := [_, _, _, _, _, _, _, _]) (st' := [_]) 1 rfl ?_
      refine ix_qr _ rfl rfl rfl ?_
      refine q f' r l hr ?_
      rw [vl_z, Nat.pow_zero, Nat.mul_one, Nat.zero_add] at h1 h2
      rw [h1]
      exact h2
    | succ k ih =>
      intro r u hk hr t f' l he h1 h2
      have hfk := A.2.2 k (by omega)
      have A' : nt (ix_up h d (cN f')) a d f' := A.nw l
      have htl : r * 1000000000 + f k < 2 ^ 63 := by omega
      have htm : (r * 1000000000 + f k) / m < 1000000000 := by
        rw [Nat.div_lt_iff_lt_mul (by omega)]
        have : (r + 1) * 1000000000 ≤ m * 1000000000 := Nat.mul_le_mul_right _ (by omega)
        rw [Nat.mul_comm 1000000000 m]
        omega
      rw [nI_d]
      refine jx (pc' := 16) (L' := [_, _, _, _, _, _, _, _]) (st' := [_]) 1 rfl ?_
      refine jin (pc' := 19) 58 rfl rfl rfl rfl (by rw [cz_lt (by omega)]; exact decide_eq_false (by omega)) ?_
      refine jx (pc' := 25) (L' := [_, _, _, _, _, _, _, _]) (st' := [_, _]) 4 rfl ?_
      try simp (disch := omega) only [kL1000000000, nI_add, nI_mul, nI_sub, nI_l, lN_i, lN_add, lN_mul, lN_sub, Nat.zero_mul, Nat.one_mul, Nat.sub_zero, Nat.add_zero, Nat.zero_add, Nat.add_sub_cancel]
      refine jgf (pc' := 28) A'.1 rfl rfl rfl rfl rfl ?_
      refine jx (pc' := 30) (L' := [_, _, _, _, _, _, _, _]) (st' := [_, _, _]) 1 rfl ?_
      refine jal (pc' := 31) A'.2.1 rfl rfl (by omega) rfl ?_
      rw [he k (by omega)]
      refine jx (pc' := 36) (L' := [_, _, _, _, _, _, _, _]) (st' := [_]) 4 rfl ?_
      try simp (disch := omega) only [nI_add, nI_mul, nI_sub, nI_l, lN_i, lN_add, lN_mul, lN_sub, Nat.zero_mul, Nat.one_mul, Nat.sub_zero, Nat.add_zero, Nat.zero_add, Nat.add_sub_cancel]
      refine jgf (pc' := 39) A'.1 rfl rfl rfl rfl rfl ?_
      refine jx (pc' := 44) (L' := [_, _, _, _, _, _, _, _]) (st' := [_, _, _, _]) 3 rfl ?_
      refine jldiv (pc' := 45) rfl rfl (lN_n0 (by omega) (by omega)) rfl ?_
      rw [lN_div htl (by omega)]
      refine jx (pc' := 46) (L' := [_, _, _, _, _, _, _, _]) (st' := [_, _, _]) 1 rfl ?_
      try simp (disch := omega) only [nI_add, nI_mul, nI_sub, nI_l, lN_i, lN_add, lN_mul, lN_sub, Nat.zero_mul, Nat.one_mul, Nat.sub_zero, Nat.add_zero, Nat.zero_add, Nat.add_sub_cancel]
      refine jas' (pc' := 47) A.2.1 rfl rfl (by omega) rfl ?_
      refine jx (pc' := 50) (L' := [_, _, _, _, _, _, _, _]) (st' := [_, _]) 2 rfl ?_
      refine jlrem (pc' := 51) rfl rfl (lN_n0 (by omega) (by omega)) rfl ?_
      rw [lN_rem htl (by omega)]
      refine jx (pc' := 14) (L' := [_, _, _, _, _, _, _, _]) (st' := []) 3 rfl ?_
      rw [upd_nI]
      have e0 := vl_set (f := f') (n := 16) (k := k) (x := (r * 1000000000 + f k) / m) (by omega)
      rw [he k (by omega)] at e0
      have e1 : vl f' (k + 1) = vl f' k + f k * 1000000000 ^ k := by rw [vl_s, he k (by omega)]
      refine ih ((r * 1000000000 + f k) % m) (u * 1000000000 + (r * 1000000000 + f k) / m) (by omega) (Nat.mod_lt _ (by omega)) _ _ (fun i hi => ?_) (fun i hi => ?_) ?_ ?_
      · unfold va_up
        split
        · omega
        · exact l i hi
      · rw [va_up_ne _ _ (by omega)]; exact he i (by omega)
      · rw [vl_up (Nat.le_refl _), Nat.add_mul]
        rw [e1, Nat.pow_succ] at h1
        have e2 : u * (1000000000 ^ k * 1000000000) = u * 1000000000 * 1000000000 ^ k := by rw [Nat.mul_comm (1000000000 ^ k), Nat.mul_assoc]
        omega
      · rw [h2, vl_s, Nat.pow_succ, Nat.add_assoc]
        congr 1
        rw [Nat.mul_comm (1000000000 ^ k) 1000000000, ← Nat.mul_assoc, ← Nat.add_mul]
        congr 1
        have e3 := Nat.div_add_mod (r * 1000000000 + f k) m
        have e4 : (u * 1000000000 + (r * 1000000000 + f k) / m) * m = u * m * 1000000000 + m * ((r * 1000000000 + f k) / m) := by
          rw [Nat.add_mul, Nat.mul_right_comm, Nat.mul_comm m]
        rw [e4, Nat.add_mul]
        omega
  refine jx (pc' := 3) (L' := [_, _, _, _, _, _, _, _]) (st' := [_]) 3 rfl ?_
  try simp (disch := omega) only [nI_add, nI_mul, nI_sub, nI_l, lN_i, lN_add, lN_mul, lN_sub, Nat.zero_mul, Nat.one_mul, Nat.sub_zero, Nat.add_zero, Nat.zero_add, Nat.add_sub_cancel]
  refine jit (pc' := 8) rfl rfl rfl (by exact decide_eq_true ((lg_cmp_ge _ _).mpr (Int64.le_iff_toInt_le.mpr (by show (lN 1).toInt ≤ (lN m).toInt; rw [lN_t (by omega), lN_t (by omega)]; omega)))) ?_
  refine jx (pc' := 14) (L' := [_, _, _, _, _, _, _, _]) (st' := []) 4 rfl ?_
  try simp (disch := omega) only [kb15, nI_add, nI_mul, nI_sub, nI_l, lN_i, lN_add, lN_mul, lN_sub, Nat.zero_mul, Nat.one_mul, Nat.sub_zero, Nat.add_zero, Nat.zero_add, Nat.add_sub_cancel]
  have := loop 16 0 0 (by omega) (by omega) none f A.2.2 (fun _ _ => rfl) (by rw [Nat.zero_mul]; rfl) (by rw [Nat.zero_mul, Nat.zero_add, Nat.zero_mul]; rfl)
  rw [nI_d 15, A.2.1.id] at this
  exact this
end NAT
