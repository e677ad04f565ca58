/-! ===== numbers of sixteen limbs: hasDigitsBelow ===== -/
theorem vl_mod {f : Nat → Nat} {n k : Nat} (hk : k ≤ n) (l : ∀ j, j < n → f j < 1000000000) : vl f n % 1000000000 ^ k = vl f k := by
  have e := vl_split f k (n - k)
  rw [show k + (n - k) = n by omega] at e
  rw [e, Nat.add_mul_mod_self_right]
  exact Nat.mod_eq_of_lt (vl_lt fun j hj => l j (by omega))
section NAT
variable {h : ix_H} {Q : ix_O → ix_H → Prop} {a b d e : Nat} {f g : Nat → Nat}
/-- Natural.hasDigitsBelow -/
theorem c_hasDigitsBelow {p : Nat} (A : nt h a d f) (T : ix_tab h) (hp : p < 2 ^ 31) (q1 : vl f 16 % 10 ^ p ≠ 0 → Q (.inl (some (.int 1))) h) (q0 : vl f 16 % 10 ^ p = 0 → Q (.inl (some (.int 0))) h) : ix_M 63 [.ref a, .int (nI p)] h Q := by
  have hr : p % 9 < 9 := Nat.mod_lt _ (by decide)
  have ht := p10_lt hr
  have fin : ∀ (t : Option Value), (∀ j, j < p / 9 → j < 16 → f j = 0) → ix_E 63 35 [some (.ref a), some (.int (nI p)), t] [] h Q := by
    intro t hz
    refine jx (pc' := 38) (L' := [_, _, _]) (st' := [.int (nI 9), _]) 2 rfl ?_
    refine jidiv (pc' := 39) rfl rfl (by decide) rfl ?_
    rw [nI_div hp (by decide)]
    refine jx (pc' := 41) (L' := [_, _, _]) (st' := [_]) 2 rfl ?_
    rcases Nat.eq_zero_or_pos p with h0 | h0
    · skip
      refine jit (pc' := 72) rfl rfl rfl (by rw [cz_le (by omega)]; exact decide_eq_true (by omega)) ?_
      refine jx (pc' := 73) (L' := [_, _, _]) (st' := [.int (nI 0)]) 1 rfl ?_
      refine ix_qr _ rfl rfl rfl ?_
      exact q0 (by rw [h0, Nat.pow_zero, Nat.mod_one])
    · skip
      refine jin (pc' := 44) 72 rfl rfl rfl rfl (by rw [cz_le (by omega)]; exact decide_eq_false (by omega)) ?_
      rcases Nat.lt_or_ge (p / 9) 16 with hc | hc
      · skip
        refine jx (pc' := 47) (L' := [_, _, _]) (st' := [.int (nI 16), _]) 2 rfl ?_
        refine jcn (pc' := 50) 72 rfl rfl rfl rfl (by rw [cc_ge (by omega) (by omega)]; exact decide_eq_false (by omega)) ?_
        have hf := A.2.2 (p / 9) hc
        have hV : vl f 16 % 10 ^ p = 1000000000 ^ (p / 9) * (f (p / 9) % 10 ^ (p % 9)) := by
          have e1 : 10 ^ p = 1000000000 ^ (p / 9) * 10 ^ (p % 9) := by
            rw [← p10_9]
            congr 1
            omega
          have e2 : (10 : Nat) ^ (p % 9) ∣ 1000000000 := ⟨10 ^ (9 - p % 9), by rw [← Nat.pow_add, show p % 9 + (9 - p % 9) = 9 by omega]⟩
          rw [e1, Nat.mod_mul, vl_mod (by omega) A.2.2, vl_0 (fun j hj => hz j hj (by omega)), Nat.zero_add, ← vl_at hc A.2.2, Nat.mod_mod_of_dvd _ e2]
        refine jx (pc' := 51) (L' := [_, _, _]) (st' := [_]) 1 rfl ?_
        refine jgf (pc' := 54) A.1 rfl rfl rfl rfl rfl ?_
        refine jx (pc' := 55) (L' := [_, _, _]) (st' := [_, _]) 1 rfl ?_
        refine jal (pc' := 56) A.2.1 rfl rfl (by omega) rfl ?_
        refine jx (pc' := 62) (L' := [_, _, _]) (st' := [.int (nI 9), _, _, _]) 3 rfl ?_
        refine jirem (pc' := 63) rfl rfl (by decide) rfl ?_
        rw [nI_rem hp (by decide)]
        refine jat (pc' := 64) T rfl rfl ⟨by decide, hr⟩ rfl ?_
        rw [tv4 hr]
        refine jirem (pc' := 65) rfl rfl (nI_ne0 (by omega) (by omega)) rfl ?_
        rw [nI_rem (by omega) (by omega)]
        have hlt : f (p / 9) % 10 ^ (p % 9) < 1000000000 := Nat.lt_of_le_of_lt (Nat.mod_le _ _) hf
        by_cases hm : f (p / 9) % 10 ^ (p % 9) = 0
        · skip
          refine jit (pc' := 72) rfl rfl rfl (by rw [cz_eq (by omega)]; exact decide_eq_true (by omega)) ?_
          refine jx (pc' := 73) (L' := [_, _, _]) (st' := [.int (nI 0)]) 1 rfl ?_
          refine ix_qr _ rfl rfl rfl ?_
          exact q0 (by rw [hV, hm, Nat.mul_zero])
        · skip
          refine jin (pc' := 68) 72 rfl rfl rfl rfl (by rw [cz_eq (by omega)]; exact decide_eq_false (by omega)) ?_
          refine jx (pc' := 73) (L' := [_, _, _]) (st' := [.int (nI 1)]) 2 rfl ?_
          refine ix_qr _ rfl rfl rfl ?_
          exact q1 (by rw [hV]; exact Nat.ne_of_gt (Nat.mul_pos (Nat.pow_pos (by decide)) (by omega)))
      · skip
        refine jx (pc' := 47) (L' := [_, _, _]) (st' := [.int (nI 16), _]) 2 rfl ?_
        refine jct (pc' := 72) rfl rfl rfl (by rw [cc_ge (by omega) (by omega)]; exact decide_eq_true (by omega)) ?_
        refine jx (pc' := 73) (L' := [_, _, _]) (st' := [.int (nI 0)]) 1 rfl ?_
        refine ix_qr _ rfl rfl rfl ?_
        exact q0 (by rw [vl_0 fun j hj => hz j (by omega) hj]; exact Nat.zero_mod _)
  have loop : ∀ n j : Nat, j + n = 16 → j * 9 ≤ p → (∀ i, i < j → f i = 0) → ix_E 63 2 [some (.ref a), some (.int (nI p)), some (.int (nI j))] [] h Q := by
    intro n
    induction n with
    | zero =>
      intro j hj hjp hz
      refine jx (pc' := 5) (L' := [_, _, _]) (st' := [.int (nI 16), _]) 2 rfl ?_
      refine jct (pc' := 35) rfl rfl rfl (by rw [cc_ge (by omega) (by omega)]; exact decide_eq_true (by omega)) ?_
      exact fin _ fun i h1 h2 => hz i (by omega)
    | succ n ih =>
      intro j hj hjp hz
      have hf := A.2.2 j (by omega)
      refine jx (pc' := 5) (L' := [_, _, _]) (st' := [.int (nI 16), _]) 2 rfl ?_
      refine jcn (pc' := 8) 35 rfl rfl rfl rfl (by rw [cc_ge (by omega) (by omega)]; exact decide_eq_false (by omega)) ?_
      refine jx (pc' := 15) (L' := [_, _, _]) (st' := [_, _]) 6 rfl ?_
      try simp (disch := omega) only [kb9, ki1, nI_add, nI_mul, nI_sub, Nat.zero_mul, Nat.one_mul, Nat.sub_zero, Nat.add_zero, Nat.zero_add, Nat.add_sub_cancel]
      rcases Nat.lt_or_ge p ((j + 1) * 9) with hc | hc
      · skip
        refine jct (pc' := 35) rfl rfl rfl (by rw [cc_gt (by omega) (by omega)]; exact decide_eq_true (by omega)) ?_
        exact fin _ fun i h1 h2 => hz i (by omega)
      · skip
        refine jcn (pc' := 18) 35 rfl rfl rfl rfl (by rw [cc_gt (by omega) (by omega)]; exact decide_eq_false (by omega)) ?_
        refine jx (pc' := 19) (L' := [_, _, _]) (st' := [_]) 1 rfl ?_
        refine jgf (pc' := 22) A.1 rfl rfl rfl rfl rfl ?_
        refine jx (pc' := 23) (L' := [_, _, _]) (st' := [_, _]) 1 rfl ?_
        refine jal (pc' := 24) A.2.1 rfl rfl (by omega) rfl ?_
        by_cases hm : f j = 0
        · skip
          refine jit (pc' := 29) rfl rfl rfl (by rw [cz_eq (by omega)]; exact decide_eq_true (by omega)) ?_
          refine jx (pc' := 2) (L' := [_, _, _]) (st' := []) 2 rfl ?_
          rw [nI_i]
          refine ih (j + 1) (by omega) hc fun i hi => ?_
          rcases Nat.lt_or_ge i j with z | z
          · exact hz i z
          · obtain rfl : i = j := by omega
            exact hm
        · skip
          refine jin (pc' := 27) 29 rfl rfl rfl rfl (by rw [cz_eq (by omega)]; exact decide_eq_false (by omega)) ?_
          refine jx (pc' := 28) (L' := [_, _, _]) (st' := [.int (nI 1)]) 1 rfl ?_
          refine ix_qr _ rfl rfl rfl ?_
          refine q1 fun hV => ?_
          have e1 : 1000000000 ^ (j + 1) ∣ 10 ^ p := by
            rw [p10_b]
            exact Nat.pow_dvd_pow 10 hc
          have e2 := Nat.mod_mod_of_dvd (vl f 16) e1
          rw [hV, vl_mod (by omega) A.2.2, Nat.zero_mod, vl_s, vl_0 hz, Nat.zero_add] at e2
          have : 0 < f j * 1000000000 ^ j := Nat.mul_pos (by omega) (Nat.pow_pos (by decide))
          omega
  refine jx (pc' := 2) (L' := [_, _, _]) (st' := []) 2 rfl ?_
  try simp (disch := omega) only [ki0, nI_add, nI_mul, nI_sub, Nat.zero_mul, Nat.one_mul, Nat.sub_zero, Nat.add_zero, Nat.zero_add, Nat.add_sub_cancel]
  exact loop 16 0 (by omega) (by omega) (fun i hi => absurd hi (by omega))
end NAT
