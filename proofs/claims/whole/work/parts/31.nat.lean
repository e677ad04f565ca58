/-! ===== numbers of sixteen limbs ===== -/
/-- Arrays.fill -/
theorem c_fill {r n : Nat} {f : Nat → Int32} {x : Int32} {h : ix_H} {Q : ix_O → ix_H → Prop} (a : ix_ia h r 0 n f) (q : Q (.inl none) (ix_up h r (cI 0 n (fun j => if j < n then x else f j)))) : ix_M 284 [.ref r, .int x] h Q := by
  have hn : n ≤ 100000 := a.2.2.2.1
  have loop : ∀ (k j : Nat), j + k = n → ix_E 284 5 [some (.ref r), some (.int x), some (.int (nI j)), some (.int (nI n))] [] (ix_up h r (cI 0 n (fun i => if i < j then x else f i))) Q := by
    intro k
    induction k with
    | zero =>
      intro j hj
      refine jx (pc' := 7) (L' := [_, _, _, _]) (st' := [_, _]) 2 rfl ?_
      refine jct (pc' := 20) rfl rfl rfl (by rw [cc_ge (by omega) (by omega)]; exact decide_eq_true (by omega)) ?_
      refine ix_qr _ rfl rfl rfl ?_
      obtain rfl : j = n := by omega
      exact q
    | succ k ih =>
      intro j hj
      refine jx (pc' := 7) (L' := [_, _, _, _]) (st' := [_, _]) 2 rfl ?_
      refine jcn (pc' := 10) 20 rfl rfl rfl rfl (by rw [cc_ge (by omega) (by omega)]; exact decide_eq_false (by omega)) ?_
      refine jx (pc' := 13) (L' := [_, _, _, _]) (st' := [_, _, _]) 3 rfl ?_
      refine jas' (pc' := 14) a rfl rfl (by omega) rfl ?_
      refine jx (pc' := 5) (L' := [_, _, _, _]) (st' := []) 2 rfl ?_
      rw [nI_i]
      have e : upd (fun i => if i < j then x else f i) j x = fun i => if i < j + 1 then x else f i := by
        funext i
        unfold upd
        by_cases h1 : i = j
        · simp [h1]
        · by_cases h2 : i < j
          · simp [h1, h2, show i < j + 1 by omega]
          · simp [h1, h2, show ¬ i < j + 1 by omega]
      rw [e]
      exact ih (j + 1) (by omega)
  refine jx (pc' := 3) (L' := [_, _, _, _]) (st' := [_]) 3 rfl ?_
  simp (disch := omega) only [ki0, nI_add, nI_mul, nI_sub, Nat.zero_mul, Nat.one_mul, Nat.sub_zero, Nat.add_zero, Nat.zero_add, Nat.add_sub_cancel]
  refine jlen (pc' := 4) a rfl rfl rfl ?_
  refine jx (pc' := 5) (L' := [_, _, _, _]) (st' := []) 1 rfl ?_
  have := loop n 0 (by omega)
  rw [show (fun i => if i < 0 then x else f i) = f from by funext i; simp, a.id] at this
  exact this
abbrev cN (f : Nat → Nat) : ix_C := cI 0 16 (fun j => nI (f j))
/-- a Natural at the cell a, its limbs at the cell d -/
def nt (h : ix_H) (a d : Nat) (f : Nat → Nat) : Prop := ix_ob h a 1 [.ref d] ∧ ix_ia h d 0 16 (fun j => nI (f j)) ∧ ∀ j, j < 16 → f j < 1000000000
def vl0 (f : Nat → Nat) : Nat → Nat
  | 0 => 0
  | n + 1 => vl0 f n + f n * 1000000000 ^ n
theorem vl_ex : ∃ v : (Nat → Nat) → Nat → Nat, (∀ f, v f 0 = 0) ∧ ∀ f n, v f (n + 1) = v f n + f n * 1000000000 ^ n := ⟨vl0, fun _ => rfl, fun _ _ => rfl⟩
/-- what the lowest n limbs are worth (by choice, so that nothing unfolds it) -/
noncomputable def vl : (Nat → Nat) → Nat → Nat := Classical.choose vl_ex
theorem vl_z (f : Nat → Nat) : vl f 0 = 0 := (Classical.choose_spec vl_ex).1 f
theorem vl_s (f : Nat → Nat) (n : Nat) : vl f (n + 1) = vl f n + f n * 1000000000 ^ n := (Classical.choose_spec vl_ex).2 f n
theorem vl_cg {f g : Nat → Nat} {n : Nat} (e : ∀ j, j < n → f j = g j) : vl f n = vl g n := by
  induction n with
  | zero => rw [vl_z, vl_z]
  | succ n ih => rw [vl_s, vl_s, ih (fun j hj => e j (by omega)), e n (by omega)]
theorem vl_up {f : Nat → Nat} {n k x : Nat} (h : n ≤ k) : vl (va_up f k x) n = vl f n := vl_cg fun j hj => va_up_ne f x (by omega)
theorem vl_lt {f : Nat → Nat} {n : Nat} (e : ∀ j, j < n → f j < 1000000000) : vl f n < 1000000000 ^ n := by
  induction n with
  | zero => rw [vl_z]; decide
  | succ n ih =>
    have h1 := ih (fun j hj => e j (by omega))
    have h2 := e n (by omega)
    rw [vl_s, Nat.pow_succ]
    have : f n * 1000000000 ^ n ≤ 999999999 * 1000000000 ^ n := Nat.mul_le_mul_right _ (by omega)
    omega
theorem nt.nw {h : ix_H} {a d : Nat} {f f' : Nat → Nat} (A : nt h a d f) (l : ∀ j, j < 16 → f' j < 1000000000) : nt (ix_up h d (cN f')) a d f' := ⟨A.1.up (A.1.ne A.2.1), A.2.1.nw _, l⟩
theorem nt.up {h : ix_H} {a d q : Nat} {c : ix_C} {f : Nat → Nat} (A : nt h a d f) (h1 : a ≠ q) (h2 : d ≠ q) : nt (ix_up h q c) a d f := ⟨A.1.up h1, A.2.1.up h2, A.2.2⟩
theorem nt.eq {h : ix_H} {a d : Nat} {f g : Nat → Nat} (A : nt h a d f) (B : nt h a d g) : ∀ j, j < 16 → f j = g j := by
  intro j hj
  have e := A.2.1.1.symm.trans B.2.1.1
  have e2 : (fun j => nI (f j)) = fun j => nI (g j) := by injection e with e; injection e with _ e; injection e with _ e; injection e
  have e3 : nI (f j) = nI (g j) := congrFun e2 j
  exact (nI_eq (Nat.lt_trans (A.2.2 j hj) (by decide)) (Nat.lt_trans (B.2.2 j hj) (by decide))).mp e3
section NAT
variable {h : ix_H} {Q : ix_O → ix_H → Prop} {a b d e : Nat} {f g : Nat → Nat}
/-- Natural.clear -/
theorem c_clear (A : nt h a d f) (q : ∀ f' : Nat → Nat, (∀ j, j < 16 → f' j = 0) → Q (.inl none) (ix_up h d (cN f'))) : ix_M 53 [.ref a] h Q := by
  refine jx (pc' := 1) (L' := [_]) (st' := [_]) 1 rfl ?_
  refine jgf (pc' := 4) A.1 rfl rfl rfl rfl rfl ?_
  refine jx (pc' := 5) (L' := [_]) (st' := [.int (nI 0), _]) 1 rfl ?_
  refine jcs (pc' := 8) 284 [_, .int (nI 0)] [] rfl rfl rfl rfl rfl rfl rfl rfl ?_
  refine c_fill A.2.1 (jk ?_)
  refine ix_qr _ rfl rfl rfl ?_
  have := q (fun j => if j < 16 then 0 else f j) (fun j hj => by simp [hj])
  have e : (fun j => nI (if j < 16 then 0 else f j)) = fun j => if j < 16 then nI 0 else nI (f j) := by
    funext j
    split <;> rfl
  rw [show cN (fun j => if j < 16 then 0 else f j) = cI 0 16 (fun j => nI (if j < 16 then 0 else f j)) from rfl, e] at this
  exact this
/-- Natural.used -/
theorem c_used (A : nt h a d f) (q : ∀ u : Nat, u ≤ 16 → (∀ j, u ≤ j → j < 16 → f j = 0) → (0 < u → f (u - 1) ≠ 0) → Q (.inl (some (.int (nI u)))) h) : ix_M 51 [.ref a] h Q := by
  have loop : ∀ u : Nat, u ≤ 16 → (∀ j, u ≤ j → j < 16 → f j = 0) → ix_E 51 3 [some (.ref a), some (.int (nI u))] [] h Q := by
    intro u
    induction u with
    | zero =>
      intro hu hz
      refine jx (pc' := 4) (L' := [_, _]) (st' := [_]) 1 rfl ?_
      refine jit (pc' := 24) rfl rfl rfl (by rw [cz_le (by omega)]; exact decide_eq_true (by omega)) ?_
      refine jx (pc' := 25) (L' := [_, _]) (st' := [_]) 1 rfl ?_
      refine jri rfl rfl ?_
      exact q 0 hu hz (fun z => absurd z (by omega))
    | succ u ih =>
      intro hu hz
      have hf := A.2.2 u (by omega)
      refine jx (pc' := 4) (L' := [_, _]) (st' := [_]) 1 rfl ?_
      refine jin (pc' := 7) 24 rfl rfl rfl rfl (by rw [cz_le (by omega)]; exact decide_eq_false (by omega)) ?_
      refine jx (pc' := 8) (L' := [_, _]) (st' := [_]) 1 rfl ?_
      refine jgf (pc' := 11) A.1 rfl rfl rfl rfl rfl ?_
      refine jx (pc' := 14) (L' := [_, _]) (st' := [_, _]) 3 rfl ?_
      simp (disch := omega) only [ki1, nI_add, nI_mul, nI_sub, Nat.zero_mul, Nat.one_mul, Nat.sub_zero, Nat.add_zero, Nat.zero_add, Nat.add_sub_cancel]
      refine jal (pc' := 15) A.2.1 rfl rfl (by omega) rfl ?_
      by_cases hc : f u = 0
      · skip
        refine jin (pc' := 18) 24 rfl rfl rfl rfl (by rw [cz_ne (by omega)]; exact decide_eq_false (by omega)) ?_
        refine jx (pc' := 3) (L' := [_, _]) (st' := []) 2 rfl ?_
        rw [nI_d]
        exact ih (by omega) fun j h1 h2 => by
          rcases Nat.lt_or_ge u j with z | z
          · exact hz j z h2
          · obtain rfl : j = u := by omega
            exact hc
      · skip
        refine jit (pc' := 24) rfl rfl rfl (by rw [cz_ne (by omega)]; exact decide_eq_true (by omega)) ?_
        refine jx (pc' := 25) (L' := [_, _]) (st' := [_]) 1 rfl ?_
        refine jri rfl rfl ?_
        exact q (u + 1) hu hz (fun _ => by simpa using hc)
  refine jx (pc' := 3) (L' := [_, _]) (st' := []) 2 rfl ?_
  simp (disch := omega) only [kb16, nI_add, nI_mul, nI_sub, Nat.zero_mul, Nat.one_mul, Nat.sub_zero, Nat.add_zero, Nat.zero_add, Nat.add_sub_cancel]
  exact loop 16 (by omega) (fun j h1 h2 => absurd h1 (by omega))
end NAT
