/-! ===== digits of numbers ===== -/
theorem dgl (X lo : Nat) {j k : Nat} (h : j < k) : (X * 10 ^ k + lo) / 10 ^ j % 10 = lo / 10 ^ j % 10 := by
  have e : 10 ^ k = 10 ^ (k - j - 1) * 10 * 10 ^ j := by
    rw [← Nat.pow_succ, ← Nat.pow_add]
    congr 1
    omega
  rw [e, ← Nat.mul_assoc, ← Nat.mul_assoc, Nat.add_comm, Nat.add_mul_div_right _ _ (pp0 j), Nat.add_mul_mod_self_right]
theorem dgh (X : Nat) {r j m : Nat} (hr : r < 10 ^ m) (h : m ≤ j) : (X * 10 ^ m + r) / 10 ^ j = X / 10 ^ (j - m) := by
  have e : 10 ^ j = 10 ^ m * 10 ^ (j - m) := by
    rw [← Nat.pow_add]
    congr 1
    omega
  rw [e, ← Nat.div_div_eq_div_mul, Nat.add_comm, Nat.add_mul_div_right _ _ (pp0 m), Nat.div_eq_of_lt hr, Nat.zero_add]
/-- a number in three parts at a digit -/
theorem d3 (V k : Nat) : V = V / 10 ^ (k + 1) * 10 ^ (k + 1) + V / 10 ^ k % 10 * 10 ^ k + V % 10 ^ k := by
  have a := Nat.div_add_mod V (10 ^ k)
  have b := Nat.div_add_mod (V / 10 ^ k) 10
  have c : V / 10 ^ (k + 1) = V / 10 ^ k / 10 := by rw [Nat.pow_succ, Nat.div_div_eq_div_mul]
  rw [c, Nat.pow_succ]
  generalize V / 10 ^ k / 10 = x at *
  generalize V / 10 ^ k % 10 = y at *
  rw [← b, Nat.mul_comm, Nat.add_mul] at a
  rw [← Nat.mul_assoc, Nat.mul_right_comm, Nat.mul_comm x 10]
  omega
/-- a digit is set -/
def sd (V k d : Nat) : Nat := V / 10 ^ (k + 1) * 10 ^ (k + 1) + d * 10 ^ k + V % 10 ^ k
theorem sd_b {k d : Nat} (V : Nat) (hd : d < 10) : d * 10 ^ k + V % 10 ^ k < 10 ^ (k + 1) := by
  have h1 := Nat.mod_lt V (pp0 k)
  have h2 : d * 10 ^ k ≤ 9 * 10 ^ k := Nat.mul_le_mul_right _ (by omega)
  rw [Nat.pow_succ]
  omega
theorem sd_d {V k d j : Nat} (hd : d < 10) : sd V k d / 10 ^ j % 10 = if j = k then d else V / 10 ^ j % 10 := by
  have h1 := Nat.mod_lt V (pp0 k)
  have hb := sd_b (k := k) V hd
  unfold sd
  split
  · next e =>
    subst e
    rw [Nat.add_assoc, dgl _ _ (Nat.lt_succ_self j), dgh d h1 (Nat.le_refl j), Nat.sub_self, Nat.pow_zero, Nat.div_one]
    omega
  · next e =>
    by_cases h : j < k
    · rw [Nat.add_assoc, dgl _ _ (by omega), dgl _ _ h]
      rw [d3 V k, Nat.add_assoc, dgl _ _ (by omega), dgl _ _ h]
      congr 2
      rw [← Nat.add_assoc, ← d3 V k]
    · rw [Nat.add_assoc, dgh _ hb (by omega), Nat.div_div_eq_div_mul, ← Nat.pow_add, show k + 1 + (j - (k + 1)) = j by omega]
theorem sd_id (V k : Nat) : sd V k (V / 10 ^ k % 10) = V := (d3 V k).symm
theorem sd_lt {V k d n : Nat} (hd : d < 10) (hV : V < 10 ^ n) (hk : k < n) : sd V k d < 10 ^ n := by
  have hb := sd_b (k := k) V hd
  have e : 10 ^ n = 10 ^ (n - (k + 1)) * 10 ^ (k + 1) := by
    rw [← Nat.pow_add]
    congr 1
    omega
  have h2 : V / 10 ^ (k + 1) < 10 ^ (n - (k + 1)) := by
    refine (Nat.div_lt_iff_lt_mul (pp0 _)).mpr ?_
    rw [← e]
    exact hV
  have h3 : (V / 10 ^ (k + 1) + 1) * 10 ^ (k + 1) ≤ 10 ^ (n - (k + 1)) * 10 ^ (k + 1) := Nat.mul_le_mul_right _ h2
  rw [Nat.add_mul, Nat.one_mul, ← e] at h3
  unfold sd
  omega
/-- the number of some digits -/
def v10' (f : Nat → Nat) : Nat → Nat
  | 0 => 0
  | n + 1 => v10' f n + f n * 10 ^ n
theorem v10_ex : ∃ v : (Nat → Nat) → Nat → Nat, (∀ f, v f 0 = 0) ∧ ∀ f n, v f (n + 1) = v f n + f n * 10 ^ n := ⟨v10', fun _ => rfl, fun _ _ => rfl⟩
noncomputable def v10 : (Nat → Nat) → Nat → Nat := Classical.choose v10_ex
theorem v10_0 (f : Nat → Nat) : v10 f 0 = 0 := (Classical.choose_spec v10_ex).1 f
theorem v10_s (f : Nat → Nat) (n : Nat) : v10 f (n + 1) = v10 f n + f n * 10 ^ n := (Classical.choose_spec v10_ex).2 f n
theorem v10_lt {f : Nat → Nat} {n : Nat} (h : ∀ j, j < n → f j < 10) : v10 f n < 10 ^ n := by
  induction n with
  | zero => rw [v10_0]; decide
  | succ n ih =>
    have i := ih fun j hj => h j (by omega)
    have h2 : f n * 10 ^ n ≤ 9 * 10 ^ n := Nat.mul_le_mul_right _ (by have := h n (by omega); omega)
    rw [v10_s, Nat.pow_succ]
    omega
theorem v10_cg {f g : Nat → Nat} {n : Nat} (h : ∀ j, j < n → f j = g j) : v10 f n = v10 g n := by
  induction n with
  | zero => rw [v10_0, v10_0]
  | succ n ih => rw [v10_s, v10_s, ih fun j hj => h j (by omega), h n (by omega)]
theorem v10_d {f : Nat → Nat} {n j : Nat} (h : ∀ i, i < n → f i < 10) (hj : j < n) : v10 f n / 10 ^ j % 10 = f j := by
  induction n with
  | zero => omega
  | succ n ih =>
    rw [v10_s, Nat.add_comm]
    by_cases e : j = n
    · subst e
      rw [dgh _ (v10_lt fun i hi => h i (by omega)) (Nat.le_refl j), Nat.sub_self, Nat.pow_zero, Nat.div_one]
      have := h j (by omega)
      omega
    · rw [dgl _ _ (by omega)]
      exact ih (fun i hi => h i (by omega)) (by omega)
theorem v10_of (V n : Nat) : v10 (fun j => V / 10 ^ j % 10) n = V % 10 ^ n := by
  induction n with
  | zero => rw [v10_0, Nat.pow_zero, Nat.mod_one]
  | succ n ih =>
    rw [v10_s, ih]
    have a := d3 V n
    have hb := sd_b (k := n) V (Nat.mod_lt (V / 10 ^ n) (by decide : 0 < 10))
    have : V % 10 ^ (n + 1) = V / 10 ^ n % 10 * 10 ^ n + V % 10 ^ n := by
      conv => lhs; rw [a, Nat.add_assoc, Nat.add_comm, Nat.add_mul_mod_self_right, Nat.mod_eq_of_lt hb]
    omega
/-- equal digits, equal numbers -/
theorem dg_eq {V W n : Nat} (hV : V < 10 ^ n) (hW : W < 10 ^ n) (h : ∀ j, j < n → V / 10 ^ j % 10 = W / 10 ^ j % 10) : V = W := by
  have e := v10_cg (f := fun j => V / 10 ^ j % 10) (g := fun j => W / 10 ^ j % 10) h
  rw [v10_of, v10_of, Nat.mod_eq_of_lt hV, Nat.mod_eq_of_lt hW] at e
  exact e
theorem dg_z {V n k : Nat} (hV : V < 10 ^ n) (hk : n ≤ k) : V / 10 ^ k % 10 = 0 := by
  rw [Nat.div_eq_of_lt (Nat.lt_of_lt_of_le hV (pl hk))]
theorem dg_b (V k : Nat) : V / 10 ^ k % 10 < 10 := Nat.mod_lt _ (by decide)
