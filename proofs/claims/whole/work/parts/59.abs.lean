/-! ===== digits and zeros of a number; what the methods of numbers do, over abstract heaps ===== -/
def bI (b : Bool) : Int32 := nI b.toNat
theorem dgs_ex (v : Nat) : ∃ D : Nat, (v = 0 → D = 0) ∧ (0 < v → 1 ≤ D ∧ 10 ^ (D - 1) ≤ v) ∧ v < 10 ^ D := by
  induction v using Nat.strongRecOn with
  | ind v ih =>
    by_cases h0 : v = 0
    · exact ⟨0, fun _ => rfl, fun z => by omega, by rw [h0]; decide⟩
    · obtain ⟨D, h1, h2, h3⟩ := ih (v / 10) (by omega)
      refine ⟨D + 1, fun z => absurd z h0, fun _ => ⟨by omega, ?_⟩, by rw [Nat.pow_succ]; omega⟩
      by_cases h4 : v / 10 = 0
      · rw [h1 h4]; exact Nat.pos_of_ne_zero h0
      · obtain ⟨h5, h6⟩ := h2 (by omega)
        rw [Nat.add_sub_cancel]
        have e : D = (D - 1) + 1 := by omega
        rw [e, Nat.pow_succ]
        omega
noncomputable def dgs (v : Nat) : Nat := Classical.choose (dgs_ex v)
theorem dgs_0 {v : Nat} (h : v = 0) : dgs v = 0 := (Classical.choose_spec (dgs_ex v)).1 h
theorem dgs_p {v : Nat} (h : 0 < v) : 1 ≤ dgs v ∧ 10 ^ (dgs v - 1) ≤ v := (Classical.choose_spec (dgs_ex v)).2.1 h
theorem dgs_l (v : Nat) : v < 10 ^ dgs v := (Classical.choose_spec (dgs_ex v)).2.2
theorem pl {a b : Nat} (h : a ≤ b) : 10 ^ a ≤ 10 ^ b := Nat.pow_le_pow_right (by decide) h
theorem plt {a b : Nat} (h : a < b) : 10 ^ a < 10 ^ b := Nat.pow_lt_pow_right (by decide) h
theorem pp0 (a : Nat) : 0 < 10 ^ a := Nat.pow_pos (by decide)
theorem dgs_le {v k : Nat} (h : v < 10 ^ k) : dgs v ≤ k := by
  by_cases h0 : v = 0
  · rw [dgs_0 h0]; exact Nat.zero_le _
  · obtain ⟨h1, h2⟩ := dgs_p (Nat.pos_of_ne_zero h0)
    by_cases h3 : dgs v ≤ k
    · exact h3
    · have := pl (a := k) (b := dgs v - 1) (by omega)
      omega
theorem dgs_gt {v k : Nat} (h : 10 ^ k ≤ v) : k < dgs v := by
  by_cases h3 : k < dgs v
  · exact h3
  · have := pl (a := dgs v) (b := k) (by omega)
    have := dgs_l v
    omega
theorem dgs_eq {v D : Nat} (h0 : v = 0 → D = 0) (h1 : 0 < v → 1 ≤ D ∧ 10 ^ (D - 1) ≤ v) (h2 : v < 10 ^ D) : D = dgs v := by
  by_cases hv : v = 0
  · rw [h0 hv, dgs_0 hv]
  · have a := dgs_le h2
    obtain ⟨b, c⟩ := h1 (Nat.pos_of_ne_zero hv)
    have := dgs_gt c
    omega
theorem dgs_z {v : Nat} (h : dgs v = 0) : v = 0 := by
  have := dgs_l v
  rw [h] at this
  omega
theorem tz_ex (v : Nat) : ∃ z : Nat, (v = 0 → z = 0) ∧ 10 ^ z ∣ v ∧ (0 < v → ¬ 10 ^ (z + 1) ∣ v) := by
  induction v using Nat.strongRecOn with
  | ind v ih =>
    by_cases h0 : v = 0
    · exact ⟨0, fun _ => rfl, by simp, fun z => by omega⟩
    · by_cases h1 : 10 ∣ v
      · obtain ⟨w, rfl⟩ := h1
        obtain ⟨z, h2, h3, h4⟩ := ih w (by omega)
        refine ⟨z + 1, fun q => absurd q h0, ?_, fun _ q => ?_⟩
        · rw [Nat.pow_succ, Nat.mul_comm]
          exact Nat.mul_dvd_mul_left 10 h3
        · rw [Nat.pow_succ, Nat.mul_comm] at q
          exact h4 (by omega) (Nat.dvd_of_mul_dvd_mul_left (by decide) q)
      · exact ⟨0, fun q => absurd q h0, by simp, fun _ q => h1 (by simpa using q)⟩
noncomputable def tz (v : Nat) : Nat := Classical.choose (tz_ex v)
theorem tz_0 {v : Nat} (h : v = 0) : tz v = 0 := (Classical.choose_spec (tz_ex v)).1 h
theorem tz_d (v : Nat) : 10 ^ tz v ∣ v := (Classical.choose_spec (tz_ex v)).2.1
theorem tz_n {v : Nat} (h : 0 < v) : ¬ 10 ^ (tz v + 1) ∣ v := (Classical.choose_spec (tz_ex v)).2.2 h
theorem tz_eq {v z : Nat} (h0 : v = 0 → z = 0) (h1 : 10 ^ z ∣ v) (h2 : 0 < v → ¬ 10 ^ (z + 1) ∣ v) : z = tz v := by
  by_cases hv : v = 0
  · rw [h0 hv, tz_0 hv]
  · have hp := Nat.pos_of_ne_zero hv
    rcases Nat.lt_trichotomy z (tz v) with a | a | a
    · exact absurd (Nat.dvd_trans (Nat.pow_dvd_pow 10 a) (tz_d v)) (h2 hp)
    · exact a
    · exact absurd (Nat.dvd_trans (Nat.pow_dvd_pow 10 a) h1) (tz_n hp)
section NAT
variable {h : ix_H} {Q : ix_O → ix_H → Prop} {a b c x y z : Nat} {S : Nat → AC}
theorem v_clear (I : Inv h S) (A : S a = aN x) (q : ∀ h', Inv h' (va_up S a (aN 0)) → Q (.inl none) h') : ix_M 53 [.ref a] h Q := by
  obtain ⟨⟨f, n, rfl⟩, _⟩ := I.nv A
  refine c_clear n fun f' e => q _ ?_
  rw [← vl_0 e]
  exact I.pn A fun j hj => by rw [e j hj]; decide
theorem v_used (I : Inv h S) (A : S a = aN x) (q : ∀ u : Nat, u ≤ 16 → (u = 0 ↔ x = 0) → Q (.inl (some (.int (nI u)))) h) : ix_M 51 [.ref a] h Q := by
  obtain ⟨⟨f, n, rfl⟩, _⟩ := I.nv A
  refine c_used n fun u hu e1 e2 => q u hu ⟨fun z => ?_, fun z => ?_⟩
  · subst z
    exact vl_0 fun j hj => e1 j (by omega) hj
  · by_cases hu0 : u = 0
    · exact hu0
    · have := vl_at (f := f) (n := 16) (k := u - 1) (by omega) n.2.2
      rw [z] at this
      simp at this
      exact absurd this.symm (e2 (by omega))
theorem v_add (I : Inv h S) (A : S a = aN x) (B : S b = aN y) (hs : x + y < 10 ^ 144) (q : ∀ h', Inv h' (va_up S a (aN (x + y))) → Q (.inl none) h') : ix_M 58 [.ref a, .ref b] h Q := by
  obtain ⟨⟨f, n, rfl⟩, _⟩ := I.nv A
  obtain ⟨⟨g, m, rfl⟩, _⟩ := I.nv B
  refine c_add n m (by rw [p144]; exact hs) fun f' l hv => q _ ?_
  rw [← hv]
  exact I.pn A l
theorem v_against (I : Inv h S) (A : S a = aN x) (B : S b = aN y) (q1 : x < y → Q (.inl (some (.int (-1)))) h) (q2 : x = y → Q (.inl (some (.int 0))) h) (q3 : y < x → Q (.inl (some (.int 1))) h) : ix_M 59 [.ref a, .ref b] h Q := by
  obtain ⟨⟨f, n, rfl⟩, _⟩ := I.nv A
  obtain ⟨⟨g, m, rfl⟩, _⟩ := I.nv B
  exact c_against n m q1 q2 q3
theorem v_subtract (I : Inv h S) (A : S a = aN x) (B : S b = aN y) (hs : y ≤ x) (q : ∀ h', Inv h' (va_up S a (aN (x - y))) → Q (.inl none) h') : ix_M 60 [.ref a, .ref b] h Q := by
  obtain ⟨⟨f, n, rfl⟩, _⟩ := I.nv A
  obtain ⟨⟨g, m, rfl⟩, _⟩ := I.nv B
  refine c_subtract n m hs fun f' l hv => q _ ?_
  rw [← hv]
  exact I.pn A l
theorem v_timesPlus {m p : Nat} (I : Inv h S) (A : S a = aN x) (hm : m ≤ 4294967296) (hpp : p ≤ 4294967296) (hs : x * m + p < 10 ^ 144) (q : ∀ h', Inv h' (va_up S a (aN (x * m + p))) → Q (.inl none) h') : ix_M 55 [.ref a, .long (lN m), .long (lN p)] h Q := by
  obtain ⟨⟨f, n, rfl⟩, _⟩ := I.nv A
  refine c_timesPlus n hm hpp (by rw [p144]; exact hs) fun f' l hv => q _ ?_
  rw [← hv]
  exact I.pn A l
theorem v_divideBy {m : Nat} (I : Inv h S) (A : S a = aN x) (h0 : 1 ≤ m) (hm : m ≤ 4294967296) (q : ∀ h', Inv h' (va_up S a (aN (x / m))) → Q (.inl (some (.long (lN (x % m))))) h') : ix_M 50 [.ref a, .long (lN m)] h Q := by
  obtain ⟨⟨f, n, rfl⟩, _⟩ := I.nv A
  refine c_divideBy n h0 hm fun f' r l hr hv => ?_
  have e1 : vl f 16 / m = vl f' 16 := by rw [hv, Nat.add_comm, Nat.add_mul_div_right _ _ (by omega), Nat.div_eq_of_lt hr, Nat.zero_add]
  have e2 : vl f 16 % m = r := by rw [hv, Nat.add_comm, Nat.add_mul_mod_self_right, Nat.mod_eq_of_lt hr]
  rw [e1, e2] at q
  exact q _ (I.pn A l)
theorem v_copy (I : Inv h S) (A : S a = aN x) (B : S b = aN y) (q : ∀ h', Inv h' (va_up S a (aN y)) → Q (.inl none) h') : ix_M 48 [.ref a, .ref b] h Q := by
  obtain ⟨⟨f, n, rfl⟩, _⟩ := I.nv A
  obtain ⟨⟨g, m, rfl⟩, _⟩ := I.nv B
  refine c_copy n m fun f' e => q _ ?_
  rw [← vl_cg e]
  exact I.pn A fun j hj => by rw [e j hj]; exact m.2.2 j hj
theorem v_takeWord {w : Int32} (I : Inv h S) (A : S a = aN x) (hs : x * 4294967296 + wd w < 10 ^ 144) (q : ∀ h', Inv h' (va_up S a (aN (x * 4294967296 + wd w))) → Q (.inl none) h') : ix_M 54 [.ref a, .int w] h Q := by
  obtain ⟨⟨f, n, rfl⟩, _⟩ := I.nv A
  refine c_takeWord n (by rw [p144]; exact hs) fun f' l hv => q _ ?_
  rw [← hv]
  exact I.pn A l
theorem v_giveWord (I : Inv h S) (A : S a = aN x) (q : ∀ h', Inv h' (va_up S a (aN (x / 4294967296))) → Q (.inl (some (.int (nI (x % 4294967296))))) h') : ix_M 49 [.ref a] h Q := by
  obtain ⟨⟨f, n, rfl⟩, _⟩ := I.nv A
  refine c_giveWord n fun f' r l hr hv => ?_
  have e1 : vl f 16 / 4294967296 = vl f' 16 := by rw [hv, Nat.add_comm, Nat.add_mul_div_right _ _ (by omega), Nat.div_eq_of_lt hr, Nat.zero_add]
  have e2 : vl f 16 % 4294967296 = r := by rw [hv, Nat.add_comm, Nat.add_mul_mod_self_right, Nat.mod_eq_of_lt hr]
  rw [e1, e2] at q
  exact q _ (I.pn A l)
theorem v_setOne (I : Inv h S) (A : S a = aN x) (q : ∀ h', Inv h' (va_up S a (aN 1)) → Q (.inl none) h') : ix_M 57 [.ref a] h Q := by
  obtain ⟨⟨f, n, rfl⟩, _⟩ := I.nv A
  refine c_setOne n fun f' l hv => q _ ?_
  have := I.pn A l
  rw [hv] at this
  exact this
theorem v_isOdd (I : Inv h S) (A : S a = aN x) (q : Q (.inl (some (.int (bI (decide (x % 2 = 1)))))) h) : ix_M 65 [.ref a] h Q := by
  obtain ⟨⟨f, n, rfl⟩, _⟩ := I.nv A
  refine c_isOdd n (fun e => ?_) (fun e => ?_)
  · rw [decide_eq_true e] at q; exact q
  · rw [decide_eq_false (by omega)] at q; exact q
theorem v_lessOne (I : Inv h S) (A : S a = aN x) (hs : 0 < x) (q : ∀ h', Inv h' (va_up S a (aN (x - 1))) → Q (.inl none) h') : ix_M 69 [.ref a] h Q := by
  obtain ⟨⟨f, n, rfl⟩, _⟩ := I.nv A
  refine c_lessOne n hs fun f' l hv => q _ ?_
  rw [← hv]
  exact I.pn A l
theorem v_setPowerOfTen {p : Nat} (I : Inv h S) (A : S a = aN x) (hp : p < 144) (q : ∀ h', Inv h' (va_up S a (aN (10 ^ p))) → Q (.inl none) h') : ix_M 68 [.ref a, .int (nI p)] h Q := by
  obtain ⟨⟨f, n, rfl⟩, _⟩ := I.nv A
  refine c_setPowerOfTen n I.tab hp fun f' l hv => q _ ?_
  rw [← hv]
  exact I.pn A l
theorem v_digits (I : Inv h S) (A : S a = aN x) (q : dgs x ≤ 144 → Q (.inl (some (.int (nI (dgs x))))) h) : ix_M 52 [.ref a] h Q := by
  obtain ⟨⟨f, n, rfl⟩, _⟩ := I.nv A
  refine c_digits n I.tab fun D h1 h2 h3 h4 => ?_
  rw [dgs_eq h2 h3 h4] at h1 ⊢
  exact q h1
theorem v_zerosAtEnd (I : Inv h S) (A : S a = aN x) (q : tz x ≤ 144 → Q (.inl (some (.int (nI (tz x))))) h) : ix_M 67 [.ref a] h Q := by
  obtain ⟨⟨f, n, rfl⟩, _⟩ := I.nv A
  refine c_zerosAtEnd n I.tab fun D h1 h2 h3 h4 => ?_
  rw [tz_eq h2 h3 h4] at h1 ⊢
  exact q h1
theorem v_setNines {p : Nat} (I : Inv h S) (A : S a = aN x) (hp : p ≤ 144) (q : ∀ h', Inv h' (va_up S a (aN (10 ^ p - 1))) → Q (.inl none) h') : ix_M 66 [.ref a, .int (nI p)] h Q := by
  obtain ⟨⟨f, n, rfl⟩, _⟩ := I.nv A
  refine c_setNines n I.tab hp fun f' l hv => q _ ?_
  rw [← hv]
  exact I.pn A l
theorem v_keepLowest {p : Nat} (I : Inv h S) (A : S a = aN x) (hp : p < 2 ^ 31) (q : ∀ h', Inv h' (va_up S a (aN (x % 10 ^ p))) → Q (.inl none) h') : ix_M 70 [.ref a, .int (nI p)] h Q := by
  obtain ⟨⟨f, n, rfl⟩, _⟩ := I.nv A
  refine c_keepLowest n I.tab hp fun f' l hv => q _ ?_
  rw [← hv]
  exact I.pn A l
theorem v_setProduct (I : Inv h S) (C : S c = aN z) (A : S a = aN x) (B : S b = aN y) (ha : a ≠ c) (hb : b ≠ c) (hs : x * y < 10 ^ 144) (q : ∀ h', Inv h' (va_up S c (aN (x * y))) → Q (.inl none) h') : ix_M 61 [.ref c, .ref a, .ref b] h Q := by
  obtain ⟨⟨f, n, rfl⟩, _⟩ := I.nv A
  obtain ⟨⟨g, m, rfl⟩, _⟩ := I.nv B
  obtain ⟨⟨w, k, rfl⟩, _⟩ := I.nv C
  refine c_setProduct k n m (by omega) (by omega) (by rw [p144]; exact hs) fun f' l hv => q _ ?_
  rw [← hv]
  exact I.pn C l
theorem zneg {p : Int} (hp : zr p) (h : p < 0) : ix_cc .lt (zI p) 0 = true ∧ ix_cc .gt (zI p) 0 = false := by
  rw [show (0 : Int32) = zI 0 from by decide, zc_lt hp ⟨by decide, by decide⟩, zc_gt hp ⟨by decide, by decide⟩]
  exact ⟨decide_eq_true h, decide_eq_false (by omega)⟩
theorem zn {p : Int} (hp : zr p) (h : 0 ≤ p) : zI p = nI p.toNat ∧ p.toNat < 2 ^ 31 := by
  have h1 : p.toNat < 2 ^ 31 := by have := hp.2; omega
  refine ⟨?_, h1⟩
  rw [zI_n h1, Int.toNat_of_nonneg h]
/-- with places that may be below 0 -/
theorem v_shiftUp {p : Int} (I : Inv h S) (A : S a = aN x) (hp : zr p) (hs : x * 10 ^ p.toNat < 10 ^ 144) (q : ∀ h', Inv h' (va_up S a (aN (x * 10 ^ p.toNat))) → Q (.inl none) h') : ix_M 56 [.ref a, .int (zI p)] h Q := by
  by_cases h0 : 0 ≤ p
  · obtain ⟨e, hb⟩ := zn hp h0
    rw [e]
    obtain ⟨⟨f, n, rfl⟩, _⟩ := I.nv A
    refine c_shiftUp n I.tab hb (by rw [p144]; exact hs) fun f' l hv => q _ ?_
    rw [← hv]
    exact I.pn A l
  · skip
    refine jx (pc' := 1) (L' := [_, _, _, _]) (st' := [_]) 1 rfl ?_
    refine jin (pc' := 4) 5 rfl rfl rfl rfl (by exact (zneg hp (by omega)).2) ?_
    refine ix_qr _ rfl rfl rfl ?_
    have e : p.toNat = 0 := by omega
    rw [e, Nat.pow_zero, Nat.mul_one] at q
    refine q _ ?_
    rw [show va_up S a (aN x) = S from by funext j; by_cases z : j = a <;> simp [va_up, z, A]]
    exact I
theorem v_shiftDown {p : Int} (I : Inv h S) (A : S a = aN x) (hp : zr p) (q : ∀ h', Inv h' (va_up S a (aN (x / 10 ^ p.toNat))) → Q (.inl none) h') : ix_M 64 [.ref a, .int (zI p)] h Q := by
  by_cases h0 : 0 ≤ p
  · obtain ⟨e, hb⟩ := zn hp h0
    rw [e]
    obtain ⟨⟨f, n, rfl⟩, _⟩ := I.nv A
    refine c_shiftDown n I.tab hb fun f' l hv => q _ ?_
    rw [← hv]
    exact I.pn A l
  · skip
    refine jx (pc' := 1) (L' := [_, _, _, _]) (st' := [_]) 1 rfl ?_
    refine jin (pc' := 4) 5 rfl rfl rfl rfl (by exact (zneg hp (by omega)).2) ?_
    refine ix_qr _ rfl rfl rfl ?_
    have e : p.toNat = 0 := by omega
    rw [e, Nat.pow_zero, Nat.div_one] at q
    refine q _ ?_
    rw [show va_up S a (aN x) = S from by funext j; by_cases z : j = a <;> simp [va_up, z, A]]
    exact I
/-- the digit at a place -/
def dAt (x : Nat) (p : Int) : Nat := if p < 0 then 0 else x / 10 ^ p.toNat % 10
theorem dAt_lt (x : Nat) (p : Int) : dAt x p < 10 := by unfold dAt; split <;> omega
theorem v_digitAt {p : Int} (I : Inv h S) (A : S a = aN x) (hp : zr p) (q : Q (.inl (some (.int (nI (dAt x p))))) h) : ix_M 62 [.ref a, .int (zI p)] h Q := by
  by_cases h0 : 0 ≤ p
  · obtain ⟨e, hb⟩ := zn hp h0
    rw [e]
    unfold dAt at q
    rw [if_neg (by omega)] at q
    obtain ⟨⟨f, n, rfl⟩, _⟩ := I.nv A
    exact c_digitAt n I.tab hb q
  · unfold dAt at q
    rw [if_pos (by omega)] at q
    refine jx (pc' := 3) (L' := [_, _, _]) (st' := [.int (nI 9), _]) 2 rfl ?_
    refine jidiv (pc' := 4) rfl rfl (by decide) rfl ?_
    refine jx (pc' := 6) (L' := [_, _, _]) (st' := [_]) 2 rfl ?_
    refine jit (pc' := 15) rfl rfl rfl (by exact (zneg hp (by omega)).1) ?_
    refine jx (pc' := 37) (L' := [_, _, _]) (st' := [.int (nI 0)]) 2 rfl ?_
    refine jri rfl rfl ?_
    exact q
theorem v_hasDigitsBelow {p : Int} (I : Inv h S) (A : S a = aN x) (hp : zr p) (q : Q (.inl (some (.int (bI (decide (x % 10 ^ p.toNat ≠ 0)))))) h) : ix_M 63 [.ref a, .int (zI p)] h Q := by
  by_cases h0 : 0 ≤ p
  · obtain ⟨e, hb⟩ := zn hp h0
    rw [e]
    obtain ⟨⟨f, n, rfl⟩, _⟩ := I.nv A
    refine c_hasDigitsBelow n I.tab hb (fun z => ?_) (fun z => ?_)
    · rw [decide_eq_true z] at q; exact q
    · rw [decide_eq_false (fun w => w z)] at q; exact q
  · have e : p.toNat = 0 := by omega
    rw [e, Nat.pow_zero, Nat.mod_one] at q
    refine jx (pc' := 5) (L' := [_, _, _]) (st' := [.int (nI 16), _]) 4 rfl ?_
    try simp (disch := omega) only [kb16, ki0, nI_add, nI_mul, nI_sub, Nat.zero_mul, Nat.one_mul, Nat.sub_zero, Nat.add_zero, Nat.zero_add, Nat.add_sub_cancel]
    refine jcn (pc' := 8) 35 rfl rfl rfl rfl (by rw [cc_ge (by omega) (by omega)]; exact decide_eq_false (by omega)) ?_
    refine jx (pc' := 15) (L' := [_, _, _]) (st' := [_, _]) 6 rfl ?_
    try simp (disch := omega) only [kb9, ki1, nI_add, nI_mul, nI_sub, Nat.zero_mul, Nat.one_mul, Nat.sub_zero, Nat.add_zero, Nat.zero_add, Nat.add_sub_cancel]
    refine jct (pc' := 35) rfl rfl rfl (by rw [zI_n (show 9 < 2 ^ 31 by decide), zc_gt ⟨by decide, by decide⟩ hp]; exact decide_eq_true (by omega)) ?_
    refine jx (pc' := 38) (L' := [_, _, _]) (st' := [.int (nI 9), _]) 2 rfl ?_
    refine jidiv (pc' := 39) rfl rfl (by decide) rfl ?_
    refine jx (pc' := 41) (L' := [_, _, _]) (st' := [_]) 2 rfl ?_
    refine jit (pc' := 72) rfl rfl rfl (by rw [show (0 : Int32) = zI 0 from by decide, zc_le hp ⟨by decide, by decide⟩]; exact decide_eq_true (by omega)) ?_
    refine jx (pc' := 73) (L' := [_, _, _]) (st' := [.int (nI 0)]) 1 rfl ?_
    refine ix_qr _ rfl rfl rfl ?_
    exact q
end NAT
