/-! ===== rules: what my machine does ===== -/
theorem ix_mono : ∀ (n : Nat) {mi pc : Nat} {L : ix_L} {st : List Value} {h : ix_H} {r : ix_O × ix_H}, ix_ev n mi pc L st h = some r → ∀ k, n ≤ k → ix_ev k mi pc L st h = some r := by
  intro n
  induction n with
  | zero => intro mi pc L st h r hr; cases hr
  | succ n ih =>
    intro mi pc L st h r hr k hk
    obtain ⟨k, rfl⟩ : ∃ j, k = j + 1 := ⟨k - 1, by omega⟩
    have hk' : n ≤ k := by omega
    rw [ix_ev] at hr ⊢
    cases hi : ix_ins mi pc with
    | none => simp only [hi] at hr; cases hr
    | some i =>
      simp only [hi] at hr ⊢
      cases hq : ix_isr i with
      | true => simp only [hq] at hr ⊢; exact hr
      | false =>
        simp only [hq] at hr ⊢
        cases hx : ix_ix i with
        | some j =>
          simp only [hx] at hr ⊢
          cases hc : ix_cal (ix_o mi) j with
          | none => simp only [hc] at hr; cases hr
          | some z =>
            obtain ⟨z0, mj⟩ := z
            cases z0 with
            | zero =>
              simp only [hc] at hr ⊢
              cases ho : ix_ok i mi mj L.length st h with
              | false => simp only [ho] at hr; cases hr
              | true =>
                simp only [ho] at hr ⊢
                cases hv : ix_ev n mj 0 (ix_en (st.take (ix_na' mj)).reverse (ix_ml mj)) [] h with
                | none => simp only [hv] at hr; cases hr
                | some w =>
                  obtain ⟨o, h'⟩ := w
                  rw [ih hv k hk']
                  simp only [hv] at hr
                  cases o with
                  | inl v => exact ih hr k hk'
                  | inr x =>
                    simp only at hr ⊢
                    cases hd : ix_hd mi pc x.1 with
                    | some q =>
                      cases q with
                      | some q => simp only [hd] at hr ⊢; exact ih hr k hk'
                      | none => simp only [hd] at hr ⊢; exact hr
                    | none => simp only [hd] at hr; cases hr
            | succ z0 =>
              simp only [hc] at hr ⊢
              cases hp : ix_pr i (z0 + 1) mi pc L st h with
              | none => simp only [hp] at hr; cases hr
              | some w =>
                obtain ⟨pc', L', st', h'⟩ := w
                simp only [hp] at hr ⊢
                exact ih hr k hk'
        | none =>
          simp only [hx] at hr ⊢
          cases ht : ix_thr mi pc with
          | some ci => simp only [ht] at hr ⊢; exact hr
          | none =>
            simp only [ht] at hr ⊢
            cases hp : ix_x1 (ix_ini mi) (ix_o mi) i pc L st h with
            | none => simp only [hp] at hr; cases hr
            | some w =>
              obtain ⟨pc', L', st', h'⟩ := w
              simp only [hp] at hr ⊢
              exact ih hr k hk'
def ix_E (mi pc : Nat) (L : ix_L) (st : List Value) (h : ix_H) (Q : ix_O → ix_H → Prop) : Prop := ∃ n o h', ix_ev n mi pc L st h = some (o, h') ∧ Q o h'
/-- a method run from its beginning -/
def ix_M (mj : Nat) (as : List Value) (h : ix_H) (Q : ix_O → ix_H → Prop) : Prop := ix_E mj 0 (ix_en as (ix_ml mj)) [] h Q
section IXR
variable {mi pc pc' mj k : Nat} {i : Instr} {L L' : ix_L} {st st' rest as : List Value} {h h' : ix_H} {Q : ix_O → ix_H → Prop}
theorem ix_q1 (i : Instr) (pc' : Nat) (hi : ix_ins mi pc = some i) (hz : ix_isr i = false) (hy : ix_ix i = none) (ht : ix_thr mi pc = none) (hx : ix_x1 (ix_ini mi) (ix_o mi) i pc L st h = some (pc', L', st', h')) (q : ix_E mi pc' L' st' h' Q) : ix_E mi pc L st h Q := by
  obtain ⟨n, o, h2, a, b⟩ := q
  refine ⟨n + 1, o, h2, ?_, b⟩
  rw [ix_ev]
  simp only [hi, hz, hy, ht, hx]
  exact a
theorem ix_qr (i : Instr) {v : Option Value} (hi : ix_ins mi pc = some i) (hz : ix_isr i = true) (hv : ix_rv (ix_rt mi) i st = some v) (q : Q (.inl v) h) : ix_E mi pc L st h Q := by
  refine ⟨1, .inl v, h, ?_, q⟩
  rw [ix_ev]
  simp only [hi, hz, hv]
  rfl
theorem ix_qt (i : Instr) (ci : Nat) (hi : ix_ins mi pc = some i) (hz : ix_isr i = false) (hy : ix_ix i = none) (ht : ix_thr mi pc = some ci) (hL : L.length = ix_ml mi) (h1 : h.1 < ix_CM) (h2 : h.2.1 + 6 ≤ ix_SM) (q : Q (.inr (ci, h.1)) (ix_pu h 6 (.inr (ci, [])))) : ix_E mi pc L [] h Q := by
  refine ⟨1, _, _, ?_, q⟩
  rw [ix_ev]
  simp only [hi, hz, hy, ht, if_pos (And.intro hL (And.intro h1 h2))]
theorem ix_qp (i : Instr) (k z pc' : Nat) (mj : Nat) (hi : ix_ins mi pc = some i) (hz : ix_isr i = false) (hy : ix_ix i = some k) (hc : ix_cal (ix_o mi) k = some (z + 1, mj)) (hx : ix_pr i (z + 1) mi pc L st h = some (pc', L', st', h')) (q : ix_E mi pc' L' st' h' Q) : ix_E mi pc L st h Q := by
  obtain ⟨n, o, h2, a, b⟩ := q
  refine ⟨n + 1, o, h2, ?_, b⟩
  rw [ix_ev]
  simp only [hi, hz, hy, hc, hx]
  exact a
def ix_K (mi pc pc' : Nat) (L : ix_L) (rest : List Value) (Q : ix_O → ix_H → Prop) : ix_O → ix_H → Prop := fun o h' => match o with
  | .inl v => ix_E mi pc' L (v.toList ++ rest) h' Q
  | .inr x => match ix_hd mi pc x.1 with
    | some (some q) => ix_E mi q L [.ref x.2] h' Q
    | some none => Q (.inr x) h'
    | none => False
theorem ix_qc (i : Instr) (k mj : Nat) (as rest : List Value) (hi : ix_ins mi pc = some i) (hz : ix_isr i = false) (hy : ix_ix i = some k) (hc : ix_cal (ix_o mi) k = some (0, mj)) (hp : pc + 3 = pc') (hs : st = as.reverse ++ rest) (hn : as.length = ix_na' mj) (ho : ix_ok i mi mj L.length st h = true) (q : ix_M mj as h (ix_K mi pc pc' L rest Q)) : ix_E mi pc L st h Q := by
  obtain ⟨n, o, h2, a, b⟩ := q
  have e1 : (st.take (ix_na' mj)).reverse = as := by rw [hs, ← hn, ← List.length_reverse, List.take_left', List.reverse_reverse]; rfl
  have e2 : st.drop (ix_na' mj) = rest := by rw [hs, ← hn, ← List.length_reverse, List.drop_left']; rfl
  cases o with
  | inl v =>
    obtain ⟨n2, o2, h3, a2, b2⟩ := b
    refine ⟨max n n2 + 1, o2, h3, ?_, b2⟩
    rw [ix_ev]
    simp only [hi, hz, hy, hc, ho, e1, e2]
    rw [ix_mono n a (max n n2) (by omega), hp]
    exact ix_mono n2 a2 (max n n2) (by omega)
  | inr x =>
    cases hd : ix_hd mi pc x.1 with
    | none => simp only [ix_K, hd] at b
    | some q =>
      cases q with
      | some q =>
        have b' : ix_E mi q L [.ref x.2] h2 Q := by simpa only [ix_K, hd] using b
        obtain ⟨n2, o2, h3, a2, b2⟩ := b'
        refine ⟨max n n2 + 1, o2, h3, ?_, b2⟩
        rw [ix_ev]
        simp only [hi, hz, hy, hc, ho, e1, e2]
        rw [ix_mono n a (max n n2) (by omega)]
        simp only [hd]
        exact ix_mono n2 a2 (max n n2) (by omega)
      | none =>
        have b' : Q (.inr x) h2 := by simpa only [ix_K, hd] using b
        refine ⟨n + 1, .inr x, h2, ?_, b'⟩
        rw [ix_ev]
        simp only [hi, hz, hy, hc, ho, e1, e2]
        rw [a]
        simp only [hd]
theorem ix_E_mono {Q' : ix_O → ix_H → Prop} (a : ix_E mi pc L st h Q) (b : ∀ o h', Q o h' → Q' o h') : ix_E mi pc L st h Q' := by
  obtain ⟨n, o, h2, x, y⟩ := a
  exact ⟨n, o, h2, x, b _ _ y⟩
end IXR
