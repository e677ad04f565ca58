/-! ===== DecimalBits: deliver, two, fused, one, scale, convert, number ===== -/
def dv1 (σ : Stt) (r : Dm) (s : Nat) : Stt := (va_up σ.1 8 r, σ.2.1, σ.2.2.1 ||| s, σ.2.2.2)
def dv2 (σ : Stt) (d : Nat) (r : Dm) (s : Nat) : Stt := (va_up (va_up σ.1 8 r) d r, σ.2.1, σ.2.2.1 ||| s, σ.2.2.2)
/-- behind a call: the state, the number of cells, what else there is -/
def Pst (S S' : Nat → AC) (σ : Stt) (n m : Nat) (e : ix_C) : Prop := Cls S' σ ∧ S' 0 = aG n m e ∧ ∀ r, 98 ≤ r → S' r = S r
theorem ag98 {l : List Nat} {S T : Nat → AC} (g : ag l S T) (hl : ∀ r, r ∈ l → r < 98) : ∀ r, 98 ≤ r → T r = S r := fun r hr => g r fun z => by have := hl r z; omega
section TOP
variable {h : ix_H} {Q : ix_O → ix_H → Prop} {S : Nat → AC} {σ : Stt} {n m s d f : Nat} {e : ix_C} {x y w z : Int} {r : Dm}
theorem v_deliver (I : Inv h S) (C : Cls S σ) (G : Rm S n m e) (hd : d < 8) (hs : s < 32) (R : ResD S r) (hv : ValD r) (q1 : s &&& σ.2.2.2.1 = 0 → ∀ h' S', Inv h' S' → Pst S S' (dv2 σ d r s) n m e → Q (.inl (some (.int (nI s)))) h') (q2 : ¬ s &&& σ.2.2.2.1 = 0 → ∀ h' S', Inv h' S' → Pst S S' (dv1 σ r s) (n + 1) (m + 6) e → Q (.inr (12, n)) h') : ix_M 31 [.ref 32, .int (nI d), .int (nI s)] h Q := by
  have c1 := C.1
  obtain ⟨f33, c2, c2f⟩ := C.2.1
  obtain ⟨wn, AR⟩ := C.2.2.1.1.1
  have X8 := C.2.2.2.2.2.2.2.1 8 (by decide)
  have r1 := R.1
  refine jx (pc' := 1) (L' := [_, _, _]) (st' := [_]) 1 rfl ?_
  refine jgf (pc' := 4) (I.ob (r := 32) c1) rfl rfl rfl rfl rfl ?_
  refine jx (pc' := 6) (L' := [_, _, _]) (st' := [.int (nI 8), _]) 1 rfl ?_
  refine jaa (pc' := 7) (r := 33) (z := 71 + 3 * 8) I c2 rfl rfl (by decide) (c2f 8 (by decide)) rfl ?_
  refine jx (pc' := 8) (L' := [_, _, _]) (st' := [_, _]) 1 rfl ?_
  refine jgf (pc' := 11) (I.ob (r := 32) c1) rfl rfl rfl rfl rfl ?_
  refine jgf (pc' := 14) (I.ob (r := 34) AR) rfl rfl rfl rfl rfl ?_
  refine jcv (pc' := 17) 85 [_] [] (I.ob (r := (71+3*8)) X8.2.1) rfl rfl rfl rfl rfl rfl rfl rfl ?_
  refine v_dcopy (r := 71 + 3 * 8) (r' := 35) I X8.2.1 X8.2.2.1 R.1 R.2.1 X8.2.2.2.1 X8.2.2.2.2.1 X8.2.2.2.z R.2.2.1 R.2.2.2.1 R.2.2.2.2 (by decide) fun k1 I => jk ?_
  have C1 := C.rg (i := 8) (d := r) (by decide) hv
  have G1 : Rm (va_up (va_up S (71 + 3 * 8) (aC (dC (71 + 3 * 8) r.1 r.2.1 r.2.2.1 r.2.2.2.1))) (71 + 3 * 8 + 1) (aN r.2.2.2.2)) n m e := G
  refine jx (pc' := 19) (L' := [_, _, _]) (st' := [_, _]) 2 rfl ?_
  refine jcv (pc' := 22) 32 [_] [] (I.ob (r := 32) C1.1) rfl rfl rfl rfl rfl rfl rfl rfl ?_
  refine v_signal I C1 G1 hs (fun e0 k2 T I C2 g => jk ?_) (fun e0 k2 T I C2 gh g => jkt rfl ?_)
  · have c1 := C2.1
    obtain ⟨f33, c2, c2f⟩ := C2.2.1
    obtain ⟨wn, AR⟩ := C2.2.2.1.1.1
    have Xd := C2.2.2.2.2.2.2.2.1 d (by omega)
    have R2 : ResD T r := ⟨g.at 35 (by decide) R.1, g.at 36 (by decide) R.2.1, R.2.2⟩
    refine jx (pc' := 23) (L' := [_, _, _]) (st' := [_]) 1 rfl ?_
    refine jgf (pc' := 26) (I.ob (r := 32) c1) rfl rfl rfl rfl rfl ?_
    refine jx (pc' := 27) (L' := [_, _, _]) (st' := [_, _]) 1 rfl ?_
    refine jaa (pc' := 28) (r := 33) (z := 71 + 3 * d) I c2 rfl rfl (by omega) (c2f d (by omega)) rfl ?_
    refine jx (pc' := 29) (L' := [_, _, _]) (st' := [_, _]) 1 rfl ?_
    refine jgf (pc' := 32) (I.ob (r := 32) c1) rfl rfl rfl rfl rfl ?_
    refine jgf (pc' := 35) (I.ob (r := 34) AR) rfl rfl rfl rfl rfl ?_
    refine jcv (pc' := 38) 85 [_] [] (I.ob (r := (71+3*d)) Xd.2.1) rfl rfl rfl rfl rfl rfl rfl rfl ?_
    refine v_dcopy (r := 71 + 3 * d) (r' := 35) I Xd.2.1 Xd.2.2.1 R2.1 R2.2.1 Xd.2.2.2.1 Xd.2.2.2.2.1 Xd.2.2.2.z R2.2.2.1 R2.2.2.2.1 R2.2.2.2.2 (by omega) fun k3 I => jk ?_
    refine jx (pc' := 39) (L' := [_, _, _]) (st' := [_]) 1 rfl ?_
    refine jri rfl rfl ?_
    refine q1 e0 _ _ I ⟨C2.rg (i := d) (by omega) hv, ?_, fun r' hr => ?_⟩
    · rw [va_up_ne _ _ (by omega), va_up_ne _ _ (by omega)]
      exact g.at 0 (by decide) G.1
    · rw [va_up_ne _ _ (by omega), va_up_ne _ _ (by omega), g r' (by simp; omega), va_up_ne _ _ (by omega), va_up_ne _ _ (by omega)]
  · refine q2 e0 _ _ I ⟨C2, gh, fun r' hr => ?_⟩
    rw [g r' (by simp; omega), va_up_ne _ _ (by omega), va_up_ne _ _ (by omega)]
/-- what a call that delivers may need -/
theorem Cls.get (C : Cls S σ) {i : Nat} (hi : i < 9) : RegD S (71 + 3 * i) (σ.1 i) := C.2.2.2.2.2.2.2.1 i hi
theorem Cls.vd (C : Cls S σ) {i : Nat} (hi : i < 9) : ValD (σ.1 i) := (C.2.2.2.2.2.2.2.1 i hi).2.2.2
theorem v_ret {o : Dm × Nat} {mi pc pc' : Nat} {L : ix_L} {rest : List Value} (T : Nat → AC) (l : List Nat) (g : ag l S T) (hl : ∀ r, r ∈ l → 34 ≤ r ∧ r ≤ 57) (I : Inv h T) (C : Cls S σ) (G : Rm S n m e) (L' : Lay T) (R : ResD T o.1) (hd : d < 8) (hv : ValD o.1) (ho : o.2 < 32) (hh : ix_hd mi pc 12 = some none) (q1 : o.2 &&& σ.2.2.2.1 = 0 → ∀ h' S', Inv h' S' → Pst S S' (dv2 σ d o.1 o.2) n m e → ix_E mi pc' L (.int (nI o.2) :: rest) h' Q) (q2 : ¬ o.2 &&& σ.2.2.2.1 = 0 → ∀ h' S', Inv h' S' → Pst S S' (dv1 σ o.1 o.2) (n + 1) (m + 6) e → Q (.inr (12, n)) h') : ix_M 31 [.ref 32, .int (nI d), .int (nI o.2)] h (ix_K mi pc pc' L rest Q) := by
  have C1 := C.ar g hl L' R
  have g0 : T 0 = aG n m e := g.at 0 (fun z => by have := hl 0 z; omega) G.1
  have g98 : ∀ r, 98 ≤ r → T r = S r := fun r hr => g r fun z => by have := hl r z; omega
  refine v_deliver I C1 ⟨g0, G.2⟩ hd ho R hv (fun e0 h' S' I' P => jk ?_) (fun e0 h' S' I' P => jkt hh ?_)
  · exact q1 e0 h' S' I' ⟨P.1, P.2.1, fun r hr => (P.2.2 r hr).trans (g98 r hr)⟩
  · exact q2 e0 h' S' I' ⟨P.1, P.2.1, fun r hr => (P.2.2 r hr).trans (g98 r hr)⟩
theorem arl_b : ∀ r, r ∈ arl → 34 ≤ r ∧ r ≤ 57 := by decide
theorem rdo_f {dir : Nat} {d : Dm} {o : OR} (hf : d.1 < 3) (h1 : ∀ x, o = .inl x → x.2 < 32) : (rdo dir d o).2 < 32 := by
  cases o with
  | inl x => exact h1 x rfl
  | inr u => exact (rRnd_b hf).2.2
theorem b1_32 (b : Bool) : b.toNat < 32 := by cases b <;> decide
theorem ite32 {p : Prop} [Decidable p] {a b : Nat} (ha : a < 32) (hb : b < 32) : (if p then a else b) < 32 := by split <;> assumption
theorem fl_o2 {what dir : Nat} {A B : Dm} (vA : ValD A) : (o2R what dir A B).2 < 32 := by
  unfold o2R
  split
  · exact (by decide : 0 < 32)
  · split
    · split
      · unfold pbN
        split
        · exact (by decide : 0 < 32)
        · split
          · exact (by decide : 0 < 32)
          · exact b1_32 _
      · exact b1_32 _
    · refine rdo_f vA.1 fun x hx => ?_
      have sm : ∀ n : Bool, smR (fD A.1) dir A B n = .inl x → x.2 < 32 := by
        intro n hx
        unfold smR at hx
        split at hx
        · split at hx <;> (cases hx; dsimp only; decide)
        · split at hx
          · cases hx; dsimp only; decide
          · cases hx
      unfold op2 at hx
      split at hx
      · exact sm _ hx
      · split at hx
        · exact sm _ hx
        · split at hx
          · unfold prR at hx
            split at hx
            · cases hx; dsimp only; decide
            · split at hx
              · cases hx; dsimp only; decide
              · cases hx
          · split at hx
            · unfold raR at hx
              split at hx
              · cases hx; dsimp only; decide
              · split at hx
                · cases hx; exact ite32 (by decide) (by decide)
                · split at hx
                  · cases hx
                  · split at hx <;> cases hx
            · split at hx
              · unfold reR at hx
                split at hx
                · cases hx; dsimp only; decide
                · split at hx
                  · cases hx; dsimp only; decide
                  · split at hx <;> cases hx
              · split at hx
                · cases hx
                  unfold qzR
                  split
                  · split <;> (dsimp only; decide)
                  · split
                    · dsimp only; decide
                    · exact ite32 (by decide) (by decide)
                · cases hx; dsimp only; decide
end TOP
