/-! ===== the reference: its cells and its state ===== -/
/-- the reference's number of a sort -/
def swp (s : Nat) : Nat := if s = 2 then 3 else if s = 3 then 2 else s
theorem swp_b {s : Nat} (h : s < 4) : swp s < 4 := by unfold swp; split <;> (try split) <;> omega
theorem swp_0 {s : Nat} : swp s = 0 ↔ s = 0 := by unfold swp; split <;> (try split) <;> omega
theorem swp_1 {s : Nat} : swp s = 1 ↔ s = 1 := by unfold swp; split <;> (try split) <;> omega
theorem swp_2 {s : Nat} : swp s = 2 ↔ s = 3 := by unfold swp; split <;> (try split) <;> omega
theorem swp_3 {s : Nat} : swp s = 3 ↔ s = 2 := by unfold swp; split <;> (try split) <;> omega
theorem swp_n {s : Nat} : 2 ≤ swp s ↔ 2 ≤ s := by unfold swp; split <;> (try split) <;> omega
theorem swp_i {s t : Nat} : swp s = swp t ↔ s = t := by unfold swp; split <;> split <;> (try split) <;> (try split) <;> omega
/-- how many digits the row has -/
def aL : Nat := 25400
abbrev dA (n : Nat) (f : Nat → Nat) : ix_C := cI 0 n (fun j => zI (f j : Int))
def mF (cd dr ra si tr : Nat) (mo ng : Bool) (sp sz wr : Nat) (il : Bool) : List Value := [.int (zI cd), .ref 99, .ref 100, .ref 101, .ref 102, .ref 103, .int (zI dr), .int (zI ra), .int (zI si), .int (zI tr), .ref 104, .int (bI mo), .int (bI ng), .ref 105, .ref 106, .ref 107, .int (zI sp), .ref 108, .ref 109, .int (zI sz), .int (zI wr), .ref 110, .int (bI il)]
def RV (d : Dm) : Prop := d.1 < 3 ∧ d.2.1 < 4 ∧ -30000 ≤ d.2.2.2.1 ∧ d.2.2.2.1 ≤ 30000 ∧ d.2.2.2.2 < 10 ^ 40
def RgP (S : Nat → AC) (R : Nat → Dm) : Prop := ∃ gm gs gf gp gd, S 99 = aC (cI 3 12 gm) ∧ S 100 = aC (cI 0 12 gs) ∧ S 101 = aC (cI 0 12 gf) ∧ S 102 = aC (cI 0 12 gp) ∧ S 103 = aC (cI 0 480 gd) ∧ ∀ r, r < 12 → gm r = bI (R r).2.2.1 ∧ gs r = zI (swp (R r).2.1 : Nat) ∧ gf r = zI (R r).1 ∧ gp r = zI (R r).2.2.2.1 ∧ (∀ k, k < 40 → gd (40 * r + k) = zI ((R r).2.2.2.2 / 10 ^ k % 10 : Nat)) ∧ RV (R r)
def RwP (S : Nat → AC) (V : Nat) : Prop := V < 10 ^ aL ∧ ∃ f, S 104 = aC (cI 0 25400 f) ∧ ∀ k, k < 25400 → f k = zI (V / 10 ^ k % 10 : Nat)
def rfL : List Nat := [98, 99, 100, 101, 102, 103, 104, 105, 106, 107, 108, 109, 110]
def RI (S0 : Nat → AC) (h : ix_H) (R : Nat → Dm) (V : Nat) (cd dr ra si tr : Nat) (mo ng : Bool) (sp sz wr : Nat) (il : Bool) (rs pt rl wo tx ou : Nat → Nat) : Prop :=
  ∃ S, Inv h S ∧ ag rfL S0 S ∧ S 98 = aC (cO 10 (mF cd dr ra si tr mo ng sp sz wr il)) ∧ RgP S R ∧ RwP S V ∧ S 105 = aC (dA 130 rs) ∧ S 106 = aC (dA 130 pt) ∧ S 107 = aC (dA 130 rl) ∧ S 108 = aC (cL 4 (fun j => zL (wo j : Int))) ∧ S 109 = aC (dA 120 tx) ∧ S 110 = aC (dA 64 ou)
abbrev sF (d : Dm) (x : Nat) : Dm := (x, d.2.1, d.2.2.1, d.2.2.2.1, d.2.2.2.2)
abbrev sS (d : Dm) (x : Nat) : Dm := (d.1, x, d.2.2.1, d.2.2.2.1, d.2.2.2.2)
abbrev sM (d : Dm) (x : Bool) : Dm := (d.1, d.2.1, x, d.2.2.2.1, d.2.2.2.2)
abbrev sE (d : Dm) (x : Int) : Dm := (d.1, d.2.1, d.2.2.1, x, d.2.2.2.2)
abbrev sC (d : Dm) (x : Nat) : Dm := (d.1, d.2.1, d.2.2.1, d.2.2.2.1, x)
section RFR
variable {mi pc pc' mj k idx : Nat} {i : Instr} {L L' : ix_L} {st st' rest as : List Value} {h h' : ix_H} {Q : ix_O → ix_H → Prop} {S0 : Nat → AC} {R : Nat → Dm} {V cd dr ra si tr : Nat} {mo ng : Bool} {sp sz wr : Nat} {il : Bool} {rs pt rl wo tx ou : Nat → Nat}
theorem RI.ob (K : (RI S0 h R V cd dr ra si tr mo ng sp sz wr il rs pt rl wo tx ou)) : ix_ob h 98 10 (mF cd dr ra si tr mo ng sp sz wr il) := by
  obtain ⟨S, I, g, e, r⟩ := K
  exact I.ob e
theorem RI.rv (K : (RI S0 h R V cd dr ra si tr mo ng sp sz wr il rs pt rl wo tx ou)) {r : Nat} (hr : r < 12) : RV (R r) := by
  obtain ⟨S, I, g, e, ⟨gm, gs, gf, gp, gd, a1, a2, a3, a4, a5, a6⟩, r⟩ := K
  exact (a6 _ hr).2.2.2.2.2
theorem RI.vb (K : (RI S0 h R V cd dr ra si tr mo ng sp sz wr il rs pt rl wo tx ou)) : V < 10 ^ aL := by
  obtain ⟨S, I, g, e, r1, r2, r⟩ := K
  exact r2.1
theorem jpM0 {v : Value} {cd' dr' ra' si' tr' : Nat} {mo' ng' : Bool} {sp' sz' wr' : Nat} {il' : Bool} (K : (RI S0 h R V cd dr ra si tr mo ng sp sz wr il rs pt rl wo tx ou)) (hi : ix_ins mi pc = some (.putfield idx)) (ht : ix_thr mi pc = none) (hf : ix_fld (ix_o mi) idx = some (10, k)) (hk : k < 23) (hfin : ix_fin 10 k = false) (hn : narrow (ix_fty 10 k) v = v) (hs : fits (ix_fty 10 k) v = true) (hset : (mF cd dr ra si tr mo ng sp sz wr il).set k v = mF cd' dr' ra' si' tr' mo' ng' sp' sz' wr' il') (hp : pc + 3 = pc') (q : ∀ h', (RI S0 h' R V (cd') (dr') (ra') (si') (tr') (mo') (ng') (sp') (sz') (wr') (il') rs pt rl wo tx ou) → ix_E mi pc' L st h' Q) : ix_E mi pc L (v :: .ref 98 :: st) h Q := by
  obtain ⟨S, I, g, e, r⟩ := K
  refine jpf (I.ob e) hi ht hf (by show k < 23; exact hk) (by rw [hfin]; intro z; cases z) hn hs hp (q _ ?_)
  refine ⟨_, I.pc (c' := cO 10 ((mF cd dr ra si tr mo ng sp sz wr il).set k v)) e (by show 10 < 100; decide), g.up (by decide), ?_, r⟩
  rw [va_up_self, hset]

theorem jp_cd (y : Nat) {x : Int32} (K : (RI S0 h R V cd dr ra si tr mo ng sp sz wr il rs pt rl wo tx ou)) (hx : x = (zI (y : Int))) (hi : ix_ins mi pc = some (.putfield idx)) (ht : ix_thr mi pc = none) (hf : ix_fld (ix_o mi) idx = some (10, 0)) (hp : pc + 3 = pc') (q : ∀ h', (RI S0 h' R V (y) dr ra si tr mo ng sp sz wr il rs pt rl wo tx ou) → ix_E mi pc' L st h' Q) : ix_E mi pc L (.int x :: .ref 98 :: st) h Q := by
  subst hx
  exact jpM0 K hi ht hf (by decide) rfl rfl rfl rfl hp q
theorem jp_dr (y : Nat) {x : Int32} (K : (RI S0 h R V cd dr ra si tr mo ng sp sz wr il rs pt rl wo tx ou)) (hx : x = (zI (y : Int))) (hi : ix_ins mi pc = some (.putfield idx)) (ht : ix_thr mi pc = none) (hf : ix_fld (ix_o mi) idx = some (10, 6)) (hp : pc + 3 = pc') (q : ∀ h', (RI S0 h' R V cd (y) ra si tr mo ng sp sz wr il rs pt rl wo tx ou) → ix_E mi pc' L st h' Q) : ix_E mi pc L (.int x :: .ref 98 :: st) h Q := by
  subst hx
  exact jpM0 K hi ht hf (by decide) rfl rfl rfl rfl hp q
theorem jp_ra (y : Nat) {x : Int32} (K : (RI S0 h R V cd dr ra si tr mo ng sp sz wr il rs pt rl wo tx ou)) (hx : x = (zI (y : Int))) (hi : ix_ins mi pc = some (.putfield idx)) (ht : ix_thr mi pc = none) (hf : ix_fld (ix_o mi) idx = some (10, 7)) (hp : pc + 3 = pc') (q : ∀ h', (RI S0 h' R V cd dr (y) si tr mo ng sp sz wr il rs pt rl wo tx ou) → ix_E mi pc' L st h' Q) : ix_E mi pc L (.int x :: .ref 98 :: st) h Q := by
  subst hx
  exact jpM0 K hi ht hf (by decide) rfl rfl rfl rfl hp q
theorem jp_si (y : Nat) {x : Int32} (K : (RI S0 h R V cd dr ra si tr mo ng sp sz wr il rs pt rl wo tx ou)) (hx : x = (zI (y : Int))) (hi : ix_ins mi pc = some (.putfield idx)) (ht : ix_thr mi pc = none) (hf : ix_fld (ix_o mi) idx = some (10, 8)) (hp : pc + 3 = pc') (q : ∀ h', (RI S0 h' R V cd dr ra (y) tr mo ng sp sz wr il rs pt rl wo tx ou) → ix_E mi pc' L st h' Q) : ix_E mi pc L (.int x :: .ref 98 :: st) h Q := by
  subst hx
  exact jpM0 K hi ht hf (by decide) rfl rfl rfl rfl hp q
theorem jp_tr (y : Nat) {x : Int32} (K : (RI S0 h R V cd dr ra si tr mo ng sp sz wr il rs pt rl wo tx ou)) (hx : x = (zI (y : Int))) (hi : ix_ins mi pc = some (.putfield idx)) (ht : ix_thr mi pc = none) (hf : ix_fld (ix_o mi) idx = some (10, 9)) (hp : pc + 3 = pc') (q : ∀ h', (RI S0 h' R V cd dr ra si (y) mo ng sp sz wr il rs pt rl wo tx ou) → ix_E mi pc' L st h' Q) : ix_E mi pc L (.int x :: .ref 98 :: st) h Q := by
  subst hx
  exact jpM0 K hi ht hf (by decide) rfl rfl rfl rfl hp q
theorem jp_mo (y : Bool) {x : Int32} (K : (RI S0 h R V cd dr ra si tr mo ng sp sz wr il rs pt rl wo tx ou)) (hx : x = (bI y)) (hi : ix_ins mi pc = some (.putfield idx)) (ht : ix_thr mi pc = none) (hf : ix_fld (ix_o mi) idx = some (10, 11)) (hp : pc + 3 = pc') (q : ∀ h', (RI S0 h' R V cd dr ra si tr (y) ng sp sz wr il rs pt rl wo tx ou) → ix_E mi pc' L st h' Q) : ix_E mi pc L (.int x :: .ref 98 :: st) h Q := by
  subst hx
  exact jpM0 K hi ht hf (by decide) rfl (nb _) (fb _) rfl hp q
theorem jp_ng (y : Bool) {x : Int32} (K : (RI S0 h R V cd dr ra si tr mo ng sp sz wr il rs pt rl wo tx ou)) (hx : x = (bI y)) (hi : ix_ins mi pc = some (.putfield idx)) (ht : ix_thr mi pc = none) (hf : ix_fld (ix_o mi) idx = some (10, 12)) (hp : pc + 3 = pc') (q : ∀ h', (RI S0 h' R V cd dr ra si tr mo (y) sp sz wr il rs pt rl wo tx ou) → ix_E mi pc' L st h' Q) : ix_E mi pc L (.int x :: .ref 98 :: st) h Q := by
  subst hx
  exact jpM0 K hi ht hf (by decide) rfl (nb _) (fb _) rfl hp q
theorem jp_sp (y : Nat) {x : Int32} (K : (RI S0 h R V cd dr ra si tr mo ng sp sz wr il rs pt rl wo tx ou)) (hx : x = (zI (y : Int))) (hi : ix_ins mi pc = some (.putfield idx)) (ht : ix_thr mi pc = none) (hf : ix_fld (ix_o mi) idx = some (10, 16)) (hp : pc + 3 = pc') (q : ∀ h', (RI S0 h' R V cd dr ra si tr mo ng (y) sz wr il rs pt rl wo tx ou) → ix_E mi pc' L st h' Q) : ix_E mi pc L (.int x :: .ref 98 :: st) h Q := by
  subst hx
  exact jpM0 K hi ht hf (by decide) rfl rfl rfl rfl hp q
theorem jp_sz (y : Nat) {x : Int32} (K : (RI S0 h R V cd dr ra si tr mo ng sp sz wr il rs pt rl wo tx ou)) (hx : x = (zI (y : Int))) (hi : ix_ins mi pc = some (.putfield idx)) (ht : ix_thr mi pc = none) (hf : ix_fld (ix_o mi) idx = some (10, 19)) (hp : pc + 3 = pc') (q : ∀ h', (RI S0 h' R V cd dr ra si tr mo ng sp (y) wr il rs pt rl wo tx ou) → ix_E mi pc' L st h' Q) : ix_E mi pc L (.int x :: .ref 98 :: st) h Q := by
  subst hx
  exact jpM0 K hi ht hf (by decide) rfl rfl rfl rfl hp q
theorem jp_wr (y : Nat) {x : Int32} (K : (RI S0 h R V cd dr ra si tr mo ng sp sz wr il rs pt rl wo tx ou)) (hx : x = (zI (y : Int))) (hi : ix_ins mi pc = some (.putfield idx)) (ht : ix_thr mi pc = none) (hf : ix_fld (ix_o mi) idx = some (10, 20)) (hp : pc + 3 = pc') (q : ∀ h', (RI S0 h' R V cd dr ra si tr mo ng sp sz (y) il rs pt rl wo tx ou) → ix_E mi pc' L st h' Q) : ix_E mi pc L (.int x :: .ref 98 :: st) h Q := by
  subst hx
  exact jpM0 K hi ht hf (by decide) rfl rfl rfl rfl hp q
theorem jp_il (y : Bool) {x : Int32} (K : (RI S0 h R V cd dr ra si tr mo ng sp sz wr il rs pt rl wo tx ou)) (hx : x = (bI y)) (hi : ix_ins mi pc = some (.putfield idx)) (ht : ix_thr mi pc = none) (hf : ix_fld (ix_o mi) idx = some (10, 22)) (hp : pc + 3 = pc') (q : ∀ h', (RI S0 h' R V cd dr ra si tr mo ng sp sz wr (y) rs pt rl wo tx ou) → ix_E mi pc' L st h' Q) : ix_E mi pc L (.int x :: .ref 98 :: st) h Q := by
  subst hx
  exact jpM0 K hi ht hf (by decide) rfl (nb _) (fb _) rfl hp q
/-! reading -/
theorem jaR {t r n : Nat} {j : Int} {f : Nat → Int32} {S : Nat → AC} (p : Nat) (I : Inv h S) (e : S r = aC (cI t n f)) (hi : ix_ins mi pc = some (if t = 0 then .iaload else .baload)) (htt : t = 0 ∨ t = 3) (ht : ix_thr mi pc = none) (hj : j = (p : Int)) (hn : p < n) (hp : pc + 1 = pc') (q : ix_E mi pc' L (.int (f p) :: st) h Q) : ix_E mi pc L (.int (zI j) :: .ref r :: st) h Q := by
  obtain ⟨a1, a2, a3, a4⟩ := I.cl e
  have a4' : n ≤ 100000 ∧ t < 5 := a4
  subst hj
  rw [← nz]
  rcases htt with rfl | rfl
  · exact jal ⟨a1, a2, a3, a4'⟩ hi ht hn hp q
  · refine jx1 (pc' := pc') (L' := L) (st' := .int (f p) :: st) (h' := h) ?_ q
    rw [ix_s1_of hi rfl rfl ht]
    have e1 := nI_clamp (n := p) (by omega)
    have e2 := nI_pos (n := p) (by omega)
    simp only [if_neg (show ¬ (3 : Nat) = 0 by decide), ix_x1, ix_al, a1, e1, hp]
    rw [if_pos ⟨trivial, Or.inl a2, a3, e2, hn⟩]
theorem jaL {r n : Nat} {j : Int} {f : Nat → Int64} {S : Nat → AC} (p : Nat) (I : Inv h S) (e : S r = aC (cL n f)) (hi : ix_ins mi pc = some .laload) (ht : ix_thr mi pc = none) (hj : j = (p : Int)) (hn : p < n) (hp : pc + 1 = pc') (q : ix_E mi pc' L (.long (f p) :: st) h Q) : ix_E mi pc L (.int (zI j) :: .ref r :: st) h Q := by
  obtain ⟨a1, a2, a3, a4⟩ := I.cl e
  have a4' : n ≤ 100000 ∧ 1 < 5 := a4
  subst hj
  rw [← nz]
  refine jx1 (pc' := pc') (L' := L) (st' := .long (f p) :: st) (h' := h) ?_ q
  rw [ix_s1_of hi rfl rfl ht]
  have e1 := nI_clamp (n := p) (by omega)
  have e2 := nI_pos (n := p) (by omega)
  simp only [ix_x1, ix_aL, a1, e1, hp]
  rw [if_pos ⟨trivial, a2, a3, e2, hn⟩]

theorem jR_so {j : Int} (r : Nat) (K : (RI S0 h R V cd dr ra si tr mo ng sp sz wr il rs pt rl wo tx ou)) (hi : ix_ins mi pc = some .iaload) (ht : ix_thr mi pc = none) (hj : j = (r : Int)) (hr : r < 12) (hp : pc + 1 = pc') (q : ix_E mi pc' L (.int (zI (swp (R r).2.1 : Nat)) :: st) h Q) : ix_E mi pc L (.int (zI j) :: .ref 100 :: st) h Q := by
  obtain ⟨S, I, g, e, ⟨gm, gs, gf, gp, gd, a1, a2, a3, a4, a5, a6⟩, b1, b2, b3, b4, b5, b6, b7⟩ := K
  refine jaR r I a2 hi (Or.inl rfl) ht hj hr hp ?_
  rw [(a6 r hr).2.1]
  exact q
theorem jR_f {j : Int} (r : Nat) (K : (RI S0 h R V cd dr ra si tr mo ng sp sz wr il rs pt rl wo tx ou)) (hi : ix_ins mi pc = some .iaload) (ht : ix_thr mi pc = none) (hj : j = (r : Int)) (hr : r < 12) (hp : pc + 1 = pc') (q : ix_E mi pc' L (.int (zI (R r).1) :: st) h Q) : ix_E mi pc L (.int (zI j) :: .ref 101 :: st) h Q := by
  obtain ⟨S, I, g, e, ⟨gm, gs, gf, gp, gd, a1, a2, a3, a4, a5, a6⟩, b1, b2, b3, b4, b5, b6, b7⟩ := K
  refine jaR r I a3 hi (Or.inl rfl) ht hj hr hp ?_
  rw [(a6 r hr).2.2.1]
  exact q
theorem jR_p {j : Int} (r : Nat) (K : (RI S0 h R V cd dr ra si tr mo ng sp sz wr il rs pt rl wo tx ou)) (hi : ix_ins mi pc = some .iaload) (ht : ix_thr mi pc = none) (hj : j = (r : Int)) (hr : r < 12) (hp : pc + 1 = pc') (q : ix_E mi pc' L (.int (zI (R r).2.2.2.1) :: st) h Q) : ix_E mi pc L (.int (zI j) :: .ref 102 :: st) h Q := by
  obtain ⟨S, I, g, e, ⟨gm, gs, gf, gp, gd, a1, a2, a3, a4, a5, a6⟩, b1, b2, b3, b4, b5, b6, b7⟩ := K
  refine jaR r I a4 hi (Or.inl rfl) ht hj hr hp ?_
  rw [(a6 r hr).2.2.2.1]
  exact q
theorem jR_m {j : Int} (r : Nat) (K : (RI S0 h R V cd dr ra si tr mo ng sp sz wr il rs pt rl wo tx ou)) (hi : ix_ins mi pc = some .baload) (ht : ix_thr mi pc = none) (hj : j = (r : Int)) (hr : r < 12) (hp : pc + 1 = pc') (q : ix_E mi pc' L (.int (bI (R r).2.2.1) :: st) h Q) : ix_E mi pc L (.int (zI j) :: .ref 99 :: st) h Q := by
  obtain ⟨S, I, g, e, ⟨gm, gs, gf, gp, gd, a1, a2, a3, a4, a5, a6⟩, b1, b2, b3, b4, b5, b6, b7⟩ := K
  refine jaR r I a1 hi (Or.inr rfl) ht hj hr hp ?_
  rw [(a6 r hr).1]
  exact q
theorem jR_d {j : Int} (r k : Nat) (K : (RI S0 h R V cd dr ra si tr mo ng sp sz wr il rs pt rl wo tx ou)) (hi : ix_ins mi pc = some .iaload) (ht : ix_thr mi pc = none) (hj : j = 40 * (r : Int) + (k : Int)) (hr : r < 12) (hk : k < 40) (hp : pc + 1 = pc') (q : ix_E mi pc' L (.int (zI ((R r).2.2.2.2 / 10 ^ k % 10 : Nat)) :: st) h Q) : ix_E mi pc L (.int (zI j) :: .ref 103 :: st) h Q := by
  obtain ⟨S, I, g, e, ⟨gm, gs, gf, gp, gd, a1, a2, a3, a4, a5, a6⟩, b1, b2, b3, b4, b5, b6, b7⟩ := K
  refine jaR (40 * r + k) I a5 hi (Or.inl rfl) ht (by omega) (by omega) hp ?_
  rw [(a6 r hr).2.2.2.2.1 k hk]
  exact q
theorem jR_r {j : Int} (r : Nat) (K : (RI S0 h R V cd dr ra si tr mo ng sp sz wr il rs pt rl wo tx ou)) (hi : ix_ins mi pc = some .iaload) (ht : ix_thr mi pc = none) (hj : j = (r : Int)) (hr : r < 25400) (hp : pc + 1 = pc') (q : ix_E mi pc' L (.int (zI (V / 10 ^ r % 10 : Nat)) :: st) h Q) : ix_E mi pc L (.int (zI j) :: .ref 104 :: st) h Q := by
  obtain ⟨S, I, g, e, a, ⟨hV, f, b1, b1'⟩, b⟩ := K
  refine jaR r I b1 hi (Or.inl rfl) ht hj hr hp ?_
  rw [b1' r hr]
  exact q
theorem jR_e {j : Int} (r : Nat) (K : (RI S0 h R V cd dr ra si tr mo ng sp sz wr il rs pt rl wo tx ou)) (hi : ix_ins mi pc = some .iaload) (ht : ix_thr mi pc = none) (hj : j = (r : Int)) (hr : r < 130) (hp : pc + 1 = pc') (q : ix_E mi pc' L (.int (zI (rs r : Nat)) :: st) h Q) : ix_E mi pc L (.int (zI j) :: .ref 105 :: st) h Q := by
  obtain ⟨S, I, g, e, ⟨gm, gs, gf, gp, gd, a1, a2, a3, a4, a5, a6⟩, b1, b2, b3, b4, b5, b6, b7⟩ := K
  exact jaR r I b2 hi (Or.inl rfl) ht hj hr hp q
theorem jR_t {j : Int} (r : Nat) (K : (RI S0 h R V cd dr ra si tr mo ng sp sz wr il rs pt rl wo tx ou)) (hi : ix_ins mi pc = some .iaload) (ht : ix_thr mi pc = none) (hj : j = (r : Int)) (hr : r < 130) (hp : pc + 1 = pc') (q : ix_E mi pc' L (.int (zI (pt r : Nat)) :: st) h Q) : ix_E mi pc L (.int (zI j) :: .ref 106 :: st) h Q := by
  obtain ⟨S, I, g, e, ⟨gm, gs, gf, gp, gd, a1, a2, a3, a4, a5, a6⟩, b1, b2, b3, b4, b5, b6, b7⟩ := K
  exact jaR r I b3 hi (Or.inl rfl) ht hj hr hp q
theorem jR_u {j : Int} (r : Nat) (K : (RI S0 h R V cd dr ra si tr mo ng sp sz wr il rs pt rl wo tx ou)) (hi : ix_ins mi pc = some .iaload) (ht : ix_thr mi pc = none) (hj : j = (r : Int)) (hr : r < 130) (hp : pc + 1 = pc') (q : ix_E mi pc' L (.int (zI (rl r : Nat)) :: st) h Q) : ix_E mi pc L (.int (zI j) :: .ref 107 :: st) h Q := by
  obtain ⟨S, I, g, e, ⟨gm, gs, gf, gp, gd, a1, a2, a3, a4, a5, a6⟩, b1, b2, b3, b4, b5, b6, b7⟩ := K
  exact jaR r I b4 hi (Or.inl rfl) ht hj hr hp q
theorem jR_x {j : Int} (r : Nat) (K : (RI S0 h R V cd dr ra si tr mo ng sp sz wr il rs pt rl wo tx ou)) (hi : ix_ins mi pc = some .iaload) (ht : ix_thr mi pc = none) (hj : j = (r : Int)) (hr : r < 120) (hp : pc + 1 = pc') (q : ix_E mi pc' L (.int (zI (tx r : Nat)) :: st) h Q) : ix_E mi pc L (.int (zI j) :: .ref 109 :: st) h Q := by
  obtain ⟨S, I, g, e, ⟨gm, gs, gf, gp, gd, a1, a2, a3, a4, a5, a6⟩, b1, b2, b3, b4, b5, b6, b7⟩ := K
  exact jaR r I b6 hi (Or.inl rfl) ht hj hr hp q
theorem jR_o {j : Int} (r : Nat) (K : (RI S0 h R V cd dr ra si tr mo ng sp sz wr il rs pt rl wo tx ou)) (hi : ix_ins mi pc = some .iaload) (ht : ix_thr mi pc = none) (hj : j = (r : Int)) (hr : r < 64) (hp : pc + 1 = pc') (q : ix_E mi pc' L (.int (zI (ou r : Nat)) :: st) h Q) : ix_E mi pc L (.int (zI j) :: .ref 110 :: st) h Q := by
  obtain ⟨S, I, g, e, ⟨gm, gs, gf, gp, gd, a1, a2, a3, a4, a5, a6⟩, b1, b2, b3, b4, b5, b6, b7⟩ := K
  exact jaR r I b7 hi (Or.inl rfl) ht hj hr hp q
theorem jR_w {j : Int} (r : Nat) (K : (RI S0 h R V cd dr ra si tr mo ng sp sz wr il rs pt rl wo tx ou)) (hi : ix_ins mi pc = some .laload) (ht : ix_thr mi pc = none) (hj : j = (r : Int)) (hr : r < 4) (hp : pc + 1 = pc') (q : ix_E mi pc' L (.long (zL (wo r : Nat)) :: st) h Q) : ix_E mi pc L (.int (zI j) :: .ref 108 :: st) h Q := by
  obtain ⟨S, I, g, e, ⟨gm, gs, gf, gp, gd, a1, a2, a3, a4, a5, a6⟩, b1, b2, b3, b4, b5, b6, b7⟩ := K
  exact jaL r I b5 hi ht hj hr hp q
/-! writing -/
theorem jaW {t r n : Nat} {j : Int} {x : Int32} {f : Nat → Int32} {S : Nat → AC} (p : Nat) (I : Inv h S) (e : S r = aC (cI t n f)) (hi : ix_ins mi pc = some (if t = 0 then .iastore else .bastore)) (htt : t = 0 ∨ (t = 3 ∧ ∃ b : Bool, x = bI b)) (ht : ix_thr mi pc = none) (hj : j = (p : Int)) (hn : p < n) (hp : pc + 1 = pc') (q : ∀ h', Inv h' (va_up S r (aC (cI t n (upd f p x)))) → ix_E mi pc' L st h' Q) : ix_E mi pc L (.int x :: .int (zI j) :: .ref r :: st) h Q := by
  obtain ⟨a1, a2, a3, a4⟩ := I.cl e
  have a4' : n ≤ 100000 ∧ t < 5 := a4
  subst hj
  rw [← nz]
  rcases htt with rfl | ⟨rfl, b, rfl⟩
  · exact jas ⟨a1, a2, a3, a4'⟩ hi ht hn hp (q _ (I.pc e a4))
  · refine jx1 (pc' := pc') (L' := L) (st' := st) (h' := ix_up h r (cI 3 n (upd f p (bI b)))) ?_ (q _ (I.pc e a4))
    rw [ix_s1_of hi rfl rfl ht]
    have e1 := nI_clamp (n := p) (by omega)
    have e2 := nI_pos (n := p) (by omega)
    have e3 : vp_nar .boolean (bI b) = bI b := by cases b <;> rfl
    simp only [if_neg (show ¬ (3 : Nat) = 0 by decide), ix_x1, ix_as, a1, e1, hp, e3]
    rw [if_pos ⟨trivial, a2, a3, e2, hn⟩]
theorem jaWL {r n : Nat} {j : Int} {x : Int64} {f : Nat → Int64} {S : Nat → AC} (p : Nat) (I : Inv h S) (e : S r = aC (cL n f)) (hi : ix_ins mi pc = some .lastore) (ht : ix_thr mi pc = none) (hj : j = (p : Int)) (hn : p < n) (hp : pc + 1 = pc') (q : ∀ h', Inv h' (va_up S r (aC (cL n (vp_updL f p x)))) → ix_E mi pc' L st h' Q) : ix_E mi pc L (.long x :: .int (zI j) :: .ref r :: st) h Q := by
  obtain ⟨a1, a2, a3, a4⟩ := I.cl e
  have a4' : n ≤ 100000 ∧ 1 < 5 := a4
  subst hj
  rw [← nz]
  refine jx1 (pc' := pc') (L' := L) (st' := st) (h' := ix_up h r (cL n (vp_updL f p x))) ?_ (q _ (I.pc e a4))
  rw [ix_s1_of hi rfl rfl ht]
  have e1 := nI_clamp (n := p) (by omega)
  have e2 := nI_pos (n := p) (by omega)
  simp only [ix_x1, ix_sL, a1, e1, hp]
  rw [if_pos ⟨trivial, a2, a3, e2, hn⟩]
theorem up_s {f : Nat → Int32} {k : Nat} {x : Int32} : upd f k x k = x := by simp [upd]
theorem up_n {f : Nat → Int32} {k j : Nat} {x : Int32} (h : j ≠ k) : upd f k x j = f j := by simp [upd, h]
theorem upd_dA (f : Nat → Nat) (k x : Nat) : upd (fun j => zI (f j : Int)) k (zI (x : Int)) = fun j => zI ((va_up f k x j : Nat) : Int) := by
  funext j
  unfold upd va_up
  split <;> rfl
theorem updL_dA (f : Nat → Nat) (k x : Nat) : vp_updL (fun j => zL (f j : Int)) k (zL (x : Int)) = fun j => zL ((va_up f k x j : Nat) : Int) := by
  funext j
  unfold vp_updL va_up
  split <;> rfl

theorem jW_so {j : Int} {x : Int32} (r : Nat) (y : Nat) (K : (RI S0 h R V cd dr ra si tr mo ng sp sz wr il rs pt rl wo tx ou)) (hx : x = (zI (swp y : Nat))) (hi : ix_ins mi pc = some .iastore) (ht : ix_thr mi pc = none) (hj : j = (r : Int)) (hr : r < 12) (hp : pc + 1 = pc') (hy : y < 4) (q : ∀ h', (RI S0 h' (va_up R r (sS (R r) y)) V cd dr ra si tr mo ng sp sz wr il rs pt rl wo tx ou) → ix_E mi pc' L st h' Q) : ix_E mi pc L (.int x :: .int (zI j) :: .ref 100 :: st) h Q := by
  subst hx
  obtain ⟨S, I, g, e, ⟨gm, gs, gf, gp, gd, a1, a2, a3, a4, a5, a6⟩, b1, b2, b3, b4, b5, b6, b7⟩ := K
  refine jaW r I a2 hi (Or.inl rfl) ht hj hr hp fun h' I' => q _ ?_
  refine ⟨_, I', g.up (by decide), e, ⟨gm, upd gs r _, gf, gp, gd, a1, va_up_self _ _ _, a3, a4, a5, fun u hu => ?_⟩, b1, b2, b3, b4, b5, b6, b7⟩
  by_cases z : u = r
  · subst z
    obtain ⟨c1, c2, c3, c4, c5, c6⟩ := a6 u hu
    rw [va_up_self]
    exact ⟨c1, up_s, c3, c4, c5, ⟨c6.1, hy, c6.2.2⟩⟩
  · rw [va_up_ne _ _ z]
    obtain ⟨c1, c2, c3, c4, c5, c6⟩ := a6 u hu
    exact ⟨c1, (up_n z).trans c2, c3, c4, c5, c6⟩
theorem jW_f {j : Int} {x : Int32} (r : Nat) (y : Nat) (K : (RI S0 h R V cd dr ra si tr mo ng sp sz wr il rs pt rl wo tx ou)) (hx : x = (zI (y : Int))) (hi : ix_ins mi pc = some .iastore) (ht : ix_thr mi pc = none) (hj : j = (r : Int)) (hr : r < 12) (hp : pc + 1 = pc') (hy : y < 3) (q : ∀ h', (RI S0 h' (va_up R r (sF (R r) y)) V cd dr ra si tr mo ng sp sz wr il rs pt rl wo tx ou) → ix_E mi pc' L st h' Q) : ix_E mi pc L (.int x :: .int (zI j) :: .ref 101 :: st) h Q := by
  subst hx
  obtain ⟨S, I, g, e, ⟨gm, gs, gf, gp, gd, a1, a2, a3, a4, a5, a6⟩, b1, b2, b3, b4, b5, b6, b7⟩ := K
  refine jaW r I a3 hi (Or.inl rfl) ht hj hr hp fun h' I' => q _ ?_
  refine ⟨_, I', g.up (by decide), e, ⟨gm, gs, upd gf r _, gp, gd, a1, a2, va_up_self _ _ _, a4, a5, fun u hu => ?_⟩, b1, b2, b3, b4, b5, b6, b7⟩
  by_cases z : u = r
  · subst z
    obtain ⟨c1, c2, c3, c4, c5, c6⟩ := a6 u hu
    rw [va_up_self]
    exact ⟨c1, c2, up_s, c4, c5, ⟨hy, c6.2⟩⟩
  · rw [va_up_ne _ _ z]
    obtain ⟨c1, c2, c3, c4, c5, c6⟩ := a6 u hu
    exact ⟨c1, c2, (up_n z).trans c3, c4, c5, c6⟩
theorem jW_p {j : Int} {x : Int32} (r : Nat) (y : Int) (K : (RI S0 h R V cd dr ra si tr mo ng sp sz wr il rs pt rl wo tx ou)) (hx : x = (zI y)) (hi : ix_ins mi pc = some .iastore) (ht : ix_thr mi pc = none) (hj : j = (r : Int)) (hr : r < 12) (hp : pc + 1 = pc') (hy : -30000 ≤ y ∧ y ≤ 30000) (q : ∀ h', (RI S0 h' (va_up R r (sE (R r) y)) V cd dr ra si tr mo ng sp sz wr il rs pt rl wo tx ou) → ix_E mi pc' L st h' Q) : ix_E mi pc L (.int x :: .int (zI j) :: .ref 102 :: st) h Q := by
  subst hx
  obtain ⟨S, I, g, e, ⟨gm, gs, gf, gp, gd, a1, a2, a3, a4, a5, a6⟩, b1, b2, b3, b4, b5, b6, b7⟩ := K
  refine jaW r I a4 hi (Or.inl rfl) ht hj hr hp fun h' I' => q _ ?_
  refine ⟨_, I', g.up (by decide), e, ⟨gm, gs, gf, upd gp r _, gd, a1, a2, a3, va_up_self _ _ _, a5, fun u hu => ?_⟩, b1, b2, b3, b4, b5, b6, b7⟩
  by_cases z : u = r
  · subst z
    obtain ⟨c1, c2, c3, c4, c5, c6⟩ := a6 u hu
    rw [va_up_self]
    exact ⟨c1, c2, c3, up_s, c5, ⟨c6.1, c6.2.1, hy.1, hy.2, c6.2.2.2.2⟩⟩
  · rw [va_up_ne _ _ z]
    obtain ⟨c1, c2, c3, c4, c5, c6⟩ := a6 u hu
    exact ⟨c1, c2, c3, (up_n z).trans c4, c5, c6⟩
theorem jW_m {j : Int} {x : Int32} (r : Nat) (y : Bool) (K : (RI S0 h R V cd dr ra si tr mo ng sp sz wr il rs pt rl wo tx ou)) (hx : x = (bI y)) (hi : ix_ins mi pc = some .bastore) (ht : ix_thr mi pc = none) (hj : j = (r : Int)) (hr : r < 12) (hp : pc + 1 = pc')  (q : ∀ h', (RI S0 h' (va_up R r (sM (R r) y)) V cd dr ra si tr mo ng sp sz wr il rs pt rl wo tx ou) → ix_E mi pc' L st h' Q) : ix_E mi pc L (.int x :: .int (zI j) :: .ref 99 :: st) h Q := by
  subst hx
  obtain ⟨S, I, g, e, ⟨gm, gs, gf, gp, gd, a1, a2, a3, a4, a5, a6⟩, b1, b2, b3, b4, b5, b6, b7⟩ := K
  refine jaW r I a1 hi (Or.inr ⟨rfl, y, rfl⟩) ht hj hr hp fun h' I' => q _ ?_
  refine ⟨_, I', g.up (by decide), e, ⟨upd gm r _, gs, gf, gp, gd, va_up_self _ _ _, a2, a3, a4, a5, fun u hu => ?_⟩, b1, b2, b3, b4, b5, b6, b7⟩
  by_cases z : u = r
  · subst z
    obtain ⟨c1, c2, c3, c4, c5, c6⟩ := a6 u hu
    rw [va_up_self]
    exact ⟨up_s, c2, c3, c4, c5, c6⟩
  · rw [va_up_ne _ _ z]
    obtain ⟨c1, c2, c3, c4, c5, c6⟩ := a6 u hu
    exact ⟨(up_n z).trans c1, c2, c3, c4, c5, c6⟩
theorem jW_d {j : Int} {x : Int32} (r k y : Nat) (K : (RI S0 h R V cd dr ra si tr mo ng sp sz wr il rs pt rl wo tx ou)) (hx : x = zI (y : Int)) (hi : ix_ins mi pc = some .iastore) (ht : ix_thr mi pc = none) (hj : j = 40 * (r : Int) + (k : Int)) (hr : r < 12) (hk : k < 40) (hp : pc + 1 = pc') (hy : y < 10) (q : ∀ h', (RI S0 h' (va_up R r (sC (R r) (sd (R r).2.2.2.2 k y))) V cd dr ra si tr mo ng sp sz wr il rs pt rl wo tx ou) → ix_E mi pc' L st h' Q) : ix_E mi pc L (.int x :: .int (zI j) :: .ref 103 :: st) h Q := by
  subst hx
  obtain ⟨S, I, g, e, ⟨gm, gs, gf, gp, gd, a1, a2, a3, a4, a5, a6⟩, b1, b2, b3, b4, b5, b6, b7⟩ := K
  refine jaW (40 * r + k) I a5 hi (Or.inl rfl) ht (by omega) (by omega) hp fun h' I' => q _ ?_
  refine ⟨_, I', g.up (by decide), e, ⟨gm, gs, gf, gp, upd gd (40 * r + k) _, a1, a2, a3, a4, va_up_self _ _ _, fun u hu => ?_⟩, b1, b2, b3, b4, b5, b6, b7⟩
  obtain ⟨c1, c2, c3, c4, c5, c6⟩ := a6 u hu
  by_cases z : u = r
  · subst z
    rw [va_up_self]
    refine ⟨c1, c2, c3, c4, fun k' hk' => ?_, c6.1, c6.2.1, c6.2.2.1, c6.2.2.2.1, sd_lt hy c6.2.2.2.2 hk⟩
    show _ = zI ((sd (R u).2.2.2.2 k y / 10 ^ k' % 10 : Nat) : Int)
    rw [sd_d hy]
    by_cases e1 : k' = k
    · subst e1
      rw [up_s, if_pos rfl]
    · rw [up_n (by omega), if_neg e1, c5 k' hk']
  · rw [va_up_ne _ _ z]
    refine ⟨c1, c2, c3, c4, fun k' hk' => ?_, c6⟩
    rw [up_n (by omega), c5 k' hk']
theorem jW_r {j : Int} {x : Int32} (r y : Nat) (K : (RI S0 h R V cd dr ra si tr mo ng sp sz wr il rs pt rl wo tx ou)) (hx : x = zI (y : Int)) (hi : ix_ins mi pc = some .iastore) (ht : ix_thr mi pc = none) (hj : j = (r : Int)) (hr : r < 25400) (hp : pc + 1 = pc') (hy : y < 10) (q : ∀ h', (RI S0 h' R (sd V r y) cd dr ra si tr mo ng sp sz wr il rs pt rl wo tx ou) → ix_E mi pc' L st h' Q) : ix_E mi pc L (.int x :: .int (zI j) :: .ref 104 :: st) h Q := by
  subst hx
  obtain ⟨S, I, g, e, a, ⟨hV, f, b1, b1'⟩, b⟩ := K
  refine jaW r I b1 hi (Or.inl rfl) ht hj hr hp fun h' I' => q _ ?_
  refine ⟨_, I', g.up (by decide), e, a, ⟨sd_lt hy hV (by unfold aL; exact hr), _, va_up_self _ _ _, fun k hk => ?_⟩, b⟩
  rw [sd_d hy]
  by_cases e1 : k = r
  · subst e1
    rw [up_s, if_pos rfl]
  · rw [up_n e1, if_neg e1, b1' k hk]
theorem jW_e {j : Int} {x : Int32} (r y : Nat) (K : (RI S0 h R V cd dr ra si tr mo ng sp sz wr il rs pt rl wo tx ou)) (hx : x = zI (y : Int)) (hi : ix_ins mi pc = some .iastore) (ht : ix_thr mi pc = none) (hj : j = (r : Int)) (hr : r < 130) (hp : pc + 1 = pc') (q : ∀ h', (RI S0 h' R V cd dr ra si tr mo ng sp sz wr il (va_up rs r y) pt rl wo tx ou) → ix_E mi pc' L st h' Q) : ix_E mi pc L (.int x :: .int (zI j) :: .ref 105 :: st) h Q := by
  subst hx
  obtain ⟨S, I, g, e, a, b1, b2, b3, b4, b5, b6, b7⟩ := K
  refine jaW r I b2 hi (Or.inl rfl) ht hj hr hp fun h' I' => q _ ?_
  rw [upd_dA] at I'
  exact ⟨_, I', g.up (by decide), e, a, b1, (va_up_self _ _ _), b3, b4, b5, b6, b7⟩
theorem jW_t {j : Int} {x : Int32} (r y : Nat) (K : (RI S0 h R V cd dr ra si tr mo ng sp sz wr il rs pt rl wo tx ou)) (hx : x = zI (y : Int)) (hi : ix_ins mi pc = some .iastore) (ht : ix_thr mi pc = none) (hj : j = (r : Int)) (hr : r < 130) (hp : pc + 1 = pc') (q : ∀ h', (RI S0 h' R V cd dr ra si tr mo ng sp sz wr il rs (va_up pt r y) rl wo tx ou) → ix_E mi pc' L st h' Q) : ix_E mi pc L (.int x :: .int (zI j) :: .ref 106 :: st) h Q := by
  subst hx
  obtain ⟨S, I, g, e, a, b1, b2, b3, b4, b5, b6, b7⟩ := K
  refine jaW r I b3 hi (Or.inl rfl) ht hj hr hp fun h' I' => q _ ?_
  rw [upd_dA] at I'
  exact ⟨_, I', g.up (by decide), e, a, b1, b2, (va_up_self _ _ _), b4, b5, b6, b7⟩
theorem jW_u {j : Int} {x : Int32} (r y : Nat) (K : (RI S0 h R V cd dr ra si tr mo ng sp sz wr il rs pt rl wo tx ou)) (hx : x = zI (y : Int)) (hi : ix_ins mi pc = some .iastore) (ht : ix_thr mi pc = none) (hj : j = (r : Int)) (hr : r < 130) (hp : pc + 1 = pc') (q : ∀ h', (RI S0 h' R V cd dr ra si tr mo ng sp sz wr il rs pt (va_up rl r y) wo tx ou) → ix_E mi pc' L st h' Q) : ix_E mi pc L (.int x :: .int (zI j) :: .ref 107 :: st) h Q := by
  subst hx
  obtain ⟨S, I, g, e, a, b1, b2, b3, b4, b5, b6, b7⟩ := K
  refine jaW r I b4 hi (Or.inl rfl) ht hj hr hp fun h' I' => q _ ?_
  rw [upd_dA] at I'
  exact ⟨_, I', g.up (by decide), e, a, b1, b2, b3, (va_up_self _ _ _), b5, b6, b7⟩
theorem jW_x {j : Int} {x : Int32} (r y : Nat) (K : (RI S0 h R V cd dr ra si tr mo ng sp sz wr il rs pt rl wo tx ou)) (hx : x = zI (y : Int)) (hi : ix_ins mi pc = some .iastore) (ht : ix_thr mi pc = none) (hj : j = (r : Int)) (hr : r < 120) (hp : pc + 1 = pc') (q : ∀ h', (RI S0 h' R V cd dr ra si tr mo ng sp sz wr il rs pt rl wo (va_up tx r y) ou) → ix_E mi pc' L st h' Q) : ix_E mi pc L (.int x :: .int (zI j) :: .ref 109 :: st) h Q := by
  subst hx
  obtain ⟨S, I, g, e, a, b1, b2, b3, b4, b5, b6, b7⟩ := K
  refine jaW r I b6 hi (Or.inl rfl) ht hj hr hp fun h' I' => q _ ?_
  rw [upd_dA] at I'
  exact ⟨_, I', g.up (by decide), e, a, b1, b2, b3, b4, b5, (va_up_self _ _ _), b7⟩
theorem jW_o {j : Int} {x : Int32} (r y : Nat) (K : (RI S0 h R V cd dr ra si tr mo ng sp sz wr il rs pt rl wo tx ou)) (hx : x = zI (y : Int)) (hi : ix_ins mi pc = some .iastore) (ht : ix_thr mi pc = none) (hj : j = (r : Int)) (hr : r < 64) (hp : pc + 1 = pc') (q : ∀ h', (RI S0 h' R V cd dr ra si tr mo ng sp sz wr il rs pt rl wo tx (va_up ou r y)) → ix_E mi pc' L st h' Q) : ix_E mi pc L (.int x :: .int (zI j) :: .ref 110 :: st) h Q := by
  subst hx
  obtain ⟨S, I, g, e, a, b1, b2, b3, b4, b5, b6, b7⟩ := K
  refine jaW r I b7 hi (Or.inl rfl) ht hj hr hp fun h' I' => q _ ?_
  rw [upd_dA] at I'
  exact ⟨_, I', g.up (by decide), e, a, b1, b2, b3, b4, b5, b6, (va_up_self _ _ _)⟩
theorem jW_w {j : Int} {x : Int64} (r y : Nat) (K : (RI S0 h R V cd dr ra si tr mo ng sp sz wr il rs pt rl wo tx ou)) (hx : x = zL (y : Int)) (hi : ix_ins mi pc = some .lastore) (ht : ix_thr mi pc = none) (hj : j = (r : Int)) (hr : r < 4) (hp : pc + 1 = pc') (q : ∀ h', (RI S0 h' R V cd dr ra si tr mo ng sp sz wr il rs pt rl (va_up wo r y) tx ou) → ix_E mi pc' L st h' Q) : ix_E mi pc L (.long x :: .int (zI j) :: .ref 108 :: st) h Q := by
  subst hx
  obtain ⟨S, I, g, e, a, b1, b2, b3, b4, b5, b6, b7⟩ := K
  refine jaWL r I b5 hi ht hj hr hp fun h' I' => q _ ?_
  rw [updL_dA] at I'
  exact ⟨_, I', g.up (by decide), e, a, b1, b2, b3, b4, (va_up_self _ _ _), b6, b7⟩
end RFR
