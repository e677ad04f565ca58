/-! ===== the run, whole ===== -/
set_option maxHeartbeats 1000000 in
theorem ix_sound (l : Launch) (htr : ∀ e : Env, l.admits e → e.platform.stackTraces = false) (G : ix_G) (lo : Nat → ix_C) : ∀ n, ix_P l G lo n := by
  intro n
  induction n with
  | zero => intro mi pc L st h o h' hev; cases hev
  | succ n IH =>
    intro mi pc L st h o h' hev p e R s m args below meth c H locs cells slots ls c0 s0 I hD hlo hsz hc0 hc hs hRc hRs hCM hSM hl
    rw [ix_ev] at hev
    cases hi : ix_ins mi pc with
    | none => simp only [hi] at hev; cases hev
    | some i =>
      simp only [hi] at hev
      cases hq : ix_isr i with
      | true =>
        simp only [hq] at hev
        cases hv : ix_rv (ix_rt mi) i st with
        | none => rw [hv] at hev; cases hev
        | some v =>
          rw [hv] at hev
          cases hev
          exact ix_ret_ok I hi hv hD hlo hc hs hCM hSM
      | false =>
        simp only [hq] at hev
        cases hx : ix_ix i with
        | some k =>
          simp only [hx] at hev
          cases hcal : ix_cal (ix_o mi) k with
          | none => simp only [hcal] at hev; cases hev
          | some z =>
            obtain ⟨z0, mj⟩ := z
            cases z0 with
            | zero =>
              simp only [hcal] at hev
              cases ho : ix_ok i mi mj L.length st h with
              | false => simp only [ho] at hev; cases hev
              | true =>
                simp only [ho] at hev
                simp only [ix_ok, Bool.and_eq_true, Bool.or_eq_true] at ho
                obtain ⟨⟨⟨⟨⟨⟨⟨o0, o1⟩, o2⟩, o3⟩, o4⟩, o5⟩, o6⟩, o7⟩ := ho
                have o2' := Nat.le_of_ble_eq_true o2
                have o3' := Nat.le_of_ble_eq_true o3
                have o4' := Nat.le_of_ble_eq_true o4
                have o5' := Nat.le_of_ble_eq_true o5
                have o6' := Nat.le_of_ble_eq_true o6
                generalize has : (st.take (ix_na' mj)).reverse = as at hev o7
                generalize hrest : st.drop (ix_na' mj) = rest at hev o5'
                have hst : st = as.reverse ++ rest := by rw [← has, ← hrest, List.reverse_reverse, List.take_append_drop]
                have hlen : as.length = ix_na' mj := by rw [← has, List.length_reverse, List.length_take]; omega
                have hcat : (as.map Value.category).sum ≤ ix_ml mj := by
                  rw [← has, List.map_reverse, List.sum_reverse]; exact o6'
                obtain ⟨mk, methk, ck, hn, hmk, hck, h3, h4, h5, h6, h7, hsig, hpk, hoj⟩ := ix_meth (s := s) (args := args) I.2.2.2.2.2.2.2.1 hcal
                obtain ⟨inv, d3⟩ := ix_inv_ok (l := l) (e := e) (below := below) (cells := cells) (slots := slots) (rest := rest) (ls := ls) I hi hx hcal o1 o7 hlen hD hlo hn hmk hsig
                rw [hst]
                refine ix_W_size fun hle => ?_
                have hHs := ix_size hD hsz hc0 hc hle
                cases hv : ix_ev n mj 0 (ix_en as (ix_ml mj)) [] h with
                | none => simp only [hv] at hev; cases hev
                | some w =>
                  obtain ⟨o1, h1⟩ := w
                  simp only [hv] at hev
                  obtain ⟨hexec, hb, hml, hrt, hlk, hnm, hown, hts, hhb, hK, hty, hro, hbs, hfr, hwd⟩ := id I
                  have hsize : (F0 m pc ls ((as.reverse ++ rest).map (ix_v G))).locals.size = c.maxLocals := by
                    show ls.size = c.maxLocals
                    rw [hl.1, hml]
                    exact Nat.eq_of_beq_eq_true o0
                  refine ix_W_call (g := F0 m pc ls ((as.reverse ++ rest).map (ix_v G))) rfl hsize d3 inv (R' := { frames := ix_fr mj, cells := ix_CM - h.1, slots := ix_SM - h.2.1, locals := ix_wd mj }) hmk hck h6 hpk (by show ix_fr mj + 1 ≤ R.frames; omega) ?_ (by show cells + (ix_CM - h.1) ≤ R.cells; omega) (by show slots + (ix_SM - h.2.1) ≤ R.slots; omega)
                    (fun T hT hW g' => ix_callee IH hv I hD hlo hHs hCM hSM hcat hn hmk h3 h4 h5 h6 h7 hoj T hT hW g') ?_ ?_
                  · have e1 : ((rest.map (ix_v G)).map fun v => v.category).sum = (rest.map Value.category).sum := by
                      rw [List.map_map]; congr 1; apply List.map_congr_left; intro v _; exact ix_cat G v
                    have e2 : (F0 m pc ls ((as.reverse ++ rest).map (ix_v G))).monitorRoom = 0 := rfl
                    rw [e1, e2, h4]
                    show _ + _ + ix_wd mj ≤ R.locals
                    omega
                  · intro v H' Lc k n' hZ hL
                    obtain ⟨z0, z1, z2, z3, z4, z5, z6, z7, z8, z9, z10⟩ := hZ
                    cases o1 with
                    | inr x => cases z0.1
                    | inl v1 =>
                      cases z0
                      have hD1 : ix_D ix_cls G s.heap h1 H' (locs ++ Lc) := ⟨z1, z2, ⟨Nat.le_trans hD.2.2.1.1 z4, fun q hq hnq => (z5 q (Nat.lt_of_lt_of_le hq hD.2.2.1.1) hnq).trans (hD.2.2.1.2.1 q hq hnq), fun q hq => (List.mem_append.mp hq).elim (hD.2.2.1.2.2 q) (hL q)⟩, z3⟩
                      have := IH mi (pc + 3) L (v1.toList ++ rest) h1 o h' hev p e R s m args below meth c H' (locs ++ Lc) (cells + k) (slots + n') ls c0 s0 I hD1 z6 hsz hc0 (by omega) (by omega) hRc hRs z9 z10 hl
                      have e3 : (v1.toList ++ rest).map (ix_v G) = (v1.map (ix_v G)).toList ++ rest.map (ix_v G) := by cases v1 <;> simp
                      rw [e3] at this
                      exact this
                  · intro x H' Lc k n' hZ hL
                    obtain ⟨z0, z1, z2, z3, z4, z5, z6, z7, z8, z9, z10⟩ := hZ
                    cases o1 with
                    | inl v1 => cases z0
                    | inr x1 =>
                      obtain ⟨zx, ⟨fs, zc⟩, zr, zr2, zci⟩ := z0
                      cases zx
                      have hD1 : ix_D ix_cls G s.heap h1 H' (locs ++ Lc) := ⟨z1, z2, ⟨Nat.le_trans hD.2.2.1.1 z4, fun q hq hnq => (z5 q (Nat.lt_of_lt_of_le hq hD.2.2.1.1) hnq).trans (hD.2.2.1.2.1 q hq hnq), fun q hq => (List.mem_append.mp hq).elim (hD.2.2.1.2.2 q) (hL q)⟩, z3⟩
                      simp only at hev
                      cases hhd : ix_hd mi pc x1.1 with
                      | none => simp only [hhd] at hev; cases hev
                      | some q0 =>
                        cases q0 with
                        | none =>
                          simp only [hhd] at hev
                          cases hev
                          refine ix_WT_out rfl rfl rfl (ix_hd_none hhd hhb _) hlk hD1.2.2.1.2.2 ⟨⟨rfl, ⟨fs, zc⟩, zr, zr2, zci⟩, z1, z2, z3, hD1.2.2.1.1, hD1.2.2.1.2.1, z6, by omega, by omega, z9, z10⟩
                        | some q1 =>
                          simp only [hhd] at hev
                          refine ix_WT_cold (hpc := q1) rfl (fun T hT X => ix_hd_some I hhd zci z1 zc zr zr2 T hT X) ?_
                          have := IH mi q1 L [.ref x1.2] h1 o h' hev p e R s m args below meth c H' (locs ++ Lc) (cells + k) (slots + n') ls c0 s0 I hD1 z6 hsz hc0 (by omega) (by omega) hRc hRs z9 z10 hl
                          exact this
            | succ z0 =>
              simp only [hcal] at hev
              cases hp : ix_pr i (z0 + 1) mi pc L st h with
              | none => simp only [hp] at hev; cases hev
              | some w =>
                obtain ⟨pc', L', st', h1⟩ := w
                simp only [hp] at hev
                exact ix_pr_ok I hi hx hcal hp hl hD hlo hc hs hCM hSM (fun H' locs' k1 k2 k3 k4 k5 k6 => IH mi pc' L' st' h1 o h' hev p e R s m args below meth c H' locs' cells slots ls c0 s0 I k1 k2 hsz hc0 k3 k4 hRc hRs k5 k6 (by rw [ix_pr_L hp]; exact hl))
        | none =>
          simp only [hx] at hev
          cases ht : ix_thr mi pc with
          | some ci =>
            simp only [ht] at hev
            cases st with
            | cons v st => cases hev
            | nil =>
              simp only at hev
              split at hev
              · next hz =>
                cases hev
                exact ix_thr_W htr I ht hl hz.1 hD hlo hsz hc0 hc hs hRc hRs hz.2.1 hz.2.2
              · cases hev
          | none =>
            simp only [ht] at hev
            cases hp : ix_x1 (ix_ini mi) (ix_o mi) i pc L st h with
            | none => simp only [hp] at hev; cases hev
            | some w =>
              obtain ⟨pc', L', st', h1⟩ := w
              simp only [hp] at hev
              exact ix_x1_ok G lo mi I hi hp hl hD hlo hsz hc0 hc hs hRc hRs hCM hSM (fun H' locs' cells' slots' ls' k1 k2 k3 k4 k5 k6 k7 => IH mi pc' L' st' h1 o h' hev p e R s m args below meth c H' locs' cells' slots' ls' c0 s0 I k2 k3 hsz hc0 k4 k5 hRc hRs k6 k7 k1)
