/-! PART 61: blocks and final values; all of it -/
theorem opc_opn {d : DS} {n : Nat} (h : opc d n = 0) : ∀ o, o < n → opn d o = false := by
  intro o ho
  unfold opc at h
  have a := fb_ct_zero.mp (show fb_ct (fun o => decide (fc d o 5 = 0)) n = 0 by omega) o ho
  have b := fb_ct_zero.mp (show fb_ct (fun o => decide (fc d o 5 = 1)) n = 0 by omega) o ho
  unfold opn
  rw [a, b]
  rfl
theorem fv_none {d : DS} {A : Nat → Int32} : ∀ n, (∀ o, o < n → opn d o = false) → fv d A n = A := by
  intro n
  induction n with
  | zero => intro _; rfl
  | succ n ih =>
    intro h
    unfold fv
    rw [h n (by omega), if_neg (by decide)]
    exact ih fun o ho => h o (by omega)
theorem lg_self (a : Int64) : lg_cmp a a = 0 := by
  unfold lg_cmp
  simp
theorem l_blocks {x : SS} {n t : Nat} (h : PI (ss_drv x) n t) (ht : t ≤ 9999) {y : SS} (hc : core y x) : ∃ y', M_L_blocksFit y = some (true, y') ∧ core y' x := by
  have hn := h.le
  have ho := opc_le (ss_drv x) n
  have w1 := q_w1 hc.1 h
  have w2 := q_w2 hc.1 h
  have sum : nI (stc (ss_drv x) 0 n) + nI (stc (ss_drv x) 1 n) = nI (opc (ss_drv x) n) := nI_add _ _
  obtain ⟨B, hB⟩ : ∃ B, B = decide (opc (ss_drv x) n ≠ 0) := ⟨_, rfl⟩
  have start : M_L_blocksFit y = M_L_blocksFit_21 y B y := by
    unfold M_L_blocksFit
    simp only [w1, w2, ob_some, sum]
    by_cases q : opc (ss_drv x) n = 0
    · rw [hB, q, if_pos (show nI 0 ≤ 0 by decide)]; rfl
    · rw [hB, if_neg (nI_nle (by omega) (by omega)), decide_eq_true q]
  rw [start]
  unfold M_L_blocksFit_21
  refine lp_inv (Q := fun r => ∃ y', r = some (true, y') ∧ core y' x) (fun b z => z.1 = sumI (ds_val (ss_drv x)) b ∧ z.2.1 = B ∧ z.2.2.1 = true ∧ z.2.2.2.1 = nI b ∧ core z.2.2.2.2 x) 16 ?_ ?_ 64 (by omega) _ ⟨rfl, rfl, rfl, rfl, hc⟩
  · rintro b hb ⟨z1, z2, z3, z4, z5⟩ ⟨h1, h2, h3, h4, h5⟩ k
    have h1 : z1 = sumI (ds_val (ss_drv x)) b := h1
    have h2 : z2 = B := h2
    have h3 : z3 = true := h3
    have h4 : z4 = nI b := h4
    have h5 : core z5 x := h5
    subst h1 h2 h3 h4
    have g : ¬ (16 : Int32) ≤ nI b := nI_ge (a := b) (b := 16) hb (by omega)
    have eb := q_block h5.1 hb
    have sb : sumI (ds_val (ss_drv x)) b + ds_val (ss_drv x) b = sumI (ds_val (ss_drv x)) (b + 1) := rfl
    cases hz : z2
    · rw [hz] at hB
      have q0 : opc (ss_drv x) n = 0 := by
        by_cases q : opc (ss_drv x) n = 0
        · exact q
        · rw [decide_eq_true q] at hB; cases hB
      have ev : fv (ss_drv x) (f16 (ss_drv x) (ss_fin z5) 16) n b = ds_val (ss_drv x) b := by
        rw [fv_none n (opc_opn q0)]
        unfold f16
        rw [if_pos hb]
      obtain ⟨z6, hz6, ef⟩ : ∃ z6, core z6 x ∧ M_X6_finalValue z5 (nI b) = some (ds_val (ss_drv x) b, z6) := ⟨_, h5.fin _, by rw [q_final h5.1 h hb, ev]⟩
      have eb6 := q_block hz6.1 hb
      refine ⟨(sumI (ds_val (ss_drv x)) (b + 1), false, true, nI (b + 1), z6), ⟨rfl, rfl, rfl, rfl, hz6⟩, ?_⟩
      unfold M_L_blocksFit_27s
      simp only [g, eb, ef, eb6, ob_some, if_true, if_false, Bool.false_eq_true, zI_if, M_L_blocksFit_66, M_L_blocksFit_71, nI_1, sb]
    · refine ⟨(sumI (ds_val (ss_drv x)) (b + 1), true, true, nI (b + 1), z5), ⟨rfl, rfl, rfl, rfl, h5⟩, ?_⟩
      unfold M_L_blocksFit_27s
      simp only [g, eb, ob_some, if_true, if_false, zI_if, M_L_blocksFit_66, M_L_blocksFit_71, nI_1, sb]
  · rintro ⟨z1, z2, z3, z4, z5⟩ ⟨h1, h2, h3, h4, h5⟩ k
    have h1 : z1 = sumI (ds_val (ss_drv x)) 16 := h1
    have h2 : z2 = B := h2
    have h3 : z3 = true := h3
    have h4 : z4 = nI 16 := h4
    have h5 : core z5 x := h5
    subst h1 h2 h3 h4
    have g : (16 : Int32) ≤ nI 16 := by decide
    have hB2 : z2 = decide (opc (ss_drv x) n ≠ 0) := hB
    have h5p : PI (ss_drv z5) n t := by rw [h5.1]; exact h
    obtain ⟨v, gg, ed, v200, v0⟩ := done_PI h5p ht
    have h6 : core (ss_img_s z5 gg) x := h5.img gg
    generalize ss_img_s z5 gg = z6 at ed h6
    rw [h5.1] at v0
    have w10 := q_w10 h6.1
    have w8 := q_w8 h6.1 h
    have w9 := q_w9 h6.1
    have a7 : M_X6_controller z6 (0 : Int32) (7 : Int32) = some (cs_qua (dCtl (ss_drv x) (nI 0))) := q_c7 (c := 0) h6.1 h (by omega)
    have b7 : M_X6_controller z6 (1 : Int32) (7 : Int32) = some (cs_qua (dCtl (ss_drv x) (nI 1))) := q_c7 (c := 1) h6.1 h (by omega)
    have a0 : M_X6_controller z6 (0 : Int32) (0 : Int32) = some (zI (cs_aw (dCtl (ss_drv x) (nI 0)))) := q_c0 (c := 0) h6.1 h (by omega)
    have b0 : M_X6_controller z6 (1 : Int32) (0 : Int32) = some (zI (cs_aw (dCtl (ss_drv x) (nI 1)))) := q_c0 (c := 1) h6.1 h (by omega)
    refine ⟨z6, ?_, h6⟩
    unfold M_L_blocksFit_27s
    simp only [g, if_true, M_L_blocksFit_78, ed, ob_some, zI_if, w10]
    by_cases q : opc (ss_drv x) n = 0
    · have vz : v = 0 := v0.mpr q
      have zB : z2 = false := hB2.trans (decide_eq_false fun w => w q)
      subst vz zB
      simp only [if_true, if_false, Bool.false_eq_true, v200, M_L_blocksFit_108, M_L_blocksFit_117, zI_if, w8, w9, a7, b7, a0, b0, ob_some, M_L_blocksFit_179]
    · have vz : ¬ v = 0 := fun w => q (v0.mp w)
      have zB : z2 = true := hB2.trans (decide_eq_true q)
      subst zB
      simp only [vz, if_true, if_false, v200, M_L_blocksFit_108, M_L_blocksFit_117, zI_if, w8, w9, a7, b7, a0, b0, ob_some, M_L_blocksFit_179]
theorem l_fits {x : SS} (h : IV x) {y : SS} (hc : core y x) : ∃ y', M_L_fits y = some (true, y') ∧ core y' x := by
  obtain ⟨D, hD⟩ := k_digest h
  obtain ⟨n, t, a, b⟩ := h.1
  obtain ⟨y1, e1, c1⟩ := hD y hc
  obtain ⟨y2, e2, c2⟩ := l_orders a c1
  have e3 := l_mail a (show 0 < 2 by omega) c2 (0 : Int32) rfl
  have e4 := l_mail a (show 1 < 2 by omega) c2 (1 : Int32) rfl
  obtain ⟨y3, e5, c3⟩ := l_blocks a b c2
  obtain ⟨y4, e6, c4⟩ := hD y3 c3
  refine ⟨y4, ?_, c4⟩
  unfold M_L_fits
  simp only [e1, e2, e3, e4, e5, e6, ob_some, zI_if, if_true, lg_self, M_L_fits_49]
