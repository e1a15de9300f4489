/-! PART 56: a whole work on both sides -/
theorem DInv.o {d : DS} {n : Nat} (h : DInv d n) : ∀ o, o < n → OInv d o := fun o ho => h.1 o ho
theorem DInv.next {d d' : DS} {n : Nat} (hI : DInv d n) (h2 : ∀ o w, o < n → w = 2 ∨ w = 3 ∨ w = 4 → fc d' o w = fc d o w) (h5 : ∀ o, o < n → ∃ t, t < 4 ∧ fc d' o 5 = nI t) (hm : ds_mo d' = -1 ∨ ∃ o, o < n ∧ ds_mo d' = nI o) (ht : ds_tick d' = ds_tick d) : DInv d' n := by
  refine ⟨fun o ho => ?_, hm, by rw [ht]; exact hI.2.2⟩
  obtain ⟨a, b, c, -⟩ := hI.1 o ho
  refine ⟨?_, ?_, ?_, h5 o ho⟩
  · rw [h2 o 2 ho (by simp)]; exact a
  · rw [h2 o 3 ho (by simp)]; exact b
  · rw [h2 o 2 ho (by simp), h2 o 4 ho (by simp)]; exact c
theorem DInv.same {d d' : DS} {n : Nat} (hI : DInv d n) (h : sameB d d') : DInv d' n :=
  hI.next (fun o w _ _ => h.e_fc o w) (fun o ho => by rw [h.e_fc]; exact (hI.1 o ho).2.2.2) (by rw [h.2.2.2.1]; exact hI.2.1) h.2.1
/-- how many orders are done -/
def dn (d : DS) (n : Nat) : Nat := fb_ct (fun o => decide (fc d o 5 = 2)) n
theorem dn_same {d d' : DS} {n : Nat} (h : ∀ o, o < n → fc d' o 5 = fc d o 5) : dn d' n = dn d n := by
  unfold dn
  exact fb_ct_cong fun o ho => by rw [h o ho]
theorem dn_more {d d' : DS} {n o : Nat} (ho : o < n) (h0 : ¬ fc d o 5 = 2) (h1 : fc d' o 5 = 2) (h2 : ∀ i, i < n → i ≠ o → fc d' i 5 = fc d i 5) : dn d' n = dn d n + 1 := by
  unfold dn
  have e : fb_ct (fun i => decide (fc d' i 5 = 2)) n = fb_ct (fun i => if i = o then true else decide (fc d i 5 = 2)) n := fb_ct_cong fun i hi => by
    by_cases q : i = o
    · rw [if_pos q, q, h1]; rfl
    · rw [if_neg q, h2 i hi q]
  have h3 := fb_ct_upd (fun i => decide (fc d i 5 = 2)) true ho
  simp only [h0, decide_false, Bool.false_eq_true, if_false, if_true, Nat.add_zero] at h3
  rw [e, h3]
theorem fc_begin {d : DS} {o b : Nat} (ho : o < 40) (hb : b < 16) (e : fc d o 3 = nI b) {o' w : Nat} (hw : w < 12) : fc (M_X3_begin d (nI o)) o' w = if o' = o ∧ w = 5 then 1 else fc d o' w := by
  rw [begin_eq ho hb e, fc_dF (by decide) hw]
  rfl
theorem fc_complete {d : DS} {c o : Nat} (hc : c < 2) (ho : o < 40) {o' w : Nat} (hw : w < 12) : fc (M_X3_complete d (nI c) (nI o)) o' w = if o' = o ∧ w = 8 then ds_tick d else if o' = o ∧ w = 6 then nI c else if o' = o ∧ w = 5 then 2 else fc d o' w := by
  rw [complete_eq d hc ho]
  show fc (dF (dF (dF d o 5 2) o 6 (nI c)) o 8 (ds_tick d)) o' w = _
  rw [fc_dF (by decide) hw, fc_dF (by decide) hw, fc_dF (by decide) hw]
theorem ml_complete {d : DS} {c o : Nat} (hc : c < 2) (ho : o < 40) : ml (M_X3_complete d (nI c) (nI o)) c = ml d c := by
  rw [complete_eq d hc ho]
  unfold ml
  rw [ctl_get hc]
  rfl
theorem torn_ok {y : MS} {d : DS} {n c : Nat} (h : DRel d (ms_now y) n) (hc : c < 2) : ∃ f, ((ast 596 (ms_now y) (((20 : Int32) + ((8 : Int32) * nI c)) + (0 : Int32)) (0 : Int32)).bind fun f2 => (tb (ms_now_s y f2) fun y_3 => ((M_X7_more y_3 (nI c) (7 : Int32)).bind fun r4 => some ((3 : Int32), r4)))) = some (3, ms_now_s y f) ∧ DRel (dCtl_s d (nI c) (M_X2_fallAsleepTorn (dCtl d (nI c)))) f n := by
  have e0 : ((20 : Int32) + (8 : Int32) * nI c + (0 : Int32)) = nI (20 + 8 * c + 0) := ix_control c 0
  have h1 : DRel _ (upd (ms_now y) (20 + 8 * c + 0) (0 : Int32)) n := h.c_aw (v := false) hc
  have a7 : M_X7_more (ms_now_s y (upd (ms_now y) (20 + 8 * c + 0) (0 : Int32))) (nI c) (7 : Int32) = _ := r_more _ (w := 7) hc (by decide)
  rw [e0, ast_nI (by omega) (by omega), ob_some]
  simp only [tb]
  rw [a7, ob_some]
  refine ⟨_, rfl, ?_⟩
  rw [ms_now_get, h1.g_fell hc]
  have h2 := h1.c_fell (v := cs_fell (dCtl (dCtl_s d (nI c) (cs_aw_s (dCtl d (nI c)) false)) (nI c)) + 1) hc
  rw [ctl_get hc, ctl_set hc] at h2
  rw [ctl_get hc]
  exact h2
theorem end_ok {y : MS} {d : DS} {n c o : Nat} (h : DRel d (ms_now y) n) (hc : c < 2) (ho : o < n) (hm : ml d c o = true) : ∃ f, ((M_X7_ends y (nI o) (nI c)).bind fun r5 => ((M_X7_leaves r5 (nI c) (nI (fb_ct (ml d c) o))).bind fun r6 => some ((2 : Int32), r6))) = some (2, ms_now_s y f) ∧ DRel (dCtl_s (M_X3_complete d (nI c) (nI o)) (nI c) (M_X2_drop (dCtl (M_X3_complete d (nI c) (nI o)) (nI c)) (nI o))) f n := by
  have hn := h.le
  obtain ⟨f, hf, hr⟩ := ends_ok h hc (show o < 40 by omega)
  obtain ⟨g, hg, hr2⟩ := leave_ok (y := ms_now_s y f) hr hc ho (by rw [ml_complete hc (by omega)]; exact hm)
  rw [ml_complete hc (by omega)] at hg
  exact ⟨g, by rw [hf, ob_some, hg, ob_some, now_ss], hr2⟩
/-- the steps on an order that may be taken -/
theorem takes_ok {y : MS} {d : DS} {n c o s : Nat} (h : DRel d (ms_now y) n) (hI : DInv d n) (hc : c < 2) (ho : o < n) (hm : ml d c o = true) (hop : opn d o = true) (hs : 1 ≤ s) (hs3 : s ≤ 3) : ∃ r d' f, M_X3_makeSteps d (nI c) (nI o) (nI s) = (r, d') ∧ M_X7_takes y (nI c) (nI (fb_ct (ml d c) o)) (nI s) = some (r, ms_now_s y f) ∧ DRel d' f n ∧ DInv d' n ∧ ds_tick d' = ds_tick d ∧ r ≠ 0 ∧ (s = 3 → dn d' n = dn d n + 1) := by
  have hn := h.le
  have ho40 : o < 40 := by omega
  have hOI := hI.o o ho
  obtain ⟨-, ⟨b, hb, eb⟩, -, -⟩ := hI.1 o ho
  have hnot : ¬ fc d o 5 = 2 := by
    intro q; revert hop; unfold opn; rw [q]; decide
  obtain ⟨f1, e1, r1⟩ := begin_ok h ho40 hb eb
  have fB : ∀ o' w, w < 12 → fc (M_X3_begin d (nI o)) o' w = if o' = o ∧ w = 5 then 1 else fc d o' w := fun o' w hw => fc_begin ho40 hb eb hw
  have mB : ml (M_X3_begin d (nI o)) c = ml d c := by rw [begin_eq ho40 hb eb]; rfl
  have tB : ds_tick (M_X3_begin d (nI o)) = ds_tick d := by rw [begin_eq ho40 hb eb]; rfl
  have oB : ds_mo (M_X3_begin d (nI o)) = nI o := by rw [begin_eq ho40 hb eb]; rfl
  have iB : DInv (M_X3_begin d (nI o)) n := hI.next (fun o' w _ hw => by rw [fB o' w (by omega), if_neg (by omega)]) (fun o' ho' => by
      rw [fB o' 5 (by omega)]
      by_cases q : o' = o
      · rw [if_pos ⟨q, rfl⟩]; exact ⟨1, by decide, rfl⟩
      · rw [if_neg (by omega)]; exact (hI.1 o' ho').2.2.2) (Or.inr ⟨o, ho, oB⟩) tB
  have hi : M_X7_mailed y (nI c) (nI (fb_ct (ml d c) o)) = some (nI o) := r_item h hc ho hm
  have hOB : OInv (M_X3_begin d (nI o)) o := iB.o o ho
  have h5B : fc (M_X3_begin d (nI o)) o 5 = 1 := by rw [fB o 5 (by omega), if_pos ⟨rfl, rfl⟩]
  obtain ⟨f2, e2, r2⟩ := writes_ok (y := ms_now_s y f1) r1 hOB ho40 h5B
  have l11 : nI 1 ≤ (1 : Int32) := by decide
  have l12 : nI 1 ≤ (2 : Int32) := by decide
  have l22 : nI 2 ≤ (2 : Int32) := by decide
  have l21 : ¬ nI 2 ≤ (1 : Int32) := by decide
  have l31 : ¬ nI 3 ≤ (1 : Int32) := by decide
  have l32 : ¬ nI 3 ≤ (2 : Int32) := by decide
  have g31 : ¬ (3 : Int32) ≤ nI 1 := by decide
  have g32 : ¬ (3 : Int32) ≤ nI 2 := by decide
  have g33 : (3 : Int32) ≤ nI 3 := by decide
  unfold M_X3_makeSteps M_X7_takes
  simp only [tb, hi, ob_some, e1, M_X3_makeSteps_32, M_X7_takes_25, e2]
  rcases (show s = 1 ∨ s = 2 ∨ s = 3 by omega) with rfl | rfl | rfl
  · obtain ⟨f, e, r⟩ := torn_ok (y := ms_now_s y f1) r1 hc
    simp only [tb] at e
    rw [if_pos l11, if_pos l11, if_neg g31, if_pos l12]
    exact ⟨_, _, f, rfl, e, r, iB.same ⟨rfl, rfl, rfl, rfl, rfl, rfl⟩, tB, by decide, fun q => by omega⟩
  · obtain ⟨f, e, r⟩ := torn_ok (y := ms_now_s (ms_now_s y f1) f2) r2 hc
    simp only [tb] at e
    rw [if_neg l21, if_neg l21, if_neg g32, if_pos l22]
    exact ⟨_, _, f, rfl, e, r, (iB.next (d' := ds_val_s (M_X3_begin d (nI o)) (M_X6_put 16 (ds_val (M_X3_begin d (nI o))) (M_X3_fact (M_X3_begin d (nI o)) (nI o) (3 : Int32)) (M_X3_resultOn_v (M_X3_begin d (nI o)) (nI o)))) (fun _ _ _ _ => rfl) (fun o' ho' => (iB.1 o' ho').2.2.2) iB.2.1 rfl).same ⟨rfl, rfl, rfl, rfl, rfl, rfl⟩, tB, by decide, fun q => by omega⟩
  · rw [if_neg l31, if_neg l31, if_pos g33, if_neg l32]
    have iW : DInv (ds_val_s (M_X3_begin d (nI o)) (M_X6_put 16 (ds_val (M_X3_begin d (nI o))) (M_X3_fact (M_X3_begin d (nI o)) (nI o) (3 : Int32)) (M_X3_resultOn_v (M_X3_begin d (nI o)) (nI o)))) n := iB.next (fun _ _ _ _ => rfl) (fun o' ho' => (iB.1 o' ho').2.2.2) iB.2.1 rfl
    have mW : ml (ds_val_s (M_X3_begin d (nI o)) (M_X6_put 16 (ds_val (M_X3_begin d (nI o))) (M_X3_fact (M_X3_begin d (nI o)) (nI o) (3 : Int32)) (M_X3_resultOn_v (M_X3_begin d (nI o)) (nI o)))) c = ml d c := mB
    have fW : ∀ o' w, w < 12 → fc (ds_val_s (M_X3_begin d (nI o)) (M_X6_put 16 (ds_val (M_X3_begin d (nI o))) (M_X3_fact (M_X3_begin d (nI o)) (nI o) (3 : Int32)) (M_X3_resultOn_v (M_X3_begin d (nI o)) (nI o)))) o' w = if o' = o ∧ w = 5 then 1 else fc d o' w := fB
    have tW : ds_tick (ds_val_s (M_X3_begin d (nI o)) (M_X6_put 16 (ds_val (M_X3_begin d (nI o))) (M_X3_fact (M_X3_begin d (nI o)) (nI o) (3 : Int32)) (M_X3_resultOn_v (M_X3_begin d (nI o)) (nI o)))) = ds_tick d := tB
    have uW : ds_mo (ds_val_s (M_X3_begin d (nI o)) (M_X6_put 16 (ds_val (M_X3_begin d (nI o))) (M_X3_fact (M_X3_begin d (nI o)) (nI o) (3 : Int32)) (M_X3_resultOn_v (M_X3_begin d (nI o)) (nI o)))) = nI o := oB
    generalize ds_val_s (M_X3_begin d (nI o)) (M_X6_put 16 (ds_val (M_X3_begin d (nI o))) (M_X3_fact (M_X3_begin d (nI o)) (nI o) (3 : Int32)) (M_X3_resultOn_v (M_X3_begin d (nI o)) (nI o))) = W at r2 iW mW fW tW uW ⊢
    obtain ⟨f, e, r⟩ := end_ok (y := ms_now_s (ms_now_s y f1) f2) r2 hc ho (by rw [mW]; exact hm)
    rw [mW] at e
    have fE : ∀ o' w, w < 12 → fc (M_X3_complete W (nI c) (nI o)) o' w = if o' = o ∧ w = 8 then ds_tick W else if o' = o ∧ w = 6 then nI c else if o' = o ∧ w = 5 then 2 else fc W o' w := fun o' w hw => fc_complete hc ho40 hw
    have uE : ds_mo (M_X3_complete W (nI c) (nI o)) = nI o := by rw [complete_eq W hc ho40]; exact uW
    have tE : ds_tick (M_X3_complete W (nI c) (nI o)) = ds_tick W := by rw [complete_eq W hc ho40]; rfl
    have iE : DInv (M_X3_complete W (nI c) (nI o)) n := iW.next (fun o' w _ hw => by rw [fE o' w (by omega), if_neg (by omega), if_neg (by omega), if_neg (by omega)]) (fun o' ho' => by
      rw [fE o' 5 (by omega), if_neg (by omega), if_neg (by omega)]
      by_cases q : o' = o
      · rw [if_pos ⟨q, rfl⟩]; exact ⟨2, by decide, rfl⟩
      · rw [if_neg (by omega)]; exact (iW.1 o' ho').2.2.2) (Or.inr ⟨o, ho, uE⟩) tE
    refine ⟨_, _, f, rfl, e, r, iE.same ⟨rfl, rfl, rfl, rfl, rfl, rfl⟩, tE.trans tW, by decide, fun _ => ?_⟩
    refine dn_more ho hnot ?_ ?_
    · show fc (M_X3_complete W (nI c) (nI o)) o 5 = 2
      rw [fE o 5 (by omega), if_neg (by omega), if_neg (by omega), if_pos ⟨rfl, rfl⟩]
    · intro i hi2 hne
      show fc (M_X3_complete W (nI c) (nI o)) i 5 = fc d i 5
      rw [fE i 5 (by omega), if_neg (by omega), if_neg (by omega), if_neg (by omega), fW i 5 (by omega), if_neg (by omega)]
/-- the torn order finished -/
theorem finish_ok {y : MS} {d : DS} {n c : Nat} (h : DRel d (ms_now y) n) (hI : DInv d n) (hc : c < 2) (ht : M_X3_isTorn d = true) : ∃ f, ((ald 596 (ms_now y) (2 : Int32)).bind fun v3 => ((M_X7_writes y v3).bind fun r4 => ((M_X7_ends r4 v3 (nI c)).bind fun r5 => ((M_X7_put r5 v3 (9 : Int32) (1 : Int32)).bind fun r6 => ((M_X7_more r6 (nI c) (5 : Int32)).bind fun r7 => some ((1 : Int32), r7)))))) = some (1, ms_now_s y f) ∧ DRel (M_X3_finishTorn d (nI c)) f n ∧ DInv (M_X3_finishTorn d (nI c)) n ∧ ds_tick (M_X3_finishTorn d (nI c)) = ds_tick d ∧ dn (M_X3_finishTorn d (nI c)) n = dn d n + 1 := by
  have hn := h.le
  rw [c_isTorn] at ht
  have hne : ¬ ds_mo d = -1 := by intro q; rw [q] at ht; revert ht; simp
  obtain ⟨o, ho, eo⟩ : ∃ o, o < n ∧ ds_mo d = nI o := by
    rcases hI.2.1 with q | q
    · exact absurd q hne
    · exact q
  have ho40 : o < 40 := by omega
  have h5 : fc d o 5 = 1 := by
    have e5 : M_X3_fact d (nI o) (5 : Int32) = fc d o 5 := c_fact d (w := 5) ho40 (by decide)
    rw [eo, e5] at ht
    revert ht
    by_cases q : fc d o 5 = 1
    · intro _; exact q
    · simp [q]
  obtain ⟨f1, e1, r1⟩ := writes_ok h (hI.o o ho) ho40 h5
  unfold M_X3_finishTorn
  simp only [tb, h.now2, ob_some, eo, e1]
  have iW : DInv (ds_val_s d (M_X6_put 16 (ds_val d) (M_X3_fact d (nI o) (3 : Int32)) (M_X3_resultOn_v d (nI o)))) n := hI.next (fun _ _ _ _ => rfl) (fun o' ho' => (hI.1 o' ho').2.2.2) hI.2.1 rfl
  have uW : ds_mo (ds_val_s d (M_X6_put 16 (ds_val d) (M_X3_fact d (nI o) (3 : Int32)) (M_X3_resultOn_v d (nI o)))) = nI o := eo
  have fW : ∀ o' w, fc (ds_val_s d (M_X6_put 16 (ds_val d) (M_X3_fact d (nI o) (3 : Int32)) (M_X3_resultOn_v d (nI o)))) o' w = fc d o' w := fun _ _ => rfl
  have tW : ds_tick (ds_val_s d (M_X6_put 16 (ds_val d) (M_X3_fact d (nI o) (3 : Int32)) (M_X3_resultOn_v d (nI o)))) = ds_tick d := rfl
  generalize ds_val_s d (M_X6_put 16 (ds_val d) (M_X3_fact d (nI o) (3 : Int32)) (M_X3_resultOn_v d (nI o))) = W at r1 iW uW fW tW ⊢
  obtain ⟨f2, e2, r2⟩ := ends_ok (y := ms_now_s y f1) r1 hc ho40
  have fE : ∀ o' w, w < 12 → fc (M_X3_complete W (nI c) (nI o)) o' w = if o' = o ∧ w = 8 then ds_tick W else if o' = o ∧ w = 6 then nI c else if o' = o ∧ w = 5 then 2 else fc W o' w := fun o' w hw => fc_complete hc ho40 hw
  have uE : ds_mo (M_X3_complete W (nI c) (nI o)) = nI o := by rw [complete_eq W hc ho40]; exact uW
  have tE : ds_tick (M_X3_complete W (nI c) (nI o)) = ds_tick W := by rw [complete_eq W hc ho40]; rfl
  have iE : DInv (M_X3_complete W (nI c) (nI o)) n := iW.next (fun o' w _ hw => by rw [fE o' w (by omega), if_neg (by omega), if_neg (by omega), if_neg (by omega)]) (fun o' ho' => by
      rw [fE o' 5 (by omega), if_neg (by omega), if_neg (by omega)]
      by_cases q : o' = o
      · rw [if_pos ⟨q, rfl⟩]; exact ⟨2, by decide, rfl⟩
      · rw [if_neg (by omega)]; exact (iW.1 o' ho').2.2.2) (Or.inr ⟨o, ho, uE⟩) tE
  simp only [uW, e2, ob_some]
  simp only [uE]
  generalize M_X3_complete W (nI c) (nI o) = E at r2 fE uE tE iE ⊢
  have a9 : ∀ (y : MS) v, M_X7_put y (nI o) (9 : Int32) v = some (ms_now_s y (upd (ms_now y) (116 + 12 * o + 9) v)) := fun y v => r_put y (w := 9) ho40 (by decide)
  have c9 : M_X3_setFact E (nI o) (9 : Int32) 1 = dF E o 9 1 := c_setFact E (w := 9) ho40 (by decide) 1
  have m5 : ∀ (y : MS), M_X7_more y (nI c) (5 : Int32) = some (ms_now_s y (upd (ms_now y) (20 + 8 * c + 5) (ms_now y (20 + 8 * c + 5) + 1))) := fun y => r_more y (w := 5) hc (by decide)
  have r3 : DRel (dF E o 9 1) (upd f2 (116 + 12 * o + 9) 1) n := r2.dF ho40 (by decide)
  simp only [a9, m5, ob_some, c9, now_ss, ms_now_get]
  refine ⟨_, rfl, ?_, ?_, ?_, ?_⟩
  · rw [r3.g_fin hc]
    exact r3.c_fin hc
  · refine iE.next (fun o' w _ hw => ?_) (fun o' ho' => ?_) (Or.inr ⟨o, ho, uE⟩) rfl
    · show fc (dF E o 9 1) o' w = _
      rw [fc_dF (by decide) (by omega), if_neg (by omega)]
    · show ∃ t, t < 4 ∧ fc (dF E o 9 1) o' 5 = nI t
      rw [fc_dF (by decide) (by omega), if_neg (by omega)]
      exact (iE.1 o' ho').2.2.2
  · exact tE.trans tW
  · refine dn_more ho (by rw [h5]; decide) ?_ ?_
    · show fc (dF E o 9 1) o 5 = 2
      rw [fc_dF (by decide) (by omega), if_neg (by omega), fE o 5 (by omega), if_neg (by omega), if_neg (by omega), if_pos ⟨rfl, rfl⟩]
    · intro i hi hne
      show fc (dF E o 9 1) i 5 = _
      rw [fc_dF (by decide) (by omega), if_neg (by omega), fE i 5 (by omega), if_neg (by omega), if_neg (by omega), if_neg (by omega), fW]
/-- what the scan of the reference does at an order that may be taken -/
theorem r_take {y0 y : MS} {d : DS} {n c i : Nat} {s : Int32} (h : DRel d (ms_now y) n) (hc : c < 2) (hi : i < n) (ht : tk d c i = true) : ∀ k, M_X7_works_43s y0 (nI c) s k (nI (fb_ct (ml d c) i), y) = ((M_X7_takes y (nI c) (nI (fb_ct (ml d c) i)) s).bind fun r10 => some (r10.1, r10.2)) := by
  intro k
  have hn := h.le
  have hi40 : i < 40 := by omega
  have ho : opn d i = true := by revert ht; unfold tk; cases opn d i <;> simp
  have hf : (fw d i).isNone = true := by revert ht; unfold tk; rw [ho]; cases fw d i <;> simp
  have hma : (ml d c i && arr d c i) = true := by revert ht; unfold tk; rw [ho, hf]; simp
  have hm : ml d c i = true := by revert hma; cases ml d c i <;> simp
  have ha : arr d c i = true := by revert hma; rw [hm]; simp
  have hin := ct_in (p := ml d c) hi hm
  have hle := fb_ct_le (ml d c) n
  unfold M_X7_works_43s
  simp only [r_count h hc, ob_some]
  rw [if_neg (nI_ge hin (by omega))]
  simp only [r_item h hc hi hm, ob_some, r_hasArrived h hc hi40, r_isOpen h hi40, r_firstWaited h hi40, zI_if, ha, ho, if_true, fw_m1 hi40, hf]
/-- both sides' work -/
theorem works_ok {y : MS} {d : DS} {n c s : Nat} (h : DRel d (ms_now y) n) (hI : DInv d n) (hc : c < 2) (hs : 1 ≤ s) (hs3 : s ≤ 3) : ∃ r d' f, M_X3_letWork d (nI c) (nI s) = some (r, d') ∧ M_X7_works y (nI c) (nI s) = some (r, ms_now_s y f) ∧ DRel d' f n ∧ DInv d' n ∧ ds_tick d' = ds_tick d ∧ (s = 3 → (r = 0 ∧ dn d' n = dn d n) ∨ (r ≠ 0 ∧ dn d' n = dn d n + 1)) := by
  have hn := h.le
  unfold M_X3_letWork M_X7_works
  simp only [r_isTorn h hI, ob_some, zI_if]
  cases ht : M_X3_isTorn d
  · simp only [Bool.false_eq_true, if_false, c_firstTakeable h.ord hn hI.o hc, ob_some]
    have st0 : (((0 : Int32), y) : Int32 × MS) = (nI (fb_ct (ml (so d c 0) c) 0), y) := rfl
    cases hf : fst' (tk d c) n with
    | none =>
      obtain ⟨f, hr, hN⟩ := r_walk (s := nI s) (y0 := y) hc (Nat.le_refl n) (fst'_none.mp hf) n 0 (by omega) y h
      obtain ⟨N', e⟩ := hN 64 (by omega)
      rw [st0, e, lpF_s]
      have e1 : optI none = (-1 : Int32) := rfl
      simp only [e1, if_true, M_X3_letWork_35, M_X3_letWork_54, h.ord, c_sortOut hc hn, ob_some]
      unfold M_X7_works_43s
      have hc3 := r_count (y := ms_now_s y f) hr hc
      simp only [hc3, ob_some]
      rw [if_pos (Int32.le_refl _)]
      exact ⟨_, _, f, rfl, rfl, hr, hI.same (so_same d c n), (so_same d c n).2.1, fun _ => Or.inl ⟨rfl, dn_same fun o _ => (so_same d c n).e_fc o 5⟩⟩
    | some o =>
      obtain ⟨ho, htk, hbef⟩ := fst'_some.mp hf
      obtain ⟨f, hr, hN⟩ := r_walk (s := nI s) (y0 := y) hc (show o ≤ n by omega) hbef o 0 (by omega) y h
      obtain ⟨N', e⟩ := hN 64 (by omega)
      have sb := so_same d c o
      have htk2 : tk (so d c o) c o = true := by
        unfold tk
        rw [sb.e_opn, sb.e_fw, sb.e_arr, so_ml hc o (by omega) o (by omega) (by omega)]
        exact htk
      have hop : opn (so d c o) o = true := by revert htk2; unfold tk; cases opn (so d c o) o <;> simp
      have hml : ml (so d c o) c o = true := by
        revert htk2; unfold tk
        cases opn (so d c o) o <;> cases (fw (so d c o) o).isNone <;> cases ml (so d c o) c o <;> simp
      have e1 : optI (some o) = nI o := rfl
      have e2 : ¬ nI o = (-1 : Int32) := fun q => nI_pos (n := o) (by omega) (by rw [q]; decide)
      rw [st0, e, lpF_s, r_take (y := ms_now_s y f) hr hc ho htk2]
      obtain ⟨r, d', g, ec, er, hr2, hI2, ht2, hne, hdn⟩ := takes_ok (y := ms_now_s y f) hr (hI.same sb) hc ho hml hop hs hs3
      simp only [e1, e2, if_false, M_X3_letWork_35, M_X3_letWork_54, c_sortOut hc (show o ≤ 40 by omega), ob_some, tb, ec, er]
      exact ⟨_, _, g, rfl, rfl, hr2, hI2, ht2.trans sb.2.1, fun q => Or.inr ⟨hne, by rw [hdn q, dn_same fun o _ => sb.e_fc o 5]⟩⟩
  · simp only [if_true]
    obtain ⟨f, e, r, i, t, q⟩ := finish_ok h hI hc ht
    refine ⟨1, _, f, rfl, e, r, i, t, fun _ => Or.inr ⟨by decide, q⟩⟩
