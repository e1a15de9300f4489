/-! PART 55: one work of a controller, on both sides -/
theorem ctl_get {d : DS} {c : Nat} (hc : c < 2) (x : CS) : dCtl (dCtl_s d (nI c) x) (nI c) = x := by
  rw [dCtl_s_dCtl hc hc, if_pos rfl]
theorem ctl_set {d : DS} {c : Nat} (hc : c < 2) (x x' : CS) : dCtl_s (dCtl_s d (nI c) x) (nI c) x' = dCtl_s d (nI c) x' := by
  rcases (show c = 0 ∨ c = 1 by omega) with rfl | rfl <;> rfl
theorem ctl_same {d : DS} {c : Nat} (hc : c < 2) : dCtl_s d (nI c) (dCtl d (nI c)) = d := by
  rcases (show c = 0 ∨ c = 1 by omega) with rfl | rfl <;> rfl
/-- what the sorting of the mail does at one order -/
def sst (d : DS) (c i : Nat) : DS :=
  if ((ml d c i && arr d c i) && !opn d i) = true then
    (if (decide (fc d i 5 = 2) && !decide (fc d i 6 = nI c)) = true then dCtl_s d (nI c) (cs_qua_s (M_X2_drop (dCtl d (nI c)) (nI i)) (cs_qua (dCtl d (nI c)) + 1)) else dCtl_s d (nI c) (M_X2_drop (dCtl d (nI c)) (nI i)))
  else d
def so (d : DS) (c : Nat) : Nat → DS
  | 0 => d
  | i + 1 => sst (so d c i) c i
/-- the same but for the mail and the quarrels -/
def sameB (d d' : DS) : Prop := ds_fac d' = ds_fac d ∧ ds_tick d' = ds_tick d ∧ ds_ord d' = ds_ord d ∧ ds_mo d' = ds_mo d ∧ ds_mv d' = ds_mv d ∧ ds_val d' = ds_val d
theorem sameB.rf (d : DS) : sameB d d := ⟨rfl, rfl, rfl, rfl, rfl, rfl⟩
theorem sameB.tr {a b c : DS} (h : sameB a b) (k : sameB b c) : sameB a c := ⟨k.1.trans h.1, k.2.1.trans h.2.1, k.2.2.1.trans h.2.2.1, k.2.2.2.1.trans h.2.2.2.1, k.2.2.2.2.1.trans h.2.2.2.2.1, k.2.2.2.2.2.trans h.2.2.2.2.2⟩
theorem sst_same (d : DS) (c i : Nat) : sameB d (sst d c i) := by
  unfold sst
  split
  · split
    · exact ⟨rfl, rfl, rfl, rfl, rfl, rfl⟩
    · exact ⟨rfl, rfl, rfl, rfl, rfl, rfl⟩
  · exact sameB.rf d
theorem so_same (d : DS) (c : Nat) : ∀ i, sameB d (so d c i) := by
  intro i
  induction i with
  | zero => exact sameB.rf d
  | succ i ih => exact ih.tr (sst_same _ c i)
theorem sameB.e_fc {d d' : DS} (h : sameB d d') (o w : Nat) : fc d' o w = fc d o w := by unfold fc; rw [h.1]
theorem sameB.e_opn {d d' : DS} (h : sameB d d') (o : Nat) : opn d' o = opn d o := by unfold opn; rw [h.e_fc]
theorem sameB.e_tch {d d' : DS} (h : sameB d d') (o b : Nat) : tch d' o b = tch d o b := by unfold tch; rw [h.e_fc, h.e_fc, h.e_fc]
theorem sameB.e_mts {d d' : DS} (h : sameB d d') (o e : Nat) : mts d' o e = mts d o e := by
  unfold mts
  rw [h.e_fc, h.e_fc]
  simp only [h.e_tch]
theorem sameB.e_fw {d d' : DS} (h : sameB d d') (o : Nat) : fw d' o = fw d o := by
  unfold fw
  simp only [h.e_opn, h.e_mts]
theorem sameB.e_arr {d d' : DS} (h : sameB d d') (c o : Nat) : arr d' c o = arr d c o := by unfold arr; rw [h.e_fc, h.2.1]
theorem drop_ml {d : DS} {c i j : Nat} (hc : c < 2) (hi : i < 40) (hj : j < 64) (x : CS) (hx : cs_mail x = cs_mail (M_X2_drop (dCtl d (nI c)) (nI i))) : ml (dCtl_s d (nI c) x) c j = (ml d c j && !decide (j = i)) := by
  unfold ml
  rw [ctl_get hc, hx]
  exact mb_drop _ (by omega) hj
theorem sst_ml {d : DS} {c i j : Nat} (hc : c < 2) (hi : i < 40) (hj : j < 64) (hij : i ≠ j) : ml (sst d c i) c j = ml d c j := by
  unfold sst
  have q : ¬ j = i := fun h => hij h.symm
  split
  · split
    · rw [drop_ml hc hi hj (cs_qua_s (M_X2_drop (dCtl d (nI c)) (nI i)) (cs_qua (dCtl d (nI c)) + 1)) rfl]; simp [q]
    · rw [drop_ml hc hi hj (M_X2_drop (dCtl d (nI c)) (nI i)) rfl]; simp [q]
  · rfl
theorem so_ml {d : DS} {c : Nat} (hc : c < 2) : ∀ i, i ≤ 40 → ∀ j, i ≤ j → j < 64 → ml (so d c i) c j = ml d c j := by
  intro i
  induction i with
  | zero => intro _ j _ _; rfl
  | succ i ih =>
    intro hi j hj hj2
    show ml (sst (so d c i) c i) c j = _
    rw [sst_ml hc (by omega) hj2 (by omega)]
    exact ih (by omega) j (by omega) hj2
theorem c_sortOut {d : DS} {c m : Nat} (hc : c < 2) (hm : m ≤ 40) : M_X3_sortOutMail d (nI c) (nI m) = some (so d c m) := by
  unfold M_X3_sortOutMail
  refine lp_run (fun i => (nI i, so d c i)) m ?_ ?_ 64 (by omega)
  · intro i hi kk
    unfold M_X3_sortOutMail_9s
    rw [if_neg (nI_ge hi (by omega))]
    simp only [c_hasArrived hc (show i < 40 by omega), c_isOpen _ (show i < 40 by omega), zI_if, M_X3_sortOutMail_73, nI_1]
    show _ = kk (nI (i + 1), sst (so d c i) c i)
    generalize so d c i = e
    unfold sst
    cases h1 : (ml e c i && arr e c i)
    · simp
    · cases h2 : opn e i
      · simp only [if_true, Bool.false_eq_true, if_false, Bool.not_false, Bool.and_true, tb]
        have e5 : M_X3_fact (dCtl_s e (nI c) (M_X2_drop (dCtl e (nI c)) (nI i))) (nI i) (5 : Int32) = fc e i 5 := c_fact _ (w := 5) (by omega) (by decide)
        have e6 : M_X3_fact (dCtl_s e (nI c) (M_X2_drop (dCtl e (nI c)) (nI i))) (nI i) (6 : Int32) = fc e i 6 := c_fact _ (w := 6) (by omega) (by decide)
        rw [e5, e6]
        by_cases q5 : fc e i 5 = 2
        · by_cases q6 : fc e i 6 = nI c
          · simp [q5, q6]
          · rw [if_pos q5, if_neg q6]
            simp only [q5, q6, decide_true, decide_false, Bool.not_false, Bool.and_true, if_true]
            rw [ctl_get hc, ctl_set hc]
            rfl
        · simp [q5]
      · simp
  · intro kk
    unfold M_X3_sortOutMail_9s
    rw [if_pos (Int32.le_refl _)]
theorem upd_add0 {f : Nat → Int32} {k : Nat} : upd f k (f k + 0) = f := by rw [Int32.add_zero]; exact upd_same
/-- one step of the reference's walk through the list -/
theorem r_scan {y0 y : MS} {d : DS} {n c i : Nat} {s : Int32} (h : DRel d (ms_now y) n) (hc : c < 2) (hi : i < n) (ht : tk d c i = false) :
    ∃ f, DRel (sst d c i) f n ∧ ((nI (fb_ct (ml d c) i), y) = ((nI (fb_ct (ml (sst d c i) c) (i + 1)), ms_now_s y f) : Int32 × MS) ∨ ∀ k, M_X7_works_43s y0 (nI c) s k (nI (fb_ct (ml d c) i), y) = k (nI (fb_ct (ml (sst d c i) c) (i + 1)), ms_now_s y f)) := by
  have hn := h.le
  have hi40 : i < 40 := by omega
  cases hm : ml d c i
  · have e : sst d c i = d := by unfold sst; rw [hm]; simp
    refine ⟨ms_now y, by rw [e]; exact h, Or.inl ?_⟩
    rw [e, ct_f (p := ml d c) hm]
    rfl
  · have hin := ct_in (p := ml d c) hi hm
    have hle := fb_ct_le (ml d c) n
    have head : ∀ k, M_X7_works_43s y0 (nI c) s k (nI (fb_ct (ml d c) i), y) = (if arr d c i = true then (if opn d i = true then (if (fw d i).isNone = true then ((M_X7_takes y (nI c) (nI (fb_ct (ml d c) i)) s).bind fun r10 => some (r10.1, r10.2)) else k (nI (fb_ct (ml d c) i + 1), y)) else ((ast 596 (ms_now y) (nI (20 + 8 * c + 6)) (cs_qua (dCtl d (nI c)) + zI (decide (fc d i 5 = 2) && !decide (fc d i 6 = nI c)))).bind fun f1 => (M_X7_leaves (ms_now_s y f1) (nI c) (nI (fb_ct (ml d c) i))).bind fun r3 => k (nI (fb_ct (ml d c) i), r3))) else k (nI (fb_ct (ml d c) i + 1), y)) := by
      intro k
      unfold M_X7_works_43s
      simp only [r_count h hc, ob_some]
      rw [if_neg (nI_ge hin (by omega))]
      have e6 : ((20 : Int32) + (8 : Int32) * nI c + (6 : Int32)) = nI (20 + 8 * c + 6) := ix_control c 6
      have a6 : ald 596 (ms_now y) (nI (20 + 8 * c + 6)) = some (cs_qua (dCtl d (nI c))) := by
        rw [ald_nI (by omega) (by omega), h.g_qua hc]
      have f5 : M_X7_of y (nI i) (5 : Int32) = some (fc d i 5) := r_of' (w := 5) h hi40 (by decide)
      have f6 : M_X7_of y (nI i) (6 : Int32) = some (fc d i 6) := r_of' (w := 6) h hi40 (by decide)
      simp only [r_item h hc hi hm, ob_some, r_hasArrived h hc hi40, r_isOpen h hi40, r_firstWaited h hi40, zI_if, M_X7_works_165, M_X7_works_129, M_X7_works_130, nI_1, e6, a6, f5, f6, tb, fw_m1 hi40]
      cases arr d c i
      · simp
      · cases opn d i
        · by_cases q5 : fc d i 5 = 2
          · by_cases q6 : fc d i 6 = nI c
            · simp [q5, q6]
            · simp [q5, q6]
          · simp [q5]
        · simp
    cases ha : arr d c i
    · have e : sst d c i = d := by unfold sst; rw [hm, ha]; simp
      refine ⟨ms_now y, by rw [e]; exact h, Or.inr fun k => ?_⟩
      rw [head k, ha, e, ct_t (p := ml d c) hm]
      rfl
    · cases ho : opn d i
      · have e : sst d c i = (if (decide (fc d i 5 = 2) && !decide (fc d i 6 = nI c)) = true then dCtl_s d (nI c) (cs_qua_s (M_X2_drop (dCtl d (nI c)) (nI i)) (cs_qua (dCtl d (nI c)) + 1)) else dCtl_s d (nI c) (M_X2_drop (dCtl d (nI c)) (nI i))) := by
          unfold sst; rw [hm, ha, ho]; rfl
        have hct : fb_ct (ml (sst d c i) c) (i + 1) = fb_ct (ml d c) i := by
          have hx : ∀ j, j < i + 1 → ml (sst d c i) c j = (ml d c j && !decide (j = i)) := by
            intro j hj
            rw [e]
            split
            · exact drop_ml hc hi40 (by omega) (cs_qua_s (M_X2_drop (dCtl d (nI c)) (nI i)) (cs_qua (dCtl d (nI c)) + 1)) rfl
            · exact drop_ml hc hi40 (by omega) (M_X2_drop (dCtl d (nI c)) (nI i)) rfl
          rw [fb_ct_cong hx, ct_drop hm, if_pos (by omega), ct_t (p := ml d c) hm]
          omega
        cases hq : (decide (fc d i 5 = 2) && !decide (fc d i 6 = nI c))
        · obtain ⟨f, hf, hr⟩ := leave_ok h hc hi hm
          refine ⟨f, by rw [e, hq]; exact hr, Or.inr fun k => ?_⟩
          rw [head k, ha, ho, hq, hct]
          simp only [if_true, Bool.false_eq_true, if_false]
          rw [ast_nI (by omega) (by omega), ob_some, show zI false = (0 : Int32) from rfl, ← h.g_qua hc, upd_add0]
          have : M_X7_leaves (ms_now_s y (ms_now y)) (nI c) (nI (fb_ct (ml d c) i)) = some (ms_now_s y f) := hf
          rw [this, ob_some]
        · have h1 := h.c_qua (v := cs_qua (dCtl d (nI c)) + 1) hc
          have hm1 : ml (dCtl_s d (nI c) (cs_qua_s (dCtl d (nI c)) (cs_qua (dCtl d (nI c)) + 1))) c = ml d c := by
            unfold ml; rw [ctl_get hc]; rfl
          obtain ⟨f, hf, hr⟩ := leave_ok (y := ms_now_s y (upd (ms_now y) (20 + 8 * c + 6) (cs_qua (dCtl d (nI c)) + 1))) h1 hc hi (by rw [hm1]; exact hm)
          rw [ctl_get hc, ctl_set hc] at hr
          rw [hm1] at hf
          refine ⟨f, by rw [e, hq]; exact hr, Or.inr fun k => ?_⟩
          rw [head k, ha, ho, hq, hct]
          simp only [if_true, Bool.false_eq_true, if_false]
          rw [ast_nI (by omega) (by omega), ob_some, show zI true = (1 : Int32) from rfl, hf, ob_some]
          rfl
      · have e : sst d c i = d := by unfold sst; rw [hm, ha, ho]; simp
        have hf : (fw d i).isNone = false := by revert ht; unfold tk; rw [ho, hm, ha]; cases fw d i <;> simp
        refine ⟨ms_now y, by rw [e]; exact h, Or.inr fun k => ?_⟩
        rw [head k, ha, ho, hf, e, ct_t (p := ml d c) hm]
        rfl
/-- the walk up to an order, nothing in front of which may be taken -/
theorem r_walk {d : DS} {n c m : Nat} {s : Int32} {y0 : MS} (hc : c < 2) (hmn : m ≤ n) (ht : ∀ o, o < m → tk d c o = false) : ∀ j i, i + j = m → ∀ y, DRel (so d c i) (ms_now y) n → ∃ f, DRel (so d c m) f n ∧ ∀ N, j < N → ∃ N', lpF (M_X7_works_43s y0 (nI c) s) N (nI (fb_ct (ml (so d c i) c) i), y) = lpF (M_X7_works_43s y0 (nI c) s) (N' + 1) (nI (fb_ct (ml (so d c m) c) m), ms_now_s y f) := by
  intro j
  induction j with
  | zero =>
    intro i hi y h
    have e : i = m := by omega
    subst e
    refine ⟨ms_now y, h, fun N hN => ⟨N - 1, ?_⟩⟩
    rw [show N - 1 + 1 = N by omega]
    rfl
  | succ j ih =>
    intro i hi y h
    have hn := h.le
    have ht2 : tk (so d c i) c i = false := by
      have e := so_same d c i
      unfold tk
      rw [e.e_opn, e.e_fw, e.e_arr, so_ml hc i (by omega) i (by omega) (by omega)]
      exact ht i (by omega)
    obtain ⟨f, hr, hs⟩ := r_scan (y0 := y0) (s := s) h hc (show i < n by omega) ht2
    obtain ⟨g, hg, hN⟩ := ih (i + 1) (by omega) (ms_now_s y f) hr
    refine ⟨g, hg, fun N hN2 => ?_⟩
    rcases hs with q | q
    · obtain ⟨N', e⟩ := hN N (by omega)
      exact ⟨N', by rw [q]; exact e⟩
    · obtain ⟨N', e⟩ := hN (N - 1) (by omega)
      refine ⟨N', ?_⟩
      rw [show N = N - 1 + 1 by omega, lpF_s, q]
      exact e
