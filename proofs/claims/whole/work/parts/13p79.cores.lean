/-! PART 79: what is told within a run, both sides -/
theorem turn_core {y1 : MS} {d : DS} {n t c : Nat} {v : Bool} (hd : DRel d (ms_now y1) n) (hI : DInv d n) (ht : ds_tick d = nI t) (ht9 : t ≤ 9999) (hc : c < 2) : ∃ r g, M_X3_arrivedMail (dCtl_s d (nI c) (cs_aw_s (dCtl d (nI c)) v)) (nI c) = some r ∧ ((ast 596 (ms_now y1) (((20 : Int32) + ((8 : Int32) * nI c)) + (0 : Int32)) (zI v)).bind fun f4 => (tb (ms_now_s y1 f4) fun y_5 => ((M_X7_arrived y_5 (nI c)).bind fun r6 => some (r6, y_5)))) = some (r, ms_now_s y1 g) ∧ DOK (dCtl_s d (nI c) (cs_aw_s (dCtl d (nI c)) v)) g := by
  have hn := hd.le
  have r1 := hd.c_aw (v := v) hc
  have e0 : ((20 : Int32) + (8 : Int32) * nI c + (0 : Int32)) = nI (20 + 8 * c + 0) := ix_control c 0
  have a1 : ast 596 (ms_now y1) (nI (20 + 8 * c + 0)) (zI v) = some (upd (ms_now y1) (20 + 8 * c + 0) (zI v)) := ast_nI (by omega) (by omega)
  have a2 := c_arrivedMail (d := dCtl_s d (nI c) (cs_aw_s (dCtl d (nI c)) v)) (n := n) hd.ord hn hc
  have a3 := r_arrived (y := ms_now_s y1 (upd (ms_now y1) (20 + 8 * c + 0) (zI v))) r1 hc
  have hk : DOK (dCtl_s d (nI c) (cs_aw_s (dCtl d (nI c)) v)) (upd (ms_now y1) (20 + 8 * c + 0) (zI v)) := DOK.same (d := d) hI ht ht9 ⟨rfl, rfl, rfl, rfl, rfl, rfl⟩ r1
  refine ⟨_, upd (ms_now y1) (20 + 8 * c + 0) (zI v), a2, ?_, hk⟩
  rw [e0, a1, ob_some, tb_eq, a3, ob_some]
theorem core_wake {y y1 : MS} {d : DS} {n t : Nat} (hd : DRel d (ms_now y) n) (hI : DInv d n) (ht : ds_tick d = nI t) (ht9 : t ≤ 9999) (hs : M_X7_saves (ms_refusal_s y 0) = some y1) (hy : ms_now y1 = ms_now y) (p : Int32) : Core (fun c q => (c = 1 ∧ q = 1) ∨ (c = 3 ∧ q = 2)) (some (M_X3_faultOfWaking d p)) (M_X3_rouse d p) (M_X7_wake y p) y y1 := by
  have ef : M_X3_faultOfWaking d p = if M_X6_isWithin p 0 1 = true then (if cs_aw (dCtl d p) = true then 3 else 0) else 1 := by
    unfold M_X3_faultOfWaking M_X3_faultOfWaking_25
    rw [fC, zI_if]
    cases M_X6_isWithin p 0 1 <;> cases cs_aw (dCtl d p) <;> rfl
  have hd1 : DRel d (ms_now y1) n := by rw [hy]; exact hd
  unfold M_X7_wake M_X7_turns M_X7_turns_27 M_X7_isController
  rw [ef, win_eq, zI_if]
  cases hc : M_X6_isWithin p 0 1
  · left
    refine ⟨1, 1, 0, rfl, rfs_1, ?_, by decide, Or.inl ⟨rfl, rfl⟩⟩
    rw [if_neg (by decide : ¬ (false = true)), ref_1, tb_eq]
    rfl
  · obtain ⟨c, hc2, rfl⟩ := win_t (N := 1) (by decide) hc
    have ea : M_X7_control y (nI c) (0 : Int32) = some (zI (cs_aw (dCtl d (nI c)))) := by
      rw [← hd.g_aw (c := c) (by omega)]; exact r_control y (w := 0) (by omega) (by decide)
    by_cases hw : cs_aw (dCtl d (nI c)) = true
    · left
      refine ⟨3, 2, 0, ?_, rfs_3, ?_, by decide, Or.inr ⟨rfl, rfl⟩⟩
      · rw [if_pos (rfl : true = true), if_pos hw]
      · rw [if_pos (rfl : true = true), ea, ob_some, hw, if_pos (show zI true = (1 : Int32) from rfl), ref_2, tb_eq]
        rfl
    · right
      have hw2 : cs_aw (dCtl d (nI c)) = false := by
        cases q : cs_aw (dCtl d (nI c))
        · first | rfl | exact absurd q hw
        · first | rfl | exact absurd q hw
      obtain ⟨r, g, e1, e2, e3⟩ := turn_core (v := true) hd1 hI ht ht9 (show c < 2 by omega)
      refine ⟨?_, r, _, g, ?_, ?_, e3⟩
      · rw [if_pos (rfl : true = true), if_neg hw]
      · unfold M_X3_rouse
        rw [tb_eq, e1, ob_some]
      · rw [if_pos (rfl : true = true), ea, ob_some, hw2, if_neg (show ¬ zI false = (1 : Int32) by decide), ref_0, tb_eq]
        refine Eq.trans (congrArg (fun z : Option (Int32 × MS) => z.bind fun r1 => some (r1.1, r1.2)) (Eq.trans (if_pos (show zI false = 0 from rfl)) (Eq.trans (congrArg (fun z : Option MS => z.bind _) hs) e2))) ?_
        rfl
theorem core_sleep {y y1 : MS} {d : DS} {n t : Nat} (hd : DRel d (ms_now y) n) (hI : DInv d n) (ht : ds_tick d = nI t) (ht9 : t ≤ 9999) (hs : M_X7_saves (ms_refusal_s y 0) = some y1) (hy : ms_now y1 = ms_now y) (p : Int32) : Core (fun c q => (c = 1 ∧ q = 1) ∨ (c = 3 ∧ q = 2)) (some (M_X3_faultOfNeedingAwake d p)) (M_X3_putToSleep d p) (M_X7_sleep y p) y y1 := by
  have ef : M_X3_faultOfNeedingAwake d p = if M_X6_isWithin p 0 1 = true then (if cs_aw (dCtl d p) = false then 3 else 0) else 1 := by
    unfold M_X3_faultOfNeedingAwake M_X3_faultOfNeedingAwake_25
    rw [fC, zI_if]
    cases M_X6_isWithin p 0 1 <;> cases cs_aw (dCtl d p) <;> rfl
  have hd1 : DRel d (ms_now y1) n := by rw [hy]; exact hd
  unfold M_X7_sleep M_X7_turns M_X7_turns_27 M_X7_isController
  rw [ef, win_eq, zI_if]
  cases hc : M_X6_isWithin p 0 1
  · left
    refine ⟨1, 1, 0, rfl, rfs_1, ?_, by decide, Or.inl ⟨rfl, rfl⟩⟩
    rw [if_neg (by decide : ¬ (false = true)), ref_1, tb_eq]
    rfl
  · obtain ⟨c, hc2, rfl⟩ := win_t (N := 1) (by decide) hc
    have ea : M_X7_control y (nI c) (0 : Int32) = some (zI (cs_aw (dCtl d (nI c)))) := by
      rw [← hd.g_aw (c := c) (by omega)]; exact r_control y (w := 0) (by omega) (by decide)
    by_cases hw : cs_aw (dCtl d (nI c)) = false
    · left
      refine ⟨3, 2, 0, ?_, rfs_3, ?_, by decide, Or.inr ⟨rfl, rfl⟩⟩
      · rw [if_pos (rfl : true = true), if_pos hw]
      · rw [if_pos (rfl : true = true), ea, ob_some, hw, if_pos (show zI false = (0 : Int32) from rfl), ref_2, tb_eq]
        rfl
    · right
      have hw2 : cs_aw (dCtl d (nI c)) = true := by
        cases q : cs_aw (dCtl d (nI c))
        · first | rfl | exact absurd q hw
        · first | rfl | exact absurd q hw
      obtain ⟨r, g, e1, e2, e3⟩ := turn_core (v := false) hd1 hI ht ht9 (show c < 2 by omega)
      refine ⟨?_, r, _, g, ?_, ?_, e3⟩
      · rw [if_pos (rfl : true = true), if_neg hw]
      · unfold M_X3_putToSleep
        rw [tb_eq, e1, ob_some]
      · rw [if_pos (rfl : true = true), ea, ob_some, hw2, if_neg (show ¬ zI true = (0 : Int32) by decide), ref_0, tb_eq]
        refine Eq.trans (congrArg (fun z : Option (Int32 × MS) => z.bind fun r1 => some (r1.1, r1.2)) (Eq.trans (if_pos (show zI false = 0 from rfl)) (Eq.trans (congrArg (fun z : Option MS => z.bind _) hs) e2))) ?_
        rfl
theorem core_delay {y y1 : MS} {d : DS} {n t : Nat} (hd : DRel d (ms_now y) n) (hI : DInv d n) (ht : ds_tick d = nI t) (ht9 : t ≤ 9999) (hs : M_X7_saves (ms_refusal_s y 0) = some y1) (hy : ms_now y1 = ms_now y) (p q : Int32) : Core (fun c r => (c = 1 ∧ r = 1) ∨ (c = 2 ∧ r = 2)) (some (M_X3_faultOfDelay d p q)) (some (M_X3_changeDelay d p q)) (M_X7_setDelay y p q) y y1 := by
  have ef : M_X3_faultOfDelay d p q = if M_X6_isWithin p 0 1 = true then (if M_X6_isWithin q 0 20 = true then 0 else 2) else 1 := by
    unfold M_X3_faultOfDelay
    rw [fC, fR]
    cases M_X6_isWithin p 0 1 <;> rfl
  have hd1 : DRel d (ms_now y1) n := by rw [hy]; exact hd
  unfold M_X7_setDelay M_X7_sets M_X7_sets_27 M_X7_isController
  rw [ef, win_eq, zI_if, win_eq, zI_if]
  cases hc : M_X6_isWithin p 0 1
  · left
    refine ⟨1, 1, 0, rfl, rfs_1, ?_, by decide, Or.inl ⟨rfl, rfl⟩⟩
    rw [if_neg (by decide : ¬ (false = true)), ref_1, tb_eq]
    rfl
  · cases hw : M_X6_isWithin q 0 20
    · left
      refine ⟨2, 2, 0, rfl, rfs_2, ?_, by decide, Or.inr ⟨rfl, rfl⟩⟩
      rw [if_pos (rfl : true = true), if_neg (by decide : ¬ (false = true)), ref_2, tb_eq]
      rfl
    · right
      obtain ⟨c, hc2, rfl⟩ := win_t (N := 1) (by decide) hc
      have r1 := hd1.c_delay (c := c) (v := q) (by omega)
      have e0 : ((20 : Int32) + (8 : Int32) * nI c + (1 : Int32)) = nI (20 + 8 * c + 1) := ix_control c 1
      have a1 : ast 596 (ms_now y1) (nI (20 + 8 * c + 1)) q = some (upd (ms_now y1) (20 + 8 * c + 1) q) := ast_nI (by omega) (by omega)
      have a2 : M_X7_control y1 (nI c) (1 : Int32) = some (cs_delay (dCtl d (nI c))) := by
        rw [← hd1.g_delay (c := c) (by omega)]; exact r_control y1 (w := 1) (by omega) (by decide)
      have hk : DOK (dCtl_s d (nI c) (cs_delay_s (dCtl d (nI c)) q)) (upd (ms_now y1) (20 + 8 * c + 1) q) := DOK.same (d := d) hI ht ht9 ⟨rfl, rfl, rfl, rfl, rfl, rfl⟩ r1
      refine ⟨rfl, cs_delay (dCtl d (nI c)), dCtl_s d (nI c) (cs_delay_s (dCtl d (nI c)) q), upd (ms_now y1) (20 + 8 * c + 1) q, ?_, ?_, hk⟩
      · unfold M_X3_changeDelay
        rw [tb_eq]
      · rw [if_pos (rfl : true = true), if_pos (rfl : true = true), ref_0, tb_eq]
        have e2' : ((M_X7_saves (ms_refusal_s y 0)).bind fun r3 => ((M_X7_control r3 (nI c) (1 : Int32)).bind fun r4 => ((ast 596 (ms_now r3) (((20 : Int32) + ((8 : Int32) * nI c)) + (1 : Int32)) q).bind fun f5 => tb (ms_now_s r3 f5) fun y_6 => some (r4, y_6)))) = some (cs_delay (dCtl d (nI c)), ms_now_s y1 (upd (ms_now y1) (20 + 8 * c + 1) q)) := by
          rw [hs, ob_some, a2, ob_some, e0, a1, ob_some, tb_eq]
        refine Eq.trans (congrArg (fun z : Option (Int32 × MS) => z.bind fun r1 => some (r1.1, r1.2)) (Eq.trans (if_pos (show zI false = 0 from rfl)) e2')) ?_
        rfl
theorem core_work {y y1 : MS} {d : DS} {n t : Nat} (hd : DRel d (ms_now y) n) (hI : DInv d n) (ht : ds_tick d = nI t) (ht9 : t ≤ 9999) (hs : M_X7_saves (ms_refusal_s y 0) = some y1) (hy : ms_now y1 = ms_now y) (p q : Int32) : Core (fun c r => (c = 1 ∧ r = 1) ∨ (c = 2 ∧ r = 2) ∨ (c = 3 ∧ r = 3)) (some (M_X3_faultOfWorking d p q)) (M_X3_letWork d p q) (M_X7_work y p q) y y1 := by
  have ef : M_X3_faultOfWorking d p q = if M_X6_isWithin p 0 1 = true then (if M_X6_isWithin q 1 3 = true then (if cs_aw (dCtl d p) = false then 3 else 0) else 2) else 1 := by
    unfold M_X3_faultOfWorking M_X3_faultOfWorking_27 M_X3_faultOfNeedingAwake M_X3_faultOfNeedingAwake_25
    rw [fC, zI_if, zI_if]
    cases M_X6_isWithin p 0 1 <;> cases M_X6_isWithin q 1 3 <;> cases cs_aw (dCtl d p) <;> rfl
  have hd1 : DRel d (ms_now y1) n := by rw [hy]; exact hd
  unfold M_X7_work M_X7_work_39 M_X7_isController
  rw [ef, win_eq, zI_if, win_eq, zI_if]
  cases hc : M_X6_isWithin p 0 1
  · left
    refine ⟨1, 1, 0, rfl, rfs_1, ?_, by decide, Or.inl ⟨rfl, rfl⟩⟩
    rw [if_neg (by decide : ¬ (false = true)), ref_1, tb_eq]
    rfl
  · cases hw : M_X6_isWithin q 1 3
    · left
      refine ⟨2, 2, 0, rfl, rfs_2, ?_, by decide, Or.inr (Or.inl ⟨rfl, rfl⟩)⟩
      rw [if_pos (rfl : true = true), if_neg (by decide : ¬ (false = true)), ref_2, tb_eq]
      rfl
    · obtain ⟨c, hc2, rfl⟩ := win_t (N := 1) (by decide) hc
      obtain ⟨s, hs1, hs3, rfl⟩ := win1_t (N := 3) (by decide) hw
      have ea : M_X7_control y (nI c) (0 : Int32) = some (zI (cs_aw (dCtl d (nI c)))) := by
        rw [← hd.g_aw (c := c) (by omega)]; exact r_control y (w := 0) (by omega) (by decide)
      cases ha : cs_aw (dCtl d (nI c))
      · left
        refine ⟨3, 3, 0, ?_, rfs_3, ?_, by decide, Or.inr (Or.inr ⟨rfl, rfl⟩)⟩
        · rw [if_pos (rfl : true = true), if_pos (rfl : true = true), if_pos (rfl : false = false)]
        · rw [if_pos (rfl : true = true), if_pos (rfl : true = true), ea, ob_some, ha, if_pos (show zI false = (0 : Int32) from rfl), ref_3, tb_eq]
          rfl
      · right
        obtain ⟨r, d', f, ec, er, r2, i2, t2, -⟩ := works_ok (s := s) hd1 hI (show c < 2 by omega) hs1 hs3
        have hk : DOK d' f := ⟨n, t, r2, i2, t2.trans ht, ht9⟩
        refine ⟨?_, r, d', f, ec, ?_, hk⟩
        · rw [if_pos (rfl : true = true), if_pos (rfl : true = true), if_neg (by decide : ¬ true = false)]
        · rw [if_pos (rfl : true = true), if_pos (rfl : true = true), ea, ob_some, ha, if_neg (show ¬ zI true = (0 : Int32) by decide), ref_0, tb_eq]
          have e2' : ((M_X7_saves (ms_refusal_s y 0)).bind fun r3 => ((M_X7_works r3 (nI c) (nI s)).bind fun r4 => some (r4.1, r4.2))) = some (r, ms_now_s y1 f) := by
            rw [hs, ob_some, er, ob_some]
          exact Eq.trans (if_pos (show zI false = 0 from rfl)) e2'
theorem core_pass {y y1 : MS} {d : DS} {n t : Nat} (hd : DRel d (ms_now y) n) (hI : DInv d n) (ht : ds_tick d = nI t) (ht9 : t ≤ 9999) (hs : M_X7_saves (ms_refusal_s y 0) = some y1) (hy : ms_now y1 = ms_now y) (p : Int32) : Core (fun c r => (c = 2 ∧ r = 1) ∨ (c = 3 ∧ r = 2)) (some (M_X3_faultOfPassing d p)) (M_X3_letPass d p) (M_X7_pass y p) y y1 := by
  have ef : M_X3_faultOfPassing d p = if M_X6_isWithin p 1 50 = true then (if ds_tick d + p ≤ 9999 then 0 else 3) else 2 := by
    unfold M_X3_faultOfPassing M_X3_faultOfPassing_29
    rw [zI_if]
  have hd1 : DRel d (ms_now y1) n := by rw [hy]; exact hd
  unfold M_X7_pass M_X7_pass_34
  rw [ef, win_eq, zI_if, hd.now0]
  cases hw : M_X6_isWithin p 1 50
  · left
    refine ⟨2, 1, 0, rfl, rfs_2, ?_, by decide, Or.inl ⟨rfl, rfl⟩⟩
    rw [if_neg (by decide : ¬ (false = true)), ref_1, tb_eq]
    rfl
  · obtain ⟨P, hP1, hP, rfl⟩ := win1_t (N := 50) (by decide) hw
    have hl : (ds_tick d + nI P ≤ 9999) ↔ t + P ≤ 9999 := by
      rw [ht, nI_add]
      exact nI_leI (b := 9999) (by omega) (by omega)
    by_cases q : t + P ≤ 9999
    · right
      obtain ⟨r, d', f, ec, er, r2, i2, t2⟩ := letPass_ok (P := P) hd1 hI ht hP (by omega)
      have hk : DOK d' f := ⟨n, t + P, r2, i2, t2, q⟩
      have e54 : ∀ a b : MS, M_X7_pass_54s a (nI P) = M_X7_pass_54s b (nI P) := fun _ _ => rfl
      rw [e54 _ y] at er
      refine ⟨?_, r, d', f, ec, ?_, hk⟩
      · rw [if_pos (rfl : true = true), if_pos (hl.mpr q)]
      · rw [if_pos (rfl : true = true), ob_some, if_pos (hl.mpr q), ref_0, tb_eq]
        refine Eq.trans (if_pos (show zI false = 0 from rfl)) ?_
        show (M_X7_saves (ms_refusal_s y 0)).bind _ = _
        rw [hs, ob_some]
        exact er
    · left
      refine ⟨3, 2, 0, ?_, rfs_3, ?_, by decide, Or.inr ⟨rfl, rfl⟩⟩
      · rw [if_pos (rfl : true = true), if_neg (fun z => q (hl.mp z))]
      · rw [if_pos (rfl : true = true), ob_some, if_neg (fun z => q (hl.mp z)), ref_2, tb_eq]
        rfl
theorem core_cancel {y y1 : MS} {d : DS} {n t : Nat} (hd : DRel d (ms_now y) n) (hI : DInv d n) (ht : ds_tick d = nI t) (ht9 : t ≤ 9999) (hs : M_X7_saves (ms_refusal_s y 0) = some y1) (hy : ms_now y1 = ms_now y) (p q : Int32) : Core (fun c r => (c = 2 ∧ r = 1) ∨ (c = 3 ∧ r = 2)) (M_X3_faultOfCancelling d p q) (M_X3_callOff d p q) (M_X7_cancel y p q) y y1 := by
  have hn := hd.le
  have hcl := c_latest hd.ord hn p q
  have hrl := r_latest hd p q
  have hd1 : DRel d (ms_now y1) n := by rw [hy]; exact hd
  have ef : M_X3_faultOfCancelling d p q = if (M_X6_isWithin p 0 3 && M_X6_isWithin q 0 31) = true then (if lastI (tagp d p q) n = -1 then some 3 else if M_X3_fact d (lastI (tagp d p q) n) (5 : Int32) = 0 then some 0 else some 3) else some 2 := by
    unfold M_X3_faultOfCancelling M_X3_faultOfCancelling_31 M_X3_faultOfCancelling_36
    rw [fT, hcl, ob_some]
    cases (M_X6_isWithin p 0 3 && M_X6_isWithin q 0 31) <;> rfl
  unfold M_X7_cancel
  rw [ef, rT, zI_if, hrl]
  cases hw : (M_X6_isWithin p 0 3 && M_X6_isWithin q 0 31)
  · left
    exact ⟨2, 1, 0, rfl, rfs_2, rfl, by decide, Or.inl ⟨rfl, rfl⟩⟩
  · rcases lastI_cases (tagp d p q) n with e | ⟨o, ho, e, -⟩
    · left
      refine ⟨3, 2, 0, ?_, rfs_3, ?_, by decide, Or.inr ⟨rfl, rfl⟩⟩
      · rw [if_pos (rfl : true = true), if_pos e]
      · rw [if_pos (rfl : true = true), ob_some]
        unfold M_X7_cancel_20
        rw [if_pos e]
        rfl
    · have ho40 : o < 40 := by omega
      have e5 : M_X3_fact d (nI o) (5 : Int32) = fc d o 5 := c_fact _ (w := 5) ho40 (by decide)
      have q5 : M_X7_of y (nI o) (5 : Int32) = some (fc d o 5) := r_of' (w := 5) hd ho40 (by decide)
      rw [e, e5, if_neg (nI_nm1 (by omega)), if_pos (rfl : true = true), if_pos (rfl : true = true), ob_some]
      unfold M_X7_cancel_20
      rw [if_neg (nI_nm1 (by omega)), q5, ob_some]
      by_cases z : fc d o 5 = 0
      · right
        have r1 : DRel (dF d o 5 3) (upd (ms_now y1) (116 + 12 * o + 5) 3) n := hd1.dF ho40 (by decide)
        have i1 : DInv (dF d o 5 3) n := hI.next (fun o' w _ hw => by rw [fc_dF (by decide) (by omega), if_neg (by omega)]) (fun o' ho' => by
          rw [fc_dF (by decide) (by omega)]
          by_cases z2 : o' = o
          · rw [if_pos ⟨z2, rfl⟩]; exact ⟨3, by decide, rfl⟩
          · rw [if_neg (by omega)]; exact (hI.1 o' ho').2.2.2) hI.2.1 rfl
        have hk : DOK (dF d o 5 3) (upd (ms_now y1) (116 + 12 * o + 5) 3) := ⟨n, t, r1, i1, ht, ht9⟩
        have a1 : M_X7_put y1 (nI o) (5 : Int32) (3 : Int32) = some (ms_now_s y1 (upd (ms_now y1) (116 + 12 * o + 5) 3)) := r_put _ (w := 5) ho40 (by decide)
        have c1 : M_X3_setFact d (nI o) (5 : Int32) (3 : Int32) = dF d o 5 3 := c_setFact _ (w := 5) ho40 (by decide) 3
        refine ⟨?_, nI o, dF d o 5 3, upd (ms_now y1) (116 + 12 * o + 5) 3, ?_, ?_, hk⟩
        · rw [if_pos z]
        · unfold M_X3_callOff
          rw [hcl, ob_some, tb_eq, e, c1]
        · rw [if_pos z]
          unfold M_X7_cancel_43 M_X7_cancel_64
          rw [zI_if, zI_if, if_pos (rfl : true = true), if_pos (rfl : true = true), ref_0, tb_eq]
          refine Eq.trans (if_pos (show zI false = 0 from rfl)) ?_
          show (M_X7_saves (ms_refusal_s y 0)).bind _ = _
          rw [hs, ob_some, a1, ob_some]
      · left
        refine ⟨3, 2, 0, ?_, rfs_3, ?_, by decide, Or.inr ⟨rfl, rfl⟩⟩
        · rw [if_neg z]
        · rw [if_neg z]
          rfl
