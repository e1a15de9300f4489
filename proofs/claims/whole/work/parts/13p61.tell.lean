/-! PART 61: what is told from outside, on both sides -/
theorem DOK.same {d d' : DS} {f' : Nat → Int32} {n t : Nat} (hI : DInv d n) (ht : ds_tick d = nI t) (ht9 : t ≤ 9999) (hs : sameB d d') (hr : DRel d' f' n) : DOK d' f' := ⟨n, t, hr, hI.same hs, hs.2.1.trans ht, ht9⟩
theorem SRel.drv {x : SS} {y : MS} {d' : DS} {f : Nat → Int32} (h : SRel x y) (hd : DOK d' f) : SRel (ss_drv_s x d') (ms_now_s y f) := ⟨hd, h.2.1, h.2.2.1, h.2.2.2⟩
theorem win1_t {a : Int32} {N : Nat} (hN : N < 2 ^ 31) (h : M_X6_isWithin a 1 (nI N) = true) : ∃ k, 1 ≤ k ∧ k ≤ N ∧ a = nI k := by
  unfold M_X6_isWithin M_X6_isWithin_14 M_X6_isWithin_15 at h
  by_cases q : a < 1
  · rw [if_pos q] at h; cases h
  · rw [if_neg q] at h
    have q0 : ¬ a < 0 := by
      intro z
      rw [Int32.lt_iff_toInt_lt] at z q
      rw [show (0 : Int32).toInt = 0 by decide] at z
      rw [show (1 : Int32).toInt = 1 by decide] at q
      omega
    obtain ⟨k, hk, rfl⟩ := nI_of q0
    have q1 : ¬ nI k < nI 1 := q
    rw [nI_ltI hk (by omega)] at q1
    by_cases q2 : nI N < nI k
    · rw [if_pos q2] at h; cases h
    · refine ⟨k, by omega, ?_, rfl⟩
      rw [nI_ltI hN hk] at q2
      omega
theorem turn_ok {x : SS} {y : MS} {n t c : Nat} {v : Bool} (h : SRel x y) (hd : DRel (ss_drv x) (ms_now y) n) (hI : DInv (ss_drv x) n) (ht : ds_tick (ss_drv x) = nI t) (ht9 : t ≤ 9999) (hc : c < 2) : ∃ r y', M_X3_arrivedMail (dCtl_s (ss_drv x) (nI c) (cs_aw_s (dCtl (ss_drv x) (nI c)) v)) (nI c) = some r ∧ ((M_X7_saves (ms_refusal_s y 0)).bind fun r3 => ((ast 596 (ms_now r3) (((20 : Int32) + ((8 : Int32) * nI c)) + (0 : Int32)) (zI v)).bind fun f4 => (tb (ms_now_s r3 f4) fun y_5 => ((M_X7_arrived y_5 (nI c)).bind fun r6 => some (r6, y_5))))) = some (r, y') ∧ ms_refusal y' = 0 ∧ SRel (ss_drv_s (ss_his_s x (M_X4_save (ss_his x) (ss_drv x))) (dCtl_s (ss_drv x) (nI c) (cs_aw_s (dCtl (ss_drv x) (nI c)) v))) y' := by
  have hn := hd.le
  obtain ⟨P, T, e1, h1⟩ := save_ok (y := ms_refusal_s y 0) h
  have r1 := hd.c_aw (v := v) hc
  have e0 : ((20 : Int32) + (8 : Int32) * nI c + (0 : Int32)) = nI (20 + 8 * c + 0) := ix_control c 0
  have a1 : ast 596 (ms_now (ms_saved_s (ms_past_s (ms_refusal_s y 0) P) T)) (nI (20 + 8 * c + 0)) (zI v) = some (upd (ms_now y) (20 + 8 * c + 0) (zI v)) := ast_nI (by omega) (by omega)
  have a2 := c_arrivedMail (d := dCtl_s (ss_drv x) (nI c) (cs_aw_s (dCtl (ss_drv x) (nI c)) v)) (n := n) hd.ord hn hc
  have a3 := r_arrived (y := ms_now_s (ms_saved_s (ms_past_s (ms_refusal_s y 0) P) T) (upd (ms_now y) (20 + 8 * c + 0) (zI v))) r1 hc
  have hk : DOK (dCtl_s (ss_drv x) (nI c) (cs_aw_s (dCtl (ss_drv x) (nI c)) v)) (upd (ms_now y) (20 + 8 * c + 0) (zI v)) := DOK.same (d := ss_drv x) hI ht ht9 ⟨rfl, rfl, rfl, rfl, rfl, rfl⟩ r1
  refine ⟨_, ms_now_s (ms_saved_s (ms_past_s (ms_refusal_s y 0) P) T) (upd (ms_now y) (20 + 8 * c + 0) (zI v)), a2, ?_, rfl, h1.drv hk⟩
  rw [e1, ob_some, e0, a1, ob_some]
  simp only [tb]
  rw [a3, ob_some]
theorem u_wake {x : SS} {y : MS} (h : SRel x y) (p : Int32) : AgU (fun c q => (c = 1 ∧ q = 1) ∨ (c = 3 ∧ q = 2)) x (M_X6_wake x p) (M_X7_wake y p) := by
  obtain ⟨n, t, hd, hI, ht, ht9⟩ := h.1
  have ef : M_X3_faultOfWaking (ss_drv x) p = if M_X6_isWithin p 0 1 = true then (if cs_aw (dCtl (ss_drv x) p) = true then 3 else 0) else 1 := by
    unfold M_X3_faultOfWaking M_X3_faultOfWaking_25
    rw [fC, zI_if]
    cases M_X6_isWithin p 0 1 <;> cases cs_aw (dCtl (ss_drv x) p) <;> rfl
  unfold M_X6_wake M_X7_wake M_X7_turns M_X7_turns_27 M_X7_isController
  rw [ef, win_eq, zI_if]
  cases hc : M_X6_isWithin p 0 1
  · left
    exact ⟨1, 1, 0, ms_refusal_s y 1, rfl, rfl, rfl, Or.inl ⟨rfl, rfl⟩, h⟩
  · obtain ⟨c, hc2, rfl⟩ := win_t (N := 1) (by decide) hc
    have ea : M_X7_control y (nI c) (0 : Int32) = some (zI (cs_aw (dCtl (ss_drv x) (nI c)))) := by
      rw [← hd.g_aw (c := c) (by omega)]; exact r_control y (w := 0) (by omega) (by decide)
    by_cases hw : cs_aw (dCtl (ss_drv x) (nI c)) = true
    · left
      refine ⟨3, 2, 0, ms_refusal_s y 2, ?_, ?_, rfl, Or.inr ⟨rfl, rfl⟩, h⟩
      · rw [if_pos (rfl : true = true), if_pos hw, if_pos rfs_3]
      · rw [if_pos (rfl : true = true), ea, ob_some, hw, if_pos (show zI true = (1 : Int32) from rfl), ref_2]
        rfl
    · right
      have hw2 : cs_aw (dCtl (ss_drv x) (nI c)) = false := by
        cases q : cs_aw (dCtl (ss_drv x) (nI c))
        · first | rfl | exact absurd q hw
        · first | rfl | exact absurd q hw
      obtain ⟨r, y', e1, e2, e3, e4⟩ := turn_ok (v := true) h hd hI ht ht9 (show c < 2 by omega)
      refine ⟨r, _, y', ?_, ?_, e3, e4⟩
      · rw [if_pos (rfl : true = true), if_neg hw, if_neg (by rw [rfs_0]; decide)]
        have eo : M_X3_rouse (ss_drv (ss_his_s x (M_X4_save (ss_his x) (ss_drv x)))) (nI c) = some (r, dCtl_s (ss_drv x) (nI c) (cs_aw_s (dCtl (ss_drv x) (nI c)) true)) := by
          unfold M_X3_rouse
          simp only [tb]
          rw [show ss_drv (ss_his_s x (M_X4_save (ss_his x) (ss_drv x))) = ss_drv x from rfl, e1, ob_some]
        simp only [tb]
        rw [eo, ob_some]
      · rw [if_pos (rfl : true = true), ea, ob_some, hw2, if_neg (show ¬ zI false = (1 : Int32) by decide), ref_0]
        have e2' : ((M_X7_saves (ms_refusal_s y 0)).bind fun r3 => ((ast 596 (ms_now r3) (((20 : Int32) + ((8 : Int32) * nI c)) + (0 : Int32)) (1 : Int32)).bind fun f4 => (tb (ms_now_s r3 f4) fun y_5 => ((M_X7_arrived y_5 (nI c)).bind fun r6 => some (r6, y_5))))) = some (r, y') := e2
        simp only [tb] at e2' ⊢
        refine Eq.trans (congrArg (fun z : Option (Int32 × MS) => z.bind fun r1 => some (r1.1, r1.2)) (Eq.trans (if_pos (show zI false = 0 from rfl)) e2')) ?_
        rfl
theorem u_sleep {x : SS} {y : MS} (h : SRel x y) (p : Int32) : AgU (fun c q => (c = 1 ∧ q = 1) ∨ (c = 3 ∧ q = 2)) x (M_X6_sleep x p) (M_X7_sleep y p) := by
  obtain ⟨n, t, hd, hI, ht, ht9⟩ := h.1
  have ef : M_X3_faultOfNeedingAwake (ss_drv x) p = if M_X6_isWithin p 0 1 = true then (if cs_aw (dCtl (ss_drv x) p) = false then 3 else 0) else 1 := by
    unfold M_X3_faultOfNeedingAwake M_X3_faultOfNeedingAwake_25
    rw [fC, zI_if]
    cases M_X6_isWithin p 0 1 <;> cases cs_aw (dCtl (ss_drv x) p) <;> rfl
  unfold M_X6_sleep M_X7_sleep M_X7_turns M_X7_turns_27 M_X7_isController
  rw [ef, win_eq, zI_if]
  cases hc : M_X6_isWithin p 0 1
  · left
    exact ⟨1, 1, 0, ms_refusal_s y 1, rfl, rfl, rfl, Or.inl ⟨rfl, rfl⟩, h⟩
  · obtain ⟨c, hc2, rfl⟩ := win_t (N := 1) (by decide) hc
    have ea : M_X7_control y (nI c) (0 : Int32) = some (zI (cs_aw (dCtl (ss_drv x) (nI c)))) := by
      rw [← hd.g_aw (c := c) (by omega)]; exact r_control y (w := 0) (by omega) (by decide)
    by_cases hw : cs_aw (dCtl (ss_drv x) (nI c)) = false
    · left
      refine ⟨3, 2, 0, ms_refusal_s y 2, ?_, ?_, rfl, Or.inr ⟨rfl, rfl⟩, h⟩
      · rw [if_pos (rfl : true = true), if_pos hw, if_pos rfs_3]
      · rw [if_pos (rfl : true = true), ea, ob_some, hw, if_pos (show zI false = (0 : Int32) from rfl), ref_2]
        rfl
    · right
      have hw2 : cs_aw (dCtl (ss_drv x) (nI c)) = true := by
        cases q : cs_aw (dCtl (ss_drv x) (nI c))
        · first | rfl | exact absurd q hw
        · first | rfl | exact absurd q hw
      obtain ⟨r, y', e1, e2, e3, e4⟩ := turn_ok (v := false) h hd hI ht ht9 (show c < 2 by omega)
      refine ⟨r, _, y', ?_, ?_, e3, e4⟩
      · rw [if_pos (rfl : true = true), if_neg hw, if_neg (by rw [rfs_0]; decide)]
        have eo : M_X3_putToSleep (ss_drv (ss_his_s x (M_X4_save (ss_his x) (ss_drv x)))) (nI c) = some (r, dCtl_s (ss_drv x) (nI c) (cs_aw_s (dCtl (ss_drv x) (nI c)) false)) := by
          unfold M_X3_putToSleep
          simp only [tb]
          rw [show ss_drv (ss_his_s x (M_X4_save (ss_his x) (ss_drv x))) = ss_drv x from rfl, e1, ob_some]
        simp only [tb]
        rw [eo, ob_some]
      · rw [if_pos (rfl : true = true), ea, ob_some, hw2, if_neg (show ¬ zI true = (0 : Int32) by decide), ref_0]
        have e2' : ((M_X7_saves (ms_refusal_s y 0)).bind fun r3 => ((ast 596 (ms_now r3) (((20 : Int32) + ((8 : Int32) * nI c)) + (0 : Int32)) (0 : Int32)).bind fun f4 => (tb (ms_now_s r3 f4) fun y_5 => ((M_X7_arrived y_5 (nI c)).bind fun r6 => some (r6, y_5))))) = some (r, y') := e2
        simp only [tb] at e2' ⊢
        refine Eq.trans (congrArg (fun z : Option (Int32 × MS) => z.bind fun r1 => some (r1.1, r1.2)) (Eq.trans (if_pos (show zI false = 0 from rfl)) e2')) ?_
        rfl
