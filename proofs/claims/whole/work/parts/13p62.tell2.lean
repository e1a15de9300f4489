/-! PART 62: delay and alarm -/
theorem u_setDelay {x : SS} {y : MS} (h : SRel x y) (p q : Int32) : AgU (fun c r => (c = 1 ∧ r = 1) ∨ (c = 2 ∧ r = 2)) x (M_X6_setDelay x p q) (M_X7_setDelay y p q) := by
  obtain ⟨n, t, hd, hI, ht, ht9⟩ := h.1
  have ef : M_X3_faultOfDelay (ss_drv x) p q = if M_X6_isWithin p 0 1 = true then (if M_X6_isWithin q 0 20 = true then 0 else 2) else 1 := by
    unfold M_X3_faultOfDelay
    rw [fC, fR]
    cases M_X6_isWithin p 0 1 <;> rfl
  unfold M_X6_setDelay M_X7_setDelay M_X7_sets M_X7_sets_27 M_X7_isController
  rw [ef, win_eq, zI_if, win_eq, zI_if]
  cases hc : M_X6_isWithin p 0 1
  · left
    exact ⟨1, 1, 0, ms_refusal_s y 1, rfl, rfl, rfl, Or.inl ⟨rfl, rfl⟩, h⟩
  · cases hw : M_X6_isWithin q 0 20
    · left
      exact ⟨2, 2, 0, ms_refusal_s y 2, rfl, rfl, rfl, Or.inr ⟨rfl, rfl⟩, h⟩
    · right
      obtain ⟨c, hc2, rfl⟩ := win_t (N := 1) (by decide) hc
      obtain ⟨P, T, e1, h1⟩ := save_ok (y := ms_refusal_s y 0) h
      have r1 := hd.c_delay (c := c) (v := q) (by omega)
      have e0 : ((20 : Int32) + (8 : Int32) * nI c + (1 : Int32)) = nI (20 + 8 * c + 1) := ix_control c 1
      have a1 : ast 596 (ms_now (ms_saved_s (ms_past_s (ms_refusal_s y 0) P) T)) (nI (20 + 8 * c + 1)) q = some (upd (ms_now y) (20 + 8 * c + 1) q) := ast_nI (by omega) (by omega)
      have a2 : M_X7_control (ms_saved_s (ms_past_s (ms_refusal_s y 0) P) T) (nI c) (1 : Int32) = some (cs_delay (dCtl (ss_drv x) (nI c))) := by
        rw [← hd.g_delay (c := c) (by omega)]; exact r_control (ms_saved_s (ms_past_s (ms_refusal_s y 0) P) T) (w := 1) (by omega) (by decide)
      have hk : DOK (dCtl_s (ss_drv x) (nI c) (cs_delay_s (dCtl (ss_drv x) (nI c)) q)) (upd (ms_now y) (20 + 8 * c + 1) q) := DOK.same (d := ss_drv x) hI ht ht9 ⟨rfl, rfl, rfl, rfl, rfl, rfl⟩ r1
      refine ⟨cs_delay (dCtl (ss_drv x) (nI c)), ss_drv_s (ss_his_s x (M_X4_save (ss_his x) (ss_drv x))) (dCtl_s (ss_drv x) (nI c) (cs_delay_s (dCtl (ss_drv x) (nI c)) q)), ms_now_s (ms_saved_s (ms_past_s (ms_refusal_s y 0) P) T) (upd (ms_now y) (20 + 8 * c + 1) q), ?_, ?_, rfl, h1.drv hk⟩
      · rw [if_pos (rfl : true = true), if_pos (rfl : true = true), if_neg (by rw [rfs_0]; decide)]
        unfold M_X3_changeDelay
        simp only [tb]
        rw [show ss_drv (ss_his_s x (M_X4_save (ss_his x) (ss_drv x))) = ss_drv x from rfl]
      · rw [if_pos (rfl : true = true), if_pos (rfl : true = true), ref_0]
        have e2' : ((M_X7_saves (ms_refusal_s y 0)).bind fun r3 => ((M_X7_control r3 (nI c) (1 : Int32)).bind fun r4 => ((ast 596 (ms_now r3) (((20 : Int32) + ((8 : Int32) * nI c)) + (1 : Int32)) q).bind fun f5 => some (r4, ms_now_s r3 f5)))) = some (cs_delay (dCtl (ss_drv x) (nI c)), ms_now_s (ms_saved_s (ms_past_s (ms_refusal_s y 0) P) T) (upd (ms_now y) (20 + 8 * c + 1) q)) := by
          rw [e1, ob_some, a2, ob_some, e0, a1, ob_some]
        simp only [tb]
        refine Eq.trans (congrArg (fun z : Option (Int32 × MS) => z.bind fun r1 => some (r1.1, r1.2)) (Eq.trans (if_pos (show zI false = 0 from rfl)) e2')) ?_
        rfl
theorem u_setAlarm {x : SS} {y : MS} (h : SRel x y) (p q : Int32) : AgU (fun c r => (c = 1 ∧ r = 1) ∨ (c = 2 ∧ r = 2)) x (M_X6_setAlarm x p q) (M_X7_setAlarm y p q) := by
  obtain ⟨n, t, hd, hI, ht, ht9⟩ := h.1
  have ef : M_X3_faultOfAlarm (ss_drv x) p q = if M_X6_isWithin p 0 1 = true then (if M_X6_isWithin q 0 20 = true then 0 else 2) else 1 := by
    unfold M_X3_faultOfAlarm
    rw [fC, fR]
    cases M_X6_isWithin p 0 1 <;> rfl
  unfold M_X6_setAlarm M_X7_setAlarm M_X7_sets M_X7_sets_27 M_X7_isController
  rw [ef, win_eq, zI_if, win_eq, zI_if]
  cases hc : M_X6_isWithin p 0 1
  · left
    exact ⟨1, 1, 0, ms_refusal_s y 1, rfl, rfl, rfl, Or.inl ⟨rfl, rfl⟩, h⟩
  · cases hw : M_X6_isWithin q 0 20
    · left
      exact ⟨2, 2, 0, ms_refusal_s y 2, rfl, rfl, rfl, Or.inr ⟨rfl, rfl⟩, h⟩
    · right
      obtain ⟨c, hc2, rfl⟩ := win_t (N := 1) (by decide) hc
      obtain ⟨P, T, e1, h1⟩ := save_ok (y := ms_refusal_s y 0) h
      have r1 := hd.c_alarm (c := c) (v := q) (by omega)
      have e0 : ((20 : Int32) + (8 : Int32) * nI c + (2 : Int32)) = nI (20 + 8 * c + 2) := ix_control c 2
      have a1 : ast 596 (ms_now (ms_saved_s (ms_past_s (ms_refusal_s y 0) P) T)) (nI (20 + 8 * c + 2)) q = some (upd (ms_now y) (20 + 8 * c + 2) q) := ast_nI (by omega) (by omega)
      have a2 : M_X7_control (ms_saved_s (ms_past_s (ms_refusal_s y 0) P) T) (nI c) (2 : Int32) = some (cs_alarm (dCtl (ss_drv x) (nI c))) := by
        rw [← hd.g_alarm (c := c) (by omega)]; exact r_control (ms_saved_s (ms_past_s (ms_refusal_s y 0) P) T) (w := 2) (by omega) (by decide)
      have hk : DOK (dCtl_s (ss_drv x) (nI c) (cs_alarm_s (dCtl (ss_drv x) (nI c)) q)) (upd (ms_now y) (20 + 8 * c + 2) q) := DOK.same (d := ss_drv x) hI ht ht9 ⟨rfl, rfl, rfl, rfl, rfl, rfl⟩ r1
      refine ⟨cs_alarm (dCtl (ss_drv x) (nI c)), ss_drv_s (ss_his_s x (M_X4_save (ss_his x) (ss_drv x))) (dCtl_s (ss_drv x) (nI c) (cs_alarm_s (dCtl (ss_drv x) (nI c)) q)), ms_now_s (ms_saved_s (ms_past_s (ms_refusal_s y 0) P) T) (upd (ms_now y) (20 + 8 * c + 2) q), ?_, ?_, rfl, h1.drv hk⟩
      · rw [if_pos (rfl : true = true), if_pos (rfl : true = true), if_neg (by rw [rfs_0]; decide)]
        unfold M_X3_changeAlarm
        simp only [tb]
        rw [show ss_drv (ss_his_s x (M_X4_save (ss_his x) (ss_drv x))) = ss_drv x from rfl]
      · rw [if_pos (rfl : true = true), if_pos (rfl : true = true), ref_0]
        have e2' : ((M_X7_saves (ms_refusal_s y 0)).bind fun r3 => ((M_X7_control r3 (nI c) (2 : Int32)).bind fun r4 => ((ast 596 (ms_now r3) (((20 : Int32) + ((8 : Int32) * nI c)) + (2 : Int32)) q).bind fun f5 => some (r4, ms_now_s r3 f5)))) = some (cs_alarm (dCtl (ss_drv x) (nI c)), ms_now_s (ms_saved_s (ms_past_s (ms_refusal_s y 0) P) T) (upd (ms_now y) (20 + 8 * c + 2) q)) := by
          rw [e1, ob_some, a2, ob_some, e0, a1, ob_some]
        simp only [tb]
        refine Eq.trans (congrArg (fun z : Option (Int32 × MS) => z.bind fun r1 => some (r1.1, r1.2)) (Eq.trans (if_pos (show zI false = 0 from rfl)) e2')) ?_
        rfl
