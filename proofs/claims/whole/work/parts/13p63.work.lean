/-! PART 63: a work that is told -/
theorem u_work {x : SS} {y : MS} (h : SRel x y) (p q : Int32) : AgU (fun c r => (c = 1 ∧ r = 1) ∨ (c = 2 ∧ r = 2) ∨ (c = 3 ∧ r = 3)) x (M_X6_work x p q) (M_X7_work y p q) := by
  obtain ⟨n, t, hd, hI, ht, ht9⟩ := h.1
  have ef : M_X3_faultOfWorking (ss_drv x) p q = if M_X6_isWithin p 0 1 = true then (if M_X6_isWithin q 1 3 = true then (if cs_aw (dCtl (ss_drv x) p) = false then 3 else 0) else 2) else 1 := by
    unfold M_X3_faultOfWorking M_X3_faultOfWorking_27 M_X3_faultOfNeedingAwake M_X3_faultOfNeedingAwake_25
    rw [fC, zI_if, zI_if]
    cases M_X6_isWithin p 0 1 <;> cases M_X6_isWithin q 1 3 <;> cases cs_aw (dCtl (ss_drv x) p) <;> rfl
  unfold M_X6_work M_X7_work M_X7_work_39 M_X7_isController
  rw [ef, win_eq, zI_if, win_eq, zI_if]
  cases hc : M_X6_isWithin p 0 1
  · left
    exact ⟨1, 1, 0, ms_refusal_s y 1, rfl, rfl, rfl, Or.inl ⟨rfl, rfl⟩, h⟩
  · cases hw : M_X6_isWithin q 1 3
    · left
      exact ⟨2, 2, 0, ms_refusal_s y 2, rfl, rfl, rfl, Or.inr (Or.inl ⟨rfl, rfl⟩), h⟩
    · obtain ⟨c, hc2, rfl⟩ := win_t (N := 1) (by decide) hc
      obtain ⟨s, hs1, hs3, rfl⟩ := win1_t (N := 3) (by decide) hw
      have ea : M_X7_control y (nI c) (0 : Int32) = some (zI (cs_aw (dCtl (ss_drv x) (nI c)))) := by
        rw [← hd.g_aw (c := c) (by omega)]; exact r_control y (w := 0) (by omega) (by decide)
      cases ha : cs_aw (dCtl (ss_drv x) (nI c))
      · left
        refine ⟨3, 3, 0, ms_refusal_s y 3, ?_, ?_, rfl, Or.inr (Or.inr ⟨rfl, rfl⟩), h⟩
        · rw [if_pos (rfl : true = true), if_pos (rfl : true = true), if_pos (rfl : false = false), if_pos rfs_3]
        · rw [if_pos (rfl : true = true), if_pos (rfl : true = true), ea, ob_some, ha, if_pos (show zI false = (0 : Int32) from rfl), ref_3]
          rfl
      · right
        obtain ⟨P, T, e1, h1⟩ := save_ok (y := ms_refusal_s y 0) h
        obtain ⟨r, d', f, ec, er, r2, i2, t2, -⟩ := works_ok (y := ms_saved_s (ms_past_s (ms_refusal_s y 0) P) T) (s := s) hd hI (show c < 2 by omega) hs1 hs3
        have hk : DOK d' f := ⟨n, t, r2, i2, t2.trans ht, ht9⟩
        refine ⟨r, ss_drv_s (ss_his_s x (M_X4_save (ss_his x) (ss_drv x))) d', ms_now_s (ms_saved_s (ms_past_s (ms_refusal_s y 0) P) T) f, ?_, ?_, rfl, h1.drv hk⟩
        · rw [if_pos (rfl : true = true), if_pos (rfl : true = true), if_neg (by decide : ¬ true = false), if_neg (by rw [rfs_0]; decide)]
          simp only [tb]
          rw [show ss_drv (ss_his_s x (M_X4_save (ss_his x) (ss_drv x))) = ss_drv x from rfl, ec, ob_some]
        · rw [if_pos (rfl : true = true), if_pos (rfl : true = true), ea, ob_some, ha, if_neg (show ¬ zI true = (0 : Int32) by decide), ref_0]
          have e2' : ((M_X7_saves (ms_refusal_s y 0)).bind fun r3 => ((M_X7_works r3 (nI c) (nI s)).bind fun r4 => some (r4.1, r4.2))) = some (r, ms_now_s (ms_saved_s (ms_past_s (ms_refusal_s y 0) P) T) f) := by
            rw [e1, ob_some, er, ob_some]
          simp only [tb]
          exact Eq.trans (if_pos (show zI false = 0 from rfl)) e2'
