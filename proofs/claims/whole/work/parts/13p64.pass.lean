/-! PART 64: passes that are told -/
theorem u_pass {x : SS} {y : MS} (h : SRel x y) (p : Int32) : AgU (fun c r => (c = 2 ∧ r = 1) ∨ (c = 3 ∧ r = 2)) x (M_X6_pass x p) (M_X7_pass y p) := by
  obtain ⟨n, t, hd, hI, ht, ht9⟩ := h.1
  have ef : M_X3_faultOfPassing (ss_drv x) p = if M_X6_isWithin p 1 50 = true then (if ds_tick (ss_drv x) + p ≤ 9999 then 0 else 3) else 2 := by
    unfold M_X3_faultOfPassing M_X3_faultOfPassing_29
    rw [zI_if]
  unfold M_X6_pass M_X7_pass M_X7_pass_34
  rw [ef, win_eq, zI_if, hd.now0]
  cases hw : M_X6_isWithin p 1 50
  · left
    exact ⟨2, 1, 0, ms_refusal_s y 1, rfl, rfl, rfl, Or.inl ⟨rfl, rfl⟩, h⟩
  · obtain ⟨P, hP1, hP, rfl⟩ := win1_t (N := 50) (by decide) hw
    have hl : (ds_tick (ss_drv x) + nI P ≤ 9999) ↔ t + P ≤ 9999 := by
      rw [ht, nI_add]
      exact nI_leI (b := 9999) (by omega) (by omega)
    by_cases q : t + P ≤ 9999
    · right
      obtain ⟨Q, T, e1, h1⟩ := save_ok (y := ms_refusal_s y 0) h
      obtain ⟨r, d', f, ec, er, r2, i2, t2⟩ := letPass_ok (y := ms_saved_s (ms_past_s (ms_refusal_s y 0) Q) T) (P := P) hd hI ht hP (by omega)
      have hk : DOK d' f := ⟨n, t + P, r2, i2, t2, q⟩
      have e54 : ∀ a b : MS, M_X7_pass_54s a (nI P) = M_X7_pass_54s b (nI P) := fun _ _ => rfl
      rw [e54 _ y] at er
      refine ⟨r, ss_drv_s (ss_his_s x (M_X4_save (ss_his x) (ss_drv x))) d', ms_now_s (ms_saved_s (ms_past_s (ms_refusal_s y 0) Q) T) f, ?_, ?_, rfl, h1.drv hk⟩
      · rw [if_pos (rfl : true = true), if_pos (hl.mpr q), if_neg (by rw [rfs_0]; decide)]
        simp only [tb]
        rw [show ss_drv (ss_his_s x (M_X4_save (ss_his x) (ss_drv x))) = ss_drv x from rfl, ec, ob_some]
      · rw [if_pos (rfl : true = true), ob_some, if_pos (hl.mpr q), ref_0]
        simp only [tb]
        refine Eq.trans (if_pos (show zI false = 0 from rfl)) ?_
        rw [e1, ob_some]
        exact er
    · left
      refine ⟨3, 2, 0, ms_refusal_s y 2, ?_, ?_, rfl, Or.inr ⟨rfl, rfl⟩, h⟩
      · rw [if_pos (rfl : true = true), if_neg (fun z => q (hl.mp z)), if_pos rfs_3]
      · rw [if_pos (rfl : true = true), ob_some, if_neg (fun z => q (hl.mp z)), ref_2]
        rfl
