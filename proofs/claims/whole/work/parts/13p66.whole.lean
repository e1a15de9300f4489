/-! PART 66: the whole's facts -/
theorem ordI (k : Nat) : nI (k + 1) - (1 : Int32) = nI k := nI_pred k
theorem q_whole {x : SS} {y : MS} (h : SRel x y) (p : Int32) : AgQ (fun c r => c = 2 ∧ r = 1) x (M_X6_whole x p) (M_X7_whole y p) := by
  obtain ⟨n, t, hd, hI, ht, ht9⟩ := h.1
  obtain ⟨L, hL, hl1, hl2, -⟩ := h.2.2.1
  have hn := hd.le
  have d0 : DRel (ss_drv x) (ms_now (ms_refusal_s y 0)) n := hd
  unfold M_X6_whole M_X7_whole
  rw [fR, win_eq, zI_if]
  cases hw : M_X6_isWithin p 0 11
  · left
    exact ⟨2, 1, 0, ms_refusal_s y 1, rfl, rfl, rfl, ⟨rfl, rfl⟩, h⟩
  · right
    obtain ⟨k, hk, rfl⟩ := win_t (N := 11) (by decide) hw
    suffices g : ∃ v, M_X6_wholeFact x (nI k) = some v ∧ M_X7_whole_16 y (nI k) false y = some (v, ms_refusal_s y 0) by
      obtain ⟨v, e1, e2⟩ := g
      refine ⟨v, ms_refusal_s y 0, ?_, ?_, rfl, h⟩
      · rw [if_pos (rfl : true = true), if_neg (by rw [rfs_0]; decide), e1, ob_some]
      · rw [if_pos (rfl : true = true), e2]
    have co : ∀ s, M_X7_ordersIn (ms_refusal_s y 0) s = some (nI (fb_ct (fun o => decide (fc (ss_drv x) o 5 = s)) n)) := fun s => r_ordersIn d0 s
    have cc : ∀ s, M_X3_countIn (ss_drv x) s = some (nI (fb_ct (fun o => decide (fc (ss_drv x) o 5 = s)) n)) := fun s => c_countIn hd.ord hn s
    have head : ∀ (F : MS → Option (Int32 × MS)) , (tb (M_X7_refused y (zI false)) fun r1 => (if (zI r1.1) = 0 then F r1.2 else some ((0 : Int32), r1.2))) = F (ms_refusal_s y 0) := fun F => rfl
    have hs : (M_X7_refused y (zI false)).2 = ms_refusal_s y 0 := rfl
    unfold M_X6_wholeFact M_X6_wholeFact_24 M_X3_wholeFact M_X7_whole_16
    rcases (show k = 0 ∨ k = 1 ∨ k = 2 ∨ k = 3 ∨ k = 4 ∨ k = 5 ∨ k = 6 ∨ k = 7 ∨ k = 8 ∨ k = 9 ∨ k = 10 ∨ k = 11 by omega) with rfl | rfl | rfl | rfl | rfl | rfl | rfl | rfl | rfl | rfl | rfl | rfl
    · refine ⟨nI n, ?_, (head (fun z => _)).trans ?_⟩
      · rw [if_neg (by decide), if_pos (by decide)]
        rw [hd.ord]; rfl
      · rw [if_pos (by decide), hs]
        rw [d0.now1]; rfl
    · refine ⟨nI (fb_ct (fun o => decide (fc (ss_drv x) o 5 = 0)) n), ?_, (head (fun z => _)).trans ?_⟩
      · rw [if_neg (by decide), if_neg (by decide), if_pos (by decide)]
        rw [cc]; rfl
      · rw [if_neg (by decide), if_pos (by decide), hs]
        unfold M_X7_whole_156
        rw [show nI 1 - (1 : Int32) = 0 from rfl, co]; rfl
    · refine ⟨nI (fb_ct (fun o => decide (fc (ss_drv x) o 5 = 1)) n), ?_, (head (fun z => _)).trans ?_⟩
      · rw [if_neg (by decide), if_neg (by decide), if_neg (by decide), if_pos (by decide)]
        rw [cc]; rfl
      · rw [if_neg (by decide), if_neg (by decide), if_pos (by decide), hs]
        unfold M_X7_whole_156
        rw [show nI 2 - (1 : Int32) = 1 from rfl, co]; rfl
    · refine ⟨nI (fb_ct (fun o => decide (fc (ss_drv x) o 5 = 2)) n), ?_, (head (fun z => _)).trans ?_⟩
      · rw [if_neg (by decide), if_neg (by decide), if_neg (by decide), if_neg (by decide), if_pos (by decide)]
        rw [cc]; rfl
      · rw [if_neg (by decide), if_neg (by decide), if_neg (by decide), if_pos (by decide), hs]
        unfold M_X7_whole_156
        rw [show nI 3 - (1 : Int32) = 2 from rfl, co]; rfl
    · refine ⟨nI (fb_ct (fun o => decide (fc (ss_drv x) o 5 = 3)) n), ?_, (head (fun z => _)).trans ?_⟩
      · rw [if_neg (by decide), if_neg (by decide), if_neg (by decide), if_neg (by decide), if_neg (by decide), if_pos (by decide)]
        rw [cc]; rfl
      · rw [if_neg (by decide), if_neg (by decide), if_neg (by decide), if_neg (by decide), if_pos (by decide), hs]
        unfold M_X7_whole_156
        rw [show nI 4 - (1 : Int32) = 3 from rfl, co]; rfl
    · refine ⟨ds_tick (ss_drv x), ?_, (head (fun z => _)).trans ?_⟩
      · rw [if_neg (by decide), if_neg (by decide), if_neg (by decide), if_neg (by decide), if_neg (by decide), if_neg (by decide), if_pos (by decide)]
        rfl
      · rw [if_neg (by decide), if_neg (by decide), if_neg (by decide), if_neg (by decide), if_neg (by decide), if_pos (by decide), hs]
        rw [d0.now0]; rfl
    · refine ⟨ds_mo (ss_drv x), ?_, (head (fun z => _)).trans ?_⟩
      · rw [if_neg (by decide), if_neg (by decide), if_neg (by decide), if_neg (by decide), if_neg (by decide), if_neg (by decide), if_neg (by decide), if_pos (by decide)]
        rfl
      · rw [if_neg (by decide), if_neg (by decide), if_neg (by decide), if_neg (by decide), if_neg (by decide), if_neg (by decide), if_pos (by decide), hs]
        rw [d0.now2]; rfl
    · refine ⟨ds_mv (ss_drv x), ?_, (head (fun z => _)).trans ?_⟩
      · rw [if_neg (by decide), if_neg (by decide), if_neg (by decide), if_neg (by decide), if_neg (by decide), if_neg (by decide), if_neg (by decide), if_neg (by decide), if_pos (by decide)]
        rfl
      · rw [if_neg (by decide), if_neg (by decide), if_neg (by decide), if_neg (by decide), if_neg (by decide), if_neg (by decide), if_neg (by decide), if_pos (by decide), hs]
        rw [d0.now3]; rfl
    · refine ⟨cs_qua (ds_zero (ss_drv x)) + cs_qua (ds_one (ss_drv x)), ?_, (head (fun z => _)).trans ?_⟩
      · rw [if_neg (by decide), if_neg (by decide), if_neg (by decide), if_neg (by decide), if_neg (by decide), if_neg (by decide), if_neg (by decide), if_neg (by decide), if_neg (by decide), if_pos (by decide)]
        rfl
      · rw [if_neg (by decide), if_neg (by decide), if_neg (by decide), if_neg (by decide), if_neg (by decide), if_neg (by decide), if_neg (by decide), if_neg (by decide), if_pos (by decide), hs]
        have a0 : M_X7_control (ms_refusal_s y 0) (0 : Int32) (6 : Int32) = some (cs_qua (ds_zero (ss_drv x))) := (r_control (ms_refusal_s y 0) (c := 0) (w := 6) (by decide) (by decide)).trans (congrArg some (d0.g_qua (c := 0) (by decide)))
        have a1 : M_X7_control (ms_refusal_s y 0) (1 : Int32) (6 : Int32) = some (cs_qua (ds_one (ss_drv x))) := (r_control (ms_refusal_s y 0) (c := 1) (w := 6) (by decide) (by decide)).trans (congrArg some (d0.g_qua (c := 1) (by decide)))
        rw [a0, a1]; rfl
    · refine ⟨zI (cs_aw (ds_zero (ss_drv x))) + zI (cs_aw (ds_one (ss_drv x))), ?_, (head (fun z => _)).trans ?_⟩
      · rw [if_neg (by decide), if_neg (by decide), if_neg (by decide), if_neg (by decide), if_neg (by decide), if_neg (by decide), if_neg (by decide), if_neg (by decide), if_neg (by decide), if_neg (by decide), if_pos (by decide)]
        unfold M_X3_wholeFact_131 M_X3_wholeFact_146
        rw [zI_if]
        cases cs_aw (ds_zero (ss_drv x)) <;> cases cs_aw (ds_one (ss_drv x)) <;> rfl
      · rw [if_neg (by decide), if_neg (by decide), if_neg (by decide), if_neg (by decide), if_neg (by decide), if_neg (by decide), if_neg (by decide), if_neg (by decide), if_neg (by decide), if_pos (by decide), hs]
        have a0 : M_X7_control (ms_refusal_s y 0) (0 : Int32) (0 : Int32) = some (zI (cs_aw (ds_zero (ss_drv x)))) := (r_control (ms_refusal_s y 0) (c := 0) (w := 0) (by decide) (by decide)).trans (congrArg some (d0.g_aw (c := 0) (by decide)))
        have a1 : M_X7_control (ms_refusal_s y 0) (1 : Int32) (0 : Int32) = some (zI (cs_aw (ds_one (ss_drv x)))) := (r_control (ms_refusal_s y 0) (c := 1) (w := 0) (by decide) (by decide)).trans (congrArg some (d0.g_aw (c := 1) (by decide)))
        rw [a0, a1]; rfl
    · obtain ⟨S, s1, s2⟩ : ∃ S, M_X3_sumOfValues (ss_drv x) = some S ∧ M_X7_sum (ms_refusal_s y 0) = some S := ⟨_, c_sum _, r_sum d0⟩
      refine ⟨S, ?_, ?_⟩
      · rw [if_neg (by decide), if_neg (by decide), if_neg (by decide), if_neg (by decide), if_neg (by decide), if_neg (by decide), if_neg (by decide), if_neg (by decide), if_neg (by decide), if_neg (by decide), if_neg (by decide)]
        rw [s1]; rfl
      · simp only [tb]
        refine Eq.trans (if_pos (show zI (M_X7_refused y (zI false)).1 = 0 from rfl)) ?_
        rw [if_neg (by decide), if_neg (by decide), if_neg (by decide), if_neg (by decide), if_neg (by decide), if_neg (by decide), if_neg (by decide), if_neg (by decide), if_neg (by decide), if_neg (by decide), if_pos (by decide), hs]
        rw [s2]; rfl
    · refine ⟨nI L, ?_, (head (fun z => _)).trans ?_⟩
      · rw [if_pos (by decide)]
        rw [hl1]
      · rw [if_neg (by decide), if_neg (by decide), if_neg (by decide), if_neg (by decide), if_neg (by decide), if_neg (by decide), if_neg (by decide), if_neg (by decide), if_neg (by decide), if_neg (by decide), if_neg (by decide), if_pos (by decide), hs]
        rw [show ms_length (ms_refusal_s y 0) = nI L from hl2]
