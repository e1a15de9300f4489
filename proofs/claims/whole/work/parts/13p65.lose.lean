/-! PART 65: a mailbox is lost -/
theorem DRel.lose {d : DS} {f : Nat → Int32} {n c : Nat} (h : DRel d f n) (hc : c < 2) : DRel (dCtl_s d (nI c) (cs_mail_s (dCtl d (nI c)) 0)) (upd f (20 + 8 * c + 3) 0) n := by
  obtain ⟨g0, g1, g2, g3, g4, g5, g6, g7, g8, g9⟩ := h.2.2.2.2.2.2.2.2 c hc
  refine h.ctl hc (fun i h1 h2 => pk_un (by omega)) ⟨(pk_un (by omega)).trans g0, (pk_un (by omega)).trans g1, (pk_un (by omega)).trans g2, (pk_un (by omega)).trans g3, (pk_un (by omega)).trans g4, (pk_un (by omega)).trans g5, (pk_un (by omega)).trans g6, ?_, fun o ho hj => ?_, fun o _ _ => mb_0 o⟩
  · rw [show 23 + 8 * c = 20 + 8 * c + 3 by omega, pk_us]
    have e : fb_ct (mb (cs_mail (cs_mail_s (dCtl d (nI c)) 0))) n = 0 := fb_ct_zero.mpr fun k _ => mb_0 k
    rw [e]
    rfl
  · have e : mb (cs_mail (cs_mail_s (dCtl d (nI c)) 0)) o = false := mb_0 o
    rw [e] at hj; cases hj
theorem u_lose {x : SS} {y : MS} (h : SRel x y) (p : Int32) : AgU (fun c r => c = 1 ∧ r = 1) x (M_X6_lose x p) (M_X7_lose y p) := by
  obtain ⟨n, t, hd, hI, ht, ht9⟩ := h.1
  unfold M_X6_lose M_X7_lose M_X7_lose_13 M_X7_isController
  rw [fC, win_eq, zI_if]
  cases hc : M_X6_isWithin p 0 1
  · left
    exact ⟨1, 1, 0, ms_refusal_s y 1, rfl, rfl, rfl, ⟨rfl, rfl⟩, h⟩
  · right
    obtain ⟨c, hc2, rfl⟩ := win_t (N := 1) (by decide) hc
    obtain ⟨Q, T, e1, h1⟩ := save_ok (y := ms_refusal_s y 0) h
    have r1 := hd.lose (c := c) (by omega)
    have e0 : ((20 : Int32) + (8 : Int32) * nI c + (3 : Int32)) = nI (20 + 8 * c + 3) := ix_control c 3
    have a1 : ast 596 (ms_now (ms_saved_s (ms_past_s (ms_refusal_s y 0) Q) T)) (nI (20 + 8 * c + 3)) 0 = some (upd (ms_now y) (20 + 8 * c + 3) 0) := ast_nI (by omega) (by omega)
    have a2 : M_X7_control (ms_saved_s (ms_past_s (ms_refusal_s y 0) Q) T) (nI c) (3 : Int32) = some (nI (fb_ct (ml (ss_drv x) c) n)) := r_count (y := ms_saved_s (ms_past_s (ms_refusal_s y 0) Q) T) hd (by omega)
    have hk : DOK (dCtl_s (ss_drv x) (nI c) (cs_mail_s (dCtl (ss_drv x) (nI c)) 0)) (upd (ms_now y) (20 + 8 * c + 3) 0) := DOK.same (d := ss_drv x) hI ht ht9 ⟨rfl, rfl, rfl, rfl, rfl, rfl⟩ r1
    refine ⟨nI (fb_ct (ml (ss_drv x) c) n), ss_drv_s (ss_his_s x (M_X4_save (ss_his x) (ss_drv x))) (dCtl_s (ss_drv x) (nI c) (cs_mail_s (dCtl (ss_drv x) (nI c)) 0)), ms_now_s (ms_saved_s (ms_past_s (ms_refusal_s y 0) Q) T) (upd (ms_now y) (20 + 8 * c + 3) 0), ?_, ?_, rfl, h1.drv hk⟩
    · rw [if_pos (rfl : true = true), if_neg (by rw [rfs_0]; decide)]
      unfold M_X3_takeMailboxAway
      simp only [tb]
      rw [show ss_drv (ss_his_s x (M_X4_save (ss_his x) (ss_drv x))) = ss_drv x from rfl, mailSize_ok hd (by omega)]
    · rw [if_pos (rfl : true = true), ref_f]
      simp only [tb]
      refine Eq.trans (if_pos (show zI false = 0 from rfl)) ?_
      rw [e1, ob_some, a2, ob_some, e0, a1, ob_some]
