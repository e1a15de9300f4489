/-! PART 54: what the steps of the work do, on both sides -/
theorem now_ss (y : MS) (f g : Nat → Int32) : ms_now_s (ms_now_s y f) g = ms_now_s y g := rfl
theorem ms_now_get (y : MS) (f : Nat → Int32) : ms_now (ms_now_s y f) = f := rfl
theorem DRel.ord {d : DS} {f : Nat → Int32} {n : Nat} (h : DRel d f n) : ds_ord d = nI n := h.2.2.1
theorem DRel.le {d : DS} {f : Nat → Int32} {n : Nat} (h : DRel d f n) : n ≤ 40 := h.2.2.2.1
theorem x6_at {N b : Nat} {f : Nat → Int32} (hb : b < N) (hN : N < 2 ^ 31) : M_X6_at N f (nI b) = f b := by
  unfold M_X6_at
  rw [if_neg (nI_pos (by omega)), if_neg (show ¬ Int32.ofNat N ≤ nI b from nI_ge hb hN), nI_clamp (by omega)]
  rfl
theorem x6_put {N b : Nat} {f : Nat → Int32} {v : Int32} (hb : b < N) (hN : N < 2 ^ 31) : M_X6_put N f (nI b) v = upd f b v := by
  unfold M_X6_put
  rw [if_neg (nI_pos (by omega)), if_neg (show ¬ Int32.ofNat N ≤ nI b from nI_ge hb hN), nI_clamp (by omega)]
  rfl
theorem r_more (y : MS) {c w : Nat} (hc : c < 2) (hw : w < 8) : M_X7_more y (nI c) (nI w) = some (ms_now_s y (upd (ms_now y) (20 + 8 * c + w) (ms_now y (20 + 8 * c + w) + 1))) := by
  unfold M_X7_more
  rw [ix_control, ald_nI (by omega) (by omega), ob_some, ast_nI (by omega) (by omega), ob_some]
theorem DRel.c_aw {d : DS} {f : Nat → Int32} {n c : Nat} {v : Bool} (h : DRel d f n) (hc : c < 2) : DRel (dCtl_s d (nI c) (cs_aw_s (dCtl d (nI c)) v)) (upd f (20 + 8 * c + 0) (zI v)) n := by
  obtain ⟨g0, g1, g2, g3, g4, g5, g6, g7, g8, g9⟩ := h.2.2.2.2.2.2.2.2 c hc
  have hn := h.le
  exact h.ctl hc (fun i h1 h2 => pk_un (by omega)) ⟨by rw [show 20 + 8 * c = 20 + 8 * c + 0 by omega]; exact pk_us, (pk_un (by omega)).trans g1, (pk_un (by omega)).trans g2, (pk_un (by omega)).trans g3, (pk_un (by omega)).trans g4, (pk_un (by omega)).trans g5, (pk_un (by omega)).trans g6, (pk_un (by omega)).trans g7, fun o ho hj => by
    have := ct_lt (p := mb (cs_mail (dCtl d (nI c)))) ho
    exact (pk_un (by omega)).trans (g8 o ho hj), g9⟩
theorem DRel.g_aw {d : DS} {f : Nat → Int32} {n c : Nat} (h : DRel d f n) (hc : c < 2) : f (20 + 8 * c + 0) = zI (cs_aw (dCtl d (nI c))) := by
  have := (h.2.2.2.2.2.2.2.2 c hc).1
  exact (congrArg f (by omega)).trans this
theorem DRel.c_delay {d : DS} {f : Nat → Int32} {n c : Nat} {v : Int32} (h : DRel d f n) (hc : c < 2) : DRel (dCtl_s d (nI c) (cs_delay_s (dCtl d (nI c)) v)) (upd f (20 + 8 * c + 1) v) n := by
  obtain ⟨g0, g1, g2, g3, g4, g5, g6, g7, g8, g9⟩ := h.2.2.2.2.2.2.2.2 c hc
  have hn := h.le
  exact h.ctl hc (fun i h1 h2 => pk_un (by omega)) ⟨(pk_un (by omega)).trans g0, by rw [show 21 + 8 * c = 20 + 8 * c + 1 by omega]; exact pk_us, (pk_un (by omega)).trans g2, (pk_un (by omega)).trans g3, (pk_un (by omega)).trans g4, (pk_un (by omega)).trans g5, (pk_un (by omega)).trans g6, (pk_un (by omega)).trans g7, fun o ho hj => by
    have := ct_lt (p := mb (cs_mail (dCtl d (nI c)))) ho
    exact (pk_un (by omega)).trans (g8 o ho hj), g9⟩
theorem DRel.g_delay {d : DS} {f : Nat → Int32} {n c : Nat} (h : DRel d f n) (hc : c < 2) : f (20 + 8 * c + 1) = cs_delay (dCtl d (nI c)) := by
  have := (h.2.2.2.2.2.2.2.2 c hc).2.1
  exact (congrArg f (by omega)).trans this
theorem DRel.c_alarm {d : DS} {f : Nat → Int32} {n c : Nat} {v : Int32} (h : DRel d f n) (hc : c < 2) : DRel (dCtl_s d (nI c) (cs_alarm_s (dCtl d (nI c)) v)) (upd f (20 + 8 * c + 2) v) n := by
  obtain ⟨g0, g1, g2, g3, g4, g5, g6, g7, g8, g9⟩ := h.2.2.2.2.2.2.2.2 c hc
  have hn := h.le
  exact h.ctl hc (fun i h1 h2 => pk_un (by omega)) ⟨(pk_un (by omega)).trans g0, (pk_un (by omega)).trans g1, by rw [show 22 + 8 * c = 20 + 8 * c + 2 by omega]; exact pk_us, (pk_un (by omega)).trans g3, (pk_un (by omega)).trans g4, (pk_un (by omega)).trans g5, (pk_un (by omega)).trans g6, (pk_un (by omega)).trans g7, fun o ho hj => by
    have := ct_lt (p := mb (cs_mail (dCtl d (nI c)))) ho
    exact (pk_un (by omega)).trans (g8 o ho hj), g9⟩
theorem DRel.g_alarm {d : DS} {f : Nat → Int32} {n c : Nat} (h : DRel d f n) (hc : c < 2) : f (20 + 8 * c + 2) = cs_alarm (dCtl d (nI c)) := by
  have := (h.2.2.2.2.2.2.2.2 c hc).2.2.1
  exact (congrArg f (by omega)).trans this
theorem DRel.c_done {d : DS} {f : Nat → Int32} {n c : Nat} {v : Int32} (h : DRel d f n) (hc : c < 2) : DRel (dCtl_s d (nI c) (cs_done_s (dCtl d (nI c)) v)) (upd f (20 + 8 * c + 4) v) n := by
  obtain ⟨g0, g1, g2, g3, g4, g5, g6, g7, g8, g9⟩ := h.2.2.2.2.2.2.2.2 c hc
  have hn := h.le
  exact h.ctl hc (fun i h1 h2 => pk_un (by omega)) ⟨(pk_un (by omega)).trans g0, (pk_un (by omega)).trans g1, (pk_un (by omega)).trans g2, by rw [show 24 + 8 * c = 20 + 8 * c + 4 by omega]; exact pk_us, (pk_un (by omega)).trans g4, (pk_un (by omega)).trans g5, (pk_un (by omega)).trans g6, (pk_un (by omega)).trans g7, fun o ho hj => by
    have := ct_lt (p := mb (cs_mail (dCtl d (nI c)))) ho
    exact (pk_un (by omega)).trans (g8 o ho hj), g9⟩
theorem DRel.g_done {d : DS} {f : Nat → Int32} {n c : Nat} (h : DRel d f n) (hc : c < 2) : f (20 + 8 * c + 4) = cs_done (dCtl d (nI c)) := by
  have := (h.2.2.2.2.2.2.2.2 c hc).2.2.2.1
  exact (congrArg f (by omega)).trans this
theorem DRel.c_fin {d : DS} {f : Nat → Int32} {n c : Nat} {v : Int32} (h : DRel d f n) (hc : c < 2) : DRel (dCtl_s d (nI c) (cs_fin_s (dCtl d (nI c)) v)) (upd f (20 + 8 * c + 5) v) n := by
  obtain ⟨g0, g1, g2, g3, g4, g5, g6, g7, g8, g9⟩ := h.2.2.2.2.2.2.2.2 c hc
  have hn := h.le
  exact h.ctl hc (fun i h1 h2 => pk_un (by omega)) ⟨(pk_un (by omega)).trans g0, (pk_un (by omega)).trans g1, (pk_un (by omega)).trans g2, (pk_un (by omega)).trans g3, by rw [show 25 + 8 * c = 20 + 8 * c + 5 by omega]; exact pk_us, (pk_un (by omega)).trans g5, (pk_un (by omega)).trans g6, (pk_un (by omega)).trans g7, fun o ho hj => by
    have := ct_lt (p := mb (cs_mail (dCtl d (nI c)))) ho
    exact (pk_un (by omega)).trans (g8 o ho hj), g9⟩
theorem DRel.g_fin {d : DS} {f : Nat → Int32} {n c : Nat} (h : DRel d f n) (hc : c < 2) : f (20 + 8 * c + 5) = cs_fin (dCtl d (nI c)) := by
  have := (h.2.2.2.2.2.2.2.2 c hc).2.2.2.2.1
  exact (congrArg f (by omega)).trans this
theorem DRel.c_qua {d : DS} {f : Nat → Int32} {n c : Nat} {v : Int32} (h : DRel d f n) (hc : c < 2) : DRel (dCtl_s d (nI c) (cs_qua_s (dCtl d (nI c)) v)) (upd f (20 + 8 * c + 6) v) n := by
  obtain ⟨g0, g1, g2, g3, g4, g5, g6, g7, g8, g9⟩ := h.2.2.2.2.2.2.2.2 c hc
  have hn := h.le
  exact h.ctl hc (fun i h1 h2 => pk_un (by omega)) ⟨(pk_un (by omega)).trans g0, (pk_un (by omega)).trans g1, (pk_un (by omega)).trans g2, (pk_un (by omega)).trans g3, (pk_un (by omega)).trans g4, by rw [show 26 + 8 * c = 20 + 8 * c + 6 by omega]; exact pk_us, (pk_un (by omega)).trans g6, (pk_un (by omega)).trans g7, fun o ho hj => by
    have := ct_lt (p := mb (cs_mail (dCtl d (nI c)))) ho
    exact (pk_un (by omega)).trans (g8 o ho hj), g9⟩
theorem DRel.g_qua {d : DS} {f : Nat → Int32} {n c : Nat} (h : DRel d f n) (hc : c < 2) : f (20 + 8 * c + 6) = cs_qua (dCtl d (nI c)) := by
  have := (h.2.2.2.2.2.2.2.2 c hc).2.2.2.2.2.1
  exact (congrArg f (by omega)).trans this
theorem DRel.c_fell {d : DS} {f : Nat → Int32} {n c : Nat} {v : Int32} (h : DRel d f n) (hc : c < 2) : DRel (dCtl_s d (nI c) (cs_fell_s (dCtl d (nI c)) v)) (upd f (20 + 8 * c + 7) v) n := by
  obtain ⟨g0, g1, g2, g3, g4, g5, g6, g7, g8, g9⟩ := h.2.2.2.2.2.2.2.2 c hc
  have hn := h.le
  exact h.ctl hc (fun i h1 h2 => pk_un (by omega)) ⟨(pk_un (by omega)).trans g0, (pk_un (by omega)).trans g1, (pk_un (by omega)).trans g2, (pk_un (by omega)).trans g3, (pk_un (by omega)).trans g4, (pk_un (by omega)).trans g5, by rw [show 27 + 8 * c = 20 + 8 * c + 7 by omega]; exact pk_us, (pk_un (by omega)).trans g7, fun o ho hj => by
    have := ct_lt (p := mb (cs_mail (dCtl d (nI c)))) ho
    exact (pk_un (by omega)).trans (g8 o ho hj), g9⟩
theorem DRel.g_fell {d : DS} {f : Nat → Int32} {n c : Nat} (h : DRel d f n) (hc : c < 2) : f (20 + 8 * c + 7) = cs_fell (dCtl d (nI c)) := by
  have := (h.2.2.2.2.2.2.2.2 c hc).2.2.2.2.2.2.1
  exact (congrArg f (by omega)).trans this
/-- a mailbox's list after the item at place k has left it -/
def lv (f : Nat → Int32) (c k L j : Nat) : Nat → Int32 := fun i => if i = 23 + 8 * c then nI (L - 1) else if 36 + 40 * c + k ≤ i ∧ i < 36 + 40 * c + k + j then f (i + 1) else f i
theorem r_leaves {y : MS} {c k L : Nat} (hc : c < 2) (hcount : ms_now y (23 + 8 * c) = nI L) (hk : k < L) (hL : L ≤ 40) : M_X7_leaves y (nI c) (nI k) = some (ms_now_s y (lv (ms_now y) c k L (L - 1 - k))) := by
  unfold M_X7_leaves
  have e0 : ((20 : Int32) + (8 : Int32) * nI c + (3 : Int32)) = nI (20 + 8 * c + 3) := ix_control c 3
  rw [e0, ald_nI (by omega) (by omega), ob_some, ast_nI (by omega) (by omega), ob_some]
  rw [show 20 + 8 * c + 3 = 23 + 8 * c by omega, hcount]
  have e1 : nI L - (1 : Int32) = nI (L - 1) := by
    obtain ⟨q, rfl⟩ : ∃ q, L = q + 1 := ⟨L - 1, by omega⟩
    exact nI_pred q
  rw [e1]
  simp only [tb]
  have es : ((nI k, ms_now_s y (upd (ms_now y) (23 + 8 * c) (nI (L - 1)))) : Int32 × MS) = (fun j => (nI (k + j), ms_now_s y (lv (ms_now y) c k L j))) 0 := by
    have : upd (ms_now y) (23 + 8 * c) (nI (L - 1)) = lv (ms_now y) c k L 0 := by
      funext i
      unfold upd lv
      by_cases q : i = 23 + 8 * c
      · rw [if_pos q, if_pos q]
      · rw [if_neg q, if_neg q, if_neg (by omega)]
    simp only [this, Nat.add_zero]
  rw [es]
  refine lp_run (fun j => (nI (k + j), ms_now_s y (lv (ms_now y) c k L j))) (L - 1 - k) ?_ ?_ 64 (by omega)
  · intro j hj kk
    unfold M_X7_leaves_20s
    have e2 : M_X7_control (ms_now_s y (lv (ms_now y) c k L j)) (nI c) (3 : Int32) = some (nI (L - 1)) := by
      have := r_control (ms_now_s y (lv (ms_now y) c k L j)) (c := c) (w := 3) hc (by decide)
      rw [ms_now_get] at this
      refine this.trans (congrArg some ?_)
      unfold lv
      rw [if_pos (by omega)]
    simp only [e2, ob_some]
    rw [if_neg (nI_ge (by omega) (by omega))]
    rw [show ((36 : Int32) + (40 : Int32) * nI c + nI (k + j) + (1 : Int32)) = nI (36 + 40 * c + (k + j) + 1) by rw [ix_mail, nI_1], ix_mail, ms_now_get]
    rw [ald_nI (by omega) (by omega), ob_some, ast_nI (by omega) (by omega), ob_some]
    simp only [tb]
    have e3 : upd (lv (ms_now y) c k L j) (36 + 40 * c + (k + j)) (lv (ms_now y) c k L j (36 + 40 * c + (k + j) + 1)) = lv (ms_now y) c k L (j + 1) := by
      funext i
      unfold upd
      by_cases q : i = 36 + 40 * c + (k + j)
      · rw [if_pos q]
        unfold lv
        rw [if_neg (by omega), if_neg (by omega), if_neg (by omega), if_pos (by omega), q]
      · rw [if_neg q]
        unfold lv
        by_cases q2 : i = 23 + 8 * c
        · rw [if_pos q2, if_pos q2]
        · rw [if_neg q2, if_neg q2]
          by_cases q3 : 36 + 40 * c + k ≤ i ∧ i < 36 + 40 * c + k + j
          · rw [if_pos q3, if_pos (by omega)]
          · rw [if_neg q3, if_neg (by omega)]
    rw [e3, now_ss, nI_1, Nat.add_assoc]
  · intro kk
    unfold M_X7_leaves_20s
    have e2 : M_X7_control (ms_now_s y (lv (ms_now y) c k L (L - 1 - k))) (nI c) (3 : Int32) = some (nI (L - 1)) := by
      have := r_control (ms_now_s y (lv (ms_now y) c k L (L - 1 - k))) (c := c) (w := 3) hc (by decide)
      rw [ms_now_get] at this
      refine this.trans (congrArg some ?_)
      unfold lv
      rw [if_pos (by omega)]
    simp only [e2, ob_some]
    rw [if_pos (nI_le (by omega) (by omega))]
/-- counting without one place -/
theorem ct_drop {p : Nat → Bool} {o : Nat} (ho : p o = true) (j : Nat) : fb_ct (fun i => p i && !decide (i = o)) j = if o < j then fb_ct p j - 1 else fb_ct p j := by
  have e : fb_ct (fun i => p i && !decide (i = o)) j = fb_ct (fun i => if i = o then false else p i) j := fb_ct_cong fun i _ => by
    by_cases q : i = o <;> simp [q]
  rw [e]
  by_cases q : o < j
  · have h1 := fb_ct_upd p false q
    rw [ho] at h1
    simp only [if_true, Bool.false_eq_true, if_false, Nat.add_zero] at h1
    rw [if_pos q]
    omega
  · rw [if_neg q, fb_ct_out p false (by omega)]
theorem DRel.drop {d : DS} {f : Nat → Int32} {n c o : Nat} (h : DRel d f n) (hc : c < 2) (ho : o < n) (hm : ml d c o = true) : DRel (dCtl_s d (nI c) (M_X2_drop (dCtl d (nI c)) (nI o))) (lv f c (fb_ct (ml d c) o) (fb_ct (ml d c) n) (fb_ct (ml d c) n - 1 - fb_ct (ml d c) o)) n := by
  obtain ⟨g0, g1, g2, g3, g4, g5, g6, g7, g8, g9⟩ := h.2.2.2.2.2.2.2.2 c hc
  have hn := h.le
  have hin := ct_in (p := ml d c) ho hm
  have hle := fb_ct_le (ml d c) n
  have out : ∀ i, i ≠ 23 + 8 * c → ¬ (36 + 40 * c ≤ i ∧ i < 76 + 40 * c) → lv f c (fb_ct (ml d c) o) (fb_ct (ml d c) n) (fb_ct (ml d c) n - 1 - fb_ct (ml d c) o) i = f i := by
    intro i h1 h2
    unfold lv
    rw [if_neg h1, if_neg (by omega)]
  have hb : ∀ j, j < 64 → mb (cs_mail (M_X2_drop (dCtl d (nI c)) (nI o))) j = (ml d c j && !decide (j = o)) := fun j hj => mb_drop _ (by omega) hj
  have hct : ∀ j, j ≤ 64 → fb_ct (mb (cs_mail (M_X2_drop (dCtl d (nI c)) (nI o)))) j = if o < j then fb_ct (ml d c) j - 1 else fb_ct (ml d c) j := fun j hj => by
    rw [← ct_drop hm j]
    exact fb_ct_cong fun i hi => hb i (by omega)
  refine h.ctl hc (fun i h1 h2 => out i (by omega) h2) ⟨(out _ (by omega) (by omega)).trans g0, (out _ (by omega) (by omega)).trans g1, (out _ (by omega) (by omega)).trans g2, (out _ (by omega) (by omega)).trans g3, (out _ (by omega) (by omega)).trans g4, (out _ (by omega) (by omega)).trans g5, (out _ (by omega) (by omega)).trans g6, ?_, fun j hj hmj => ?_, fun j hj hj2 => ?_⟩
  · rw [hct n (by omega), if_pos ho]
    unfold lv
    rw [if_pos rfl]
  · rw [hb j (by omega)] at hmj
    have hmj1 : ml d c j = true := by revert hmj; cases ml d c j <;> simp
    have hne : ¬ j = o := by revert hmj; rw [hmj1]; simp
    have hjn := ct_in (p := ml d c) hj hmj1
    have hg : f (36 + 40 * c + fb_ct (ml d c) j) = nI j := g8 j hj hmj1
    rw [hct j (by omega)]
    by_cases q : o < j
    · have hoj := ct_in (p := ml d c) q hm
      rw [if_pos q]
      unfold lv
      rw [if_neg (by omega), if_pos (by omega), ← hg]
      congr 1
      omega
    · have hjo := ct_in (p := ml d c) (show j < o by omega) hmj1
      rw [if_neg q]
      unfold lv
      rw [if_neg (by omega), if_neg (by omega), hg]
  · rw [hb j hj2]
    have : ml d c j = false := g9 j hj hj2
    rw [this]; rfl
/-- both sides take one item out of a mailbox -/
theorem leave_ok {y : MS} {d : DS} {n c o : Nat} (h : DRel d (ms_now y) n) (hc : c < 2) (ho : o < n) (hm : ml d c o = true) : ∃ f, M_X7_leaves y (nI c) (nI (fb_ct (ml d c) o)) = some (ms_now_s y f) ∧ DRel (dCtl_s d (nI c) (M_X2_drop (dCtl d (nI c)) (nI o))) f n := by
  have hn := h.le
  have hin := ct_in (p := ml d c) ho hm
  have hle := fb_ct_le (ml d c) n
  exact ⟨_, r_leaves hc (h.2.2.2.2.2.2.2.2 c hc).2.2.2.2.2.2.2.1 hin (Nat.le_trans hle hn), h.drop hc ho hm⟩
/-! taking, writing, ending -/
theorem begin_eq {d : DS} {o b : Nat} (ho : o < 40) (hb : b < 16) (e : fc d o 3 = nI b) : M_X3_begin d (nI o) = dF (ds_mv_s (ds_mo_s d (nI o)) (ds_val d b)) o 5 1 := by
  have e3 : M_X3_fact (ds_mo_s d (nI o)) (nI o) (3 : Int32) = fc d o 3 := c_fact _ (w := 3) ho (by decide)
  unfold M_X3_begin
  simp only [tb]
  rw [e3, e]
  have e4 : M_X6_at 16 (ds_val (ds_mo_s d (nI o))) (nI b) = ds_val d b := x6_at hb (by omega)
  rw [e4]
  exact c_setFact _ (w := 5) ho (by decide) 1
theorem begin_ok {y : MS} {d : DS} {n o b : Nat} (h : DRel d (ms_now y) n) (ho : o < 40) (hb : b < 16) (e : fc d o 3 = nI b) : ∃ f, M_X7_begins y (nI o) = some (ms_now_s y f) ∧ DRel (M_X3_begin d (nI o)) f n := by
  rw [begin_eq ho hb e]
  unfold M_X7_begins
  have h1 : DRel (ds_mo_s d (nI o)) (ms_now (ms_now_s y (upd (ms_now y) 2 (nI o)))) n := h.mo
  have a1 : ast 596 (ms_now y) (2 : Int32) (nI o) = some (upd (ms_now y) 2 (nI o)) := ast_nI (k := 2) (by omega) (by omega)
  have a2 : M_X7_of (ms_now_s y (upd (ms_now y) 2 (nI o))) (nI o) (3 : Int32) = some (nI b) := by
    rw [← e, show fc d o 3 = fc (ds_mo_s d (nI o)) o 3 from rfl]; exact r_of' (d := ds_mo_s d (nI o)) (w := 3) h1 ho (by decide)
  have a3 : ald 596 (ms_now (ms_now_s y (upd (ms_now y) 2 (nI o)))) ((4 : Int32) + nI b) = some (ds_val d b) := by
    rw [show (4 : Int32) + nI b = nI (4 + b) from nI_add 4 b, ald_nI (by omega) (by omega), h1.2.2.2.2.2.2.1 b hb]
    rfl
  have a4 : ∀ g v, ast 596 g (3 : Int32) v = some (upd g 3 v) := fun g v => ast_nI (k := 3) (by omega) (by omega)
  simp only [a1, ob_some, tb, a2, a3, a4]
  have a5 := r_put (ms_now_s (ms_now_s y (upd (ms_now y) 2 (nI o))) (upd (ms_now (ms_now_s y (upd (ms_now y) 2 (nI o)))) 3 (ds_val d b))) (o := o) (w := 5) (v := 1) ho (by decide)
  refine ⟨_, by rw [show M_X7_put _ (nI o) (5 : Int32) (1 : Int32) = _ from a5]; rfl, ?_⟩
  exact DRel.dF (h1.mv) ho (by decide)
theorem writes_ok {y : MS} {d : DS} {n o : Nat} (h : DRel d (ms_now y) n) (hI : OInv d o) (ho : o < 40) (h5 : fc d o 5 = 1) : ∃ f, M_X7_writes y (nI o) = some (ms_now_s y f) ∧ DRel (ds_val_s d (M_X6_put 16 (ds_val d) (M_X3_fact d (nI o) (3 : Int32)) (M_X3_resultOn_v d (nI o)))) f n := by
  obtain ⟨⟨k, hk, ek⟩, ⟨b, hb, eb⟩, hc2, -⟩ := hI
  have e2 : M_X3_fact d (nI o) (2 : Int32) = nI k := by rw [← ek]; exact c_fact d (w := 2) ho (by decide)
  have e3 : M_X3_fact d (nI o) (3 : Int32) = nI b := by rw [← eb]; exact c_fact d (w := 3) ho (by decide)
  have e4 : M_X3_fact d (nI o) (4 : Int32) = fc d o 4 := c_fact d (w := 4) ho (by decide)
  have e5 : M_X3_fact d (nI o) (5 : Int32) = 1 := by rw [← h5]; exact c_fact d (w := 5) ho (by decide)
  have q2 : M_X7_of y (nI o) (2 : Int32) = some (nI k) := by rw [← ek]; exact r_of' (w := 2) h ho (by decide)
  have q3 : M_X7_of y (nI o) (3 : Int32) = some (nI b) := by rw [← eb]; exact r_of' (w := 3) h ho (by decide)
  have q4 : M_X7_of y (nI o) (4 : Int32) = some (fc d o 4) := r_of' (w := 4) h ho (by decide)
  have a4 : ∀ v, ast 596 (ms_now y) ((4 : Int32) + nI b) v = some (upd (ms_now y) (4 + b) v) := fun v => by
    rw [show (4 : Int32) + nI b = nI (4 + b) from nI_add 4 b]; exact ast_nI (by omega) (by omega)
  have a5 : ∀ b, b < 16 → ald 596 (ms_now y) ((4 : Int32) + nI b) = some (ds_val d b) := fun b hb => by
    rw [show (4 : Int32) + nI b = nI (4 + b) from nI_add 4 b, ald_nI (by omega) (by omega), h.2.2.2.2.2.2.1 b hb]
  unfold M_X7_writes M_X3_resultOn_v
  simp only [e2, e3, e4, e5, q2, q3, q4, ob_some, M_X7_writes_99, x6_put hb (show 16 < 2 ^ 31 by decide), M_X3_resultOn_v_73, if_true]
  rcases (show k = 0 ∨ k = 1 ∨ k = 2 ∨ k = 3 by omega) with rfl | rfl | rfl | rfl
  · simp only [show (nI 0 = (0 : Int32)) = True from eq_true rfl, if_true, a4, ob_some, tb]
    exact ⟨_, rfl, h.val hb⟩
  · simp only [show (nI 1 = (0 : Int32)) = False from eq_false (by decide), show (nI 1 = (1 : Int32)) = True from eq_true rfl, if_true, if_false, h.now3, a4, ob_some, tb]
    exact ⟨_, rfl, h.val hb⟩
  · obtain ⟨b2, hb2, eb2⟩ := hc2 ek
    simp only [show (nI 2 = (0 : Int32)) = False from eq_false (by decide), show (nI 2 = (1 : Int32)) = False from eq_false (by decide), show (nI 2 = (2 : Int32)) = True from eq_true rfl, if_true, if_false, eb2, a5 b2 hb2, a4, ob_some, tb, x6_at hb2 (show 16 < 2 ^ 31 by decide)]
    exact ⟨_, rfl, h.val hb⟩
  · simp only [show (nI 3 = (0 : Int32)) = False from eq_false (by decide), show (nI 3 = (1 : Int32)) = False from eq_false (by decide), show (nI 3 = (2 : Int32)) = False from eq_false (by decide), if_false, x6_at hb (show 16 < 2 ^ 31 by decide), upd_same]
    exact ⟨ms_now y, rfl, h⟩
theorem complete_eq (d : DS) {c o : Nat} (hc : c < 2) (ho : o < 40) : M_X3_complete d (nI c) (nI o) = dCtl_s (dF (dF (dF d o 5 2) o 6 (nI c)) o 8 (ds_tick d)) (nI c) (cs_done_s (dCtl d (nI c)) (cs_done (dCtl d (nI c)) + 1)) := by
  have a1 : ∀ (d : DS) v, M_X3_setFact d (nI o) (5 : Int32) v = dF d o 5 v := fun d v => c_setFact d (w := 5) ho (by decide) v
  have a2 : ∀ (d : DS) v, M_X3_setFact d (nI o) (6 : Int32) v = dF d o 6 v := fun d v => c_setFact d (w := 6) ho (by decide) v
  have a3 : ∀ (d : DS) v, M_X3_setFact d (nI o) (8 : Int32) v = dF d o 8 v := fun d v => c_setFact d (w := 8) ho (by decide) v
  unfold M_X3_complete
  simp only [tb, a1, a2, a3]
  rfl
theorem ends_ok {y : MS} {d : DS} {n c o : Nat} (h : DRel d (ms_now y) n) (hc : c < 2) (ho : o < 40) : ∃ f, M_X7_ends y (nI o) (nI c) = some (ms_now_s y f) ∧ DRel (M_X3_complete d (nI c) (nI o)) f n := by
  rw [complete_eq d hc ho]
  unfold M_X7_ends
  have a1 : ∀ (y : MS) v, M_X7_put y (nI o) (5 : Int32) v = some (ms_now_s y (upd (ms_now y) (116 + 12 * o + 5) v)) := fun y v => r_put y (w := 5) ho (by decide)
  have a2 : ∀ (y : MS) v, M_X7_put y (nI o) (6 : Int32) v = some (ms_now_s y (upd (ms_now y) (116 + 12 * o + 6) v)) := fun y v => r_put y (w := 6) ho (by decide)
  have a3 : ∀ (y : MS) v, M_X7_put y (nI o) (8 : Int32) v = some (ms_now_s y (upd (ms_now y) (116 + 12 * o + 8) v)) := fun y v => r_put y (w := 8) ho (by decide)
  have a4 : ∀ (y : MS), M_X7_more y (nI c) (4 : Int32) = some (ms_now_s y (upd (ms_now y) (20 + 8 * c + 4) (ms_now y (20 + 8 * c + 4) + 1))) := fun y => r_more y (w := 4) hc (by decide)
  have h1 : DRel (dF d o 5 2) (upd (ms_now y) (116 + 12 * o + 5) 2) n := h.dF ho (by decide)
  have h2 : DRel (dF (dF d o 5 2) o 6 (nI c)) (upd (upd (ms_now y) (116 + 12 * o + 5) 2) (116 + 12 * o + 6) (nI c)) n := h1.dF ho (by decide)
  have n0 : ald 596 (upd (upd (ms_now y) (116 + 12 * o + 5) 2) (116 + 12 * o + 6) (nI c)) (0 : Int32) = some (ds_tick d) := by
    rw [show ds_tick d = _ from h2.1.symm]; exact ald_nI (k := 0) (by omega) (by omega)
  simp only [a1, a2, a3, a4, ob_some, now_ss, ms_now_get, n0]
  have h3 : DRel (dF (dF (dF d o 5 2) o 6 (nI c)) o 8 (ds_tick d)) (upd (upd (upd (ms_now y) (116 + 12 * o + 5) 2) (116 + 12 * o + 6) (nI c)) (116 + 12 * o + 8) (ds_tick d)) n := h2.dF ho (by decide)
  refine ⟨_, rfl, ?_⟩
  rw [h3.g_done hc]
  exact h3.c_done hc
