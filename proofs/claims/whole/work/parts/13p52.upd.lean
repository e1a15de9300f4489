/-! PART 52: changes on both sides that keep the two states together -/
theorem ct_lt {p : Nat → Bool} {o n : Nat} (h : o < n) : fb_ct p o < n := Nat.lt_of_le_of_lt (fb_ct_le p o) h
theorem CRel.congr {c : CS} {f f' : Nat → Int32} {k n : Nat} (hk : k < 2) (hn : n ≤ 40) (h : CRel c f k n) (e : ∀ i, 20 ≤ i → i < 116 → f' i = f i) : CRel c f' k n := by
  obtain ⟨h0, h1, h2, h3, h4, h5, h6, h7, h8, h9⟩ := h
  refine ⟨by rw [e _ (by omega) (by omega)]; exact h0, by rw [e _ (by omega) (by omega)]; exact h1, by rw [e _ (by omega) (by omega)]; exact h2, by rw [e _ (by omega) (by omega)]; exact h3, by rw [e _ (by omega) (by omega)]; exact h4, by rw [e _ (by omega) (by omega)]; exact h5, by rw [e _ (by omega) (by omega)]; exact h6, by rw [e _ (by omega) (by omega)]; exact h7, fun o ho hj => ?_, h9⟩
  have := ct_lt (p := mb (cs_mail c)) ho
  rw [e _ (by omega) (by omega)]
  exact h8 o ho hj
theorem c_setFact (d : DS) {o w : Nat} (ho : o < 40) (hw : w < 12) (v : Int32) : M_X3_setFact d (nI o) (nI w) v = ds_fac_s d (upd (ds_fac d) (12 * o + w) v) := by
  have e : nI o * (12 : Int32) + nI w = nI (12 * o + w) := by
    show nI o * nI 12 + nI w = _
    rw [pk_mul, nI_add, Nat.mul_comm]
  have h1 : ¬ nI (12 * o + w) < 0 := nI_pos (by omega)
  have h2 : ¬ (480 : Int32) ≤ nI (12 * o + w) := nI_ge (a := 12 * o + w) (b := 480) (by omega) (by omega)
  unfold M_X3_setFact
  rw [e, if_neg h1, if_neg h2, nI_clamp (by omega)]
  rfl
/-- the drive with one fact changed -/
abbrev dF (d : DS) (o w : Nat) (v : Int32) : DS := ds_fac_s d (upd (ds_fac d) (12 * o + w) v)
theorem fc_dF {d : DS} {o w o' w' : Nat} {v : Int32} (hw : w < 12) (hw' : w' < 12) : fc (dF d o w v) o' w' = if o' = o ∧ w' = w then v else fc d o' w' := by
  unfold fc
  show upd (ds_fac d) (12 * o + w) v (12 * o' + w') = _
  unfold upd
  by_cases q : o' = o ∧ w' = w
  · rw [if_pos q, if_pos (by omega)]
  · rw [if_neg q, if_neg (by omega)]
theorem DRel.dF {d : DS} {f : Nat → Int32} {n o w : Nat} {v : Int32} (h : DRel d f n) (ho : o < 40) (hw : w < 12) : DRel (dF d o w v) (upd f (116 + 12 * o + w) v) n := by
  obtain ⟨h0, h1, h2, h3, h4, h5, h6, h7, h8⟩ := h
  refine ⟨by rw [pk_un (by omega)]; exact h0, by rw [pk_un (by omega)]; exact h1, h2, h3, by rw [pk_un (by omega)]; exact h4, by rw [pk_un (by omega)]; exact h5, fun b hb => by rw [pk_un (by omega)]; exact h6 b hb, fun i hi => ?_, fun k hk => (h8 k hk).congr hk h3 fun i h1 h2 => pk_un (by omega)⟩
  show upd f (116 + 12 * o + w) v (116 + i) = upd (ds_fac d) (12 * o + w) v i
  unfold upd
  by_cases q : i = 12 * o + w
  · rw [if_pos q, if_pos (by omega)]
  · rw [if_neg q, if_neg (by omega)]
    exact h7 i hi
theorem DRel.val {d : DS} {f : Nat → Int32} {n b : Nat} {v : Int32} (h : DRel d f n) (hb : b < 16) : DRel (ds_val_s d (upd (ds_val d) b v)) (upd f (4 + b) v) n := by
  obtain ⟨h0, h1, h2, h3, h4, h5, h6, h7, h8⟩ := h
  refine ⟨by rw [pk_un (by omega)]; exact h0, by rw [pk_un (by omega)]; exact h1, h2, h3, by rw [pk_un (by omega)]; exact h4, by rw [pk_un (by omega)]; exact h5, fun i hi => ?_, fun i hi => by rw [pk_un (by omega)]; exact h7 i hi, fun k hk => (h8 k hk).congr hk h3 fun i h1 h2 => pk_un (by omega)⟩
  show upd f (4 + b) v (4 + i) = upd (ds_val d) b v i
  unfold upd
  by_cases q : i = b
  · rw [if_pos q, if_pos (by omega)]
  · rw [if_neg q, if_neg (by omega)]
    exact h6 i hi
/-- values that are the same at every block -/
theorem DRel.val' {d : DS} {f : Nat → Int32} {n : Nat} {g : Nat → Int32} (h : DRel d f n) (hg : ∀ b, b < 16 → g b = ds_val d b) : DRel (ds_val_s d g) f n := by
  obtain ⟨h0, h1, h2, h3, h4, h5, h6, h7, h8⟩ := h
  exact ⟨h0, h1, h2, h3, h4, h5, fun i hi => by rw [h6 i hi]; exact (hg i hi).symm, h7, h8⟩
theorem DRel.tick {d : DS} {f : Nat → Int32} {n : Nat} {v : Int32} (h : DRel d f n) : DRel (ds_tick_s d v) (upd f 0 v) n := by
  obtain ⟨h0, h1, h2, h3, h4, h5, h6, h7, h8⟩ := h
  exact ⟨pk_us, by rw [pk_un (by omega)]; exact h1, h2, h3, by rw [pk_un (by omega)]; exact h4, by rw [pk_un (by omega)]; exact h5, fun b hb => by rw [pk_un (by omega)]; exact h6 b hb, fun i hi => by rw [pk_un (by omega)]; exact h7 i hi, fun k hk => (h8 k hk).congr hk h3 fun i h1 h2 => pk_un (by omega)⟩
theorem DRel.mo {d : DS} {f : Nat → Int32} {n : Nat} {v : Int32} (h : DRel d f n) : DRel (ds_mo_s d v) (upd f 2 v) n := by
  obtain ⟨h0, h1, h2, h3, h4, h5, h6, h7, h8⟩ := h
  exact ⟨by rw [pk_un (by omega)]; exact h0, by rw [pk_un (by omega)]; exact h1, h2, h3, pk_us, by rw [pk_un (by omega)]; exact h5, fun b hb => by rw [pk_un (by omega)]; exact h6 b hb, fun i hi => by rw [pk_un (by omega)]; exact h7 i hi, fun k hk => (h8 k hk).congr hk h3 fun i h1 h2 => pk_un (by omega)⟩
theorem DRel.mv {d : DS} {f : Nat → Int32} {n : Nat} {v : Int32} (h : DRel d f n) : DRel (ds_mv_s d v) (upd f 3 v) n := by
  obtain ⟨h0, h1, h2, h3, h4, h5, h6, h7, h8⟩ := h
  exact ⟨by rw [pk_un (by omega)]; exact h0, by rw [pk_un (by omega)]; exact h1, h2, h3, by rw [pk_un (by omega)]; exact h4, pk_us, fun b hb => by rw [pk_un (by omega)]; exact h6 b hb, fun i hi => by rw [pk_un (by omega)]; exact h7 i hi, fun k hk => (h8 k hk).congr hk h3 fun i h1 h2 => pk_un (by omega)⟩
/-- the tick as the reference has it -/
theorem DRel.now0 {y : MS} {d : DS} {n : Nat} (h : DRel d (ms_now y) n) : ald 596 (ms_now y) (0 : Int32) = some (ds_tick d) := by
  rw [← h.1]; exact ald_nI (k := 0) (by omega) (by omega)
theorem DRel.now1 {y : MS} {d : DS} {n : Nat} (h : DRel d (ms_now y) n) : ald 596 (ms_now y) (1 : Int32) = some (nI n) := by
  rw [← h.2.1]; exact ald_nI (k := 1) (by omega) (by omega)
theorem DRel.now2 {y : MS} {d : DS} {n : Nat} (h : DRel d (ms_now y) n) : ald 596 (ms_now y) (2 : Int32) = some (ds_mo d) := by
  rw [← h.2.2.2.2.1]; exact ald_nI (k := 2) (by omega) (by omega)
theorem DRel.now3 {y : MS} {d : DS} {n : Nat} (h : DRel d (ms_now y) n) : ald 596 (ms_now y) (3 : Int32) = some (ds_mv d) := by
  rw [← h.2.2.2.2.2.1]; exact ald_nI (k := 3) (by omega) (by omega)
/-- the one controller and the other -/
theorem dCtl_s_dCtl {d : DS} {c k : Nat} (hc : c < 2) (hk : k < 2) (x : CS) : dCtl (dCtl_s d (nI c) x) (nI k) = if k = c then x else dCtl d (nI k) := by
  rcases (show c = 0 ∨ c = 1 by omega) with rfl | rfl <;> rcases (show k = 0 ∨ k = 1 by omega) with rfl | rfl <;> rfl
theorem DRel.ctl {d : DS} {f f' : Nat → Int32} {n c : Nat} {x : CS} (h : DRel d f n) (hc : c < 2) (e : ∀ i, ¬ (20 + 8 * c ≤ i ∧ i < 28 + 8 * c) → ¬ (36 + 40 * c ≤ i ∧ i < 76 + 40 * c) → f' i = f i) (hx : CRel x f' c n) : DRel (dCtl_s d (nI c) x) f' n := by
  obtain ⟨h0, h1, h2, h3, h4, h5, h6, h7, h8⟩ := h
  refine ⟨by rw [e _ (by omega) (by omega)]; exact h0, by rw [e _ (by omega) (by omega)]; exact h1, h2, h3, by rw [e _ (by omega) (by omega)]; exact h4, by rw [e _ (by omega) (by omega)]; exact h5, fun b hb => by rw [e _ (by omega) (by omega)]; exact h6 b hb, fun i hi => by rw [e _ (by omega) (by omega)]; exact h7 i hi, fun k hk => ?_⟩
  rw [dCtl_s_dCtl hc hk]
  by_cases q : k = c
  · rw [if_pos q, q]; exact hx
  · rw [if_neg q]
    have hk2 := h8 k hk
    obtain ⟨g0, g1, g2, g3, g4, g5, g6, g7, g8, g9⟩ := hk2
    refine ⟨by rw [e _ (by omega) (by omega)]; exact g0, by rw [e _ (by omega) (by omega)]; exact g1, by rw [e _ (by omega) (by omega)]; exact g2, by rw [e _ (by omega) (by omega)]; exact g3, by rw [e _ (by omega) (by omega)]; exact g4, by rw [e _ (by omega) (by omega)]; exact g5, by rw [e _ (by omega) (by omega)]; exact g6, by rw [e _ (by omega) (by omega)]; exact g7, fun o ho hj => ?_, g9⟩
    have := ct_lt (p := mb (cs_mail (dCtl d (nI k)))) ho
    rw [e _ (by omega) (by omega)]
    exact g8 o ho hj
