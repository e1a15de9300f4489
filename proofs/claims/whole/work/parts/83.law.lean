/-! PART 83: the law, a call at a time -/
theorem thr_eq (y : MS) : M_X7_thrown y = ms_refusal y := rfl
/-- what a case of the law does with the two answers -/
abbrev lcT (x : SS) (o : Nat → Int64) (l : Option (Int32 × (SS × (Nat → Int64)))) (r : Option (Int32 × MS)) : Option (SS × (MS × (Nat → Int64))) := l.bind fun r1 => (r.bind fun r2 => (if (M_X7_thrown r2.2) = r1.1 then (if r1.1 = 0 then (if (lg_cmp (r1.2.2 0) (r2.1).toInt64) = 0 then some (r1.2.1, r2.2, r1.2.2) else none) else some (r1.2.1, r2.2, r1.2.2)) else none))
def LOK (r : Option (SS × (MS × (Nat → Int64)))) : Prop := ∃ x' y' o', r = some (x', (y', o')) ∧ SRel x' y'
theorem lc_ref {x : SS} {y' : MS} {o : Nat → Int64} {q v : Int32} (hq : ¬ q = 0) (hy : ms_refusal y' = q) (h : SRel x y') : LOK (lcT x o (some (q, x, o)) (some (v, y'))) := by
  refine ⟨x, y', o, ?_, h⟩
  show (if M_X7_thrown y' = q then (if q = 0 then (if (lg_cmp (o 0) v.toInt64) = 0 then some (x, y', o) else none) else some (x, y', o)) else none) = _
  rw [thr_eq, if_pos hy, if_neg hq]
theorem lc_ok {x x' : SS} {y' : MS} {o : Nat → Int64} {v : Int32} (hy : ms_refusal y' = 0) (h : SRel x' y') : LOK (lcT x o (some (0, x', vp_updL o 0 v.toInt64)) (some (v, y'))) := by
  refine ⟨x', y', vp_updL o 0 v.toInt64, ?_, h⟩
  show (if M_X7_thrown y' = 0 then (if (0 : Int32) = 0 then (if (lg_cmp ((vp_updL o 0 v.toInt64) 0) v.toInt64) = 0 then some (x', y', vp_updL o 0 v.toInt64) else none) else some (x', y', vp_updL o 0 v.toInt64)) else none) = _
  rw [thr_eq, if_pos hy, if_pos rfl, pk_uLs, if_pos ((lg_cmp_eq _ _).mpr rfl)]
theorem lc_u {P : Int32 → Int32 → Prop} {x : SS} {o : Nat → Int64} {c : Option (Int32 ⊕ (Int32 × SS))} {r : Option (Int32 × MS)} {G : Int32 ⊕ (Int32 × SS) → Option (Int32 × (SS × (Nat → Int64)))} (h : AgU P x c r) (hl : ∀ f q, P f q → ¬ q = 0 ∧ G (.inl f) = some (q, x, o)) (hr : ∀ v x', G (.inr (v, x')) = some (0, x', vp_updL o 0 v.toInt64)) : LOK (lcT x o (c.bind G) r) := by
  rcases h with ⟨f, q, v, y', h1, h2, h3, h4, h5⟩ | ⟨v, x', y', h1, h2, h3, h4⟩
  · obtain ⟨g1, g2⟩ := hl f q h4
    rw [h1, h2, ob_some, g2]
    exact lc_ref g1 h3 h5
  · rw [h1, h2, ob_some, hr]
    exact lc_ok h3 h4
theorem lc_q {P : Int32 → Int32 → Prop} {x : SS} {o : Nat → Int64} {c : Option (Int32 ⊕ Int32)} {r : Option (Int32 × MS)} {G : Int32 ⊕ Int32 → Option (Int32 × (SS × (Nat → Int64)))} (h : AgQ P x c r) (hl : ∀ f q, P f q → ¬ q = 0 ∧ G (.inl f) = some (q, x, o)) (hr : ∀ v, G (.inr v) = some (0, x, vp_updL o 0 v.toInt64)) : LOK (lcT x o (c.bind G) r) := by
  rcases h with ⟨f, q, v, y', h1, h2, h3, h4, h5⟩ | ⟨v, y', h1, h2, h3, h4⟩
  · obtain ⟨g1, g2⟩ := hl f q h4
    rw [h1, h2, ob_some, g2]
    exact lc_ref g1 h3 h5
  · rw [h1, h2, ob_some, hr]
    exact lc_ok h3 h4
theorem lc_0 (xs : Nat → Int32) (i : Nat) {x : SS} {y : MS} (o : Nat → Int64) (h : SRel x y) : LOK (M_lawc_0 xs i x y o) := by
  unfold M_lawc_0 M_L_order
  exact lc_u (u_order h (xs (i + 1)) (xs (i + 2)) (xs (i + 3)) (xs (i + 4)) (xs (i + 5))) (by
    rintro f q (⟨rfl, rfl⟩ | ⟨rfl, rfl⟩)
    all_goals exact ⟨by decide, rfl⟩) (fun _ _ => rfl)
theorem lc_1 (xs : Nat → Int32) (i : Nat) {x : SS} {y : MS} (o : Nat → Int64) (h : SRel x y) : LOK (M_lawc_1 xs i x y o) := by
  unfold M_lawc_1 M_L_cancel
  exact lc_u (u_cancel h (xs (i + 1)) (xs (i + 2))) (by
    rintro f q (⟨rfl, rfl⟩ | ⟨rfl, rfl⟩)
    all_goals exact ⟨by decide, rfl⟩) (fun _ _ => rfl)
theorem lc_2 (xs : Nat → Int32) (i : Nat) {x : SS} {y : MS} (o : Nat → Int64) (h : SRel x y) : LOK (M_lawc_2 xs i x y o) := by
  unfold M_lawc_2 M_L_wake
  exact lc_u (u_wake h (xs (i + 1))) (by
    rintro f q (⟨rfl, rfl⟩ | ⟨rfl, rfl⟩)
    all_goals exact ⟨by decide, rfl⟩) (fun _ _ => rfl)
theorem lc_3 (xs : Nat → Int32) (i : Nat) {x : SS} {y : MS} (o : Nat → Int64) (h : SRel x y) : LOK (M_lawc_3 xs i x y o) := by
  unfold M_lawc_3 M_L_sleep
  exact lc_u (u_sleep h (xs (i + 1))) (by
    rintro f q (⟨rfl, rfl⟩ | ⟨rfl, rfl⟩)
    all_goals exact ⟨by decide, rfl⟩) (fun _ _ => rfl)
theorem lc_4 (xs : Nat → Int32) (i : Nat) {x : SS} {y : MS} (o : Nat → Int64) (h : SRel x y) : LOK (M_lawc_4 xs i x y o) := by
  unfold M_lawc_4 M_L_setDelay
  exact lc_u (u_setDelay h (xs (i + 1)) (xs (i + 2))) (by
    rintro f q (⟨rfl, rfl⟩ | ⟨rfl, rfl⟩)
    all_goals exact ⟨by decide, rfl⟩) (fun _ _ => rfl)
theorem lc_5 (xs : Nat → Int32) (i : Nat) {x : SS} {y : MS} (o : Nat → Int64) (h : SRel x y) : LOK (M_lawc_5 xs i x y o) := by
  unfold M_lawc_5 M_L_setAlarm
  exact lc_u (u_setAlarm h (xs (i + 1)) (xs (i + 2))) (by
    rintro f q (⟨rfl, rfl⟩ | ⟨rfl, rfl⟩)
    all_goals exact ⟨by decide, rfl⟩) (fun _ _ => rfl)
theorem lc_6 (xs : Nat → Int32) (i : Nat) {x : SS} {y : MS} (o : Nat → Int64) (h : SRel x y) : LOK (M_lawc_6 xs i x y o) := by
  unfold M_lawc_6 M_L_work
  exact lc_u (u_work h (xs (i + 1)) (xs (i + 2))) (by
    rintro f q (⟨rfl, rfl⟩ | ⟨rfl, rfl⟩ | ⟨rfl, rfl⟩)
    all_goals exact ⟨by decide, rfl⟩) (fun _ _ => rfl)
theorem lc_7 (xs : Nat → Int32) (i : Nat) {x : SS} {y : MS} (o : Nat → Int64) (h : SRel x y) : LOK (M_lawc_7 xs i x y o) := by
  unfold M_lawc_7 M_L_pass
  exact lc_u (u_pass h (xs (i + 1))) (by
    rintro f q (⟨rfl, rfl⟩ | ⟨rfl, rfl⟩)
    all_goals exact ⟨by decide, rfl⟩) (fun _ _ => rfl)
theorem lc_8 (xs : Nat → Int32) (i : Nat) {x : SS} {y : MS} (o : Nat → Int64) (h : SRel x y) : LOK (M_lawc_8 xs i x y o) := by
  unfold M_lawc_8 M_L_lose
  exact lc_u (u_lose h (xs (i + 1))) (by
    rintro f q ⟨rfl, rfl⟩
    all_goals exact ⟨by decide, rfl⟩) (fun _ _ => rfl)
theorem lc_9 (xs : Nat → Int32) (i : Nat) {x : SS} {y : MS} (o : Nat → Int64) (h : SRel x y) : LOK (M_lawc_9 xs i x y o) := by
  unfold M_lawc_9 M_L_block
  exact lc_q (q_block h (xs (i + 1))) (by
    rintro f q ⟨rfl, rfl⟩
    all_goals exact ⟨by decide, rfl⟩) (fun _ => rfl)
theorem lc_10 (xs : Nat → Int32) (i : Nat) {x : SS} {y : MS} (o : Nat → Int64) (h : SRel x y) : LOK (M_lawc_10 xs i x y o) := by
  unfold M_lawc_10 M_L_orderOf
  exact lc_q (q_orderOf h (xs (i + 1)) (xs (i + 2))) (by
    rintro f q (⟨rfl, rfl⟩ | ⟨rfl, rfl⟩)
    all_goals exact ⟨by decide, rfl⟩) (fun _ => rfl)
theorem lc_11 (xs : Nat → Int32) (i : Nat) {x : SS} {y : MS} (o : Nat → Int64) (h : SRel x y) : LOK (M_lawc_11 xs i x y o) := by
  unfold M_lawc_11 M_L_orderWith
  exact lc_q (q_orderWith h (xs (i + 1)) (xs (i + 2))) (by
    rintro f q ⟨rfl, rfl⟩
    all_goals exact ⟨by decide, rfl⟩) (fun _ => rfl)
theorem lc_12 (xs : Nat → Int32) (i : Nat) {x : SS} {y : MS} (o : Nat → Int64) (h : SRel x y) : LOK (M_lawc_12 xs i x y o) := by
  unfold M_lawc_12 M_L_controller
  exact lc_q (q_controller h (xs (i + 1)) (xs (i + 2))) (by
    rintro f q (⟨rfl, rfl⟩ | ⟨rfl, rfl⟩)
    all_goals exact ⟨by decide, rfl⟩) (fun _ => rfl)
theorem lc_13 (xs : Nat → Int32) (i : Nat) {x : SS} {y : MS} (o : Nat → Int64) (h : SRel x y) : LOK (M_lawc_13 xs i x y o) := by
  unfold M_lawc_13 M_L_mail
  exact lc_q (q_mail h (xs (i + 1)) (xs (i + 2))) (by
    rintro f q (⟨rfl, rfl⟩ | ⟨rfl, rfl⟩)
    all_goals exact ⟨by decide, rfl⟩) (fun _ => rfl)
theorem lc_14 (xs : Nat → Int32) (i : Nat) {x : SS} {y : MS} (o : Nat → Int64) (h : SRel x y) : LOK (M_lawc_14 xs i x y o) := by
  unfold M_lawc_14 M_L_whole
  exact lc_q (q_whole h (xs (i + 1))) (by
    rintro f q ⟨rfl, rfl⟩
    all_goals exact ⟨by decide, rfl⟩) (fun _ => rfl)
theorem lc_15 (xs : Nat → Int32) (i : Nat) {x : SS} {y : MS} (o : Nat → Int64) (h : SRel x y) : LOK (M_lawc_15 xs i x y o) := by
  unfold M_lawc_15 M_L_waitsFor
  exact lc_q (q_waitsFor h (xs (i + 1))) (by
    rintro f q ⟨rfl, rfl⟩
    all_goals exact ⟨by decide, rfl⟩) (fun _ => rfl)
theorem lc_16 (xs : Nat → Int32) (i : Nat) {x : SS} {y : MS} (o : Nat → Int64) (h : SRel x y) : LOK (M_lawc_16 xs i x y o) := by
  unfold M_lawc_16 M_L_depth
  exact lc_u (q_depth h (xs (i + 1))) (by
    rintro f q ⟨rfl, rfl⟩
    all_goals exact ⟨by decide, rfl⟩) (fun _ _ => rfl)
theorem lc_17 (xs : Nat → Int32) (i : Nat) {x : SS} {y : MS} (o : Nat → Int64) (h : SRel x y) : LOK (M_lawc_17 xs i x y o) := by
  unfold M_lawc_17 M_L_nextFor
  exact lc_q (q_nextFor h (xs (i + 1))) (by
    rintro f q ⟨rfl, rfl⟩
    all_goals exact ⟨by decide, rfl⟩) (fun _ => rfl)
theorem lc_18 (xs : Nat → Int32) (i : Nat) {x : SS} {y : MS} (o : Nat → Int64) (h : SRel x y) : LOK (M_lawc_18 xs i x y o) := by
  unfold M_lawc_18 M_L_reason
  exact lc_q (q_reason h (xs (i + 1)) (xs (i + 2))) (by
    rintro f q ⟨rfl, rfl⟩
    all_goals exact ⟨by decide, rfl⟩) (fun _ => rfl)
theorem lc_19 (xs : Nat → Int32) (i : Nat) {x : SS} {y : MS} (o : Nat → Int64) (h : SRel x y) : LOK (M_lawc_19 xs i x y o) := by
  unfold M_lawc_19
  obtain ⟨v, x', y', e1, e2, -, e4⟩ := q_done h
  refine ⟨x', y', o, ?_, e4⟩
  rw [e1, ob_some, e2, ob_some, if_pos rfl]
theorem lc_20 (xs : Nat → Int32) (i : Nat) {x : SS} {y : MS} (o : Nat → Int64) (h : SRel x y) : LOK (M_lawc_20 xs i x y o) := by
  unfold M_lawc_20 M_L_finalValue
  exact lc_u (q_final h (xs (i + 1))) (by
    rintro f q ⟨rfl, rfl⟩
    all_goals exact ⟨by decide, rfl⟩) (fun _ _ => rfl)
theorem lc_21 (xs : Nat → Int32) (i : Nat) {x : SS} {y : MS} (o : Nat → Int64) (h : SRel x y) : LOK (M_lawc_21 xs i x y o) := by
  unfold M_lawc_21 M_L_type
  exact lc_u (u_type h (xs (i + 1))) (by
    rintro f q (⟨rfl, rfl⟩ | ⟨rfl, rfl⟩)
    all_goals exact ⟨by decide, rfl⟩) (fun _ _ => rfl)
theorem lc_22 (xs : Nat → Int32) (i : Nat) {x : SS} {y : MS} (o : Nat → Int64) (h : SRel x y) : LOK (M_lawc_22 xs i x y o) := by
  unfold M_lawc_22
  obtain ⟨v, x', y', e1, e2, -, e4⟩ := u_clear h
  refine ⟨x', y', o, ?_, e4⟩
  rw [e1, e2, if_pos rfl]
theorem lc_23 (xs : Nat → Int32) (i : Nat) {x : SS} {y : MS} (o : Nat → Int64) (h : SRel x y) : LOK (M_lawc_23 xs i x y o) := by
  unfold M_lawc_23
  obtain ⟨v, x', y', e1, e2, -, e4⟩ := u_run h
  refine ⟨x', y', o, ?_, e4⟩
  rw [e1, ob_some, e2, ob_some, if_pos rfl]
theorem lc_24 (xs : Nat → Int32) (i : Nat) {x : SS} {y : MS} (o : Nat → Int64) (h : SRel x y) : LOK (M_lawc_24 xs i x y o) := by
  unfold M_lawc_24 M_L_undo
  exact lc_u (u_undo h ) (by
    rintro f q ⟨rfl, rfl⟩
    all_goals exact ⟨by decide, rfl⟩) (fun _ _ => rfl)
theorem lc_25 (xs : Nat → Int32) (i : Nat) {x : SS} {y : MS} (o : Nat → Int64) (h : SRel x y) : LOK (M_lawc_25 xs i x y o) := by
  unfold M_lawc_25
  obtain ⟨v, x', y', e1, e2, -, e4⟩ := q_digest h
  refine ⟨x', y', o, ?_, e4⟩
  rw [e1, ob_some, e2, ob_some, if_pos ((lg_cmp_eq _ _).mpr rfl)]
theorem lc_B (xs : Nat → Int32) (i : Nat) {x : SS} {y : MS} (o : Nat → Int64) (h : SRel x y) : LOK (M_lawB xs i x y o) := by
  unfold M_lawB
  refine (Decidable.em (xs i &&& 31 = 0)).elim (fun q => by rw [if_pos q]; exact lc_0 xs i o h) (fun q => ?_)
  rw [if_neg q]
  refine (Decidable.em (xs i &&& 31 = 1)).elim (fun q => by rw [if_pos q]; exact lc_1 xs i o h) (fun q => ?_)
  rw [if_neg q]
  refine (Decidable.em (xs i &&& 31 = 2)).elim (fun q => by rw [if_pos q]; exact lc_2 xs i o h) (fun q => ?_)
  rw [if_neg q]
  refine (Decidable.em (xs i &&& 31 = 3)).elim (fun q => by rw [if_pos q]; exact lc_3 xs i o h) (fun q => ?_)
  rw [if_neg q]
  refine (Decidable.em (xs i &&& 31 = 4)).elim (fun q => by rw [if_pos q]; exact lc_4 xs i o h) (fun q => ?_)
  rw [if_neg q]
  refine (Decidable.em (xs i &&& 31 = 5)).elim (fun q => by rw [if_pos q]; exact lc_5 xs i o h) (fun q => ?_)
  rw [if_neg q]
  refine (Decidable.em (xs i &&& 31 = 6)).elim (fun q => by rw [if_pos q]; exact lc_6 xs i o h) (fun q => ?_)
  rw [if_neg q]
  refine (Decidable.em (xs i &&& 31 = 7)).elim (fun q => by rw [if_pos q]; exact lc_7 xs i o h) (fun q => ?_)
  rw [if_neg q]
  refine (Decidable.em (xs i &&& 31 = 8)).elim (fun q => by rw [if_pos q]; exact lc_8 xs i o h) (fun q => ?_)
  rw [if_neg q]
  refine (Decidable.em (xs i &&& 31 = 9)).elim (fun q => by rw [if_pos q]; exact lc_9 xs i o h) (fun q => ?_)
  rw [if_neg q]
  refine (Decidable.em (xs i &&& 31 = 10)).elim (fun q => by rw [if_pos q]; exact lc_10 xs i o h) (fun q => ?_)
  rw [if_neg q]
  refine (Decidable.em (xs i &&& 31 = 11)).elim (fun q => by rw [if_pos q]; exact lc_11 xs i o h) (fun q => ?_)
  rw [if_neg q]
  refine (Decidable.em (xs i &&& 31 = 12)).elim (fun q => by rw [if_pos q]; exact lc_12 xs i o h) (fun q => ?_)
  rw [if_neg q]
  refine (Decidable.em (xs i &&& 31 = 13)).elim (fun q => by rw [if_pos q]; exact lc_13 xs i o h) (fun q => ?_)
  rw [if_neg q]
  refine (Decidable.em (xs i &&& 31 = 14)).elim (fun q => by rw [if_pos q]; exact lc_14 xs i o h) (fun q => ?_)
  rw [if_neg q]
  refine (Decidable.em (xs i &&& 31 = 15)).elim (fun q => by rw [if_pos q]; exact lc_15 xs i o h) (fun q => ?_)
  rw [if_neg q]
  refine (Decidable.em (xs i &&& 31 = 16)).elim (fun q => by rw [if_pos q]; exact lc_16 xs i o h) (fun q => ?_)
  rw [if_neg q]
  refine (Decidable.em (xs i &&& 31 = 17)).elim (fun q => by rw [if_pos q]; exact lc_17 xs i o h) (fun q => ?_)
  rw [if_neg q]
  refine (Decidable.em (xs i &&& 31 = 18)).elim (fun q => by rw [if_pos q]; exact lc_18 xs i o h) (fun q => ?_)
  rw [if_neg q]
  refine (Decidable.em (xs i &&& 31 = 19)).elim (fun q => by rw [if_pos q]; exact lc_19 xs i o h) (fun q => ?_)
  rw [if_neg q]
  refine (Decidable.em (xs i &&& 31 = 20)).elim (fun q => by rw [if_pos q]; exact lc_20 xs i o h) (fun q => ?_)
  rw [if_neg q]
  refine (Decidable.em (xs i &&& 31 = 21)).elim (fun q => by rw [if_pos q]; exact lc_21 xs i o h) (fun q => ?_)
  rw [if_neg q]
  refine (Decidable.em (xs i &&& 31 = 22)).elim (fun q => by rw [if_pos q]; exact lc_22 xs i o h) (fun q => ?_)
  rw [if_neg q]
  refine (Decidable.em (xs i &&& 31 = 23)).elim (fun q => by rw [if_pos q]; exact lc_23 xs i o h) (fun q => ?_)
  rw [if_neg q]
  refine (Decidable.em (xs i &&& 31 = 24)).elim (fun q => by rw [if_pos q]; exact lc_24 xs i o h) (fun q => ?_)
  rw [if_neg q]
  refine (Decidable.em (xs i &&& 31 = 25)).elim (fun q => by rw [if_pos q]; exact lc_25 xs i o h) (fun q => ?_)
  rw [if_neg q]
  exact ⟨x, y, o, rfl, h⟩
theorem law_ok (xs : Nat → Int32) : ∀ n i x y o, SRel x y → M_lawL xs n i x y o = some () := by
  intro n
  induction n with
  | zero => intro i x y o _; rfl
  | succ n ih =>
    intro i x y o h
    obtain ⟨x', y', o', e, h'⟩ := lc_B xs i o h
    show (M_lawB xs i x y o).bind (fun r => M_lawL xs n (i + 6) r.1 r.2.1 r.2.2) = some ()
    rw [e, ob_some]
    exact ih (i + 6) x' y' o' h'
