/-! PART 80: a command is done, both sides -/
theorem ob_id {α : Type} (x : Option α) : (x.bind fun r => some r) = x := by cases x <;> rfl
theorem run_saves {Y : MS} (h : ms_isRun Y = true) : M_X7_saves (ms_refusal_s Y 0) = some (ms_refusal_s Y 0) := by
  unfold M_X7_saves
  rw [show ms_isRun (ms_refusal_s Y 0) = true from h]
  exact if_neg (show ¬ zI true = 0 by decide)
/-- a command's numbers and word, on both sides -/
def CW (X : SS) (Y : MS) (V : Nat → Int32) (e : Nat) : Prop := ts_word (ss_txt X) = some e ∧ ms_command Y = nI e ∧ ∀ k, k < wN.getD e 0 → ts_nu (ss_txt X) k = V k ∧ ms_numbers Y k = V k
/-- what comes of a command -/
def DoR (X : SS) (Y : MS) : Prop := (∃ f q, M_X6_faultOfCommand X = some f ∧ ¬ f = 0 ∧ M_X7_does Y = some (false, ms_refusal_s Y q)) ∨ (M_X6_faultOfCommand X = some 0 ∧ ∃ d' g, M_X6_obeyCommand X = some (ss_drv_s X d') ∧ M_X7_does Y = some (true, ms_now_s (ms_refusal_s Y 0) g) ∧ DOK d' g)
theorem does_of {P : Int32 → Int32 → Prop} {flt : Option Int32} {act : Option (Int32 × DS)} {ref : Option (Int32 × MS)} {X : SS} {Y : MS} (hc : Core P flt act ref Y (ms_refusal_s Y 0)) (h1 : M_X6_faultOfCommand X = flt) (h2 : M_X6_obeyCommand X = act.bind fun r => some (ss_drv_s X r.2)) (h3 : M_X7_does Y = ref.bind fun r => M_X7_does_214 Y r.2) : DoR X Y := by
  rcases hc with ⟨f, q, v, a1, a2, a3, a4, -⟩ | ⟨a1, r, d', g, a2, a3, a4⟩
  · refine Or.inl ⟨f, q, h1.trans a1, fun z => ?_, ?_⟩
    · rw [z] at a2; cases a2
    · rw [h3, a3, ob_some]
      unfold M_X7_does_214 M_X7_does_226
      exact if_neg a4
  · refine Or.inr ⟨h1.trans a1, d', g, ?_, ?_, a4⟩
    · rw [h2, a2, ob_some]
    · rw [h3, a3, ob_some]
      unfold M_X7_does_214 M_X7_does_226
      exact if_pos rfl
theorem cw_c {X : SS} {Y : MS} {V : Nat → Int32} {e k : Nat} (h : CW X Y V e) (hk : k < wN.getD e 0) (h4 : k < 4) : M_X1_numberAt (ss_txt X) (nI k) = V k := by
  unfold M_X1_numberAt
  rw [x6_at h4 (by decide)]
  exact (h.2.2 k hk).1
theorem cw_r {X : SS} {Y : MS} {V : Nat → Int32} {e k : Nat} (h : CW X Y V e) (hk : k < wN.getD e 0) (h4 : k < 4) : ald 4 (ms_numbers Y) (nI k) = some (V k) := by
  rw [ald_nI h4 (by omega), (h.2.2 k hk).2]
theorem chk_e {e : Nat} (h : e < 10) : chkE e = some () := by unfold chkE; rw [if_pos h]
set_option maxHeartbeats 200000 in
theorem do_0 {X : SS} {Y : MS} {V : Nat → Int32} (h : CW X Y V 0) (hr : ms_isRun Y = true) (hD : DOK (ss_drv X) (ms_now Y)) : DoR X Y := by
  obtain ⟨n, t, hd, hI, ht, ht9⟩ := hD
  have n0 : M_X1_numberAt (ss_txt X) (0 : Int32) = V 0 := cw_c (k := 0) h (by decide) (by decide)
  have l0 : ald 4 (ms_numbers Y) (0 : Int32) = some (V 0) := cw_r (k := 0) h (by decide) (by decide)
  have n1 : M_X1_numberAt (ss_txt X) (1 : Int32) = V 1 := cw_c (k := 1) h (by decide) (by decide)
  have l1 : ald 4 (ms_numbers Y) (1 : Int32) = some (V 1) := cw_r (k := 1) h (by decide) (by decide)
  have n2 : M_X1_numberAt (ss_txt X) (2 : Int32) = V 2 := cw_c (k := 2) h (by decide) (by decide)
  have l2 : ald 4 (ms_numbers Y) (2 : Int32) = some (V 2) := cw_r (k := 2) h (by decide) (by decide)
  have n3 : M_X1_numberAt (ss_txt X) (3 : Int32) = V 3 := cw_c (k := 3) h (by decide) (by decide)
  have l3 : ald 4 (ms_numbers Y) (3 : Int32) = some (V 3) := cw_r (k := 3) h (by decide) (by decide)
  refine does_of (core_order hd hI ht ht9 (run_saves hr) rfl (V 0) (V 1) (nI 0) (V 2) (V 3)) ?_ ?_ ?_
  · skip
    unfold M_X6_faultOfCommand
    rw [h.1]
    show (chkE 0).bind _ = _
    rw [chk_e (by decide), ob_some, if_pos (show nI (0 + 1) = 1 from rfl)]
    unfold M_X6_faultOfCommand_96
    rw [chk_e (by decide), ob_some, n0, n1, n2, n3, ob_id]
    rfl
  · skip
    unfold M_X6_obeyCommand
    rw [h.1]
    show (chkE 0).bind _ = _
    rw [chk_e (by decide), ob_some, if_pos (show nI (0 + 1) = 1 from rfl)]
    unfold M_X6_obeyCommand_92
    rw [chk_e (by decide), ob_some, n0, n1, n2, n3]
    rfl
  · skip
    unfold M_X7_does
    rw [h.2.1, if_pos (show nI 0 = (0 : Int32) from rfl)]
    unfold M_X7_does_56
    rw [l0, ob_some, l1, ob_some, l2, ob_some, l3, ob_some, h.2.1]

set_option maxHeartbeats 200000 in
theorem do_1 {X : SS} {Y : MS} {V : Nat → Int32} (h : CW X Y V 1) (hr : ms_isRun Y = true) (hD : DOK (ss_drv X) (ms_now Y)) : DoR X Y := by
  obtain ⟨n, t, hd, hI, ht, ht9⟩ := hD
  have n0 : M_X1_numberAt (ss_txt X) (0 : Int32) = V 0 := cw_c (k := 0) h (by decide) (by decide)
  have l0 : ald 4 (ms_numbers Y) (0 : Int32) = some (V 0) := cw_r (k := 0) h (by decide) (by decide)
  have n1 : M_X1_numberAt (ss_txt X) (1 : Int32) = V 1 := cw_c (k := 1) h (by decide) (by decide)
  have l1 : ald 4 (ms_numbers Y) (1 : Int32) = some (V 1) := cw_r (k := 1) h (by decide) (by decide)
  have n2 : M_X1_numberAt (ss_txt X) (2 : Int32) = V 2 := cw_c (k := 2) h (by decide) (by decide)
  have l2 : ald 4 (ms_numbers Y) (2 : Int32) = some (V 2) := cw_r (k := 2) h (by decide) (by decide)
  have n3 : M_X1_numberAt (ss_txt X) (3 : Int32) = V 3 := cw_c (k := 3) h (by decide) (by decide)
  have l3 : ald 4 (ms_numbers Y) (3 : Int32) = some (V 3) := cw_r (k := 3) h (by decide) (by decide)
  refine does_of (core_order hd hI ht ht9 (run_saves hr) rfl (V 0) (V 1) (nI 1) (V 2) (V 3)) ?_ ?_ ?_
  · skip
    unfold M_X6_faultOfCommand
    rw [h.1]
    show (chkE 1).bind _ = _
    rw [chk_e (by decide), ob_some, if_neg (show ¬ nI (1 + 1) = 1 by decide), if_pos (show nI (1 + 1) = 2 from rfl)]
    unfold M_X6_faultOfCommand_96
    rw [chk_e (by decide), ob_some, n0, n1, n2, n3, ob_id]
    rfl
  · skip
    unfold M_X6_obeyCommand
    rw [h.1]
    show (chkE 1).bind _ = _
    rw [chk_e (by decide), ob_some, if_neg (show ¬ nI (1 + 1) = 1 by decide), if_pos (show nI (1 + 1) = 2 from rfl)]
    unfold M_X6_obeyCommand_92
    rw [chk_e (by decide), ob_some, n0, n1, n2, n3]
    rfl
  · skip
    unfold M_X7_does
    rw [h.2.1, if_neg (show ¬ nI 1 = (0 : Int32) by decide), if_pos (show nI 1 = (1 : Int32) from rfl)]
    unfold M_X7_does_56
    rw [l0, ob_some, l1, ob_some, l2, ob_some, l3, ob_some, h.2.1]

set_option maxHeartbeats 200000 in
theorem do_2 {X : SS} {Y : MS} {V : Nat → Int32} (h : CW X Y V 2) (hr : ms_isRun Y = true) (hD : DOK (ss_drv X) (ms_now Y)) : DoR X Y := by
  obtain ⟨n, t, hd, hI, ht, ht9⟩ := hD
  have n0 : M_X1_numberAt (ss_txt X) (0 : Int32) = V 0 := cw_c (k := 0) h (by decide) (by decide)
  have l0 : ald 4 (ms_numbers Y) (0 : Int32) = some (V 0) := cw_r (k := 0) h (by decide) (by decide)
  have n1 : M_X1_numberAt (ss_txt X) (1 : Int32) = V 1 := cw_c (k := 1) h (by decide) (by decide)
  have l1 : ald 4 (ms_numbers Y) (1 : Int32) = some (V 1) := cw_r (k := 1) h (by decide) (by decide)
  have n2 : M_X1_numberAt (ss_txt X) (2 : Int32) = V 2 := cw_c (k := 2) h (by decide) (by decide)
  have l2 : ald 4 (ms_numbers Y) (2 : Int32) = some (V 2) := cw_r (k := 2) h (by decide) (by decide)
  have n3 : M_X1_numberAt (ss_txt X) (3 : Int32) = V 3 := cw_c (k := 3) h (by decide) (by decide)
  have l3 : ald 4 (ms_numbers Y) (3 : Int32) = some (V 3) := cw_r (k := 3) h (by decide) (by decide)
  refine does_of (core_order hd hI ht ht9 (run_saves hr) rfl (V 0) (V 1) (nI 2) (V 2) (V 3)) ?_ ?_ ?_
  · skip
    unfold M_X6_faultOfCommand
    rw [h.1]
    show (chkE 2).bind _ = _
    rw [chk_e (by decide), ob_some, if_neg (show ¬ nI (2 + 1) = 1 by decide), if_neg (show ¬ nI (2 + 1) = 2 by decide), if_pos (show nI (2 + 1) = 3 from rfl)]
    unfold M_X6_faultOfCommand_96
    rw [chk_e (by decide), ob_some, n0, n1, n2, n3, ob_id]
    rfl
  · skip
    unfold M_X6_obeyCommand
    rw [h.1]
    show (chkE 2).bind _ = _
    rw [chk_e (by decide), ob_some, if_neg (show ¬ nI (2 + 1) = 1 by decide), if_neg (show ¬ nI (2 + 1) = 2 by decide), if_pos (show nI (2 + 1) = 3 from rfl)]
    unfold M_X6_obeyCommand_92
    rw [chk_e (by decide), ob_some, n0, n1, n2, n3]
    rfl
  · skip
    unfold M_X7_does
    rw [h.2.1, if_neg (show ¬ nI 2 = (0 : Int32) by decide), if_neg (show ¬ nI 2 = (1 : Int32) by decide), if_pos (show nI 2 = (2 : Int32) from rfl)]
    unfold M_X7_does_56
    rw [l0, ob_some, l1, ob_some, l2, ob_some, l3, ob_some, h.2.1]

set_option maxHeartbeats 200000 in
theorem do_3 {X : SS} {Y : MS} {V : Nat → Int32} (h : CW X Y V 3) (hr : ms_isRun Y = true) (hD : DOK (ss_drv X) (ms_now Y)) : DoR X Y := by
  obtain ⟨n, t, hd, hI, ht, ht9⟩ := hD
  have n0 : M_X1_numberAt (ss_txt X) (0 : Int32) = V 0 := cw_c (k := 0) h (by decide) (by decide)
  have l0 : ald 4 (ms_numbers Y) (0 : Int32) = some (V 0) := cw_r (k := 0) h (by decide) (by decide)
  have n1 : M_X1_numberAt (ss_txt X) (1 : Int32) = V 1 := cw_c (k := 1) h (by decide) (by decide)
  have l1 : ald 4 (ms_numbers Y) (1 : Int32) = some (V 1) := cw_r (k := 1) h (by decide) (by decide)
  refine does_of (core_order hd hI ht ht9 (run_saves hr) rfl (V 0) (V 1) 3 0 0) ?_ ?_ ?_
  · skip
    unfold M_X6_faultOfCommand
    rw [h.1]
    show (chkE 3).bind _ = _
    rw [chk_e (by decide), ob_some, if_neg (show ¬ nI (3 + 1) = 1 by decide), if_neg (show ¬ nI (3 + 1) = 2 by decide), if_neg (show ¬ nI (3 + 1) = 3 by decide), if_pos (show nI (3 + 1) = 4 from rfl), n0, n1, ob_id]
    rfl
  · skip
    unfold M_X6_obeyCommand
    rw [h.1]
    show (chkE 3).bind _ = _
    rw [chk_e (by decide), ob_some, if_neg (show ¬ nI (3 + 1) = 1 by decide), if_neg (show ¬ nI (3 + 1) = 2 by decide), if_neg (show ¬ nI (3 + 1) = 3 by decide), if_pos (show nI (3 + 1) = 4 from rfl), n0, n1]
    rfl
  · skip
    unfold M_X7_does
    rw [h.2.1, if_neg (show ¬ nI 3 = (0 : Int32) by decide), if_neg (show ¬ nI 3 = (1 : Int32) by decide), if_neg (show ¬ nI 3 = (2 : Int32) by decide), if_pos (show nI 3 = (3 : Int32) from rfl), l0, ob_some, l1, ob_some]

set_option maxHeartbeats 200000 in
theorem do_4 {X : SS} {Y : MS} {V : Nat → Int32} (h : CW X Y V 4) (hr : ms_isRun Y = true) (hD : DOK (ss_drv X) (ms_now Y)) : DoR X Y := by
  obtain ⟨n, t, hd, hI, ht, ht9⟩ := hD
  have n0 : M_X1_numberAt (ss_txt X) (0 : Int32) = V 0 := cw_c (k := 0) h (by decide) (by decide)
  have l0 : ald 4 (ms_numbers Y) (0 : Int32) = some (V 0) := cw_r (k := 0) h (by decide) (by decide)
  have n1 : M_X1_numberAt (ss_txt X) (1 : Int32) = V 1 := cw_c (k := 1) h (by decide) (by decide)
  have l1 : ald 4 (ms_numbers Y) (1 : Int32) = some (V 1) := cw_r (k := 1) h (by decide) (by decide)
  refine does_of (core_cancel hd hI ht ht9 (run_saves hr) rfl (V 0) (V 1)) ?_ ?_ ?_
  · skip
    unfold M_X6_faultOfCommand
    rw [h.1]
    show (chkE 4).bind _ = _
    rw [chk_e (by decide), ob_some, if_neg (show ¬ nI (4 + 1) = 1 by decide), if_neg (show ¬ nI (4 + 1) = 2 by decide), if_neg (show ¬ nI (4 + 1) = 3 by decide), if_neg (show ¬ nI (4 + 1) = 4 by decide), if_pos (show nI (4 + 1) = 5 from rfl), n0, n1, ob_id]
  · skip
    unfold M_X6_obeyCommand
    rw [h.1]
    show (chkE 4).bind _ = _
    rw [chk_e (by decide), ob_some, if_neg (show ¬ nI (4 + 1) = 1 by decide), if_neg (show ¬ nI (4 + 1) = 2 by decide), if_neg (show ¬ nI (4 + 1) = 3 by decide), if_neg (show ¬ nI (4 + 1) = 4 by decide), if_pos (show nI (4 + 1) = 5 from rfl), n0, n1]
    rfl
  · skip
    unfold M_X7_does
    rw [h.2.1, if_neg (show ¬ nI 4 = (0 : Int32) by decide), if_neg (show ¬ nI 4 = (1 : Int32) by decide), if_neg (show ¬ nI 4 = (2 : Int32) by decide), if_neg (show ¬ nI 4 = (3 : Int32) by decide), if_pos (show nI 4 = (4 : Int32) from rfl), l0, ob_some, l1, ob_some]

set_option maxHeartbeats 200000 in
theorem do_5 {X : SS} {Y : MS} {V : Nat → Int32} (h : CW X Y V 5) (hr : ms_isRun Y = true) (hD : DOK (ss_drv X) (ms_now Y)) : DoR X Y := by
  obtain ⟨n, t, hd, hI, ht, ht9⟩ := hD
  have n0 : M_X1_numberAt (ss_txt X) (0 : Int32) = V 0 := cw_c (k := 0) h (by decide) (by decide)
  have l0 : ald 4 (ms_numbers Y) (0 : Int32) = some (V 0) := cw_r (k := 0) h (by decide) (by decide)
  refine does_of (core_wake hd hI ht ht9 (run_saves hr) rfl (V 0)) ?_ ?_ ?_
  · skip
    unfold M_X6_faultOfCommand
    rw [h.1]
    show (chkE 5).bind _ = _
    rw [chk_e (by decide), ob_some, if_neg (show ¬ nI (5 + 1) = 1 by decide), if_neg (show ¬ nI (5 + 1) = 2 by decide), if_neg (show ¬ nI (5 + 1) = 3 by decide), if_neg (show ¬ nI (5 + 1) = 4 by decide), if_neg (show ¬ nI (5 + 1) = 5 by decide), if_pos (show nI (5 + 1) = 6 from rfl), n0]
  · skip
    unfold M_X6_obeyCommand
    rw [h.1]
    show (chkE 5).bind _ = _
    rw [chk_e (by decide), ob_some, if_neg (show ¬ nI (5 + 1) = 1 by decide), if_neg (show ¬ nI (5 + 1) = 2 by decide), if_neg (show ¬ nI (5 + 1) = 3 by decide), if_neg (show ¬ nI (5 + 1) = 4 by decide), if_neg (show ¬ nI (5 + 1) = 5 by decide), if_pos (show nI (5 + 1) = 6 from rfl), n0]
    rfl
  · skip
    unfold M_X7_does
    rw [h.2.1, if_neg (show ¬ nI 5 = (0 : Int32) by decide), if_neg (show ¬ nI 5 = (1 : Int32) by decide), if_neg (show ¬ nI 5 = (2 : Int32) by decide), if_neg (show ¬ nI 5 = (3 : Int32) by decide), if_neg (show ¬ nI 5 = (4 : Int32) by decide), if_pos (show nI 5 = (5 : Int32) from rfl), l0, ob_some]

set_option maxHeartbeats 200000 in
theorem do_6 {X : SS} {Y : MS} {V : Nat → Int32} (h : CW X Y V 6) (hr : ms_isRun Y = true) (hD : DOK (ss_drv X) (ms_now Y)) : DoR X Y := by
  obtain ⟨n, t, hd, hI, ht, ht9⟩ := hD
  have n0 : M_X1_numberAt (ss_txt X) (0 : Int32) = V 0 := cw_c (k := 0) h (by decide) (by decide)
  have l0 : ald 4 (ms_numbers Y) (0 : Int32) = some (V 0) := cw_r (k := 0) h (by decide) (by decide)
  refine does_of (core_sleep hd hI ht ht9 (run_saves hr) rfl (V 0)) ?_ ?_ ?_
  · skip
    unfold M_X6_faultOfCommand
    rw [h.1]
    show (chkE 6).bind _ = _
    rw [chk_e (by decide), ob_some, if_neg (show ¬ nI (6 + 1) = 1 by decide), if_neg (show ¬ nI (6 + 1) = 2 by decide), if_neg (show ¬ nI (6 + 1) = 3 by decide), if_neg (show ¬ nI (6 + 1) = 4 by decide), if_neg (show ¬ nI (6 + 1) = 5 by decide), if_neg (show ¬ nI (6 + 1) = 6 by decide), if_pos (show nI (6 + 1) = 7 from rfl), n0]
  · skip
    unfold M_X6_obeyCommand
    rw [h.1]
    show (chkE 6).bind _ = _
    rw [chk_e (by decide), ob_some, if_neg (show ¬ nI (6 + 1) = 1 by decide), if_neg (show ¬ nI (6 + 1) = 2 by decide), if_neg (show ¬ nI (6 + 1) = 3 by decide), if_neg (show ¬ nI (6 + 1) = 4 by decide), if_neg (show ¬ nI (6 + 1) = 5 by decide), if_neg (show ¬ nI (6 + 1) = 6 by decide), if_pos (show nI (6 + 1) = 7 from rfl), n0]
    rfl
  · skip
    unfold M_X7_does
    rw [h.2.1, if_neg (show ¬ nI 6 = (0 : Int32) by decide), if_neg (show ¬ nI 6 = (1 : Int32) by decide), if_neg (show ¬ nI 6 = (2 : Int32) by decide), if_neg (show ¬ nI 6 = (3 : Int32) by decide), if_neg (show ¬ nI 6 = (4 : Int32) by decide), if_neg (show ¬ nI 6 = (5 : Int32) by decide), if_pos (show nI 6 = (6 : Int32) from rfl), l0, ob_some]

set_option maxHeartbeats 200000 in
theorem do_7 {X : SS} {Y : MS} {V : Nat → Int32} (h : CW X Y V 7) (hr : ms_isRun Y = true) (hD : DOK (ss_drv X) (ms_now Y)) : DoR X Y := by
  obtain ⟨n, t, hd, hI, ht, ht9⟩ := hD
  have n0 : M_X1_numberAt (ss_txt X) (0 : Int32) = V 0 := cw_c (k := 0) h (by decide) (by decide)
  have l0 : ald 4 (ms_numbers Y) (0 : Int32) = some (V 0) := cw_r (k := 0) h (by decide) (by decide)
  have n1 : M_X1_numberAt (ss_txt X) (1 : Int32) = V 1 := cw_c (k := 1) h (by decide) (by decide)
  have l1 : ald 4 (ms_numbers Y) (1 : Int32) = some (V 1) := cw_r (k := 1) h (by decide) (by decide)
  refine does_of (core_work hd hI ht ht9 (run_saves hr) rfl (V 0) (V 1)) ?_ ?_ ?_
  · skip
    unfold M_X6_faultOfCommand
    rw [h.1]
    show (chkE 7).bind _ = _
    rw [chk_e (by decide), ob_some, if_neg (show ¬ nI (7 + 1) = 1 by decide), if_neg (show ¬ nI (7 + 1) = 2 by decide), if_neg (show ¬ nI (7 + 1) = 3 by decide), if_neg (show ¬ nI (7 + 1) = 4 by decide), if_neg (show ¬ nI (7 + 1) = 5 by decide), if_neg (show ¬ nI (7 + 1) = 6 by decide), if_neg (show ¬ nI (7 + 1) = 7 by decide), if_pos (show nI (7 + 1) = 8 from rfl), n0, n1]
  · skip
    unfold M_X6_obeyCommand
    rw [h.1]
    show (chkE 7).bind _ = _
    rw [chk_e (by decide), ob_some, if_neg (show ¬ nI (7 + 1) = 1 by decide), if_neg (show ¬ nI (7 + 1) = 2 by decide), if_neg (show ¬ nI (7 + 1) = 3 by decide), if_neg (show ¬ nI (7 + 1) = 4 by decide), if_neg (show ¬ nI (7 + 1) = 5 by decide), if_neg (show ¬ nI (7 + 1) = 6 by decide), if_neg (show ¬ nI (7 + 1) = 7 by decide), if_pos (show nI (7 + 1) = 8 from rfl), n0, n1]
    rfl
  · skip
    unfold M_X7_does
    rw [h.2.1, if_neg (show ¬ nI 7 = (0 : Int32) by decide), if_neg (show ¬ nI 7 = (1 : Int32) by decide), if_neg (show ¬ nI 7 = (2 : Int32) by decide), if_neg (show ¬ nI 7 = (3 : Int32) by decide), if_neg (show ¬ nI 7 = (4 : Int32) by decide), if_neg (show ¬ nI 7 = (5 : Int32) by decide), if_neg (show ¬ nI 7 = (6 : Int32) by decide), if_pos (show nI 7 = (7 : Int32) from rfl), l0, ob_some, l1, ob_some]

set_option maxHeartbeats 200000 in
theorem do_8 {X : SS} {Y : MS} {V : Nat → Int32} (h : CW X Y V 8) (hr : ms_isRun Y = true) (hD : DOK (ss_drv X) (ms_now Y)) : DoR X Y := by
  obtain ⟨n, t, hd, hI, ht, ht9⟩ := hD
  have n0 : M_X1_numberAt (ss_txt X) (0 : Int32) = V 0 := cw_c (k := 0) h (by decide) (by decide)
  have l0 : ald 4 (ms_numbers Y) (0 : Int32) = some (V 0) := cw_r (k := 0) h (by decide) (by decide)
  have n1 : M_X1_numberAt (ss_txt X) (1 : Int32) = V 1 := cw_c (k := 1) h (by decide) (by decide)
  have l1 : ald 4 (ms_numbers Y) (1 : Int32) = some (V 1) := cw_r (k := 1) h (by decide) (by decide)
  refine does_of (core_delay hd hI ht ht9 (run_saves hr) rfl (V 0) (V 1)) ?_ ?_ ?_
  · skip
    unfold M_X6_faultOfCommand
    rw [h.1]
    show (chkE 8).bind _ = _
    rw [chk_e (by decide), ob_some, if_neg (show ¬ nI (8 + 1) = 1 by decide), if_neg (show ¬ nI (8 + 1) = 2 by decide), if_neg (show ¬ nI (8 + 1) = 3 by decide), if_neg (show ¬ nI (8 + 1) = 4 by decide), if_neg (show ¬ nI (8 + 1) = 5 by decide), if_neg (show ¬ nI (8 + 1) = 6 by decide), if_neg (show ¬ nI (8 + 1) = 7 by decide), if_neg (show ¬ nI (8 + 1) = 8 by decide), if_pos (show nI (8 + 1) = 9 from rfl), n0, n1]
  · skip
    unfold M_X6_obeyCommand
    rw [h.1]
    show (chkE 8).bind _ = _
    rw [chk_e (by decide), ob_some, if_neg (show ¬ nI (8 + 1) = 1 by decide), if_neg (show ¬ nI (8 + 1) = 2 by decide), if_neg (show ¬ nI (8 + 1) = 3 by decide), if_neg (show ¬ nI (8 + 1) = 4 by decide), if_neg (show ¬ nI (8 + 1) = 5 by decide), if_neg (show ¬ nI (8 + 1) = 6 by decide), if_neg (show ¬ nI (8 + 1) = 7 by decide), if_neg (show ¬ nI (8 + 1) = 8 by decide), if_pos (show nI (8 + 1) = 9 from rfl), n0, n1]
    rfl
  · skip
    unfold M_X7_does
    rw [h.2.1, if_neg (show ¬ nI 8 = (0 : Int32) by decide), if_neg (show ¬ nI 8 = (1 : Int32) by decide), if_neg (show ¬ nI 8 = (2 : Int32) by decide), if_neg (show ¬ nI 8 = (3 : Int32) by decide), if_neg (show ¬ nI 8 = (4 : Int32) by decide), if_neg (show ¬ nI 8 = (5 : Int32) by decide), if_neg (show ¬ nI 8 = (6 : Int32) by decide), if_neg (show ¬ nI 8 = (7 : Int32) by decide), if_pos (show nI 8 = (8 : Int32) from rfl), l0, ob_some, l1, ob_some]

set_option maxHeartbeats 200000 in
theorem do_9 {X : SS} {Y : MS} {V : Nat → Int32} (h : CW X Y V 9) (hr : ms_isRun Y = true) (hD : DOK (ss_drv X) (ms_now Y)) : DoR X Y := by
  obtain ⟨n, t, hd, hI, ht, ht9⟩ := hD
  have n0 : M_X1_numberAt (ss_txt X) (0 : Int32) = V 0 := cw_c (k := 0) h (by decide) (by decide)
  have l0 : ald 4 (ms_numbers Y) (0 : Int32) = some (V 0) := cw_r (k := 0) h (by decide) (by decide)
  refine does_of (core_pass hd hI ht ht9 (run_saves hr) rfl (V 0)) ?_ ?_ ?_
  · skip
    unfold M_X6_faultOfCommand
    rw [h.1]
    show (chkE 9).bind _ = _
    rw [chk_e (by decide), ob_some, if_neg (show ¬ nI (9 + 1) = 1 by decide), if_neg (show ¬ nI (9 + 1) = 2 by decide), if_neg (show ¬ nI (9 + 1) = 3 by decide), if_neg (show ¬ nI (9 + 1) = 4 by decide), if_neg (show ¬ nI (9 + 1) = 5 by decide), if_neg (show ¬ nI (9 + 1) = 6 by decide), if_neg (show ¬ nI (9 + 1) = 7 by decide), if_neg (show ¬ nI (9 + 1) = 8 by decide), if_neg (show ¬ nI (9 + 1) = 9 by decide), if_pos (show nI (9 + 1) = 10 from rfl), n0]
  · skip
    unfold M_X6_obeyCommand
    rw [h.1]
    show (chkE 9).bind _ = _
    rw [chk_e (by decide), ob_some, if_neg (show ¬ nI (9 + 1) = 1 by decide), if_neg (show ¬ nI (9 + 1) = 2 by decide), if_neg (show ¬ nI (9 + 1) = 3 by decide), if_neg (show ¬ nI (9 + 1) = 4 by decide), if_neg (show ¬ nI (9 + 1) = 5 by decide), if_neg (show ¬ nI (9 + 1) = 6 by decide), if_neg (show ¬ nI (9 + 1) = 7 by decide), if_neg (show ¬ nI (9 + 1) = 8 by decide), if_neg (show ¬ nI (9 + 1) = 9 by decide), if_pos (show nI (9 + 1) = 10 from rfl), n0]
    rfl
  · skip
    unfold M_X7_does
    rw [h.2.1, if_neg (show ¬ nI 9 = (0 : Int32) by decide), if_neg (show ¬ nI 9 = (1 : Int32) by decide), if_neg (show ¬ nI 9 = (2 : Int32) by decide), if_neg (show ¬ nI 9 = (3 : Int32) by decide), if_neg (show ¬ nI 9 = (4 : Int32) by decide), if_neg (show ¬ nI 9 = (5 : Int32) by decide), if_neg (show ¬ nI 9 = (6 : Int32) by decide), if_neg (show ¬ nI 9 = (7 : Int32) by decide), if_neg (show ¬ nI 9 = (8 : Int32) by decide), l0, ob_some]

theorem do_ok {X : SS} {Y : MS} {V : Nat → Int32} {e : Nat} (he : e < 10) (h : CW X Y V e) (hr : ms_isRun Y = true) (hD : DOK (ss_drv X) (ms_now Y)) : DoR X Y := by
  rcases (show e = 0 ∨ e = 1 ∨ e = 2 ∨ e = 3 ∨ e = 4 ∨ e = 5 ∨ e = 6 ∨ e = 7 ∨ e = 8 ∨ e = 9 by omega) with rfl | rfl | rfl | rfl | rfl | rfl | rfl | rfl | rfl | rfl
  · exact do_0 h hr hD
  · exact do_1 h hr hD
  · exact do_2 h hr hD
  · exact do_3 h hr hD
  · exact do_4 h hr hD
  · exact do_5 h hr hD
  · exact do_6 h hr hD
  · exact do_7 h hr hD
  · exact do_8 h hr hD
  · exact do_9 h hr hD
