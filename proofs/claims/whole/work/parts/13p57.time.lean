/-! PART 57: time passes, on both sides -/
def hd (d : DS) (c : Nat) : DS := dCtl_s d (nI c) (M_X2_heedAlarm (dCtl d (nI c)) (ds_tick d))
theorem hd_same (d : DS) (c : Nat) : sameB d (hd d c) := ⟨rfl, rfl, rfl, rfl, rfl, rfl⟩
theorem hd_0 (d : DS) : ds_zero_s d (M_X2_heedAlarm (ds_zero d) (ds_tick d)) = hd d 0 := rfl
theorem hd_1 (d : DS) : ds_one_s d (M_X2_heedAlarm (ds_one d) (ds_tick d)) = hd d 1 := rfl
theorem r_heed {y0 y : MS} {d : DS} {n c : Nat} (h : DRel d (ms_now y) n) (hc : c < 2) : ∃ f, DRel (hd d c) f n ∧ ∀ k, M_X7_passes_2s y0 k (nI c, y) = k (nI (c + 1), ms_now_s y f) := by
  have e2 : M_X7_control y (nI c) (2 : Int32) = some (cs_alarm (dCtl d (nI c))) := by
    rw [← h.g_alarm hc]; exact r_control y (w := 2) hc (by decide)
  have e0 : ((20 : Int32) + (8 : Int32) * nI c + (0 : Int32)) = nI (20 + 8 * c + 0) := ix_control c 0
  have g2 : ¬ (2 : Int32) ≤ nI c := nI_ge (a := c) (b := 2) hc (by omega)
  have a1 : ast 596 (ms_now y) (nI (20 + 8 * c + 0)) (1 : Int32) = some (upd (ms_now y) (20 + 8 * c + 0) 1) := ast_nI (by omega) (by omega)
  have key : ∀ k, M_X7_passes_2s y0 k (nI c, y) = if cs_alarm (dCtl d (nI c)) = 0 then k (nI (c + 1), y) else if (ds_tick d - ds_tick d / cs_alarm (dCtl d (nI c)) * cs_alarm (dCtl d (nI c))) = 0 then k (nI (c + 1), ms_now_s y (upd (ms_now y) (20 + 8 * c + 0) 1)) else k (nI (c + 1), y) := by
    intro k
    unfold M_X7_passes_2s
    simp only [g2, if_false, e2, ob_some, M_X7_passes_44, nI_1, h.now0, e0, a1]
  by_cases q : cs_alarm (dCtl d (nI c)) = 0
  · have e : hd d c = d := by
      unfold hd M_X2_heedAlarm M_X2_heedAlarm_21
      rw [if_pos q]; exact ctl_same hc
    exact ⟨ms_now y, by rw [e]; exact h, fun k => by rw [key k, if_pos q]; rfl⟩
  · by_cases q2 : (ds_tick d - ds_tick d / cs_alarm (dCtl d (nI c)) * cs_alarm (dCtl d (nI c))) = 0
    · have e : hd d c = dCtl_s d (nI c) (cs_aw_s (dCtl d (nI c)) true) := by
        unfold hd M_X2_heedAlarm M_X2_heedAlarm_21
        rw [if_neg q, if_pos q2]
      refine ⟨upd (ms_now y) (20 + 8 * c + 0) 1, ?_, fun k => by rw [key k, if_neg q, if_pos q2]⟩
      rw [e]
      exact h.c_aw (v := true) hc
    · have e : hd d c = d := by
        unfold hd M_X2_heedAlarm M_X2_heedAlarm_21
        rw [if_neg q, if_neg q2]; exact ctl_same hc
      exact ⟨ms_now y, by rw [e]; exact h, fun k => by rw [key k, if_neg q, if_neg q2]; rfl⟩
/-- one controller's turn in a pass -/
theorem half_ok {y : MS} {d : DS} {n c t : Nat} (h : DRel d (ms_now y) n) (hI : DInv d n) (hc : c < 2) (ht : ds_tick d = nI t) (ht2 : t < 20000) : ∃ d' f m, DRel d' f n ∧ DInv d' n ∧ ds_tick d' = nI t ∧ dn d' n = dn d n + m ∧ (∀ x p1 k4 k34 u v i, i < 2 → (t + i) % 2 = c → M_X3_letPass_34s x p1 k4 k34 (u, v, nI i, d) = k34 (u + nI m, v, nI (i + 1), d')) ∧ ∀ (G : MS → Option MS), ((M_X7_control y (nI c) (0 : Int32)).bind fun r => if r = (1 : Int32) then ((M_X7_works y (nI c) (3 : Int32)).bind fun r5 => G r5.2) else G y) = G (ms_now_s y f) := by
  have ea : M_X7_control y (nI c) (0 : Int32) = some (zI (cs_aw (dCtl d (nI c)))) := by
    rw [← h.g_aw hc]; exact r_control y (w := 0) hc (by decide)
  have cl : ∀ i, i < 2 → (t + i) % 2 = c → (ds_tick d + nI i) - (ds_tick d + nI i) / (2 : Int32) * (2 : Int32) = nI c := by
    intro i hi hq
    rw [ht, nI_add]
    exact (pk_rem (d := 2) (by omega) (by omega) (by omega)).trans (by rw [hq])
  have g2 : ∀ i, i < 2 → ¬ (2 : Int32) ≤ nI i := fun i hi => nI_ge (a := i) (b := 2) hi (by omega)
  cases hw : cs_aw (dCtl d (nI c))
  · refine ⟨d, ms_now y, 0, h, hI, ht, rfl, ?_, ?_⟩
    · intro x p1 k4 k34 u v i hi hq
      unfold M_X3_letPass_34s
      simp only [g2 i hi, if_false, cl i hi hq, hw, zI_if, M_X3_letPass_76, nI_1, Bool.false_eq_true]
      rw [show u + nI 0 = u from Int32.add_zero u]
    · intro G
      rw [ea, ob_some, hw, if_neg (show ¬ zI false = (1 : Int32) by decide)]
      rfl
  · obtain ⟨r, d', f, ec, er, r2, i2, t2, q⟩ := works_ok (s := 3) h hI hc (by omega) (by omega)
    have ec' : M_X3_letWork d (nI c) (3 : Int32) = some (r, d') := ec
    have er' : M_X7_works y (nI c) (3 : Int32) = some (r, ms_now_s y f) := er
    have hG : ∀ (G : MS → Option MS), ((M_X7_control y (nI c) (0 : Int32)).bind fun r => if r = (1 : Int32) then ((M_X7_works y (nI c) (3 : Int32)).bind fun r5 => G r5.2) else G y) = G (ms_now_s y f) := by
      intro G
      rw [ea, ob_some, hw, if_pos (show zI true = (1 : Int32) by decide), er', ob_some]
    rcases q rfl with ⟨q1, q2⟩ | ⟨q1, q2⟩
    · refine ⟨d', f, 0, r2, i2, t2.trans ht, q2, ?_, hG⟩
      intro x p1 k4 k34 u v i hi hq
      unfold M_X3_letPass_34s
      simp only [g2 i hi, if_false, cl i hi hq, hw, zI_if, M_X3_letPass_76, nI_1, if_true, ec', ob_some, q1]
      rw [show u + nI 0 = u from Int32.add_zero u]
    · refine ⟨d', f, 1, r2, i2, t2.trans ht, q2, ?_, hG⟩
      intro x p1 k4 k34 u v i hi hq
      unfold M_X3_letPass_34s
      simp only [g2 i hi, if_false, cl i hi hq, hw, zI_if, M_X3_letPass_76, nI_1, if_true, ec', ob_some, q1]
      rfl
theorem passes_ok {y : MS} {d : DS} {n t : Nat} (h : DRel d (ms_now y) n) (hI : DInv d n) (ht : ds_tick d = nI t) (ht2 : t + 1 < 20000) : ∃ d' f m, DRel d' f n ∧ DInv d' n ∧ ds_tick d' = nI (t + 1) ∧ dn d' n = dn d n + m ∧ M_X7_passes y = some (ms_now_s y f) ∧ ∀ x p1 k u v, ¬ p1 ≤ v → M_X3_letPass_4s x p1 k (u, v, d) = k (u + nI m, v + 1, d') := by
  obtain ⟨f0, r0, s0⟩ := r_heed (y0 := y) (c := 0) h (by omega)
  obtain ⟨f1, r1, s1⟩ := r_heed (y0 := y) (y := ms_now_s y f0) (c := 1) r0 (by omega)
  have i1 : DInv (hd (hd d 0) 1) n := (hI.same (hd_same d 0)).same (hd_same _ 1)
  have t1 : ds_tick (hd (hd d 0) 1) = nI t := ht
  have dn1 : dn (hd (hd d 0) 1) n = dn d n := rfl
  obtain ⟨d2, f2, m2, r2, i2, t2, n2, c2, g2⟩ := half_ok (y := ms_now_s (ms_now_s y f0) f1) (c := t % 2) r1 i1 (Nat.mod_lt _ (by omega)) t1 (by omega)
  obtain ⟨d3, f3, m3, r3, i3, t3, n3, c3, g3⟩ := half_ok (y := ms_now_s (ms_now_s (ms_now_s y f0) f1) f2) (c := 1 - t % 2) r2 i2 (by omega) t2 (by omega)
  have e1 : nI t + 1 = nI (t + 1) := nI_1 t
  refine ⟨ds_tick_s d3 (nI (t + 1)), upd f3 0 (nI (t + 1)), m2 + m3, r3.tick, ?_, rfl, ?_, ?_, ?_⟩
  · refine ⟨fun o ho => i3.1 o ho, i3.2.1, ⟨t + 1, ht2, rfl⟩⟩
  · show dn d3 n = _
    rw [n3, n2, dn1, Nat.add_assoc]
  · unfold M_X7_passes
    rw [show (64 : Nat) = 61 + 1 + 1 + 1 from rfl, lpF_s, show (((0 : Int32), y) : Int32 × MS) = (nI 0, y) from rfl, s0, lpF_s, s1, lpF_s]
    unfold M_X7_passes_2s
    have n0 : ald 596 (ms_now (ms_now_s (ms_now_s y f0) f1)) (0 : Int32) = some (nI t) := by
      rw [← t1]; exact DRel.now0 (y := ms_now_s (ms_now_s y f0) f1) r1
    have er : nI t - nI t / (2 : Int32) * (2 : Int32) = nI (t % 2) := pk_rem (d := 2) (by omega) (by omega) (by omega)
    have hle : (2 : Int32) ≤ nI (1 + 1) := by decide
    simp only [hle, if_true, n0, ob_some, er]
    refine (g2 (fun yy => M_X7_passes_76 y (nI (t % 2)) yy)).trans ?_
    unfold M_X7_passes_76
    have e2 : (1 : Int32) - nI (t % 2) = nI (1 - t % 2) := by
      rcases (show t % 2 = 0 ∨ t % 2 = 1 by omega) with q | q <;> rw [q] <;> rfl
    rw [e2]
    refine (g3 (fun yy => M_X7_passes_97 y yy)).trans ?_
    unfold M_X7_passes_97
    have n3' : ald 596 (ms_now (ms_now_s (ms_now_s (ms_now_s (ms_now_s y f0) f1) f2) f3)) (0 : Int32) = some (nI t) := by
      rw [← t3]; exact DRel.now0 (y := ms_now_s (ms_now_s (ms_now_s (ms_now_s y f0) f1) f2) f3) r3
    have a3 : ∀ v, ast 596 (ms_now (ms_now_s (ms_now_s (ms_now_s (ms_now_s y f0) f1) f2) f3)) (0 : Int32) v = some (upd f3 0 v) := fun v => ast_nI (k := 0) (by omega) (by omega)
    simp only [n3', ob_some, e1, a3]
    rfl
  · intro x p1 k u v hp
    unfold M_X3_letPass_4s
    simp only [hp, if_false, tb, hd_0]
    rw [show ds_one_s (hd d 0) (M_X2_heedAlarm (ds_one (hd d 0)) (ds_tick (hd d 0))) = hd (hd d 0) 1 from rfl]
    rw [show (64 : Nat) = 61 + 1 + 1 + 1 from rfl, lpF_s, show ((u, v, (0 : Int32), hd (hd d 0) 1) : Int32 × Int32 × Int32 × DS) = (u, v, nI 0, hd (hd d 0) 1) from rfl, c2 _ _ _ _ _ _ 0 (by omega) rfl, lpF_s, c3 _ _ _ _ _ _ (0 + 1) (by omega) (by omega), lpF_s]
    unfold M_X3_letPass_34s
    have hle : (2 : Int32) ≤ nI (0 + 1 + 1) := by decide
    simp only [hle, if_true, tb, t3, e1]
    rw [Int32.add_assoc, nI_add]
/-- many passes -/
theorem pass_loop {n P : Nat} (hP : P < 2 ^ 31) : ∀ j i, i + j = P → ∀ (y : MS) (d : DS) (t U : Nat), DRel d (ms_now y) n → DInv d n → ds_tick d = nI t → t + j < 20000 → ∃ d' f M, DRel d' f n ∧ DInv d' n ∧ ds_tick d' = nI (t + j) ∧ dn d' n = dn d n + M ∧ (∀ x N, j < N → lpF (M_X3_letPass_4s x (nI P)) N (nI U, nI i, d) = some (nI (U + M), d')) ∧ ∀ x N b, j < N → lpF (M_X7_pass_54s x (nI P)) N (b, nI i, y) = ((M_X7_ordersIn (ms_now_s y f) (2 : Int32)).bind fun r2 => some (r2 - b, ms_now_s y f)) := by
  intro j
  induction j with
  | zero =>
    intro i hi y d t U h hI ht ht2
    have e : i = P := by omega
    subst e
    refine ⟨d, ms_now y, 0, h, hI, ht, rfl, ?_, ?_⟩
    · intro x N hN
      obtain ⟨q, rfl⟩ : ∃ q, N = q + 1 := ⟨N - 1, by omega⟩
      rw [lpF_s]
      unfold M_X3_letPass_4s
      rw [if_pos (Int32.le_refl _)]
      rfl
    · intro x N b hN
      obtain ⟨q, rfl⟩ : ∃ q, N = q + 1 := ⟨N - 1, by omega⟩
      rw [lpF_s]
      unfold M_X7_pass_54s
      rw [if_pos (Int32.le_refl _)]
      rfl
  | succ j ih =>
    intro i hi y d t U h hI ht ht2
    obtain ⟨d1, f1, m1, r1, i1, t1, n1, p1, c1⟩ := passes_ok h hI ht (by omega)
    obtain ⟨d2, f2, m2, r2, i2, t2, n2, c2, p2⟩ := ih (i + 1) (by omega) (ms_now_s y f1) d1 (t + 1) (U + m1) r1 i1 t1 (by omega)
    have g : ¬ nI P ≤ nI i := nI_ge (by omega) hP
    refine ⟨d2, f2, m1 + m2, r2, i2, by rw [t2, Nat.add_assoc, Nat.add_comm 1 j], by rw [n2, n1]; omega, ?_, ?_⟩
    · intro x N hN
      obtain ⟨q, rfl⟩ : ∃ q, N = q + 1 := ⟨N - 1, by omega⟩
      rw [lpF_s, c1 _ _ _ _ _ g, nI_add, nI_1, c2 x q (by omega), Nat.add_assoc]
    · intro x N b hN
      obtain ⟨q, rfl⟩ : ∃ q, N = q + 1 := ⟨N - 1, by omega⟩
      rw [lpF_s]
      have e : ∀ k, M_X7_pass_54s x (nI P) k (b, nI i, y) = k (b, nI (i + 1), ms_now_s y f1) := by
        intro k
        unfold M_X7_pass_54s
        simp only [g, if_false, p1, ob_some, nI_1]
      rw [e, p2 x q b (by omega)]
      rfl
/-! counting orders in a state -/
theorem c_countIn {d : DS} {n : Nat} (hn : ds_ord d = nI n) (hn2 : n ≤ 40) (s : Int32) : M_X3_countIn d s = some (nI (fb_ct (fun o => decide (fc d o 5 = s)) n)) := by
  unfold M_X3_countIn
  refine lp_run (fun i => (nI (fb_ct (fun o => decide (fc d o 5 = s)) i), nI i)) n ?_ ?_ 64 (by omega)
  · intro i hi kk
    have e : M_X3_fact d (nI i) (5 : Int32) = fc d i 5 := c_fact d (w := 5) (by omega) (by decide)
    unfold M_X3_countIn_4s
    simp only [hn]
    rw [if_neg (nI_ge hi (by omega))]
    simp only [e, M_X3_countIn_25, nI_1]
    by_cases q : fc d i 5 = s
    · rw [if_pos q, ct_t (p := fun o => decide (fc d o 5 = s)) (by simp [q])]
    · rw [if_neg q, ct_f (p := fun o => decide (fc d o 5 = s)) (by simp [q])]
  · intro kk
    unfold M_X3_countIn_4s
    simp only [hn]
    rw [if_pos (Int32.le_refl _)]
theorem r_ordersIn {y : MS} {d : DS} {n : Nat} (h : DRel d (ms_now y) n) (s : Int32) : M_X7_ordersIn y s = some (nI (fb_ct (fun o => decide (fc d o 5 = s)) n)) := by
  have hn := h.le
  unfold M_X7_ordersIn
  refine lp_run (fun i => (nI (fb_ct (fun o => decide (fc d o 5 = s)) i), nI i)) n ?_ ?_ 64 (by omega)
  · intro i hi kk
    have e : M_X7_of y (nI i) (5 : Int32) = some (fc d i 5) := r_of' (w := 5) h (by omega) (by decide)
    unfold M_X7_ordersIn_4s
    simp only [h.now1, ob_some]
    rw [if_neg (nI_ge hi (by omega))]
    simp only [e, ob_some, M_X7_ordersIn_30, nI_1, nI_zI]
    by_cases q : fc d i 5 = s
    · rw [if_pos q, ct_t (p := fun o => decide (fc d o 5 = s)) (by simp [q])]; rfl
    · rw [if_neg q, ct_f (p := fun o => decide (fc d o 5 = s)) (by simp [q])]; rfl
  · intro kk
    unfold M_X7_ordersIn_4s
    simp only [h.now1, ob_some]
    rw [if_pos (Int32.le_refl _)]
theorem nI_subx (a b : Nat) : nI (a + b) - nI a = nI b := by
  rw [← nI_add]
  apply Int32.toBitVec_inj.mp
  rw [Int32.toBitVec_sub, Int32.toBitVec_add, BitVec.add_comm, BitVec.add_sub_cancel]
/-- passes told from outside, both sides' answers -/
theorem letPass_ok {y : MS} {d : DS} {n t P : Nat} (h : DRel d (ms_now y) n) (hI : DInv d n) (ht : ds_tick d = nI t) (hP : P ≤ 50) (ht2 : t + P < 20000) : ∃ v d' f, M_X3_letPass d (nI P) = some (v, d') ∧ ((M_X7_ordersIn y (2 : Int32)).bind fun r4 => (lpF (M_X7_pass_54s y (nI P)) 64 (r4, (0 : Int32), y))) = some (v, ms_now_s y f) ∧ DRel d' f n ∧ DInv d' n ∧ ds_tick d' = nI (t + P) := by
  obtain ⟨d', f, M, r, i, t', nn, c, p⟩ := pass_loop (n := n) (P := P) (by omega) P 0 (by omega) y d t 0 h hI ht ht2
  refine ⟨nI M, d', f, ?_, ?_, r, i, t'⟩
  · have := c d 64 (by omega)
    rw [Nat.zero_add] at this
    exact this
  · rw [r_ordersIn h (2 : Int32), ob_some]
    refine (p y 64 _ (by omega)).trans ?_
    rw [r_ordersIn (y := ms_now_s y f) r (2 : Int32), ob_some]
    have e : fb_ct (fun o => decide (fc d' o 5 = 2)) n = fb_ct (fun o => decide (fc d o 5 = 2)) n + M := nn
    rw [e, nI_subx]
