/-! PART 69: an order is told, the reference -/
theorem MRel.recv {m : Int64} {f f' : Nat → Int32} {k n : Nat} (hn : n < 40) (h : MRel m f k n) (e1 : f' (23 + 8 * k) = nI (fb_ct (mb m) n + 1)) (e2 : f' (36 + 40 * k + fb_ct (mb m) n) = nI n) (e3 : ∀ j, j < fb_ct (mb m) n → f' (36 + 40 * k + j) = f (36 + 40 * k + j)) : MRel (m ||| ((1 : Int64) <<< ((nI n).toInt64 &&& 63))) f' k (n + 1) := by
  obtain ⟨h1, h2, h3⟩ := h
  have hb : ∀ j, mb (m ||| ((1 : Int64) <<< ((nI n).toInt64 &&& 63))) j = (mb m j || decide (j = n)) := fun j => mb_recv m (by omega)
  have hc : ∀ j, j ≤ n → fb_ct (mb (m ||| ((1 : Int64) <<< ((nI n).toInt64 &&& 63)))) j = fb_ct (mb m) j := by
    intro j
    induction j with
    | zero => intro _; rfl
    | succ j ih =>
      intro hj
      rw [fb_ct_succ, fb_ct_succ, ih (by omega), hb j]
      have : decide (j = n) = false := decide_eq_false (by omega)
      rw [this, Bool.or_false]
  have hT : mb (m ||| ((1 : Int64) <<< ((nI n).toInt64 &&& 63))) n = true := by rw [hb n]; simp
  refine ⟨?_, ?_, ?_⟩
  · rw [e1, ct_t hT, hc n (Nat.le_refl n)]
  · intro o ho hm
    by_cases q : o = n
    · rw [q, hc n (Nat.le_refl n)]; exact e2
    · have hm2 : mb m o = true := by
        rw [hb o] at hm
        simpa [q] using hm
      have hlt := ct_in (p := mb m) (show o < n by omega) hm2
      rw [hc o (by omega), e3 _ hlt]
      exact h2 o (by omega) hm2
  · intro o ho ho2
    rw [hb o, h3 o (by omega) ho2]
    have : ¬ o = n := by omega
    simp [this]
theorem CRel.recv {c : CS} {f f' : Nat → Int32} {k n : Nat} (hn : n < 40) (h : CRel c f k n) (e0 : ∀ j, j < 8 → j ≠ 3 → f' (20 + 8 * k + j) = f (20 + 8 * k + j)) (e1 : f' (23 + 8 * k) = nI (fb_ct (mb (cs_mail c)) n + 1)) (e2 : f' (36 + 40 * k + fb_ct (mb (cs_mail c)) n) = nI n) (e3 : ∀ j, j < fb_ct (mb (cs_mail c)) n → f' (36 + 40 * k + j) = f (36 + 40 * k + j)) : CRel (M_X2_receive c (nI n)) f' k (n + 1) := by
  obtain ⟨h0, h1, h2, h4, h5, h6, h7, hM⟩ := h
  have g : ∀ j i, j < 8 → j ≠ 3 → i = 20 + 8 * k + j → f' i = f i := by
    intro j i hj hj3 hi
    rw [hi]; exact e0 j hj hj3
  refine ⟨(g 0 _ (by omega) (by omega) (by omega)).trans h0, (g 1 _ (by omega) (by omega) (by omega)).trans h1, (g 2 _ (by omega) (by omega) (by omega)).trans h2, (g 4 _ (by omega) (by omega) (by omega)).trans h4, (g 5 _ (by omega) (by omega) (by omega)).trans h5, (g 6 _ (by omega) (by omega) (by omega)).trans h6, (g 7 _ (by omega) (by omega) (by omega)).trans h7, ?_⟩
  exact hM.recv hn e1 e2 e3
theorem DRel.mor {e : DS} {F f' : Nat → Int32} {n : Nat} (h : DRel e F n) (hn : n < 40) (e1 : f' 1 = nI (n + 1)) (e2 : ∀ c, c < 2 → f' (23 + 8 * c) = nI (fb_ct (ml e c) n + 1) ∧ f' (36 + 40 * c + fb_ct (ml e c) n) = nI n) (eo : ∀ i, i ≠ 1 → i ≠ 23 → i ≠ 31 → i ≠ 36 + fb_ct (ml e 0) n → i ≠ 76 + fb_ct (ml e 1) n → f' i = F i) : DRel (mor e n) f' (n + 1) := by
  have L0 := fb_ct_le (ml e 0) n
  have L1 := fb_ct_le (ml e 1) n
  obtain ⟨h0, h1, h2, h3, h4, h5, h6, h7, h8⟩ := h
  refine ⟨by rw [eo 0 (by omega) (by omega) (by omega) (by omega) (by omega)]; exact h0, e1, rfl, by omega, by rw [eo 2 (by omega) (by omega) (by omega) (by omega) (by omega)]; exact h4, by rw [eo 3 (by omega) (by omega) (by omega) (by omega) (by omega)]; exact h5, fun b hb => by rw [eo _ (by omega) (by omega) (by omega) (by omega) (by omega)]; exact h6 b hb, fun i hi => by rw [eo _ (by omega) (by omega) (by omega) (by omega) (by omega)]; exact h7 i hi, fun k hk => ?_⟩
  rcases (show k = 0 ∨ k = 1 by omega) with rfl | rfl
  · refine CRel.recv (c := dCtl e (nI 0)) hn (h8 0 (by decide)) (fun j hj hj3 => eo _ (by omega) (by omega) (by omega) (by omega) (by omega)) (e2 0 (by decide)).1 (e2 0 (by decide)).2 (fun j hj => ?_)
    have hj : j < fb_ct (ml e 0) n := hj
    exact eo _ (by omega) (by omega) (by omega) (by omega) (by omega)
  · refine CRel.recv (c := dCtl e (nI 1)) hn (h8 1 (by decide)) (fun j hj hj3 => eo _ (by omega) (by omega) (by omega) (by omega) (by omega)) (e2 1 (by decide)).1 (e2 1 (by decide)).2 (fun j hj => ?_)
    have hj : j < fb_ct (ml e 1) n := hj
    exact eo _ (by omega) (by omega) (by omega) (by omega) (by omega)
/-- the row with the facts of a new order -/
def tf10 (f : Nat → Int32) (n : Nat) (t p1 p2 p3 p4 p5 : Int32) : Nat → Int32 := upd (upd (upd (upd (upd (upd (upd (upd (upd (upd f (116 + 12 * n + 0) p1) (116 + 12 * n + 1) p2) (116 + 12 * n + 2) p3) (116 + 12 * n + 3) p4) (116 + 12 * n + 4) p5) (116 + 12 * n + 5) 0) (116 + 12 * n + 6) (-1)) (116 + 12 * n + 7) t) (116 + 12 * n + 8) (-1)) (116 + 12 * n + 9) 0
theorem tf10_out {f : Nat → Int32} {n i : Nat} {t p1 p2 p3 p4 p5 : Int32} (h : i < 116 + 12 * n ∨ 126 + 12 * n ≤ i) : tf10 f n t p1 p2 p3 p4 p5 i = f i := by
  unfold tf10
  repeat rw [pk_un (by omega)]
theorem tf10_rel {d : DS} {f : Nat → Int32} {n : Nat} (h : DRel d f n) (hn : n < 40) (p1 p2 p3 p4 p5 : Int32) : DRel (tl10 d n p1 p2 p3 p4 p5) (tf10 f n (ds_tick d) p1 p2 p3 p4 p5) n :=
  (((((((((h.dF hn (by decide)).dF hn (by decide)).dF hn (by decide)).dF hn (by decide)).dF hn (by decide)).dF hn (by decide)).dF hn (by decide)).dF hn (by decide)).dF hn (by decide)).dF hn (by decide)
def tf12 (f : Nat → Int32) (n : Nat) (t d0 d1 p1 p2 p3 p4 p5 : Int32) : Nat → Int32 := upd (upd (tf10 f n t p1 p2 p3 p4 p5) (116 + 12 * n + 10) (t + d0)) (116 + 12 * n + 11) (t + d1)
theorem tf12_rel {d : DS} {f : Nat → Int32} {n : Nat} (h : DRel d f n) (hn : n < 40) (p1 p2 p3 p4 p5 : Int32) : DRel (tl12 d n p1 p2 p3 p4 p5) (tf12 f n (ds_tick d) (cs_delay (dCtl d (nI 0))) (cs_delay (dCtl d (nI 1))) p1 p2 p3 p4 p5) n :=
  ((tf10_rel h hn p1 p2 p3 p4 p5).dF hn (by decide)).dF hn (by decide)
/-- what the reference does once nothing is refused -/
def rtell (x y : MS) (p1 p2 p3 p4 p5 : Int32) : Option (Int32 × MS) := (ald 596 (ms_now y) (1 : Int32)).bind fun v4 => (ald 596 (ms_now y) (1 : Int32)).bind fun v5 => (ast 596 (ms_now y) (1 : Int32) (v5 + (1 : Int32))).bind fun f6 => tb (ms_now_s y f6) fun y_7 => (M_X7_put y_7 v4 (0 : Int32) p1).bind fun r8 => (M_X7_put r8 v4 (1 : Int32) p2).bind fun r9 => (M_X7_put r9 v4 (2 : Int32) p3).bind fun r10 => (M_X7_put r10 v4 (3 : Int32) p4).bind fun r11 => (M_X7_put r11 v4 (4 : Int32) p5).bind fun r12 => (M_X7_put r12 v4 (5 : Int32) (0 : Int32)).bind fun r13 => (M_X7_put r13 v4 (6 : Int32) (-1 : Int32)).bind fun r14 => (ald 596 (ms_now r14) (0 : Int32)).bind fun v15 => (M_X7_put r14 v4 (7 : Int32) v15).bind fun r16 => (M_X7_put r16 v4 (8 : Int32) (-1 : Int32)).bind fun r17 => (M_X7_put r17 v4 (9 : Int32) (0 : Int32)).bind fun r18 => lpF (M_X7_order_220s x p1 p2 p3 p4 p5) 64 (v4, (0 : Int32), r18)
/-- a step of its loop -/
def tst (g : Nat → Int32) (n c : Nat) (T C : Int32) (L : Nat) : Nat → Int32 := upd (upd (upd g (116 + 12 * n + (10 + c)) (T + C)) (36 + 40 * c + L) (nI n)) (20 + 8 * c + 3) (nI (L + 1))
theorem r_tstep {x y : MS} {n c L : Nat} (hn : n < 40) (hc : c < 2) (hL : L < 40) {T C p1 p2 p3 p4 p5 : Int32} (eT : ms_now y 0 = T) (eC : ms_now y (20 + 8 * c + 1) = C) (eL : ms_now y (20 + 8 * c + 3) = nI L) (k : Int32 × Int32 × MS → Option (Int32 × MS)) : M_X7_order_220s x p1 p2 p3 p4 p5 k (nI n, nI c, y) = k (nI n, nI (c + 1), ms_now_s y (tst (ms_now y) n c T C L)) := by
  have a0 : ald 596 (ms_now y) (0 : Int32) = some T := by rw [← eT]; exact ald_nI (k := 0) (by omega) (by omega)
  have a1 : M_X7_control y (nI c) (1 : Int32) = some C := by rw [← eC]; exact r_control y (w := 1) hc (by decide)
  have a2 : M_X7_put y (nI n) ((10 : Int32) + nI c) (T + C) = some (ms_now_s y (upd (ms_now y) (116 + 12 * n + (10 + c)) (T + C))) := by
    rw [show (10 : Int32) + nI c = nI (10 + c) from nI_add 10 c]
    exact r_put y hn (by omega)
  have e3 : upd (ms_now y) (116 + 12 * n + (10 + c)) (T + C) (20 + 8 * c + 3) = nI L := by rw [pk_un (by omega)]; exact eL
  have a3 : M_X7_control (ms_now_s y (upd (ms_now y) (116 + 12 * n + (10 + c)) (T + C))) (nI c) (3 : Int32) = some (nI L) := by
    rw [← e3]; exact r_control (ms_now_s y (upd (ms_now y) (116 + 12 * n + (10 + c)) (T + C))) (w := 3) hc (by decide)
  have a4 : ast 596 (ms_now (ms_now_s y (upd (ms_now y) (116 + 12 * n + (10 + c)) (T + C)))) (((36 : Int32) + ((40 : Int32) * nI c)) + nI L) (nI n) = some (upd (upd (ms_now y) (116 + 12 * n + (10 + c)) (T + C)) (36 + 40 * c + L) (nI n)) := by
    rw [ix_mail]
    exact ast_nI (by omega) (by omega)
  have e5 : upd (upd (ms_now y) (116 + 12 * n + (10 + c)) (T + C)) (36 + 40 * c + L) (nI n) (20 + 8 * c + 3) = nI L := by rw [pk_un (by omega)]; exact e3
  have a5 : M_X7_more (ms_now_s y (upd (upd (ms_now y) (116 + 12 * n + (10 + c)) (T + C)) (36 + 40 * c + L) (nI n))) (nI c) (3 : Int32) = some (ms_now_s y (tst (ms_now y) n c T C L)) := by
    have := r_more (ms_now_s y (upd (upd (ms_now y) (116 + 12 * n + (10 + c)) (T + C)) (36 + 40 * c + L) (nI n))) (w := 3) hc (by decide)
    refine this.trans ?_
    rw [ms_now_get, e5]
    unfold tst
    rw [show nI L + (1 : Int32) = nI (L + 1) from nI_add L 1]
    rfl
  unfold M_X7_order_220s
  rw [if_neg (show ¬ (2 : Int32) ≤ nI c from nI_ge (a := c) (b := 2) hc (by omega))]
  simp only [a0, a1, ob_some, a2, a3, a4, tb, now_ss, a5]
  rw [show nI c + (1 : Int32) = nI (c + 1) from nI_add c 1]
theorem rtell_ok {x y : MS} {d : DS} {n : Nat} (h : DRel d (ms_now y) n) (hn : n < 40) (p1 p2 p3 p4 p5 : Int32) : ∃ f', rtell x y p1 p2 p3 p4 p5 = some (nI n, ms_now_s y f') ∧ DRel (mor (tl12 d n p1 p2 p3 p4 p5) n) f' (n + 1) := by
  have P : ∀ g w v, w < 12 → M_X7_put (ms_now_s y g) (nI n) (nI w) v = some (ms_now_s y (upd g (116 + 12 * n + w) v)) := fun g w v hw => r_put (ms_now_s y g) hn hw
  have q0 : ∀ g v, M_X7_put (ms_now_s y g) (nI n) (0 : Int32) v = some (ms_now_s y (upd g (116 + 12 * n + 0) v)) := fun g v => P g 0 v (by decide)
  have q1 : ∀ g v, M_X7_put (ms_now_s y g) (nI n) (1 : Int32) v = some (ms_now_s y (upd g (116 + 12 * n + 1) v)) := fun g v => P g 1 v (by decide)
  have q2 : ∀ g v, M_X7_put (ms_now_s y g) (nI n) (2 : Int32) v = some (ms_now_s y (upd g (116 + 12 * n + 2) v)) := fun g v => P g 2 v (by decide)
  have q3 : ∀ g v, M_X7_put (ms_now_s y g) (nI n) (3 : Int32) v = some (ms_now_s y (upd g (116 + 12 * n + 3) v)) := fun g v => P g 3 v (by decide)
  have q4 : ∀ g v, M_X7_put (ms_now_s y g) (nI n) (4 : Int32) v = some (ms_now_s y (upd g (116 + 12 * n + 4) v)) := fun g v => P g 4 v (by decide)
  have q5 : ∀ g v, M_X7_put (ms_now_s y g) (nI n) (5 : Int32) v = some (ms_now_s y (upd g (116 + 12 * n + 5) v)) := fun g v => P g 5 v (by decide)
  have q6 : ∀ g v, M_X7_put (ms_now_s y g) (nI n) (6 : Int32) v = some (ms_now_s y (upd g (116 + 12 * n + 6) v)) := fun g v => P g 6 v (by decide)
  have q7 : ∀ g v, M_X7_put (ms_now_s y g) (nI n) (7 : Int32) v = some (ms_now_s y (upd g (116 + 12 * n + 7) v)) := fun g v => P g 7 v (by decide)
  have q8 : ∀ g v, M_X7_put (ms_now_s y g) (nI n) (8 : Int32) v = some (ms_now_s y (upd g (116 + 12 * n + 8) v)) := fun g v => P g 8 v (by decide)
  have q9 : ∀ g v, M_X7_put (ms_now_s y g) (nI n) (9 : Int32) v = some (ms_now_s y (upd g (116 + 12 * n + 9) v)) := fun g v => P g 9 v (by decide)
  obtain ⟨A, hA⟩ : ∃ A, A = upd (ms_now y) 1 (nI (n + 1)) := ⟨_, rfl⟩
  have b0 : ast 596 (ms_now y) (1 : Int32) (nI n + (1 : Int32)) = some A := by
    rw [show nI n + (1 : Int32) = nI (n + 1) from nI_add n 1, hA]
    exact ast_nI (k := 1) (by omega) (by omega)
  have bT : ∀ g, g 0 = ds_tick d → ald 596 g (0 : Int32) = some (ds_tick d) := by
    intro g hg
    rw [← hg]; exact ald_nI (k := 0) (by omega) (by omega)
  have A0 : A 0 = ds_tick d := by rw [hA, pk_un (by omega)]; exact h.1
  obtain ⟨L0, hL0⟩ : ∃ L, L = fb_ct (ml d 0) n := ⟨_, rfl⟩
  obtain ⟨L1, hL1⟩ : ∃ L, L = fb_ct (ml d 1) n := ⟨_, rfl⟩
  have hl0 : L0 ≤ n := by rw [hL0]; exact fb_ct_le _ _
  have hl1 : L1 ≤ n := by rw [hL1]; exact fb_ct_le _ _
  obtain ⟨G, hG⟩ : ∃ G, G = tf10 A n (ds_tick d) p1 p2 p3 p4 p5 := ⟨_, rfl⟩
  have GA : ∀ i, i < 116 → G i = A i := fun i hi => by rw [hG]; exact tf10_out (Or.inl (by omega))
  have GY : ∀ i, i < 116 → i ≠ 1 → G i = ms_now y i := fun i hi h1 => by rw [GA i hi, hA, pk_un (by omega)]
  obtain ⟨c0, hc0⟩ : ∃ c, c = cs_delay (dCtl d (nI 0)) := ⟨_, rfl⟩
  obtain ⟨c1, hc1⟩ : ∃ c, c = cs_delay (dCtl d (nI 1)) := ⟨_, rfl⟩
  have y21 : ms_now y 21 = c0 := by rw [hc0]; exact h.g_delay (c := 0) (by decide)
  have y29 : ms_now y 29 = c1 := by rw [hc1]; exact h.g_delay (c := 1) (by decide)
  have y23 : ms_now y 23 = nI L0 := by rw [hL0]; exact (h.2.2.2.2.2.2.2.2 0 (by decide)).2.2.2.2.2.2.2.1
  have y31 : ms_now y 31 = nI L1 := by rw [hL1]; exact (h.2.2.2.2.2.2.2.2 1 (by decide)).2.2.2.2.2.2.2.1
  obtain ⟨G1, hG1⟩ : ∃ g, g = tst G n 0 (ds_tick d) c0 L0 := ⟨_, rfl⟩
  obtain ⟨G2, hG2⟩ : ∃ g, g = tst G1 n 1 (ds_tick d) c1 L1 := ⟨_, rfl⟩
  have G1o : ∀ i, i < 116 → i ≠ 36 + L0 → i ≠ 23 → G1 i = G i := by
    intro i hi h1 h2
    rw [hG1]; unfold tst
    rw [pk_un (by omega), pk_un (by omega), pk_un (by omega)]
  have e1 : rtell x y p1 p2 p3 p4 p5 = some (nI n, ms_now_s y G2) := by
    unfold rtell
    simp only [h.now1, ob_some, b0, tb, q0, q1, q2, q3, q4, q5, q6, ms_now_get]
    rw [bT _ (by (repeat rw [pk_un (by omega)]); exact A0)]
    simp only [ob_some, q7, q8, q9]
    have eG : ms_now_s y G = ms_now_s y (tf10 A n (ds_tick d) p1 p2 p3 p4 p5) := by rw [hG]
    refine Eq.trans (congrArg (fun z => lpF (M_X7_order_220s x p1 p2 p3 p4 p5) 64 (nI n, nI 0, z)) eG.symm) ?_
    rw [lpF_s (n := 63), r_tstep (y := ms_now_s y G) (c := 0) (T := ds_tick d) (C := c0) (L := L0) hn (by decide) (by omega) ((GY 0 (by omega) (by omega)).trans h.1) ((GY 21 (by omega) (by omega)).trans y21) ((GY 23 (by omega) (by omega)).trans y23)]
    rw [ms_now_get, now_ss, ← hG1, lpF_s (n := 62), r_tstep (y := ms_now_s y G1) (c := 1) (T := ds_tick d) (C := c1) (L := L1) hn (by decide) (by omega) ((G1o 0 (by omega) (by omega) (by omega)).trans ((GY 0 (by omega) (by omega)).trans h.1)) ((G1o 29 (by omega) (by omega) (by omega)).trans ((GY 29 (by omega) (by omega)).trans y29)) ((G1o 31 (by omega) (by omega) (by omega)).trans ((GY 31 (by omega) (by omega)).trans y31))]
    rw [ms_now_get, now_ss, ← hG2, lpF_s (n := 61)]
    unfold M_X7_order_220s
    rw [if_pos (show (2 : Int32) ≤ nI (1 + 1) by decide)]
  have hF := tf12_rel h hn p1 p2 p3 p4 p5
  rw [← hc0, ← hc1] at hF
  refine ⟨G2, e1, hF.mor hn ?_ ?_ ?_⟩
  · rw [hG2]; unfold tst
    rw [pk_un (by omega), pk_un (by omega), pk_un (by omega), G1o 1 (by omega) (by omega) (by omega), GA 1 (by omega), hA]
    exact pk_us
  · intro c hc
    rcases (show c = 0 ∨ c = 1 by omega) with rfl | rfl
    · have z : fb_ct (ml (tl12 d n p1 p2 p3 p4 p5) 0) n = L0 := hL0.symm
      rw [z, hG2]
      unfold tst
      refine ⟨?_, ?_⟩
      · rw [pk_un (by omega), pk_un (by omega), pk_un (by omega), hG1]
        unfold tst
        exact pk_us
      · rw [pk_un (by omega), pk_un (by omega), pk_un (by omega), hG1]
        unfold tst
        rw [pk_un (by omega)]
        exact pk_us
    · have z : fb_ct (ml (tl12 d n p1 p2 p3 p4 p5) 1) n = L1 := hL1.symm
      rw [z, hG2]
      unfold tst
      refine ⟨pk_us, ?_⟩
      rw [pk_un (by omega)]
      exact pk_us
  · intro i i1 i23 i31 i36 i76
    have z0 : fb_ct (ml (tl12 d n p1 p2 p3 p4 p5) 0) n = L0 := hL0.symm
    have z1 : fb_ct (ml (tl12 d n p1 p2 p3 p4 p5) 1) n = L1 := hL1.symm
    rw [z0] at i36
    rw [z1] at i76
    have w : ∀ (g : Nat → Int32) (k : Nat) (v : Int32) (e : Int32), (i = k → v = e) → (i ≠ k → g i = e) → upd g k v i = e := by
      intro g k v e h1 h2
      unfold upd
      by_cases q : i = k
      · rw [if_pos q]; exact h1 q
      · rw [if_neg q]; exact h2 q
    have GF : G i = tf10 (ms_now y) n (ds_tick d) p1 p2 p3 p4 p5 i := by
      rw [hG]
      unfold tf10
      have : A i = ms_now y i := by rw [hA, pk_un (by omega)]
      simp only [upd, this]
    have G1F : G1 i = upd G (116 + 12 * n + (10 + 0)) (ds_tick d + c0) i := by
      rw [hG1]; unfold tst
      rw [pk_un (by omega), pk_un (by omega)]
    have G2F : G2 i = upd G1 (116 + 12 * n + (10 + 1)) (ds_tick d + c1) i := by
      rw [hG2]; unfold tst
      rw [pk_un (by omega), pk_un (by omega)]
    rw [G2F]
    unfold tf12
    unfold upd at G1F ⊢
    rw [G1F, GF]
