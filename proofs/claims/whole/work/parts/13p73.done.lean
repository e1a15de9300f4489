/-! PART 73: doneIn -/
theorem pass_one {y : MS} {d : DS} {n t : Nat} (h : DRel d (ms_now y) n) (hI : DInv d n) (ht : ds_tick d = nI t) (ht2 : t + 1 < 20000) : ∃ v d' f, M_X3_letPass d (1 : Int32) = some (v, d') ∧ M_X7_passes y = some (ms_now_s y f) ∧ DRel d' f n ∧ DInv d' n ∧ ds_tick d' = nI (t + 1) := by
  obtain ⟨d', f, m, r, i, t', -, e, p⟩ := passes_ok h hI ht ht2
  refine ⟨(0 : Int32) + nI m, d', f, ?_, e, r, i, t'⟩
  unfold M_X3_letPass
  rw [lpF_s (n := 63), p _ _ _ _ _ (by decide), lpF_s (n := 62)]
  unfold M_X3_letPass_4s
  rw [if_pos (show (1 : Int32) ≤ 0 + 1 by decide)]
theorem open_ok {y : MS} {d : DS} {n : Nat} (h : DRel d (ms_now y) n) : ∃ k, k ≤ 80 ∧ M_X7_openOrders y = some (nI k) ∧ M_X3_hasOpenOrder d = some (decide (k ≠ 0)) := by
  have hn := h.le
  have l0 := fb_ct_le (fun o => decide (fc d o 5 = (0 : Int32))) n
  have l1 := fb_ct_le (fun o => decide (fc d o 5 = (1 : Int32))) n
  refine ⟨fb_ct (fun o => decide (fc d o 5 = (0 : Int32))) n + fb_ct (fun o => decide (fc d o 5 = (1 : Int32))) n, by omega, ?_, ?_⟩
  · unfold M_X7_openOrders
    rw [r_ordersIn h, ob_some, r_ordersIn h, ob_some, nI_add]
  · unfold M_X3_hasOpenOrder M_X3_hasOpenOrder_19
    rw [c_countIn h.ord hn, ob_some, c_countIn h.ord hn, ob_some, nI_add]
    obtain ⟨k, hk⟩ : ∃ k, k = fb_ct (fun o => decide (fc d o 5 = (0 : Int32))) n + fb_ct (fun o => decide (fc d o 5 = (1 : Int32))) n := ⟨_, rfl⟩
    rw [← hk]
    by_cases q : k = 0
    · rw [q, if_pos (show nI 0 ≤ 0 by decide)]; rfl
    · rw [if_neg (nI_nle (by omega) (by omega)), decide_eq_true q]
theorem done_loop {n : Nat} : ∀ j i, i + j = 201 → ∀ (x0 x : SS) (y0 y : MS) (d : DS) (t : Nat), ss_img x = d → DRel d (ms_now y) n → DInv d n → ds_tick d = nI t → t + j < 20000 → ∃ c g f, c ≤ 201 ∧ (∀ N, j < N → lpF (M_X6_doneIn_13s x0) N (nI i, x) = some ((if c ≤ 200 then nI c else -1), ss_img_s x g)) ∧ ∀ N, j < N → lpF (M_X7_doneIn_34s y0) N (nI i, y) = M_X7_doneIn_58 y0 (nI c) (ms_now_s y f) := by
  intro j
  induction j with
  | zero =>
    intro i hi x0 x y0 y d t hx h hI ht ht2
    refine ⟨201, ss_img x, ms_now y, by omega, ?_, ?_⟩
    · intro N hN
      obtain ⟨M, rfl⟩ : ∃ M, N = M + 1 := ⟨N - 1, by omega⟩
      rw [lpF_s]
      unfold M_X6_doneIn_13s
      rw [show i = 201 by omega, if_pos (show (200 : Int32) < nI 201 by decide), if_neg (by omega)]
      rfl
    · intro N hN
      obtain ⟨M, rfl⟩ : ∃ M, N = M + 1 := ⟨N - 1, by omega⟩
      rw [lpF_s]
      unfold M_X7_doneIn_34s
      rw [show i = 201 by omega, if_pos (show (200 : Int32) < nI 201 by decide)]
      exact congrArg (M_X7_doneIn_58 y0 (nI 201)) (show y = ms_now_s y (ms_now y) from rfl)
  | succ j ih =>
    intro i hi x0 x y0 y d t hx h hI ht ht2
    obtain ⟨k, hk, e1, e2⟩ := open_ok h
    have g200 : ¬ (200 : Int32) < nI i := nI_nlt (a := 200) (b := i) (by omega) (by omega)
    by_cases q : k = 0
    · refine ⟨i, ss_img x, ms_now y, by omega, ?_, ?_⟩
      · intro N hN
        obtain ⟨M, rfl⟩ : ∃ M, N = M + 1 := ⟨N - 1, by omega⟩
        rw [lpF_s]
        unfold M_X6_doneIn_13s
        rw [if_neg g200]
        simp only [hx, e2, ob_some]
        rw [decide_eq_false (show ¬ k ≠ 0 from fun w => w q), if_pos (show zI false = 0 from rfl), if_pos (show i ≤ 200 by omega)]
        subst hx
        exact congrArg some (congrArg (fun w => (nI i, w)) (show x = ss_img_s x (ss_img x) from rfl))
      · intro N hN
        obtain ⟨M, rfl⟩ : ∃ M, N = M + 1 := ⟨N - 1, by omega⟩
        rw [lpF_s]
        unfold M_X7_doneIn_34s
        rw [if_neg g200]
        simp only [e1, ob_some]
        rw [q, if_pos (show nI 0 ≤ 0 by decide)]
        exact congrArg (M_X7_doneIn_58 y0 (nI i)) (show y = ms_now_s y (ms_now y) from rfl)
    · obtain ⟨v, d', f, c1, r1, r2, r3, r4⟩ := pass_one h hI ht (by omega)
      obtain ⟨c, g, f2, hc, a, b⟩ := ih (i + 1) (by omega) x0 (ss_img_s x d') y0 (ms_now_s y f) d' (t + 1) rfl r2 r3 r4 (by omega)
      refine ⟨c, g, f2, hc, ?_, ?_⟩
      · intro N hN
        obtain ⟨M, rfl⟩ : ∃ M, N = M + 1 := ⟨N - 1, by omega⟩
        rw [lpF_s]
        unfold M_X6_doneIn_13s
        rw [if_neg g200]
        simp only [hx, e2, ob_some]
        rw [decide_eq_true q, if_neg (show ¬ zI true = 0 by decide), c1, ob_some]
        simp only [tb]
        rw [nI_1]
        exact a M (by omega)
      · intro N hN
        obtain ⟨M, rfl⟩ : ∃ M, N = M + 1 := ⟨N - 1, by omega⟩
        rw [lpF_s]
        unfold M_X7_doneIn_34s
        rw [if_neg g200]
        simp only [e1, ob_some]
        rw [if_neg (nI_nle (by omega) (by omega)), r1, ob_some, nI_1]
        exact b M (by omega)
theorem done_back {y0 y : MS} {c : Nat} (hc : c ≤ 201) : M_X7_doneIn_58 y0 (nI c) y = some ((if c ≤ 200 then nI c else -1), ms_now_s y (cpP (ms_now y) (ms_aside y) 0 596)) := by
  unfold M_X7_doneIn_58
  have z0 : ∀ p f, cpP p f 0 0 = p := by
    intro p f
    funext m; unfold cpP; rw [if_neg (by omega)]
  have e0 : ((nI c, (0 : Int32), y) : Int32 × Int32 × MS) = (fun i => (nI c, nI i, ms_now_s y (cpP (ms_now y) (ms_aside y) 0 i))) 0 := by
    simp only [z0]; rfl
  rw [e0]
  refine lp_run (fun i => (nI c, nI i, ms_now_s y (cpP (ms_now y) (ms_aside y) 0 i))) 596 ?_ ?_ 4000 (by omega)
  · intro i hi k
    unfold M_X7_doneIn_60s
    have g : ¬ (596 : Int32) ≤ nI i := nI_ge (a := i) (b := 596) hi (by omega)
    have a1 : ald 596 (ms_aside (ms_now_s y (cpP (ms_now y) (ms_aside y) 0 i))) (nI i) = some (ms_aside y i) := ald_nI (by omega) (by omega)
    have a2 : ast 596 (ms_now (ms_now_s y (cpP (ms_now y) (ms_aside y) 0 i))) (nI i) (ms_aside y i) = some (cpP (ms_now y) (ms_aside y) 0 (i + 1)) := by
      rw [ast_nI (by omega) (by omega)]
      have := cpP_s (p := ms_now y) (f := ms_aside y) (b := 0) (j := i)
      rw [Nat.zero_add] at this
      exact congrArg some this
    simp only [g, if_false, a1, ob_some, a2, tb, nI_1]
    rfl
  · intro k
    unfold M_X7_doneIn_60s M_X7_doneIn_97
    rw [if_pos (show (596 : Int32) ≤ nI 596 by decide)]
    by_cases q : c ≤ 200
    · rw [if_pos q, if_pos (show nI c ≤ (200 : Int32) from nI_le (a := c) (b := 200) q (by omega))]
    · rw [if_neg q, if_neg (show ¬ nI c ≤ (200 : Int32) from nI_ge (a := 200) (b := c) (by omega) (by omega))]
theorem q_done {x : SS} {y : MS} (h : SRel x y) : ∃ v x' y', M_X6_doneIn x = some (v, x') ∧ M_X7_doneIn y = some (v, y') ∧ ms_refusal y' = 0 ∧ SRel x' y' := by
  have h' := h
  obtain ⟨n, t, hd, hI, ht, ht9⟩ := h.1
  obtain ⟨A, hA⟩ : ∃ A, A = cpP (ms_aside y) (ms_now y) 0 596 := ⟨_, rfl⟩
  have hd1 : DRel (M_X3_become (ss_img x) (ss_drv x)) (ms_now y) n := become_rel hd
  have hI1 : DInv (M_X3_become (ss_img x) (ss_drv x)) n := become_inv hd.le hI
  have ht1 : ds_tick (M_X3_become (ss_img x) (ss_drv x)) = nI t := ht
  obtain ⟨c, g, f, hc, a, b⟩ := done_loop (n := n) 201 0 (by omega) x (ss_img_s x (M_X3_become (ss_img x) (ss_drv x))) y (ms_aside_s (ms_refusal_s y 0) A) _ t rfl hd1 hI1 ht1 (by omega)
  refine ⟨(if c ≤ 200 then nI c else -1), ss_img_s (ss_img_s x (M_X3_become (ss_img x) (ss_drv x))) g, ms_now_s (ms_now_s (ms_aside_s (ms_refusal_s y 0) A) f) (cpP f A 0 596), ?_, ?_, rfl, ?_⟩
  · unfold M_X6_doneIn
    simp only [tb]
    exact a 400 (by omega)
  · unfold M_X7_doneIn
    simp only [tb]
    have z0 : cpP (ms_aside y) (ms_now y) 0 0 = ms_aside y := by
      funext m; unfold cpP; rw [if_neg (by omega)]
    have e0 : (((0 : Int32), ms_refusal_s y 0) : Int32 × MS) = (fun i => (nI i, ms_aside_s (ms_refusal_s y 0) (cpP (ms_aside y) (ms_now y) 0 i))) 0 := by
      simp only [z0]; rfl
    rw [e0]
    refine lp_run (fun i => (nI i, ms_aside_s (ms_refusal_s y 0) (cpP (ms_aside y) (ms_now y) 0 i))) 596 ?_ ?_ 4000 (by omega)
    · intro i hi k
      unfold M_X7_doneIn_7s
      have g0 : ¬ (596 : Int32) ≤ nI i := nI_ge (a := i) (b := 596) hi (by omega)
      have a1 : ald 596 (ms_now (ms_aside_s (ms_refusal_s y 0) (cpP (ms_aside y) (ms_now y) 0 i))) (nI i) = some (ms_now y i) := ald_nI (by omega) (by omega)
      have a2 : ast 596 (ms_aside (ms_aside_s (ms_refusal_s y 0) (cpP (ms_aside y) (ms_now y) 0 i))) (nI i) (ms_now y i) = some (cpP (ms_aside y) (ms_now y) 0 (i + 1)) := by
        rw [ast_nI (by omega) (by omega)]
        have := cpP_s (p := ms_aside y) (f := ms_now y) (b := 0) (j := i)
        rw [Nat.zero_add] at this
        exact congrArg some this
      simp only [g0, if_false, a1, ob_some, a2, tb, nI_1]
      rfl
    · intro k
      unfold M_X7_doneIn_7s
      rw [if_pos (show (596 : Int32) ≤ nI 596 by decide)]
      have := b 4000 (by omega)
      rw [hA] at this
      refine Eq.trans this ?_
      rw [hA]
      exact done_back hc
  · refine ⟨⟨n, t, ?_, hI, ht, ht9⟩, h'.2⟩
    refine DRel.rows (f := ms_now y) hd fun i hi => ?_
    show cpP f A 0 596 i = ms_now y i
    rw [hA]
    unfold cpP
    rw [if_pos (by omega), if_pos (by omega)]
    rfl
