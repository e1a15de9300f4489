/-! PART 59: what the orders tell fits together -/
theorem stc_sum {d : DS} : ∀ n, (∀ o, o < n → ∃ s, s < 4 ∧ fc d o 5 = nI s) → stc d 0 n + stc d 1 n + stc d 2 n + stc d 3 n = n := by
  intro n
  induction n with
  | zero => intro _; rfl
  | succ n ih =>
    intro h
    have k := ih fun o ho => h o (by omega)
    obtain ⟨s, hs, e⟩ := h n (by omega)
    unfold stc at k ⊢
    rw [fb_ct_succ, fb_ct_succ, fb_ct_succ, fb_ct_succ, e]
    rcases (show s = 0 ∨ s = 1 ∨ s = 2 ∨ s = 3 by omega) with rfl | rfl | rfl | rfl
    · rw [if_pos (by decide), if_neg (by decide), if_neg (by decide), if_neg (by decide)]; omega
    · rw [if_neg (by decide), if_pos (by decide), if_neg (by decide), if_neg (by decide)]; omega
    · rw [if_neg (by decide), if_neg (by decide), if_pos (by decide), if_neg (by decide)]; omega
    · rw [if_neg (by decide), if_neg (by decide), if_neg (by decide), if_pos (by decide)]; omega
theorem ct_le1 {p : Nat → Bool} {n : Nat} (h : ∀ i j, i < n → j < n → p i = true → p j = true → i = j) : fb_ct p n ≤ 1 := by
  rcases Nat.lt_or_ge 1 (fb_ct p n) with g | g
  · obtain ⟨i, i1, i2, i3⟩ := fb_ct_kth (k := 0) (p := p) (n := n) (by omega)
    obtain ⟨j, j1, j2, j3⟩ := fb_ct_kth (k := 1) (p := p) (n := n) g
    have := h i j i1 j1 i2 j2
    subst this
    omega
  · exact g
theorem PI.one_begun {d : DS} {n t : Nat} (h : PI d n t) : stc d 1 n ≤ 1 := by
  have hn := h.le
  refine ct_le1 fun i j hi hj a b => ?_
  have a := h.mk1 i hi (of_decide_eq_true a)
  have b := h.mk1 j hj (of_decide_eq_true b)
  exact nI_inj' (by omega) (by omega) (a.symm.trans b)
def fin9 (d : DS) (o : Nat) : Bool := decide (fc d o 9 = 1)
theorem PI.helped {d : DS} {n t : Nat} (h : PI d n t) : fb_ct (fin9 d) n = fb_ct (dfi d 0) n + fb_ct (dfi d 1) n := by
  have m : ∀ k, k < n → ¬ (dfi d 0 k = true ∧ dfi d 1 k = true) := by
    rintro k hk ⟨a, b⟩
    unfold dfi dby at a b
    revert a b
    by_cases q : fc d k 6 = nI 0
    · rw [q, decide_eq_false (show ¬ nI 0 = nI 1 by decide)]; simp
    · rw [decide_eq_false q]; simp
  rw [← fb_ct_or m]
  refine fb_ct_cong fun o ho => ?_
  obtain ⟨-, -, q⟩ := h.po o ho
  unfold fin9 dfi dby
  rcases q with ⟨-, ⟨c, hc, e6⟩, -, -⟩ | ⟨-, e6, -, e9, -⟩
  · rw [e6]
    rcases (show c = 0 ∨ c = 1 by omega) with rfl | rfl
    · rw [decide_eq_true (show nI 0 = nI 0 from rfl), decide_eq_false (show ¬ nI 0 = nI 1 by decide)]; simp
    · rw [decide_eq_true (show nI 1 = nI 1 from rfl), decide_eq_false (show ¬ nI 1 = nI 0 by decide)]; simp
  · rw [e9, decide_eq_false (show ¬ (0 : Int32) = 1 by decide)]; simp
set_option maxHeartbeats 1000000 in
theorem o_tail {x : SS} {n t i j : Nat} (h : PI (ss_drv x) n t) (hi : i < n) {y : SS} (hc : core y x) (hj : i ≤ j) (hjn : j < n) (hjo : j = i ∨ opn (ss_drv x) i = false) (x0 : SS) (k : Int32 × Bool × Int32 × Int32 × Int32 × Int32 × Int32 × SS → Option (Bool × SS)) (u1 u3 u4 u6 w0 : Int32) (w1 : Bool) :
    M_L_ordersFit_162 x0 k u1 u3 u4 u6 (nI i) (fc (ss_drv x) i 5) (fc (ss_drv x) i 6) (nI j) w0 w1 y = k (u1, true, u3, u4, w0 + zI w1, u6 + fc (ss_drv x) i 9, nI (i + 1), y) := by
  have hn := h.le
  have htl := h.tlt
  have e7 : M_X6_orderOf y (nI i) (7 : Int32) = some (fc (ss_drv x) i 7) := q_orderOf (w := 7) hc.1 h hi (by omega)
  have e8 : M_X6_orderOf y (nI i) (8 : Int32) = some (fc (ss_drv x) i 8) := q_orderOf (w := 8) hc.1 h hi (by omega)
  have e9 : M_X6_orderOf y (nI i) (9 : Int32) = some (fc (ss_drv x) i 9) := q_orderOf (w := 9) hc.1 h hi (by omega)
  have et : M_X6_whole y (5 : Int32) = some (nI t) := q_w5 hc.1 h
  have j1 : ¬ nI j < nI i := nI_nlt hj (by omega)
  unfold M_L_ordersFit_162
  obtain ⟨-, -, q⟩ := h.po i hi
  rcases q with ⟨f5, ⟨c, hc2, f6⟩, ⟨a, b, f7, f8, hab, hbt⟩, -⟩ | ⟨f5, f6, f8, f9, a, hat, f7⟩
  · rw [f7] at e7
    rw [f8] at e8
    have c1 : ¬ (2 : Int32) < 0 := by decide
    have c2 : ¬ (3 : Int32) < 2 := by decide
    have c3 : ¬ nI c < 0 := nI_pos (by omega)
    have c4 : ¬ nI b < 0 := nI_pos (by omega)
    have c5 : ¬ (2 : Int32) < 2 := by decide
    have c6 : ¬ nI t < nI a := nI_nlt (by omega) (by omega)
    have c7 : ¬ nI b < nI a := nI_nlt hab (by omega)
    have c8 : ¬ nI t < nI b := nI_nlt hbt (by omega)
    rw [e9, ob_some, f5, f6]
    simp only [c1, c2, c3, c4, c5, c6, c7, c8, j1, if_true, if_false, zI_if, zI_eq, M_L_ordersFit_200, M_L_ordersFit_210, M_L_ordersFit_224, M_L_ordersFit_240, M_L_ordersFit_248, M_L_ordersFit_273, M_L_ordersFit_294, M_L_ordersFit_340, M_L_ordersFit_345, e7, e8, et, ob_some, nI_1, ite_self]
  · obtain ⟨-, -, -, s, hs, e5⟩ := h.o i hi
    have hs2 : s ≠ 2 := by rintro rfl; exact f5 e5
    rw [f7] at e7
    rw [f8] at e8
    have c3 : (-1 : Int32) < 0 := by decide
    have c6 : ¬ nI t < nI a := nI_nlt (by omega) (by omega)
    have c1 : ¬ nI s < 0 := nI_pos (by omega)
    have c2 : ¬ (3 : Int32) < nI s := nI_nlt (a := 3) (b := s) (by omega) (by omega)
    have c4 : ¬ nI s = (2 : Int32) := fun w => hs2 (nI_inj' (b := 2) (by omega) (by omega) w)
    rw [e9, ob_some, e5, f6]
    have key : (if nI j = nI i then (1 : Nat) else if nI s < (2 : Int32) then 0 else 1) = 1 := by
      rcases hjo with rfl | hjo
      · rw [if_pos rfl]
      · have hs3 : s = 3 := by
          unfold opn at hjo
          rw [e5] at hjo
          rcases (show s = 0 ∨ s = 1 ∨ s = 3 by omega) with rfl | rfl | rfl
          · revert hjo; decide
          · revert hjo; decide
          · rfl
        subst hs3
        rw [if_neg (show ¬ nI 3 < (2 : Int32) by decide)]
        split <;> rfl
    by_cases q1 : nI j = nI i
    · simp only [c1, c2, c3, c4, c6, j1, q1, if_true, if_false, zI_if, zI_eq, Bool.false_eq_true, M_L_ordersFit_200, M_L_ordersFit_210, M_L_ordersFit_224, M_L_ordersFit_240, M_L_ordersFit_248, M_L_ordersFit_273, M_L_ordersFit_294, M_L_ordersFit_340, M_L_ordersFit_345, e7, e8, et, ob_some, nI_1, Int32.lt_irrefl]
    · have q2 : ¬ nI s < (2 : Int32) := by
        intro q2
        rw [if_neg q1, if_pos q2] at key
        exact absurd key (by decide)
      simp only [c1, c2, c3, c4, c6, j1, q1, q2, if_true, if_false, zI_if, zI_eq, Bool.false_eq_true, M_L_ordersFit_200, M_L_ordersFit_210, M_L_ordersFit_224, M_L_ordersFit_240, M_L_ordersFit_248, M_L_ordersFit_273, M_L_ordersFit_294, M_L_ordersFit_340, M_L_ordersFit_345, e7, e8, et, ob_some, nI_1]
theorem o_step {x : SS} {n t i : Nat} (h : PI (ss_drv x) n t) (hi : i < n) {y : SS} (hc : core y x) (x0 : SS) (k : Int32 × Bool × Int32 × Int32 × Int32 × Int32 × Int32 × SS → Option (Bool × SS)) :
    M_L_ordersFit_72s x0 k (nI n, true, lastI (fun o => decide (fc (ss_drv x) o 5 = 1)) i, nI (fb_ct (dby (ss_drv x) 0) i), nI (fb_ct (dby (ss_drv x) 1) i), nI (fb_ct (fin9 (ss_drv x)) i), nI i, y)
      = k (nI n, true, lastI (fun o => decide (fc (ss_drv x) o 5 = 1)) (i + 1), nI (fb_ct (dby (ss_drv x) 0) (i + 1)), nI (fb_ct (dby (ss_drv x) 1) (i + 1)), nI (fb_ct (fin9 (ss_drv x)) (i + 1)), nI (i + 1), y) := by
  have hn := h.le
  have g : ¬ nI n ≤ nI i := nI_ge hi (by omega)
  have e5 : M_X6_orderOf y (nI i) (5 : Int32) = some (fc (ss_drv x) i 5) := q_orderOf (w := 5) hc.1 h hi (by omega)
  have e6 : M_X6_orderOf y (nI i) (6 : Int32) = some (fc (ss_drv x) i 6) := q_orderOf (w := 6) hc.1 h hi (by omega)
  have e0 : M_X6_orderOf y (nI i) (0 : Int32) = some (fc (ss_drv x) i 0) := q_orderOf (w := 0) hc.1 h hi (by omega)
  have e1 : M_X6_orderOf y (nI i) (1 : Int32) = some (fc (ss_drv x) i 1) := q_orderOf (w := 1) hc.1 h hi (by omega)
  obtain ⟨⟨a, ha, f0⟩, ⟨b, hb, f1⟩, q⟩ := h.po i hi
  have ew : M_X6_orderWith y (fc (ss_drv x) i 0) (fc (ss_drv x) i 1) = some (lastI (tagp (ss_drv x) (nI a) (nI b)) n) := by
    rw [f0, f1]; exact q_orderWith hc.1 h ha hb
  obtain ⟨j, j1, j2, j3, j4⟩ := lastI_top (p := tagp (ss_drv x) (nI a) (nI b)) hi (by unfold tagp; rw [f0, f1]; simp)
  rw [j4] at ew
  have hjo : j = i ∨ opn (ss_drv x) i = false := by
    by_cases s : j = i
    · exact Or.inl s
    · right
      have t3 : fc (ss_drv x) j 0 = nI a ∧ fc (ss_drv x) j 1 = nI b := by
        unfold tagp at j3
        revert j3
        by_cases m1 : fc (ss_drv x) j 0 = nI a <;> by_cases m2 : fc (ss_drv x) j 1 = nI b <;> simp [m1, m2]
      exact h.tag i j (by omega) j2 (f0.trans t3.1.symm) (f1.trans t3.2.symm)
  have tail := fun u1 u3 u4 u6 w0 w1 => o_tail h hi hc j1 j2 hjo x0 k u1 u3 u4 u6 w0 w1
  have s0 : nI (fb_ct (dby (ss_drv x) 0) (i + 1)) = nI (fb_ct (dby (ss_drv x) 0) i) + zI (decide (fc (ss_drv x) i 6 = 0)) := by rw [fb_ct_succ, nI_zI]; rfl
  have s1 : nI (fb_ct (dby (ss_drv x) 1) (i + 1)) = nI (fb_ct (dby (ss_drv x) 1) i) + zI (decide (fc (ss_drv x) i 6 = 1)) := by rw [fb_ct_succ, nI_zI]; rfl
  have s9 : nI (fb_ct (fin9 (ss_drv x)) (i + 1)) = nI (fb_ct (fin9 (ss_drv x)) i) + fc (ss_drv x) i 9 := by
    have f9 : fc (ss_drv x) i 9 = 0 ∨ fc (ss_drv x) i 9 = 1 := by
      rcases q with ⟨-, -, -, z⟩ | ⟨-, -, -, z, -⟩
      · exact z
      · exact Or.inl z
    have : fc (ss_drv x) i 9 = zI (fin9 (ss_drv x) i) := by
      unfold fin9
      rcases f9 with z | z <;> rw [z] <;> rfl
    rw [this, fb_ct_succ, nI_zI]
  have sl : lastI (fun o => decide (fc (ss_drv x) o 5 = 1)) (i + 1) = if fc (ss_drv x) i 5 = 1 then nI i else lastI (fun o => decide (fc (ss_drv x) o 5 = 1)) i := by
    show (if decide (fc (ss_drv x) i 5 = 1) = true then nI i else _) = _
    by_cases w : fc (ss_drv x) i 5 = 1
    · rw [decide_eq_true w, if_pos rfl, if_pos w]
    · rw [decide_eq_false w, if_neg (by decide), if_neg w]
  rw [s0, s1, s9, sl]
  unfold M_L_ordersFit_72s
  simp only [g, if_false, zI_if, if_true, e5, e6, e0, e1, ew, ob_some, M_L_ordersFit_133, M_L_ordersFit_146]
  by_cases w0 : fc (ss_drv x) i 6 = 0
  · have w1 : ¬ fc (ss_drv x) i 6 = 1 := by rw [w0]; decide
    rw [decide_eq_true w0, decide_eq_false w1]
    simp only [w0, if_true]
    rw [w0] at tail
    have c01 : ¬ (0 : Int32) = 1 := by decide
    simp only [c01, if_false, tail]
    by_cases w5 : fc (ss_drv x) i 5 = 1
    · simp only [w5, if_true]
    · simp only [w5, if_false]
  · by_cases w1 : fc (ss_drv x) i 6 = 1
    · rw [decide_eq_false w0, decide_eq_true w1]
      simp only [w0, w1, if_true, if_false]
      rw [w1] at tail
      have c10 : ¬ (1 : Int32) = 0 := by decide
      simp only [c10, if_false, tail]
      by_cases w5 : fc (ss_drv x) i 5 = 1
      · simp only [w5, if_true]
      · simp only [w5, if_false]
    · rw [decide_eq_false w0, decide_eq_false w1]
      simp only [w0, w1, if_false, tail]
      by_cases w5 : fc (ss_drv x) i 5 = 1
      · simp only [w5, if_true]
      · simp only [w5, if_false]
theorem l_orders {x : SS} {n t : Nat} (h : PI (ss_drv x) n t) {y : SS} (hc : core y x) : ∃ y', M_L_ordersFit y = some (true, y') ∧ core y' x := by
  have hn := h.le
  have w0 := q_w0 hc.1 h
  have w1 := q_w1 hc.1 h
  have w2 := q_w2 hc.1 h
  have w3 := q_w3 hc.1 h
  have w4 := q_w4 hc.1 h
  have hb := h.one_begun
  have c1 : ¬ nI n < 0 := nI_pos (by omega)
  have c2 : ¬ (40 : Int32) < nI n := nI_nlt (a := 40) (b := n) hn (by omega)
  have c3 : nI (stc (ss_drv x) 0 n) + nI (stc (ss_drv x) 1 n) + nI (stc (ss_drv x) 2 n) + nI (stc (ss_drv x) 3 n) = nI n := by
    rw [nI_add, nI_add, nI_add, stc_sum n fun o ho => (h.inv.1 o ho).2.2.2]
  have c4 : ¬ (1 : Int32) < nI (stc (ss_drv x) 1 n) := nI_nlt (a := 1) hb (by omega)
  unfold M_L_ordersFit
  simp only [w0, w1, w2, w3, w4, ob_some, c1, c2, c3, c4, if_true, if_false, M_L_ordersFit_57]
  have st0 : ((nI n, true, (-1 : Int32), (0 : Int32), (0 : Int32), (0 : Int32), (0 : Int32), y) : Int32 × Bool × Int32 × Int32 × Int32 × Int32 × Int32 × SS) = (fun i => (nI n, true, lastI (fun o => decide (fc (ss_drv x) o 5 = 1)) i, nI (fb_ct (dby (ss_drv x) 0) i), nI (fb_ct (dby (ss_drv x) 1) i), nI (fb_ct (fin9 (ss_drv x)) i), nI i, y)) 0 := rfl
  rw [st0]
  obtain ⟨y', ey, hy'⟩ := l_waits h hc
  refine ⟨y', ?_, hy'⟩
  refine lp_run (fun i => (nI n, true, lastI (fun o => decide (fc (ss_drv x) o 5 = 1)) i, nI (fb_ct (dby (ss_drv x) 0) i), nI (fb_ct (dby (ss_drv x) 1) i), nI (fb_ct (fin9 (ss_drv x)) i), nI i, y)) n ?_ ?_ 64 (by omega)
  · intro i hi k
    exact o_step h hi hc y k
  · intro k
    have a0 : M_X6_controller y (0 : Int32) (5 : Int32) = some (nI (fb_ct (dby (ss_drv x) 0) n)) := q_c5 (c := 0) hc.1 h (by omega)
    have a1 : M_X6_controller y (1 : Int32) (5 : Int32) = some (nI (fb_ct (dby (ss_drv x) 1) n)) := q_c5 (c := 1) hc.1 h (by omega)
    have b0 : M_X6_controller y (0 : Int32) (6 : Int32) = some (nI (fb_ct (dfi (ss_drv x) 0) n)) := q_c6 (c := 0) hc.1 h (by omega)
    have b1 : M_X6_controller y (1 : Int32) (6 : Int32) = some (nI (fb_ct (dfi (ss_drv x) 1) n)) := q_c6 (c := 1) hc.1 h (by omega)
    have w6 := q_w6 hc.1 h
    have f9 : nI (fb_ct (fin9 (ss_drv x)) n) = nI (fb_ct (dfi (ss_drv x) 0) n) + nI (fb_ct (dfi (ss_drv x) 1) n) := by rw [nI_add, h.helped]
    unfold M_L_ordersFit_72s
    simp only [Int32.le_refl, if_true, M_L_ordersFit_352, zI_if]
    rcases lastI_cases (fun o => decide (fc (ss_drv x) o 5 = 1)) n with e | ⟨o, ho, e, p⟩
    · have m1 : (-1 : Int32) < 0 := by decide
      simp only [e, m1, if_true, M_L_ordersFit_370, a0, a1, ob_some, M_L_ordersFit_397, zI_if, b0, b1, f9, ey, M_L_ordersFit_435]
    · have p := h.mk1 o ho (of_decide_eq_true p)
      have m1 : ¬ nI o < 0 := nI_pos (by omega)
      simp only [e, m1, if_true, if_false, w6, p, M_L_ordersFit_370, a0, a1, ob_some, M_L_ordersFit_397, zI_if, b0, b1, f9, ey, M_L_ordersFit_435]
