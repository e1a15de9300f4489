/-! PART 60: mailboxes, the next order and the reasons fit one another -/
theorem nxv_cases {d : DS} {n t c : Nat} (h : PI d n t) : nxv d n c = -1 ∨ ∃ o, o < n ∧ nxv d n c = nI o ∧ opn d o = true := by
  unfold nxv
  cases ht : M_X3_isTorn d
  · rw [if_neg (by decide)]
    cases hf : fst' (tk d c) n with
    | none => exact Or.inl rfl
    | some o =>
      obtain ⟨a, b, -⟩ := fst'_some.mp hf
      refine Or.inr ⟨o, a, rfl, ?_⟩
      revert b
      unfold tk
      cases opn d o <;> simp
  · rw [if_pos rfl]
    obtain ⟨o, ho, eo, h5⟩ := h.torn_of ht
    exact Or.inr ⟨o, ho, eo, by unfold opn; rw [h5]; decide⟩
theorem mlAt_kth {d : DS} {c n q : Nat} (h : q < fb_ct (ml d c) n) : ∃ o, mlAt d c n q = some o := by
  cases e : mlAt d c n q with
  | none => exact absurd (mlAt_none e) (by omega)
  | some o => exact ⟨o, rfl⟩
theorem mlAt_end {d : DS} {c n : Nat} : mlAt d c n (fb_ct (ml d c) n) = none := by
  cases e : mlAt d c n (fb_ct (ml d c) n) with
  | none => rfl
  | some o =>
    obtain ⟨a, b, k⟩ := mlAt_some e
    exact absurd (ct_in (p := ml d c) a b) (by omega)
set_option maxHeartbeats 1000000 in
theorem m_step {x : SS} {n t c i : Nat} (h : PI (ss_drv x) n t) (hcc : c < 2) (hi : i < n) {y : SS} (hc : core y x) (y0 : SS) (p1 : Int32) (hp : p1 = nI c) (hy0 : y0 = y) (k : Bool × Int32 × Int32 × Int32 → Option Bool) :
    M_L_mailFits_136s y0 p1 k (true, nxv (ss_drv x) n c, nI (fb_ct (fun o => decide (nxv (ss_drv x) n c = nI o)) i), nI i) = k (true, nxv (ss_drv x) n c, nI (fb_ct (fun o => decide (nxv (ss_drv x) n c = nI o)) (i + 1)), nI (i + 1)) := by
  subst hp hy0
  have hn := h.le
  have g : ¬ nI n ≤ nI i := nI_ge hi (by omega)
  have w0 := q_w0 hc.1 h
  have w2 := q_w2 hc.1 h
  have er := q_reason hc.1 h hcc hi
  have eo := l_isOpen hc.1 h hi
  have ef := q_waitsFor hc.1 h hi
  have sz : nI (fb_ct (fun o => decide (nxv (ss_drv x) n c = nI o)) (i + 1)) = nI (fb_ct (fun o => decide (nxv (ss_drv x) n c = nI o)) i) + zI (decide (nxv (ss_drv x) n c = nI i)) := by rw [fb_ct_succ, nI_zI]
  rw [sz]
  unfold M_L_mailFits_136s
  by_cases q1 : nxv (ss_drv x) n c = nI i
  · have hop : opn (ss_drv x) i = true := by
      rcases nxv_cases (c := c) h with z | ⟨o, ho, z1, z2⟩
      · exact absurd (q1.symm.trans z) (nI_nm1 (by omega))
      · have := nI_inj' (a := i) (b := o) (by omega) (by omega) (q1.symm.trans z1)
        subst this
        exact z2
    have ev : whv (ss_drv x) n c i = 0 := by unfold whv; rw [if_pos q1]
    rw [hop] at eo
    rw [ev] at er
    have a1 : ¬ (0 : Int32) < 0 := by decide
    have a2 : ¬ (6 : Int32) < 0 := by decide
    have a3 : ¬ (0 : Int32) = 1 := by decide
    have a4 : ¬ (0 : Int32) = 5 := by decide
    have a5 : ¬ (0 : Int32) = 2 := by decide
    rw [decide_eq_true q1]
    simp only [w0, er, eo, ob_some, g, q1, a1, a2, a3, a4, a5, if_true, if_false, zI_if, zI_eq, M_L_mailFits_172, M_L_mailFits_197, M_L_mailFits_209, M_L_mailFits_223, M_L_mailFits_237, M_L_mailFits_255, M_L_mailFits_270, M_L_mailFits_275, nI_1]
  · rw [decide_eq_false q1]
    cases hop : opn (ss_drv x) i
    · have ev : whv (ss_drv x) n c i = 1 := by unfold whv; rw [if_neg q1, hop]; rfl
      rw [hop] at eo
      rw [ev] at er
      have a1 : ¬ (1 : Int32) < 0 := by decide
      have a2 : ¬ (6 : Int32) < 1 := by decide
      have a3 : ¬ (1 : Int32) = 0 := by decide
      have a4 : ¬ (1 : Int32) = 5 := by decide
      have a5 : ¬ (1 : Int32) = 2 := by decide
      simp only [w0, er, eo, ob_some, g, q1, a1, a2, a3, a4, a5, if_true, if_false, Bool.false_eq_true, zI_if, zI_eq, M_L_mailFits_172, M_L_mailFits_197, M_L_mailFits_209, M_L_mailFits_223, M_L_mailFits_237, M_L_mailFits_255, M_L_mailFits_270, M_L_mailFits_275, nI_1]
    · rw [hop] at eo
      have hv : whv (ss_drv x) n c i = 2 ∧ M_X3_isTorn (ss_drv x) = true ∨ whv (ss_drv x) n c i = 3 ∨ whv (ss_drv x) n c i = 4 ∨ whv (ss_drv x) n c i = 5 ∧ ¬ optI (fw (ss_drv x) i) = -1 ∨ whv (ss_drv x) n c i = 6 := by
        unfold whv
        rw [if_neg q1, hop, if_pos rfl]
        cases M_X3_isTorn (ss_drv x)
        · rw [if_neg (by decide)]
          cases ml (ss_drv x) c i
          · rw [if_neg (by decide)]; exact Or.inr (Or.inl rfl)
          · rw [if_pos rfl]
            cases arr (ss_drv x) c i
            · rw [if_neg (by decide)]; exact Or.inr (Or.inr (Or.inl rfl))
            · rw [if_pos rfl]
              by_cases q2 : optI (fw (ss_drv x) i) = -1
              · rw [if_pos q2]; exact Or.inr (Or.inr (Or.inr (Or.inr rfl)))
              · rw [if_neg q2]; exact Or.inr (Or.inr (Or.inr (Or.inl ⟨rfl, q2⟩)))
        · rw [if_pos rfl]; exact Or.inl ⟨rfl, rfl⟩
      have go : ∀ v : Int32, whv (ss_drv x) n c i = v → ¬ v < 0 → ¬ (6 : Int32) < v → ¬ v = 0 → ¬ v = 1 → (v = 5 → ¬ awv (ss_drv x) i < 0) → (v = 2 → stc (ss_drv x) 1 n = 1) → ((M_X6_whole y0 (0 : Int32)).bind fun r1 => (if r1 ≤ nI i then (M_L_mailFits_283 y0 (nI c) true (nxv (ss_drv x) n c) (nI (fb_ct (fun o => decide (nxv (ss_drv x) n c = nI o)) i))) else (if (zI true) = 0 then (M_L_mailFits_283 y0 (nI c) true (nxv (ss_drv x) n c) (nI (fb_ct (fun o => decide (nxv (ss_drv x) n c = nI o)) i))) else ((M_X6_reason y0 (nI c) (nI i)).bind fun r4 => (if r4 = 0 then (M_L_mailFits_172 y0 (nI c) k (nxv (ss_drv x) n c) (nI i) r4 (nI (fb_ct (fun o => decide (nxv (ss_drv x) n c = nI o)) i)) true) else (M_L_mailFits_172 y0 (nI c) k (nxv (ss_drv x) n c) (nI i) r4 (nI (fb_ct (fun o => decide (nxv (ss_drv x) n c = nI o)) i)) false)))))) = k (true, nxv (ss_drv x) n c, nI (fb_ct (fun o => decide (nxv (ss_drv x) n c = nI o)) i) + zI false, nI (i + 1)) := by
        intro v ev a1 a2 a3 a4 a5 a6
        rw [ev] at er
        by_cases v5 : v = 5
        · subst v5
          have b1 := a5 rfl
          have b2 : ¬ (5 : Int32) = 2 := by decide
          simp only [w0, er, eo, ef, ob_some, g, q1, a1, a2, a3, a4, b1, b2, if_true, if_false, zI_if, zI_eq, M_L_mailFits_172, M_L_mailFits_197, M_L_mailFits_209, M_L_mailFits_223, M_L_mailFits_237, M_L_mailFits_255, M_L_mailFits_270, M_L_mailFits_275, nI_1]
        · by_cases v2 : v = 2
          · subst v2
            have b1 : nI (stc (ss_drv x) 1 n) = 1 := by rw [a6 rfl]; rfl
            have b2 : ¬ (2 : Int32) = 5 := by decide
            simp only [w0, w2, er, eo, ob_some, g, q1, a1, a2, a3, a4, b1, b2, if_true, if_false, zI_if, zI_eq, M_L_mailFits_172, M_L_mailFits_197, M_L_mailFits_209, M_L_mailFits_223, M_L_mailFits_237, M_L_mailFits_255, M_L_mailFits_270, M_L_mailFits_275, nI_1]
          · simp only [w0, er, eo, ob_some, g, q1, a1, a2, a3, a4, v5, v2, if_true, if_false, zI_if, zI_eq, M_L_mailFits_172, M_L_mailFits_197, M_L_mailFits_209, M_L_mailFits_223, M_L_mailFits_237, M_L_mailFits_255, M_L_mailFits_270, M_L_mailFits_275, nI_1]
      rcases hv with ⟨v, ht⟩ | v | v | ⟨v, hf⟩ | v
      · refine go _ v (by decide) (by decide) (by decide) (by decide) (fun w => absurd w (by decide)) (fun _ => ?_)
        obtain ⟨o, ho, -, h5⟩ := h.torn_of ht
        have hb := h.one_begun
        have : 0 < stc (ss_drv x) 1 n := fb_ct_pos.mpr ⟨o, ho, decide_eq_true h5⟩
        omega
      · exact go _ v (by decide) (by decide) (by decide) (by decide) (fun w => absurd w (by decide)) (fun w => absurd w (by decide))
      · exact go _ v (by decide) (by decide) (by decide) (by decide) (fun w => absurd w (by decide)) (fun w => absurd w (by decide))
      · refine go _ v (by decide) (by decide) (by decide) (by decide) (fun _ => ?_) (fun w => absurd w (by decide))
        unfold awv
        rw [hop, if_pos rfl]
        cases hw : fw (ss_drv x) i with
        | none => rw [hw] at hf; exact absurd rfl hf
        | some e =>
          have := fw_lt hw
          exact nI_pos (show e < 2 ^ 31 by omega)
      · exact go _ v (by decide) (by decide) (by decide) (by decide) (fun w => absurd w (by decide)) (fun w => absurd w (by decide))
theorem m_list {x : SS} {n t c i : Nat} (h : PI (ss_drv x) n t) (hcc : c < 2) (hi : i < fb_ct (ml (ss_drv x) c) n) {y : SS} (hc : core y x) (y0 : SS) (p1 : Int32) (hp : p1 = nI c) (hy0 : y0 = y) (k : Int32 × Bool × Int32 → Option Bool) :
    M_L_mailFits_56s y0 p1 k (nI (fb_ct (ml (ss_drv x) c) n), true, nI i) = k (nI (fb_ct (ml (ss_drv x) c) n), true, nI (i + 1)) := by
  subst hp hy0
  have hn := h.le
  have hm := fb_ct_le (ml (ss_drv x) c) n
  have g : ¬ nI (fb_ct (ml (ss_drv x) c) n) ≤ nI i := nI_ge hi (by omega)
  have w0 := q_w0 hc.1 h
  obtain ⟨o, eo⟩ := mlAt_kth hi
  obtain ⟨o1, o2, o3⟩ := mlAt_some eo
  have em : M_X6_mail y0 (nI c) (nI i) = some (nI o) := by rw [q_mail hc.1 h hcc (by omega), eo]; rfl
  have a1 : ¬ nI o < 0 := nI_pos (by omega)
  have a2 : ¬ nI n ≤ nI o := nI_ge o1 (by omega)
  unfold M_L_mailFits_56s
  by_cases q : i = 0
  · subst q
    have q0 : nI 0 = 0 := rfl
    simp only [g, em, w0, ob_some, a1, a2, q0, if_true, if_false, zI_if, M_L_mailFits_110, M_L_mailFits_115, nI_1]
    simp only [q0] at g em
    simp only [g, em, w0, ob_some, a1, a2, if_true, if_false]
    rfl
  · obtain ⟨j, rfl⟩ : ∃ j, i = j + 1 := ⟨i - 1, by omega⟩
    have q0 : ¬ nI (j + 1) = 0 := fun w => absurd ((nI_zero (by omega)).mp w) (by omega)
    obtain ⟨o', eo'⟩ := mlAt_kth (show j < fb_ct (ml (ss_drv x) c) n by omega)
    obtain ⟨r1, r2, r3⟩ := mlAt_some eo'
    have em' : M_X6_mail y0 (nI c) (nI (j + 1) - (1 : Int32)) = some (nI o') := by rw [ordI, q_mail hc.1 h hcc (by omega), eo']; rfl
    have lt : o' < o := by
      rcases Nat.lt_or_ge o' o with w | w
      · exact w
      · have := fb_ct_mono (ml (ss_drv x) c) w
        omega
    have a3 : ¬ nI o ≤ nI o' := nI_ge lt (by omega)
    simp only [g, em, em', w0, ob_some, a1, a2, a3, q0, if_true, if_false, zI_if, M_L_mailFits_110, M_L_mailFits_115, nI_1]
theorem nx_zeros {d : DS} {n t c : Nat} (h : PI d n t) : nI (fb_ct (fun o => decide (nxv d n c = nI o)) n) = zI (decide (0 ≤ nxv d n c)) := by
  have hn := h.le
  rcases nxv_cases (c := c) h with e | ⟨o, ho, e, -⟩
  · rw [e, decide_eq_false (show ¬ (0 : Int32) ≤ -1 by decide)]
    have : fb_ct (fun o => decide ((-1 : Int32) = nI o)) n = 0 := fb_ct_zero.mpr fun k hk => decide_eq_false fun w => nI_nm1 (o := k) (by omega) w.symm
    rw [this]; rfl
  · rw [e, decide_eq_true (show (0 : Int32) ≤ nI o from nI_pos' (by omega))]
    have a : fb_ct (fun i => decide (nI o = nI i)) n = fb_ct (fun _ => false) n + 1 := ct_one ho rfl (decide_eq_true rfl) (fun i hi hne => decide_eq_false fun w => hne (nI_inj' (by omega) (by omega) w).symm)
    have b : fb_ct (fun _ => false) n = 0 := fb_ct_zero.mpr fun _ _ => rfl
    rw [a, b]; rfl
theorem l_mail3 {x : SS} {n t c : Nat} (h : PI (ss_drv x) n t) (hcc : c < 2) {y : SS} (hc : core y x) : M_L_mailFits_283 y (nI c) true (nxv (ss_drv x) n c) (nI (fb_ct (fun o => decide (nxv (ss_drv x) n c = nI o)) n)) = some true := by
  have hn := h.le
  have e5 := q_c5 hc.1 h hcc
  have e6 := q_c6 hc.1 h hcc
  have hf : fb_ct (dfi (ss_drv x) c) n ≤ fb_ct (dby (ss_drv x) c) n := fb_ct_sub fun k _ w => by
    revert w
    unfold dfi
    cases dby (ss_drv x) c k <;> simp
  have hd := fb_ct_le (dby (ss_drv x) c) n
  have a5 : ¬ nI (fb_ct (dby (ss_drv x) c) n) < nI (fb_ct (dfi (ss_drv x) c) n) := nI_nlt hf (by omega)
  have z := nx_zeros (c := c) h
  rw [z]
  unfold M_L_mailFits_283 M_L_mailFits_300 M_L_mailFits_324
  rw [e5, e6, ob_some, ob_some, if_neg a5]
  by_cases q : 0 ≤ nxv (ss_drv x) n c
  · rw [decide_eq_true q, if_pos q, if_pos rfl]; rfl
  · rw [decide_eq_false q, if_neg q, if_pos rfl]; rfl
theorem l_mail2 {x : SS} {n t c : Nat} (h : PI (ss_drv x) n t) (hcc : c < 2) {y : SS} (hc : core y x) : M_L_mailFits_123 y (nI c) true = some true := by
  have hn := h.le
  have en := q_nextFor hc.1 h hcc
  have w0 := q_w0 hc.1 h
  have st0 : ((true, nxv (ss_drv x) n c, (0 : Int32), (0 : Int32)) : Bool × Int32 × Int32 × Int32) = (fun i => (true, nxv (ss_drv x) n c, nI (fb_ct (fun o => decide (nxv (ss_drv x) n c = nI o)) i), nI i)) 0 := rfl
  unfold M_L_mailFits_123
  rw [en, ob_some, st0]
  refine lp_run (fun i => (true, nxv (ss_drv x) n c, nI (fb_ct (fun o => decide (nxv (ss_drv x) n c = nI o)) i), nI i)) n ?_ ?_ 64 (by omega)
  · intro i hi kk
    exact m_step h hcc hi hc y (nI c) rfl rfl kk
  · intro kk
    unfold M_L_mailFits_136s
    rw [w0, ob_some, if_pos (Int32.le_refl _)]
    exact l_mail3 h hcc hc
theorem l_mail1 {x : SS} {n t c : Nat} (h : PI (ss_drv x) n t) (hcc : c < 2) {y : SS} (hc : core y x) : M_L_mailFits_51 y (nI c) (nI (fb_ct (ml (ss_drv x) c) n)) true = some true := by
  have hn := h.le
  have hm := fb_ct_le (ml (ss_drv x) c) n
  have st0 : ((nI (fb_ct (ml (ss_drv x) c) n), true, (0 : Int32)) : Int32 × Bool × Int32) = (fun i => (nI (fb_ct (ml (ss_drv x) c) n), true, nI i)) 0 := rfl
  unfold M_L_mailFits_51
  rw [st0]
  refine lp_run (fun i => (nI (fb_ct (ml (ss_drv x) c) n), true, nI i)) (fb_ct (ml (ss_drv x) c) n) ?_ ?_ 64 (by omega)
  · intro i hi k
    exact m_list h hcc hi hc y (nI c) rfl rfl k
  · intro k
    unfold M_L_mailFits_56s
    rw [if_pos (Int32.le_refl _)]
    exact l_mail2 h hcc hc
theorem l_mail {x : SS} {n t c : Nat} (h : PI (ss_drv x) n t) (hcc : c < 2) {y : SS} (hc : core y x) (p1 : Int32) (hp : p1 = nI c) : M_L_mailFits y p1 = some true := by
  subst hp
  have hn := h.le
  have hm := fb_ct_le (ml (ss_drv x) c) n
  have ha : fb_ct (fun o => ml (ss_drv x) c o && arr (ss_drv x) c o) n ≤ fb_ct (ml (ss_drv x) c) n := fb_ct_sub fun k _ w => by
    revert w
    cases ml (ss_drv x) c k <;> simp
  have e3 := q_c3 hc.1 h hcc
  have e4 := q_c4 hc.1 h hcc
  have w0 := q_w0 hc.1 h
  have em : M_X6_mail y (nI c) (nI (fb_ct (ml (ss_drv x) c) n)) = some (-1) := by rw [q_mail hc.1 h hcc (by omega), mlAt_end]; rfl
  have a1 : ¬ nI (fb_ct (ml (ss_drv x) c) n) < 0 := nI_pos (by omega)
  have a2 : ¬ nI n < nI (fb_ct (ml (ss_drv x) c) n) := nI_nlt hm (by omega)
  have a3 : ¬ nI (fb_ct (fun o => ml (ss_drv x) c o && arr (ss_drv x) c o) n) < 0 := nI_pos (by omega)
  have a4 : ¬ nI (fb_ct (ml (ss_drv x) c) n) < nI (fb_ct (fun o => ml (ss_drv x) c o && arr (ss_drv x) c o) n) := nI_nlt ha (by omega)
  unfold M_L_mailFits
  rw [e3, ob_some, e4, ob_some, if_neg a1, w0, ob_some, if_neg a2, if_neg a3, if_neg a4, em, ob_some, if_pos rfl]
  exact l_mail1 h hcc hc
