/-! PART 58: waits and depths fit one another -/
theorem zI_eq {b c : Bool} : zI b = zI c ↔ b = c := by cases b <;> cases c <;> decide
theorem dpi_zero {d : DS} {g : Nat → Nat} {o : Nat} : ∀ e, (∀ i, i < e → (opn d i && mts d o i) = false) → dpi d g o e = 0 := by
  intro e
  induction e with
  | zero => intro _; rfl
  | succ e ih =>
    intro h
    unfold dpi
    rw [h e (by omega), if_neg (by decide)]
    exact ih fun i hi => h i (by omega)
theorem dpi_gt {d : DS} {g : Nat → Nat} {o i : Nat} (hw : (opn d i && mts d o i) = true) : ∀ e, i < e → g i < dpi d g o e := by
  intro e
  induction e with
  | zero => intro h; omega
  | succ e ih =>
    intro hi
    unfold dpi
    by_cases q : i = e
    · subst q
      rw [if_pos hw]
      split <;> omega
    · have k := ih (by omega)
      split
      · split <;> omega
      · exact k
theorem dv_none {d : DS} {o : Nat} (h : fw d o = none) : dv d o = 0 := by
  rw [dv_eq]
  exact dpi_zero o (fst'_none.mp h)
theorem dv_some {d : DS} {o e : Nat} (h : fw d o = some e) : e < o ∧ opn d e = true ∧ dv d e < dv d o := by
  obtain ⟨a, b, -⟩ := fst'_some.mp h
  refine ⟨a, ?_, ?_⟩
  · revert b; cases opn d e <;> simp
  · rw [dv_eq d o]
    exact dpi_gt b o a
theorem l_waits {x : SS} {n t : Nat} (h : PI (ss_drv x) n t) {y : SS} (hc : core y x) : ∃ y', M_L_waitsFit y (nI n) = some (true, y') ∧ core y' x := by
  have hn := h.le
  have m1 : (-1 : Int32) < 0 := by decide
  have m0 : ¬ (0 : Int32) ≤ -1 := by decide
  unfold M_L_waitsFit
  refine lp_inv (Q := fun r => ∃ y', r = some (true, y') ∧ core y' x) (fun i z => z.1 = true ∧ z.2.1 = nI i ∧ core z.2.2 x) n ?_ ?_ 64 (by omega) _ ⟨rfl, rfl, hc⟩
  · rintro i hi ⟨z1, z2, z3⟩ ⟨h1, h2, h3⟩ k
    have h1 : z1 = true := h1
    have h2 : z2 = nI i := h2
    have h3 : core z3 x := h3
    subst h1 h2
    have g : ¬ nI n ≤ nI i := nI_ge hi (by omega)
    have e1 := q_waitsFor h3.1 h hi
    obtain ⟨z4, hz4, e2⟩ : ∃ z4, core z4 x ∧ M_X6_depth z3 (nI i) = some (cdv (ss_drv x) i, z4) := ⟨_, h3.dep _, q_depth h3.1 h hi⟩
    have e3 := l_isOpen hz4.1 h hi
    cases ho : opn (ss_drv x) i
    · have a1 : awv (ss_drv x) i = -1 := by unfold awv; rw [ho]; rfl
      have a2 : cdv (ss_drv x) i = -1 := by unfold cdv; rw [ho]; rfl
      rw [a1] at e1
      rw [a2] at e2
      rw [ho] at e3
      refine ⟨(true, nI (i + 1), z4), ⟨rfl, rfl, hz4⟩, ?_⟩
      unfold M_L_waitsFit_4s
      simp only [g, e1, e2, e3, ob_some, zI_if, if_true, if_false, Bool.false_eq_true, M_L_waitsFit_87, M_L_waitsFit_123, M_L_waitsFit_128, m1, nI_1]
    · rw [ho] at e3
      cases hf : fw (ss_drv x) i with
      | none =>
        have a1 : awv (ss_drv x) i = -1 := by unfold awv; rw [ho, hf]; rfl
        have a2 : cdv (ss_drv x) i = 0 := by unfold cdv; rw [ho, dv_none hf]; rfl
        rw [a1] at e1
        rw [a2] at e2
        refine ⟨(true, nI (i + 1), z4), ⟨rfl, rfl, hz4⟩, ?_⟩
        unfold M_L_waitsFit_4s
        simp only [g, e1, e2, e3, ob_some, zI_if, zI_eq, if_true, if_false, M_L_waitsFit_49, M_L_waitsFit_59, M_L_waitsFit_87, M_L_waitsFit_123, M_L_waitsFit_128, m0, m1, nI_1]
      | some e =>
        obtain ⟨he, hop, hlt⟩ := dv_some hf
        have hdl := dv_le' (ss_drv x) i
        have a1 : awv (ss_drv x) i = nI e := by unfold awv; rw [ho, hf]; rfl
        have a2 : cdv (ss_drv x) i = nI (dv (ss_drv x) i) := by unfold cdv; rw [ho]; rfl
        have a3 : cdv (ss_drv x) e = nI (dv (ss_drv x) e) := by unfold cdv; rw [hop]; rfl
        rw [a1] at e1
        rw [a2] at e2
        have e4 := l_isOpen hz4.1 h (show e < n by omega)
        rw [hop] at e4
        obtain ⟨z5, hz5, e5⟩ : ∃ z5, core z5 x ∧ M_X6_depth z4 (nI e) = some (cdv (ss_drv x) e, z5) := ⟨_, hz4.dep _, q_depth hz4.1 h (show e < n by omega)⟩
        rw [a3] at e5
        have g1 : (0 : Int32) ≤ nI e := nI_pos' (by omega)
        have g2 : ¬ nI (dv (ss_drv x) i) = 0 := fun w => absurd ((nI_zero (by omega)).mp w) (by omega)
        have g3 : ¬ nI e < 0 := nI_pos (by omega)
        have g4 : ¬ nI i ≤ nI e := nI_ge he (by omega)
        have g5 : ¬ nI (dv (ss_drv x) i) ≤ nI (dv (ss_drv x) e) := nI_ge hlt (by omega)
        refine ⟨(true, nI (i + 1), z5), ⟨rfl, rfl, hz5⟩, ?_⟩
        unfold M_L_waitsFit_4s
        simp only [g, e1, e2, e3, e4, e5, ob_some, zI_if, zI_eq, if_true, if_false, M_L_waitsFit_49, M_L_waitsFit_59, M_L_waitsFit_87, M_L_waitsFit_123, M_L_waitsFit_128, g1, g2, g3, g4, g5, nI_1]
  · rintro ⟨z1, z2, z3⟩ ⟨h1, h2, h3⟩ k
    have h1 : z1 = true := h1
    have h2 : z2 = nI n := h2
    have h3 : core z3 x := h3
    subst h1 h2
    refine ⟨z3, ?_, h3⟩
    unfold M_L_waitsFit_4s
    simp only [Int32.le_refl, if_true, M_L_waitsFit_135]
