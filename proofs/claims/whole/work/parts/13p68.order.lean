/-! PART 68: an order is told -/
theorem canBe_eq (k a b : Int32) : M_X7_canBe k a b = M_X3_isOrderOfItsKind k a b := rfl
theorem kind_t {k a b : Int32} (h : M_X3_isOrderOfItsKind k a b = true) : (∃ j, j < 4 ∧ k = nI j) ∧ (∃ j, j < 16 ∧ a = nI j) ∧ (k = 2 → ∃ j, j < 16 ∧ b = nI j) := by
  have blk : ∀ p, M_X6_isWithin p 0 15 = true → ∃ j, j < 16 ∧ p = nI j := by
    intro p hp
    obtain ⟨j, hj, e⟩ := win_t (N := 15) (by decide) hp
    exact ⟨j, by omega, e⟩
  unfold M_X3_isOrderOfItsKind M_X3_isOrderOfItsKind_32 at h
  by_cases k0 : k = 0
  · rw [if_pos k0, zI_if] at h
    cases hb : M_X6_isWithin a 0 15
    · rw [hb] at h; cases h
    · exact ⟨⟨0, by decide, k0⟩, blk a hb, fun q => by rw [k0] at q; exact absurd q (by decide)⟩
  · rw [if_neg k0] at h
    by_cases k1 : k = 1
    · rw [if_pos k1, zI_if] at h
      cases hb : M_X6_isWithin a 0 15
      · rw [hb] at h; cases h
      · exact ⟨⟨1, by decide, k1⟩, blk a hb, fun q => by rw [k1] at q; exact absurd q (by decide)⟩
    · rw [if_neg k1] at h
      by_cases k2 : k = 2
      · rw [if_pos k2, zI_if, zI_if] at h
        cases hb : M_X6_isWithin a 0 15
        · rw [hb] at h; cases h
        · cases hb2 : M_X6_isWithin b 0 15
          · rw [hb, hb2] at h; cases h
          · exact ⟨⟨2, by decide, k2⟩, blk a hb, fun _ => blk b hb2⟩
      · rw [if_neg k2] at h
        by_cases k3 : k = 3
        · rw [if_pos k3] at h
          by_cases a0 : a = 0
          · exact ⟨⟨3, by decide, k3⟩, ⟨0, by decide, a0⟩, fun q => absurd q k2⟩
          · rw [if_neg a0] at h; cases h
        · rw [if_neg k3] at h; cases h
/-- the drive with the first facts of a new order -/
def tl10 (d : DS) (n : Nat) (p1 p2 p3 p4 p5 : Int32) : DS := dF (dF (dF (dF (dF (dF (dF (dF (dF (dF d n 0 p1) n 1 p2) n 2 p3) n 3 p4) n 4 p5) n 5 0) n 6 (-1)) n 7 (ds_tick d)) n 8 (-1)) n 9 0
def tl12 (d : DS) (n : Nat) (p1 p2 p3 p4 p5 : Int32) : DS := dF (dF (tl10 d n p1 p2 p3 p4 p5) n 10 (ds_tick d + cs_delay (dCtl d (nI 0)))) n 11 (ds_tick d + cs_delay (dCtl d (nI 1)))
def mor (e : DS) (n : Nat) : DS := ds_ord_s (dCtl_s (dCtl_s e (nI 0) (M_X2_receive (dCtl e (nI 0)) (nI n))) (nI 1) (M_X2_receive (dCtl e (nI 1)) (nI n))) (nI (n + 1))
theorem cz0 (d : DS) : dCtl d (nI 0) = ds_zero d := rfl
theorem cz1 (d : DS) : dCtl d (nI 1) = ds_one d := rfl
theorem cs0' (d : DS) (x : CS) : dCtl_s d (nI 0) x = ds_zero_s d x := rfl
theorem cs1' (d : DS) (x : CS) : dCtl_s d (nI 1) x = ds_one_s d x := rfl
theorem c_tell {d : DS} {n : Nat} (ho : ds_ord d = nI n) (hn : n < 40) (p1 p2 p3 p4 p5 : Int32) : M_X3_tell d p1 p2 p3 p4 p5 = some (nI n, mor (tl12 d n p1 p2 p3 p4 p5) n) := by
  have s0 : ∀ e v, M_X3_setFact e (nI n) (0 : Int32) v = dF e n 0 v := fun e v => c_setFact e (w := 0) hn (by decide) v
  have s1 : ∀ e v, M_X3_setFact e (nI n) (1 : Int32) v = dF e n 1 v := fun e v => c_setFact e (w := 1) hn (by decide) v
  have s2 : ∀ e v, M_X3_setFact e (nI n) (2 : Int32) v = dF e n 2 v := fun e v => c_setFact e (w := 2) hn (by decide) v
  have s3 : ∀ e v, M_X3_setFact e (nI n) (3 : Int32) v = dF e n 3 v := fun e v => c_setFact e (w := 3) hn (by decide) v
  have s4 : ∀ e v, M_X3_setFact e (nI n) (4 : Int32) v = dF e n 4 v := fun e v => c_setFact e (w := 4) hn (by decide) v
  have s5 : ∀ e v, M_X3_setFact e (nI n) (5 : Int32) v = dF e n 5 v := fun e v => c_setFact e (w := 5) hn (by decide) v
  have s6 : ∀ e v, M_X3_setFact e (nI n) (6 : Int32) v = dF e n 6 v := fun e v => c_setFact e (w := 6) hn (by decide) v
  have s7 : ∀ e v, M_X3_setFact e (nI n) (7 : Int32) v = dF e n 7 v := fun e v => c_setFact e (w := 7) hn (by decide) v
  have s8 : ∀ e v, M_X3_setFact e (nI n) (8 : Int32) v = dF e n 8 v := fun e v => c_setFact e (w := 8) hn (by decide) v
  have s9 : ∀ e v, M_X3_setFact e (nI n) (9 : Int32) v = dF e n 9 v := fun e v => c_setFact e (w := 9) hn (by decide) v
  have t0 : ∀ e v, M_X3_setFact e (nI n) ((10 : Int32) + nI 0) v = dF e n 10 v := fun e v => c_setFact e (w := 10) hn (by decide) v
  have t1 : ∀ e v, M_X3_setFact e (nI n) ((10 : Int32) + nI 1) v = dF e n 11 v := fun e v => c_setFact e (w := 11) hn (by decide) v
  unfold M_X3_tell
  simp only [tb, ho, s0, s1, s2, s3, s4, s5, s6, s7, s8, s9]
  have st : ∀ (e : DS) (k : Int32 × Int32 × DS → Option (Int32 × DS)), M_X3_tell_98s d p1 p2 p3 p4 p5 k (nI n, nI 0, e) = k (nI n, nI 1, ds_zero_s (dF e n 10 (ds_tick e + cs_delay (ds_zero e))) (M_X2_receive (ds_zero e) (nI n))) := by
    intro e k
    unfold M_X3_tell_98s
    rw [if_neg (show ¬ (2 : Int32) ≤ nI 0 by decide)]
    simp only [tb, t0, cz0, cs0']
    rfl
  have su : ∀ (e : DS) (k : Int32 × Int32 × DS → Option (Int32 × DS)), M_X3_tell_98s d p1 p2 p3 p4 p5 k (nI n, nI 1, e) = k (nI n, nI 2, ds_one_s (dF e n 11 (ds_tick e + cs_delay (ds_one e))) (M_X2_receive (ds_one e) (nI n))) := by
    intro e k
    unfold M_X3_tell_98s
    rw [if_neg (show ¬ (2 : Int32) ≤ nI 1 by decide)]
    simp only [tb, t1, cz1, cs1']
    rfl
  have sv : ∀ (e : DS) (k : Int32 × Int32 × DS → Option (Int32 × DS)), ds_ord e = nI n → M_X3_tell_98s d p1 p2 p3 p4 p5 k (nI n, nI 2, e) = some (nI n, ds_ord_s e (nI (n + 1))) := by
    intro e k he
    unfold M_X3_tell_98s
    rw [if_pos (show (2 : Int32) ≤ nI 2 by decide)]
    simp only [tb, he]
    rw [show nI n + (1 : Int32) = nI (n + 1) from nI_1 n]
  have run : ∀ e, ds_ord e = nI n → lpF (M_X3_tell_98s d p1 p2 p3 p4 p5) 64 (nI n, nI 0, e) = some (nI n, mor (dF (dF e n 10 (ds_tick e + cs_delay (dCtl e (nI 0)))) n 11 (ds_tick e + cs_delay (dCtl e (nI 1)))) n) := by
    intro e he
    rw [lpF_s (n := 63), st, lpF_s (n := 62), su, lpF_s (n := 61)]
    refine Eq.trans (sv _ _ ?_) ?_
    · exact he
    · unfold mor
      simp only [cz0, cz1, cs0', cs1']
      rfl
  have e10 : ds_ord (tl10 d n p1 p2 p3 p4 p5) = nI n := ho
  have := run _ e10
  unfold tl12
  exact this
