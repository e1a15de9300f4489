/-! PART 70: an order is told, both sides -/
/-- a step on both sides: refused on both, or done on both, where y1 is what the reference's saving leaves -/
def Core (P : Int32 → Int32 → Prop) (flt : Option Int32) (act : Option (Int32 × DS)) (ref : Option (Int32 × MS)) (y y1 : MS) : Prop :=
  (∃ f q v, flt = some f ∧ rfs f = true ∧ ref = some (v, ms_refusal_s y q) ∧ q ≠ 0 ∧ P f q) ∨ (flt = some 0 ∧ ∃ r d' g, act = some (r, d') ∧ ref = some (r, ms_now_s y1 g) ∧ DOK d' g)
theorem fac_tl12 (d : DS) (n : Nat) (p1 p2 p3 p4 p5 : Int32) : ds_fac (mor (tl12 d n p1 p2 p3 p4 p5) n) = upd (upd (upd (upd (upd (upd (upd (upd (upd (upd (upd (upd (ds_fac d) (12 * n + 0) p1) (12 * n + 1) p2) (12 * n + 2) p3) (12 * n + 3) p4) (12 * n + 4) p5) (12 * n + 5) 0) (12 * n + 6) (-1)) (12 * n + 7) (ds_tick d)) (12 * n + 8) (-1)) (12 * n + 9) 0) (12 * n + 10) (ds_tick d + cs_delay (dCtl d (nI 0)))) (12 * n + 11) (ds_tick d + cs_delay (dCtl d (nI 1))) := rfl
theorem mor_inv {d : DS} {n : Nat} {p1 p2 p3 p4 p5 : Int32} (hI : DInv d n) (hk : M_X3_isOrderOfItsKind p3 p4 p5 = true) : DInv (mor (tl12 d n p1 p2 p3 p4 p5) n) (n + 1) := by
  obtain ⟨k1, k2, k3⟩ := kind_t hk
  obtain ⟨i1, i2, i3⟩ := hI
  have hf : ∀ o w, fc (mor (tl12 d n p1 p2 p3 p4 p5) n) o w = upd (upd (upd (upd (upd (upd (upd (upd (upd (upd (upd (upd (ds_fac d) (12 * n + 0) p1) (12 * n + 1) p2) (12 * n + 2) p3) (12 * n + 3) p4) (12 * n + 4) p5) (12 * n + 5) 0) (12 * n + 6) (-1)) (12 * n + 7) (ds_tick d)) (12 * n + 8) (-1)) (12 * n + 9) 0) (12 * n + 10) (ds_tick d + cs_delay (dCtl d (nI 0)))) (12 * n + 11) (ds_tick d + cs_delay (dCtl d (nI 1))) (12 * o + w) := fun o w => rfl
  have ho : ∀ o w, o ≠ n → w < 12 → fc (mor (tl12 d n p1 p2 p3 p4 p5) n) o w = fc d o w := by
    intro o w h1 h2
    rw [hf]
    repeat rw [pk_un (by omega)]
    rfl
  refine ⟨fun o ho2 => ?_, ?_, i3⟩
  · by_cases q : o = n
    · subst q
      have e2 : fc (mor (tl12 d o p1 p2 p3 p4 p5) o) o 2 = p3 := by
        rw [hf]
        repeat rw [pk_un (by omega)]
        exact pk_us
      have e3 : fc (mor (tl12 d o p1 p2 p3 p4 p5) o) o 3 = p4 := by
        rw [hf]
        repeat rw [pk_un (by omega)]
        exact pk_us
      have e4 : fc (mor (tl12 d o p1 p2 p3 p4 p5) o) o 4 = p5 := by
        rw [hf]
        repeat rw [pk_un (by omega)]
        exact pk_us
      have e5 : fc (mor (tl12 d o p1 p2 p3 p4 p5) o) o 5 = 0 := by
        rw [hf]
        repeat rw [pk_un (by omega)]
        exact pk_us
      rw [e2, e3, e4, e5]
      exact ⟨k1, k2, k3, ⟨0, by decide, rfl⟩⟩
    · rw [ho o 2 q (by decide), ho o 3 q (by decide), ho o 4 q (by decide), ho o 5 q (by decide)]
      exact i1 o (by omega)
  · rcases i2 with q | ⟨o, h1, h2⟩
    · exact Or.inl q
    · exact Or.inr ⟨o, by omega, h2⟩
theorem o96_1 (x y : MS) (p1 p2 p3 p4 p5 : Int32) : M_X7_order_96 x p1 p2 p3 p4 p5 1 y = some (0, ms_refusal_s y 1) := by
  unfold M_X7_order_96
  rw [ref_1]
  simp only [tb]
  exact if_neg (show ¬ zI true = 0 by decide)
theorem o96_2 (x y : MS) (p1 p2 p3 p4 p5 : Int32) : M_X7_order_96 x p1 p2 p3 p4 p5 2 y = some (0, ms_refusal_s y 2) := by
  unfold M_X7_order_96
  rw [ref_2]
  simp only [tb]
  exact if_neg (show ¬ zI true = 0 by decide)
theorem o96_0 (x y : MS) (p1 p2 p3 p4 p5 : Int32) : M_X7_order_96 x p1 p2 p3 p4 p5 0 y = (M_X7_saves (ms_refusal_s y 0)).bind fun r3 => rtell x r3 p1 p2 p3 p4 p5 := by
  unfold M_X7_order_96 rtell
  rw [ref_0]
  simp only [tb]
  exact if_pos (show zI false = 0 from rfl)
theorem o63_t {y : MS} {d : DS} {n : Nat} (h : DRel d (ms_now y) n) (p1 p2 p3 p4 p5 : Int32) (w : Bool) : M_X7_order_63 y p1 p2 p3 p4 p5 true w y = if n = 40 ∨ w = false then M_X7_order_96 y p1 p2 p3 p4 p5 2 y else M_X7_order_96 y p1 p2 p3 p4 p5 0 y := by
  have hn := h.le
  unfold M_X7_order_63 M_X7_order_91
  rw [if_neg (show ¬ zI true = 0 by decide), h.now1, ob_some, zI_if]
  by_cases q : n = 40
  · rw [if_pos (Or.inl q), q, if_pos (show nI 40 = (40 : Int32) from rfl)]
  · rw [if_neg (show ¬ nI n = (40 : Int32) from fun z => q ((nI_eq (b := 40) (by omega) (by omega)).mp z))]
    cases w
    · rw [if_neg (by decide : ¬ (false = true)), if_pos (Or.inr rfl : n = 40 ∨ false = false)]
    · rw [if_pos (rfl : true = true), if_neg (show ¬ (n = 40 ∨ true = false) from fun z => z.elim q (fun w => by cases w))]
theorem ef_order {d : DS} {n : Nat} (ho : ds_ord d = nI n) (hn : n ≤ 40) (p1 p2 p3 p4 p5 : Int32) : M_X3_faultOfTelling d p1 p2 p3 p4 p5 = if (M_X6_isWithin p1 0 3 && M_X6_isWithin p2 0 31) = true then (if M_X3_isOrderOfItsKind p3 p4 p5 = true then (if n = 40 then some 3 else if lastI (tagp d p1 p2) n = -1 then some 0 else if M_X3_isOpen d (lastI (tagp d p1 p2) n) = true then some 3 else some 0) else some 2) else some 2 := by
  have hcl := c_latest ho hn p1 p2
  have h40 : (40 : Int32) ≤ nI n ↔ n = 40 := by
    rw [show (40 : Int32) = nI 40 from rfl, nI_leI (by omega) (by omega)]
    omega
  have e1 : (if (40 : Int32) ≤ nI n then some (3 : Int32) else if lastI (tagp d p1 p2) n = -1 then some 0 else if M_X3_isOpen d (lastI (tagp d p1 p2) n) = true then some 3 else some 0) = (if n = 40 then some (3 : Int32) else if lastI (tagp d p1 p2) n = -1 then some 0 else if M_X3_isOpen d (lastI (tagp d p1 p2) n) = true then some 3 else some 0) := by
    by_cases q : n = 40
    · rw [if_pos (h40.mpr q), if_pos q]
    · rw [if_neg (fun z => q (h40.mp z)), if_neg q]
  unfold M_X3_faultOfTelling M_X3_faultOfTelling_19 M_X3_faultOfTelling_53 M_X3_faultOfTelling_57 M_X3_faultOfTelling_58
  rw [fT, zI_if, hcl, ob_some, zI_if, ho, e1]
  cases (M_X6_isWithin p1 0 3 && M_X6_isWithin p2 0 31)
  · rw [if_neg (by decide : ¬ (false = true)), if_neg (by decide : ¬ (2 : Int32) = 0), if_neg (by decide : ¬ (false = true))]
  · rw [if_pos (rfl : true = true), if_pos (rfl : (0 : Int32) = 0), if_pos (rfl : true = true)]
theorem er_order (y : MS) (p1 p2 p3 p4 p5 : Int32) : M_X7_order y p1 p2 p3 p4 p5 = if (M_X6_isWithin p1 0 3 && M_X6_isWithin p2 0 31) = true then (if M_X3_isOrderOfItsKind p3 p4 p5 = true then M_X7_order_24 y p1 p2 p3 p4 p5 true y else M_X7_order_96 y p1 p2 p3 p4 p5 1 y) else M_X7_order_96 y p1 p2 p3 p4 p5 1 y := by
  have e23 : M_X7_order_23 y p1 p2 p3 p4 p5 y = M_X7_order_96 y p1 p2 p3 p4 p5 1 y := by
    unfold M_X7_order_23 M_X7_order_24 M_X7_order_41 M_X7_order_58 M_X7_order_63
    rw [if_pos (show zI false = 0 from rfl), if_pos (rfl : (-1 : Int32) = -1), if_pos (show zI false = 0 from rfl)]
  unfold M_X7_order
  rw [rT, zI_if, canBe_eq, zI_if, e23]
theorem e24_order {y : MS} {d : DS} {n : Nat} (hd : DRel d (ms_now y) n) (p1 p2 p3 p4 p5 : Int32) : ∃ w : Bool, M_X7_order_24 y p1 p2 p3 p4 p5 true y = M_X7_order_63 y p1 p2 p3 p4 p5 true w y ∧ (if n = 40 then some (3 : Int32) else if lastI (tagp d p1 p2) n = -1 then some 0 else if M_X3_isOpen d (lastI (tagp d p1 p2) n) = true then some 3 else some 0) = if n = 40 ∨ w = false then some 3 else some 0 := by
  have hn := hd.le
  have hrl := r_latest hd p1 p2
  unfold M_X7_order_24 M_X7_order_41 M_X7_order_58
  rw [if_neg (show ¬ zI true = 0 by decide), hrl, ob_some]
  have e40 : ∀ w : Bool, (if n = 40 then some (3 : Int32) else if w = true then some 0 else some 3) = if n = 40 ∨ w = false then some 3 else some 0 := by
    intro w
    by_cases q : n = 40
    · rw [if_pos q, if_pos (Or.inl q)]
    · rw [if_neg q]
      cases w
      · rw [if_neg (by decide : ¬ (false = true)), if_pos (Or.inr rfl : n = 40 ∨ false = false)]
      · rw [if_pos (rfl : true = true), if_neg (show ¬ (n = 40 ∨ true = false) from fun z => z.elim q (fun w => by cases w))]
  rcases lastI_cases (tagp d p1 p2) n with e | ⟨o, ho, e, -⟩
  · refine ⟨true, ?_, ?_⟩
    · rw [if_pos e]
    · rw [if_pos e, ← e40, if_pos (rfl : true = true)]
  · have ho40 : o < 40 := by omega
    refine ⟨!opn d o, ?_, ?_⟩
    · rw [e, if_neg (nI_nm1 (by omega)), r_isOpen hd ho40, ob_some, zI_if]
      cases opn d o
      · exact if_neg (by decide)
      · exact if_pos rfl
    · rw [e, if_neg (nI_nm1 (by omega)), c_isOpen d ho40, ← e40]
      cases opn d o
      · rw [if_neg (by decide : ¬ (false = true)), if_pos (show (!false) = true by decide)]
      · rw [if_pos (rfl : true = true), if_neg (by decide : ¬ ((!true) = true))]
theorem core_order {y y1 : MS} {d : DS} {n t : Nat} (hd : DRel d (ms_now y) n) (hI : DInv d n) (ht : ds_tick d = nI t) (ht9 : t ≤ 9999) (hs : M_X7_saves (ms_refusal_s y 0) = some y1) (hy : ms_now y1 = ms_now y) (p1 p2 p3 p4 p5 : Int32) : Core (fun c r => (c = 2 ∧ r = 1) ∨ (c = 3 ∧ r = 2)) (M_X3_faultOfTelling d p1 p2 p3 p4 p5) (M_X3_tell d p1 p2 p3 p4 p5) (M_X7_order y p1 p2 p3 p4 p5) y y1 := by
  have hn := hd.le
  unfold Core
  rw [ef_order hd.ord hn, er_order]
  cases hw : (M_X6_isWithin p1 0 3 && M_X6_isWithin p2 0 31)
  · left
    refine ⟨2, 1, 0, if_neg (by decide), rfs_2, ?_, by decide, Or.inl ⟨rfl, rfl⟩⟩
    rw [if_neg (by decide : ¬ (false = true))]
    exact o96_1 y y p1 p2 p3 p4 p5
  · rw [if_pos (rfl : true = true), if_pos (rfl : true = true)]
    cases hk : M_X3_isOrderOfItsKind p3 p4 p5
    · left
      refine ⟨2, 1, 0, if_neg (by decide), rfs_2, ?_, by decide, Or.inl ⟨rfl, rfl⟩⟩
      rw [if_neg (by decide : ¬ (false = true))]
      exact o96_1 y y p1 p2 p3 p4 p5
    · obtain ⟨w, e1, e2⟩ := e24_order hd p1 p2 p3 p4 p5
      rw [if_pos (rfl : true = true), if_pos (rfl : true = true), e1, e2, o63_t hd]
      by_cases q : n = 40 ∨ w = false
      · left
        rw [if_pos q, if_pos q]
        exact ⟨3, 2, 0, rfl, rfs_3, o96_2 y y p1 p2 p3 p4 p5, by decide, Or.inr ⟨rfl, rfl⟩⟩
      · right
        rw [if_neg q, if_neg q]
        have hn4 : n < 40 := by
          have : ¬ n = 40 := fun z => q (Or.inl z)
          omega
        have hd1 : DRel d (ms_now y1) n := by rw [hy]; exact hd
        obtain ⟨g, r1, r2⟩ := rtell_ok (x := y) hd1 hn4 p1 p2 p3 p4 p5
        refine ⟨rfl, nI n, mor (tl12 d n p1 p2 p3 p4 p5) n, g, c_tell hd.ord hn4 p1 p2 p3 p4 p5, ?_, ⟨n + 1, t, r2, mor_inv hI hk, ht, ht9⟩⟩
        rw [o96_0, hs, ob_some, r1]
theorem u_order {x : SS} {y : MS} (h : SRel x y) (p1 p2 p3 p4 p5 : Int32) : AgU (fun c r => (c = 2 ∧ r = 1) ∨ (c = 3 ∧ r = 2)) x (M_X6_order x p1 p2 p3 p4 p5) (M_X7_order y p1 p2 p3 p4 p5) := by
  obtain ⟨n, t, hd, hI, ht, ht9⟩ := h.1
  obtain ⟨Q, T, e1, h1⟩ := save_ok (y := ms_refusal_s y 0) h
  unfold M_X6_order
  rcases core_order hd hI ht ht9 e1 rfl p1 p2 p3 p4 p5 with ⟨f, q, v, a1, a2, a3, a4, a5⟩ | ⟨a1, r, d', g, a2, a3, a4⟩
  · left
    refine ⟨f, q, v, ms_refusal_s y q, ?_, a3, rfl, a5, h⟩
    rw [a1, ob_some, if_pos a2]
  · right
    refine ⟨r, ss_drv_s (ss_his_s x (M_X4_save (ss_his x) (ss_drv x))) d', ms_now_s (ms_saved_s (ms_past_s (ms_refusal_s y 0) Q) T) g, ?_, a3, rfl, h1.drv a4⟩
    rw [a1, ob_some, if_neg (by rw [rfs_0]; decide)]
    simp only [tb]
    rw [show ss_drv (ss_his_s x (M_X4_save (ss_his x) (ss_drv x))) = ss_drv x from rfl, a2, ob_some]
