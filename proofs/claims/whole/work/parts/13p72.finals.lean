/-! PART 72: final values -/
/-- the blocks' final values, begun with A -/
def fv (d : DS) (A : Nat → Int32) : Nat → Nat → Int32
  | 0 => A
  | m + 1 => if opn d m = true then M_X6_put 16 (fv d A m) (fc d m 3) (M_X3_resultOn d (fv d A m) (nI m)) else fv d A m
def f16 (d : DS) (A : Nat → Int32) (m : Nat) : Nat → Int32 := fun j => if j < m then ds_val d j else A j
theorem f16_s {d : DS} {A : Nat → Int32} {m : Nat} : upd (f16 d A m) m (ds_val d m) = f16 d A (m + 1) := by
  funext j
  unfold upd f16
  by_cases q : j = m
  · rw [if_pos q, if_pos (by omega), q]
  · rw [if_neg q]
    by_cases q2 : j < m
    · rw [if_pos q2, if_pos (by omega)]
    · rw [if_neg q2, if_neg (by omega)]
theorem f16_0 {d : DS} {A : Nat → Int32} : f16 d A 0 = A := by funext j; unfold f16; rw [if_neg (by omega)]
theorem c_finals {d : DS} {n : Nat} (hn : ds_ord d = nI n) (hn2 : n ≤ 40) (A : Nat → Int32) : M_X3_reckonFinals d A = some (fv d (f16 d A 16) n) := by
  unfold M_X3_reckonFinals
  have h0 : (((0 : Int32), A) : Int32 × (Nat → Int32)) = (fun i => (nI i, f16 d A i)) 0 := by
    simp only [f16_0]; rfl
  rw [h0]
  refine lp_run (fun i => (nI i, f16 d A i)) 16 ?_ ?_ 64 (by omega)
  · intro m hm k
    unfold M_X3_reckonFinals_2s
    rw [if_neg (show ¬ (16 : Int32) ≤ nI m from nI_ge (a := m) (b := 16) hm (by omega))]
    simp only [tb]
    rw [x6_at (show m < 16 from hm) (by decide), x6_put (show m < 16 from hm) (by decide), f16_s, nI_1]
  · intro k
    unfold M_X3_reckonFinals_2s
    rw [if_pos (show (16 : Int32) ≤ nI 16 by decide)]
    have h1 : (((0 : Int32), f16 d A 16) : Int32 × (Nat → Int32)) = (fun i => (nI i, fv d (f16 d A 16) i)) 0 := rfl
    rw [h1]
    refine lp_run (fun i => (nI i, fv d (f16 d A 16) i)) n ?_ ?_ 64 (by omega)
    · intro m hm kk
      have hm40 : m < 40 := by omega
      have e3 : M_X3_fact d (nI m) (3 : Int32) = fc d m 3 := c_fact d (w := 3) hm40 (by decide)
      unfold M_X3_reckonFinals_29s M_X3_reckonFinals_61
      simp only [hn]
      rw [if_neg (nI_ge hm (by omega)), c_isOpen d hm40, zI_if, e3]
      simp only [tb]
      rw [nI_1]
      have : fv d (f16 d A 16) (m + 1) = if opn d m = true then M_X6_put 16 (fv d (f16 d A 16) m) (fc d m 3) (M_X3_resultOn d (fv d (f16 d A 16) m) (nI m)) else fv d (f16 d A 16) m := rfl
      rw [this]
      cases opn d m <;> rfl
    · intro kk
      unfold M_X3_reckonFinals_29s
      simp only [hn]
      rw [if_pos (Int32.le_refl _)]
/-- rows that agree on the blocks -/
def ag16 (A B : Nat → Int32) : Prop := ∀ i, i < 16 → A i = B i
theorem ag16_at {A B : Nat → Int32} (h : ag16 A B) (p : Int32) : M_X6_at 16 A p = M_X6_at 16 B p := by
  rcases pk_ix p (n := 16) (by decide) with q | q | ⟨j, hj, rfl⟩
  · unfold M_X6_at
    rw [if_pos q, if_pos q]; rfl
  · unfold M_X6_at
    have q : Int32.ofNat 16 ≤ p := q
    rw [if_pos q, if_pos q]; rfl
  · rw [x6_at hj (by decide), x6_at hj (by decide)]; exact h j hj
theorem ag16_put {A B : Nat → Int32} (h : ag16 A B) (p v : Int32) : ag16 (M_X6_put 16 A p v) (M_X6_put 16 B p v) := by
  rcases pk_ix p (n := 16) (by decide) with q | q | ⟨j, hj, rfl⟩
  · unfold M_X6_put M_X6_put_14
    rw [if_pos q, if_pos q]; exact h
  · unfold M_X6_put M_X6_put_14
    have q : Int32.ofNat 16 ≤ p := q
    have q1 : p < 0 ∨ ¬ p < 0 := Decidable.em _
    rcases q1 with q1 | q1
    · rw [if_pos q1, if_pos q1]; exact h
    · rw [if_neg q1, if_neg q1, if_pos q, if_pos q]; exact h
  · rw [x6_put hj (by decide), x6_put hj (by decide)]
    intro i hi
    unfold upd
    split
    · rfl
    · exact h i hi
theorem ag16_res {A B : Nat → Int32} (h : ag16 A B) (d : DS) (o : Int32) : M_X3_resultOn d A o = M_X3_resultOn d B o := by
  unfold M_X3_resultOn M_X3_resultOn_73
  rw [ag16_at h, ag16_at h]
theorem ag16_fv {d : DS} {A B : Nat → Int32} (h : ag16 A B) : ∀ m, ag16 (fv d A m) (fv d B m) := by
  intro m
  induction m with
  | zero => exact h
  | succ m ih =>
    show ag16 (if opn d m = true then _ else _) (if opn d m = true then _ else _)
    cases opn d m
    · exact ih
    · rw [if_pos rfl, if_pos rfl, ag16_res ih]
      exact ag16_put ih _ _
theorem ag16_f16 (d : DS) (A B : Nat → Int32) : ag16 (f16 d A 16) (f16 d B 16) := by
  intro i hi
  unfold f16
  rw [if_pos hi, if_pos hi]
theorem r_fstep {y0 y : MS} {d : DS} {n m : Nat} {V : Nat → Int32} {p : Int32} (h : DRel d (ms_now y) n) (hI : OInv d m) (hm : m < n) (hV : ms_values y = V) (k : Int32 × MS → Option (Int32 × MS)) : M_X7_finalValue_51s y0 p k (nI m, y) = k (nI (m + 1), ms_values_s y (if opn d m = true then M_X6_put 16 V (fc d m 3) (M_X3_resultOn d V (nI m)) else V)) := by
  have hn := h.le
  have hm40 : m < 40 := by omega
  obtain ⟨⟨kk, hk4, ek⟩, ⟨b, hb, eb⟩, hc, -⟩ := hI
  have q2 : M_X7_of y (nI m) (2 : Int32) = some (fc d m 2) := r_of' (w := 2) h hm40 (by decide)
  have q3 : M_X7_of y (nI m) (3 : Int32) = some (nI b) := by rw [← eb]; exact r_of' (w := 3) h hm40 (by decide)
  have q4 : M_X7_of y (nI m) (4 : Int32) = some (fc d m 4) := r_of' (w := 4) h hm40 (by decide)
  have q5 : M_X7_of y (nI m) (5 : Int32) = some (fc d m 5) := r_of' (w := 5) h hm40 (by decide)
  have f2 : M_X3_fact d (nI m) (2 : Int32) = fc d m 2 := c_fact d (w := 2) hm40 (by decide)
  have f3 : M_X3_fact d (nI m) (3 : Int32) = nI b := by rw [← eb]; exact c_fact d (w := 3) hm40 (by decide)
  have f4 : M_X3_fact d (nI m) (4 : Int32) = fc d m 4 := c_fact d (w := 4) hm40 (by decide)
  have f5 : M_X3_fact d (nI m) (5 : Int32) = fc d m 5 := c_fact d (w := 5) hm40 (by decide)
  have vs : ms_values_s y V = y := by rw [← hV]; rfl
  have sv : ∀ v, ast 16 (ms_values y) (nI b) v = some (upd V b v) := fun v => by rw [hV]; exact ast_nI hb (by omega)
  have lv1 : ald 16 (ms_values y) (nI b) = some (V b) := by rw [hV]; exact ald_nI hb (by omega)
  have e190 : ∀ z, M_X7_finalValue_190 y0 p k (nI m) z = k (nI (m + 1), z) := by
    intro z
    unfold M_X7_finalValue_190
    rw [nI_1]
  unfold M_X7_finalValue_51s
  simp only [h.now1, ob_some, q3, q4, r_isOpen h hm40, zI_if]
  rw [if_neg (nI_ge hm (by omega))]
  cases ho : opn d m
  · rw [if_neg (by decide), if_neg (by decide)]
    unfold M_X7_finalValue_104 M_X7_finalValue_159
    simp only [r_isOpen h hm40, ob_some, zI_if, ho]
    rw [if_neg (by decide), if_neg (by decide), e190, vs]
  · rw [if_pos rfl, if_pos rfl, q2, ob_some, eb, x6_put hb (by decide)]
    unfold M_X3_resultOn M_X3_resultOn_73
    rw [f2, f3, f4, f5]
    rcases (show kk = 0 ∨ kk = 1 ∨ kk = 2 ∨ kk = 3 by omega) with rfl | rfl | rfl | rfl
    · rw [ek, if_pos (show nI 0 = 0 from rfl), if_pos (show nI 0 = 0 from rfl), sv, ob_some]
      simp only [tb]
      rw [e190]
    · rw [ek, if_neg (show ¬ nI 1 = 0 by decide), if_neg (show ¬ nI 1 = 0 by decide), if_pos (show nI 1 = 1 from rfl)]
      unfold M_X7_finalValue_104 M_X7_finalValue_152
      simp only [r_isOpen h hm40, ob_some, zI_if, ho, q2, ek, q5, h.now3, lv1, sv, tb, e190]
      rw [if_pos trivial, if_pos (show nI 1 = (1 : Int32) from rfl), x6_at hb (by decide)]
      by_cases q : fc d m 5 = 1
      · rw [if_pos q, if_pos q]
      · rw [if_neg q, if_neg q]
    · rw [ek, if_neg (show ¬ nI 2 = 0 by decide), if_neg (show ¬ nI 2 = 0 by decide), if_neg (show ¬ nI 2 = 1 by decide), if_pos (show nI 2 = 2 from rfl)]
      obtain ⟨b2, hb2, eb2⟩ := hc ek
      have lv2 : ald 16 (ms_values y) (nI b2) = some (V b2) := by rw [hV]; exact ald_nI hb2 (by omega)
      unfold M_X7_finalValue_104 M_X7_finalValue_159
      simp only [r_isOpen h hm40, ob_some, zI_if, ho, q2, ek, eb2, lv2, sv, e190]
      rw [if_pos trivial, if_neg (show ¬ nI 2 = (1 : Int32) by decide), if_pos trivial, if_pos (show nI 2 = (2 : Int32) from rfl), x6_at hb2 (by decide)]
    · rw [ek, if_neg (show ¬ nI 3 = 0 by decide), if_neg (show ¬ nI 3 = 0 by decide), if_neg (show ¬ nI 3 = 1 by decide), if_neg (show ¬ nI 3 = 2 by decide)]
      unfold M_X7_finalValue_104 M_X7_finalValue_159
      simp only [r_isOpen h hm40, ob_some, zI_if, ho, q2, ek, e190]
      rw [if_pos trivial, if_neg (show ¬ nI 3 = (1 : Int32) by decide), if_pos trivial, if_neg (show ¬ nI 3 = (2 : Int32) by decide), x6_at hb (by decide), upd_same, vs]
theorem r_finals {y0 y : MS} {d : DS} {n b : Nat} (h : DRel d (ms_now y) n) (hI : ∀ o, o < n → OInv d o) (hb : b < 16) : lpF (M_X7_finalValue_23s y0 (nI b)) 64 ((0 : Int32), y) = some (fv d (f16 d (ms_values y) 16) n b, ms_values_s y (fv d (f16 d (ms_values y) 16) n)) := by
  have hn := h.le
  have h0 : (((0 : Int32), y) : Int32 × MS) = (fun i => (nI i, ms_values_s y (f16 d (ms_values y) i))) 0 := by
    simp only [f16_0]; rfl
  rw [h0]
  refine lp_run (fun i => (nI i, ms_values_s y (f16 d (ms_values y) i))) 16 ?_ ?_ 64 (by omega)
  · intro m hm k
    have a1 : ald 596 (ms_now (ms_values_s y (f16 d (ms_values y) m))) ((4 : Int32) + nI m) = some (ds_val d m) := by
      rw [show (4 : Int32) + nI m = nI (4 + m) from nI_add 4 m, ald_nI (by omega) (by omega)]
      exact congrArg some (h.2.2.2.2.2.2.1 m hm)
    have a2 : ast 16 (ms_values (ms_values_s y (f16 d (ms_values y) m))) (nI m) (ds_val d m) = some (f16 d (ms_values y) (m + 1)) := by
      rw [ast_nI (by omega) (by omega)]
      exact congrArg some f16_s
    unfold M_X7_finalValue_23s
    rw [if_neg (show ¬ (16 : Int32) ≤ nI m from nI_ge (a := m) (b := 16) hm (by omega))]
    simp only [a1, ob_some, a2, tb, nI_1]
    rfl
  · intro k
    unfold M_X7_finalValue_23s
    rw [if_pos (show (16 : Int32) ≤ nI 16 by decide)]
    have h1 : (((0 : Int32), ms_values_s y (f16 d (ms_values y) 16)) : Int32 × MS) = (fun i => (nI i, ms_values_s y (fv d (f16 d (ms_values y) 16) i))) 0 := rfl
    rw [h1]
    refine lp_run (fun i => (nI i, ms_values_s y (fv d (f16 d (ms_values y) 16) i))) n ?_ ?_ 64 (by omega)
    · intro m hm kk
      exact r_fstep (y := ms_values_s y (fv d (f16 d (ms_values y) 16) m)) h (hI m hm) hm rfl kk
    · intro kk
      have a1 : ald 16 (ms_values (ms_values_s y (fv d (f16 d (ms_values y) 16) n))) (nI b) = some (fv d (f16 d (ms_values y) 16) n b) := ald_nI hb (by omega)
      have a0 : ald 596 (ms_now (ms_values_s y (fv d (f16 d (ms_values y) 16) n))) (1 : Int32) = some (nI n) := h.now1
      unfold M_X7_finalValue_51s
      rw [a0, ob_some, if_pos (Int32.le_refl _), a1, ob_some]
theorem r_final {y : MS} {d : DS} {n b : Nat} (A : Nat → Int32) (h : DRel d (ms_now y) n) (hI : ∀ o, o < n → OInv d o) (hb : b < 16) : ∃ B, M_X7_finalValue y (nI b) = some (fv d (f16 d A 16) n b, ms_values_s (ms_refusal_s y 0) B) := by
  refine ⟨fv d (f16 d (ms_values y) 16) n, ?_⟩
  unfold M_X7_finalValue M_X7_finalValue_13 M_X7_isBlock
  rw [win_eq, show M_X6_isWithin (nI b) 0 15 = true from win_f (N := 15) (by decide) (by omega), if_neg (show ¬ zI true = 0 by decide), ref_f]
  simp only [tb]
  refine Eq.trans (if_pos (show zI false = 0 from rfl)) ?_
  refine (r_finals (y0 := y) (y := ms_refusal_s y 0) h hI hb).trans ?_
  rw [ag16_fv (ag16_f16 d (ms_values (ms_refusal_s y 0)) A) n b hb]
  rfl
theorem q_final {x : SS} {y : MS} (h : SRel x y) (p : Int32) : AgU (fun c q => c = 1 ∧ q = 1) x (M_X6_finalValue x p) (M_X7_finalValue y p) := by
  obtain ⟨n, t, hd, hI, ht, ht9⟩ := h.1
  have hn := hd.le
  cases hw : M_X6_isWithin p 0 15
  · left
    refine ⟨1, 1, 0, ms_refusal_s y 1, ?_, ?_, rfl, ⟨rfl, rfl⟩, h⟩
    · unfold M_X6_finalValue
      rw [fB, hw]
      rfl
    · unfold M_X7_finalValue M_X7_finalValue_13 M_X7_isBlock
      rw [win_eq, hw, if_pos (show zI false = 0 from rfl), ref_t]
      simp only [tb]
      exact if_neg (show ¬ zI true = 0 by decide)
  · right
    obtain ⟨b, hb, rfl⟩ := win_t (N := 15) (by decide) hw
    obtain ⟨B, e⟩ := r_final (ss_fin x) hd hI.o (show b < 16 by omega)
    refine ⟨fv (ss_drv x) (f16 (ss_drv x) (ss_fin x) 16) n b, ss_fin_s x (fv (ss_drv x) (f16 (ss_drv x) (ss_fin x) 16) n), ms_values_s (ms_refusal_s y 0) B, ?_, e, rfl, h⟩
    unfold M_X6_finalValue
    rw [fB, hw, if_pos (rfl : true = true), if_neg (by rw [rfs_0]; decide), c_finals hd.ord hn, ob_some]
    simp only [tb]
    rw [x6_at (show b < 16 by omega) (by decide)]
    rfl
