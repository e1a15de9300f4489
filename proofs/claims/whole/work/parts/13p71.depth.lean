/-! PART 71: depths -/
def dpi (d : DS) (g : Nat → Nat) (o : Nat) : Nat → Nat
  | 0 => 0
  | e + 1 => if (opn d e && mts d o e) = true then (if g e < dpi d g o e then dpi d g o e else g e + 1) else dpi d g o e
def dpt (d : DS) : Nat → Nat → Nat
  | 0, _ => 0
  | m + 1, j => if j = m then dpi d (dpt d m) m m else dpt d m j
/-- an order's depth, were it open -/
def dv (d : DS) (o : Nat) : Nat := dpt d (o + 1) o
theorem dpt_dv (d : DS) : ∀ m j, j < m → dpt d m j = dv d j := by
  intro m
  induction m with
  | zero => intro j hj; omega
  | succ m ih =>
    intro j hj
    by_cases q : j = m
    · subst q; rfl
    · show (if j = m then dpi d (dpt d m) m m else dpt d m j) = dv d j
      rw [if_neg q]; exact ih j (by omega)
theorem dpi_congr {d : DS} {g g' : Nat → Nat} {o : Nat} : ∀ e, (∀ j, j < e → g j = g' j) → dpi d g o e = dpi d g' o e := by
  intro e
  induction e with
  | zero => intro _; rfl
  | succ e ih =>
    intro h
    unfold dpi
    rw [ih (fun j hj => h j (by omega)), h e (by omega)]
theorem dv_eq (d : DS) (o : Nat) : dv d o = dpi d (dv d) o o := by
  have : dv d o = dpi d (dpt d o) o o := by
    unfold dv
    show (if o = o then dpi d (dpt d o) o o else dpt d o o) = _
    rw [if_pos rfl]
  rw [this]
  exact dpi_congr o (fun j hj => dpt_dv d o j hj)
theorem dpi_le {d : DS} {g : Nat → Nat} {o : Nat} : ∀ e, (∀ j, j < e → g j ≤ j) → dpi d g o e ≤ e := by
  intro e
  induction e with
  | zero => intro _; exact Nat.le_refl 0
  | succ e ih =>
    intro h
    have h1 := ih (fun j hj => h j (by omega))
    have h2 := h e (by omega)
    unfold dpi
    split
    · split <;> omega
    · omega
theorem dv_le (d : DS) : ∀ m o, o < m → dv d o ≤ o := by
  intro m
  induction m with
  | zero => intro o ho; omega
  | succ m ih =>
    intro o ho
    rw [dv_eq]
    exact dpi_le o (fun j hj => ih j (by omega))
theorem dv_le' (d : DS) (o : Nat) : dv d o ≤ o := dv_le d (o + 1) o (by omega)
theorem dpi_le' (d : DS) (o e : Nat) : dpi d (dv d) o e ≤ e := dpi_le e (fun j _ => dv_le' d j)
theorem upd_upd {f : Nat → Int32} {k : Nat} {a b : Int32} : upd (upd f k a) k b = upd f k b := by
  funext j; unfold upd; split <;> rfl
/-- what the class's array holds -/
def cdv (d : DS) (j : Nat) : Int32 := if opn d j = true then nI (dv d j) else -1
def cdp (d : DS) (A : Nat → Int32) (m : Nat) : Nat → Int32 := fun j => if j < m then cdv d j else A j
def rdp (d : DS) (B : Nat → Int32) (m : Nat) : Nat → Int32 := fun j => if j < m then nI (dv d j) else B j
theorem cdp_s {d : DS} {A : Nat → Int32} {m : Nat} : upd (cdp d A m) m (cdv d m) = cdp d A (m + 1) := by
  funext j
  unfold upd cdp
  by_cases q : j = m
  · rw [if_pos q, if_pos (by omega), q]
  · rw [if_neg q]
    by_cases q2 : j < m
    · rw [if_pos q2, if_pos (by omega)]
    · rw [if_neg q2, if_neg (by omega)]
theorem rdp_s {d : DS} {B : Nat → Int32} {m : Nat} : upd (rdp d B m) m (nI (dv d m)) = rdp d B (m + 1) := by
  funext j
  unfold upd rdp
  by_cases q : j = m
  · rw [if_pos q, if_pos (by omega), q]
  · rw [if_neg q]
    by_cases q2 : j < m
    · rw [if_pos q2, if_pos (by omega)]
    · rw [if_neg q2, if_neg (by omega)]
theorem c_dep67 {d : DS} {A : Nat → Int32} {m : Nat} {v : Int32} (hm : m < 40) (hv : v = cdv d m) (k : Int32 × (Nat → Int32) → Option (Nat → Int32)) (X : Nat → Int32) : M_X3_reckonDepths_67 d X k (nI m) v (cdp d A m) = k (nI (m + 1), cdp d A (m + 1)) := by
  unfold M_X3_reckonDepths_67
  simp only [tb]
  rw [x6_put hm (by decide), hv, cdp_s, nI_1]
theorem c_depths {d : DS} {n : Nat} (hn : ds_ord d = nI n) (hn2 : n ≤ 40) (hI : ∀ o, o < n → OInv d o) (A : Nat → Int32) : M_X3_reckonDepths d A = some (cdp d A n) := by
  unfold M_X3_reckonDepths
  have h0 : (((0 : Int32), A) : Int32 × (Nat → Int32)) = (fun i => (nI i, cdp d A i)) 0 := by
    have : cdp d A 0 = A := by funext j; unfold cdp; rw [if_neg (by omega)]
    simp only [this]; rfl
  rw [h0]
  refine lp_run (fun i => (nI i, cdp d A i)) n ?_ ?_ 64 (by omega)
  · intro m hm k
    have hm40 : m < 40 := by omega
    unfold M_X3_reckonDepths_2s
    simp only [hn]
    rw [if_neg (nI_ge hm (by omega)), c_isOpen d hm40, zI_if]
    cases ho : opn d m
    · rw [if_neg (by decide)]
      unfold M_X3_reckonDepths_23
      rw [lpF_s (n := 63)]
      unfold M_X3_reckonDepths_27s
      have e67 := c_dep67 (d := d) (A := A) (v := -1) hm40 (by unfold cdv; rw [ho]; rfl) k A
      split
      · exact e67
      · rw [if_pos rfl]; exact e67
    · rw [if_pos rfl]
      unfold M_X3_reckonDepths_23
      have h1 : ((nI m, (0 : Int32), (0 : Int32), cdp d A m) : Int32 × Int32 × Int32 × (Nat → Int32)) = (fun e => (nI m, nI (dpi d (dv d) m e), nI e, cdp d A m)) 0 := rfl
      rw [h1]
      refine lp_run (fun e => (nI m, nI (dpi d (dv d) m e), nI e, cdp d A m)) m ?_ ?_ 64 (by omega)
      · intro e he kk
        have l1 := dpi_le' d m e
        have l2 := dv_le' d e
        unfold M_X3_reckonDepths_27s
        rw [if_neg (nI_ge he (by omega)), if_neg (nI_nm1 (by omega)), c_isAwaited (by omega) (by omega) (hI m hm) (hI e (by omega)), zI_if]
        unfold M_X3_reckonDepths_61
        cases hb : (opn d e && mts d m e)
        · rw [if_neg (by decide), nI_1]
          have : dpi d (dv d) m (e + 1) = dpi d (dv d) m e := by
            show (if (opn d e && mts d m e) = true then _ else _) = _
            rw [hb]; rfl
          rw [this]
        · rw [if_pos rfl, nI_1]
          have hoe : opn d e = true := by
            cases q : opn d e
            · rw [q] at hb; cases hb
            · rfl
          have a1 : M_X6_at 40 (cdp d A m) (nI e) = nI (dv d e) := by
            rw [x6_at (by omega) (by decide)]
            unfold cdp cdv
            rw [if_pos he, if_pos hoe]
          have : dpi d (dv d) m (e + 1) = if dv d e < dpi d (dv d) m e then dpi d (dv d) m e else dv d e + 1 := by
            show (if (opn d e && mts d m e) = true then _ else _) = _
            rw [hb]; rfl
          simp only [a1]
          rw [show (1 : Int32) + nI (dv d e) = nI (1 + dv d e) from nI_add 1 _, this]
          by_cases q : dv d e < dpi d (dv d) m e
          · rw [if_pos q, if_neg (nI_nlt (by omega) (by omega))]
          · rw [if_neg q, if_pos (nI_lt (by omega) (by omega)), Nat.add_comm]
      · intro kk
        unfold M_X3_reckonDepths_27s
        rw [if_pos (Int32.le_refl _)]
        exact c_dep67 hm40 (by unfold cdv; rw [ho, if_pos rfl, ← dv_eq]) k A
  · intro k
    unfold M_X3_reckonDepths_2s
    simp only [hn]
    rw [if_pos (Int32.le_refl _)]
theorem r_depths {y0 y : MS} {d : DS} {n o : Nat} (h : DRel d (ms_now y) n) (ho : o < n) : lpF (M_X7_depth_24s y0 (nI o)) 64 ((0 : Int32), y) = some (cdv d o, ms_depths_s y (rdp d (ms_depths y) (o + 1))) := by
  have hn := h.le
  have h0 : (((0 : Int32), y) : Int32 × MS) = (fun i => (nI i, ms_depths_s y (rdp d (ms_depths y) i))) 0 := by
    have : rdp d (ms_depths y) 0 = ms_depths y := by funext j; unfold rdp; rw [if_neg (by omega)]
    simp only [this]; rfl
  rw [h0]
  refine lp_run (fun i => (nI i, ms_depths_s y (rdp d (ms_depths y) i))) (o + 1) ?_ ?_ 64 (by omega)
  · intro m hm k
    unfold M_X7_depth_24s
    have a1 : ast 40 (ms_depths (ms_depths_s y (rdp d (ms_depths y) m))) (nI m) (0 : Int32) = some (upd (rdp d (ms_depths y) m) m 0) := ast_nI (by omega) (by omega)
    rw [if_neg (nI_nlt (by omega) (by omega)), a1, ob_some]
    simp only [tb]
    have h1 : ((nI m, (0 : Int32), ms_depths_s (ms_depths_s y (rdp d (ms_depths y) m)) (upd (rdp d (ms_depths y) m) m 0)) : Int32 × Int32 × MS) = (fun e => (nI m, nI e, ms_depths_s y (upd (rdp d (ms_depths y) m) m (nI (dpi d (dv d) m e))))) 0 := rfl
    rw [h1]
    refine lp_run (fun e => (nI m, nI e, ms_depths_s y (upd (rdp d (ms_depths y) m) m (nI (dpi d (dv d) m e))))) m ?_ ?_ 64 (by omega)
    · intro e he kk
      have l1 := dpi_le' d m e
      have l2 := dv_le' d e
      have g1 : ald 40 (ms_depths (ms_depths_s y (upd (rdp d (ms_depths y) m) m (nI (dpi d (dv d) m e))))) (nI m) = some (nI (dpi d (dv d) m e)) := by
        rw [ald_nI (by omega) (by omega)]
        exact congrArg some pk_us
      have g2 : ald 40 (ms_depths (ms_depths_s y (upd (rdp d (ms_depths y) m) m (nI (dpi d (dv d) m e))))) (nI e) = some (nI (dv d e)) := by
        rw [ald_nI (by omega) (by omega)]
        refine congrArg some ?_
        show upd (rdp d (ms_depths y) m) m (nI (dpi d (dv d) m e)) e = _
        rw [pk_un (by omega)]
        unfold rdp
        rw [if_pos he]
      have g3 : ∀ v, ast 40 (ms_depths (ms_depths_s y (upd (rdp d (ms_depths y) m) m (nI (dpi d (dv d) m e))))) (nI m) v = some (upd (rdp d (ms_depths y) m) m v) := by
        intro v
        rw [ast_nI (by omega) (by omega)]
        exact congrArg some upd_upd
      have e83 : M_X7_depth_83 y0 (nI o) k kk (nI m) (nI e) (nI m) (ms_depths_s y (upd (rdp d (ms_depths y) m) m (nI (dpi d (dv d) m e)))) = kk (nI m, nI (e + 1), ms_depths_s y (upd (rdp d (ms_depths y) m) m (nI (dpi d (dv d) m e)))) := by
        unfold M_X7_depth_83 M_X7_depth_89
        rw [g1, ob_some, g3, ob_some]
        simp only [tb]
        rw [nI_1]
        rfl
      unfold M_X7_depth_38s
      rw [if_neg (nI_ge he (by omega)), r_waits (y := ms_depths_s y (upd (rdp d (ms_depths y) m) m (nI (dpi d (dv d) m e)))) h (by omega) (by omega), ob_some, zI_if]
      cases hb : (opn d e && mts d m e)
      · rw [if_neg (by decide), e83]
        have : dpi d (dv d) m (e + 1) = dpi d (dv d) m e := by
          show (if (opn d e && mts d m e) = true then _ else _) = _
          rw [hb]; rfl
        rw [this]
      · rw [if_pos rfl, g2, ob_some, g1, ob_some, e83]
        have : dpi d (dv d) m (e + 1) = if dv d e < dpi d (dv d) m e then dpi d (dv d) m e else dv d e + 1 := by
          show (if (opn d e && mts d m e) = true then _ else _) = _
          rw [hb]; rfl
        rw [this]
        by_cases q : dv d e < dpi d (dv d) m e
        · rw [if_pos q, if_pos (nI_lt q (by omega))]
        · rw [if_neg q, if_neg (nI_nlt (by omega) (by omega)), ob_some]
          unfold M_X7_depth_89
          rw [g3, ob_some]
          simp only [tb]
          rw [nI_1, nI_1]
          rfl
    · intro kk
      unfold M_X7_depth_38s
      rw [if_pos (Int32.le_refl _), nI_1, ← dv_eq, rdp_s]
  · intro k
    unfold M_X7_depth_24s
    rw [if_pos (nI_lt (by omega) (by omega)), r_isOpen (y := ms_depths_s y (rdp d (ms_depths y) (o + 1))) h (by omega), ob_some, zI_if]
    unfold M_X7_depth_120 cdv
    cases hb : opn d o
    · rfl
    · rw [if_pos rfl, if_pos rfl]
      have : ald 40 (ms_depths (ms_depths_s y (rdp d (ms_depths y) (o + 1)))) (nI o) = some (nI (dv d o)) := by
        rw [ald_nI (by omega) (by omega)]
        refine congrArg some ?_
        show rdp d (ms_depths y) (o + 1) o = _
        unfold rdp
        rw [if_pos (by omega)]
      rw [this, ob_some]
theorem r_depth {y : MS} {d : DS} {n o : Nat} (h : DRel d (ms_now y) n) (ho : o < n) : ∃ B, M_X7_depth y (nI o) = some (cdv d o, ms_depths_s (ms_refusal_s y 0) B) := by
  have hn := h.le
  refine ⟨rdp d (ms_depths y) (o + 1), ?_⟩
  have hv : ov n (nI o) = true := by
    unfold ov
    simp only [Bool.not_eq_true', Bool.or_eq_false_iff, decide_eq_false_iff_not]
    exact ⟨nI_pos (by omega), nI_ge ho (by omega)⟩
  unfold M_X7_depth M_X7_depth_14
  rw [r_isOrder h, ob_some, hv, if_neg (show ¬ zI true = 0 by decide), ref_f]
  simp only [tb]
  refine Eq.trans (if_pos (show zI false = 0 from rfl)) ?_
  exact r_depths (y0 := y) (y := ms_refusal_s y 0) h ho
theorem q_depth {x : SS} {y : MS} (h : SRel x y) (p : Int32) : AgU (fun c q => c = 1 ∧ q = 1) x (M_X6_depth x p) (M_X7_depth y p) := by
  obtain ⟨n, t, hd, hI, ht, ht9⟩ := h.1
  have hn := hd.le
  cases ho : ov n p
  · left
    refine ⟨1, 1, 0, ms_refusal_s y 1, ?_, ?_, rfl, ⟨rfl, rfl⟩, h⟩
    · unfold M_X6_depth
      rw [fO hd.ord, ho]
      rfl
    · unfold M_X7_depth M_X7_depth_14
      rw [r_isOrder hd, ob_some, ho, if_pos (show zI false = 0 from rfl), ref_t]
      simp only [tb]
      exact if_neg (show ¬ zI true = 0 by decide)
  · right
    obtain ⟨o, ho2, rfl⟩ := ov_t hn ho
    obtain ⟨B, e⟩ := r_depth hd ho2
    refine ⟨cdv (ss_drv x) o, ss_dep_s x (cdp (ss_drv x) (ss_dep x) n), ms_depths_s (ms_refusal_s y 0) B, ?_, e, rfl, h⟩
    unfold M_X6_depth
    rw [fO hd.ord, ho, if_pos (rfl : true = true), if_neg (by rw [rfs_0]; decide), c_depths hd.ord hn hI.o, ob_some]
    simp only [tb]
    have : M_X6_at 40 (ss_dep (ss_dep_s x (cdp (ss_drv x) (ss_dep x) n))) (nI o) = cdv (ss_drv x) o := by
      rw [x6_at (by omega) (by decide)]
      show cdp (ss_drv x) (ss_dep x) n o = _
      unfold cdp
      rw [if_pos ho2]
    rw [this]
