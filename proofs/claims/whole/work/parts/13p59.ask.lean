/-! PART 59: the whole states of both sides; the questions -/
def DOK (d : DS) (f : Nat → Int32) : Prop := ∃ n t, DRel d f n ∧ DInv d n ∧ ds_tick d = nI t ∧ t ≤ 9999
def HRel (hs : HS) (past : Nat → Int32) (S : Nat) : Prop := ∃ w, w < 4 ∧ S ≤ 4 ∧ hs_size hs = nI S ∧ hs_new hs = nI w ∧ ∀ k, k < S → DOK (hs_sv hs ((w + 9 + k - S) % 4)) (fun i => past (596 * k + i))
def TRel (t : TS) (text : Nat → Int32) (len : Int32) : Prop := ∃ L, L ≤ 150 ∧ ts_len t = nI L ∧ len = nI L ∧ ∀ i, i < L → ts_by t i = text i
def SRel (x : SS) (y : MS) : Prop := DOK (ss_drv x) (ms_now y) ∧ (∃ S, ms_saved y = nI S ∧ HRel (ss_his x) (ms_past y) S) ∧ TRel (ss_txt x) (ms_text y) (ms_length y) ∧ ms_isRun y = false
def AgU (P : Int32 → Int32 → Prop) (x : SS) (c : Option (Int32 ⊕ (Int32 × SS))) (r : Option (Int32 × MS)) : Prop :=
  (∃ f q v y', c = some (.inl f) ∧ r = some (v, y') ∧ ms_refusal y' = q ∧ P f q ∧ SRel x y') ∨ ∃ v x' y', c = some (.inr (v, x')) ∧ r = some (v, y') ∧ ms_refusal y' = 0 ∧ SRel x' y'
def AgQ (P : Int32 → Int32 → Prop) (x : SS) (c : Option (Int32 ⊕ Int32)) (r : Option (Int32 × MS)) : Prop :=
  (∃ f q v y', c = some (.inl f) ∧ r = some (v, y') ∧ ms_refusal y' = q ∧ P f q ∧ SRel x y') ∨ ∃ v y', c = some (.inr v) ∧ r = some (v, y') ∧ ms_refusal y' = 0 ∧ SRel x y'
theorem ref_t (y : MS) : M_X7_refused y (zI true) = (true, ms_refusal_s y 1) := rfl
theorem ref_f (y : MS) : M_X7_refused y (zI false) = (false, ms_refusal_s y 0) := rfl
theorem ref_0 (y : MS) : M_X7_refused y 0 = (false, ms_refusal_s y 0) := rfl
theorem ref_1 (y : MS) : M_X7_refused y 1 = (true, ms_refusal_s y 1) := rfl
theorem ref_2 (y : MS) : M_X7_refused y 2 = (true, ms_refusal_s y 2) := rfl
theorem ref_3 (y : MS) : M_X7_refused y 3 = (true, ms_refusal_s y 3) := rfl
theorem rfs_0 : rfs 0 = false := rfl
theorem rfs_1 : rfs 1 = true := rfl
theorem rfs_2 : rfs 2 = true := rfl
theorem rfs_3 : rfs 3 = true := rfl
theorem win_eq (a b c : Int32) : M_X7_within a b c = M_X6_isWithin a b c := rfl
theorem win_t {a : Int32} {N : Nat} (hN : N < 2 ^ 31) (h : M_X6_isWithin a 0 (nI N) = true) : ∃ k, k ≤ N ∧ a = nI k := by
  unfold M_X6_isWithin M_X6_isWithin_14 M_X6_isWithin_15 at h
  by_cases q : a < 0
  · rw [if_pos q] at h; cases h
  · rw [if_neg q] at h
    obtain ⟨k, hk, rfl⟩ := nI_of q
    by_cases q2 : nI N < nI k
    · rw [if_pos q2] at h; cases h
    · refine ⟨k, ?_, rfl⟩
      rw [nI_ltI hN hk] at q2
      omega
theorem win_f {N k : Nat} (hN : N < 2 ^ 31) (h : k ≤ N) : M_X6_isWithin (nI k) 0 (nI N) = true := by
  unfold M_X6_isWithin M_X6_isWithin_14 M_X6_isWithin_15
  rw [if_neg (nI_pos (by omega)), if_neg (nI_nlt h hN)]
theorem fC (p : Int32) : M_X6_faultOfController p = if M_X6_isWithin p 0 1 = true then 0 else 1 := by
  unfold M_X6_faultOfController M_X6_faultOfController_14
  rw [zI_if]; cases M_X6_isWithin p 0 1 <;> rfl
theorem fB (p : Int32) : M_X6_faultOfBlock p = if M_X6_isWithin p 0 15 = true then 0 else 1 := by
  unfold M_X6_faultOfBlock M_X6_faultOfBlock_15
  rw [zI_if]; cases M_X6_isWithin p 0 15 <;> rfl
theorem fR (p a b : Int32) : M_X6_faultOfRange p a b = if M_X6_isWithin p a b = true then 0 else 2 := by
  unfold M_X6_faultOfRange M_X6_faultOfRange_14
  rw [zI_if]
theorem fT (p q : Int32) : M_X6_faultOfTag p q = if (M_X6_isWithin p 0 3 && M_X6_isWithin q 0 31) = true then 0 else 2 := by
  unfold M_X6_faultOfTag M_X6_faultOfTag_23 M_X6_faultOfTag_24
  rw [zI_if, zI_if]; cases M_X6_isWithin p 0 3 <;> cases M_X6_isWithin q 0 31 <;> rfl
theorem rT (p q : Int32) : M_X7_isTag p q = (M_X6_isWithin p 0 3 && M_X6_isWithin q 0 31) := by
  unfold M_X7_isTag M_X7_isTag_23 M_X7_isTag_24
  rw [zI_if, zI_if, win_eq, win_eq]; cases M_X6_isWithin p 0 3 <;> cases M_X6_isWithin q 0 31 <;> rfl
/-- whether a number is that of an order -/
def ov (n : Nat) (p : Int32) : Bool := !(decide (p < 0) || decide (nI n ≤ p))
theorem ov_t {n : Nat} {p : Int32} (hn : n ≤ 40) (h : ov n p = true) : ∃ o, o < n ∧ p = nI o := by
  unfold ov at h
  have h1 : ¬ p < 0 := by intro q; simp [q] at h
  have h2 : ¬ nI n ≤ p := by intro q; simp [q] at h
  obtain ⟨k, hk, rfl⟩ := nI_of h1
  refine ⟨k, ?_, rfl⟩
  rw [nI_leI (by omega) hk] at h2
  omega
theorem fO {d : DS} {n : Nat} (hn : ds_ord d = nI n) (p : Int32) : M_X3_faultOfOrder d p = if ov n p = true then 0 else 1 := by
  unfold M_X3_faultOfOrder M_X3_faultOfOrder_16 M_X3_faultOfOrder_17 ov
  rw [hn]
  by_cases q1 : p < 0
  · rw [if_pos q1]; simp [q1]; rfl
  · rw [if_neg q1]
    by_cases q2 : nI n ≤ p
    · rw [if_pos q2]; simp [q2]; rfl
    · rw [if_neg q2]; simp [q1, q2]; rfl
theorem r_isOrder {y : MS} {d : DS} {n : Nat} (h : DRel d (ms_now y) n) (p : Int32) : M_X7_isOrder y p = some (ov n p) := by
  have hn := h.le
  unfold M_X7_isOrder
  rw [h.now1, ob_some]
  congr 1
  unfold M_X7_within M_X7_within_14 M_X7_within_15 ov
  by_cases q1 : p < 0
  · rw [if_pos q1]; simp [q1]
  · rw [if_neg q1]
    have e : (nI n - 1 < p) ↔ nI n ≤ p := by
      obtain ⟨k, hk, rfl⟩ := nI_of q1
      cases n with
      | zero =>
        have a : nI 0 - 1 < nI k := by
          rw [Int32.lt_iff_toInt_lt, nI_toInt hk, show (nI 0 - 1).toInt = -1 by decide]
          omega
        exact ⟨fun _ => nI_le (by omega) hk, fun _ => a⟩
      | succ m =>
        rw [nI_pred, nI_ltI (by omega) hk, nI_leI (by omega) hk]
        omega
    by_cases q2 : nI n ≤ p
    · rw [if_pos (e.mpr q2)]; simp [q2]
    · rw [if_neg (fun z => q2 (e.mp z))]; simp [q1, q2]
theorem q_block {x : SS} {y : MS} (h : SRel x y) (p : Int32) : AgQ (fun c q => c = 1 ∧ q = 1) x (M_X6_block x p) (M_X7_block y p) := by
  obtain ⟨n, t, hd, hI, ht, ht9⟩ := h.1
  unfold M_X6_block M_X7_block M_X7_block_13 M_X7_isBlock
  simp only [fB, win_eq, zI_if, M_X7_block_31]
  cases hw : M_X6_isWithin p 0 15
  · left
    exact ⟨1, 1, 0, ms_refusal_s y 1, rfl, rfl, rfl, ⟨rfl, rfl⟩, h⟩
  · right
    obtain ⟨k, hk, rfl⟩ := win_t (N := 15) (by decide) hw
    have a : ald 596 (ms_now (ms_refusal_s y 0)) ((4 : Int32) + nI k) = some (ds_val (ss_drv x) k) := by
      rw [show (4 : Int32) + nI k = nI (4 + k) from nI_add 4 k, ald_nI (by omega) (by omega)]
      exact congrArg some (hd.2.2.2.2.2.2.1 k (by omega))
    refine ⟨ds_val (ss_drv x) k, ms_refusal_s y 0, ?_, ?_, rfl, h⟩
    · simp only [if_true, rfs_0, Bool.false_eq_true, if_false, x6_at (show k < 16 by omega) (show 16 < 2 ^ 31 by decide)]
    · simp only [if_true, ref_f, tb, Bool.false_eq_true, if_false, a, ob_some]
theorem q_orderOf {x : SS} {y : MS} (h : SRel x y) (p q : Int32) : AgQ (fun c r => (c = 1 ∧ r = 1) ∨ (c = 2 ∧ r = 2)) x (M_X6_orderOf x p q) (M_X7_orderOf y p q) := by
  obtain ⟨n, t, hd, hI, ht, ht9⟩ := h.1
  have hn := hd.le
  unfold M_X6_orderOf M_X7_orderOf M_X7_orderOf_28
  simp only [fO hd.ord, fR, r_isOrder hd, ob_some, win_eq, zI_if, M_X7_orderOf_44]
  cases ho : ov n p
  · left
    exact ⟨1, 1, 0, ms_refusal_s y 1, rfl, rfl, rfl, Or.inl ⟨rfl, rfl⟩, h⟩
  · cases hw : M_X6_isWithin q 0 9
    · left
      exact ⟨2, 2, 0, ms_refusal_s y 2, rfl, rfl, rfl, Or.inr ⟨rfl, rfl⟩, h⟩
    · right
      obtain ⟨o, ho2, rfl⟩ := ov_t hn ho
      obtain ⟨w, hw2, rfl⟩ := win_t (N := 9) (by decide) hw
      have a : M_X7_of (ms_refusal_s y 0) (nI o) (nI w) = some (fc (ss_drv x) o w) := r_of' (y := ms_refusal_s y 0) hd (by omega) (by omega)
      refine ⟨fc (ss_drv x) o w, ms_refusal_s y 0, ?_, ?_, rfl, h⟩
      · simp only [if_true, rfs_0, Bool.false_eq_true, if_false, c_fact (ss_drv x) (show o < 40 by omega) (show w < 12 by omega)]
      · simp only [if_true, ref_0, tb, Bool.false_eq_true, if_false, a, ob_some]
theorem q_orderWith {x : SS} {y : MS} (h : SRel x y) (p q : Int32) : AgQ (fun c r => c = 2 ∧ r = 1) x (M_X6_orderWith x p q) (M_X7_orderWith y p q) := by
  obtain ⟨n, t, hd, hI, ht, ht9⟩ := h.1
  have hn := hd.le
  unfold M_X6_orderWith M_X7_orderWith M_X7_orderWith_14
  simp only [fT, rT, ob_some, zI_if, M_X7_orderWith_30]
  cases hw : (M_X6_isWithin p 0 3 && M_X6_isWithin q 0 31)
  · left
    exact ⟨2, 1, 0, ms_refusal_s y 1, rfl, rfl, rfl, ⟨rfl, rfl⟩, h⟩
  · right
    have a : M_X7_latest (ms_refusal_s y 0) p q = some (lastI (tagp (ss_drv x) p q) n) := r_latest (y := ms_refusal_s y 0) hd p q
    refine ⟨lastI (tagp (ss_drv x) p q) n, ms_refusal_s y 0, ?_, ?_, rfl, h⟩
    · simp only [if_true, rfs_0, Bool.false_eq_true, if_false, c_latest hd.ord hn, ob_some]
    · simp only [if_true, ref_f, tb, Bool.false_eq_true, if_false, a, ob_some]
/-- a controller's fact, on both sides -/
theorem ctlFact_ok {y : MS} {d : DS} {n c w : Nat} (h : DRel d (ms_now y) n) (hc : c < 2) (hw : w ≤ 8) : ∃ v, M_X3_controllerFact d (nI c) (nI w) = some v ∧ (if (4 : Int32) ≤ nI w then (if nI w = (4 : Int32) then M_X7_arrived y (nI c) else M_X7_control y (nI c) (nI w - 1)) else M_X7_control y (nI c) (nI w)) = some v := by
  have hn := h.le
  have cc : ∀ k, k < 8 → M_X7_control y (nI c) (nI k) = some (ms_now y (20 + 8 * c + k)) := fun k hk => r_control y hc hk
  unfold M_X3_controllerFact M_X3_controllerFact_22 M_X2_ownFact M_X2_ownFact_60 M_X2_ownFact_91
  rcases (show w = 0 ∨ w = 1 ∨ w = 2 ∨ w = 3 ∨ w = 4 ∨ w = 5 ∨ w = 6 ∨ w = 7 ∨ w = 8 by omega) with rfl | rfl | rfl | rfl | rfl | rfl | rfl | rfl | rfl
  · refine ⟨zI (cs_aw (dCtl d (nI c))), ?_, ?_⟩
    · rw [if_neg (by decide), if_pos (by decide), zI_if]; cases cs_aw (dCtl d (nI c)) <;> rfl
    · rw [if_neg (by decide), cc 0 (by omega), h.g_aw hc]
  · refine ⟨cs_delay (dCtl d (nI c)), ?_, ?_⟩
    · rw [if_neg (by decide), if_neg (by decide), if_pos (by decide)]
    · rw [if_neg (by decide), cc 1 (by omega), h.g_delay hc]
  · refine ⟨cs_alarm (dCtl d (nI c)), ?_, ?_⟩
    · rw [if_neg (by decide), if_neg (by decide), if_neg (by decide), if_pos (by decide)]
    · rw [if_neg (by decide), cc 2 (by omega), h.g_alarm hc]
  · refine ⟨nI (fb_ct (ml d c) n), ?_, ?_⟩
    · rw [if_neg (by decide), if_neg (by decide), if_neg (by decide), if_neg (by decide), if_pos (by decide), mailSize_ok h hc]
    · rw [if_neg (by decide)]; exact r_count h hc
  · refine ⟨nI (fb_ct (fun o => ml d c o && arr d c o) n), ?_, ?_⟩
    · rw [if_pos (by decide), c_arrivedMail h.ord hn hc, ob_some]
    · rw [if_pos (by decide), if_pos (by decide), r_arrived h hc]
  · refine ⟨cs_done (dCtl d (nI c)), ?_, ?_⟩
    · rw [if_neg (by decide), if_neg (by decide), if_neg (by decide), if_neg (by decide), if_neg (by decide), if_neg (by decide), if_pos (by decide)]
    · rw [if_pos (by decide), if_neg (by decide), show nI 5 - 1 = nI 4 from rfl, cc 4 (by omega), h.g_done hc]
  · refine ⟨cs_fin (dCtl d (nI c)), ?_, ?_⟩
    · rw [if_neg (by decide), if_neg (by decide), if_neg (by decide), if_neg (by decide), if_neg (by decide), if_neg (by decide), if_neg (by decide), if_pos (by decide)]
    · rw [if_pos (by decide), if_neg (by decide), show nI 6 - 1 = nI 5 from rfl, cc 5 (by omega), h.g_fin hc]
  · refine ⟨cs_qua (dCtl d (nI c)), ?_, ?_⟩
    · rw [if_neg (by decide), if_neg (by decide), if_neg (by decide), if_neg (by decide), if_neg (by decide), if_neg (by decide), if_neg (by decide), if_neg (by decide), if_pos (by decide)]
    · rw [if_pos (by decide), if_neg (by decide), show nI 7 - 1 = nI 6 from rfl, cc 6 (by omega), h.g_qua hc]
  · refine ⟨cs_fell (dCtl d (nI c)), ?_, ?_⟩
    · rw [if_neg (by decide), if_neg (by decide), if_neg (by decide), if_neg (by decide), if_neg (by decide), if_neg (by decide), if_neg (by decide), if_neg (by decide), if_neg (by decide)]
    · rw [if_pos (by decide), if_neg (by decide), show nI 8 - 1 = nI 7 from rfl, cc 7 (by omega), h.g_fell hc]
theorem q_controller {x : SS} {y : MS} (h : SRel x y) (p q : Int32) : AgQ (fun c r => (c = 1 ∧ r = 1) ∨ (c = 2 ∧ r = 2)) x (M_X6_controller x p q) (M_X7_controller y p q) := by
  obtain ⟨n, t, hd, hI, ht, ht9⟩ := h.1
  have hn := hd.le
  unfold M_X6_controller M_X7_controller M_X7_controller_27 M_X7_isController
  simp only [fC, fR, win_eq, zI_if, M_X7_controller_70]
  cases hc : M_X6_isWithin p 0 1
  · left
    exact ⟨1, 1, 0, ms_refusal_s y 1, rfl, rfl, rfl, Or.inl ⟨rfl, rfl⟩, h⟩
  · cases hw : M_X6_isWithin q 0 8
    · left
      exact ⟨2, 2, 0, ms_refusal_s y 2, rfl, rfl, rfl, Or.inr ⟨rfl, rfl⟩, h⟩
    · right
      obtain ⟨c, hc2, rfl⟩ := win_t (N := 1) (by decide) hc
      obtain ⟨w, hw2, rfl⟩ := win_t (N := 8) (by decide) hw
      obtain ⟨v, e1, e2⟩ := ctlFact_ok (y := ms_refusal_s y 0) hd (show c < 2 by omega) hw2
      refine ⟨v, ms_refusal_s y 0, ?_, ?_, rfl, h⟩
      · simp only [if_true, rfs_0, Bool.false_eq_true, if_false, e1, ob_some]
      · simp only [if_true, ref_0, tb, Bool.false_eq_true, if_false]
        revert e2
        split
        · split
          · intro e2; rw [e2]; rfl
          · intro e2; rw [e2]; rfl
        · intro e2; rw [e2]; rfl
theorem q_mail {x : SS} {y : MS} (h : SRel x y) (p q : Int32) : AgQ (fun c r => (c = 1 ∧ r = 1) ∨ (c = 2 ∧ r = 2)) x (M_X6_mail x p q) (M_X7_mail y p q) := by
  obtain ⟨n, t, hd, hI, ht, ht9⟩ := h.1
  have hn := hd.le
  unfold M_X6_mail M_X7_mail M_X7_mail_21 M_X7_isController M_X6_mail_16
  simp only [fC, win_eq, zI_if, M_X7_mail_49]
  cases hc : M_X6_isWithin p 0 1
  · left
    exact ⟨1, 1, 0, ms_refusal_s y 1, rfl, rfl, rfl, Or.inl ⟨rfl, rfl⟩, h⟩
  · by_cases hq : (0 : Int32) ≤ q
    · right
      obtain ⟨c, hc2, rfl⟩ := win_t (N := 1) (by decide) hc
      obtain ⟨k, hk, rfl⟩ := nI_of (Int32.not_lt.mpr hq)
      refine ⟨optI (mlAt (ss_drv x) c n k), ms_refusal_s y 0, ?_, ?_, rfl, h⟩
      · simp only [if_true, rfs_0, Bool.false_eq_true, if_false, hq, c_mailAt hd.ord hn (show c < 2 by omega) hk, ob_some]
      · have e3 : M_X7_control (ms_refusal_s y 0) (nI c) (3 : Int32) = some (nI (fb_ct (ml (ss_drv x) c) n)) := r_count (y := ms_refusal_s y 0) hd (by omega)
        have hle := fb_ct_le (ml (ss_drv x) c) n
        simp only [if_true, ref_0, tb, Bool.false_eq_true, if_false, hq, e3, ob_some]
        cases hm : mlAt (ss_drv x) c n k with
        | none =>
          rw [if_pos (nI_le (mlAt_none hm) hk)]
          rfl
        | some o =>
          obtain ⟨ho, hb, hk2⟩ := mlAt_some hm
          subst hk2
          have hin := ct_in (p := ml (ss_drv x) c) ho hb
          have e4 : M_X7_mailed (ms_refusal_s y 0) (nI c) (nI (fb_ct (ml (ss_drv x) c) o)) = some (nI o) := r_item (y := ms_refusal_s y 0) hd (by omega) ho hb
          rw [if_neg (nI_ge hin (by omega)), e4]
          rfl
    · left
      refine ⟨2, 2, 0, ms_refusal_s y 2, ?_, ?_, rfl, Or.inr ⟨rfl, rfl⟩, h⟩
      · simp only [if_true, rfs_0, rfs_2, Bool.false_eq_true, if_false, hq]
      · simp only [if_true, ref_2, tb, Bool.false_eq_true, if_false, hq]
theorem q_waitsFor {x : SS} {y : MS} (h : SRel x y) (p : Int32) : AgQ (fun c r => c = 1 ∧ r = 1) x (M_X6_waitsFor x p) (M_X7_waitsFor y p) := by
  obtain ⟨n, t, hd, hI, ht, ht9⟩ := h.1
  have hn := hd.le
  unfold M_X6_waitsFor M_X7_waitsFor M_X7_waitsFor_14
  simp only [fO hd.ord, r_isOrder hd, ob_some, zI_if, M_X7_waitsFor_39]
  cases ho : ov n p
  · left
    exact ⟨1, 1, 0, ms_refusal_s y 1, rfl, rfl, rfl, ⟨rfl, rfl⟩, h⟩
  · right
    obtain ⟨o, ho2, rfl⟩ := ov_t hn ho
    have a1 : M_X7_isOpen (ms_refusal_s y 0) (nI o) = some (opn (ss_drv x) o) := r_isOpen (y := ms_refusal_s y 0) hd (by omega)
    have a2 : M_X7_firstWaited (ms_refusal_s y 0) (nI o) = some (optI (fw (ss_drv x) o)) := r_firstWaited (y := ms_refusal_s y 0) hd (by omega)
    refine ⟨if opn (ss_drv x) o = true then optI (fw (ss_drv x) o) else -1, ms_refusal_s y 0, ?_, ?_, rfl, h⟩
    · simp only [if_true, rfs_0, Bool.false_eq_true, if_false, c_firstAwaited hn ho2 hI.o, ob_some]
    · simp only [if_true, ref_f, tb, Bool.false_eq_true, if_false, a1, a2, ob_some]
      cases opn (ss_drv x) o <;> simp
theorem q_nextFor {x : SS} {y : MS} (h : SRel x y) (p : Int32) : AgQ (fun c r => c = 1 ∧ r = 1) x (M_X6_nextFor x p) (M_X7_nextFor y p) := by
  obtain ⟨n, t, hd, hI, ht, ht9⟩ := h.1
  have hn := hd.le
  unfold M_X6_nextFor M_X7_nextFor M_X7_nextFor_13 M_X7_isController
  simp only [fC, win_eq, zI_if, M_X7_nextFor_28]
  cases hc : M_X6_isWithin p 0 1
  · left
    exact ⟨1, 1, 0, ms_refusal_s y 1, rfl, rfl, rfl, ⟨rfl, rfl⟩, h⟩
  · right
    obtain ⟨c, hc2, rfl⟩ := win_t (N := 1) (by decide) hc
    have a := r_next (y := ms_refusal_s y 0) hd hI (show c < 2 by omega)
    refine ⟨if M_X3_isTorn (ss_drv x) = true then ds_mo (ss_drv x) else optI (fst' (tk (ss_drv x) c) n), ms_refusal_s y 0, ?_, ?_, rfl, h⟩
    · simp only [if_true, rfs_0, Bool.false_eq_true, if_false, c_nextOf hd.ord hn hI.o (show c < 2 by omega), ob_some]
    · simp only [if_true, ref_f, tb, Bool.false_eq_true, if_false, a, ob_some]
theorem q_reason {x : SS} {y : MS} (h : SRel x y) (p q : Int32) : AgQ (fun c r => c = 1 ∧ r = 1) x (M_X6_reason x p q) (M_X7_reason y p q) := by
  obtain ⟨n, t, hd, hI, ht, ht9⟩ := h.1
  have hn := hd.le
  unfold M_X6_reason M_X7_reason M_X7_reason_16 M_X7_reason_21 M_X7_isController
  simp only [fC, fO hd.ord, r_isOrder hd, win_eq, zI_if, ob_some]
  cases hc : M_X6_isWithin p 0 1
  · left
    exact ⟨1, 1, 0, ms_refusal_s y 1, rfl, rfl, rfl, ⟨rfl, rfl⟩, h⟩
  · cases ho : ov n q
    · left
      exact ⟨1, 1, 0, ms_refusal_s y 1, rfl, rfl, rfl, ⟨rfl, rfl⟩, h⟩
    · right
      obtain ⟨c, hc2, rfl⟩ := win_t (N := 1) (by decide) hc
      obtain ⟨o, ho2, rfl⟩ := ov_t hn ho
      have hc3 : c < 2 := by omega
      have ho4 : o < 40 := by omega
      have a1 := r_next (y := ms_refusal_s y 0) hd hI hc3
      have a2 : M_X7_isOpen (ms_refusal_s y 0) (nI o) = some (opn (ss_drv x) o) := r_isOpen (y := ms_refusal_s y 0) hd ho4
      have a3 : M_X7_isTorn (ms_refusal_s y 0) = some (M_X3_isTorn (ss_drv x)) := r_isTorn (y := ms_refusal_s y 0) hd hI
      have a4 : M_X7_isMailed (ms_refusal_s y 0) (nI c) (nI o) = some (ml (ss_drv x) c o) := r_isMailed (y := ms_refusal_s y 0) hd hc3 ho2
      have a5 : M_X7_hasArrived (ms_refusal_s y 0) (nI o) (nI c) = some (arr (ss_drv x) c o) := r_hasArrived (y := ms_refusal_s y 0) hd hc3 ho4
      have a6 : M_X7_firstWaited (ms_refusal_s y 0) (nI o) = some (optI (fw (ss_drv x) o)) := r_firstWaited (y := ms_refusal_s y 0) hd ho4
      refine ⟨(if (if M_X3_isTorn (ss_drv x) = true then ds_mo (ss_drv x) else optI (fst' (tk (ss_drv x) c) n)) = nI o then 0 else if opn (ss_drv x) o = true then (if M_X3_isTorn (ss_drv x) = true then 2 else if ml (ss_drv x) c o = true then (if arr (ss_drv x) c o = true then (if optI (fw (ss_drv x) o) = -1 then 6 else 5) else 4) else 3) else 1), ms_refusal_s y 0, ?_, ?_, rfl, h⟩
      · unfold M_X3_whyNot
        simp only [if_true, rfs_0, Bool.false_eq_true, if_false, c_nextOf hd.ord hn hI.o hc3, ob_some, c_isOpen _ ho4, c_holds' _ _ ho4, c_hasArrived hc3 ho4, c_firstAwaited hn ho2 hI.o, zI_if, M_X3_whyNot_70]
        generalize (if M_X3_isTorn (ss_drv x) = true then ds_mo (ss_drv x) else optI (fst' (tk (ss_drv x) c) n)) = g
        by_cases q1 : g = nI o
        · simp [q1]
        · cases opn (ss_drv x) o
          · simp [q1]
          · cases M_X3_isTorn (ss_drv x)
            · cases ml (ss_drv x) c o
              · simp [q1]
              · cases arr (ss_drv x) c o
                · simp [q1]
                · by_cases q2 : optI (fw (ss_drv x) o) = -1 <;> simp [q1, q2]
            · simp [q1]
      · simp only [if_true, ref_f, tb, Bool.false_eq_true, if_false, a1, a2, a3, a4, a5, a6, ob_some, M_X7_reason_98]
        generalize (if M_X3_isTorn (ss_drv x) = true then ds_mo (ss_drv x) else optI (fst' (tk (ss_drv x) c) n)) = g
        by_cases q1 : g = nI o
        · simp [q1]
        · cases opn (ss_drv x) o
          · simp [q1]
          · cases M_X3_isTorn (ss_drv x)
            · cases ml (ss_drv x) c o
              · simp [q1]
              · cases arr (ss_drv x) c o
                · simp [q1]
                · by_cases q2 : optI (fw (ss_drv x) o) = -1 <;> simp [q1, q2]
            · simp [q1]
/-! all the orders and blocks together -/
def sumI (f : Nat → Int32) : Nat → Int32
  | 0 => 0
  | n + 1 => sumI f n + f n
theorem c_sum (d : DS) : M_X3_sumOfValues d = some (sumI (ds_val d) 16) := by
  unfold M_X3_sumOfValues
  refine lp_run (fun i => (sumI (ds_val d) i, nI i)) 16 ?_ ?_ 64 (by omega)
  · intro i hi kk
    unfold M_X3_sumOfValues_4s
    simp only [nI_1, x6_at hi (show 16 < 2 ^ 31 by decide), sumI]
    rw [if_neg (show ¬ (16 : Int32) ≤ nI i from nI_ge (a := i) (b := 16) hi (by omega))]
  · intro kk
    unfold M_X3_sumOfValues_4s
    exact if_pos (show (16 : Int32) ≤ nI 16 by decide)
theorem r_sum {y : MS} {d : DS} {n : Nat} (h : DRel d (ms_now y) n) : M_X7_sum y = some (sumI (ds_val d) 16) := by
  unfold M_X7_sum
  refine lp_run (fun i => (sumI (ds_val d) i, nI i)) 16 ?_ ?_ 64 (by omega)
  · intro i hi kk
    have a : ald 596 (ms_now y) ((4 : Int32) + nI i) = some (ds_val d i) := by
      rw [show (4 : Int32) + nI i = nI (4 + i) from nI_add 4 i, ald_nI (by omega) (by omega)]
      exact congrArg some (h.2.2.2.2.2.2.1 i hi)
    unfold M_X7_sum_4s
    simp only [nI_1, a, ob_some, sumI]
    rw [if_neg (show ¬ (16 : Int32) ≤ nI i from nI_ge (a := i) (b := 16) hi (by omega))]
  · intro kk
    unfold M_X7_sum_4s
    exact if_pos (show (16 : Int32) ≤ nI 16 by decide)
