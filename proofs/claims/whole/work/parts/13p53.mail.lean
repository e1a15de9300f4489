/-! PART 53: the mailbox -/
theorem wbt : ∀ o, o < 64 → ((1 : Int64) <<< ((nI o).toInt64 &&& 63)).toBitVec = BitVec.twoPow 64 o := by decide +kernel
theorem wsm : ∀ o, o < 64 → (((nI o).toInt64 &&& 63).toBitVec.smod 64).toNat = o := by decide +kernel
theorem c_holds (x : CS) {o : Nat} (ho : o < 40) : M_X2_holds x (nI o) = mb (cs_mail x) o := by
  have e : ((cs_mail x >>> ((nI o).toInt64 &&& 63)) &&& (1 : Int64)) = 0 ↔ mb (cs_mail x) o = false := by
    rw [← Int64.toBitVec_inj, Int64.toBitVec_and, Int64.toBitVec_shiftRight]
    show ((cs_mail x).toBitVec.sshiftRight (((nI o).toInt64 &&& 63).toBitVec.smod 64).toNat &&& 1#64) = 0#64 ↔ _
    rw [wsm o (by omega)]
    unfold mb
    have hl : o < 64 := by omega
    constructor
    · intro h
      have t := congrArg (fun x => x.getLsbD 0) h
      change BitVec.getLsbD (_ &&& _) 0 = _ at t
      rw [BitVec.getLsbD_and, BitVec.getLsbD_sshiftRight, if_pos (show o + 0 < 64 by omega), Nat.add_zero] at t
      cases hx : (cs_mail x).toBitVec.getLsbD o
      · rfl
      · rw [hx] at t; exact absurd t (by decide)
    · intro h
      apply BitVec.eq_of_getLsbD_eq
      intro i hi
      cases i with
      | zero => rw [BitVec.getLsbD_and, BitVec.getLsbD_sshiftRight, if_pos (show o + 0 < 64 by omega), Nat.add_zero, h]; simp
      | succ i => simp
  unfold M_X2_holds
  simp only [M_X2_holds_18, lg_cmp_eq]
  cases hb : mb (cs_mail x) o
  · rw [if_pos (e.mpr hb)]
  · rw [if_neg (fun h => by rw [e.mp h] at hb; cases hb)]
theorem mb_recv (m : Int64) {o j : Nat} (ho : o < 64) : mb (m ||| ((1 : Int64) <<< ((nI o).toInt64 &&& 63))) j = (mb m j || decide (j = o)) := by
  unfold mb
  rw [Int64.toBitVec_or, wbt o ho, BitVec.getLsbD_or, BitVec.getLsbD_twoPow]
  by_cases q : j = o
  · subst q; simp [ho]
  · have q2 : ¬ o = j := fun h => q h.symm
    simp [q, q2]
theorem mb_drop (m : Int64) {o j : Nat} (ho : o < 64) (hj : j < 64) : mb (m &&& (((1 : Int64) <<< ((nI o).toInt64 &&& 63)) ^^^ (-1 : Int64))) j = (mb m j && !decide (j = o)) := by
  have ha : (-1 : Int64).toBitVec = BitVec.allOnes 64 := by decide
  unfold mb
  rw [Int64.toBitVec_and, Int64.toBitVec_xor, wbt o ho, ha, BitVec.getLsbD_and, BitVec.getLsbD_xor, BitVec.getLsbD_twoPow, BitVec.getLsbD_allOnes]
  by_cases q : j = o
  · subst q; simp [ho]
  · have q2 : ¬ o = j := fun h => q h.symm
    simp [q, q2, hj]
theorem mb_0 (j : Nat) : mb 0 j = false := by
  show (0#64).getLsbD j = false
  simp
/-- a controller's mail -/
def ml (d : DS) (c : Nat) : Nat → Bool := mb (cs_mail (dCtl d (nI c)))
theorem c_holds' (d : DS) (c : Nat) {o : Nat} (ho : o < 40) : M_X2_holds (dCtl d (nI c)) (nI o) = ml d c o := c_holds _ ho
theorem c_ctl (d : DS) (c : Nat) (x : CS) : ds_fac (dCtl_s d (nI c) x) = ds_fac d ∧ ds_tick (dCtl_s d (nI c) x) = ds_tick d ∧ ds_ord (dCtl_s d (nI c) x) = ds_ord d ∧ ds_mo (dCtl_s d (nI c) x) = ds_mo d ∧ ds_mv (dCtl_s d (nI c) x) = ds_mv d ∧ ds_val (dCtl_s d (nI c) x) = ds_val d := ⟨rfl, rfl, rfl, rfl, rfl, rfl⟩
theorem r_count {y : MS} {d : DS} {n c : Nat} (h : DRel d (ms_now y) n) (hc : c < 2) : M_X7_control y (nI c) (3 : Int32) = some (nI (fb_ct (ml d c) n)) := by
  unfold ml
  rw [← (h.2.2.2.2.2.2.2.2 c hc).2.2.2.2.2.2.2.1]
  have e := r_control y (c := c) (w := 3) hc (by decide)
  rw [show 20 + 8 * c + 3 = 23 + 8 * c by omega] at e
  exact e
theorem r_item {y : MS} {d : DS} {n c o : Nat} (h : DRel d (ms_now y) n) (hc : c < 2) (ho : o < n) (hm : ml d c o = true) : M_X7_mailed y (nI c) (nI (fb_ct (ml d c) o)) = some (nI o) := by
  have hn := h.2.2.2.1
  have := ct_lt (p := ml d c) ho
  rw [r_mailed y hc (by omega)]
  exact congrArg some ((h.2.2.2.2.2.2.2.2 c hc).2.2.2.2.2.2.2.2.1 o ho hm)
theorem ml_big {y : MS} {d : DS} {n c o : Nat} (h : DRel d (ms_now y) n) (hc : c < 2) (ho : n ≤ o) (ho2 : o < 64) : ml d c o = false := (h.2.2.2.2.2.2.2.2 c hc).2.2.2.2.2.2.2.2.2 o ho ho2
/-- whether an order's mail has arrived, by the clock alone -/
def arr (d : DS) (c o : Nat) : Bool := !decide (ds_tick d < fc d o (10 + c))
theorem r_hasArrived {y : MS} {d : DS} {n c o : Nat} (h : DRel d (ms_now y) n) (hc : c < 2) (ho : o < 40) : M_X7_hasArrived y (nI o) (nI c) = some (arr d c o) := by
  have e : M_X7_of y (nI o) ((10 : Int32) + nI c) = some (fc d o (10 + c)) := by
    rw [show (10 : Int32) + nI c = nI (10 + c) from nI_add 10 c]
    exact r_of' h ho (by omega)
  unfold M_X7_hasArrived
  simp only [e, h.now0, ob_some, M_X7_hasArrived_23, arr]
  by_cases q : ds_tick d < fc d o (10 + c) <;> simp [q]
theorem c_hasArrived {d : DS} {c o : Nat} (hc : c < 2) (ho : o < 40) : M_X3_hasArrivedMail d (nI c) (nI o) = (ml d c o && arr d c o) := by
  have e : M_X3_fact d (nI o) ((10 : Int32) + nI c) = fc d o (10 + c) := by
    rw [show (10 : Int32) + nI c = nI (10 + c) from nI_add 10 c]
    exact c_fact d ho (by omega)
  unfold M_X3_hasArrivedMail
  simp only [c_holds' d c ho, zI_if, M_X3_hasArrivedMail_32, M_X3_hasArrivedMail_33, e, arr]
  cases hm : ml d c o
  · simp
  · by_cases q : ds_tick d < fc d o (10 + c) <;> simp [q]
/-- a loop whose state may stand still at a place -/
theorem lp_run' {α β : Type} {F : (α → Option β) → α → Option β} (st : Nat → α) (m : Nat) {res : Option β} (hstep : ∀ i, i < m → st i = st (i + 1) ∨ ∀ k, F k (st i) = k (st (i + 1))) (hend : ∀ k, F k (st m) = res) : ∀ N, m < N → lpF F N (st 0) = res := by
  have key : ∀ j i, i + j = m → ∀ N, j < N → lpF F N (st i) = res := by
    intro j
    induction j with
    | zero =>
      intro i hi N hN
      obtain ⟨n, rfl⟩ : ∃ n, N = n + 1 := ⟨N - 1, by omega⟩
      have e : i = m := by omega
      rw [lpF_s, e]
      exact hend _
    | succ j ih =>
      intro i hi N hN
      rcases hstep i (by omega) with q | q
      · rw [q]
        exact ih (i + 1) (by omega) N (by omega)
      · obtain ⟨n, rfl⟩ : ∃ n, N = n + 1 := ⟨N - 1, by omega⟩
        rw [lpF_s, q]
        exact ih (i + 1) (by omega) n (by omega)
  intro N hN
  exact key m 0 (by omega) N hN
theorem lp_find' {α β : Type} {F : (α → Option β) → α → Option β} (st : Nat → α) (n : Nat) (p : Nat → Bool) (rS : Nat → Option β) {rN : Option β} (h1 : ∀ i, i < n → p i = true → ∀ k, F k (st i) = rS i) (h2 : ∀ i, i < n → p i = false → st i = st (i + 1) ∨ ∀ k, F k (st i) = k (st (i + 1))) (h3 : ∀ k, F k (st n) = rN) (N : Nat) (hN : n < N) : lpF F N (st 0) = (match fst' p n with | some i => rS i | none => rN) := by
  cases h : fst' p n with
  | none =>
    have h4 := fst'_none.mp h
    exact lp_run' st n (fun i hi => h2 i hi (h4 i hi)) h3 N hN
  | some j =>
    obtain ⟨a, b, c⟩ := fst'_some.mp h
    exact lp_run' st j (fun i hi => h2 i (by omega) (c i hi)) (h1 j a b) N (by omega)
theorem ct_f {p : Nat → Bool} {o : Nat} (h : p o = false) : fb_ct p (o + 1) = fb_ct p o := by rw [fb_ct_succ, h]; rfl
theorem ct_t {p : Nat → Bool} {o : Nat} (h : p o = true) : fb_ct p (o + 1) = fb_ct p o + 1 := by rw [fb_ct_succ, h]; rfl
/-- an item stands in front of the list's end -/
theorem ct_in {p : Nat → Bool} {o n : Nat} (ho : o < n) (h : p o = true) : fb_ct p o < fb_ct p n := by
  have h1 := fb_ct_mono p (show o + 1 ≤ n from ho)
  rw [ct_t h] at h1
  omega
theorem c_arrivedMail {d : DS} {n c : Nat} (hn : ds_ord d = nI n) (hn2 : n ≤ 40) (hc : c < 2) : M_X3_arrivedMail d (nI c) = some (nI (fb_ct (fun o => ml d c o && arr d c o) n)) := by
  unfold M_X3_arrivedMail
  refine lp_run (fun i => (nI (fb_ct (fun o => ml d c o && arr d c o) i), nI i)) n ?_ ?_ 64 (by omega)
  · intro i hi kk
    unfold M_X3_arrivedMail_4s
    simp only [hn]
    rw [if_neg (nI_ge hi (by omega))]
    simp only [c_hasArrived hc (show i < 40 by omega), zI_if, M_X3_arrivedMail_24, nI_1]
    cases q : (ml d c i && arr d c i)
    · rw [ct_f (p := fun o => ml d c o && arr d c o) q]; simp
    · rw [ct_t (p := fun o => ml d c o && arr d c o) q]; simp
  · intro kk
    unfold M_X3_arrivedMail_4s
    simp only [hn]
    rw [if_pos (Int32.le_refl _)]
theorem nI_zI (k : Nat) (b : Bool) : nI k + zI b = nI (k + if b = true then 1 else 0) := by
  cases b
  · show nI k + nI 0 = _
    rw [nI_add]; rfl
  · show nI k + nI 1 = _
    rw [nI_add]; rfl
theorem r_arrived {y : MS} {d : DS} {n c : Nat} (h : DRel d (ms_now y) n) (hc : c < 2) : M_X7_arrived y (nI c) = some (nI (fb_ct (fun o => ml d c o && arr d c o) n)) := by
  have hn := h.2.2.2.1
  unfold M_X7_arrived
  refine lp_run' (fun i => (nI (fb_ct (fun o => ml d c o && arr d c o) i), nI (fb_ct (ml d c) i))) n ?_ ?_ 64 (by omega)
  · intro i hi
    cases hm : ml d c i
    · left
      have q : (fun o => ml d c o && arr d c o) i = false := by show (ml d c i && arr d c i) = false; rw [hm]; rfl
      simp only [ct_f (p := ml d c) hm, ct_f (p := fun o => ml d c o && arr d c o) q]
    · right
      intro kk
      have hin := ct_in (p := ml d c) hi hm
      have hle := fb_ct_le (ml d c) n
      unfold M_X7_arrived_4s
      simp only [r_count h hc, ob_some]
      rw [if_neg (nI_ge hin (by omega))]
      simp only [r_item h hc hi hm, ob_some, r_hasArrived h hc (show i < 40 by omega), zI_if, M_X7_arrived_34, nI_1, nI_zI, ct_t (p := ml d c) hm]
      cases q : arr d c i
      · rw [ct_f (p := fun o => ml d c o && arr d c o) (by show (ml d c i && arr d c i) = false; rw [q]; simp)]; simp
      · rw [ct_t (p := fun o => ml d c o && arr d c o) (by show (ml d c i && arr d c i) = true; rw [q, hm]; rfl)]; simp
  · intro kk
    unfold M_X7_arrived_4s
    simp only [r_count h hc, ob_some]
    rw [if_pos (Int32.le_refl _)]
/-- whether a controller holds an order's mail: the reference looks through the list -/
theorem r_isMailed {y : MS} {d : DS} {n c o : Nat} (h : DRel d (ms_now y) n) (hc : c < 2) (ho : o < n) : M_X7_isMailed y (nI c) (nI o) = some (ml d c o) := by
  have hn := h.2.2.2.1
  unfold M_X7_isMailed
  have h0 : (0 : Int32) = (fun i => nI (fb_ct (ml d c) i)) 0 := rfl
  rw [h0]
  rw [lp_find' (fun i => nI (fb_ct (ml d c) i)) n (fun i => ml d c i && decide (i = o)) (fun _ => some true) (rN := some false) ?_ ?_ ?_ 64 (by omega)]
  · cases hm : ml d c o
    · have : fst' (fun i => ml d c i && decide (i = o)) n = none := fst'_none.mpr fun i hi => by
        by_cases q : i = o
        · rw [q, hm]; rfl
        · simp [q]
      rw [this]
    · cases q : fst' (fun i => ml d c i && decide (i = o)) n with
      | some k => rfl
      | none =>
        have := fst'_none.mp q o ho
        simp [hm] at this
  · intro i hi hp kk
    have hm : ml d c i = true := by revert hp; cases ml d c i <;> simp
    have hio : i = o := by revert hp; rw [hm]; simp
    have hin := ct_in (p := ml d c) hi hm
    have hle := fb_ct_le (ml d c) n
    unfold M_X7_isMailed_2s
    simp only [r_count h hc, ob_some]
    rw [if_neg (nI_ge hin (by omega)), r_item h hc hi hm, ob_some, hio, if_pos rfl]
  · intro i hi hp
    cases hm : ml d c i
    · left
      simp only [ct_f (p := ml d c) hm]
    · right
      intro kk
      have hio : ¬ i = o := by revert hp; rw [hm]; simp
      have hin := ct_in (p := ml d c) hi hm
      have hle := fb_ct_le (ml d c) n
      unfold M_X7_isMailed_2s
      simp only [r_count h hc, ob_some]
      rw [if_neg (nI_ge hin (by omega)), r_item h hc hi hm, ob_some, if_neg (by rw [nI_eq (by omega) (by omega)]; exact hio), ct_t (p := ml d c) hm, nI_1]
  · intro kk
    unfold M_X7_isMailed_2s
    simp only [r_count h hc, ob_some]
    rw [if_pos (Int32.le_refl _)]
/-- the order at place q of a mailbox -/
def mlAt (d : DS) (c n q : Nat) : Option Nat := fst' (fun o => ml d c o && decide (fb_ct (ml d c) o = q)) n
theorem c_mailAt {d : DS} {n c q : Nat} (hn : ds_ord d = nI n) (hn2 : n ≤ 40) (hc : c < 2) (hq : q < 2 ^ 31) : M_X3_mailAt d (nI c) (nI q) = some (optI (mlAt d c n q)) := by
  unfold M_X3_mailAt
  have h0 : ((0 : Int32), (0 : Int32)) = (fun i => (nI (fb_ct (ml d c) i), nI i)) 0 := rfl
  rw [h0]
  rw [lp_find (fun i => (nI (fb_ct (ml d c) i), nI i)) n (fun o => ml d c o && decide (fb_ct (ml d c) o = q)) (fun i => some (nI i)) (rN := some (-1)) ?_ ?_ ?_ 64 (by omega)]
  · unfold mlAt optI
    cases fst' (fun o => ml d c o && decide (fb_ct (ml d c) o = q)) n <;> rfl
  · intro i hi hp kk
    have hm : ml d c i = true := by revert hp; cases ml d c i <;> simp
    have hio : fb_ct (ml d c) i = q := by revert hp; rw [hm]; simp
    unfold M_X3_mailAt_5s
    simp only [hn]
    rw [if_neg (nI_ge hi (by omega)), c_holds' d c (by omega)]
    simp only [zI_if, hm, if_true, hio]
  · intro i hi hp kk
    have hle := ct_lt (p := ml d c) hi
    unfold M_X3_mailAt_5s
    simp only [hn]
    rw [if_neg (nI_ge hi (by omega)), c_holds' d c (by omega)]
    simp only [zI_if, M_X3_mailAt_38, nI_1]
    cases hm : ml d c i
    · rw [ct_f (p := ml d c) hm]; simp
    · have hio : ¬ fb_ct (ml d c) i = q := by revert hp; rw [hm]; simp
      rw [ct_t (p := ml d c) hm]
      simp only [if_true]
      rw [if_neg (by rw [nI_eq (by omega) hq]; exact hio)]
  · intro kk
    unfold M_X3_mailAt_5s
    simp only [hn]
    rw [if_pos (Int32.le_refl _)]
theorem mlAt_some {d : DS} {c n q o : Nat} (h : mlAt d c n q = some o) : o < n ∧ ml d c o = true ∧ fb_ct (ml d c) o = q := by
  obtain ⟨a, b, -⟩ := fst'_some.mp h
  have hm : ml d c o = true := by revert b; cases ml d c o <;> simp
  refine ⟨a, hm, ?_⟩
  revert b; rw [hm]; simp
theorem mlAt_none {d : DS} {c n q : Nat} (h : mlAt d c n q = none) : fb_ct (ml d c) n ≤ q := by
  rcases Nat.lt_or_ge q (fb_ct (ml d c) n) with g | g
  · obtain ⟨i, hi, hm, hk⟩ := fb_ct_kth g
    have := fst'_none.mp h i hi
    simp [hm, hk] at this
  · exact g
/-! the first order that a controller may take -/
theorem c_isTorn (d : DS) : M_X3_isTorn d = (!decide (ds_mo d = -1) && decide (M_X3_fact d (ds_mo d) (5 : Int32) = 1)) := by
  unfold M_X3_isTorn
  simp only [M_X3_isTorn_25, M_X3_isTorn_26]
  by_cases q : ds_mo d = -1
  · rw [if_pos q]; simp [q]
  · rw [if_neg q]
    by_cases q2 : M_X3_fact d (ds_mo d) (5 : Int32) = 1 <;> simp [q, q2]
theorem r_isTorn {y : MS} {d : DS} {n : Nat} (h : DRel d (ms_now y) n) (hI : DInv d n) : M_X7_isTorn y = some (M_X3_isTorn d) := by
  have hn := h.2.2.2.1
  rw [c_isTorn]
  unfold M_X7_isTorn
  simp only [h.now2, ob_some, M_X7_isTorn_29, M_X7_isTorn_30]
  rcases hI.2.1 with q | ⟨o, ho, q⟩
  · rw [if_pos q]; simp [q]
  · have e1 : M_X7_of y (ds_mo d) (5 : Int32) = some (fc d o 5) := by rw [q]; exact r_of' (w := 5) h (by omega) (by decide)
    have e2 : M_X3_fact d (ds_mo d) (5 : Int32) = fc d o 5 := by rw [q]; exact c_fact d (w := 5) (by omega) (by decide)
    have e3 : ¬ ds_mo d = -1 := by
      rw [q]; intro h2
      exact nI_pos (n := o) (by omega) (by rw [h2]; decide)
    rw [if_neg e3, e1, e2, ob_some]
    by_cases q2 : fc d o 5 = 1 <;> simp [e3, q2]
/-- all claims of the open orders in front of one -/
def clI (d : DS) : Nat → Int32
  | 0 => 0
  | i + 1 => if opn d i = true then clI d i ||| M_X3_claimOf d (nI i) else clI d i
theorem clI_bits {d : DS} {n : Nat} (hn : n ≤ 40) (hI : ∀ o, o < n → OInv d o) : ∀ i, i ≤ n → ∃ q, q < 65536 ∧ clI d i = nI q ∧ ∀ b, b < 16 → (q.testBit b = true ↔ ∃ e, e < i ∧ opn d e = true ∧ (decide (fc d e 2 = 3) || tch d e b) = true) := by
  intro i
  induction i with
  | zero =>
    intro _
    exact ⟨0, by decide, rfl, fun b _ => by simp⟩
  | succ i ih =>
    intro hi
    obtain ⟨q, hq, e, hb⟩ := ih (by omega)
    unfold clI
    cases ho : opn d i
    · refine ⟨q, hq, by rw [if_neg (by simp)]; exact e, fun b hb2 => ?_⟩
      rw [hb b hb2]
      constructor
      · rintro ⟨k, h1, h2⟩; exact ⟨k, by omega, h2⟩
      · rintro ⟨k, h1, h2, h3⟩
        refine ⟨k, ?_, h2, h3⟩
        rcases Nat.lt_or_ge k i with g | g
        · exact g
        · have : k = i := by omega
          rw [this, ho] at h2; cases h2
    · obtain ⟨c, hc, e2, -, cb⟩ := c_claim (show i < 40 by omega) (hI i (by omega))
      refine ⟨q ||| c, Nat.or_lt_two_pow (n := 16) hq hc, by rw [if_pos rfl, e, e2, fa_or], fun b hb2 => ?_⟩
      rw [Nat.testBit_or, Bool.or_eq_true, hb b hb2, cb b hb2]
      constructor
      · rintro (⟨k, h1, h2⟩ | h1)
        · exact ⟨k, by omega, h2⟩
        · exact ⟨i, by omega, ho, h1⟩
      · rintro ⟨k, h1, h2, h3⟩
        rcases Nat.lt_or_ge k i with g | g
        · exact Or.inl ⟨k, g, h2, h3⟩
        · have : k = i := by omega
          rw [this] at h3
          exact Or.inr h3
theorem clI_meet {d : DS} {n o : Nat} (hn : n ≤ 40) (ho : o < n) (hI : ∀ o, o < n → OInv d o) : (M_X3_claimOf d (nI o) &&& clI d o) = 0 ↔ fw d o = none := by
  have h1 : (M_X3_claimOf d (nI o) &&& clI d o) = 0 ↔ ∀ e, e < o → opn d e = true → (M_X3_claimOf d (nI e) &&& M_X3_claimOf d (nI o)) = 0 := by
    obtain ⟨q, hq, e, hb⟩ := clI_bits hn hI o (by omega)
    obtain ⟨c, hc, e2, -, cb⟩ := c_claim (show o < 40 by omega) (hI o ho)
    have zero : ∀ {a b : Nat}, a < 65536 → (nI a &&& nI b = 0 ↔ ∀ i, i < 16 → ¬ (a.testBit i = true ∧ b.testBit i = true)) := by
      intro a b ha
      have small : a &&& b < 65536 := Nat.lt_of_le_of_lt Nat.and_le_left ha
      rw [fa_and, nI_zero (by omega)]
      constructor
      · intro h i hi ⟨g1, g2⟩
        have : (a &&& b).testBit i = true := by rw [Nat.testBit_and, g1, g2]; rfl
        rw [h] at this; simp at this
      · intro h
        apply Nat.eq_of_testBit_eq
        intro i
        rw [Nat.testBit_and, Nat.zero_testBit]
        by_cases hi : i < 16
        · cases q1 : a.testBit i
          · simp
          · cases q2 : b.testBit i
            · simp
            · exact absurd ⟨q1, q2⟩ (h i hi)
        · have : a.testBit i = false := Nat.testBit_lt_two_pow (Nat.lt_of_lt_of_le ha (Nat.pow_le_pow_right (n := 2) (i := 16) (by decide) (Nat.le_of_not_lt hi) : 2 ^ 16 ≤ 2 ^ i))
          rw [this]; simp
    rw [e, e2, zero hc]
    constructor
    · intro h k hk hok
      obtain ⟨c3, hc3, e3, -, cb3⟩ := c_claim (show k < 40 by omega) (hI k (by omega))
      rw [e3, zero hc3]
      intro i hi ⟨g1, g2⟩
      exact h i hi ⟨g2, (hb i hi).mpr ⟨k, hk, hok, by rw [← cb3 i hi]; exact g1⟩⟩
    · intro h i hi ⟨g1, g2⟩
      obtain ⟨k, hk, hok, g3⟩ := (hb i hi).mp g2
      obtain ⟨c3, hc3, e3, -, cb3⟩ := c_claim (show k < 40 by omega) (hI k (by omega))
      have := h k hk hok
      rw [e3, zero hc3] at this
      exact this i hi ⟨by rw [cb3 i hi]; exact g3, g1⟩
  rw [h1]
  unfold fw
  rw [fst'_none]
  constructor
  · intro h e he
    cases hoe : opn d e
    · rfl
    · have := (c_meet (by omega) (by omega) (hI o ho) (hI e (by omega))).mp (h e he hoe)
      rw [this]; rfl
  · intro h e he hoe
    have := h e he
    rw [hoe] at this
    exact (c_meet (by omega) (by omega) (hI o ho) (hI e (by omega))).mpr (by simpa using this)
/-- whether a controller may take an order -/
def tk (d : DS) (c o : Nat) : Bool := opn d o && ((fw d o).isNone && (ml d c o && arr d c o))
theorem optI_m1 {o : Option Nat} (h : ∀ k, o = some k → k < 2 ^ 31) : optI o = -1 ↔ o.isNone = true := by
  cases o with
  | none => simp [optI]
  | some k =>
    simp only [optI, Option.isNone_some, Bool.false_eq_true, iff_false]
    intro h2
    exact nI_pos (n := k) (h k rfl) (by rw [h2]; decide)
theorem fw_lt {d : DS} {o k : Nat} (h : fw d o = some k) : k < o := (fst'_some.mp h).1
theorem fw_m1 {d : DS} {o : Nat} (ho : o < 40) : optI (fw d o) = -1 ↔ (fw d o).isNone = true := optI_m1 fun k hk => by have := fw_lt hk; omega
theorem c_firstTakeable {d : DS} {n c : Nat} (hn : ds_ord d = nI n) (hn2 : n ≤ 40) (hI : ∀ o, o < n → OInv d o) (hc : c < 2) : M_X3_firstTakeable d (nI c) = some (optI (fst' (tk d c) n)) := by
  unfold M_X3_firstTakeable
  have h0 : ((0 : Int32), (0 : Int32)) = (fun i => (clI d i, nI i)) 0 := rfl
  rw [h0]
  rw [lp_find (fun i => (clI d i, nI i)) n (tk d c) (fun i => some (nI i)) (rN := some (-1)) ?_ ?_ ?_ 64 (by omega)]
  · unfold optI
    cases fst' (tk d c) n <;> rfl
  · intro i hi hp kk
    have ho : opn d i = true := by revert hp; unfold tk; cases opn d i <;> simp
    have hf : fw d i = none := by
      revert hp; unfold tk; rw [ho]
      cases fw d i <;> simp
    have hma : (ml d c i && arr d c i) = true := by revert hp; unfold tk; rw [ho, hf]; simp
    unfold M_X3_firstTakeable_4s
    simp only [hn]
    rw [if_neg (nI_ge hi (by omega)), c_isOpen d (by omega), c_hasArrived hc (by omega)]
    simp only [zI_if, ho, if_true]
    rw [if_pos ((clI_meet hn2 hi hI).mpr hf), if_pos hma]
  · intro i hi hp kk
    unfold M_X3_firstTakeable_4s
    simp only [hn]
    rw [if_neg (nI_ge hi (by omega)), c_isOpen d (by omega), c_hasArrived hc (by omega)]
    simp only [zI_if, M_X3_firstTakeable_50, M_X3_firstTakeable_45, nI_1, clI]
    cases ho : opn d i
    · simp
    · simp only [if_true]
      by_cases hm : (M_X3_claimOf d (nI i) &&& clI d i) = 0
      · have hf := (clI_meet hn2 hi hI).mp hm
        have hma : (ml d c i && arr d c i) = false := by revert hp; unfold tk; rw [ho, hf]; simp
        rw [if_pos hm, hma]
        simp
      · rw [if_neg hm]
  · intro kk
    unfold M_X3_firstTakeable_4s
    simp only [hn]
    rw [if_pos (Int32.le_refl _)]
theorem c_nextOf {d : DS} {n c : Nat} (hn : ds_ord d = nI n) (hn2 : n ≤ 40) (hI : ∀ o, o < n → OInv d o) (hc : c < 2) : M_X3_nextOf d (nI c) = some (if M_X3_isTorn d = true then ds_mo d else optI (fst' (tk d c) n)) := by
  unfold M_X3_nextOf
  simp only [zI_if, c_firstTakeable hn hn2 hI hc, ob_some, M_X3_nextOf_19]
  cases M_X3_isTorn d <;> simp
theorem r_next {y : MS} {d : DS} {n c : Nat} (h : DRel d (ms_now y) n) (hI : DInv d n) (hc : c < 2) : M_X7_next y (nI c) = some (if M_X3_isTorn d = true then ds_mo d else optI (fst' (tk d c) n)) := by
  have hn := h.2.2.2.1
  unfold M_X7_next
  simp only [r_isTorn h hI, ob_some, zI_if, h.now2]
  cases M_X3_isTorn d
  · simp only [Bool.false_eq_true, if_false]
    have h0 : (0 : Int32) = (fun i => nI (fb_ct (ml d c) i)) 0 := rfl
    rw [h0]
    rw [lp_find' (fun i => nI (fb_ct (ml d c) i)) n (tk d c) (fun i => some (nI i)) (rN := some (-1)) ?_ ?_ ?_ 64 (by omega)]
    · unfold optI
      cases fst' (tk d c) n <;> rfl
    · intro i hi hp kk
      have ho : opn d i = true := by revert hp; unfold tk; cases opn d i <;> simp
      have hf : (fw d i).isNone = true := by revert hp; unfold tk; rw [ho]; cases fw d i <;> simp
      have hma : (ml d c i && arr d c i) = true := by revert hp; unfold tk; rw [ho, hf]; simp
      have hm : ml d c i = true := by revert hma; cases ml d c i <;> simp
      have ha : arr d c i = true := by revert hma; rw [hm]; simp
      have hin := ct_in (p := ml d c) hi hm
      have hle := fb_ct_le (ml d c) n
      unfold M_X7_next_16s
      simp only [r_count h hc, ob_some]
      rw [if_neg (nI_ge hin (by omega))]
      simp only [r_item h hc hi hm, ob_some, r_hasArrived h hc (show i < 40 by omega), r_isOpen h (show i < 40 by omega), r_firstWaited h (show i < 40 by omega), zI_if, ha, ho, if_true]
      rw [if_pos ((fw_m1 (by omega)).mpr hf)]
    · intro i hi hp
      cases hm : ml d c i
      · left
        simp only [ct_f (p := ml d c) hm]
      · right
        intro kk
        have hin := ct_in (p := ml d c) hi hm
        have hle := fb_ct_le (ml d c) n
        unfold M_X7_next_16s
        simp only [r_count h hc, ob_some]
        rw [if_neg (nI_ge hin (by omega))]
        simp only [r_item h hc hi hm, ob_some, r_hasArrived h hc (show i < 40 by omega), r_isOpen h (show i < 40 by omega), r_firstWaited h (show i < 40 by omega), zI_if, M_X7_next_61, ct_t (p := ml d c) hm, nI_1]
        cases ha : arr d c i
        · simp
        · cases ho : opn d i
          · simp
          · have hf : ¬ (fw d i).isNone = true := by revert hp; unfold tk; rw [ho, hm, ha]; cases fw d i <;> simp
            simp only [if_true]
            rw [if_neg (fun q => hf ((fw_m1 (by omega)).mp q))]
    · intro kk
      unfold M_X7_next_16s
      simp only [r_count h hc, ob_some]
      rw [if_pos (Int32.le_refl _)]
  · simp
