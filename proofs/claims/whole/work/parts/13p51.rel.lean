/-! PART 51: how the two states belong together -/
def mb (m : Int64) (o : Nat) : Bool := m.toBitVec.getLsbD o
/-- a mailbox: how many bits, and the k-th of them at place k of the list -/
def MRel (m : Int64) (f : Nat → Int32) (k n : Nat) : Prop :=
  f (23 + 8 * k) = nI (fb_ct (mb m) n) ∧ (∀ o, o < n → mb m o = true → f (36 + 40 * k + fb_ct (mb m) o) = nI o) ∧ ∀ o, n ≤ o → o < 64 → mb m o = false
def CRel (c : CS) (f : Nat → Int32) (k n : Nat) : Prop :=
  f (20 + 8 * k) = zI (cs_aw c) ∧ f (21 + 8 * k) = cs_delay c ∧ f (22 + 8 * k) = cs_alarm c ∧ f (24 + 8 * k) = cs_done c ∧ f (25 + 8 * k) = cs_fin c ∧ f (26 + 8 * k) = cs_qua c ∧ f (27 + 8 * k) = cs_fell c ∧ MRel (cs_mail c) f k n
def DRel (d : DS) (f : Nat → Int32) (n : Nat) : Prop :=
  f 0 = ds_tick d ∧ f 1 = nI n ∧ ds_ord d = nI n ∧ n ≤ 40 ∧ f 2 = ds_mo d ∧ f 3 = ds_mv d ∧ (∀ b, b < 16 → f (4 + b) = ds_val d b) ∧ (∀ i, i < 480 → f (116 + i) = ds_fac d i) ∧ ∀ k, k < 2 → CRel (dCtl d (nI k)) f k n
/-- what holds of the orders told, of the marker and of the tick -/
def DInv (d : DS) (n : Nat) : Prop :=
  (∀ o, o < n → (∃ k, k < 4 ∧ fc d o 2 = nI k) ∧ (∃ b, b < 16 ∧ fc d o 3 = nI b) ∧ (fc d o 2 = 2 → ∃ b, b < 16 ∧ fc d o 4 = nI b) ∧ (∃ t, t < 4 ∧ fc d o 5 = nI t)) ∧
  (ds_mo d = -1 ∨ ∃ o, o < n ∧ ds_mo d = nI o) ∧ ∃ t, t < 20000 ∧ ds_tick d = nI t
theorem DRel.fact {d : DS} {f : Nat → Int32} {n o w : Nat} (h : DRel d f n) (ho : o < 40) (hw : w < 12) : f (116 + 12 * o + w) = fc d o w := by
  have h1 := h.2.2.2.2.2.2.2.1 (12 * o + w) (by omega)
  unfold fc
  rw [← h1]
  congr 1
  omega
theorem r_of' {y : MS} {d : DS} {n o w : Nat} (h : DRel d (ms_now y) n) (ho : o < 40) (hw : w < 12) : M_X7_of y (nI o) (nI w) = some (fc d o w) := by
  rw [r_of y ho hw, h.fact ho hw]
/-- whether an order is open, by its state -/
def opn (d : DS) (o : Nat) : Bool := decide (fc d o 5 = 0) || decide (fc d o 5 = 1)
theorem c_isOpen (d : DS) {o : Nat} (ho : o < 40) : M_X3_isOpen d (nI o) = opn d o := by
  unfold M_X3_isOpen
  have e : M_X3_fact d (nI o) (5 : Int32) = fc d o 5 := c_fact d (w := 5) ho (by decide)
  rw [e]
  simp only [M_X3_isOpen_16, M_X3_isOpen_21, opn]
  by_cases h0 : fc d o 5 = 0
  · rw [if_pos h0]; simp [h0]
  · rw [if_neg h0]
    by_cases h1 : fc d o 5 = 1
    · rw [if_pos h1]; simp [h1]
    · rw [if_neg h1]; simp [h0, h1]
theorem r_isOpen {y : MS} {d : DS} {n o : Nat} (h : DRel d (ms_now y) n) (ho : o < 40) : M_X7_isOpen y (nI o) = some (opn d o) := by
  have e : M_X7_of y (nI o) (5 : Int32) = some (fc d o 5) := r_of' (w := 5) h ho (by decide)
  unfold M_X7_isOpen
  simp only [e, ob_some, M_X7_isOpen_19, M_X7_isOpen_24, opn]
  by_cases h0 : fc d o 5 = 0
  · rw [if_pos h0]; simp [h0]
  · rw [if_neg h0]
    by_cases h1 : fc d o 5 = 1
    · rw [if_pos h1]; simp [h1]
    · rw [if_neg h1]; simp [h0, h1]
/-- the last place below n where p holds, -1 if there is none -/
def lastI (p : Nat → Bool) : Nat → Int32
  | 0 => -1
  | n + 1 => if p n = true then nI n else lastI p n
/-- whether an order bears a tag -/
def tagp (d : DS) (h k : Int32) (o : Nat) : Bool := decide (fc d o 0 = h) && decide (fc d o 1 = k)
theorem c_latest {d : DS} {n : Nat} (hn : ds_ord d = nI n) (hn2 : n ≤ 40) (h k : Int32) : M_X3_latestWith d h k = some (lastI (tagp d h k) n) := by
  have key : ∀ m, m ≤ 40 → ∀ N, m < N → lpF (M_X3_latestWith_7s d h k) N (nI m - 1) = some (lastI (tagp d h k) m) := by
    intro m
    induction m with
    | zero =>
      intro _ N hN
      obtain ⟨j, rfl⟩ : ∃ j, N = j + 1 := ⟨N - 1, by omega⟩
      rw [lpF_s]
      unfold M_X3_latestWith_7s
      rw [if_pos (by decide)]
      rfl
    | succ m ih =>
      intro hm N hN
      obtain ⟨j, rfl⟩ : ∃ j, N = j + 1 := ⟨N - 1, by omega⟩
      have e1 : nI (m + 1) - 1 = nI m := nI_pred m
      have e2 : M_X3_fact d (nI m) (0 : Int32) = fc d m 0 := c_fact d (w := 0) (by omega) (by decide)
      have e3 : M_X3_fact d (nI m) (1 : Int32) = fc d m 1 := c_fact d (w := 1) (by omega) (by decide)
      have e4 : nI m + (-1) = nI m - 1 := by rw [Int32.sub_eq_add_neg]
      rw [lpF_s, e1, M_X3_latestWith_7s, if_neg (nI_pos (by omega)), e2, e3]
      simp only [M_X3_latestWith_33, e4, ih (by omega) j (by omega), lastI, tagp]
      by_cases q1 : fc d m 0 = h
      · by_cases q2 : fc d m 1 = k
        · rw [if_pos q1, if_pos q2]; simp [q1, q2]
        · rw [if_pos q1, if_neg q2]; simp [q2]
      · rw [if_neg q1]; simp [q1]
  unfold M_X3_latestWith
  rw [hn]
  exact key n hn2 64 (by omega)
theorem r_latest {y : MS} {d : DS} {n : Nat} (h : DRel d (ms_now y) n) (hh k : Int32) : M_X7_latest y hh k = some (lastI (tagp d hh k) n) := by
  have hn := h.2.2.2.1
  have e0 : ald 596 (ms_now y) (1 : Int32) = some (nI n) := by
    rw [← h.2.1]; exact ald_nI (k := 1) (by omega) (by omega)
  unfold M_X7_latest
  refine lp_run (fun i => (lastI (tagp d hh k) i, nI i)) n ?_ ?_ 64 (by omega)
  · intro i hi kk
    have e1 : M_X7_of y (nI i) (0 : Int32) = some (fc d i 0) := r_of' (w := 0) h (by omega) (by decide)
    have e2 : M_X7_of y (nI i) (1 : Int32) = some (fc d i 1) := r_of' (w := 1) h (by omega) (by decide)
    unfold M_X7_latest_5s
    simp only [e0, e1, e2, ob_some, M_X7_latest_43, M_X7_latest_44]
    rw [if_neg (by rw [nI_leI (by omega) (by omega)]; omega)]
    simp only [lastI, tagp, nI_1]
    by_cases q1 : fc d i 0 = hh
    · by_cases q2 : fc d i 1 = k
      · rw [if_pos q1, if_pos q2]; simp [q1, q2]
      · rw [if_pos q1, if_neg q2]; simp [q2]
    · rw [if_neg q1]; simp [q1]
  · intro kk
    unfold M_X7_latest_5s
    simp only [e0, ob_some]
    rw [if_pos (Int32.le_refl _)]
/-- whether an order touches a block -/
def tch (d : DS) (o b : Nat) : Bool := (decide (fc d o 2 ≠ 3) && decide (fc d o 3 = nI b)) || (decide (fc d o 2 = 2) && decide (fc d o 4 = nI b))
theorem r_touches {y : MS} {d : DS} {n o : Nat} (h : DRel d (ms_now y) n) (ho : o < 40) (b : Nat) : M_X7_touches y (nI o) (nI b) = some (tch d o b) := by
  have e2 : M_X7_of y (nI o) (2 : Int32) = some (fc d o 2) := r_of' (w := 2) h ho (by decide)
  have e3 : M_X7_of y (nI o) (3 : Int32) = some (fc d o 3) := r_of' (w := 3) h ho (by decide)
  have e4 : M_X7_of y (nI o) (4 : Int32) = some (fc d o 4) := r_of' (w := 4) h ho (by decide)
  unfold M_X7_touches
  simp only [e2, e3, e4, ob_some, M_X7_touches_24, M_X7_touches_25, M_X7_touches_50, M_X7_touches_54, M_X7_touches_55, tch, zI_if]
  by_cases q1 : fc d o 2 = 3
  · simp [q1]
  · by_cases q2 : fc d o 3 = nI b
    · simp [q1, q2]
    · by_cases q3 : fc d o 2 = 2
      · by_cases q4 : fc d o 4 = nI b <;> simp [q2, q3, q4]
      · simp [q1, q2, q3]
/-- whether two orders get in each other's way -/
def mts (d : DS) (o e : Nat) : Bool := (decide (fc d o 2 = 3) || decide (fc d e 2 = 3)) || (List.range 16).any (fun b => tch d o b && tch d e b)
theorem r_waits {y : MS} {d : DS} {n o e : Nat} (h : DRel d (ms_now y) n) (ho : o < 40) (he : e < 40) : M_X7_waits y (nI o) (nI e) = some (opn d e && mts d o e) := by
  have e2 : M_X7_of y (nI o) (2 : Int32) = some (fc d o 2) := r_of' (w := 2) h ho (by decide)
  have e3 : M_X7_of y (nI e) (2 : Int32) = some (fc d e 2) := r_of' (w := 2) h he (by decide)
  have loop : ∀ w0 : Bool, M_X7_waits_35 y (nI o) (nI e) w0 = some (w0 || (List.range 16).any (fun b => tch d o b && tch d e b)) := by
    intro w0
    unfold M_X7_waits_35
    have h0 : ((w0, (0 : Int32)) : Bool × Int32) = (fun i => (w0 || (List.range i).any (fun b => tch d o b && tch d e b), nI i)) 0 := by simp [nI_0]
    rw [h0]
    refine lp_run (fun i => (w0 || (List.range i).any (fun b => tch d o b && tch d e b), nI i)) 16 ?_ ?_ 64 (by omega)
    · intro i hi kk
      unfold M_X7_waits_39s
      simp only [r_touches h ho, r_touches h he, ob_some, M_X7_waits_70, M_X7_waits_74, M_X7_waits_75, nI_1, zI_if]
      rw [if_neg (show ¬ (16 : Int32) ≤ nI i from nI_ge (a := i) (b := 16) hi (by omega))]
      simp only [List.range_succ, List.any_append, List.any_cons, List.any_nil, Bool.or_false]
      cases w0 <;> cases (List.range i).any (fun b => tch d o b && tch d e b) <;> cases tch d o i <;> cases tch d e i <;> simp
    · intro kk
      unfold M_X7_waits_39s
      exact if_pos (show (16 : Int32) ≤ nI 16 by decide)
  unfold M_X7_waits
  simp only [r_isOpen h he, e2, e3, ob_some, M_X7_waits_30, loop, mts, zI_if]
  cases opn d e
  · simp
  · by_cases q1 : fc d o 2 = 3
    · simp [q1]
    · by_cases q2 : fc d e 2 = 3
      · simp [q1, q2]
      · simp [q1, q2]
/-- the first earlier order that an order waits for -/
def fw (d : DS) (o : Nat) : Option Nat := fst' (fun e => opn d e && mts d o e) o
theorem r_firstWaited {y : MS} {d : DS} {n o : Nat} (h : DRel d (ms_now y) n) (ho : o < 40) : M_X7_firstWaited y (nI o) = some (optI (fw d o)) := by
  unfold M_X7_firstWaited
  have h0 : (0 : Int32) = (fun i => nI i) 0 := rfl
  rw [h0]
  rw [lp_find (fun i => nI i) o (fun e => opn d e && mts d o e) (fun i => some (nI i)) (rN := some (-1)) ?_ ?_ ?_ 64 (by omega)]
  · unfold fw optI
    cases fst' (fun e => opn d e && mts d o e) o <;> rfl
  · intro i hi hp kk
    unfold M_X7_firstWaited_2s
    rw [if_neg (nI_ge hi (by omega)), r_waits h ho (by omega)]
    simp only [ob_some, zI_if, hp, if_true]
  · intro i hi hp kk
    unfold M_X7_firstWaited_2s
    rw [if_neg (nI_ge hi (by omega)), r_waits h ho (by omega)]
    simp only [ob_some, zI_if, hp, nI_1]
    simp
  · intro kk
    unfold M_X7_firstWaited_2s
    rw [if_pos (Int32.le_refl _)]
/-- what holds of one order told -/
def OInv (d : DS) (o : Nat) : Prop := (∃ k, k < 4 ∧ fc d o 2 = nI k) ∧ (∃ b, b < 16 ∧ fc d o 3 = nI b) ∧ (fc d o 2 = 2 → ∃ b, b < 16 ∧ fc d o 4 = nI b) ∧ (∃ t, t < 4 ∧ fc d o 5 = nI t)
/-- a claim's bits -/
theorem c_claim {d : DS} {o : Nat} (ho : o < 40) (hI : OInv d o) : ∃ c, c < 65536 ∧ M_X3_claimOf d (nI o) = nI c ∧ c ≠ 0 ∧ ∀ b, b < 16 → c.testBit b = (decide (fc d o 2 = 3) || tch d o b) := by
  have e2 : M_X3_fact d (nI o) (2 : Int32) = fc d o 2 := c_fact d (w := 2) ho (by decide)
  have e3 : M_X3_fact d (nI o) (3 : Int32) = fc d o 3 := c_fact d (w := 3) ho (by decide)
  have e4 : M_X3_fact d (nI o) (4 : Int32) = fc d o 4 := c_fact d (w := 4) ho (by decide)
  obtain ⟨⟨k, hk, ek⟩, ⟨b0, hb0, eb⟩, hc, -⟩ := hI
  have eq : ∀ {a b : Nat}, a < 16 → b < 16 → decide (nI a = nI b) = decide (b = a) := by
    intro a b ha hb
    rw [decide_eq_decide, nI_eq (by omega) (by omega)]
    exact eq_comm
  have p16 : ∀ b, b < 16 → 2 ^ b < 65536 ∧ 2 ^ b ≠ 0 := by decide +kernel
  unfold M_X3_claimOf
  simp only [e2, e3, e4, M_X3_claimOf_43]
  by_cases q1 : fc d o 2 = 3
  · rw [if_pos q1]
    refine ⟨65535, by decide, rfl, by decide, fun b hb => ?_⟩
    have : ∀ b, b < 16 → Nat.testBit 65535 b = true := by decide +kernel
    rw [this b hb]; simp [q1]
  · rw [if_neg q1]
    by_cases q2 : fc d o 2 = 2
    · rw [if_pos q2]
      obtain ⟨b1, hb1, e1⟩ := hc q2
      rw [eb, e1, shl1 b0 hb0, shl1 b1 hb1, fa_or]
      refine ⟨2 ^ b0 ||| 2 ^ b1, ?_, rfl, ?_, fun b hb => ?_⟩
      · exact Nat.or_lt_two_pow (n := 16) (p16 b0 hb0).1 (p16 b1 hb1).1
      · intro h
        have h1 : (2 ^ b0 ||| 2 ^ b1).testBit b0 = true := by simp [Nat.testBit_or, Nat.testBit_two_pow_self]
        rw [h] at h1; simp at h1
      · rw [Nat.testBit_or, Nat.testBit_two_pow, Nat.testBit_two_pow]
        unfold tch
        rw [eb, e1, eq hb0 hb, eq hb1 hb]
        have c1 : decide (b0 = b) = decide (b = b0) := by rw [decide_eq_decide]; exact eq_comm
        have c2 : decide (b1 = b) = decide (b = b1) := by rw [decide_eq_decide]; exact eq_comm
        rw [c1, c2]
        simp [q2]
    · rw [if_neg q2, eb, shl1 b0 hb0]
      refine ⟨2 ^ b0, (p16 b0 hb0).1, rfl, (p16 b0 hb0).2, fun b hb => ?_⟩
      rw [Nat.testBit_two_pow]
      unfold tch
      rw [eb, eq hb0 hb]
      have c1 : decide (b0 = b) = decide (b = b0) := by rw [decide_eq_decide]; exact eq_comm
      rw [c1]
      simp [q1, q2]
theorem c_meet {d : DS} {o e : Nat} (ho : o < 40) (he : e < 40) (hI : OInv d o) (hE : OInv d e) : (M_X3_claimOf d (nI e) &&& M_X3_claimOf d (nI o)) = 0 ↔ mts d o e = false := by
  obtain ⟨c, hc, e1, c0, cb⟩ := c_claim ho hI
  obtain ⟨c2, hc2, e2, c20, cb2⟩ := c_claim he hE
  have small : c2 &&& c < 65536 := Nat.lt_of_le_of_lt Nat.and_le_right hc
  rw [e1, e2, fa_and, nI_zero (by omega)]
  have bits : (c2 &&& c = 0) ↔ ∀ b, b < 16 → ¬ (c2.testBit b = true ∧ c.testBit b = true) := by
    constructor
    · intro h b hb ⟨h1, h2⟩
      have : (c2 &&& c).testBit b = true := by rw [Nat.testBit_and, h1, h2]; rfl
      rw [h] at this; simp at this
    · intro h
      apply Nat.eq_of_testBit_eq
      intro i
      rw [Nat.testBit_and, Nat.zero_testBit]
      by_cases hi : i < 16
      · cases q1 : c2.testBit i
        · simp
        · cases q2 : c.testBit i
          · simp
          · exact absurd ⟨q1, q2⟩ (h i hi)
      · have : c.testBit i = false := Nat.testBit_lt_two_pow (Nat.lt_of_lt_of_le hc (Nat.pow_le_pow_right (n := 2) (i := 16) (by decide) (Nat.le_of_not_lt hi) : 2 ^ 16 ≤ 2 ^ i))
        rw [this]; simp
  rw [bits]
  have some1 : ∃ b, b < 16 ∧ c.testBit b = true := by
    obtain ⟨b, hb⟩ := Nat.exists_testBit_of_ne_zero c0
    refine ⟨b, ?_, hb⟩
    rcases Nat.lt_or_ge b 16 with q | q
    · exact q
    · rw [Nat.testBit_lt_two_pow (Nat.lt_of_lt_of_le hc (Nat.pow_le_pow_right (n := 2) (i := 16) (by decide) q : 2 ^ 16 ≤ 2 ^ b))] at hb
      cases hb
  have some2 : ∃ b, b < 16 ∧ c2.testBit b = true := by
    obtain ⟨b, hb⟩ := Nat.exists_testBit_of_ne_zero c20
    refine ⟨b, ?_, hb⟩
    rcases Nat.lt_or_ge b 16 with q | q
    · exact q
    · rw [Nat.testBit_lt_two_pow (Nat.lt_of_lt_of_le hc2 (Nat.pow_le_pow_right (n := 2) (i := 16) (by decide) q : 2 ^ 16 ≤ 2 ^ b))] at hb
      cases hb
  unfold mts
  by_cases q1 : fc d o 2 = 3
  · simp only [q1, decide_true, Bool.true_or, reduceCtorEq, iff_false]
    obtain ⟨b, hb, h2⟩ := some2
    intro h
    exact h b hb ⟨h2, by rw [cb b hb, q1]; rfl⟩
  · by_cases q2 : fc d e 2 = 3
    · simp only [q2, decide_true, Bool.or_true, Bool.true_or, reduceCtorEq, iff_false]
      obtain ⟨b, hb, h2⟩ := some1
      intro h
      exact h b hb ⟨by rw [cb2 b hb, q2]; rfl, h2⟩
    · simp only [q1, q2, decide_false, Bool.or_false, Bool.false_or]
      rw [List.any_eq_false]
      constructor
      · intro h b hb
        have hb := List.mem_range.mp hb
        have := h b hb
        rw [cb b hb, cb2 b hb] at this
        simp only [q1, q2, decide_false, Bool.false_or] at this
        cases h1 : tch d o b <;> cases h2 : tch d e b <;> simp_all
      · intro h b hb ⟨h1, h2⟩
        have := h b (List.mem_range.mpr hb)
        rw [cb b hb] at h2
        rw [cb2 b hb] at h1
        simp only [q1, q2, decide_false, Bool.false_or] at h1 h2
        rw [h1, h2] at this
        exact this rfl
theorem c_isAwaited {d : DS} {o e : Nat} (ho : o < 40) (he : e < 40) (hI : OInv d o) (hE : OInv d e) : M_X3_isAwaited d (nI e) (nI o) = (opn d e && mts d o e) := by
  unfold M_X3_isAwaited
  simp only [M_X3_isAwaited_26, M_X3_isAwaited_27, c_isOpen d he, zI_if]
  cases opn d e
  · simp
  · by_cases q : (M_X3_claimOf d (nI e) &&& M_X3_claimOf d (nI o)) = 0
    · rw [if_pos q, (c_meet ho he hI hE).mp q]; simp
    · rw [if_neg q]
      have : mts d o e = true := by
        cases h : mts d o e
        · exact absurd ((c_meet ho he hI hE).mpr h) q
        · rfl
      rw [this]; simp
theorem c_firstAwaited {d : DS} {n o : Nat} (hn : n ≤ 40) (ho : o < n) (hI : ∀ o, o < n → OInv d o) : M_X3_firstAwaited d (nI o) = some (if opn d o = true then optI (fw d o) else -1) := by
  unfold M_X3_firstAwaited
  rw [c_isOpen d (by omega), zI_if]
  cases opn d o
  · simp
  · simp only [if_true]
    have h0 : (0 : Int32) = (fun i => nI i) 0 := rfl
    rw [h0]
    rw [lp_find (fun i => nI i) o (fun e => opn d e && mts d o e) (fun i => some (nI i)) (rN := some (-1)) ?_ ?_ ?_ 64 (by omega)]
    · unfold fw optI
      cases fst' (fun e => opn d e && mts d o e) o <;> rfl
    · intro i hi hp kk
      unfold M_X3_firstAwaited_12s
      rw [if_neg (nI_ge hi (by omega)), c_isAwaited (by omega) (by omega) (hI o ho) (hI i (by omega)), zI_if, hp]
      rfl
    · intro i hi hp kk
      unfold M_X3_firstAwaited_12s
      rw [if_neg (nI_ge hi (by omega)), c_isAwaited (by omega) (by omega) (hI o ho) (hI i (by omega)), zI_if, hp, nI_1]
      rfl
    · intro kk
      unfold M_X3_firstAwaited_12s
      rw [if_pos (Int32.le_refl _)]
