/-! PART 51: plain facts for the mirrors of the class (whole's parts 13p49 to 13p72 and 82, what speaks of the class alone) -/
theorem x6_at {N b : Nat} {f : Nat → Int32} (hb : b < N) (hN : N < 2 ^ 31) : M_X6_at N f (nI b) = f b := by
  unfold M_X6_at
  rw [if_neg (nI_pos (by omega)), if_neg (show ¬ Int32.ofNat N ≤ nI b from nI_ge hb hN), nI_clamp (by omega)]
  rfl
theorem x6_put {N b : Nat} {f : Nat → Int32} {v : Int32} (hb : b < N) (hN : N < 2 ^ 31) : M_X6_put N f (nI b) v = upd f b v := by
  unfold M_X6_put
  rw [if_neg (nI_pos (by omega)), if_neg (show ¬ Int32.ofNat N ≤ nI b from nI_ge hb hN), nI_clamp (by omega)]
  rfl
/-- counting without one place -/
theorem ct_drop {p : Nat → Bool} {o : Nat} (ho : p o = true) (j : Nat) : fb_ct (fun i => p i && !decide (i = o)) j = if o < j then fb_ct p j - 1 else fb_ct p j := by
  have e : fb_ct (fun i => p i && !decide (i = o)) j = fb_ct (fun i => if i = o then false else p i) j := fb_ct_cong fun i _ => by
    by_cases q : i = o <;> simp [q]
  rw [e]
  by_cases q : o < j
  · have h1 := fb_ct_upd p false q
    rw [ho] at h1
    simp only [if_true, Bool.false_eq_true, if_false, Nat.add_zero] at h1
    rw [if_pos q]
    omega
  · rw [if_neg q, fb_ct_out p false (by omega)]
theorem begin_eq {d : DS} {o b : Nat} (ho : o < 40) (hb : b < 16) (e : fc d o 3 = nI b) : M_X3_begin d (nI o) = dF (ds_mv_s (ds_mo_s d (nI o)) (ds_val d b)) o 5 1 := by
  have e3 : M_X3_fact (ds_mo_s d (nI o)) (nI o) (3 : Int32) = fc d o 3 := c_fact _ (w := 3) ho (by decide)
  unfold M_X3_begin
  simp only [tb]
  rw [e3, e]
  have e4 : M_X6_at 16 (ds_val (ds_mo_s d (nI o))) (nI b) = ds_val d b := x6_at hb (by omega)
  rw [e4]
  exact c_setFact _ (w := 5) ho (by decide) 1
theorem complete_eq (d : DS) {c o : Nat} (hc : c < 2) (ho : o < 40) : M_X3_complete d (nI c) (nI o) = dCtl_s (dF (dF (dF d o 5 2) o 6 (nI c)) o 8 (ds_tick d)) (nI c) (cs_done_s (dCtl d (nI c)) (cs_done (dCtl d (nI c)) + 1)) := by
  have a1 : ∀ (d : DS) v, M_X3_setFact d (nI o) (5 : Int32) v = dF d o 5 v := fun d v => c_setFact d (w := 5) ho (by decide) v
  have a2 : ∀ (d : DS) v, M_X3_setFact d (nI o) (6 : Int32) v = dF d o 6 v := fun d v => c_setFact d (w := 6) ho (by decide) v
  have a3 : ∀ (d : DS) v, M_X3_setFact d (nI o) (8 : Int32) v = dF d o 8 v := fun d v => c_setFact d (w := 8) ho (by decide) v
  unfold M_X3_complete
  simp only [tb, a1, a2, a3]
  rfl
theorem ctl_get {d : DS} {c : Nat} (hc : c < 2) (x : CS) : dCtl (dCtl_s d (nI c) x) (nI c) = x := by
  rw [dCtl_s_dCtl hc hc, if_pos rfl]
theorem ctl_set {d : DS} {c : Nat} (hc : c < 2) (x x' : CS) : dCtl_s (dCtl_s d (nI c) x) (nI c) x' = dCtl_s d (nI c) x' := by
  rcases (show c = 0 ∨ c = 1 by omega) with rfl | rfl <;> rfl
theorem ctl_same {d : DS} {c : Nat} (hc : c < 2) : dCtl_s d (nI c) (dCtl d (nI c)) = d := by
  rcases (show c = 0 ∨ c = 1 by omega) with rfl | rfl <;> rfl
/-- what the sorting of the mail does at one order -/
def sst (d : DS) (c i : Nat) : DS :=
  if ((ml d c i && arr d c i) && !opn d i) = true then
    (if (decide (fc d i 5 = 2) && !decide (fc d i 6 = nI c)) = true then dCtl_s d (nI c) (cs_qua_s (M_X2_drop (dCtl d (nI c)) (nI i)) (cs_qua (dCtl d (nI c)) + 1)) else dCtl_s d (nI c) (M_X2_drop (dCtl d (nI c)) (nI i)))
  else d
def so (d : DS) (c : Nat) : Nat → DS
  | 0 => d
  | i + 1 => sst (so d c i) c i
/-- the same but for the mail and the quarrels -/
def sameB (d d' : DS) : Prop := ds_fac d' = ds_fac d ∧ ds_tick d' = ds_tick d ∧ ds_ord d' = ds_ord d ∧ ds_mo d' = ds_mo d ∧ ds_mv d' = ds_mv d ∧ ds_val d' = ds_val d
theorem sameB.rf (d : DS) : sameB d d := ⟨rfl, rfl, rfl, rfl, rfl, rfl⟩
theorem sameB.tr {a b c : DS} (h : sameB a b) (k : sameB b c) : sameB a c := ⟨k.1.trans h.1, k.2.1.trans h.2.1, k.2.2.1.trans h.2.2.1, k.2.2.2.1.trans h.2.2.2.1, k.2.2.2.2.1.trans h.2.2.2.2.1, k.2.2.2.2.2.trans h.2.2.2.2.2⟩
theorem sst_same (d : DS) (c i : Nat) : sameB d (sst d c i) := by
  unfold sst
  split
  · split
    · exact ⟨rfl, rfl, rfl, rfl, rfl, rfl⟩
    · exact ⟨rfl, rfl, rfl, rfl, rfl, rfl⟩
  · exact sameB.rf d
theorem so_same (d : DS) (c : Nat) : ∀ i, sameB d (so d c i) := by
  intro i
  induction i with
  | zero => exact sameB.rf d
  | succ i ih => exact ih.tr (sst_same _ c i)
theorem sameB.e_fc {d d' : DS} (h : sameB d d') (o w : Nat) : fc d' o w = fc d o w := by unfold fc; rw [h.1]
theorem sameB.e_opn {d d' : DS} (h : sameB d d') (o : Nat) : opn d' o = opn d o := by unfold opn; rw [h.e_fc]
theorem sameB.e_tch {d d' : DS} (h : sameB d d') (o b : Nat) : tch d' o b = tch d o b := by unfold tch; rw [h.e_fc, h.e_fc, h.e_fc]
theorem sameB.e_mts {d d' : DS} (h : sameB d d') (o e : Nat) : mts d' o e = mts d o e := by
  unfold mts
  rw [h.e_fc, h.e_fc]
  simp only [h.e_tch]
theorem sameB.e_fw {d d' : DS} (h : sameB d d') (o : Nat) : fw d' o = fw d o := by
  unfold fw
  simp only [h.e_opn, h.e_mts]
theorem sameB.e_arr {d d' : DS} (h : sameB d d') (c o : Nat) : arr d' c o = arr d c o := by unfold arr; rw [h.e_fc, h.2.1]
theorem drop_ml {d : DS} {c i j : Nat} (hc : c < 2) (hi : i < 40) (hj : j < 64) (x : CS) (hx : cs_mail x = cs_mail (M_X2_drop (dCtl d (nI c)) (nI i))) : ml (dCtl_s d (nI c) x) c j = (ml d c j && !decide (j = i)) := by
  unfold ml
  rw [ctl_get hc, hx]
  exact mb_drop _ (by omega) hj
theorem sst_ml {d : DS} {c i j : Nat} (hc : c < 2) (hi : i < 40) (hj : j < 64) (hij : i ≠ j) : ml (sst d c i) c j = ml d c j := by
  unfold sst
  have q : ¬ j = i := fun h => hij h.symm
  split
  · split
    · rw [drop_ml hc hi hj (cs_qua_s (M_X2_drop (dCtl d (nI c)) (nI i)) (cs_qua (dCtl d (nI c)) + 1)) rfl]; simp [q]
    · rw [drop_ml hc hi hj (M_X2_drop (dCtl d (nI c)) (nI i)) rfl]; simp [q]
  · rfl
theorem so_ml {d : DS} {c : Nat} (hc : c < 2) : ∀ i, i ≤ 40 → ∀ j, i ≤ j → j < 64 → ml (so d c i) c j = ml d c j := by
  intro i
  induction i with
  | zero => intro _ j _ _; rfl
  | succ i ih =>
    intro hi j hj hj2
    show ml (sst (so d c i) c i) c j = _
    rw [sst_ml hc (by omega) hj2 (by omega)]
    exact ih (by omega) j (by omega) hj2
theorem c_sortOut {d : DS} {c m : Nat} (hc : c < 2) (hm : m ≤ 40) : M_X3_sortOutMail d (nI c) (nI m) = some (so d c m) := by
  unfold M_X3_sortOutMail
  refine lp_run (fun i => (nI i, so d c i)) m ?_ ?_ 64 (by omega)
  · intro i hi kk
    unfold M_X3_sortOutMail_9s
    rw [if_neg (nI_ge hi (by omega))]
    simp only [c_hasArrived hc (show i < 40 by omega), c_isOpen _ (show i < 40 by omega), zI_if, M_X3_sortOutMail_73, nI_1]
    show _ = kk (nI (i + 1), sst (so d c i) c i)
    generalize so d c i = e
    unfold sst
    cases h1 : (ml e c i && arr e c i)
    · simp
    · cases h2 : opn e i
      · simp only [if_true, Bool.false_eq_true, if_false, Bool.not_false, Bool.and_true, tb]
        have e5 : M_X3_fact (dCtl_s e (nI c) (M_X2_drop (dCtl e (nI c)) (nI i))) (nI i) (5 : Int32) = fc e i 5 := c_fact _ (w := 5) (by omega) (by decide)
        have e6 : M_X3_fact (dCtl_s e (nI c) (M_X2_drop (dCtl e (nI c)) (nI i))) (nI i) (6 : Int32) = fc e i 6 := c_fact _ (w := 6) (by omega) (by decide)
        rw [e5, e6]
        by_cases q5 : fc e i 5 = 2
        · by_cases q6 : fc e i 6 = nI c
          · simp [q5, q6]
          · rw [if_pos q5, if_neg q6]
            simp only [q5, q6, decide_true, decide_false, Bool.not_false, Bool.and_true, if_true]
            rw [ctl_get hc, ctl_set hc]
            rfl
        · simp [q5]
      · simp
  · intro kk
    unfold M_X3_sortOutMail_9s
    rw [if_pos (Int32.le_refl _)]
theorem upd_add0 {f : Nat → Int32} {k : Nat} : upd f k (f k + 0) = f := by rw [Int32.add_zero]; exact upd_same
theorem DInv.o {d : DS} {n : Nat} (h : DInv d n) : ∀ o, o < n → OInv d o := fun o ho => h.1 o ho
theorem DInv.next {d d' : DS} {n : Nat} (hI : DInv d n) (h2 : ∀ o w, o < n → w = 2 ∨ w = 3 ∨ w = 4 → fc d' o w = fc d o w) (h5 : ∀ o, o < n → ∃ t, t < 4 ∧ fc d' o 5 = nI t) (hm : ds_mo d' = -1 ∨ ∃ o, o < n ∧ ds_mo d' = nI o) (ht : ds_tick d' = ds_tick d) : DInv d' n := by
  refine ⟨fun o ho => ?_, hm, by rw [ht]; exact hI.2.2⟩
  obtain ⟨a, b, c, -⟩ := hI.1 o ho
  refine ⟨?_, ?_, ?_, h5 o ho⟩
  · rw [h2 o 2 ho (by simp)]; exact a
  · rw [h2 o 3 ho (by simp)]; exact b
  · rw [h2 o 2 ho (by simp), h2 o 4 ho (by simp)]; exact c
theorem DInv.same {d d' : DS} {n : Nat} (hI : DInv d n) (h : sameB d d') : DInv d' n :=
  hI.next (fun o w _ _ => h.e_fc o w) (fun o ho => by rw [h.e_fc]; exact (hI.1 o ho).2.2.2) (by rw [h.2.2.2.1]; exact hI.2.1) h.2.1
/-- how many orders are done -/
def dn (d : DS) (n : Nat) : Nat := fb_ct (fun o => decide (fc d o 5 = 2)) n
theorem dn_same {d d' : DS} {n : Nat} (h : ∀ o, o < n → fc d' o 5 = fc d o 5) : dn d' n = dn d n := by
  unfold dn
  exact fb_ct_cong fun o ho => by rw [h o ho]
theorem dn_more {d d' : DS} {n o : Nat} (ho : o < n) (h0 : ¬ fc d o 5 = 2) (h1 : fc d' o 5 = 2) (h2 : ∀ i, i < n → i ≠ o → fc d' i 5 = fc d i 5) : dn d' n = dn d n + 1 := by
  unfold dn
  have e : fb_ct (fun i => decide (fc d' i 5 = 2)) n = fb_ct (fun i => if i = o then true else decide (fc d i 5 = 2)) n := fb_ct_cong fun i hi => by
    by_cases q : i = o
    · rw [if_pos q, q, h1]; rfl
    · rw [if_neg q, h2 i hi q]
  have h3 := fb_ct_upd (fun i => decide (fc d i 5 = 2)) true ho
  simp only [h0, decide_false, Bool.false_eq_true, if_false, if_true, Nat.add_zero] at h3
  rw [e, h3]
theorem fc_begin {d : DS} {o b : Nat} (ho : o < 40) (hb : b < 16) (e : fc d o 3 = nI b) {o' w : Nat} (hw : w < 12) : fc (M_X3_begin d (nI o)) o' w = if o' = o ∧ w = 5 then 1 else fc d o' w := by
  rw [begin_eq ho hb e, fc_dF (by decide) hw]
  rfl
theorem fc_complete {d : DS} {c o : Nat} (hc : c < 2) (ho : o < 40) {o' w : Nat} (hw : w < 12) : fc (M_X3_complete d (nI c) (nI o)) o' w = if o' = o ∧ w = 8 then ds_tick d else if o' = o ∧ w = 6 then nI c else if o' = o ∧ w = 5 then 2 else fc d o' w := by
  rw [complete_eq d hc ho]
  show fc (dF (dF (dF d o 5 2) o 6 (nI c)) o 8 (ds_tick d)) o' w = _
  rw [fc_dF (by decide) hw, fc_dF (by decide) hw, fc_dF (by decide) hw]
theorem ml_complete {d : DS} {c o : Nat} (hc : c < 2) (ho : o < 40) : ml (M_X3_complete d (nI c) (nI o)) c = ml d c := by
  rw [complete_eq d hc ho]
  unfold ml
  rw [ctl_get hc]
  rfl
def hd (d : DS) (c : Nat) : DS := dCtl_s d (nI c) (M_X2_heedAlarm (dCtl d (nI c)) (ds_tick d))
theorem hd_same (d : DS) (c : Nat) : sameB d (hd d c) := ⟨rfl, rfl, rfl, rfl, rfl, rfl⟩
theorem hd_0 (d : DS) : ds_zero_s d (M_X2_heedAlarm (ds_zero d) (ds_tick d)) = hd d 0 := rfl
theorem hd_1 (d : DS) : ds_one_s d (M_X2_heedAlarm (ds_one d) (ds_tick d)) = hd d 1 := rfl
theorem c_countIn {d : DS} {n : Nat} (hn : ds_ord d = nI n) (hn2 : n ≤ 40) (s : Int32) : M_X3_countIn d s = some (nI (fb_ct (fun o => decide (fc d o 5 = s)) n)) := by
  unfold M_X3_countIn
  refine lp_run (fun i => (nI (fb_ct (fun o => decide (fc d o 5 = s)) i), nI i)) n ?_ ?_ 64 (by omega)
  · intro i hi kk
    have e : M_X3_fact d (nI i) (5 : Int32) = fc d i 5 := c_fact d (w := 5) (by omega) (by decide)
    unfold M_X3_countIn_4s
    simp only [hn]
    rw [if_neg (nI_ge hi (by omega))]
    simp only [e, M_X3_countIn_25, nI_1]
    by_cases q : fc d i 5 = s
    · rw [if_pos q, ct_t (p := fun o => decide (fc d o 5 = s)) (by simp [q])]
    · rw [if_neg q, ct_f (p := fun o => decide (fc d o 5 = s)) (by simp [q])]
  · intro kk
    unfold M_X3_countIn_4s
    simp only [hn]
    rw [if_pos (Int32.le_refl _)]
theorem nI_subx (a b : Nat) : nI (a + b) - nI a = nI b := by
  rw [← nI_add]
  apply Int32.toBitVec_inj.mp
  rw [Int32.toBitVec_sub, Int32.toBitVec_add, BitVec.add_comm, BitVec.add_sub_cancel]
def g1 (M N : Nat) : Nat := N - ((N / 2) &&& M)
def g2 (M N : Nat) : Nat := (N &&& M) + ((N / 4) &&& M)
def g3 (M N : Nat) : Nat := (N + N / 16) &&& M
def rep (b : Nat) : Nat → Nat
  | 0 => 0
  | k + 1 => 256 * rep b k + b
theorem and_bytes {H B M C : Nat} (hB : B < 256) (hC : C < 256) : (256 * H + B) &&& (256 * M + C) = 256 * (H &&& M) + (B &&& C) := by
  have hs : B &&& C < 256 := Nat.lt_of_le_of_lt Nat.and_le_left hB
  apply Nat.eq_of_testBit_eq
  intro i
  rw [Nat.testBit_and]
  have e : ∀ {X Y : Nat}, Y < 256 → (256 * X + Y).testBit i = if i < 8 then Y.testBit i else X.testBit (i - 8) := by
    intro X Y hY
    exact Nat.testBit_two_pow_mul_add X (i := 8) hY i
  rw [e hB, e hC, e hs]
  split
  · rw [Nat.testBit_and]
  · rw [Nat.testBit_and]
def pc8 (B : Nat) : Nat := g3 15 (g2 51 (g1 85 B))
theorem by1 : ∀ B, B < 256 → ∀ h, h < 2 → (128 * h + B / 2) &&& 85 = (B / 2) &&& 85 ∧ ((B / 2) &&& 85) ≤ B := by decide +kernel
theorem by2 : ∀ B, B < 256 → ∀ h, h < 4 → (64 * h + B / 4) &&& 51 = (B / 4) &&& 51 ∧ (B &&& 51) + ((B / 4) &&& 51) < 256 := by decide +kernel
theorem by3 : ∀ B, B < 256 → g2 51 (g1 85 B) ≤ 68 ∧ g2 51 (g1 85 B) % 16 ≤ 4 ∧ pc8 B ≤ 8 ∧ fb_ct B.testBit 8 = pc8 B := by decide +kernel
theorem by4 : ∀ B, B < 69 → ∀ h, h < 5 → (B + 16 * h + B / 16) &&& 15 = (B + B / 16) &&& 15 := by decide +kernel
theorem g1_step {M H B : Nat} (hB : B < 256) : g1 (256 * M + 85) (256 * H + B) = 256 * g1 M H + g1 85 B := by
  unfold g1
  have e : (256 * H + B) / 2 = 256 * (H / 2) + (128 * (H % 2) + B / 2) := by omega
  obtain ⟨a, b⟩ := by1 B hB (H % 2) (by omega)
  have c : (H / 2) &&& M ≤ H := Nat.le_trans Nat.and_le_left (by omega)
  rw [e, and_bytes (by omega) (by omega), a]
  omega
theorem g2_step {M H B : Nat} (hB : B < 256) : g2 (256 * M + 51) (256 * H + B) = 256 * g2 M H + g2 51 B := by
  unfold g2
  have e : (256 * H + B) / 4 = 256 * (H / 4) + (64 * (H % 4) + B / 4) := by omega
  obtain ⟨a, b⟩ := by2 B hB (H % 4) (by omega)
  rw [e, and_bytes (by omega) (by omega), and_bytes (by omega) (by omega), a]
  omega
theorem g3_step {M H B : Nat} (hB : B < 69) (hH : H % 16 < 5) : g3 (256 * M + 15) (256 * H + B) = 256 * g3 M H + g3 15 B := by
  unfold g3
  have e : 256 * H + B + (256 * H + B) / 16 = 256 * (H + H / 16) + (B + 16 * (H % 16) + B / 16) := by omega
  rw [e, and_bytes (by omega) (by omega), by4 B hB _ hH]
def bs : Nat → Nat → Nat
  | 0, _ => 0
  | k + 1, N => 256 * bs k (N / 256) + pc8 (N % 256)
theorem g12_low : ∀ k N, N < 256 ^ k → g2 (rep 51 k) (g1 (rep 85 k) N) % 16 < 5 ∧ g3 (rep 15 k) (g2 (rep 51 k) (g1 (rep 85 k) N)) = bs k N := by
  intro k
  induction k with
  | zero =>
    intro N hN
    have e : N = 0 := by simp at hN; exact hN
    subst e
    decide
  | succ k ih =>
    intro N hN
    have hH : N / 256 < 256 ^ k := by
      rw [Nat.pow_succ] at hN
      exact Nat.div_lt_of_lt_mul (by rw [Nat.mul_comm]; exact hN)
    have hB : N % 256 < 256 := Nat.mod_lt _ (by decide)
    obtain ⟨i1, i2⟩ := ih (N / 256) hH
    obtain ⟨b1, b2, b3, -⟩ := by3 (N % 256) hB
    have hg1 : g1 85 (N % 256) < 256 := by unfold g1; omega
    have e : N = 256 * (N / 256) + N % 256 := by omega
    have s : g2 (rep 51 (k + 1)) (g1 (rep 85 (k + 1)) N) = 256 * g2 (rep 51 k) (g1 (rep 85 k) (N / 256)) + g2 51 (g1 85 (N % 256)) := by
      show g2 (256 * rep 51 k + 51) (g1 (256 * rep 85 k + 85) N) = _
      rw [e, g1_step hB, g2_step hg1, ← e]
    rw [s]
    refine ⟨by omega, ?_⟩
    show g3 (256 * rep 15 k + 15) _ = 256 * bs k (N / 256) + pc8 (N % 256)
    rw [g3_step (by omega) i1, i2]
    rfl
theorem ct_bytes : ∀ k N, fb_ct N.testBit (8 * (k + 1)) = pc8 (N % 256) + fb_ct (N / 256).testBit (8 * k) := by
  intro k N
  rw [show 8 * (k + 1) = 8 + 8 * k by omega, fb_ct_split]
  congr 1
  · rw [← (by3 (N % 256) (Nat.mod_lt _ (by decide))).2.2.2]
    refine fb_ct_cong fun i hi => ?_
    rw [show (256 : Nat) = 2 ^ 8 from rfl, Nat.testBit_mod_two_pow]
    simp [hi]
  · refine fb_ct_cong fun i _ => ?_
    rw [show (256 : Nat) = 2 ^ 8 from rfl, Nat.testBit_div_two_pow]
    congr 1
    omega
theorem by_add {x y x' y' p q : Nat} (h1 : x = 256 * x' + p) (h2 : y = 256 * y' + q) : x + y = 256 * (x' + y') + (p + q) := by omega
theorem dv1 {a x p : Nat} (h : a = 256 * x + p) (hp : p ≤ 16) : a / 256 = x := by omega
theorem dv2 {a x y p q : Nat} (h : a = 256 * x + p) (h2 : x = 256 * y + q) (hp : p ≤ 16) (hq : q ≤ 16) : a / 65536 = y := by omega
theorem dv4 {a x y z w p q r t : Nat} (h : a = 256 * x + p) (h2 : x = 256 * y + q) (h3 : y = 256 * z + r) (h4 : z = 256 * w + t) (hp : p ≤ 32) (hq : q ≤ 32) (hr : r ≤ 32) (ht : t ≤ 32) : a / 4294967296 = w := by
  have e1 : a / 65536 = y := by clear h3 h4; omega
  have e2 : y / 65536 = w := by clear h h2 e1; omega
  have e3 : a / 4294967296 = a / 65536 / 65536 := by rw [Nat.div_div_eq_div_mul]
  rw [e3, e1, e2]
theorem fin8 {z0 z1 z4 z5 r0 r4 S : Nat} (h0 : z0 = 256 * z1 + r0) (h4 : z4 = 256 * z5 + r4) (hS : r0 + r4 = S) (hS2 : S < 128) : (z0 + z4) % 128 = S := by omega
theorem pop_sum {p0 p1 p2 p3 p4 p5 p6 p7 x6 x5 x4 x3 x2 x1 a3 : Nat} (h0 : p0 ≤ 8) (h1 : p1 ≤ 8) (h2 : p2 ≤ 8) (h3 : p3 ≤ 8) (h4 : p4 ≤ 8) (h5 : p5 ≤ 8) (h6 : p6 ≤ 8) (h7 : p7 ≤ 8)
    (q6 : x6 = 256 * p7 + p6) (q5 : x5 = 256 * x6 + p5) (q4 : x4 = 256 * x5 + p4) (q3 : x3 = 256 * x4 + p3) (q2 : x2 = 256 * x3 + p2) (q1 : x1 = 256 * x2 + p1) (q0 : a3 = 256 * x1 + p0) : (a3 + a3 / 256 + (a3 + a3 / 256) / 65536 + (a3 + a3 / 256 + (a3 + a3 / 256) / 65536) / 4294967296) % 128 = p0 + p1 + p2 + p3 + p4 + p5 + p6 + p7 := by
  have q7 : p7 = 256 * 0 + p7 := by clear q0 q1 q2 q3 q4 q5 q6; omega
  rw [dv1 q0 (Nat.le_trans h0 (by decide))]
  have y0 := by_add q0 q1
  have y1 := by_add q1 q2
  have y2 := by_add q2 q3
  have y3 := by_add q3 q4
  have y4 := by_add q4 q5
  have y5 := by_add q5 q6
  have y6 := by_add q6 q7
  rw [dv2 y0 y1 (Nat.add_le_add h0 h1) (Nat.add_le_add h1 h2)]
  have z0 := by_add y0 y2
  have z1 := by_add y1 y3
  have z2 := by_add y2 y4
  have z3 := by_add y3 y5
  have z4 := by_add y4 y6
  rw [dv4 z0 z1 z2 z3 (Nat.add_le_add (Nat.add_le_add h0 h1) (Nat.add_le_add h2 h3)) (Nat.add_le_add (Nat.add_le_add h1 h2) (Nat.add_le_add h3 h4)) (Nat.add_le_add (Nat.add_le_add h2 h3) (Nat.add_le_add h4 h5)) (Nat.add_le_add (Nat.add_le_add h3 h4) (Nat.add_le_add h5 h6))]
  refine fin8 z0 z4 ?_ ?_
  · clear q0 q1 q2 q3 q4 q5 q6 q7 y0 y1 y2 y3 y4 y5 y6 z0 z1 z2 z3 z4; omega
  · clear q0 q1 q2 q3 q4 q5 q6 q7 y0 y1 y2 y3 y4 y5 y6 z0 z1 z2 z3 z4; omega
theorem bitCount_N {N : Nat} (hN : N < 2 ^ 64) : M_J13_bitCount_95d88 (lN N) = nI (fb_ct N.testBit 64) := by
  have m1 : (6148914691236517205 : Int64) = lN (rep 85 8) := by decide
  have m2 : (3689348814741910323 : Int64) = lN (rep 51 8) := by decide
  have m4 : (1085102592571150095 : Int64) = lN (rep 15 8) := by decide
  have r1 : rep 85 8 < 2 ^ 64 := by decide
  have r2 : rep 51 8 < 2 ^ 64 := by decide
  have r4 : rep 15 8 < 2 ^ 62 := by decide
  have sh : ∀ {n k : Nat}, n < 2 ^ 64 → k < 64 → ((lN n).toUInt64 >>> ((nI k).toInt64.toUInt64 &&& Int64.toUInt64 63)).toInt64 = lN (n / 2 ^ k) := fun h k => wb_shr h k
  have s1 : ((lN N).toUInt64 >>> (((1 : Int32)).toInt64.toUInt64 &&& Int64.toUInt64 63)).toInt64 = lN (N / 2) := sh (k := 1) hN (by decide)
  obtain ⟨low, full⟩ := g12_low 8 N hN
  have a1 : g1 (rep 85 8) N < 2 ^ 64 := Nat.lt_of_le_of_lt (Nat.sub_le _ _) hN
  have a2 : g2 (rep 51 8) (g1 (rep 85 8) N) < 2 ^ 63 := by
    unfold g2
    have x1 : g1 (rep 85 8) N &&& rep 51 8 ≤ rep 51 8 := Nat.and_le_right
    have x2 : g1 (rep 85 8) N / 4 &&& rep 51 8 ≤ rep 51 8 := Nat.and_le_right
    have x3 : rep 51 8 < 2 ^ 62 := by decide
    omega
  have e1 : lN N - (lN (N / 2) &&& lN (rep 85 8)) = lN (g1 (rep 85 8) N) := by
    rw [wb_and (by omega) r1, lN_sub (Nat.le_trans Nat.and_le_left (Nat.div_le_self _ _))]
    rfl
  have s2 : ((lN (g1 (rep 85 8) N)).toUInt64 >>> (((2 : Int32)).toInt64.toUInt64 &&& Int64.toUInt64 63)).toInt64 = lN (g1 (rep 85 8) N / 4) := sh (k := 2) a1 (by decide)
  have e2 : (lN (g1 (rep 85 8) N) &&& lN (rep 51 8)) + (lN (g1 (rep 85 8) N / 4) &&& lN (rep 51 8)) = lN (g2 (rep 51 8) (g1 (rep 85 8) N)) := by
    rw [wb_and a1 r2, wb_and (by omega) r2, lN_add]
    rfl
  have s3 : ((lN (g2 (rep 51 8) (g1 (rep 85 8) N))).toUInt64 >>> (((4 : Int32)).toInt64.toUInt64 &&& Int64.toUInt64 63)).toInt64 = lN (g2 (rep 51 8) (g1 (rep 85 8) N) / 16) := sh (k := 4) (by omega) (by decide)
  have e3 : lN (g2 (rep 51 8) (g1 (rep 85 8) N) + g2 (rep 51 8) (g1 (rep 85 8) N) / 16) &&& lN (rep 15 8) = lN (bs 8 N) := by
    rw [wb_and (by omega) (by omega), ← full]
    rfl
  have lt3 : bs 8 N < 2 ^ 62 := by
    rw [← full]
    exact Nat.lt_of_le_of_lt Nat.and_le_right r4
  have hb : ∀ x, x % 256 < 256 := fun x => Nat.mod_lt _ (by decide)
  have hs := pop_sum (p0 := pc8 (N % 256)) (p1 := pc8 (N / 256 % 256)) (p2 := pc8 (N / 256 / 256 % 256)) (p3 := pc8 (N / 256 / 256 / 256 % 256)) (p4 := pc8 (N / 256 / 256 / 256 / 256 % 256)) (p5 := pc8 (N / 256 / 256 / 256 / 256 / 256 % 256)) (p6 := pc8 (N / 256 / 256 / 256 / 256 / 256 / 256 % 256)) (p7 := pc8 (N / 256 / 256 / 256 / 256 / 256 / 256 / 256 % 256)) (a3 := bs 8 N) (by3 _ (hb _)).2.2.1 (by3 _ (hb _)).2.2.1 (by3 _ (hb _)).2.2.1 (by3 _ (hb _)).2.2.1 (by3 _ (hb _)).2.2.1 (by3 _ (hb _)).2.2.1 (by3 _ (hb _)).2.2.1 (by3 _ (hb _)).2.2.1 (by simp only [bs, Nat.mul_zero, Nat.zero_add]) rfl rfl rfl rfl rfl rfl
  have s4 : ((lN (bs 8 N)).toUInt64 >>> (((8 : Int32)).toInt64.toUInt64 &&& Int64.toUInt64 63)).toInt64 = lN (bs 8 N / 256) := sh (k := 8) (by omega) (by decide)
  have s5 : ((lN (bs 8 N + bs 8 N / 256)).toUInt64 >>> (((16 : Int32)).toInt64.toUInt64 &&& Int64.toUInt64 63)).toInt64 = lN ((bs 8 N + bs 8 N / 256) / 65536) := sh (k := 16) (by omega) (by decide)
  have s6 : ((lN (bs 8 N + bs 8 N / 256 + (bs 8 N + bs 8 N / 256) / 65536)).toUInt64 >>> (((32 : Int32)).toInt64.toUInt64 &&& Int64.toUInt64 63)).toInt64 = lN ((bs 8 N + bs 8 N / 256 + (bs 8 N + bs 8 N / 256) / 65536) / 4294967296) := sh (k := 32) (by omega) (by decide)
  unfold M_J13_bitCount_95d88
  simp only [m1, m2, m4, s1, e1, s2, e2, s3, lN_add, e3, s4, s5, s6]
  rw [lN_i, show (127 : Int32) = nI 127 from rfl, fa_and, show (127 : Nat) = 2 ^ 7 - 1 from rfl, Nat.and_two_pow_sub_one_eq_mod, show (2 : Nat) ^ 7 = 128 from rfl, hs]
  congr 1
  rw [show 64 = 8 * (7 + 1) from rfl, ct_bytes, ct_bytes 6, ct_bytes 5, ct_bytes 4, ct_bytes 3, ct_bytes 2, ct_bytes 1, ct_bytes 0]
  simp only [Nat.mul_zero, fb_ct]
  omega
theorem rfs_0 : rfs 0 = false := rfl
theorem rfs_1 : rfs 1 = true := rfl
theorem rfs_2 : rfs 2 = true := rfl
theorem rfs_3 : rfs 3 = true := rfl
theorem win_t {a : Int32} {N : Nat} (hN : N < 2 ^ 31) (h : M_X6_isWithin a 0 (nI N) = true) : ∃ k, k ≤ N ∧ a = nI k := by
  unfold M_X6_isWithin M_X6_isWithin_14 M_X6_isWithin_15 at h
  by_cases q : a < 0
  · rw [if_pos q] at h; cases h
  · rw [if_neg q] at h
    obtain ⟨k, hk, rfl⟩ := nI_of q
    by_cases q2 : nI N < nI k
    · rw [if_pos q2] at h; cases h
    · refine ⟨k, ?_, rfl⟩
      rw [nI_ltI hN hk] at q2
      omega
theorem win_f {N k : Nat} (hN : N < 2 ^ 31) (h : k ≤ N) : M_X6_isWithin (nI k) 0 (nI N) = true := by
  unfold M_X6_isWithin M_X6_isWithin_14 M_X6_isWithin_15
  rw [if_neg (nI_pos (by omega)), if_neg (nI_nlt h hN)]
theorem fC (p : Int32) : M_X6_faultOfController p = if M_X6_isWithin p 0 1 = true then 0 else 1 := by
  unfold M_X6_faultOfController M_X6_faultOfController_14
  rw [zI_if]; cases M_X6_isWithin p 0 1 <;> rfl
theorem fB (p : Int32) : M_X6_faultOfBlock p = if M_X6_isWithin p 0 15 = true then 0 else 1 := by
  unfold M_X6_faultOfBlock M_X6_faultOfBlock_15
  rw [zI_if]; cases M_X6_isWithin p 0 15 <;> rfl
theorem fR (p a b : Int32) : M_X6_faultOfRange p a b = if M_X6_isWithin p a b = true then 0 else 2 := by
  unfold M_X6_faultOfRange M_X6_faultOfRange_14
  rw [zI_if]
theorem fT (p q : Int32) : M_X6_faultOfTag p q = if (M_X6_isWithin p 0 3 && M_X6_isWithin q 0 31) = true then 0 else 2 := by
  unfold M_X6_faultOfTag M_X6_faultOfTag_23 M_X6_faultOfTag_24
  rw [zI_if, zI_if]; cases M_X6_isWithin p 0 3 <;> cases M_X6_isWithin q 0 31 <;> rfl
/-- whether a number is that of an order -/
def ov (n : Nat) (p : Int32) : Bool := !(decide (p < 0) || decide (nI n ≤ p))
theorem ov_t {n : Nat} {p : Int32} (hn : n ≤ 40) (h : ov n p = true) : ∃ o, o < n ∧ p = nI o := by
  unfold ov at h
  have h1 : ¬ p < 0 := by intro q; simp [q] at h
  have h2 : ¬ nI n ≤ p := by intro q; simp [q] at h
  obtain ⟨k, hk, rfl⟩ := nI_of h1
  refine ⟨k, ?_, rfl⟩
  rw [nI_leI (by omega) hk] at h2
  omega
theorem fO {d : DS} {n : Nat} (hn : ds_ord d = nI n) (p : Int32) : M_X3_faultOfOrder d p = if ov n p = true then 0 else 1 := by
  unfold M_X3_faultOfOrder M_X3_faultOfOrder_16 M_X3_faultOfOrder_17 ov
  rw [hn]
  by_cases q1 : p < 0
  · rw [if_pos q1]; simp [q1]; rfl
  · rw [if_neg q1]
    by_cases q2 : nI n ≤ p
    · rw [if_pos q2]; simp [q2]; rfl
    · rw [if_neg q2]; simp [q1, q2]; rfl
def sumI (f : Nat → Int32) : Nat → Int32
  | 0 => 0
  | n + 1 => sumI f n + f n
theorem c_sum (d : DS) : M_X3_sumOfValues d = some (sumI (ds_val d) 16) := by
  unfold M_X3_sumOfValues
  refine lp_run (fun i => (sumI (ds_val d) i, nI i)) 16 ?_ ?_ 64 (by omega)
  · intro i hi kk
    unfold M_X3_sumOfValues_4s
    simp only [nI_1, x6_at hi (show 16 < 2 ^ 31 by decide), sumI]
    rw [if_neg (show ¬ (16 : Int32) ≤ nI i from nI_ge (a := i) (b := 16) hi (by omega))]
  · intro kk
    unfold M_X3_sumOfValues_4s
    exact if_pos (show (16 : Int32) ≤ nI 16 by decide)
theorem cbecome (x x1 : CS) : M_X2_become x x1 = x1 := by
  obtain ⟨a, b, c, e, f, g, h, i⟩ := x1
  obtain ⟨a', b', c', e', f', g', h', i'⟩ := x
  rfl
theorem become_eq (x x1 : DS) : M_X3_become x x1 = (va_cpy (ds_val x1) (ds_val x) 0 0 16, va_cpy (ds_fac x1) (ds_fac x) 0 0 480, x1.2.2) := by
  obtain ⟨v, f, z, o, r1, r2, r3, r4⟩ := x1
  obtain ⟨v', f', z', o', r1', r2', r3', r4'⟩ := x
  unfold M_X3_become
  simp only [tb, cbecome]
  rfl
theorem become_fc {x x1 : DS} {o w : Nat} (ho : o < 40) (hw : w < 12) : fc (M_X3_become x x1) o w = fc x1 o w := by
  rw [become_eq]
  show va_cpy (ds_fac x1) (ds_fac x) 0 0 480 (12 * o + w) = ds_fac x1 (12 * o + w)
  exact sb_cpy0 (by omega)
theorem become_inv {x x1 : DS} {n : Nat} (hn : n ≤ 40) (h : DInv x1 n) : DInv (M_X3_become x x1) n :=
  h.next (fun o w ho hw => become_fc (by omega) (by omega)) (fun o ho => by rw [become_fc (by omega) (by omega)]; exact (h.1 o ho).2.2.2) h.2.1 rfl
theorem c_save {hs : HS} {d : DS} {w S : Nat} (hw : w < 4) (hS : S ≤ 4) (e1 : hs_size hs = nI S) (e2 : hs_new hs = nI w) : M_X4_save hs d = (upS (hs_sv hs) ((w + 1) % 4) (M_X3_become (hs_sv hs ((w + 1) % 4)) d), nI (if S = 4 then 4 else S + 1), nI ((w + 1) % 4)) := by
  obtain ⟨sv, sz, nw⟩ := hs
  simp only [hs_size, hs_new] at e1 e2
  subst e1 e2
  rcases (show w = 0 ∨ w = 1 ∨ w = 2 ∨ w = 3 by omega) with rfl | rfl | rfl | rfl <;> rcases (show S = 0 ∨ S = 1 ∨ S = 2 ∨ S = 3 ∨ S = 4 by omega) with rfl | rfl | rfl | rfl | rfl <;> rfl
theorem upS_s {f : Nat → DS} {k : Nat} {v : DS} : upS f k v k = v := by
  show (bif Nat.beq k k then v else f k) = v
  rw [show Nat.beq k k = true from Nat.beq_refl k]; rfl
theorem upS_n {f : Nat → DS} {k j : Nat} {v : DS} (h : j ≠ k) : upS f k v j = f j := by
  show (bif Nat.beq j k then v else f j) = f j
  cases hb : Nat.beq j k
  · rfl
  · exact absurd (Nat.eq_of_beq_eq_true hb) h
theorem c_restore {hs : HS} {d : DS} {w S : Nat} (hw : w < 4) (hS : S < 4) (e1 : hs_size hs = nI (S + 1)) (e2 : hs_new hs = nI w) : M_X4_restoreTo hs d = (nI S, (hs_sv hs, nI S, nI ((w + 3) % 4)), M_X3_become d (hs_sv hs w)) := by
  obtain ⟨sv, sz, nw⟩ := hs
  simp only [hs_size, hs_new] at e1 e2
  subst e1 e2
  have g : ¬ hs_size (sv, nI (S + 1), nI w) ≤ 0 := show ¬ nI (S + 1) ≤ 0 from nI_nle (by omega) (by omega)
  have p : nI (S + 1) - 1 = nI S := nI_pred S
  rcases (show w = 0 ∨ w = 1 ∨ w = 2 ∨ w = 3 by omega) with rfl | rfl | rfl | rfl
  · unfold M_X4_restoreTo
    rw [if_pos (show hs_new (sv, nI (S + 1), nI 0) = 0 from rfl), if_neg g]
    unfold tb
    refine Eq.trans (b := M_X4_restoreTo_43 (sv, nI (S + 1), nI 0) d (3 : Int32) (sv, nI (S + 1), nI 0) (M_X3_become d (sv 0))) (if_pos (show hs_new (sv, nI (S + 1), nI 0) ≤ 0 from (by decide : nI 0 ≤ 0))) ?_
    show (nI (S + 1) - 1, (sv, nI (S + 1) - 1, nI 3), M_X3_become d (sv 0)) = (nI S, (sv, nI S, nI ((0 + 3) % 4)), M_X3_become d (sv 0))
    rw [p]
  · unfold M_X4_restoreTo
    rw [if_neg (show ¬ hs_new (sv, nI (S + 1), nI 1) = 0 from (by decide : ¬ nI 1 = 0)), if_pos (show hs_new (sv, nI (S + 1), nI 1) = 1 from rfl), if_neg g]
    unfold tb
    refine Eq.trans (b := M_X4_restoreTo_43 (sv, nI (S + 1), nI 1) d (hs_new (sv, nI (S + 1), nI 1) - (1 : Int32)) (sv, nI (S + 1), nI 1) (M_X3_become d (sv 1))) (if_neg (show ¬ hs_new (sv, nI (S + 1), nI 1) ≤ 0 from (by decide : ¬ nI 1 ≤ 0))) ?_
    show (nI (S + 1) - 1, (sv, nI (S + 1) - 1, nI 1 - 1), M_X3_become d (sv 1)) = (nI S, (sv, nI S, nI ((1 + 3) % 4)), M_X3_become d (sv 1))
    rw [p, show nI 1 - 1 = nI 0 from nI_pred 0]
  · unfold M_X4_restoreTo
    rw [if_neg (show ¬ hs_new (sv, nI (S + 1), nI 2) = 0 from (by decide : ¬ nI 2 = 0)), if_neg (show ¬ hs_new (sv, nI (S + 1), nI 2) = 1 from (by decide : ¬ nI 2 = 1)), if_pos (show hs_new (sv, nI (S + 1), nI 2) = 2 from rfl), if_neg g]
    unfold tb
    refine Eq.trans (b := M_X4_restoreTo_43 (sv, nI (S + 1), nI 2) d (hs_new (sv, nI (S + 1), nI 2) - (1 : Int32)) (sv, nI (S + 1), nI 2) (M_X3_become d (sv 2))) (if_neg (show ¬ hs_new (sv, nI (S + 1), nI 2) ≤ 0 from (by decide : ¬ nI 2 ≤ 0))) ?_
    show (nI (S + 1) - 1, (sv, nI (S + 1) - 1, nI 2 - 1), M_X3_become d (sv 2)) = (nI S, (sv, nI S, nI ((2 + 3) % 4)), M_X3_become d (sv 2))
    rw [p, show nI 2 - 1 = nI 1 from nI_pred 1]
  · unfold M_X4_restoreTo
    rw [if_neg (show ¬ hs_new (sv, nI (S + 1), nI 3) = 0 from (by decide : ¬ nI 3 = 0)), if_neg (show ¬ hs_new (sv, nI (S + 1), nI 3) = 1 from (by decide : ¬ nI 3 = 1)), if_neg (show ¬ hs_new (sv, nI (S + 1), nI 3) = 2 from (by decide : ¬ nI 3 = 2)), if_pos (show hs_new (sv, nI (S + 1), nI 3) = 3 from rfl), if_neg g]
    unfold tb
    refine Eq.trans (b := M_X4_restoreTo_43 (sv, nI (S + 1), nI 3) d (hs_new (sv, nI (S + 1), nI 3) - (1 : Int32)) (sv, nI (S + 1), nI 3) (M_X3_become d (sv 3))) (if_neg (show ¬ hs_new (sv, nI (S + 1), nI 3) ≤ 0 from (by decide : ¬ nI 3 ≤ 0))) ?_
    show (nI (S + 1) - 1, (sv, nI (S + 1) - 1, nI 3 - 1), M_X3_become d (sv 3)) = (nI S, (sv, nI S, nI ((3 + 3) % 4)), M_X3_become d (sv 3))
    rw [p, show nI 3 - 1 = nI 2 from nI_pred 2]
