/-! PART 53: what holds of a drive at every moment, and what keeps it -/
/-- what holds of one order told -/
def PO (d : DS) (t o : Nat) : Prop :=
  (∃ h, h < 4 ∧ fc d o 0 = nI h) ∧ (∃ k, k < 32 ∧ fc d o 1 = nI k) ∧
  ((fc d o 5 = 2 ∧ (∃ c, c < 2 ∧ fc d o 6 = nI c) ∧ (∃ a b, fc d o 7 = nI a ∧ fc d o 8 = nI b ∧ a ≤ b ∧ b ≤ t) ∧ (fc d o 9 = 0 ∨ fc d o 9 = 1)) ∨
   (¬ fc d o 5 = 2 ∧ fc d o 6 = -1 ∧ fc d o 8 = -1 ∧ fc d o 9 = 0 ∧ ∃ a, a ≤ t ∧ fc d o 7 = nI a))
/-- done by a controller; and finished by it -/
def dby (d : DS) (c o : Nat) : Bool := decide (fc d o 6 = nI c)
def dfi (d : DS) (c o : Nat) : Bool := dby d c o && decide (fc d o 9 = 1)
def PI (d : DS) (n t : Nat) : Prop :=
  ds_ord d = nI n ∧ n ≤ 40 ∧ ds_tick d = nI t ∧ t < 20000 ∧ DInv d n ∧ (∀ o, o < n → PO d t o) ∧
  (∀ o, o < n → fc d o 5 = 1 → ds_mo d = nI o) ∧
  (∀ o e, o < e → e < n → fc d o 0 = fc d e 0 → fc d o 1 = fc d e 1 → opn d o = false) ∧
  (∀ c, c < 2 → cs_done (dCtl d (nI c)) = nI (fb_ct (dby d c) n) ∧ cs_fin (dCtl d (nI c)) = nI (fb_ct (dfi d c) n) ∧ ∀ o, n ≤ o → o < 64 → ml d c o = false)
theorem PI.ord {d : DS} {n t : Nat} (h : PI d n t) : ds_ord d = nI n := h.1
theorem PI.le {d : DS} {n t : Nat} (h : PI d n t) : n ≤ 40 := h.2.1
theorem PI.tick {d : DS} {n t : Nat} (h : PI d n t) : ds_tick d = nI t := h.2.2.1
theorem PI.tlt {d : DS} {n t : Nat} (h : PI d n t) : t < 20000 := h.2.2.2.1
theorem PI.inv {d : DS} {n t : Nat} (h : PI d n t) : DInv d n := h.2.2.2.2.1
theorem PI.po {d : DS} {n t : Nat} (h : PI d n t) : ∀ o, o < n → PO d t o := h.2.2.2.2.2.1
theorem PI.mk1 {d : DS} {n t : Nat} (h : PI d n t) : ∀ o, o < n → fc d o 5 = 1 → ds_mo d = nI o := h.2.2.2.2.2.2.1
theorem PI.tag {d : DS} {n t : Nat} (h : PI d n t) : ∀ o e, o < e → e < n → fc d o 0 = fc d e 0 → fc d o 1 = fc d e 1 → opn d o = false := h.2.2.2.2.2.2.2.1
theorem PI.ctl {d : DS} {n t : Nat} (h : PI d n t) : ∀ c, c < 2 → cs_done (dCtl d (nI c)) = nI (fb_ct (dby d c) n) ∧ cs_fin (dCtl d (nI c)) = nI (fb_ct (dfi d c) n) ∧ ∀ o, n ≤ o → o < 64 → ml d c o = false := h.2.2.2.2.2.2.2.2
theorem PI.o {d : DS} {n t : Nat} (h : PI d n t) : ∀ o, o < n → OInv d o := h.inv.o
/-- what changes no fact of an order, no count of done ones, and tells nobody anything -/
theorem PI.soft {d d' : DS} {n t t' : Nat} (h : PI d n t) (hf : ∀ o w, o < 40 → w < 12 → fc d' o w = fc d o w) (ho : ds_ord d' = ds_ord d) (hm : ds_mo d' = ds_mo d) (ht : ds_tick d' = nI t') (htt : t ≤ t') (ht2 : t' < 20000)
    (hc : ∀ c, c < 2 → cs_done (dCtl d' (nI c)) = cs_done (dCtl d (nI c)) ∧ cs_fin (dCtl d' (nI c)) = cs_fin (dCtl d (nI c)) ∧ ∀ o, o < 64 → ml d' c o = true → ml d c o = true) : PI d' n t' := by
  have hn := h.le
  have e : ∀ o w, o < n → w < 12 → fc d' o w = fc d o w := fun o w a b => hf o w (by omega) b
  refine ⟨by rw [ho]; exact h.ord, hn, ht, ht2, ⟨fun o q => ?_, by rw [hm]; exact h.inv.2.1, ⟨t', ht2, ht⟩⟩, fun o q => ?_, fun o q r => ?_, fun o i q r a b => ?_, fun c q => ?_⟩
  · rw [e o 2 q (by omega), e o 3 q (by omega), e o 4 q (by omega), e o 5 q (by omega)]; exact h.inv.1 o q
  · unfold PO
    rw [e o 0 q (by omega), e o 1 q (by omega), e o 5 q (by omega), e o 6 q (by omega), e o 7 q (by omega), e o 8 q (by omega), e o 9 q (by omega)]
    obtain ⟨p1, p2, p3⟩ := h.po o q
    refine ⟨p1, p2, ?_⟩
    rcases p3 with ⟨a1, a2, ⟨a, b, b1, b2, b3, b4⟩, a4⟩ | ⟨a1, a2, a3, a4, a, b1, b2⟩
    · exact Or.inl ⟨a1, a2, ⟨a, b, b1, b2, b3, by omega⟩, a4⟩
    · exact Or.inr ⟨a1, a2, a3, a4, a, by omega, b2⟩
  · rw [hm]; rw [e o 5 q (by omega)] at r; exact h.mk1 o q r
  · rw [e o 0 (by omega) (by omega), e i 0 r (by omega)] at a
    rw [e o 1 (by omega) (by omega), e i 1 r (by omega)] at b
    unfold opn
    rw [e o 5 (by omega) (by omega)]
    exact h.tag o i q r a b
  · obtain ⟨c1, c2, c3⟩ := h.ctl c q
    obtain ⟨k1, k2, k3⟩ := hc c q
    refine ⟨?_, ?_, fun o a b => ?_⟩
    · rw [k1, c1]
      exact congrArg nI (fb_ct_cong fun o q => by unfold dby; rw [e o 6 q (by omega)])
    · rw [k2, c2]
      exact congrArg nI (fb_ct_cong fun o q => by unfold dfi dby; rw [e o 6 q (by omega), e o 9 q (by omega)])
    · cases hq : ml d' c o
      · rfl
      · exact absurd (k3 o b hq) (by rw [c3 o a b]; decide)
theorem nI_inj' {a b : Nat} (ha : a < 2 ^ 31) (hb : b < 2 ^ 31) (e : nI a = nI b) : a = b := (nI_eq ha hb).mp e
/-- an order begun is the torn one -/
theorem PI.torn {d : DS} {n t o : Nat} (h : PI d n t) (ho : o < n) (h5 : fc d o 5 = 1) : M_X3_isTorn d = true := by
  have hn := h.le
  have e5 : M_X3_fact d (nI o) (5 : Int32) = fc d o 5 := c_fact d (w := 5) (by omega) (by decide)
  rw [c_isTorn, h.mk1 o ho h5, e5, h5]
  rw [decide_eq_false (nI_nm1 (o := o) (by omega))]
  rfl
theorem PI.torn_of {d : DS} {n t : Nat} (h : PI d n t) (ht : M_X3_isTorn d = true) : ∃ o, o < n ∧ ds_mo d = nI o ∧ fc d o 5 = 1 := by
  have hn := h.le
  rw [c_isTorn] at ht
  have hne : ¬ ds_mo d = -1 := by intro q; rw [q] at ht; revert ht; simp
  obtain ⟨o, ho, eo⟩ : ∃ o, o < n ∧ ds_mo d = nI o := by
    rcases h.inv.2.1 with q | q
    · exact absurd q hne
    · exact q
  refine ⟨o, ho, eo, ?_⟩
  have e5 : M_X3_fact d (nI o) (5 : Int32) = fc d o 5 := c_fact d (w := 5) (by omega) (by decide)
  rw [eo, e5] at ht
  revert ht
  by_cases q : fc d o 5 = 1
  · intro _; exact q
  · simp [q]
/-- one order is begun -/
theorem PI.begin {d d' : DS} {n t o : Nat} (h : PI d n t) (ho : o < n) (h0 : fc d o 5 = 0) (hnt : M_X3_isTorn d = false) (hf : ∀ o' w, w < 12 → fc d' o' w = if o' = o ∧ w = 5 then 1 else fc d o' w) (hm : ds_mo d' = nI o) (hd : ds_ord d' = ds_ord d) (ht : ds_tick d' = ds_tick d) (hc : ∀ c, dCtl d' c = dCtl d c) : PI d' n t := by
  have hn := h.le
  have e : ∀ o' w, w < 12 → w ≠ 5 → fc d' o' w = fc d o' w := fun o' w a b => by rw [hf o' w a, if_neg (by omega)]
  have e5 : ∀ o', o' ≠ o → fc d' o' 5 = fc d o' 5 := fun o' a => by rw [hf o' 5 (by omega), if_neg (by omega)]
  have e5o : fc d' o 5 = 1 := by rw [hf o 5 (by omega), if_pos ⟨rfl, rfl⟩]
  refine ⟨by rw [hd]; exact h.ord, hn, by rw [ht]; exact h.tick, h.tlt, h.inv.next (fun o' w _ q => e o' w (by omega) (by omega)) (fun o' q => ?_) (Or.inr ⟨o, ho, hm⟩) ht, fun o' q => ?_, fun o' q r => ?_, fun o' i q r a b => ?_, fun c q => ?_⟩
  · by_cases r : o' = o
    · subst r; exact ⟨1, by decide, e5o⟩
    · rw [e5 o' r]; exact (h.inv.1 o' q).2.2.2
  · unfold PO
    rw [e o' 0 (by omega) (by omega), e o' 1 (by omega) (by omega), e o' 6 (by omega) (by omega), e o' 7 (by omega) (by omega), e o' 8 (by omega) (by omega), e o' 9 (by omega) (by omega)]
    obtain ⟨p1, p2, p3⟩ := h.po o' q
    refine ⟨p1, p2, ?_⟩
    by_cases r : o' = o
    · subst r
      rw [e5o]
      rcases p3 with ⟨a1, -⟩ | ⟨a1, a2, a3, a4, a5⟩
      · rw [h0] at a1; exact absurd a1 (by decide)
      · exact Or.inr ⟨by decide, a2, a3, a4, a5⟩
    · rw [e5 o' r]; exact p3
  · by_cases s : o' = o
    · subst s; exact hm
    · rw [e5 o' s] at r
      rw [h.torn q r] at hnt
      cases hnt
  · have hopn : opn d o' = false := by
      rw [e o' 0 (by omega) (by omega), e i 0 (by omega) (by omega)] at a
      rw [e o' 1 (by omega) (by omega), e i 1 (by omega) (by omega)] at b
      exact h.tag o' i q r a b
    have hne : o' ≠ o := by
      rintro rfl
      unfold opn at hopn
      rw [h0] at hopn
      revert hopn
      decide
    unfold opn at hopn ⊢
    rw [e5 o' hne]
    exact hopn
  · obtain ⟨c1, c2, c3⟩ := h.ctl c q
    refine ⟨?_, ?_, fun o' a b => ?_⟩
    · rw [hc, c1]
      exact congrArg nI (fb_ct_cong fun o' q => by unfold dby; rw [e o' 6 (by omega) (by omega)])
    · rw [hc, c2]
      exact congrArg nI (fb_ct_cong fun o' q => by unfold dfi dby; rw [e o' 6 (by omega) (by omega), e o' 9 (by omega) (by omega)])
    · unfold ml
      rw [hc]
      exact c3 o' a b
theorem ct_one {p q : Nat → Bool} {o n : Nat} (ho : o < n) (h0 : p o = false) (h1 : q o = true) (h2 : ∀ i, i < n → i ≠ o → q i = p i) : fb_ct q n = fb_ct p n + 1 := by
  have e : fb_ct q n = fb_ct (fun k => if k = o then true else p k) n := fb_ct_cong fun i hi => by
    by_cases r : i = o
    · subst r; rw [if_pos rfl]; exact h1
    · rw [if_neg r]; exact h2 i hi r
  have u := fb_ct_upd p true ho
  rw [h0] at u
  simp only [Bool.false_eq_true, if_false, if_true] at u
  omega
/-- the order begun is completed -/
theorem PI.complete {d d' : DS} {n t o c : Nat} (h : PI d n t) (hcc : c < 2) (ho : o < n) (h1 : fc d o 5 = 1) (hf : ∀ o' w, w < 12 → fc d' o' w = if o' = o ∧ w = 8 then ds_tick d else if o' = o ∧ w = 6 then nI c else if o' = o ∧ w = 5 then 2 else fc d o' w) (hm : ds_mo d' = ds_mo d) (hd : ds_ord d' = ds_ord d) (ht : ds_tick d' = ds_tick d)
    (hc : ∀ k, k < 2 → cs_done (dCtl d' (nI k)) = (if k = c then cs_done (dCtl d (nI k)) + 1 else cs_done (dCtl d (nI k))) ∧ cs_fin (dCtl d' (nI k)) = cs_fin (dCtl d (nI k)) ∧ ml d' k = ml d k) : PI d' n t := by
  have hn := h.le
  have e : ∀ o' w, w < 12 → (o' ≠ o ∨ (w ≠ 5 ∧ w ≠ 6 ∧ w ≠ 8)) → fc d' o' w = fc d o' w := fun o' w a b => by rw [hf o' w a, if_neg (by omega), if_neg (by omega), if_neg (by omega)]
  have e5o : fc d' o 5 = 2 := by rw [hf o 5 (by omega), if_neg (by omega), if_neg (by omega), if_pos ⟨rfl, rfl⟩]
  have e6o : fc d' o 6 = nI c := by rw [hf o 6 (by omega), if_neg (by omega), if_pos ⟨rfl, rfl⟩]
  have e8o : fc d' o 8 = nI t := by rw [hf o 8 (by omega), if_pos ⟨rfl, rfl⟩]; exact h.tick
  obtain ⟨q1, q2, q3⟩ := h.po o ho
  obtain ⟨r6, r8, r9, a, ra, r7⟩ : fc d o 6 = -1 ∧ fc d o 8 = -1 ∧ fc d o 9 = 0 ∧ ∃ a, a ≤ t ∧ fc d o 7 = nI a := by
    rcases q3 with ⟨a1, -⟩ | ⟨-, q⟩
    · rw [h1] at a1; exact absurd a1 (by decide)
    · exact q
  refine ⟨by rw [hd]; exact h.ord, hn, by rw [ht]; exact h.tick, h.tlt, h.inv.next (fun o' w _ q => e o' w (by omega) (by omega)) (fun o' q => ?_) (by rw [hm]; exact h.inv.2.1) ht, fun o' q => ?_, fun o' q r => ?_, fun o' i q r a b => ?_, fun k q => ?_⟩
  · by_cases r : o' = o
    · subst r; exact ⟨2, by decide, e5o⟩
    · rw [e o' 5 (by omega) (Or.inl r)]; exact (h.inv.1 o' q).2.2.2
  · by_cases r : o' = o
    · subst r
      unfold PO
      rw [e o' 0 (by omega) (by omega), e o' 1 (by omega) (by omega), e o' 7 (by omega) (by omega), e o' 9 (by omega) (by omega)]
      exact ⟨q1, q2, Or.inl ⟨e5o, ⟨c, hcc, e6o⟩, ⟨a, t, r7, e8o, ra, Nat.le_refl t⟩, Or.inl r9⟩⟩
    · unfold PO
      rw [e o' 0 (by omega) (by omega), e o' 1 (by omega) (by omega), e o' 5 (by omega) (by omega), e o' 6 (by omega) (by omega), e o' 7 (by omega) (by omega), e o' 8 (by omega) (by omega), e o' 9 (by omega) (by omega)]
      exact h.po o' q
  · rw [hm]
    by_cases s : o' = o
    · subst s; rw [e5o] at r; exact absurd r (by decide)
    · rw [e o' 5 (by omega) (Or.inl s)] at r; exact h.mk1 o' q r
  · rw [e o' 0 (by omega) (by omega), e i 0 (by omega) (by omega)] at a
    rw [e o' 1 (by omega) (by omega), e i 1 (by omega) (by omega)] at b
    have hopn := h.tag o' i q r a b
    by_cases s : o' = o
    · subst s; unfold opn; rw [e5o]; decide
    · unfold opn at hopn ⊢; rw [e o' 5 (by omega) (Or.inl s)]; exact hopn
  · obtain ⟨c1, c2, c3⟩ := h.ctl k q
    obtain ⟨k1, k2, k3⟩ := hc k q
    have m1 : ¬ (-1 : Int32) = nI k := fun w => nI_nm1 (o := k) (by omega) w.symm
    have b0 : dby d k o = false := by unfold dby; rw [r6]; exact decide_eq_false m1
    have f0 : dfi d k o = false := by unfold dfi; rw [b0]; rfl
    have f1 : dfi d' k o = false := by
      unfold dfi
      rw [e o 9 (by omega) (by omega), r9]
      exact Bool.and_false _
    have bs : ∀ i, i < n → i ≠ o → dby d' k i = dby d k i := fun i _ hi => by unfold dby; rw [e i 6 (by omega) (Or.inl hi)]
    refine ⟨?_, ?_, fun o' a b => ?_⟩
    · rw [k1, c1]
      by_cases s : k = c
      · subst s
        rw [if_pos rfl, nI_1]
        exact congrArg nI (ct_one ho b0 (by unfold dby; rw [e6o]; exact decide_eq_true rfl) bs).symm
      · rw [if_neg s]
        refine congrArg nI (fb_ct_cong fun i hi => ?_)
        by_cases r : i = o
        · subst r
          rw [b0]
          unfold dby
          rw [e6o]
          exact (decide_eq_false fun w => s (nI_inj' (by omega) (by omega) w).symm).symm
        · exact (bs i hi r).symm
    · rw [k2, c2]
      refine congrArg nI (fb_ct_cong fun i hi => ?_)
      by_cases r : i = o
      · subst r; rw [f0, f1]
      · unfold dfi
        rw [bs i hi r, e i 9 (by omega) (Or.inl r)]
    · rw [k3]; exact c3 o' a b
/-- a done order is marked as one finished -/
theorem PI.mark {d d' : DS} {n t o c : Nat} (h : PI d n t) (hcc : c < 2) (ho : o < n) (h5 : fc d o 5 = 2) (h6 : fc d o 6 = nI c) (h9 : fc d o 9 = 0) (hf : ∀ o' w, w < 12 → fc d' o' w = if o' = o ∧ w = 9 then 1 else fc d o' w) (hm : ds_mo d' = ds_mo d) (hd : ds_ord d' = ds_ord d) (ht : ds_tick d' = ds_tick d)
    (hc : ∀ k, k < 2 → cs_done (dCtl d' (nI k)) = cs_done (dCtl d (nI k)) ∧ cs_fin (dCtl d' (nI k)) = (if k = c then cs_fin (dCtl d (nI k)) + 1 else cs_fin (dCtl d (nI k))) ∧ ml d' k = ml d k) : PI d' n t := by
  have hn := h.le
  have e : ∀ o' w, w < 12 → (o' ≠ o ∨ w ≠ 9) → fc d' o' w = fc d o' w := fun o' w a b => by rw [hf o' w a, if_neg (by omega)]
  have e9o : fc d' o 9 = 1 := by rw [hf o 9 (by omega), if_pos ⟨rfl, rfl⟩]
  refine ⟨by rw [hd]; exact h.ord, hn, by rw [ht]; exact h.tick, h.tlt, h.inv.next (fun o' w _ q => e o' w (by omega) (by omega)) (fun o' q => ?_) (by rw [hm]; exact h.inv.2.1) ht, fun o' q => ?_, fun o' q r => ?_, fun o' i q r a b => ?_, fun k q => ?_⟩
  · rw [e o' 5 (by omega) (by omega)]; exact (h.inv.1 o' q).2.2.2
  · unfold PO
    rw [e o' 0 (by omega) (by omega), e o' 1 (by omega) (by omega), e o' 5 (by omega) (by omega), e o' 6 (by omega) (by omega), e o' 7 (by omega) (by omega), e o' 8 (by omega) (by omega)]
    by_cases r : o' = o
    · subst r
      obtain ⟨q1, q2, q3⟩ := h.po o' q
      refine ⟨q1, q2, ?_⟩
      rcases q3 with ⟨a1, a2, a3, -⟩ | ⟨a1, -⟩
      · exact Or.inl ⟨a1, a2, a3, Or.inr e9o⟩
      · exact absurd h5 a1
    · rw [e o' 9 (by omega) (Or.inl r)]; exact h.po o' q
  · rw [hm]; rw [e o' 5 (by omega) (by omega)] at r; exact h.mk1 o' q r
  · rw [e o' 0 (by omega) (by omega), e i 0 (by omega) (by omega)] at a
    rw [e o' 1 (by omega) (by omega), e i 1 (by omega) (by omega)] at b
    unfold opn
    rw [e o' 5 (by omega) (by omega)]
    exact h.tag o' i q r a b
  · obtain ⟨c1, c2, c3⟩ := h.ctl k q
    obtain ⟨k1, k2, k3⟩ := hc k q
    have bs : ∀ i, dby d' k i = dby d k i := fun i => by unfold dby; rw [e i 6 (by omega) (by omega)]
    have f0 : dfi d k o = false := by unfold dfi; rw [h9]; exact Bool.and_false _
    have fs : ∀ i, i < n → i ≠ o → dfi d' k i = dfi d k i := fun i _ hi => by unfold dfi; rw [bs i, e i 9 (by omega) (Or.inl hi)]
    refine ⟨?_, ?_, fun o' a b => ?_⟩
    · rw [k1, c1]; exact congrArg nI (fb_ct_cong fun i _ => (bs i).symm)
    · rw [k2, c2]
      by_cases s : k = c
      · subst s
        rw [if_pos rfl, nI_1]
        refine congrArg nI (ct_one ho f0 ?_ fs).symm
        unfold dfi
        rw [bs o, e9o]
        unfold dby
        rw [h6]
        simp
      · rw [if_neg s]
        refine congrArg nI (fb_ct_cong fun i hi => ?_)
        by_cases r : i = o
        · subst r
          rw [f0]
          unfold dfi
          rw [bs i]
          unfold dby
          rw [h6, decide_eq_false (fun w => s (nI_inj' (by omega) (by omega) w).symm)]
          rfl
        · exact (fs i hi r).symm
    · rw [k3]; exact c3 o' a b
