/-! PART 55: what is told from outside keeps what holds -/
theorem PI.cancel {d : DS} {n t o : Nat} (h : PI d n t) (ho : o < n) (h0 : fc d o 5 = 0) : PI (dF d o 5 3) n t := by
  have hn := h.le
  have e : ∀ o' w, w < 12 → (o' ≠ o ∨ w ≠ 5) → fc (dF d o 5 3) o' w = fc d o' w := fun o' w a b => by rw [fc_dF (by decide) a, if_neg (by omega)]
  have e5o : fc (dF d o 5 3) o 5 = 3 := by rw [fc_dF (by decide) (by decide), if_pos ⟨rfl, rfl⟩]
  refine ⟨h.ord, hn, h.tick, h.tlt, h.inv.next (fun o' w _ q => e o' w (by omega) (by omega)) (fun o' q => ?_) h.inv.2.1 rfl, fun o' q => ?_, fun o' q r => ?_, fun o' i q r a b => ?_, fun c q => ?_⟩
  · by_cases r : o' = o
    · subst r; exact ⟨3, by decide, e5o⟩
    · rw [e o' 5 (by omega) (Or.inl r)]; exact (h.inv.1 o' q).2.2.2
  · unfold PO
    rw [e o' 0 (by omega) (by omega), e o' 1 (by omega) (by omega), e o' 6 (by omega) (by omega), e o' 7 (by omega) (by omega), e o' 8 (by omega) (by omega), e o' 9 (by omega) (by omega)]
    obtain ⟨p1, p2, p3⟩ := h.po o' q
    refine ⟨p1, p2, ?_⟩
    by_cases r : o' = o
    · subst r
      rw [e5o]
      rcases p3 with ⟨a1, -⟩ | ⟨a1, a2, a3, a4, a5⟩
      · rw [h0] at a1; exact absurd a1 (by decide)
      · exact Or.inr ⟨by decide, a2, a3, a4, a5⟩
    · rw [e o' 5 (by omega) (Or.inl r)]; exact p3
  · show ds_mo d = nI o'
    by_cases s : o' = o
    · subst s; rw [e5o] at r; exact absurd r (by decide)
    · rw [e o' 5 (by omega) (Or.inl s)] at r; exact h.mk1 o' q r
  · rw [e o' 0 (by omega) (by omega), e i 0 (by omega) (by omega)] at a
    rw [e o' 1 (by omega) (by omega), e i 1 (by omega) (by omega)] at b
    have hopn := h.tag o' i q r a b
    by_cases s : o' = o
    · subst s; unfold opn; rw [e5o]; decide
    · unfold opn at hopn ⊢; rw [e o' 5 (by omega) (Or.inl s)]; exact hopn
  · obtain ⟨c1, c2, c3⟩ := h.ctl c q
    refine ⟨c1.trans ?_, c2.trans ?_, fun o' a b => c3 o' a b⟩
    · exact congrArg nI (fb_ct_cong fun i _ => by unfold dby; rw [e i 6 (by omega) (by omega)])
    · exact congrArg nI (fb_ct_cong fun i _ => by unfold dfi dby; rw [e i 6 (by omega) (by omega), e i 9 (by omega) (by omega)])
theorem fc_tell {d : DS} {n o w : Nat} {p1 p2 p3 p4 p5 : Int32} (hw : w < 12) (ho : o ≠ n) : fc (mor (tl12 d n p1 p2 p3 p4 p5) n) o w = fc d o w := by
  unfold fc
  rw [fac_tl12]
  exact (pk_un (by omega)).trans ((pk_un (by omega)).trans ((pk_un (by omega)).trans ((pk_un (by omega)).trans ((pk_un (by omega)).trans ((pk_un (by omega)).trans ((pk_un (by omega)).trans ((pk_un (by omega)).trans ((pk_un (by omega)).trans ((pk_un (by omega)).trans ((pk_un (by omega)).trans (pk_un (by omega))))))))))))
theorem fc_new0 {d : DS} {n : Nat} {p1 p2 p3 p4 p5 : Int32} : fc (mor (tl12 d n p1 p2 p3 p4 p5) n) n 0 = p1 := by
  unfold fc
  rw [fac_tl12]
  exact (pk_un (by omega)).trans ((pk_un (by omega)).trans ((pk_un (by omega)).trans ((pk_un (by omega)).trans ((pk_un (by omega)).trans ((pk_un (by omega)).trans ((pk_un (by omega)).trans ((pk_un (by omega)).trans ((pk_un (by omega)).trans ((pk_un (by omega)).trans ((pk_un (by omega)).trans (pk_us)))))))))))
theorem fc_new1 {d : DS} {n : Nat} {p1 p2 p3 p4 p5 : Int32} : fc (mor (tl12 d n p1 p2 p3 p4 p5) n) n 1 = p2 := by
  unfold fc
  rw [fac_tl12]
  exact (pk_un (by omega)).trans ((pk_un (by omega)).trans ((pk_un (by omega)).trans ((pk_un (by omega)).trans ((pk_un (by omega)).trans ((pk_un (by omega)).trans ((pk_un (by omega)).trans ((pk_un (by omega)).trans ((pk_un (by omega)).trans ((pk_un (by omega)).trans (pk_us))))))))))
theorem fc_new5 {d : DS} {n : Nat} {p1 p2 p3 p4 p5 : Int32} : fc (mor (tl12 d n p1 p2 p3 p4 p5) n) n 5 = 0 := by
  unfold fc
  rw [fac_tl12]
  exact (pk_un (by omega)).trans ((pk_un (by omega)).trans ((pk_un (by omega)).trans ((pk_un (by omega)).trans ((pk_un (by omega)).trans ((pk_un (by omega)).trans (pk_us))))))
theorem fc_new6 {d : DS} {n : Nat} {p1 p2 p3 p4 p5 : Int32} : fc (mor (tl12 d n p1 p2 p3 p4 p5) n) n 6 = -1 := by
  unfold fc
  rw [fac_tl12]
  exact (pk_un (by omega)).trans ((pk_un (by omega)).trans ((pk_un (by omega)).trans ((pk_un (by omega)).trans ((pk_un (by omega)).trans (pk_us)))))
theorem fc_new7 {d : DS} {n : Nat} {p1 p2 p3 p4 p5 : Int32} : fc (mor (tl12 d n p1 p2 p3 p4 p5) n) n 7 = ds_tick d := by
  unfold fc
  rw [fac_tl12]
  exact (pk_un (by omega)).trans ((pk_un (by omega)).trans ((pk_un (by omega)).trans ((pk_un (by omega)).trans (pk_us))))
theorem fc_new8 {d : DS} {n : Nat} {p1 p2 p3 p4 p5 : Int32} : fc (mor (tl12 d n p1 p2 p3 p4 p5) n) n 8 = -1 := by
  unfold fc
  rw [fac_tl12]
  exact (pk_un (by omega)).trans ((pk_un (by omega)).trans ((pk_un (by omega)).trans (pk_us)))
theorem fc_new9 {d : DS} {n : Nat} {p1 p2 p3 p4 p5 : Int32} : fc (mor (tl12 d n p1 p2 p3 p4 p5) n) n 9 = 0 := by
  unfold fc
  rw [fac_tl12]
  exact (pk_un (by omega)).trans ((pk_un (by omega)).trans (pk_us))
theorem PI.tell {d : DS} {n t : Nat} {p1 p2 p3 p4 p5 : Int32} (h : PI d n t) (hn : n < 40) (hk : M_X3_isOrderOfItsKind p3 p4 p5 = true) (hp : ∃ a, a < 4 ∧ p1 = nI a) (hq : ∃ a, a < 32 ∧ p2 = nI a) (hl : ∀ o, o < n → fc d o 0 = p1 → fc d o 1 = p2 → opn d o = false) : PI (mor (tl12 d n p1 p2 p3 p4 p5) n) (n + 1) t := by
  have e : ∀ o w, w < 12 → o ≠ n → fc (mor (tl12 d n p1 p2 p3 p4 p5) n) o w = fc d o w := fun o w a b => fc_tell a b
  have f0 := fc_new0 (d := d) (n := n) (p1 := p1) (p2 := p2) (p3 := p3) (p4 := p4) (p5 := p5)
  have f1 := fc_new1 (d := d) (n := n) (p1 := p1) (p2 := p2) (p3 := p3) (p4 := p4) (p5 := p5)
  have f5 := fc_new5 (d := d) (n := n) (p1 := p1) (p2 := p2) (p3 := p3) (p4 := p4) (p5 := p5)
  have f6 := fc_new6 (d := d) (n := n) (p1 := p1) (p2 := p2) (p3 := p3) (p4 := p4) (p5 := p5)
  have f7 := fc_new7 (d := d) (n := n) (p1 := p1) (p2 := p2) (p3 := p3) (p4 := p4) (p5 := p5)
  have f8 := fc_new8 (d := d) (n := n) (p1 := p1) (p2 := p2) (p3 := p3) (p4 := p4) (p5 := p5)
  have f9 := fc_new9 (d := d) (n := n) (p1 := p1) (p2 := p2) (p3 := p3) (p4 := p4) (p5 := p5)
  refine ⟨rfl, by omega, h.tick, h.tlt, mor_inv h.inv hk, fun o q => ?_, fun o q r => ?_, fun o i q r a b => ?_, fun c q => ?_⟩
  · by_cases s : o = n
    · subst s
      unfold PO
      rw [f0, f1, f5, f6, f7, f8, f9]
      exact ⟨hp, hq, Or.inr ⟨by decide, rfl, rfl, rfl, t, Nat.le_refl t, h.tick⟩⟩
    · unfold PO
      rw [e o 0 (by omega) s, e o 1 (by omega) s, e o 5 (by omega) s, e o 6 (by omega) s, e o 7 (by omega) s, e o 8 (by omega) s, e o 9 (by omega) s]
      exact h.po o (by omega)
  · show ds_mo d = nI o
    by_cases s : o = n
    · subst s; rw [f5] at r; exact absurd r (by decide)
    · rw [e o 5 (by omega) s] at r; exact h.mk1 o (by omega) r
  · have hne : o ≠ n := by omega
    rw [e o 0 (by omega) hne] at a
    rw [e o 1 (by omega) hne] at b
    unfold opn
    rw [e o 5 (by omega) hne]
    by_cases s : i = n
    · subst s
      rw [f0] at a; rw [f1] at b
      exact hl o q a b
    · rw [e i 0 (by omega) s] at a
      rw [e i 1 (by omega) s] at b
      exact h.tag o i q (by omega) a b
  · obtain ⟨c1, c2, c3⟩ := h.ctl c q
    have ec : dCtl (mor (tl12 d n p1 p2 p3 p4 p5) n) (nI c) = M_X2_receive (dCtl d (nI c)) (nI n) := by
      rcases (show c = 0 ∨ c = 1 by omega) with rfl | rfl <;> rfl
    have b6 : dby (mor (tl12 d n p1 p2 p3 p4 p5) n) c n = false := by
      unfold dby
      rw [f6]
      exact decide_eq_false fun w => nI_nm1 (o := c) (by omega) w.symm
    have b9 : dfi (mor (tl12 d n p1 p2 p3 p4 p5) n) c n = false := by unfold dfi; rw [b6]; rfl
    unfold ml
    rw [ec, fb_ct_succ, fb_ct_succ, b6, b9]
    refine ⟨?_, ?_, fun o a b => ?_⟩
    · show cs_done (dCtl d (nI c)) = _
      rw [c1]
      exact congrArg nI (fb_ct_cong fun i hi => by unfold dby; rw [e i 6 (by omega) (by omega)])
    · show cs_fin (dCtl d (nI c)) = _
      rw [c2]
      exact congrArg nI (fb_ct_cong fun i hi => by unfold dfi dby; rw [e i 6 (by omega) (by omega), e i 9 (by omega) (by omega)])
    · show mb (cs_mail (dCtl d (nI c)) ||| ((1 : Int64) <<< ((nI n).toInt64 &&& 63))) o = false
      rw [mb_recv _ (by omega), decide_eq_false (by omega), Bool.or_false]
      exact c3 o (by omega) b
/-! the whole object -/
def DK (d : DS) : Prop := ∃ n t, PI d n t ∧ t ≤ 9999
def IV (x : SS) : Prop := DK (ss_drv x) ∧ ∃ w S, w < 4 ∧ S ≤ 4 ∧ hs_size (ss_his x) = nI S ∧ hs_new (ss_his x) = nI w ∧ ∀ k, k < 4 → DK (hs_sv (ss_his x) k)
theorem DK.become {x x1 : DS} (h : DK x1) : DK (M_X3_become x x1) := by
  obtain ⟨n, t, a, b⟩ := h
  exact ⟨n, t, become_PI a, b⟩
theorem IV.save {x : SS} {d' : DS} (h : IV x) (hd : DK d') : IV (ss_drv_s (ss_his_s x (M_X4_save (ss_his x) (ss_drv x))) d') := by
  obtain ⟨hdr, w, S, hw, hS, e1, e2, hk⟩ := h
  have e := c_save (d := ss_drv x) hw hS e1 e2
  refine ⟨hd, (w + 1) % 4, (if S = 4 then 4 else S + 1), Nat.mod_lt _ (by omega), by split <;> omega, ?_, ?_, ?_⟩
  · show hs_size (M_X4_save (ss_his x) (ss_drv x)) = _
    rw [e]; rfl
  · show hs_new (M_X4_save (ss_his x) (ss_drv x)) = _
    rw [e]; rfl
  · intro k hk4
    show DK (hs_sv (M_X4_save (ss_his x) (ss_drv x)) k)
    rw [e]
    show DK (upS (hs_sv (ss_his x)) ((w + 1) % 4) (M_X3_become (hs_sv (ss_his x) ((w + 1) % 4)) (ss_drv x)) k)
    by_cases q : k = (w + 1) % 4
    · subst q; rw [upS_s]; exact hdr.become
    · rw [upS_n q]; exact hk k hk4
def LK (x : SS) (r : Option (Int32 × SS)) : Prop := ∃ t x', r = some (t, x') ∧ IV x' ∧ (t = 0 ∨ x' = x)
theorem LK.of {x : SS} {c : Option (Int32 ⊕ (Int32 × SS))} {G : (Int32 ⊕ (Int32 × SS)) → Option (Int32 × SS)} (h : IV x) (h2 : ∀ r, G (.inr r) = some (0, r.2)) (hc : (∃ f, c = some (.inl f) ∧ ∃ t, G (.inl f) = some (t, x)) ∨ ∃ r x', c = some (.inr (r, x')) ∧ IV x') : LK x (c.bind G) := by
  rcases hc with ⟨f, e, t, g⟩ | ⟨r, x', e, k⟩
  · rw [e]; exact ⟨t, x, g, h, Or.inr rfl⟩
  · rw [e]; exact ⟨0, x', h2 _, k, Or.inl rfl⟩
theorem fWk (d : DS) (p : Int32) : M_X3_faultOfWaking d p = if M_X6_isWithin p 0 1 = true then (if cs_aw (dCtl d p) = true then 3 else 0) else 1 := by
  unfold M_X3_faultOfWaking M_X3_faultOfWaking_25
  rw [fC]
  cases M_X6_isWithin p 0 1 <;> cases cs_aw (dCtl d p) <;> rfl
theorem fNa (d : DS) (p : Int32) : M_X3_faultOfNeedingAwake d p = if M_X6_isWithin p 0 1 = true then (if cs_aw (dCtl d p) = true then 0 else 3) else 1 := by
  unfold M_X3_faultOfNeedingAwake M_X3_faultOfNeedingAwake_25
  rw [fC]
  cases M_X6_isWithin p 0 1 <;> cases cs_aw (dCtl d p) <;> rfl
theorem fDe (d : DS) (p q : Int32) : M_X3_faultOfDelay d p q = if M_X6_isWithin p 0 1 = true then (if M_X6_isWithin q 0 20 = true then 0 else 2) else 1 := by
  unfold M_X3_faultOfDelay
  rw [fC, fR]
  cases M_X6_isWithin p 0 1 <;> cases M_X6_isWithin q 0 20 <;> rfl
theorem fAl (d : DS) (p q : Int32) : M_X3_faultOfAlarm d p q = if M_X6_isWithin p 0 1 = true then (if M_X6_isWithin q 0 20 = true then 0 else 2) else 1 := by
  unfold M_X3_faultOfAlarm
  rw [fC, fR]
  cases M_X6_isWithin p 0 1 <;> cases M_X6_isWithin q 0 20 <;> rfl
theorem fWo (d : DS) (p q : Int32) : M_X3_faultOfWorking d p q = if M_X6_isWithin p 0 1 = true then (if M_X6_isWithin q 1 3 = true then (if cs_aw (dCtl d p) = true then 0 else 3) else 2) else 1 := by
  unfold M_X3_faultOfWorking M_X3_faultOfWorking_27
  rw [fC, fNa]
  cases M_X6_isWithin p 0 1 <;> cases M_X6_isWithin q 1 3 <;> cases cs_aw (dCtl d p) <;> rfl
theorem fPa (d : DS) (p : Int32) : M_X3_faultOfPassing d p = if M_X6_isWithin p 1 50 = true then (if ds_tick d + p ≤ 9999 then 0 else 3) else 2 := by
  unfold M_X3_faultOfPassing M_X3_faultOfPassing_29
  cases M_X6_isWithin p 1 50 <;> rfl
theorem DK.one {d : DS} {c : Nat} {x : CS} (h : DK d) (hc : c < 2) (h1 : cs_done x = cs_done (dCtl d (nI c))) (h2 : cs_fin x = cs_fin (dCtl d (nI c))) (h3 : ∀ o, o < 64 → mb (cs_mail x) o = true → ml d c o = true) : DK (dCtl_s d (nI c) x) := by
  obtain ⟨n, t, a, b⟩ := h
  exact ⟨n, t, a.one hc h1 h2 h3, b⟩
theorem k_arr {d : DS} {c : Nat} (h : DK d) (hc : c < 2) : ∃ v, M_X3_arrivedMail d (nI c) = some v := by
  obtain ⟨n, t, a, b⟩ := h
  exact ⟨_, c_arrivedMail a.ord a.le hc⟩
theorem k_wake {x : SS} (h : IV x) (p : Int32) : LK x (M_L_wake x p) := by
  unfold M_L_wake
  refine LK.of h (fun _ => rfl) ?_
  unfold M_X6_wake
  rw [fWk]
  cases hw : M_X6_isWithin p 0 1
  · left; exact ⟨1, rfl, 1, rfl⟩
  · obtain ⟨c, hc, rfl⟩ := win_t (N := 1) (by decide) hw
    cases ha : cs_aw (dCtl (ss_drv x) (nI c))
    · right
      have hk : DK (dCtl_s (ss_drv x) (nI c) (cs_aw_s (dCtl (ss_drv x) (nI c)) true)) := h.1.one (by omega) rfl rfl (fun _ _ w => w)
      obtain ⟨v, e⟩ := k_arr hk (c := c) (by omega)
      refine ⟨v, _, ?_, h.save hk⟩
      refine Eq.trans (if_neg (by decide)) ?_
      unfold M_X3_rouse
      simp only [tb]
      rw [show ss_drv (ss_his_s x (M_X4_save (ss_his x) (ss_drv x))) = ss_drv x from rfl, e, ob_some, ob_some]
    · left; exact ⟨3, rfl, 2, rfl⟩
theorem k_sleep {x : SS} (h : IV x) (p : Int32) : LK x (M_L_sleep x p) := by
  unfold M_L_sleep
  refine LK.of h (fun _ => rfl) ?_
  unfold M_X6_sleep
  rw [fNa]
  cases hw : M_X6_isWithin p 0 1
  · left; exact ⟨1, rfl, 1, rfl⟩
  · obtain ⟨c, hc, rfl⟩ := win_t (N := 1) (by decide) hw
    cases ha : cs_aw (dCtl (ss_drv x) (nI c))
    · left; exact ⟨3, rfl, 2, rfl⟩
    · right
      have hk : DK (dCtl_s (ss_drv x) (nI c) (cs_aw_s (dCtl (ss_drv x) (nI c)) false)) := h.1.one (by omega) rfl rfl (fun _ _ w => w)
      obtain ⟨v, e⟩ := k_arr hk (c := c) (by omega)
      refine ⟨v, _, ?_, h.save hk⟩
      refine Eq.trans (if_neg (by decide)) ?_
      unfold M_X3_putToSleep
      simp only [tb]
      rw [show ss_drv (ss_his_s x (M_X4_save (ss_his x) (ss_drv x))) = ss_drv x from rfl, e, ob_some, ob_some]
theorem k_setDelay {x : SS} (h : IV x) (p q : Int32) : LK x (M_L_setDelay x p q) := by
  unfold M_L_setDelay
  refine LK.of h (fun _ => rfl) ?_
  unfold M_X6_setDelay
  rw [fDe]
  cases hw : M_X6_isWithin p 0 1
  · left; exact ⟨1, rfl, 1, rfl⟩
  · obtain ⟨c, hc, rfl⟩ := win_t (N := 1) (by decide) hw
    cases ha : M_X6_isWithin q 0 20
    · left; exact ⟨2, rfl, 2, rfl⟩
    · right
      have hk : DK (dCtl_s (ss_drv x) (nI c) (cs_delay_s (dCtl (ss_drv x) (nI c)) q)) := h.1.one (by omega) rfl rfl (fun _ _ w => w)
      exact ⟨_, _, Eq.trans (if_neg (by decide)) rfl, h.save hk⟩
theorem k_setAlarm {x : SS} (h : IV x) (p q : Int32) : LK x (M_L_setAlarm x p q) := by
  unfold M_L_setAlarm
  refine LK.of h (fun _ => rfl) ?_
  unfold M_X6_setAlarm
  rw [fAl]
  cases hw : M_X6_isWithin p 0 1
  · left; exact ⟨1, rfl, 1, rfl⟩
  · obtain ⟨c, hc, rfl⟩ := win_t (N := 1) (by decide) hw
    cases ha : M_X6_isWithin q 0 20
    · left; exact ⟨2, rfl, 2, rfl⟩
    · right
      have hk : DK (dCtl_s (ss_drv x) (nI c) (cs_alarm_s (dCtl (ss_drv x) (nI c)) q)) := h.1.one (by omega) rfl rfl (fun _ _ w => w)
      exact ⟨_, _, Eq.trans (if_neg (by decide)) rfl, h.save hk⟩
theorem k_work {x : SS} (h : IV x) (p q : Int32) : LK x (M_L_work x p q) := by
  unfold M_L_work
  refine LK.of h (fun _ => rfl) ?_
  unfold M_X6_work
  rw [fWo]
  cases hw : M_X6_isWithin p 0 1
  · left; exact ⟨1, rfl, 1, rfl⟩
  · obtain ⟨c, hc, rfl⟩ := win_t (N := 1) (by decide) hw
    cases hq : M_X6_isWithin q 1 3
    · left; exact ⟨2, rfl, 2, rfl⟩
    · obtain ⟨s, hs1, hs3, rfl⟩ := win1_t (N := 3) (by decide) hq
      cases ha : cs_aw (dCtl (ss_drv x) (nI c))
      · left; exact ⟨3, rfl, 3, rfl⟩
      · right
        obtain ⟨n, t, a, b⟩ := h.1
        obtain ⟨r, d', e, k⟩ := works_PI (c := c) a (by omega) hs1 hs3
        refine ⟨r, _, ?_, h.save ⟨n, t, k, b⟩⟩
        refine Eq.trans (if_neg (by decide)) ?_
        simp only [tb]
        rw [show ss_drv (ss_his_s x (M_X4_save (ss_his x) (ss_drv x))) = ss_drv x from rfl, e, ob_some]
theorem k_pass {x : SS} (h : IV x) (p : Int32) : LK x (M_L_pass x p) := by
  unfold M_L_pass
  refine LK.of h (fun _ => rfl) ?_
  unfold M_X6_pass
  rw [fPa]
  cases hw : M_X6_isWithin p 1 50
  · left; exact ⟨2, rfl, 1, rfl⟩
  · obtain ⟨P, hP1, hP, rfl⟩ := win1_t (N := 50) (by decide) hw
    obtain ⟨n, t, a, b⟩ := h.1
    by_cases q : ds_tick (ss_drv x) + nI P ≤ 9999
    · right
      rw [if_pos (rfl : true = true), if_pos q]
      rw [a.tick, nI_add] at q
      have q2 : t + P ≤ 9999 := (nI_leI (a := t + P) (b := 9999) (by omega) (by omega)).mp q
      obtain ⟨v, d', e, k⟩ := letPass_PI a hP (by omega)
      refine ⟨v, _, ?_, h.save ⟨n, t + P, k, q2⟩⟩
      refine Eq.trans (if_neg (by decide)) ?_
      simp only [tb]
      rw [show ss_drv (ss_his_s x (M_X4_save (ss_his x) (ss_drv x))) = ss_drv x from rfl, e, ob_some]
    · left
      rw [if_pos (rfl : true = true), if_neg q]
      exact ⟨3, rfl, 2, rfl⟩
theorem k_lose {x : SS} (h : IV x) (p : Int32) : LK x (M_L_lose x p) := by
  unfold M_L_lose
  refine LK.of h (fun _ => rfl) ?_
  unfold M_X6_lose
  rw [fC]
  cases hw : M_X6_isWithin p 0 1
  · left; exact ⟨1, rfl, 1, rfl⟩
  · right
    obtain ⟨c, hc, rfl⟩ := win_t (N := 1) (by decide) hw
    have hk : DK (dCtl_s (ss_drv x) (nI c) (cs_mail_s (dCtl (ss_drv x) (nI c)) (0 : Int64))) := h.1.one (by omega) rfl rfl (fun o _ w => by
      have w : mb 0 o = true := w
      rw [mb_0] at w; cases w)
    exact ⟨_, _, Eq.trans (if_neg (by decide)) rfl, h.save hk⟩
theorem k_type {x : SS} (h : IV x) (p : Int32) : LK x (M_L_type x p) := by
  unfold M_L_type
  refine LK.of h (fun _ => rfl) ?_
  unfold M_X6_type M_X6_type_25
  rw [fR, zI_if]
  cases hw : M_X6_isWithin p 0 127
  · left; exact ⟨2, rfl, 1, rfl⟩
  · cases hf : M_X1_isFull (ss_txt x)
    · right; exact ⟨_, _, rfl, h⟩
    · left; exact ⟨3, rfl, 2, rfl⟩
theorem k_undo {x : SS} (h : IV x) : LK x (M_L_undo x) := by
  unfold M_L_undo
  refine LK.of h (fun _ => rfl) ?_
  unfold M_X6_undo M_X6_undo_15
  obtain ⟨hdr, w, S, hw, hS, e1, e2, hk⟩ := h
  by_cases q : S = 0
  · subst q
    left
    rw [if_pos (show hs_size (ss_his x) = 0 from e1)]
    exact ⟨3, rfl, 1, rfl⟩
  · right
    obtain ⟨S, rfl⟩ : ∃ z, S = z + 1 := ⟨S - 1, by omega⟩
    have hne : ¬ hs_size (ss_his x) = 0 := by
      rw [e1]
      exact fun w => absurd ((nI_zero (by omega)).mp w) (by omega)
    have e := c_restore (d := ss_drv x) hw (show S < 4 by omega) e1 e2
    rw [if_neg hne]
    refine ⟨_, _, Eq.trans (if_neg (by decide)) rfl, ?_⟩
    rw [e]
    exact ⟨(hk w hw).become, (w + 3) % 4, S, Nat.mod_lt _ (by omega), by omega, rfl, rfl, hk⟩
theorem lastI_top {p : Nat → Bool} : ∀ {n o : Nat}, o < n → p o = true → ∃ k, o ≤ k ∧ k < n ∧ p k = true ∧ lastI p n = nI k := by
  intro n
  induction n with
  | zero => intro o h; omega
  | succ n ih =>
    intro o h hp
    by_cases q : p n = true
    · exact ⟨n, by omega, by omega, q, by show (if p n = true then nI n else lastI p n) = _; rw [if_pos q]⟩
    · have hne : o ≠ n := by rintro rfl; exact q hp
      obtain ⟨k, k1, k2, k3, k4⟩ := ih (show o < n by omega) hp
      exact ⟨k, k1, by omega, k3, by show (if p n = true then nI n else lastI p n) = _; rw [if_neg q]; exact k4⟩
theorem k_cancel {x : SS} (h : IV x) (p q : Int32) : LK x (M_L_cancel x p q) := by
  unfold M_L_cancel
  refine LK.of h (fun _ => rfl) ?_
  obtain ⟨n, t, a, b⟩ := h.1
  have hn := a.le
  have hcl := c_latest a.ord hn p q
  have ef : M_X3_faultOfCancelling (ss_drv x) p q = if (M_X6_isWithin p 0 3 && M_X6_isWithin q 0 31) = true then (if lastI (tagp (ss_drv x) p q) n = -1 then some 3 else if M_X3_fact (ss_drv x) (lastI (tagp (ss_drv x) p q) n) (5 : Int32) = 0 then some 0 else some 3) else some 2 := by
    unfold M_X3_faultOfCancelling M_X3_faultOfCancelling_31 M_X3_faultOfCancelling_36
    rw [fT, hcl, ob_some]
    cases (M_X6_isWithin p 0 3 && M_X6_isWithin q 0 31) <;> rfl
  unfold M_X6_cancel
  rw [ef]
  cases hw : (M_X6_isWithin p 0 3 && M_X6_isWithin q 0 31)
  · left; exact ⟨2, rfl, 1, rfl⟩
  · rcases lastI_cases (tagp (ss_drv x) p q) n with e | ⟨o, ho, e, -⟩
    · left
      rw [if_pos (rfl : true = true), if_pos e]
      exact ⟨3, rfl, 2, rfl⟩
    · have ho40 : o < 40 := by omega
      have e5 : M_X3_fact (ss_drv x) (nI o) (5 : Int32) = fc (ss_drv x) o 5 := c_fact _ (w := 5) ho40 (by decide)
      rw [e, e5, if_neg (nI_nm1 (by omega)), if_pos (rfl : true = true)]
      by_cases z : fc (ss_drv x) o 5 = 0
      · right
        have c1 : M_X3_setFact (ss_drv x) (nI o) (5 : Int32) (3 : Int32) = dF (ss_drv x) o 5 3 := c_setFact _ (w := 5) ho40 (by decide) 3
        refine ⟨nI o, ss_drv_s (ss_his_s x (M_X4_save (ss_his x) (ss_drv x))) (dF (ss_drv x) o 5 3), ?_, h.save ⟨n, t, a.cancel ho z, b⟩⟩
        rw [if_pos z, ob_some, if_neg (by rw [rfs_0]; decide)]
        unfold M_X3_callOff
        simp only [tb]
        rw [show ss_drv (ss_his_s x (M_X4_save (ss_his x) (ss_drv x))) = ss_drv x from rfl, hcl, ob_some, e, c1, ob_some]
      · left
        rw [if_neg z]
        exact ⟨3, rfl, 2, rfl⟩
theorem k_order {x : SS} (h : IV x) (p1 p2 p3 p4 p5 : Int32) : LK x (M_L_order x p1 p2 p3 p4 p5) := by
  unfold M_L_order
  refine LK.of h (fun _ => rfl) ?_
  obtain ⟨n, t, a, b⟩ := h.1
  have hn := a.le
  unfold M_X6_order
  rw [ef_order a.ord hn]
  cases hw : (M_X6_isWithin p1 0 3 && M_X6_isWithin p2 0 31)
  · left; exact ⟨2, rfl, 1, rfl⟩
  · rw [if_pos (rfl : true = true)]
    cases hk : M_X3_isOrderOfItsKind p3 p4 p5
    · left; exact ⟨2, rfl, 1, rfl⟩
    · rw [if_pos (rfl : true = true)]
      by_cases hq : n = 40
      · left; rw [if_pos hq]; exact ⟨3, rfl, 2, rfl⟩
      · rw [if_neg hq]
        have w1 : M_X6_isWithin p1 0 3 = true := by revert hw; cases M_X6_isWithin p1 0 3 <;> simp
        have w2 : M_X6_isWithin p2 0 31 = true := by revert hw; cases M_X6_isWithin p2 0 31 <;> simp
        obtain ⟨a1, ha1, ea1⟩ := win_t (N := 3) (by decide) w1
        obtain ⟨a2, ha2, ea2⟩ := win_t (N := 31) (by decide) w2
        have go : (∀ o, o < n → fc (ss_drv x) o 0 = p1 → fc (ss_drv x) o 1 = p2 → opn (ss_drv x) o = false) → ∃ r x', ((some (0 : Int32)).bind fun r1 => (if rfs r1 = true then some (Sum.inl r1) else (tb (M_X4_save (ss_his x) (ss_drv x)) fun r3 => (tb (ss_his_s x r3) fun y_4 => ((M_X3_tell (ss_drv y_4) p1 p2 p3 p4 p5).bind fun r5 => some (Sum.inr (r5.1, (ss_drv_s y_4 r5.2)))))))) = some (.inr (r, x')) ∧ IV x' := by
          intro hl
          have k := a.tell (by omega) hk ⟨a1, by omega, ea1⟩ ⟨a2, by omega, ea2⟩ hl
          refine ⟨nI n, _, ?_, h.save ⟨n + 1, t, k, b⟩⟩
          rw [ob_some, if_neg (by rw [rfs_0]; decide)]
          simp only [tb]
          rw [show ss_drv (ss_his_s x (M_X4_save (ss_his x) (ss_drv x))) = ss_drv x from rfl, c_tell a.ord (by omega), ob_some]
        have tg : ∀ o, fc (ss_drv x) o 0 = p1 → fc (ss_drv x) o 1 = p2 → tagp (ss_drv x) p1 p2 o = true := fun o u v => by unfold tagp; rw [u, v]; simp
        by_cases e : lastI (tagp (ss_drv x) p1 p2) n = -1
        · right
          rw [if_pos e]
          refine go fun o ho u v => ?_
          obtain ⟨k, k1, k2, k3, k4⟩ := lastI_top ho (tg o u v)
          rw [k4] at e
          exact absurd e (nI_nm1 (by omega))
        · rw [if_neg e]
          by_cases z : M_X3_isOpen (ss_drv x) (lastI (tagp (ss_drv x) p1 p2) n) = true
          · left; rw [if_pos z]; exact ⟨3, rfl, 2, rfl⟩
          · right
            rw [if_neg z]
            refine go fun o ho u v => ?_
            obtain ⟨k, k1, k2, k3, k4⟩ := lastI_top ho (tg o u v)
            rw [k4, c_isOpen _ (show k < 40 by omega)] at z
            have z : opn (ss_drv x) k = false := by revert z; cases opn (ss_drv x) k <;> simp
            by_cases s : o = k
            · subst s; exact z
            · have t3 : fc (ss_drv x) k 0 = p1 ∧ fc (ss_drv x) k 1 = p2 := by
                unfold tagp at k3
                revert k3
                by_cases m1 : fc (ss_drv x) k 0 = p1 <;> by_cases m2 : fc (ss_drv x) k 1 = p2 <;> simp [m1, m2]
              exact a.tag o k (by omega) k2 (u.trans t3.1.symm) (v.trans t3.2.symm)
