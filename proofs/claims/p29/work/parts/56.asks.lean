/-! PART 56: what the questions answer, where what holds holds -/
theorem q_orderOf {x : SS} {d : DS} {n t o w : Nat} (e : ss_drv x = d) (h : PI d n t) (ho : o < n) (hw : w ≤ 9) : M_X6_orderOf x (nI o) (nI w) = some (fc d o w) := by
  subst e
  have hn := h.le
  have hw2 : M_X6_isWithin (nI w) 0 (9 : Int32) = true := win_f (N := 9) (by decide) hw
  unfold M_X6_orderOf
  rw [fO h.ord, ov_nI hn ho, fR, hw2, if_neg (by decide), if_neg (by decide), c_fact _ (by omega) (by omega)]
theorem q_orderWith {x : SS} {d : DS} {n t a b : Nat} (e : ss_drv x = d) (h : PI d n t) (ha : a < 4) (hb : b < 32) : M_X6_orderWith x (nI a) (nI b) = some (lastI (tagp d (nI a) (nI b)) n) := by
  subst e
  have w1 : M_X6_isWithin (nI a) 0 (3 : Int32) = true := win_f (N := 3) (by decide) (by omega)
  have w2 : M_X6_isWithin (nI b) 0 (31 : Int32) = true := win_f (N := 31) (by decide) (by omega)
  unfold M_X6_orderWith
  rw [fT, w1, w2, if_neg (by decide), c_latest h.ord h.le, ob_some]
theorem ctlF {d : DS} {n t c w : Nat} (h : PI d n t) (hc : c < 2) (hw : w ≤ 8) : M_X3_controllerFact d (nI c) (nI w) = some (if w = 4 then nI (fb_ct (fun o => ml d c o && arr d c o) n) else M_X2_ownFact (dCtl d (nI c)) (nI w)) := by
  unfold M_X3_controllerFact M_X3_controllerFact_22
  by_cases q : w = 4
  · subst q
    rw [if_pos (show nI 4 = (4 : Int32) from rfl), if_pos rfl, c_arrivedMail h.ord h.le hc, ob_some]
  · rw [if_neg (fun z : nI w = (4 : Int32) => q (nI_inj' (b := 4) (by omega) (by omega) z)), if_neg q]
theorem q_controller {x : SS} {d : DS} {n t c w : Nat} (e : ss_drv x = d) (h : PI d n t) (hc : c < 2) (hw : w ≤ 8) : M_X6_controller x (nI c) (nI w) = some (if w = 4 then nI (fb_ct (fun o => ml d c o && arr d c o) n) else M_X2_ownFact (dCtl d (nI c)) (nI w)) := by
  subst e
  have w1 : M_X6_isWithin (nI c) 0 (1 : Int32) = true := win_f (N := 1) (by decide) (by omega)
  have w2 : M_X6_isWithin (nI w) 0 (8 : Int32) = true := win_f (N := 8) (by decide) hw
  unfold M_X6_controller
  rw [fC, w1, if_neg (by decide), fR, w2, if_neg (by decide), ctlF h hc hw, ob_some]
theorem size_PI {d : DS} {n t c : Nat} (h : PI d n t) (hc : c < 2) : M_X2_mailSize (dCtl d (nI c)) = nI (fb_ct (ml d c) n) := by
  have hn := h.le
  obtain ⟨N, hN, e⟩ := wb_of (cs_mail (dCtl d (nI c)))
  unfold M_X2_mailSize
  rw [e, bitCount_N hN]
  have hb : ∀ o, o < 64 → ml d c o = N.testBit o := by
    intro o ho
    unfold ml mb
    rw [e, wb_tb, BitVec.getLsbD_ofNat]
    simp [ho]
  have e1 : fb_ct N.testBit 64 = fb_ct (ml d c) 64 := (fb_ct_cong fun o ho => hb o ho).symm
  have e2 : fb_ct (ml d c) 64 = fb_ct (ml d c) n := by
    rw [show (64 : Nat) = n + (64 - n) by omega, fb_ct_split]
    have : fb_ct (fun k => ml d c (n + k)) (64 - n) = 0 := fb_ct_zero.mpr fun k hk => (h.ctl c hc).2.2 (n + k) (by omega) (by omega)
    rw [this]
    rfl
  rw [e1, e2]
theorem q_c0 {x : SS} {d : DS} {n t c : Nat} (e : ss_drv x = d) (h : PI d n t) (hc : c < 2) : M_X6_controller x (nI c) (0 : Int32) = some (zI (cs_aw (dCtl d (nI c)))) := by
  refine (q_controller (w := 0) e h hc (by omega)).trans ?_
  rw [if_neg (by decide)]
  unfold M_X2_ownFact M_X2_ownFact_60
  cases cs_aw (dCtl d (nI c)) <;> rfl
theorem q_c3 {x : SS} {d : DS} {n t c : Nat} (e : ss_drv x = d) (h : PI d n t) (hc : c < 2) : M_X6_controller x (nI c) (3 : Int32) = some (nI (fb_ct (ml d c) n)) := by
  refine (q_controller (w := 3) e h hc (by omega)).trans ?_
  rw [if_neg (by decide), ← size_PI h hc]
  rfl
theorem q_c4 {x : SS} {d : DS} {n t c : Nat} (e : ss_drv x = d) (h : PI d n t) (hc : c < 2) : M_X6_controller x (nI c) (4 : Int32) = some (nI (fb_ct (fun o => ml d c o && arr d c o) n)) := by
  refine (q_controller (w := 4) e h hc (by omega)).trans ?_
  rw [if_pos rfl]
theorem q_c5 {x : SS} {d : DS} {n t c : Nat} (e : ss_drv x = d) (h : PI d n t) (hc : c < 2) : M_X6_controller x (nI c) (5 : Int32) = some (nI (fb_ct (dby d c) n)) := by
  refine (q_controller (w := 5) e h hc (by omega)).trans ?_
  rw [if_neg (by decide), ← (h.ctl c hc).1]
  rfl
theorem q_c6 {x : SS} {d : DS} {n t c : Nat} (e : ss_drv x = d) (h : PI d n t) (hc : c < 2) : M_X6_controller x (nI c) (6 : Int32) = some (nI (fb_ct (dfi d c) n)) := by
  refine (q_controller (w := 6) e h hc (by omega)).trans ?_
  rw [if_neg (by decide), ← (h.ctl c hc).2.1]
  rfl
theorem q_c7 {x : SS} {d : DS} {n t c : Nat} (e : ss_drv x = d) (h : PI d n t) (hc : c < 2) : M_X6_controller x (nI c) (7 : Int32) = some (cs_qua (dCtl d (nI c))) := by
  refine (q_controller (w := 7) e h hc (by omega)).trans ?_
  rw [if_neg (by decide)]
  rfl
theorem q_mail {x : SS} {d : DS} {n t c q : Nat} (e : ss_drv x = d) (h : PI d n t) (hc : c < 2) (hq : q < 2 ^ 31) : M_X6_mail x (nI c) (nI q) = some (optI (mlAt d c n q)) := by
  subst e
  have w1 : M_X6_isWithin (nI c) 0 (1 : Int32) = true := win_f (N := 1) (by decide) (by omega)
  unfold M_X6_mail M_X6_mail_16
  rw [fC, w1, if_neg (by decide), if_pos (nI_pos' hq), if_neg (by decide), c_mailAt h.ord h.le hc hq, ob_some]
theorem q_waitsFor {x : SS} {d : DS} {n t o : Nat} (e : ss_drv x = d) (h : PI d n t) (ho : o < n) : M_X6_waitsFor x (nI o) = some (awv d o) := by
  subst e
  unfold M_X6_waitsFor
  rw [fO h.ord, ov_nI h.le ho, if_neg (by decide), c_firstAwaited h.le ho h.o, ob_some]
  rfl
theorem q_depth {x : SS} {d : DS} {n t o : Nat} (e : ss_drv x = d) (h : PI d n t) (ho : o < n) : M_X6_depth x (nI o) = some (cdv d o, ss_dep_s x (cdp d (ss_dep x) n)) := by
  subst e
  have hn := h.le
  unfold M_X6_depth
  rw [fO h.ord, ov_nI hn ho, if_neg (by decide), c_depths h.ord hn h.o, ob_some]
  simp only [tb]
  rw [show ss_dep (ss_dep_s x (cdp (ss_drv x) (ss_dep x) n)) = cdp (ss_drv x) (ss_dep x) n from rfl, x6_at (by omega) (by omega)]
  unfold cdp
  rw [if_pos ho]
theorem q_nextFor {x : SS} {d : DS} {n t c : Nat} (e : ss_drv x = d) (h : PI d n t) (hc : c < 2) : M_X6_nextFor x (nI c) = some (nxv d n c) := by
  subst e
  have w1 : M_X6_isWithin (nI c) 0 (1 : Int32) = true := win_f (N := 1) (by decide) (by omega)
  unfold M_X6_nextFor
  rw [fC, w1, if_neg (by decide), c_nextOf h.ord h.le h.o hc, ob_some]
  rfl
/-- the reason -/
def whv (d : DS) (n c o : Nat) : Int32 := if nxv d n c = nI o then 0 else if opn d o = true then (if M_X3_isTorn d = true then 2 else if ml d c o = true then (if arr d c o = true then (if optI (fw d o) = -1 then 6 else 5) else 4) else 3) else 1
theorem q_reason {x : SS} {d : DS} {n t c o : Nat} (e : ss_drv x = d) (h : PI d n t) (hc : c < 2) (ho : o < n) : M_X6_reason x (nI c) (nI o) = some (whv d n c o) := by
  subst e
  have hn := h.le
  have ho4 : o < 40 := by omega
  have w1 : M_X6_isWithin (nI c) 0 (1 : Int32) = true := win_f (N := 1) (by decide) (by omega)
  unfold M_X6_reason
  rw [fC, w1, if_neg (by decide), fO h.ord, ov_nI hn ho, if_neg (by decide)]
  unfold M_X3_whyNot whv nxv
  simp only [c_nextOf h.ord hn h.o hc, ob_some, c_isOpen _ ho4, c_holds' _ _ ho4, c_hasArrived hc ho4, c_firstAwaited hn ho h.o, zI_if, M_X3_whyNot_70]
  generalize (if M_X3_isTorn (ss_drv x) = true then ds_mo (ss_drv x) else optI (fst' (tk (ss_drv x) c) n)) = g
  by_cases q1 : g = nI o
  · simp [q1]
  · cases opn (ss_drv x) o
    · simp [q1]
    · cases M_X3_isTorn (ss_drv x)
      · cases ml (ss_drv x) c o
        · simp [q1]
        · cases arr (ss_drv x) c o
          · simp [q1]
          · by_cases q2 : optI (fw (ss_drv x) o) = -1 <;> simp [q1, q2]
      · simp [q1]
theorem q_block {x : SS} {d : DS} {b : Nat} (e : ss_drv x = d) (hb : b < 16) : M_X6_block x (nI b) = some (ds_val d b) := by
  subst e
  have w1 : M_X6_isWithin (nI b) 0 (15 : Int32) = true := win_f (N := 15) (by decide) (by omega)
  unfold M_X6_block
  rw [fB, w1, if_neg (by decide), x6_at hb (by omega)]
theorem q_final {x : SS} {d : DS} {n t b : Nat} (e : ss_drv x = d) (h : PI d n t) (hb : b < 16) : M_X6_finalValue x (nI b) = some (fv d (f16 d (ss_fin x) 16) n b, ss_fin_s x (fv d (f16 d (ss_fin x) 16) n)) := by
  subst e
  have w1 : M_X6_isWithin (nI b) 0 (15 : Int32) = true := win_f (N := 15) (by decide) (by omega)
  unfold M_X6_finalValue
  rw [fB, w1, if_neg (by decide), c_finals h.ord h.le, ob_some]
  simp only [tb]
  rw [show ss_fin (ss_fin_s x (fv (ss_drv x) (f16 (ss_drv x) (ss_fin x) 16) n)) = fv (ss_drv x) (f16 (ss_drv x) (ss_fin x) 16) n from rfl, x6_at hb (by omega)]
def stc (d : DS) (s : Int32) (n : Nat) : Nat := fb_ct (fun o => decide (fc d o 5 = s)) n
theorem wh_in {x : SS} {k : Nat} {v : Int32} (hk : k ≤ 11) (h : M_X6_wholeFact x (nI k) = some v) : M_X6_whole x (nI k) = some v := by
  have w1 : M_X6_isWithin (nI k) 0 (11 : Int32) = true := win_f (N := 11) (by decide) hk
  unfold M_X6_whole
  rw [fR, w1, if_neg (by decide), h, ob_some]
theorem q_w0 {x : SS} {d : DS} {n t : Nat} (e : ss_drv x = d) (h : PI d n t) : M_X6_whole x (0 : Int32) = some (nI n) := by
  subst e
  refine wh_in (k := 0) (by omega) ?_
  unfold M_X6_wholeFact M_X6_wholeFact_24 M_X3_wholeFact
  rw [if_neg (by decide), if_pos (by decide)]
  rw [h.ord]; rfl
theorem q_w1 {x : SS} {d : DS} {n t : Nat} (e : ss_drv x = d) (h : PI d n t) : M_X6_whole x (1 : Int32) = some (nI (stc d 0 n)) := by
  subst e
  refine wh_in (k := 1) (by omega) ?_
  unfold M_X6_wholeFact M_X6_wholeFact_24 M_X3_wholeFact
  rw [if_neg (by decide), if_neg (by decide), if_pos (by decide)]
  rw [c_countIn h.ord h.le]; rfl
theorem q_w2 {x : SS} {d : DS} {n t : Nat} (e : ss_drv x = d) (h : PI d n t) : M_X6_whole x (2 : Int32) = some (nI (stc d 1 n)) := by
  subst e
  refine wh_in (k := 2) (by omega) ?_
  unfold M_X6_wholeFact M_X6_wholeFact_24 M_X3_wholeFact
  rw [if_neg (by decide), if_neg (by decide), if_neg (by decide), if_pos (by decide)]
  rw [c_countIn h.ord h.le]; rfl
theorem q_w3 {x : SS} {d : DS} {n t : Nat} (e : ss_drv x = d) (h : PI d n t) : M_X6_whole x (3 : Int32) = some (nI (stc d 2 n)) := by
  subst e
  refine wh_in (k := 3) (by omega) ?_
  unfold M_X6_wholeFact M_X6_wholeFact_24 M_X3_wholeFact
  rw [if_neg (by decide), if_neg (by decide), if_neg (by decide), if_neg (by decide), if_pos (by decide)]
  rw [c_countIn h.ord h.le]; rfl
theorem q_w4 {x : SS} {d : DS} {n t : Nat} (e : ss_drv x = d) (h : PI d n t) : M_X6_whole x (4 : Int32) = some (nI (stc d 3 n)) := by
  subst e
  refine wh_in (k := 4) (by omega) ?_
  unfold M_X6_wholeFact M_X6_wholeFact_24 M_X3_wholeFact
  rw [if_neg (by decide), if_neg (by decide), if_neg (by decide), if_neg (by decide), if_neg (by decide), if_pos (by decide)]
  rw [c_countIn h.ord h.le]; rfl
theorem q_w5 {x : SS} {d : DS} {n t : Nat} (e : ss_drv x = d) (h : PI d n t) : M_X6_whole x (5 : Int32) = some (nI t) := by
  subst e
  refine wh_in (k := 5) (by omega) ?_
  unfold M_X6_wholeFact M_X6_wholeFact_24 M_X3_wholeFact
  rw [if_neg (by decide), if_neg (by decide), if_neg (by decide), if_neg (by decide), if_neg (by decide), if_neg (by decide), if_pos (by decide)]
  rw [h.tick]; rfl
theorem q_w6 {x : SS} {d : DS} {n t : Nat} (e : ss_drv x = d) (_h : PI d n t) : M_X6_whole x (6 : Int32) = some (ds_mo d) := by
  subst e
  refine wh_in (k := 6) (by omega) ?_
  unfold M_X6_wholeFact M_X6_wholeFact_24 M_X3_wholeFact
  rw [if_neg (by decide), if_neg (by decide), if_neg (by decide), if_neg (by decide), if_neg (by decide), if_neg (by decide), if_neg (by decide), if_pos (by decide)]
  rfl
theorem q_w8 {x : SS} {d : DS} {n t : Nat} (e : ss_drv x = d) (_h : PI d n t) : M_X6_whole x (8 : Int32) = some (cs_qua (dCtl d (nI 0)) + cs_qua (dCtl d (nI 1))) := by
  subst e
  refine wh_in (k := 8) (by omega) ?_
  unfold M_X6_wholeFact M_X6_wholeFact_24 M_X3_wholeFact
  rw [if_neg (by decide), if_neg (by decide), if_neg (by decide), if_neg (by decide), if_neg (by decide), if_neg (by decide), if_neg (by decide), if_neg (by decide), if_neg (by decide), if_pos (by decide)]
  rfl
theorem q_w9 {x : SS} {d : DS} (e : ss_drv x = d) : M_X6_whole x (9 : Int32) = some (zI (cs_aw (dCtl d (nI 0))) + zI (cs_aw (dCtl d (nI 1)))) := by
  subst e
  refine wh_in (k := 9) (by omega) ?_
  unfold M_X6_wholeFact M_X6_wholeFact_24 M_X3_wholeFact M_X3_wholeFact_131 M_X3_wholeFact_146
  rw [if_neg (by decide), if_neg (by decide), if_neg (by decide), if_neg (by decide), if_neg (by decide), if_neg (by decide), if_neg (by decide), if_neg (by decide), if_neg (by decide), if_neg (by decide), if_pos (by decide)]
  show _ = some (zI (cs_aw (ds_zero (ss_drv x))) + zI (cs_aw (ds_one (ss_drv x))))
  cases cs_aw (ds_zero (ss_drv x)) <;> cases cs_aw (ds_one (ss_drv x)) <;> rfl
theorem q_w10 {x : SS} {d : DS} (e : ss_drv x = d) : M_X6_whole x (10 : Int32) = some (sumI (ds_val d) 16) := by
  subst e
  refine wh_in (k := 10) (by omega) ?_
  unfold M_X6_wholeFact M_X6_wholeFact_24 M_X3_wholeFact
  rw [if_neg (by decide), if_neg (by decide), if_neg (by decide), if_neg (by decide), if_neg (by decide), if_neg (by decide), if_neg (by decide), if_neg (by decide), if_neg (by decide), if_neg (by decide), if_neg (by decide)]
  rw [c_sum]; rfl
/-! the same object, but for its rows aside -/
def core (y x : SS) : Prop := ss_drv y = ss_drv x ∧ ss_his y = ss_his x ∧ ss_txt y = ss_txt x
theorem core.rf (x : SS) : core x x := ⟨rfl, rfl, rfl⟩
theorem core.tr {a b c : SS} (h : core a b) (k : core b c) : core a c := ⟨h.1.trans k.1, h.2.1.trans k.2.1, h.2.2.trans k.2.2⟩
theorem core.iv {y x : SS} (h : core y x) (k : IV x) : IV y := by
  unfold IV
  rw [h.1, h.2.1]
  exact k
theorem core.dep {y x : SS} (h : core y x) (A : Nat → Int32) : core (ss_dep_s y A) x := h
theorem core.fin {y x : SS} (h : core y x) (A : Nat → Int32) : core (ss_fin_s y A) x := h
theorem core.img {y x : SS} (h : core y x) (A : DS) : core (ss_img_s y A) x := h
/-- whether it is open, asked by the law -/
theorem l_isOpen {x : SS} {d : DS} {n t o : Nat} (e : ss_drv x = d) (h : PI d n t) (ho : o < n) : M_L_isOpen x (nI o) = some (opn d o) := by
  unfold M_L_isOpen M_L_isOpen_15
  rw [show M_X6_orderOf x (nI o) (5 : Int32) = some (fc d o 5) from q_orderOf (w := 5) e h ho (by omega), ob_some]
  obtain ⟨-, -, -, s, hs, e5⟩ := h.o o ho
  unfold opn
  rw [e5]
  rcases (show s = 0 ∨ s = 1 ∨ s = 2 ∨ s = 3 by omega) with rfl | rfl | rfl | rfl <;> rfl
