/-! PART 54: work, passes and doneIn keep what holds -/
theorem PI.one {d : DS} {n t c : Nat} {x : CS} (h : PI d n t) (hc : c < 2) (h1 : cs_done x = cs_done (dCtl d (nI c))) (h2 : cs_fin x = cs_fin (dCtl d (nI c))) (h3 : ∀ o, o < 64 → mb (cs_mail x) o = true → ml d c o = true) : PI (dCtl_s d (nI c) x) n t := by
  refine h.soft (fun _ _ _ _ => rfl) rfl rfl h.tick (Nat.le_refl t) h.tlt (fun k hk => ?_)
  unfold ml
  rw [dCtl_s_dCtl hc hk]
  by_cases q : k = c
  · subst q
    rw [if_pos rfl]
    exact ⟨h1, h2, h3⟩
  · rw [if_neg q]
    exact ⟨rfl, rfl, fun _ _ w => w⟩
theorem PI.val {d : DS} {n t : Nat} (h : PI d n t) (f : Nat → Int32) : PI (ds_val_s d f) n t :=
  h.soft (fun _ _ _ _ => rfl) rfl rfl h.tick (Nat.le_refl t) h.tlt (fun _ _ => ⟨rfl, rfl, fun _ _ w => w⟩)
theorem fc_val (d : DS) (f : Nat → Int32) (o w : Nat) : fc (ds_val_s d f) o w = fc d o w := rfl
theorem drop_mail {x : CS} {i j : Nat} (hi : i < 64) (hj : j < 64) (h : mb (cs_mail (M_X2_drop x (nI i))) j = true) : mb (cs_mail x) j = true := by
  have e := mb_drop (cs_mail x) hi hj
  have h : mb (cs_mail x &&& (((1 : Int64) <<< ((nI i).toInt64 &&& 63)) ^^^ (-1 : Int64))) j = true := h
  rw [e] at h
  revert h
  cases mb (cs_mail x) j <;> simp
theorem PI.drop {d : DS} {n t c i : Nat} (h : PI d n t) (hc : c < 2) (hi : i < 64) : PI (dCtl_s d (nI c) (M_X2_drop (dCtl d (nI c)) (nI i))) n t :=
  h.one hc rfl rfl (fun _ ho w => drop_mail hi ho w)
theorem sst_PI {d : DS} {n t c i : Nat} (h : PI d n t) (hc : c < 2) (hi : i < 64) : PI (sst d c i) n t := by
  unfold sst
  split
  · split
    · exact h.one hc rfl rfl (fun _ ho w => drop_mail hi ho w)
    · exact h.drop hc hi
  · exact h
theorem so_PI {d : DS} {n t c : Nat} (h : PI d n t) (hc : c < 2) : ∀ i, i ≤ 40 → PI (so d c i) n t := by
  intro i
  induction i with
  | zero => intro _; exact h
  | succ i ih => intro hi; exact sst_PI (ih (by omega)) hc (by omega)
theorem torn_same {d d' : DS} (h : sameB d d') : M_X3_isTorn d' = M_X3_isTorn d := by
  have e : ∀ p q, M_X3_fact d' p q = M_X3_fact d p q := fun p q => by unfold M_X3_fact M_X3_fact_29 M_X3_fact_30; rw [h.1]
  rw [c_isTorn, c_isTorn, h.2.2.2.1, e]
theorem comp_PI {d : DS} {n t c o : Nat} (h : PI d n t) (hc : c < 2) (ho : o < n) (h1 : fc d o 5 = 1) : PI (M_X3_complete d (nI c) (nI o)) n t := by
  have hn := h.le
  refine h.complete hc ho h1 (fun o' w hw => fc_complete hc (by omega) hw) ?_ ?_ ?_ (fun k hk => ?_)
  · rw [complete_eq d hc (by omega)]; rfl
  · rw [complete_eq d hc (by omega)]; rfl
  · rw [complete_eq d hc (by omega)]; rfl
  · rw [complete_eq d hc (by omega)]
    unfold ml
    rw [dCtl_s_dCtl hc hk]
    by_cases q : k = c
    · subst q
      rw [if_pos rfl, if_pos rfl]
      exact ⟨rfl, rfl, rfl⟩
    · rw [if_neg q, if_neg q]
      exact ⟨rfl, rfl, rfl⟩
theorem begin_PI {d : DS} {n t o : Nat} (h : PI d n t) (ho : o < n) (h0 : fc d o 5 = 0) (hnt : M_X3_isTorn d = false) : PI (M_X3_begin d (nI o)) n t := by
  have hn := h.le
  obtain ⟨-, ⟨b, hb, eb⟩, -, -⟩ := h.o o ho
  have e := begin_eq (by omega) hb eb
  refine h.begin ho h0 hnt (fun o' w hw => fc_begin (by omega) hb eb hw) ?_ ?_ ?_ (fun c => ?_)
  · rw [e]; rfl
  · rw [e]; rfl
  · rw [e]; rfl
  · rw [e]; rfl
theorem steps_PI {d : DS} {n t c o s : Nat} (h : PI d n t) (hc : c < 2) (ho : o < n) (h0 : fc d o 5 = 0) (hnt : M_X3_isTorn d = false) (hs : 1 ≤ s) (hs3 : s ≤ 3) : PI (M_X3_makeSteps d (nI c) (nI o) (nI s)).2 n t := by
  have hn := h.le
  obtain ⟨-, ⟨b, hb, eb⟩, -, -⟩ := h.o o ho
  have hB := begin_PI h ho h0 hnt
  have h5 : fc (M_X3_begin d (nI o)) o 5 = 1 := by rw [fc_begin (by omega) hb eb (by omega), if_pos ⟨rfl, rfl⟩]
  have fall : ∀ {e : DS}, PI e n t → PI (dCtl_s e (nI c) (M_X2_fallAsleepTorn (dCtl e (nI c)))) n t := fun he => he.one hc rfl rfl (fun _ _ w => w)
  have l11 : nI 1 ≤ (1 : Int32) := by decide
  have l21 : ¬ nI 2 ≤ (1 : Int32) := by decide
  have l31 : ¬ nI 3 ≤ (1 : Int32) := by decide
  have g31 : ¬ (3 : Int32) ≤ nI 1 := by decide
  have g32 : ¬ (3 : Int32) ≤ nI 2 := by decide
  have g33 : (3 : Int32) ≤ nI 3 := by decide
  unfold M_X3_makeSteps
  simp only [tb, M_X3_makeSteps_32]
  rcases (show s = 1 ∨ s = 2 ∨ s = 3 by omega) with rfl | rfl | rfl
  · rw [if_pos l11, if_neg g31]
    exact fall hB
  · rw [if_neg l21, if_neg g32]
    exact fall (hB.val _)
  · rw [if_neg l31, if_pos g33]
    have key : ∀ f, PI (dCtl_s (M_X3_complete (ds_val_s (M_X3_begin d (nI o)) f) (nI c) (nI o)) (nI c) (M_X2_drop (dCtl (M_X3_complete (ds_val_s (M_X3_begin d (nI o)) f) (nI c) (nI o)) (nI c)) (nI o))) n t := fun f => (comp_PI (hB.val f) hc ho ((fc_val _ _ _ _).trans h5)).drop hc (by omega)
    exact key _
theorem finish_PI {d : DS} {n t c : Nat} (h : PI d n t) (hc : c < 2) (ht : M_X3_isTorn d = true) : PI (M_X3_finishTorn d (nI c)) n t := by
  have hn := h.le
  obtain ⟨o, ho, eo, h5⟩ := h.torn_of ht
  have ho40 : o < 40 := by omega
  unfold M_X3_finishTorn
  simp only [tb]
  have iW := h.val (M_X6_put 16 (ds_val d) (M_X3_fact d (ds_mo d) (3 : Int32)) (M_X3_resultOn_v d (ds_mo d)))
  have uW : ds_mo (ds_val_s d (M_X6_put 16 (ds_val d) (M_X3_fact d (ds_mo d) (3 : Int32)) (M_X3_resultOn_v d (ds_mo d)))) = nI o := eo
  have fW : fc (ds_val_s d (M_X6_put 16 (ds_val d) (M_X3_fact d (ds_mo d) (3 : Int32)) (M_X3_resultOn_v d (ds_mo d)))) o 5 = 1 := h5
  generalize ds_val_s d (M_X6_put 16 (ds_val d) (M_X3_fact d (ds_mo d) (3 : Int32)) (M_X3_resultOn_v d (ds_mo d))) = W at iW uW fW ⊢
  rw [uW]
  have iE := comp_PI iW hc ho fW
  have fE : ∀ o' w, w < 12 → fc (M_X3_complete W (nI c) (nI o)) o' w = if o' = o ∧ w = 8 then ds_tick W else if o' = o ∧ w = 6 then nI c else if o' = o ∧ w = 5 then 2 else fc W o' w := fun o' w hw => fc_complete hc ho40 hw
  have uE : ds_mo (M_X3_complete W (nI c) (nI o)) = nI o := by rw [complete_eq W hc ho40]; exact uW
  have w9 : fc W o 9 = 0 := by
    obtain ⟨-, -, q⟩ := iW.po o ho
    rcases q with ⟨a, -⟩ | ⟨-, -, -, a, -⟩
    · rw [fW] at a; exact absurd a (by decide)
    · exact a
  have E5 : fc (M_X3_complete W (nI c) (nI o)) o 5 = 2 := by rw [fE o 5 (by omega), if_neg (by omega), if_neg (by omega), if_pos ⟨rfl, rfl⟩]
  have E6 : fc (M_X3_complete W (nI c) (nI o)) o 6 = nI c := by rw [fE o 6 (by omega), if_neg (by omega), if_pos ⟨rfl, rfl⟩]
  have E9 : fc (M_X3_complete W (nI c) (nI o)) o 9 = 0 := by rw [fE o 9 (by omega), if_neg (by omega), if_neg (by omega), if_neg (by omega)]; exact w9
  generalize M_X3_complete W (nI c) (nI o) = E at iE uE E5 E6 E9 ⊢
  rw [uE]
  have c9 : M_X3_setFact E (nI o) (9 : Int32) 1 = dF E o 9 1 := c_setFact E (w := 9) ho40 (by decide) 1
  rw [c9]
  refine iE.mark hc ho E5 E6 E9 (fun o' w hw => ?_) rfl rfl rfl (fun k hk => ?_)
  · show fc (dF E o 9 1) o' w = _
    exact fc_dF (by decide) hw
  · unfold ml
    rw [dCtl_s_dCtl hc hk]
    by_cases q : k = c
    · subst q
      rw [if_pos rfl, if_pos rfl]
      exact ⟨rfl, rfl, rfl⟩
    · rw [if_neg q, if_neg q]
      exact ⟨rfl, rfl, rfl⟩
theorem works_PI {d : DS} {n t c s : Nat} (h : PI d n t) (hc : c < 2) (hs : 1 ≤ s) (hs3 : s ≤ 3) : ∃ r d', M_X3_letWork d (nI c) (nI s) = some (r, d') ∧ PI d' n t := by
  have hn := h.le
  unfold M_X3_letWork
  simp only [zI_if]
  cases ht : M_X3_isTorn d
  · simp only [Bool.false_eq_true, if_false, c_firstTakeable h.ord hn h.o hc, ob_some]
    cases hf : fst' (tk d c) n with
    | none =>
      have e1 : optI none = (-1 : Int32) := rfl
      simp only [e1, if_true, M_X3_letWork_35, M_X3_letWork_54, h.ord, c_sortOut hc hn, ob_some]
      exact ⟨_, _, rfl, so_PI h hc n hn⟩
    | some o =>
      obtain ⟨ho, htk, hbef⟩ := fst'_some.mp hf
      have sb := so_same d c o
      have hso := so_PI h hc o (by omega)
      have hop : opn d o = true := by revert htk; unfold tk; cases opn d o <;> simp
      have h0 : fc (so d c o) o 5 = 0 := by
        rw [sb.e_fc]
        unfold opn at hop
        by_cases q : fc d o 5 = 0
        · exact q
        · by_cases q1 : fc d o 5 = 1
          · rw [h.torn ho q1] at ht; cases ht
          · rw [decide_eq_false q, decide_eq_false q1] at hop; cases hop
      have hnt : M_X3_isTorn (so d c o) = false := by rw [torn_same sb, ht]
      have e1 : optI (some o) = nI o := rfl
      have e2 : ¬ nI o = (-1 : Int32) := nI_nm1 (by omega)
      have hst := steps_PI (s := s) hso hc ho h0 hnt hs hs3
      simp only [e1, e2, if_false, M_X3_letWork_35, M_X3_letWork_54, c_sortOut hc (show o ≤ 40 by omega), ob_some, tb]
      exact ⟨_, _, rfl, hst⟩
  · simp only [if_true]
    exact ⟨1, _, rfl, finish_PI h hc ht⟩
theorem hd_PI {d : DS} {n t c : Nat} (h : PI d n t) (hc : c < 2) : PI (hd d c) n t := by
  have e : ∀ (x : CS) (v : Int32), M_X2_heedAlarm x v = x ∨ M_X2_heedAlarm x v = cs_aw_s x true := by
    intro x v
    unfold M_X2_heedAlarm M_X2_heedAlarm_21
    split
    · exact Or.inl rfl
    · split
      · exact Or.inr rfl
      · exact Or.inl rfl
  unfold hd
  rcases e (dCtl d (nI c)) (ds_tick d) with q | q
  · rw [q]; exact h.one hc rfl rfl (fun _ _ w => w)
  · rw [q]; exact h.one hc rfl rfl (fun _ _ w => w)
theorem half_PI {d : DS} {n t c : Nat} (h : PI d n t) (hc : c < 2) : ∃ (d' : DS) (g : Int32 → Int32), PI d' n t ∧ ∀ x p1 k4 k34 u v i, i < 2 → (t + i) % 2 = c → M_X3_letPass_34s x p1 k4 k34 (u, v, nI i, d) = k34 (g u, v, nI (i + 1), d') := by
  have htl := h.tlt
  have cl : ∀ i, i < 2 → (t + i) % 2 = c → (ds_tick d + nI i) - (ds_tick d + nI i) / (2 : Int32) * (2 : Int32) = nI c := by
    intro i hi hq
    rw [h.tick, nI_add]
    exact (pk_rem (d := 2) (by omega) (by omega) (by omega)).trans (by rw [hq])
  have g2 : ∀ i, i < 2 → ¬ (2 : Int32) ≤ nI i := fun i hi => nI_ge (a := i) (b := 2) hi (by omega)
  cases hw : cs_aw (dCtl d (nI c))
  · refine ⟨d, fun u => u, h, ?_⟩
    intro x p1 k4 k34 u v i hi hq
    unfold M_X3_letPass_34s
    simp only [g2 i hi, if_false, cl i hi hq, hw, zI_if, M_X3_letPass_76, nI_1, Bool.false_eq_true]
  · obtain ⟨r, d', ec, hp⟩ := works_PI (s := 3) h hc (by omega) (by omega)
    have ec' : M_X3_letWork d (nI c) (3 : Int32) = some (r, d') := ec
    by_cases q1 : r = 0
    · refine ⟨d', fun u => u, hp, ?_⟩
      intro x p1 k4 k34 u v i hi hq
      unfold M_X3_letPass_34s
      simp only [g2 i hi, if_false, cl i hi hq, hw, zI_if, M_X3_letPass_76, nI_1, if_true, ec', ob_some, q1]
    · refine ⟨d', fun u => u + 1, hp, ?_⟩
      intro x p1 k4 k34 u v i hi hq
      unfold M_X3_letPass_34s
      simp only [g2 i hi, if_false, cl i hi hq, hw, zI_if, M_X3_letPass_76, nI_1, if_true, ec', ob_some, q1]
theorem passes_PI {d : DS} {n t : Nat} (h : PI d n t) (ht2 : t + 1 < 20000) : ∃ (d' : DS) (g : Int32 → Int32), PI d' n (t + 1) ∧ ∀ x p1 k u v, ¬ p1 ≤ v → M_X3_letPass_4s x p1 k (u, v, d) = k (g u, v + 1, d') := by
  have i1 : PI (hd (hd d 0) 1) n t := hd_PI (hd_PI h (by omega)) (by omega)
  obtain ⟨d2, m2, i2, c2⟩ := half_PI (c := t % 2) i1 (Nat.mod_lt _ (by omega))
  obtain ⟨d3, m3, i3, c3⟩ := half_PI (c := 1 - t % 2) i2 (by omega)
  have e1 : nI t + 1 = nI (t + 1) := nI_1 t
  refine ⟨ds_tick_s d3 (nI (t + 1)), fun u => m3 (m2 u), ?_, ?_⟩
  · exact i3.soft (fun _ _ _ _ => rfl) rfl rfl rfl (by omega) ht2 (fun _ _ => ⟨rfl, rfl, fun _ _ w => w⟩)
  · intro x p1 k u v hp
    unfold M_X3_letPass_4s
    simp only [hp, if_false, tb, hd_0]
    rw [show ds_one_s (hd d 0) (M_X2_heedAlarm (ds_one (hd d 0)) (ds_tick (hd d 0))) = hd (hd d 0) 1 from rfl]
    rw [show (64 : Nat) = 61 + 1 + 1 + 1 from rfl, lpF_s, show ((u, v, (0 : Int32), hd (hd d 0) 1) : Int32 × Int32 × Int32 × DS) = (u, v, nI 0, hd (hd d 0) 1) from rfl, c2 _ _ _ _ _ _ 0 (by omega) rfl, lpF_s, c3 _ _ _ _ _ _ (0 + 1) (by omega) (by omega), lpF_s]
    unfold M_X3_letPass_34s
    have hle : (2 : Int32) ≤ nI (0 + 1 + 1) := by decide
    simp only [hle, if_true, tb, i3.tick, e1]
theorem pass_loop {n P : Nat} (hP : P < 2 ^ 31) : ∀ j i, i + j = P → ∀ (d : DS) (t : Nat) (U : Int32), PI d n t → t + j < 20000 → ∃ U' d', PI d' n (t + j) ∧ ∀ x N, j < N → lpF (M_X3_letPass_4s x (nI P)) N (U, nI i, d) = some (U', d') := by
  intro j
  induction j with
  | zero =>
    intro i hi d t U h ht2
    have e : i = P := by omega
    subst e
    refine ⟨U, d, h, ?_⟩
    intro x N hN
    obtain ⟨q, rfl⟩ : ∃ q, N = q + 1 := ⟨N - 1, by omega⟩
    rw [lpF_s]
    unfold M_X3_letPass_4s
    rw [if_pos (Int32.le_refl _)]
  | succ j ih =>
    intro i hi d t U h ht2
    obtain ⟨d1, m1, i1, c1⟩ := passes_PI h (by omega)
    obtain ⟨U2, d2, i2, c2⟩ := ih (i + 1) (by omega) d1 (t + 1) (m1 U) i1 (by omega)
    have g : ¬ nI P ≤ nI i := nI_ge (by omega) hP
    refine ⟨U2, d2, by rw [show t + (j + 1) = t + 1 + j by omega]; exact i2, ?_⟩
    intro x N hN
    obtain ⟨q, rfl⟩ : ∃ q, N = q + 1 := ⟨N - 1, by omega⟩
    rw [lpF_s, c1 _ _ _ _ _ g, nI_1]
    exact c2 x q (by omega)
theorem letPass_PI {d : DS} {n t P : Nat} (h : PI d n t) (hP : P ≤ 50) (ht2 : t + P < 20000) : ∃ v d', M_X3_letPass d (nI P) = some (v, d') ∧ PI d' n (t + P) := by
  obtain ⟨v, d', i, c⟩ := pass_loop (n := n) (P := P) (by omega) P 0 (by omega) d t 0 h ht2
  exact ⟨v, d', c d 64 (by omega), i⟩
/-- how many orders are open -/
def opc (d : DS) (n : Nat) : Nat := fb_ct (fun o => decide (fc d o 5 = 0)) n + fb_ct (fun o => decide (fc d o 5 = 1)) n
theorem opc_le (d : DS) (n : Nat) : opc d n ≤ 2 * n := by
  have a := fb_ct_le (fun o => decide (fc d o 5 = 0)) n
  have b := fb_ct_le (fun o => decide (fc d o 5 = 1)) n
  unfold opc
  omega
theorem c_hasOpen {d : DS} {n : Nat} (ho : ds_ord d = nI n) (hn : n ≤ 40) : M_X3_hasOpenOrder d = some (decide (opc d n ≠ 0)) := by
  have a := opc_le d n
  unfold M_X3_hasOpenOrder
  have e0 : M_X3_countIn d (0 : Int32) = some (nI (fb_ct (fun o => decide (fc d o 5 = 0)) n)) := c_countIn ho hn 0
  have e1 : M_X3_countIn d (1 : Int32) = some (nI (fb_ct (fun o => decide (fc d o 5 = 1)) n)) := c_countIn ho hn 1
  rw [e0, ob_some, e1, ob_some, nI_add]
  by_cases q : opc d n = 0
  · rw [show fb_ct (fun o => decide (fc d o 5 = 0)) n + fb_ct (fun o => decide (fc d o 5 = 1)) n = 0 from q, if_pos (show nI 0 ≤ 0 by decide), decide_eq_false (fun w => w q)]
    rfl
  · have g : ¬ nI (fb_ct (fun o => decide (fc d o 5 = 0)) n + fb_ct (fun o => decide (fc d o 5 = 1)) n) ≤ 0 := nI_nle (n := opc d n) (by omega) (by omega)
    rw [if_neg g, decide_eq_true q]
    rfl
theorem done_loop {n : Nat} : ∀ j i, i + j = 201 → ∀ (x0 x : SS) (t : Nat), PI (ss_img x) n t → t + j < 20000 → ∃ v g, (v = -1 ∨ ∃ k, i ≤ k ∧ k ≤ 200 ∧ v = nI k) ∧ (opc (ss_img x) n = 0 → i ≤ 200 → v = nI i) ∧ (opc (ss_img x) n ≠ 0 → v ≠ nI i) ∧ ∀ N, j < N → lpF (M_X6_doneIn_13s x0) N (nI i, x) = some (v, ss_img_s x g) := by
  intro j
  induction j with
  | zero =>
    intro i hi x0 x t h ht
    refine ⟨-1, ss_img x, Or.inl rfl, fun _ q => by omega, fun _ q => nI_nm1 (o := i) (by omega) q.symm, ?_⟩
    intro N hN
    obtain ⟨M, rfl⟩ : ∃ M, N = M + 1 := ⟨N - 1, by omega⟩
    rw [lpF_s]
    unfold M_X6_doneIn_13s
    rw [show i = 201 by omega, if_pos (show (200 : Int32) < nI 201 by decide)]
    rfl
  | succ j ih =>
    intro i hi x0 x t h ht
    have g200 : ¬ (200 : Int32) < nI i := nI_nlt (a := 200) (b := i) (by omega) (by omega)
    have e2 := c_hasOpen h.ord h.le
    by_cases q : opc (ss_img x) n = 0
    · refine ⟨nI i, ss_img x, Or.inr ⟨i, Nat.le_refl i, by omega, rfl⟩, fun _ _ => rfl, fun w => absurd q w, ?_⟩
      intro N hN
      obtain ⟨M, rfl⟩ : ∃ M, N = M + 1 := ⟨N - 1, by omega⟩
      rw [lpF_s]
      unfold M_X6_doneIn_13s
      rw [if_neg g200]
      simp only [e2, ob_some]
      rw [decide_eq_false (show ¬ opc (ss_img x) n ≠ 0 from fun w => w q), if_pos (show zI false = 0 from rfl)]
      rfl
    · obtain ⟨v1, d', c1, r2⟩ := letPass_PI (P := 1) h (by omega) (by omega)
      have c1 : M_X3_letPass (ss_img x) (1 : Int32) = some (v1, d') := c1
      obtain ⟨v, g, hv, -, -, a⟩ := ih (i + 1) (by omega) x0 (ss_img_s x d') (t + 1) r2 (by omega)
      refine ⟨v, g, ?_, fun w => absurd w q, fun _ w => ?_, ?_⟩
      · rcases hv with hv | ⟨k, k1, k2, k3⟩
        · exact Or.inl hv
        · exact Or.inr ⟨k, by omega, k2, k3⟩
      · rcases hv with hv | ⟨k, k1, k2, k3⟩
        · exact nI_nm1 (o := i) (by omega) (w.symm.trans hv)
        · have := nI_inj' (a := k) (b := i) (by omega) (by omega) (k3.symm.trans w)
          omega
      · intro N hN
        obtain ⟨M, rfl⟩ : ∃ M, N = M + 1 := ⟨N - 1, by omega⟩
        rw [lpF_s]
        unfold M_X6_doneIn_13s
        rw [if_neg g200]
        simp only [e2, ob_some]
        rw [decide_eq_true q, if_neg (show ¬ zI true = 0 by decide), c1, ob_some]
        simp only [tb]
        rw [nI_1]
        exact a M (by omega)
theorem become_PI {x x1 : DS} {n t : Nat} (h : PI x1 n t) : PI (M_X3_become x x1) n t :=
  h.soft (fun o w ho hw => become_fc ho hw) (by rw [become_eq]; rfl) (by rw [become_eq]; rfl) (by rw [become_eq]; exact h.tick) (Nat.le_refl t) h.tlt (fun c _ => by
    have e : dCtl (M_X3_become x x1) (nI c) = dCtl x1 (nI c) := by rw [become_eq]; rfl
    unfold ml
    rw [e]
    exact ⟨rfl, rfl, fun _ _ w => w⟩)
theorem opc_become {x x1 : DS} {n : Nat} (hn : n ≤ 40) : opc (M_X3_become x x1) n = opc x1 n := by
  unfold opc
  have e : ∀ s : Int32, fb_ct (fun o => decide (fc (M_X3_become x x1) o 5 = s)) n = fb_ct (fun o => decide (fc x1 o 5 = s)) n := fun s => fb_ct_cong fun o ho => by rw [become_fc (by omega) (by omega)]
  rw [e, e]
theorem done_PI {x : SS} {n t : Nat} (h : PI (ss_drv x) n t) (ht : t ≤ 9999) : ∃ v g, M_X6_doneIn x = some (v, ss_img_s x g) ∧ ¬ (200 : Int32) < v ∧ (v = 0 ↔ opc (ss_drv x) n = 0) := by
  have hp : PI (ss_img (ss_img_s x (M_X3_become (ss_img x) (ss_drv x)))) n t := become_PI h
  obtain ⟨v, g, hv, hv0, hv1, a⟩ := done_loop (n := n) 201 0 (by omega) x (ss_img_s x (M_X3_become (ss_img x) (ss_drv x))) t hp (by omega)
  have eo : opc (ss_img (ss_img_s x (M_X3_become (ss_img x) (ss_drv x)))) n = opc (ss_drv x) n := opc_become h.le
  rw [eo] at hv0 hv1
  refine ⟨v, g, ?_, ?_, ?_⟩
  · unfold M_X6_doneIn
    simp only [tb]
    exact a 400 (by omega)
  · rcases hv with rfl | ⟨k, -, k2, rfl⟩
    · decide
    · exact nI_nlt (a := 200) (b := k) k2 (by omega)
  · refine ⟨fun w => ?_, fun w => hv0 w (by omega)⟩
    by_cases q : opc (ss_drv x) n = 0
    · exact q
    · exact absurd w (hv1 q)
