/-! PART 62: a call of the law's; a turn of it -/
theorem k_low {n : Int32} (hn : ¬ n = 0) (p : Int32) : ∃ r, M_L_low p n = some r := by
  unfold M_L_low irm
  rw [if_neg hn]
  exact ⟨_, rfl⟩
theorem k_near {n : Int32} (hn : ¬ n = 0) (p : Int32) : ∃ r, M_L_near p n = some r := by
  obtain ⟨r1, e1⟩ := k_low (n := 40) (by decide) p
  obtain ⟨r2, e2⟩ := k_low hn (p >>> ((6 : Int32) &&& 31))
  unfold M_L_near M_L_near_41
  rw [e1, ob_some, e2]
  repeat' split
  all_goals exact ⟨_, rfl⟩
def LG (x : SS) (r : Option (Int32 ⊕ (Int32 × SS))) : Prop := ∃ t x', r = some (.inr (t, x')) ∧ IV x' ∧ (t = 0 ∨ x' = x)
theorem LG.of {x : SS} {r : Option (Int32 × SS)} (h : LK x r) : LG x (r.bind fun r3 => some (.inr (r3.1, r3.2))) := by
  obtain ⟨t, x', e, a, b⟩ := h
  rw [e]
  exact ⟨t, x', rfl, a, b⟩
theorem LG.near {x : SS} {n p : Int32} {F : Int32 → Option (Int32 ⊕ (Int32 × SS))} (hn : ¬ n = 0) (h : ∀ r, LG x (F r)) : LG x ((M_L_near p n).bind F) := by
  obtain ⟨r, e⟩ := k_near hn p
  rw [e]
  exact h r
theorem LG.low {x : SS} {n p : Int32} {F : Int32 → Option (Int32 ⊕ (Int32 × SS))} (hn : ¬ n = 0) (h : ∀ r, LG x (F r)) : LG x ((M_L_low p n).bind F) := by
  obtain ⟨r, e⟩ := k_low hn p
  rw [e]
  exact h r
theorem LG.ite {x : SS} {P : Prop} [Decidable P] {a b : Option (Int32 ⊕ (Int32 × SS))} (ha : LG x a) (hb : LG x b) : LG x (if P then a else b) := by
  split
  · exact ha
  · exact hb
theorem g_172 {x : SS} (h : IV x) (x0 : SS) (p1 p2 p3 u4 u5 w0 : Int32) : LG x (M_L_goes_172 x0 p1 p2 p3 u4 u5 w0 x) := by
  unfold M_L_goes_172
  exact LG.near (by decide) fun r1 => LG.near (by decide) fun r2 => LG.of (k_order h _ _ _ _ _)
theorem g_134 {x : SS} (h : IV x) (x0 : SS) (p1 p2 p3 u4 u5 : Int32) : LG x (M_L_goes_134 x0 p1 p2 p3 u4 u5 x) := by
  unfold M_L_goes_134
  exact LG.ite (LG.near (by decide) fun r => g_172 h _ _ _ _ _ _ _) (LG.low (by decide) fun r => LG.ite (g_172 h _ _ _ _ _ _ _) (LG.low (by decide) fun r => g_172 h _ _ _ _ _ _ _))
theorem g_113 {x : SS} (h : IV x) (x0 : SS) (p1 p2 p3 u4 w0 : Int32) : LG x (M_L_goes_113 x0 p1 p2 p3 u4 w0 x) := by
  unfold M_L_goes_113
  exact LG.ite (LG.low (by decide) fun r => LG.ite (g_134 h _ _ _ _ _ _) (g_172 h _ _ _ _ _ _ _)) (g_134 h _ _ _ _ _ _)
theorem g_106 {x : SS} (h : IV x) (x0 : SS) (p1 p2 p3 u4 : Int32) : LG x (M_L_goes_106 x0 p1 p2 p3 u4 x) := by
  unfold M_L_goes_106
  exact LG.near (by decide) fun r => g_113 h _ _ _ _ _ _
theorem g_80 {x : SS} (h : IV x) (x0 : SS) (p1 p2 p3 : Int32) : LG x (M_L_goes_80 x0 p1 p2 p3 x) := by
  unfold M_L_goes_80
  exact LG.near (by decide) fun r => LG.ite (LG.low (by decide) fun r => LG.ite (g_106 h _ _ _ _ _) (g_113 h _ _ _ _ _ _)) (g_106 h _ _ _ _ _)
theorem g_272 {x : SS} (h : IV x) (x0 : SS) (p1 p2 p3 w1 w2 w3 : Int32) (hw : ¬ w3 = 0) : LG x (M_L_goes_272 x0 p1 p2 p3 w1 w2 w3 x) := by
  unfold M_L_goes_272
  exact LG.near hw fun r => LG.of (k_setDelay h _ _)
theorem g_307 {x : SS} (h : IV x) (x0 : SS) (p1 p2 p3 w1 w2 w3 : Int32) (hw : ¬ w3 = 0) : LG x (M_L_goes_307 x0 p1 p2 p3 w1 w2 w3 x) := by
  unfold M_L_goes_307
  exact LG.near hw fun r => LG.of (k_setAlarm h _ _)
theorem g_314 {x : SS} (h : IV x) (x0 : SS) (p1 p2 p3 : Int32) : LG x (M_L_goes_314 x0 p1 p2 p3 x) := by
  unfold M_L_goes_314
  exact LG.near (by decide) fun r => LG.near (by decide) fun r => LG.of (k_work h _ _)
theorem g_331 {x : SS} (h : IV x) (x0 : SS) (p1 p2 p3 : Int32) : LG x (M_L_goes_331 x0 p1 p2 p3 x) := by
  unfold M_L_goes_331 M_L_goes_356
  exact LG.low (by decide) fun r => LG.ite (LG.near (by decide) fun r => LG.of (k_pass h _)) (LG.low (by decide) fun r => LG.of (k_pass h _))
theorem k_goes {x : SS} (h : IV x) (p1 p2 p3 : Int32) : LG x (M_L_goes x p1 p2 p3) := by
  unfold M_L_goes
  refine LG.low (by decide) fun r => ?_
  refine LG.ite (g_80 h _ _ _ _) (LG.ite (g_80 h _ _ _ _) (LG.ite (g_80 h _ _ _ _) (LG.ite (g_80 h _ _ _ _) ?_)))
  refine LG.ite (LG.near (by decide) fun r => LG.near (by decide) fun r => LG.of (k_cancel h _ _)) ?_
  refine LG.ite (LG.near (by decide) fun r => LG.of (k_wake h _)) ?_
  refine LG.ite (LG.near (by decide) fun r => LG.of (k_sleep h _)) ?_
  refine LG.ite (LG.low (by decide) fun r => LG.ite (LG.near (by decide) fun r => LG.low (by decide) fun r => LG.ite (g_272 h _ _ _ _ _ _ _ (by decide)) (g_272 h _ _ _ _ _ _ _ (by decide))) (LG.near (by decide) fun r => LG.low (by decide) fun r => LG.ite (g_307 h _ _ _ _ _ _ _ (by decide)) (g_307 h _ _ _ _ _ _ _ (by decide)))) ?_
  refine LG.ite (g_314 h _ _ _ _) (LG.ite (g_314 h _ _ _ _) (LG.ite (g_314 h _ _ _ _) (LG.ite (g_314 h _ _ _ _) ?_)))
  refine LG.ite (g_331 h _ _ _ _) (LG.ite (g_331 h _ _ _ _) ?_)
  refine LG.ite ?_ (LG.near (by decide) fun r => LG.of (k_type h _))
  unfold M_L_goes_385
  exact LG.low (by decide) fun r => LG.ite (LG.near (by decide) fun r => LG.of (k_lose h _)) (LG.of (k_undo h))
/-- one turn of the law -/
theorem turn_ok {x : SS} (h : IV x) (a b c : Int32) : ∃ D x1 t x2, M_X6_digest x = some (D, x1) ∧ M_L_goes x1 a b c = some (.inr (t, x2)) ∧ ((t = 0 ∧ ∃ x3, M_L_fits x2 = some (true, x3) ∧ IV x3) ∨ (¬ t = 0 ∧ ∃ x3 x4, M_X6_digest x2 = some (D, x3) ∧ M_L_fits x3 = some (true, x4) ∧ IV x4)) := by
  obtain ⟨D, hD⟩ := k_digest h
  obtain ⟨x1, e1, c1⟩ := hD x (core.rf x)
  have h1 : IV x1 := c1.iv h
  obtain ⟨t, x2, e2, h2, ht⟩ := k_goes h1 a b c
  refine ⟨D, x1, t, x2, e1, e2, ?_⟩
  by_cases q : t = 0
  · obtain ⟨x3, e3, c3⟩ := l_fits h2 (core.rf x2)
    exact Or.inl ⟨q, x3, e3, c3.iv h2⟩
  · rcases ht with ht | rfl
    · exact absurd ht q
    · obtain ⟨x3, e3, c3⟩ := hD x2 c1
      have h3 : IV x3 := c3.iv h
      obtain ⟨x4, e4, c4⟩ := l_fits h3 (core.rf x3)
      exact Or.inr ⟨q, x3, x4, e3, e4, c4.iv h3⟩
theorem ds0_PI : PI ds0 0 0 := by
  refine ⟨rfl, by omega, rfl, by omega, ⟨fun o ho => by omega, Or.inl rfl, ⟨0, by omega, rfl⟩⟩, fun o ho => by omega, fun o ho => by omega, fun o e _ he => by omega, fun c hc => ?_⟩
  rcases (show c = 0 ∨ c = 1 by omega) with rfl | rfl
  · exact ⟨rfl, rfl, fun o _ _ => mb_0 o⟩
  · exact ⟨rfl, rfl, fun o _ _ => mb_0 o⟩
theorem ss0_IV : IV ss0 :=
  ⟨⟨0, 0, ds0_PI, by omega⟩, 0, 0, by omega, by omega, rfl, rfl, fun _ _ => ⟨0, 0, ds0_PI, by omega⟩⟩
theorem start_ok : ∃ x, M_L_fits ss0 = some (true, x) ∧ IV x := by
  obtain ⟨x, e, c⟩ := l_fits ss0_IV (core.rf ss0)
  exact ⟨x, e, c.iv ss0_IV⟩
