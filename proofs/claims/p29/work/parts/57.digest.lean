/-! PART 57: the digest -/
theorem ctl_val {d : DS} {n t c w : Nat} (h : PI d n t) (hc : c < 2) (hw : w ≤ 8) : M_X3_controllerFact d (nI c) (nI w) = some (cfv d c w) := by
  unfold cfv
  rw [ctlF h hc hw]
  rfl
theorem ite_some {α : Type} {P : Prop} [Decidable P] {a b : Option α} (ha : ∃ v, a = some v) (hb : ∃ v, b = some v) : ∃ v, (if P then a else b) = some v := by
  split
  · exact ha
  · exact hb
theorem whole_val {x : SS} {n t k : Nat} (h : PI (ss_drv x) n t) (_hk : k ≤ 11) : M_X6_wholeFact x (nI k) = some (wfv x k) := by
  have cc : ∀ s, M_X3_countIn (ss_drv x) s = some (nI (fb_ct (fun o => decide (fc (ss_drv x) o 5 = s)) n)) := fun s => c_countIn h.ord h.le s
  have g3 : ∃ v, M_X3_wholeFact (ss_drv x) (nI k) = some v := by
    unfold M_X3_wholeFact M_X3_wholeFact_131 M_X3_wholeFact_146
    rw [cc, cc, cc, cc, c_sum]
    exact ite_some ⟨_, rfl⟩ (ite_some ⟨_, rfl⟩ (ite_some ⟨_, rfl⟩ (ite_some ⟨_, rfl⟩ (ite_some ⟨_, rfl⟩ (ite_some ⟨_, rfl⟩ (ite_some ⟨_, rfl⟩ (ite_some ⟨_, rfl⟩ (ite_some ⟨_, rfl⟩ (ite_some (ite_some (ite_some ⟨_, rfl⟩ ⟨_, rfl⟩) (ite_some ⟨_, rfl⟩ ⟨_, rfl⟩)) ⟨_, rfl⟩)))))))))
  have g : ∃ v, M_X6_wholeFact x (nI k) = some v := by
    obtain ⟨v, e⟩ := g3
    unfold M_X6_wholeFact M_X6_wholeFact_24
    rw [e]
    exact ite_some ⟨_, rfl⟩ ⟨_, rfl⟩
  obtain ⟨v, e⟩ := g
  unfold wfv
  rw [e]
  rfl
theorem c_mixC {x : SS} {n t c : Nat} (a : Int64) (h : PI (ss_drv x) n t) (hc : c < 2) : M_X6_mixController x a (nI c) = some (mx (aM (ss_drv x) (aG (ss_drv x) a c 9) c n) (nxv (ss_drv x) n c)) := by
  have hn := h.le
  unfold M_X6_mixController
  refine lp_run (fun w => (aG (ss_drv x) a c w, nI w)) 9 ?_ ?_ 64 (by omega)
  · intro w hw k
    unfold M_X6_mixController_6s
    rw [if_neg (show ¬ (9 : Int32) ≤ nI w from nI_ge (a := w) (b := 9) hw (by omega)), ctl_val h hc (show w ≤ 8 by omega), ob_some, mix_mx, nI_1]
    rfl
  · intro k
    unfold M_X6_mixController_6s
    rw [if_pos (show (9 : Int32) ≤ nI 9 by decide)]
    refine lp_run (fun o => (aM (ss_drv x) (aG (ss_drv x) a c 9) c o, nI o)) n ?_ ?_ 64 (by omega)
    · intro o ho kk
      unfold M_X6_mixController_40s M_X6_mixController_78
      rw [h.ord, if_neg (nI_ge ho (by omega)), c_holds' (ss_drv x) c (by omega), zI_if, mix_mx, nI_1]
      have : aM (ss_drv x) (aG (ss_drv x) a c 9) c (o + 1) = if ml (ss_drv x) c o = true then mx (aM (ss_drv x) (aG (ss_drv x) a c 9) c o) (nI o) else aM (ss_drv x) (aG (ss_drv x) a c 9) c o := rfl
      rw [this]
      cases ml (ss_drv x) c o
      · rw [if_neg (by decide), if_neg (by decide)]
      · rw [if_pos rfl, if_pos rfl]
    · intro kk
      unfold M_X6_mixController_40s
      rw [h.ord, if_pos (Int32.le_refl _), c_nextOf h.ord hn h.o hc, ob_some, mix_mx]
      rfl
theorem c_digest {x : SS} {n t : Nat} (h : PI (ss_drv x) n t) : ∃ A B, M_X6_digest x = some (dgs x n, ss_dep_s (ss_fin_s x A) B) := by
  have hn := h.le
  obtain ⟨A, hA⟩ : ∃ A, A = fv (ss_drv x) (f16 (ss_drv x) (ss_fin x) 16) n := ⟨_, rfl⟩
  obtain ⟨B, hB⟩ : ∃ B, B = cdp (ss_drv (ss_fin_s x A)) (ss_dep (ss_fin_s x A)) n := ⟨_, rfl⟩
  refine ⟨A, B, ?_⟩
  unfold M_X6_digest dgs
  rw [mix_mx]
  refine lp_run (fun i => (aW x (mx 43490 (hs_size (ss_his x))) i, nI i, x)) 12 ?_ ?_ 64 (by omega)
  · intro i hi k
    unfold M_X6_digest_17s
    rw [if_neg (show ¬ (12 : Int32) ≤ nI i from nI_ge (a := i) (b := 12) hi (by omega)), whole_val h (show i ≤ 11 by omega), ob_some, mix_mx, nI_1]
    rfl
  · intro k
    obtain ⟨a0, ha0⟩ : ∃ a0, a0 = aW x (mx 43490 (hs_size (ss_his x))) 12 := ⟨_, rfl⟩
    unfold M_X6_digest_17s
    rw [if_pos (show (12 : Int32) ≤ nI 12 by decide)]
    have e1 := c_mixB (x := x) (aW x (mx 43490 (hs_size (ss_his x))) 12) h.ord hn
    rw [e1, ob_some, ← hA, ← ha0]
    have e2 := c_mixO (x := ss_fin_s x A) (aB (ss_drv x) A a0 16) h.ord hn h.inv
    rw [e2, ob_some, ← hB]
    refine lp_run (fun c => (aC (ss_drv x) n (aO (ss_drv x) (aB (ss_drv x) A a0 16) n) c, nI c, ss_dep_s (ss_fin_s x A) B)) 2 ?_ ?_ 64 (by omega)
    · intro c hc kk
      have e3 := c_mixC (x := ss_dep_s (ss_fin_s x A) B) (c := c) (aC (ss_drv x) n (aO (ss_drv x) (aB (ss_drv x) A a0 16) n) c) (t := t) h hc
      unfold M_X6_digest_54s
      rw [if_neg (show ¬ (2 : Int32) ≤ nI c from nI_ge (a := c) (b := 2) hc (by omega)), e3, ob_some, nI_1]
      rfl
    · intro kk
      unfold M_X6_digest_54s
      rw [if_pos (show (2 : Int32) ≤ nI 2 by decide)]
theorem aB_cong {d : DS} {V U : Nat → Int32} (h : ag16 V U) (a : Int64) : ∀ b, b ≤ 16 → aB d V a b = aB d U a b := by
  intro b
  induction b with
  | zero => intro _; rfl
  | succ b ih =>
    intro hb
    unfold aB
    rw [ih (by omega), h b (by omega)]
theorem aW_cong {x y : SS} (h : core y x) (a : Int64) : ∀ k, aW y a k = aW x a k := by
  intro k
  induction k with
  | zero => rfl
  | succ k ih =>
    unfold aW
    rw [ih]
    unfold wfv M_X6_wholeFact
    rw [h.1, h.2.2]
    rfl
theorem dgs_cong {x y : SS} (h : core y x) (n : Nat) : dgs y n = dgs x n := by
  unfold dgs
  rw [h.1, h.2.1, aW_cong h, aB_cong (ag16_fv (ag16_f16 _ (ss_fin y) (ss_fin x)) n) _ 16 (Nat.le_refl 16)]
theorem k_digest {x : SS} (h : IV x) : ∃ D, ∀ y, core y x → ∃ y', M_X6_digest y = some (D, y') ∧ core y' x := by
  obtain ⟨⟨n, t, a, b⟩, -⟩ := h
  refine ⟨dgs x n, fun y hc => ?_⟩
  have a2 : PI (ss_drv y) n t := by rw [hc.1]; exact a
  obtain ⟨A, B, e⟩ := c_digest a2
  rw [dgs_cong hc] at e
  exact ⟨_, e, hc⟩
