/-! PART 82: the digest -/
theorem lp_inv {α β : Type} {F : (α → Option β) → α → Option β} (I : Nat → α → Prop) (m : Nat) {Q : Option β → Prop} (hstep : ∀ i, i < m → ∀ a, I i a → ∀ k, ∃ a', I (i + 1) a' ∧ F k a = k a') (hend : ∀ a, I m a → ∀ k, Q (F k a)) : ∀ N, m < N → ∀ a, I 0 a → Q (lpF F N a) := by
  have key : ∀ j i, i + j = m → ∀ N, j < N → ∀ a, I i a → Q (lpF F N a) := by
    intro j
    induction j with
    | zero =>
      intro i hi N hN a ha
      obtain ⟨n, rfl⟩ : ∃ n, N = n + 1 := ⟨N - 1, by omega⟩
      have e : i = m := by omega
      rw [lpF_s]
      exact hend a (e ▸ ha) _
    | succ j ih =>
      intro i hi N hN a ha
      obtain ⟨n, rfl⟩ : ∃ n, N = n + 1 := ⟨N - 1, by omega⟩
      obtain ⟨a', h1, h2⟩ := hstep i (by omega) a ha (lpF F n)
      rw [lpF_s, h2]
      exact ih (i + 1) (by omega) n (by omega) a' h1
  intro N hN
  exact key m 0 (by omega) N hN
def mx (a : Int64) (v : Int32) : Int64 := ((31 : Int64) * a) + v.toInt64
theorem mix_mx (a : Int64) (v : Int32) : M_X6_mix a (v.toInt64) = mx a v := rfl
theorem agq_val {P : Int32 → Int32 → Prop} {x : SS} {v : Int32} {r : Option (Int32 × MS)} (h : AgQ P x (some (.inr v)) r) : ∃ y', r = some (v, y') ∧ SRel x y' := by
  rcases h with ⟨f, q, w, y', h1, -⟩ | ⟨w, y', h1, h2, h3, h4⟩
  · cases h1
  · cases h1
    exact ⟨y', h2, h4⟩
/-! the values that are mixed -/
def wfv (x : SS) (k : Nat) : Int32 := (M_X6_wholeFact x (nI k)).getD 0
def awv (d : DS) (o : Nat) : Int32 := if opn d o = true then optI (fw d o) else -1
def cfv (d : DS) (c w : Nat) : Int32 := (M_X3_controllerFact d (nI c) (nI w)).getD 0
def nxv (d : DS) (n c : Nat) : Int32 := if M_X3_isTorn d = true then ds_mo d else optI (fst' (tk d c) n)
def aW (x : SS) (a : Int64) : Nat → Int64
  | 0 => a
  | i + 1 => mx (aW x a i) (wfv x i)
def aB (d : DS) (V : Nat → Int32) (a : Int64) : Nat → Int64
  | 0 => a
  | i + 1 => mx (mx (aB d V a i) (ds_val d i)) (V i)
def aF (d : DS) (a : Int64) (o : Nat) : Nat → Int64
  | 0 => a
  | w + 1 => mx (aF d a o w) (fc d o w)
def aO (d : DS) (a : Int64) : Nat → Int64
  | 0 => a
  | o + 1 => mx (mx (aF d (aO d a o) o 10) (awv d o)) (cdv d o)
def aG (d : DS) (a : Int64) (c : Nat) : Nat → Int64
  | 0 => a
  | w + 1 => mx (aG d a c w) (cfv d c w)
def aM (d : DS) (a : Int64) (c : Nat) : Nat → Int64
  | 0 => a
  | o + 1 => if ml d c o = true then mx (aM d a c o) (nI o) else aM d a c o
def aC (d : DS) (n : Nat) (a : Int64) : Nat → Int64
  | 0 => a
  | c + 1 => mx (aM d (aG d (aC d n a c) c 9) c n) (nxv d n c)
theorem whole_val {x : SS} {y : MS} (h : SRel x y) {k : Nat} (hk : k ≤ 11) : M_X6_wholeFact x (nI k) = some (wfv x k) ∧ ∃ y', M_X7_whole y (nI k) = some (wfv x k, y') ∧ SRel x y' := by
  have hq := q_whole h (nI k)
  have e : M_X6_whole x (nI k) = (M_X6_wholeFact x (nI k)).bind fun r2 => some (.inr r2) := by
    unfold M_X6_whole
    rw [fR, show M_X6_isWithin (nI k) 0 11 = true from win_f (N := 11) (by decide) hk, if_pos (rfl : true = true), if_neg (by rw [rfs_0]; decide)]
  rw [e] at hq
  unfold wfv
  cases hc : M_X6_wholeFact x (nI k) with
  | none =>
    rw [hc] at hq
    rcases hq with ⟨f, q, w, y', h1, -⟩ | ⟨w, y', h1, -⟩ <;> cases h1
  | some v =>
    rw [hc] at hq
    exact ⟨rfl, agq_val hq⟩
theorem ctl_val {x : SS} {y : MS} (h : SRel x y) {c w : Nat} (hc : c < 2) (hw : w ≤ 8) : M_X3_controllerFact (ss_drv x) (nI c) (nI w) = some (cfv (ss_drv x) c w) ∧ ∃ y', M_X7_controller y (nI c) (nI w) = some (cfv (ss_drv x) c w, y') ∧ SRel x y' := by
  obtain ⟨n, t, hd, -⟩ := h.1
  obtain ⟨v, e1, -⟩ := ctlFact_ok (y := y) hd hc hw
  have hq := q_controller h (nI c) (nI w)
  have e : M_X6_controller x (nI c) (nI w) = some (.inr v) := by
    unfold M_X6_controller
    simp only [fC, fR]
    rw [show M_X6_isWithin (nI c) 0 1 = true from win_f (N := 1) (by decide) (by omega), show M_X6_isWithin (nI w) 0 8 = true from win_f (N := 8) (by decide) hw]
    simp only [if_true, rfs_0, Bool.false_eq_true, if_false, e1, ob_some]
  rw [e] at hq
  have e2 : cfv (ss_drv x) c w = v := by unfold cfv; rw [e1]; rfl
  rw [e2]
  exact ⟨e1, agq_val hq⟩
theorem blk_val {x : SS} {y : MS} (h : SRel x y) {b : Nat} (hb : b < 16) : ∃ y', M_X7_block y (nI b) = some (ds_val (ss_drv x) b, y') ∧ SRel x y' := by
  have hq := q_block h (nI b)
  have e : M_X6_block x (nI b) = some (.inr (ds_val (ss_drv x) b)) := by
    unfold M_X6_block
    simp only [fB]
    rw [show M_X6_isWithin (nI b) 0 15 = true from win_f (N := 15) (by decide) (by omega)]
    simp only [if_true, rfs_0, Bool.false_eq_true, if_false, x6_at hb (show 16 < 2 ^ 31 by decide)]
  rw [e] at hq
  exact agq_val hq
theorem ov_nI {n o : Nat} (hn : n ≤ 40) (ho : o < n) : ov n (nI o) = true := by
  unfold ov
  simp only [Bool.not_eq_true', Bool.or_eq_false_iff, decide_eq_false_iff_not]
  exact ⟨nI_pos (by omega), nI_ge ho (by omega)⟩
theorem wait_val {x : SS} {y : MS} {n o : Nat} (h : SRel x y) (hd : DRel (ss_drv x) (ms_now y) n) (hI : DInv (ss_drv x) n) (ho : o < n) : ∃ y', M_X7_waitsFor y (nI o) = some (awv (ss_drv x) o, y') ∧ SRel x y' := by
  have hq := q_waitsFor h (nI o)
  have e : M_X6_waitsFor x (nI o) = some (.inr (awv (ss_drv x) o)) := by
    unfold M_X6_waitsFor
    simp only [fO hd.ord]
    rw [ov_nI hd.le ho]
    simp only [if_true, rfs_0, Bool.false_eq_true, if_false, c_firstAwaited hd.le ho hI.o, ob_some]
    rfl
  rw [e] at hq
  exact agq_val hq
theorem DRel.inj {d : DS} {f g : Nat → Int32} {n m : Nat} (h : DRel d f n) (k : DRel d g m) : n = m := by
  have h1 := h.ord
  rw [k.ord] at h1
  have a := h.le
  have b := k.le
  exact ((nI_eq (by omega) (by omega)).mp h1).symm
/-! the class -/
theorem c_mixB {x : SS} {n : Nat} (a : Int64) (ho : ds_ord (ss_drv x) = nI n) (hn : n ≤ 40) : M_X6_mixBlocks x a = some (aB (ss_drv x) (fv (ss_drv x) (f16 (ss_drv x) (ss_fin x) 16) n) a 16, ss_fin_s x (fv (ss_drv x) (f16 (ss_drv x) (ss_fin x) 16) n)) := by
  unfold M_X6_mixBlocks
  rw [c_finals ho hn, ob_some, tb_eq]
  obtain ⟨V, hV⟩ : ∃ V, V = fv (ss_drv x) (f16 (ss_drv x) (ss_fin x) 16) n := ⟨_, rfl⟩
  rw [← hV]
  refine lp_run (fun i => (aB (ss_drv x) V a i, nI i, ss_fin_s x V)) 16 ?_ ?_ 64 (by omega)
  · intro i hi k
    have a1 : M_X6_at 16 (ds_val (ss_drv (ss_fin_s x V))) (nI i) = ds_val (ss_drv x) i := x6_at hi (by decide)
    have a2 : M_X6_at 16 (ss_fin (ss_fin_s x V)) (nI i) = V i := x6_at hi (by decide)
    unfold M_X6_mixBlocks_16s
    rw [if_neg (show ¬ (16 : Int32) ≤ nI i from nI_ge (a := i) (b := 16) hi (by omega)), a1, a2, mix_mx, mix_mx, nI_1]
    rfl
  · intro k
    unfold M_X6_mixBlocks_16s
    rw [if_pos (show (16 : Int32) ≤ nI 16 by decide)]
theorem c_mixO {x : SS} {n : Nat} (a : Int64) (ho : ds_ord (ss_drv x) = nI n) (hn : n ≤ 40) (hI : DInv (ss_drv x) n) : M_X6_mixOrders x a = some (aO (ss_drv x) a n, ss_dep_s x (cdp (ss_drv x) (ss_dep x) n)) := by
  unfold M_X6_mixOrders
  rw [c_depths ho hn hI.o, ob_some, tb_eq]
  obtain ⟨V, hV⟩ : ∃ V, V = cdp (ss_drv x) (ss_dep x) n := ⟨_, rfl⟩
  rw [← hV]
  refine lp_run (fun o => (aO (ss_drv x) a o, nI o, ss_dep_s x V)) n ?_ ?_ 64 (by omega)
  · intro o hon k
    have g : ¬ ds_ord (ss_drv (aO (ss_drv x) a o, nI o, ss_dep_s x V).2.2) ≤ (aO (ss_drv x) a o, nI o, ss_dep_s x V).2.1 := by
      show ¬ ds_ord (ss_drv x) ≤ nI o
      rw [ho]; exact nI_ge hon (by omega)
    unfold M_X6_mixOrders_16s
    rw [if_neg g]
    refine lp_run (fun w => (aF (ss_drv x) (aO (ss_drv x) a o) o w, nI o, nI w, ss_dep_s x V)) 10 ?_ ?_ 64 (by omega)
    · intro w hw kk
      have a1 : M_X3_fact (ss_drv (ss_dep_s x V)) (nI o) (nI w) = fc (ss_drv x) o w := c_fact (ss_drv x) (by omega) (by omega)
      unfold M_X6_mixOrders_31s
      rw [if_neg (show ¬ (10 : Int32) ≤ nI w from nI_ge (a := w) (b := 10) hw (by omega)), a1, mix_mx, nI_1]
      rfl
    · intro kk
      have a1 : M_X3_firstAwaited (ss_drv (ss_dep_s x V)) (nI o) = some (awv (ss_drv x) o) := c_firstAwaited hn hon hI.o
      have a2 : M_X6_at 40 (ss_dep (ss_dep_s x V)) (nI o) = cdv (ss_drv x) o := by
        rw [x6_at (by omega) (by decide)]
        show V o = _
        rw [hV]
        unfold cdp
        rw [if_pos hon]
      unfold M_X6_mixOrders_31s
      rw [if_pos (show (10 : Int32) ≤ nI 10 by decide), a1, ob_some, a2, mix_mx, mix_mx, nI_1]
      rfl
  · intro k
    unfold M_X6_mixOrders_16s
    exact if_pos (show ds_ord (ss_drv x) ≤ nI n by rw [ho]; exact Int32.le_refl _)
theorem c_mixC {x : SS} {y : MS} {n c : Nat} (a : Int64) (h : SRel x y) (hd : DRel (ss_drv x) (ms_now y) n) (hI : DInv (ss_drv x) n) (hc : c < 2) : M_X6_mixController x a (nI c) = some (mx (aM (ss_drv x) (aG (ss_drv x) a c 9) c n) (nxv (ss_drv x) n c)) := by
  have hn := hd.le
  unfold M_X6_mixController
  refine lp_run (fun w => (aG (ss_drv x) a c w, nI w)) 9 ?_ ?_ 64 (by omega)
  · intro w hw k
    unfold M_X6_mixController_6s
    rw [if_neg (show ¬ (9 : Int32) ≤ nI w from nI_ge (a := w) (b := 9) hw (by omega)), (ctl_val h hc (show w ≤ 8 by omega)).1, ob_some, mix_mx, nI_1]
    rfl
  · intro k
    unfold M_X6_mixController_6s
    rw [if_pos (show (9 : Int32) ≤ nI 9 by decide)]
    refine lp_run (fun o => (aM (ss_drv x) (aG (ss_drv x) a c 9) c o, nI o)) n ?_ ?_ 64 (by omega)
    · intro o ho kk
      unfold M_X6_mixController_40s M_X6_mixController_78
      rw [hd.ord, if_neg (nI_ge ho (by omega)), c_holds' (ss_drv x) c (by omega), zI_if, mix_mx, nI_1]
      have : aM (ss_drv x) (aG (ss_drv x) a c 9) c (o + 1) = if ml (ss_drv x) c o = true then mx (aM (ss_drv x) (aG (ss_drv x) a c 9) c o) (nI o) else aM (ss_drv x) (aG (ss_drv x) a c 9) c o := rfl
      rw [this]
      cases ml (ss_drv x) c o
      · rw [if_neg (by decide), if_neg (by decide)]
      · rw [if_pos rfl, if_pos rfl]
    · intro kk
      unfold M_X6_mixController_40s
      rw [hd.ord, if_pos (Int32.le_refl _), c_nextOf hd.ord hn hI.o hc, ob_some, mix_mx]
      rfl
def dgs (x : SS) (n : Nat) : Int64 := aC (ss_drv x) n (aO (ss_drv x) (aB (ss_drv x) (fv (ss_drv x) (f16 (ss_drv x) (ss_fin x) 16) n) (aW x (mx 43490 (hs_size (ss_his x))) 12) 16) n) 2
theorem c_digest {x : SS} {y : MS} {n : Nat} (h : SRel x y) (hd : DRel (ss_drv x) (ms_now y) n) (hI : DInv (ss_drv x) n) : ∃ A B, M_X6_digest x = some (dgs x n, ss_dep_s (ss_fin_s x A) B) := by
  have hn := hd.le
  obtain ⟨A, hA⟩ : ∃ A, A = fv (ss_drv x) (f16 (ss_drv x) (ss_fin x) 16) n := ⟨_, rfl⟩
  obtain ⟨B, hB⟩ : ∃ B, B = cdp (ss_drv (ss_fin_s x A)) (ss_dep (ss_fin_s x A)) n := ⟨_, rfl⟩
  refine ⟨A, B, ?_⟩
  unfold M_X6_digest dgs
  rw [mix_mx]
  refine lp_run (fun i => (aW x (mx 43490 (hs_size (ss_his x))) i, nI i, x)) 12 ?_ ?_ 64 (by omega)
  · intro i hi k
    unfold M_X6_digest_17s
    rw [if_neg (show ¬ (12 : Int32) ≤ nI i from nI_ge (a := i) (b := 12) hi (by omega)), (whole_val h (show i ≤ 11 by omega)).1, ob_some, mix_mx, nI_1]
    rfl
  · intro k
    obtain ⟨a0, ha0⟩ : ∃ a0, a0 = aW x (mx 43490 (hs_size (ss_his x))) 12 := ⟨_, rfl⟩
    unfold M_X6_digest_17s
    rw [if_pos (show (12 : Int32) ≤ nI 12 by decide)]
    have e1 := c_mixB (x := x) (aW x (mx 43490 (hs_size (ss_his x))) 12) hd.ord hn
    rw [e1, ob_some, ← hA, ← ha0]
    have e2 := c_mixO (x := ss_fin_s x A) (aB (ss_drv x) A a0 16) hd.ord hn hI
    rw [e2, ob_some, ← hB]
    have hS : SRel (ss_dep_s (ss_fin_s x A) B) y := h
    refine lp_run (fun c => (aC (ss_drv x) n (aO (ss_drv x) (aB (ss_drv x) A a0 16) n) c, nI c, ss_dep_s (ss_fin_s x A) B)) 2 ?_ ?_ 64 (by omega)
    · intro c hc kk
      have e3 := c_mixC (x := ss_dep_s (ss_fin_s x A) B) (c := c) (aC (ss_drv x) n (aO (ss_drv x) (aB (ss_drv x) A a0 16) n) c) hS hd hI hc
      unfold M_X6_digest_54s
      rw [if_neg (show ¬ (2 : Int32) ≤ nI c from nI_ge (a := c) (b := 2) hc (by omega)), e3, ob_some, nI_1]
      rfl
    · intro kk
      unfold M_X6_digest_54s
      rw [if_pos (show (2 : Int32) ≤ nI 2 by decide)]
/-! the reference -/
def RQ (x : SS) (D : Int64) (r : Option (Int64 × MS)) : Prop := ∃ y', r = some (D, y') ∧ ms_refusal y' = 0 ∧ SRel x y'
theorem SRel.dr {x : SS} {y : MS} {n : Nat} {f : Nat → Int32} (h : SRel x y) (hd : DRel (ss_drv x) f n) : DRel (ss_drv x) (ms_now y) n ∧ DInv (ss_drv x) n := by
  obtain ⟨m, t, a, b, -⟩ := h.1
  have e := hd.inj a
  subst e
  exact ⟨a, b⟩
theorem r_mail {x : SS} {y0 y : MS} {n c : Nat} (h : SRel x y) (hd : DRel (ss_drv x) (ms_now y) n) (hI : DInv (ss_drv x) n) (hc : c < 2) (a : Int64) (k : Int64 × Int32 × MS → Option (Int64 × MS)) : lpF (M_X7_digest_193s y0 k) 64 (a, nI c, nI 0, y) = k (mx (aM (ss_drv x) a c n) (nxv (ss_drv x) n c), nI (c + 1), y) := by
  have hn := hd.le
  refine lp_run' (fun o => (aM (ss_drv x) a c o, nI c, nI (fb_ct (ml (ss_drv x) c) o), y)) n ?_ ?_ 64 (by omega)
  · intro o ho
    have e0 : aM (ss_drv x) a c (o + 1) = if ml (ss_drv x) c o = true then mx (aM (ss_drv x) a c o) (nI o) else aM (ss_drv x) a c o := rfl
    cases hm : ml (ss_drv x) c o
    · left
      rw [hm, if_neg (by decide)] at e0
      rw [e0, ct_f hm]
    · right
      intro kk
      have hin := ct_in (p := ml (ss_drv x) c) ho hm
      have hle := fb_ct_le (ml (ss_drv x) c) n
      rw [hm, if_pos rfl] at e0
      unfold M_X7_digest_193s
      rw [r_count hd hc, ob_some, if_neg (nI_ge hin (by omega)), r_item hd hc ho hm, ob_some, nI_1, e0, ct_t hm]
      rfl
  · intro kk
    unfold M_X7_digest_193s
    rw [r_count hd hc, ob_some, if_pos (Int32.le_refl _), r_next hd hI hc, ob_some, nI_1]
    rfl
theorem r_ctls {x : SS} {y0 : MS} {n : Nat} {f : Nat → Int32} (hd : DRel (ss_drv x) f n) (a : Int64) : ∀ y, SRel x y → RQ x (aC (ss_drv x) n a 2) (lpF (M_X7_digest_154s y0) 64 (a, nI 0, y)) := by
  intro y hy
  refine lp_inv (fun c z => z.1 = aC (ss_drv x) n a c ∧ z.2.1 = nI c ∧ SRel x z.2.2) 2 ?_ ?_ 64 (by omega) _ ⟨rfl, rfl, hy⟩
  · rintro c hc ⟨z1, z2, z3⟩ ⟨h1, h2, h3⟩ k
    have h1 : z1 = aC (ss_drv x) n a c := h1
    have h2 : z2 = nI c := h2
    have h3 : SRel x z3 := h3
    subst h1 h2
    have g : ∃ y', SRel x y' ∧ lpF (M_X7_digest_162s y0 k) 64 (aC (ss_drv x) n a c, nI c, nI 0, z3) = k (aC (ss_drv x) n a (c + 1), nI (c + 1), y') := by
      refine lp_inv (Q := fun r => ∃ y', SRel x y' ∧ r = k (aC (ss_drv x) n a (c + 1), nI (c + 1), y')) (fun w z => z.1 = aG (ss_drv x) (aC (ss_drv x) n a c) c w ∧ z.2.1 = nI c ∧ z.2.2.1 = nI w ∧ SRel x z.2.2.2) 9 ?_ ?_ 64 (by omega) _ ⟨rfl, rfl, rfl, h3⟩
      · rintro w hw ⟨u1, u2, u3, u4⟩ ⟨g1, g2, g3, g4⟩ kk
        have g1 : u1 = aG (ss_drv x) (aC (ss_drv x) n a c) c w := g1
        have g2 : u2 = nI c := g2
        have g3 : u3 = nI w := g3
        have g4 : SRel x u4 := g4
        subst g1 g2 g3
        obtain ⟨y', e1, e2⟩ := (ctl_val g4 hc (show w ≤ 8 by omega)).2
        refine ⟨(aG (ss_drv x) (aC (ss_drv x) n a c) c (w + 1), nI c, nI (w + 1), y'), ⟨rfl, rfl, rfl, e2⟩, ?_⟩
        unfold M_X7_digest_162s
        rw [if_neg (show ¬ (8 : Int32) < nI w from nI_nlt (a := 8) (b := w) (by omega) (by omega)), e1, ob_some, nI_1]
        rfl
      · rintro ⟨u1, u2, u3, u4⟩ ⟨g1, g2, g3, g4⟩ kk
        have g1 : u1 = aG (ss_drv x) (aC (ss_drv x) n a c) c 9 := g1
        have g2 : u2 = nI c := g2
        have g3 : u3 = nI 9 := g3
        have g4 : SRel x u4 := g4
        subst g1 g2 g3
        obtain ⟨d1, i1⟩ := g4.dr hd
        refine ⟨u4, g4, ?_⟩
        unfold M_X7_digest_162s
        rw [if_pos (show (8 : Int32) < nI 9 by decide)]
        exact r_mail (y0 := y0) g4 d1 i1 hc _ k
    obtain ⟨y', e1, e2⟩ := g
    refine ⟨(aC (ss_drv x) n a (c + 1), nI (c + 1), y'), ⟨rfl, rfl, e1⟩, ?_⟩
    unfold M_X7_digest_154s
    rw [if_neg (show ¬ (2 : Int32) ≤ nI c from nI_ge (a := c) (b := 2) hc (by omega))]
    exact e2
  · rintro ⟨z1, z2, z3⟩ ⟨h1, h2, h3⟩ k
    have h1 : z1 = aC (ss_drv x) n a 2 := h1
    have h2 : z2 = nI 2 := h2
    have h3 : SRel x z3 := h3
    subst h1 h2
    refine ⟨ms_refusal_s z3 0, ?_, rfl, h3⟩
    unfold M_X7_digest_154s
    rw [if_pos (show (2 : Int32) ≤ nI 2 by decide), tb_eq]
theorem r_ords {x : SS} {y0 : MS} {n : Nat} {f : Nat → Int32} (hd : DRel (ss_drv x) f n) (a : Int64) : ∀ y, SRel x y → RQ x (aC (ss_drv x) n (aO (ss_drv x) a n) 2) (lpF (M_X7_digest_79s y0) 64 (a, nI 0, y)) := by
  intro y hy
  have hn := hd.le
  refine lp_inv (fun o z => z.1 = aO (ss_drv x) a o ∧ z.2.1 = nI o ∧ SRel x z.2.2) n ?_ ?_ 64 (by omega) _ ⟨rfl, rfl, hy⟩
  · rintro o ho ⟨z1, z2, z3⟩ ⟨h1, h2, h3⟩ k
    have h1 : z1 = aO (ss_drv x) a o := h1
    have h2 : z2 = nI o := h2
    have h3 : SRel x z3 := h3
    subst h1 h2
    obtain ⟨d1, i1⟩ := h3.dr hd
    obtain ⟨y1, e1, s1⟩ := wait_val h3 d1 i1 ho
    obtain ⟨d2, i2⟩ := s1.dr hd
    obtain ⟨Bd, e2⟩ := r_depth d2 ho
    have s2 : SRel x (ms_depths_s (ms_refusal_s y1 0) Bd) := s1
    refine ⟨(aO (ss_drv x) a (o + 1), nI (o + 1), ms_depths_s (ms_refusal_s y1 0) Bd), ⟨rfl, rfl, s2⟩, ?_⟩
    unfold M_X7_digest_79s
    rw [d1.now1, ob_some, if_neg (nI_ge ho (by omega))]
    refine lp_run (fun w => (aF (ss_drv x) (aO (ss_drv x) a o) o w, nI o, nI w, z3)) 10 ?_ ?_ 64 (by omega)
    · intro w hw kk
      unfold M_X7_digest_92s
      rw [if_neg (show ¬ (9 : Int32) < nI w from nI_nlt (a := 9) (b := w) (by omega) (by omega)), r_of' d1 (by omega) (by omega), ob_some, nI_1]
      rfl
    · intro kk
      unfold M_X7_digest_92s
      rw [if_pos (show (9 : Int32) < nI 10 by decide), e1, ob_some, e2, ob_some, nI_1]
      rfl
  · rintro ⟨z1, z2, z3⟩ ⟨h1, h2, h3⟩ k
    have h1 : z1 = aO (ss_drv x) a n := h1
    have h2 : z2 = nI n := h2
    have h3 : SRel x z3 := h3
    subst h1 h2
    obtain ⟨d1, i1⟩ := h3.dr hd
    unfold M_X7_digest_79s
    rw [d1.now1, ob_some, if_pos (Int32.le_refl _)]
    exact r_ctls (y0 := y0) hd _ z3 h3
theorem r_blks {x : SS} {y0 : MS} {n : Nat} {f : Nat → Int32} (hd : DRel (ss_drv x) f n) (a : Int64) : ∀ y, SRel x y → RQ x (aC (ss_drv x) n (aO (ss_drv x) (aB (ss_drv x) (fv (ss_drv x) (f16 (ss_drv x) (ss_fin x) 16) n) a 16) n) 2) (lpF (M_X7_digest_39s y0) 64 (a, nI 0, y)) := by
  intro y hy
  have hn := hd.le
  refine lp_inv (fun b z => z.1 = aB (ss_drv x) (fv (ss_drv x) (f16 (ss_drv x) (ss_fin x) 16) n) a b ∧ z.2.1 = nI b ∧ SRel x z.2.2) 16 ?_ ?_ 64 (by omega) _ ⟨rfl, rfl, hy⟩
  · rintro b hb ⟨z1, z2, z3⟩ ⟨h1, h2, h3⟩ k
    have h1 : z1 = aB (ss_drv x) (fv (ss_drv x) (f16 (ss_drv x) (ss_fin x) 16) n) a b := h1
    have h2 : z2 = nI b := h2
    have h3 : SRel x z3 := h3
    subst h1 h2
    obtain ⟨y1, e1, s1⟩ := blk_val h3 hb
    obtain ⟨d2, i2⟩ := s1.dr hd
    obtain ⟨Bd, e2⟩ := r_final (ss_fin x) d2 i2.o hb
    have s2 : SRel x (ms_values_s (ms_refusal_s y1 0) Bd) := s1
    refine ⟨(aB (ss_drv x) (fv (ss_drv x) (f16 (ss_drv x) (ss_fin x) 16) n) a (b + 1), nI (b + 1), ms_values_s (ms_refusal_s y1 0) Bd), ⟨rfl, rfl, s2⟩, ?_⟩
    unfold M_X7_digest_39s
    rw [if_neg (show ¬ (16 : Int32) ≤ nI b from nI_ge (a := b) (b := 16) hb (by omega)), e1, ob_some, e2, ob_some, nI_1]
    rfl
  · rintro ⟨z1, z2, z3⟩ ⟨h1, h2, h3⟩ k
    have h1 : z1 = aB (ss_drv x) (fv (ss_drv x) (f16 (ss_drv x) (ss_fin x) 16) n) a 16 := h1
    have h2 : z2 = nI 16 := h2
    have h3 : SRel x z3 := h3
    subst h1 h2
    unfold M_X7_digest_39s
    rw [if_pos (show (16 : Int32) ≤ nI 16 by decide)]
    exact r_ords (y0 := y0) hd _ z3 h3
theorem r_digest {x : SS} {y : MS} {n : Nat} (h : SRel x y) (hd : DRel (ss_drv x) (ms_now y) n) : RQ x (dgs x n) (M_X7_digest y) := by
  obtain ⟨S, hS, w, hw, hS4, e1, -⟩ := h.2.1
  have hi : (1348190 : Int64) + (ms_saved y).toInt64 = mx 43490 (hs_size (ss_his x)) := by
    rw [hS, e1]
    unfold mx
    rw [show (31 : Int64) * 43490 = 1348190 by decide]
  unfold M_X7_digest dgs
  rw [hi]
  refine lp_inv (fun i z => z.1 = aW x (mx 43490 (hs_size (ss_his x))) i ∧ z.2.1 = nI i ∧ SRel x z.2.2) 12 ?_ ?_ 64 (by omega) _ ⟨rfl, rfl, h⟩
  · rintro i hi ⟨z1, z2, z3⟩ ⟨h1, h2, h3⟩ k
    have h1 : z1 = aW x (mx 43490 (hs_size (ss_his x))) i := h1
    have h2 : z2 = nI i := h2
    have h3 : SRel x z3 := h3
    subst h1 h2
    obtain ⟨y1, e1, s1⟩ := (whole_val h3 (show i ≤ 11 by omega)).2
    refine ⟨(aW x (mx 43490 (hs_size (ss_his x))) (i + 1), nI (i + 1), y1), ⟨rfl, rfl, s1⟩, ?_⟩
    unfold M_X7_digest_12s
    rw [if_neg (show ¬ (11 : Int32) < nI i from nI_nlt (a := 11) (b := i) (by omega) (by omega)), e1, ob_some, nI_1]
    rfl
  · rintro ⟨z1, z2, z3⟩ ⟨h1, h2, h3⟩ k
    have h1 : z1 = aW x (mx 43490 (hs_size (ss_his x))) 12 := h1
    have h2 : z2 = nI 12 := h2
    have h3 : SRel x z3 := h3
    subst h1 h2
    unfold M_X7_digest_12s
    rw [if_pos (show (11 : Int32) < nI 12 by decide)]
    exact r_blks (y0 := y) hd _ z3 h3
theorem q_digest {x : SS} {y : MS} (h : SRel x y) : ∃ v x' y', M_X6_digest x = some (v, x') ∧ M_X7_digest y = some (v, y') ∧ ms_refusal y' = 0 ∧ SRel x' y' := by
  obtain ⟨n, t, hd, hI, -⟩ := h.1
  obtain ⟨A, B, e⟩ := c_digest h hd hI
  obtain ⟨y', e1, e2, e3⟩ := r_digest h hd
  exact ⟨_, _, y', e, e1, e2, e3⟩
