/-! PART 52: plain facts for the mirrors of the class (whole's parts 13p49 to 13p72 and 82, what speaks of the class alone) -/
theorem tb_eq {α β : Type} {x : α} {f : α → β} : tb x f = f x := rfl
theorem win1_t {a : Int32} {N : Nat} (hN : N < 2 ^ 31) (h : M_X6_isWithin a 1 (nI N) = true) : ∃ k, 1 ≤ k ∧ k ≤ N ∧ a = nI k := by
  unfold M_X6_isWithin M_X6_isWithin_14 M_X6_isWithin_15 at h
  by_cases q : a < 1
  · rw [if_pos q] at h; cases h
  · rw [if_neg q] at h
    have q0 : ¬ a < 0 := by
      intro z
      rw [Int32.lt_iff_toInt_lt] at z q
      rw [show (0 : Int32).toInt = 0 by decide] at z
      rw [show (1 : Int32).toInt = 1 by decide] at q
      omega
    obtain ⟨k, hk, rfl⟩ := nI_of q0
    have q1 : ¬ nI k < nI 1 := q
    rw [nI_ltI hk (by omega)] at q1
    by_cases q2 : nI N < nI k
    · rw [if_pos q2] at h; cases h
    · refine ⟨k, by omega, ?_, rfl⟩
      rw [nI_ltI hN hk] at q2
      omega
theorem ordI (k : Nat) : nI (k + 1) - (1 : Int32) = nI k := nI_pred k
theorem lastI_cases (p : Nat → Bool) : ∀ n, lastI p n = -1 ∨ ∃ o, o < n ∧ lastI p n = nI o ∧ p o = true := by
  intro n
  induction n with
  | zero => exact Or.inl rfl
  | succ n ih =>
    unfold lastI
    cases hp : p n
    · rw [if_neg (by simp)]
      rcases ih with q | ⟨o, ho, e⟩
      · exact Or.inl q
      · exact Or.inr ⟨o, by omega, e⟩
    · rw [if_pos rfl]
      exact Or.inr ⟨n, by omega, rfl, hp⟩
theorem nI_nm1 {o : Nat} (h : o < 2 ^ 31) : ¬ nI o = (-1 : Int32) := fun q => nI_pos h (by rw [q]; decide)
theorem kind_t {k a b : Int32} (h : M_X3_isOrderOfItsKind k a b = true) : (∃ j, j < 4 ∧ k = nI j) ∧ (∃ j, j < 16 ∧ a = nI j) ∧ (k = 2 → ∃ j, j < 16 ∧ b = nI j) := by
  have blk : ∀ p, M_X6_isWithin p 0 15 = true → ∃ j, j < 16 ∧ p = nI j := by
    intro p hp
    obtain ⟨j, hj, e⟩ := win_t (N := 15) (by decide) hp
    exact ⟨j, by omega, e⟩
  unfold M_X3_isOrderOfItsKind M_X3_isOrderOfItsKind_32 at h
  by_cases k0 : k = 0
  · rw [if_pos k0, zI_if] at h
    cases hb : M_X6_isWithin a 0 15
    · rw [hb] at h; cases h
    · exact ⟨⟨0, by decide, k0⟩, blk a hb, fun q => by rw [k0] at q; exact absurd q (by decide)⟩
  · rw [if_neg k0] at h
    by_cases k1 : k = 1
    · rw [if_pos k1, zI_if] at h
      cases hb : M_X6_isWithin a 0 15
      · rw [hb] at h; cases h
      · exact ⟨⟨1, by decide, k1⟩, blk a hb, fun q => by rw [k1] at q; exact absurd q (by decide)⟩
    · rw [if_neg k1] at h
      by_cases k2 : k = 2
      · rw [if_pos k2, zI_if, zI_if] at h
        cases hb : M_X6_isWithin a 0 15
        · rw [hb] at h; cases h
        · cases hb2 : M_X6_isWithin b 0 15
          · rw [hb, hb2] at h; cases h
          · exact ⟨⟨2, by decide, k2⟩, blk a hb, fun _ => blk b hb2⟩
      · rw [if_neg k2] at h
        by_cases k3 : k = 3
        · rw [if_pos k3] at h
          by_cases a0 : a = 0
          · exact ⟨⟨3, by decide, k3⟩, ⟨0, by decide, a0⟩, fun q => absurd q k2⟩
          · rw [if_neg a0] at h; cases h
        · rw [if_neg k3] at h; cases h
/-- the drive with the first facts of a new order -/
def tl10 (d : DS) (n : Nat) (p1 p2 p3 p4 p5 : Int32) : DS := dF (dF (dF (dF (dF (dF (dF (dF (dF (dF d n 0 p1) n 1 p2) n 2 p3) n 3 p4) n 4 p5) n 5 0) n 6 (-1)) n 7 (ds_tick d)) n 8 (-1)) n 9 0
def tl12 (d : DS) (n : Nat) (p1 p2 p3 p4 p5 : Int32) : DS := dF (dF (tl10 d n p1 p2 p3 p4 p5) n 10 (ds_tick d + cs_delay (dCtl d (nI 0)))) n 11 (ds_tick d + cs_delay (dCtl d (nI 1)))
def mor (e : DS) (n : Nat) : DS := ds_ord_s (dCtl_s (dCtl_s e (nI 0) (M_X2_receive (dCtl e (nI 0)) (nI n))) (nI 1) (M_X2_receive (dCtl e (nI 1)) (nI n))) (nI (n + 1))
theorem cz0 (d : DS) : dCtl d (nI 0) = ds_zero d := rfl
theorem cz1 (d : DS) : dCtl d (nI 1) = ds_one d := rfl
theorem cs0' (d : DS) (x : CS) : dCtl_s d (nI 0) x = ds_zero_s d x := rfl
theorem cs1' (d : DS) (x : CS) : dCtl_s d (nI 1) x = ds_one_s d x := rfl
theorem c_tell {d : DS} {n : Nat} (ho : ds_ord d = nI n) (hn : n < 40) (p1 p2 p3 p4 p5 : Int32) : M_X3_tell d p1 p2 p3 p4 p5 = some (nI n, mor (tl12 d n p1 p2 p3 p4 p5) n) := by
  have s0 : ∀ e v, M_X3_setFact e (nI n) (0 : Int32) v = dF e n 0 v := fun e v => c_setFact e (w := 0) hn (by decide) v
  have s1 : ∀ e v, M_X3_setFact e (nI n) (1 : Int32) v = dF e n 1 v := fun e v => c_setFact e (w := 1) hn (by decide) v
  have s2 : ∀ e v, M_X3_setFact e (nI n) (2 : Int32) v = dF e n 2 v := fun e v => c_setFact e (w := 2) hn (by decide) v
  have s3 : ∀ e v, M_X3_setFact e (nI n) (3 : Int32) v = dF e n 3 v := fun e v => c_setFact e (w := 3) hn (by decide) v
  have s4 : ∀ e v, M_X3_setFact e (nI n) (4 : Int32) v = dF e n 4 v := fun e v => c_setFact e (w := 4) hn (by decide) v
  have s5 : ∀ e v, M_X3_setFact e (nI n) (5 : Int32) v = dF e n 5 v := fun e v => c_setFact e (w := 5) hn (by decide) v
  have s6 : ∀ e v, M_X3_setFact e (nI n) (6 : Int32) v = dF e n 6 v := fun e v => c_setFact e (w := 6) hn (by decide) v
  have s7 : ∀ e v, M_X3_setFact e (nI n) (7 : Int32) v = dF e n 7 v := fun e v => c_setFact e (w := 7) hn (by decide) v
  have s8 : ∀ e v, M_X3_setFact e (nI n) (8 : Int32) v = dF e n 8 v := fun e v => c_setFact e (w := 8) hn (by decide) v
  have s9 : ∀ e v, M_X3_setFact e (nI n) (9 : Int32) v = dF e n 9 v := fun e v => c_setFact e (w := 9) hn (by decide) v
  have t0 : ∀ e v, M_X3_setFact e (nI n) ((10 : Int32) + nI 0) v = dF e n 10 v := fun e v => c_setFact e (w := 10) hn (by decide) v
  have t1 : ∀ e v, M_X3_setFact e (nI n) ((10 : Int32) + nI 1) v = dF e n 11 v := fun e v => c_setFact e (w := 11) hn (by decide) v
  unfold M_X3_tell
  simp only [tb, ho, s0, s1, s2, s3, s4, s5, s6, s7, s8, s9]
  have st : ∀ (e : DS) (k : Int32 × Int32 × DS → Option (Int32 × DS)), M_X3_tell_98s d p1 p2 p3 p4 p5 k (nI n, nI 0, e) = k (nI n, nI 1, ds_zero_s (dF e n 10 (ds_tick e + cs_delay (ds_zero e))) (M_X2_receive (ds_zero e) (nI n))) := by
    intro e k
    unfold M_X3_tell_98s
    rw [if_neg (show ¬ (2 : Int32) ≤ nI 0 by decide)]
    simp only [tb, t0, cz0, cs0']
    rfl
  have su : ∀ (e : DS) (k : Int32 × Int32 × DS → Option (Int32 × DS)), M_X3_tell_98s d p1 p2 p3 p4 p5 k (nI n, nI 1, e) = k (nI n, nI 2, ds_one_s (dF e n 11 (ds_tick e + cs_delay (ds_one e))) (M_X2_receive (ds_one e) (nI n))) := by
    intro e k
    unfold M_X3_tell_98s
    rw [if_neg (show ¬ (2 : Int32) ≤ nI 1 by decide)]
    simp only [tb, t1, cz1, cs1']
    rfl
  have sv : ∀ (e : DS) (k : Int32 × Int32 × DS → Option (Int32 × DS)), ds_ord e = nI n → M_X3_tell_98s d p1 p2 p3 p4 p5 k (nI n, nI 2, e) = some (nI n, ds_ord_s e (nI (n + 1))) := by
    intro e k he
    unfold M_X3_tell_98s
    rw [if_pos (show (2 : Int32) ≤ nI 2 by decide)]
    simp only [tb, he]
    rw [show nI n + (1 : Int32) = nI (n + 1) from nI_1 n]
  have run : ∀ e, ds_ord e = nI n → lpF (M_X3_tell_98s d p1 p2 p3 p4 p5) 64 (nI n, nI 0, e) = some (nI n, mor (dF (dF e n 10 (ds_tick e + cs_delay (dCtl e (nI 0)))) n 11 (ds_tick e + cs_delay (dCtl e (nI 1)))) n) := by
    intro e he
    rw [lpF_s (n := 63), st, lpF_s (n := 62), su, lpF_s (n := 61)]
    refine Eq.trans (sv _ _ ?_) ?_
    · exact he
    · unfold mor
      simp only [cz0, cz1, cs0', cs1']
      rfl
  have e10 : ds_ord (tl10 d n p1 p2 p3 p4 p5) = nI n := ho
  have := run _ e10
  unfold tl12
  exact this
/-- the row with the facts of a new order -/
def tf10 (f : Nat → Int32) (n : Nat) (t p1 p2 p3 p4 p5 : Int32) : Nat → Int32 := upd (upd (upd (upd (upd (upd (upd (upd (upd (upd f (116 + 12 * n + 0) p1) (116 + 12 * n + 1) p2) (116 + 12 * n + 2) p3) (116 + 12 * n + 3) p4) (116 + 12 * n + 4) p5) (116 + 12 * n + 5) 0) (116 + 12 * n + 6) (-1)) (116 + 12 * n + 7) t) (116 + 12 * n + 8) (-1)) (116 + 12 * n + 9) 0
theorem tf10_out {f : Nat → Int32} {n i : Nat} {t p1 p2 p3 p4 p5 : Int32} (h : i < 116 + 12 * n ∨ 126 + 12 * n ≤ i) : tf10 f n t p1 p2 p3 p4 p5 i = f i := by
  unfold tf10
  repeat rw [pk_un (by omega)]
def tf12 (f : Nat → Int32) (n : Nat) (t d0 d1 p1 p2 p3 p4 p5 : Int32) : Nat → Int32 := upd (upd (tf10 f n t p1 p2 p3 p4 p5) (116 + 12 * n + 10) (t + d0)) (116 + 12 * n + 11) (t + d1)
/-- a step of its loop -/
def tst (g : Nat → Int32) (n c : Nat) (T C : Int32) (L : Nat) : Nat → Int32 := upd (upd (upd g (116 + 12 * n + (10 + c)) (T + C)) (36 + 40 * c + L) (nI n)) (20 + 8 * c + 3) (nI (L + 1))
theorem fac_tl12 (d : DS) (n : Nat) (p1 p2 p3 p4 p5 : Int32) : ds_fac (mor (tl12 d n p1 p2 p3 p4 p5) n) = upd (upd (upd (upd (upd (upd (upd (upd (upd (upd (upd (upd (ds_fac d) (12 * n + 0) p1) (12 * n + 1) p2) (12 * n + 2) p3) (12 * n + 3) p4) (12 * n + 4) p5) (12 * n + 5) 0) (12 * n + 6) (-1)) (12 * n + 7) (ds_tick d)) (12 * n + 8) (-1)) (12 * n + 9) 0) (12 * n + 10) (ds_tick d + cs_delay (dCtl d (nI 0)))) (12 * n + 11) (ds_tick d + cs_delay (dCtl d (nI 1))) := rfl
theorem mor_inv {d : DS} {n : Nat} {p1 p2 p3 p4 p5 : Int32} (hI : DInv d n) (hk : M_X3_isOrderOfItsKind p3 p4 p5 = true) : DInv (mor (tl12 d n p1 p2 p3 p4 p5) n) (n + 1) := by
  obtain ⟨k1, k2, k3⟩ := kind_t hk
  obtain ⟨i1, i2, i3⟩ := hI
  have hf : ∀ o w, fc (mor (tl12 d n p1 p2 p3 p4 p5) n) o w = upd (upd (upd (upd (upd (upd (upd (upd (upd (upd (upd (upd (ds_fac d) (12 * n + 0) p1) (12 * n + 1) p2) (12 * n + 2) p3) (12 * n + 3) p4) (12 * n + 4) p5) (12 * n + 5) 0) (12 * n + 6) (-1)) (12 * n + 7) (ds_tick d)) (12 * n + 8) (-1)) (12 * n + 9) 0) (12 * n + 10) (ds_tick d + cs_delay (dCtl d (nI 0)))) (12 * n + 11) (ds_tick d + cs_delay (dCtl d (nI 1))) (12 * o + w) := fun o w => rfl
  have ho : ∀ o w, o ≠ n → w < 12 → fc (mor (tl12 d n p1 p2 p3 p4 p5) n) o w = fc d o w := by
    intro o w h1 h2
    rw [hf]
    repeat rw [pk_un (by omega)]
    rfl
  refine ⟨fun o ho2 => ?_, ?_, i3⟩
  · by_cases q : o = n
    · subst q
      have e2 : fc (mor (tl12 d o p1 p2 p3 p4 p5) o) o 2 = p3 := by
        rw [hf]
        repeat rw [pk_un (by omega)]
        exact pk_us
      have e3 : fc (mor (tl12 d o p1 p2 p3 p4 p5) o) o 3 = p4 := by
        rw [hf]
        repeat rw [pk_un (by omega)]
        exact pk_us
      have e4 : fc (mor (tl12 d o p1 p2 p3 p4 p5) o) o 4 = p5 := by
        rw [hf]
        repeat rw [pk_un (by omega)]
        exact pk_us
      have e5 : fc (mor (tl12 d o p1 p2 p3 p4 p5) o) o 5 = 0 := by
        rw [hf]
        repeat rw [pk_un (by omega)]
        exact pk_us
      rw [e2, e3, e4, e5]
      exact ⟨k1, k2, k3, ⟨0, by decide, rfl⟩⟩
    · rw [ho o 2 q (by decide), ho o 3 q (by decide), ho o 4 q (by decide), ho o 5 q (by decide)]
      exact i1 o (by omega)
  · rcases i2 with q | ⟨o, h1, h2⟩
    · exact Or.inl q
    · exact Or.inr ⟨o, by omega, h2⟩
theorem ef_order {d : DS} {n : Nat} (ho : ds_ord d = nI n) (hn : n ≤ 40) (p1 p2 p3 p4 p5 : Int32) : M_X3_faultOfTelling d p1 p2 p3 p4 p5 = if (M_X6_isWithin p1 0 3 && M_X6_isWithin p2 0 31) = true then (if M_X3_isOrderOfItsKind p3 p4 p5 = true then (if n = 40 then some 3 else if lastI (tagp d p1 p2) n = -1 then some 0 else if M_X3_isOpen d (lastI (tagp d p1 p2) n) = true then some 3 else some 0) else some 2) else some 2 := by
  have hcl := c_latest ho hn p1 p2
  have h40 : (40 : Int32) ≤ nI n ↔ n = 40 := by
    rw [show (40 : Int32) = nI 40 from rfl, nI_leI (by omega) (by omega)]
    omega
  have e1 : (if (40 : Int32) ≤ nI n then some (3 : Int32) else if lastI (tagp d p1 p2) n = -1 then some 0 else if M_X3_isOpen d (lastI (tagp d p1 p2) n) = true then some 3 else some 0) = (if n = 40 then some (3 : Int32) else if lastI (tagp d p1 p2) n = -1 then some 0 else if M_X3_isOpen d (lastI (tagp d p1 p2) n) = true then some 3 else some 0) := by
    by_cases q : n = 40
    · rw [if_pos (h40.mpr q), if_pos q]
    · rw [if_neg (fun z => q (h40.mp z)), if_neg q]
  unfold M_X3_faultOfTelling M_X3_faultOfTelling_19 M_X3_faultOfTelling_53 M_X3_faultOfTelling_57 M_X3_faultOfTelling_58
  rw [fT, zI_if, hcl, ob_some, zI_if, ho, e1]
  cases (M_X6_isWithin p1 0 3 && M_X6_isWithin p2 0 31)
  · rw [if_neg (by decide : ¬ (false = true)), if_neg (by decide : ¬ (2 : Int32) = 0), if_neg (by decide : ¬ (false = true))]
  · rw [if_pos (rfl : true = true), if_pos (rfl : (0 : Int32) = 0), if_pos (rfl : true = true)]
def dpi (d : DS) (g : Nat → Nat) (o : Nat) : Nat → Nat
  | 0 => 0
  | e + 1 => if (opn d e && mts d o e) = true then (if g e < dpi d g o e then dpi d g o e else g e + 1) else dpi d g o e
def dpt (d : DS) : Nat → Nat → Nat
  | 0, _ => 0
  | m + 1, j => if j = m then dpi d (dpt d m) m m else dpt d m j
/-- an order's depth, were it open -/
def dv (d : DS) (o : Nat) : Nat := dpt d (o + 1) o
theorem dpt_dv (d : DS) : ∀ m j, j < m → dpt d m j = dv d j := by
  intro m
  induction m with
  | zero => intro j hj; omega
  | succ m ih =>
    intro j hj
    by_cases q : j = m
    · subst q; rfl
    · show (if j = m then dpi d (dpt d m) m m else dpt d m j) = dv d j
      rw [if_neg q]; exact ih j (by omega)
theorem dpi_congr {d : DS} {g g' : Nat → Nat} {o : Nat} : ∀ e, (∀ j, j < e → g j = g' j) → dpi d g o e = dpi d g' o e := by
  intro e
  induction e with
  | zero => intro _; rfl
  | succ e ih =>
    intro h
    unfold dpi
    rw [ih (fun j hj => h j (by omega)), h e (by omega)]
theorem dv_eq (d : DS) (o : Nat) : dv d o = dpi d (dv d) o o := by
  have : dv d o = dpi d (dpt d o) o o := by
    unfold dv
    show (if o = o then dpi d (dpt d o) o o else dpt d o o) = _
    rw [if_pos rfl]
  rw [this]
  exact dpi_congr o (fun j hj => dpt_dv d o j hj)
theorem dpi_le {d : DS} {g : Nat → Nat} {o : Nat} : ∀ e, (∀ j, j < e → g j ≤ j) → dpi d g o e ≤ e := by
  intro e
  induction e with
  | zero => intro _; exact Nat.le_refl 0
  | succ e ih =>
    intro h
    have h1 := ih (fun j hj => h j (by omega))
    have h2 := h e (by omega)
    unfold dpi
    split
    · split <;> omega
    · omega
theorem dv_le (d : DS) : ∀ m o, o < m → dv d o ≤ o := by
  intro m
  induction m with
  | zero => intro o ho; omega
  | succ m ih =>
    intro o ho
    rw [dv_eq]
    exact dpi_le o (fun j hj => ih j (by omega))
theorem dv_le' (d : DS) (o : Nat) : dv d o ≤ o := dv_le d (o + 1) o (by omega)
theorem dpi_le' (d : DS) (o e : Nat) : dpi d (dv d) o e ≤ e := dpi_le e (fun j _ => dv_le' d j)
theorem upd_upd {f : Nat → Int32} {k : Nat} {a b : Int32} : upd (upd f k a) k b = upd f k b := by
  funext j; unfold upd; split <;> rfl
/-- what the class's array holds -/
def cdv (d : DS) (j : Nat) : Int32 := if opn d j = true then nI (dv d j) else -1
def cdp (d : DS) (A : Nat → Int32) (m : Nat) : Nat → Int32 := fun j => if j < m then cdv d j else A j
def rdp (d : DS) (B : Nat → Int32) (m : Nat) : Nat → Int32 := fun j => if j < m then nI (dv d j) else B j
theorem cdp_s {d : DS} {A : Nat → Int32} {m : Nat} : upd (cdp d A m) m (cdv d m) = cdp d A (m + 1) := by
  funext j
  unfold upd cdp
  by_cases q : j = m
  · rw [if_pos q, if_pos (by omega), q]
  · rw [if_neg q]
    by_cases q2 : j < m
    · rw [if_pos q2, if_pos (by omega)]
    · rw [if_neg q2, if_neg (by omega)]
theorem rdp_s {d : DS} {B : Nat → Int32} {m : Nat} : upd (rdp d B m) m (nI (dv d m)) = rdp d B (m + 1) := by
  funext j
  unfold upd rdp
  by_cases q : j = m
  · rw [if_pos q, if_pos (by omega), q]
  · rw [if_neg q]
    by_cases q2 : j < m
    · rw [if_pos q2, if_pos (by omega)]
    · rw [if_neg q2, if_neg (by omega)]
theorem c_dep67 {d : DS} {A : Nat → Int32} {m : Nat} {v : Int32} (hm : m < 40) (hv : v = cdv d m) (k : Int32 × (Nat → Int32) → Option (Nat → Int32)) (X : Nat → Int32) : M_X3_reckonDepths_67 d X k (nI m) v (cdp d A m) = k (nI (m + 1), cdp d A (m + 1)) := by
  unfold M_X3_reckonDepths_67
  simp only [tb]
  rw [x6_put hm (by decide), hv, cdp_s, nI_1]
theorem c_depths {d : DS} {n : Nat} (hn : ds_ord d = nI n) (hn2 : n ≤ 40) (hI : ∀ o, o < n → OInv d o) (A : Nat → Int32) : M_X3_reckonDepths d A = some (cdp d A n) := by
  unfold M_X3_reckonDepths
  have h0 : (((0 : Int32), A) : Int32 × (Nat → Int32)) = (fun i => (nI i, cdp d A i)) 0 := by
    have : cdp d A 0 = A := by funext j; unfold cdp; rw [if_neg (by omega)]
    simp only [this]; rfl
  rw [h0]
  refine lp_run (fun i => (nI i, cdp d A i)) n ?_ ?_ 64 (by omega)
  · intro m hm k
    have hm40 : m < 40 := by omega
    unfold M_X3_reckonDepths_2s
    simp only [hn]
    rw [if_neg (nI_ge hm (by omega)), c_isOpen d hm40, zI_if]
    cases ho : opn d m
    · rw [if_neg (by decide)]
      unfold M_X3_reckonDepths_23
      rw [lpF_s (n := 63)]
      unfold M_X3_reckonDepths_27s
      have e67 := c_dep67 (d := d) (A := A) (v := -1) hm40 (by unfold cdv; rw [ho]; rfl) k A
      split
      · exact e67
      · rw [if_pos rfl]; exact e67
    · rw [if_pos rfl]
      unfold M_X3_reckonDepths_23
      have h1 : ((nI m, (0 : Int32), (0 : Int32), cdp d A m) : Int32 × Int32 × Int32 × (Nat → Int32)) = (fun e => (nI m, nI (dpi d (dv d) m e), nI e, cdp d A m)) 0 := rfl
      rw [h1]
      refine lp_run (fun e => (nI m, nI (dpi d (dv d) m e), nI e, cdp d A m)) m ?_ ?_ 64 (by omega)
      · intro e he kk
        have l1 := dpi_le' d m e
        have l2 := dv_le' d e
        unfold M_X3_reckonDepths_27s
        rw [if_neg (nI_ge he (by omega)), if_neg (nI_nm1 (by omega)), c_isAwaited (by omega) (by omega) (hI m hm) (hI e (by omega)), zI_if]
        unfold M_X3_reckonDepths_61
        cases hb : (opn d e && mts d m e)
        · rw [if_neg (by decide), nI_1]
          have : dpi d (dv d) m (e + 1) = dpi d (dv d) m e := by
            show (if (opn d e && mts d m e) = true then _ else _) = _
            rw [hb]; rfl
          rw [this]
        · rw [if_pos rfl, nI_1]
          have hoe : opn d e = true := by
            cases q : opn d e
            · rw [q] at hb; cases hb
            · rfl
          have a1 : M_X6_at 40 (cdp d A m) (nI e) = nI (dv d e) := by
            rw [x6_at (by omega) (by decide)]
            unfold cdp cdv
            rw [if_pos he, if_pos hoe]
          have : dpi d (dv d) m (e + 1) = if dv d e < dpi d (dv d) m e then dpi d (dv d) m e else dv d e + 1 := by
            show (if (opn d e && mts d m e) = true then _ else _) = _
            rw [hb]; rfl
          simp only [a1]
          rw [show (1 : Int32) + nI (dv d e) = nI (1 + dv d e) from nI_add 1 _, this]
          by_cases q : dv d e < dpi d (dv d) m e
          · rw [if_pos q, if_neg (nI_nlt (by omega) (by omega))]
          · rw [if_neg q, if_pos (nI_lt (by omega) (by omega)), Nat.add_comm]
      · intro kk
        unfold M_X3_reckonDepths_27s
        rw [if_pos (Int32.le_refl _)]
        exact c_dep67 hm40 (by unfold cdv; rw [ho, if_pos rfl, ← dv_eq]) k A
  · intro k
    unfold M_X3_reckonDepths_2s
    simp only [hn]
    rw [if_pos (Int32.le_refl _)]
/-- the blocks' final values, begun with A -/
def fv (d : DS) (A : Nat → Int32) : Nat → Nat → Int32
  | 0 => A
  | m + 1 => if opn d m = true then M_X6_put 16 (fv d A m) (fc d m 3) (M_X3_resultOn d (fv d A m) (nI m)) else fv d A m
def f16 (d : DS) (A : Nat → Int32) (m : Nat) : Nat → Int32 := fun j => if j < m then ds_val d j else A j
theorem f16_s {d : DS} {A : Nat → Int32} {m : Nat} : upd (f16 d A m) m (ds_val d m) = f16 d A (m + 1) := by
  funext j
  unfold upd f16
  by_cases q : j = m
  · rw [if_pos q, if_pos (by omega), q]
  · rw [if_neg q]
    by_cases q2 : j < m
    · rw [if_pos q2, if_pos (by omega)]
    · rw [if_neg q2, if_neg (by omega)]
theorem f16_0 {d : DS} {A : Nat → Int32} : f16 d A 0 = A := by funext j; unfold f16; rw [if_neg (by omega)]
theorem c_finals {d : DS} {n : Nat} (hn : ds_ord d = nI n) (hn2 : n ≤ 40) (A : Nat → Int32) : M_X3_reckonFinals d A = some (fv d (f16 d A 16) n) := by
  unfold M_X3_reckonFinals
  have h0 : (((0 : Int32), A) : Int32 × (Nat → Int32)) = (fun i => (nI i, f16 d A i)) 0 := by
    simp only [f16_0]; rfl
  rw [h0]
  refine lp_run (fun i => (nI i, f16 d A i)) 16 ?_ ?_ 64 (by omega)
  · intro m hm k
    unfold M_X3_reckonFinals_2s
    rw [if_neg (show ¬ (16 : Int32) ≤ nI m from nI_ge (a := m) (b := 16) hm (by omega))]
    simp only [tb]
    rw [x6_at (show m < 16 from hm) (by decide), x6_put (show m < 16 from hm) (by decide), f16_s, nI_1]
  · intro k
    unfold M_X3_reckonFinals_2s
    rw [if_pos (show (16 : Int32) ≤ nI 16 by decide)]
    have h1 : (((0 : Int32), f16 d A 16) : Int32 × (Nat → Int32)) = (fun i => (nI i, fv d (f16 d A 16) i)) 0 := rfl
    rw [h1]
    refine lp_run (fun i => (nI i, fv d (f16 d A 16) i)) n ?_ ?_ 64 (by omega)
    · intro m hm kk
      have hm40 : m < 40 := by omega
      have e3 : M_X3_fact d (nI m) (3 : Int32) = fc d m 3 := c_fact d (w := 3) hm40 (by decide)
      unfold M_X3_reckonFinals_29s M_X3_reckonFinals_61
      simp only [hn]
      rw [if_neg (nI_ge hm (by omega)), c_isOpen d hm40, zI_if, e3]
      simp only [tb]
      rw [nI_1]
      have : fv d (f16 d A 16) (m + 1) = if opn d m = true then M_X6_put 16 (fv d (f16 d A 16) m) (fc d m 3) (M_X3_resultOn d (fv d (f16 d A 16) m) (nI m)) else fv d (f16 d A 16) m := rfl
      rw [this]
      cases opn d m <;> rfl
    · intro kk
      unfold M_X3_reckonFinals_29s
      simp only [hn]
      rw [if_pos (Int32.le_refl _)]
/-- rows that agree on the blocks -/
def ag16 (A B : Nat → Int32) : Prop := ∀ i, i < 16 → A i = B i
theorem ag16_at {A B : Nat → Int32} (h : ag16 A B) (p : Int32) : M_X6_at 16 A p = M_X6_at 16 B p := by
  rcases pk_ix p (n := 16) (by decide) with q | q | ⟨j, hj, rfl⟩
  · unfold M_X6_at
    rw [if_pos q, if_pos q]; rfl
  · unfold M_X6_at
    have q : Int32.ofNat 16 ≤ p := q
    rw [if_pos q, if_pos q]; rfl
  · rw [x6_at hj (by decide), x6_at hj (by decide)]; exact h j hj
theorem ag16_put {A B : Nat → Int32} (h : ag16 A B) (p v : Int32) : ag16 (M_X6_put 16 A p v) (M_X6_put 16 B p v) := by
  rcases pk_ix p (n := 16) (by decide) with q | q | ⟨j, hj, rfl⟩
  · unfold M_X6_put M_X6_put_14
    rw [if_pos q, if_pos q]; exact h
  · unfold M_X6_put M_X6_put_14
    have q : Int32.ofNat 16 ≤ p := q
    have q1 : p < 0 ∨ ¬ p < 0 := Decidable.em _
    rcases q1 with q1 | q1
    · rw [if_pos q1, if_pos q1]; exact h
    · rw [if_neg q1, if_neg q1, if_pos q, if_pos q]; exact h
  · rw [x6_put hj (by decide), x6_put hj (by decide)]
    intro i hi
    unfold upd
    split
    · rfl
    · exact h i hi
theorem ag16_res {A B : Nat → Int32} (h : ag16 A B) (d : DS) (o : Int32) : M_X3_resultOn d A o = M_X3_resultOn d B o := by
  unfold M_X3_resultOn M_X3_resultOn_73
  rw [ag16_at h, ag16_at h]
theorem ag16_fv {d : DS} {A B : Nat → Int32} (h : ag16 A B) : ∀ m, ag16 (fv d A m) (fv d B m) := by
  intro m
  induction m with
  | zero => exact h
  | succ m ih =>
    show ag16 (if opn d m = true then _ else _) (if opn d m = true then _ else _)
    cases opn d m
    · exact ih
    · rw [if_pos rfl, if_pos rfl, ag16_res ih]
      exact ag16_put ih _ _
theorem ag16_f16 (d : DS) (A B : Nat → Int32) : ag16 (f16 d A 16) (f16 d B 16) := by
  intro i hi
  unfold f16
  rw [if_pos hi, if_pos hi]
theorem lp_inv {α β : Type} {F : (α → Option β) → α → Option β} (I : Nat → α → Prop) (m : Nat) {Q : Option β → Prop} (hstep : ∀ i, i < m → ∀ a, I i a → ∀ k, ∃ a', I (i + 1) a' ∧ F k a = k a') (hend : ∀ a, I m a → ∀ k, Q (F k a)) : ∀ N, m < N → ∀ a, I 0 a → Q (lpF F N a) := by
  have key : ∀ j i, i + j = m → ∀ N, j < N → ∀ a, I i a → Q (lpF F N a) := by
    intro j
    induction j with
    | zero =>
      intro i hi N hN a ha
      obtain ⟨n, rfl⟩ : ∃ n, N = n + 1 := ⟨N - 1, by omega⟩
      have e : i = m := by omega
      rw [lpF_s]
      exact hend a (e ▸ ha) _
    | succ j ih =>
      intro i hi N hN a ha
      obtain ⟨n, rfl⟩ : ∃ n, N = n + 1 := ⟨N - 1, by omega⟩
      obtain ⟨a', h1, h2⟩ := hstep i (by omega) a ha (lpF F n)
      rw [lpF_s, h2]
      exact ih (i + 1) (by omega) n (by omega) a' h1
  intro N hN
  exact key m 0 (by omega) N hN
def mx (a : Int64) (v : Int32) : Int64 := ((31 : Int64) * a) + v.toInt64
theorem mix_mx (a : Int64) (v : Int32) : M_X6_mix a (v.toInt64) = mx a v := rfl
def wfv (x : SS) (k : Nat) : Int32 := (M_X6_wholeFact x (nI k)).getD 0
def awv (d : DS) (o : Nat) : Int32 := if opn d o = true then optI (fw d o) else -1
def cfv (d : DS) (c w : Nat) : Int32 := (M_X3_controllerFact d (nI c) (nI w)).getD 0
def nxv (d : DS) (n c : Nat) : Int32 := if M_X3_isTorn d = true then ds_mo d else optI (fst' (tk d c) n)
def aW (x : SS) (a : Int64) : Nat → Int64
  | 0 => a
  | i + 1 => mx (aW x a i) (wfv x i)
def aB (d : DS) (V : Nat → Int32) (a : Int64) : Nat → Int64
  | 0 => a
  | i + 1 => mx (mx (aB d V a i) (ds_val d i)) (V i)
def aF (d : DS) (a : Int64) (o : Nat) : Nat → Int64
  | 0 => a
  | w + 1 => mx (aF d a o w) (fc d o w)
def aO (d : DS) (a : Int64) : Nat → Int64
  | 0 => a
  | o + 1 => mx (mx (aF d (aO d a o) o 10) (awv d o)) (cdv d o)
def aG (d : DS) (a : Int64) (c : Nat) : Nat → Int64
  | 0 => a
  | w + 1 => mx (aG d a c w) (cfv d c w)
def aM (d : DS) (a : Int64) (c : Nat) : Nat → Int64
  | 0 => a
  | o + 1 => if ml d c o = true then mx (aM d a c o) (nI o) else aM d a c o
def aC (d : DS) (n : Nat) (a : Int64) : Nat → Int64
  | 0 => a
  | c + 1 => mx (aM d (aG d (aC d n a c) c 9) c n) (nxv d n c)
theorem ov_nI {n o : Nat} (hn : n ≤ 40) (ho : o < n) : ov n (nI o) = true := by
  unfold ov
  simp only [Bool.not_eq_true', Bool.or_eq_false_iff, decide_eq_false_iff_not]
  exact ⟨nI_pos (by omega), nI_ge ho (by omega)⟩
theorem c_mixB {x : SS} {n : Nat} (a : Int64) (ho : ds_ord (ss_drv x) = nI n) (hn : n ≤ 40) : M_X6_mixBlocks x a = some (aB (ss_drv x) (fv (ss_drv x) (f16 (ss_drv x) (ss_fin x) 16) n) a 16, ss_fin_s x (fv (ss_drv x) (f16 (ss_drv x) (ss_fin x) 16) n)) := by
  unfold M_X6_mixBlocks
  rw [c_finals ho hn, ob_some, tb_eq]
  obtain ⟨V, hV⟩ : ∃ V, V = fv (ss_drv x) (f16 (ss_drv x) (ss_fin x) 16) n := ⟨_, rfl⟩
  rw [← hV]
  refine lp_run (fun i => (aB (ss_drv x) V a i, nI i, ss_fin_s x V)) 16 ?_ ?_ 64 (by omega)
  · intro i hi k
    have a1 : M_X6_at 16 (ds_val (ss_drv (ss_fin_s x V))) (nI i) = ds_val (ss_drv x) i := x6_at hi (by decide)
    have a2 : M_X6_at 16 (ss_fin (ss_fin_s x V)) (nI i) = V i := x6_at hi (by decide)
    unfold M_X6_mixBlocks_16s
    rw [if_neg (show ¬ (16 : Int32) ≤ nI i from nI_ge (a := i) (b := 16) hi (by omega)), a1, a2, mix_mx, mix_mx, nI_1]
    rfl
  · intro k
    unfold M_X6_mixBlocks_16s
    rw [if_pos (show (16 : Int32) ≤ nI 16 by decide)]
theorem c_mixO {x : SS} {n : Nat} (a : Int64) (ho : ds_ord (ss_drv x) = nI n) (hn : n ≤ 40) (hI : DInv (ss_drv x) n) : M_X6_mixOrders x a = some (aO (ss_drv x) a n, ss_dep_s x (cdp (ss_drv x) (ss_dep x) n)) := by
  unfold M_X6_mixOrders
  rw [c_depths ho hn hI.o, ob_some, tb_eq]
  obtain ⟨V, hV⟩ : ∃ V, V = cdp (ss_drv x) (ss_dep x) n := ⟨_, rfl⟩
  rw [← hV]
  refine lp_run (fun o => (aO (ss_drv x) a o, nI o, ss_dep_s x V)) n ?_ ?_ 64 (by omega)
  · intro o hon k
    have g : ¬ ds_ord (ss_drv (aO (ss_drv x) a o, nI o, ss_dep_s x V).2.2) ≤ (aO (ss_drv x) a o, nI o, ss_dep_s x V).2.1 := by
      show ¬ ds_ord (ss_drv x) ≤ nI o
      rw [ho]; exact nI_ge hon (by omega)
    unfold M_X6_mixOrders_16s
    rw [if_neg g]
    refine lp_run (fun w => (aF (ss_drv x) (aO (ss_drv x) a o) o w, nI o, nI w, ss_dep_s x V)) 10 ?_ ?_ 64 (by omega)
    · intro w hw kk
      have a1 : M_X3_fact (ss_drv (ss_dep_s x V)) (nI o) (nI w) = fc (ss_drv x) o w := c_fact (ss_drv x) (by omega) (by omega)
      unfold M_X6_mixOrders_31s
      rw [if_neg (show ¬ (10 : Int32) ≤ nI w from nI_ge (a := w) (b := 10) hw (by omega)), a1, mix_mx, nI_1]
      rfl
    · intro kk
      have a1 : M_X3_firstAwaited (ss_drv (ss_dep_s x V)) (nI o) = some (awv (ss_drv x) o) := c_firstAwaited hn hon hI.o
      have a2 : M_X6_at 40 (ss_dep (ss_dep_s x V)) (nI o) = cdv (ss_drv x) o := by
        rw [x6_at (by omega) (by decide)]
        show V o = _
        rw [hV]
        unfold cdp
        rw [if_pos hon]
      unfold M_X6_mixOrders_31s
      rw [if_pos (show (10 : Int32) ≤ nI 10 by decide), a1, ob_some, a2, mix_mx, mix_mx, nI_1]
      rfl
  · intro k
    unfold M_X6_mixOrders_16s
    exact if_pos (show ds_ord (ss_drv x) ≤ nI n by rw [ho]; exact Int32.le_refl _)
def dgs (x : SS) (n : Nat) : Int64 := aC (ss_drv x) n (aO (ss_drv x) (aB (ss_drv x) (fv (ss_drv x) (f16 (ss_drv x) (ss_fin x) 16) n) (aW x (mx 43490 (hs_size (ss_his x))) 12) 16) n) 2
