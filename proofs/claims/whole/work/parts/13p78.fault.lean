/-! PART 78: the text's first fault; typing -/
def nxt (T : Nat → Int32) (L p : Nat) : Nat := skc T L (cmdF T L p).2.1
/-- from a place on stand commands alone -/
def okc (T : Nat → Int32) (L : Nat) : Nat → Nat → Bool
  | 0, p => decide (L ≤ p)
  | f + 1, p => decide (L ≤ p) || ((cmdF T L p).1 && okc T L f (nxt T L p))
set_option maxHeartbeats 80000 in
theorem cs_skip {t : TS} {T : Nat → Int32} {L q : Nat} {N : Nat → Int32} {w : Option Nat} (h : CT t T L) (hL : L ≤ 150) (hq : q ≤ L) : M_X1_skipSpaces (tT t N (nI q) w) = some (tT t N (nI (skc T L q)) w) := by
  rw [c_skip (CT.tT h N (nI q) w) hL hq (tT_at t N (nI q) w), tT_set]
set_option maxHeartbeats 80000 in
theorem cf_done {x t : TS} {T : Nat → Int32} {L p i : Nat} {N : Nat → Int32} {w : Option Nat} (h : CT t T L) (hL : L ≤ 150) (hp : p = L) (kk : Int32 × TS → Option (Int32 × TS)) : M_X1_findFault_10s x kk (nI i, tT t N (nI p) w) = some (-1, tT t N (nI p) w) := by
  have g : ts_len (nI i, tT t N (nI p) w).2 ≤ ts_cur (nI i, tT t N (nI p) w).2 := by
    rw [tT_at]
    show ts_len t ≤ nI p
    rw [h.1, hp]; exact Int32.le_refl _
  unfold M_X1_findFault_10s M_X1_findFault_50
  rw [if_pos g]
  split <;> rfl
set_option maxHeartbeats 80000 in
theorem cf_go {x t : TS} {T : Nat → Int32} {L p i : Nat} {N : Nat → Int32} {w : Option Nat} (h : CT t T L) (hL : L ≤ 150) (hp : p < L) (hi : i ≤ p) (kk : Int32 × TS → Option (Int32 × TS)) : M_X1_findFault_10s x kk (nI i, tT t N (nI p) w) = ((M_X1_readCommand (tT t N (nI p) w)).bind fun r3 => (if r3.1 = (-1 : Int32) then ((M_X1_skipSpaces r3.2).bind fun r5 => (kk (nI (i + 1), r5))) else some (r3.1, r3.2))) := by
  have g : ¬ ts_len (nI i, tT t N (nI p) w).2 ≤ ts_cur (nI i, tT t N (nI p) w).2 := by
    rw [tT_at]
    show ¬ ts_len t ≤ nI p
    rw [h.1]; exact nI_ge hp (by omega)
  have g2 : ¬ (150 : Int32) ≤ (nI i, tT t N (nI p) w).1 := nI_ge (a := i) (b := 150) (by omega) (by omega)
  unfold M_X1_findFault_10s
  rw [if_neg g2, if_neg g, nI_1]
set_option maxHeartbeats 80000 in
theorem rf_done {x y : MS} {T : Nat → Int32} {L p : Nat} {N : Nat → Int32} {C F : Int32} (h : RT y T L) (hp : p = L) (kk : MS → Option (Int32 × MS)) : M_X7_findsFault_14s x kk (mT y N (nI p) C F) = some (F, mT y N (nI p) C F) := by
  have g : ms_length (mT y N (nI p) C F) ≤ ms_at (mT y N (nI p) C F) := by
    rw [mT_at, (RT.mT h N (nI p) C F).1, hp]; exact Int32.le_refl _
  unfold M_X7_findsFault_14s M_X7_findsFault_39
  rw [if_pos g]
  rfl
set_option maxHeartbeats 80000 in
theorem rf_go {x y : MS} {T : Nat → Int32} {L p : Nat} {N : Nat → Int32} {C F : Int32} (h : RT y T L) (hL : L ≤ 150) (hp : p < L) (kk : MS → Option (Int32 × MS)) : M_X7_findsFault_14s x kk (mT y N (nI p) C F) = ((M_X7_readsCommand (mT y N (nI p) C F)).bind fun r2 => (if (zI r2.1) = 0 then (M_X7_findsFault_39 x r2.2) else ((M_X7_skips r2.2).bind fun r4 => (kk (r4))))) := by
  have g : ¬ ms_length (mT y N (nI p) C F) ≤ ms_at (mT y N (nI p) C F) := by
    rw [mT_at, (RT.mT h N (nI p) C F).1]; exact nI_ge hp (by omega)
  unfold M_X7_findsFault_14s
  rw [if_neg g]
theorem ff_loop {t : TS} {y : MS} {T : Nat → Int32} {L : Nat} (hC : CT t T L) (hR : RT y T L) (hL : L ≤ 150) (x : TS) (x' : MS) : ∀ f p i N w N2 C, p ≤ L → L ≤ p + f → i ≤ p → ∃ v N' c' w' N2' a' C' F', (∀ M, f < M → lpF (M_X1_findFault_10s x) M (nI i, tT t N (nI p) w) = some (v, tT t N' c' w')) ∧ (∀ M, f < M → lpF (M_X7_findsFault_14s x') M (mT y N2 (nI p) C (-1)) = some (v, mT y N2' a' C' F')) ∧ F' = v ∧ ((v = -1 ∧ okc T L f p = true) ∨ ∃ q, q ≤ 150 ∧ v = nI q) := by
  intro f
  induction f with
  | zero =>
    intro p i N w N2 C hp hf hi
    have e : p = L := by omega
    refine ⟨-1, N, nI p, w, N2, nI p, C, -1, ?_, ?_, rfl, Or.inl ⟨rfl, ?_⟩⟩
    · intro M hM
      obtain ⟨m, rfl⟩ : ∃ m, M = m + 1 := ⟨M - 1, by omega⟩
      rw [lpF_s, cf_done hC hL e]
    · intro M hM
      obtain ⟨m, rfl⟩ : ∃ m, M = m + 1 := ⟨M - 1, by omega⟩
      rw [lpF_s, rf_done hR e]
    · exact decide_eq_true (by omega)
  | succ f ih =>
    intro p i N w N2 C hp hf hi
    by_cases e : p = L
    · refine ⟨-1, N, nI p, w, N2, nI p, C, -1, ?_, ?_, rfl, Or.inl ⟨rfl, ?_⟩⟩
      · intro M hM
        obtain ⟨m, rfl⟩ : ∃ m, M = m + 1 := ⟨M - 1, by omega⟩
        rw [lpF_s, cf_done hC hL e]
      · intro M hM
        obtain ⟨m, rfl⟩ : ∃ m, M = m + 1 := ⟨M - 1, by omega⟩
        rw [lpF_s, rf_done hR e]
      · unfold okc
        rw [decide_eq_true (show L ≤ p by omega), Bool.true_or]
    · have hlt : p < L := by omega
      obtain ⟨Na, ca, wa, a1, a2⟩ := c_read (N := N) (w := w) hC hL hp
      obtain ⟨Nb, ab, Cb, Fb, b1, b2, b3⟩ := r_read (N := N2) (C := C) (F := -1) hR hL hp
      have hle := cmdF_le (T := T) hp hL
      cases hok : (cmdF T L p).1
      · rw [hok, if_neg (by decide)] at a1
        rw [hok] at b1
        have n1 : ¬ nI (cmdF T L p).2.1 = (-1 : Int32) := nI_nm1 (by omega)
        refine ⟨nI (cmdF T L p).2.1, Na, ca, wa, Nb, ab, Cb, Fb, ?_, ?_, b3 hok, Or.inr ⟨(cmdF T L p).2.1, by omega, rfl⟩⟩
        · intro M hM
          obtain ⟨m, rfl⟩ : ∃ m, M = m + 1 := ⟨M - 1, by omega⟩
          rw [lpF_s, cf_go hC hL hlt hi, a1, ob_some, if_neg n1]
        · intro M hM
          obtain ⟨m, rfl⟩ : ∃ m, M = m + 1 := ⟨M - 1, by omega⟩
          rw [lpF_s, rf_go hR hL hlt, b1, ob_some, if_pos (show zI false = 0 from rfl)]
          unfold M_X7_findsFault_39
          rw [← b3 hok]
          rfl
      · rw [hok, if_pos rfl] at a1
        rw [hok] at b1
        obtain ⟨g1, g2⟩ := cmdF_lt hp hL hok
        obtain ⟨c1, -, -, -⟩ := a2 hok
        obtain ⟨d1, -, d2, -⟩ := b2 hok
        rw [c1] at a1
        rw [d1, d2] at b1
        have hn1 : nxt T L p ≤ L := skc_le g2 hL
        have hn2 : (cmdF T L p).2.1 ≤ nxt T L p := skc_ge T L _
        obtain ⟨v, N', c', w', N2', a', C', F', r1, r2, r3, r4⟩ := ih (nxt T L p) (i + 1) Na wa Nb Cb hn1 (by omega) (by omega)
        refine ⟨v, N', c', w', N2', a', C', F', ?_, ?_, r3, ?_⟩
        · intro M hM
          obtain ⟨m, rfl⟩ : ∃ m, M = m + 1 := ⟨M - 1, by omega⟩
          rw [lpF_s, cf_go hC hL hlt hi, a1, ob_some, if_pos (rfl : (-1 : Int32) = -1), cs_skip hC hL g2, ob_some]
          exact r1 m (by omega)
        · intro M hM
          obtain ⟨m, rfl⟩ : ∃ m, M = m + 1 := ⟨M - 1, by omega⟩
          rw [lpF_s, rf_go hR hL hlt, b1, ob_some, if_neg (show ¬ zI true = 0 by decide), rs_skip hR hL g2, ob_some]
          exact r2 m (by omega)
        · rcases r4 with ⟨z1, z2⟩ | z
          · refine Or.inl ⟨z1, ?_⟩
            unfold okc
            rw [hok, z2, Bool.true_and, Bool.or_true]
          · exact Or.inr z
theorem tT_self (t : TS) : t = tT t (ts_nu t) (ts_cur t) (ts_word t) := rfl
theorem mT_self (y : MS) : y = mT y (ms_numbers y) (ms_at y) (ms_command y) (ms_fault y) := rfl
theorem ff_ok {t : TS} {y : MS} {T : Nat → Int32} {L : Nat} (hC : CT t T L) (hR : RT y T L) (hL : L ≤ 150) : ∃ v N' c' w' N2' a' C' F', M_X1_findFault t = some (v, tT t N' c' w') ∧ M_X7_findsFault y = some (v, mT y N2' a' C' F') ∧ F' = v ∧ ((v = -1 ∧ okc T L 150 (skc T L 0) = true) ∨ ∃ q, q ≤ 150 ∧ v = nI q) := by
  have hs := skc_le (T := T) (Nat.zero_le L) hL
  obtain ⟨v, N', c', w', N2', a', C', F', r1, r2, r3, r4⟩ := ff_loop hC hR hL (x := t) (x' := y) 150 (skc T L 0) 0 (ts_nu t) (ts_word t) (ms_numbers y) (ms_command y) hs (by omega) (by omega)
  refine ⟨v, N', c', w', N2', a', C', F', ?_, ?_, r3, r4⟩
  · have e1 : M_X1_rewind t = tT t (ts_nu t) (nI 0) (ts_word t) := rfl
    unfold M_X1_findFault
    rw [e1, tb_eq, cs_skip hC hL (Nat.zero_le L), ob_some]
    exact r1 400 (by omega)
  · have e1 : ms_fault_s (ms_at_s y (0 : Int32)) (-1 : Int32) = mT y (ms_numbers y) (nI 0) (ms_command y) (-1) := rfl
    unfold M_X7_findsFault
    rw [tb_eq, tb_eq, e1, rs_skip hR hL (Nat.zero_le L), ob_some]
    exact r2 400 (by omega)
theorem TRel.ct {t : TS} {y : MS} (h : TRel t (ms_text y) (ms_length y)) : ∃ L, L ≤ 150 ∧ CT t (ms_text y) L ∧ RT y (ms_text y) L := by
  obtain ⟨L, hL, e1, e2, e3⟩ := h
  exact ⟨L, hL, ⟨e1, e3⟩, ⟨e2, rfl⟩⟩
/-- typing -/
theorem u_type {x : SS} {y : MS} (h : SRel x y) (p : Int32) : AgU (fun c q => (c = 2 ∧ q = 1) ∨ (c = 3 ∧ q = 2)) x (M_X6_type x p) (M_X7_type y p) := by
  obtain ⟨hd, hh, ⟨L, hL, e1, e2, e3⟩, hr⟩ := h
  have hS : ∀ v, SRel x (ms_refusal_s y v) := fun v => ⟨hd, hh, ⟨L, hL, e1, e2, e3⟩, hr⟩
  have er : ∀ w, M_X7_type_30 y p w y = tb (M_X7_refused y w) fun r1 => (if (zI r1.1) = 0 then ((ast 150 (ms_text r1.2) (ms_length r1.2) p).bind fun f3 => (tb (ms_text_s r1.2 f3) fun y_4 => (tb (ms_length_s y_4 ((ms_length y_4) + (1 : Int32))) fun y_5 => some ((ms_length y_5), y_5)))) else some ((0 : Int32), r1.2)) := fun w => rfl
  unfold M_X6_type M_X7_type
  rw [fR, win_eq, zI_if, zI_if]
  cases hw : M_X6_isWithin p 0 127
  · left
    refine ⟨2, 1, 0, ms_refusal_s y 1, ?_, ?_, rfl, Or.inl ⟨rfl, rfl⟩, hS 1⟩
    · rw [if_neg (by decide : ¬ (false = true)), if_pos rfs_2]
    · rw [if_neg (by decide : ¬ (false = true)), er, ref_1, tb_eq]
      exact if_neg (show ¬ zI true = 0 by decide)
  · rw [if_pos (rfl : true = true), if_neg (by rw [rfs_0]; decide), if_pos (rfl : true = true)]
    have ef : M_X1_isFull (ss_txt x) = decide (L = 150) := by
      unfold M_X1_isFull M_X1_isFull_15
      rw [e1]
      by_cases q : L = 150
      · rw [if_neg (show ¬ nI L < (150 : Int32) by rw [q]; decide), decide_eq_true q]
      · rw [if_pos (show nI L < (150 : Int32) from nI_lt (a := L) (b := 150) (by omega) (by omega)), decide_eq_false q]
    rw [ef, e2]
    by_cases q : L = 150
    · left
      refine ⟨3, 2, 0, ms_refusal_s y 2, ?_, ?_, rfl, Or.inr ⟨rfl, rfl⟩, hS 2⟩
      · rw [decide_eq_true q, if_pos (rfl : true = true)]
        unfold M_X6_type_25
        rw [if_pos rfs_3]
      · rw [if_pos (show nI L = (150 : Int32) by rw [q]; rfl), er, ref_2, tb_eq]
        exact if_neg (show ¬ zI true = 0 by decide)
    · right
      have hlt : L < 150 := by omega
      refine ⟨nI (L + 1), ss_txt_s x (ts_len_s (ts_by_s (ss_txt x) (upd (ts_by (ss_txt x)) L p)) (nI (L + 1))), ms_length_s (ms_text_s (ms_refusal_s y 0) (upd (ms_text y) L p)) (nI (L + 1)), ?_, ?_, rfl, hd, hh, ⟨L + 1, by omega, rfl, rfl, ?_⟩, hr⟩
      · rw [decide_eq_false q, if_neg (by decide : ¬ (false = true))]
        unfold M_X6_type_25 M_X1_append
        rw [if_neg (by rw [rfs_0]; decide), e1, x6_put hlt (by decide)]
        rw [tb_eq, tb_eq, tb_eq, tb_eq]
        rw [show ts_len (ts_by_s (ss_txt x) (upd (ts_by (ss_txt x)) L p)) = nI L from e1, nI_1]
        rfl
      · rw [if_neg (show ¬ nI L = (150 : Int32) from fun z => q ((nI_eq (b := 150) (by omega) (by omega)).mp z)), er, ref_0, tb_eq]
        have a1 : ast 150 (ms_text (ms_refusal_s y 0)) (ms_length (ms_refusal_s y 0)) p = some (upd (ms_text y) L p) := by
          show ast 150 (ms_text y) (ms_length y) p = _
          rw [e2]; exact ast_nI hlt (by omega)
        refine Eq.trans (if_pos (show zI false = 0 from rfl)) ?_
        show ((ast 150 (ms_text (ms_refusal_s y 0)) (ms_length (ms_refusal_s y 0)) p).bind fun f3 => (tb (ms_text_s (ms_refusal_s y 0) f3) fun y_4 => (tb (ms_length_s y_4 ((ms_length y_4) + (1 : Int32))) fun y_5 => some ((ms_length y_5), y_5)))) = _
        rw [a1, ob_some, tb_eq, tb_eq, show ms_length (ms_text_s (ms_refusal_s y 0) (upd (ms_text y) L p)) = nI L from e2, nI_1]
        rfl
      · intro i hi
        show upd (ts_by (ss_txt x)) L p i = upd (ms_text y) L p i
        unfold upd
        by_cases z : i = L
        · rw [if_pos z, if_pos z]
        · rw [if_neg z, if_neg z]; exact e3 i (by omega)
theorem u_clear {x : SS} {y : MS} (h : SRel x y) : ∃ v x' y', M_X6_clearCommands x = (v, x') ∧ M_X7_clearCommands y = (v, y') ∧ ms_refusal y' = 0 ∧ SRel x' y' := by
  obtain ⟨hd, hh, ⟨L, hL, e1, e2, e3⟩, hr⟩ := h
  refine ⟨nI L, ss_txt_s x (ts_len_s (ss_txt x) 0), ms_length_s (ms_refusal_s y 0) 0, ?_, ?_, rfl, hd, hh, ⟨0, by omega, rfl, rfl, fun i hi => by omega⟩, hr⟩
  · unfold M_X6_clearCommands M_X1_empty
    rw [tb_eq, tb_eq, e1]
  · unfold M_X7_clearCommands
    rw [tb_eq, tb_eq, show ms_length (ms_refusal_s y 0) = nI L from e2]
