/-! PART 77: a command is read, both sides -/
def lw (T : Nat → Int32) (L p : Nat) : Nat := p + spn isLt T L p
/-- whether a command stands at a place; the place behind it, or of its fault; its word -/
def cmdF (T : Nat → Int32) (L p : Nat) : Bool × Nat × Nat := match wdAt T p (spn isLt T L p) with
  | none => (false, p, 0)
  | some e => ((cmdN T L (wN.getD e 0) (lw T L p)).1, (cmdN T L (wN.getD e 0) (lw T L p)).2, e)
def cmdV (T : Nat → Int32) (L p k : Nat) : Int32 := numV T L (lw T L p) k
theorem tT_wd (t : TS) (N : Nat → Int32) (c : Int32) (w w' : Option Nat) : ts_word_s (tT t N c w) w' = tT t N c w' := rfl
theorem mT_cs (y : MS) (N : Nat → Int32) (a C C' F : Int32) : ms_command_s (mT y N a C F) C' = mT y N a C' F := rfl
theorem mT_fl (y : MS) (N : Nat → Int32) (a C F f : Int32) : M_X7_fails (mT y N a C F) f = (false, mT y N a C f) := rfl
theorem isLetter_eq (b : Int32) : M_X1_isLetter b = isLt b := rfl
theorem within_lt (b : Int32) : M_X7_within b (97 : Int32) (122 : Int32) = isLt b := rfl
set_option maxHeartbeats 80000 in
theorem cr_step {x t : TS} {T : Nat → Int32} {L i : Nat} {N : Nat → Int32} {w : Option Nat} {a : Int32} (h : CT t T L) (hL : L ≤ 150) (hq : isLt (hb T L i) = true) (kk : Int32 × TS → Option (Int32 × TS)) : M_X1_readCommand_5s x kk (a, tT t N (nI i) w) = kk (a, tT t N (nI (i + 1)) w) := by
  have hi := isLt_lt hq
  have e1 : M_X1_byteAt (tT t N (nI i) w) (nI i) = hb T L i := c_byte (CT.tT h N (nI i) w) hL (by omega)
  have g : ¬ ts_len (a, tT t N (nI i) w).2 ≤ ts_cur (a, tT t N (nI i) w).2 := by
    rw [tT_at]
    show ¬ ts_len t ≤ nI i
    rw [h.1]; exact nI_ge hi (by omega)
  unfold M_X1_readCommand_5s
  rw [if_neg g, tT_at, e1, isLetter_eq, hq, if_neg (show ¬ zI true = 0 by decide), tb_eq, tT_set, nI_1]
set_option maxHeartbeats 80000 in
theorem cr_end {x t : TS} {T : Nat → Int32} {L i : Nat} {N : Nat → Int32} {w : Option Nat} {a : Int32} (h : CT t T L) (hL : L ≤ 150) (hi : i ≤ L) (hq : isLt (hb T L i) = false) (kk : Int32 × TS → Option (Int32 × TS)) : M_X1_readCommand_5s x kk (a, tT t N (nI i) w) = M_X1_readCommand_43 x a (tT t N (nI i) w) := by
  have e1 : M_X1_byteAt (tT t N (nI i) w) (nI i) = hb T L i := c_byte (CT.tT h N (nI i) w) hL (by omega)
  unfold M_X1_readCommand_5s
  rw [tT_at, e1, isLetter_eq, hq, if_pos (show zI false = 0 from rfl)]
  split <;> rfl
set_option maxHeartbeats 80000 in
theorem cr_none {x t : TS} {T : Nat → Int32} {L p l : Nat} {N : Nat → Int32} {w : Option Nat} (h : CT t T L) (hL : L ≤ 150) (hp : p + l ≤ L) (hw : wdAt T p l = none) : M_X1_readCommand_43 x (nI p) (tT t N (nI (p + l)) w) = some (nI p, tT t N (nI (p + l)) none) := by
  unfold M_X1_readCommand_43
  rw [tT_at, c_word (CT.tT h N (nI (p + l)) w) hL hp, ob_some, hw]
  show tb (ts_word_s (tT t N (nI (p + l)) w) none) (fun y_4 => some (nI p, y_4)) = _
  rw [tb_eq, tT_wd]
set_option maxHeartbeats 80000 in
theorem cr_some {x t : TS} {T : Nat → Int32} {L p l e : Nat} {N : Nat → Int32} {w : Option Nat} (h : CT t T L) (hL : L ≤ 150) (hp : p + l ≤ L) (hw : wdAt T p l = some e) : M_X1_readCommand_43 x (nI p) (tT t N (nI (p + l)) w) = lpF (M_X1_readCommand_66s x) 400 (e, (0 : Int32), tT t N (nI (p + l)) (some e)) := by
  have chk : chkE e = some () := by unfold chkE; rw [if_pos (wdAt_lt hw).1]
  unfold M_X1_readCommand_43
  rw [tT_at, c_word (CT.tT h N (nI (p + l)) w) hL hp, ob_some, hw]
  show (chkE e).bind (fun ue3 => tb (ts_word_s (tT t N (nI (p + l)) w) (some e)) fun y_5 => lpF (M_X1_readCommand_66s x) 400 (e, (0 : Int32), y_5)) = _
  rw [chk, ob_some, tb_eq, tT_wd]
theorem c_read {t : TS} {T : Nat → Int32} {L p : Nat} {N : Nat → Int32} {w : Option Nat} (h : CT t T L) (hL : L ≤ 150) (hp : p ≤ L) : ∃ N' c' w', M_X1_readCommand (tT t N (nI p) w) = some ((if (cmdF T L p).1 = true then -1 else nI (cmdF T L p).2.1), tT t N' c' w') ∧ ((cmdF T L p).1 = true → c' = nI (cmdF T L p).2.1 ∧ w' = some (cmdF T L p).2.2 ∧ (cmdF T L p).2.2 < 10 ∧ ∀ k, k < wN.getD (cmdF T L p).2.2 0 → N' k = cmdV T L p k) := by
  obtain ⟨s1, s2, s3⟩ := spn_spec (q := isLt) (T := T) (by decide) hp hL
  have e0 : M_X1_readCommand (tT t N (nI p) w) = M_X1_readCommand_43 (tT t N (nI p) w) (nI p) (tT t N (nI (p + spn isLt T L p)) w) :=
    lp_run (fun j => (nI p, tT t N (nI (p + j)) w)) (spn isLt T L p) (fun j hj kk => cr_step h hL (s2 j hj) kk) (fun kk => cr_end h hL s1 s3 kk) 400 (by omega)
  rw [e0]
  unfold cmdF
  cases hw : wdAt T p (spn isLt T L p) with
  | none =>
    rw [cr_none h hL s1 hw]
    exact ⟨N, _, _, rfl, fun z => by cases z⟩
  | some e =>
    have he := (wdAt_lt hw).1
    rw [cr_some h hL s1 hw]
    obtain ⟨N', c', e1, e2⟩ := c_nums (x := tT t N (nI p) w) (t := t) (N := N) (p := p + spn isLt T L p) h hL s1 he
    exact ⟨N', c', some e, e1, fun z => ⟨(e2 z).1, rfl, he, (e2 z).2⟩⟩
set_option maxHeartbeats 80000 in
theorem rr_step {x y : MS} {T : Nat → Int32} {L i : Nat} {N : Nat → Int32} {a C F : Int32} (h : RT y T L) (hL : L ≤ 150) (hq : isLt (hb T L i) = true) (kk : Int32 × MS → Option (Bool × MS)) : M_X7_readsCommand_5s x kk (a, mT y N (nI i) C F) = kk (a, mT y N (nI (i + 1)) C F) := by
  have hi := isLt_lt hq
  have e1 : M_X7_here (mT y N (nI i) C F) = some (hb T L i) := r_here (RT.mT h N (nI i) C F) hL (by omega) (mT_at _ _ _ _ _)
  unfold M_X7_readsCommand_5s
  rw [e1, ob_some, within_lt, hq, if_neg (show ¬ zI true = 0 by decide), tb_eq, mT_at, mT_set1, nI_1]
set_option maxHeartbeats 80000 in
theorem rr_word {y : MS} {T : Nat → Int32} {L p l : Nat} {N : Nat → Int32} {C F : Int32} (h : RT y T L) (hL : L ≤ 150) (hp : p + l ≤ L) : M_X7_word (mT y N (nI (p + l)) C F) (nI p) = some (optI (wdAt T p l)) := r_word (y := mT y N (nI (p + l)) C F) (RT.mT h N (nI (p + l)) C F).2 (mT_at _ _ _ _ _) (by omega)
set_option maxHeartbeats 80000 in
theorem rr_none {x y : MS} {T : Nat → Int32} {L p l : Nat} {N : Nat → Int32} {C F : Int32} (h : RT y T L) (hL : L ≤ 150) (hp : p + l ≤ L) (hq : isLt (hb T L (p + l)) = false) (hw : wdAt T p l = none) (kk : Int32 × MS → Option (Bool × MS)) : M_X7_readsCommand_5s x kk (nI p, mT y N (nI (p + l)) C F) = some (false, mT y N (nI (p + l)) (-1) (nI p)) := by
  have e1 : M_X7_here (mT y N (nI (p + l)) C F) = some (hb T L (p + l)) := r_here (RT.mT h N (nI (p + l)) C F) hL (by omega) (mT_at _ _ _ _ _)
  unfold M_X7_readsCommand_5s
  rw [e1, ob_some, within_lt, hq, if_pos (show zI false = 0 from rfl), rr_word h hL hp, ob_some, hw, tb_eq, mT_cs, mT_co, if_pos (show optI none = -1 from rfl), tb_eq, mT_fl]
  rfl
set_option maxHeartbeats 80000 in
theorem rr_some {x y : MS} {T : Nat → Int32} {L p l e : Nat} {N : Nat → Int32} {C F : Int32} (h : RT y T L) (hL : L ≤ 150) (hp : p + l ≤ L) (hq : isLt (hb T L (p + l)) = false) (hw : wdAt T p l = some e) (kk : Int32 × MS → Option (Bool × MS)) : M_X7_readsCommand_5s x kk (nI p, mT y N (nI (p + l)) C F) = lpF (M_X7_readsCommand_57s x) 400 (nI 0, mT y N (nI (p + l)) (nI e) F) := by
  have he := (wdAt_lt hw).1
  have e1 : M_X7_here (mT y N (nI (p + l)) C F) = some (hb T L (p + l)) := r_here (RT.mT h N (nI (p + l)) C F) hL (by omega) (mT_at _ _ _ _ _)
  unfold M_X7_readsCommand_5s
  rw [e1, ob_some, within_lt, hq, if_pos (show zI false = 0 from rfl), rr_word h hL hp, ob_some, hw, tb_eq, mT_cs, mT_co, if_neg (show ¬ optI (some e) = -1 from nI_nm1 (by omega))]
  rfl
theorem r_read {y : MS} {T : Nat → Int32} {L p : Nat} {N : Nat → Int32} {C F : Int32} (h : RT y T L) (hL : L ≤ 150) (hp : p ≤ L) : ∃ N' a' C' F', M_X7_readsCommand (mT y N (nI p) C F) = some ((cmdF T L p).1, mT y N' a' C' F') ∧ ((cmdF T L p).1 = true → a' = nI (cmdF T L p).2.1 ∧ C' = nI (cmdF T L p).2.2 ∧ F' = F ∧ ∀ k, k < wN.getD (cmdF T L p).2.2 0 → N' k = cmdV T L p k) ∧ ((cmdF T L p).1 = false → F' = nI (cmdF T L p).2.1) := by
  obtain ⟨s1, s2, s3⟩ := spn_spec (q := isLt) (T := T) (by decide) hp hL
  unfold cmdF
  cases hw : wdAt T p (spn isLt T L p) with
  | none =>
    refine ⟨N, nI (p + spn isLt T L p), -1, nI p, ?_, fun z => (by cases z), fun _ => rfl⟩
    exact lp_run (fun j => (nI p, mT y N (nI (p + j)) C F)) (spn isLt T L p) (fun j hj kk => rr_step h hL (s2 j hj) kk) (fun kk => rr_none h hL s1 s3 hw kk) 400 (by omega)
  | some e =>
    have he := (wdAt_lt hw).1
    obtain ⟨N', a', F', e1, e2, e3⟩ := r_nums (x := mT y N (nI p) C F) (y := y) (N := N) (F := F) (p := p + spn isLt T L p) h hL s1 he
    refine ⟨N', a', nI e, F', ?_, fun z => ⟨(e2 z).1, rfl, (e2 z).2.1, (e2 z).2.2⟩, e3⟩
    have e4 : M_X7_readsCommand (mT y N (nI p) C F) = lpF (M_X7_readsCommand_57s (mT y N (nI p) C F)) 400 (nI 0, mT y N (nI (p + spn isLt T L p)) (nI e) F) :=
      lp_run (fun j => (nI p, mT y N (nI (p + j)) C F)) (spn isLt T L p) (fun j hj kk => rr_step h hL (s2 j hj) kk) (fun kk => rr_some h hL s1 s3 hw kk) 400 (by omega)
    exact e4.trans e1
theorem cmdF_lt {T : Nat → Int32} {L p : Nat} (hp : p ≤ L) (hL : L ≤ 150) (h : (cmdF T L p).1 = true) : p < (cmdF T L p).2.1 ∧ (cmdF T L p).2.1 ≤ L := by
  obtain ⟨s1, -, -⟩ := spn_spec (q := isLt) (T := T) (by decide) hp hL
  unfold cmdF at h ⊢
  cases hw : wdAt T p (spn isLt T L p) with
  | none => rw [hw] at h; cases h
  | some e =>
    rw [hw] at h
    have h : (cmdN T L (wN.getD e 0) (lw T L p)).1 = true := h
    show p < (cmdN T L (wN.getD e 0) (lw T L p)).2 ∧ (cmdN T L (wN.getD e 0) (lw T L p)).2 ≤ L
    have hP := numP_le (T := T) (show lw T L p ≤ L from s1) hL (wN.getD e 0)
    have hsk := skc_ge T L (numP T L (lw T L p) (wN.getD e 0))
    have hpl : p ≤ lw T L p := Nat.le_add_right p _
    unfold cmdN at h ⊢
    cases hf : fst' (numB T L (lw T L p)) (wN.getD e 0) with
    | none =>
      rw [hf] at h
      by_cases q : hb T L (skc T L (numP T L (lw T L p) (wN.getD e 0))) = 59
      · simp only [if_pos q]
        have : skc T L (numP T L (lw T L p) (wN.getD e 0)) < L := hb_lt (fun z => by rw [z] at q; exact absurd q (by decide))
        omega
      · simp only [if_neg q] at h
        cases h
    | some j => rw [hf] at h; cases h
theorem cmdF_le {T : Nat → Int32} {L p : Nat} (hp : p ≤ L) (hL : L ≤ 150) : (cmdF T L p).2.1 ≤ L := by
  obtain ⟨s1, -, -⟩ := spn_spec (q := isLt) (T := T) (by decide) hp hL
  unfold cmdF
  cases hw : wdAt T p (spn isLt T L p) with
  | none => exact hp
  | some e =>
    show (cmdN T L (wN.getD e 0) (lw T L p)).2 ≤ L
    have hP := numP_le (T := T) (show lw T L p ≤ L from s1) hL (wN.getD e 0)
    unfold cmdN
    cases hf : fst' (numB T L (lw T L p)) (wN.getD e 0) with
    | none =>
      have := skc_le (T := T) hP.2 hL
      by_cases q : hb T L (skc T L (numP T L (lw T L p) (wN.getD e 0))) = 59
      · simp only [if_pos q]
        have : skc T L (numP T L (lw T L p) (wN.getD e 0)) < L := hb_lt (fun z => by rw [z] at q; exact absurd q (by decide))
        omega
      · simp only [if_neg q]
        exact this
    | some j => exact (numP_le (T := T) (show lw T L p ≤ L from s1) hL (j + 1)).2
