/-! PART 76: a command is read -/
abbrev wN : List Nat := [4, 4, 4, 2, 2, 1, 1, 2, 2, 1]
theorem wNum_nI : ∀ w, w < 10 → wNum.getD w 0 = nI (wN.getD w 0) := by decide +kernel
theorem wN_le : ∀ w, w < 10 → wN.getD w 0 ≤ 4 ∧ 1 ≤ wN.getD w 0 := by decide +kernel
theorem nof_nI : ∀ w, w < 10 → M_X7_numbersOf (nI w) = nI (wN.getD w 0) := by decide +kernel
/-- the place behind the first k numbers -/
def numP (T : Nat → Int32) (L p : Nat) : Nat → Nat
  | 0 => p
  | k + 1 => (num1 T L (numP T L p k)).2.1
/-- the k-th number -/
def numV (T : Nat → Int32) (L p k : Nat) : Int32 := (num1 T L (numP T L p k)).2.2
def numN (T : Nat → Int32) (L p : Nat) (N : Nat → Int32) : Nat → Nat → Int32
  | 0 => N
  | k + 1 => upd (numN T L p N k) k (numV T L p k)
theorem numN_get {T : Nat → Int32} {L p : Nat} {N : Nat → Int32} : ∀ m k, k < m → numN T L p N m k = numV T L p k := by
  intro m
  induction m with
  | zero => intro k hk; omega
  | succ m ih =>
    intro k hk
    show upd (numN T L p N m) m (numV T L p m) k = _
    by_cases q : k = m
    · rw [q]; exact pk_us
    · rw [pk_un q]; exact ih k (by omega)
theorem dgc_le (T : Nat → Int32) (L b : Nat) : dgc T L b ≤ spn isDg T L b := by unfold dgc; split <;> omega
theorem num1_le {T : Nat → Int32} {L i : Nat} (hi : i ≤ L) (hL : L ≤ 150) : i ≤ (num1 T L i).2.1 ∧ (num1 T L i).2.1 ≤ L := by
  unfold num1
  by_cases q : hb T L i = 32
  · rw [if_pos q]
    have h1 := skc_ge T L i
    have h2 := skc_le (T := T) hi hL
    have h3 := (spn_spec (q := isDg) (T := T) (by decide) h2 hL).1
    have h4 := dgc_le T L (skc T L i)
    show i ≤ skc T L i + dgc T L (skc T L i) ∧ skc T L i + dgc T L (skc T L i) ≤ L
    omega
  · rw [if_neg q]
    exact ⟨Nat.le_refl i, hi⟩
theorem numP_le {T : Nat → Int32} {L p : Nat} (hp : p ≤ L) (hL : L ≤ 150) : ∀ k, p ≤ numP T L p k ∧ numP T L p k ≤ L := by
  intro k
  induction k with
  | zero => exact ⟨Nat.le_refl p, hp⟩
  | succ k ih =>
    have := num1_le (T := T) ih.2 hL
    exact ⟨Nat.le_trans ih.1 this.1, this.2⟩
/-- whether the k-th number is none -/
def numB (T : Nat → Int32) (L p k : Nat) : Bool := !(num1 T L (numP T L p k)).1
/-- c numbers and a semicolon: whether they stand there, the place behind them or of the fault -/
def cmdN (T : Nat → Int32) (L c p : Nat) : Bool × Nat := match fst' (numB T L p) c with
  | some j => (false, numP T L p (j + 1))
  | none => if hb T L (skc T L (numP T L p c)) = 59 then (true, skc T L (numP T L p c) + 1) else (false, skc T L (numP T L p c))
theorem tT_at (t : TS) (N : Nat → Int32) (c : Int32) (w : Option Nat) : ts_cur (tT t N c w) = c := rfl
theorem tT_set (t : TS) (N : Nat → Int32) (c c' : Int32) (w : Option Nat) : ts_cur_s (tT t N c w) c' = tT t N c' w := rfl
theorem mT_set1 (y : MS) (V : Nat → Int32) (a a' C F : Int32) : ms_at_s (mT y V a C F) a' = mT y V a' C F := rfl
/-- the numbers and the end, the class -/
theorem c_nums {x t : TS} {T : Nat → Int32} {L p e : Nat} {N : Nat → Int32} (h : CT t T L) (hL : L ≤ 150) (hp : p ≤ L) (he : e < 10) : ∃ N' c', lpF (M_X1_readCommand_66s x) 400 (e, (0 : Int32), tT t N (nI p) (some e)) = some ((if (cmdN T L (wN.getD e 0) p).1 = true then -1 else nI (cmdN T L (wN.getD e 0) p).2), tT t N' c' (some e)) ∧ ((cmdN T L (wN.getD e 0) p).1 = true → c' = nI (cmdN T L (wN.getD e 0) p).2 ∧ ∀ k, k < wN.getD e 0 → N' k = numV T L p k) := by
  have hc4 := wN_le e he
  obtain ⟨c, hc⟩ : ∃ c, c = wN.getD e 0 := ⟨_, rfl⟩
  have hwn : wNum.getD e 0 = nI c := by rw [hc]; exact wNum_nI e he
  rw [← hc]
  rw [← hc] at hc4
  have hP := fun k => numP_le (T := T) hp hL k
  have chk : chkE e = some () := by unfold chkE; rw [if_pos he]
  -- a number, at the k-th place
  have rn : ∀ k, k < c → M_X1_readNumber (tT t (numN T L p N k) (nI (numP T L p k)) (some e)) (nI k) = if hb T L (numP T L p k) = 32 then some (decide (0 < dgc T L (skc T L (numP T L p k))), tT t (numN T L p N (k + 1)) (nI (numP T L p (k + 1))) (some e)) else some (false, tT t (numN T L p N k) (nI (numP T L p k)) (some e)) := by
    intro k hk
    rw [c_num h hL (hP k).2 (by omega)]
    by_cases q : hb T L (numP T L p k) = 32
    · rw [if_pos q, if_pos q]
      have e1 : numV T L p k = vl T L (skc T L (numP T L p k)) (dgc T L (skc T L (numP T L p k))) := by unfold numV num1; rw [if_pos q]
      have e2 : numP T L p (k + 1) = skc T L (numP T L p k) + dgc T L (skc T L (numP T L p k)) := by show (num1 T L (numP T L p k)).2.1 = _; unfold num1; rw [if_pos q]
      have e3 : numN T L p N (k + 1) = upd (numN T L p N k) k (numV T L p k) := rfl
      rw [e3, e1, e2]
    · rw [if_neg q, if_neg q]
  -- the loop passes a number that has digits
  have step : ∀ k, k < c → hb T L (numP T L p k) = 32 → 0 < dgc T L (skc T L (numP T L p k)) → ∀ kk, M_X1_readCommand_66s x kk (e, nI k, tT t (numN T L p N k) (nI (numP T L p k)) (some e)) = kk (e, nI (k + 1), tT t (numN T L p N (k + 1)) (nI (numP T L p (k + 1))) (some e)) := by
    intro k hk q1 q2 kk
    unfold M_X1_readCommand_66s
    simp only [chk, ob_some, hwn]
    rw [if_neg (nI_ge hk (by omega)), rn k hk, if_pos q1, ob_some, decide_eq_true q2, if_neg (show ¬ zI true = 0 by decide), nI_1]
  -- it ends at a number that has none
  have stop : ∀ k, k < c → (hb T L (numP T L p k) = 32 → dgc T L (skc T L (numP T L p k)) = 0) → ∃ N', ∀ kk, M_X1_readCommand_66s x kk (e, nI k, tT t (numN T L p N k) (nI (numP T L p k)) (some e)) = some (nI (numP T L p (k + 1)), tT t N' (nI (numP T L p (k + 1))) (some e)) := by
    intro k hk q
    by_cases q1 : hb T L (numP T L p k) = 32
    · refine ⟨numN T L p N (k + 1), fun kk => ?_⟩
      unfold M_X1_readCommand_66s
      simp only [chk, ob_some, hwn]
      rw [if_neg (nI_ge hk (by omega)), rn k hk, if_pos q1, ob_some, decide_eq_false (show ¬ 0 < dgc T L (skc T L (numP T L p k)) by rw [q q1]; omega), if_pos (show zI false = 0 from rfl), tT_at]
    · refine ⟨numN T L p N k, fun kk => ?_⟩
      have e2 : numP T L p (k + 1) = numP T L p k := by show (num1 T L (numP T L p k)).2.1 = _; unfold num1; rw [if_neg q1]
      unfold M_X1_readCommand_66s
      simp only [chk, ob_some, hwn]
      rw [if_neg (nI_ge hk (by omega)), rn k hk, if_neg q1, ob_some, if_pos (show zI false = 0 from rfl), e2, tT_at]
  have tail : ∀ kk, M_X1_readCommand_66s x kk (e, nI c, tT t (numN T L p N c) (nI (numP T L p c)) (some e)) = if hb T L (skc T L (numP T L p c)) = 59 then some (-1, tT t (numN T L p N c) (nI (skc T L (numP T L p c) + 1)) (some e)) else some (nI (skc T L (numP T L p c)), tT t (numN T L p N c) (nI (skc T L (numP T L p c))) (some e)) := by
    intro kk
    have hs := skc_le (T := T) (hP c).2 hL
    have e1 : M_X1_skipSpaces (tT t (numN T L p N c) (nI (numP T L p c)) (some e)) = some (tT t (numN T L p N c) (nI (skc T L (numP T L p c))) (some e)) := c_skip (t := tT t (numN T L p N c) (nI (numP T L p c)) (some e)) h hL (hP c).2 rfl
    have e2 : M_X1_byteAt (tT t (numN T L p N c) (nI (skc T L (numP T L p c))) (some e)) (ts_cur (tT t (numN T L p N c) (nI (skc T L (numP T L p c))) (some e))) = hb T L (skc T L (numP T L p c)) := c_byte (t := tT t (numN T L p N c) (nI (skc T L (numP T L p c))) (some e)) h hL (by omega)
    unfold M_X1_readCommand_66s
    simp only [chk, ob_some, hwn]
    rw [if_pos (Int32.le_refl _), e1, ob_some, e2, tb_eq, tT_at, tT_set, nI_1]
  have good : ∀ k, k < c → numB T L p k = false → hb T L (numP T L p k) = 32 ∧ 0 < dgc T L (skc T L (numP T L p k)) := by
    intro k hk q
    unfold numB num1 at q
    by_cases q1 : hb T L (numP T L p k) = 32
    · rw [if_pos q1] at q
      have q : (!(decide (0 < spn isDg T L (skc T L (numP T L p k))) && decide (spn isDg T L (skc T L (numP T L p k)) ≤ 3))) = false := q
      by_cases q2 : 0 < spn isDg T L (skc T L (numP T L p k))
      · refine ⟨q1, ?_⟩
        unfold dgc; split <;> omega
      · rw [decide_eq_false q2, Bool.false_and] at q; cases q
    · rw [if_neg q1] at q; cases q
  unfold cmdN
  cases hf : fst' (numB T L p) c with
  | none =>
    have hall := fst'_none.mp hf
    have run : lpF (M_X1_readCommand_66s x) 400 (e, (0 : Int32), tT t N (nI p) (some e)) = if hb T L (skc T L (numP T L p c)) = 59 then some (-1, tT t (numN T L p N c) (nI (skc T L (numP T L p c) + 1)) (some e)) else some (nI (skc T L (numP T L p c)), tT t (numN T L p N c) (nI (skc T L (numP T L p c))) (some e)) :=
      lp_run (fun k => (e, nI k, tT t (numN T L p N k) (nI (numP T L p k)) (some e))) c (fun k hk kk => step k hk (good k hk (hall k hk)).1 (good k hk (hall k hk)).2 kk) tail 400 (by omega)
    by_cases q : hb T L (skc T L (numP T L p c)) = 59
    · rw [if_pos q] at run
      simp only [if_pos q]
      exact ⟨numN T L p N c, _, run, fun _ => ⟨rfl, fun k hk => numN_get c k hk⟩⟩
    · rw [if_neg q] at run
      simp only [if_neg q]
      exact ⟨numN T L p N c, _, run, fun w => by cases w⟩
  | some j =>
    obtain ⟨hj, hbad, hbef⟩ := fst'_some.mp hf
    have before : ∀ k, k < j → ∀ kk, M_X1_readCommand_66s x kk (e, nI k, tT t (numN T L p N k) (nI (numP T L p k)) (some e)) = kk (e, nI (k + 1), tT t (numN T L p N (k + 1)) (nI (numP T L p (k + 1))) (some e)) := fun k hk kk => step k (by omega) (good k (by omega) (hbef k hk)).1 (good k (by omega) (hbef k hk)).2 kk
    by_cases q1 : hb T L (numP T L p j) = 32 ∧ 0 < dgc T L (skc T L (numP T L p j))
    · -- more than three digits: found at the next place
      have s3 : 3 < spn isDg T L (skc T L (numP T L p j)) := by
        unfold numB num1 at hbad
        rw [if_pos q1.1] at hbad
        have hbad : (!(decide (0 < spn isDg T L (skc T L (numP T L p j))) && decide (spn isDg T L (skc T L (numP T L p j)) ≤ 3))) = true := hbad
        have g1 := dgc_le T L (skc T L (numP T L p j))
        have g2 : 0 < spn isDg T L (skc T L (numP T L p j)) := by omega
        rw [decide_eq_true g2, Bool.true_and] at hbad
        rcases Nat.lt_or_ge 3 (spn isDg T L (skc T L (numP T L p j))) with z | z
        · exact z
        · rw [decide_eq_true z] at hbad; cases hbad
      have dg : isDg (hb T L (numP T L p (j + 1))) = true := by
        have e2 : numP T L p (j + 1) = skc T L (numP T L p j) + 3 := by
          show (num1 T L (numP T L p j)).2.1 = _
          unfold num1
          rw [if_pos q1.1]
          show skc T L (numP T L p j) + dgc T L (skc T L (numP T L p j)) = _
          have : dgc T L (skc T L (numP T L p j)) = 3 := by unfold dgc; rw [if_neg (by omega)]
          rw [this]
        rw [e2]
        exact (spn_spec (q := isDg) (T := T) (by decide) (skc_le (hP j).2 hL) hL).2.1 3 s3
      have n32 : ¬ hb T L (numP T L p (j + 1)) = 32 := fun z => by rw [z] at dg; exact absurd dg (by decide)
      have n59 : ¬ hb T L (numP T L p (j + 1)) = 59 := fun z => by rw [z] at dg; exact absurd dg (by decide)
      have e2 : j + 1 < c → numP T L p (j + 2) = numP T L p (j + 1) := by
        intro _
        show (num1 T L (numP T L p (j + 1))).2.1 = _
        unfold num1
        rw [if_neg n32]
      have fin : ∃ N', ∀ kk, M_X1_readCommand_66s x kk (e, nI (j + 1), tT t (numN T L p N (j + 1)) (nI (numP T L p (j + 1))) (some e)) = some (nI (numP T L p (j + 1)), tT t N' (nI (numP T L p (j + 1))) (some e)) := by
        by_cases q2 : j + 1 < c
        · refine ⟨numN T L p N (j + 1), fun kk => ?_⟩
          unfold M_X1_readCommand_66s
          simp only [chk, ob_some, hwn]
          rw [if_neg (nI_ge q2 (by omega)), rn (j + 1) q2, if_neg n32, ob_some, if_pos (show zI false = 0 from rfl), tT_at]
        · have e3 : j + 1 = c := by omega
          refine ⟨numN T L p N (j + 1), fun kk => ?_⟩
          have := tail kk
          rw [← e3, skc_idem n32, if_neg n59] at this
          exact this
      obtain ⟨N', fin⟩ := fin
      refine ⟨N', _, lp_run (fun k => (e, nI k, tT t (numN T L p N k) (nI (numP T L p k)) (some e))) (j + 1) (fun k hk kk => ?_) fin 400 (by omega), fun w => by cases w⟩
      by_cases q3 : k = j
      · subst q3
        exact step k hj q1.1 q1.2 kk
      · exact before k (by omega) kk
    · obtain ⟨N', hN'⟩ := stop j hj (fun z => by
        rcases Nat.eq_zero_or_pos (dgc T L (skc T L (numP T L p j))) with w | w
        · exact w
        · exact absurd ⟨z, w⟩ q1)
      exact ⟨N', _, lp_run (fun k => (e, nI k, tT t (numN T L p N k) (nI (numP T L p k)) (some e))) j (fun k hk kk => before k hk kk) hN' 400 (by omega), fun w => by cases w⟩
