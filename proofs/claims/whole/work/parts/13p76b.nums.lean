/-! PART 76b: the numbers, the reference -/
set_option maxHeartbeats 80000 in
theorem rs_step {x y : MS} {N N' : Nat → Int32} {q k c e q' : Nat} {F F' : Int32} (hwn : M_X7_numbersOf (nI e) = nI c) (hk : k < c) (hc : c ≤ 4) (e1 : M_X7_number (mT y N (nI q) (nI e) F) (nI k) = some (true, mT y N' (nI q') (nI e) F')) (kk : Int32 × MS → Option (Bool × MS)) : M_X7_readsCommand_57s x kk (nI k, mT y N (nI q) (nI e) F) = kk (nI (k + 1), mT y N' (nI q') (nI e) F') := by
  have g : ¬ M_X7_numbersOf (ms_command (nI k, mT y N (nI q) (nI e) F).2) ≤ (nI k, mT y N (nI q) (nI e) F).1 := by
    rw [mT_co, hwn]; exact nI_ge hk (by omega)
  unfold M_X7_readsCommand_57s
  rw [if_neg g, e1, ob_some, if_neg (show ¬ zI true = 0 by decide), nI_1]
set_option maxHeartbeats 80000 in
theorem rs_stop {x y : MS} {N N' : Nat → Int32} {q k c e q' : Nat} {F F' : Int32} (hwn : M_X7_numbersOf (nI e) = nI c) (hk : k < c) (hc : c ≤ 4) (e1 : M_X7_number (mT y N (nI q) (nI e) F) (nI k) = some (false, mT y N' (nI q') (nI e) F')) (kk : Int32 × MS → Option (Bool × MS)) : M_X7_readsCommand_57s x kk (nI k, mT y N (nI q) (nI e) F) = some (false, mT y N' (nI q') (nI e) F') := by
  have g : ¬ M_X7_numbersOf (ms_command (nI k, mT y N (nI q) (nI e) F).2) ≤ (nI k, mT y N (nI q) (nI e) F).1 := by
    rw [mT_co, hwn]; exact nI_ge hk (by omega)
  unfold M_X7_readsCommand_57s
  rw [if_neg g, e1, ob_some, if_pos (show zI false = 0 from rfl)]
set_option maxHeartbeats 80000 in
theorem rs_skip {y : MS} {T : Nat → Int32} {L q : Nat} {N : Nat → Int32} {C F : Int32} (h : RT y T L) (hL : L ≤ 150) (hq : q ≤ L) : M_X7_skips (mT y N (nI q) C F) = some (mT y N (nI (skc T L q)) C F) := by
  rw [r_skip (y := mT y N (nI q) C F) (RT.mT h N (nI q) C F) hL hq (mT_at y N (nI q) C F), mT_set1]
set_option maxHeartbeats 80000 in
theorem rs_tail {x y : MS} {T : Nat → Int32} {L q c e : Nat} {N : Nat → Int32} {F : Int32} (h : RT y T L) (hL : L ≤ 150) (hq : q ≤ L) (hwn : M_X7_numbersOf (nI e) = nI c) (kk : Int32 × MS → Option (Bool × MS)) : M_X7_readsCommand_57s x kk (nI c, mT y N (nI q) (nI e) F) = if hb T L (skc T L q) = 59 then some (true, mT y N (nI (skc T L q + 1)) (nI e) F) else some (false, mT y N (nI (skc T L q)) (nI e) (nI (skc T L q))) := by
  have hs := skc_le (T := T) hq hL
  have e2 : M_X7_here (mT y N (nI (skc T L q)) (nI e) F) = some (hb T L (skc T L q)) := r_here (y := mT y N (nI (skc T L q)) (nI e) F) h hL (by omega) (mT_at _ _ _ _ _)
  have g : M_X7_numbersOf (ms_command (nI c, mT y N (nI q) (nI e) F).2) ≤ (nI c, mT y N (nI q) (nI e) F).1 := by
    rw [mT_co, hwn]; exact Int32.le_refl _
  unfold M_X7_readsCommand_57s
  rw [if_pos g, rs_skip h hL hq, ob_some, e2, ob_some, tb_eq, tb_eq, mT_at, mT_fa, mT_set1, nI_1]
set_option maxHeartbeats 200000 in
/-- the numbers and the end, the reference -/
theorem r_nums {x y : MS} {T : Nat → Int32} {L p e : Nat} {N : Nat → Int32} {F : Int32} (h : RT y T L) (hL : L ≤ 150) (hp : p ≤ L) (he : e < 10) : ∃ N' c' F', lpF (M_X7_readsCommand_57s x) 400 (nI 0, mT y N (nI p) (nI e) F) = some ((cmdN T L (wN.getD e 0) p).1, mT y N' c' (nI e) F') ∧ ((cmdN T L (wN.getD e 0) p).1 = true → c' = nI (cmdN T L (wN.getD e 0) p).2 ∧ F' = F ∧ ∀ k, k < wN.getD e 0 → N' k = numV T L p k) ∧ ((cmdN T L (wN.getD e 0) p).1 = false → F' = nI (cmdN T L (wN.getD e 0) p).2) := by
  have hc4 := wN_le e he
  obtain ⟨c, hc⟩ : ∃ c, c = wN.getD e 0 := ⟨_, rfl⟩
  have hwn : M_X7_numbersOf (nI e) = nI c := by rw [hc]; exact nof_nI e he
  rw [← hc]
  rw [← hc] at hc4
  have hP := fun k => numP_le (T := T) hp hL k
  have step : ∀ k, k < c → numB T L p k = false → ∀ kk, M_X7_readsCommand_57s x kk (nI k, mT y (numN T L p N k) (nI (numP T L p k)) (nI e) F) = kk (nI (k + 1), mT y (numN T L p N (k + 1)) (nI (numP T L p (k + 1))) (nI e) F) := by
    intro k hk q kk
    obtain ⟨N', F', e1, e2, -⟩ := r_num (k := k) (N := numN T L p N k) (C := nI e) (F := F) h hL (hP k).2 (by omega)
    have q2 : (num1 T L (numP T L p k)).1 = true := by
      unfold numB at q
      cases z : (num1 T L (numP T L p k)).1
      · rw [z] at q; cases q
      · rfl
    obtain ⟨e3, e4⟩ := e2 q2
    rw [q2, e3, e4] at e1
    exact rs_step hwn hk hc4.1 e1 kk
  have stop : ∀ k, k < c → numB T L p k = true → ∃ N', ∀ kk, M_X7_readsCommand_57s x kk (nI k, mT y (numN T L p N k) (nI (numP T L p k)) (nI e) F) = some (false, mT y N' (nI (numP T L p (k + 1))) (nI e) (nI (numP T L p (k + 1)))) := by
    intro k hk q
    obtain ⟨N', F', e1, -, e2⟩ := r_num (k := k) (N := numN T L p N k) (C := nI e) (F := F) h hL (hP k).2 (by omega)
    have q2 : (num1 T L (numP T L p k)).1 = false := by
      unfold numB at q
      cases z : (num1 T L (numP T L p k)).1
      · rfl
      · rw [z] at q; cases q
    rw [q2, e2 q2] at e1
    exact ⟨N', fun kk => rs_stop hwn hk hc4.1 e1 kk⟩
  have tail : ∀ kk, M_X7_readsCommand_57s x kk (nI c, mT y (numN T L p N c) (nI (numP T L p c)) (nI e) F) = if hb T L (skc T L (numP T L p c)) = 59 then some (true, mT y (numN T L p N c) (nI (skc T L (numP T L p c) + 1)) (nI e) F) else some (false, mT y (numN T L p N c) (nI (skc T L (numP T L p c))) (nI e) (nI (skc T L (numP T L p c)))) := fun kk => rs_tail h hL (hP c).2 hwn kk
  unfold cmdN
  cases hf : fst' (numB T L p) c with
  | none =>
    have hall := fst'_none.mp hf
    have run := lp_run (fun k => (nI k, mT y (numN T L p N k) (nI (numP T L p k)) (nI e) F)) c (fun k hk kk => step k hk (hall k hk) kk) tail 400 (by omega)
    by_cases q : hb T L (skc T L (numP T L p c)) = 59
    · rw [if_pos q] at run
      simp only [if_pos q]
      exact ⟨numN T L p N c, _, F, run, fun _ => ⟨rfl, rfl, fun k hk => numN_get c k hk⟩, fun w => by cases w⟩
    · rw [if_neg q] at run
      simp only [if_neg q]
      exact ⟨numN T L p N c, _, _, run, fun w => (by cases w), fun _ => rfl⟩
  | some j =>
    obtain ⟨hj, hbad, hbef⟩ := fst'_some.mp hf
    obtain ⟨N', hN'⟩ := stop j hj hbad
    have run := lp_run (fun k => (nI k, mT y (numN T L p N k) (nI (numP T L p k)) (nI e) F)) j (fun k hk kk => step k (by omega) (hbef k hk) kk) hN' 400 (by omega)
    exact ⟨N', _, _, run, fun w => (by cases w), fun _ => rfl⟩
