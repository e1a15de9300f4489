/-! PART 74b: numbers, the reference -/
theorem tb_eq {α β : Type} (a : α) (f : α → β) : tb a f = f a := rfl
theorem mT_at1 (y : MS) (V w : Nat → Int32) (a C F : Int32) : ms_at (ms_numbers_s (mT y V a C F) w) = a := rfl
theorem mT_set (y : MS) (V w : Nat → Int32) (a a' C F : Int32) : ms_at_s (ms_numbers_s (mT y V a C F) w) a' = mT y w a' C F := rfl
theorem mT_at (y : MS) (V : Nat → Int32) (a C F : Int32) : ms_at (mT y V a C F) = a := rfl
theorem mT_nu (y : MS) (V : Nat → Int32) (a C F : Int32) : ms_numbers (mT y V a C F) = V := rfl
theorem mT_co (y : MS) (V : Nat → Int32) (a C F : Int32) : ms_command (mT y V a C F) = C := rfl
theorem mT_fa (y : MS) (V : Nat → Int32) (a C F : Int32) : M_X7_fails (mT y V a C F) a = (false, mT y V a C a) := rfl
theorem rn_step {x y : MS} {V : Nat → Int32} {b j k : Nat} {C F h v : Int32} (e1 : M_X7_here (mT y V (nI (b + j)) C F) = some h) (hd : isDg h = true) (hj : j < 3) (hk : k < 4) (hv : V k = v) (kk : Int32 × MS → Option (Bool × MS)) : M_X7_number_34s x (nI k) kk (nI b, mT y V (nI (b + j)) C F) = kk (nI b, mT y (upd V k ((((10 : Int32) * v) + h) - (48 : Int32))) (nI (b + j + 1)) C F) := by
  have e2 : M_X7_within h (48 : Int32) (57 : Int32) = true := hd
  have a1 : ald 4 V (nI k) = some v := by
    rw [← hv]; exact ald_nI hk (by omega)
  have a2 : ∀ w, ast 4 V (nI k) w = some (upd V k w) := fun w => ast_nI hk (by omega)
  have j3 : ¬ nI j = (3 : Int32) := fun z => by
    have := (nI_eq (b := 3) (by omega) (by omega)).mp z
    omega
  unfold M_X7_number_34s
  simp only [e1, ob_some, e2, mT_at, mT_nu, nI_subx]
  rw [if_neg (show ¬ zI true = 0 by decide), if_neg j3, a1, ob_some, a2, ob_some, tb_eq, tb_eq, mT_at1, mT_set, nI_1]
theorem rn_full {x y : MS} {V : Nat → Int32} {b k : Nat} {C F h : Int32} (e1 : M_X7_here (mT y V (nI (b + 3)) C F) = some h) (hd : isDg h = true) (kk : Int32 × MS → Option (Bool × MS)) : M_X7_number_34s x (nI k) kk (nI b, mT y V (nI (b + 3)) C F) = some (false, mT y V (nI (b + 3)) C (nI (b + 3))) := by
  have e2 : M_X7_within h (48 : Int32) (57 : Int32) = true := hd
  have e3 : ms_at (mT y V (nI (b + 3)) C F) - nI b = nI 3 := nI_subx b 3
  have e5 : M_X7_fails (mT y V (nI (b + 3)) C F) (ms_at (mT y V (nI (b + 3)) C F)) = (false, mT y V (nI (b + 3)) C (nI (b + 3))) := rfl
  unfold M_X7_number_34s
  simp only [e1, ob_some, e2]
  rw [if_neg (show ¬ zI true = 0 by decide), e3, if_pos (show nI 3 = (3 : Int32) from rfl), e5]
  simp only [tb]
theorem rn_end {x y : MS} {V : Nat → Int32} {b j k : Nat} {C F h : Int32} (e1 : M_X7_here (mT y V (nI (b + j)) C F) = some h) (hd : isDg h = false) (hj : 0 < j) (hb : b + j < 1000) (kk : Int32 × MS → Option (Bool × MS)) : M_X7_number_34s x (nI k) kk (nI b, mT y V (nI (b + j)) C F) = some (true, mT y V (nI (b + j)) C F) := by
  have e2 : M_X7_within h (48 : Int32) (57 : Int32) = false := hd
  unfold M_X7_number_34s M_X7_number_122 M_X7_number_127
  simp only [e1, ob_some, e2]
  rw [if_pos (show zI false = 0 from rfl), if_pos (show nI b < ms_at (mT y V (nI (b + j)) C F) from nI_lt (by omega) (by omega))]
theorem rn_none {x y : MS} {V : Nat → Int32} {b k : Nat} {C F h : Int32} (e1 : M_X7_here (mT y V (nI (b + 0)) C F) = some h) (hd : isDg h = false) (hb : b < 1000) (kk : Int32 × MS → Option (Bool × MS)) : M_X7_number_34s x (nI k) kk (nI b, mT y V (nI (b + 0)) C F) = some (false, mT y V (nI (b + 0)) C (nI (b + 0))) := by
  have e2 : M_X7_within h (48 : Int32) (57 : Int32) = false := hd
  have e5 : M_X7_fails (mT y V (nI (b + 0)) C F) (ms_at (mT y V (nI (b + 0)) C F)) = (false, mT y V (nI (b + 0)) C (nI (b + 0))) := rfl
  unfold M_X7_number_34s M_X7_number_127
  simp only [e1, ob_some, e2]
  rw [if_pos (show zI false = 0 from rfl), if_neg (show ¬ nI b < ms_at (mT y V (nI (b + 0)) C F) from nI_nlt (a := b) (b := b + 0) (by omega) (by omega)), e5]
  simp only [tb]
  rw [if_pos (show zI false = 0 from rfl)]
theorem r_digits {x y : MS} {T : Nat → Int32} {L b k : Nat} {N : Nat → Int32} {C F : Int32} (h : RT y T L) (hL : L ≤ 150) (hbL : b ≤ L) (hk : k < 4) : ∃ F', lpF (M_X7_number_34s x (nI k)) 64 (nI b, mT y (upd N k 0) (nI b) C F) = some (decide (0 < spn isDg T L b) && decide (spn isDg T L b ≤ 3), mT y (upd N k (vl T L b (dgc T L b))) (nI (b + dgc T L b)) C F') ∧ ((decide (0 < spn isDg T L b) && decide (spn isDg T L b ≤ 3)) = true → F' = F) ∧ ((decide (0 < spn isDg T L b) && decide (spn isDg T L b ≤ 3)) = false → F' = nI (b + dgc T L b)) := by
  obtain ⟨s1, s2, s3⟩ := spn_spec (q := isDg) (T := T) (by decide) hbL hL
  obtain ⟨S, hS⟩ : ∃ S, S = spn isDg T L b := ⟨_, rfl⟩
  obtain ⟨m, hm⟩ : ∃ m, m = dgc T L b := ⟨_, rfl⟩
  have hmc : (m = 3 ∧ 3 < S) ∨ (m = S ∧ S ≤ 3) := by
    rw [hm, hS]; unfold dgc; split <;> omega
  rw [← hm, ← hS]
  rw [← hS] at s1 s2 s3
  have here : ∀ j, j ≤ S → M_X7_here (mT y (upd N k (vl T L b j)) (nI (b + j)) C F) = some (hb T L (b + j)) := fun j hj => r_here (y := mT y (upd N k (vl T L b j)) (nI (b + j)) C F) h hL (by omega) rfl
  have step : ∀ j, j < m → ∀ kk, M_X7_number_34s x (nI k) kk (nI b, mT y (upd N k (vl T L b j)) (nI (b + j)) C F) = kk (nI b, mT y (upd N k (vl T L b (j + 1))) (nI (b + (j + 1))) C F) := by
    intro j hj kk
    rw [rn_step (here j (by omega)) (s2 j (by omega)) (by omega) hk (pk_us : upd N k (vl T L b j) k = vl T L b j) kk, upd_upd]
    rfl
  have run : ∀ res, (∀ kk, M_X7_number_34s x (nI k) kk (nI b, mT y (upd N k (vl T L b m)) (nI (b + m)) C F) = res) → lpF (M_X7_number_34s x (nI k)) 64 (nI b, mT y (upd N k 0) (nI b) C F) = res := by
    intro res hres
    exact lp_run (fun j => (nI b, mT y (upd N k (vl T L b j)) (nI (b + j)) C F)) m step hres 64 (by omega)
  rcases hmc with ⟨z1, z2⟩ | ⟨z1, z2⟩
  · have c1 : (decide (0 < S) && decide (S ≤ 3)) = false := by rw [decide_eq_false (show ¬ S ≤ 3 by omega), Bool.and_false]
    rw [c1]
    refine ⟨nI (b + m), run _ ?_, ⟨fun w => (by cases w), fun _ => rfl⟩⟩
    intro kk
    subst z1
    exact rn_full (here 3 (by omega)) (s2 3 z2) kk
  · by_cases z : 0 < m
    · have c1 : (decide (0 < S) && decide (S ≤ 3)) = true := by rw [decide_eq_true z2, decide_eq_true (show 0 < S by omega)]; rfl
      rw [c1]
      refine ⟨F, run _ ?_, ⟨fun _ => rfl, fun w => by cases w⟩⟩
      intro kk
      exact rn_end (here m (by omega)) (by rw [z1]; exact s3) z (by omega) kk
    · have c1 : (decide (0 < S) && decide (S ≤ 3)) = false := by rw [decide_eq_false (show ¬ 0 < S by omega), Bool.false_and]
      rw [c1]
      refine ⟨nI (b + m), run _ ?_, ⟨fun w => (by cases w), fun _ => rfl⟩⟩
      intro kk
      have m0 : m = 0 := by omega
      rw [m0]
      exact rn_none (here 0 (by omega)) (by rw [show (0 : Nat) = S by omega]; exact s3) (by omega) kk
theorem r_num {y : MS} {T : Nat → Int32} {L i k : Nat} {N : Nat → Int32} {C F : Int32} (h : RT y T L) (hL : L ≤ 150) (hi : i ≤ L) (hk : k < 4) : ∃ N' F', M_X7_number (mT y N (nI i) C F) (nI k) = some ((num1 T L i).1, mT y N' (nI (num1 T L i).2.1) C F') ∧ ((num1 T L i).1 = true → N' = upd N k (num1 T L i).2.2 ∧ F' = F) ∧ ((num1 T L i).1 = false → F' = nI (num1 T L i).2.1) := by
  have hT : RT (mT y N (nI i) C F) T L := h
  have e0 : M_X7_here (mT y N (nI i) C F) = some (hb T L i) := r_here hT hL (by omega) rfl
  unfold M_X7_number num1
  rw [e0, ob_some]
  by_cases q : hb T L i = 32
  · rw [if_pos q, if_pos q, r_skip hT hL hi rfl, ob_some]
    have hbL : skc T L i ≤ L := skc_le hi hL
    have a0 : ast 4 (ms_numbers (ms_at_s (mT y N (nI i) C F) (nI (skc T L i)))) (nI k) (0 : Int32) = some (upd N k 0) := ast_nI hk (by omega)
    rw [a0, ob_some]
    obtain ⟨F', e1, e2, e3⟩ := r_digits (x := mT y N (nI i) C F) (y := y) (N := N) (C := C) (F := F) h hL hbL hk
    exact ⟨_, F', e1, fun w => ⟨rfl, e2 w⟩, e3⟩
  · rw [if_neg q, if_neg q]
    have e5 : M_X7_fails (mT y N (nI i) C F) (ms_at (mT y N (nI i) C F)) = (false, mT y N (nI i) C (nI i)) := rfl
    refine ⟨N, nI i, ?_, ?_, ?_⟩
    · rw [e5]; rfl
    · intro w; cases w
    · intro _; rfl
