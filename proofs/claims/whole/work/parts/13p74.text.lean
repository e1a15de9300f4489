/-! PART 74: the text's bytes, spaces and numbers -/
/-- the byte at a place of a text of L bytes, -1 behind it -/
def hb (T : Nat → Int32) (L i : Nat) : Int32 := if i < L then T i else -1
def spn (q : Int32 → Bool) (T : Nat → Int32) (L i : Nat) : Nat := (fst' (fun k => !(q (hb T L (i + k)))) 152).getD 0
theorem spn_spec {q : Int32 → Bool} {T : Nat → Int32} {L i : Nat} (hq : q (-1) = false) (hi : i ≤ L) (hL : L ≤ 150) : i + spn q T L i ≤ L ∧ (∀ j, j < spn q T L i → q (hb T L (i + j)) = true) ∧ q (hb T L (i + spn q T L i)) = false := by
  have hend : (!(q (hb T L (i + (L - i))))) = true := by
    have : hb T L (i + (L - i)) = -1 := by unfold hb; rw [if_neg (by omega)]
    rw [this, hq]; rfl
  cases h : fst' (fun k => !(q (hb T L (i + k)))) 152 with
  | none =>
    have := fst'_none.mp h (L - i) (by omega)
    rw [hend] at this; cases this
  | some k =>
    obtain ⟨h1, h2, h3⟩ := fst'_some.mp h
    have e : spn q T L i = k := by unfold spn; rw [h]; rfl
    rw [e]
    refine ⟨?_, ?_, ?_⟩
    · rcases Nat.lt_or_ge (L - i) k with z | z
      · have := h3 (L - i) z
        rw [hend] at this; cases this
      · omega
    · intro j hj
      have := h3 j hj
      simpa using this
    · simpa using h2
def isSp (b : Int32) : Bool := decide (b = 32)
def isDg (b : Int32) : Bool := M_X6_isWithin b 48 57
def isLt (b : Int32) : Bool := M_X6_isWithin b 97 122
theorem hb_lt {T : Nat → Int32} {L i : Nat} (h : hb T L i ≠ -1) : i < L := by
  unfold hb at h
  by_cases q : i < L
  · exact q
  · rw [if_neg q] at h; exact absurd rfl h
theorem isSp_lt {T : Nat → Int32} {L i : Nat} (h : isSp (hb T L i) = true) : i < L := hb_lt (fun q => by rw [q] at h; exact absurd h (by decide))
theorem isDg_lt {T : Nat → Int32} {L i : Nat} (h : isDg (hb T L i) = true) : i < L := hb_lt (fun q => by rw [q] at h; exact absurd h (by decide))
theorem isLt_lt {T : Nat → Int32} {L i : Nat} (h : isLt (hb T L i) = true) : i < L := hb_lt (fun q => by rw [q] at h; exact absurd h (by decide))
/-- the class's text -/
def CT (t : TS) (T : Nat → Int32) (L : Nat) : Prop := ts_len t = nI L ∧ ∀ i, i < L → ts_by t i = T i
/-- the reference's text -/
def RT (y : MS) (T : Nat → Int32) (L : Nat) : Prop := ms_length y = nI L ∧ ms_text y = T
theorem c_byte {t : TS} {T : Nat → Int32} {L i : Nat} (h : CT t T L) (hL : L ≤ 150) (hi : i ≤ 1000) : M_X1_byteAt t (nI i) = hb T L i := by
  unfold M_X1_byteAt M_X1_byteAt_23 M_X1_byteAt_24 hb
  rw [if_neg (nI_pos (by omega)), h.1]
  by_cases q : i < L
  · rw [if_neg (nI_ge q (by omega)), if_pos q, x6_at (by omega) (by decide)]
    exact h.2 i q
  · rw [if_pos (nI_le (by omega) (by omega)), if_neg q]
theorem r_here {y : MS} {T : Nat → Int32} {L i : Nat} (h : RT y T L) (hL : L ≤ 150) (hi : i ≤ 1000) (ha : ms_at y = nI i) : M_X7_here y = some (hb T L i) := by
  unfold M_X7_here M_X7_here_24 hb
  rw [h.1, ha, h.2]
  by_cases q : i < L
  · rw [if_neg (nI_ge q (by omega)), if_pos q, ald_nI (by omega) (by omega)]
    rfl
  · rw [if_pos (nI_le (by omega) (by omega)), if_neg q]
/-- how many spaces stand from a place on -/
def skc (T : Nat → Int32) (L i : Nat) : Nat := i + spn isSp T L i
theorem skc_le {T : Nat → Int32} {L i : Nat} (hi : i ≤ L) (hL : L ≤ 150) : skc T L i ≤ L := (spn_spec (q := isSp) (by decide) hi hL).1
theorem skc_ge (T : Nat → Int32) (L i : Nat) : i ≤ skc T L i := Nat.le_add_right i _
theorem skc_not {T : Nat → Int32} {L i : Nat} (hi : i ≤ L) (hL : L ≤ 150) : ¬ hb T L (skc T L i) = 32 := by
  have := (spn_spec (q := isSp) (T := T) (by decide) hi hL).2.2
  exact of_decide_eq_false this
theorem skc_gt {T : Nat → Int32} {L i : Nat} (hi : i ≤ L) (hL : L ≤ 150) (h : hb T L i = 32) : i < skc T L i := by
  rcases Nat.lt_or_ge i (skc T L i) with q | q
  · exact q
  · have e : skc T L i = i := Nat.le_antisymm q (skc_ge T L i)
    have := skc_not (T := T) hi hL
    rw [e] at this
    exact absurd h this
theorem skc_idem {T : Nat → Int32} {L i : Nat} (h : ¬ hb T L i = 32) : skc T L i = i := by
  have : spn isSp T L i = 0 := by
    have h1 : fst' (fun k => !(isSp (hb T L (i + k)))) 152 = some 0 := fst'_some.mpr ⟨by omega, by show (!(isSp (hb T L (i + 0)))) = true; unfold isSp; rw [Nat.add_zero, decide_eq_false h]; rfl, fun j hj => by omega⟩
    unfold spn
    rw [h1]; rfl
  unfold skc
  rw [this]; rfl
theorem c_skip {t : TS} {T : Nat → Int32} {L i : Nat} (h : CT t T L) (hL : L ≤ 150) (hi : i ≤ L) (hc : ts_cur t = nI i) : M_X1_skipSpaces t = some (ts_cur_s t (nI (skc T L i))) := by
  obtain ⟨s1, s2, s3⟩ := spn_spec (q := isSp) (T := T) (by decide) hi hL
  unfold M_X1_skipSpaces
  have h0 : t = (fun j => ts_cur_s t (nI (i + j))) 0 := by
    show t = ts_cur_s t (nI (i + 0))
    rw [Nat.add_zero, ← hc]; rfl
  refine (congrArg (fun z => lpF (M_X1_skipSpaces_0s t) 400 z) h0).trans ?_
  refine lp_run (fun j => ts_cur_s t (nI (i + j))) (spn isSp T L i) ?_ ?_ 400 (by omega)
  · intro j hj k
    have hq := s2 j hj
    have hlt := isSp_lt hq
    have e1 : M_X1_byteAt (ts_cur_s t (nI (i + j))) (ts_cur (ts_cur_s t (nI (i + j)))) = hb T L (i + j) := c_byte (t := ts_cur_s t (nI (i + j))) h hL (by omega)
    unfold M_X1_skipSpaces_0s
    rw [if_neg (show ¬ ts_len (ts_cur_s t (nI (i + j))) ≤ ts_cur (ts_cur_s t (nI (i + j))) from by
      show ¬ ts_len t ≤ nI (i + j)
      rw [h.1]; exact nI_ge hlt (by omega)), e1, if_pos (of_decide_eq_true hq)]
    simp only [tb]
    show k (ts_cur_s t (nI (i + j) + (1 : Int32))) = _
    rw [nI_1]; rfl
  · intro k
    have e1 : M_X1_byteAt (ts_cur_s t (nI (i + spn isSp T L i))) (ts_cur (ts_cur_s t (nI (i + spn isSp T L i)))) = hb T L (i + spn isSp T L i) := c_byte (t := ts_cur_s t (nI (i + spn isSp T L i))) h hL (by omega)
    unfold M_X1_skipSpaces_0s M_X1_skipSpaces_37
    rw [e1, if_neg (of_decide_eq_false s3)]
    split <;> rfl
theorem r_skip {y : MS} {T : Nat → Int32} {L i : Nat} (h : RT y T L) (hL : L ≤ 150) (hi : i ≤ L) (hc : ms_at y = nI i) : M_X7_skips y = some (ms_at_s y (nI (skc T L i))) := by
  obtain ⟨s1, s2, s3⟩ := spn_spec (q := isSp) (T := T) (by decide) hi hL
  unfold M_X7_skips
  have h0 : y = (fun j => ms_at_s y (nI (i + j))) 0 := by
    show y = ms_at_s y (nI (i + 0))
    rw [Nat.add_zero, ← hc]; rfl
  refine (congrArg (fun z => lpF (M_X7_skips_0s y) 400 z) h0).trans ?_
  refine lp_run (fun j => ms_at_s y (nI (i + j))) (spn isSp T L i) ?_ ?_ 400 (by omega)
  · intro j hj k
    have hq := s2 j hj
    have hlt := isSp_lt hq
    have e1 : M_X7_here (ms_at_s y (nI (i + j))) = some (hb T L (i + j)) := r_here (y := ms_at_s y (nI (i + j))) h hL (by omega) rfl
    unfold M_X7_skips_0s
    rw [e1, ob_some, if_pos (of_decide_eq_true hq)]
    simp only [tb]
    show k (ms_at_s y (nI (i + j) + (1 : Int32))) = _
    rw [nI_1]; rfl
  · intro k
    have e1 : M_X7_here (ms_at_s y (nI (i + spn isSp T L i))) = some (hb T L (i + spn isSp T L i)) := r_here (y := ms_at_s y (nI (i + spn isSp T L i))) h hL (by omega) rfl
    unfold M_X7_skips_0s
    rw [e1, ob_some, if_neg (of_decide_eq_false s3)]
    rfl
/-- digits' value -/
def vl (T : Nat → Int32) (L b : Nat) : Nat → Int32
  | 0 => 0
  | j + 1 => (((10 : Int32) * vl T L b j) + hb T L (b + j)) - (48 : Int32)
/-- the digits that are read, at most three -/
def dgc (T : Nat → Int32) (L b : Nat) : Nat := if spn isDg T L b ≤ 3 then spn isDg T L b else 3
/-- the class's state with another place, word and numbers -/
def tT (t : TS) (N : Nat → Int32) (c : Int32) (w : Option Nat) : TS := ts_word_s (ts_cur_s (ts_nu_s t N) c) w
def mT (y : MS) (N : Nat → Int32) (a c f : Int32) : MS := ms_fault_s (ms_command_s (ms_at_s (ms_numbers_s y N) a) c) f
theorem tT_tT (t : TS) (N N' : Nat → Int32) (c c' : Int32) (w w' : Option Nat) : tT (tT t N c w) N' c' w' = tT t N' c' w' := rfl
theorem mT_mT (y : MS) (N N' : Nat → Int32) (a c f a' c' f' : Int32) : mT (mT y N a c f) N' a' c' f' = mT y N' a' c' f' := rfl
theorem CT.tT {t : TS} {T : Nat → Int32} {L : Nat} (h : CT t T L) (N : Nat → Int32) (c : Int32) (w : Option Nat) : CT (tT t N c w) T L := h
theorem RT.mT {y : MS} {T : Nat → Int32} {L : Nat} (h : RT y T L) (N : Nat → Int32) (a c f : Int32) : RT (mT y N a c f) T L := h
theorem c_num {t : TS} {T : Nat → Int32} {L i k : Nat} {N : Nat → Int32} {w : Option Nat} (h : CT t T L) (hL : L ≤ 150) (hi : i ≤ L) (hk : k < 4) : M_X1_readNumber (tT t N (nI i) w) (nI k) = if hb T L i = 32 then some (decide (0 < dgc T L (skc T L i)), tT t (upd N k (vl T L (skc T L i) (dgc T L (skc T L i)))) (nI (skc T L i + dgc T L (skc T L i))) w) else some (false, tT t N (nI i) w) := by
  have hT : CT (tT t N (nI i) w) T L := h
  have e0 : M_X1_byteAt (tT t N (nI i) w) (ts_cur (tT t N (nI i) w)) = hb T L i := c_byte hT hL (by omega)
  unfold M_X1_readNumber
  rw [e0]
  by_cases q : hb T L i = 32
  · rw [if_pos q, if_pos q, c_skip hT hL hi rfl, ob_some]
    obtain ⟨b, hb'⟩ : ∃ b, b = skc T L i := ⟨_, rfl⟩
    have hbL : b ≤ L := by rw [hb']; exact skc_le hi hL
    rw [← hb']
    obtain ⟨s1, s2, s3⟩ := spn_spec (q := isDg) (T := T) (by decide) hbL hL
    obtain ⟨m, hm⟩ : ∃ m, m = dgc T L b := ⟨_, rfl⟩
    have hms : m ≤ spn isDg T L b := by rw [hm]; unfold dgc; split <;> omega
    have hm3 : m ≤ 3 := by rw [hm]; unfold dgc; split <;> omega
    have hmc : m = 3 ∨ m = spn isDg T L b := by rw [hm]; unfold dgc; split <;> omega
    rw [← hm]
    have h1 : (((0 : Int32), (0 : Int32), ts_cur_s (tT t N (nI i) w) (nI b)) : Int32 × Int32 × TS) = (fun j => (nI j, vl T L b j, tT t N (nI (b + j)) w)) 0 := rfl
    rw [h1]
    refine lp_run (fun j => (nI j, vl T L b j, tT t N (nI (b + j)) w)) m ?_ ?_ 64 (by omega)
    · intro j hj kk
      have hq := s2 j (by omega)
      have e1 : M_X1_byteAt (tT t N (nI (b + j)) w) (ts_cur (tT t N (nI (b + j)) w)) = hb T L (b + j) := c_byte (t := tT t N (nI (b + j)) w) h hL (by omega)
      have e2 : M_X1_isDigit (hb T L (b + j)) = true := hq
      unfold M_X1_readNumber_23s
      simp only [e1, e2]
      rw [if_neg (show ¬ (3 : Int32) ≤ nI j from nI_ge (a := j) (b := 3) (by omega) (by omega)), if_neg (show ¬ zI true = 0 by decide)]
      simp only [tb]
      rw [nI_1]
      show kk (nI (j + 1), _, ts_cur_s (tT t N (nI (b + j)) w) (nI (b + j) + (1 : Int32))) = _
      rw [nI_1]
      rfl
    · intro kk
      have e1 : M_X1_byteAt (tT t N (nI (b + m)) w) (ts_cur (tT t N (nI (b + m)) w)) = hb T L (b + m) := c_byte (t := tT t N (nI (b + m)) w) h hL (by omega)
      have e75 : M_X1_readNumber_75 (tT t N (nI i) w) (nI k) (nI m) (vl T L b m) (tT t N (nI (b + m)) w) = some (decide (0 < m), tT t (upd N k (vl T L b m)) (nI (b + m)) w) := by
        unfold M_X1_readNumber_75 M_X1_readNumber_93
        simp only [tb]
        rw [x6_put hk (by decide)]
        by_cases z : 0 < m
        · rw [if_neg (nI_nle z (by omega)), decide_eq_true z]; rfl
        · rw [show m = 0 by omega, if_pos (show nI 0 ≤ 0 by decide)]; rfl
      unfold M_X1_readNumber_23s
      rcases hmc with z | z
      · rw [if_pos (show (3 : Int32) ≤ nI m by rw [z]; decide)]
        exact e75
      · have e2 : M_X1_isDigit (hb T L (b + m)) = false := by rw [z]; exact s3
        simp only [e1, e2]
        split
        · exact e75
        · exact (if_pos rfl).trans e75
  · rw [if_neg q, if_neg q]
/-- a number from a place on: whether it is one, the place behind it or of its fault, its value -/
def num1 (T : Nat → Int32) (L i : Nat) : Bool × Nat × Int32 := if hb T L i = 32 then (decide (0 < spn isDg T L (skc T L i)) && decide (spn isDg T L (skc T L i) ≤ 3), skc T L i + dgc T L (skc T L i), vl T L (skc T L i) (dgc T L (skc T L i))) else (false, i, 0)
