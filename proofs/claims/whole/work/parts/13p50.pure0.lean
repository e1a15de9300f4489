/-! PART 50: plain facts for the two sides' mirrors -/
theorem ald_nI {n k : Nat} {f : Nat → Int32} (h : k < n) (hn : n < 2 ^ 31) : ald n f (nI k) = some (f k) := by
  unfold ald
  rw [if_pos (vpb_in.mpr (vp_in_nI h hn)), nI_clamp (by omega)]
theorem ast_nI {n k : Nat} {f : Nat → Int32} {x : Int32} (h : k < n) (hn : n < 2 ^ 31) : ast n f (nI k) x = some (upd f k x) := by
  unfold ast
  rw [if_pos (vpb_in.mpr (vp_in_nI h hn)), nI_clamp (by omega)]
theorem ob_some {α β : Type} {x : α} {f : α → Option β} : (some x).bind f = f x := rfl
/-- an index of the row of now -/
theorem ix_order (o w : Nat) : (((116 : Int32) + ((12 : Int32) * nI o)) + nI w) = nI (116 + 12 * o + w) := by
  show (nI 116 + nI 12 * nI o) + nI w = _
  rw [pk_mul, nI_add, nI_add]
theorem ix_control (c w : Nat) : (((20 : Int32) + ((8 : Int32) * nI c)) + nI w) = nI (20 + 8 * c + w) := by
  show (nI 20 + nI 8 * nI c) + nI w = _
  rw [pk_mul, nI_add, nI_add]
theorem ix_mail (c k : Nat) : (((36 : Int32) + ((40 : Int32) * nI c)) + nI k) = nI (36 + 40 * c + k) := by
  show (nI 36 + nI 40 * nI c) + nI k = _
  rw [pk_mul, nI_add, nI_add]
theorem r_of (y : MS) {o w : Nat} (ho : o < 40) (hw : w < 12) : M_X7_of y (nI o) (nI w) = some (ms_now y (116 + 12 * o + w)) := by
  unfold M_X7_of
  rw [ix_order, ald_nI (by omega) (by omega)]
  rfl
theorem r_put (y : MS) {o w : Nat} {v : Int32} (ho : o < 40) (hw : w < 12) : M_X7_put y (nI o) (nI w) v = some (ms_now_s y (upd (ms_now y) (116 + 12 * o + w) v)) := by
  unfold M_X7_put
  rw [ix_order, ast_nI (by omega) (by omega)]
  rfl
theorem r_control (y : MS) {c w : Nat} (hc : c < 2) (hw : w < 8) : M_X7_control y (nI c) (nI w) = some (ms_now y (20 + 8 * c + w)) := by
  unfold M_X7_control
  rw [ix_control, ald_nI (by omega) (by omega)]
  rfl
theorem r_mailed (y : MS) {c k : Nat} (hc : c < 2) (hk : k < 40) : M_X7_mailed y (nI c) (nI k) = some (ms_now y (36 + 40 * c + k)) := by
  unfold M_X7_mailed
  rw [ix_mail, ald_nI (by omega) (by omega)]
  rfl
/-- an order's fact -/
def fc (d : DS) (o w : Nat) : Int32 := ds_fac d (12 * o + w)
theorem c_fact (d : DS) {o w : Nat} (ho : o < 40) (hw : w < 12) : M_X3_fact d (nI o) (nI w) = fc d o w := by
  have e : nI o * (12 : Int32) + nI w = nI (12 * o + w) := by
    show nI o * nI 12 + nI w = _
    rw [pk_mul, nI_add, Nat.mul_comm]
  have h1 : ¬ nI (12 * o + w) < 0 := nI_pos (by omega)
  have h2 : ¬ (480 : Int32) ≤ nI (12 * o + w) := nI_ge (a := 12 * o + w) (b := 480) (by omega) (by omega)
  unfold M_X3_fact
  rw [e, if_neg h1, if_neg h2, nI_clamp (by omega)]
  rfl
theorem upd_same {f : Nat → Int32} {k : Nat} : upd f k (f k) = f := by
  funext j; unfold upd; split
  · next h => rw [h]
  · rfl
/-! loops -/
theorem lpF_s {α β : Type} {F : (α → Option β) → α → Option β} {n : Nat} {x : α} : lpF F (n + 1) x = F (lpF F n) x := rfl
/-- a loop through the states st 0, st 1, .., st m, that ends there -/
theorem lp_run {α β : Type} {F : (α → Option β) → α → Option β} (st : Nat → α) (m : Nat) {res : Option β} (hstep : ∀ i, i < m → ∀ k, F k (st i) = k (st (i + 1))) (hend : ∀ k, F k (st m) = res) : ∀ N, m < N → lpF F N (st 0) = res := by
  have key : ∀ j i, i + j = m → ∀ N, j < N → lpF F N (st i) = res := by
    intro j
    induction j with
    | zero =>
      intro i hi N hN
      obtain ⟨n, rfl⟩ : ∃ n, N = n + 1 := ⟨N - 1, by omega⟩
      have e : i = m := by omega
      rw [lpF_s, e]
      exact hend _
    | succ j ih =>
      intro i hi N hN
      obtain ⟨n, rfl⟩ : ∃ n, N = n + 1 := ⟨N - 1, by omega⟩
      rw [lpF_s, hstep i (by omega)]
      exact ih (i + 1) (by omega) n (by omega)
  intro N hN
  exact key m 0 (by omega) N hN
/-- the first place below n where p holds -/
def fst' (p : Nat → Bool) (n : Nat) : Option Nat := (List.range n).find? p
theorem fst'_none {p : Nat → Bool} {n : Nat} : fst' p n = none ↔ ∀ i, i < n → p i = false := by
  unfold fst'
  rw [List.find?_eq_none]
  constructor
  · intro h i hi
    have := h i (List.mem_range.mpr hi)
    simpa using this
  · intro h i hi
    have := h i (List.mem_range.mp hi)
    simp [this]
theorem fst'_some {p : Nat → Bool} {n k : Nat} : fst' p n = some k ↔ k < n ∧ p k = true ∧ ∀ i, i < k → p i = false := by
  unfold fst'
  induction n with
  | zero => simp
  | succ n ih =>
    rw [List.range_succ, List.find?_append]
    cases h : (List.range n).find? p with
    | some j =>
      rw [h] at ih
      simp only [Option.some_or, Option.some.injEq]
      constructor
      · rintro rfl
        obtain ⟨a, b, c⟩ := ih.mp rfl
        exact ⟨by omega, b, c⟩
      · rintro ⟨a, b, c⟩
        have h2 : fst' p n = some j := h
        rcases Nat.lt_or_ge k n with q | q
        · exact Option.some.inj (ih.mpr ⟨q, b, c⟩)
        · have hk : k = n := by omega
          subst hk
          have h3 := List.find?_some h
          have h4 := List.mem_range.mp (List.mem_of_find?_eq_some h)
          rw [c j h4] at h3
          cases h3
    | none =>
      have h2 : ∀ i, i < n → p i = false := fst'_none.mp h
      simp only [Option.none_or]
      by_cases hp : p n = true
      · rw [List.find?_cons_of_pos hp]
        simp only [Option.some.injEq]
        constructor
        · rintro rfl
          exact ⟨by omega, hp, h2⟩
        · rintro ⟨a, b, c⟩
          rcases Nat.lt_or_ge k n with q | q
          · rw [h2 k q] at b; cases b
          · omega
      · rw [List.find?_cons_of_neg (by simpa using hp)]
        simp only [List.find?_nil, reduceCtorEq, false_iff]
        rintro ⟨a, b, c⟩
        rcases Nat.lt_or_ge k n with q | q
        · rw [h2 k q] at b; cases b
        · have hk : k = n := by omega
          subst hk
          exact hp b
/-- a loop that looks for the first place -/
theorem lp_find {α β : Type} {F : (α → Option β) → α → Option β} (st : Nat → α) (n : Nat) (p : Nat → Bool) (rS : Nat → Option β) {rN : Option β} (h1 : ∀ i, i < n → p i = true → ∀ k, F k (st i) = rS i) (h2 : ∀ i, i < n → p i = false → ∀ k, F k (st i) = k (st (i + 1))) (h3 : ∀ k, F k (st n) = rN) (N : Nat) (hN : n < N) : lpF F N (st 0) = (match fst' p n with | some i => rS i | none => rN) := by
  cases h : fst' p n with
  | none =>
    have h4 := fst'_none.mp h
    exact lp_run st n (fun i hi => h2 i hi (h4 i hi)) h3 N hN
  | some j =>
    obtain ⟨a, b, c⟩ := fst'_some.mp h
    exact lp_run st j (fun i hi => h2 i (by omega) (c i hi)) (h1 j a b) N (by omega)
def optI (o : Option Nat) : Int32 := match o with
  | none => -1
  | some k => nI k
theorem zI_0 {b : Bool} : zI b = 0 ↔ b = false := by cases b <;> simp [zI]
theorem zI_if {α : Type} (b : Bool) (x y : α) : (if zI b = 0 then x else y) = if b = true then y else x := by cases b <;> simp [zI]
theorem nI_le' {a b : Nat} (ha : a < 2 ^ 31) (hb : b < 2 ^ 31) : nI a ≤ nI b ↔ a ≤ b := nI_leI ha hb
/-! ints that are naturals, bit by bit (after kit/laws/NUMBERS.to-paste) -/
theorem fa_and (a b : Nat) : nI a &&& nI b = nI (a &&& b) := by
  apply Int32.toBitVec_inj.1
  show BitVec.ofNat 32 a &&& BitVec.ofNat 32 b = BitVec.ofNat 32 (a &&& b)
  apply BitVec.eq_of_getLsbD_eq
  intro i hi
  simp [hi]
theorem fa_or (a b : Nat) : nI a ||| nI b = nI (a ||| b) := by
  apply Int32.toBitVec_inj.1
  show BitVec.ofNat 32 a ||| BitVec.ofNat 32 b = BitVec.ofNat 32 (a ||| b)
  apply BitVec.eq_of_getLsbD_eq
  intro i hi
  simp [hi]
theorem shl1 : ∀ b, b < 16 → ((1 : Int32) <<< (nI b &&& 31)) = nI (2 ^ b) := by decide +kernel
theorem nI_zero {a : Nat} (h : a < 2 ^ 31) : nI a = 0 ↔ a = 0 := nI_eq (b := 0) h (by omega)
