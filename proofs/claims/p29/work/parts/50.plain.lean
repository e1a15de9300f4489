/-! PART 50: plain facts for the mirrors of the class (whole's parts 13p49 to 13p72 and 82, what speaks of the class alone) -/
def fb_ct (p : Nat → Bool) : Nat → Nat
  | 0 => 0
  | n + 1 => fb_ct p n + (if p n then 1 else 0)
theorem fb_ct_succ (p : Nat → Bool) (n : Nat) : fb_ct p (n + 1) = fb_ct p n + (if p n then 1 else 0) := rfl
theorem fb_ct_le (p : Nat → Bool) : ∀ n, fb_ct p n ≤ n
  | 0 => Nat.le_refl _
  | n + 1 => by
    have h := fb_ct_le p n
    rw [fb_ct_succ]
    split <;> omega
theorem fb_ct_step (p : Nat → Bool) (m : Nat) : ∀ n, fb_ct p m ≤ fb_ct p (m + n)
  | 0 => Nat.le_refl _
  | n + 1 => by
    have h := fb_ct_step p m n
    show fb_ct p m ≤ fb_ct p (m + n + 1)
    rw [fb_ct_succ]
    omega
theorem fb_ct_mono (p : Nat → Bool) {m n : Nat} (h : m ≤ n) : fb_ct p m ≤ fb_ct p n := by
  have := fb_ct_step p m (n - m)
  rwa [Nat.add_sub_cancel' h] at this
theorem fb_ct_cong {p q : Nat → Bool} : ∀ {n : Nat}, (∀ k, k < n → p k = q k) → fb_ct p n = fb_ct q n
  | 0, _ => rfl
  | n + 1, h => by
    rw [fb_ct_succ, fb_ct_succ, fb_ct_cong (fun k hk => h k (by omega)), h n (by omega)]
/-- one place changed -/
theorem fb_ct_out (p : Nat → Bool) (b : Bool) {i n : Nat} (h : n ≤ i) : fb_ct (fun k => if k = i then b else p k) n = fb_ct p n :=
  fb_ct_cong fun k hk => if_neg (by omega)
theorem fb_ct_upd (p : Nat → Bool) (b : Bool) {i : Nat} : ∀ {n : Nat}, i < n → fb_ct (fun k => if k = i then b else p k) n + (if p i then 1 else 0) = fb_ct p n + (if b then 1 else 0)
  | 0, h => absurd h (Nat.not_lt_zero i)
  | n + 1, h => by
    rw [fb_ct_succ, fb_ct_succ]
    rcases Nat.lt_or_ge i n with q | q
    · have := fb_ct_upd p b q
      have e : (if n = i then b else p n) = p n := if_neg (by omega)
      rw [e]
      omega
    · have e : i = n := by omega
      subst e
      rw [fb_ct_out p b (Nat.le_refl _)]
      simp only [if_true]
      omega
theorem fb_ct_sub {p q : Nat → Bool} : ∀ {n : Nat}, (∀ k, k < n → p k = true → q k = true) → fb_ct p n ≤ fb_ct q n
  | 0, _ => Nat.le_refl _
  | n + 1, h => by
    have h1 := fb_ct_sub (n := n) (p := p) (q := q) (fun k hk => h k (by omega))
    have h2 := h n (by omega)
    rw [fb_ct_succ, fb_ct_succ]
    cases hp : p n <;> cases hq : q n <;> simp_all <;> omega
theorem fb_ct_or {p q : Nat → Bool} : ∀ {n : Nat}, (∀ k, k < n → ¬ (p k = true ∧ q k = true)) → fb_ct (fun k => p k || q k) n = fb_ct p n + fb_ct q n
  | 0, _ => rfl
  | n + 1, h => by
    have h1 := fb_ct_or (n := n) (p := p) (q := q) (fun k hk => h k (by omega))
    have h2 := h n (by omega)
    rw [fb_ct_succ, fb_ct_succ, fb_ct_succ, h1]
    cases hp : p n <;> cases hq : q n <;> simp_all <;> omega
theorem fb_ct_not (p : Nat → Bool) : ∀ n, fb_ct p n + fb_ct (fun k => !p k) n = n
  | 0 => rfl
  | n + 1 => by
    have h := fb_ct_not p n
    rw [fb_ct_succ, fb_ct_succ]
    cases p n <;> simp <;> omega
theorem fb_ct_split (p : Nat → Bool) (m : Nat) : ∀ n, fb_ct p (m + n) = fb_ct p m + fb_ct (fun k => p (m + k)) n
  | 0 => rfl
  | n + 1 => by
    have h := fb_ct_split p m n
    show fb_ct p (m + n + 1) = _
    rw [fb_ct_succ, fb_ct_succ, h, Nat.add_assoc]
theorem fb_ct_zero {p : Nat → Bool} : ∀ {n : Nat}, fb_ct p n = 0 ↔ ∀ k, k < n → p k = false
  | 0 => ⟨fun _ k hk => absurd hk (Nat.not_lt_zero k), fun _ => rfl⟩
  | n + 1 => by
    have h := fb_ct_zero (p := p) (n := n)
    rw [fb_ct_succ]
    constructor
    · intro e k hk
      have e1 : fb_ct p n = 0 := by omega
      rcases Nat.lt_or_ge k n with q | q
      · exact h.mp e1 k q
      · have ek : k = n := by omega
        subst ek
        cases hp : p k
        · rfl
        · simp [hp] at e
    · intro a
      rw [h.mpr (fun k hk => a k (by omega)), a n (by omega)]
      rfl
theorem fb_ct_pos {p : Nat → Bool} {n : Nat} : 0 < fb_ct p n ↔ ∃ k, k < n ∧ p k = true := by
  constructor
  · intro h
    refine Classical.byContradiction fun hx => ?_
    have := fb_ct_zero.mpr (fun k hk => by
      cases hp : p k
      · rfl
      · exact absurd ⟨k, hk, hp⟩ hx : ∀ k, k < n → p k = false)
    omega
  · rintro ⟨k, hk, hp⟩
    rcases Nat.eq_zero_or_pos (fb_ct p n) with e | e
    · have := fb_ct_zero.mp e k hk
      rw [this] at hp
      cases hp
    · exact e
theorem fb_ct_all {p : Nat → Bool} {n : Nat} : fb_ct p n = n ↔ ∀ k, k < n → p k = true := by
  have h := fb_ct_not p n
  constructor
  · intro e k hk
    have z : fb_ct (fun k => !p k) n = 0 := by omega
    have := fb_ct_zero.mp z k hk
    cases hp : p k
    · simp [hp] at this
    · rfl
  · intro a
    have z : fb_ct (fun k => !p k) n = 0 := fb_ct_zero.mpr (fun k hk => by simp [a k hk])
    omega
/-- the k-th place with the property -/
theorem fb_ct_kth {p : Nat → Bool} {k : Nat} : ∀ {n : Nat}, k < fb_ct p n → ∃ i, i < n ∧ p i = true ∧ fb_ct p i = k
  | 0, h => absurd h (Nat.not_lt_zero k)
  | n + 1, h => by
    rcases Nat.lt_or_ge k (fb_ct p n) with q | q
    · obtain ⟨i, h1, h2⟩ := fb_ct_kth q
      exact ⟨i, by omega, h2⟩
    · rw [fb_ct_succ] at h
      cases hp : p n
      · simp [hp] at h; omega
      · simp [hp] at h
        exact ⟨n, by omega, hp, by omega⟩
theorem fb_ct_kth_one {p : Nat → Bool} {i j : Nat} (hi : p i = true) (hj : p j = true) (e : fb_ct p i = fb_ct p j) : i = j := by
  have key : ∀ a b : Nat, a < b → p a = true → fb_ct p a < fb_ct p b := by
    intro a b hab ha
    have h := fb_ct_mono p (show a + 1 ≤ b from hab)
    rw [fb_ct_succ, ha] at h
    simp at h
    omega
  rcases Nat.lt_trichotomy i j with q | q | q
  · have := key i j q hi; omega
  · exact q
  · have := key j i q hj; omega
/-! ===== bits of a long that isn't negative ===== -/
theorem fb_andL (a b : Nat) : lN a &&& lN b = lN (a &&& b) := by
  apply Int64.toBitVec_inj.1
  show BitVec.ofNat 64 a &&& BitVec.ofNat 64 b = BitVec.ofNat 64 (a &&& b)
  apply BitVec.eq_of_getLsbD_eq
  intro i hi
  simp [hi]
theorem fb_orL (a b : Nat) : lN a ||| lN b = lN (a ||| b) := by
  apply Int64.toBitVec_inj.1
  show BitVec.ofNat 64 a ||| BitVec.ofNat 64 b = BitVec.ofNat 64 (a ||| b)
  apply BitVec.eq_of_getLsbD_eq
  intro i hi
  simp [hi]
theorem fb_xorL (a b : Nat) : lN a ^^^ lN b = lN (a ^^^ b) := by
  apply Int64.toBitVec_inj.1
  show BitVec.ofNat 64 a ^^^ BitVec.ofNat 64 b = BitVec.ofNat 64 (a ^^^ b)
  apply BitVec.eq_of_getLsbD_eq
  intro i hi
  simp [hi]
theorem fb_lN_inj {a b : Nat} (ha : a < 2 ^ 63) (hb : b < 2 ^ 63) : lN a = lN b ↔ a = b := by
  constructor
  · intro h
    have h1 : (BitVec.ofNat 64 a).toNat = (BitVec.ofNat 64 b).toNat := congrArg (fun x : Int64 => x.toBitVec.toNat) h
    rw [BitVec.toNat_ofNat, BitVec.toNat_ofNat, Nat.mod_eq_of_lt (by omega), Nat.mod_eq_of_lt (by omega)] at h1
    exact h1
  · rintro rfl; rfl
theorem fb_bit_nat (n j : Nat) : n &&& 2 ^ j = 0 ↔ n.testBit j = false := by
  constructor
  · intro h
    have h1 : (n &&& 2 ^ j).testBit j = false := by rw [h]; simp
    rw [Nat.testBit_and] at h1
    simpa using h1
  · intro h
    apply Nat.eq_of_testBit_eq
    intro i
    rw [Nat.testBit_and]
    by_cases hi : j = i
    · subst hi; simp [h]
    · first | (simp [Nat.testBit_two_pow, hi]; done) | (simp [Nat.testBit_two_pow_of_ne hi]; done)
/-- one bit of a long -/
theorem fb_bitL {n j : Nat} (hj : j < 63) : lN n &&& lN (2 ^ j) = 0 ↔ n.testBit j = false := by
  have h2 : (2 : Nat) ^ j < 2 ^ 63 := Nat.pow_lt_pow_right (by decide) hj
  have hle : n &&& 2 ^ j ≤ 2 ^ j := Nat.and_le_right
  rw [fb_andL, ← fb_bit_nat, show (0 : Int64) = lN 0 from rfl]
  exact fb_lN_inj (by omega) (by decide)
/-- a bit set, a bit taken off -/
theorem fb_bit_set (n j i : Nat) : (n ||| 2 ^ j).testBit i = (n.testBit i || decide (i = j)) := by
  rw [Nat.testBit_or]
  by_cases h : j = i
  · subst h; simp
  · have h2 : ¬ i = j := fun e => h e.symm
    first | (simp [Nat.testBit_two_pow, h, h2]; done) | (simp [Nat.testBit_two_pow_of_ne h, h2]; done)
theorem fb_bit_flip (n j i : Nat) : (n ^^^ 2 ^ j).testBit i = (n.testBit i ^^ decide (i = j)) := by
  rw [Nat.testBit_xor]
  by_cases h : j = i
  · subst h; simp
  · have h2 : ¬ i = j := fun e => h e.symm
    first | (simp [Nat.testBit_two_pow, h, h2]; done) | (simp [Nat.testBit_two_pow_of_ne h, h2]; done)
/-! ===== lN n to 2^64: shifts, and, or, masks, one bit ===== -/
theorem wb_tb (n : Nat) : (lN n).toBitVec = BitVec.ofNat 64 n := rfl
theorem wb_inj {a b : Int64} (h : a.toBitVec = b.toBitVec) : a = b := Int64.toBitVec_inj.mp h
theorem wb_tn {n : Nat} (h : n < 2 ^ 64) : (lN n).toBitVec.toNat = n := by rw [wb_tb, BitVec.toNat_ofNat, Nat.mod_eq_of_lt h]
theorem wb_of (x : Int64) : ∃ n, n < 2 ^ 64 ∧ x = lN n := ⟨x.toBitVec.toNat, x.toBitVec.isLt, wb_inj (by rw [wb_tb]; simp)⟩
theorem wb_of32 (x : Int32) : ∃ n, n < 2 ^ 32 ∧ x = nI n := ⟨x.toBitVec.toNat, x.toBitVec.isLt, Int32.toBitVec_inj.mp (by show _ = BitVec.ofNat 32 _; simp)⟩
theorem wb_c : ∀ k, k < 64 → ((nI k).toInt64 &&& 63) = lN k := by decide +kernel
theorem wb_cu : ∀ k, k < 64 → ((nI k).toInt64.toUInt64 &&& Int64.toUInt64 63) = UInt64.ofNat k := by decide +kernel
theorem wb_sm : ∀ k, k < 64 → (BitVec.ofNat 64 k).smod 64 = BitVec.ofNat 64 k := by decide +kernel
theorem wb_pw {a b : Nat} (h : a ≤ b) : 2 ^ b = 2 ^ a * 2 ^ (b - a) := by rw [← Nat.pow_add]; congr 1; omega
theorem wb_lt2 {a b : Nat} (h : a < b) : 2 ^ a < 2 ^ b := Nat.pow_lt_pow_right (by decide) h
theorem wb_mod (n : Nat) : lN n = lN (n % 2 ^ 64) := wb_inj (by rw [wb_tb, wb_tb]; apply BitVec.eq_of_toNat_eq; rw [BitVec.toNat_ofNat, BitVec.toNat_ofNat, Nat.mod_mod])
theorem wb_shr {n k : Nat} (hn : n < 2 ^ 64) (hk : k < 64) : ((lN n).toUInt64 >>> ((nI k).toInt64.toUInt64 &&& Int64.toUInt64 63)).toInt64 = lN (n / 2 ^ k) := by
  rw [wb_cu k hk]
  apply wb_inj
  apply BitVec.eq_of_toNat_eq
  show ((lN n).toUInt64 >>> UInt64.ofNat k).toNat = (BitVec.ofNat 64 _).toNat
  have h1 : (UInt64.ofNat k).toNat = k := by
    show (BitVec.ofNat 64 k).toNat = k
    rw [BitVec.toNat_ofNat, Nat.mod_eq_of_lt (by omega)]
  have h2 : (lN n).toUInt64.toNat = n := wb_tn hn
  rw [UInt64.toNat_shiftRight, h1, h2, Nat.mod_eq_of_lt hk, Nat.shiftRight_eq_div_pow, BitVec.toNat_ofNat, Nat.mod_eq_of_lt (Nat.lt_of_le_of_lt (Nat.div_le_self _ _) hn)]
theorem wb_shl (n : Nat) {k : Nat} (hk : k < 64) : lN n <<< ((nI k).toInt64 &&& 63) = lN (n * 2 ^ k) := by
  rw [wb_c k hk]
  apply wb_inj
  rw [Int64.toBitVec_shiftLeft, wb_tb, wb_tb, wb_tb, wb_sm k hk]
  apply BitVec.eq_of_toNat_eq
  rw [BitVec.shiftLeft_eq', BitVec.toNat_shiftLeft, BitVec.toNat_ofNat, BitVec.toNat_ofNat, BitVec.toNat_ofNat, Nat.mod_eq_of_lt (show k < 2 ^ 64 by omega), Nat.shiftLeft_eq, Nat.mul_mod, Nat.mod_mod, ← Nat.mul_mod]
theorem wb_and {a b : Nat} (ha : a < 2 ^ 64) (hb : b < 2 ^ 64) : lN a &&& lN b = lN (a &&& b) := by
  apply wb_inj
  rw [Int64.toBitVec_and, wb_tb, wb_tb, wb_tb]
  apply BitVec.eq_of_toNat_eq
  rw [BitVec.toNat_and, BitVec.toNat_ofNat, BitVec.toNat_ofNat, BitVec.toNat_ofNat, Nat.mod_eq_of_lt ha, Nat.mod_eq_of_lt hb, Nat.mod_eq_of_lt (Nat.and_lt_two_pow _ hb)]
theorem wb_or {a b : Nat} (ha : a < 2 ^ 64) (hb : b < 2 ^ 64) : lN a ||| lN b = lN (a ||| b) := by
  apply wb_inj
  rw [Int64.toBitVec_or, wb_tb, wb_tb, wb_tb]
  apply BitVec.eq_of_toNat_eq
  rw [BitVec.toNat_or, BitVec.toNat_ofNat, BitVec.toNat_ofNat, BitVec.toNat_ofNat, Nat.mod_eq_of_lt ha, Nat.mod_eq_of_lt hb, Nat.mod_eq_of_lt (Nat.or_lt_two_pow ha hb)]
theorem wb_mask {n k : Nat} (hn : n < 2 ^ 64) (hk : k < 64) : lN n &&& lN (2 ^ k - 1) = lN (n % 2 ^ k) := by
  rw [wb_and hn (by have := wb_lt2 hk; omega), Nat.and_two_pow_sub_one_eq_mod]
theorem wb_a1 {n : Nat} (hn : n < 2 ^ 64) : lN n &&& 1 = lN (n % 2) := wb_mask (k := 1) hn (by decide)
theorem wb_bit {n k : Nat} (hn : n < 2 ^ 64) (hk : k < 64) : ((lN n).toUInt64 >>> ((nI k).toInt64.toUInt64 &&& Int64.toUInt64 63)).toInt64 &&& 1 = lN (n / 2 ^ k % 2) := by
  rw [wb_shr hn hk, wb_a1 (Nat.lt_of_le_of_lt (Nat.div_le_self _ _) hn)]
theorem wb_xor {q k : Nat} (hk : k < 63) (h : 2 ^ k ≤ q) (h2 : q < 2 ^ (k + 1)) : lN q ^^^ lN (2 ^ k) = lN (q - 2 ^ k) := by
  obtain ⟨r, rfl⟩ : ∃ r, q = 2 ^ k + r := ⟨q - 2 ^ k, by omega⟩
  have hr : r < 2 ^ k := by rw [Nat.pow_succ] at h2; omega
  have hx : (2 ^ k + r) ^^^ 2 ^ k = r := by
    apply Nat.eq_of_testBit_eq
    intro i
    rw [Nat.testBit_xor, Nat.testBit_two_pow]
    rcases Nat.lt_trichotomy i k with h | h | h
    · rw [Nat.testBit_two_pow_add_gt h]
      simp [show ¬ k = i by omega]
    · subst h
      rw [Nat.testBit_two_pow_add_eq]
      simp
    · have a1 : 2 ^ (k + 1) ≤ 2 ^ i := Nat.pow_le_pow_right (by decide) h
      rw [Nat.testBit_lt_two_pow (show 2 ^ k + r < 2 ^ i by omega), Nat.testBit_lt_two_pow (show r < 2 ^ i by omega)]
      simp [show ¬ k = i by omega]
  have b1 := wb_lt2 (show k + 1 < 64 by omega)
  have b2 := wb_lt2 (show k < 64 by omega)
  apply wb_inj
  rw [Int64.toBitVec_xor, wb_tb, wb_tb, wb_tb]
  apply BitVec.eq_of_toNat_eq
  rw [BitVec.toNat_xor, BitVec.toNat_ofNat, BitVec.toNat_ofNat, BitVec.toNat_ofNat, Nat.mod_eq_of_lt (by omega : 2 ^ k + r < 2 ^ 64), Nat.mod_eq_of_lt b2, hx, Nat.add_sub_cancel_left, Nat.mod_eq_of_lt (by omega)]
theorem ald_nI {n k : Nat} {f : Nat → Int32} (h : k < n) (hn : n < 2 ^ 31) : ald n f (nI k) = some (f k) := by
  unfold ald
  rw [if_pos (vpb_in.mpr (vp_in_nI h hn)), nI_clamp (by omega)]
theorem ast_nI {n k : Nat} {f : Nat → Int32} {x : Int32} (h : k < n) (hn : n < 2 ^ 31) : ast n f (nI k) x = some (upd f k x) := by
  unfold ast
  rw [if_pos (vpb_in.mpr (vp_in_nI h hn)), nI_clamp (by omega)]
theorem ob_some {α β : Type} {x : α} {f : α → Option β} : (some x).bind f = f x := rfl
/-- an order's fact -/
def fc (d : DS) (o w : Nat) : Int32 := ds_fac d (12 * o + w)
theorem c_fact (d : DS) {o w : Nat} (ho : o < 40) (hw : w < 12) : M_X3_fact d (nI o) (nI w) = fc d o w := by
  have e : nI o * (12 : Int32) + nI w = nI (12 * o + w) := by
    show nI o * nI 12 + nI w = _
    rw [pk_mul, nI_add, Nat.mul_comm]
  have h1 : ¬ nI (12 * o + w) < 0 := nI_pos (by omega)
  have h2 : ¬ (480 : Int32) ≤ nI (12 * o + w) := nI_ge (a := 12 * o + w) (b := 480) (by omega) (by omega)
  unfold M_X3_fact
  rw [e, if_neg h1, if_neg h2, nI_clamp (by omega)]
  rfl
theorem upd_same {f : Nat → Int32} {k : Nat} : upd f k (f k) = f := by
  funext j; unfold upd; split
  · next h => rw [h]
  · rfl
/-! loops -/
theorem lpF_s {α β : Type} {F : (α → Option β) → α → Option β} {n : Nat} {x : α} : lpF F (n + 1) x = F (lpF F n) x := rfl
/-- a loop through the states st 0, st 1, .., st m, that ends there -/
theorem lp_run {α β : Type} {F : (α → Option β) → α → Option β} (st : Nat → α) (m : Nat) {res : Option β} (hstep : ∀ i, i < m → ∀ k, F k (st i) = k (st (i + 1))) (hend : ∀ k, F k (st m) = res) : ∀ N, m < N → lpF F N (st 0) = res := by
  have key : ∀ j i, i + j = m → ∀ N, j < N → lpF F N (st i) = res := by
    intro j
    induction j with
    | zero =>
      intro i hi N hN
      obtain ⟨n, rfl⟩ : ∃ n, N = n + 1 := ⟨N - 1, by omega⟩
      have e : i = m := by omega
      rw [lpF_s, e]
      exact hend _
    | succ j ih =>
      intro i hi N hN
      obtain ⟨n, rfl⟩ : ∃ n, N = n + 1 := ⟨N - 1, by omega⟩
      rw [lpF_s, hstep i (by omega)]
      exact ih (i + 1) (by omega) n (by omega)
  intro N hN
  exact key m 0 (by omega) N hN
/-- the first place below n where p holds -/
def fst' (p : Nat → Bool) (n : Nat) : Option Nat := (List.range n).find? p
theorem fst'_none {p : Nat → Bool} {n : Nat} : fst' p n = none ↔ ∀ i, i < n → p i = false := by
  unfold fst'
  rw [List.find?_eq_none]
  constructor
  · intro h i hi
    have := h i (List.mem_range.mpr hi)
    simpa using this
  · intro h i hi
    have := h i (List.mem_range.mp hi)
    simp [this]
theorem fst'_some {p : Nat → Bool} {n k : Nat} : fst' p n = some k ↔ k < n ∧ p k = true ∧ ∀ i, i < k → p i = false := by
  unfold fst'
  induction n with
  | zero => simp
  | succ n ih =>
    rw [List.range_succ, List.find?_append]
    cases h : (List.range n).find? p with
    | some j =>
      rw [h] at ih
      simp only [Option.some_or, Option.some.injEq]
      constructor
      · rintro rfl
        obtain ⟨a, b, c⟩ := ih.mp rfl
        exact ⟨by omega, b, c⟩
      · rintro ⟨a, b, c⟩
        have h2 : fst' p n = some j := h
        rcases Nat.lt_or_ge k n with q | q
        · exact Option.some.inj (ih.mpr ⟨q, b, c⟩)
        · have hk : k = n := by omega
          subst hk
          have h3 := List.find?_some h
          have h4 := List.mem_range.mp (List.mem_of_find?_eq_some h)
          rw [c j h4] at h3
          cases h3
    | none =>
      have h2 : ∀ i, i < n → p i = false := fst'_none.mp h
      simp only [Option.none_or]
      by_cases hp : p n = true
      · rw [List.find?_cons_of_pos hp]
        simp only [Option.some.injEq]
        constructor
        · rintro rfl
          exact ⟨by omega, hp, h2⟩
        · rintro ⟨a, b, c⟩
          rcases Nat.lt_or_ge k n with q | q
          · rw [h2 k q] at b; cases b
          · omega
      · rw [List.find?_cons_of_neg (by simpa using hp)]
        simp only [List.find?_nil, reduceCtorEq, false_iff]
        rintro ⟨a, b, c⟩
        rcases Nat.lt_or_ge k n with q | q
        · rw [h2 k q] at b; cases b
        · have hk : k = n := by omega
          subst hk
          exact hp b
/-- a loop that looks for the first place -/
theorem lp_find {α β : Type} {F : (α → Option β) → α → Option β} (st : Nat → α) (n : Nat) (p : Nat → Bool) (rS : Nat → Option β) {rN : Option β} (h1 : ∀ i, i < n → p i = true → ∀ k, F k (st i) = rS i) (h2 : ∀ i, i < n → p i = false → ∀ k, F k (st i) = k (st (i + 1))) (h3 : ∀ k, F k (st n) = rN) (N : Nat) (hN : n < N) : lpF F N (st 0) = (match fst' p n with | some i => rS i | none => rN) := by
  cases h : fst' p n with
  | none =>
    have h4 := fst'_none.mp h
    exact lp_run st n (fun i hi => h2 i hi (h4 i hi)) h3 N hN
  | some j =>
    obtain ⟨a, b, c⟩ := fst'_some.mp h
    exact lp_run st j (fun i hi => h2 i (by omega) (c i hi)) (h1 j a b) N (by omega)
def optI (o : Option Nat) : Int32 := match o with
  | none => -1
  | some k => nI k
theorem zI_0 {b : Bool} : zI b = 0 ↔ b = false := by cases b <;> simp [zI]
theorem zI_if {α : Type} (b : Bool) (x y : α) : (if zI b = 0 then x else y) = if b = true then y else x := by cases b <;> simp [zI]
theorem nI_le' {a b : Nat} (ha : a < 2 ^ 31) (hb : b < 2 ^ 31) : nI a ≤ nI b ↔ a ≤ b := nI_leI ha hb
/-! ints that are naturals, bit by bit (after kit/laws/NUMBERS.to-paste) -/
theorem fa_and (a b : Nat) : nI a &&& nI b = nI (a &&& b) := by
  apply Int32.toBitVec_inj.1
  show BitVec.ofNat 32 a &&& BitVec.ofNat 32 b = BitVec.ofNat 32 (a &&& b)
  apply BitVec.eq_of_getLsbD_eq
  intro i hi
  simp [hi]
theorem fa_or (a b : Nat) : nI a ||| nI b = nI (a ||| b) := by
  apply Int32.toBitVec_inj.1
  show BitVec.ofNat 32 a ||| BitVec.ofNat 32 b = BitVec.ofNat 32 (a ||| b)
  apply BitVec.eq_of_getLsbD_eq
  intro i hi
  simp [hi]
theorem shl1 : ∀ b, b < 16 → ((1 : Int32) <<< (nI b &&& 31)) = nI (2 ^ b) := by decide +kernel
theorem nI_zero {a : Nat} (h : a < 2 ^ 31) : nI a = 0 ↔ a = 0 := nI_eq (b := 0) h (by omega)
def mb (m : Int64) (o : Nat) : Bool := m.toBitVec.getLsbD o
/-- what holds of the orders told, of the marker and of the tick -/
def DInv (d : DS) (n : Nat) : Prop :=
  (∀ o, o < n → (∃ k, k < 4 ∧ fc d o 2 = nI k) ∧ (∃ b, b < 16 ∧ fc d o 3 = nI b) ∧ (fc d o 2 = 2 → ∃ b, b < 16 ∧ fc d o 4 = nI b) ∧ (∃ t, t < 4 ∧ fc d o 5 = nI t)) ∧
  (ds_mo d = -1 ∨ ∃ o, o < n ∧ ds_mo d = nI o) ∧ ∃ t, t < 20000 ∧ ds_tick d = nI t
/-- whether an order is open, by its state -/
def opn (d : DS) (o : Nat) : Bool := decide (fc d o 5 = 0) || decide (fc d o 5 = 1)
theorem c_isOpen (d : DS) {o : Nat} (ho : o < 40) : M_X3_isOpen d (nI o) = opn d o := by
  unfold M_X3_isOpen
  have e : M_X3_fact d (nI o) (5 : Int32) = fc d o 5 := c_fact d (w := 5) ho (by decide)
  rw [e]
  simp only [M_X3_isOpen_16, M_X3_isOpen_21, opn]
  by_cases h0 : fc d o 5 = 0
  · rw [if_pos h0]; simp [h0]
  · rw [if_neg h0]
    by_cases h1 : fc d o 5 = 1
    · rw [if_pos h1]; simp [h1]
    · rw [if_neg h1]; simp [h0, h1]
/-- the last place below n where p holds, -1 if there is none -/
def lastI (p : Nat → Bool) : Nat → Int32
  | 0 => -1
  | n + 1 => if p n = true then nI n else lastI p n
/-- whether an order bears a tag -/
def tagp (d : DS) (h k : Int32) (o : Nat) : Bool := decide (fc d o 0 = h) && decide (fc d o 1 = k)
theorem c_latest {d : DS} {n : Nat} (hn : ds_ord d = nI n) (hn2 : n ≤ 40) (h k : Int32) : M_X3_latestWith d h k = some (lastI (tagp d h k) n) := by
  have key : ∀ m, m ≤ 40 → ∀ N, m < N → lpF (M_X3_latestWith_7s d h k) N (nI m - 1) = some (lastI (tagp d h k) m) := by
    intro m
    induction m with
    | zero =>
      intro _ N hN
      obtain ⟨j, rfl⟩ : ∃ j, N = j + 1 := ⟨N - 1, by omega⟩
      rw [lpF_s]
      unfold M_X3_latestWith_7s
      rw [if_pos (by decide)]
      rfl
    | succ m ih =>
      intro hm N hN
      obtain ⟨j, rfl⟩ : ∃ j, N = j + 1 := ⟨N - 1, by omega⟩
      have e1 : nI (m + 1) - 1 = nI m := nI_pred m
      have e2 : M_X3_fact d (nI m) (0 : Int32) = fc d m 0 := c_fact d (w := 0) (by omega) (by decide)
      have e3 : M_X3_fact d (nI m) (1 : Int32) = fc d m 1 := c_fact d (w := 1) (by omega) (by decide)
      have e4 : nI m + (-1) = nI m - 1 := by rw [Int32.sub_eq_add_neg]
      rw [lpF_s, e1, M_X3_latestWith_7s, if_neg (nI_pos (by omega)), e2, e3]
      simp only [M_X3_latestWith_33, e4, ih (by omega) j (by omega), lastI, tagp]
      by_cases q1 : fc d m 0 = h
      · by_cases q2 : fc d m 1 = k
        · rw [if_pos q1, if_pos q2]; simp [q1, q2]
        · rw [if_pos q1, if_neg q2]; simp [q2]
      · rw [if_neg q1]; simp [q1]
  unfold M_X3_latestWith
  rw [hn]
  exact key n hn2 64 (by omega)
/-- whether an order touches a block -/
def tch (d : DS) (o b : Nat) : Bool := (decide (fc d o 2 ≠ 3) && decide (fc d o 3 = nI b)) || (decide (fc d o 2 = 2) && decide (fc d o 4 = nI b))
/-- whether two orders get in each other's way -/
def mts (d : DS) (o e : Nat) : Bool := (decide (fc d o 2 = 3) || decide (fc d e 2 = 3)) || (List.range 16).any (fun b => tch d o b && tch d e b)
/-- the first earlier order that an order waits for -/
def fw (d : DS) (o : Nat) : Option Nat := fst' (fun e => opn d e && mts d o e) o
/-- what holds of one order told -/
def OInv (d : DS) (o : Nat) : Prop := (∃ k, k < 4 ∧ fc d o 2 = nI k) ∧ (∃ b, b < 16 ∧ fc d o 3 = nI b) ∧ (fc d o 2 = 2 → ∃ b, b < 16 ∧ fc d o 4 = nI b) ∧ (∃ t, t < 4 ∧ fc d o 5 = nI t)
/-- a claim's bits -/
theorem c_claim {d : DS} {o : Nat} (ho : o < 40) (hI : OInv d o) : ∃ c, c < 65536 ∧ M_X3_claimOf d (nI o) = nI c ∧ c ≠ 0 ∧ ∀ b, b < 16 → c.testBit b = (decide (fc d o 2 = 3) || tch d o b) := by
  have e2 : M_X3_fact d (nI o) (2 : Int32) = fc d o 2 := c_fact d (w := 2) ho (by decide)
  have e3 : M_X3_fact d (nI o) (3 : Int32) = fc d o 3 := c_fact d (w := 3) ho (by decide)
  have e4 : M_X3_fact d (nI o) (4 : Int32) = fc d o 4 := c_fact d (w := 4) ho (by decide)
  obtain ⟨⟨k, hk, ek⟩, ⟨b0, hb0, eb⟩, hc, -⟩ := hI
  have eq : ∀ {a b : Nat}, a < 16 → b < 16 → decide (nI a = nI b) = decide (b = a) := by
    intro a b ha hb
    rw [decide_eq_decide, nI_eq (by omega) (by omega)]
    exact eq_comm
  have p16 : ∀ b, b < 16 → 2 ^ b < 65536 ∧ 2 ^ b ≠ 0 := by decide +kernel
  unfold M_X3_claimOf
  simp only [e2, e3, e4, M_X3_claimOf_43]
  by_cases q1 : fc d o 2 = 3
  · rw [if_pos q1]
    refine ⟨65535, by decide, rfl, by decide, fun b hb => ?_⟩
    have : ∀ b, b < 16 → Nat.testBit 65535 b = true := by decide +kernel
    rw [this b hb]; simp [q1]
  · rw [if_neg q1]
    by_cases q2 : fc d o 2 = 2
    · rw [if_pos q2]
      obtain ⟨b1, hb1, e1⟩ := hc q2
      rw [eb, e1, shl1 b0 hb0, shl1 b1 hb1, fa_or]
      refine ⟨2 ^ b0 ||| 2 ^ b1, ?_, rfl, ?_, fun b hb => ?_⟩
      · exact Nat.or_lt_two_pow (n := 16) (p16 b0 hb0).1 (p16 b1 hb1).1
      · intro h
        have h1 : (2 ^ b0 ||| 2 ^ b1).testBit b0 = true := by simp [Nat.testBit_or, Nat.testBit_two_pow_self]
        rw [h] at h1; simp at h1
      · rw [Nat.testBit_or, Nat.testBit_two_pow, Nat.testBit_two_pow]
        unfold tch
        rw [eb, e1, eq hb0 hb, eq hb1 hb]
        have c1 : decide (b0 = b) = decide (b = b0) := by rw [decide_eq_decide]; exact eq_comm
        have c2 : decide (b1 = b) = decide (b = b1) := by rw [decide_eq_decide]; exact eq_comm
        rw [c1, c2]
        simp [q2]
    · rw [if_neg q2, eb, shl1 b0 hb0]
      refine ⟨2 ^ b0, (p16 b0 hb0).1, rfl, (p16 b0 hb0).2, fun b hb => ?_⟩
      rw [Nat.testBit_two_pow]
      unfold tch
      rw [eb, eq hb0 hb]
      have c1 : decide (b0 = b) = decide (b = b0) := by rw [decide_eq_decide]; exact eq_comm
      rw [c1]
      simp [q1, q2]
theorem c_meet {d : DS} {o e : Nat} (ho : o < 40) (he : e < 40) (hI : OInv d o) (hE : OInv d e) : (M_X3_claimOf d (nI e) &&& M_X3_claimOf d (nI o)) = 0 ↔ mts d o e = false := by
  obtain ⟨c, hc, e1, c0, cb⟩ := c_claim ho hI
  obtain ⟨c2, hc2, e2, c20, cb2⟩ := c_claim he hE
  have small : c2 &&& c < 65536 := Nat.lt_of_le_of_lt Nat.and_le_right hc
  rw [e1, e2, fa_and, nI_zero (by omega)]
  have bits : (c2 &&& c = 0) ↔ ∀ b, b < 16 → ¬ (c2.testBit b = true ∧ c.testBit b = true) := by
    constructor
    · intro h b hb ⟨h1, h2⟩
      have : (c2 &&& c).testBit b = true := by rw [Nat.testBit_and, h1, h2]; rfl
      rw [h] at this; simp at this
    · intro h
      apply Nat.eq_of_testBit_eq
      intro i
      rw [Nat.testBit_and, Nat.zero_testBit]
      by_cases hi : i < 16
      · cases q1 : c2.testBit i
        · simp
        · cases q2 : c.testBit i
          · simp
          · exact absurd ⟨q1, q2⟩ (h i hi)
      · have : c.testBit i = false := Nat.testBit_lt_two_pow (Nat.lt_of_lt_of_le hc (Nat.pow_le_pow_right (n := 2) (i := 16) (by decide) (Nat.le_of_not_lt hi) : 2 ^ 16 ≤ 2 ^ i))
        rw [this]; simp
  rw [bits]
  have some1 : ∃ b, b < 16 ∧ c.testBit b = true := by
    obtain ⟨b, hb⟩ := Nat.exists_testBit_of_ne_zero c0
    refine ⟨b, ?_, hb⟩
    rcases Nat.lt_or_ge b 16 with q | q
    · exact q
    · rw [Nat.testBit_lt_two_pow (Nat.lt_of_lt_of_le hc (Nat.pow_le_pow_right (n := 2) (i := 16) (by decide) q : 2 ^ 16 ≤ 2 ^ b))] at hb
      cases hb
  have some2 : ∃ b, b < 16 ∧ c2.testBit b = true := by
    obtain ⟨b, hb⟩ := Nat.exists_testBit_of_ne_zero c20
    refine ⟨b, ?_, hb⟩
    rcases Nat.lt_or_ge b 16 with q | q
    · exact q
    · rw [Nat.testBit_lt_two_pow (Nat.lt_of_lt_of_le hc2 (Nat.pow_le_pow_right (n := 2) (i := 16) (by decide) q : 2 ^ 16 ≤ 2 ^ b))] at hb
      cases hb
  unfold mts
  by_cases q1 : fc d o 2 = 3
  · simp only [q1, decide_true, Bool.true_or, reduceCtorEq, iff_false]
    obtain ⟨b, hb, h2⟩ := some2
    intro h
    exact h b hb ⟨h2, by rw [cb b hb, q1]; rfl⟩
  · by_cases q2 : fc d e 2 = 3
    · simp only [q2, decide_true, Bool.or_true, Bool.true_or, reduceCtorEq, iff_false]
      obtain ⟨b, hb, h2⟩ := some1
      intro h
      exact h b hb ⟨by rw [cb2 b hb, q2]; rfl, h2⟩
    · simp only [q1, q2, decide_false, Bool.or_false, Bool.false_or]
      rw [List.any_eq_false]
      constructor
      · intro h b hb
        have hb := List.mem_range.mp hb
        have := h b hb
        rw [cb b hb, cb2 b hb] at this
        simp only [q1, q2, decide_false, Bool.false_or] at this
        cases h1 : tch d o b <;> cases h2 : tch d e b <;> simp_all
      · intro h b hb ⟨h1, h2⟩
        have := h b (List.mem_range.mpr hb)
        rw [cb b hb] at h2
        rw [cb2 b hb] at h1
        simp only [q1, q2, decide_false, Bool.false_or] at h1 h2
        rw [h1, h2] at this
        exact this rfl
theorem c_isAwaited {d : DS} {o e : Nat} (ho : o < 40) (he : e < 40) (hI : OInv d o) (hE : OInv d e) : M_X3_isAwaited d (nI e) (nI o) = (opn d e && mts d o e) := by
  unfold M_X3_isAwaited
  simp only [M_X3_isAwaited_26, M_X3_isAwaited_27, c_isOpen d he, zI_if]
  cases opn d e
  · simp
  · by_cases q : (M_X3_claimOf d (nI e) &&& M_X3_claimOf d (nI o)) = 0
    · rw [if_pos q, (c_meet ho he hI hE).mp q]; simp
    · rw [if_neg q]
      have : mts d o e = true := by
        cases h : mts d o e
        · exact absurd ((c_meet ho he hI hE).mpr h) q
        · rfl
      rw [this]; simp
theorem c_firstAwaited {d : DS} {n o : Nat} (hn : n ≤ 40) (ho : o < n) (hI : ∀ o, o < n → OInv d o) : M_X3_firstAwaited d (nI o) = some (if opn d o = true then optI (fw d o) else -1) := by
  unfold M_X3_firstAwaited
  rw [c_isOpen d (by omega), zI_if]
  cases opn d o
  · simp
  · simp only [if_true]
    have h0 : (0 : Int32) = (fun i => nI i) 0 := rfl
    rw [h0]
    rw [lp_find (fun i => nI i) o (fun e => opn d e && mts d o e) (fun i => some (nI i)) (rN := some (-1)) ?_ ?_ ?_ 64 (by omega)]
    · unfold fw optI
      cases fst' (fun e => opn d e && mts d o e) o <;> rfl
    · intro i hi hp kk
      unfold M_X3_firstAwaited_12s
      rw [if_neg (nI_ge hi (by omega)), c_isAwaited (by omega) (by omega) (hI o ho) (hI i (by omega)), zI_if, hp]
      rfl
    · intro i hi hp kk
      unfold M_X3_firstAwaited_12s
      rw [if_neg (nI_ge hi (by omega)), c_isAwaited (by omega) (by omega) (hI o ho) (hI i (by omega)), zI_if, hp, nI_1]
      rfl
    · intro kk
      unfold M_X3_firstAwaited_12s
      rw [if_pos (Int32.le_refl _)]
theorem ct_lt {p : Nat → Bool} {o n : Nat} (h : o < n) : fb_ct p o < n := Nat.lt_of_le_of_lt (fb_ct_le p o) h
theorem c_setFact (d : DS) {o w : Nat} (ho : o < 40) (hw : w < 12) (v : Int32) : M_X3_setFact d (nI o) (nI w) v = ds_fac_s d (upd (ds_fac d) (12 * o + w) v) := by
  have e : nI o * (12 : Int32) + nI w = nI (12 * o + w) := by
    show nI o * nI 12 + nI w = _
    rw [pk_mul, nI_add, Nat.mul_comm]
  have h1 : ¬ nI (12 * o + w) < 0 := nI_pos (by omega)
  have h2 : ¬ (480 : Int32) ≤ nI (12 * o + w) := nI_ge (a := 12 * o + w) (b := 480) (by omega) (by omega)
  unfold M_X3_setFact
  rw [e, if_neg h1, if_neg h2, nI_clamp (by omega)]
  rfl
/-- the drive with one fact changed -/
abbrev dF (d : DS) (o w : Nat) (v : Int32) : DS := ds_fac_s d (upd (ds_fac d) (12 * o + w) v)
theorem fc_dF {d : DS} {o w o' w' : Nat} {v : Int32} (hw : w < 12) (hw' : w' < 12) : fc (dF d o w v) o' w' = if o' = o ∧ w' = w then v else fc d o' w' := by
  unfold fc
  show upd (ds_fac d) (12 * o + w) v (12 * o' + w') = _
  unfold upd
  by_cases q : o' = o ∧ w' = w
  · rw [if_pos q, if_pos (by omega)]
  · rw [if_neg q, if_neg (by omega)]
/-- the one controller and the other -/
theorem dCtl_s_dCtl {d : DS} {c k : Nat} (hc : c < 2) (hk : k < 2) (x : CS) : dCtl (dCtl_s d (nI c) x) (nI k) = if k = c then x else dCtl d (nI k) := by
  rcases (show c = 0 ∨ c = 1 by omega) with rfl | rfl <;> rcases (show k = 0 ∨ k = 1 by omega) with rfl | rfl <;> rfl
theorem wbt : ∀ o, o < 64 → ((1 : Int64) <<< ((nI o).toInt64 &&& 63)).toBitVec = BitVec.twoPow 64 o := by decide +kernel
theorem wsm : ∀ o, o < 64 → (((nI o).toInt64 &&& 63).toBitVec.smod 64).toNat = o := by decide +kernel
theorem c_holds (x : CS) {o : Nat} (ho : o < 40) : M_X2_holds x (nI o) = mb (cs_mail x) o := by
  have e : ((cs_mail x >>> ((nI o).toInt64 &&& 63)) &&& (1 : Int64)) = 0 ↔ mb (cs_mail x) o = false := by
    rw [← Int64.toBitVec_inj, Int64.toBitVec_and, Int64.toBitVec_shiftRight]
    show ((cs_mail x).toBitVec.sshiftRight (((nI o).toInt64 &&& 63).toBitVec.smod 64).toNat &&& 1#64) = 0#64 ↔ _
    rw [wsm o (by omega)]
    unfold mb
    have hl : o < 64 := by omega
    constructor
    · intro h
      have t := congrArg (fun x => x.getLsbD 0) h
      change BitVec.getLsbD (_ &&& _) 0 = _ at t
      rw [BitVec.getLsbD_and, BitVec.getLsbD_sshiftRight, if_pos (show o + 0 < 64 by omega), Nat.add_zero] at t
      cases hx : (cs_mail x).toBitVec.getLsbD o
      · rfl
      · rw [hx] at t; exact absurd t (by decide)
    · intro h
      apply BitVec.eq_of_getLsbD_eq
      intro i hi
      cases i with
      | zero => rw [BitVec.getLsbD_and, BitVec.getLsbD_sshiftRight, if_pos (show o + 0 < 64 by omega), Nat.add_zero, h]; simp
      | succ i => simp
  unfold M_X2_holds
  simp only [M_X2_holds_18, lg_cmp_eq]
  cases hb : mb (cs_mail x) o
  · rw [if_pos (e.mpr hb)]
  · rw [if_neg (fun h => by rw [e.mp h] at hb; cases hb)]
theorem mb_recv (m : Int64) {o j : Nat} (ho : o < 64) : mb (m ||| ((1 : Int64) <<< ((nI o).toInt64 &&& 63))) j = (mb m j || decide (j = o)) := by
  unfold mb
  rw [Int64.toBitVec_or, wbt o ho, BitVec.getLsbD_or, BitVec.getLsbD_twoPow]
  by_cases q : j = o
  · subst q; simp [ho]
  · have q2 : ¬ o = j := fun h => q h.symm
    simp [q, q2]
theorem mb_drop (m : Int64) {o j : Nat} (ho : o < 64) (hj : j < 64) : mb (m &&& (((1 : Int64) <<< ((nI o).toInt64 &&& 63)) ^^^ (-1 : Int64))) j = (mb m j && !decide (j = o)) := by
  have ha : (-1 : Int64).toBitVec = BitVec.allOnes 64 := by decide
  unfold mb
  rw [Int64.toBitVec_and, Int64.toBitVec_xor, wbt o ho, ha, BitVec.getLsbD_and, BitVec.getLsbD_xor, BitVec.getLsbD_twoPow, BitVec.getLsbD_allOnes]
  by_cases q : j = o
  · subst q; simp [ho]
  · have q2 : ¬ o = j := fun h => q h.symm
    simp [q, q2, hj]
theorem mb_0 (j : Nat) : mb 0 j = false := by
  show (0#64).getLsbD j = false
  simp
/-- a controller's mail -/
def ml (d : DS) (c : Nat) : Nat → Bool := mb (cs_mail (dCtl d (nI c)))
theorem c_holds' (d : DS) (c : Nat) {o : Nat} (ho : o < 40) : M_X2_holds (dCtl d (nI c)) (nI o) = ml d c o := c_holds _ ho
theorem c_ctl (d : DS) (c : Nat) (x : CS) : ds_fac (dCtl_s d (nI c) x) = ds_fac d ∧ ds_tick (dCtl_s d (nI c) x) = ds_tick d ∧ ds_ord (dCtl_s d (nI c) x) = ds_ord d ∧ ds_mo (dCtl_s d (nI c) x) = ds_mo d ∧ ds_mv (dCtl_s d (nI c) x) = ds_mv d ∧ ds_val (dCtl_s d (nI c) x) = ds_val d := ⟨rfl, rfl, rfl, rfl, rfl, rfl⟩
/-- whether an order's mail has arrived, by the clock alone -/
def arr (d : DS) (c o : Nat) : Bool := !decide (ds_tick d < fc d o (10 + c))
theorem c_hasArrived {d : DS} {c o : Nat} (hc : c < 2) (ho : o < 40) : M_X3_hasArrivedMail d (nI c) (nI o) = (ml d c o && arr d c o) := by
  have e : M_X3_fact d (nI o) ((10 : Int32) + nI c) = fc d o (10 + c) := by
    rw [show (10 : Int32) + nI c = nI (10 + c) from nI_add 10 c]
    exact c_fact d ho (by omega)
  unfold M_X3_hasArrivedMail
  simp only [c_holds' d c ho, zI_if, M_X3_hasArrivedMail_32, M_X3_hasArrivedMail_33, e, arr]
  cases hm : ml d c o
  · simp
  · by_cases q : ds_tick d < fc d o (10 + c) <;> simp [q]
/-- a loop whose state may stand still at a place -/
theorem lp_run' {α β : Type} {F : (α → Option β) → α → Option β} (st : Nat → α) (m : Nat) {res : Option β} (hstep : ∀ i, i < m → st i = st (i + 1) ∨ ∀ k, F k (st i) = k (st (i + 1))) (hend : ∀ k, F k (st m) = res) : ∀ N, m < N → lpF F N (st 0) = res := by
  have key : ∀ j i, i + j = m → ∀ N, j < N → lpF F N (st i) = res := by
    intro j
    induction j with
    | zero =>
      intro i hi N hN
      obtain ⟨n, rfl⟩ : ∃ n, N = n + 1 := ⟨N - 1, by omega⟩
      have e : i = m := by omega
      rw [lpF_s, e]
      exact hend _
    | succ j ih =>
      intro i hi N hN
      rcases hstep i (by omega) with q | q
      · rw [q]
        exact ih (i + 1) (by omega) N (by omega)
      · obtain ⟨n, rfl⟩ : ∃ n, N = n + 1 := ⟨N - 1, by omega⟩
        rw [lpF_s, q]
        exact ih (i + 1) (by omega) n (by omega)
  intro N hN
  exact key m 0 (by omega) N hN
theorem lp_find' {α β : Type} {F : (α → Option β) → α → Option β} (st : Nat → α) (n : Nat) (p : Nat → Bool) (rS : Nat → Option β) {rN : Option β} (h1 : ∀ i, i < n → p i = true → ∀ k, F k (st i) = rS i) (h2 : ∀ i, i < n → p i = false → st i = st (i + 1) ∨ ∀ k, F k (st i) = k (st (i + 1))) (h3 : ∀ k, F k (st n) = rN) (N : Nat) (hN : n < N) : lpF F N (st 0) = (match fst' p n with | some i => rS i | none => rN) := by
  cases h : fst' p n with
  | none =>
    have h4 := fst'_none.mp h
    exact lp_run' st n (fun i hi => h2 i hi (h4 i hi)) h3 N hN
  | some j =>
    obtain ⟨a, b, c⟩ := fst'_some.mp h
    exact lp_run' st j (fun i hi => h2 i (by omega) (c i hi)) (h1 j a b) N (by omega)
theorem ct_f {p : Nat → Bool} {o : Nat} (h : p o = false) : fb_ct p (o + 1) = fb_ct p o := by rw [fb_ct_succ, h]; rfl
theorem ct_t {p : Nat → Bool} {o : Nat} (h : p o = true) : fb_ct p (o + 1) = fb_ct p o + 1 := by rw [fb_ct_succ, h]; rfl
/-- an item stands in front of the list's end -/
theorem ct_in {p : Nat → Bool} {o n : Nat} (ho : o < n) (h : p o = true) : fb_ct p o < fb_ct p n := by
  have h1 := fb_ct_mono p (show o + 1 ≤ n from ho)
  rw [ct_t h] at h1
  omega
theorem c_arrivedMail {d : DS} {n c : Nat} (hn : ds_ord d = nI n) (hn2 : n ≤ 40) (hc : c < 2) : M_X3_arrivedMail d (nI c) = some (nI (fb_ct (fun o => ml d c o && arr d c o) n)) := by
  unfold M_X3_arrivedMail
  refine lp_run (fun i => (nI (fb_ct (fun o => ml d c o && arr d c o) i), nI i)) n ?_ ?_ 64 (by omega)
  · intro i hi kk
    unfold M_X3_arrivedMail_4s
    simp only [hn]
    rw [if_neg (nI_ge hi (by omega))]
    simp only [c_hasArrived hc (show i < 40 by omega), zI_if, M_X3_arrivedMail_24, nI_1]
    cases q : (ml d c i && arr d c i)
    · rw [ct_f (p := fun o => ml d c o && arr d c o) q]; simp
    · rw [ct_t (p := fun o => ml d c o && arr d c o) q]; simp
  · intro kk
    unfold M_X3_arrivedMail_4s
    simp only [hn]
    rw [if_pos (Int32.le_refl _)]
theorem nI_zI (k : Nat) (b : Bool) : nI k + zI b = nI (k + if b = true then 1 else 0) := by
  cases b
  · show nI k + nI 0 = _
    rw [nI_add]; rfl
  · show nI k + nI 1 = _
    rw [nI_add]; rfl
/-- the order at place q of a mailbox -/
def mlAt (d : DS) (c n q : Nat) : Option Nat := fst' (fun o => ml d c o && decide (fb_ct (ml d c) o = q)) n
theorem c_mailAt {d : DS} {n c q : Nat} (hn : ds_ord d = nI n) (hn2 : n ≤ 40) (hc : c < 2) (hq : q < 2 ^ 31) : M_X3_mailAt d (nI c) (nI q) = some (optI (mlAt d c n q)) := by
  unfold M_X3_mailAt
  have h0 : ((0 : Int32), (0 : Int32)) = (fun i => (nI (fb_ct (ml d c) i), nI i)) 0 := rfl
  rw [h0]
  rw [lp_find (fun i => (nI (fb_ct (ml d c) i), nI i)) n (fun o => ml d c o && decide (fb_ct (ml d c) o = q)) (fun i => some (nI i)) (rN := some (-1)) ?_ ?_ ?_ 64 (by omega)]
  · unfold mlAt optI
    cases fst' (fun o => ml d c o && decide (fb_ct (ml d c) o = q)) n <;> rfl
  · intro i hi hp kk
    have hm : ml d c i = true := by revert hp; cases ml d c i <;> simp
    have hio : fb_ct (ml d c) i = q := by revert hp; rw [hm]; simp
    unfold M_X3_mailAt_5s
    simp only [hn]
    rw [if_neg (nI_ge hi (by omega)), c_holds' d c (by omega)]
    simp only [zI_if, hm, if_true, hio]
  · intro i hi hp kk
    have hle := ct_lt (p := ml d c) hi
    unfold M_X3_mailAt_5s
    simp only [hn]
    rw [if_neg (nI_ge hi (by omega)), c_holds' d c (by omega)]
    simp only [zI_if, M_X3_mailAt_38, nI_1]
    cases hm : ml d c i
    · rw [ct_f (p := ml d c) hm]; simp
    · have hio : ¬ fb_ct (ml d c) i = q := by revert hp; rw [hm]; simp
      rw [ct_t (p := ml d c) hm]
      simp only [if_true]
      rw [if_neg (by rw [nI_eq (by omega) hq]; exact hio)]
  · intro kk
    unfold M_X3_mailAt_5s
    simp only [hn]
    rw [if_pos (Int32.le_refl _)]
theorem mlAt_some {d : DS} {c n q o : Nat} (h : mlAt d c n q = some o) : o < n ∧ ml d c o = true ∧ fb_ct (ml d c) o = q := by
  obtain ⟨a, b, -⟩ := fst'_some.mp h
  have hm : ml d c o = true := by revert b; cases ml d c o <;> simp
  refine ⟨a, hm, ?_⟩
  revert b; rw [hm]; simp
theorem mlAt_none {d : DS} {c n q : Nat} (h : mlAt d c n q = none) : fb_ct (ml d c) n ≤ q := by
  rcases Nat.lt_or_ge q (fb_ct (ml d c) n) with g | g
  · obtain ⟨i, hi, hm, hk⟩ := fb_ct_kth g
    have := fst'_none.mp h i hi
    simp [hm, hk] at this
  · exact g
/-! the first order that a controller may take -/
theorem c_isTorn (d : DS) : M_X3_isTorn d = (!decide (ds_mo d = -1) && decide (M_X3_fact d (ds_mo d) (5 : Int32) = 1)) := by
  unfold M_X3_isTorn
  simp only [M_X3_isTorn_25, M_X3_isTorn_26]
  by_cases q : ds_mo d = -1
  · rw [if_pos q]; simp [q]
  · rw [if_neg q]
    by_cases q2 : M_X3_fact d (ds_mo d) (5 : Int32) = 1 <;> simp [q, q2]
/-- all claims of the open orders in front of one -/
def clI (d : DS) : Nat → Int32
  | 0 => 0
  | i + 1 => if opn d i = true then clI d i ||| M_X3_claimOf d (nI i) else clI d i
theorem clI_bits {d : DS} {n : Nat} (hn : n ≤ 40) (hI : ∀ o, o < n → OInv d o) : ∀ i, i ≤ n → ∃ q, q < 65536 ∧ clI d i = nI q ∧ ∀ b, b < 16 → (q.testBit b = true ↔ ∃ e, e < i ∧ opn d e = true ∧ (decide (fc d e 2 = 3) || tch d e b) = true) := by
  intro i
  induction i with
  | zero =>
    intro _
    exact ⟨0, by decide, rfl, fun b _ => by simp⟩
  | succ i ih =>
    intro hi
    obtain ⟨q, hq, e, hb⟩ := ih (by omega)
    unfold clI
    cases ho : opn d i
    · refine ⟨q, hq, by rw [if_neg (by simp)]; exact e, fun b hb2 => ?_⟩
      rw [hb b hb2]
      constructor
      · rintro ⟨k, h1, h2⟩; exact ⟨k, by omega, h2⟩
      · rintro ⟨k, h1, h2, h3⟩
        refine ⟨k, ?_, h2, h3⟩
        rcases Nat.lt_or_ge k i with g | g
        · exact g
        · have : k = i := by omega
          rw [this, ho] at h2; cases h2
    · obtain ⟨c, hc, e2, -, cb⟩ := c_claim (show i < 40 by omega) (hI i (by omega))
      refine ⟨q ||| c, Nat.or_lt_two_pow (n := 16) hq hc, by rw [if_pos rfl, e, e2, fa_or], fun b hb2 => ?_⟩
      rw [Nat.testBit_or, Bool.or_eq_true, hb b hb2, cb b hb2]
      constructor
      · rintro (⟨k, h1, h2⟩ | h1)
        · exact ⟨k, by omega, h2⟩
        · exact ⟨i, by omega, ho, h1⟩
      · rintro ⟨k, h1, h2, h3⟩
        rcases Nat.lt_or_ge k i with g | g
        · exact Or.inl ⟨k, g, h2, h3⟩
        · have : k = i := by omega
          rw [this] at h3
          exact Or.inr h3
theorem clI_meet {d : DS} {n o : Nat} (hn : n ≤ 40) (ho : o < n) (hI : ∀ o, o < n → OInv d o) : (M_X3_claimOf d (nI o) &&& clI d o) = 0 ↔ fw d o = none := by
  have h1 : (M_X3_claimOf d (nI o) &&& clI d o) = 0 ↔ ∀ e, e < o → opn d e = true → (M_X3_claimOf d (nI e) &&& M_X3_claimOf d (nI o)) = 0 := by
    obtain ⟨q, hq, e, hb⟩ := clI_bits hn hI o (by omega)
    obtain ⟨c, hc, e2, -, cb⟩ := c_claim (show o < 40 by omega) (hI o ho)
    have zero : ∀ {a b : Nat}, a < 65536 → (nI a &&& nI b = 0 ↔ ∀ i, i < 16 → ¬ (a.testBit i = true ∧ b.testBit i = true)) := by
      intro a b ha
      have small : a &&& b < 65536 := Nat.lt_of_le_of_lt Nat.and_le_left ha
      rw [fa_and, nI_zero (by omega)]
      constructor
      · intro h i hi ⟨g1, g2⟩
        have : (a &&& b).testBit i = true := by rw [Nat.testBit_and, g1, g2]; rfl
        rw [h] at this; simp at this
      · intro h
        apply Nat.eq_of_testBit_eq
        intro i
        rw [Nat.testBit_and, Nat.zero_testBit]
        by_cases hi : i < 16
        · cases q1 : a.testBit i
          · simp
          · cases q2 : b.testBit i
            · simp
            · exact absurd ⟨q1, q2⟩ (h i hi)
        · have : a.testBit i = false := Nat.testBit_lt_two_pow (Nat.lt_of_lt_of_le ha (Nat.pow_le_pow_right (n := 2) (i := 16) (by decide) (Nat.le_of_not_lt hi) : 2 ^ 16 ≤ 2 ^ i))
          rw [this]; simp
    rw [e, e2, zero hc]
    constructor
    · intro h k hk hok
      obtain ⟨c3, hc3, e3, -, cb3⟩ := c_claim (show k < 40 by omega) (hI k (by omega))
      rw [e3, zero hc3]
      intro i hi ⟨g1, g2⟩
      exact h i hi ⟨g2, (hb i hi).mpr ⟨k, hk, hok, by rw [← cb3 i hi]; exact g1⟩⟩
    · intro h i hi ⟨g1, g2⟩
      obtain ⟨k, hk, hok, g3⟩ := (hb i hi).mp g2
      obtain ⟨c3, hc3, e3, -, cb3⟩ := c_claim (show k < 40 by omega) (hI k (by omega))
      have := h k hk hok
      rw [e3, zero hc3] at this
      exact this i hi ⟨by rw [cb3 i hi]; exact g3, g1⟩
  rw [h1]
  unfold fw
  rw [fst'_none]
  constructor
  · intro h e he
    cases hoe : opn d e
    · rfl
    · have := (c_meet (by omega) (by omega) (hI o ho) (hI e (by omega))).mp (h e he hoe)
      rw [this]; rfl
  · intro h e he hoe
    have := h e he
    rw [hoe] at this
    exact (c_meet (by omega) (by omega) (hI o ho) (hI e (by omega))).mpr (by simpa using this)
/-- whether a controller may take an order -/
def tk (d : DS) (c o : Nat) : Bool := opn d o && ((fw d o).isNone && (ml d c o && arr d c o))
theorem optI_m1 {o : Option Nat} (h : ∀ k, o = some k → k < 2 ^ 31) : optI o = -1 ↔ o.isNone = true := by
  cases o with
  | none => simp [optI]
  | some k =>
    simp only [optI, Option.isNone_some, Bool.false_eq_true, iff_false]
    intro h2
    exact nI_pos (n := k) (h k rfl) (by rw [h2]; decide)
theorem fw_lt {d : DS} {o k : Nat} (h : fw d o = some k) : k < o := (fst'_some.mp h).1
theorem fw_m1 {d : DS} {o : Nat} (ho : o < 40) : optI (fw d o) = -1 ↔ (fw d o).isNone = true := optI_m1 fun k hk => by have := fw_lt hk; omega
theorem c_firstTakeable {d : DS} {n c : Nat} (hn : ds_ord d = nI n) (hn2 : n ≤ 40) (hI : ∀ o, o < n → OInv d o) (hc : c < 2) : M_X3_firstTakeable d (nI c) = some (optI (fst' (tk d c) n)) := by
  unfold M_X3_firstTakeable
  have h0 : ((0 : Int32), (0 : Int32)) = (fun i => (clI d i, nI i)) 0 := rfl
  rw [h0]
  rw [lp_find (fun i => (clI d i, nI i)) n (tk d c) (fun i => some (nI i)) (rN := some (-1)) ?_ ?_ ?_ 64 (by omega)]
  · unfold optI
    cases fst' (tk d c) n <;> rfl
  · intro i hi hp kk
    have ho : opn d i = true := by revert hp; unfold tk; cases opn d i <;> simp
    have hf : fw d i = none := by
      revert hp; unfold tk; rw [ho]
      cases fw d i <;> simp
    have hma : (ml d c i && arr d c i) = true := by revert hp; unfold tk; rw [ho, hf]; simp
    unfold M_X3_firstTakeable_4s
    simp only [hn]
    rw [if_neg (nI_ge hi (by omega)), c_isOpen d (by omega), c_hasArrived hc (by omega)]
    simp only [zI_if, ho, if_true]
    rw [if_pos ((clI_meet hn2 hi hI).mpr hf), if_pos hma]
  · intro i hi hp kk
    unfold M_X3_firstTakeable_4s
    simp only [hn]
    rw [if_neg (nI_ge hi (by omega)), c_isOpen d (by omega), c_hasArrived hc (by omega)]
    simp only [zI_if, M_X3_firstTakeable_50, M_X3_firstTakeable_45, nI_1, clI]
    cases ho : opn d i
    · simp
    · simp only [if_true]
      by_cases hm : (M_X3_claimOf d (nI i) &&& clI d i) = 0
      · have hf := (clI_meet hn2 hi hI).mp hm
        have hma : (ml d c i && arr d c i) = false := by revert hp; unfold tk; rw [ho, hf]; simp
        rw [if_pos hm, hma]
        simp
      · rw [if_neg hm]
  · intro kk
    unfold M_X3_firstTakeable_4s
    simp only [hn]
    rw [if_pos (Int32.le_refl _)]
theorem c_nextOf {d : DS} {n c : Nat} (hn : ds_ord d = nI n) (hn2 : n ≤ 40) (hI : ∀ o, o < n → OInv d o) (hc : c < 2) : M_X3_nextOf d (nI c) = some (if M_X3_isTorn d = true then ds_mo d else optI (fst' (tk d c) n)) := by
  unfold M_X3_nextOf
  simp only [zI_if, c_firstTakeable hn hn2 hI hc, ob_some, M_X3_nextOf_19]
  cases M_X3_isTorn d <;> simp
