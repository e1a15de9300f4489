/-! PART 58: how many bits a mailbox has -/
def g1 (M N : Nat) : Nat := N - ((N / 2) &&& M)
def g2 (M N : Nat) : Nat := (N &&& M) + ((N / 4) &&& M)
def g3 (M N : Nat) : Nat := (N + N / 16) &&& M
def rep (b : Nat) : Nat → Nat
  | 0 => 0
  | k + 1 => 256 * rep b k + b
theorem and_bytes {H B M C : Nat} (hB : B < 256) (hC : C < 256) : (256 * H + B) &&& (256 * M + C) = 256 * (H &&& M) + (B &&& C) := by
  have hs : B &&& C < 256 := Nat.lt_of_le_of_lt Nat.and_le_left hB
  apply Nat.eq_of_testBit_eq
  intro i
  rw [Nat.testBit_and]
  have e : ∀ {X Y : Nat}, Y < 256 → (256 * X + Y).testBit i = if i < 8 then Y.testBit i else X.testBit (i - 8) := by
    intro X Y hY
    exact Nat.testBit_two_pow_mul_add X (i := 8) hY i
  rw [e hB, e hC, e hs]
  split
  · rw [Nat.testBit_and]
  · rw [Nat.testBit_and]
def pc8 (B : Nat) : Nat := g3 15 (g2 51 (g1 85 B))
theorem by1 : ∀ B, B < 256 → ∀ h, h < 2 → (128 * h + B / 2) &&& 85 = (B / 2) &&& 85 ∧ ((B / 2) &&& 85) ≤ B := by decide +kernel
theorem by2 : ∀ B, B < 256 → ∀ h, h < 4 → (64 * h + B / 4) &&& 51 = (B / 4) &&& 51 ∧ (B &&& 51) + ((B / 4) &&& 51) < 256 := by decide +kernel
theorem by3 : ∀ B, B < 256 → g2 51 (g1 85 B) ≤ 68 ∧ g2 51 (g1 85 B) % 16 ≤ 4 ∧ pc8 B ≤ 8 ∧ fb_ct B.testBit 8 = pc8 B := by decide +kernel
theorem by4 : ∀ B, B < 69 → ∀ h, h < 5 → (B + 16 * h + B / 16) &&& 15 = (B + B / 16) &&& 15 := by decide +kernel
theorem g1_step {M H B : Nat} (hB : B < 256) : g1 (256 * M + 85) (256 * H + B) = 256 * g1 M H + g1 85 B := by
  unfold g1
  have e : (256 * H + B) / 2 = 256 * (H / 2) + (128 * (H % 2) + B / 2) := by omega
  obtain ⟨a, b⟩ := by1 B hB (H % 2) (by omega)
  have c : (H / 2) &&& M ≤ H := Nat.le_trans Nat.and_le_left (by omega)
  rw [e, and_bytes (by omega) (by omega), a]
  omega
theorem g2_step {M H B : Nat} (hB : B < 256) : g2 (256 * M + 51) (256 * H + B) = 256 * g2 M H + g2 51 B := by
  unfold g2
  have e : (256 * H + B) / 4 = 256 * (H / 4) + (64 * (H % 4) + B / 4) := by omega
  obtain ⟨a, b⟩ := by2 B hB (H % 4) (by omega)
  rw [e, and_bytes (by omega) (by omega), and_bytes (by omega) (by omega), a]
  omega
theorem g3_step {M H B : Nat} (hB : B < 69) (hH : H % 16 < 5) : g3 (256 * M + 15) (256 * H + B) = 256 * g3 M H + g3 15 B := by
  unfold g3
  have e : 256 * H + B + (256 * H + B) / 16 = 256 * (H + H / 16) + (B + 16 * (H % 16) + B / 16) := by omega
  rw [e, and_bytes (by omega) (by omega), by4 B hB _ hH]
def bs : Nat → Nat → Nat
  | 0, _ => 0
  | k + 1, N => 256 * bs k (N / 256) + pc8 (N % 256)
theorem g12_low : ∀ k N, N < 256 ^ k → g2 (rep 51 k) (g1 (rep 85 k) N) % 16 < 5 ∧ g3 (rep 15 k) (g2 (rep 51 k) (g1 (rep 85 k) N)) = bs k N := by
  intro k
  induction k with
  | zero =>
    intro N hN
    have e : N = 0 := by simp at hN; exact hN
    subst e
    decide
  | succ k ih =>
    intro N hN
    have hH : N / 256 < 256 ^ k := by
      rw [Nat.pow_succ] at hN
      exact Nat.div_lt_of_lt_mul (by rw [Nat.mul_comm]; exact hN)
    have hB : N % 256 < 256 := Nat.mod_lt _ (by decide)
    obtain ⟨i1, i2⟩ := ih (N / 256) hH
    obtain ⟨b1, b2, b3, -⟩ := by3 (N % 256) hB
    have hg1 : g1 85 (N % 256) < 256 := by unfold g1; omega
    have e : N = 256 * (N / 256) + N % 256 := by omega
    have s : g2 (rep 51 (k + 1)) (g1 (rep 85 (k + 1)) N) = 256 * g2 (rep 51 k) (g1 (rep 85 k) (N / 256)) + g2 51 (g1 85 (N % 256)) := by
      show g2 (256 * rep 51 k + 51) (g1 (256 * rep 85 k + 85) N) = _
      rw [e, g1_step hB, g2_step hg1, ← e]
    rw [s]
    refine ⟨by omega, ?_⟩
    show g3 (256 * rep 15 k + 15) _ = 256 * bs k (N / 256) + pc8 (N % 256)
    rw [g3_step (by omega) i1, i2]
    rfl
theorem ct_bytes : ∀ k N, fb_ct N.testBit (8 * (k + 1)) = pc8 (N % 256) + fb_ct (N / 256).testBit (8 * k) := by
  intro k N
  rw [show 8 * (k + 1) = 8 + 8 * k by omega, fb_ct_split]
  congr 1
  · rw [← (by3 (N % 256) (Nat.mod_lt _ (by decide))).2.2.2]
    refine fb_ct_cong fun i hi => ?_
    rw [show (256 : Nat) = 2 ^ 8 from rfl, Nat.testBit_mod_two_pow]
    simp [hi]
  · refine fb_ct_cong fun i _ => ?_
    rw [show (256 : Nat) = 2 ^ 8 from rfl, Nat.testBit_div_two_pow]
    congr 1
    omega
theorem by_add {x y x' y' p q : Nat} (h1 : x = 256 * x' + p) (h2 : y = 256 * y' + q) : x + y = 256 * (x' + y') + (p + q) := by omega
theorem dv1 {a x p : Nat} (h : a = 256 * x + p) (hp : p ≤ 16) : a / 256 = x := by omega
theorem dv2 {a x y p q : Nat} (h : a = 256 * x + p) (h2 : x = 256 * y + q) (hp : p ≤ 16) (hq : q ≤ 16) : a / 65536 = y := by omega
theorem dv4 {a x y z w p q r t : Nat} (h : a = 256 * x + p) (h2 : x = 256 * y + q) (h3 : y = 256 * z + r) (h4 : z = 256 * w + t) (hp : p ≤ 32) (hq : q ≤ 32) (hr : r ≤ 32) (ht : t ≤ 32) : a / 4294967296 = w := by
  have e1 : a / 65536 = y := by clear h3 h4; omega
  have e2 : y / 65536 = w := by clear h h2 e1; omega
  have e3 : a / 4294967296 = a / 65536 / 65536 := by rw [Nat.div_div_eq_div_mul]
  rw [e3, e1, e2]
theorem fin8 {z0 z1 z4 z5 r0 r4 S : Nat} (h0 : z0 = 256 * z1 + r0) (h4 : z4 = 256 * z5 + r4) (hS : r0 + r4 = S) (hS2 : S < 128) : (z0 + z4) % 128 = S := by omega
theorem pop_sum {p0 p1 p2 p3 p4 p5 p6 p7 x6 x5 x4 x3 x2 x1 a3 : Nat} (h0 : p0 ≤ 8) (h1 : p1 ≤ 8) (h2 : p2 ≤ 8) (h3 : p3 ≤ 8) (h4 : p4 ≤ 8) (h5 : p5 ≤ 8) (h6 : p6 ≤ 8) (h7 : p7 ≤ 8)
    (q6 : x6 = 256 * p7 + p6) (q5 : x5 = 256 * x6 + p5) (q4 : x4 = 256 * x5 + p4) (q3 : x3 = 256 * x4 + p3) (q2 : x2 = 256 * x3 + p2) (q1 : x1 = 256 * x2 + p1) (q0 : a3 = 256 * x1 + p0) : (a3 + a3 / 256 + (a3 + a3 / 256) / 65536 + (a3 + a3 / 256 + (a3 + a3 / 256) / 65536) / 4294967296) % 128 = p0 + p1 + p2 + p3 + p4 + p5 + p6 + p7 := by
  have q7 : p7 = 256 * 0 + p7 := by clear q0 q1 q2 q3 q4 q5 q6; omega
  rw [dv1 q0 (Nat.le_trans h0 (by decide))]
  have y0 := by_add q0 q1
  have y1 := by_add q1 q2
  have y2 := by_add q2 q3
  have y3 := by_add q3 q4
  have y4 := by_add q4 q5
  have y5 := by_add q5 q6
  have y6 := by_add q6 q7
  rw [dv2 y0 y1 (Nat.add_le_add h0 h1) (Nat.add_le_add h1 h2)]
  have z0 := by_add y0 y2
  have z1 := by_add y1 y3
  have z2 := by_add y2 y4
  have z3 := by_add y3 y5
  have z4 := by_add y4 y6
  rw [dv4 z0 z1 z2 z3 (Nat.add_le_add (Nat.add_le_add h0 h1) (Nat.add_le_add h2 h3)) (Nat.add_le_add (Nat.add_le_add h1 h2) (Nat.add_le_add h3 h4)) (Nat.add_le_add (Nat.add_le_add h2 h3) (Nat.add_le_add h4 h5)) (Nat.add_le_add (Nat.add_le_add h3 h4) (Nat.add_le_add h5 h6))]
  refine fin8 z0 z4 ?_ ?_
  · clear q0 q1 q2 q3 q4 q5 q6 q7 y0 y1 y2 y3 y4 y5 y6 z0 z1 z2 z3 z4; omega
  · clear q0 q1 q2 q3 q4 q5 q6 q7 y0 y1 y2 y3 y4 y5 y6 z0 z1 z2 z3 z4; omega
theorem bitCount_N {N : Nat} (hN : N < 2 ^ 64) : M_J13_bitCount_95d88 (lN N) = nI (fb_ct N.testBit 64) := by
  have m1 : (6148914691236517205 : Int64) = lN (rep 85 8) := by decide
  have m2 : (3689348814741910323 : Int64) = lN (rep 51 8) := by decide
  have m4 : (1085102592571150095 : Int64) = lN (rep 15 8) := by decide
  have r1 : rep 85 8 < 2 ^ 64 := by decide
  have r2 : rep 51 8 < 2 ^ 64 := by decide
  have r4 : rep 15 8 < 2 ^ 62 := by decide
  have sh : ∀ {n k : Nat}, n < 2 ^ 64 → k < 64 → ((lN n).toUInt64 >>> ((nI k).toInt64.toUInt64 &&& Int64.toUInt64 63)).toInt64 = lN (n / 2 ^ k) := fun h k => wb_shr h k
  have s1 : ((lN N).toUInt64 >>> (((1 : Int32)).toInt64.toUInt64 &&& Int64.toUInt64 63)).toInt64 = lN (N / 2) := sh (k := 1) hN (by decide)
  obtain ⟨low, full⟩ := g12_low 8 N hN
  have a1 : g1 (rep 85 8) N < 2 ^ 64 := Nat.lt_of_le_of_lt (Nat.sub_le _ _) hN
  have a2 : g2 (rep 51 8) (g1 (rep 85 8) N) < 2 ^ 63 := by
    unfold g2
    have x1 : g1 (rep 85 8) N &&& rep 51 8 ≤ rep 51 8 := Nat.and_le_right
    have x2 : g1 (rep 85 8) N / 4 &&& rep 51 8 ≤ rep 51 8 := Nat.and_le_right
    have x3 : rep 51 8 < 2 ^ 62 := by decide
    omega
  have e1 : lN N - (lN (N / 2) &&& lN (rep 85 8)) = lN (g1 (rep 85 8) N) := by
    rw [wb_and (by omega) r1, lN_sub (Nat.le_trans Nat.and_le_left (Nat.div_le_self _ _))]
    rfl
  have s2 : ((lN (g1 (rep 85 8) N)).toUInt64 >>> (((2 : Int32)).toInt64.toUInt64 &&& Int64.toUInt64 63)).toInt64 = lN (g1 (rep 85 8) N / 4) := sh (k := 2) a1 (by decide)
  have e2 : (lN (g1 (rep 85 8) N) &&& lN (rep 51 8)) + (lN (g1 (rep 85 8) N / 4) &&& lN (rep 51 8)) = lN (g2 (rep 51 8) (g1 (rep 85 8) N)) := by
    rw [wb_and a1 r2, wb_and (by omega) r2, lN_add]
    rfl
  have s3 : ((lN (g2 (rep 51 8) (g1 (rep 85 8) N))).toUInt64 >>> (((4 : Int32)).toInt64.toUInt64 &&& Int64.toUInt64 63)).toInt64 = lN (g2 (rep 51 8) (g1 (rep 85 8) N) / 16) := sh (k := 4) (by omega) (by decide)
  have e3 : lN (g2 (rep 51 8) (g1 (rep 85 8) N) + g2 (rep 51 8) (g1 (rep 85 8) N) / 16) &&& lN (rep 15 8) = lN (bs 8 N) := by
    rw [wb_and (by omega) (by omega), ← full]
    rfl
  have lt3 : bs 8 N < 2 ^ 62 := by
    rw [← full]
    exact Nat.lt_of_le_of_lt Nat.and_le_right r4
  have hb : ∀ x, x % 256 < 256 := fun x => Nat.mod_lt _ (by decide)
  have hs := pop_sum (p0 := pc8 (N % 256)) (p1 := pc8 (N / 256 % 256)) (p2 := pc8 (N / 256 / 256 % 256)) (p3 := pc8 (N / 256 / 256 / 256 % 256)) (p4 := pc8 (N / 256 / 256 / 256 / 256 % 256)) (p5 := pc8 (N / 256 / 256 / 256 / 256 / 256 % 256)) (p6 := pc8 (N / 256 / 256 / 256 / 256 / 256 / 256 % 256)) (p7 := pc8 (N / 256 / 256 / 256 / 256 / 256 / 256 / 256 % 256)) (a3 := bs 8 N) (by3 _ (hb _)).2.2.1 (by3 _ (hb _)).2.2.1 (by3 _ (hb _)).2.2.1 (by3 _ (hb _)).2.2.1 (by3 _ (hb _)).2.2.1 (by3 _ (hb _)).2.2.1 (by3 _ (hb _)).2.2.1 (by3 _ (hb _)).2.2.1 (by simp only [bs, Nat.mul_zero, Nat.zero_add]) rfl rfl rfl rfl rfl rfl
  have s4 : ((lN (bs 8 N)).toUInt64 >>> (((8 : Int32)).toInt64.toUInt64 &&& Int64.toUInt64 63)).toInt64 = lN (bs 8 N / 256) := sh (k := 8) (by omega) (by decide)
  have s5 : ((lN (bs 8 N + bs 8 N / 256)).toUInt64 >>> (((16 : Int32)).toInt64.toUInt64 &&& Int64.toUInt64 63)).toInt64 = lN ((bs 8 N + bs 8 N / 256) / 65536) := sh (k := 16) (by omega) (by decide)
  have s6 : ((lN (bs 8 N + bs 8 N / 256 + (bs 8 N + bs 8 N / 256) / 65536)).toUInt64 >>> (((32 : Int32)).toInt64.toUInt64 &&& Int64.toUInt64 63)).toInt64 = lN ((bs 8 N + bs 8 N / 256 + (bs 8 N + bs 8 N / 256) / 65536) / 4294967296) := sh (k := 32) (by omega) (by decide)
  unfold M_J13_bitCount_95d88
  simp only [m1, m2, m4, s1, e1, s2, e2, s3, lN_add, e3, s4, s5, s6]
  rw [lN_i, show (127 : Int32) = nI 127 from rfl, fa_and, show (127 : Nat) = 2 ^ 7 - 1 from rfl, Nat.and_two_pow_sub_one_eq_mod, show (2 : Nat) ^ 7 = 128 from rfl, hs]
  congr 1
  rw [show 64 = 8 * (7 + 1) from rfl, ct_bytes, ct_bytes 6, ct_bytes 5, ct_bytes 4, ct_bytes 3, ct_bytes 2, ct_bytes 1, ct_bytes 0]
  simp only [Nat.mul_zero, fb_ct]
  omega
theorem mailSize_ok {d : DS} {f : Nat → Int32} {n c : Nat} (h : DRel d f n) (hc : c < 2) : M_X2_mailSize (dCtl d (nI c)) = nI (fb_ct (ml d c) n) := by
  have hn := h.le
  obtain ⟨N, hN, e⟩ := wb_of (cs_mail (dCtl d (nI c)))
  unfold M_X2_mailSize
  rw [e, bitCount_N hN]
  have hb : ∀ o, o < 64 → ml d c o = N.testBit o := by
    intro o ho
    unfold ml mb
    rw [e, wb_tb, BitVec.getLsbD_ofNat]
    simp [ho]
  have e1 : fb_ct N.testBit 64 = fb_ct (ml d c) 64 := (fb_ct_cong fun o ho => hb o ho).symm
  have e2 : fb_ct (ml d c) 64 = fb_ct (ml d c) n := by
    rw [show (64 : Nat) = n + (64 - n) by omega, fb_ct_split]
    have : fb_ct (fun k => ml d c (n + k)) (64 - n) = 0 := fb_ct_zero.mpr fun k hk => ml_big (y := ms_now_s default f) h hc (by omega) (by omega)
    rw [this]
    rfl
  rw [e1, e2]
