/-! PART 75: words -/
/-- whether the l bytes from a place on are a word -/
def mwB (T : Nat → Int32) (p e : Nat) : Bool := (List.range (wLen.getD e 0)).all (fun j => decide (T (p + j) = (wByt.getD e []).getD j 0))
def mw (T : Nat → Int32) (p l e : Nat) : Bool := decide (l = wLen.getD e 0) && mwB T p e
theorem wlen_small : ∀ e, e < 10 → wLen.getD e 0 ≤ 6 := by decide +kernel
theorem chA_nI {e j : Nat} (he : e < 10) (hj : j < wLen.getD e 0) : chA e (nI j) = some ((wByt.getD e []).getD j 0) := by
  have := wlen_small e he
  unfold chA
  rw [if_pos (vpb_in.mpr (vp_in_nI hj (by omega))), nI_clamp (by omega)]
theorem c_stands {t : TS} {T : Nat → Int32} {L p l e : Nat} (h : CT t T L) (hL : L ≤ 150) (hp : p + l ≤ L) (he : e < 10) : M_X1_standsBetween t e (nI p) (nI (p + l)) = some (mw T p l e) := by
  have hs := wlen_small e he
  unfold M_X1_standsBetween mw
  rw [nI_subx]
  by_cases q : l = wLen.getD e 0
  · rw [if_pos (by rw [q]), decide_eq_true q, Bool.true_and]
    have h0 : (0 : Int32) = (fun i => nI i) 0 := rfl
    rw [h0, lp_find (fun i => nI i) (wLen.getD e 0) (fun j => !decide (T (p + j) = (wByt.getD e []).getD j 0)) (fun _ => some false) (rN := some true) ?_ ?_ ?_ 64 (by omega)]
    · unfold mwB
      cases hf : fst' (fun j => !decide (T (p + j) = (wByt.getD e []).getD j 0)) (wLen.getD e 0) with
      | none =>
        have := fst'_none.mp hf
        have e1 : (List.range (wLen.getD e 0)).all (fun j => decide (T (p + j) = (wByt.getD e []).getD j 0)) = true := by
          rw [List.all_eq_true]
          intro j hj
          have := this j (List.mem_range.mp hj)
          simpa using this
        rw [e1]
      | some j =>
        obtain ⟨h1, h2, -⟩ := fst'_some.mp hf
        have e1 : (List.range (wLen.getD e 0)).all (fun j => decide (T (p + j) = (wByt.getD e []).getD j 0)) = false := by
          rw [List.all_eq_false]
          exact ⟨j, List.mem_range.mpr h1, by simpa using h2⟩
        rw [e1]
    · intro i hi hq k
      have e1 : M_X1_byteAt t (nI p + nI i) = T (p + i) := by
        rw [nI_add, c_byte h hL (by omega)]
        unfold hb
        rw [if_pos (by omega)]
      unfold M_X1_standsBetween_15s
      rw [if_neg (nI_ge hi (by omega)), chA_nI he hi, ob_some, e1]
      have hne : ¬ T (p + i) = (wByt.getD e []).getD i 0 := by simpa using hq
      rw [if_neg (fun z => hne z.symm)]
    · intro i hi hq k
      have e1 : M_X1_byteAt t (nI p + nI i) = T (p + i) := by
        rw [nI_add, c_byte h hL (by omega)]
        unfold hb
        rw [if_pos (by omega)]
      unfold M_X1_standsBetween_15s
      rw [if_neg (nI_ge hi (by omega)), chA_nI he hi, ob_some, e1]
      have hne : T (p + i) = (wByt.getD e []).getD i 0 := by simpa using hq
      rw [if_pos hne.symm, nI_1]
    · intro k
      unfold M_X1_standsBetween_15s
      rw [if_pos (Int32.le_refl _)]
  · rw [if_neg (fun z => q ((nI_eq (by omega) (by omega)).mp z).symm), decide_eq_false q, Bool.false_and]
/-- the word that stands from a place on -/
def wdAt (T : Nat → Int32) (p l : Nat) : Option Nat := fst' (mw T p l) 10
theorem c_word {t : TS} {T : Nat → Int32} {L p l : Nat} (h : CT t T L) (hL : L ≤ 150) (hp : p + l ≤ L) : M_X1_wordBetween t (nI p) (nI (p + l)) = some (wdAt T p l) := by
  have ck : ∀ i, i < 10 → chk10 (nI i) = some i := by
    intro i hi
    unfold chk10
    rw [if_pos (vpb_in.mpr (vp_in_nI hi (by omega))), nI_clamp (by omega)]
  unfold M_X1_wordBetween
  have h0 : (0 : Int32) = (fun i => nI i) 0 := rfl
  rw [h0, lp_find (fun i => nI i) 10 (mw T p l) (fun i => some (some i)) (rN := some none) ?_ ?_ ?_ 64 (by omega)]
  · unfold wdAt
    cases fst' (mw T p l) 10 <;> rfl
  · intro i hi hq k
    unfold M_X1_wordBetween_2s
    rw [if_neg (show ¬ (10 : Int32) ≤ nI i from nI_ge (a := i) (b := 10) hi (by omega)), ck i hi, ob_some, c_stands h hL hp hi, ob_some, hq, if_neg (show ¬ zI true = 0 by decide)]
  · intro i hi hq k
    unfold M_X1_wordBetween_2s M_X1_wordBetween_39
    rw [if_neg (show ¬ (10 : Int32) ≤ nI i from nI_ge (a := i) (b := 10) hi (by omega)), ck i hi, ob_some, c_stands h hL hp hi, ob_some, hq, if_pos (show zI false = 0 from rfl), nI_1]
  · intro k
    unfold M_X1_wordBetween_2s
    rw [if_pos (show (10 : Int32) ≤ nI 10 by decide)]
theorem r_reads {y : MS} {T : Nat → Int32} {p l len : Nat} (hT : ms_text y = T) (ha : ms_at y = nI (p + l)) (hp : p + l ≤ 150) (a b c e f : Int32) (hlen : len = if e = 0 then 3 else if f = 0 then 4 else 5) (hef : e = 0 → f = 0) : M_X7_reads y (nI p) a b c e f = some (decide (l = len) && (decide (T p = a) && (decide (T (p + 1) = b) && (decide (T (p + 2) = c) && ((decide (e = 0) || decide (T (p + 3) = e)) && (decide (f = 0) || decide (T (p + 4) = f))))))) := by
  have f71 : M_X7_reads_71 y (nI p) a b c e f = some false := by
    unfold M_X7_reads_71 M_X7_reads_72 M_X7_reads_101 M_X7_reads_102 M_X7_reads_131 M_X7_reads_132
    rw [if_pos (show zI false = 0 from rfl), if_pos (show zI false = 0 from rfl)]
  have f101 : M_X7_reads_101 y (nI p) a b c e f = some false := by
    unfold M_X7_reads_101 M_X7_reads_102 M_X7_reads_131 M_X7_reads_132
    rw [if_pos (show zI false = 0 from rfl)]
  have ld : ∀ i, i < l → ald 150 (ms_text y) (nI (p + i)) = some (T (p + i)) := by
    intro i hi
    rw [ald_nI (by omega) (by omega), hT]
  have f97 : l = len → M_X7_reads_97 y (nI p) a b c e f = some (decide (f = 0) || decide (T (p + 4) = f)) := by
    intro hl
    unfold M_X7_reads_97 M_X7_reads_102 M_X7_reads_127 M_X7_reads_131 M_X7_reads_132
    rw [if_neg (show ¬ zI true = 0 by decide)]
    by_cases q : f = 0
    · rw [if_pos q, decide_eq_true q, Bool.true_or]
    · have e0 : ¬ e = 0 := fun z => q (hef z)
      rw [if_neg e0, if_neg q] at hlen
      rw [if_neg q, decide_eq_false q, Bool.false_or, show nI p + (4 : Int32) = nI (p + 4) from nI_add p 4, ld 4 (by omega), ob_some]
      by_cases z : T (p + 4) = f
      · rw [if_pos z, decide_eq_true z]
      · rw [if_neg z, decide_eq_false z]
  have f72 : l = len → M_X7_reads_72 y (nI p) a b c e f true = some ((decide (e = 0) || decide (T (p + 3) = e)) && (decide (f = 0) || decide (T (p + 4) = f))) := by
    intro hl
    unfold M_X7_reads_72
    rw [if_neg (show ¬ zI true = 0 by decide)]
    by_cases q : e = 0
    · rw [if_pos q, decide_eq_true q, Bool.true_or, Bool.true_and, f97 hl]
    · have h4 : 4 ≤ len := by
        rw [hlen, if_neg q]; split <;> omega
      rw [if_neg q, decide_eq_false q, Bool.false_or, show nI p + (3 : Int32) = nI (p + 3) from nI_add p 3, ld 3 (by omega), ob_some]
      by_cases z : T (p + 3) = e
      · rw [if_pos z, decide_eq_true z, Bool.true_and, f97 hl]
      · rw [if_neg z, decide_eq_false z, Bool.false_and, f101]
  have h29 : ∀ w : Int32, w = nI len → M_X7_reads_29 y (nI p) a b c e f (ms_at y - nI p) w = some (decide (l = len) && (decide (T p = a) && (decide (T (p + 1) = b) && (decide (T (p + 2) = c) && ((decide (e = 0) || decide (T (p + 3) = e)) && (decide (f = 0) || decide (T (p + 4) = f))))))) := by
    intro w hw
    have h3 : 3 ≤ len ∧ len ≤ 5 := by
      rw [hlen]; split
      · omega
      · split <;> omega
    unfold M_X7_reads_29
    rw [ha, nI_subx, hw]
    by_cases q : l = len
    · rw [if_pos (by rw [q]), decide_eq_true q, Bool.true_and, show nI p = nI (p + 0) from rfl, ld 0 (by omega), ob_some]
      by_cases z0 : T (p + 0) = a
      · rw [if_pos z0, decide_eq_true (show T p = a from z0), Bool.true_and, show nI (p + 0) + (1 : Int32) = nI (p + 1) from nI_add (p + 0) 1, ld 1 (by omega), ob_some]
        by_cases z1 : T (p + 1) = b
        · rw [if_pos z1, decide_eq_true z1, Bool.true_and, show nI (p + 0) + (2 : Int32) = nI (p + 2) from nI_add (p + 0) 2, ld 2 (by omega), ob_some]
          by_cases z2 : T (p + 2) = c
          · rw [if_pos z2, decide_eq_true z2, Bool.true_and]
            exact f72 q
          · rw [if_neg z2, decide_eq_false z2, Bool.false_and]
            exact f71
        · rw [if_neg z1, decide_eq_false z1, Bool.false_and]
          exact f71
      · rw [if_neg z0, decide_eq_false (show ¬ T p = a from z0), Bool.false_and]
        exact f71
    · rw [if_neg (fun z => q ((nI_eq (by omega) (by omega)).mp z)), decide_eq_false q, Bool.false_and]
      exact f71
  unfold M_X7_reads
  by_cases q : e = 0
  · rw [if_pos q]
    exact h29 3 (by rw [hlen, if_pos q]; rfl)
  · rw [if_neg q]
    by_cases q2 : f = 0
    · rw [if_pos q2]
      exact h29 4 (by rw [hlen, if_neg q, if_pos q2]; rfl)
    · rw [if_neg q2]
      exact h29 5 (by rw [hlen, if_neg q, if_neg q2]; rfl)
theorem r_word {y : MS} {T : Nat → Int32} {p l : Nat} (hT : ms_text y = T) (ha : ms_at y = nI (p + l)) (hp : p + l ≤ 150) : M_X7_word y (nI p) = some (optI (wdAt T p l)) := by
  have rd3 : ∀ a b c, M_X7_reads y (nI p) a b c 0 0 = some (decide (l = 3) && (decide (T (p + 0) = a) && (decide (T (p + 1) = b) && (decide (T (p + 2) = c) && true)))) := by
    intro a b c
    rw [r_reads (len := 3) hT ha hp a b c 0 0 rfl (fun _ => rfl)]
    rfl
  have rd4 : ∀ a b c e, ¬ e = 0 → M_X7_reads y (nI p) a b c e 0 = some (decide (l = 4) && (decide (T (p + 0) = a) && (decide (T (p + 1) = b) && (decide (T (p + 2) = c) && (decide (T (p + 3) = e) && true))))) := by
    intro a b c e he
    rw [r_reads (len := 4) hT ha hp a b c e 0 (by rw [if_neg he]; rfl) (fun z => absurd z he), decide_eq_false he, Bool.false_or]
    rfl
  have rd5 : ∀ a b c e f, ¬ e = 0 → ¬ f = 0 → M_X7_reads y (nI p) a b c e f = some (decide (l = 5) && (decide (T (p + 0) = a) && (decide (T (p + 1) = b) && (decide (T (p + 2) = c) && (decide (T (p + 3) = e) && (decide (T (p + 4) = f) && true)))))) := by
    intro a b c e f he hf
    rw [r_reads (len := 5) hT ha hp a b c e f (by rw [if_neg he, if_neg hf]) (fun z => absurd z he), decide_eq_false he, Bool.false_or, decide_eq_false hf, Bool.false_or, Bool.and_true]
    rfl
  have m0 : M_X7_reads y (nI p) 112 117 116 0 0 = some (mw T p l 0) := rd3 _ _ _
  have m1 : M_X7_reads y (nI p) 97 100 100 0 0 = some (mw T p l 1) := rd3 _ _ _
  have m2 : M_X7_reads y (nI p) 99 111 112 121 0 = some (mw T p l 2) := rd4 _ _ _ _ (by decide)
  have m3 : M_X7_reads y (nI p) 102 101 110 99 101 = some (mw T p l 3) := rd5 _ _ _ _ _ (by decide) (by decide)
  have m5 : M_X7_reads y (nI p) 119 97 107 101 0 = some (mw T p l 5) := rd4 _ _ _ _ (by decide)
  have m6 : M_X7_reads y (nI p) 115 108 101 101 112 = some (mw T p l 6) := rd5 _ _ _ _ _ (by decide) (by decide)
  have m7 : M_X7_reads y (nI p) 119 111 114 107 0 = some (mw T p l 7) := rd4 _ _ _ _ (by decide)
  have m8 : M_X7_reads y (nI p) 100 101 108 97 121 = some (mw T p l 8) := rd5 _ _ _ _ _ (by decide) (by decide)
  have m9 : M_X7_reads y (nI p) 116 105 99 107 115 = some (mw T p l 9) := rd5 _ _ _ _ _ (by decide) (by decide)
  have ew : optI (wdAt T p l) = if mw T p l 0 = true then nI 0 else if mw T p l 1 = true then nI 1 else if mw T p l 2 = true then nI 2 else if mw T p l 3 = true then nI 3 else if mw T p l 4 = true then nI 4 else if mw T p l 5 = true then nI 5 else if mw T p l 6 = true then nI 6 else if mw T p l 7 = true then nI 7 else if mw T p l 8 = true then nI 8 else if mw T p l 9 = true then nI 9 else -1 := by
    unfold wdAt fst'
    rw [show List.range 10 = [0, 1, 2, 3, 4, 5, 6, 7, 8, 9] from rfl]
    simp only [List.find?_cons]
    generalize mw T p l 0 = b0
    generalize mw T p l 1 = b1
    generalize mw T p l 2 = b2
    generalize mw T p l 3 = b3
    generalize mw T p l 4 = b4
    generalize mw T p l 5 = b5
    generalize mw T p l 6 = b6
    generalize mw T p l 7 = b7
    generalize mw T p l 8 = b8
    generalize mw T p l 9 = b9
    cases b0
    · cases b1
      · cases b2
        · cases b3
          · cases b4
            · cases b5
              · cases b6
                · cases b7
                  · cases b8
                    · cases b9 <;> rfl
                    · rfl
                  · rfl
                · rfl
              · rfl
            · rfl
          · rfl
        · rfl
      · rfl
    · rfl
  have ld : ∀ i, i < l → ald 150 (ms_text y) (nI (p + i)) = some (T (p + i)) := by
    intro i hi
    rw [ald_nI (by omega) (by omega), hT]
  unfold M_X7_word
  rw [ew, ha, nI_subx]
  by_cases q : l = 6
  · subst q
    have z0 : mw T p 6 0 = false := rfl
    have z1 : mw T p 6 1 = false := rfl
    have z2 : mw T p 6 2 = false := rfl
    have z3 : mw T p 6 3 = false := rfl
    have z5 : mw T p 6 5 = false := rfl
    have z6 : mw T p 6 6 = false := rfl
    have z7 : mw T p 6 7 = false := rfl
    have z8 : mw T p 6 8 = false := rfl
    have z9 : mw T p 6 9 = false := rfl
    have z4 : mw T p 6 4 = (decide (T (p + 0) = 99) && (decide (T (p + 1) = 97) && (decide (T (p + 2) = 110) && (decide (T (p + 3) = 99) && (decide (T (p + 4) = 101) && (decide (T (p + 5) = 108) && true)))))) := rfl
    have w101 : M_X7_word_101 y (nI p) = some (-1) := rfl
    have w65 : M_X7_word_65 y (nI p) = some (-1) := by
      unfold M_X7_word_65 M_X7_word_66
      rw [if_pos (show zI false = 0 from rfl), w101]
    rw [if_pos (show nI 6 = (6 : Int32) from rfl), z0, z1, z2, z3, z5, z6, z7, z8, z9, z4]
    rw [show nI p = nI (p + 0) from rfl, ld 0 (by omega), ob_some]
    by_cases c0 : T (p + 0) = 99
    · rw [if_pos c0, decide_eq_true c0, show nI (p + 0) + (1 : Int32) = nI (p + 1) from nI_add (p + 0) 1, ld 1 (by omega), ob_some]
      by_cases c1 : T (p + 1) = 97
      · rw [if_pos c1, decide_eq_true c1, show nI (p + 0) + (2 : Int32) = nI (p + 2) from nI_add (p + 0) 2, ld 2 (by omega), ob_some]
        by_cases c2 : T (p + 2) = 110
        · rw [if_pos c2, decide_eq_true c2, show nI (p + 0) + (3 : Int32) = nI (p + 3) from nI_add (p + 0) 3, ld 3 (by omega), ob_some]
          by_cases c3 : T (p + 3) = 99
          · rw [if_pos c3, decide_eq_true c3]
            unfold M_X7_word_66 M_X7_word_102
            rw [if_neg (show ¬ zI true = 0 by decide), show nI (p + 0) + (4 : Int32) = nI (p + 4) from nI_add (p + 0) 4, ld 4 (by omega), ob_some]
            by_cases c4 : T (p + 4) = 101
            · rw [if_pos c4, decide_eq_true c4, show nI (p + 0) + (5 : Int32) = nI (p + 5) from nI_add (p + 0) 5, ld 5 (by omega), ob_some]
              by_cases c5 : T (p + 5) = 108
              · rw [if_pos c5, decide_eq_true c5]; rfl
              · rw [if_neg c5, decide_eq_false c5]; rfl
            · rw [if_neg c4, decide_eq_false c4]; rfl
          · rw [if_neg c3, decide_eq_false c3]; exact w65
        · rw [if_neg c2, decide_eq_false c2]; exact w65
      · rw [if_neg c1, decide_eq_false c1]; exact w65
    · rw [if_neg c0, decide_eq_false c0]; exact w65
  · have z4 : mw T p l 4 = false := by
      unfold mw
      rw [decide_eq_false (show ¬ l = wLen.getD 4 0 from q), Bool.false_and]
    rw [if_neg (show ¬ nI l = (6 : Int32) from fun z => q ((nI_eq (b := 6) (by omega) (by omega)).mp z)), m0, m1, m2, m3, m5, m6, m7, m8, m9, z4]
    unfold M_X7_word_299
    simp only [ob_some, zI_if]
    generalize mw T p l 0 = b0
    generalize mw T p l 1 = b1
    generalize mw T p l 2 = b2
    generalize mw T p l 3 = b3
    generalize mw T p l 5 = b5
    generalize mw T p l 6 = b6
    generalize mw T p l 7 = b7
    generalize mw T p l 8 = b8
    generalize mw T p l 9 = b9
    cases b0
    · cases b1
      · cases b2
        · cases b3
          · cases b5
            · cases b6
              · cases b7
                · cases b8
                  · cases b9 <;> rfl
                  · rfl
                · rfl
              · rfl
            · rfl
          · rfl
        · rfl
      · rfl
    · rfl
theorem wdAt_lt {T : Nat → Int32} {p l w : Nat} (h : wdAt T p l = some w) : w < 10 ∧ l = wLen.getD w 0 := by
  obtain ⟨h1, h2, -⟩ := fst'_some.mp h
  refine ⟨h1, ?_⟩
  unfold mw at h2
  by_cases q : l = wLen.getD w 0
  · exact q
  · rw [decide_eq_false q, Bool.false_and] at h2; cases h2
