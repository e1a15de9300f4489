/-! PART 45: what the Statement gives at the start: the machine's facts and the constants -/
abbrev wNames : List String := ["PUT", "ADD", "COPY", "FENCE", "CANCEL", "WAKE", "SLEEP", "WORK", "DELAY", "TICKS"]
abbrev wStr : List Nat := [67, 73, 76, 79, 82, 85, 88, 91, 94, 97]
abbrev wtW (i : Nat) : Term := .static RX5 (wNames.getD i "") "LWokenDrive$Word;"
abbrev wtS (i : Nat) : Term := .string RX5 (wStr.getD i 0)
abbrev wtWords : Term := .static RX6 "WORDS" "[LWokenDrive$Word;"
abbrev wtMap : Term := .static RX0 "$SwitchMap$WokenDrive$Word" "[I"
abbrev wFl : List Cond := flatC (Jvm.Cond.and given_1 narrow_1)
theorem st_word : ∀ i, i < 10 → Cond.exactly (wtW i) RX5 ∈ wFl ∧ Cond.eq (.field (wtW i) RX5 "letters" "Ljava/lang/String;") (wtS i) ∈ wFl ∧ Cond.eq (.field (wtW i) RX5 "numbers" "I") (.int (wNum.getD i 0)) ∈ wFl ∧ Cond.eq (.field (wtW i) RX5 "kind" "I") (.int (wKind.getD i 0)) ∈ wFl ∧ Cond.eq (.field (wtW i) "java/lang/Enum" "ordinal" "I") (.int (nI i)) ∈ wFl := by decide +kernel
theorem st_str : ∀ i, i < 10 → Cond.exactly (wtS i) "java/lang/String" ∈ wFl ∧ Cond.eq (.field (wtS i) "java/lang/String" "coder" "B") (.int 0) ∈ wFl ∧ Cond.arrayOf (.field (wtS i) "java/lang/String" "value" "[B") .byte ∈ wFl ∧ Cond.eq (.length (.field (wtS i) "java/lang/String" "value" "[B")) (.int (Int32.ofNat (wLen.getD i 0))) ∈ wFl ∧ ∀ j, j < wLen.getD i 0 → Cond.eq (.elem (.field (wtS i) "java/lang/String" "value" "[B") (.int (Int32.ofNat j))) (.int ((wByt.getD i []).getD j 0)) ∈ wFl := by decide +kernel
theorem st_ne_0 : ∀ j, j < 10 → 0 ≠ j → Cond.not (Cond.eq (wtS 0) (wtS j)) ∈ wFl ∨ Cond.not (Cond.eq (wtS j) (wtS 0)) ∈ wFl := by decide +kernel
theorem st_ne_1 : ∀ j, j < 10 → 1 ≠ j → Cond.not (Cond.eq (wtS 1) (wtS j)) ∈ wFl ∨ Cond.not (Cond.eq (wtS j) (wtS 1)) ∈ wFl := by decide +kernel
theorem st_ne_2 : ∀ j, j < 10 → 2 ≠ j → Cond.not (Cond.eq (wtS 2) (wtS j)) ∈ wFl ∨ Cond.not (Cond.eq (wtS j) (wtS 2)) ∈ wFl := by decide +kernel
theorem st_ne_3 : ∀ j, j < 10 → 3 ≠ j → Cond.not (Cond.eq (wtS 3) (wtS j)) ∈ wFl ∨ Cond.not (Cond.eq (wtS j) (wtS 3)) ∈ wFl := by decide +kernel
theorem st_ne_4 : ∀ j, j < 10 → 4 ≠ j → Cond.not (Cond.eq (wtS 4) (wtS j)) ∈ wFl ∨ Cond.not (Cond.eq (wtS j) (wtS 4)) ∈ wFl := by decide +kernel
theorem st_ne_5 : ∀ j, j < 10 → 5 ≠ j → Cond.not (Cond.eq (wtS 5) (wtS j)) ∈ wFl ∨ Cond.not (Cond.eq (wtS j) (wtS 5)) ∈ wFl := by decide +kernel
theorem st_ne_6 : ∀ j, j < 10 → 6 ≠ j → Cond.not (Cond.eq (wtS 6) (wtS j)) ∈ wFl ∨ Cond.not (Cond.eq (wtS j) (wtS 6)) ∈ wFl := by decide +kernel
theorem st_ne_7 : ∀ j, j < 10 → 7 ≠ j → Cond.not (Cond.eq (wtS 7) (wtS j)) ∈ wFl ∨ Cond.not (Cond.eq (wtS j) (wtS 7)) ∈ wFl := by decide +kernel
theorem st_ne_8 : ∀ j, j < 10 → 8 ≠ j → Cond.not (Cond.eq (wtS 8) (wtS j)) ∈ wFl ∨ Cond.not (Cond.eq (wtS j) (wtS 8)) ∈ wFl := by decide +kernel
theorem st_ne_9 : ∀ j, j < 10 → 9 ≠ j → Cond.not (Cond.eq (wtS 9) (wtS j)) ∈ wFl ∨ Cond.not (Cond.eq (wtS j) (wtS 9)) ∈ wFl := by decide +kernel
theorem st_ne : ∀ i, i < 10 → ∀ j, j < 10 → i ≠ j → Cond.not (Cond.eq (wtS i) (wtS j)) ∈ wFl ∨ Cond.not (Cond.eq (wtS j) (wtS i)) ∈ wFl := by
  intro i hi
  rcases (show i = 0 ∨ i = 1 ∨ i = 2 ∨ i = 3 ∨ i = 4 ∨ i = 5 ∨ i = 6 ∨ i = 7 ∨ i = 8 ∨ i = 9 by omega) with rfl | rfl | rfl | rfl | rfl | rfl | rfl | rfl | rfl | rfl
  · exact st_ne_0
  · exact st_ne_1
  · exact st_ne_2
  · exact st_ne_3
  · exact st_ne_4
  · exact st_ne_5
  · exact st_ne_6
  · exact st_ne_7
  · exact st_ne_8
  · exact st_ne_9
theorem st_words : Cond.arrayOf wtWords (.object RX5) ∈ wFl ∧ Cond.eq (.length wtWords) (.int (Int32.ofNat 10)) ∈ wFl ∧ ∀ j, j < 10 → Cond.eq (.elem wtWords (.int (Int32.ofNat j))) (wtW j) ∈ wFl := by decide +kernel
theorem st_map : Cond.arrayOf wtMap .int ∈ wFl ∧ Cond.eq (.length wtMap) (.int (Int32.ofNat 10)) ∈ wFl ∧ ∀ j, j < 10 → Cond.eq (.elem wtMap (.int (Int32.ofNat j))) (.int (nI (j + 1))) ∈ wFl := by decide +kernel
theorem st_rest : Cond.eq (.static "java/lang/String" "COMPACT_STRINGS" "Z") (.int 1) ∈ wFl ∧ Cond.isRef (.static "jdk/internal/util/Preconditions" "SIOOBE_FORMATTER" "Ljava/util/function/BiFunction;") ∈ wFl ∧ Cond.isRef (.static Bundle.tN "UNASSIGNED_STACK" Bundle.steD) ∈ wFl ∧ Cond.isRef (.static Bundle.tN "SUPPRESSED_SENTINEL" Bundle.listD) ∈ wFl ∧ Cond.exactly (.string RX6 254) "java/lang/String" ∈ wFl ∧ Cond.exactly (.string RX6 261) "java/lang/String" ∈ wFl ∧ Cond.exactly (.string RX6 266) "java/lang/String" ∈ wFl := by decide +kernel
theorem st_lays : Cond.laysStatic RX6 "WORDS" "[LWokenDrive$Word;" ∈ lw_tbl ∧ Cond.initialized RX6 ∈ lw_tbl ∧ Cond.laysStatic RX0 "$SwitchMap$WokenDrive$Word" "[I" ∈ lw_tbl ∧ Cond.initialized RX0 ∈ lw_tbl ∧ Cond.laysStatic "java/lang/String" "COMPACT_STRINGS" "Z" ∈ lw_tbl ∧ Cond.initialized "java/lang/String" ∈ lw_tbl ∧ Cond.laysStatic "jdk/internal/util/Preconditions" "SIOOBE_FORMATTER" "Ljava/util/function/BiFunction;" ∈ lw_tbl ∧ Cond.initialized "jdk/internal/util/Preconditions" ∈ lw_tbl ∧ Cond.laysStatic Bundle.tN "UNASSIGNED_STACK" Bundle.steD ∈ lw_tbl ∧ Cond.laysStatic Bundle.tN "SUPPRESSED_SENTINEL" Bundle.listD ∈ lw_tbl ∧ Cond.initialized Bundle.tN ∈ lw_tbl ∧ Cond.stringRef RX6 254 wtx0 ∈ lw_tbl ∧ Cond.stringRef RX6 261 wtx1 ∈ lw_tbl ∧ Cond.stringRef RX6 266 wtx2 ∈ lw_tbl := by decide +kernel
theorem st_nest : ∀ w ∈ nestW, w ∈ lw_tbl := by decide +kernel
theorem st_nc : Cond.not (.castable xIA xIO) ∈ lw_tbl ++ wFl ∧ Cond.not (.castable xIS xIO) ∈ lw_tbl ++ wFl ∧ Cond.not (.castable xIS xIA) ∈ lw_tbl ++ wFl := by decide +kernel
theorem st_arr : Cond.arrayClass .int ∈ lw_tbl ∧ Cond.arrayClass .long ∈ lw_tbl ∧ Cond.arrayOver (.object "WokenDrive$Drive") ∈ lw_tbl := by decide +kernel
theorem st_inst : Cond.instantiable RX1 5 ∈ lw_tbl ∧ Cond.instantiable RX2 8 ∈ lw_tbl ∧ Cond.instantiable RX3 8 ∈ lw_tbl ∧ Cond.instantiable RX4 3 ∈ lw_tbl ∧ Cond.instantiable RX6 6 ∈ lw_tbl ∧ Cond.instantiable RX7 14 ∈ lw_tbl := by decide +kernel
theorem st_uws : (∀ w ∈ wsX10, w ∈ lw_tbl) ∧ (∀ w ∈ wsX20, w ∈ lw_tbl) ∧ (∀ w ∈ wsX30, w ∈ lw_tbl) ∧ (∀ w ∈ wsX40, w ∈ lw_tbl) ∧ (∀ w ∈ wsX60, w ∈ lw_tbl) ∧ (∀ w ∈ wsX70, w ∈ lw_tbl) := by decide +kernel
section ST
variable {s : State} {b : Nat}
theorem start_arr {args : Array Value} {ty : FieldType} (h : (Cond.arrayClass ty).before args s = true) (hty : ∀ C, ty ≠ .object C) : ∃ cA, ArrOfT s cA ty ∧ va_RA s cA ty := by
  obtain ⟨cA, kA, comp, h1, h2, h3⟩ := Cond.arrayClass_spec h
  refine ⟨cA, fun N z => ⟨(fun k h => by cases h), kA, h2, comp, h3⟩, ?_⟩
  cases ty with
  | object C => exact absurd rfl (hty C)
  | _ => exact h1
theorem start_G (hts : ∀ w ∈ lw_tbl, w.before #[Value.ref b] s = true) : ∃ (dC : Nat → ClassId) (dI : Nat → Nat → Nat) (cI cD cJ : ClassId), wk_G dC dI (wTys cI cD cJ) s := by
  obtain ⟨i1, i2, i3, i4, i6, i7⟩ := st_inst
  obtain ⟨u1, u2, u3, u4, u6, u7⟩ := st_uws
  obtain ⟨c1, j1, k1⟩ := u_known (C := RX1) (T := TX1) (N := 5) hts u1 (hts _ i1)
  obtain ⟨c2, j2, k2⟩ := u_known (C := RX2) (T := TX2) (N := 8) hts u2 (hts _ i2)
  obtain ⟨c3, j3, k3⟩ := u_known (C := RX3) (T := TX3) (N := 8) hts u3 (hts _ i3)
  obtain ⟨c4, j4, k4⟩ := u_known (C := RX4) (T := TX4) (N := 3) hts u4 (hts _ i4)
  obtain ⟨c6, j6, k6⟩ := u_known (C := RX6) (T := TX6) (N := 6) hts u6 (hts _ i6)
  obtain ⟨c7, j7, k7⟩ := u_known (C := RX7) (T := TX7) (N := 14) hts u7 (hts _ i7)
  obtain ⟨cI, aI1, aI2⟩ := start_arr (hts _ st_arr.1) (fun C h => by cases h)
  obtain ⟨cJ, aJ1, aJ2⟩ := start_arr (hts _ st_arr.2.1) (fun C h => by cases h)
  obtain ⟨comp, cD, kD, f1, f2, f3, f4, f5⟩ := Cond.arrayOver_spec (hts _ st_arr.2.2)
  have aD1 : ArrOfT s cD (.object "WokenDrive$Drive") := fun N z => ⟨(fun k h => by cases h), kD, f3, comp, f4⟩
  have aD2 : va_RA s cD (.object "WokenDrive$Drive") := ⟨kD, comp, f3, f4, f1, f5⟩
  refine ⟨fun k => match k with | 0 => c1 | 1 => c2 | 2 => c3 | 3 => c4 | 4 => c6 | _ => c7, fun k => match k with | 0 => j1 | 1 => j2 | 2 => j3 | 3 => j4 | 4 => j6 | _ => j7, cI, cD, cJ, ⟨?_, ?_⟩, ?_⟩
  · intro k q hq
    match k, hq with
    | 0, hq => cases hq; exact k1
    | 1, hq => cases hq; exact k2
    | 2, hq => cases hq; exact k3
    | 3, hq => cases hq; exact k4
    | 4, hq => cases hq; exact k6
    | 5, hq => cases hq; exact k7
    | k + 6, hq => simp [vwCl] at hq
  · intro k q hq
    match k, hq with
    | 0, hq => cases hq; exact ⟨aI1, aI2⟩
    | 1, hq => cases hq; exact ⟨aD1, aD2⟩
    | 2, hq => cases hq; exact ⟨aJ1, aJ2⟩
    | k + 3, hq => simp [wTys] at hq
  · intro w hw
    have h1 := hts w (st_nest w hw)
    have h2 := wk_nw_all w hw
    cases w with
    | fieldLinkNest _ _ _ _ _ _ => exact va_Nw.of rfl h1
    | methodLinkNest _ _ _ _ => exact va_Nw.of rfl h1
    | castable _ _ => exact va_Nw.of rfl h1
    | declares _ => exact va_Nw.of rfl h1
    | arrayOver ty =>
      cases ty with
      | object C => exact va_AO.of h1
      | _ => exact absurd h2 (by simp [wk_nw])
    | _ => exact absurd h2 (by simp [wk_nw])
theorem start_N (hts : ∀ w ∈ lw_tbl, w.before #[Value.ref b] s = true) (hgv : (Jvm.Cond.and given_1 narrow_1).before #[Value.ref b] s = true) : wkN s := by
  have hs := flat_of_before _ hgv
  have h : ∀ w ∈ lw_tbl ++ wFl, w.before #[Value.ref b] s = true := fun w hw => (List.mem_append.mp hw).elim (hts w) (hs w)
  exact ⟨va_Nc.of (h _ st_nc.1), va_Nc.of (h _ st_nc.2.1), va_Nc.of (h _ st_nc.2.2)⟩
theorem start_T (hts : ∀ w ∈ lw_tbl, w.before #[Value.ref b] s = true) (hgv : (Jvm.Cond.and given_1 narrow_1).before #[Value.ref b] s = true) : ∃ kk : wAd, wkT kk (fun q : Nat => s.heap.size ≤ q) s s.heap := by
  have hs := flat_of_before _ hgv
  have hA : ∀ a : Nat, a < s.heap.size → ¬ (fun q : Nat => s.heap.size ≤ q) a := fun a h => Nat.not_le.mpr h
  obtain ⟨adK, adV, hVS, heS⟩ := vk_Sof (args := #[Value.ref b]) (s := s) (N := 10) (tm := wtS) (len := wLen) (byt := wByt) (A := fun q : Nat => s.heap.size ≤ q) (fun i _ => wlen_lt i) (fun i hi => hs _ (st_str i hi).1) (fun i hi => hs _ (st_str i hi).2.1) (fun i hi => hs _ (st_str i hi).2.2.1) (fun i hi => hs _ (st_str i hi).2.2.2.1) (fun i hi j hj => hs _ ((st_str i hi).2.2.2.2 j hj)) (fun i j hi hj hij => (st_ne i hi j hj hij).elim (fun h => Or.inl (hs _ h)) (fun h => Or.inr (hs _ h))) hA
  have h0 : ∀ i : Nat, ∃ t : Nat, i < 10 → (wtW i).eval #[Value.ref b] s none [] s = some (.ref t) ∧ va_O RX5 t (fun q : Nat => s.heap.size ≤ q) s s.heap := by
    intro i
    by_cases hi : i < 10
    · obtain ⟨a, c, cell, k, q1, q2, q3, q4, q5, q6, -⟩ := Cond.exactly_spec (hs _ (st_word i hi).1)
      exact ⟨a, fun _ => ⟨q1, cell, q3, q5, by rw [q6]; exact q2, hA a (Array.getElem?_eq_some_iff.mp q3).1⟩⟩
    · exact ⟨0, fun h => absurd h hi⟩
  obtain ⟨ad, had⟩ := Classical.axiomOfChoice h0
  obtain ⟨l1, l2, l3, l4, l5, l6, l7, l8, l9, l10, l11, l12, l13, l14⟩ := st_lays
  obtain ⟨r1, r2, r3, r4, r5, r6, r7⟩ := st_rest
  obtain ⟨tW, eW, hW⟩ := va_Tof (args := #[Value.ref b]) (s := s) (tm := wtWords) (ty := .object RX5) (N := 10) (f := fun j => .ref (ad j)) (A := fun q : Nat => s.heap.size ≤ q) (by decide) (hs _ st_words.1) (va_eqt (hs _ st_words.2.1)) (fun j hj => va_eqv (hs _ (st_words.2.2 j hj)) (had j hj).1) hA
  obtain ⟨tS, eS, hS⟩ := va_Tof (args := #[Value.ref b]) (s := s) (tm := wtMap) (ty := .int) (N := 10) (f := fun j => .int (nI (j + 1))) (A := fun q : Nat => s.heap.size ≤ q) (by decide) (hs _ st_map.1) (va_eqt (hs _ st_map.2.1)) (fun j hj => va_eqt (hs _ (st_map.2.2 j hj))) hA
  obtain ⟨a0, _, _, _, e0, -⟩ := Cond.exactly_spec (hs _ r5)
  obtain ⟨a1, _, _, _, e1, -⟩ := Cond.exactly_spec (hs _ r6)
  obtain ⟨a2, _, _, _, e2, -⟩ := Cond.exactly_spec (hs _ r7)
  refine ⟨(ad, adK, adV, tW, tS, fun i => match i with | 0 => a0 | 1 => a1 | _ => a2), ⟨va_Zref (hts _ l1) (hts _ l2) eW hA, hW⟩, fun i hi => ?_, hVS, ⟨va_Zref (hts _ l3) (hts _ l4) eS hA, hS⟩, ⟨va_Zof (hts _ l5) (hts _ l6) (va_eqt (hs _ r1)) hA, va_Zqof (hts _ l7) (hts _ l8) (hs _ r2) hA⟩, ⟨vx_Zqof (hts _ l9) (hts _ l11) (hs _ r3) hA, vx_Zqof (hts _ l10) (hts _ l11) (hs _ r4) hA⟩, ?_, ?_, ?_⟩
  · obtain ⟨w1, w2, w3, w4, w5⟩ := st_word i hi
    exact ⟨(had i hi).2, vk_OFof (had i hi).1 (va_eqv (hs _ w2) (heS i hi)) hA, vk_OFof (had i hi).1 (va_eqt (hs _ w3)) hA, vk_OFof (had i hi).1 (va_eqt (hs _ w4)) hA, vk_OFof (had i hi).1 (va_eqt (hs _ w5)) hA⟩
  · exact vk_R.of (hts _ l12) e0
  · exact vk_R.of (hts _ l13) e1
  · exact vk_R.of (hts _ l14) e2
end ST
