/-! PART 77: what the Statement gives at the start: the machine's facts and what a throw asks -/
abbrev wFl : List Cond := flatC (Jvm.Cond.and given_1 narrow_1)
theorem st_rest : Cond.isRef (.static Bundle.tN "UNASSIGNED_STACK" Bundle.steD) ∈ wFl ∧ Cond.isRef (.static Bundle.tN "SUPPRESSED_SENTINEL" Bundle.listD) ∈ wFl ∧ Cond.exactly (.string RX6 254) "java/lang/String" ∈ wFl ∧ Cond.exactly (.string RX6 261) "java/lang/String" ∈ wFl ∧ Cond.exactly (.string RX6 266) "java/lang/String" ∈ wFl := by decide +kernel
theorem st_lays : Cond.laysStatic Bundle.tN "UNASSIGNED_STACK" Bundle.steD ∈ lw_tbl ∧ Cond.laysStatic Bundle.tN "SUPPRESSED_SENTINEL" Bundle.listD ∈ lw_tbl ∧ Cond.initialized Bundle.tN ∈ lw_tbl ∧ Cond.stringRef RX6 254 wtx0 ∈ lw_tbl ∧ Cond.stringRef RX6 261 wtx1 ∈ lw_tbl ∧ Cond.stringRef RX6 266 wtx2 ∈ lw_tbl := by decide +kernel
theorem st_nest : ∀ w ∈ nestW, w ∈ lw_tbl := by decide +kernel
theorem st_nc : Cond.not (.castable xIA xIO) ∈ lw_tbl ++ wFl ∧ Cond.not (.castable xIS xIO) ∈ lw_tbl ++ wFl ∧ Cond.not (.castable xIS xIA) ∈ lw_tbl ++ wFl := by decide +kernel
theorem st_arr : Cond.arrayClass .int ∈ lw_tbl ∧ Cond.arrayOver (.object "WokenDrive$Drive") ∈ lw_tbl := by decide +kernel
theorem st_inst : Cond.instantiable RX1 5 ∈ lw_tbl ∧ Cond.instantiable RX2 8 ∈ lw_tbl ∧ Cond.instantiable RX3 8 ∈ lw_tbl ∧ Cond.instantiable RX4 3 ∈ lw_tbl ∧ Cond.instantiable RX6 6 ∈ lw_tbl := by decide +kernel
theorem st_uws : (∀ w ∈ wsX10, w ∈ lw_tbl) ∧ (∀ w ∈ wsX20, w ∈ lw_tbl) ∧ (∀ w ∈ wsX30, w ∈ lw_tbl) ∧ (∀ w ∈ wsX40, w ∈ lw_tbl) ∧ (∀ w ∈ wsX60, w ∈ lw_tbl) := by decide +kernel
section ST
variable {s : State} {b : Nat}
theorem start_arr {args : Array Value} {ty : FieldType} (h : (Cond.arrayClass ty).before args s = true) (hty : ∀ C, ty ≠ .object C) : ∃ cA, ArrOfT s cA ty ∧ va_RA s cA ty := by
  obtain ⟨cA, kA, comp, h1, h2, h3⟩ := Cond.arrayClass_spec h
  refine ⟨cA, fun N z => ⟨(fun k h => by cases h), kA, h2, comp, h3⟩, ?_⟩
  cases ty with
  | object C => exact absurd rfl (hty C)
  | _ => exact h1
theorem start_G (hts : ∀ w ∈ lw_tbl, w.before #[Value.ref b] s = true) : ∃ (dC : Nat → ClassId) (dI : Nat → Nat → Nat) (cI cD : ClassId), wk_G dC dI (wTys cI cD cI) s := by
  obtain ⟨i1, i2, i3, i4, i6⟩ := st_inst
  obtain ⟨u1, u2, u3, u4, u6⟩ := st_uws
  obtain ⟨c1, j1, k1⟩ := u_known (C := RX1) (T := TX1) (N := 5) hts u1 (hts _ i1)
  obtain ⟨c2, j2, k2⟩ := u_known (C := RX2) (T := TX2) (N := 8) hts u2 (hts _ i2)
  obtain ⟨c3, j3, k3⟩ := u_known (C := RX3) (T := TX3) (N := 8) hts u3 (hts _ i3)
  obtain ⟨c4, j4, k4⟩ := u_known (C := RX4) (T := TX4) (N := 3) hts u4 (hts _ i4)
  obtain ⟨c6, j6, k6⟩ := u_known (C := RX6) (T := TX6) (N := 6) hts u6 (hts _ i6)
  obtain ⟨cI, aI1, aI2⟩ := start_arr (hts _ st_arr.1) (fun C h => by cases h)
  obtain ⟨comp, cD, kD, f1, f2, f3, f4, f5⟩ := Cond.arrayOver_spec (hts _ st_arr.2)
  have aD1 : ArrOfT s cD (.object "WokenDrive$Drive") := fun N z => ⟨(fun k h => by cases h), kD, f3, comp, f4⟩
  have aD2 : va_RA s cD (.object "WokenDrive$Drive") := ⟨kD, comp, f3, f4, f1, f5⟩
  refine ⟨fun k => match k with | 0 => c1 | 1 => c2 | 2 => c3 | 3 => c4 | _ => c6, fun k => match k with | 0 => j1 | 1 => j2 | 2 => j3 | 3 => j4 | _ => j6, cI, cD, ⟨?_, ?_⟩, ?_⟩
  · intro k q hq
    match k, hq with
    | 0, hq => cases hq; exact k1
    | 1, hq => cases hq; exact k2
    | 2, hq => cases hq; exact k3
    | 3, hq => cases hq; exact k4
    | 4, hq => cases hq; exact k6
    | k + 5, hq => simp [vwCl] at hq
  · intro k q hq
    match k, hq with
    | 0, hq => cases hq; exact ⟨aI1, aI2⟩
    | 1, hq => cases hq; exact ⟨aD1, aD2⟩
    | k + 2, hq => simp [wTys] at hq
  · intro w hw
    have h1 := hts w (st_nest w hw)
    have h2 := wk_nw_all w hw
    cases w with
    | fieldLinkNest _ _ _ _ _ _ => exact va_Nw.of rfl h1
    | methodLinkNest _ _ _ _ => exact va_Nw.of rfl h1
    | castable _ _ => exact va_Nw.of rfl h1
    | declares _ => exact va_Nw.of rfl h1
    | arrayOver ty =>
      cases ty with
      | object C => exact va_AO.of h1
      | _ => exact absurd h2 (by simp [wk_nw])
    | _ => exact absurd h2 (by simp [wk_nw])
theorem start_N (hts : ∀ w ∈ lw_tbl, w.before #[Value.ref b] s = true) (hgv : (Jvm.Cond.and given_1 narrow_1).before #[Value.ref b] s = true) : wkN s := by
  have hs := flat_of_before _ hgv
  have h : ∀ w ∈ lw_tbl ++ wFl, w.before #[Value.ref b] s = true := fun w hw => (List.mem_append.mp hw).elim (hts w) (hs w)
  exact ⟨va_Nc.of (h _ st_nc.1), va_Nc.of (h _ st_nc.2.1), va_Nc.of (h _ st_nc.2.2)⟩
theorem start_T (hts : ∀ w ∈ lw_tbl, w.before #[Value.ref b] s = true) (hgv : (Jvm.Cond.and given_1 narrow_1).before #[Value.ref b] s = true) : ∃ kk : wAd, wkT kk (fun q : Nat => s.heap.size ≤ q) s s.heap := by
  have hs := flat_of_before _ hgv
  have hA : ∀ a : Nat, a < s.heap.size → ¬ (fun q : Nat => s.heap.size ≤ q) a := fun a h => Nat.not_le.mpr h
  obtain ⟨l9, l10, l11, l12, l13, l14⟩ := st_lays
  obtain ⟨r3, r4, r5, r6, r7⟩ := st_rest
  obtain ⟨a0, _, _, _, e0, -⟩ := Cond.exactly_spec (hs _ r5)
  obtain ⟨a1, _, _, _, e1, -⟩ := Cond.exactly_spec (hs _ r6)
  obtain ⟨a2, _, _, _, e2, -⟩ := Cond.exactly_spec (hs _ r7)
  refine ⟨(fun _ => 0, fun _ => 0, fun _ => 0, 0, 0, fun i => match i with | 0 => a0 | 1 => a1 | _ => a2), trivial, trivial, trivial, trivial, trivial, ⟨vx_Zqof (hts _ l9) (hts _ l11) (hs _ r3) hA, vx_Zqof (hts _ l10) (hts _ l11) (hs _ r4) hA⟩, ?_, ?_, ?_⟩
  · exact vk_R.of (hts _ l12) e0
  · exact vk_R.of (hts _ l13) e1
  · exact vk_R.of (hts _ l14) e2
end ST
