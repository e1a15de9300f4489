/-! PART 85: the law, from its entry to its end -/
theorem wk_newl {p : Program} {l : Launch} {e : Env} {R : Room} {s : State} {m : MethodId} {args : Array Value} {below : List Frame} {meth : Method} {c : Code} {H H0 : Heap} {locs : List Loc} {cells slots : Nat} {Q : State → Prop} {cc : ByteArray} {dC : Nat → ClassId} {dI : Nat → Nat → Nat} {cI cD cJ : ClassId} {A : Nat → Prop} {ws : va_W} {pc : Nat} {ls : Array Slot} {rest : List Value} (hexec : p.tables.exec = Jvm.exec) (hb : c.code = cc) (harr : (Cond.arrayClass .long).before args s = true) (hG : wk_G dC dI (wTys cI cD cJ) s) (hP : va_P (dC, dI) vwCl ws H) (hD : va_D A ws) (hS : va_S A H0 H locs) (hA : ∀ q, H0.size ≤ q → A q)
    {n : Int32} (N : Nat) (hn : ¬ n < 0) (hN : n.toNatClampNeg = N) (hbytes : N * 8 ≤ 536870912) (hcells : cells + 1 ≤ R.cells) (hslots : slots + N ≤ R.slots) (hdg : decode cc pc = .ok (.newarray .long, 2))
    (kk : ∀ (q : Nat) (H1 : Heap), va_P (dC, dI) vwCl (ws ++ [(q, .inl (cJ, N, .inr (.inl (fun _ => 0))))]) H1 → va_D A (ws ++ [(q, .inl (cJ, N, .inr (.inl (fun _ => 0))))]) → va_S A H0 H1 locs → W p l e R s m args below meth c H1 locs (cells + 1) (slots + N) Q (F0 m (pc + 2) ls (.ref q :: rest))) : W p l e R s m args below meth c H locs cells slots Q (F0 m pc ls (.int n :: rest)) := by
  refine va_newa (atype := .long) (ty := .long) (N' := N) (a0 := (N, .inr (.inl (fun _ => 0)))) hexec hb harr rfl hG.1 hP hD hS hA (fun cA => rfl) hn hN hbytes hcells hslots hdg (fun q cA H1 hK1 hP1 hD1 hS1 => ?_)
  have e1 : s.vm.findClass ("[" ++ FieldType.long.toString) = some cA := (hK1.2 3 (cA, .long) rfl).2
  have e2 : s.vm.findClass ("[" ++ FieldType.long.toString) = some cJ := (hG.1.2 2 (cJ, .long) rfl).2
  have e3 : cA = cJ := Option.some.inj (e1.symm.trans e2)
  subst e3
  exact kk q H1 hP1 hD1 hS1
set_option maxHeartbeats 4000000 in
set_option maxRecDepth 100000 in
theorem law_body {p : Program} {e : Env} {s : State} {m : MethodId} {below : List Frame} {meth : Method} {c : Code} (l : Launch) (hflags : l.stackTraces = false) {b L : Nat} {xs : Nat → Int32} (hL : L ≤ 3072) (C0 : lw_At p s m meth c b L xs) {dC : Nat → ClassId} {dI : Nat → Nat → Nat} {cI cD cJ : ClassId} {kk : wAd} {g gm : Nat → Nat} {a : Nat} (hG : wk_G dC dI (wTys cI cD cJ) s) (hT : wkT kk (fun q : Nat => s.heap.size ≤ q) s s.heap) (hN : wkN s) {i : Nat} (hi : i + 6 ≤ L) {x : SS} {y : MS} {o : Nat → Int64} {r : SS × (MS × (Nat → Int64))} (hM : M_lawB xs i x y o = some r) {H : Heap} {locs : List Loc} {cells slots : Nat} (hc : cells + 2 ≤ room_1.cells) (hs : slots + 12 ≤ room_1.slots) {ls : Array Slot} (hP : va_P (dC, dI) vwCl (wSys cI cD kk.1 g x ++ (wMod cI gm y ++ wLrow cJ a o)) H) (hD : va_D (fun q : Nat => s.heap.size ≤ q) (wSys cI cD kk.1 g x ++ (wMod cI gm y ++ wLrow cJ a o))) (hS : va_S (fun q : Nat => s.heap.size ≤ q) s.heap H locs) (hl : lv_has ls 7 [(0, .ref b), (1, .ref (g 0)), (2, .ref (gm 0)), (3, .ref a), (4, .int (nI i))]) (hnext : ∀ (H : Heap) (locs : List Loc) (ls : Array Slot), va_P (dC, dI) vwCl (wSys cI cD kk.1 g r.1 ++ (wMod cI gm r.2.1 ++ wLrow cJ a r.2.2)) H → va_D (fun q : Nat => s.heap.size ≤ q) (wSys cI cD kk.1 g r.1 ++ (wMod cI gm r.2.1 ++ wLrow cJ a r.2.2)) → va_S (fun q : Nat => s.heap.size ≤ q) s.heap H locs → lv_has ls 7 [(0, .ref b), (1, .ref (g 0)), (2, .ref (gm 0)), (3, .ref a), (4, .int (nI i))] → W p l e room_1 s m #[Value.ref b] below meth c H locs (cells + 2) (slots + 12) (lw_Z below #[Value.ref b] s) (F0 m 1589 ls [])) : W p l e room_1 s m #[Value.ref b] below meth c H locs cells slots (lw_Z below #[Value.ref b] s) (F0 m 33 ls []) := by
  have C1 := C0
  obtain ⟨hx, hb, hr, hml, hown, hts0, hX, hbl, hlocks, hgv⟩ := C1
  have hbA : ¬ (fun q : Nat => s.heap.size ≤ q) b := Nat.not_le.mpr hbl
  refine lv_aload_n hx hb dL_law_33 rfl (lv_at hl 0 rfl) ?_
  refine lv_iload hx hb dL_law_34 (lv_at hl 4 rfl) ?_
  refine va_sld hx hb hX hbl hbA hS (vp_in_nI (show i < L by omega) (by omega)) dL_law_36 ?_
  rw [nI_clamp (show i < 2 ^ 31 by omega)]
  refine lv_bipush (v := 31) hx hb dL_law_37 (by decide) ?_
  refine lv_iand hx hb dL_law_39 ?_
  unfold M_lawB at hM
  by_cases c0 : xs i &&& 31 = 0
  · replace hM := (if_pos c0).symm.trans hM
    refine lv_tableIn (off := 120) (tgt := 160) hx hb dL_law_40 (by rw [c0]; decide) (by rw [c0]; decide) (by rw [c0]; decide) (by decide) ?_
    exact lawc_0 l hflags hL C0 hG hT hN hi hM hc hs hP hD hS hl hnext
  replace hM := (if_neg c0).symm.trans hM
  by_cases c1 : xs i &&& 31 = 1
  · replace hM := (if_pos c1).symm.trans hM
    refine lv_tableIn (off := 224) (tgt := 264) hx hb dL_law_40 (by rw [c1]; decide) (by rw [c1]; decide) (by rw [c1]; decide) (by decide) ?_
    exact lawc_1 l hflags hL C0 hG hT hN hi hM hc hs hP hD hS hl hnext
  replace hM := (if_neg c1).symm.trans hM
  by_cases c2 : xs i &&& 31 = 2
  · replace hM := (if_pos c2).symm.trans hM
    refine lv_tableIn (off := 292) (tgt := 332) hx hb dL_law_40 (by rw [c2]; decide) (by rw [c2]; decide) (by rw [c2]; decide) (by decide) ?_
    exact lawc_2 l hflags hL C0 hG hT hN hi hM hc hs hP hD hS hl hnext
  replace hM := (if_neg c2).symm.trans hM
  by_cases c3 : xs i &&& 31 = 3
  · replace hM := (if_pos c3).symm.trans hM
    refine lv_tableIn (off := 348) (tgt := 388) hx hb dL_law_40 (by rw [c3]; decide) (by rw [c3]; decide) (by rw [c3]; decide) (by decide) ?_
    exact lawc_3 l hflags hL C0 hG hT hN hi hM hc hs hP hD hS hl hnext
  replace hM := (if_neg c3).symm.trans hM
  by_cases c4 : xs i &&& 31 = 4
  · replace hM := (if_pos c4).symm.trans hM
    refine lv_tableIn (off := 404) (tgt := 444) hx hb dL_law_40 (by rw [c4]; decide) (by rw [c4]; decide) (by rw [c4]; decide) (by decide) ?_
    exact lawc_4 l hflags hL C0 hG hT hN hi hM hc hs hP hD hS hl hnext
  replace hM := (if_neg c4).symm.trans hM
  by_cases c5 : xs i &&& 31 = 5
  · replace hM := (if_pos c5).symm.trans hM
    refine lv_tableIn (off := 472) (tgt := 512) hx hb dL_law_40 (by rw [c5]; decide) (by rw [c5]; decide) (by rw [c5]; decide) (by decide) ?_
    exact lawc_5 l hflags hL C0 hG hT hN hi hM hc hs hP hD hS hl hnext
  replace hM := (if_neg c5).symm.trans hM
  by_cases c6 : xs i &&& 31 = 6
  · replace hM := (if_pos c6).symm.trans hM
    refine lv_tableIn (off := 540) (tgt := 580) hx hb dL_law_40 (by rw [c6]; decide) (by rw [c6]; decide) (by rw [c6]; decide) (by decide) ?_
    exact lawc_6 l hflags hL C0 hG hT hN hi hM hc hs hP hD hS hl hnext
  replace hM := (if_neg c6).symm.trans hM
  by_cases c7 : xs i &&& 31 = 7
  · replace hM := (if_pos c7).symm.trans hM
    refine lv_tableIn (off := 608) (tgt := 648) hx hb dL_law_40 (by rw [c7]; decide) (by rw [c7]; decide) (by rw [c7]; decide) (by decide) ?_
    exact lawc_7 l hflags hL C0 hG hT hN hi hM hc hs hP hD hS hl hnext
  replace hM := (if_neg c7).symm.trans hM
  by_cases c8 : xs i &&& 31 = 8
  · replace hM := (if_pos c8).symm.trans hM
    refine lv_tableIn (off := 664) (tgt := 704) hx hb dL_law_40 (by rw [c8]; decide) (by rw [c8]; decide) (by rw [c8]; decide) (by decide) ?_
    exact lawc_8 l hflags hL C0 hG hT hN hi hM hc hs hP hD hS hl hnext
  replace hM := (if_neg c8).symm.trans hM
  by_cases c9 : xs i &&& 31 = 9
  · replace hM := (if_pos c9).symm.trans hM
    refine lv_tableIn (off := 720) (tgt := 760) hx hb dL_law_40 (by rw [c9]; decide) (by rw [c9]; decide) (by rw [c9]; decide) (by decide) ?_
    exact lawc_9 l hflags hL C0 hG hT hN hi hM hc hs hP hD hS hl hnext
  replace hM := (if_neg c9).symm.trans hM
  by_cases c10 : xs i &&& 31 = 10
  · replace hM := (if_pos c10).symm.trans hM
    refine lv_tableIn (off := 776) (tgt := 816) hx hb dL_law_40 (by rw [c10]; decide) (by rw [c10]; decide) (by rw [c10]; decide) (by decide) ?_
    exact lawc_10 l hflags hL C0 hG hT hN hi hM hc hs hP hD hS hl hnext
  replace hM := (if_neg c10).symm.trans hM
  by_cases c11 : xs i &&& 31 = 11
  · replace hM := (if_pos c11).symm.trans hM
    refine lv_tableIn (off := 844) (tgt := 884) hx hb dL_law_40 (by rw [c11]; decide) (by rw [c11]; decide) (by rw [c11]; decide) (by decide) ?_
    exact lawc_11 l hflags hL C0 hG hT hN hi hM hc hs hP hD hS hl hnext
  replace hM := (if_neg c11).symm.trans hM
  by_cases c12 : xs i &&& 31 = 12
  · replace hM := (if_pos c12).symm.trans hM
    refine lv_tableIn (off := 912) (tgt := 952) hx hb dL_law_40 (by rw [c12]; decide) (by rw [c12]; decide) (by rw [c12]; decide) (by decide) ?_
    exact lawc_12 l hflags hL C0 hG hT hN hi hM hc hs hP hD hS hl hnext
  replace hM := (if_neg c12).symm.trans hM
  by_cases c13 : xs i &&& 31 = 13
  · replace hM := (if_pos c13).symm.trans hM
    refine lv_tableIn (off := 980) (tgt := 1020) hx hb dL_law_40 (by rw [c13]; decide) (by rw [c13]; decide) (by rw [c13]; decide) (by decide) ?_
    exact lawc_13 l hflags hL C0 hG hT hN hi hM hc hs hP hD hS hl hnext
  replace hM := (if_neg c13).symm.trans hM
  by_cases c14 : xs i &&& 31 = 14
  · replace hM := (if_pos c14).symm.trans hM
    refine lv_tableIn (off := 1048) (tgt := 1088) hx hb dL_law_40 (by rw [c14]; decide) (by rw [c14]; decide) (by rw [c14]; decide) (by decide) ?_
    exact lawc_14 l hflags hL C0 hG hT hN hi hM hc hs hP hD hS hl hnext
  replace hM := (if_neg c14).symm.trans hM
  by_cases c15 : xs i &&& 31 = 15
  · replace hM := (if_pos c15).symm.trans hM
    refine lv_tableIn (off := 1104) (tgt := 1144) hx hb dL_law_40 (by rw [c15]; decide) (by rw [c15]; decide) (by rw [c15]; decide) (by decide) ?_
    exact lawc_15 l hflags hL C0 hG hT hN hi hM hc hs hP hD hS hl hnext
  replace hM := (if_neg c15).symm.trans hM
  by_cases c16 : xs i &&& 31 = 16
  · replace hM := (if_pos c16).symm.trans hM
    refine lv_tableIn (off := 1160) (tgt := 1200) hx hb dL_law_40 (by rw [c16]; decide) (by rw [c16]; decide) (by rw [c16]; decide) (by decide) ?_
    exact lawc_16 l hflags hL C0 hG hT hN hi hM hc hs hP hD hS hl hnext
  replace hM := (if_neg c16).symm.trans hM
  by_cases c17 : xs i &&& 31 = 17
  · replace hM := (if_pos c17).symm.trans hM
    refine lv_tableIn (off := 1216) (tgt := 1256) hx hb dL_law_40 (by rw [c17]; decide) (by rw [c17]; decide) (by rw [c17]; decide) (by decide) ?_
    exact lawc_17 l hflags hL C0 hG hT hN hi hM hc hs hP hD hS hl hnext
  replace hM := (if_neg c17).symm.trans hM
  by_cases c18 : xs i &&& 31 = 18
  · replace hM := (if_pos c18).symm.trans hM
    refine lv_tableIn (off := 1272) (tgt := 1312) hx hb dL_law_40 (by rw [c18]; decide) (by rw [c18]; decide) (by rw [c18]; decide) (by decide) ?_
    exact lawc_18 l hflags hL C0 hG hT hN hi hM hc hs hP hD hS hl hnext
  replace hM := (if_neg c18).symm.trans hM
  by_cases c19 : xs i &&& 31 = 19
  · replace hM := (if_pos c19).symm.trans hM
    refine lv_tableIn (off := 1340) (tgt := 1380) hx hb dL_law_40 (by rw [c19]; decide) (by rw [c19]; decide) (by rw [c19]; decide) (by decide) ?_
    exact lawc_19 l hflags hL C0 hG hT hN hi hM hc hs hP hD hS hl hnext
  replace hM := (if_neg c19).symm.trans hM
  by_cases c20 : xs i &&& 31 = 20
  · replace hM := (if_pos c20).symm.trans hM
    refine lv_tableIn (off := 1353) (tgt := 1393) hx hb dL_law_40 (by rw [c20]; decide) (by rw [c20]; decide) (by rw [c20]; decide) (by decide) ?_
    exact lawc_20 l hflags hL C0 hG hT hN hi hM hc hs hP hD hS hl hnext
  replace hM := (if_neg c20).symm.trans hM
  by_cases c21 : xs i &&& 31 = 21
  · replace hM := (if_pos c21).symm.trans hM
    refine lv_tableIn (off := 1409) (tgt := 1449) hx hb dL_law_40 (by rw [c21]; decide) (by rw [c21]; decide) (by rw [c21]; decide) (by decide) ?_
    exact lawc_21 l hflags hL C0 hG hT hN hi hM hc hs hP hD hS hl hnext
  replace hM := (if_neg c21).symm.trans hM
  by_cases c22 : xs i &&& 31 = 22
  · replace hM := (if_pos c22).symm.trans hM
    refine lv_tableIn (off := 1465) (tgt := 1505) hx hb dL_law_40 (by rw [c22]; decide) (by rw [c22]; decide) (by rw [c22]; decide) (by decide) ?_
    exact lawc_22 l hflags hL C0 hG hT hN hi hM hc hs hP hD hS hl hnext
  replace hM := (if_neg c22).symm.trans hM
  by_cases c23 : xs i &&& 31 = 23
  · replace hM := (if_pos c23).symm.trans hM
    refine lv_tableIn (off := 1478) (tgt := 1518) hx hb dL_law_40 (by rw [c23]; decide) (by rw [c23]; decide) (by rw [c23]; decide) (by decide) ?_
    exact lawc_23 l hflags hL C0 hG hT hN hi hM hc hs hP hD hS hl hnext
  replace hM := (if_neg c23).symm.trans hM
  by_cases c24 : xs i &&& 31 = 24
  · replace hM := (if_pos c24).symm.trans hM
    refine lv_tableIn (off := 1491) (tgt := 1531) hx hb dL_law_40 (by rw [c24]; decide) (by rw [c24]; decide) (by rw [c24]; decide) (by decide) ?_
    exact lawc_24 l hflags hL C0 hG hT hN hi hM hc hs hP hD hS hl hnext
  replace hM := (if_neg c24).symm.trans hM
  by_cases c25 : xs i &&& 31 = 25
  · replace hM := (if_pos c25).symm.trans hM
    refine lv_tableIn (off := 1535) (tgt := 1575) hx hb dL_law_40 (by rw [c25]; decide) (by rw [c25]; decide) (by rw [c25]; decide) (by decide) ?_
    exact lawc_25 l hflags hL C0 hG hT hN hi hM hc hs hP hD hS hl hnext
  replace hM := (if_neg c25).symm.trans hM
  have e0 : (xs i &&& 31).toInt ≠ 0 := fun q => c0 (Int32.toInt_inj.mp (q.trans (by decide)))
  have e1 : (xs i &&& 31).toInt ≠ 1 := fun q => c1 (Int32.toInt_inj.mp (q.trans (by decide)))
  have e2 : (xs i &&& 31).toInt ≠ 2 := fun q => c2 (Int32.toInt_inj.mp (q.trans (by decide)))
  have e3 : (xs i &&& 31).toInt ≠ 3 := fun q => c3 (Int32.toInt_inj.mp (q.trans (by decide)))
  have e4 : (xs i &&& 31).toInt ≠ 4 := fun q => c4 (Int32.toInt_inj.mp (q.trans (by decide)))
  have e5 : (xs i &&& 31).toInt ≠ 5 := fun q => c5 (Int32.toInt_inj.mp (q.trans (by decide)))
  have e6 : (xs i &&& 31).toInt ≠ 6 := fun q => c6 (Int32.toInt_inj.mp (q.trans (by decide)))
  have e7 : (xs i &&& 31).toInt ≠ 7 := fun q => c7 (Int32.toInt_inj.mp (q.trans (by decide)))
  have e8 : (xs i &&& 31).toInt ≠ 8 := fun q => c8 (Int32.toInt_inj.mp (q.trans (by decide)))
  have e9 : (xs i &&& 31).toInt ≠ 9 := fun q => c9 (Int32.toInt_inj.mp (q.trans (by decide)))
  have e10 : (xs i &&& 31).toInt ≠ 10 := fun q => c10 (Int32.toInt_inj.mp (q.trans (by decide)))
  have e11 : (xs i &&& 31).toInt ≠ 11 := fun q => c11 (Int32.toInt_inj.mp (q.trans (by decide)))
  have e12 : (xs i &&& 31).toInt ≠ 12 := fun q => c12 (Int32.toInt_inj.mp (q.trans (by decide)))
  have e13 : (xs i &&& 31).toInt ≠ 13 := fun q => c13 (Int32.toInt_inj.mp (q.trans (by decide)))
  have e14 : (xs i &&& 31).toInt ≠ 14 := fun q => c14 (Int32.toInt_inj.mp (q.trans (by decide)))
  have e15 : (xs i &&& 31).toInt ≠ 15 := fun q => c15 (Int32.toInt_inj.mp (q.trans (by decide)))
  have e16 : (xs i &&& 31).toInt ≠ 16 := fun q => c16 (Int32.toInt_inj.mp (q.trans (by decide)))
  have e17 : (xs i &&& 31).toInt ≠ 17 := fun q => c17 (Int32.toInt_inj.mp (q.trans (by decide)))
  have e18 : (xs i &&& 31).toInt ≠ 18 := fun q => c18 (Int32.toInt_inj.mp (q.trans (by decide)))
  have e19 : (xs i &&& 31).toInt ≠ 19 := fun q => c19 (Int32.toInt_inj.mp (q.trans (by decide)))
  have e20 : (xs i &&& 31).toInt ≠ 20 := fun q => c20 (Int32.toInt_inj.mp (q.trans (by decide)))
  have e21 : (xs i &&& 31).toInt ≠ 21 := fun q => c21 (Int32.toInt_inj.mp (q.trans (by decide)))
  have e22 : (xs i &&& 31).toInt ≠ 22 := fun q => c22 (Int32.toInt_inj.mp (q.trans (by decide)))
  have e23 : (xs i &&& 31).toInt ≠ 23 := fun q => c23 (Int32.toInt_inj.mp (q.trans (by decide)))
  have e24 : (xs i &&& 31).toInt ≠ 24 := fun q => c24 (Int32.toInt_inj.mp (q.trans (by decide)))
  have e25 : (xs i &&& 31).toInt ≠ 25 := fun q => c25 (Int32.toInt_inj.mp (q.trans (by decide)))
  have h0 : 0 ≤ (xs i &&& 31).toInt ∨ (xs i &&& 31).toInt < 0 := by omega
  refine lv_tableOut (tgt := 1589) hx hb dL_law_40 (by omega) (by decide) ?_
  replace hM := Option.some.inj hM
  subst hM
  refine W.widen (k := cells + 2) (n := slots + 12) (by omega) (by omega) ?_
  exact hnext H locs ls hP hD hS hl
theorem law_cmp {i L : Nat} (hi : i < 10000) (hL : L ≤ 3072) : (Int32.ofNat L - 6 < nI i) ↔ L < i + 6 := by
  have e : (Int32.ofNat L - 6).toInt = (L : Int) - 6 := pk_sub_toInt (a := L) (b := 6) (by omega) (by omega)
  rw [Int32.lt_iff_toInt_lt, e, nI_toInt (by omega)]
  omega
set_option maxHeartbeats 4000000 in
set_option maxRecDepth 100000 in
theorem law_loop {p : Program} {e : Env} {s : State} {m : MethodId} {below : List Frame} {meth : Method} {c : Code} (l : Launch) (hflags : l.stackTraces = false) {b L : Nat} {xs : Nat → Int32} (hL : L ≤ 3072) (C0 : lw_At p s m meth c b L xs) {dC : Nat → ClassId} {dI : Nat → Nat → Nat} {cI cD cJ : ClassId} {kk : wAd} {g gm : Nat → Nat} {a : Nat} (hG : wk_G dC dI (wTys cI cD cJ) s) (hT : wkT kk (fun q : Nat => s.heap.size ≤ q) s s.heap) (hN : wkN s) : ∀ (n i : Nat) (x : SS) (y : MS) (o : Nat → Int64) (H : Heap) (locs : List Loc) (cells slots : Nat) (ls : Array Slot), i + 6 * n ≤ L → L < i + 6 * n + 6 → M_lawL xs n i x y o = some () → cells + 2 * n ≤ 601024 → slots + 12 * n ≤ 7293034 → va_P (dC, dI) vwCl (wSys cI cD kk.1 g x ++ (wMod cI gm y ++ wLrow cJ a o)) H → va_D (fun q : Nat => s.heap.size ≤ q) (wSys cI cD kk.1 g x ++ (wMod cI gm y ++ wLrow cJ a o)) → va_S (fun q : Nat => s.heap.size ≤ q) s.heap H locs → lv_has ls 7 [(0, .ref b), (1, .ref (g 0)), (2, .ref (gm 0)), (3, .ref a), (4, .int (nI i))] → W p l e room_1 s m #[Value.ref b] below meth c H locs cells slots (lw_Z below #[Value.ref b] s) (F0 m 23 ls []) := by
  have C1 := C0
  obtain ⟨hx, hb, hr, hml, hown, hts0, hX, hbl, hlocks, hgv⟩ := C1
  have hbA : ¬ (fun q : Nat => s.heap.size ≤ q) b := Nat.not_le.mpr hbl
  intro n
  induction n with
  | zero =>
    intro i x y o H locs cells slots ls h1 h2 hM h3 h4 hP hD hS hl
    refine lv_iload hx hb dL_law_23 (lv_at hl 4 rfl) ?_
    refine lv_aload_n hx hb dL_law_25 rfl (lv_at hl 0 rfl) ?_
    refine va_slen hx hb hX hbl hbA hS dL_law_26 ?_
    refine lv_bipush (v := 6) hx hb dL_law_27 (by decide) ?_
    refine lv_isub hx hb dL_law_29 ?_
    refine lv_icmp_gt (tgt := 1595) hx hb dL_law_30 (by decide) (fun q => ?_) (fun q => absurd ((law_cmp (by omega) hL).mpr (by omega)) q)
    refine lv_iconst (v := 1) hx hb dL_law_1595 (by decide) ?_
    refine va_forget hS.2.2 ?_
    refine W.widen (k := 601024) (n := 7293034) (by omega) (by omega) ?_
    exact lw_ret hx hb hr hlocks dL_law_1596
  | succ n ih =>
    intro i x y o H locs cells slots ls h1 h2 hM h3 h4 hP hD hS hl
    refine lv_iload hx hb dL_law_23 (lv_at hl 4 rfl) ?_
    refine lv_aload_n hx hb dL_law_25 rfl (lv_at hl 0 rfl) ?_
    refine va_slen hx hb hX hbl hbA hS dL_law_26 ?_
    refine lv_bipush (v := 6) hx hb dL_law_27 (by decide) ?_
    refine lv_isub hx hb dL_law_29 ?_
    refine lv_icmp_gt (tgt := 1595) hx hb dL_law_30 (by decide) (fun q => absurd ((law_cmp (by omega) hL).mp q) (by omega)) (fun q => ?_)
    have hM : (M_lawB xs i x y o).bind (fun r => M_lawL xs n (i + 6) r.1 r.2.1 r.2.2) = some () := hM
    cases hB : M_lawB xs i x y o with
    | none => rw [hB] at hM; cases hM
    | some r =>
      rw [hB] at hM
      have hM : M_lawL xs n (i + 6) r.1 r.2.1 r.2.2 = some () := hM
      refine law_body l hflags hL C0 hG hT hN (show i + 6 ≤ L by omega) hB (show cells + 2 ≤ 601024 by omega) (show slots + 12 ≤ 7293034 by omega) hP hD hS hl (fun H locs ls hP hD hS hl => ?_)
      refine lv_iinc (v := nI (i + 6)) (lv' := [(4, .int (nI (i + 6))), (0, .ref b), (1, .ref (g 0)), (2, .ref (gm 0)), (3, .ref a)]) hx hb dL_law_1589 hl (k := 4) rfl (nI_add i 6) (by decide) rfl (fun ls hl => ?_)
      refine lv_goto (tgt := 23) hx hb dL_law_1592 (by decide) ?_
      exact ih (i + 6) r.1 r.2.1 r.2.2 H locs (cells + 2) (slots + 12) ls (by omega) (by omega) hM (by omega) (by omega) hP hD hS (lv_sub hl [1, 2, 3, 4, 0] rfl)
set_option maxHeartbeats 4000000 in
set_option maxRecDepth 100000 in
/-- from the entry, for every script of at most 3072 ints, the law comes to its end with true -/
theorem whole_start {p : Program} {e : Env} {s : State} {m : MethodId} {below : List Frame} {meth : Method} {c : Code} (l : Launch) (hflags : l.flags = flags0) {b L : Nat} {xs : Nat → Int32} (hL : L ≤ 3072) (C0 : lw_At p s m meth c b L xs) : W p l e room_1 s m #[Value.ref b] below meth c s.heap [] 0 0 (lw_Z below #[Value.ref b] s) (entryFrame m ([Value.ref b] : List Value).toArray 7) := by
  have hst : l.stackTraces = false := by
    unfold Launch.stackTraces
    rw [hflags]
    decide
  have C1 := C0
  obtain ⟨hx, hb, hr, hml, hown, hts0, hX, hbl, hlocks, hgv⟩ := C1
  have hown : s.vm.findClass RL = some m.cls := hown
  have hts : ∀ w ∈ wsL_law, w.before #[Value.ref b] s = true := fun w h => hts0 w (wsL_law_in w h)
  obtain ⟨dC, dI, cI, cD, cJ, hG⟩ := start_G hts0
  obtain ⟨kk, hT⟩ := start_T hts0 hgv
  have hN := start_N hts0 hgv
  have hA : ∀ q : Nat, s.heap.size ≤ q → (fun q : Nat => s.heap.size ≤ q) q := fun _ h => h
  have hP : va_P (dC, dI) vwCl ([] : va_W) s.heap := fun k q hq => by simp at hq
  have hD : va_D (fun q : Nat => s.heap.size ≤ q) ([] : va_W) := ⟨fun i j p q hi => by simp at hi, fun k q hq => by simp at hq⟩
  have hS : va_S (fun q : Nat => s.heap.size ≤ q) s.heap s.heap [] := va_S.rf
  have hl := lv_entry ([Value.ref b]) (n := 7) (Nat.le_of_ble_eq_true rfl)
  rw [lg_entry_eq]
  have hl : lv_has _ 7 [(0, .ref b)] := hl
  refine va_new (ci := 4) (fs := [.null, .null, .null, .null, .null, .null]) (C := RX6) (T := TX6) (N := 6) hx hb hts inlX6 tyX6 tyX6_ok hown (hts (.classLink RL 8 RX6) (List.mem_of_getElem? (i := 0) rfl)) (hts (.instantiable RX6 6) (List.mem_of_getElem? (i := 1) rfl)) (hts (.initialized RX6) (List.mem_of_getElem? (i := 2) rfl)) hG.1 hP hD hS hA rfl (fun j hj => by rcases (show j = 0 ∨ j = 1 ∨ j = 2 ∨ j = 3 ∨ j = 4 ∨ j = 5 by omega) with rfl | rfl | rfl | rfl | rfl | rfl <;> rfl) (Nat.le_of_ble_eq_true rfl) (Nat.le_of_ble_eq_true rfl) dL_law_0 (fun q0 H hP hD hS => ?_)
  have hP : va_P (dC, dI) vwCl ([(q0, .inr (4, [.null, .null, .null, .null, .null, .null]))] : va_W) H := hP
  have hD : va_D (fun q : Nat => s.heap.size ≤ q) ([(q0, .inr (4, [.null, .null, .null, .null, .null, .null]))] : va_W) := hD
  refine lv_dup hx hb dL_law_3 rfl ?_
  refine wk_callI (wr := ([] : va_W)) (va_runI (As := []) (rest := [.ref q0]) ⟨hx, hb, hml, hown, hts⟩ (c_X6_init l dC dI cI cD cJ kk q0 H) (cwI 0 hts gL_law_X6_init rfl rfl rfl (hts (.initialized RX6) (List.mem_of_getElem? (i := 2) rfl)) (hts (.methodLink RL 85 yX6_init) (List.mem_of_getElem? (i := 7) rfl)) (hts (.instanceMethod yX6_init) (List.mem_of_getElem? (i := 8) rfl)) rfl (by decide +kernel) ⟨(Nat.le_of_ble_eq_true rfl), (Nat.le_of_ble_eq_true rfl)⟩) (wk_preS hG hP hD [0] rfl rfl) rfl rfl hl.1 rfl (lv_room (Nat.le_of_ble_eq_true rfl)) dL_law_4 ⟨(Nat.le_of_ble_eq_true rfl), (Nat.le_of_ble_eq_true rfl)⟩) hP hD hS hA [0] [] rfl rfl rfl (by decide) (fun g H locs hg hPn hDn hSn => ?_)
  subst hg
  have hP := hPn
  have hD := hDn
  have hS := hSn
  have hP : va_P (dC, dI) vwCl (wSys cI cD kk.1 g ss0) H := hP
  have hD : va_D (fun q : Nat => s.heap.size ≤ q) (wSys cI cD kk.1 g ss0) := hD
  refine lv_astore_n (lv' := [(1, .ref (g 0)), (0, .ref b)]) hx hb dL_law_7 rfl hl (by decide) rfl (fun ls hl => ?_)
  refine va_new (ci := 5) (fs := [.null, .null, .null, .null, .null, .null, .null, .int 0, .int 0, .int 0, .int 0, .int 0, .int 0, .int 0]) (C := RX7) (T := TX7) (N := 14) hx hb hts inlX7 tyX7 tyX7_ok hown (hts (.classLink RL 86 RX7) (List.mem_of_getElem? (i := 3) rfl)) (hts (.instantiable RX7 14) (List.mem_of_getElem? (i := 4) rfl)) (hts (.initialized RX7) (List.mem_of_getElem? (i := 5) rfl)) hG.1 hP hD hS hA rfl (fun j hj => by rcases (show j = 0 ∨ j = 1 ∨ j = 2 ∨ j = 3 ∨ j = 4 ∨ j = 5 ∨ j = 6 ∨ j = 7 ∨ j = 8 ∨ j = 9 ∨ j = 10 ∨ j = 11 ∨ j = 12 ∨ j = 13 by omega) with rfl | rfl | rfl | rfl | rfl | rfl | rfl | rfl | rfl | rfl | rfl | rfl | rfl | rfl <;> rfl) (Nat.le_of_ble_eq_true rfl) (Nat.le_of_ble_eq_true rfl) dL_law_8 (fun q1 H hP hD hS => ?_)
  have hP : va_P (dC, dI) vwCl (wSys cI cD kk.1 g ss0 ++ [(q1, .inr (5, [.null, .null, .null, .null, .null, .null, .null, .int 0, .int 0, .int 0, .int 0, .int 0, .int 0, .int 0]))] : va_W) H := hP
  have hD : va_D (fun q : Nat => s.heap.size ≤ q) (wSys cI cD kk.1 g ss0 ++ [(q1, .inr (5, [.null, .null, .null, .null, .null, .null, .null, .int 0, .int 0, .int 0, .int 0, .int 0, .int 0, .int 0]))] : va_W) := hD
  refine lv_dup hx hb dL_law_11 rfl ?_
  refine wk_callI (wr := wSys cI cD kk.1 g ss0) (va_runI (As := []) (rest := [.ref q1]) ⟨hx, hb, hml, hown, hts⟩ (c_X7_init l dC dI cI cD cJ kk q1 H) (cwI 0 hts gL_law_X7_init rfl rfl rfl (hts (.initialized RX7) (List.mem_of_getElem? (i := 5) rfl)) (hts (.methodLink RL 88 yX7_init) (List.mem_of_getElem? (i := 70) rfl)) (hts (.instanceMethod yX7_init) (List.mem_of_getElem? (i := 71) rfl)) rfl (by decide +kernel) ⟨(Nat.le_of_ble_eq_true rfl), (Nat.le_of_ble_eq_true rfl)⟩) (wk_preS hG hP hD [38] rfl rfl) rfl rfl hl.1 rfl (lv_room (Nat.le_of_ble_eq_true rfl)) dL_law_12 ⟨(Nat.le_of_ble_eq_true rfl), (Nat.le_of_ble_eq_true rfl)⟩) hP hD hS hA [38] [0, 1, 2, 3, 4, 5, 6, 7, 8, 9, 10, 11, 12, 13, 14, 15, 16, 17, 18, 19, 20, 21, 22, 23, 24, 25, 26, 27, 28, 29, 30, 31, 32, 33, 34, 35, 36, 37] rfl rfl rfl (by decide) (fun gm H locs hg hPn hDn hSn => ?_)
  subst hg
  have hP := hPn
  have hD := hDn
  have hS := hSn
  refine lv_astore_n (lv' := [(2, .ref (gm 0)), (1, .ref (g 0)), (0, .ref b)]) hx hb dL_law_15 rfl hl (by decide) rfl (fun ls hl => ?_)
  refine lv_iconst (v := 1) hx hb dL_law_16 (by decide) ?_
  refine wk_newl hx hb (hts (.arrayClass .long) (List.mem_of_getElem? (i := 6) rfl)) hG hP hD hS hA 1 (by decide) (by decide) (by decide) (Nat.le_of_ble_eq_true rfl) (Nat.le_of_ble_eq_true rfl) dL_law_17 (fun a H hP hD hS => ?_)
  refine lv_astore_n (lv' := [(3, .ref a), (2, .ref (gm 0)), (1, .ref (g 0)), (0, .ref b)]) hx hb dL_law_19 rfl hl (by decide) rfl (fun ls hl => ?_)
  refine lv_iconst (v := 0) hx hb dL_law_20 (by decide) ?_
  refine lv_istore (lv' := [(4, .int (nI 0)), (3, .ref a), (2, .ref (gm 0)), (1, .ref (g 0)), (0, .ref b)]) hx hb dL_law_21 hl (by decide) rfl (fun ls hl => ?_)
  have hP : va_P (dC, dI) vwCl (wSys cI cD kk.1 g ss0 ++ (wMod cI gm ms0 ++ wLrow cJ a (fun _ => 0))) H := by
    rw [← List.append_assoc]; exact hP
  have hD : va_D (fun q : Nat => s.heap.size ≤ q) (wSys cI cD kk.1 g ss0 ++ (wMod cI gm ms0 ++ wLrow cJ a (fun _ => 0))) := by
    rw [← List.append_assoc]; exact hD
  have hdiv := Nat.div_add_mod L 6
  have hmod := Nat.mod_lt L (show 0 < 6 by decide)
  exact law_loop l hst hL C0 hG hT hN (L / 6) 0 ss0 ms0 (fun _ => 0) H _ _ _ ls (by omega) (by omega) (law_true xs (L / 6)) (by omega) (by omega) hP hD hS (lv_sub hl [4, 3, 2, 1, 0] rfl)
