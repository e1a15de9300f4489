/-! PART 43: the law's cases, on -/
set_option maxHeartbeats 4000000 in
set_option maxRecDepth 100000 in
theorem lawc_20 {p : Program} {e : Env} {s : State} {m : MethodId} {below : List Frame} {meth : Method} {c : Code} (l : Launch) (hflags : l.stackTraces = false) {b L : Nat} {xs : Nat → Int32} (hL : L ≤ 3072) (C0 : lw_At p s m meth c b L xs) {dC : Nat → ClassId} {dI : Nat → Nat → Nat} {cI cD cJ : ClassId} {kk : wAd} {g gm : Nat → Nat} {a : Nat} (hG : wk_G dC dI (wTys cI cD cJ) s) (hT : wkT kk (fun q : Nat => s.heap.size ≤ q) s s.heap) (hN : wkN s) {i : Nat} (hi : i + 6 ≤ L) {x : SS} {y : MS} {o : Nat → Int64} {r : SS × (MS × (Nat → Int64))} (hM : M_lawc_20 xs i x y o = some r) {H : Heap} {locs : List Loc} {cells slots : Nat} (hc : cells + 2 ≤ room_1.cells) (hs : slots + 12 ≤ room_1.slots) {ls : Array Slot} (hP : va_P (dC, dI) vwCl (wSys cI cD kk.1 g x ++ (wMod cI gm y ++ wLrow cJ a o)) H) (hD : va_D (fun q : Nat => s.heap.size ≤ q) (wSys cI cD kk.1 g x ++ (wMod cI gm y ++ wLrow cJ a o))) (hS : va_S (fun q : Nat => s.heap.size ≤ q) s.heap H locs) (hl : lv_has ls 7 [(0, .ref b), (1, .ref (g 0)), (2, .ref (gm 0)), (3, .ref a), (4, .int (nI i))]) (hnext : ∀ (H : Heap) (locs : List Loc) (ls : Array Slot), va_P (dC, dI) vwCl (wSys cI cD kk.1 g r.1 ++ (wMod cI gm r.2.1 ++ wLrow cJ a r.2.2)) H → va_D (fun q : Nat => s.heap.size ≤ q) (wSys cI cD kk.1 g r.1 ++ (wMod cI gm r.2.1 ++ wLrow cJ a r.2.2)) → va_S (fun q : Nat => s.heap.size ≤ q) s.heap H locs → lv_has ls 7 [(0, .ref b), (1, .ref (g 0)), (2, .ref (gm 0)), (3, .ref a), (4, .int (nI i))] → W p l e room_1 s m #[Value.ref b] below meth c H locs (cells + 2) (slots + 12) (lw_Z below #[Value.ref b] s) (F0 m 1589 ls [])) : W p l e room_1 s m #[Value.ref b] below meth c H locs cells slots (lw_Z below #[Value.ref b] s) (F0 m 1393 ls []) := by
  obtain ⟨hx, hb, hr, hml, hown, hts0, hX, hbl, hlocks, hgv⟩ := C0
  have hts : ∀ w ∈ wsL_law, w.before #[Value.ref b] s = true := fun w h => hts0 w (wsL_law_in w h)
  have hA : ∀ q : Nat, s.heap.size ≤ q → (fun q : Nat => s.heap.size ≤ q) q := fun _ h => h
  have hbA : ¬ (fun q : Nat => s.heap.size ≤ q) b := Nat.not_le.mpr hbl
  unfold M_lawc_20 at hM
  refine lv_aload_n hx hb dL_law_1393 rfl (lv_at hl 1 rfl) ?_
  refine lv_aload_n hx hb dL_law_1394 rfl (lv_at hl 0 rfl) ?_
  refine lv_iload hx hb dL_law_1395 (lv_at hl 4 rfl) ?_
  refine lv_iconst (v := 1) hx hb dL_law_1397 (by decide) ?_
  refine lv_iadd hx hb dL_law_1398 ?_
  refine wk_sld (i := i) (k := 1) hx hb hX hbl hbA hS hL (by omega) rfl dL_law_1399 ?_
  refine lv_aload_n hx hb dL_law_1400 rfl (lv_at hl 3 rfl) ?_
  obtain ⟨r1, hr1, hM⟩ := ob hM
  refine wk_callX (vx_runSX (As := [.ref (g 0), .int (xs (i + 1)), .ref a]) (rest := []) ⟨hx, hb, hml, hown, hts⟩ (c_L_finalValue l hflags dC dI cI cD cJ kk g a x o (xs (i + 1)) _ hr1 H) (vx_cwSW 3 hts gL_law_L_finalValue rfl rfl rfl (by decide +kernel) ⟨Nat.le_of_ble_eq_true rfl, Nat.le_of_ble_eq_true rfl⟩) (wk_preSL hG hP hD hT hN hS [0, 1, 2, 3, 4, 5, 6, 7, 8, 9, 10, 11, 12, 13, 14, 15, 16, 17, 18, 19, 20, 21, 22, 23, 24, 25, 26, 27, 28, 29, 30, 31, 32, 33, 34, 35, 36, 37, 46] rfl rfl (va_free hD hS hA [0, 1, 2, 3, 4, 5, 6, 7, 8, 9, 10, 11, 12, 13, 14, 15, 16, 17, 18, 19, 20, 21, 22, 23, 24, 25, 26, 27, 28, 29, 30, 31, 32, 33, 34, 35, 36, 37, 46] rfl)) rfl rfl hl.1 rfl (lv_room (Nat.le_of_ble_eq_true rfl)) dL_law_1401 ⟨Nat.le_trans (show cells + 1 ≤ cells + 2 by omega) hc, Nat.le_trans (show slots + 6 ≤ slots + 12 by omega) hs⟩) hP hD hS hA [0, 1, 2, 3, 4, 5, 6, 7, 8, 9, 10, 11, 12, 13, 14, 15, 16, 17, 18, 19, 20, 21, 22, 23, 24, 25, 26, 27, 28, 29, 30, 31, 32, 33, 34, 35, 36, 37, 46] [38, 39, 40, 41, 42, 43, 44, 45] [8, 9, 10, 11, 12, 13, 14, 15, 16, 17, 18, 19, 20, 21, 22, 23, 24, 25, 26, 27, 28, 29, 30, 31, 32, 33, 34, 35, 36, 37, 38, 39, 40, 41, 42, 43, 44, 45, 0, 1, 2, 3, 4, 5, 6, 7, 46] rfl rfl rfl (by decide) rfl rfl (fun f9 ce q9 H locs ho9 hP hD hS hc9 hv9 hf9 => by cases ho9) (fun ov w1 ho9 H locs hPD hS => ?_)
  cases ho9
  obtain ⟨hP, hD⟩ := hPD (wSys cI cD kk.1 g r1.2.1 ++ (wMod cI gm y ++ wLrow cJ a r1.2.2)) rfl
  refine lv_istore (lv' := [(5, .int r1.1), (0, .ref b), (1, .ref (g 0)), (2, .ref (gm 0)), (3, .ref a), (4, .int (nI i))]) hx hb dL_law_1404 hl (by decide) rfl (fun ls hl => ?_)
  refine lv_aload_n hx hb dL_law_1406 rfl (lv_at hl 3 rfl) ?_
  refine lv_aload_n hx hb dL_law_1407 rfl (lv_at hl 1 rfl) ?_
  refine lv_iload hx hb dL_law_1408 (lv_at hl 5 rfl) ?_
  refine lv_iconst (v := 1) hx hb dL_law_1410 (by decide) ?_
  refine lv_iadd hx hb dL_law_1411 ?_
  refine wk_sld (i := i) (k := 1) hx hb hX hbl hbA hS hL (by omega) rfl dL_law_1412 ?_
  obtain ⟨r2, hr2, hM⟩ := ob hM
  refine wk_callM (ws' := (wSys cI cD kk.1 g r1.2.1 ++ (wMod cI gm r2.2 ++ wLrow cJ a r1.2.2))) (va_runV (As := [.int (xs (i + 1))]) (rest := []) ⟨hx, hb, hml, hown, hts⟩ (c_X7_finalValue l dC dI cI cD cJ kk gm y (xs (i + 1)) _ hr2 H) (cwV 1 hts gL_law_X7_finalValue rfl rfl rfl (by decide +kernel) ⟨Nat.le_of_ble_eq_true rfl, Nat.le_of_ble_eq_true rfl⟩) (wk_preV (ci := 5) (q0 := 38) hG hP hD [38, 39, 40, 41, 42, 43, 44, 45] rfl rfl rfl rfl) rfl rfl hl.1 rfl (lv_room (Nat.le_of_ble_eq_true rfl)) dL_law_1413 ⟨Nat.le_trans (show cells + 1 + 0 ≤ cells + 2 by omega) hc, Nat.le_trans (show slots + 6 + 0 ≤ slots + 12 by omega) hs⟩) hP hD hS hA [38, 39, 40, 41, 42, 43, 44, 45] [0, 1, 2, 3, 4, 5, 6, 7, 8, 9, 10, 11, 12, 13, 14, 15, 16, 17, 18, 19, 20, 21, 22, 23, 24, 25, 26, 27, 28, 29, 30, 31, 32, 33, 34, 35, 36, 37, 46] [0, 1, 2, 3, 4, 5, 6, 7, 8, 9, 10, 11, 12, 13, 14, 15, 16, 17, 18, 19, 20, 21, 22, 23, 24, 25, 26, 27, 28, 29, 30, 31, 32, 33, 34, 35, 36, 37, 39, 40, 41, 42, 43, 44, 45, 46, 38] rfl rfl rfl (by decide) rfl rfl (fun H locs hP hD hS => ?_)
  refine lv_istore (lv' := [(6, .int r2.1), (5, .int r1.1), (0, .ref b), (1, .ref (g 0)), (2, .ref (gm 0)), (3, .ref a), (4, .int (nI i))]) hx hb dL_law_1416 hl (by decide) rfl (fun ls hl => ?_)
  refine lv_aload_n hx hb dL_law_1418 rfl (lv_at hl 4 rfl) ?_
  refine wk_callP (va_runV (As := []) (rest := []) ⟨hx, hb, hml, hown, hts⟩ (c_X7_thrown l dC dI cI cD cJ kk gm r2.2 _ rfl H) (cwV 0 hts gL_law_X7_thrown rfl rfl rfl (by decide +kernel) ⟨Nat.le_of_ble_eq_true rfl, Nat.le_of_ble_eq_true rfl⟩) (wk_preV (ci := 5) (q0 := 38) hG hP hD [38, 39, 40, 41, 42, 43, 44, 45] rfl rfl rfl rfl) rfl rfl hl.1 rfl (lv_room (Nat.le_of_ble_eq_true rfl)) dL_law_1419 ⟨Nat.le_trans (show cells + 1 + 0 + 0 ≤ cells + 2 by omega) hc, Nat.le_trans (show slots + 6 + 0 + 0 ≤ slots + 12 by omega) hs⟩) hS (fun locs hS => ?_)
  refine lv_iload hx hb dL_law_1422 (lv_at hl 1 rfl) ?_
  refine lv_icmp_eq (tgt := 1429) hx hb dL_law_1424 (by decide) (fun c3 => ?_) (fun c3 => ?_)
  · replace hM := (if_pos c3).symm.trans hM
    refine lv_iload hx hb dL_law_1429 (lv_at hl 1 rfl) ?_
    refine lv_if_ne (tgt := 1446) hx hb dL_law_1431 (by decide) (fun c4 => ?_) (fun c4 => ?_)
    · replace hM := (if_neg c4).symm.trans hM
      refine lv_goto (tgt := 1589) hx hb dL_law_1446 (by decide) ?_
      replace hM := Option.some.inj hM
      subst hM
      refine W.widen (k := cells + 2) (n := slots + 12) (by omega) (by omega) ?_
      exact hnext H locs ls hP hD hS (lv_sub hl [2, 3, 4, 5, 6] rfl)
    · replace hM := (if_pos c4).symm.trans hM
      refine lv_aload_n hx hb dL_law_1434 rfl (lv_at hl 5 rfl) ?_
      refine lv_iconst (v := 0) hx hb dL_law_1435 (by decide) ?_
      refine va_lald hx hb hG.1 hP 46 2 rfl rfl (vpb_in.mp (by decide)) dL_law_1436 ?_
      refine lv_iload hx hb dL_law_1437 (lv_at hl 0 rfl) ?_
      refine lv_i2l hx hb dL_law_1439 rfl ?_
      refine W.lcmp hx hb dL_law_1440 ?_
      refine lv_if_eq (tgt := 1446) hx hb dL_law_1441 (by decide) (fun c5 => ?_) (fun c5 => ?_)
      · replace hM := (if_pos c5).symm.trans hM
        refine lv_goto (tgt := 1589) hx hb dL_law_1446 (by decide) ?_
        replace hM := Option.some.inj hM
        subst hM
        refine W.widen (k := cells + 2) (n := slots + 12) (by omega) (by omega) ?_
        exact hnext H locs ls hP hD hS (lv_sub hl [2, 3, 4, 5, 6] rfl)
      · replace hM := (if_neg c5).symm.trans hM
        refine lv_iconst (v := 0) hx hb dL_law_1444 (by decide) ?_
        cases hM
  · replace hM := (if_neg c3).symm.trans hM
    refine lv_iconst (v := 0) hx hb dL_law_1427 (by decide) ?_
    cases hM
set_option maxHeartbeats 4000000 in
set_option maxRecDepth 100000 in
theorem lawc_21 {p : Program} {e : Env} {s : State} {m : MethodId} {below : List Frame} {meth : Method} {c : Code} (l : Launch) (hflags : l.stackTraces = false) {b L : Nat} {xs : Nat → Int32} (hL : L ≤ 3072) (C0 : lw_At p s m meth c b L xs) {dC : Nat → ClassId} {dI : Nat → Nat → Nat} {cI cD cJ : ClassId} {kk : wAd} {g gm : Nat → Nat} {a : Nat} (hG : wk_G dC dI (wTys cI cD cJ) s) (hT : wkT kk (fun q : Nat => s.heap.size ≤ q) s s.heap) (hN : wkN s) {i : Nat} (hi : i + 6 ≤ L) {x : SS} {y : MS} {o : Nat → Int64} {r : SS × (MS × (Nat → Int64))} (hM : M_lawc_21 xs i x y o = some r) {H : Heap} {locs : List Loc} {cells slots : Nat} (hc : cells + 2 ≤ room_1.cells) (hs : slots + 12 ≤ room_1.slots) {ls : Array Slot} (hP : va_P (dC, dI) vwCl (wSys cI cD kk.1 g x ++ (wMod cI gm y ++ wLrow cJ a o)) H) (hD : va_D (fun q : Nat => s.heap.size ≤ q) (wSys cI cD kk.1 g x ++ (wMod cI gm y ++ wLrow cJ a o))) (hS : va_S (fun q : Nat => s.heap.size ≤ q) s.heap H locs) (hl : lv_has ls 7 [(0, .ref b), (1, .ref (g 0)), (2, .ref (gm 0)), (3, .ref a), (4, .int (nI i))]) (hnext : ∀ (H : Heap) (locs : List Loc) (ls : Array Slot), va_P (dC, dI) vwCl (wSys cI cD kk.1 g r.1 ++ (wMod cI gm r.2.1 ++ wLrow cJ a r.2.2)) H → va_D (fun q : Nat => s.heap.size ≤ q) (wSys cI cD kk.1 g r.1 ++ (wMod cI gm r.2.1 ++ wLrow cJ a r.2.2)) → va_S (fun q : Nat => s.heap.size ≤ q) s.heap H locs → lv_has ls 7 [(0, .ref b), (1, .ref (g 0)), (2, .ref (gm 0)), (3, .ref a), (4, .int (nI i))] → W p l e room_1 s m #[Value.ref b] below meth c H locs (cells + 2) (slots + 12) (lw_Z below #[Value.ref b] s) (F0 m 1589 ls [])) : W p l e room_1 s m #[Value.ref b] below meth c H locs cells slots (lw_Z below #[Value.ref b] s) (F0 m 1449 ls []) := by
  obtain ⟨hx, hb, hr, hml, hown, hts0, hX, hbl, hlocks, hgv⟩ := C0
  have hts : ∀ w ∈ wsL_law, w.before #[Value.ref b] s = true := fun w h => hts0 w (wsL_law_in w h)
  have hA : ∀ q : Nat, s.heap.size ≤ q → (fun q : Nat => s.heap.size ≤ q) q := fun _ h => h
  have hbA : ¬ (fun q : Nat => s.heap.size ≤ q) b := Nat.not_le.mpr hbl
  unfold M_lawc_21 at hM
  refine lv_aload_n hx hb dL_law_1449 rfl (lv_at hl 1 rfl) ?_
  refine lv_aload_n hx hb dL_law_1450 rfl (lv_at hl 0 rfl) ?_
  refine lv_iload hx hb dL_law_1451 (lv_at hl 4 rfl) ?_
  refine lv_iconst (v := 1) hx hb dL_law_1453 (by decide) ?_
  refine lv_iadd hx hb dL_law_1454 ?_
  refine wk_sld (i := i) (k := 1) hx hb hX hbl hbA hS hL (by omega) rfl dL_law_1455 ?_
  refine lv_aload_n hx hb dL_law_1456 rfl (lv_at hl 3 rfl) ?_
  obtain ⟨r1, hr1, hM⟩ := ob hM
  refine wk_callX (vx_runSX (As := [.ref (g 0), .int (xs (i + 1)), .ref a]) (rest := []) ⟨hx, hb, hml, hown, hts⟩ (c_L_type l hflags dC dI cI cD cJ kk g a x o (xs (i + 1)) _ hr1 H) (vx_cwSW 3 hts gL_law_L_type rfl rfl rfl (by decide +kernel) ⟨Nat.le_of_ble_eq_true rfl, Nat.le_of_ble_eq_true rfl⟩) (wk_preSL hG hP hD hT hN hS [0, 1, 2, 3, 4, 5, 6, 7, 8, 9, 10, 11, 12, 13, 14, 15, 16, 17, 18, 19, 20, 21, 22, 23, 24, 25, 26, 27, 28, 29, 30, 31, 32, 33, 34, 35, 36, 37, 46] rfl rfl (va_free hD hS hA [0, 1, 2, 3, 4, 5, 6, 7, 8, 9, 10, 11, 12, 13, 14, 15, 16, 17, 18, 19, 20, 21, 22, 23, 24, 25, 26, 27, 28, 29, 30, 31, 32, 33, 34, 35, 36, 37, 46] rfl)) rfl rfl hl.1 rfl (lv_room (Nat.le_of_ble_eq_true rfl)) dL_law_1457 ⟨Nat.le_trans (show cells + 2 ≤ cells + 2 by omega) hc, Nat.le_trans (show slots + 12 ≤ slots + 12 by omega) hs⟩) hP hD hS hA [0, 1, 2, 3, 4, 5, 6, 7, 8, 9, 10, 11, 12, 13, 14, 15, 16, 17, 18, 19, 20, 21, 22, 23, 24, 25, 26, 27, 28, 29, 30, 31, 32, 33, 34, 35, 36, 37, 46] [38, 39, 40, 41, 42, 43, 44, 45] [8, 9, 10, 11, 12, 13, 14, 15, 16, 17, 18, 19, 20, 21, 22, 23, 24, 25, 26, 27, 28, 29, 30, 31, 32, 33, 34, 35, 36, 37, 38, 39, 40, 41, 42, 43, 44, 45, 0, 1, 2, 3, 4, 5, 6, 7, 46] rfl rfl rfl (by decide) rfl rfl (fun f9 ce q9 H locs ho9 hP hD hS hc9 hv9 hf9 => by cases ho9) (fun ov w1 ho9 H locs hPD hS => ?_)
  cases ho9
  obtain ⟨hP, hD⟩ := hPD (wSys cI cD kk.1 g r1.2.1 ++ (wMod cI gm y ++ wLrow cJ a r1.2.2)) rfl
  refine lv_istore (lv' := [(5, .int r1.1), (0, .ref b), (1, .ref (g 0)), (2, .ref (gm 0)), (3, .ref a), (4, .int (nI i))]) hx hb dL_law_1460 hl (by decide) rfl (fun ls hl => ?_)
  refine lv_aload_n hx hb dL_law_1462 rfl (lv_at hl 3 rfl) ?_
  refine lv_aload_n hx hb dL_law_1463 rfl (lv_at hl 1 rfl) ?_
  refine lv_iload hx hb dL_law_1464 (lv_at hl 5 rfl) ?_
  refine lv_iconst (v := 1) hx hb dL_law_1466 (by decide) ?_
  refine lv_iadd hx hb dL_law_1467 ?_
  refine wk_sld (i := i) (k := 1) hx hb hX hbl hbA hS hL (by omega) rfl dL_law_1468 ?_
  obtain ⟨r2, hr2, hM⟩ := ob hM
  refine wk_callM (ws' := (wSys cI cD kk.1 g r1.2.1 ++ (wMod cI gm r2.2 ++ wLrow cJ a r1.2.2))) (va_runV (As := [.int (xs (i + 1))]) (rest := []) ⟨hx, hb, hml, hown, hts⟩ (c_X7_type l dC dI cI cD cJ kk gm y (xs (i + 1)) _ hr2 H) (cwV 1 hts gL_law_X7_type rfl rfl rfl (by decide +kernel) ⟨Nat.le_of_ble_eq_true rfl, Nat.le_of_ble_eq_true rfl⟩) (wk_preV (ci := 5) (q0 := 38) hG hP hD [38, 39, 40, 41, 42, 43, 44, 45] rfl rfl rfl rfl) rfl rfl hl.1 rfl (lv_room (Nat.le_of_ble_eq_true rfl)) dL_law_1469 ⟨Nat.le_trans (show cells + 2 + 0 ≤ cells + 2 by omega) hc, Nat.le_trans (show slots + 12 + 0 ≤ slots + 12 by omega) hs⟩) hP hD hS hA [38, 39, 40, 41, 42, 43, 44, 45] [0, 1, 2, 3, 4, 5, 6, 7, 8, 9, 10, 11, 12, 13, 14, 15, 16, 17, 18, 19, 20, 21, 22, 23, 24, 25, 26, 27, 28, 29, 30, 31, 32, 33, 34, 35, 36, 37, 46] [0, 1, 2, 3, 4, 5, 6, 7, 8, 9, 10, 11, 12, 13, 14, 15, 16, 17, 18, 19, 20, 21, 22, 23, 24, 25, 26, 27, 28, 29, 30, 31, 32, 33, 34, 35, 36, 37, 39, 40, 41, 42, 43, 44, 45, 46, 38] rfl rfl rfl (by decide) rfl rfl (fun H locs hP hD hS => ?_)
  refine lv_istore (lv' := [(6, .int r2.1), (5, .int r1.1), (0, .ref b), (1, .ref (g 0)), (2, .ref (gm 0)), (3, .ref a), (4, .int (nI i))]) hx hb dL_law_1472 hl (by decide) rfl (fun ls hl => ?_)
  refine lv_aload_n hx hb dL_law_1474 rfl (lv_at hl 4 rfl) ?_
  refine wk_callP (va_runV (As := []) (rest := []) ⟨hx, hb, hml, hown, hts⟩ (c_X7_thrown l dC dI cI cD cJ kk gm r2.2 _ rfl H) (cwV 0 hts gL_law_X7_thrown rfl rfl rfl (by decide +kernel) ⟨Nat.le_of_ble_eq_true rfl, Nat.le_of_ble_eq_true rfl⟩) (wk_preV (ci := 5) (q0 := 38) hG hP hD [38, 39, 40, 41, 42, 43, 44, 45] rfl rfl rfl rfl) rfl rfl hl.1 rfl (lv_room (Nat.le_of_ble_eq_true rfl)) dL_law_1475 ⟨Nat.le_trans (show cells + 2 + 0 + 0 ≤ cells + 2 by omega) hc, Nat.le_trans (show slots + 12 + 0 + 0 ≤ slots + 12 by omega) hs⟩) hS (fun locs hS => ?_)
  refine lv_iload hx hb dL_law_1478 (lv_at hl 1 rfl) ?_
  refine lv_icmp_eq (tgt := 1485) hx hb dL_law_1480 (by decide) (fun c3 => ?_) (fun c3 => ?_)
  · replace hM := (if_pos c3).symm.trans hM
    refine lv_iload hx hb dL_law_1485 (lv_at hl 1 rfl) ?_
    refine lv_if_ne (tgt := 1502) hx hb dL_law_1487 (by decide) (fun c4 => ?_) (fun c4 => ?_)
    · replace hM := (if_neg c4).symm.trans hM
      refine lv_goto (tgt := 1589) hx hb dL_law_1502 (by decide) ?_
      replace hM := Option.some.inj hM
      subst hM
      refine W.widen (k := cells + 2) (n := slots + 12) (by omega) (by omega) ?_
      exact hnext H locs ls hP hD hS (lv_sub hl [2, 3, 4, 5, 6] rfl)
    · replace hM := (if_pos c4).symm.trans hM
      refine lv_aload_n hx hb dL_law_1490 rfl (lv_at hl 5 rfl) ?_
      refine lv_iconst (v := 0) hx hb dL_law_1491 (by decide) ?_
      refine va_lald hx hb hG.1 hP 46 2 rfl rfl (vpb_in.mp (by decide)) dL_law_1492 ?_
      refine lv_iload hx hb dL_law_1493 (lv_at hl 0 rfl) ?_
      refine lv_i2l hx hb dL_law_1495 rfl ?_
      refine W.lcmp hx hb dL_law_1496 ?_
      refine lv_if_eq (tgt := 1502) hx hb dL_law_1497 (by decide) (fun c5 => ?_) (fun c5 => ?_)
      · replace hM := (if_pos c5).symm.trans hM
        refine lv_goto (tgt := 1589) hx hb dL_law_1502 (by decide) ?_
        replace hM := Option.some.inj hM
        subst hM
        refine W.widen (k := cells + 2) (n := slots + 12) (by omega) (by omega) ?_
        exact hnext H locs ls hP hD hS (lv_sub hl [2, 3, 4, 5, 6] rfl)
      · replace hM := (if_neg c5).symm.trans hM
        refine lv_iconst (v := 0) hx hb dL_law_1500 (by decide) ?_
        cases hM
  · replace hM := (if_neg c3).symm.trans hM
    refine lv_iconst (v := 0) hx hb dL_law_1483 (by decide) ?_
    cases hM
set_option maxHeartbeats 4000000 in
set_option maxRecDepth 100000 in
theorem lawc_22 {p : Program} {e : Env} {s : State} {m : MethodId} {below : List Frame} {meth : Method} {c : Code} (l : Launch) (hflags : l.stackTraces = false) {b L : Nat} {xs : Nat → Int32} (hL : L ≤ 3072) (C0 : lw_At p s m meth c b L xs) {dC : Nat → ClassId} {dI : Nat → Nat → Nat} {cI cD cJ : ClassId} {kk : wAd} {g gm : Nat → Nat} {a : Nat} (hG : wk_G dC dI (wTys cI cD cJ) s) (hT : wkT kk (fun q : Nat => s.heap.size ≤ q) s s.heap) (hN : wkN s) {i : Nat} (hi : i + 6 ≤ L) {x : SS} {y : MS} {o : Nat → Int64} {r : SS × (MS × (Nat → Int64))} (hM : M_lawc_22 xs i x y o = some r) {H : Heap} {locs : List Loc} {cells slots : Nat} (hc : cells + 2 ≤ room_1.cells) (hs : slots + 12 ≤ room_1.slots) {ls : Array Slot} (hP : va_P (dC, dI) vwCl (wSys cI cD kk.1 g x ++ (wMod cI gm y ++ wLrow cJ a o)) H) (hD : va_D (fun q : Nat => s.heap.size ≤ q) (wSys cI cD kk.1 g x ++ (wMod cI gm y ++ wLrow cJ a o))) (hS : va_S (fun q : Nat => s.heap.size ≤ q) s.heap H locs) (hl : lv_has ls 7 [(0, .ref b), (1, .ref (g 0)), (2, .ref (gm 0)), (3, .ref a), (4, .int (nI i))]) (hnext : ∀ (H : Heap) (locs : List Loc) (ls : Array Slot), va_P (dC, dI) vwCl (wSys cI cD kk.1 g r.1 ++ (wMod cI gm r.2.1 ++ wLrow cJ a r.2.2)) H → va_D (fun q : Nat => s.heap.size ≤ q) (wSys cI cD kk.1 g r.1 ++ (wMod cI gm r.2.1 ++ wLrow cJ a r.2.2)) → va_S (fun q : Nat => s.heap.size ≤ q) s.heap H locs → lv_has ls 7 [(0, .ref b), (1, .ref (g 0)), (2, .ref (gm 0)), (3, .ref a), (4, .int (nI i))] → W p l e room_1 s m #[Value.ref b] below meth c H locs (cells + 2) (slots + 12) (lw_Z below #[Value.ref b] s) (F0 m 1589 ls [])) : W p l e room_1 s m #[Value.ref b] below meth c H locs cells slots (lw_Z below #[Value.ref b] s) (F0 m 1505 ls []) := by
  obtain ⟨hx, hb, hr, hml, hown, hts0, hX, hbl, hlocks, hgv⟩ := C0
  have hts : ∀ w ∈ wsL_law, w.before #[Value.ref b] s = true := fun w h => hts0 w (wsL_law_in w h)
  have hA : ∀ q : Nat, s.heap.size ≤ q → (fun q : Nat => s.heap.size ≤ q) q := fun _ h => h
  have hbA : ¬ (fun q : Nat => s.heap.size ≤ q) b := Nat.not_le.mpr hbl
  unfold M_lawc_22 at hM
  refine lv_aload_n hx hb dL_law_1505 rfl (lv_at hl 1 rfl) ?_
  refine wk_callM (ws' := (wSys cI cD kk.1 g (M_X6_clearCommands x).2 ++ (wMod cI gm y ++ wLrow cJ a o))) (va_runV (As := []) (rest := []) ⟨hx, hb, hml, hown, hts⟩ (c_X6_clearCommands l dC dI cI cD cJ kk g x _ rfl H) (cwV 0 hts gL_law_X6_clearCommands rfl rfl rfl (by decide +kernel) ⟨Nat.le_of_ble_eq_true rfl, Nat.le_of_ble_eq_true rfl⟩) (wk_preV (ci := 4) (q0 := 0) hG hP hD [0, 1, 2, 3, 4, 5, 6, 7, 8, 9, 10, 11, 12, 13, 14, 15, 16, 17, 18, 19, 20, 21, 22, 23, 24, 25, 26, 27, 28, 29, 30, 31, 32, 33, 34, 35, 36, 37] rfl rfl rfl rfl) rfl rfl hl.1 rfl (lv_room (Nat.le_of_ble_eq_true rfl)) dL_law_1506 ⟨Nat.le_trans (show cells + 0 ≤ cells + 2 by omega) hc, Nat.le_trans (show slots + 0 ≤ slots + 12 by omega) hs⟩) hP hD hS hA [0, 1, 2, 3, 4, 5, 6, 7, 8, 9, 10, 11, 12, 13, 14, 15, 16, 17, 18, 19, 20, 21, 22, 23, 24, 25, 26, 27, 28, 29, 30, 31, 32, 33, 34, 35, 36, 37] [38, 39, 40, 41, 42, 43, 44, 45, 46] [9, 10, 11, 12, 13, 14, 15, 16, 17, 18, 19, 20, 21, 22, 23, 24, 25, 26, 27, 28, 29, 30, 31, 32, 33, 34, 35, 36, 37, 38, 39, 40, 41, 42, 43, 44, 45, 46, 0, 1, 2, 3, 4, 5, 6, 7, 8] rfl rfl rfl (by decide) rfl rfl (fun H locs hP hD hS => ?_)
  refine lv_aload_n hx hb dL_law_1509 rfl (lv_at hl 2 rfl) ?_
  refine wk_callM (ws' := (wSys cI cD kk.1 g (M_X6_clearCommands x).2 ++ (wMod cI gm (M_X7_clearCommands y).2 ++ wLrow cJ a o))) (va_runV (As := []) (rest := [.int (M_X6_clearCommands x).1]) ⟨hx, hb, hml, hown, hts⟩ (c_X7_clearCommands l dC dI cI cD cJ kk gm y _ rfl H) (cwV 0 hts gL_law_X7_clearCommands rfl rfl rfl (by decide +kernel) ⟨Nat.le_of_ble_eq_true rfl, Nat.le_of_ble_eq_true rfl⟩) (wk_preV (ci := 5) (q0 := 38) hG hP hD [38, 39, 40, 41, 42, 43, 44, 45] rfl rfl rfl rfl) rfl rfl hl.1 rfl (lv_room (Nat.le_of_ble_eq_true rfl)) dL_law_1510 ⟨Nat.le_trans (show cells + 0 + 0 ≤ cells + 2 by omega) hc, Nat.le_trans (show slots + 0 + 0 ≤ slots + 12 by omega) hs⟩) hP hD hS hA [38, 39, 40, 41, 42, 43, 44, 45] [0, 1, 2, 3, 4, 5, 6, 7, 8, 9, 10, 11, 12, 13, 14, 15, 16, 17, 18, 19, 20, 21, 22, 23, 24, 25, 26, 27, 28, 29, 30, 31, 32, 33, 34, 35, 36, 37, 46] [0, 1, 2, 3, 4, 5, 6, 7, 8, 9, 10, 11, 12, 13, 14, 15, 16, 17, 18, 19, 20, 21, 22, 23, 24, 25, 26, 27, 28, 29, 30, 31, 32, 33, 34, 35, 36, 37, 39, 40, 41, 42, 43, 44, 45, 46, 38] rfl rfl rfl (by decide) rfl rfl (fun H locs hP hD hS => ?_)
  refine lv_icmp_eq (tgt := 1589) hx hb dL_law_1513 (by decide) (fun c1 => ?_) (fun c1 => ?_)
  · replace hM := (if_pos c1).symm.trans hM
    replace hM := Option.some.inj hM
    subst hM
    refine W.widen (k := cells + 2) (n := slots + 12) (by omega) (by omega) ?_
    exact hnext H locs ls hP hD hS (lv_sub hl [0, 1, 2, 3, 4] rfl)
  · replace hM := (if_neg c1).symm.trans hM
    refine lv_iconst (v := 0) hx hb dL_law_1516 (by decide) ?_
    cases hM
set_option maxHeartbeats 4000000 in
set_option maxRecDepth 100000 in
theorem lawc_23 {p : Program} {e : Env} {s : State} {m : MethodId} {below : List Frame} {meth : Method} {c : Code} (l : Launch) (hflags : l.stackTraces = false) {b L : Nat} {xs : Nat → Int32} (hL : L ≤ 3072) (C0 : lw_At p s m meth c b L xs) {dC : Nat → ClassId} {dI : Nat → Nat → Nat} {cI cD cJ : ClassId} {kk : wAd} {g gm : Nat → Nat} {a : Nat} (hG : wk_G dC dI (wTys cI cD cJ) s) (hT : wkT kk (fun q : Nat => s.heap.size ≤ q) s s.heap) (hN : wkN s) {i : Nat} (hi : i + 6 ≤ L) {x : SS} {y : MS} {o : Nat → Int64} {r : SS × (MS × (Nat → Int64))} (hM : M_lawc_23 xs i x y o = some r) {H : Heap} {locs : List Loc} {cells slots : Nat} (hc : cells + 2 ≤ room_1.cells) (hs : slots + 12 ≤ room_1.slots) {ls : Array Slot} (hP : va_P (dC, dI) vwCl (wSys cI cD kk.1 g x ++ (wMod cI gm y ++ wLrow cJ a o)) H) (hD : va_D (fun q : Nat => s.heap.size ≤ q) (wSys cI cD kk.1 g x ++ (wMod cI gm y ++ wLrow cJ a o))) (hS : va_S (fun q : Nat => s.heap.size ≤ q) s.heap H locs) (hl : lv_has ls 7 [(0, .ref b), (1, .ref (g 0)), (2, .ref (gm 0)), (3, .ref a), (4, .int (nI i))]) (hnext : ∀ (H : Heap) (locs : List Loc) (ls : Array Slot), va_P (dC, dI) vwCl (wSys cI cD kk.1 g r.1 ++ (wMod cI gm r.2.1 ++ wLrow cJ a r.2.2)) H → va_D (fun q : Nat => s.heap.size ≤ q) (wSys cI cD kk.1 g r.1 ++ (wMod cI gm r.2.1 ++ wLrow cJ a r.2.2)) → va_S (fun q : Nat => s.heap.size ≤ q) s.heap H locs → lv_has ls 7 [(0, .ref b), (1, .ref (g 0)), (2, .ref (gm 0)), (3, .ref a), (4, .int (nI i))] → W p l e room_1 s m #[Value.ref b] below meth c H locs (cells + 2) (slots + 12) (lw_Z below #[Value.ref b] s) (F0 m 1589 ls [])) : W p l e room_1 s m #[Value.ref b] below meth c H locs cells slots (lw_Z below #[Value.ref b] s) (F0 m 1518 ls []) := by
  obtain ⟨hx, hb, hr, hml, hown, hts0, hX, hbl, hlocks, hgv⟩ := C0
  have hts : ∀ w ∈ wsL_law, w.before #[Value.ref b] s = true := fun w h => hts0 w (wsL_law_in w h)
  have hA : ∀ q : Nat, s.heap.size ≤ q → (fun q : Nat => s.heap.size ≤ q) q := fun _ h => h
  have hbA : ¬ (fun q : Nat => s.heap.size ≤ q) b := Nat.not_le.mpr hbl
  unfold M_lawc_23 at hM
  refine lv_aload_n hx hb dL_law_1518 rfl (lv_at hl 1 rfl) ?_
  obtain ⟨r1, hr1, hM⟩ := ob hM
  refine wk_callM (ws' := (wSys cI cD kk.1 g r1.2 ++ (wMod cI gm y ++ wLrow cJ a o))) (va_runV (As := []) (rest := []) ⟨hx, hb, hml, hown, hts⟩ (c_X6_runCommands l dC dI cI cD cJ kk g x _ hr1 H) (cwV 0 hts gL_law_X6_runCommands rfl rfl rfl (by decide +kernel) ⟨Nat.le_of_ble_eq_true rfl, Nat.le_of_ble_eq_true rfl⟩) (wk_preVT (ci := 4) (q0 := 0) hG hP hD hT hS (fun _ h9 => h9) [0, 1, 2, 3, 4, 5, 6, 7, 8, 9, 10, 11, 12, 13, 14, 15, 16, 17, 18, 19, 20, 21, 22, 23, 24, 25, 26, 27, 28, 29, 30, 31, 32, 33, 34, 35, 36, 37] rfl rfl rfl rfl (va_free hD hS hA [0, 1, 2, 3, 4, 5, 6, 7, 8, 9, 10, 11, 12, 13, 14, 15, 16, 17, 18, 19, 20, 21, 22, 23, 24, 25, 26, 27, 28, 29, 30, 31, 32, 33, 34, 35, 36, 37] rfl)) rfl rfl hl.1 rfl (lv_room (Nat.le_of_ble_eq_true rfl)) dL_law_1519 ⟨Nat.le_trans (show cells + 0 ≤ cells + 2 by omega) hc, Nat.le_trans (show slots + 0 ≤ slots + 12 by omega) hs⟩) hP hD hS hA [0, 1, 2, 3, 4, 5, 6, 7, 8, 9, 10, 11, 12, 13, 14, 15, 16, 17, 18, 19, 20, 21, 22, 23, 24, 25, 26, 27, 28, 29, 30, 31, 32, 33, 34, 35, 36, 37] [38, 39, 40, 41, 42, 43, 44, 45, 46] [9, 10, 11, 12, 13, 14, 15, 16, 17, 18, 19, 20, 21, 22, 23, 24, 25, 26, 27, 28, 29, 30, 31, 32, 33, 34, 35, 36, 37, 38, 39, 40, 41, 42, 43, 44, 45, 46, 0, 1, 2, 3, 4, 5, 6, 7, 8] rfl rfl rfl (by decide) rfl rfl (fun H locs hP hD hS => ?_)
  refine lv_aload_n hx hb dL_law_1522 rfl (lv_at hl 2 rfl) ?_
  obtain ⟨r2, hr2, hM⟩ := ob hM
  refine wk_callM (ws' := (wSys cI cD kk.1 g r1.2 ++ (wMod cI gm r2.2 ++ wLrow cJ a o))) (va_runV (As := []) (rest := [.int r1.1]) ⟨hx, hb, hml, hown, hts⟩ (c_X7_runCommands l dC dI cI cD cJ kk gm y _ hr2 H) (cwV 0 hts gL_law_X7_runCommands rfl rfl rfl (by decide +kernel) ⟨Nat.le_of_ble_eq_true rfl, Nat.le_of_ble_eq_true rfl⟩) (wk_preV (ci := 5) (q0 := 38) hG hP hD [38, 39, 40, 41, 42, 43, 44, 45] rfl rfl rfl rfl) rfl rfl hl.1 rfl (lv_room (Nat.le_of_ble_eq_true rfl)) dL_law_1523 ⟨Nat.le_trans (show cells + 0 + 0 ≤ cells + 2 by omega) hc, Nat.le_trans (show slots + 0 + 0 ≤ slots + 12 by omega) hs⟩) hP hD hS hA [38, 39, 40, 41, 42, 43, 44, 45] [0, 1, 2, 3, 4, 5, 6, 7, 8, 9, 10, 11, 12, 13, 14, 15, 16, 17, 18, 19, 20, 21, 22, 23, 24, 25, 26, 27, 28, 29, 30, 31, 32, 33, 34, 35, 36, 37, 46] [0, 1, 2, 3, 4, 5, 6, 7, 8, 9, 10, 11, 12, 13, 14, 15, 16, 17, 18, 19, 20, 21, 22, 23, 24, 25, 26, 27, 28, 29, 30, 31, 32, 33, 34, 35, 36, 37, 39, 40, 41, 42, 43, 44, 45, 46, 38] rfl rfl rfl (by decide) rfl rfl (fun H locs hP hD hS => ?_)
  refine lv_icmp_eq (tgt := 1589) hx hb dL_law_1526 (by decide) (fun c3 => ?_) (fun c3 => ?_)
  · replace hM := (if_pos c3).symm.trans hM
    replace hM := Option.some.inj hM
    subst hM
    refine W.widen (k := cells + 2) (n := slots + 12) (by omega) (by omega) ?_
    exact hnext H locs ls hP hD hS (lv_sub hl [0, 1, 2, 3, 4] rfl)
  · replace hM := (if_neg c3).symm.trans hM
    refine lv_iconst (v := 0) hx hb dL_law_1529 (by decide) ?_
    cases hM
