/-! PART 43: the law's cases, on -/
set_option maxHeartbeats 4000000 in
set_option maxRecDepth 100000 in
theorem lawc_4 {p : Program} {e : Env} {s : State} {m : MethodId} {below : List Frame} {meth : Method} {c : Code} (l : Launch) (hflags : l.stackTraces = false) {b L : Nat} {xs : Nat → Int32} (hL : L ≤ 3072) (C0 : lw_At p s m meth c b L xs) {dC : Nat → ClassId} {dI : Nat → Nat → Nat} {cI cD cJ : ClassId} {kk : wAd} {g gm : Nat → Nat} {a : Nat} (hG : wk_G dC dI (wTys cI cD cJ) s) (hT : wkT kk (fun q : Nat => s.heap.size ≤ q) s s.heap) (hN : wkN s) {i : Nat} (hi : i + 6 ≤ L) {x : SS} {y : MS} {o : Nat → Int64} {r : SS × (MS × (Nat → Int64))} (hM : M_lawc_4 xs i x y o = some r) {H : Heap} {locs : List Loc} {cells slots : Nat} (hc : cells + 2 ≤ room_1.cells) (hs : slots + 12 ≤ room_1.slots) {ls : Array Slot} (hP : va_P (dC, dI) vwCl (wSys cI cD kk.1 g x ++ (wMod cI gm y ++ wLrow cJ a o)) H) (hD : va_D (fun q : Nat => s.heap.size ≤ q) (wSys cI cD kk.1 g x ++ (wMod cI gm y ++ wLrow cJ a o))) (hS : va_S (fun q : Nat => s.heap.size ≤ q) s.heap H locs) (hl : lv_has ls 7 [(0, .ref b), (1, .ref (g 0)), (2, .ref (gm 0)), (3, .ref a), (4, .int (nI i))]) (hnext : ∀ (H : Heap) (locs : List Loc) (ls : Array Slot), va_P (dC, dI) vwCl (wSys cI cD kk.1 g r.1 ++ (wMod cI gm r.2.1 ++ wLrow cJ a r.2.2)) H → va_D (fun q : Nat => s.heap.size ≤ q) (wSys cI cD kk.1 g r.1 ++ (wMod cI gm r.2.1 ++ wLrow cJ a r.2.2)) → va_S (fun q : Nat => s.heap.size ≤ q) s.heap H locs → lv_has ls 7 [(0, .ref b), (1, .ref (g 0)), (2, .ref (gm 0)), (3, .ref a), (4, .int (nI i))] → W p l e room_1 s m #[Value.ref b] below meth c H locs (cells + 2) (slots + 12) (lw_Z below #[Value.ref b] s) (F0 m 1589 ls [])) : W p l e room_1 s m #[Value.ref b] below meth c H locs cells slots (lw_Z below #[Value.ref b] s) (F0 m 444 ls []) := by
  obtain ⟨hx, hb, hr, hml, hown, hts0, hX, hbl, hlocks, hgv⟩ := C0
  have hts : ∀ w ∈ wsL_law, w.before #[Value.ref b] s = true := fun w h => hts0 w (wsL_law_in w h)
  have hA : ∀ q : Nat, s.heap.size ≤ q → (fun q : Nat => s.heap.size ≤ q) q := fun _ h => h
  have hbA : ¬ (fun q : Nat => s.heap.size ≤ q) b := Nat.not_le.mpr hbl
  unfold M_lawc_4 at hM
  refine lv_aload_n hx hb dL_law_444 rfl (lv_at hl 1 rfl) ?_
  refine lv_aload_n hx hb dL_law_445 rfl (lv_at hl 0 rfl) ?_
  refine lv_iload hx hb dL_law_446 (lv_at hl 4 rfl) ?_
  refine lv_iconst (v := 1) hx hb dL_law_448 (by decide) ?_
  refine lv_iadd hx hb dL_law_449 ?_
  refine wk_sld (i := i) (k := 1) hx hb hX hbl hbA hS hL (by omega) rfl dL_law_450 ?_
  refine lv_aload_n hx hb dL_law_451 rfl (lv_at hl 0 rfl) ?_
  refine lv_iload hx hb dL_law_452 (lv_at hl 4 rfl) ?_
  refine lv_iconst (v := 2) hx hb dL_law_454 (by decide) ?_
  refine lv_iadd hx hb dL_law_455 ?_
  refine wk_sld (i := i) (k := 2) hx hb hX hbl hbA hS hL (by omega) rfl dL_law_456 ?_
  refine lv_aload_n hx hb dL_law_457 rfl (lv_at hl 3 rfl) ?_
  obtain ⟨r1, hr1, hM⟩ := ob hM
  refine wk_callX (vx_runSX (As := [.ref (g 0), .int (xs (i + 1)), .int (xs (i + 2)), .ref a]) (rest := []) ⟨hx, hb, hml, hown, hts⟩ (c_L_setDelay l hflags dC dI cI cD cJ kk g a x o (xs (i + 1)) (xs (i + 2)) _ hr1 H) (vx_cwSW 4 hts gL_law_L_setDelay rfl rfl rfl (by decide +kernel) ⟨Nat.le_of_ble_eq_true rfl, Nat.le_of_ble_eq_true rfl⟩) (wk_preSL hG hP hD hT hN hS [0, 1, 2, 3, 4, 5, 6, 7, 8, 9, 10, 11, 12, 13, 14, 15, 16, 17, 18, 19, 20, 21, 22, 23, 24, 25, 26, 27, 28, 29, 30, 31, 32, 33, 34, 35, 36, 37, 46] rfl rfl (va_free hD hS hA [0, 1, 2, 3, 4, 5, 6, 7, 8, 9, 10, 11, 12, 13, 14, 15, 16, 17, 18, 19, 20, 21, 22, 23, 24, 25, 26, 27, 28, 29, 30, 31, 32, 33, 34, 35, 36, 37, 46] rfl)) rfl rfl hl.1 rfl (lv_room (Nat.le_of_ble_eq_true rfl)) dL_law_458 ⟨Nat.le_trans (show cells + 1 ≤ cells + 2 by omega) hc, Nat.le_trans (show slots + 6 ≤ slots + 12 by omega) hs⟩) hP hD hS hA [0, 1, 2, 3, 4, 5, 6, 7, 8, 9, 10, 11, 12, 13, 14, 15, 16, 17, 18, 19, 20, 21, 22, 23, 24, 25, 26, 27, 28, 29, 30, 31, 32, 33, 34, 35, 36, 37, 46] [38, 39, 40, 41, 42, 43, 44, 45] [8, 9, 10, 11, 12, 13, 14, 15, 16, 17, 18, 19, 20, 21, 22, 23, 24, 25, 26, 27, 28, 29, 30, 31, 32, 33, 34, 35, 36, 37, 38, 39, 40, 41, 42, 43, 44, 45, 0, 1, 2, 3, 4, 5, 6, 7, 46] rfl rfl rfl (by decide) rfl rfl (fun f9 ce q9 H locs ho9 hP hD hS hc9 hv9 hf9 => by cases ho9) (fun ov w1 ho9 H locs hPD hS => ?_)
  cases ho9
  obtain ⟨hP, hD⟩ := hPD (wSys cI cD kk.1 g r1.2.1 ++ (wMod cI gm y ++ wLrow cJ a r1.2.2)) rfl
  refine lv_istore (lv' := [(5, .int r1.1), (0, .ref b), (1, .ref (g 0)), (2, .ref (gm 0)), (3, .ref a), (4, .int (nI i))]) hx hb dL_law_461 hl (by decide) rfl (fun ls hl => ?_)
  refine lv_aload_n hx hb dL_law_463 rfl (lv_at hl 3 rfl) ?_
  refine lv_aload_n hx hb dL_law_464 rfl (lv_at hl 1 rfl) ?_
  refine lv_iload hx hb dL_law_465 (lv_at hl 5 rfl) ?_
  refine lv_iconst (v := 1) hx hb dL_law_467 (by decide) ?_
  refine lv_iadd hx hb dL_law_468 ?_
  refine wk_sld (i := i) (k := 1) hx hb hX hbl hbA hS hL (by omega) rfl dL_law_469 ?_
  refine lv_aload_n hx hb dL_law_470 rfl (lv_at hl 1 rfl) ?_
  refine lv_iload hx hb dL_law_471 (lv_at hl 5 rfl) ?_
  refine lv_iconst (v := 2) hx hb dL_law_473 (by decide) ?_
  refine lv_iadd hx hb dL_law_474 ?_
  refine wk_sld (i := i) (k := 2) hx hb hX hbl hbA hS hL (by omega) rfl dL_law_475 ?_
  obtain ⟨r2, hr2, hM⟩ := ob hM
  refine wk_callM (ws' := (wSys cI cD kk.1 g r1.2.1 ++ (wMod cI gm r2.2 ++ wLrow cJ a r1.2.2))) (va_runV (As := [.int (xs (i + 1)), .int (xs (i + 2))]) (rest := []) ⟨hx, hb, hml, hown, hts⟩ (c_X7_setDelay l dC dI cI cD cJ kk gm y (xs (i + 1)) (xs (i + 2)) _ hr2 H) (cwV 2 hts gL_law_X7_setDelay rfl rfl rfl (by decide +kernel) ⟨Nat.le_of_ble_eq_true rfl, Nat.le_of_ble_eq_true rfl⟩) (wk_preV (ci := 5) (q0 := 38) hG hP hD [38, 39, 40, 41, 42, 43, 44, 45] rfl rfl rfl rfl) rfl rfl hl.1 rfl (lv_room (Nat.le_of_ble_eq_true rfl)) dL_law_476 ⟨Nat.le_trans (show cells + 1 + 0 ≤ cells + 2 by omega) hc, Nat.le_trans (show slots + 6 + 0 ≤ slots + 12 by omega) hs⟩) hP hD hS hA [38, 39, 40, 41, 42, 43, 44, 45] [0, 1, 2, 3, 4, 5, 6, 7, 8, 9, 10, 11, 12, 13, 14, 15, 16, 17, 18, 19, 20, 21, 22, 23, 24, 25, 26, 27, 28, 29, 30, 31, 32, 33, 34, 35, 36, 37, 46] [0, 1, 2, 3, 4, 5, 6, 7, 8, 9, 10, 11, 12, 13, 14, 15, 16, 17, 18, 19, 20, 21, 22, 23, 24, 25, 26, 27, 28, 29, 30, 31, 32, 33, 34, 35, 36, 37, 39, 40, 41, 42, 43, 44, 45, 46, 38] rfl rfl rfl (by decide) rfl rfl (fun H locs hP hD hS => ?_)
  refine lv_istore (lv' := [(6, .int r2.1), (5, .int r1.1), (0, .ref b), (1, .ref (g 0)), (2, .ref (gm 0)), (3, .ref a), (4, .int (nI i))]) hx hb dL_law_479 hl (by decide) rfl (fun ls hl => ?_)
  refine lv_aload_n hx hb dL_law_481 rfl (lv_at hl 4 rfl) ?_
  refine wk_callP (va_runV (As := []) (rest := []) ⟨hx, hb, hml, hown, hts⟩ (c_X7_thrown l dC dI cI cD cJ kk gm r2.2 _ rfl H) (cwV 0 hts gL_law_X7_thrown rfl rfl rfl (by decide +kernel) ⟨Nat.le_of_ble_eq_true rfl, Nat.le_of_ble_eq_true rfl⟩) (wk_preV (ci := 5) (q0 := 38) hG hP hD [38, 39, 40, 41, 42, 43, 44, 45] rfl rfl rfl rfl) rfl rfl hl.1 rfl (lv_room (Nat.le_of_ble_eq_true rfl)) dL_law_482 ⟨Nat.le_trans (show cells + 1 + 0 + 0 ≤ cells + 2 by omega) hc, Nat.le_trans (show slots + 6 + 0 + 0 ≤ slots + 12 by omega) hs⟩) hS (fun locs hS => ?_)
  refine lv_iload hx hb dL_law_485 (lv_at hl 1 rfl) ?_
  refine lv_icmp_eq (tgt := 492) hx hb dL_law_487 (by decide) (fun c3 => ?_) (fun c3 => ?_)
  · replace hM := (if_pos c3).symm.trans hM
    refine lv_iload hx hb dL_law_492 (lv_at hl 1 rfl) ?_
    refine lv_if_ne (tgt := 509) hx hb dL_law_494 (by decide) (fun c4 => ?_) (fun c4 => ?_)
    · replace hM := (if_neg c4).symm.trans hM
      refine lv_goto (tgt := 1589) hx hb dL_law_509 (by decide) ?_
      replace hM := Option.some.inj hM
      subst hM
      refine W.widen (k := cells + 2) (n := slots + 12) (by omega) (by omega) ?_
      exact hnext H locs ls hP hD hS (lv_sub hl [2, 3, 4, 5, 6] rfl)
    · replace hM := (if_pos c4).symm.trans hM
      refine lv_aload_n hx hb dL_law_497 rfl (lv_at hl 5 rfl) ?_
      refine lv_iconst (v := 0) hx hb dL_law_498 (by decide) ?_
      refine va_lald hx hb hG.1 hP 46 2 rfl rfl (vpb_in.mp (by decide)) dL_law_499 ?_
      refine lv_iload hx hb dL_law_500 (lv_at hl 0 rfl) ?_
      refine lv_i2l hx hb dL_law_502 rfl ?_
      refine W.lcmp hx hb dL_law_503 ?_
      refine lv_if_eq (tgt := 509) hx hb dL_law_504 (by decide) (fun c5 => ?_) (fun c5 => ?_)
      · replace hM := (if_pos c5).symm.trans hM
        refine lv_goto (tgt := 1589) hx hb dL_law_509 (by decide) ?_
        replace hM := Option.some.inj hM
        subst hM
        refine W.widen (k := cells + 2) (n := slots + 12) (by omega) (by omega) ?_
        exact hnext H locs ls hP hD hS (lv_sub hl [2, 3, 4, 5, 6] rfl)
      · replace hM := (if_neg c5).symm.trans hM
        refine lv_iconst (v := 0) hx hb dL_law_507 (by decide) ?_
        cases hM
  · replace hM := (if_neg c3).symm.trans hM
    refine lv_iconst (v := 0) hx hb dL_law_490 (by decide) ?_
    cases hM
set_option maxHeartbeats 4000000 in
set_option maxRecDepth 100000 in
theorem lawc_5 {p : Program} {e : Env} {s : State} {m : MethodId} {below : List Frame} {meth : Method} {c : Code} (l : Launch) (hflags : l.stackTraces = false) {b L : Nat} {xs : Nat → Int32} (hL : L ≤ 3072) (C0 : lw_At p s m meth c b L xs) {dC : Nat → ClassId} {dI : Nat → Nat → Nat} {cI cD cJ : ClassId} {kk : wAd} {g gm : Nat → Nat} {a : Nat} (hG : wk_G dC dI (wTys cI cD cJ) s) (hT : wkT kk (fun q : Nat => s.heap.size ≤ q) s s.heap) (hN : wkN s) {i : Nat} (hi : i + 6 ≤ L) {x : SS} {y : MS} {o : Nat → Int64} {r : SS × (MS × (Nat → Int64))} (hM : M_lawc_5 xs i x y o = some r) {H : Heap} {locs : List Loc} {cells slots : Nat} (hc : cells + 2 ≤ room_1.cells) (hs : slots + 12 ≤ room_1.slots) {ls : Array Slot} (hP : va_P (dC, dI) vwCl (wSys cI cD kk.1 g x ++ (wMod cI gm y ++ wLrow cJ a o)) H) (hD : va_D (fun q : Nat => s.heap.size ≤ q) (wSys cI cD kk.1 g x ++ (wMod cI gm y ++ wLrow cJ a o))) (hS : va_S (fun q : Nat => s.heap.size ≤ q) s.heap H locs) (hl : lv_has ls 7 [(0, .ref b), (1, .ref (g 0)), (2, .ref (gm 0)), (3, .ref a), (4, .int (nI i))]) (hnext : ∀ (H : Heap) (locs : List Loc) (ls : Array Slot), va_P (dC, dI) vwCl (wSys cI cD kk.1 g r.1 ++ (wMod cI gm r.2.1 ++ wLrow cJ a r.2.2)) H → va_D (fun q : Nat => s.heap.size ≤ q) (wSys cI cD kk.1 g r.1 ++ (wMod cI gm r.2.1 ++ wLrow cJ a r.2.2)) → va_S (fun q : Nat => s.heap.size ≤ q) s.heap H locs → lv_has ls 7 [(0, .ref b), (1, .ref (g 0)), (2, .ref (gm 0)), (3, .ref a), (4, .int (nI i))] → W p l e room_1 s m #[Value.ref b] below meth c H locs (cells + 2) (slots + 12) (lw_Z below #[Value.ref b] s) (F0 m 1589 ls [])) : W p l e room_1 s m #[Value.ref b] below meth c H locs cells slots (lw_Z below #[Value.ref b] s) (F0 m 512 ls []) := by
  obtain ⟨hx, hb, hr, hml, hown, hts0, hX, hbl, hlocks, hgv⟩ := C0
  have hts : ∀ w ∈ wsL_law, w.before #[Value.ref b] s = true := fun w h => hts0 w (wsL_law_in w h)
  have hA : ∀ q : Nat, s.heap.size ≤ q → (fun q : Nat => s.heap.size ≤ q) q := fun _ h => h
  have hbA : ¬ (fun q : Nat => s.heap.size ≤ q) b := Nat.not_le.mpr hbl
  unfold M_lawc_5 at hM
  refine lv_aload_n hx hb dL_law_512 rfl (lv_at hl 1 rfl) ?_
  refine lv_aload_n hx hb dL_law_513 rfl (lv_at hl 0 rfl) ?_
  refine lv_iload hx hb dL_law_514 (lv_at hl 4 rfl) ?_
  refine lv_iconst (v := 1) hx hb dL_law_516 (by decide) ?_
  refine lv_iadd hx hb dL_law_517 ?_
  refine wk_sld (i := i) (k := 1) hx hb hX hbl hbA hS hL (by omega) rfl dL_law_518 ?_
  refine lv_aload_n hx hb dL_law_519 rfl (lv_at hl 0 rfl) ?_
  refine lv_iload hx hb dL_law_520 (lv_at hl 4 rfl) ?_
  refine lv_iconst (v := 2) hx hb dL_law_522 (by decide) ?_
  refine lv_iadd hx hb dL_law_523 ?_
  refine wk_sld (i := i) (k := 2) hx hb hX hbl hbA hS hL (by omega) rfl dL_law_524 ?_
  refine lv_aload_n hx hb dL_law_525 rfl (lv_at hl 3 rfl) ?_
  obtain ⟨r1, hr1, hM⟩ := ob hM
  refine wk_callX (vx_runSX (As := [.ref (g 0), .int (xs (i + 1)), .int (xs (i + 2)), .ref a]) (rest := []) ⟨hx, hb, hml, hown, hts⟩ (c_L_setAlarm l hflags dC dI cI cD cJ kk g a x o (xs (i + 1)) (xs (i + 2)) _ hr1 H) (vx_cwSW 4 hts gL_law_L_setAlarm rfl rfl rfl (by decide +kernel) ⟨Nat.le_of_ble_eq_true rfl, Nat.le_of_ble_eq_true rfl⟩) (wk_preSL hG hP hD hT hN hS [0, 1, 2, 3, 4, 5, 6, 7, 8, 9, 10, 11, 12, 13, 14, 15, 16, 17, 18, 19, 20, 21, 22, 23, 24, 25, 26, 27, 28, 29, 30, 31, 32, 33, 34, 35, 36, 37, 46] rfl rfl (va_free hD hS hA [0, 1, 2, 3, 4, 5, 6, 7, 8, 9, 10, 11, 12, 13, 14, 15, 16, 17, 18, 19, 20, 21, 22, 23, 24, 25, 26, 27, 28, 29, 30, 31, 32, 33, 34, 35, 36, 37, 46] rfl)) rfl rfl hl.1 rfl (lv_room (Nat.le_of_ble_eq_true rfl)) dL_law_526 ⟨Nat.le_trans (show cells + 1 ≤ cells + 2 by omega) hc, Nat.le_trans (show slots + 6 ≤ slots + 12 by omega) hs⟩) hP hD hS hA [0, 1, 2, 3, 4, 5, 6, 7, 8, 9, 10, 11, 12, 13, 14, 15, 16, 17, 18, 19, 20, 21, 22, 23, 24, 25, 26, 27, 28, 29, 30, 31, 32, 33, 34, 35, 36, 37, 46] [38, 39, 40, 41, 42, 43, 44, 45] [8, 9, 10, 11, 12, 13, 14, 15, 16, 17, 18, 19, 20, 21, 22, 23, 24, 25, 26, 27, 28, 29, 30, 31, 32, 33, 34, 35, 36, 37, 38, 39, 40, 41, 42, 43, 44, 45, 0, 1, 2, 3, 4, 5, 6, 7, 46] rfl rfl rfl (by decide) rfl rfl (fun f9 ce q9 H locs ho9 hP hD hS hc9 hv9 hf9 => by cases ho9) (fun ov w1 ho9 H locs hPD hS => ?_)
  cases ho9
  obtain ⟨hP, hD⟩ := hPD (wSys cI cD kk.1 g r1.2.1 ++ (wMod cI gm y ++ wLrow cJ a r1.2.2)) rfl
  refine lv_istore (lv' := [(5, .int r1.1), (0, .ref b), (1, .ref (g 0)), (2, .ref (gm 0)), (3, .ref a), (4, .int (nI i))]) hx hb dL_law_529 hl (by decide) rfl (fun ls hl => ?_)
  refine lv_aload_n hx hb dL_law_531 rfl (lv_at hl 3 rfl) ?_
  refine lv_aload_n hx hb dL_law_532 rfl (lv_at hl 1 rfl) ?_
  refine lv_iload hx hb dL_law_533 (lv_at hl 5 rfl) ?_
  refine lv_iconst (v := 1) hx hb dL_law_535 (by decide) ?_
  refine lv_iadd hx hb dL_law_536 ?_
  refine wk_sld (i := i) (k := 1) hx hb hX hbl hbA hS hL (by omega) rfl dL_law_537 ?_
  refine lv_aload_n hx hb dL_law_538 rfl (lv_at hl 1 rfl) ?_
  refine lv_iload hx hb dL_law_539 (lv_at hl 5 rfl) ?_
  refine lv_iconst (v := 2) hx hb dL_law_541 (by decide) ?_
  refine lv_iadd hx hb dL_law_542 ?_
  refine wk_sld (i := i) (k := 2) hx hb hX hbl hbA hS hL (by omega) rfl dL_law_543 ?_
  obtain ⟨r2, hr2, hM⟩ := ob hM
  refine wk_callM (ws' := (wSys cI cD kk.1 g r1.2.1 ++ (wMod cI gm r2.2 ++ wLrow cJ a r1.2.2))) (va_runV (As := [.int (xs (i + 1)), .int (xs (i + 2))]) (rest := []) ⟨hx, hb, hml, hown, hts⟩ (c_X7_setAlarm l dC dI cI cD cJ kk gm y (xs (i + 1)) (xs (i + 2)) _ hr2 H) (cwV 2 hts gL_law_X7_setAlarm rfl rfl rfl (by decide +kernel) ⟨Nat.le_of_ble_eq_true rfl, Nat.le_of_ble_eq_true rfl⟩) (wk_preV (ci := 5) (q0 := 38) hG hP hD [38, 39, 40, 41, 42, 43, 44, 45] rfl rfl rfl rfl) rfl rfl hl.1 rfl (lv_room (Nat.le_of_ble_eq_true rfl)) dL_law_544 ⟨Nat.le_trans (show cells + 1 + 0 ≤ cells + 2 by omega) hc, Nat.le_trans (show slots + 6 + 0 ≤ slots + 12 by omega) hs⟩) hP hD hS hA [38, 39, 40, 41, 42, 43, 44, 45] [0, 1, 2, 3, 4, 5, 6, 7, 8, 9, 10, 11, 12, 13, 14, 15, 16, 17, 18, 19, 20, 21, 22, 23, 24, 25, 26, 27, 28, 29, 30, 31, 32, 33, 34, 35, 36, 37, 46] [0, 1, 2, 3, 4, 5, 6, 7, 8, 9, 10, 11, 12, 13, 14, 15, 16, 17, 18, 19, 20, 21, 22, 23, 24, 25, 26, 27, 28, 29, 30, 31, 32, 33, 34, 35, 36, 37, 39, 40, 41, 42, 43, 44, 45, 46, 38] rfl rfl rfl (by decide) rfl rfl (fun H locs hP hD hS => ?_)
  refine lv_istore (lv' := [(6, .int r2.1), (5, .int r1.1), (0, .ref b), (1, .ref (g 0)), (2, .ref (gm 0)), (3, .ref a), (4, .int (nI i))]) hx hb dL_law_547 hl (by decide) rfl (fun ls hl => ?_)
  refine lv_aload_n hx hb dL_law_549 rfl (lv_at hl 4 rfl) ?_
  refine wk_callP (va_runV (As := []) (rest := []) ⟨hx, hb, hml, hown, hts⟩ (c_X7_thrown l dC dI cI cD cJ kk gm r2.2 _ rfl H) (cwV 0 hts gL_law_X7_thrown rfl rfl rfl (by decide +kernel) ⟨Nat.le_of_ble_eq_true rfl, Nat.le_of_ble_eq_true rfl⟩) (wk_preV (ci := 5) (q0 := 38) hG hP hD [38, 39, 40, 41, 42, 43, 44, 45] rfl rfl rfl rfl) rfl rfl hl.1 rfl (lv_room (Nat.le_of_ble_eq_true rfl)) dL_law_550 ⟨Nat.le_trans (show cells + 1 + 0 + 0 ≤ cells + 2 by omega) hc, Nat.le_trans (show slots + 6 + 0 + 0 ≤ slots + 12 by omega) hs⟩) hS (fun locs hS => ?_)
  refine lv_iload hx hb dL_law_553 (lv_at hl 1 rfl) ?_
  refine lv_icmp_eq (tgt := 560) hx hb dL_law_555 (by decide) (fun c3 => ?_) (fun c3 => ?_)
  · replace hM := (if_pos c3).symm.trans hM
    refine lv_iload hx hb dL_law_560 (lv_at hl 1 rfl) ?_
    refine lv_if_ne (tgt := 577) hx hb dL_law_562 (by decide) (fun c4 => ?_) (fun c4 => ?_)
    · replace hM := (if_neg c4).symm.trans hM
      refine lv_goto (tgt := 1589) hx hb dL_law_577 (by decide) ?_
      replace hM := Option.some.inj hM
      subst hM
      refine W.widen (k := cells + 2) (n := slots + 12) (by omega) (by omega) ?_
      exact hnext H locs ls hP hD hS (lv_sub hl [2, 3, 4, 5, 6] rfl)
    · replace hM := (if_pos c4).symm.trans hM
      refine lv_aload_n hx hb dL_law_565 rfl (lv_at hl 5 rfl) ?_
      refine lv_iconst (v := 0) hx hb dL_law_566 (by decide) ?_
      refine va_lald hx hb hG.1 hP 46 2 rfl rfl (vpb_in.mp (by decide)) dL_law_567 ?_
      refine lv_iload hx hb dL_law_568 (lv_at hl 0 rfl) ?_
      refine lv_i2l hx hb dL_law_570 rfl ?_
      refine W.lcmp hx hb dL_law_571 ?_
      refine lv_if_eq (tgt := 577) hx hb dL_law_572 (by decide) (fun c5 => ?_) (fun c5 => ?_)
      · replace hM := (if_pos c5).symm.trans hM
        refine lv_goto (tgt := 1589) hx hb dL_law_577 (by decide) ?_
        replace hM := Option.some.inj hM
        subst hM
        refine W.widen (k := cells + 2) (n := slots + 12) (by omega) (by omega) ?_
        exact hnext H locs ls hP hD hS (lv_sub hl [2, 3, 4, 5, 6] rfl)
      · replace hM := (if_neg c5).symm.trans hM
        refine lv_iconst (v := 0) hx hb dL_law_575 (by decide) ?_
        cases hM
  · replace hM := (if_neg c3).symm.trans hM
    refine lv_iconst (v := 0) hx hb dL_law_558 (by decide) ?_
    cases hM
set_option maxHeartbeats 4000000 in
set_option maxRecDepth 100000 in
theorem lawc_6 {p : Program} {e : Env} {s : State} {m : MethodId} {below : List Frame} {meth : Method} {c : Code} (l : Launch) (hflags : l.stackTraces = false) {b L : Nat} {xs : Nat → Int32} (hL : L ≤ 3072) (C0 : lw_At p s m meth c b L xs) {dC : Nat → ClassId} {dI : Nat → Nat → Nat} {cI cD cJ : ClassId} {kk : wAd} {g gm : Nat → Nat} {a : Nat} (hG : wk_G dC dI (wTys cI cD cJ) s) (hT : wkT kk (fun q : Nat => s.heap.size ≤ q) s s.heap) (hN : wkN s) {i : Nat} (hi : i + 6 ≤ L) {x : SS} {y : MS} {o : Nat → Int64} {r : SS × (MS × (Nat → Int64))} (hM : M_lawc_6 xs i x y o = some r) {H : Heap} {locs : List Loc} {cells slots : Nat} (hc : cells + 2 ≤ room_1.cells) (hs : slots + 12 ≤ room_1.slots) {ls : Array Slot} (hP : va_P (dC, dI) vwCl (wSys cI cD kk.1 g x ++ (wMod cI gm y ++ wLrow cJ a o)) H) (hD : va_D (fun q : Nat => s.heap.size ≤ q) (wSys cI cD kk.1 g x ++ (wMod cI gm y ++ wLrow cJ a o))) (hS : va_S (fun q : Nat => s.heap.size ≤ q) s.heap H locs) (hl : lv_has ls 7 [(0, .ref b), (1, .ref (g 0)), (2, .ref (gm 0)), (3, .ref a), (4, .int (nI i))]) (hnext : ∀ (H : Heap) (locs : List Loc) (ls : Array Slot), va_P (dC, dI) vwCl (wSys cI cD kk.1 g r.1 ++ (wMod cI gm r.2.1 ++ wLrow cJ a r.2.2)) H → va_D (fun q : Nat => s.heap.size ≤ q) (wSys cI cD kk.1 g r.1 ++ (wMod cI gm r.2.1 ++ wLrow cJ a r.2.2)) → va_S (fun q : Nat => s.heap.size ≤ q) s.heap H locs → lv_has ls 7 [(0, .ref b), (1, .ref (g 0)), (2, .ref (gm 0)), (3, .ref a), (4, .int (nI i))] → W p l e room_1 s m #[Value.ref b] below meth c H locs (cells + 2) (slots + 12) (lw_Z below #[Value.ref b] s) (F0 m 1589 ls [])) : W p l e room_1 s m #[Value.ref b] below meth c H locs cells slots (lw_Z below #[Value.ref b] s) (F0 m 580 ls []) := by
  obtain ⟨hx, hb, hr, hml, hown, hts0, hX, hbl, hlocks, hgv⟩ := C0
  have hts : ∀ w ∈ wsL_law, w.before #[Value.ref b] s = true := fun w h => hts0 w (wsL_law_in w h)
  have hA : ∀ q : Nat, s.heap.size ≤ q → (fun q : Nat => s.heap.size ≤ q) q := fun _ h => h
  have hbA : ¬ (fun q : Nat => s.heap.size ≤ q) b := Nat.not_le.mpr hbl
  unfold M_lawc_6 at hM
  refine lv_aload_n hx hb dL_law_580 rfl (lv_at hl 1 rfl) ?_
  refine lv_aload_n hx hb dL_law_581 rfl (lv_at hl 0 rfl) ?_
  refine lv_iload hx hb dL_law_582 (lv_at hl 4 rfl) ?_
  refine lv_iconst (v := 1) hx hb dL_law_584 (by decide) ?_
  refine lv_iadd hx hb dL_law_585 ?_
  refine wk_sld (i := i) (k := 1) hx hb hX hbl hbA hS hL (by omega) rfl dL_law_586 ?_
  refine lv_aload_n hx hb dL_law_587 rfl (lv_at hl 0 rfl) ?_
  refine lv_iload hx hb dL_law_588 (lv_at hl 4 rfl) ?_
  refine lv_iconst (v := 2) hx hb dL_law_590 (by decide) ?_
  refine lv_iadd hx hb dL_law_591 ?_
  refine wk_sld (i := i) (k := 2) hx hb hX hbl hbA hS hL (by omega) rfl dL_law_592 ?_
  refine lv_aload_n hx hb dL_law_593 rfl (lv_at hl 3 rfl) ?_
  obtain ⟨r1, hr1, hM⟩ := ob hM
  refine wk_callX (vx_runSX (As := [.ref (g 0), .int (xs (i + 1)), .int (xs (i + 2)), .ref a]) (rest := []) ⟨hx, hb, hml, hown, hts⟩ (c_L_work l hflags dC dI cI cD cJ kk g a x o (xs (i + 1)) (xs (i + 2)) _ hr1 H) (vx_cwSW 4 hts gL_law_L_work rfl rfl rfl (by decide +kernel) ⟨Nat.le_of_ble_eq_true rfl, Nat.le_of_ble_eq_true rfl⟩) (wk_preSL hG hP hD hT hN hS [0, 1, 2, 3, 4, 5, 6, 7, 8, 9, 10, 11, 12, 13, 14, 15, 16, 17, 18, 19, 20, 21, 22, 23, 24, 25, 26, 27, 28, 29, 30, 31, 32, 33, 34, 35, 36, 37, 46] rfl rfl (va_free hD hS hA [0, 1, 2, 3, 4, 5, 6, 7, 8, 9, 10, 11, 12, 13, 14, 15, 16, 17, 18, 19, 20, 21, 22, 23, 24, 25, 26, 27, 28, 29, 30, 31, 32, 33, 34, 35, 36, 37, 46] rfl)) rfl rfl hl.1 rfl (lv_room (Nat.le_of_ble_eq_true rfl)) dL_law_594 ⟨Nat.le_trans (show cells + 1 ≤ cells + 2 by omega) hc, Nat.le_trans (show slots + 6 ≤ slots + 12 by omega) hs⟩) hP hD hS hA [0, 1, 2, 3, 4, 5, 6, 7, 8, 9, 10, 11, 12, 13, 14, 15, 16, 17, 18, 19, 20, 21, 22, 23, 24, 25, 26, 27, 28, 29, 30, 31, 32, 33, 34, 35, 36, 37, 46] [38, 39, 40, 41, 42, 43, 44, 45] [8, 9, 10, 11, 12, 13, 14, 15, 16, 17, 18, 19, 20, 21, 22, 23, 24, 25, 26, 27, 28, 29, 30, 31, 32, 33, 34, 35, 36, 37, 38, 39, 40, 41, 42, 43, 44, 45, 0, 1, 2, 3, 4, 5, 6, 7, 46] rfl rfl rfl (by decide) rfl rfl (fun f9 ce q9 H locs ho9 hP hD hS hc9 hv9 hf9 => by cases ho9) (fun ov w1 ho9 H locs hPD hS => ?_)
  cases ho9
  obtain ⟨hP, hD⟩ := hPD (wSys cI cD kk.1 g r1.2.1 ++ (wMod cI gm y ++ wLrow cJ a r1.2.2)) rfl
  refine lv_istore (lv' := [(5, .int r1.1), (0, .ref b), (1, .ref (g 0)), (2, .ref (gm 0)), (3, .ref a), (4, .int (nI i))]) hx hb dL_law_597 hl (by decide) rfl (fun ls hl => ?_)
  refine lv_aload_n hx hb dL_law_599 rfl (lv_at hl 3 rfl) ?_
  refine lv_aload_n hx hb dL_law_600 rfl (lv_at hl 1 rfl) ?_
  refine lv_iload hx hb dL_law_601 (lv_at hl 5 rfl) ?_
  refine lv_iconst (v := 1) hx hb dL_law_603 (by decide) ?_
  refine lv_iadd hx hb dL_law_604 ?_
  refine wk_sld (i := i) (k := 1) hx hb hX hbl hbA hS hL (by omega) rfl dL_law_605 ?_
  refine lv_aload_n hx hb dL_law_606 rfl (lv_at hl 1 rfl) ?_
  refine lv_iload hx hb dL_law_607 (lv_at hl 5 rfl) ?_
  refine lv_iconst (v := 2) hx hb dL_law_609 (by decide) ?_
  refine lv_iadd hx hb dL_law_610 ?_
  refine wk_sld (i := i) (k := 2) hx hb hX hbl hbA hS hL (by omega) rfl dL_law_611 ?_
  obtain ⟨r2, hr2, hM⟩ := ob hM
  refine wk_callM (ws' := (wSys cI cD kk.1 g r1.2.1 ++ (wMod cI gm r2.2 ++ wLrow cJ a r1.2.2))) (va_runV (As := [.int (xs (i + 1)), .int (xs (i + 2))]) (rest := []) ⟨hx, hb, hml, hown, hts⟩ (c_X7_work l dC dI cI cD cJ kk gm y (xs (i + 1)) (xs (i + 2)) _ hr2 H) (cwV 2 hts gL_law_X7_work rfl rfl rfl (by decide +kernel) ⟨Nat.le_of_ble_eq_true rfl, Nat.le_of_ble_eq_true rfl⟩) (wk_preV (ci := 5) (q0 := 38) hG hP hD [38, 39, 40, 41, 42, 43, 44, 45] rfl rfl rfl rfl) rfl rfl hl.1 rfl (lv_room (Nat.le_of_ble_eq_true rfl)) dL_law_612 ⟨Nat.le_trans (show cells + 1 + 0 ≤ cells + 2 by omega) hc, Nat.le_trans (show slots + 6 + 0 ≤ slots + 12 by omega) hs⟩) hP hD hS hA [38, 39, 40, 41, 42, 43, 44, 45] [0, 1, 2, 3, 4, 5, 6, 7, 8, 9, 10, 11, 12, 13, 14, 15, 16, 17, 18, 19, 20, 21, 22, 23, 24, 25, 26, 27, 28, 29, 30, 31, 32, 33, 34, 35, 36, 37, 46] [0, 1, 2, 3, 4, 5, 6, 7, 8, 9, 10, 11, 12, 13, 14, 15, 16, 17, 18, 19, 20, 21, 22, 23, 24, 25, 26, 27, 28, 29, 30, 31, 32, 33, 34, 35, 36, 37, 39, 40, 41, 42, 43, 44, 45, 46, 38] rfl rfl rfl (by decide) rfl rfl (fun H locs hP hD hS => ?_)
  refine lv_istore (lv' := [(6, .int r2.1), (5, .int r1.1), (0, .ref b), (1, .ref (g 0)), (2, .ref (gm 0)), (3, .ref a), (4, .int (nI i))]) hx hb dL_law_615 hl (by decide) rfl (fun ls hl => ?_)
  refine lv_aload_n hx hb dL_law_617 rfl (lv_at hl 4 rfl) ?_
  refine wk_callP (va_runV (As := []) (rest := []) ⟨hx, hb, hml, hown, hts⟩ (c_X7_thrown l dC dI cI cD cJ kk gm r2.2 _ rfl H) (cwV 0 hts gL_law_X7_thrown rfl rfl rfl (by decide +kernel) ⟨Nat.le_of_ble_eq_true rfl, Nat.le_of_ble_eq_true rfl⟩) (wk_preV (ci := 5) (q0 := 38) hG hP hD [38, 39, 40, 41, 42, 43, 44, 45] rfl rfl rfl rfl) rfl rfl hl.1 rfl (lv_room (Nat.le_of_ble_eq_true rfl)) dL_law_618 ⟨Nat.le_trans (show cells + 1 + 0 + 0 ≤ cells + 2 by omega) hc, Nat.le_trans (show slots + 6 + 0 + 0 ≤ slots + 12 by omega) hs⟩) hS (fun locs hS => ?_)
  refine lv_iload hx hb dL_law_621 (lv_at hl 1 rfl) ?_
  refine lv_icmp_eq (tgt := 628) hx hb dL_law_623 (by decide) (fun c3 => ?_) (fun c3 => ?_)
  · replace hM := (if_pos c3).symm.trans hM
    refine lv_iload hx hb dL_law_628 (lv_at hl 1 rfl) ?_
    refine lv_if_ne (tgt := 645) hx hb dL_law_630 (by decide) (fun c4 => ?_) (fun c4 => ?_)
    · replace hM := (if_neg c4).symm.trans hM
      refine lv_goto (tgt := 1589) hx hb dL_law_645 (by decide) ?_
      replace hM := Option.some.inj hM
      subst hM
      refine W.widen (k := cells + 2) (n := slots + 12) (by omega) (by omega) ?_
      exact hnext H locs ls hP hD hS (lv_sub hl [2, 3, 4, 5, 6] rfl)
    · replace hM := (if_pos c4).symm.trans hM
      refine lv_aload_n hx hb dL_law_633 rfl (lv_at hl 5 rfl) ?_
      refine lv_iconst (v := 0) hx hb dL_law_634 (by decide) ?_
      refine va_lald hx hb hG.1 hP 46 2 rfl rfl (vpb_in.mp (by decide)) dL_law_635 ?_
      refine lv_iload hx hb dL_law_636 (lv_at hl 0 rfl) ?_
      refine lv_i2l hx hb dL_law_638 rfl ?_
      refine W.lcmp hx hb dL_law_639 ?_
      refine lv_if_eq (tgt := 645) hx hb dL_law_640 (by decide) (fun c5 => ?_) (fun c5 => ?_)
      · replace hM := (if_pos c5).symm.trans hM
        refine lv_goto (tgt := 1589) hx hb dL_law_645 (by decide) ?_
        replace hM := Option.some.inj hM
        subst hM
        refine W.widen (k := cells + 2) (n := slots + 12) (by omega) (by omega) ?_
        exact hnext H locs ls hP hD hS (lv_sub hl [2, 3, 4, 5, 6] rfl)
      · replace hM := (if_neg c5).symm.trans hM
        refine lv_iconst (v := 0) hx hb dL_law_643 (by decide) ?_
        cases hM
  · replace hM := (if_neg c3).symm.trans hM
    refine lv_iconst (v := 0) hx hb dL_law_626 (by decide) ?_
    cases hM
set_option maxHeartbeats 4000000 in
set_option maxRecDepth 100000 in
theorem lawc_7 {p : Program} {e : Env} {s : State} {m : MethodId} {below : List Frame} {meth : Method} {c : Code} (l : Launch) (hflags : l.stackTraces = false) {b L : Nat} {xs : Nat → Int32} (hL : L ≤ 3072) (C0 : lw_At p s m meth c b L xs) {dC : Nat → ClassId} {dI : Nat → Nat → Nat} {cI cD cJ : ClassId} {kk : wAd} {g gm : Nat → Nat} {a : Nat} (hG : wk_G dC dI (wTys cI cD cJ) s) (hT : wkT kk (fun q : Nat => s.heap.size ≤ q) s s.heap) (hN : wkN s) {i : Nat} (hi : i + 6 ≤ L) {x : SS} {y : MS} {o : Nat → Int64} {r : SS × (MS × (Nat → Int64))} (hM : M_lawc_7 xs i x y o = some r) {H : Heap} {locs : List Loc} {cells slots : Nat} (hc : cells + 2 ≤ room_1.cells) (hs : slots + 12 ≤ room_1.slots) {ls : Array Slot} (hP : va_P (dC, dI) vwCl (wSys cI cD kk.1 g x ++ (wMod cI gm y ++ wLrow cJ a o)) H) (hD : va_D (fun q : Nat => s.heap.size ≤ q) (wSys cI cD kk.1 g x ++ (wMod cI gm y ++ wLrow cJ a o))) (hS : va_S (fun q : Nat => s.heap.size ≤ q) s.heap H locs) (hl : lv_has ls 7 [(0, .ref b), (1, .ref (g 0)), (2, .ref (gm 0)), (3, .ref a), (4, .int (nI i))]) (hnext : ∀ (H : Heap) (locs : List Loc) (ls : Array Slot), va_P (dC, dI) vwCl (wSys cI cD kk.1 g r.1 ++ (wMod cI gm r.2.1 ++ wLrow cJ a r.2.2)) H → va_D (fun q : Nat => s.heap.size ≤ q) (wSys cI cD kk.1 g r.1 ++ (wMod cI gm r.2.1 ++ wLrow cJ a r.2.2)) → va_S (fun q : Nat => s.heap.size ≤ q) s.heap H locs → lv_has ls 7 [(0, .ref b), (1, .ref (g 0)), (2, .ref (gm 0)), (3, .ref a), (4, .int (nI i))] → W p l e room_1 s m #[Value.ref b] below meth c H locs (cells + 2) (slots + 12) (lw_Z below #[Value.ref b] s) (F0 m 1589 ls [])) : W p l e room_1 s m #[Value.ref b] below meth c H locs cells slots (lw_Z below #[Value.ref b] s) (F0 m 648 ls []) := by
  obtain ⟨hx, hb, hr, hml, hown, hts0, hX, hbl, hlocks, hgv⟩ := C0
  have hts : ∀ w ∈ wsL_law, w.before #[Value.ref b] s = true := fun w h => hts0 w (wsL_law_in w h)
  have hA : ∀ q : Nat, s.heap.size ≤ q → (fun q : Nat => s.heap.size ≤ q) q := fun _ h => h
  have hbA : ¬ (fun q : Nat => s.heap.size ≤ q) b := Nat.not_le.mpr hbl
  unfold M_lawc_7 at hM
  refine lv_aload_n hx hb dL_law_648 rfl (lv_at hl 1 rfl) ?_
  refine lv_aload_n hx hb dL_law_649 rfl (lv_at hl 0 rfl) ?_
  refine lv_iload hx hb dL_law_650 (lv_at hl 4 rfl) ?_
  refine lv_iconst (v := 1) hx hb dL_law_652 (by decide) ?_
  refine lv_iadd hx hb dL_law_653 ?_
  refine wk_sld (i := i) (k := 1) hx hb hX hbl hbA hS hL (by omega) rfl dL_law_654 ?_
  refine lv_aload_n hx hb dL_law_655 rfl (lv_at hl 3 rfl) ?_
  obtain ⟨r1, hr1, hM⟩ := ob hM
  refine wk_callX (vx_runSX (As := [.ref (g 0), .int (xs (i + 1)), .ref a]) (rest := []) ⟨hx, hb, hml, hown, hts⟩ (c_L_pass l hflags dC dI cI cD cJ kk g a x o (xs (i + 1)) _ hr1 H) (vx_cwSW 3 hts gL_law_L_pass rfl rfl rfl (by decide +kernel) ⟨Nat.le_of_ble_eq_true rfl, Nat.le_of_ble_eq_true rfl⟩) (wk_preSL hG hP hD hT hN hS [0, 1, 2, 3, 4, 5, 6, 7, 8, 9, 10, 11, 12, 13, 14, 15, 16, 17, 18, 19, 20, 21, 22, 23, 24, 25, 26, 27, 28, 29, 30, 31, 32, 33, 34, 35, 36, 37, 46] rfl rfl (va_free hD hS hA [0, 1, 2, 3, 4, 5, 6, 7, 8, 9, 10, 11, 12, 13, 14, 15, 16, 17, 18, 19, 20, 21, 22, 23, 24, 25, 26, 27, 28, 29, 30, 31, 32, 33, 34, 35, 36, 37, 46] rfl)) rfl rfl hl.1 rfl (lv_room (Nat.le_of_ble_eq_true rfl)) dL_law_656 ⟨Nat.le_trans (show cells + 1 ≤ cells + 2 by omega) hc, Nat.le_trans (show slots + 6 ≤ slots + 12 by omega) hs⟩) hP hD hS hA [0, 1, 2, 3, 4, 5, 6, 7, 8, 9, 10, 11, 12, 13, 14, 15, 16, 17, 18, 19, 20, 21, 22, 23, 24, 25, 26, 27, 28, 29, 30, 31, 32, 33, 34, 35, 36, 37, 46] [38, 39, 40, 41, 42, 43, 44, 45] [8, 9, 10, 11, 12, 13, 14, 15, 16, 17, 18, 19, 20, 21, 22, 23, 24, 25, 26, 27, 28, 29, 30, 31, 32, 33, 34, 35, 36, 37, 38, 39, 40, 41, 42, 43, 44, 45, 0, 1, 2, 3, 4, 5, 6, 7, 46] rfl rfl rfl (by decide) rfl rfl (fun f9 ce q9 H locs ho9 hP hD hS hc9 hv9 hf9 => by cases ho9) (fun ov w1 ho9 H locs hPD hS => ?_)
  cases ho9
  obtain ⟨hP, hD⟩ := hPD (wSys cI cD kk.1 g r1.2.1 ++ (wMod cI gm y ++ wLrow cJ a r1.2.2)) rfl
  refine lv_istore (lv' := [(5, .int r1.1), (0, .ref b), (1, .ref (g 0)), (2, .ref (gm 0)), (3, .ref a), (4, .int (nI i))]) hx hb dL_law_659 hl (by decide) rfl (fun ls hl => ?_)
  refine lv_aload_n hx hb dL_law_661 rfl (lv_at hl 3 rfl) ?_
  refine lv_aload_n hx hb dL_law_662 rfl (lv_at hl 1 rfl) ?_
  refine lv_iload hx hb dL_law_663 (lv_at hl 5 rfl) ?_
  refine lv_iconst (v := 1) hx hb dL_law_665 (by decide) ?_
  refine lv_iadd hx hb dL_law_666 ?_
  refine wk_sld (i := i) (k := 1) hx hb hX hbl hbA hS hL (by omega) rfl dL_law_667 ?_
  obtain ⟨r2, hr2, hM⟩ := ob hM
  refine wk_callM (ws' := (wSys cI cD kk.1 g r1.2.1 ++ (wMod cI gm r2.2 ++ wLrow cJ a r1.2.2))) (va_runV (As := [.int (xs (i + 1))]) (rest := []) ⟨hx, hb, hml, hown, hts⟩ (c_X7_pass l dC dI cI cD cJ kk gm y (xs (i + 1)) _ hr2 H) (cwV 1 hts gL_law_X7_pass rfl rfl rfl (by decide +kernel) ⟨Nat.le_of_ble_eq_true rfl, Nat.le_of_ble_eq_true rfl⟩) (wk_preV (ci := 5) (q0 := 38) hG hP hD [38, 39, 40, 41, 42, 43, 44, 45] rfl rfl rfl rfl) rfl rfl hl.1 rfl (lv_room (Nat.le_of_ble_eq_true rfl)) dL_law_668 ⟨Nat.le_trans (show cells + 1 + 0 ≤ cells + 2 by omega) hc, Nat.le_trans (show slots + 6 + 0 ≤ slots + 12 by omega) hs⟩) hP hD hS hA [38, 39, 40, 41, 42, 43, 44, 45] [0, 1, 2, 3, 4, 5, 6, 7, 8, 9, 10, 11, 12, 13, 14, 15, 16, 17, 18, 19, 20, 21, 22, 23, 24, 25, 26, 27, 28, 29, 30, 31, 32, 33, 34, 35, 36, 37, 46] [0, 1, 2, 3, 4, 5, 6, 7, 8, 9, 10, 11, 12, 13, 14, 15, 16, 17, 18, 19, 20, 21, 22, 23, 24, 25, 26, 27, 28, 29, 30, 31, 32, 33, 34, 35, 36, 37, 39, 40, 41, 42, 43, 44, 45, 46, 38] rfl rfl rfl (by decide) rfl rfl (fun H locs hP hD hS => ?_)
  refine lv_istore (lv' := [(6, .int r2.1), (5, .int r1.1), (0, .ref b), (1, .ref (g 0)), (2, .ref (gm 0)), (3, .ref a), (4, .int (nI i))]) hx hb dL_law_671 hl (by decide) rfl (fun ls hl => ?_)
  refine lv_aload_n hx hb dL_law_673 rfl (lv_at hl 4 rfl) ?_
  refine wk_callP (va_runV (As := []) (rest := []) ⟨hx, hb, hml, hown, hts⟩ (c_X7_thrown l dC dI cI cD cJ kk gm r2.2 _ rfl H) (cwV 0 hts gL_law_X7_thrown rfl rfl rfl (by decide +kernel) ⟨Nat.le_of_ble_eq_true rfl, Nat.le_of_ble_eq_true rfl⟩) (wk_preV (ci := 5) (q0 := 38) hG hP hD [38, 39, 40, 41, 42, 43, 44, 45] rfl rfl rfl rfl) rfl rfl hl.1 rfl (lv_room (Nat.le_of_ble_eq_true rfl)) dL_law_674 ⟨Nat.le_trans (show cells + 1 + 0 + 0 ≤ cells + 2 by omega) hc, Nat.le_trans (show slots + 6 + 0 + 0 ≤ slots + 12 by omega) hs⟩) hS (fun locs hS => ?_)
  refine lv_iload hx hb dL_law_677 (lv_at hl 1 rfl) ?_
  refine lv_icmp_eq (tgt := 684) hx hb dL_law_679 (by decide) (fun c3 => ?_) (fun c3 => ?_)
  · replace hM := (if_pos c3).symm.trans hM
    refine lv_iload hx hb dL_law_684 (lv_at hl 1 rfl) ?_
    refine lv_if_ne (tgt := 701) hx hb dL_law_686 (by decide) (fun c4 => ?_) (fun c4 => ?_)
    · replace hM := (if_neg c4).symm.trans hM
      refine lv_goto (tgt := 1589) hx hb dL_law_701 (by decide) ?_
      replace hM := Option.some.inj hM
      subst hM
      refine W.widen (k := cells + 2) (n := slots + 12) (by omega) (by omega) ?_
      exact hnext H locs ls hP hD hS (lv_sub hl [2, 3, 4, 5, 6] rfl)
    · replace hM := (if_pos c4).symm.trans hM
      refine lv_aload_n hx hb dL_law_689 rfl (lv_at hl 5 rfl) ?_
      refine lv_iconst (v := 0) hx hb dL_law_690 (by decide) ?_
      refine va_lald hx hb hG.1 hP 46 2 rfl rfl (vpb_in.mp (by decide)) dL_law_691 ?_
      refine lv_iload hx hb dL_law_692 (lv_at hl 0 rfl) ?_
      refine lv_i2l hx hb dL_law_694 rfl ?_
      refine W.lcmp hx hb dL_law_695 ?_
      refine lv_if_eq (tgt := 701) hx hb dL_law_696 (by decide) (fun c5 => ?_) (fun c5 => ?_)
      · replace hM := (if_pos c5).symm.trans hM
        refine lv_goto (tgt := 1589) hx hb dL_law_701 (by decide) ?_
        replace hM := Option.some.inj hM
        subst hM
        refine W.widen (k := cells + 2) (n := slots + 12) (by omega) (by omega) ?_
        exact hnext H locs ls hP hD hS (lv_sub hl [2, 3, 4, 5, 6] rfl)
      · replace hM := (if_neg c5).symm.trans hM
        refine lv_iconst (v := 0) hx hb dL_law_699 (by decide) ?_
        cases hM
  · replace hM := (if_neg c3).symm.trans hM
    refine lv_iconst (v := 0) hx hb dL_law_682 (by decide) ?_
    cases hM
