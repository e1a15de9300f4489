/-! PART 43: the law's cases, on -/
set_option maxHeartbeats 4000000 in
set_option maxRecDepth 100000 in
theorem lawc_8 {p : Program} {e : Env} {s : State} {m : MethodId} {below : List Frame} {meth : Method} {c : Code} (l : Launch) (hflags : l.stackTraces = false) {b L : Nat} {xs : Nat → Int32} (hL : L ≤ 3072) (C0 : lw_At p s m meth c b L xs) {dC : Nat → ClassId} {dI : Nat → Nat → Nat} {cI cD cJ : ClassId} {kk : wAd} {g gm : Nat → Nat} {a : Nat} (hG : wk_G dC dI (wTys cI cD cJ) s) (hT : wkT kk (fun q : Nat => s.heap.size ≤ q) s s.heap) (hN : wkN s) {i : Nat} (hi : i + 6 ≤ L) {x : SS} {y : MS} {o : Nat → Int64} {r : SS × (MS × (Nat → Int64))} (hM : M_lawc_8 xs i x y o = some r) {H : Heap} {locs : List Loc} {cells slots : Nat} (hc : cells + 2 ≤ room_1.cells) (hs : slots + 12 ≤ room_1.slots) {ls : Array Slot} (hP : va_P (dC, dI) vwCl (wSys cI cD kk.1 g x ++ (wMod cI gm y ++ wLrow cJ a o)) H) (hD : va_D (fun q : Nat => s.heap.size ≤ q) (wSys cI cD kk.1 g x ++ (wMod cI gm y ++ wLrow cJ a o))) (hS : va_S (fun q : Nat => s.heap.size ≤ q) s.heap H locs) (hl : lv_has ls 7 [(0, .ref b), (1, .ref (g 0)), (2, .ref (gm 0)), (3, .ref a), (4, .int (nI i))]) (hnext : ∀ (H : Heap) (locs : List Loc) (ls : Array Slot), va_P (dC, dI) vwCl (wSys cI cD kk.1 g r.1 ++ (wMod cI gm r.2.1 ++ wLrow cJ a r.2.2)) H → va_D (fun q : Nat => s.heap.size ≤ q) (wSys cI cD kk.1 g r.1 ++ (wMod cI gm r.2.1 ++ wLrow cJ a r.2.2)) → va_S (fun q : Nat => s.heap.size ≤ q) s.heap H locs → lv_has ls 7 [(0, .ref b), (1, .ref (g 0)), (2, .ref (gm 0)), (3, .ref a), (4, .int (nI i))] → W p l e room_1 s m #[Value.ref b] below meth c H locs (cells + 2) (slots + 12) (lw_Z below #[Value.ref b] s) (F0 m 1589 ls [])) : W p l e room_1 s m #[Value.ref b] below meth c H locs cells slots (lw_Z below #[Value.ref b] s) (F0 m 704 ls []) := by
  obtain ⟨hx, hb, hr, hml, hown, hts0, hX, hbl, hlocks, hgv⟩ := C0
  have hts : ∀ w ∈ wsL_law, w.before #[Value.ref b] s = true := fun w h => hts0 w (wsL_law_in w h)
  have hA : ∀ q : Nat, s.heap.size ≤ q → (fun q : Nat => s.heap.size ≤ q) q := fun _ h => h
  have hbA : ¬ (fun q : Nat => s.heap.size ≤ q) b := Nat.not_le.mpr hbl
  unfold M_lawc_8 at hM
  refine lv_aload_n hx hb dL_law_704 rfl (lv_at hl 1 rfl) ?_
  refine lv_aload_n hx hb dL_law_705 rfl (lv_at hl 0 rfl) ?_
  refine lv_iload hx hb dL_law_706 (lv_at hl 4 rfl) ?_
  refine lv_iconst (v := 1) hx hb dL_law_708 (by decide) ?_
  refine lv_iadd hx hb dL_law_709 ?_
  refine wk_sld (i := i) (k := 1) hx hb hX hbl hbA hS hL (by omega) rfl dL_law_710 ?_
  refine lv_aload_n hx hb dL_law_711 rfl (lv_at hl 3 rfl) ?_
  obtain ⟨r1, hr1, hM⟩ := ob hM
  refine wk_callX (vx_runSX (As := [.ref (g 0), .int (xs (i + 1)), .ref a]) (rest := []) ⟨hx, hb, hml, hown, hts⟩ (c_L_lose l hflags dC dI cI cD cJ kk g a x o (xs (i + 1)) _ hr1 H) (vx_cwSW 3 hts gL_law_L_lose rfl rfl rfl (by decide +kernel) ⟨Nat.le_of_ble_eq_true rfl, Nat.le_of_ble_eq_true rfl⟩) (wk_preSL hG hP hD hT hN hS [0, 1, 2, 3, 4, 5, 6, 7, 8, 9, 10, 11, 12, 13, 14, 15, 16, 17, 18, 19, 20, 21, 22, 23, 24, 25, 26, 27, 28, 29, 30, 31, 32, 33, 34, 35, 36, 37, 46] rfl rfl (va_free hD hS hA [0, 1, 2, 3, 4, 5, 6, 7, 8, 9, 10, 11, 12, 13, 14, 15, 16, 17, 18, 19, 20, 21, 22, 23, 24, 25, 26, 27, 28, 29, 30, 31, 32, 33, 34, 35, 36, 37, 46] rfl)) rfl rfl hl.1 rfl (lv_room (Nat.le_of_ble_eq_true rfl)) dL_law_712 ⟨Nat.le_trans (show cells + 1 ≤ cells + 2 by omega) hc, Nat.le_trans (show slots + 6 ≤ slots + 12 by omega) hs⟩) hP hD hS hA [0, 1, 2, 3, 4, 5, 6, 7, 8, 9, 10, 11, 12, 13, 14, 15, 16, 17, 18, 19, 20, 21, 22, 23, 24, 25, 26, 27, 28, 29, 30, 31, 32, 33, 34, 35, 36, 37, 46] [38, 39, 40, 41, 42, 43, 44, 45] [8, 9, 10, 11, 12, 13, 14, 15, 16, 17, 18, 19, 20, 21, 22, 23, 24, 25, 26, 27, 28, 29, 30, 31, 32, 33, 34, 35, 36, 37, 38, 39, 40, 41, 42, 43, 44, 45, 0, 1, 2, 3, 4, 5, 6, 7, 46] rfl rfl rfl (by decide) rfl rfl (fun f9 ce q9 H locs ho9 hP hD hS hc9 hv9 hf9 => by cases ho9) (fun ov w1 ho9 H locs hPD hS => ?_)
  cases ho9
  obtain ⟨hP, hD⟩ := hPD (wSys cI cD kk.1 g r1.2.1 ++ (wMod cI gm y ++ wLrow cJ a r1.2.2)) rfl
  refine lv_istore (lv' := [(5, .int r1.1), (0, .ref b), (1, .ref (g 0)), (2, .ref (gm 0)), (3, .ref a), (4, .int (nI i))]) hx hb dL_law_715 hl (by decide) rfl (fun ls hl => ?_)
  refine lv_aload_n hx hb dL_law_717 rfl (lv_at hl 3 rfl) ?_
  refine lv_aload_n hx hb dL_law_718 rfl (lv_at hl 1 rfl) ?_
  refine lv_iload hx hb dL_law_719 (lv_at hl 5 rfl) ?_
  refine lv_iconst (v := 1) hx hb dL_law_721 (by decide) ?_
  refine lv_iadd hx hb dL_law_722 ?_
  refine wk_sld (i := i) (k := 1) hx hb hX hbl hbA hS hL (by omega) rfl dL_law_723 ?_
  obtain ⟨r2, hr2, hM⟩ := ob hM
  refine wk_callM (ws' := (wSys cI cD kk.1 g r1.2.1 ++ (wMod cI gm r2.2 ++ wLrow cJ a r1.2.2))) (va_runV (As := [.int (xs (i + 1))]) (rest := []) ⟨hx, hb, hml, hown, hts⟩ (c_X7_lose l dC dI cI cD cJ kk gm y (xs (i + 1)) _ hr2 H) (cwV 1 hts gL_law_X7_lose rfl rfl rfl (by decide +kernel) ⟨Nat.le_of_ble_eq_true rfl, Nat.le_of_ble_eq_true rfl⟩) (wk_preV (ci := 5) (q0 := 38) hG hP hD [38, 39, 40, 41, 42, 43, 44, 45] rfl rfl rfl rfl) rfl rfl hl.1 rfl (lv_room (Nat.le_of_ble_eq_true rfl)) dL_law_724 ⟨Nat.le_trans (show cells + 1 + 0 ≤ cells + 2 by omega) hc, Nat.le_trans (show slots + 6 + 0 ≤ slots + 12 by omega) hs⟩) hP hD hS hA [38, 39, 40, 41, 42, 43, 44, 45] [0, 1, 2, 3, 4, 5, 6, 7, 8, 9, 10, 11, 12, 13, 14, 15, 16, 17, 18, 19, 20, 21, 22, 23, 24, 25, 26, 27, 28, 29, 30, 31, 32, 33, 34, 35, 36, 37, 46] [0, 1, 2, 3, 4, 5, 6, 7, 8, 9, 10, 11, 12, 13, 14, 15, 16, 17, 18, 19, 20, 21, 22, 23, 24, 25, 26, 27, 28, 29, 30, 31, 32, 33, 34, 35, 36, 37, 39, 40, 41, 42, 43, 44, 45, 46, 38] rfl rfl rfl (by decide) rfl rfl (fun H locs hP hD hS => ?_)
  refine lv_istore (lv' := [(6, .int r2.1), (5, .int r1.1), (0, .ref b), (1, .ref (g 0)), (2, .ref (gm 0)), (3, .ref a), (4, .int (nI i))]) hx hb dL_law_727 hl (by decide) rfl (fun ls hl => ?_)
  refine lv_aload_n hx hb dL_law_729 rfl (lv_at hl 4 rfl) ?_
  refine wk_callP (va_runV (As := []) (rest := []) ⟨hx, hb, hml, hown, hts⟩ (c_X7_thrown l dC dI cI cD cJ kk gm r2.2 _ rfl H) (cwV 0 hts gL_law_X7_thrown rfl rfl rfl (by decide +kernel) ⟨Nat.le_of_ble_eq_true rfl, Nat.le_of_ble_eq_true rfl⟩) (wk_preV (ci := 5) (q0 := 38) hG hP hD [38, 39, 40, 41, 42, 43, 44, 45] rfl rfl rfl rfl) rfl rfl hl.1 rfl (lv_room (Nat.le_of_ble_eq_true rfl)) dL_law_730 ⟨Nat.le_trans (show cells + 1 + 0 + 0 ≤ cells + 2 by omega) hc, Nat.le_trans (show slots + 6 + 0 + 0 ≤ slots + 12 by omega) hs⟩) hS (fun locs hS => ?_)
  refine lv_iload hx hb dL_law_733 (lv_at hl 1 rfl) ?_
  refine lv_icmp_eq (tgt := 740) hx hb dL_law_735 (by decide) (fun c3 => ?_) (fun c3 => ?_)
  · replace hM := (if_pos c3).symm.trans hM
    refine lv_iload hx hb dL_law_740 (lv_at hl 1 rfl) ?_
    refine lv_if_ne (tgt := 757) hx hb dL_law_742 (by decide) (fun c4 => ?_) (fun c4 => ?_)
    · replace hM := (if_neg c4).symm.trans hM
      refine lv_goto (tgt := 1589) hx hb dL_law_757 (by decide) ?_
      replace hM := Option.some.inj hM
      subst hM
      refine W.widen (k := cells + 2) (n := slots + 12) (by omega) (by omega) ?_
      exact hnext H locs ls hP hD hS (lv_sub hl [2, 3, 4, 5, 6] rfl)
    · replace hM := (if_pos c4).symm.trans hM
      refine lv_aload_n hx hb dL_law_745 rfl (lv_at hl 5 rfl) ?_
      refine lv_iconst (v := 0) hx hb dL_law_746 (by decide) ?_
      refine va_lald hx hb hG.1 hP 46 2 rfl rfl (vpb_in.mp (by decide)) dL_law_747 ?_
      refine lv_iload hx hb dL_law_748 (lv_at hl 0 rfl) ?_
      refine lv_i2l hx hb dL_law_750 rfl ?_
      refine W.lcmp hx hb dL_law_751 ?_
      refine lv_if_eq (tgt := 757) hx hb dL_law_752 (by decide) (fun c5 => ?_) (fun c5 => ?_)
      · replace hM := (if_pos c5).symm.trans hM
        refine lv_goto (tgt := 1589) hx hb dL_law_757 (by decide) ?_
        replace hM := Option.some.inj hM
        subst hM
        refine W.widen (k := cells + 2) (n := slots + 12) (by omega) (by omega) ?_
        exact hnext H locs ls hP hD hS (lv_sub hl [2, 3, 4, 5, 6] rfl)
      · replace hM := (if_neg c5).symm.trans hM
        refine lv_iconst (v := 0) hx hb dL_law_755 (by decide) ?_
        cases hM
  · replace hM := (if_neg c3).symm.trans hM
    refine lv_iconst (v := 0) hx hb dL_law_738 (by decide) ?_
    cases hM
set_option maxHeartbeats 4000000 in
set_option maxRecDepth 100000 in
theorem lawc_9 {p : Program} {e : Env} {s : State} {m : MethodId} {below : List Frame} {meth : Method} {c : Code} (l : Launch) (hflags : l.stackTraces = false) {b L : Nat} {xs : Nat → Int32} (hL : L ≤ 3072) (C0 : lw_At p s m meth c b L xs) {dC : Nat → ClassId} {dI : Nat → Nat → Nat} {cI cD cJ : ClassId} {kk : wAd} {g gm : Nat → Nat} {a : Nat} (hG : wk_G dC dI (wTys cI cD cJ) s) (hT : wkT kk (fun q : Nat => s.heap.size ≤ q) s s.heap) (hN : wkN s) {i : Nat} (hi : i + 6 ≤ L) {x : SS} {y : MS} {o : Nat → Int64} {r : SS × (MS × (Nat → Int64))} (hM : M_lawc_9 xs i x y o = some r) {H : Heap} {locs : List Loc} {cells slots : Nat} (hc : cells + 2 ≤ room_1.cells) (hs : slots + 12 ≤ room_1.slots) {ls : Array Slot} (hP : va_P (dC, dI) vwCl (wSys cI cD kk.1 g x ++ (wMod cI gm y ++ wLrow cJ a o)) H) (hD : va_D (fun q : Nat => s.heap.size ≤ q) (wSys cI cD kk.1 g x ++ (wMod cI gm y ++ wLrow cJ a o))) (hS : va_S (fun q : Nat => s.heap.size ≤ q) s.heap H locs) (hl : lv_has ls 7 [(0, .ref b), (1, .ref (g 0)), (2, .ref (gm 0)), (3, .ref a), (4, .int (nI i))]) (hnext : ∀ (H : Heap) (locs : List Loc) (ls : Array Slot), va_P (dC, dI) vwCl (wSys cI cD kk.1 g r.1 ++ (wMod cI gm r.2.1 ++ wLrow cJ a r.2.2)) H → va_D (fun q : Nat => s.heap.size ≤ q) (wSys cI cD kk.1 g r.1 ++ (wMod cI gm r.2.1 ++ wLrow cJ a r.2.2)) → va_S (fun q : Nat => s.heap.size ≤ q) s.heap H locs → lv_has ls 7 [(0, .ref b), (1, .ref (g 0)), (2, .ref (gm 0)), (3, .ref a), (4, .int (nI i))] → W p l e room_1 s m #[Value.ref b] below meth c H locs (cells + 2) (slots + 12) (lw_Z below #[Value.ref b] s) (F0 m 1589 ls [])) : W p l e room_1 s m #[Value.ref b] below meth c H locs cells slots (lw_Z below #[Value.ref b] s) (F0 m 760 ls []) := by
  obtain ⟨hx, hb, hr, hml, hown, hts0, hX, hbl, hlocks, hgv⟩ := C0
  have hts : ∀ w ∈ wsL_law, w.before #[Value.ref b] s = true := fun w h => hts0 w (wsL_law_in w h)
  have hA : ∀ q : Nat, s.heap.size ≤ q → (fun q : Nat => s.heap.size ≤ q) q := fun _ h => h
  have hbA : ¬ (fun q : Nat => s.heap.size ≤ q) b := Nat.not_le.mpr hbl
  unfold M_lawc_9 at hM
  refine lv_aload_n hx hb dL_law_760 rfl (lv_at hl 1 rfl) ?_
  refine lv_aload_n hx hb dL_law_761 rfl (lv_at hl 0 rfl) ?_
  refine lv_iload hx hb dL_law_762 (lv_at hl 4 rfl) ?_
  refine lv_iconst (v := 1) hx hb dL_law_764 (by decide) ?_
  refine lv_iadd hx hb dL_law_765 ?_
  refine wk_sld (i := i) (k := 1) hx hb hX hbl hbA hS hL (by omega) rfl dL_law_766 ?_
  refine lv_aload_n hx hb dL_law_767 rfl (lv_at hl 3 rfl) ?_
  obtain ⟨r1, hr1, hM⟩ := ob hM
  refine wk_callX (vx_runSX (As := [.ref (g 0), .int (xs (i + 1)), .ref a]) (rest := []) ⟨hx, hb, hml, hown, hts⟩ (c_L_block l hflags dC dI cI cD cJ kk g a x o (xs (i + 1)) _ hr1 H) (vx_cwSW 3 hts gL_law_L_block rfl rfl rfl (by decide +kernel) ⟨Nat.le_of_ble_eq_true rfl, Nat.le_of_ble_eq_true rfl⟩) (wk_preSL hG hP hD hT hN hS [0, 1, 2, 3, 4, 5, 6, 7, 8, 9, 10, 11, 12, 13, 14, 15, 16, 17, 18, 19, 20, 21, 22, 23, 24, 25, 26, 27, 28, 29, 30, 31, 32, 33, 34, 35, 36, 37, 46] rfl rfl (va_free hD hS hA [0, 1, 2, 3, 4, 5, 6, 7, 8, 9, 10, 11, 12, 13, 14, 15, 16, 17, 18, 19, 20, 21, 22, 23, 24, 25, 26, 27, 28, 29, 30, 31, 32, 33, 34, 35, 36, 37, 46] rfl)) rfl rfl hl.1 rfl (lv_room (Nat.le_of_ble_eq_true rfl)) dL_law_768 ⟨Nat.le_trans (show cells + 1 ≤ cells + 2 by omega) hc, Nat.le_trans (show slots + 6 ≤ slots + 12 by omega) hs⟩) hP hD hS hA [0, 1, 2, 3, 4, 5, 6, 7, 8, 9, 10, 11, 12, 13, 14, 15, 16, 17, 18, 19, 20, 21, 22, 23, 24, 25, 26, 27, 28, 29, 30, 31, 32, 33, 34, 35, 36, 37, 46] [38, 39, 40, 41, 42, 43, 44, 45] [8, 9, 10, 11, 12, 13, 14, 15, 16, 17, 18, 19, 20, 21, 22, 23, 24, 25, 26, 27, 28, 29, 30, 31, 32, 33, 34, 35, 36, 37, 38, 39, 40, 41, 42, 43, 44, 45, 0, 1, 2, 3, 4, 5, 6, 7, 46] rfl rfl rfl (by decide) rfl rfl (fun f9 ce q9 H locs ho9 hP hD hS hc9 hv9 hf9 => by cases ho9) (fun ov w1 ho9 H locs hPD hS => ?_)
  cases ho9
  obtain ⟨hP, hD⟩ := hPD (wSys cI cD kk.1 g r1.2.1 ++ (wMod cI gm y ++ wLrow cJ a r1.2.2)) rfl
  refine lv_istore (lv' := [(5, .int r1.1), (0, .ref b), (1, .ref (g 0)), (2, .ref (gm 0)), (3, .ref a), (4, .int (nI i))]) hx hb dL_law_771 hl (by decide) rfl (fun ls hl => ?_)
  refine lv_aload_n hx hb dL_law_773 rfl (lv_at hl 3 rfl) ?_
  refine lv_aload_n hx hb dL_law_774 rfl (lv_at hl 1 rfl) ?_
  refine lv_iload hx hb dL_law_775 (lv_at hl 5 rfl) ?_
  refine lv_iconst (v := 1) hx hb dL_law_777 (by decide) ?_
  refine lv_iadd hx hb dL_law_778 ?_
  refine wk_sld (i := i) (k := 1) hx hb hX hbl hbA hS hL (by omega) rfl dL_law_779 ?_
  obtain ⟨r2, hr2, hM⟩ := ob hM
  refine wk_callM (ws' := (wSys cI cD kk.1 g r1.2.1 ++ (wMod cI gm r2.2 ++ wLrow cJ a r1.2.2))) (va_runV (As := [.int (xs (i + 1))]) (rest := []) ⟨hx, hb, hml, hown, hts⟩ (c_X7_block l dC dI cI cD cJ kk gm y (xs (i + 1)) _ hr2 H) (cwV 1 hts gL_law_X7_block rfl rfl rfl (by decide +kernel) ⟨Nat.le_of_ble_eq_true rfl, Nat.le_of_ble_eq_true rfl⟩) (wk_preV (ci := 5) (q0 := 38) hG hP hD [38, 39, 40, 41, 42, 43, 44, 45] rfl rfl rfl rfl) rfl rfl hl.1 rfl (lv_room (Nat.le_of_ble_eq_true rfl)) dL_law_780 ⟨Nat.le_trans (show cells + 1 + 0 ≤ cells + 2 by omega) hc, Nat.le_trans (show slots + 6 + 0 ≤ slots + 12 by omega) hs⟩) hP hD hS hA [38, 39, 40, 41, 42, 43, 44, 45] [0, 1, 2, 3, 4, 5, 6, 7, 8, 9, 10, 11, 12, 13, 14, 15, 16, 17, 18, 19, 20, 21, 22, 23, 24, 25, 26, 27, 28, 29, 30, 31, 32, 33, 34, 35, 36, 37, 46] [0, 1, 2, 3, 4, 5, 6, 7, 8, 9, 10, 11, 12, 13, 14, 15, 16, 17, 18, 19, 20, 21, 22, 23, 24, 25, 26, 27, 28, 29, 30, 31, 32, 33, 34, 35, 36, 37, 39, 40, 41, 42, 43, 44, 45, 46, 38] rfl rfl rfl (by decide) rfl rfl (fun H locs hP hD hS => ?_)
  refine lv_istore (lv' := [(6, .int r2.1), (5, .int r1.1), (0, .ref b), (1, .ref (g 0)), (2, .ref (gm 0)), (3, .ref a), (4, .int (nI i))]) hx hb dL_law_783 hl (by decide) rfl (fun ls hl => ?_)
  refine lv_aload_n hx hb dL_law_785 rfl (lv_at hl 4 rfl) ?_
  refine wk_callP (va_runV (As := []) (rest := []) ⟨hx, hb, hml, hown, hts⟩ (c_X7_thrown l dC dI cI cD cJ kk gm r2.2 _ rfl H) (cwV 0 hts gL_law_X7_thrown rfl rfl rfl (by decide +kernel) ⟨Nat.le_of_ble_eq_true rfl, Nat.le_of_ble_eq_true rfl⟩) (wk_preV (ci := 5) (q0 := 38) hG hP hD [38, 39, 40, 41, 42, 43, 44, 45] rfl rfl rfl rfl) rfl rfl hl.1 rfl (lv_room (Nat.le_of_ble_eq_true rfl)) dL_law_786 ⟨Nat.le_trans (show cells + 1 + 0 + 0 ≤ cells + 2 by omega) hc, Nat.le_trans (show slots + 6 + 0 + 0 ≤ slots + 12 by omega) hs⟩) hS (fun locs hS => ?_)
  refine lv_iload hx hb dL_law_789 (lv_at hl 1 rfl) ?_
  refine lv_icmp_eq (tgt := 796) hx hb dL_law_791 (by decide) (fun c3 => ?_) (fun c3 => ?_)
  · replace hM := (if_pos c3).symm.trans hM
    refine lv_iload hx hb dL_law_796 (lv_at hl 1 rfl) ?_
    refine lv_if_ne (tgt := 813) hx hb dL_law_798 (by decide) (fun c4 => ?_) (fun c4 => ?_)
    · replace hM := (if_neg c4).symm.trans hM
      refine lv_goto (tgt := 1589) hx hb dL_law_813 (by decide) ?_
      replace hM := Option.some.inj hM
      subst hM
      refine W.widen (k := cells + 2) (n := slots + 12) (by omega) (by omega) ?_
      exact hnext H locs ls hP hD hS (lv_sub hl [2, 3, 4, 5, 6] rfl)
    · replace hM := (if_pos c4).symm.trans hM
      refine lv_aload_n hx hb dL_law_801 rfl (lv_at hl 5 rfl) ?_
      refine lv_iconst (v := 0) hx hb dL_law_802 (by decide) ?_
      refine va_lald hx hb hG.1 hP 46 2 rfl rfl (vpb_in.mp (by decide)) dL_law_803 ?_
      refine lv_iload hx hb dL_law_804 (lv_at hl 0 rfl) ?_
      refine lv_i2l hx hb dL_law_806 rfl ?_
      refine W.lcmp hx hb dL_law_807 ?_
      refine lv_if_eq (tgt := 813) hx hb dL_law_808 (by decide) (fun c5 => ?_) (fun c5 => ?_)
      · replace hM := (if_pos c5).symm.trans hM
        refine lv_goto (tgt := 1589) hx hb dL_law_813 (by decide) ?_
        replace hM := Option.some.inj hM
        subst hM
        refine W.widen (k := cells + 2) (n := slots + 12) (by omega) (by omega) ?_
        exact hnext H locs ls hP hD hS (lv_sub hl [2, 3, 4, 5, 6] rfl)
      · replace hM := (if_neg c5).symm.trans hM
        refine lv_iconst (v := 0) hx hb dL_law_811 (by decide) ?_
        cases hM
  · replace hM := (if_neg c3).symm.trans hM
    refine lv_iconst (v := 0) hx hb dL_law_794 (by decide) ?_
    cases hM
set_option maxHeartbeats 4000000 in
set_option maxRecDepth 100000 in
theorem lawc_10 {p : Program} {e : Env} {s : State} {m : MethodId} {below : List Frame} {meth : Method} {c : Code} (l : Launch) (hflags : l.stackTraces = false) {b L : Nat} {xs : Nat → Int32} (hL : L ≤ 3072) (C0 : lw_At p s m meth c b L xs) {dC : Nat → ClassId} {dI : Nat → Nat → Nat} {cI cD cJ : ClassId} {kk : wAd} {g gm : Nat → Nat} {a : Nat} (hG : wk_G dC dI (wTys cI cD cJ) s) (hT : wkT kk (fun q : Nat => s.heap.size ≤ q) s s.heap) (hN : wkN s) {i : Nat} (hi : i + 6 ≤ L) {x : SS} {y : MS} {o : Nat → Int64} {r : SS × (MS × (Nat → Int64))} (hM : M_lawc_10 xs i x y o = some r) {H : Heap} {locs : List Loc} {cells slots : Nat} (hc : cells + 2 ≤ room_1.cells) (hs : slots + 12 ≤ room_1.slots) {ls : Array Slot} (hP : va_P (dC, dI) vwCl (wSys cI cD kk.1 g x ++ (wMod cI gm y ++ wLrow cJ a o)) H) (hD : va_D (fun q : Nat => s.heap.size ≤ q) (wSys cI cD kk.1 g x ++ (wMod cI gm y ++ wLrow cJ a o))) (hS : va_S (fun q : Nat => s.heap.size ≤ q) s.heap H locs) (hl : lv_has ls 7 [(0, .ref b), (1, .ref (g 0)), (2, .ref (gm 0)), (3, .ref a), (4, .int (nI i))]) (hnext : ∀ (H : Heap) (locs : List Loc) (ls : Array Slot), va_P (dC, dI) vwCl (wSys cI cD kk.1 g r.1 ++ (wMod cI gm r.2.1 ++ wLrow cJ a r.2.2)) H → va_D (fun q : Nat => s.heap.size ≤ q) (wSys cI cD kk.1 g r.1 ++ (wMod cI gm r.2.1 ++ wLrow cJ a r.2.2)) → va_S (fun q : Nat => s.heap.size ≤ q) s.heap H locs → lv_has ls 7 [(0, .ref b), (1, .ref (g 0)), (2, .ref (gm 0)), (3, .ref a), (4, .int (nI i))] → W p l e room_1 s m #[Value.ref b] below meth c H locs (cells + 2) (slots + 12) (lw_Z below #[Value.ref b] s) (F0 m 1589 ls [])) : W p l e room_1 s m #[Value.ref b] below meth c H locs cells slots (lw_Z below #[Value.ref b] s) (F0 m 816 ls []) := by
  obtain ⟨hx, hb, hr, hml, hown, hts0, hX, hbl, hlocks, hgv⟩ := C0
  have hts : ∀ w ∈ wsL_law, w.before #[Value.ref b] s = true := fun w h => hts0 w (wsL_law_in w h)
  have hA : ∀ q : Nat, s.heap.size ≤ q → (fun q : Nat => s.heap.size ≤ q) q := fun _ h => h
  have hbA : ¬ (fun q : Nat => s.heap.size ≤ q) b := Nat.not_le.mpr hbl
  unfold M_lawc_10 at hM
  refine lv_aload_n hx hb dL_law_816 rfl (lv_at hl 1 rfl) ?_
  refine lv_aload_n hx hb dL_law_817 rfl (lv_at hl 0 rfl) ?_
  refine lv_iload hx hb dL_law_818 (lv_at hl 4 rfl) ?_
  refine lv_iconst (v := 1) hx hb dL_law_820 (by decide) ?_
  refine lv_iadd hx hb dL_law_821 ?_
  refine wk_sld (i := i) (k := 1) hx hb hX hbl hbA hS hL (by omega) rfl dL_law_822 ?_
  refine lv_aload_n hx hb dL_law_823 rfl (lv_at hl 0 rfl) ?_
  refine lv_iload hx hb dL_law_824 (lv_at hl 4 rfl) ?_
  refine lv_iconst (v := 2) hx hb dL_law_826 (by decide) ?_
  refine lv_iadd hx hb dL_law_827 ?_
  refine wk_sld (i := i) (k := 2) hx hb hX hbl hbA hS hL (by omega) rfl dL_law_828 ?_
  refine lv_aload_n hx hb dL_law_829 rfl (lv_at hl 3 rfl) ?_
  obtain ⟨r1, hr1, hM⟩ := ob hM
  refine wk_callX (vx_runSX (As := [.ref (g 0), .int (xs (i + 1)), .int (xs (i + 2)), .ref a]) (rest := []) ⟨hx, hb, hml, hown, hts⟩ (c_L_orderOf l hflags dC dI cI cD cJ kk g a x o (xs (i + 1)) (xs (i + 2)) _ hr1 H) (vx_cwSW 4 hts gL_law_L_orderOf rfl rfl rfl (by decide +kernel) ⟨Nat.le_of_ble_eq_true rfl, Nat.le_of_ble_eq_true rfl⟩) (wk_preSL hG hP hD hT hN hS [0, 1, 2, 3, 4, 5, 6, 7, 8, 9, 10, 11, 12, 13, 14, 15, 16, 17, 18, 19, 20, 21, 22, 23, 24, 25, 26, 27, 28, 29, 30, 31, 32, 33, 34, 35, 36, 37, 46] rfl rfl (va_free hD hS hA [0, 1, 2, 3, 4, 5, 6, 7, 8, 9, 10, 11, 12, 13, 14, 15, 16, 17, 18, 19, 20, 21, 22, 23, 24, 25, 26, 27, 28, 29, 30, 31, 32, 33, 34, 35, 36, 37, 46] rfl)) rfl rfl hl.1 rfl (lv_room (Nat.le_of_ble_eq_true rfl)) dL_law_830 ⟨Nat.le_trans (show cells + 2 ≤ cells + 2 by omega) hc, Nat.le_trans (show slots + 12 ≤ slots + 12 by omega) hs⟩) hP hD hS hA [0, 1, 2, 3, 4, 5, 6, 7, 8, 9, 10, 11, 12, 13, 14, 15, 16, 17, 18, 19, 20, 21, 22, 23, 24, 25, 26, 27, 28, 29, 30, 31, 32, 33, 34, 35, 36, 37, 46] [38, 39, 40, 41, 42, 43, 44, 45] [8, 9, 10, 11, 12, 13, 14, 15, 16, 17, 18, 19, 20, 21, 22, 23, 24, 25, 26, 27, 28, 29, 30, 31, 32, 33, 34, 35, 36, 37, 38, 39, 40, 41, 42, 43, 44, 45, 0, 1, 2, 3, 4, 5, 6, 7, 46] rfl rfl rfl (by decide) rfl rfl (fun f9 ce q9 H locs ho9 hP hD hS hc9 hv9 hf9 => by cases ho9) (fun ov w1 ho9 H locs hPD hS => ?_)
  cases ho9
  obtain ⟨hP, hD⟩ := hPD (wSys cI cD kk.1 g r1.2.1 ++ (wMod cI gm y ++ wLrow cJ a r1.2.2)) rfl
  refine lv_istore (lv' := [(5, .int r1.1), (0, .ref b), (1, .ref (g 0)), (2, .ref (gm 0)), (3, .ref a), (4, .int (nI i))]) hx hb dL_law_833 hl (by decide) rfl (fun ls hl => ?_)
  refine lv_aload_n hx hb dL_law_835 rfl (lv_at hl 3 rfl) ?_
  refine lv_aload_n hx hb dL_law_836 rfl (lv_at hl 1 rfl) ?_
  refine lv_iload hx hb dL_law_837 (lv_at hl 5 rfl) ?_
  refine lv_iconst (v := 1) hx hb dL_law_839 (by decide) ?_
  refine lv_iadd hx hb dL_law_840 ?_
  refine wk_sld (i := i) (k := 1) hx hb hX hbl hbA hS hL (by omega) rfl dL_law_841 ?_
  refine lv_aload_n hx hb dL_law_842 rfl (lv_at hl 1 rfl) ?_
  refine lv_iload hx hb dL_law_843 (lv_at hl 5 rfl) ?_
  refine lv_iconst (v := 2) hx hb dL_law_845 (by decide) ?_
  refine lv_iadd hx hb dL_law_846 ?_
  refine wk_sld (i := i) (k := 2) hx hb hX hbl hbA hS hL (by omega) rfl dL_law_847 ?_
  obtain ⟨r2, hr2, hM⟩ := ob hM
  refine wk_callM (ws' := (wSys cI cD kk.1 g r1.2.1 ++ (wMod cI gm r2.2 ++ wLrow cJ a r1.2.2))) (va_runV (As := [.int (xs (i + 1)), .int (xs (i + 2))]) (rest := []) ⟨hx, hb, hml, hown, hts⟩ (c_X7_orderOf l dC dI cI cD cJ kk gm y (xs (i + 1)) (xs (i + 2)) _ hr2 H) (cwV 2 hts gL_law_X7_orderOf rfl rfl rfl (by decide +kernel) ⟨Nat.le_of_ble_eq_true rfl, Nat.le_of_ble_eq_true rfl⟩) (wk_preV (ci := 5) (q0 := 38) hG hP hD [38, 39, 40, 41, 42, 43, 44, 45] rfl rfl rfl rfl) rfl rfl hl.1 rfl (lv_room (Nat.le_of_ble_eq_true rfl)) dL_law_848 ⟨Nat.le_trans (show cells + 2 + 0 ≤ cells + 2 by omega) hc, Nat.le_trans (show slots + 12 + 0 ≤ slots + 12 by omega) hs⟩) hP hD hS hA [38, 39, 40, 41, 42, 43, 44, 45] [0, 1, 2, 3, 4, 5, 6, 7, 8, 9, 10, 11, 12, 13, 14, 15, 16, 17, 18, 19, 20, 21, 22, 23, 24, 25, 26, 27, 28, 29, 30, 31, 32, 33, 34, 35, 36, 37, 46] [0, 1, 2, 3, 4, 5, 6, 7, 8, 9, 10, 11, 12, 13, 14, 15, 16, 17, 18, 19, 20, 21, 22, 23, 24, 25, 26, 27, 28, 29, 30, 31, 32, 33, 34, 35, 36, 37, 39, 40, 41, 42, 43, 44, 45, 46, 38] rfl rfl rfl (by decide) rfl rfl (fun H locs hP hD hS => ?_)
  refine lv_istore (lv' := [(6, .int r2.1), (5, .int r1.1), (0, .ref b), (1, .ref (g 0)), (2, .ref (gm 0)), (3, .ref a), (4, .int (nI i))]) hx hb dL_law_851 hl (by decide) rfl (fun ls hl => ?_)
  refine lv_aload_n hx hb dL_law_853 rfl (lv_at hl 4 rfl) ?_
  refine wk_callP (va_runV (As := []) (rest := []) ⟨hx, hb, hml, hown, hts⟩ (c_X7_thrown l dC dI cI cD cJ kk gm r2.2 _ rfl H) (cwV 0 hts gL_law_X7_thrown rfl rfl rfl (by decide +kernel) ⟨Nat.le_of_ble_eq_true rfl, Nat.le_of_ble_eq_true rfl⟩) (wk_preV (ci := 5) (q0 := 38) hG hP hD [38, 39, 40, 41, 42, 43, 44, 45] rfl rfl rfl rfl) rfl rfl hl.1 rfl (lv_room (Nat.le_of_ble_eq_true rfl)) dL_law_854 ⟨Nat.le_trans (show cells + 2 + 0 + 0 ≤ cells + 2 by omega) hc, Nat.le_trans (show slots + 12 + 0 + 0 ≤ slots + 12 by omega) hs⟩) hS (fun locs hS => ?_)
  refine lv_iload hx hb dL_law_857 (lv_at hl 1 rfl) ?_
  refine lv_icmp_eq (tgt := 864) hx hb dL_law_859 (by decide) (fun c3 => ?_) (fun c3 => ?_)
  · replace hM := (if_pos c3).symm.trans hM
    refine lv_iload hx hb dL_law_864 (lv_at hl 1 rfl) ?_
    refine lv_if_ne (tgt := 881) hx hb dL_law_866 (by decide) (fun c4 => ?_) (fun c4 => ?_)
    · replace hM := (if_neg c4).symm.trans hM
      refine lv_goto (tgt := 1589) hx hb dL_law_881 (by decide) ?_
      replace hM := Option.some.inj hM
      subst hM
      refine W.widen (k := cells + 2) (n := slots + 12) (by omega) (by omega) ?_
      exact hnext H locs ls hP hD hS (lv_sub hl [2, 3, 4, 5, 6] rfl)
    · replace hM := (if_pos c4).symm.trans hM
      refine lv_aload_n hx hb dL_law_869 rfl (lv_at hl 5 rfl) ?_
      refine lv_iconst (v := 0) hx hb dL_law_870 (by decide) ?_
      refine va_lald hx hb hG.1 hP 46 2 rfl rfl (vpb_in.mp (by decide)) dL_law_871 ?_
      refine lv_iload hx hb dL_law_872 (lv_at hl 0 rfl) ?_
      refine lv_i2l hx hb dL_law_874 rfl ?_
      refine W.lcmp hx hb dL_law_875 ?_
      refine lv_if_eq (tgt := 881) hx hb dL_law_876 (by decide) (fun c5 => ?_) (fun c5 => ?_)
      · replace hM := (if_pos c5).symm.trans hM
        refine lv_goto (tgt := 1589) hx hb dL_law_881 (by decide) ?_
        replace hM := Option.some.inj hM
        subst hM
        refine W.widen (k := cells + 2) (n := slots + 12) (by omega) (by omega) ?_
        exact hnext H locs ls hP hD hS (lv_sub hl [2, 3, 4, 5, 6] rfl)
      · replace hM := (if_neg c5).symm.trans hM
        refine lv_iconst (v := 0) hx hb dL_law_879 (by decide) ?_
        cases hM
  · replace hM := (if_neg c3).symm.trans hM
    refine lv_iconst (v := 0) hx hb dL_law_862 (by decide) ?_
    cases hM
set_option maxHeartbeats 4000000 in
set_option maxRecDepth 100000 in
theorem lawc_11 {p : Program} {e : Env} {s : State} {m : MethodId} {below : List Frame} {meth : Method} {c : Code} (l : Launch) (hflags : l.stackTraces = false) {b L : Nat} {xs : Nat → Int32} (hL : L ≤ 3072) (C0 : lw_At p s m meth c b L xs) {dC : Nat → ClassId} {dI : Nat → Nat → Nat} {cI cD cJ : ClassId} {kk : wAd} {g gm : Nat → Nat} {a : Nat} (hG : wk_G dC dI (wTys cI cD cJ) s) (hT : wkT kk (fun q : Nat => s.heap.size ≤ q) s s.heap) (hN : wkN s) {i : Nat} (hi : i + 6 ≤ L) {x : SS} {y : MS} {o : Nat → Int64} {r : SS × (MS × (Nat → Int64))} (hM : M_lawc_11 xs i x y o = some r) {H : Heap} {locs : List Loc} {cells slots : Nat} (hc : cells + 2 ≤ room_1.cells) (hs : slots + 12 ≤ room_1.slots) {ls : Array Slot} (hP : va_P (dC, dI) vwCl (wSys cI cD kk.1 g x ++ (wMod cI gm y ++ wLrow cJ a o)) H) (hD : va_D (fun q : Nat => s.heap.size ≤ q) (wSys cI cD kk.1 g x ++ (wMod cI gm y ++ wLrow cJ a o))) (hS : va_S (fun q : Nat => s.heap.size ≤ q) s.heap H locs) (hl : lv_has ls 7 [(0, .ref b), (1, .ref (g 0)), (2, .ref (gm 0)), (3, .ref a), (4, .int (nI i))]) (hnext : ∀ (H : Heap) (locs : List Loc) (ls : Array Slot), va_P (dC, dI) vwCl (wSys cI cD kk.1 g r.1 ++ (wMod cI gm r.2.1 ++ wLrow cJ a r.2.2)) H → va_D (fun q : Nat => s.heap.size ≤ q) (wSys cI cD kk.1 g r.1 ++ (wMod cI gm r.2.1 ++ wLrow cJ a r.2.2)) → va_S (fun q : Nat => s.heap.size ≤ q) s.heap H locs → lv_has ls 7 [(0, .ref b), (1, .ref (g 0)), (2, .ref (gm 0)), (3, .ref a), (4, .int (nI i))] → W p l e room_1 s m #[Value.ref b] below meth c H locs (cells + 2) (slots + 12) (lw_Z below #[Value.ref b] s) (F0 m 1589 ls [])) : W p l e room_1 s m #[Value.ref b] below meth c H locs cells slots (lw_Z below #[Value.ref b] s) (F0 m 884 ls []) := by
  obtain ⟨hx, hb, hr, hml, hown, hts0, hX, hbl, hlocks, hgv⟩ := C0
  have hts : ∀ w ∈ wsL_law, w.before #[Value.ref b] s = true := fun w h => hts0 w (wsL_law_in w h)
  have hA : ∀ q : Nat, s.heap.size ≤ q → (fun q : Nat => s.heap.size ≤ q) q := fun _ h => h
  have hbA : ¬ (fun q : Nat => s.heap.size ≤ q) b := Nat.not_le.mpr hbl
  unfold M_lawc_11 at hM
  refine lv_aload_n hx hb dL_law_884 rfl (lv_at hl 1 rfl) ?_
  refine lv_aload_n hx hb dL_law_885 rfl (lv_at hl 0 rfl) ?_
  refine lv_iload hx hb dL_law_886 (lv_at hl 4 rfl) ?_
  refine lv_iconst (v := 1) hx hb dL_law_888 (by decide) ?_
  refine lv_iadd hx hb dL_law_889 ?_
  refine wk_sld (i := i) (k := 1) hx hb hX hbl hbA hS hL (by omega) rfl dL_law_890 ?_
  refine lv_aload_n hx hb dL_law_891 rfl (lv_at hl 0 rfl) ?_
  refine lv_iload hx hb dL_law_892 (lv_at hl 4 rfl) ?_
  refine lv_iconst (v := 2) hx hb dL_law_894 (by decide) ?_
  refine lv_iadd hx hb dL_law_895 ?_
  refine wk_sld (i := i) (k := 2) hx hb hX hbl hbA hS hL (by omega) rfl dL_law_896 ?_
  refine lv_aload_n hx hb dL_law_897 rfl (lv_at hl 3 rfl) ?_
  obtain ⟨r1, hr1, hM⟩ := ob hM
  refine wk_callX (vx_runSX (As := [.ref (g 0), .int (xs (i + 1)), .int (xs (i + 2)), .ref a]) (rest := []) ⟨hx, hb, hml, hown, hts⟩ (c_L_orderWith l hflags dC dI cI cD cJ kk g a x o (xs (i + 1)) (xs (i + 2)) _ hr1 H) (vx_cwSW 4 hts gL_law_L_orderWith rfl rfl rfl (by decide +kernel) ⟨Nat.le_of_ble_eq_true rfl, Nat.le_of_ble_eq_true rfl⟩) (wk_preSL hG hP hD hT hN hS [0, 1, 2, 3, 4, 5, 6, 7, 8, 9, 10, 11, 12, 13, 14, 15, 16, 17, 18, 19, 20, 21, 22, 23, 24, 25, 26, 27, 28, 29, 30, 31, 32, 33, 34, 35, 36, 37, 46] rfl rfl (va_free hD hS hA [0, 1, 2, 3, 4, 5, 6, 7, 8, 9, 10, 11, 12, 13, 14, 15, 16, 17, 18, 19, 20, 21, 22, 23, 24, 25, 26, 27, 28, 29, 30, 31, 32, 33, 34, 35, 36, 37, 46] rfl)) rfl rfl hl.1 rfl (lv_room (Nat.le_of_ble_eq_true rfl)) dL_law_898 ⟨Nat.le_trans (show cells + 1 ≤ cells + 2 by omega) hc, Nat.le_trans (show slots + 6 ≤ slots + 12 by omega) hs⟩) hP hD hS hA [0, 1, 2, 3, 4, 5, 6, 7, 8, 9, 10, 11, 12, 13, 14, 15, 16, 17, 18, 19, 20, 21, 22, 23, 24, 25, 26, 27, 28, 29, 30, 31, 32, 33, 34, 35, 36, 37, 46] [38, 39, 40, 41, 42, 43, 44, 45] [8, 9, 10, 11, 12, 13, 14, 15, 16, 17, 18, 19, 20, 21, 22, 23, 24, 25, 26, 27, 28, 29, 30, 31, 32, 33, 34, 35, 36, 37, 38, 39, 40, 41, 42, 43, 44, 45, 0, 1, 2, 3, 4, 5, 6, 7, 46] rfl rfl rfl (by decide) rfl rfl (fun f9 ce q9 H locs ho9 hP hD hS hc9 hv9 hf9 => by cases ho9) (fun ov w1 ho9 H locs hPD hS => ?_)
  cases ho9
  obtain ⟨hP, hD⟩ := hPD (wSys cI cD kk.1 g r1.2.1 ++ (wMod cI gm y ++ wLrow cJ a r1.2.2)) rfl
  refine lv_istore (lv' := [(5, .int r1.1), (0, .ref b), (1, .ref (g 0)), (2, .ref (gm 0)), (3, .ref a), (4, .int (nI i))]) hx hb dL_law_901 hl (by decide) rfl (fun ls hl => ?_)
  refine lv_aload_n hx hb dL_law_903 rfl (lv_at hl 3 rfl) ?_
  refine lv_aload_n hx hb dL_law_904 rfl (lv_at hl 1 rfl) ?_
  refine lv_iload hx hb dL_law_905 (lv_at hl 5 rfl) ?_
  refine lv_iconst (v := 1) hx hb dL_law_907 (by decide) ?_
  refine lv_iadd hx hb dL_law_908 ?_
  refine wk_sld (i := i) (k := 1) hx hb hX hbl hbA hS hL (by omega) rfl dL_law_909 ?_
  refine lv_aload_n hx hb dL_law_910 rfl (lv_at hl 1 rfl) ?_
  refine lv_iload hx hb dL_law_911 (lv_at hl 5 rfl) ?_
  refine lv_iconst (v := 2) hx hb dL_law_913 (by decide) ?_
  refine lv_iadd hx hb dL_law_914 ?_
  refine wk_sld (i := i) (k := 2) hx hb hX hbl hbA hS hL (by omega) rfl dL_law_915 ?_
  obtain ⟨r2, hr2, hM⟩ := ob hM
  refine wk_callM (ws' := (wSys cI cD kk.1 g r1.2.1 ++ (wMod cI gm r2.2 ++ wLrow cJ a r1.2.2))) (va_runV (As := [.int (xs (i + 1)), .int (xs (i + 2))]) (rest := []) ⟨hx, hb, hml, hown, hts⟩ (c_X7_orderWith l dC dI cI cD cJ kk gm y (xs (i + 1)) (xs (i + 2)) _ hr2 H) (cwV 2 hts gL_law_X7_orderWith rfl rfl rfl (by decide +kernel) ⟨Nat.le_of_ble_eq_true rfl, Nat.le_of_ble_eq_true rfl⟩) (wk_preV (ci := 5) (q0 := 38) hG hP hD [38, 39, 40, 41, 42, 43, 44, 45] rfl rfl rfl rfl) rfl rfl hl.1 rfl (lv_room (Nat.le_of_ble_eq_true rfl)) dL_law_916 ⟨Nat.le_trans (show cells + 1 + 0 ≤ cells + 2 by omega) hc, Nat.le_trans (show slots + 6 + 0 ≤ slots + 12 by omega) hs⟩) hP hD hS hA [38, 39, 40, 41, 42, 43, 44, 45] [0, 1, 2, 3, 4, 5, 6, 7, 8, 9, 10, 11, 12, 13, 14, 15, 16, 17, 18, 19, 20, 21, 22, 23, 24, 25, 26, 27, 28, 29, 30, 31, 32, 33, 34, 35, 36, 37, 46] [0, 1, 2, 3, 4, 5, 6, 7, 8, 9, 10, 11, 12, 13, 14, 15, 16, 17, 18, 19, 20, 21, 22, 23, 24, 25, 26, 27, 28, 29, 30, 31, 32, 33, 34, 35, 36, 37, 39, 40, 41, 42, 43, 44, 45, 46, 38] rfl rfl rfl (by decide) rfl rfl (fun H locs hP hD hS => ?_)
  refine lv_istore (lv' := [(6, .int r2.1), (5, .int r1.1), (0, .ref b), (1, .ref (g 0)), (2, .ref (gm 0)), (3, .ref a), (4, .int (nI i))]) hx hb dL_law_919 hl (by decide) rfl (fun ls hl => ?_)
  refine lv_aload_n hx hb dL_law_921 rfl (lv_at hl 4 rfl) ?_
  refine wk_callP (va_runV (As := []) (rest := []) ⟨hx, hb, hml, hown, hts⟩ (c_X7_thrown l dC dI cI cD cJ kk gm r2.2 _ rfl H) (cwV 0 hts gL_law_X7_thrown rfl rfl rfl (by decide +kernel) ⟨Nat.le_of_ble_eq_true rfl, Nat.le_of_ble_eq_true rfl⟩) (wk_preV (ci := 5) (q0 := 38) hG hP hD [38, 39, 40, 41, 42, 43, 44, 45] rfl rfl rfl rfl) rfl rfl hl.1 rfl (lv_room (Nat.le_of_ble_eq_true rfl)) dL_law_922 ⟨Nat.le_trans (show cells + 1 + 0 + 0 ≤ cells + 2 by omega) hc, Nat.le_trans (show slots + 6 + 0 + 0 ≤ slots + 12 by omega) hs⟩) hS (fun locs hS => ?_)
  refine lv_iload hx hb dL_law_925 (lv_at hl 1 rfl) ?_
  refine lv_icmp_eq (tgt := 932) hx hb dL_law_927 (by decide) (fun c3 => ?_) (fun c3 => ?_)
  · replace hM := (if_pos c3).symm.trans hM
    refine lv_iload hx hb dL_law_932 (lv_at hl 1 rfl) ?_
    refine lv_if_ne (tgt := 949) hx hb dL_law_934 (by decide) (fun c4 => ?_) (fun c4 => ?_)
    · replace hM := (if_neg c4).symm.trans hM
      refine lv_goto (tgt := 1589) hx hb dL_law_949 (by decide) ?_
      replace hM := Option.some.inj hM
      subst hM
      refine W.widen (k := cells + 2) (n := slots + 12) (by omega) (by omega) ?_
      exact hnext H locs ls hP hD hS (lv_sub hl [2, 3, 4, 5, 6] rfl)
    · replace hM := (if_pos c4).symm.trans hM
      refine lv_aload_n hx hb dL_law_937 rfl (lv_at hl 5 rfl) ?_
      refine lv_iconst (v := 0) hx hb dL_law_938 (by decide) ?_
      refine va_lald hx hb hG.1 hP 46 2 rfl rfl (vpb_in.mp (by decide)) dL_law_939 ?_
      refine lv_iload hx hb dL_law_940 (lv_at hl 0 rfl) ?_
      refine lv_i2l hx hb dL_law_942 rfl ?_
      refine W.lcmp hx hb dL_law_943 ?_
      refine lv_if_eq (tgt := 949) hx hb dL_law_944 (by decide) (fun c5 => ?_) (fun c5 => ?_)
      · replace hM := (if_pos c5).symm.trans hM
        refine lv_goto (tgt := 1589) hx hb dL_law_949 (by decide) ?_
        replace hM := Option.some.inj hM
        subst hM
        refine W.widen (k := cells + 2) (n := slots + 12) (by omega) (by omega) ?_
        exact hnext H locs ls hP hD hS (lv_sub hl [2, 3, 4, 5, 6] rfl)
      · replace hM := (if_neg c5).symm.trans hM
        refine lv_iconst (v := 0) hx hb dL_law_947 (by decide) ?_
        cases hM
  · replace hM := (if_neg c3).symm.trans hM
    refine lv_iconst (v := 0) hx hb dL_law_930 (by decide) ?_
    cases hM
