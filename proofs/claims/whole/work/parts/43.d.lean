/-! PART 43: the law's cases, on -/
set_option maxHeartbeats 4000000 in
set_option maxRecDepth 100000 in
theorem lawc_12 {p : Program} {e : Env} {s : State} {m : MethodId} {below : List Frame} {meth : Method} {c : Code} (l : Launch) (hflags : l.stackTraces = false) {b L : Nat} {xs : Nat → Int32} (hL : L ≤ 3072) (C0 : lw_At p s m meth c b L xs) {dC : Nat → ClassId} {dI : Nat → Nat → Nat} {cI cD cJ : ClassId} {kk : wAd} {g gm : Nat → Nat} {a : Nat} (hG : wk_G dC dI (wTys cI cD cJ) s) (hT : wkT kk (fun q : Nat => s.heap.size ≤ q) s s.heap) (hN : wkN s) {i : Nat} (hi : i + 6 ≤ L) {x : SS} {y : MS} {o : Nat → Int64} {r : SS × (MS × (Nat → Int64))} (hM : M_lawc_12 xs i x y o = some r) {H : Heap} {locs : List Loc} {cells slots : Nat} (hc : cells + 2 ≤ room_1.cells) (hs : slots + 12 ≤ room_1.slots) {ls : Array Slot} (hP : va_P (dC, dI) vwCl (wSys cI cD kk.1 g x ++ (wMod cI gm y ++ wLrow cJ a o)) H) (hD : va_D (fun q : Nat => s.heap.size ≤ q) (wSys cI cD kk.1 g x ++ (wMod cI gm y ++ wLrow cJ a o))) (hS : va_S (fun q : Nat => s.heap.size ≤ q) s.heap H locs) (hl : lv_has ls 7 [(0, .ref b), (1, .ref (g 0)), (2, .ref (gm 0)), (3, .ref a), (4, .int (nI i))]) (hnext : ∀ (H : Heap) (locs : List Loc) (ls : Array Slot), va_P (dC, dI) vwCl (wSys cI cD kk.1 g r.1 ++ (wMod cI gm r.2.1 ++ wLrow cJ a r.2.2)) H → va_D (fun q : Nat => s.heap.size ≤ q) (wSys cI cD kk.1 g r.1 ++ (wMod cI gm r.2.1 ++ wLrow cJ a r.2.2)) → va_S (fun q : Nat => s.heap.size ≤ q) s.heap H locs → lv_has ls 7 [(0, .ref b), (1, .ref (g 0)), (2, .ref (gm 0)), (3, .ref a), (4, .int (nI i))] → W p l e room_1 s m #[Value.ref b] below meth c H locs (cells + 2) (slots + 12) (lw_Z below #[Value.ref b] s) (F0 m 1589 ls [])) : W p l e room_1 s m #[Value.ref b] below meth c H locs cells slots (lw_Z below #[Value.ref b] s) (F0 m 952 ls []) := by
  obtain ⟨hx, hb, hr, hml, hown, hts0, hX, hbl, hlocks, hgv⟩ := C0
  have hts : ∀ w ∈ wsL_law, w.before #[Value.ref b] s = true := fun w h => hts0 w (wsL_law_in w h)
  have hA : ∀ q : Nat, s.heap.size ≤ q → (fun q : Nat => s.heap.size ≤ q) q := fun _ h => h
  have hbA : ¬ (fun q : Nat => s.heap.size ≤ q) b := Nat.not_le.mpr hbl
  unfold M_lawc_12 at hM
  refine lv_aload_n hx hb dL_law_952 rfl (lv_at hl 1 rfl) ?_
  refine lv_aload_n hx hb dL_law_953 rfl (lv_at hl 0 rfl) ?_
  refine lv_iload hx hb dL_law_954 (lv_at hl 4 rfl) ?_
  refine lv_iconst (v := 1) hx hb dL_law_956 (by decide) ?_
  refine lv_iadd hx hb dL_law_957 ?_
  refine wk_sld (i := i) (k := 1) hx hb hX hbl hbA hS hL (by omega) rfl dL_law_958 ?_
  refine lv_aload_n hx hb dL_law_959 rfl (lv_at hl 0 rfl) ?_
  refine lv_iload hx hb dL_law_960 (lv_at hl 4 rfl) ?_
  refine lv_iconst (v := 2) hx hb dL_law_962 (by decide) ?_
  refine lv_iadd hx hb dL_law_963 ?_
  refine wk_sld (i := i) (k := 2) hx hb hX hbl hbA hS hL (by omega) rfl dL_law_964 ?_
  refine lv_aload_n hx hb dL_law_965 rfl (lv_at hl 3 rfl) ?_
  obtain ⟨r1, hr1, hM⟩ := ob hM
  refine wk_callX (vx_runSX (As := [.ref (g 0), .int (xs (i + 1)), .int (xs (i + 2)), .ref a]) (rest := []) ⟨hx, hb, hml, hown, hts⟩ (c_L_controller l hflags dC dI cI cD cJ kk g a x o (xs (i + 1)) (xs (i + 2)) _ hr1 H) (vx_cwSW 4 hts gL_law_L_controller rfl rfl rfl (by decide +kernel) ⟨Nat.le_of_ble_eq_true rfl, Nat.le_of_ble_eq_true rfl⟩) (wk_preSL hG hP hD hT hN hS [0, 1, 2, 3, 4, 5, 6, 7, 8, 9, 10, 11, 12, 13, 14, 15, 16, 17, 18, 19, 20, 21, 22, 23, 24, 25, 26, 27, 28, 29, 30, 31, 32, 33, 34, 35, 36, 37, 46] rfl rfl (va_free hD hS hA [0, 1, 2, 3, 4, 5, 6, 7, 8, 9, 10, 11, 12, 13, 14, 15, 16, 17, 18, 19, 20, 21, 22, 23, 24, 25, 26, 27, 28, 29, 30, 31, 32, 33, 34, 35, 36, 37, 46] rfl)) rfl rfl hl.1 rfl (lv_room (Nat.le_of_ble_eq_true rfl)) dL_law_966 ⟨Nat.le_trans (show cells + 2 ≤ cells + 2 by omega) hc, Nat.le_trans (show slots + 12 ≤ slots + 12 by omega) hs⟩) hP hD hS hA [0, 1, 2, 3, 4, 5, 6, 7, 8, 9, 10, 11, 12, 13, 14, 15, 16, 17, 18, 19, 20, 21, 22, 23, 24, 25, 26, 27, 28, 29, 30, 31, 32, 33, 34, 35, 36, 37, 46] [38, 39, 40, 41, 42, 43, 44, 45] [8, 9, 10, 11, 12, 13, 14, 15, 16, 17, 18, 19, 20, 21, 22, 23, 24, 25, 26, 27, 28, 29, 30, 31, 32, 33, 34, 35, 36, 37, 38, 39, 40, 41, 42, 43, 44, 45, 0, 1, 2, 3, 4, 5, 6, 7, 46] rfl rfl rfl (by decide) rfl rfl (fun f9 ce q9 H locs ho9 hP hD hS hc9 hv9 hf9 => by cases ho9) (fun ov w1 ho9 H locs hPD hS => ?_)
  cases ho9
  obtain ⟨hP, hD⟩ := hPD (wSys cI cD kk.1 g r1.2.1 ++ (wMod cI gm y ++ wLrow cJ a r1.2.2)) rfl
  refine lv_istore (lv' := [(5, .int r1.1), (0, .ref b), (1, .ref (g 0)), (2, .ref (gm 0)), (3, .ref a), (4, .int (nI i))]) hx hb dL_law_969 hl (by decide) rfl (fun ls hl => ?_)
  refine lv_aload_n hx hb dL_law_971 rfl (lv_at hl 3 rfl) ?_
  refine lv_aload_n hx hb dL_law_972 rfl (lv_at hl 1 rfl) ?_
  refine lv_iload hx hb dL_law_973 (lv_at hl 5 rfl) ?_
  refine lv_iconst (v := 1) hx hb dL_law_975 (by decide) ?_
  refine lv_iadd hx hb dL_law_976 ?_
  refine wk_sld (i := i) (k := 1) hx hb hX hbl hbA hS hL (by omega) rfl dL_law_977 ?_
  refine lv_aload_n hx hb dL_law_978 rfl (lv_at hl 1 rfl) ?_
  refine lv_iload hx hb dL_law_979 (lv_at hl 5 rfl) ?_
  refine lv_iconst (v := 2) hx hb dL_law_981 (by decide) ?_
  refine lv_iadd hx hb dL_law_982 ?_
  refine wk_sld (i := i) (k := 2) hx hb hX hbl hbA hS hL (by omega) rfl dL_law_983 ?_
  obtain ⟨r2, hr2, hM⟩ := ob hM
  refine wk_callM (ws' := (wSys cI cD kk.1 g r1.2.1 ++ (wMod cI gm r2.2 ++ wLrow cJ a r1.2.2))) (va_runV (As := [.int (xs (i + 1)), .int (xs (i + 2))]) (rest := []) ⟨hx, hb, hml, hown, hts⟩ (c_X7_controller l dC dI cI cD cJ kk gm y (xs (i + 1)) (xs (i + 2)) _ hr2 H) (cwV 2 hts gL_law_X7_controller rfl rfl rfl (by decide +kernel) ⟨Nat.le_of_ble_eq_true rfl, Nat.le_of_ble_eq_true rfl⟩) (wk_preV (ci := 5) (q0 := 38) hG hP hD [38, 39, 40, 41, 42, 43, 44, 45] rfl rfl rfl rfl) rfl rfl hl.1 rfl (lv_room (Nat.le_of_ble_eq_true rfl)) dL_law_984 ⟨Nat.le_trans (show cells + 2 + 0 ≤ cells + 2 by omega) hc, Nat.le_trans (show slots + 12 + 0 ≤ slots + 12 by omega) hs⟩) hP hD hS hA [38, 39, 40, 41, 42, 43, 44, 45] [0, 1, 2, 3, 4, 5, 6, 7, 8, 9, 10, 11, 12, 13, 14, 15, 16, 17, 18, 19, 20, 21, 22, 23, 24, 25, 26, 27, 28, 29, 30, 31, 32, 33, 34, 35, 36, 37, 46] [0, 1, 2, 3, 4, 5, 6, 7, 8, 9, 10, 11, 12, 13, 14, 15, 16, 17, 18, 19, 20, 21, 22, 23, 24, 25, 26, 27, 28, 29, 30, 31, 32, 33, 34, 35, 36, 37, 39, 40, 41, 42, 43, 44, 45, 46, 38] rfl rfl rfl (by decide) rfl rfl (fun H locs hP hD hS => ?_)
  refine lv_istore (lv' := [(6, .int r2.1), (5, .int r1.1), (0, .ref b), (1, .ref (g 0)), (2, .ref (gm 0)), (3, .ref a), (4, .int (nI i))]) hx hb dL_law_987 hl (by decide) rfl (fun ls hl => ?_)
  refine lv_aload_n hx hb dL_law_989 rfl (lv_at hl 4 rfl) ?_
  refine wk_callP (va_runV (As := []) (rest := []) ⟨hx, hb, hml, hown, hts⟩ (c_X7_thrown l dC dI cI cD cJ kk gm r2.2 _ rfl H) (cwV 0 hts gL_law_X7_thrown rfl rfl rfl (by decide +kernel) ⟨Nat.le_of_ble_eq_true rfl, Nat.le_of_ble_eq_true rfl⟩) (wk_preV (ci := 5) (q0 := 38) hG hP hD [38, 39, 40, 41, 42, 43, 44, 45] rfl rfl rfl rfl) rfl rfl hl.1 rfl (lv_room (Nat.le_of_ble_eq_true rfl)) dL_law_990 ⟨Nat.le_trans (show cells + 2 + 0 + 0 ≤ cells + 2 by omega) hc, Nat.le_trans (show slots + 12 + 0 + 0 ≤ slots + 12 by omega) hs⟩) hS (fun locs hS => ?_)
  refine lv_iload hx hb dL_law_993 (lv_at hl 1 rfl) ?_
  refine lv_icmp_eq (tgt := 1000) hx hb dL_law_995 (by decide) (fun c3 => ?_) (fun c3 => ?_)
  · replace hM := (if_pos c3).symm.trans hM
    refine lv_iload hx hb dL_law_1000 (lv_at hl 1 rfl) ?_
    refine lv_if_ne (tgt := 1017) hx hb dL_law_1002 (by decide) (fun c4 => ?_) (fun c4 => ?_)
    · replace hM := (if_neg c4).symm.trans hM
      refine lv_goto (tgt := 1589) hx hb dL_law_1017 (by decide) ?_
      replace hM := Option.some.inj hM
      subst hM
      refine W.widen (k := cells + 2) (n := slots + 12) (by omega) (by omega) ?_
      exact hnext H locs ls hP hD hS (lv_sub hl [2, 3, 4, 5, 6] rfl)
    · replace hM := (if_pos c4).symm.trans hM
      refine lv_aload_n hx hb dL_law_1005 rfl (lv_at hl 5 rfl) ?_
      refine lv_iconst (v := 0) hx hb dL_law_1006 (by decide) ?_
      refine va_lald hx hb hG.1 hP 46 2 rfl rfl (vpb_in.mp (by decide)) dL_law_1007 ?_
      refine lv_iload hx hb dL_law_1008 (lv_at hl 0 rfl) ?_
      refine lv_i2l hx hb dL_law_1010 rfl ?_
      refine W.lcmp hx hb dL_law_1011 ?_
      refine lv_if_eq (tgt := 1017) hx hb dL_law_1012 (by decide) (fun c5 => ?_) (fun c5 => ?_)
      · replace hM := (if_pos c5).symm.trans hM
        refine lv_goto (tgt := 1589) hx hb dL_law_1017 (by decide) ?_
        replace hM := Option.some.inj hM
        subst hM
        refine W.widen (k := cells + 2) (n := slots + 12) (by omega) (by omega) ?_
        exact hnext H locs ls hP hD hS (lv_sub hl [2, 3, 4, 5, 6] rfl)
      · replace hM := (if_neg c5).symm.trans hM
        refine lv_iconst (v := 0) hx hb dL_law_1015 (by decide) ?_
        cases hM
  · replace hM := (if_neg c3).symm.trans hM
    refine lv_iconst (v := 0) hx hb dL_law_998 (by decide) ?_
    cases hM
set_option maxHeartbeats 4000000 in
set_option maxRecDepth 100000 in
theorem lawc_13 {p : Program} {e : Env} {s : State} {m : MethodId} {below : List Frame} {meth : Method} {c : Code} (l : Launch) (hflags : l.stackTraces = false) {b L : Nat} {xs : Nat → Int32} (hL : L ≤ 3072) (C0 : lw_At p s m meth c b L xs) {dC : Nat → ClassId} {dI : Nat → Nat → Nat} {cI cD cJ : ClassId} {kk : wAd} {g gm : Nat → Nat} {a : Nat} (hG : wk_G dC dI (wTys cI cD cJ) s) (hT : wkT kk (fun q : Nat => s.heap.size ≤ q) s s.heap) (hN : wkN s) {i : Nat} (hi : i + 6 ≤ L) {x : SS} {y : MS} {o : Nat → Int64} {r : SS × (MS × (Nat → Int64))} (hM : M_lawc_13 xs i x y o = some r) {H : Heap} {locs : List Loc} {cells slots : Nat} (hc : cells + 2 ≤ room_1.cells) (hs : slots + 12 ≤ room_1.slots) {ls : Array Slot} (hP : va_P (dC, dI) vwCl (wSys cI cD kk.1 g x ++ (wMod cI gm y ++ wLrow cJ a o)) H) (hD : va_D (fun q : Nat => s.heap.size ≤ q) (wSys cI cD kk.1 g x ++ (wMod cI gm y ++ wLrow cJ a o))) (hS : va_S (fun q : Nat => s.heap.size ≤ q) s.heap H locs) (hl : lv_has ls 7 [(0, .ref b), (1, .ref (g 0)), (2, .ref (gm 0)), (3, .ref a), (4, .int (nI i))]) (hnext : ∀ (H : Heap) (locs : List Loc) (ls : Array Slot), va_P (dC, dI) vwCl (wSys cI cD kk.1 g r.1 ++ (wMod cI gm r.2.1 ++ wLrow cJ a r.2.2)) H → va_D (fun q : Nat => s.heap.size ≤ q) (wSys cI cD kk.1 g r.1 ++ (wMod cI gm r.2.1 ++ wLrow cJ a r.2.2)) → va_S (fun q : Nat => s.heap.size ≤ q) s.heap H locs → lv_has ls 7 [(0, .ref b), (1, .ref (g 0)), (2, .ref (gm 0)), (3, .ref a), (4, .int (nI i))] → W p l e room_1 s m #[Value.ref b] below meth c H locs (cells + 2) (slots + 12) (lw_Z below #[Value.ref b] s) (F0 m 1589 ls [])) : W p l e room_1 s m #[Value.ref b] below meth c H locs cells slots (lw_Z below #[Value.ref b] s) (F0 m 1020 ls []) := by
  obtain ⟨hx, hb, hr, hml, hown, hts0, hX, hbl, hlocks, hgv⟩ := C0
  have hts : ∀ w ∈ wsL_law, w.before #[Value.ref b] s = true := fun w h => hts0 w (wsL_law_in w h)
  have hA : ∀ q : Nat, s.heap.size ≤ q → (fun q : Nat => s.heap.size ≤ q) q := fun _ h => h
  have hbA : ¬ (fun q : Nat => s.heap.size ≤ q) b := Nat.not_le.mpr hbl
  unfold M_lawc_13 at hM
  refine lv_aload_n hx hb dL_law_1020 rfl (lv_at hl 1 rfl) ?_
  refine lv_aload_n hx hb dL_law_1021 rfl (lv_at hl 0 rfl) ?_
  refine lv_iload hx hb dL_law_1022 (lv_at hl 4 rfl) ?_
  refine lv_iconst (v := 1) hx hb dL_law_1024 (by decide) ?_
  refine lv_iadd hx hb dL_law_1025 ?_
  refine wk_sld (i := i) (k := 1) hx hb hX hbl hbA hS hL (by omega) rfl dL_law_1026 ?_
  refine lv_aload_n hx hb dL_law_1027 rfl (lv_at hl 0 rfl) ?_
  refine lv_iload hx hb dL_law_1028 (lv_at hl 4 rfl) ?_
  refine lv_iconst (v := 2) hx hb dL_law_1030 (by decide) ?_
  refine lv_iadd hx hb dL_law_1031 ?_
  refine wk_sld (i := i) (k := 2) hx hb hX hbl hbA hS hL (by omega) rfl dL_law_1032 ?_
  refine lv_aload_n hx hb dL_law_1033 rfl (lv_at hl 3 rfl) ?_
  obtain ⟨r1, hr1, hM⟩ := ob hM
  refine wk_callX (vx_runSX (As := [.ref (g 0), .int (xs (i + 1)), .int (xs (i + 2)), .ref a]) (rest := []) ⟨hx, hb, hml, hown, hts⟩ (c_L_mail l hflags dC dI cI cD cJ kk g a x o (xs (i + 1)) (xs (i + 2)) _ hr1 H) (vx_cwSW 4 hts gL_law_L_mail rfl rfl rfl (by decide +kernel) ⟨Nat.le_of_ble_eq_true rfl, Nat.le_of_ble_eq_true rfl⟩) (wk_preSL hG hP hD hT hN hS [0, 1, 2, 3, 4, 5, 6, 7, 8, 9, 10, 11, 12, 13, 14, 15, 16, 17, 18, 19, 20, 21, 22, 23, 24, 25, 26, 27, 28, 29, 30, 31, 32, 33, 34, 35, 36, 37, 46] rfl rfl (va_free hD hS hA [0, 1, 2, 3, 4, 5, 6, 7, 8, 9, 10, 11, 12, 13, 14, 15, 16, 17, 18, 19, 20, 21, 22, 23, 24, 25, 26, 27, 28, 29, 30, 31, 32, 33, 34, 35, 36, 37, 46] rfl)) rfl rfl hl.1 rfl (lv_room (Nat.le_of_ble_eq_true rfl)) dL_law_1034 ⟨Nat.le_trans (show cells + 2 ≤ cells + 2 by omega) hc, Nat.le_trans (show slots + 12 ≤ slots + 12 by omega) hs⟩) hP hD hS hA [0, 1, 2, 3, 4, 5, 6, 7, 8, 9, 10, 11, 12, 13, 14, 15, 16, 17, 18, 19, 20, 21, 22, 23, 24, 25, 26, 27, 28, 29, 30, 31, 32, 33, 34, 35, 36, 37, 46] [38, 39, 40, 41, 42, 43, 44, 45] [8, 9, 10, 11, 12, 13, 14, 15, 16, 17, 18, 19, 20, 21, 22, 23, 24, 25, 26, 27, 28, 29, 30, 31, 32, 33, 34, 35, 36, 37, 38, 39, 40, 41, 42, 43, 44, 45, 0, 1, 2, 3, 4, 5, 6, 7, 46] rfl rfl rfl (by decide) rfl rfl (fun f9 ce q9 H locs ho9 hP hD hS hc9 hv9 hf9 => by cases ho9) (fun ov w1 ho9 H locs hPD hS => ?_)
  cases ho9
  obtain ⟨hP, hD⟩ := hPD (wSys cI cD kk.1 g r1.2.1 ++ (wMod cI gm y ++ wLrow cJ a r1.2.2)) rfl
  refine lv_istore (lv' := [(5, .int r1.1), (0, .ref b), (1, .ref (g 0)), (2, .ref (gm 0)), (3, .ref a), (4, .int (nI i))]) hx hb dL_law_1037 hl (by decide) rfl (fun ls hl => ?_)
  refine lv_aload_n hx hb dL_law_1039 rfl (lv_at hl 3 rfl) ?_
  refine lv_aload_n hx hb dL_law_1040 rfl (lv_at hl 1 rfl) ?_
  refine lv_iload hx hb dL_law_1041 (lv_at hl 5 rfl) ?_
  refine lv_iconst (v := 1) hx hb dL_law_1043 (by decide) ?_
  refine lv_iadd hx hb dL_law_1044 ?_
  refine wk_sld (i := i) (k := 1) hx hb hX hbl hbA hS hL (by omega) rfl dL_law_1045 ?_
  refine lv_aload_n hx hb dL_law_1046 rfl (lv_at hl 1 rfl) ?_
  refine lv_iload hx hb dL_law_1047 (lv_at hl 5 rfl) ?_
  refine lv_iconst (v := 2) hx hb dL_law_1049 (by decide) ?_
  refine lv_iadd hx hb dL_law_1050 ?_
  refine wk_sld (i := i) (k := 2) hx hb hX hbl hbA hS hL (by omega) rfl dL_law_1051 ?_
  obtain ⟨r2, hr2, hM⟩ := ob hM
  refine wk_callM (ws' := (wSys cI cD kk.1 g r1.2.1 ++ (wMod cI gm r2.2 ++ wLrow cJ a r1.2.2))) (va_runV (As := [.int (xs (i + 1)), .int (xs (i + 2))]) (rest := []) ⟨hx, hb, hml, hown, hts⟩ (c_X7_mail l dC dI cI cD cJ kk gm y (xs (i + 1)) (xs (i + 2)) _ hr2 H) (cwV 2 hts gL_law_X7_mail rfl rfl rfl (by decide +kernel) ⟨Nat.le_of_ble_eq_true rfl, Nat.le_of_ble_eq_true rfl⟩) (wk_preV (ci := 5) (q0 := 38) hG hP hD [38, 39, 40, 41, 42, 43, 44, 45] rfl rfl rfl rfl) rfl rfl hl.1 rfl (lv_room (Nat.le_of_ble_eq_true rfl)) dL_law_1052 ⟨Nat.le_trans (show cells + 2 + 0 ≤ cells + 2 by omega) hc, Nat.le_trans (show slots + 12 + 0 ≤ slots + 12 by omega) hs⟩) hP hD hS hA [38, 39, 40, 41, 42, 43, 44, 45] [0, 1, 2, 3, 4, 5, 6, 7, 8, 9, 10, 11, 12, 13, 14, 15, 16, 17, 18, 19, 20, 21, 22, 23, 24, 25, 26, 27, 28, 29, 30, 31, 32, 33, 34, 35, 36, 37, 46] [0, 1, 2, 3, 4, 5, 6, 7, 8, 9, 10, 11, 12, 13, 14, 15, 16, 17, 18, 19, 20, 21, 22, 23, 24, 25, 26, 27, 28, 29, 30, 31, 32, 33, 34, 35, 36, 37, 39, 40, 41, 42, 43, 44, 45, 46, 38] rfl rfl rfl (by decide) rfl rfl (fun H locs hP hD hS => ?_)
  refine lv_istore (lv' := [(6, .int r2.1), (5, .int r1.1), (0, .ref b), (1, .ref (g 0)), (2, .ref (gm 0)), (3, .ref a), (4, .int (nI i))]) hx hb dL_law_1055 hl (by decide) rfl (fun ls hl => ?_)
  refine lv_aload_n hx hb dL_law_1057 rfl (lv_at hl 4 rfl) ?_
  refine wk_callP (va_runV (As := []) (rest := []) ⟨hx, hb, hml, hown, hts⟩ (c_X7_thrown l dC dI cI cD cJ kk gm r2.2 _ rfl H) (cwV 0 hts gL_law_X7_thrown rfl rfl rfl (by decide +kernel) ⟨Nat.le_of_ble_eq_true rfl, Nat.le_of_ble_eq_true rfl⟩) (wk_preV (ci := 5) (q0 := 38) hG hP hD [38, 39, 40, 41, 42, 43, 44, 45] rfl rfl rfl rfl) rfl rfl hl.1 rfl (lv_room (Nat.le_of_ble_eq_true rfl)) dL_law_1058 ⟨Nat.le_trans (show cells + 2 + 0 + 0 ≤ cells + 2 by omega) hc, Nat.le_trans (show slots + 12 + 0 + 0 ≤ slots + 12 by omega) hs⟩) hS (fun locs hS => ?_)
  refine lv_iload hx hb dL_law_1061 (lv_at hl 1 rfl) ?_
  refine lv_icmp_eq (tgt := 1068) hx hb dL_law_1063 (by decide) (fun c3 => ?_) (fun c3 => ?_)
  · replace hM := (if_pos c3).symm.trans hM
    refine lv_iload hx hb dL_law_1068 (lv_at hl 1 rfl) ?_
    refine lv_if_ne (tgt := 1085) hx hb dL_law_1070 (by decide) (fun c4 => ?_) (fun c4 => ?_)
    · replace hM := (if_neg c4).symm.trans hM
      refine lv_goto (tgt := 1589) hx hb dL_law_1085 (by decide) ?_
      replace hM := Option.some.inj hM
      subst hM
      refine W.widen (k := cells + 2) (n := slots + 12) (by omega) (by omega) ?_
      exact hnext H locs ls hP hD hS (lv_sub hl [2, 3, 4, 5, 6] rfl)
    · replace hM := (if_pos c4).symm.trans hM
      refine lv_aload_n hx hb dL_law_1073 rfl (lv_at hl 5 rfl) ?_
      refine lv_iconst (v := 0) hx hb dL_law_1074 (by decide) ?_
      refine va_lald hx hb hG.1 hP 46 2 rfl rfl (vpb_in.mp (by decide)) dL_law_1075 ?_
      refine lv_iload hx hb dL_law_1076 (lv_at hl 0 rfl) ?_
      refine lv_i2l hx hb dL_law_1078 rfl ?_
      refine W.lcmp hx hb dL_law_1079 ?_
      refine lv_if_eq (tgt := 1085) hx hb dL_law_1080 (by decide) (fun c5 => ?_) (fun c5 => ?_)
      · replace hM := (if_pos c5).symm.trans hM
        refine lv_goto (tgt := 1589) hx hb dL_law_1085 (by decide) ?_
        replace hM := Option.some.inj hM
        subst hM
        refine W.widen (k := cells + 2) (n := slots + 12) (by omega) (by omega) ?_
        exact hnext H locs ls hP hD hS (lv_sub hl [2, 3, 4, 5, 6] rfl)
      · replace hM := (if_neg c5).symm.trans hM
        refine lv_iconst (v := 0) hx hb dL_law_1083 (by decide) ?_
        cases hM
  · replace hM := (if_neg c3).symm.trans hM
    refine lv_iconst (v := 0) hx hb dL_law_1066 (by decide) ?_
    cases hM
set_option maxHeartbeats 4000000 in
set_option maxRecDepth 100000 in
theorem lawc_14 {p : Program} {e : Env} {s : State} {m : MethodId} {below : List Frame} {meth : Method} {c : Code} (l : Launch) (hflags : l.stackTraces = false) {b L : Nat} {xs : Nat → Int32} (hL : L ≤ 3072) (C0 : lw_At p s m meth c b L xs) {dC : Nat → ClassId} {dI : Nat → Nat → Nat} {cI cD cJ : ClassId} {kk : wAd} {g gm : Nat → Nat} {a : Nat} (hG : wk_G dC dI (wTys cI cD cJ) s) (hT : wkT kk (fun q : Nat => s.heap.size ≤ q) s s.heap) (hN : wkN s) {i : Nat} (hi : i + 6 ≤ L) {x : SS} {y : MS} {o : Nat → Int64} {r : SS × (MS × (Nat → Int64))} (hM : M_lawc_14 xs i x y o = some r) {H : Heap} {locs : List Loc} {cells slots : Nat} (hc : cells + 2 ≤ room_1.cells) (hs : slots + 12 ≤ room_1.slots) {ls : Array Slot} (hP : va_P (dC, dI) vwCl (wSys cI cD kk.1 g x ++ (wMod cI gm y ++ wLrow cJ a o)) H) (hD : va_D (fun q : Nat => s.heap.size ≤ q) (wSys cI cD kk.1 g x ++ (wMod cI gm y ++ wLrow cJ a o))) (hS : va_S (fun q : Nat => s.heap.size ≤ q) s.heap H locs) (hl : lv_has ls 7 [(0, .ref b), (1, .ref (g 0)), (2, .ref (gm 0)), (3, .ref a), (4, .int (nI i))]) (hnext : ∀ (H : Heap) (locs : List Loc) (ls : Array Slot), va_P (dC, dI) vwCl (wSys cI cD kk.1 g r.1 ++ (wMod cI gm r.2.1 ++ wLrow cJ a r.2.2)) H → va_D (fun q : Nat => s.heap.size ≤ q) (wSys cI cD kk.1 g r.1 ++ (wMod cI gm r.2.1 ++ wLrow cJ a r.2.2)) → va_S (fun q : Nat => s.heap.size ≤ q) s.heap H locs → lv_has ls 7 [(0, .ref b), (1, .ref (g 0)), (2, .ref (gm 0)), (3, .ref a), (4, .int (nI i))] → W p l e room_1 s m #[Value.ref b] below meth c H locs (cells + 2) (slots + 12) (lw_Z below #[Value.ref b] s) (F0 m 1589 ls [])) : W p l e room_1 s m #[Value.ref b] below meth c H locs cells slots (lw_Z below #[Value.ref b] s) (F0 m 1088 ls []) := by
  obtain ⟨hx, hb, hr, hml, hown, hts0, hX, hbl, hlocks, hgv⟩ := C0
  have hts : ∀ w ∈ wsL_law, w.before #[Value.ref b] s = true := fun w h => hts0 w (wsL_law_in w h)
  have hA : ∀ q : Nat, s.heap.size ≤ q → (fun q : Nat => s.heap.size ≤ q) q := fun _ h => h
  have hbA : ¬ (fun q : Nat => s.heap.size ≤ q) b := Nat.not_le.mpr hbl
  unfold M_lawc_14 at hM
  refine lv_aload_n hx hb dL_law_1088 rfl (lv_at hl 1 rfl) ?_
  refine lv_aload_n hx hb dL_law_1089 rfl (lv_at hl 0 rfl) ?_
  refine lv_iload hx hb dL_law_1090 (lv_at hl 4 rfl) ?_
  refine lv_iconst (v := 1) hx hb dL_law_1092 (by decide) ?_
  refine lv_iadd hx hb dL_law_1093 ?_
  refine wk_sld (i := i) (k := 1) hx hb hX hbl hbA hS hL (by omega) rfl dL_law_1094 ?_
  refine lv_aload_n hx hb dL_law_1095 rfl (lv_at hl 3 rfl) ?_
  obtain ⟨r1, hr1, hM⟩ := ob hM
  refine wk_callX (vx_runSX (As := [.ref (g 0), .int (xs (i + 1)), .ref a]) (rest := []) ⟨hx, hb, hml, hown, hts⟩ (c_L_whole l hflags dC dI cI cD cJ kk g a x o (xs (i + 1)) _ hr1 H) (vx_cwSW 3 hts gL_law_L_whole rfl rfl rfl (by decide +kernel) ⟨Nat.le_of_ble_eq_true rfl, Nat.le_of_ble_eq_true rfl⟩) (wk_preSL hG hP hD hT hN hS [0, 1, 2, 3, 4, 5, 6, 7, 8, 9, 10, 11, 12, 13, 14, 15, 16, 17, 18, 19, 20, 21, 22, 23, 24, 25, 26, 27, 28, 29, 30, 31, 32, 33, 34, 35, 36, 37, 46] rfl rfl (va_free hD hS hA [0, 1, 2, 3, 4, 5, 6, 7, 8, 9, 10, 11, 12, 13, 14, 15, 16, 17, 18, 19, 20, 21, 22, 23, 24, 25, 26, 27, 28, 29, 30, 31, 32, 33, 34, 35, 36, 37, 46] rfl)) rfl rfl hl.1 rfl (lv_room (Nat.le_of_ble_eq_true rfl)) dL_law_1096 ⟨Nat.le_trans (show cells + 1 ≤ cells + 2 by omega) hc, Nat.le_trans (show slots + 6 ≤ slots + 12 by omega) hs⟩) hP hD hS hA [0, 1, 2, 3, 4, 5, 6, 7, 8, 9, 10, 11, 12, 13, 14, 15, 16, 17, 18, 19, 20, 21, 22, 23, 24, 25, 26, 27, 28, 29, 30, 31, 32, 33, 34, 35, 36, 37, 46] [38, 39, 40, 41, 42, 43, 44, 45] [8, 9, 10, 11, 12, 13, 14, 15, 16, 17, 18, 19, 20, 21, 22, 23, 24, 25, 26, 27, 28, 29, 30, 31, 32, 33, 34, 35, 36, 37, 38, 39, 40, 41, 42, 43, 44, 45, 0, 1, 2, 3, 4, 5, 6, 7, 46] rfl rfl rfl (by decide) rfl rfl (fun f9 ce q9 H locs ho9 hP hD hS hc9 hv9 hf9 => by cases ho9) (fun ov w1 ho9 H locs hPD hS => ?_)
  cases ho9
  obtain ⟨hP, hD⟩ := hPD (wSys cI cD kk.1 g r1.2.1 ++ (wMod cI gm y ++ wLrow cJ a r1.2.2)) rfl
  refine lv_istore (lv' := [(5, .int r1.1), (0, .ref b), (1, .ref (g 0)), (2, .ref (gm 0)), (3, .ref a), (4, .int (nI i))]) hx hb dL_law_1099 hl (by decide) rfl (fun ls hl => ?_)
  refine lv_aload_n hx hb dL_law_1101 rfl (lv_at hl 3 rfl) ?_
  refine lv_aload_n hx hb dL_law_1102 rfl (lv_at hl 1 rfl) ?_
  refine lv_iload hx hb dL_law_1103 (lv_at hl 5 rfl) ?_
  refine lv_iconst (v := 1) hx hb dL_law_1105 (by decide) ?_
  refine lv_iadd hx hb dL_law_1106 ?_
  refine wk_sld (i := i) (k := 1) hx hb hX hbl hbA hS hL (by omega) rfl dL_law_1107 ?_
  obtain ⟨r2, hr2, hM⟩ := ob hM
  refine wk_callM (ws' := (wSys cI cD kk.1 g r1.2.1 ++ (wMod cI gm r2.2 ++ wLrow cJ a r1.2.2))) (va_runV (As := [.int (xs (i + 1))]) (rest := []) ⟨hx, hb, hml, hown, hts⟩ (c_X7_whole l dC dI cI cD cJ kk gm y (xs (i + 1)) _ hr2 H) (cwV 1 hts gL_law_X7_whole rfl rfl rfl (by decide +kernel) ⟨Nat.le_of_ble_eq_true rfl, Nat.le_of_ble_eq_true rfl⟩) (wk_preV (ci := 5) (q0 := 38) hG hP hD [38, 39, 40, 41, 42, 43, 44, 45] rfl rfl rfl rfl) rfl rfl hl.1 rfl (lv_room (Nat.le_of_ble_eq_true rfl)) dL_law_1108 ⟨Nat.le_trans (show cells + 1 + 0 ≤ cells + 2 by omega) hc, Nat.le_trans (show slots + 6 + 0 ≤ slots + 12 by omega) hs⟩) hP hD hS hA [38, 39, 40, 41, 42, 43, 44, 45] [0, 1, 2, 3, 4, 5, 6, 7, 8, 9, 10, 11, 12, 13, 14, 15, 16, 17, 18, 19, 20, 21, 22, 23, 24, 25, 26, 27, 28, 29, 30, 31, 32, 33, 34, 35, 36, 37, 46] [0, 1, 2, 3, 4, 5, 6, 7, 8, 9, 10, 11, 12, 13, 14, 15, 16, 17, 18, 19, 20, 21, 22, 23, 24, 25, 26, 27, 28, 29, 30, 31, 32, 33, 34, 35, 36, 37, 39, 40, 41, 42, 43, 44, 45, 46, 38] rfl rfl rfl (by decide) rfl rfl (fun H locs hP hD hS => ?_)
  refine lv_istore (lv' := [(6, .int r2.1), (5, .int r1.1), (0, .ref b), (1, .ref (g 0)), (2, .ref (gm 0)), (3, .ref a), (4, .int (nI i))]) hx hb dL_law_1111 hl (by decide) rfl (fun ls hl => ?_)
  refine lv_aload_n hx hb dL_law_1113 rfl (lv_at hl 4 rfl) ?_
  refine wk_callP (va_runV (As := []) (rest := []) ⟨hx, hb, hml, hown, hts⟩ (c_X7_thrown l dC dI cI cD cJ kk gm r2.2 _ rfl H) (cwV 0 hts gL_law_X7_thrown rfl rfl rfl (by decide +kernel) ⟨Nat.le_of_ble_eq_true rfl, Nat.le_of_ble_eq_true rfl⟩) (wk_preV (ci := 5) (q0 := 38) hG hP hD [38, 39, 40, 41, 42, 43, 44, 45] rfl rfl rfl rfl) rfl rfl hl.1 rfl (lv_room (Nat.le_of_ble_eq_true rfl)) dL_law_1114 ⟨Nat.le_trans (show cells + 1 + 0 + 0 ≤ cells + 2 by omega) hc, Nat.le_trans (show slots + 6 + 0 + 0 ≤ slots + 12 by omega) hs⟩) hS (fun locs hS => ?_)
  refine lv_iload hx hb dL_law_1117 (lv_at hl 1 rfl) ?_
  refine lv_icmp_eq (tgt := 1124) hx hb dL_law_1119 (by decide) (fun c3 => ?_) (fun c3 => ?_)
  · replace hM := (if_pos c3).symm.trans hM
    refine lv_iload hx hb dL_law_1124 (lv_at hl 1 rfl) ?_
    refine lv_if_ne (tgt := 1141) hx hb dL_law_1126 (by decide) (fun c4 => ?_) (fun c4 => ?_)
    · replace hM := (if_neg c4).symm.trans hM
      refine lv_goto (tgt := 1589) hx hb dL_law_1141 (by decide) ?_
      replace hM := Option.some.inj hM
      subst hM
      refine W.widen (k := cells + 2) (n := slots + 12) (by omega) (by omega) ?_
      exact hnext H locs ls hP hD hS (lv_sub hl [2, 3, 4, 5, 6] rfl)
    · replace hM := (if_pos c4).symm.trans hM
      refine lv_aload_n hx hb dL_law_1129 rfl (lv_at hl 5 rfl) ?_
      refine lv_iconst (v := 0) hx hb dL_law_1130 (by decide) ?_
      refine va_lald hx hb hG.1 hP 46 2 rfl rfl (vpb_in.mp (by decide)) dL_law_1131 ?_
      refine lv_iload hx hb dL_law_1132 (lv_at hl 0 rfl) ?_
      refine lv_i2l hx hb dL_law_1134 rfl ?_
      refine W.lcmp hx hb dL_law_1135 ?_
      refine lv_if_eq (tgt := 1141) hx hb dL_law_1136 (by decide) (fun c5 => ?_) (fun c5 => ?_)
      · replace hM := (if_pos c5).symm.trans hM
        refine lv_goto (tgt := 1589) hx hb dL_law_1141 (by decide) ?_
        replace hM := Option.some.inj hM
        subst hM
        refine W.widen (k := cells + 2) (n := slots + 12) (by omega) (by omega) ?_
        exact hnext H locs ls hP hD hS (lv_sub hl [2, 3, 4, 5, 6] rfl)
      · replace hM := (if_neg c5).symm.trans hM
        refine lv_iconst (v := 0) hx hb dL_law_1139 (by decide) ?_
        cases hM
  · replace hM := (if_neg c3).symm.trans hM
    refine lv_iconst (v := 0) hx hb dL_law_1122 (by decide) ?_
    cases hM
set_option maxHeartbeats 4000000 in
set_option maxRecDepth 100000 in
theorem lawc_15 {p : Program} {e : Env} {s : State} {m : MethodId} {below : List Frame} {meth : Method} {c : Code} (l : Launch) (hflags : l.stackTraces = false) {b L : Nat} {xs : Nat → Int32} (hL : L ≤ 3072) (C0 : lw_At p s m meth c b L xs) {dC : Nat → ClassId} {dI : Nat → Nat → Nat} {cI cD cJ : ClassId} {kk : wAd} {g gm : Nat → Nat} {a : Nat} (hG : wk_G dC dI (wTys cI cD cJ) s) (hT : wkT kk (fun q : Nat => s.heap.size ≤ q) s s.heap) (hN : wkN s) {i : Nat} (hi : i + 6 ≤ L) {x : SS} {y : MS} {o : Nat → Int64} {r : SS × (MS × (Nat → Int64))} (hM : M_lawc_15 xs i x y o = some r) {H : Heap} {locs : List Loc} {cells slots : Nat} (hc : cells + 2 ≤ room_1.cells) (hs : slots + 12 ≤ room_1.slots) {ls : Array Slot} (hP : va_P (dC, dI) vwCl (wSys cI cD kk.1 g x ++ (wMod cI gm y ++ wLrow cJ a o)) H) (hD : va_D (fun q : Nat => s.heap.size ≤ q) (wSys cI cD kk.1 g x ++ (wMod cI gm y ++ wLrow cJ a o))) (hS : va_S (fun q : Nat => s.heap.size ≤ q) s.heap H locs) (hl : lv_has ls 7 [(0, .ref b), (1, .ref (g 0)), (2, .ref (gm 0)), (3, .ref a), (4, .int (nI i))]) (hnext : ∀ (H : Heap) (locs : List Loc) (ls : Array Slot), va_P (dC, dI) vwCl (wSys cI cD kk.1 g r.1 ++ (wMod cI gm r.2.1 ++ wLrow cJ a r.2.2)) H → va_D (fun q : Nat => s.heap.size ≤ q) (wSys cI cD kk.1 g r.1 ++ (wMod cI gm r.2.1 ++ wLrow cJ a r.2.2)) → va_S (fun q : Nat => s.heap.size ≤ q) s.heap H locs → lv_has ls 7 [(0, .ref b), (1, .ref (g 0)), (2, .ref (gm 0)), (3, .ref a), (4, .int (nI i))] → W p l e room_1 s m #[Value.ref b] below meth c H locs (cells + 2) (slots + 12) (lw_Z below #[Value.ref b] s) (F0 m 1589 ls [])) : W p l e room_1 s m #[Value.ref b] below meth c H locs cells slots (lw_Z below #[Value.ref b] s) (F0 m 1144 ls []) := by
  obtain ⟨hx, hb, hr, hml, hown, hts0, hX, hbl, hlocks, hgv⟩ := C0
  have hts : ∀ w ∈ wsL_law, w.before #[Value.ref b] s = true := fun w h => hts0 w (wsL_law_in w h)
  have hA : ∀ q : Nat, s.heap.size ≤ q → (fun q : Nat => s.heap.size ≤ q) q := fun _ h => h
  have hbA : ¬ (fun q : Nat => s.heap.size ≤ q) b := Nat.not_le.mpr hbl
  unfold M_lawc_15 at hM
  refine lv_aload_n hx hb dL_law_1144 rfl (lv_at hl 1 rfl) ?_
  refine lv_aload_n hx hb dL_law_1145 rfl (lv_at hl 0 rfl) ?_
  refine lv_iload hx hb dL_law_1146 (lv_at hl 4 rfl) ?_
  refine lv_iconst (v := 1) hx hb dL_law_1148 (by decide) ?_
  refine lv_iadd hx hb dL_law_1149 ?_
  refine wk_sld (i := i) (k := 1) hx hb hX hbl hbA hS hL (by omega) rfl dL_law_1150 ?_
  refine lv_aload_n hx hb dL_law_1151 rfl (lv_at hl 3 rfl) ?_
  obtain ⟨r1, hr1, hM⟩ := ob hM
  refine wk_callX (vx_runSX (As := [.ref (g 0), .int (xs (i + 1)), .ref a]) (rest := []) ⟨hx, hb, hml, hown, hts⟩ (c_L_waitsFor l hflags dC dI cI cD cJ kk g a x o (xs (i + 1)) _ hr1 H) (vx_cwSW 3 hts gL_law_L_waitsFor rfl rfl rfl (by decide +kernel) ⟨Nat.le_of_ble_eq_true rfl, Nat.le_of_ble_eq_true rfl⟩) (wk_preSL hG hP hD hT hN hS [0, 1, 2, 3, 4, 5, 6, 7, 8, 9, 10, 11, 12, 13, 14, 15, 16, 17, 18, 19, 20, 21, 22, 23, 24, 25, 26, 27, 28, 29, 30, 31, 32, 33, 34, 35, 36, 37, 46] rfl rfl (va_free hD hS hA [0, 1, 2, 3, 4, 5, 6, 7, 8, 9, 10, 11, 12, 13, 14, 15, 16, 17, 18, 19, 20, 21, 22, 23, 24, 25, 26, 27, 28, 29, 30, 31, 32, 33, 34, 35, 36, 37, 46] rfl)) rfl rfl hl.1 rfl (lv_room (Nat.le_of_ble_eq_true rfl)) dL_law_1152 ⟨Nat.le_trans (show cells + 1 ≤ cells + 2 by omega) hc, Nat.le_trans (show slots + 6 ≤ slots + 12 by omega) hs⟩) hP hD hS hA [0, 1, 2, 3, 4, 5, 6, 7, 8, 9, 10, 11, 12, 13, 14, 15, 16, 17, 18, 19, 20, 21, 22, 23, 24, 25, 26, 27, 28, 29, 30, 31, 32, 33, 34, 35, 36, 37, 46] [38, 39, 40, 41, 42, 43, 44, 45] [8, 9, 10, 11, 12, 13, 14, 15, 16, 17, 18, 19, 20, 21, 22, 23, 24, 25, 26, 27, 28, 29, 30, 31, 32, 33, 34, 35, 36, 37, 38, 39, 40, 41, 42, 43, 44, 45, 0, 1, 2, 3, 4, 5, 6, 7, 46] rfl rfl rfl (by decide) rfl rfl (fun f9 ce q9 H locs ho9 hP hD hS hc9 hv9 hf9 => by cases ho9) (fun ov w1 ho9 H locs hPD hS => ?_)
  cases ho9
  obtain ⟨hP, hD⟩ := hPD (wSys cI cD kk.1 g r1.2.1 ++ (wMod cI gm y ++ wLrow cJ a r1.2.2)) rfl
  refine lv_istore (lv' := [(5, .int r1.1), (0, .ref b), (1, .ref (g 0)), (2, .ref (gm 0)), (3, .ref a), (4, .int (nI i))]) hx hb dL_law_1155 hl (by decide) rfl (fun ls hl => ?_)
  refine lv_aload_n hx hb dL_law_1157 rfl (lv_at hl 3 rfl) ?_
  refine lv_aload_n hx hb dL_law_1158 rfl (lv_at hl 1 rfl) ?_
  refine lv_iload hx hb dL_law_1159 (lv_at hl 5 rfl) ?_
  refine lv_iconst (v := 1) hx hb dL_law_1161 (by decide) ?_
  refine lv_iadd hx hb dL_law_1162 ?_
  refine wk_sld (i := i) (k := 1) hx hb hX hbl hbA hS hL (by omega) rfl dL_law_1163 ?_
  obtain ⟨r2, hr2, hM⟩ := ob hM
  refine wk_callM (ws' := (wSys cI cD kk.1 g r1.2.1 ++ (wMod cI gm r2.2 ++ wLrow cJ a r1.2.2))) (va_runV (As := [.int (xs (i + 1))]) (rest := []) ⟨hx, hb, hml, hown, hts⟩ (c_X7_waitsFor l dC dI cI cD cJ kk gm y (xs (i + 1)) _ hr2 H) (cwV 1 hts gL_law_X7_waitsFor rfl rfl rfl (by decide +kernel) ⟨Nat.le_of_ble_eq_true rfl, Nat.le_of_ble_eq_true rfl⟩) (wk_preV (ci := 5) (q0 := 38) hG hP hD [38, 39, 40, 41, 42, 43, 44, 45] rfl rfl rfl rfl) rfl rfl hl.1 rfl (lv_room (Nat.le_of_ble_eq_true rfl)) dL_law_1164 ⟨Nat.le_trans (show cells + 1 + 0 ≤ cells + 2 by omega) hc, Nat.le_trans (show slots + 6 + 0 ≤ slots + 12 by omega) hs⟩) hP hD hS hA [38, 39, 40, 41, 42, 43, 44, 45] [0, 1, 2, 3, 4, 5, 6, 7, 8, 9, 10, 11, 12, 13, 14, 15, 16, 17, 18, 19, 20, 21, 22, 23, 24, 25, 26, 27, 28, 29, 30, 31, 32, 33, 34, 35, 36, 37, 46] [0, 1, 2, 3, 4, 5, 6, 7, 8, 9, 10, 11, 12, 13, 14, 15, 16, 17, 18, 19, 20, 21, 22, 23, 24, 25, 26, 27, 28, 29, 30, 31, 32, 33, 34, 35, 36, 37, 39, 40, 41, 42, 43, 44, 45, 46, 38] rfl rfl rfl (by decide) rfl rfl (fun H locs hP hD hS => ?_)
  refine lv_istore (lv' := [(6, .int r2.1), (5, .int r1.1), (0, .ref b), (1, .ref (g 0)), (2, .ref (gm 0)), (3, .ref a), (4, .int (nI i))]) hx hb dL_law_1167 hl (by decide) rfl (fun ls hl => ?_)
  refine lv_aload_n hx hb dL_law_1169 rfl (lv_at hl 4 rfl) ?_
  refine wk_callP (va_runV (As := []) (rest := []) ⟨hx, hb, hml, hown, hts⟩ (c_X7_thrown l dC dI cI cD cJ kk gm r2.2 _ rfl H) (cwV 0 hts gL_law_X7_thrown rfl rfl rfl (by decide +kernel) ⟨Nat.le_of_ble_eq_true rfl, Nat.le_of_ble_eq_true rfl⟩) (wk_preV (ci := 5) (q0 := 38) hG hP hD [38, 39, 40, 41, 42, 43, 44, 45] rfl rfl rfl rfl) rfl rfl hl.1 rfl (lv_room (Nat.le_of_ble_eq_true rfl)) dL_law_1170 ⟨Nat.le_trans (show cells + 1 + 0 + 0 ≤ cells + 2 by omega) hc, Nat.le_trans (show slots + 6 + 0 + 0 ≤ slots + 12 by omega) hs⟩) hS (fun locs hS => ?_)
  refine lv_iload hx hb dL_law_1173 (lv_at hl 1 rfl) ?_
  refine lv_icmp_eq (tgt := 1180) hx hb dL_law_1175 (by decide) (fun c3 => ?_) (fun c3 => ?_)
  · replace hM := (if_pos c3).symm.trans hM
    refine lv_iload hx hb dL_law_1180 (lv_at hl 1 rfl) ?_
    refine lv_if_ne (tgt := 1197) hx hb dL_law_1182 (by decide) (fun c4 => ?_) (fun c4 => ?_)
    · replace hM := (if_neg c4).symm.trans hM
      refine lv_goto (tgt := 1589) hx hb dL_law_1197 (by decide) ?_
      replace hM := Option.some.inj hM
      subst hM
      refine W.widen (k := cells + 2) (n := slots + 12) (by omega) (by omega) ?_
      exact hnext H locs ls hP hD hS (lv_sub hl [2, 3, 4, 5, 6] rfl)
    · replace hM := (if_pos c4).symm.trans hM
      refine lv_aload_n hx hb dL_law_1185 rfl (lv_at hl 5 rfl) ?_
      refine lv_iconst (v := 0) hx hb dL_law_1186 (by decide) ?_
      refine va_lald hx hb hG.1 hP 46 2 rfl rfl (vpb_in.mp (by decide)) dL_law_1187 ?_
      refine lv_iload hx hb dL_law_1188 (lv_at hl 0 rfl) ?_
      refine lv_i2l hx hb dL_law_1190 rfl ?_
      refine W.lcmp hx hb dL_law_1191 ?_
      refine lv_if_eq (tgt := 1197) hx hb dL_law_1192 (by decide) (fun c5 => ?_) (fun c5 => ?_)
      · replace hM := (if_pos c5).symm.trans hM
        refine lv_goto (tgt := 1589) hx hb dL_law_1197 (by decide) ?_
        replace hM := Option.some.inj hM
        subst hM
        refine W.widen (k := cells + 2) (n := slots + 12) (by omega) (by omega) ?_
        exact hnext H locs ls hP hD hS (lv_sub hl [2, 3, 4, 5, 6] rfl)
      · replace hM := (if_neg c5).symm.trans hM
        refine lv_iconst (v := 0) hx hb dL_law_1195 (by decide) ?_
        cases hM
  · replace hM := (if_neg c3).symm.trans hM
    refine lv_iconst (v := 0) hx hb dL_law_1178 (by decide) ?_
    cases hM
