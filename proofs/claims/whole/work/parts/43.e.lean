/-! PART 43: the law's cases, on -/
set_option maxHeartbeats 4000000 in
set_option maxRecDepth 100000 in
theorem lawc_16 {p : Program} {e : Env} {s : State} {m : MethodId} {below : List Frame} {meth : Method} {c : Code} (l : Launch) (hflags : l.stackTraces = false) {b L : Nat} {xs : Nat → Int32} (hL : L ≤ 3072) (C0 : lw_At p s m meth c b L xs) {dC : Nat → ClassId} {dI : Nat → Nat → Nat} {cI cD cJ : ClassId} {kk : wAd} {g gm : Nat → Nat} {a : Nat} (hG : wk_G dC dI (wTys cI cD cJ) s) (hT : wkT kk (fun q : Nat => s.heap.size ≤ q) s s.heap) (hN : wkN s) {i : Nat} (hi : i + 6 ≤ L) {x : SS} {y : MS} {o : Nat → Int64} {r : SS × (MS × (Nat → Int64))} (hM : M_lawc_16 xs i x y o = some r) {H : Heap} {locs : List Loc} {cells slots : Nat} (hc : cells + 2 ≤ room_1.cells) (hs : slots + 12 ≤ room_1.slots) {ls : Array Slot} (hP : va_P (dC, dI) vwCl (wSys cI cD kk.1 g x ++ (wMod cI gm y ++ wLrow cJ a o)) H) (hD : va_D (fun q : Nat => s.heap.size ≤ q) (wSys cI cD kk.1 g x ++ (wMod cI gm y ++ wLrow cJ a o))) (hS : va_S (fun q : Nat => s.heap.size ≤ q) s.heap H locs) (hl : lv_has ls 7 [(0, .ref b), (1, .ref (g 0)), (2, .ref (gm 0)), (3, .ref a), (4, .int (nI i))]) (hnext : ∀ (H : Heap) (locs : List Loc) (ls : Array Slot), va_P (dC, dI) vwCl (wSys cI cD kk.1 g r.1 ++ (wMod cI gm r.2.1 ++ wLrow cJ a r.2.2)) H → va_D (fun q : Nat => s.heap.size ≤ q) (wSys cI cD kk.1 g r.1 ++ (wMod cI gm r.2.1 ++ wLrow cJ a r.2.2)) → va_S (fun q : Nat => s.heap.size ≤ q) s.heap H locs → lv_has ls 7 [(0, .ref b), (1, .ref (g 0)), (2, .ref (gm 0)), (3, .ref a), (4, .int (nI i))] → W p l e room_1 s m #[Value.ref b] below meth c H locs (cells + 2) (slots + 12) (lw_Z below #[Value.ref b] s) (F0 m 1589 ls [])) : W p l e room_1 s m #[Value.ref b] below meth c H locs cells slots (lw_Z below #[Value.ref b] s) (F0 m 1200 ls []) := by
  obtain ⟨hx, hb, hr, hml, hown, hts0, hX, hbl, hlocks, hgv⟩ := C0
  have hts : ∀ w ∈ wsL_law, w.before #[Value.ref b] s = true := fun w h => hts0 w (wsL_law_in w h)
  have hA : ∀ q : Nat, s.heap.size ≤ q → (fun q : Nat => s.heap.size ≤ q) q := fun _ h => h
  have hbA : ¬ (fun q : Nat => s.heap.size ≤ q) b := Nat.not_le.mpr hbl
  unfold M_lawc_16 at hM
  refine lv_aload_n hx hb dL_law_1200 rfl (lv_at hl 1 rfl) ?_
  refine lv_aload_n hx hb dL_law_1201 rfl (lv_at hl 0 rfl) ?_
  refine lv_iload hx hb dL_law_1202 (lv_at hl 4 rfl) ?_
  refine lv_iconst (v := 1) hx hb dL_law_1204 (by decide) ?_
  refine lv_iadd hx hb dL_law_1205 ?_
  refine wk_sld (i := i) (k := 1) hx hb hX hbl hbA hS hL (by omega) rfl dL_law_1206 ?_
  refine lv_aload_n hx hb dL_law_1207 rfl (lv_at hl 3 rfl) ?_
  obtain ⟨r1, hr1, hM⟩ := ob hM
  refine wk_callX (vx_runSX (As := [.ref (g 0), .int (xs (i + 1)), .ref a]) (rest := []) ⟨hx, hb, hml, hown, hts⟩ (c_L_depth l hflags dC dI cI cD cJ kk g a x o (xs (i + 1)) _ hr1 H) (vx_cwSW 3 hts gL_law_L_depth rfl rfl rfl (by decide +kernel) ⟨Nat.le_of_ble_eq_true rfl, Nat.le_of_ble_eq_true rfl⟩) (wk_preSL hG hP hD hT hN hS [0, 1, 2, 3, 4, 5, 6, 7, 8, 9, 10, 11, 12, 13, 14, 15, 16, 17, 18, 19, 20, 21, 22, 23, 24, 25, 26, 27, 28, 29, 30, 31, 32, 33, 34, 35, 36, 37, 46] rfl rfl (va_free hD hS hA [0, 1, 2, 3, 4, 5, 6, 7, 8, 9, 10, 11, 12, 13, 14, 15, 16, 17, 18, 19, 20, 21, 22, 23, 24, 25, 26, 27, 28, 29, 30, 31, 32, 33, 34, 35, 36, 37, 46] rfl)) rfl rfl hl.1 rfl (lv_room (Nat.le_of_ble_eq_true rfl)) dL_law_1208 ⟨Nat.le_trans (show cells + 1 ≤ cells + 2 by omega) hc, Nat.le_trans (show slots + 6 ≤ slots + 12 by omega) hs⟩) hP hD hS hA [0, 1, 2, 3, 4, 5, 6, 7, 8, 9, 10, 11, 12, 13, 14, 15, 16, 17, 18, 19, 20, 21, 22, 23, 24, 25, 26, 27, 28, 29, 30, 31, 32, 33, 34, 35, 36, 37, 46] [38, 39, 40, 41, 42, 43, 44, 45] [8, 9, 10, 11, 12, 13, 14, 15, 16, 17, 18, 19, 20, 21, 22, 23, 24, 25, 26, 27, 28, 29, 30, 31, 32, 33, 34, 35, 36, 37, 38, 39, 40, 41, 42, 43, 44, 45, 0, 1, 2, 3, 4, 5, 6, 7, 46] rfl rfl rfl (by decide) rfl rfl (fun f9 ce q9 H locs ho9 hP hD hS hc9 hv9 hf9 => by cases ho9) (fun ov w1 ho9 H locs hPD hS => ?_)
  cases ho9
  obtain ⟨hP, hD⟩ := hPD (wSys cI cD kk.1 g r1.2.1 ++ (wMod cI gm y ++ wLrow cJ a r1.2.2)) rfl
  refine lv_istore (lv' := [(5, .int r1.1), (0, .ref b), (1, .ref (g 0)), (2, .ref (gm 0)), (3, .ref a), (4, .int (nI i))]) hx hb dL_law_1211 hl (by decide) rfl (fun ls hl => ?_)
  refine lv_aload_n hx hb dL_law_1213 rfl (lv_at hl 3 rfl) ?_
  refine lv_aload_n hx hb dL_law_1214 rfl (lv_at hl 1 rfl) ?_
  refine lv_iload hx hb dL_law_1215 (lv_at hl 5 rfl) ?_
  refine lv_iconst (v := 1) hx hb dL_law_1217 (by decide) ?_
  refine lv_iadd hx hb dL_law_1218 ?_
  refine wk_sld (i := i) (k := 1) hx hb hX hbl hbA hS hL (by omega) rfl dL_law_1219 ?_
  obtain ⟨r2, hr2, hM⟩ := ob hM
  refine wk_callM (ws' := (wSys cI cD kk.1 g r1.2.1 ++ (wMod cI gm r2.2 ++ wLrow cJ a r1.2.2))) (va_runV (As := [.int (xs (i + 1))]) (rest := []) ⟨hx, hb, hml, hown, hts⟩ (c_X7_depth l dC dI cI cD cJ kk gm y (xs (i + 1)) _ hr2 H) (cwV 1 hts gL_law_X7_depth rfl rfl rfl (by decide +kernel) ⟨Nat.le_of_ble_eq_true rfl, Nat.le_of_ble_eq_true rfl⟩) (wk_preV (ci := 5) (q0 := 38) hG hP hD [38, 39, 40, 41, 42, 43, 44, 45] rfl rfl rfl rfl) rfl rfl hl.1 rfl (lv_room (Nat.le_of_ble_eq_true rfl)) dL_law_1220 ⟨Nat.le_trans (show cells + 1 + 0 ≤ cells + 2 by omega) hc, Nat.le_trans (show slots + 6 + 0 ≤ slots + 12 by omega) hs⟩) hP hD hS hA [38, 39, 40, 41, 42, 43, 44, 45] [0, 1, 2, 3, 4, 5, 6, 7, 8, 9, 10, 11, 12, 13, 14, 15, 16, 17, 18, 19, 20, 21, 22, 23, 24, 25, 26, 27, 28, 29, 30, 31, 32, 33, 34, 35, 36, 37, 46] [0, 1, 2, 3, 4, 5, 6, 7, 8, 9, 10, 11, 12, 13, 14, 15, 16, 17, 18, 19, 20, 21, 22, 23, 24, 25, 26, 27, 28, 29, 30, 31, 32, 33, 34, 35, 36, 37, 39, 40, 41, 42, 43, 44, 45, 46, 38] rfl rfl rfl (by decide) rfl rfl (fun H locs hP hD hS => ?_)
  refine lv_istore (lv' := [(6, .int r2.1), (5, .int r1.1), (0, .ref b), (1, .ref (g 0)), (2, .ref (gm 0)), (3, .ref a), (4, .int (nI i))]) hx hb dL_law_1223 hl (by decide) rfl (fun ls hl => ?_)
  refine lv_aload_n hx hb dL_law_1225 rfl (lv_at hl 4 rfl) ?_
  refine wk_callP (va_runV (As := []) (rest := []) ⟨hx, hb, hml, hown, hts⟩ (c_X7_thrown l dC dI cI cD cJ kk gm r2.2 _ rfl H) (cwV 0 hts gL_law_X7_thrown rfl rfl rfl (by decide +kernel) ⟨Nat.le_of_ble_eq_true rfl, Nat.le_of_ble_eq_true rfl⟩) (wk_preV (ci := 5) (q0 := 38) hG hP hD [38, 39, 40, 41, 42, 43, 44, 45] rfl rfl rfl rfl) rfl rfl hl.1 rfl (lv_room (Nat.le_of_ble_eq_true rfl)) dL_law_1226 ⟨Nat.le_trans (show cells + 1 + 0 + 0 ≤ cells + 2 by omega) hc, Nat.le_trans (show slots + 6 + 0 + 0 ≤ slots + 12 by omega) hs⟩) hS (fun locs hS => ?_)
  refine lv_iload hx hb dL_law_1229 (lv_at hl 1 rfl) ?_
  refine lv_icmp_eq (tgt := 1236) hx hb dL_law_1231 (by decide) (fun c3 => ?_) (fun c3 => ?_)
  · replace hM := (if_pos c3).symm.trans hM
    refine lv_iload hx hb dL_law_1236 (lv_at hl 1 rfl) ?_
    refine lv_if_ne (tgt := 1253) hx hb dL_law_1238 (by decide) (fun c4 => ?_) (fun c4 => ?_)
    · replace hM := (if_neg c4).symm.trans hM
      refine lv_goto (tgt := 1589) hx hb dL_law_1253 (by decide) ?_
      replace hM := Option.some.inj hM
      subst hM
      refine W.widen (k := cells + 2) (n := slots + 12) (by omega) (by omega) ?_
      exact hnext H locs ls hP hD hS (lv_sub hl [2, 3, 4, 5, 6] rfl)
    · replace hM := (if_pos c4).symm.trans hM
      refine lv_aload_n hx hb dL_law_1241 rfl (lv_at hl 5 rfl) ?_
      refine lv_iconst (v := 0) hx hb dL_law_1242 (by decide) ?_
      refine va_lald hx hb hG.1 hP 46 2 rfl rfl (vpb_in.mp (by decide)) dL_law_1243 ?_
      refine lv_iload hx hb dL_law_1244 (lv_at hl 0 rfl) ?_
      refine lv_i2l hx hb dL_law_1246 rfl ?_
      refine W.lcmp hx hb dL_law_1247 ?_
      refine lv_if_eq (tgt := 1253) hx hb dL_law_1248 (by decide) (fun c5 => ?_) (fun c5 => ?_)
      · replace hM := (if_pos c5).symm.trans hM
        refine lv_goto (tgt := 1589) hx hb dL_law_1253 (by decide) ?_
        replace hM := Option.some.inj hM
        subst hM
        refine W.widen (k := cells + 2) (n := slots + 12) (by omega) (by omega) ?_
        exact hnext H locs ls hP hD hS (lv_sub hl [2, 3, 4, 5, 6] rfl)
      · replace hM := (if_neg c5).symm.trans hM
        refine lv_iconst (v := 0) hx hb dL_law_1251 (by decide) ?_
        cases hM
  · replace hM := (if_neg c3).symm.trans hM
    refine lv_iconst (v := 0) hx hb dL_law_1234 (by decide) ?_
    cases hM
set_option maxHeartbeats 4000000 in
set_option maxRecDepth 100000 in
theorem lawc_17 {p : Program} {e : Env} {s : State} {m : MethodId} {below : List Frame} {meth : Method} {c : Code} (l : Launch) (hflags : l.stackTraces = false) {b L : Nat} {xs : Nat → Int32} (hL : L ≤ 3072) (C0 : lw_At p s m meth c b L xs) {dC : Nat → ClassId} {dI : Nat → Nat → Nat} {cI cD cJ : ClassId} {kk : wAd} {g gm : Nat → Nat} {a : Nat} (hG : wk_G dC dI (wTys cI cD cJ) s) (hT : wkT kk (fun q : Nat => s.heap.size ≤ q) s s.heap) (hN : wkN s) {i : Nat} (hi : i + 6 ≤ L) {x : SS} {y : MS} {o : Nat → Int64} {r : SS × (MS × (Nat → Int64))} (hM : M_lawc_17 xs i x y o = some r) {H : Heap} {locs : List Loc} {cells slots : Nat} (hc : cells + 2 ≤ room_1.cells) (hs : slots + 12 ≤ room_1.slots) {ls : Array Slot} (hP : va_P (dC, dI) vwCl (wSys cI cD kk.1 g x ++ (wMod cI gm y ++ wLrow cJ a o)) H) (hD : va_D (fun q : Nat => s.heap.size ≤ q) (wSys cI cD kk.1 g x ++ (wMod cI gm y ++ wLrow cJ a o))) (hS : va_S (fun q : Nat => s.heap.size ≤ q) s.heap H locs) (hl : lv_has ls 7 [(0, .ref b), (1, .ref (g 0)), (2, .ref (gm 0)), (3, .ref a), (4, .int (nI i))]) (hnext : ∀ (H : Heap) (locs : List Loc) (ls : Array Slot), va_P (dC, dI) vwCl (wSys cI cD kk.1 g r.1 ++ (wMod cI gm r.2.1 ++ wLrow cJ a r.2.2)) H → va_D (fun q : Nat => s.heap.size ≤ q) (wSys cI cD kk.1 g r.1 ++ (wMod cI gm r.2.1 ++ wLrow cJ a r.2.2)) → va_S (fun q : Nat => s.heap.size ≤ q) s.heap H locs → lv_has ls 7 [(0, .ref b), (1, .ref (g 0)), (2, .ref (gm 0)), (3, .ref a), (4, .int (nI i))] → W p l e room_1 s m #[Value.ref b] below meth c H locs (cells + 2) (slots + 12) (lw_Z below #[Value.ref b] s) (F0 m 1589 ls [])) : W p l e room_1 s m #[Value.ref b] below meth c H locs cells slots (lw_Z below #[Value.ref b] s) (F0 m 1256 ls []) := by
  obtain ⟨hx, hb, hr, hml, hown, hts0, hX, hbl, hlocks, hgv⟩ := C0
  have hts : ∀ w ∈ wsL_law, w.before #[Value.ref b] s = true := fun w h => hts0 w (wsL_law_in w h)
  have hA : ∀ q : Nat, s.heap.size ≤ q → (fun q : Nat => s.heap.size ≤ q) q := fun _ h => h
  have hbA : ¬ (fun q : Nat => s.heap.size ≤ q) b := Nat.not_le.mpr hbl
  unfold M_lawc_17 at hM
  refine lv_aload_n hx hb dL_law_1256 rfl (lv_at hl 1 rfl) ?_
  refine lv_aload_n hx hb dL_law_1257 rfl (lv_at hl 0 rfl) ?_
  refine lv_iload hx hb dL_law_1258 (lv_at hl 4 rfl) ?_
  refine lv_iconst (v := 1) hx hb dL_law_1260 (by decide) ?_
  refine lv_iadd hx hb dL_law_1261 ?_
  refine wk_sld (i := i) (k := 1) hx hb hX hbl hbA hS hL (by omega) rfl dL_law_1262 ?_
  refine lv_aload_n hx hb dL_law_1263 rfl (lv_at hl 3 rfl) ?_
  obtain ⟨r1, hr1, hM⟩ := ob hM
  refine wk_callX (vx_runSX (As := [.ref (g 0), .int (xs (i + 1)), .ref a]) (rest := []) ⟨hx, hb, hml, hown, hts⟩ (c_L_nextFor l hflags dC dI cI cD cJ kk g a x o (xs (i + 1)) _ hr1 H) (vx_cwSW 3 hts gL_law_L_nextFor rfl rfl rfl (by decide +kernel) ⟨Nat.le_of_ble_eq_true rfl, Nat.le_of_ble_eq_true rfl⟩) (wk_preSL hG hP hD hT hN hS [0, 1, 2, 3, 4, 5, 6, 7, 8, 9, 10, 11, 12, 13, 14, 15, 16, 17, 18, 19, 20, 21, 22, 23, 24, 25, 26, 27, 28, 29, 30, 31, 32, 33, 34, 35, 36, 37, 46] rfl rfl (va_free hD hS hA [0, 1, 2, 3, 4, 5, 6, 7, 8, 9, 10, 11, 12, 13, 14, 15, 16, 17, 18, 19, 20, 21, 22, 23, 24, 25, 26, 27, 28, 29, 30, 31, 32, 33, 34, 35, 36, 37, 46] rfl)) rfl rfl hl.1 rfl (lv_room (Nat.le_of_ble_eq_true rfl)) dL_law_1264 ⟨Nat.le_trans (show cells + 1 ≤ cells + 2 by omega) hc, Nat.le_trans (show slots + 6 ≤ slots + 12 by omega) hs⟩) hP hD hS hA [0, 1, 2, 3, 4, 5, 6, 7, 8, 9, 10, 11, 12, 13, 14, 15, 16, 17, 18, 19, 20, 21, 22, 23, 24, 25, 26, 27, 28, 29, 30, 31, 32, 33, 34, 35, 36, 37, 46] [38, 39, 40, 41, 42, 43, 44, 45] [8, 9, 10, 11, 12, 13, 14, 15, 16, 17, 18, 19, 20, 21, 22, 23, 24, 25, 26, 27, 28, 29, 30, 31, 32, 33, 34, 35, 36, 37, 38, 39, 40, 41, 42, 43, 44, 45, 0, 1, 2, 3, 4, 5, 6, 7, 46] rfl rfl rfl (by decide) rfl rfl (fun f9 ce q9 H locs ho9 hP hD hS hc9 hv9 hf9 => by cases ho9) (fun ov w1 ho9 H locs hPD hS => ?_)
  cases ho9
  obtain ⟨hP, hD⟩ := hPD (wSys cI cD kk.1 g r1.2.1 ++ (wMod cI gm y ++ wLrow cJ a r1.2.2)) rfl
  refine lv_istore (lv' := [(5, .int r1.1), (0, .ref b), (1, .ref (g 0)), (2, .ref (gm 0)), (3, .ref a), (4, .int (nI i))]) hx hb dL_law_1267 hl (by decide) rfl (fun ls hl => ?_)
  refine lv_aload_n hx hb dL_law_1269 rfl (lv_at hl 3 rfl) ?_
  refine lv_aload_n hx hb dL_law_1270 rfl (lv_at hl 1 rfl) ?_
  refine lv_iload hx hb dL_law_1271 (lv_at hl 5 rfl) ?_
  refine lv_iconst (v := 1) hx hb dL_law_1273 (by decide) ?_
  refine lv_iadd hx hb dL_law_1274 ?_
  refine wk_sld (i := i) (k := 1) hx hb hX hbl hbA hS hL (by omega) rfl dL_law_1275 ?_
  obtain ⟨r2, hr2, hM⟩ := ob hM
  refine wk_callM (ws' := (wSys cI cD kk.1 g r1.2.1 ++ (wMod cI gm r2.2 ++ wLrow cJ a r1.2.2))) (va_runV (As := [.int (xs (i + 1))]) (rest := []) ⟨hx, hb, hml, hown, hts⟩ (c_X7_nextFor l dC dI cI cD cJ kk gm y (xs (i + 1)) _ hr2 H) (cwV 1 hts gL_law_X7_nextFor rfl rfl rfl (by decide +kernel) ⟨Nat.le_of_ble_eq_true rfl, Nat.le_of_ble_eq_true rfl⟩) (wk_preV (ci := 5) (q0 := 38) hG hP hD [38, 39, 40, 41, 42, 43, 44, 45] rfl rfl rfl rfl) rfl rfl hl.1 rfl (lv_room (Nat.le_of_ble_eq_true rfl)) dL_law_1276 ⟨Nat.le_trans (show cells + 1 + 0 ≤ cells + 2 by omega) hc, Nat.le_trans (show slots + 6 + 0 ≤ slots + 12 by omega) hs⟩) hP hD hS hA [38, 39, 40, 41, 42, 43, 44, 45] [0, 1, 2, 3, 4, 5, 6, 7, 8, 9, 10, 11, 12, 13, 14, 15, 16, 17, 18, 19, 20, 21, 22, 23, 24, 25, 26, 27, 28, 29, 30, 31, 32, 33, 34, 35, 36, 37, 46] [0, 1, 2, 3, 4, 5, 6, 7, 8, 9, 10, 11, 12, 13, 14, 15, 16, 17, 18, 19, 20, 21, 22, 23, 24, 25, 26, 27, 28, 29, 30, 31, 32, 33, 34, 35, 36, 37, 39, 40, 41, 42, 43, 44, 45, 46, 38] rfl rfl rfl (by decide) rfl rfl (fun H locs hP hD hS => ?_)
  refine lv_istore (lv' := [(6, .int r2.1), (5, .int r1.1), (0, .ref b), (1, .ref (g 0)), (2, .ref (gm 0)), (3, .ref a), (4, .int (nI i))]) hx hb dL_law_1279 hl (by decide) rfl (fun ls hl => ?_)
  refine lv_aload_n hx hb dL_law_1281 rfl (lv_at hl 4 rfl) ?_
  refine wk_callP (va_runV (As := []) (rest := []) ⟨hx, hb, hml, hown, hts⟩ (c_X7_thrown l dC dI cI cD cJ kk gm r2.2 _ rfl H) (cwV 0 hts gL_law_X7_thrown rfl rfl rfl (by decide +kernel) ⟨Nat.le_of_ble_eq_true rfl, Nat.le_of_ble_eq_true rfl⟩) (wk_preV (ci := 5) (q0 := 38) hG hP hD [38, 39, 40, 41, 42, 43, 44, 45] rfl rfl rfl rfl) rfl rfl hl.1 rfl (lv_room (Nat.le_of_ble_eq_true rfl)) dL_law_1282 ⟨Nat.le_trans (show cells + 1 + 0 + 0 ≤ cells + 2 by omega) hc, Nat.le_trans (show slots + 6 + 0 + 0 ≤ slots + 12 by omega) hs⟩) hS (fun locs hS => ?_)
  refine lv_iload hx hb dL_law_1285 (lv_at hl 1 rfl) ?_
  refine lv_icmp_eq (tgt := 1292) hx hb dL_law_1287 (by decide) (fun c3 => ?_) (fun c3 => ?_)
  · replace hM := (if_pos c3).symm.trans hM
    refine lv_iload hx hb dL_law_1292 (lv_at hl 1 rfl) ?_
    refine lv_if_ne (tgt := 1309) hx hb dL_law_1294 (by decide) (fun c4 => ?_) (fun c4 => ?_)
    · replace hM := (if_neg c4).symm.trans hM
      refine lv_goto (tgt := 1589) hx hb dL_law_1309 (by decide) ?_
      replace hM := Option.some.inj hM
      subst hM
      refine W.widen (k := cells + 2) (n := slots + 12) (by omega) (by omega) ?_
      exact hnext H locs ls hP hD hS (lv_sub hl [2, 3, 4, 5, 6] rfl)
    · replace hM := (if_pos c4).symm.trans hM
      refine lv_aload_n hx hb dL_law_1297 rfl (lv_at hl 5 rfl) ?_
      refine lv_iconst (v := 0) hx hb dL_law_1298 (by decide) ?_
      refine va_lald hx hb hG.1 hP 46 2 rfl rfl (vpb_in.mp (by decide)) dL_law_1299 ?_
      refine lv_iload hx hb dL_law_1300 (lv_at hl 0 rfl) ?_
      refine lv_i2l hx hb dL_law_1302 rfl ?_
      refine W.lcmp hx hb dL_law_1303 ?_
      refine lv_if_eq (tgt := 1309) hx hb dL_law_1304 (by decide) (fun c5 => ?_) (fun c5 => ?_)
      · replace hM := (if_pos c5).symm.trans hM
        refine lv_goto (tgt := 1589) hx hb dL_law_1309 (by decide) ?_
        replace hM := Option.some.inj hM
        subst hM
        refine W.widen (k := cells + 2) (n := slots + 12) (by omega) (by omega) ?_
        exact hnext H locs ls hP hD hS (lv_sub hl [2, 3, 4, 5, 6] rfl)
      · replace hM := (if_neg c5).symm.trans hM
        refine lv_iconst (v := 0) hx hb dL_law_1307 (by decide) ?_
        cases hM
  · replace hM := (if_neg c3).symm.trans hM
    refine lv_iconst (v := 0) hx hb dL_law_1290 (by decide) ?_
    cases hM
set_option maxHeartbeats 4000000 in
set_option maxRecDepth 100000 in
theorem lawc_18 {p : Program} {e : Env} {s : State} {m : MethodId} {below : List Frame} {meth : Method} {c : Code} (l : Launch) (hflags : l.stackTraces = false) {b L : Nat} {xs : Nat → Int32} (hL : L ≤ 3072) (C0 : lw_At p s m meth c b L xs) {dC : Nat → ClassId} {dI : Nat → Nat → Nat} {cI cD cJ : ClassId} {kk : wAd} {g gm : Nat → Nat} {a : Nat} (hG : wk_G dC dI (wTys cI cD cJ) s) (hT : wkT kk (fun q : Nat => s.heap.size ≤ q) s s.heap) (hN : wkN s) {i : Nat} (hi : i + 6 ≤ L) {x : SS} {y : MS} {o : Nat → Int64} {r : SS × (MS × (Nat → Int64))} (hM : M_lawc_18 xs i x y o = some r) {H : Heap} {locs : List Loc} {cells slots : Nat} (hc : cells + 2 ≤ room_1.cells) (hs : slots + 12 ≤ room_1.slots) {ls : Array Slot} (hP : va_P (dC, dI) vwCl (wSys cI cD kk.1 g x ++ (wMod cI gm y ++ wLrow cJ a o)) H) (hD : va_D (fun q : Nat => s.heap.size ≤ q) (wSys cI cD kk.1 g x ++ (wMod cI gm y ++ wLrow cJ a o))) (hS : va_S (fun q : Nat => s.heap.size ≤ q) s.heap H locs) (hl : lv_has ls 7 [(0, .ref b), (1, .ref (g 0)), (2, .ref (gm 0)), (3, .ref a), (4, .int (nI i))]) (hnext : ∀ (H : Heap) (locs : List Loc) (ls : Array Slot), va_P (dC, dI) vwCl (wSys cI cD kk.1 g r.1 ++ (wMod cI gm r.2.1 ++ wLrow cJ a r.2.2)) H → va_D (fun q : Nat => s.heap.size ≤ q) (wSys cI cD kk.1 g r.1 ++ (wMod cI gm r.2.1 ++ wLrow cJ a r.2.2)) → va_S (fun q : Nat => s.heap.size ≤ q) s.heap H locs → lv_has ls 7 [(0, .ref b), (1, .ref (g 0)), (2, .ref (gm 0)), (3, .ref a), (4, .int (nI i))] → W p l e room_1 s m #[Value.ref b] below meth c H locs (cells + 2) (slots + 12) (lw_Z below #[Value.ref b] s) (F0 m 1589 ls [])) : W p l e room_1 s m #[Value.ref b] below meth c H locs cells slots (lw_Z below #[Value.ref b] s) (F0 m 1312 ls []) := by
  obtain ⟨hx, hb, hr, hml, hown, hts0, hX, hbl, hlocks, hgv⟩ := C0
  have hts : ∀ w ∈ wsL_law, w.before #[Value.ref b] s = true := fun w h => hts0 w (wsL_law_in w h)
  have hA : ∀ q : Nat, s.heap.size ≤ q → (fun q : Nat => s.heap.size ≤ q) q := fun _ h => h
  have hbA : ¬ (fun q : Nat => s.heap.size ≤ q) b := Nat.not_le.mpr hbl
  unfold M_lawc_18 at hM
  refine lv_aload_n hx hb dL_law_1312 rfl (lv_at hl 1 rfl) ?_
  refine lv_aload_n hx hb dL_law_1313 rfl (lv_at hl 0 rfl) ?_
  refine lv_iload hx hb dL_law_1314 (lv_at hl 4 rfl) ?_
  refine lv_iconst (v := 1) hx hb dL_law_1316 (by decide) ?_
  refine lv_iadd hx hb dL_law_1317 ?_
  refine wk_sld (i := i) (k := 1) hx hb hX hbl hbA hS hL (by omega) rfl dL_law_1318 ?_
  refine lv_aload_n hx hb dL_law_1319 rfl (lv_at hl 0 rfl) ?_
  refine lv_iload hx hb dL_law_1320 (lv_at hl 4 rfl) ?_
  refine lv_iconst (v := 2) hx hb dL_law_1322 (by decide) ?_
  refine lv_iadd hx hb dL_law_1323 ?_
  refine wk_sld (i := i) (k := 2) hx hb hX hbl hbA hS hL (by omega) rfl dL_law_1324 ?_
  refine lv_aload_n hx hb dL_law_1325 rfl (lv_at hl 3 rfl) ?_
  obtain ⟨r1, hr1, hM⟩ := ob hM
  refine wk_callX (vx_runSX (As := [.ref (g 0), .int (xs (i + 1)), .int (xs (i + 2)), .ref a]) (rest := []) ⟨hx, hb, hml, hown, hts⟩ (c_L_reason l hflags dC dI cI cD cJ kk g a x o (xs (i + 1)) (xs (i + 2)) _ hr1 H) (vx_cwSW 4 hts gL_law_L_reason rfl rfl rfl (by decide +kernel) ⟨Nat.le_of_ble_eq_true rfl, Nat.le_of_ble_eq_true rfl⟩) (wk_preSL hG hP hD hT hN hS [0, 1, 2, 3, 4, 5, 6, 7, 8, 9, 10, 11, 12, 13, 14, 15, 16, 17, 18, 19, 20, 21, 22, 23, 24, 25, 26, 27, 28, 29, 30, 31, 32, 33, 34, 35, 36, 37, 46] rfl rfl (va_free hD hS hA [0, 1, 2, 3, 4, 5, 6, 7, 8, 9, 10, 11, 12, 13, 14, 15, 16, 17, 18, 19, 20, 21, 22, 23, 24, 25, 26, 27, 28, 29, 30, 31, 32, 33, 34, 35, 36, 37, 46] rfl)) rfl rfl hl.1 rfl (lv_room (Nat.le_of_ble_eq_true rfl)) dL_law_1326 ⟨Nat.le_trans (show cells + 2 ≤ cells + 2 by omega) hc, Nat.le_trans (show slots + 12 ≤ slots + 12 by omega) hs⟩) hP hD hS hA [0, 1, 2, 3, 4, 5, 6, 7, 8, 9, 10, 11, 12, 13, 14, 15, 16, 17, 18, 19, 20, 21, 22, 23, 24, 25, 26, 27, 28, 29, 30, 31, 32, 33, 34, 35, 36, 37, 46] [38, 39, 40, 41, 42, 43, 44, 45] [8, 9, 10, 11, 12, 13, 14, 15, 16, 17, 18, 19, 20, 21, 22, 23, 24, 25, 26, 27, 28, 29, 30, 31, 32, 33, 34, 35, 36, 37, 38, 39, 40, 41, 42, 43, 44, 45, 0, 1, 2, 3, 4, 5, 6, 7, 46] rfl rfl rfl (by decide) rfl rfl (fun f9 ce q9 H locs ho9 hP hD hS hc9 hv9 hf9 => by cases ho9) (fun ov w1 ho9 H locs hPD hS => ?_)
  cases ho9
  obtain ⟨hP, hD⟩ := hPD (wSys cI cD kk.1 g r1.2.1 ++ (wMod cI gm y ++ wLrow cJ a r1.2.2)) rfl
  refine lv_istore (lv' := [(5, .int r1.1), (0, .ref b), (1, .ref (g 0)), (2, .ref (gm 0)), (3, .ref a), (4, .int (nI i))]) hx hb dL_law_1329 hl (by decide) rfl (fun ls hl => ?_)
  refine lv_aload_n hx hb dL_law_1331 rfl (lv_at hl 3 rfl) ?_
  refine lv_aload_n hx hb dL_law_1332 rfl (lv_at hl 1 rfl) ?_
  refine lv_iload hx hb dL_law_1333 (lv_at hl 5 rfl) ?_
  refine lv_iconst (v := 1) hx hb dL_law_1335 (by decide) ?_
  refine lv_iadd hx hb dL_law_1336 ?_
  refine wk_sld (i := i) (k := 1) hx hb hX hbl hbA hS hL (by omega) rfl dL_law_1337 ?_
  refine lv_aload_n hx hb dL_law_1338 rfl (lv_at hl 1 rfl) ?_
  refine lv_iload hx hb dL_law_1339 (lv_at hl 5 rfl) ?_
  refine lv_iconst (v := 2) hx hb dL_law_1341 (by decide) ?_
  refine lv_iadd hx hb dL_law_1342 ?_
  refine wk_sld (i := i) (k := 2) hx hb hX hbl hbA hS hL (by omega) rfl dL_law_1343 ?_
  obtain ⟨r2, hr2, hM⟩ := ob hM
  refine wk_callM (ws' := (wSys cI cD kk.1 g r1.2.1 ++ (wMod cI gm r2.2 ++ wLrow cJ a r1.2.2))) (va_runV (As := [.int (xs (i + 1)), .int (xs (i + 2))]) (rest := []) ⟨hx, hb, hml, hown, hts⟩ (c_X7_reason l dC dI cI cD cJ kk gm y (xs (i + 1)) (xs (i + 2)) _ hr2 H) (cwV 2 hts gL_law_X7_reason rfl rfl rfl (by decide +kernel) ⟨Nat.le_of_ble_eq_true rfl, Nat.le_of_ble_eq_true rfl⟩) (wk_preV (ci := 5) (q0 := 38) hG hP hD [38, 39, 40, 41, 42, 43, 44, 45] rfl rfl rfl rfl) rfl rfl hl.1 rfl (lv_room (Nat.le_of_ble_eq_true rfl)) dL_law_1344 ⟨Nat.le_trans (show cells + 2 + 0 ≤ cells + 2 by omega) hc, Nat.le_trans (show slots + 12 + 0 ≤ slots + 12 by omega) hs⟩) hP hD hS hA [38, 39, 40, 41, 42, 43, 44, 45] [0, 1, 2, 3, 4, 5, 6, 7, 8, 9, 10, 11, 12, 13, 14, 15, 16, 17, 18, 19, 20, 21, 22, 23, 24, 25, 26, 27, 28, 29, 30, 31, 32, 33, 34, 35, 36, 37, 46] [0, 1, 2, 3, 4, 5, 6, 7, 8, 9, 10, 11, 12, 13, 14, 15, 16, 17, 18, 19, 20, 21, 22, 23, 24, 25, 26, 27, 28, 29, 30, 31, 32, 33, 34, 35, 36, 37, 39, 40, 41, 42, 43, 44, 45, 46, 38] rfl rfl rfl (by decide) rfl rfl (fun H locs hP hD hS => ?_)
  refine lv_istore (lv' := [(6, .int r2.1), (5, .int r1.1), (0, .ref b), (1, .ref (g 0)), (2, .ref (gm 0)), (3, .ref a), (4, .int (nI i))]) hx hb dL_law_1347 hl (by decide) rfl (fun ls hl => ?_)
  refine lv_aload_n hx hb dL_law_1349 rfl (lv_at hl 4 rfl) ?_
  refine wk_callP (va_runV (As := []) (rest := []) ⟨hx, hb, hml, hown, hts⟩ (c_X7_thrown l dC dI cI cD cJ kk gm r2.2 _ rfl H) (cwV 0 hts gL_law_X7_thrown rfl rfl rfl (by decide +kernel) ⟨Nat.le_of_ble_eq_true rfl, Nat.le_of_ble_eq_true rfl⟩) (wk_preV (ci := 5) (q0 := 38) hG hP hD [38, 39, 40, 41, 42, 43, 44, 45] rfl rfl rfl rfl) rfl rfl hl.1 rfl (lv_room (Nat.le_of_ble_eq_true rfl)) dL_law_1350 ⟨Nat.le_trans (show cells + 2 + 0 + 0 ≤ cells + 2 by omega) hc, Nat.le_trans (show slots + 12 + 0 + 0 ≤ slots + 12 by omega) hs⟩) hS (fun locs hS => ?_)
  refine lv_iload hx hb dL_law_1353 (lv_at hl 1 rfl) ?_
  refine lv_icmp_eq (tgt := 1360) hx hb dL_law_1355 (by decide) (fun c3 => ?_) (fun c3 => ?_)
  · replace hM := (if_pos c3).symm.trans hM
    refine lv_iload hx hb dL_law_1360 (lv_at hl 1 rfl) ?_
    refine lv_if_ne (tgt := 1377) hx hb dL_law_1362 (by decide) (fun c4 => ?_) (fun c4 => ?_)
    · replace hM := (if_neg c4).symm.trans hM
      refine lv_goto (tgt := 1589) hx hb dL_law_1377 (by decide) ?_
      replace hM := Option.some.inj hM
      subst hM
      refine W.widen (k := cells + 2) (n := slots + 12) (by omega) (by omega) ?_
      exact hnext H locs ls hP hD hS (lv_sub hl [2, 3, 4, 5, 6] rfl)
    · replace hM := (if_pos c4).symm.trans hM
      refine lv_aload_n hx hb dL_law_1365 rfl (lv_at hl 5 rfl) ?_
      refine lv_iconst (v := 0) hx hb dL_law_1366 (by decide) ?_
      refine va_lald hx hb hG.1 hP 46 2 rfl rfl (vpb_in.mp (by decide)) dL_law_1367 ?_
      refine lv_iload hx hb dL_law_1368 (lv_at hl 0 rfl) ?_
      refine lv_i2l hx hb dL_law_1370 rfl ?_
      refine W.lcmp hx hb dL_law_1371 ?_
      refine lv_if_eq (tgt := 1377) hx hb dL_law_1372 (by decide) (fun c5 => ?_) (fun c5 => ?_)
      · replace hM := (if_pos c5).symm.trans hM
        refine lv_goto (tgt := 1589) hx hb dL_law_1377 (by decide) ?_
        replace hM := Option.some.inj hM
        subst hM
        refine W.widen (k := cells + 2) (n := slots + 12) (by omega) (by omega) ?_
        exact hnext H locs ls hP hD hS (lv_sub hl [2, 3, 4, 5, 6] rfl)
      · replace hM := (if_neg c5).symm.trans hM
        refine lv_iconst (v := 0) hx hb dL_law_1375 (by decide) ?_
        cases hM
  · replace hM := (if_neg c3).symm.trans hM
    refine lv_iconst (v := 0) hx hb dL_law_1358 (by decide) ?_
    cases hM
set_option maxHeartbeats 4000000 in
set_option maxRecDepth 100000 in
theorem lawc_19 {p : Program} {e : Env} {s : State} {m : MethodId} {below : List Frame} {meth : Method} {c : Code} (l : Launch) (hflags : l.stackTraces = false) {b L : Nat} {xs : Nat → Int32} (hL : L ≤ 3072) (C0 : lw_At p s m meth c b L xs) {dC : Nat → ClassId} {dI : Nat → Nat → Nat} {cI cD cJ : ClassId} {kk : wAd} {g gm : Nat → Nat} {a : Nat} (hG : wk_G dC dI (wTys cI cD cJ) s) (hT : wkT kk (fun q : Nat => s.heap.size ≤ q) s s.heap) (hN : wkN s) {i : Nat} (hi : i + 6 ≤ L) {x : SS} {y : MS} {o : Nat → Int64} {r : SS × (MS × (Nat → Int64))} (hM : M_lawc_19 xs i x y o = some r) {H : Heap} {locs : List Loc} {cells slots : Nat} (hc : cells + 2 ≤ room_1.cells) (hs : slots + 12 ≤ room_1.slots) {ls : Array Slot} (hP : va_P (dC, dI) vwCl (wSys cI cD kk.1 g x ++ (wMod cI gm y ++ wLrow cJ a o)) H) (hD : va_D (fun q : Nat => s.heap.size ≤ q) (wSys cI cD kk.1 g x ++ (wMod cI gm y ++ wLrow cJ a o))) (hS : va_S (fun q : Nat => s.heap.size ≤ q) s.heap H locs) (hl : lv_has ls 7 [(0, .ref b), (1, .ref (g 0)), (2, .ref (gm 0)), (3, .ref a), (4, .int (nI i))]) (hnext : ∀ (H : Heap) (locs : List Loc) (ls : Array Slot), va_P (dC, dI) vwCl (wSys cI cD kk.1 g r.1 ++ (wMod cI gm r.2.1 ++ wLrow cJ a r.2.2)) H → va_D (fun q : Nat => s.heap.size ≤ q) (wSys cI cD kk.1 g r.1 ++ (wMod cI gm r.2.1 ++ wLrow cJ a r.2.2)) → va_S (fun q : Nat => s.heap.size ≤ q) s.heap H locs → lv_has ls 7 [(0, .ref b), (1, .ref (g 0)), (2, .ref (gm 0)), (3, .ref a), (4, .int (nI i))] → W p l e room_1 s m #[Value.ref b] below meth c H locs (cells + 2) (slots + 12) (lw_Z below #[Value.ref b] s) (F0 m 1589 ls [])) : W p l e room_1 s m #[Value.ref b] below meth c H locs cells slots (lw_Z below #[Value.ref b] s) (F0 m 1380 ls []) := by
  obtain ⟨hx, hb, hr, hml, hown, hts0, hX, hbl, hlocks, hgv⟩ := C0
  have hts : ∀ w ∈ wsL_law, w.before #[Value.ref b] s = true := fun w h => hts0 w (wsL_law_in w h)
  have hA : ∀ q : Nat, s.heap.size ≤ q → (fun q : Nat => s.heap.size ≤ q) q := fun _ h => h
  have hbA : ¬ (fun q : Nat => s.heap.size ≤ q) b := Nat.not_le.mpr hbl
  unfold M_lawc_19 at hM
  refine lv_aload_n hx hb dL_law_1380 rfl (lv_at hl 1 rfl) ?_
  obtain ⟨r1, hr1, hM⟩ := ob hM
  refine wk_callM (ws' := (wSys cI cD kk.1 g r1.2 ++ (wMod cI gm y ++ wLrow cJ a o))) (va_runV (As := []) (rest := []) ⟨hx, hb, hml, hown, hts⟩ (c_X6_doneIn l dC dI cI cD cJ kk g x _ hr1 H) (cwV 0 hts gL_law_X6_doneIn rfl rfl rfl (by decide +kernel) ⟨Nat.le_of_ble_eq_true rfl, Nat.le_of_ble_eq_true rfl⟩) (wk_preV (ci := 4) (q0 := 0) hG hP hD [0, 1, 2, 3, 4, 5, 6, 7, 8, 9, 10, 11, 12, 13, 14, 15, 16, 17, 18, 19, 20, 21, 22, 23, 24, 25, 26, 27, 28, 29, 30, 31, 32, 33, 34, 35, 36, 37] rfl rfl rfl rfl) rfl rfl hl.1 rfl (lv_room (Nat.le_of_ble_eq_true rfl)) dL_law_1381 ⟨Nat.le_trans (show cells + 0 ≤ cells + 2 by omega) hc, Nat.le_trans (show slots + 0 ≤ slots + 12 by omega) hs⟩) hP hD hS hA [0, 1, 2, 3, 4, 5, 6, 7, 8, 9, 10, 11, 12, 13, 14, 15, 16, 17, 18, 19, 20, 21, 22, 23, 24, 25, 26, 27, 28, 29, 30, 31, 32, 33, 34, 35, 36, 37] [38, 39, 40, 41, 42, 43, 44, 45, 46] [9, 10, 11, 12, 13, 14, 15, 16, 17, 18, 19, 20, 21, 22, 23, 24, 25, 26, 27, 28, 29, 30, 31, 32, 33, 34, 35, 36, 37, 38, 39, 40, 41, 42, 43, 44, 45, 46, 0, 1, 2, 3, 4, 5, 6, 7, 8] rfl rfl rfl (by decide) rfl rfl (fun H locs hP hD hS => ?_)
  refine lv_aload_n hx hb dL_law_1384 rfl (lv_at hl 2 rfl) ?_
  obtain ⟨r2, hr2, hM⟩ := ob hM
  refine wk_callM (ws' := (wSys cI cD kk.1 g r1.2 ++ (wMod cI gm r2.2 ++ wLrow cJ a o))) (va_runV (As := []) (rest := [.int r1.1]) ⟨hx, hb, hml, hown, hts⟩ (c_X7_doneIn l dC dI cI cD cJ kk gm y _ hr2 H) (cwV 0 hts gL_law_X7_doneIn rfl rfl rfl (by decide +kernel) ⟨Nat.le_of_ble_eq_true rfl, Nat.le_of_ble_eq_true rfl⟩) (wk_preV (ci := 5) (q0 := 38) hG hP hD [38, 39, 40, 41, 42, 43, 44, 45] rfl rfl rfl rfl) rfl rfl hl.1 rfl (lv_room (Nat.le_of_ble_eq_true rfl)) dL_law_1385 ⟨Nat.le_trans (show cells + 0 + 0 ≤ cells + 2 by omega) hc, Nat.le_trans (show slots + 0 + 0 ≤ slots + 12 by omega) hs⟩) hP hD hS hA [38, 39, 40, 41, 42, 43, 44, 45] [0, 1, 2, 3, 4, 5, 6, 7, 8, 9, 10, 11, 12, 13, 14, 15, 16, 17, 18, 19, 20, 21, 22, 23, 24, 25, 26, 27, 28, 29, 30, 31, 32, 33, 34, 35, 36, 37, 46] [0, 1, 2, 3, 4, 5, 6, 7, 8, 9, 10, 11, 12, 13, 14, 15, 16, 17, 18, 19, 20, 21, 22, 23, 24, 25, 26, 27, 28, 29, 30, 31, 32, 33, 34, 35, 36, 37, 39, 40, 41, 42, 43, 44, 45, 46, 38] rfl rfl rfl (by decide) rfl rfl (fun H locs hP hD hS => ?_)
  refine lv_icmp_eq (tgt := 1589) hx hb dL_law_1388 (by decide) (fun c3 => ?_) (fun c3 => ?_)
  · replace hM := (if_pos c3).symm.trans hM
    replace hM := Option.some.inj hM
    subst hM
    refine W.widen (k := cells + 2) (n := slots + 12) (by omega) (by omega) ?_
    exact hnext H locs ls hP hD hS (lv_sub hl [0, 1, 2, 3, 4] rfl)
  · replace hM := (if_neg c3).symm.trans hM
    refine lv_iconst (v := 0) hx hb dL_law_1391 (by decide) ?_
    cases hM
