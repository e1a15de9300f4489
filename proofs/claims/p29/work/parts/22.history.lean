/-! PART 22: History -/
set_option maxHeartbeats 4000000 in
set_option maxRecDepth 100000 in
theorem c_X4_save (l : Launch) (dC : Nat → ClassId) (dI : Nat → Nat → Nat) (cI cD cJ : ClassId) (kk : wAd) (g : Nat → Nat) (g1 : Nat → Nat) (x : HS) (x1 : DS) (out : HS) (hM : M_X4_save x x1 = out) : CM l yX4_save wsX4_save ({ frames := 2, cells := 0, slots := 0, locals := 81 } : Room) dC dI (wTys cI cD cJ) [.ref (g 0), .ref (g1 0)] (wHis cI cD g x ++ wDrv cI g1 x1) none (wHis cI cD g out ++ wDrv cI g1 x1) 0 0 := by
  refine wk_enterM (cc := cX4_save) (maxL := 3) (ret := none) (by decide) rfl (Nat.le_of_ble_eq_true rfl) ?_
  intro p e s m below meth c A Q ls hB hA hP hD hQ hl
  obtain ⟨hx, hb, hml, hr, hts, hown, hname, hlocks, hG⟩ := hB
  have hown : s.vm.findClass RX4 = some m.cls := hown
  have hS : va_S A s.heap s.heap [] := va_S.rf
  have hl : lv_has ls 3 [(0, .ref (g 0)), (1, .ref (g1 0))] := hl
  have inX4 : ∀ w ∈ wsX40, w ∈ wsX4_save := fun _ h => List.mem_cons_of_mem _ (List.mem_append_left _ (List.mem_append_left _ (List.mem_append_right _ h)))
  obtain ⟨H, hH⟩ : ∃ z, z = s.heap := ⟨_, rfl⟩
  have hP : va_P (dC, dI) vwCl (wHis cI cD g x ++ wDrv cI g1 x1) H := by rw [hH]; exact hP
  have hS : va_S A s.heap H [] := by rw [hH]; exact hS
  refine wk_at hH ?_
  generalize ([] : List Loc) = locs at hS ⊢
  have hB64 : ∀ (y0 : HS) (H : Heap) (locs : List Loc) (ls : Array Slot), M_X4_save_64 x x1 y0 = out → va_P (dC, dI) vwCl (wHis cI cD g y0 ++ wDrv cI g1 x1) H → va_D A (wHis cI cD g y0 ++ wDrv cI g1 x1) → va_S A s.heap H locs → lv_has ls 3 [] → W p l e ({ frames := 2, cells := 0, slots := 0, locals := 81 } : Room) s m ([.ref (g 0), .ref (g1 0)] : List Value).toArray below meth c H locs 0 0 Q (F0 m 64 ls []) := by
    intro y0 H locs ls hM hP hD hS hl
    unfold M_X4_save_64 at hM
    subst hM
    exact wk_retMv hx hb hr hlocks hQ rfl hP hD hS dX4_save_64
  have hB43 : ∀ (w1 : Int32) (y0 : HS) (H : Heap) (locs : List Loc) (ls : Array Slot), M_X4_save_43 x x1 w1 y0 = out → va_P (dC, dI) vwCl (wHis cI cD g y0 ++ wDrv cI g1 x1) H → va_D A (wHis cI cD g y0 ++ wDrv cI g1 x1) → va_S A s.heap H locs → lv_has ls 3 [(0, .ref (g 0)), (1, .ref (g1 0))] → W p l e ({ frames := 2, cells := 0, slots := 0, locals := 81 } : Room) s m ([.ref (g 0), .ref (g1 0)] : List Value).toArray below meth c H locs 0 0 Q (F0 m 43 ls [.int w1, .ref (g 0)]) := by
    intro w1 y0 H locs ls hM hP hD hS hl
    unfold M_X4_save_43 at hM
    obtain ⟨y_1, hy_1, hM⟩ := tbE hM
    refine va_put (D := (dC, dI)) (ci := 3) (v := .int w1) (ty := .int) (C := RX4) (T := TX4) (N := 3) hx hb hts inX4 tyX4 tyX4_ok nmX4 hown hG.1 hP hD hS 0 rfl rfl 1 (by decide) (hts (.fieldLink RX4 17 "WokenDrive$History" "size" "I") (List.mem_of_getElem? (i := 2) rfl)) (fun _ h9 => h9) rfl (by decide +kernel) rfl rfl (Nat.le_of_ble_eq_true rfl) dX4_save_43 (fun H locs hP hD hS => ?_)
    have hP : va_P (dC, dI) vwCl (wHis cI cD g y_1 ++ wDrv cI g1 x1) H := by rw [hy_1]; exact hP
    have hD : va_D A (wHis cI cD g y_1 ++ wDrv cI g1 x1) := by rw [hy_1]; exact hD
    refine lv_aload_n hx hb dX4_save_46 rfl (lv_at hl 0 rfl) ?_
    refine lv_aload_n hx hb dX4_save_47 rfl (lv_at hl 0 rfl) ?_
    refine va_get (D := (dC, dI)) (ci := 3) (v := .int (hs_new y_1)) (C := RX4) (T := TX4) (N := 3) hx hb hts inX4 hown hG.1 hP 0 rfl rfl 2 (by decide) (hts (.fieldLink RX4 21 "WokenDrive$History" "newest" "I") (List.mem_of_getElem? (i := 1) rfl)) (fun _ h9 => h9) rfl dX4_save_48 ?_
    refine wk_callSv (va_runV (As := [.int (hs_new y_1)]) (rest := []) ⟨hx, hb, hml, hown, hts⟩ (c_X4_savedAt l dC dI cI cD cJ kk g y_1 (hs_new y_1) H) (cwV 1 hts gX4_save_X4_savedAt rfl rfl rfl (by decide +kernel) ⟨Nat.le_of_ble_eq_true rfl, Nat.le_of_ble_eq_true rfl⟩) (wk_preV (ci := 3) (q0 := 0) hG hP hD [0, 1, 2, 3, 4, 5, 6, 7, 8, 9, 10, 11, 12, 13, 14, 15, 16, 17, 18, 19, 20, 21] rfl rfl rfl rfl) rfl rfl hl.1 rfl (lv_room (Nat.le_of_ble_eq_true rfl)) dX4_save_51 ⟨Nat.le_of_ble_eq_true rfl, Nat.le_of_ble_eq_true rfl⟩) hS (fun c0 locs hS => ?_) (fun c0 c1 locs hS => ?_) (fun c0 c1 c2 locs hS => ?_) (fun c0 c1 c2 c3 locs hS => ?_) (fun c0 c1 c2 c3 locs hS => ?_)
    · replace hM := (if_pos c0).symm.trans hM
      refine lv_astore_n (lv' := [(2, .ref ((fun i => g (2 + i)) 0)), (0, .ref (g 0)), (1, .ref (g1 0))]) hx hb dX4_save_54 rfl hl (by decide) rfl (fun ls hl => ?_)
      refine lv_aload_n hx hb dX4_save_55 rfl (lv_at hl 0 rfl) ?_
      refine lv_ifnull hx hb dX4_save_56 ?_
      refine lv_aload_n hx hb dX4_save_59 rfl (lv_at hl 0 rfl) ?_
      refine lv_aload_n hx hb dX4_save_60 rfl (lv_at hl 2 rfl) ?_
      obtain ⟨r2, hr2, hM⟩ := tbE hM
      refine wk_callM (ws' := (wHis cI cD g (hs_sv_s y_1 (upS (hs_sv y_1) 0 r2)) ++ wDrv cI g1 x1)) (va_runV (As := [.ref (g1 0)]) (rest := []) ⟨hx, hb, hml, hown, hts⟩ (c_X3_become l dC dI cI cD cJ kk (fun i => g (2 + i)) g1 (hs_sv y_1 0) x1 _ hr2.symm H) (cwV 1 hts gX4_save_X3_become rfl rfl rfl (by decide +kernel) ⟨Nat.le_of_ble_eq_true rfl, Nat.le_of_ble_eq_true rfl⟩) (wk_preV (ci := 2) (q0 := 2) hG hP hD [2, 3, 4, 5, 6, 22, 23, 24, 25, 26] rfl rfl rfl rfl) rfl rfl hl.1 rfl (lv_room (Nat.le_of_ble_eq_true rfl)) dX4_save_61 ⟨Nat.le_of_ble_eq_true rfl, Nat.le_of_ble_eq_true rfl⟩) hP hD hS hA [2, 3, 4, 5, 6, 22, 23, 24, 25, 26] [0, 1, 7, 8, 9, 10, 11, 12, 13, 14, 15, 16, 17, 18, 19, 20, 21] [0, 1, 17, 18, 19, 20, 21, 2, 3, 4, 5, 6, 7, 8, 9, 10, 11, 12, 13, 14, 15, 16, 22, 23, 24, 25, 26] rfl rfl rfl (by decide) rfl rfl (fun H locs hP hD hS => ?_)
      exact hB64 (hs_sv_s y_1 (upS (hs_sv y_1) 0 r2)) H _ _ hM hP hD hS (lv_sub hl [] rfl)
    · replace hM := (if_neg c0).symm.trans hM
      replace hM := (if_pos c1).symm.trans hM
      refine lv_astore_n (lv' := [(2, .ref ((fun i => g (7 + i)) 0)), (0, .ref (g 0)), (1, .ref (g1 0))]) hx hb dX4_save_54 rfl hl (by decide) rfl (fun ls hl => ?_)
      refine lv_aload_n hx hb dX4_save_55 rfl (lv_at hl 0 rfl) ?_
      refine lv_ifnull hx hb dX4_save_56 ?_
      refine lv_aload_n hx hb dX4_save_59 rfl (lv_at hl 0 rfl) ?_
      refine lv_aload_n hx hb dX4_save_60 rfl (lv_at hl 2 rfl) ?_
      obtain ⟨r3, hr3, hM⟩ := tbE hM
      refine wk_callM (ws' := (wHis cI cD g (hs_sv_s y_1 (upS (hs_sv y_1) 1 r3)) ++ wDrv cI g1 x1)) (va_runV (As := [.ref (g1 0)]) (rest := []) ⟨hx, hb, hml, hown, hts⟩ (c_X3_become l dC dI cI cD cJ kk (fun i => g (7 + i)) g1 (hs_sv y_1 1) x1 _ hr3.symm H) (cwV 1 hts gX4_save_X3_become rfl rfl rfl (by decide +kernel) ⟨Nat.le_of_ble_eq_true rfl, Nat.le_of_ble_eq_true rfl⟩) (wk_preV (ci := 2) (q0 := 7) hG hP hD [7, 8, 9, 10, 11, 22, 23, 24, 25, 26] rfl rfl rfl rfl) rfl rfl hl.1 rfl (lv_room (Nat.le_of_ble_eq_true rfl)) dX4_save_61 ⟨Nat.le_of_ble_eq_true rfl, Nat.le_of_ble_eq_true rfl⟩) hP hD hS hA [7, 8, 9, 10, 11, 22, 23, 24, 25, 26] [0, 1, 2, 3, 4, 5, 6, 12, 13, 14, 15, 16, 17, 18, 19, 20, 21] [0, 1, 2, 3, 4, 5, 6, 17, 18, 19, 20, 21, 7, 8, 9, 10, 11, 12, 13, 14, 15, 16, 22, 23, 24, 25, 26] rfl rfl rfl (by decide) rfl rfl (fun H locs hP hD hS => ?_)
      exact hB64 (hs_sv_s y_1 (upS (hs_sv y_1) 1 r3)) H _ _ hM hP hD hS (lv_sub hl [] rfl)
    · replace hM := (if_neg c0).symm.trans hM
      replace hM := (if_neg c1).symm.trans hM
      replace hM := (if_pos c2).symm.trans hM
      refine lv_astore_n (lv' := [(2, .ref ((fun i => g (12 + i)) 0)), (0, .ref (g 0)), (1, .ref (g1 0))]) hx hb dX4_save_54 rfl hl (by decide) rfl (fun ls hl => ?_)
      refine lv_aload_n hx hb dX4_save_55 rfl (lv_at hl 0 rfl) ?_
      refine lv_ifnull hx hb dX4_save_56 ?_
      refine lv_aload_n hx hb dX4_save_59 rfl (lv_at hl 0 rfl) ?_
      refine lv_aload_n hx hb dX4_save_60 rfl (lv_at hl 2 rfl) ?_
      obtain ⟨r4, hr4, hM⟩ := tbE hM
      refine wk_callM (ws' := (wHis cI cD g (hs_sv_s y_1 (upS (hs_sv y_1) 2 r4)) ++ wDrv cI g1 x1)) (va_runV (As := [.ref (g1 0)]) (rest := []) ⟨hx, hb, hml, hown, hts⟩ (c_X3_become l dC dI cI cD cJ kk (fun i => g (12 + i)) g1 (hs_sv y_1 2) x1 _ hr4.symm H) (cwV 1 hts gX4_save_X3_become rfl rfl rfl (by decide +kernel) ⟨Nat.le_of_ble_eq_true rfl, Nat.le_of_ble_eq_true rfl⟩) (wk_preV (ci := 2) (q0 := 12) hG hP hD [12, 13, 14, 15, 16, 22, 23, 24, 25, 26] rfl rfl rfl rfl) rfl rfl hl.1 rfl (lv_room (Nat.le_of_ble_eq_true rfl)) dX4_save_61 ⟨Nat.le_of_ble_eq_true rfl, Nat.le_of_ble_eq_true rfl⟩) hP hD hS hA [12, 13, 14, 15, 16, 22, 23, 24, 25, 26] [0, 1, 2, 3, 4, 5, 6, 7, 8, 9, 10, 11, 17, 18, 19, 20, 21] [0, 1, 2, 3, 4, 5, 6, 7, 8, 9, 10, 11, 17, 18, 19, 20, 21, 12, 13, 14, 15, 16, 22, 23, 24, 25, 26] rfl rfl rfl (by decide) rfl rfl (fun H locs hP hD hS => ?_)
      exact hB64 (hs_sv_s y_1 (upS (hs_sv y_1) 2 r4)) H _ _ hM hP hD hS (lv_sub hl [] rfl)
    · replace hM := (if_neg c0).symm.trans hM
      replace hM := (if_neg c1).symm.trans hM
      replace hM := (if_neg c2).symm.trans hM
      replace hM := (if_pos c3).symm.trans hM
      refine lv_astore_n (lv' := [(2, .ref ((fun i => g (17 + i)) 0)), (0, .ref (g 0)), (1, .ref (g1 0))]) hx hb dX4_save_54 rfl hl (by decide) rfl (fun ls hl => ?_)
      refine lv_aload_n hx hb dX4_save_55 rfl (lv_at hl 0 rfl) ?_
      refine lv_ifnull hx hb dX4_save_56 ?_
      refine lv_aload_n hx hb dX4_save_59 rfl (lv_at hl 0 rfl) ?_
      refine lv_aload_n hx hb dX4_save_60 rfl (lv_at hl 2 rfl) ?_
      obtain ⟨r5, hr5, hM⟩ := tbE hM
      refine wk_callM (ws' := (wHis cI cD g (hs_sv_s y_1 (upS (hs_sv y_1) 3 r5)) ++ wDrv cI g1 x1)) (va_runV (As := [.ref (g1 0)]) (rest := []) ⟨hx, hb, hml, hown, hts⟩ (c_X3_become l dC dI cI cD cJ kk (fun i => g (17 + i)) g1 (hs_sv y_1 3) x1 _ hr5.symm H) (cwV 1 hts gX4_save_X3_become rfl rfl rfl (by decide +kernel) ⟨Nat.le_of_ble_eq_true rfl, Nat.le_of_ble_eq_true rfl⟩) (wk_preV (ci := 2) (q0 := 17) hG hP hD [17, 18, 19, 20, 21, 22, 23, 24, 25, 26] rfl rfl rfl rfl) rfl rfl hl.1 rfl (lv_room (Nat.le_of_ble_eq_true rfl)) dX4_save_61 ⟨Nat.le_of_ble_eq_true rfl, Nat.le_of_ble_eq_true rfl⟩) hP hD hS hA [17, 18, 19, 20, 21, 22, 23, 24, 25, 26] [0, 1, 2, 3, 4, 5, 6, 7, 8, 9, 10, 11, 12, 13, 14, 15, 16] [0, 1, 2, 3, 4, 5, 6, 7, 8, 9, 10, 11, 12, 13, 14, 15, 16, 17, 18, 19, 20, 21, 22, 23, 24, 25, 26] rfl rfl rfl (by decide) rfl rfl (fun H locs hP hD hS => ?_)
      exact hB64 (hs_sv_s y_1 (upS (hs_sv y_1) 3 r5)) H _ _ hM hP hD hS (lv_sub hl [] rfl)
    · replace hM := (if_neg c0).symm.trans hM
      replace hM := (if_neg c1).symm.trans hM
      replace hM := (if_neg c2).symm.trans hM
      replace hM := (if_neg c3).symm.trans hM
      refine lv_astore_nN (lv' := [(2, .null), (0, .ref (g 0)), (1, .ref (g1 0))]) hx hb dX4_save_54 rfl hl (by decide) rfl (fun ls hl => ?_)
      refine lv_aload_nN hx hb dX4_save_55 rfl (lv_at hl 0 rfl) ?_
      refine lv_ifnullN (tgt := 64) hx hb dX4_save_56 (by decide) ?_
      exact hB64 y_1 H _ _ hM hP hD hS (lv_sub hl [] rfl)
  have hB21 : ∀ (w1 : Int32) (y0 : HS) (H : Heap) (locs : List Loc) (ls : Array Slot), M_X4_save_21 x x1 w1 y0 = out → va_P (dC, dI) vwCl (wHis cI cD g y0 ++ wDrv cI g1 x1) H → va_D A (wHis cI cD g y0 ++ wDrv cI g1 x1) → va_S A s.heap H locs → lv_has ls 3 [(0, .ref (g 0)), (1, .ref (g1 0))] → W p l e ({ frames := 2, cells := 0, slots := 0, locals := 81 } : Room) s m ([.ref (g 0), .ref (g1 0)] : List Value).toArray below meth c H locs 0 0 Q (F0 m 21 ls [.int w1, .ref (g 0)]) := by
    intro w1 y0 H locs ls hM hP hD hS hl
    unfold M_X4_save_21 at hM
    obtain ⟨y_1, hy_1, hM⟩ := tbE hM
    refine va_put (D := (dC, dI)) (ci := 3) (v := .int w1) (ty := .int) (C := RX4) (T := TX4) (N := 3) hx hb hts inX4 tyX4 tyX4_ok nmX4 hown hG.1 hP hD hS 0 rfl rfl 2 (by decide) (hts (.fieldLink RX4 21 "WokenDrive$History" "newest" "I") (List.mem_of_getElem? (i := 1) rfl)) (fun _ h9 => h9) rfl (by decide +kernel) rfl rfl (Nat.le_of_ble_eq_true rfl) dX4_save_21 (fun H locs hP hD hS => ?_)
    have hP : va_P (dC, dI) vwCl (wHis cI cD g y_1 ++ wDrv cI g1 x1) H := by rw [hy_1]; exact hP
    have hD : va_D A (wHis cI cD g y_1 ++ wDrv cI g1 x1) := by rw [hy_1]; exact hD
    refine lv_aload_n hx hb dX4_save_24 rfl (lv_at hl 0 rfl) ?_
    refine lv_aload_n hx hb dX4_save_25 rfl (lv_at hl 0 rfl) ?_
    refine va_get (D := (dC, dI)) (ci := 3) (v := .int (hs_size y_1)) (C := RX4) (T := TX4) (N := 3) hx hb hts inX4 hown hG.1 hP 0 rfl rfl 1 (by decide) (hts (.fieldLink RX4 17 "WokenDrive$History" "size" "I") (List.mem_of_getElem? (i := 2) rfl)) (fun _ h9 => h9) rfl dX4_save_26 ?_
    refine lv_iconst (v := (4 : Int32)) hx hb dX4_save_29 (by decide) ?_
    refine lv_icmp_ge (tgt := 42) hx hb dX4_save_30 (by decide) (fun c2 => ?_) (fun c2 => ?_)
    · replace hM := (if_pos c2).symm.trans hM
      refine lv_iconst (v := (4 : Int32)) hx hb dX4_save_42 (by decide) ?_
      exact hB43 (4 : Int32) y_1 H _ _ hM hP hD hS (lv_sub hl [0, 1] rfl)
    · replace hM := (if_neg c2).symm.trans hM
      refine lv_aload_n hx hb dX4_save_33 rfl (lv_at hl 0 rfl) ?_
      refine va_get (D := (dC, dI)) (ci := 3) (v := .int (hs_size y_1)) (C := RX4) (T := TX4) (N := 3) hx hb hts inX4 hown hG.1 hP 0 rfl rfl 1 (by decide) (hts (.fieldLink RX4 17 "WokenDrive$History" "size" "I") (List.mem_of_getElem? (i := 2) rfl)) (fun _ h9 => h9) rfl dX4_save_34 ?_
      refine lv_iconst (v := (1 : Int32)) hx hb dX4_save_37 (by decide) ?_
      refine lv_iadd hx hb dX4_save_38 ?_
      refine lv_goto (tgt := 43) hx hb dX4_save_39 (by decide) ?_
      exact hB43 ((hs_size y_1) + (1 : Int32)) y_1 H _ _ hM hP hD hS (lv_sub hl [0, 1] rfl)
  unfold M_X4_save at hM
  refine lv_aload_n hx hb dX4_save_0 rfl (lv_at hl 0 rfl) ?_
  refine lv_aload_n hx hb dX4_save_1 rfl (lv_at hl 0 rfl) ?_
  refine va_get (D := (dC, dI)) (ci := 3) (v := .int (hs_new x)) (C := RX4) (T := TX4) (N := 3) hx hb hts inX4 hown hG.1 hP 0 rfl rfl 2 (by decide) (hts (.fieldLink RX4 21 "WokenDrive$History" "newest" "I") (List.mem_of_getElem? (i := 1) rfl)) (fun _ h9 => h9) rfl dX4_save_2 ?_
  refine lv_iconst (v := (1 : Int32)) hx hb dX4_save_5 (by decide) ?_
  refine lv_iadd hx hb dX4_save_6 ?_
  refine lv_iconst (v := (4 : Int32)) hx hb dX4_save_7 (by decide) ?_
  refine lv_icmp_ge (tgt := 20) hx hb dX4_save_8 (by decide) (fun c1 => ?_) (fun c1 => ?_)
  · replace hM := (if_pos c1).symm.trans hM
    refine lv_iconst (v := (0 : Int32)) hx hb dX4_save_20 (by decide) ?_
    exact hB21 (0 : Int32) x H _ _ hM hP hD hS (lv_sub hl [0, 1] rfl)
  · replace hM := (if_neg c1).symm.trans hM
    refine lv_aload_n hx hb dX4_save_11 rfl (lv_at hl 0 rfl) ?_
    refine va_get (D := (dC, dI)) (ci := 3) (v := .int (hs_new x)) (C := RX4) (T := TX4) (N := 3) hx hb hts inX4 hown hG.1 hP 0 rfl rfl 2 (by decide) (hts (.fieldLink RX4 21 "WokenDrive$History" "newest" "I") (List.mem_of_getElem? (i := 1) rfl)) (fun _ h9 => h9) rfl dX4_save_12 ?_
    refine lv_iconst (v := (1 : Int32)) hx hb dX4_save_15 (by decide) ?_
    refine lv_iadd hx hb dX4_save_16 ?_
    refine lv_goto (tgt := 21) hx hb dX4_save_17 (by decide) ?_
    exact hB21 ((hs_new x) + (1 : Int32)) x H _ _ hM hP hD hS (lv_sub hl [0, 1] rfl)
set_option maxHeartbeats 4000000 in
set_option maxRecDepth 100000 in
theorem c_X4_restoreTo (l : Launch) (dC : Nat → ClassId) (dI : Nat → Nat → Nat) (cI cD cJ : ClassId) (kk : wAd) (g : Nat → Nat) (g1 : Nat → Nat) (x : HS) (x1 : DS) (out : Int32 × HS × DS) (hM : M_X4_restoreTo x x1 = out) : CM l yX4_restoreTo wsX4_restoreTo ({ frames := 2, cells := 0, slots := 0, locals := 81 } : Room) dC dI (wTys cI cD cJ) [.ref (g 0), .ref (g1 0)] (wHis cI cD g x ++ wDrv cI g1 x1) (some (.int out.1)) (wHis cI cD g out.2.1 ++ wDrv cI g1 out.2.2) 0 0 := by
  refine wk_enterM (cc := cX4_restoreTo) (maxL := 3) (ret := (some .int)) (by decide) rfl (Nat.le_of_ble_eq_true rfl) ?_
  intro p e s m below meth c A Q ls hB hA hP hD hQ hl
  obtain ⟨hx, hb, hml, hr, hts, hown, hname, hlocks, hG⟩ := hB
  have hown : s.vm.findClass RX4 = some m.cls := hown
  have hS : va_S A s.heap s.heap [] := va_S.rf
  have hl : lv_has ls 3 [(0, .ref (g 0)), (1, .ref (g1 0))] := hl
  have inX4 : ∀ w ∈ wsX40, w ∈ wsX4_restoreTo := fun _ h => List.mem_cons_of_mem _ (List.mem_append_left _ (List.mem_append_left _ (List.mem_append_right _ h)))
  obtain ⟨H, hH⟩ : ∃ z, z = s.heap := ⟨_, rfl⟩
  have hP : va_P (dC, dI) vwCl (wHis cI cD g x ++ wDrv cI g1 x1) H := by rw [hH]; exact hP
  have hS : va_S A s.heap H [] := by rw [hH]; exact hS
  refine wk_at hH ?_
  generalize ([] : List Loc) = locs at hS ⊢
  have hB56 : ∀ (y0 : HS) (y1 : DS) (H : Heap) (locs : List Loc) (ls : Array Slot), M_X4_restoreTo_56 x x1 y0 y1 = out → va_P (dC, dI) vwCl (wHis cI cD g y0 ++ wDrv cI g1 y1) H → va_D A (wHis cI cD g y0 ++ wDrv cI g1 y1) → va_S A s.heap H locs → lv_has ls 3 [(0, .ref (g 0))] → W p l e ({ frames := 2, cells := 0, slots := 0, locals := 81 } : Room) s m ([.ref (g 0), .ref (g1 0)] : List Value).toArray below meth c H locs 0 0 Q (F0 m 56 ls []) := by
    intro y0 y1 H locs ls hM hP hD hS hl
    unfold M_X4_restoreTo_56 at hM
    refine lv_aload_n hx hb dX4_restoreTo_56 rfl (lv_at hl 0 rfl) ?_
    refine va_get (D := (dC, dI)) (ci := 3) (v := .int (hs_size y0)) (C := RX4) (T := TX4) (N := 3) hx hb hts inX4 hown hG.1 hP 0 rfl rfl 1 (by decide) (hts (.fieldLink RX4 17 "WokenDrive$History" "size" "I") (List.mem_of_getElem? (i := 2) rfl)) (fun _ h9 => h9) rfl dX4_restoreTo_57 ?_
    subst hM
    exact wk_retMi hx hb hr hlocks hQ rfl rfl hP hD hS dX4_restoreTo_60
  have hB43 : ∀ (w1 : Int32) (y0 : HS) (y1 : DS) (H : Heap) (locs : List Loc) (ls : Array Slot), M_X4_restoreTo_43 x x1 w1 y0 y1 = out → va_P (dC, dI) vwCl (wHis cI cD g y0 ++ wDrv cI g1 y1) H → va_D A (wHis cI cD g y0 ++ wDrv cI g1 y1) → va_S A s.heap H locs → lv_has ls 3 [(0, .ref (g 0))] → W p l e ({ frames := 2, cells := 0, slots := 0, locals := 81 } : Room) s m ([.ref (g 0), .ref (g1 0)] : List Value).toArray below meth c H locs 0 0 Q (F0 m 43 ls [.int w1, .ref (g 0)]) := by
    intro w1 y0 y1 H locs ls hM hP hD hS hl
    unfold M_X4_restoreTo_43 at hM
    obtain ⟨y_1, hy_1, hM⟩ := tbE hM
    refine va_put (D := (dC, dI)) (ci := 3) (v := .int w1) (ty := .int) (C := RX4) (T := TX4) (N := 3) hx hb hts inX4 tyX4 tyX4_ok nmX4 hown hG.1 hP hD hS 0 rfl rfl 2 (by decide) (hts (.fieldLink RX4 21 "WokenDrive$History" "newest" "I") (List.mem_of_getElem? (i := 1) rfl)) (fun _ h9 => h9) rfl (by decide +kernel) rfl rfl (Nat.le_of_ble_eq_true rfl) dX4_restoreTo_43 (fun H locs hP hD hS => ?_)
    have hP : va_P (dC, dI) vwCl (wHis cI cD g y_1 ++ wDrv cI g1 y1) H := by rw [hy_1]; exact hP
    have hD : va_D A (wHis cI cD g y_1 ++ wDrv cI g1 y1) := by rw [hy_1]; exact hD
    refine lv_aload_n hx hb dX4_restoreTo_46 rfl (lv_at hl 0 rfl) ?_
    refine lv_dup hx hb dX4_restoreTo_47 rfl ?_
    refine va_get (D := (dC, dI)) (ci := 3) (v := .int (hs_size y_1)) (C := RX4) (T := TX4) (N := 3) hx hb hts inX4 hown hG.1 hP 0 rfl rfl 1 (by decide) (hts (.fieldLink RX4 17 "WokenDrive$History" "size" "I") (List.mem_of_getElem? (i := 2) rfl)) (fun _ h9 => h9) rfl dX4_restoreTo_48 ?_
    refine lv_iconst (v := (1 : Int32)) hx hb dX4_restoreTo_51 (by decide) ?_
    refine lv_isub hx hb dX4_restoreTo_52 ?_
    refine va_put (D := (dC, dI)) (ci := 3) (v := .int ((hs_size y_1) - (1 : Int32))) (ty := .int) (C := RX4) (T := TX4) (N := 3) hx hb hts inX4 tyX4 tyX4_ok nmX4 hown hG.1 hP hD hS 0 rfl rfl 1 (by decide) (hts (.fieldLink RX4 17 "WokenDrive$History" "size" "I") (List.mem_of_getElem? (i := 2) rfl)) (fun _ h9 => h9) rfl (by decide +kernel) rfl rfl (Nat.le_of_ble_eq_true rfl) dX4_restoreTo_53 (fun H locs hP hD hS => ?_)
    have hP : va_P (dC, dI) vwCl (wHis cI cD g (hs_size_s y_1 ((hs_size y_1) - (1 : Int32))) ++ wDrv cI g1 y1) H := hP
    have hD : va_D A (wHis cI cD g (hs_size_s y_1 ((hs_size y_1) - (1 : Int32))) ++ wDrv cI g1 y1) := hD
    exact hB56 (hs_size_s y_1 ((hs_size y_1) - (1 : Int32))) y1 H _ _ hM hP hD hS (lv_sub hl [0] rfl)
  unfold M_X4_restoreTo at hM
  refine lv_aload_n hx hb dX4_restoreTo_0 rfl (lv_at hl 0 rfl) ?_
  refine lv_aload_n hx hb dX4_restoreTo_1 rfl (lv_at hl 0 rfl) ?_
  refine va_get (D := (dC, dI)) (ci := 3) (v := .int (hs_new x)) (C := RX4) (T := TX4) (N := 3) hx hb hts inX4 hown hG.1 hP 0 rfl rfl 2 (by decide) (hts (.fieldLink RX4 21 "WokenDrive$History" "newest" "I") (List.mem_of_getElem? (i := 1) rfl)) (fun _ h9 => h9) rfl dX4_restoreTo_2 ?_
  refine wk_callSv (va_runV (As := [.int (hs_new x)]) (rest := []) ⟨hx, hb, hml, hown, hts⟩ (c_X4_savedAt l dC dI cI cD cJ kk g x (hs_new x) H) (cwV 1 hts gX4_restoreTo_X4_savedAt rfl rfl rfl (by decide +kernel) ⟨Nat.le_of_ble_eq_true rfl, Nat.le_of_ble_eq_true rfl⟩) (wk_preV (ci := 3) (q0 := 0) hG hP hD [0, 1, 2, 3, 4, 5, 6, 7, 8, 9, 10, 11, 12, 13, 14, 15, 16, 17, 18, 19, 20, 21] rfl rfl rfl rfl) rfl rfl hl.1 rfl (lv_room (Nat.le_of_ble_eq_true rfl)) dX4_restoreTo_5 ⟨Nat.le_of_ble_eq_true rfl, Nat.le_of_ble_eq_true rfl⟩) hS (fun c0 locs hS => ?_) (fun c0 c1 locs hS => ?_) (fun c0 c1 c2 locs hS => ?_) (fun c0 c1 c2 c3 locs hS => ?_) (fun c0 c1 c2 c3 locs hS => ?_)
  · replace hM := (if_pos c0).symm.trans hM
    refine lv_astore_n (lv' := [(2, .ref ((fun i => g (2 + i)) 0)), (0, .ref (g 0)), (1, .ref (g1 0))]) hx hb dX4_restoreTo_8 rfl hl (by decide) rfl (fun ls hl => ?_)
    refine lv_aload_n hx hb dX4_restoreTo_9 rfl (lv_at hl 0 rfl) ?_
    refine lv_ifnull hx hb dX4_restoreTo_10 ?_
    refine lv_aload_n hx hb dX4_restoreTo_13 rfl (lv_at hl 1 rfl) ?_
    refine va_get (D := (dC, dI)) (ci := 3) (v := .int (hs_size x)) (C := RX4) (T := TX4) (N := 3) hx hb hts inX4 hown hG.1 hP 0 rfl rfl 1 (by decide) (hts (.fieldLink RX4 17 "WokenDrive$History" "size" "I") (List.mem_of_getElem? (i := 2) rfl)) (fun _ h9 => h9) rfl dX4_restoreTo_14 ?_
    refine lv_if_le (tgt := 56) hx hb dX4_restoreTo_17 (by decide) (fun c1 => ?_) (fun c1 => ?_)
    · replace hM := (if_pos c1).symm.trans hM
      exact hB56 x x1 H _ _ hM hP hD hS (lv_sub hl [1] rfl)
    · replace hM := (if_neg c1).symm.trans hM
      refine lv_aload_n hx hb dX4_restoreTo_20 rfl (lv_at hl 2 rfl) ?_
      refine lv_aload_n hx hb dX4_restoreTo_21 rfl (lv_at hl 0 rfl) ?_
      obtain ⟨r2, hr2, hM⟩ := tbE hM
      refine wk_callM (ws' := (wHis cI cD g x ++ wDrv cI g1 r2)) (va_runV (As := [.ref ((fun i => g (2 + i)) 0)]) (rest := []) ⟨hx, hb, hml, hown, hts⟩ (c_X3_become l dC dI cI cD cJ kk g1 (fun i => g (2 + i)) x1 (hs_sv x 0) _ hr2.symm H) (cwV 1 hts gX4_restoreTo_X3_become rfl rfl rfl (by decide +kernel) ⟨Nat.le_of_ble_eq_true rfl, Nat.le_of_ble_eq_true rfl⟩) (wk_preV (ci := 2) (q0 := 22) hG hP hD [22, 23, 24, 25, 26, 2, 3, 4, 5, 6] rfl rfl rfl rfl) rfl rfl hl.1 rfl (lv_room (Nat.le_of_ble_eq_true rfl)) dX4_restoreTo_22 ⟨Nat.le_of_ble_eq_true rfl, Nat.le_of_ble_eq_true rfl⟩) hP hD hS hA [22, 23, 24, 25, 26, 2, 3, 4, 5, 6] [0, 1, 7, 8, 9, 10, 11, 12, 13, 14, 15, 16, 17, 18, 19, 20, 21] [0, 1, 22, 23, 24, 25, 26, 2, 3, 4, 5, 6, 7, 8, 9, 10, 11, 12, 13, 14, 15, 16, 17, 18, 19, 20, 21] rfl rfl rfl (by decide) rfl rfl (fun H locs hP hD hS => ?_)
      refine lv_aload_n hx hb dX4_restoreTo_25 rfl (lv_at hl 1 rfl) ?_
      refine lv_aload_n hx hb dX4_restoreTo_26 rfl (lv_at hl 1 rfl) ?_
      refine va_get (D := (dC, dI)) (ci := 3) (v := .int (hs_new x)) (C := RX4) (T := TX4) (N := 3) hx hb hts inX4 hown hG.1 hP 0 rfl rfl 2 (by decide) (hts (.fieldLink RX4 21 "WokenDrive$History" "newest" "I") (List.mem_of_getElem? (i := 1) rfl)) (fun _ h9 => h9) rfl dX4_restoreTo_27 ?_
      refine lv_if_le (tgt := 42) hx hb dX4_restoreTo_30 (by decide) (fun c3 => ?_) (fun c3 => ?_)
      · replace hM := (if_pos c3).symm.trans hM
        refine lv_iconst (v := (3 : Int32)) hx hb dX4_restoreTo_42 (by decide) ?_
        exact hB43 (3 : Int32) x r2 H _ _ hM hP hD hS (lv_sub hl [1] rfl)
      · replace hM := (if_neg c3).symm.trans hM
        refine lv_aload_n hx hb dX4_restoreTo_33 rfl (lv_at hl 1 rfl) ?_
        refine va_get (D := (dC, dI)) (ci := 3) (v := .int (hs_new x)) (C := RX4) (T := TX4) (N := 3) hx hb hts inX4 hown hG.1 hP 0 rfl rfl 2 (by decide) (hts (.fieldLink RX4 21 "WokenDrive$History" "newest" "I") (List.mem_of_getElem? (i := 1) rfl)) (fun _ h9 => h9) rfl dX4_restoreTo_34 ?_
        refine lv_iconst (v := (1 : Int32)) hx hb dX4_restoreTo_37 (by decide) ?_
        refine lv_isub hx hb dX4_restoreTo_38 ?_
        refine lv_goto (tgt := 43) hx hb dX4_restoreTo_39 (by decide) ?_
        exact hB43 ((hs_new x) - (1 : Int32)) x r2 H _ _ hM hP hD hS (lv_sub hl [1] rfl)
  · replace hM := (if_neg c0).symm.trans hM
    replace hM := (if_pos c1).symm.trans hM
    refine lv_astore_n (lv' := [(2, .ref ((fun i => g (7 + i)) 0)), (0, .ref (g 0)), (1, .ref (g1 0))]) hx hb dX4_restoreTo_8 rfl hl (by decide) rfl (fun ls hl => ?_)
    refine lv_aload_n hx hb dX4_restoreTo_9 rfl (lv_at hl 0 rfl) ?_
    refine lv_ifnull hx hb dX4_restoreTo_10 ?_
    refine lv_aload_n hx hb dX4_restoreTo_13 rfl (lv_at hl 1 rfl) ?_
    refine va_get (D := (dC, dI)) (ci := 3) (v := .int (hs_size x)) (C := RX4) (T := TX4) (N := 3) hx hb hts inX4 hown hG.1 hP 0 rfl rfl 1 (by decide) (hts (.fieldLink RX4 17 "WokenDrive$History" "size" "I") (List.mem_of_getElem? (i := 2) rfl)) (fun _ h9 => h9) rfl dX4_restoreTo_14 ?_
    refine lv_if_le (tgt := 56) hx hb dX4_restoreTo_17 (by decide) (fun c4 => ?_) (fun c4 => ?_)
    · replace hM := (if_pos c4).symm.trans hM
      exact hB56 x x1 H _ _ hM hP hD hS (lv_sub hl [1] rfl)
    · replace hM := (if_neg c4).symm.trans hM
      refine lv_aload_n hx hb dX4_restoreTo_20 rfl (lv_at hl 2 rfl) ?_
      refine lv_aload_n hx hb dX4_restoreTo_21 rfl (lv_at hl 0 rfl) ?_
      obtain ⟨r5, hr5, hM⟩ := tbE hM
      refine wk_callM (ws' := (wHis cI cD g x ++ wDrv cI g1 r5)) (va_runV (As := [.ref ((fun i => g (7 + i)) 0)]) (rest := []) ⟨hx, hb, hml, hown, hts⟩ (c_X3_become l dC dI cI cD cJ kk g1 (fun i => g (7 + i)) x1 (hs_sv x 1) _ hr5.symm H) (cwV 1 hts gX4_restoreTo_X3_become rfl rfl rfl (by decide +kernel) ⟨Nat.le_of_ble_eq_true rfl, Nat.le_of_ble_eq_true rfl⟩) (wk_preV (ci := 2) (q0 := 22) hG hP hD [22, 23, 24, 25, 26, 7, 8, 9, 10, 11] rfl rfl rfl rfl) rfl rfl hl.1 rfl (lv_room (Nat.le_of_ble_eq_true rfl)) dX4_restoreTo_22 ⟨Nat.le_of_ble_eq_true rfl, Nat.le_of_ble_eq_true rfl⟩) hP hD hS hA [22, 23, 24, 25, 26, 7, 8, 9, 10, 11] [0, 1, 2, 3, 4, 5, 6, 12, 13, 14, 15, 16, 17, 18, 19, 20, 21] [0, 1, 2, 3, 4, 5, 6, 22, 23, 24, 25, 26, 7, 8, 9, 10, 11, 12, 13, 14, 15, 16, 17, 18, 19, 20, 21] rfl rfl rfl (by decide) rfl rfl (fun H locs hP hD hS => ?_)
      refine lv_aload_n hx hb dX4_restoreTo_25 rfl (lv_at hl 1 rfl) ?_
      refine lv_aload_n hx hb dX4_restoreTo_26 rfl (lv_at hl 1 rfl) ?_
      refine va_get (D := (dC, dI)) (ci := 3) (v := .int (hs_new x)) (C := RX4) (T := TX4) (N := 3) hx hb hts inX4 hown hG.1 hP 0 rfl rfl 2 (by decide) (hts (.fieldLink RX4 21 "WokenDrive$History" "newest" "I") (List.mem_of_getElem? (i := 1) rfl)) (fun _ h9 => h9) rfl dX4_restoreTo_27 ?_
      refine lv_if_le (tgt := 42) hx hb dX4_restoreTo_30 (by decide) (fun c6 => ?_) (fun c6 => ?_)
      · replace hM := (if_pos c6).symm.trans hM
        refine lv_iconst (v := (3 : Int32)) hx hb dX4_restoreTo_42 (by decide) ?_
        exact hB43 (3 : Int32) x r5 H _ _ hM hP hD hS (lv_sub hl [1] rfl)
      · replace hM := (if_neg c6).symm.trans hM
        refine lv_aload_n hx hb dX4_restoreTo_33 rfl (lv_at hl 1 rfl) ?_
        refine va_get (D := (dC, dI)) (ci := 3) (v := .int (hs_new x)) (C := RX4) (T := TX4) (N := 3) hx hb hts inX4 hown hG.1 hP 0 rfl rfl 2 (by decide) (hts (.fieldLink RX4 21 "WokenDrive$History" "newest" "I") (List.mem_of_getElem? (i := 1) rfl)) (fun _ h9 => h9) rfl dX4_restoreTo_34 ?_
        refine lv_iconst (v := (1 : Int32)) hx hb dX4_restoreTo_37 (by decide) ?_
        refine lv_isub hx hb dX4_restoreTo_38 ?_
        refine lv_goto (tgt := 43) hx hb dX4_restoreTo_39 (by decide) ?_
        exact hB43 ((hs_new x) - (1 : Int32)) x r5 H _ _ hM hP hD hS (lv_sub hl [1] rfl)
  · replace hM := (if_neg c0).symm.trans hM
    replace hM := (if_neg c1).symm.trans hM
    replace hM := (if_pos c2).symm.trans hM
    refine lv_astore_n (lv' := [(2, .ref ((fun i => g (12 + i)) 0)), (0, .ref (g 0)), (1, .ref (g1 0))]) hx hb dX4_restoreTo_8 rfl hl (by decide) rfl (fun ls hl => ?_)
    refine lv_aload_n hx hb dX4_restoreTo_9 rfl (lv_at hl 0 rfl) ?_
    refine lv_ifnull hx hb dX4_restoreTo_10 ?_
    refine lv_aload_n hx hb dX4_restoreTo_13 rfl (lv_at hl 1 rfl) ?_
    refine va_get (D := (dC, dI)) (ci := 3) (v := .int (hs_size x)) (C := RX4) (T := TX4) (N := 3) hx hb hts inX4 hown hG.1 hP 0 rfl rfl 1 (by decide) (hts (.fieldLink RX4 17 "WokenDrive$History" "size" "I") (List.mem_of_getElem? (i := 2) rfl)) (fun _ h9 => h9) rfl dX4_restoreTo_14 ?_
    refine lv_if_le (tgt := 56) hx hb dX4_restoreTo_17 (by decide) (fun c7 => ?_) (fun c7 => ?_)
    · replace hM := (if_pos c7).symm.trans hM
      exact hB56 x x1 H _ _ hM hP hD hS (lv_sub hl [1] rfl)
    · replace hM := (if_neg c7).symm.trans hM
      refine lv_aload_n hx hb dX4_restoreTo_20 rfl (lv_at hl 2 rfl) ?_
      refine lv_aload_n hx hb dX4_restoreTo_21 rfl (lv_at hl 0 rfl) ?_
      obtain ⟨r8, hr8, hM⟩ := tbE hM
      refine wk_callM (ws' := (wHis cI cD g x ++ wDrv cI g1 r8)) (va_runV (As := [.ref ((fun i => g (12 + i)) 0)]) (rest := []) ⟨hx, hb, hml, hown, hts⟩ (c_X3_become l dC dI cI cD cJ kk g1 (fun i => g (12 + i)) x1 (hs_sv x 2) _ hr8.symm H) (cwV 1 hts gX4_restoreTo_X3_become rfl rfl rfl (by decide +kernel) ⟨Nat.le_of_ble_eq_true rfl, Nat.le_of_ble_eq_true rfl⟩) (wk_preV (ci := 2) (q0 := 22) hG hP hD [22, 23, 24, 25, 26, 12, 13, 14, 15, 16] rfl rfl rfl rfl) rfl rfl hl.1 rfl (lv_room (Nat.le_of_ble_eq_true rfl)) dX4_restoreTo_22 ⟨Nat.le_of_ble_eq_true rfl, Nat.le_of_ble_eq_true rfl⟩) hP hD hS hA [22, 23, 24, 25, 26, 12, 13, 14, 15, 16] [0, 1, 2, 3, 4, 5, 6, 7, 8, 9, 10, 11, 17, 18, 19, 20, 21] [0, 1, 2, 3, 4, 5, 6, 7, 8, 9, 10, 11, 22, 23, 24, 25, 26, 12, 13, 14, 15, 16, 17, 18, 19, 20, 21] rfl rfl rfl (by decide) rfl rfl (fun H locs hP hD hS => ?_)
      refine lv_aload_n hx hb dX4_restoreTo_25 rfl (lv_at hl 1 rfl) ?_
      refine lv_aload_n hx hb dX4_restoreTo_26 rfl (lv_at hl 1 rfl) ?_
      refine va_get (D := (dC, dI)) (ci := 3) (v := .int (hs_new x)) (C := RX4) (T := TX4) (N := 3) hx hb hts inX4 hown hG.1 hP 0 rfl rfl 2 (by decide) (hts (.fieldLink RX4 21 "WokenDrive$History" "newest" "I") (List.mem_of_getElem? (i := 1) rfl)) (fun _ h9 => h9) rfl dX4_restoreTo_27 ?_
      refine lv_if_le (tgt := 42) hx hb dX4_restoreTo_30 (by decide) (fun c9 => ?_) (fun c9 => ?_)
      · replace hM := (if_pos c9).symm.trans hM
        refine lv_iconst (v := (3 : Int32)) hx hb dX4_restoreTo_42 (by decide) ?_
        exact hB43 (3 : Int32) x r8 H _ _ hM hP hD hS (lv_sub hl [1] rfl)
      · replace hM := (if_neg c9).symm.trans hM
        refine lv_aload_n hx hb dX4_restoreTo_33 rfl (lv_at hl 1 rfl) ?_
        refine va_get (D := (dC, dI)) (ci := 3) (v := .int (hs_new x)) (C := RX4) (T := TX4) (N := 3) hx hb hts inX4 hown hG.1 hP 0 rfl rfl 2 (by decide) (hts (.fieldLink RX4 21 "WokenDrive$History" "newest" "I") (List.mem_of_getElem? (i := 1) rfl)) (fun _ h9 => h9) rfl dX4_restoreTo_34 ?_
        refine lv_iconst (v := (1 : Int32)) hx hb dX4_restoreTo_37 (by decide) ?_
        refine lv_isub hx hb dX4_restoreTo_38 ?_
        refine lv_goto (tgt := 43) hx hb dX4_restoreTo_39 (by decide) ?_
        exact hB43 ((hs_new x) - (1 : Int32)) x r8 H _ _ hM hP hD hS (lv_sub hl [1] rfl)
  · replace hM := (if_neg c0).symm.trans hM
    replace hM := (if_neg c1).symm.trans hM
    replace hM := (if_neg c2).symm.trans hM
    replace hM := (if_pos c3).symm.trans hM
    refine lv_astore_n (lv' := [(2, .ref ((fun i => g (17 + i)) 0)), (0, .ref (g 0)), (1, .ref (g1 0))]) hx hb dX4_restoreTo_8 rfl hl (by decide) rfl (fun ls hl => ?_)
    refine lv_aload_n hx hb dX4_restoreTo_9 rfl (lv_at hl 0 rfl) ?_
    refine lv_ifnull hx hb dX4_restoreTo_10 ?_
    refine lv_aload_n hx hb dX4_restoreTo_13 rfl (lv_at hl 1 rfl) ?_
    refine va_get (D := (dC, dI)) (ci := 3) (v := .int (hs_size x)) (C := RX4) (T := TX4) (N := 3) hx hb hts inX4 hown hG.1 hP 0 rfl rfl 1 (by decide) (hts (.fieldLink RX4 17 "WokenDrive$History" "size" "I") (List.mem_of_getElem? (i := 2) rfl)) (fun _ h9 => h9) rfl dX4_restoreTo_14 ?_
    refine lv_if_le (tgt := 56) hx hb dX4_restoreTo_17 (by decide) (fun c10 => ?_) (fun c10 => ?_)
    · replace hM := (if_pos c10).symm.trans hM
      exact hB56 x x1 H _ _ hM hP hD hS (lv_sub hl [1] rfl)
    · replace hM := (if_neg c10).symm.trans hM
      refine lv_aload_n hx hb dX4_restoreTo_20 rfl (lv_at hl 2 rfl) ?_
      refine lv_aload_n hx hb dX4_restoreTo_21 rfl (lv_at hl 0 rfl) ?_
      obtain ⟨r11, hr11, hM⟩ := tbE hM
      refine wk_callM (ws' := (wHis cI cD g x ++ wDrv cI g1 r11)) (va_runV (As := [.ref ((fun i => g (17 + i)) 0)]) (rest := []) ⟨hx, hb, hml, hown, hts⟩ (c_X3_become l dC dI cI cD cJ kk g1 (fun i => g (17 + i)) x1 (hs_sv x 3) _ hr11.symm H) (cwV 1 hts gX4_restoreTo_X3_become rfl rfl rfl (by decide +kernel) ⟨Nat.le_of_ble_eq_true rfl, Nat.le_of_ble_eq_true rfl⟩) (wk_preV (ci := 2) (q0 := 22) hG hP hD [22, 23, 24, 25, 26, 17, 18, 19, 20, 21] rfl rfl rfl rfl) rfl rfl hl.1 rfl (lv_room (Nat.le_of_ble_eq_true rfl)) dX4_restoreTo_22 ⟨Nat.le_of_ble_eq_true rfl, Nat.le_of_ble_eq_true rfl⟩) hP hD hS hA [22, 23, 24, 25, 26, 17, 18, 19, 20, 21] [0, 1, 2, 3, 4, 5, 6, 7, 8, 9, 10, 11, 12, 13, 14, 15, 16] [0, 1, 2, 3, 4, 5, 6, 7, 8, 9, 10, 11, 12, 13, 14, 15, 16, 22, 23, 24, 25, 26, 17, 18, 19, 20, 21] rfl rfl rfl (by decide) rfl rfl (fun H locs hP hD hS => ?_)
      refine lv_aload_n hx hb dX4_restoreTo_25 rfl (lv_at hl 1 rfl) ?_
      refine lv_aload_n hx hb dX4_restoreTo_26 rfl (lv_at hl 1 rfl) ?_
      refine va_get (D := (dC, dI)) (ci := 3) (v := .int (hs_new x)) (C := RX4) (T := TX4) (N := 3) hx hb hts inX4 hown hG.1 hP 0 rfl rfl 2 (by decide) (hts (.fieldLink RX4 21 "WokenDrive$History" "newest" "I") (List.mem_of_getElem? (i := 1) rfl)) (fun _ h9 => h9) rfl dX4_restoreTo_27 ?_
      refine lv_if_le (tgt := 42) hx hb dX4_restoreTo_30 (by decide) (fun c12 => ?_) (fun c12 => ?_)
      · replace hM := (if_pos c12).symm.trans hM
        refine lv_iconst (v := (3 : Int32)) hx hb dX4_restoreTo_42 (by decide) ?_
        exact hB43 (3 : Int32) x r11 H _ _ hM hP hD hS (lv_sub hl [1] rfl)
      · replace hM := (if_neg c12).symm.trans hM
        refine lv_aload_n hx hb dX4_restoreTo_33 rfl (lv_at hl 1 rfl) ?_
        refine va_get (D := (dC, dI)) (ci := 3) (v := .int (hs_new x)) (C := RX4) (T := TX4) (N := 3) hx hb hts inX4 hown hG.1 hP 0 rfl rfl 2 (by decide) (hts (.fieldLink RX4 21 "WokenDrive$History" "newest" "I") (List.mem_of_getElem? (i := 1) rfl)) (fun _ h9 => h9) rfl dX4_restoreTo_34 ?_
        refine lv_iconst (v := (1 : Int32)) hx hb dX4_restoreTo_37 (by decide) ?_
        refine lv_isub hx hb dX4_restoreTo_38 ?_
        refine lv_goto (tgt := 43) hx hb dX4_restoreTo_39 (by decide) ?_
        exact hB43 ((hs_new x) - (1 : Int32)) x r11 H _ _ hM hP hD hS (lv_sub hl [1] rfl)
  · replace hM := (if_neg c0).symm.trans hM
    replace hM := (if_neg c1).symm.trans hM
    replace hM := (if_neg c2).symm.trans hM
    replace hM := (if_neg c3).symm.trans hM
    refine lv_astore_nN (lv' := [(2, .null), (0, .ref (g 0)), (1, .ref (g1 0))]) hx hb dX4_restoreTo_8 rfl hl (by decide) rfl (fun ls hl => ?_)
    refine lv_aload_nN hx hb dX4_restoreTo_9 rfl (lv_at hl 0 rfl) ?_
    refine lv_ifnullN (tgt := 56) hx hb dX4_restoreTo_10 (by decide) ?_
    exact hB56 x x1 H _ _ hM hP hD hS (lv_sub hl [1] rfl)
