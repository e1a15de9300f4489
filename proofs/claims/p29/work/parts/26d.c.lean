/-! PART 29: the constructors -/
set_option maxHeartbeats 4000000 in
set_option maxRecDepth 100000 in
theorem c_X6_init (l : Launch) (dC : Nat → ClassId) (dI : Nat → Nat → Nat) (cI cD cJ : ClassId) (kk : wAd) (h : Nat) : CI l yX6_init wsX6_init ({ frames := 4, cells := 37, slots := 3342, locals := 101 } : Room) dC dI (wTys cI cD cJ) h [(h, .inr (4, [.null, .null, .null, .null, .null, .null]))] (fun g => wSys cI cD kk.1 g ss0) 37 3342 := by
  refine wk_enterI (cc := cX6_init) (maxL := 1) (by decide) rfl (by decide) ?_
  intro p e s m below meth c A Q ls hB hA hP hD hQ hl
  obtain ⟨hx, hb, hml, hr, hts, hown, hname, hlocks, hG⟩ := hB
  have hown : s.vm.findClass RX6 = some m.cls := hown
  have hin : meth.name = "<init>" := hname
  have hS : va_S A s.heap s.heap [] := va_S.rf
  have inX1 : ∀ w ∈ wsX10, w ∈ wsX6_init := fun _ h => List.mem_cons_of_mem _ (List.mem_append_left _ (List.mem_append_right _ h))
  have inX3 : ∀ w ∈ wsX30, w ∈ wsX6_init := fun _ h => List.mem_cons_of_mem _ (List.mem_append_left _ (List.mem_append_left _ (List.mem_append_left _ (List.mem_append_left _ (List.mem_append_right _ h)))))
  have inX4 : ∀ w ∈ wsX40, w ∈ wsX6_init := fun _ h => List.mem_cons_of_mem _ (List.mem_append_left _ (List.mem_append_left _ (List.mem_append_right _ h)))
  have inX6 : ∀ w ∈ wsX60, w ∈ wsX6_init := fun _ h => List.mem_cons_of_mem _ (List.mem_append_left _ (List.mem_append_left _ (List.mem_append_left _ (List.mem_append_right _ h))))
  obtain ⟨H, hH⟩ : ∃ z, z = s.heap := ⟨_, rfl⟩
  have hP : va_P (dC, dI) vwCl [(h, .inr (4, [.null, .null, .null, .null, .null, .null]))] H := by rw [hH]; exact hP
  have hS : va_S A s.heap H [] := by rw [hH]; exact hS
  refine wk_at hH ?_
  generalize ([] : List Loc) = locs at hS ⊢
  refine lv_aload_n hx hb dX6_init_0 rfl (lv_at hl 0 rfl) ?_
  refine W.objInit hx hb hown (hts (.methodLink RX6 1 objectInit) (List.mem_of_getElem? (i := 1) rfl)) (hts (.instanceMethod objectInit) (List.mem_of_getElem? (i := 2) rfl)) (hts (.code objectInit ⟨#[0xb1]⟩ 1 none) (List.mem_of_getElem? (i := 3) rfl)) rfl (by rw [hml]; exact hl.1) rfl dX6_init_1 (Nat.le_of_ble_eq_true rfl) (Nat.le_of_ble_eq_true rfl) ?_
  refine W.eq (g2 := F0 m 4 ls []) rfl ?_
  refine lv_aload_n hx hb dX6_init_4 rfl (lv_at hl 0 rfl) ?_
  refine va_new (ci := 2) (fs := [.null, .null, .null, .null, .int 0, .int 0, .int 0, .int 0]) (C := RX3) (T := TX3) (N := 8) hx hb hts inX3 tyX3 tyX3_ok hown (hts (.classLink RX6 7 RX3) (List.mem_of_getElem? (i := 4) rfl)) (hts (.instantiable RX3 8) (List.mem_of_getElem? (i := 5) rfl)) (hts (.initialized RX3) (List.mem_of_getElem? (i := 6) rfl)) hG.1 hP hD hS hA rfl (fun j hj => by rcases (show j = 0 ∨ j = 1 ∨ j = 2 ∨ j = 3 ∨ j = 4 ∨ j = 5 ∨ j = 6 ∨ j = 7 by omega) with rfl | rfl | rfl | rfl | rfl | rfl | rfl | rfl <;> rfl) (Nat.le_of_ble_eq_true rfl) (Nat.le_of_ble_eq_true rfl) dX6_init_5 (fun q0 H hP hD hS => ?_)
  have hP : va_P (dC, dI) vwCl ([(h, .inr (4, [.null, .null, .null, .null, .null, .null])), (q0, .inr (2, [.null, .null, .null, .null, .int 0, .int 0, .int 0, .int 0]))] : va_W) H := hP
  have hD : va_D A ([(h, .inr (4, [.null, .null, .null, .null, .null, .null])), (q0, .inr (2, [.null, .null, .null, .null, .int 0, .int 0, .int 0, .int 0]))] : va_W) := hD
  refine lv_dup hx hb dX6_init_8 rfl ?_
  refine wk_callI (wr := ([(h, .inr (4, [.null, .null, .null, .null, .null, .null]))] : va_W)) (va_runIN (As := []) (rest := [.ref q0, .ref h]) ⟨hx, hb, hml, hown, hts⟩ (c_X3_init l dC dI cI cD cJ kk q0 H) ⟨va_cnB 0 hts gX6_init_X3_init_n9 rfl rfl rfl (hG.2 _ (List.mem_of_getElem? (i := 2) rfl)) (hts (.initialized RX3) (List.mem_of_getElem? (i := 6) rfl)) (by decide +kernel) ⟨(Nat.le_of_ble_eq_true rfl), (Nat.le_of_ble_eq_true rfl)⟩, rfl, (hts (.instanceMethod yX3_init) (List.mem_of_getElem? (i := 20) rfl))⟩ (wk_preS hG hP hD [1] rfl rfl) rfl rfl hl.1 rfl (lv_room (Nat.le_of_ble_eq_true rfl)) dX6_init_9 ⟨(Nat.le_of_ble_eq_true rfl), (Nat.le_of_ble_eq_true rfl)⟩) hP hD hS hA [1] [0] rfl rfl rfl (by decide) (fun g1 H locs hg hPn hDn hSn => ?_)
  subst hg
  have hP := hPn
  have hD := hDn
  have hS := hSn
  have hP : va_P (dC, dI) vwCl ([(h, .inr (4, [.null, .null, .null, .null, .null, .null]))] ++ wDrv cI g1 ds0 : va_W) H := hP
  have hD : va_D A ([(h, .inr (4, [.null, .null, .null, .null, .null, .null]))] ++ wDrv cI g1 ds0 : va_W) := hD
  refine va_putF (D := (dC, dI)) (ci := 4) (v := .ref (g1 0)) (ty := .object "WokenDrive$Drive") (C := RX6) (T := TX6) (N := 6) hx hb hts inX6 tyX6 tyX6_ok nmX6 hown hG.1 hP hD hS 0 rfl rfl 0 (by decide) (hts (.fieldLink RX6 10 "WokenDrive" "drive" "LWokenDrive$Drive;") (List.mem_of_getElem? (i := 7) rfl)) (fun _ h9 => h9) rfl hin rfl (by decide +kernel) rfl rfl (Nat.le_of_ble_eq_true rfl) dX6_init_12 (fun H locs hP hD hS => ?_)
  have hP : va_P (dC, dI) vwCl ([(h, .inr (4, [.ref (g1 0), .null, .null, .null, .null, .null]))] ++ wDrv cI g1 ds0 : va_W) H := hP
  have hD : va_D A ([(h, .inr (4, [.ref (g1 0), .null, .null, .null, .null, .null]))] ++ wDrv cI g1 ds0 : va_W) := hD
  refine lv_aload_n hx hb dX6_init_15 rfl (lv_at hl 0 rfl) ?_
  refine va_new (ci := 2) (fs := [.null, .null, .null, .null, .int 0, .int 0, .int 0, .int 0]) (C := RX3) (T := TX3) (N := 8) hx hb hts inX3 tyX3 tyX3_ok hown (hts (.classLink RX6 7 RX3) (List.mem_of_getElem? (i := 4) rfl)) (hts (.instantiable RX3 8) (List.mem_of_getElem? (i := 5) rfl)) (hts (.initialized RX3) (List.mem_of_getElem? (i := 6) rfl)) hG.1 hP hD hS hA rfl (fun j hj => by rcases (show j = 0 ∨ j = 1 ∨ j = 2 ∨ j = 3 ∨ j = 4 ∨ j = 5 ∨ j = 6 ∨ j = 7 by omega) with rfl | rfl | rfl | rfl | rfl | rfl | rfl | rfl <;> rfl) (Nat.le_of_ble_eq_true rfl) (Nat.le_of_ble_eq_true rfl) dX6_init_16 (fun q2 H hP hD hS => ?_)
  have hP : va_P (dC, dI) vwCl ([(h, .inr (4, [.ref (g1 0), .null, .null, .null, .null, .null]))] ++ wDrv cI g1 ds0 ++ [(q2, .inr (2, [.null, .null, .null, .null, .int 0, .int 0, .int 0, .int 0]))] : va_W) H := hP
  have hD : va_D A ([(h, .inr (4, [.ref (g1 0), .null, .null, .null, .null, .null]))] ++ wDrv cI g1 ds0 ++ [(q2, .inr (2, [.null, .null, .null, .null, .int 0, .int 0, .int 0, .int 0]))] : va_W) := hD
  refine lv_dup hx hb dX6_init_19 rfl ?_
  refine wk_callI (wr := ([(h, .inr (4, [.ref (g1 0), .null, .null, .null, .null, .null]))] ++ wDrv cI g1 ds0 : va_W)) (va_runIN (As := []) (rest := [.ref q2, .ref h]) ⟨hx, hb, hml, hown, hts⟩ (c_X3_init l dC dI cI cD cJ kk q2 H) ⟨va_cnB 0 hts gX6_init_X3_init_n9 rfl rfl rfl (hG.2 _ (List.mem_of_getElem? (i := 2) rfl)) (hts (.initialized RX3) (List.mem_of_getElem? (i := 6) rfl)) (by decide +kernel) ⟨(Nat.le_of_ble_eq_true rfl), (Nat.le_of_ble_eq_true rfl)⟩, rfl, (hts (.instanceMethod yX3_init) (List.mem_of_getElem? (i := 20) rfl))⟩ (wk_preS hG hP hD [6] rfl rfl) rfl rfl hl.1 rfl (lv_room (Nat.le_of_ble_eq_true rfl)) dX6_init_20 ⟨(Nat.le_of_ble_eq_true rfl), (Nat.le_of_ble_eq_true rfl)⟩) hP hD hS hA [6] [0, 1, 2, 3, 4, 5] rfl rfl rfl (by decide) (fun g3 H locs hg hPn hDn hSn => ?_)
  subst hg
  have hP := hPn
  have hD := hDn
  have hS := hSn
  have hP : va_P (dC, dI) vwCl ([(h, .inr (4, [.ref (g1 0), .null, .null, .null, .null, .null]))] ++ wDrv cI g1 ds0 ++ wDrv cI g3 ds0 : va_W) H := hP
  have hD : va_D A ([(h, .inr (4, [.ref (g1 0), .null, .null, .null, .null, .null]))] ++ wDrv cI g1 ds0 ++ wDrv cI g3 ds0 : va_W) := hD
  refine va_putF (D := (dC, dI)) (ci := 4) (v := .ref (g3 0)) (ty := .object "WokenDrive$Drive") (C := RX6) (T := TX6) (N := 6) hx hb hts inX6 tyX6 tyX6_ok nmX6 hown hG.1 hP hD hS 0 rfl rfl 1 (by decide) (hts (.fieldLink RX6 16 "WokenDrive" "imagined" "LWokenDrive$Drive;") (List.mem_of_getElem? (i := 8) rfl)) (fun _ h9 => h9) rfl hin rfl (by decide +kernel) rfl rfl (Nat.le_of_ble_eq_true rfl) dX6_init_23 (fun H locs hP hD hS => ?_)
  have hP : va_P (dC, dI) vwCl ([(h, .inr (4, [.ref (g1 0), .ref (g3 0), .null, .null, .null, .null]))] ++ wDrv cI g1 ds0 ++ wDrv cI g3 ds0 : va_W) H := hP
  have hD : va_D A ([(h, .inr (4, [.ref (g1 0), .ref (g3 0), .null, .null, .null, .null]))] ++ wDrv cI g1 ds0 ++ wDrv cI g3 ds0 : va_W) := hD
  refine lv_aload_n hx hb dX6_init_26 rfl (lv_at hl 0 rfl) ?_
  refine va_new (ci := 3) (fs := [.null, .int 0, .int 0]) (C := RX4) (T := TX4) (N := 3) hx hb hts inX4 tyX4 tyX4_ok hown (hts (.classLink RX6 19 RX4) (List.mem_of_getElem? (i := 9) rfl)) (hts (.instantiable RX4 3) (List.mem_of_getElem? (i := 10) rfl)) (hts (.initialized RX4) (List.mem_of_getElem? (i := 11) rfl)) hG.1 hP hD hS hA rfl (fun j hj => by rcases (show j = 0 ∨ j = 1 ∨ j = 2 by omega) with rfl | rfl | rfl <;> rfl) (Nat.le_of_ble_eq_true rfl) (Nat.le_of_ble_eq_true rfl) dX6_init_27 (fun q4 H hP hD hS => ?_)
  have hP : va_P (dC, dI) vwCl ([(h, .inr (4, [.ref (g1 0), .ref (g3 0), .null, .null, .null, .null]))] ++ wDrv cI g1 ds0 ++ wDrv cI g3 ds0 ++ [(q4, .inr (3, [.null, .int 0, .int 0]))] : va_W) H := hP
  have hD : va_D A ([(h, .inr (4, [.ref (g1 0), .ref (g3 0), .null, .null, .null, .null]))] ++ wDrv cI g1 ds0 ++ wDrv cI g3 ds0 ++ [(q4, .inr (3, [.null, .int 0, .int 0]))] : va_W) := hD
  refine lv_dup hx hb dX6_init_30 rfl ?_
  refine wk_callI (wr := ([(h, .inr (4, [.ref (g1 0), .ref (g3 0), .null, .null, .null, .null]))] ++ wDrv cI g1 ds0 ++ wDrv cI g3 ds0 : va_W)) (va_runI (As := []) (rest := [.ref q4, .ref h]) ⟨hx, hb, hml, hown, hts⟩ (c_X4_init l dC dI cI cD cJ kk q4 H) (cwI 0 hts gX6_init_X4_init rfl rfl rfl (hts (.initialized RX4) (List.mem_of_getElem? (i := 11) rfl)) (hts (.methodLink RX6 21 yX4_init) (List.mem_of_getElem? (i := 45) rfl)) (hts (.instanceMethod yX4_init) (List.mem_of_getElem? (i := 46) rfl)) rfl (by decide +kernel) ⟨(Nat.le_of_ble_eq_true rfl), (Nat.le_of_ble_eq_true rfl)⟩) (wk_preS hG hP hD [11] rfl rfl) rfl rfl hl.1 rfl (lv_room (Nat.le_of_ble_eq_true rfl)) dX6_init_31 ⟨(Nat.le_of_ble_eq_true rfl), (Nat.le_of_ble_eq_true rfl)⟩) hP hD hS hA [11] [0, 1, 2, 3, 4, 5, 6, 7, 8, 9, 10] rfl rfl rfl (by decide) (fun g5 H locs hg hPn hDn hSn => ?_)
  subst hg
  have hP := hPn
  have hD := hDn
  have hS := hSn
  have hP : va_P (dC, dI) vwCl ([(h, .inr (4, [.ref (g1 0), .ref (g3 0), .null, .null, .null, .null]))] ++ wDrv cI g1 ds0 ++ wDrv cI g3 ds0 ++ wHis cI cD g5 hs0 : va_W) H := hP
  have hD : va_D A ([(h, .inr (4, [.ref (g1 0), .ref (g3 0), .null, .null, .null, .null]))] ++ wDrv cI g1 ds0 ++ wDrv cI g3 ds0 ++ wHis cI cD g5 hs0 : va_W) := hD
  refine va_putF (D := (dC, dI)) (ci := 4) (v := .ref (g5 0)) (ty := .object "WokenDrive$History") (C := RX6) (T := TX6) (N := 6) hx hb hts inX6 tyX6 tyX6_ok nmX6 hown hG.1 hP hD hS 0 rfl rfl 2 (by decide) (hts (.fieldLink RX6 22 "WokenDrive" "history" "LWokenDrive$History;") (List.mem_of_getElem? (i := 12) rfl)) (fun _ h9 => h9) rfl hin rfl (by decide +kernel) rfl rfl (Nat.le_of_ble_eq_true rfl) dX6_init_34 (fun H locs hP hD hS => ?_)
  have hP : va_P (dC, dI) vwCl ([(h, .inr (4, [.ref (g1 0), .ref (g3 0), .ref (g5 0), .null, .null, .null]))] ++ wDrv cI g1 ds0 ++ wDrv cI g3 ds0 ++ wHis cI cD g5 hs0 : va_W) H := hP
  have hD : va_D A ([(h, .inr (4, [.ref (g1 0), .ref (g3 0), .ref (g5 0), .null, .null, .null]))] ++ wDrv cI g1 ds0 ++ wDrv cI g3 ds0 ++ wHis cI cD g5 hs0 : va_W) := hD
  refine lv_aload_n hx hb dX6_init_37 rfl (lv_at hl 0 rfl) ?_
  refine va_new (ci := 0) (fs := [.null, .null, .int 0, .int 0, .null]) (C := RX1) (T := TX1) (N := 5) hx hb hts inX1 tyX1 tyX1_ok hown (hts (.classLink RX6 26 RX1) (List.mem_of_getElem? (i := 13) rfl)) (hts (.instantiable RX1 5) (List.mem_of_getElem? (i := 14) rfl)) (hts (.initialized RX1) (List.mem_of_getElem? (i := 15) rfl)) hG.1 hP hD hS hA rfl (fun j hj => by rcases (show j = 0 ∨ j = 1 ∨ j = 2 ∨ j = 3 ∨ j = 4 by omega) with rfl | rfl | rfl | rfl | rfl <;> rfl) (Nat.le_of_ble_eq_true rfl) (Nat.le_of_ble_eq_true rfl) dX6_init_38 (fun q6 H hP hD hS => ?_)
  have hP : va_P (dC, dI) vwCl ([(h, .inr (4, [.ref (g1 0), .ref (g3 0), .ref (g5 0), .null, .null, .null]))] ++ wDrv cI g1 ds0 ++ wDrv cI g3 ds0 ++ wHis cI cD g5 hs0 ++ [(q6, .inr (0, [.null, .null, .int 0, .int 0, .null]))] : va_W) H := hP
  have hD : va_D A ([(h, .inr (4, [.ref (g1 0), .ref (g3 0), .ref (g5 0), .null, .null, .null]))] ++ wDrv cI g1 ds0 ++ wDrv cI g3 ds0 ++ wHis cI cD g5 hs0 ++ [(q6, .inr (0, [.null, .null, .int 0, .int 0, .null]))] : va_W) := hD
  refine lv_dup hx hb dX6_init_41 rfl ?_
  refine wk_callI (wr := ([(h, .inr (4, [.ref (g1 0), .ref (g3 0), .ref (g5 0), .null, .null, .null]))] ++ wDrv cI g1 ds0 ++ wDrv cI g3 ds0 ++ wHis cI cD g5 hs0 : va_W)) (va_runIN (As := []) (rest := [.ref q6, .ref h]) ⟨hx, hb, hml, hown, hts⟩ (c_X1_init l dC dI cI cD cJ kk q6 H) ⟨va_cnB 0 hts gX6_init_X1_init_n28 rfl rfl rfl (hG.2 _ (List.mem_of_getElem? (i := 1) rfl)) (hts (.initialized RX1) (List.mem_of_getElem? (i := 15) rfl)) (by decide +kernel) ⟨(Nat.le_of_ble_eq_true rfl), (Nat.le_of_ble_eq_true rfl)⟩, rfl, (hts (.instanceMethod yX1_init) (List.mem_of_getElem? (i := 53) rfl))⟩ (wk_preS hG hP hD [33] rfl rfl) rfl rfl hl.1 rfl (lv_room (Nat.le_of_ble_eq_true rfl)) dX6_init_42 ⟨(Nat.le_of_ble_eq_true rfl), (Nat.le_of_ble_eq_true rfl)⟩) hP hD hS hA [33] [0, 1, 2, 3, 4, 5, 6, 7, 8, 9, 10, 11, 12, 13, 14, 15, 16, 17, 18, 19, 20, 21, 22, 23, 24, 25, 26, 27, 28, 29, 30, 31, 32] rfl rfl rfl (by decide) (fun g7 H locs hg hPn hDn hSn => ?_)
  subst hg
  have hP := hPn
  have hD := hDn
  have hS := hSn
  have hP : va_P (dC, dI) vwCl ([(h, .inr (4, [.ref (g1 0), .ref (g3 0), .ref (g5 0), .null, .null, .null]))] ++ wDrv cI g1 ds0 ++ wDrv cI g3 ds0 ++ wHis cI cD g5 hs0 ++ wTxt cI kk.1 g7 ts0 : va_W) H := hP
  have hD : va_D A ([(h, .inr (4, [.ref (g1 0), .ref (g3 0), .ref (g5 0), .null, .null, .null]))] ++ wDrv cI g1 ds0 ++ wDrv cI g3 ds0 ++ wHis cI cD g5 hs0 ++ wTxt cI kk.1 g7 ts0 : va_W) := hD
  refine va_putF (D := (dC, dI)) (ci := 4) (v := .ref (g7 0)) (ty := .object "WokenDrive$CommandText") (C := RX6) (T := TX6) (N := 6) hx hb hts inX6 tyX6 tyX6_ok nmX6 hown hG.1 hP hD hS 0 rfl rfl 3 (by decide) (hts (.fieldLink RX6 29 "WokenDrive" "text" "LWokenDrive$CommandText;") (List.mem_of_getElem? (i := 16) rfl)) (fun _ h9 => h9) rfl hin rfl (by decide +kernel) rfl rfl (Nat.le_of_ble_eq_true rfl) dX6_init_45 (fun H locs hP hD hS => ?_)
  have hP : va_P (dC, dI) vwCl ([(h, .inr (4, [.ref (g1 0), .ref (g3 0), .ref (g5 0), .ref (g7 0), .null, .null]))] ++ wDrv cI g1 ds0 ++ wDrv cI g3 ds0 ++ wHis cI cD g5 hs0 ++ wTxt cI kk.1 g7 ts0 : va_W) H := hP
  have hD : va_D A ([(h, .inr (4, [.ref (g1 0), .ref (g3 0), .ref (g5 0), .ref (g7 0), .null, .null]))] ++ wDrv cI g1 ds0 ++ wDrv cI g3 ds0 ++ wHis cI cD g5 hs0 ++ wTxt cI kk.1 g7 ts0 : va_W) := hD
  refine lv_aload_n hx hb dX6_init_48 rfl (lv_at hl 0 rfl) ?_
  refine lv_bipush (v := 16) hx hb dX6_init_49 (by decide) ?_
  refine wk_newa hx hb (hts (.arrayClass .int) (List.mem_of_getElem? (i := 17) rfl)) hG hP hD hS hA 16 (by decide) (by decide) (by decide) (Nat.le_of_ble_eq_true rfl) (Nat.le_of_ble_eq_true rfl) dX6_init_51 (fun q8 H hP hD hS => ?_)
  have hP : va_P (dC, dI) vwCl ([(h, .inr (4, [.ref (g1 0), .ref (g3 0), .ref (g5 0), .ref (g7 0), .null, .null]))] ++ wDrv cI g1 ds0 ++ wDrv cI g3 ds0 ++ wHis cI cD g5 hs0 ++ wTxt cI kk.1 g7 ts0 ++ [(q8, .inl (cI, 16, .inl (fun _ => 0)))] : va_W) H := hP
  have hD : va_D A ([(h, .inr (4, [.ref (g1 0), .ref (g3 0), .ref (g5 0), .ref (g7 0), .null, .null]))] ++ wDrv cI g1 ds0 ++ wDrv cI g3 ds0 ++ wHis cI cD g5 hs0 ++ wTxt cI kk.1 g7 ts0 ++ [(q8, .inl (cI, 16, .inl (fun _ => 0)))] : va_W) := hD
  refine va_putF (D := (dC, dI)) (ci := 4) (v := .ref q8) (ty := .array .int) (C := RX6) (T := TX6) (N := 6) hx hb hts inX6 tyX6 tyX6_ok nmX6 hown hG.1 hP hD hS 0 rfl rfl 4 (by decide) (hts (.fieldLink RX6 33 "WokenDrive" "finals" "[I") (List.mem_of_getElem? (i := 18) rfl)) (fun _ h9 => h9) rfl hin rfl (by decide +kernel) rfl rfl (Nat.le_of_ble_eq_true rfl) dX6_init_53 (fun H locs hP hD hS => ?_)
  have hP : va_P (dC, dI) vwCl ([(h, .inr (4, [.ref (g1 0), .ref (g3 0), .ref (g5 0), .ref (g7 0), .ref q8, .null]))] ++ wDrv cI g1 ds0 ++ wDrv cI g3 ds0 ++ wHis cI cD g5 hs0 ++ wTxt cI kk.1 g7 ts0 ++ [(q8, .inl (cI, 16, .inl (fun _ => 0)))] : va_W) H := hP
  have hD : va_D A ([(h, .inr (4, [.ref (g1 0), .ref (g3 0), .ref (g5 0), .ref (g7 0), .ref q8, .null]))] ++ wDrv cI g1 ds0 ++ wDrv cI g3 ds0 ++ wHis cI cD g5 hs0 ++ wTxt cI kk.1 g7 ts0 ++ [(q8, .inl (cI, 16, .inl (fun _ => 0)))] : va_W) := hD
  refine lv_aload_n hx hb dX6_init_56 rfl (lv_at hl 0 rfl) ?_
  refine lv_bipush (v := 40) hx hb dX6_init_57 (by decide) ?_
  refine wk_newa hx hb (hts (.arrayClass .int) (List.mem_of_getElem? (i := 17) rfl)) hG hP hD hS hA 40 (by decide) (by decide) (by decide) (Nat.le_of_ble_eq_true rfl) (Nat.le_of_ble_eq_true rfl) dX6_init_59 (fun q9 H hP hD hS => ?_)
  have hP : va_P (dC, dI) vwCl ([(h, .inr (4, [.ref (g1 0), .ref (g3 0), .ref (g5 0), .ref (g7 0), .ref q8, .null]))] ++ wDrv cI g1 ds0 ++ wDrv cI g3 ds0 ++ wHis cI cD g5 hs0 ++ wTxt cI kk.1 g7 ts0 ++ [(q8, .inl (cI, 16, .inl (fun _ => 0))), (q9, .inl (cI, 40, .inl (fun _ => 0)))] : va_W) H := hP
  have hD : va_D A ([(h, .inr (4, [.ref (g1 0), .ref (g3 0), .ref (g5 0), .ref (g7 0), .ref q8, .null]))] ++ wDrv cI g1 ds0 ++ wDrv cI g3 ds0 ++ wHis cI cD g5 hs0 ++ wTxt cI kk.1 g7 ts0 ++ [(q8, .inl (cI, 16, .inl (fun _ => 0))), (q9, .inl (cI, 40, .inl (fun _ => 0)))] : va_W) := hD
  refine va_putF (D := (dC, dI)) (ci := 4) (v := .ref q9) (ty := .array .int) (C := RX6) (T := TX6) (N := 6) hx hb hts inX6 tyX6 tyX6_ok nmX6 hown hG.1 hP hD hS 0 rfl rfl 5 (by decide) (hts (.fieldLink RX6 37 "WokenDrive" "depths" "[I") (List.mem_of_getElem? (i := 19) rfl)) (fun _ h9 => h9) rfl hin rfl (by decide +kernel) rfl rfl (Nat.le_of_ble_eq_true rfl) dX6_init_61 (fun H locs hP hD hS => ?_)
  have hP : va_P (dC, dI) vwCl ([(h, .inr (4, [.ref (g1 0), .ref (g3 0), .ref (g5 0), .ref (g7 0), .ref q8, .ref q9]))] ++ wDrv cI g1 ds0 ++ wDrv cI g3 ds0 ++ wHis cI cD g5 hs0 ++ wTxt cI kk.1 g7 ts0 ++ [(q8, .inl (cI, 16, .inl (fun _ => 0))), (q9, .inl (cI, 40, .inl (fun _ => 0)))] : va_W) H := hP
  have hD : va_D A ([(h, .inr (4, [.ref (g1 0), .ref (g3 0), .ref (g5 0), .ref (g7 0), .ref q8, .ref q9]))] ++ wDrv cI g1 ds0 ++ wDrv cI g3 ds0 ++ wHis cI cD g5 hs0 ++ wTxt cI kk.1 g7 ts0 ++ [(q8, .inl (cI, 16, .inl (fun _ => 0))), (q9, .inl (cI, 40, .inl (fun _ => 0)))] : va_W) := hD
  have hP := wk_setq hP (k := 12) (f' := (fun i => some ((fun n => [h, g1 0, g1 1, g1 2, g1 3, g1 4, g3 0, g3 1, g3 2, g3 3, g3 4, g5 0, g5 1, g5 2, g5 3, g5 4, g5 5, g5 6, g5 7, g5 8, g5 9, g5 10, g5 11, g5 12, g5 13, g5 14, g5 15, g5 16, g5 17, g5 18, g5 19, g5 20, g5 21, g7 0, g7 1, g7 2, q8, q9].getD n 0) (11 + (2 + 5 * i))))) rfl (fun i hi => by rcases (show i = 0 ∨ i = 1 ∨ i = 2 ∨ i = 3 by omega) with rfl | rfl | rfl | rfl <;> rfl)
  have hD := hD.set (p := 12) (e := .inl (cD, 4, .inr (.inr (.inr (.inr (fun i => some ((fun n => [h, g1 0, g1 1, g1 2, g1 3, g1 4, g3 0, g3 1, g3 2, g3 3, g3 4, g5 0, g5 1, g5 2, g5 3, g5 4, g5 5, g5 6, g5 7, g5 8, g5 9, g5 10, g5 11, g5 12, g5 13, g5 14, g5 15, g5 16, g5 17, g5 18, g5 19, g5 20, g5 21, g7 0, g7 1, g7 2, q8, q9].getD n 0) (11 + (2 + 5 * i)))))))) ) (a := g5 1) (e0 := .inl (cD, 4, .inr (.inr (.inr (.inr (fun i => some (g5 (2 + 5 * i)))))))) rfl
  have hP : va_P (dC, dI) vwCl (wSys cI cD kk.1 (fun n => [h, g1 0, g1 1, g1 2, g1 3, g1 4, g3 0, g3 1, g3 2, g3 3, g3 4, g5 0, g5 1, g5 2, g5 3, g5 4, g5 5, g5 6, g5 7, g5 8, g5 9, g5 10, g5 11, g5 12, g5 13, g5 14, g5 15, g5 16, g5 17, g5 18, g5 19, g5 20, g5 21, g7 0, g7 1, g7 2, q8, q9].getD n 0) ss0) H := hP.sub [0, 1, 2, 3, 4, 5, 6, 7, 8, 9, 10, 11, 12, 13, 14, 15, 16, 17, 18, 19, 20, 21, 22, 23, 24, 25, 26, 27, 28, 29, 30, 31, 32, 33, 34, 35, 36, 37] rfl
  have hD : va_D A (wSys cI cD kk.1 (fun n => [h, g1 0, g1 1, g1 2, g1 3, g1 4, g3 0, g3 1, g3 2, g3 3, g3 4, g5 0, g5 1, g5 2, g5 3, g5 4, g5 5, g5 6, g5 7, g5 8, g5 9, g5 10, g5 11, g5 12, g5 13, g5 14, g5 15, g5 16, g5 17, g5 18, g5 19, g5 20, g5 21, g7 0, g7 1, g7 2, q8, q9].getD n 0) ss0) := hD.sub [0, 1, 2, 3, 4, 5, 6, 7, 8, 9, 10, 11, 12, 13, 14, 15, 16, 17, 18, 19, 20, 21, 22, 23, 24, 25, 26, 27, 28, 29, 30, 31, 32, 33, 34, 35, 36, 37] rfl rfl
  exact wk_retI (fun n => [h, g1 0, g1 1, g1 2, g1 3, g1 4, g3 0, g3 1, g3 2, g3 3, g3 4, g5 0, g5 1, g5 2, g5 3, g5 4, g5 5, g5 6, g5 7, g5 8, g5 9, g5 10, g5 11, g5 12, g5 13, g5 14, g5 15, g5 16, g5 17, g5 18, g5 19, g5 20, g5 21, g7 0, g7 1, g7 2, q8, q9].getD n 0) hx hb hr hlocks hQ rfl hP hD hS (Nat.le_of_ble_eq_true rfl) (Nat.le_of_ble_eq_true rfl) dX6_init_64
