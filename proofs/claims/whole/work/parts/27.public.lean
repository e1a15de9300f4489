/-! PART 27: the public methods that may throw -/
set_option maxHeartbeats 4000000 in
set_option maxRecDepth 100000 in
theorem c_X6_order (l : Launch) (hflags : l.stackTraces = false) (dC : Nat → ClassId) (dI : Nat → Nat → Nat) (cI cD cJ : ClassId) (kk : wAd) (g : Nat → Nat) (x : SS) (p1 : Int32) (p2 : Int32) (p3 : Int32) (p4 : Int32) (p5 : Int32) (out : Int32 ⊕ (Int32 × SS)) (hM : M_X6_order x p1 p2 p3 p4 p5 = some out) : CX kk l yX6_order wsX6_order ({ frames := 7, cells := 1, slots := 6, locals := 103 } : Room) dC dI (wTys cI cD cJ) [.ref (g 0), .int p1, .int p2, .int p3, .int p4, .int p5] (wSys cI cD kk.1 g x) (outX out (fun r => (some (.int r.1), (wSys cI cD kk.1 g r.2)))) 1 6 := by
  refine wk_enterX (cc := cX6_order) (maxL := 6) (ret := (some .int)) (by decide) rfl (Nat.le_of_ble_eq_true rfl) ?_
  intro p e s m below meth c A Q ls hB hno hT hA hP hD hQ hl
  obtain ⟨hx, hb, hml, hr, hts, hown, hname, hlocks, hG⟩ := hB
  have hown : s.vm.findClass RX6 = some m.cls := hown
  have hS : va_S A s.heap s.heap [] := va_S.rf
  have hl : lv_has ls 6 [(0, .ref (g 0)), (1, .int p1), (2, .int p2), (3, .int p3), (4, .int p4), (5, .int p5)] := hl
  have inX6 : ∀ w ∈ wsX60, w ∈ wsX6_order := fun _ h => List.mem_cons_of_mem _ (List.mem_append_left _ (List.mem_append_left _ (List.mem_append_left _ (List.mem_append_left _ (List.mem_append_left _ (List.mem_append_left _ (List.mem_append_right _ h)))))))
  obtain ⟨H, hH⟩ : ∃ z, z = s.heap := ⟨_, rfl⟩
  have hP : va_P (dC, dI) vwCl (wSys cI cD kk.1 g x) H := by rw [hH]; exact hP
  have hS : va_S A s.heap H [] := by rw [hH]; exact hS
  refine wk_at hH ?_
  generalize ([] : List Loc) = locs at hS ⊢
  unfold M_X6_order at hM
  refine lv_aload_n hx hb dX6_order_0 rfl (lv_at hl 0 rfl) ?_
  refine va_get (D := (dC, dI)) (ci := 4) (v := .ref ((fun i => g (1 + i)) 0)) (C := RX6) (T := TX6) (N := 6) hx hb hts inX6 hown hG.1 hP 0 rfl rfl 0 (by decide) (hts (.fieldLink RX6 10 "WokenDrive" "drive" "LWokenDrive$Drive;") (List.mem_of_getElem? (i := 1) rfl)) (fun _ h9 => h9) rfl dX6_order_1 ?_
  refine lv_iload_n hx hb dX6_order_4 rfl (lv_at hl 1 rfl) ?_
  refine lv_iload_n hx hb dX6_order_5 rfl (lv_at hl 2 rfl) ?_
  refine lv_iload_n hx hb dX6_order_6 rfl (lv_at hl 3 rfl) ?_
  refine lv_iload hx hb dX6_order_7 (lv_at hl 4 rfl) ?_
  refine lv_iload hx hb dX6_order_9 (lv_at hl 5 rfl) ?_
  obtain ⟨r1, hr1, hM⟩ := ob hM
  refine wk_callP (va_runV (As := [.int p1, .int p2, .int p3, .int p4, .int p5]) (rest := []) ⟨hx, hb, hml, hown, hts⟩ (c_X3_faultOfTelling l dC dI cI cD cJ kk (fun i => g (1 + i)) (ss_drv x) p1 p2 p3 p4 p5 _ hr1 H) (cwV 5 hts gX6_order_X3_faultOfTelling rfl rfl rfl (by decide +kernel) ⟨Nat.le_of_ble_eq_true rfl, Nat.le_of_ble_eq_true rfl⟩) (wk_preV (ci := 2) (q0 := 1) hG hP hD [1, 2, 3, 4, 5] rfl rfl rfl rfl) rfl rfl hl.1 rfl (lv_room (Nat.le_of_ble_eq_true rfl)) dX6_order_11 ⟨Nat.le_of_ble_eq_true rfl, Nat.le_of_ble_eq_true rfl⟩) hS (fun locs hS => ?_)
  by_cases c2 : rfs r1 = true
  · replace hM := (if_pos c2).symm.trans hM
    refine wk_callX (vx_runS (As := [.int r1]) (rest := []) ⟨hx, hb, hml, hown, hts⟩ (c_X6_refuse l hflags dC dI cI cD cJ kk r1 _ (if_pos c2).symm H) (va_cwS 1 hts gX6_order_X6_refuse rfl rfl rfl (by decide +kernel) ⟨Nat.le_of_ble_eq_true rfl, Nat.le_of_ble_eq_true rfl⟩) (wk_preST hG hP hD hT hS [] rfl rfl (va_free hD hS hA [] rfl)) rfl rfl hl.1 rfl (lv_room (Nat.le_of_ble_eq_true rfl)) dX6_order_14 ⟨Nat.le_of_ble_eq_true rfl, Nat.le_of_ble_eq_true rfl⟩) hP hD hS hA [] [0, 1, 2, 3, 4, 5, 6, 7, 8, 9, 10, 11, 12, 13, 14, 15, 16, 17, 18, 19, 20, 21, 22, 23, 24, 25, 26, 27, 28, 29, 30, 31, 32, 33, 34, 35, 36, 37] [0, 1, 2, 3, 4, 5, 6, 7, 8, 9, 10, 11, 12, 13, 14, 15, 16, 17, 18, 19, 20, 21, 22, 23, 24, 25, 26, 27, 28, 29, 30, 31, 32, 33, 34, 35, 36, 37] rfl rfl rfl (by decide) rfl rfl (fun f9 ce q9 H locs ho9 hP hD hS hc9 hv9 hf9 => ?_) (fun ov w1 ho9 => by cases ho9)
    cases ho9
    replace hM := Option.some.inj hM
    subst hM
    exact wk_outX hno hlocks hQ rfl hP hD hS (Nat.le_of_ble_eq_true rfl) (Nat.le_of_ble_eq_true rfl) hc9 hv9 hf9
  replace hM := (if_neg c2).symm.trans hM
  refine wk_callX (vx_runS (As := [.int r1]) (rest := []) ⟨hx, hb, hml, hown, hts⟩ (c_X6_refuse l hflags dC dI cI cD cJ kk r1 _ (if_neg c2).symm H) (va_cwS 1 hts gX6_order_X6_refuse rfl rfl rfl (by decide +kernel) ⟨Nat.le_of_ble_eq_true rfl, Nat.le_of_ble_eq_true rfl⟩) (wk_preST hG hP hD hT hS [] rfl rfl (va_free hD hS hA [] rfl)) rfl rfl hl.1 rfl (lv_room (Nat.le_of_ble_eq_true rfl)) dX6_order_14 ⟨Nat.le_of_ble_eq_true rfl, Nat.le_of_ble_eq_true rfl⟩) hP hD hS hA [] [0, 1, 2, 3, 4, 5, 6, 7, 8, 9, 10, 11, 12, 13, 14, 15, 16, 17, 18, 19, 20, 21, 22, 23, 24, 25, 26, 27, 28, 29, 30, 31, 32, 33, 34, 35, 36, 37] [0, 1, 2, 3, 4, 5, 6, 7, 8, 9, 10, 11, 12, 13, 14, 15, 16, 17, 18, 19, 20, 21, 22, 23, 24, 25, 26, 27, 28, 29, 30, 31, 32, 33, 34, 35, 36, 37] rfl rfl rfl (by decide) rfl rfl (fun f9 ce q9 H locs ho9 hP hD hS hc9 hv9 hf9 => by cases ho9) (fun ov w1 ho9 H locs hPD hS => ?_)
  cases ho9
  obtain ⟨hP, hD⟩ := hPD (wSys cI cD kk.1 g x) rfl
  refine lv_aload_n hx hb dX6_order_17 rfl (lv_at hl 0 rfl) ?_
  refine va_get (D := (dC, dI)) (ci := 4) (v := .ref ((fun i => g (11 + i)) 0)) (C := RX6) (T := TX6) (N := 6) hx hb hts inX6 hown hG.1 hP 0 rfl rfl 2 (by decide) (hts (.fieldLink RX6 22 "WokenDrive" "history" "LWokenDrive$History;") (List.mem_of_getElem? (i := 2) rfl)) (fun _ h9 => h9) rfl dX6_order_18 ?_
  refine lv_aload_n hx hb dX6_order_21 rfl (lv_at hl 0 rfl) ?_
  refine va_get (D := (dC, dI)) (ci := 4) (v := .ref ((fun i => g (1 + i)) 0)) (C := RX6) (T := TX6) (N := 6) hx hb hts inX6 hown hG.1 hP 0 rfl rfl 0 (by decide) (hts (.fieldLink RX6 10 "WokenDrive" "drive" "LWokenDrive$Drive;") (List.mem_of_getElem? (i := 1) rfl)) (fun _ h9 => h9) rfl dX6_order_22 ?_
  obtain ⟨r3, hr3, hM⟩ := tbE hM
  obtain ⟨y_4, hy_4, hM⟩ := tbE hM
  refine wk_callM (ws' := (wSys cI cD kk.1 g (ss_his_s x r3))) (va_runV (As := [.ref ((fun i => g (1 + i)) 0)]) (rest := []) ⟨hx, hb, hml, hown, hts⟩ (c_X4_save l dC dI cI cD cJ kk (fun i => g (11 + i)) (fun i => g (1 + i)) (ss_his x) (ss_drv x) _ hr3.symm H) (cwV 1 hts gX6_order_X4_save rfl rfl rfl (by decide +kernel) ⟨Nat.le_of_ble_eq_true rfl, Nat.le_of_ble_eq_true rfl⟩) (wk_preV (ci := 3) (q0 := 11) hG hP hD [11, 12, 13, 14, 15, 16, 17, 18, 19, 20, 21, 22, 23, 24, 25, 26, 27, 28, 29, 30, 31, 32, 1, 2, 3, 4, 5] rfl rfl rfl rfl) rfl rfl hl.1 rfl (lv_room (Nat.le_of_ble_eq_true rfl)) dX6_order_25 ⟨Nat.le_of_ble_eq_true rfl, Nat.le_of_ble_eq_true rfl⟩) hP hD hS hA [11, 12, 13, 14, 15, 16, 17, 18, 19, 20, 21, 22, 23, 24, 25, 26, 27, 28, 29, 30, 31, 32, 1, 2, 3, 4, 5] [0, 6, 7, 8, 9, 10, 33, 34, 35, 36, 37] [0, 33, 34, 35, 36, 37, 1, 2, 3, 4, 5, 11, 12, 13, 14, 15, 16, 17, 18, 19, 20, 21, 22, 23, 24, 25, 26, 27, 28, 29, 30, 31, 32, 6, 7, 8, 9, 10] rfl rfl rfl (by decide) rfl rfl (fun H locs hP hD hS => ?_)
  have hP : va_P (dC, dI) vwCl (wSys cI cD kk.1 g y_4) H := by rw [hy_4]; exact hP
  have hD : va_D A (wSys cI cD kk.1 g y_4) := by rw [hy_4]; exact hD
  refine lv_aload_n hx hb dX6_order_28 rfl (lv_at hl 0 rfl) ?_
  refine va_get (D := (dC, dI)) (ci := 4) (v := .ref ((fun i => g (1 + i)) 0)) (C := RX6) (T := TX6) (N := 6) hx hb hts inX6 hown hG.1 hP 0 rfl rfl 0 (by decide) (hts (.fieldLink RX6 10 "WokenDrive" "drive" "LWokenDrive$Drive;") (List.mem_of_getElem? (i := 1) rfl)) (fun _ h9 => h9) rfl dX6_order_29 ?_
  refine lv_iload_n hx hb dX6_order_32 rfl (lv_at hl 1 rfl) ?_
  refine lv_iload_n hx hb dX6_order_33 rfl (lv_at hl 2 rfl) ?_
  refine lv_iload_n hx hb dX6_order_34 rfl (lv_at hl 3 rfl) ?_
  refine lv_iload hx hb dX6_order_35 (lv_at hl 4 rfl) ?_
  refine lv_iload hx hb dX6_order_37 (lv_at hl 5 rfl) ?_
  obtain ⟨r5, hr5, hM⟩ := ob hM
  refine wk_callM (ws' := (wSys cI cD kk.1 g (ss_drv_s y_4 r5.2))) (va_runV (As := [.int p1, .int p2, .int p3, .int p4, .int p5]) (rest := []) ⟨hx, hb, hml, hown, hts⟩ (c_X3_tell l dC dI cI cD cJ kk (fun i => g (1 + i)) (ss_drv y_4) p1 p2 p3 p4 p5 _ hr5 H) (cwV 5 hts gX6_order_X3_tell rfl rfl rfl (by decide +kernel) ⟨Nat.le_of_ble_eq_true rfl, Nat.le_of_ble_eq_true rfl⟩) (wk_preV (ci := 2) (q0 := 1) hG hP hD [1, 2, 3, 4, 5] rfl rfl rfl rfl) rfl rfl hl.1 rfl (lv_room (Nat.le_of_ble_eq_true rfl)) dX6_order_39 ⟨Nat.le_of_ble_eq_true rfl, Nat.le_of_ble_eq_true rfl⟩) hP hD hS hA [1, 2, 3, 4, 5] [0, 6, 7, 8, 9, 10, 11, 12, 13, 14, 15, 16, 17, 18, 19, 20, 21, 22, 23, 24, 25, 26, 27, 28, 29, 30, 31, 32, 33, 34, 35, 36, 37] [0, 33, 34, 35, 36, 37, 1, 2, 3, 4, 5, 6, 7, 8, 9, 10, 11, 12, 13, 14, 15, 16, 17, 18, 19, 20, 21, 22, 23, 24, 25, 26, 27, 28, 29, 30, 31, 32] rfl rfl rfl (by decide) rfl rfl (fun H locs hP hD hS => ?_)
  replace hM := Option.some.inj hM
  subst hM
  exact wk_retXi hx hb hr hlocks hQ rfl rfl hP hD hS (Nat.le_of_ble_eq_true rfl) (Nat.le_of_ble_eq_true rfl) dX6_order_42
set_option maxHeartbeats 4000000 in
set_option maxRecDepth 100000 in
theorem c_X6_cancel (l : Launch) (hflags : l.stackTraces = false) (dC : Nat → ClassId) (dI : Nat → Nat → Nat) (cI cD cJ : ClassId) (kk : wAd) (g : Nat → Nat) (x : SS) (p1 : Int32) (p2 : Int32) (out : Int32 ⊕ (Int32 × SS)) (hM : M_X6_cancel x p1 p2 = some out) : CX kk l yX6_cancel wsX6_cancel ({ frames := 7, cells := 1, slots := 6, locals := 103 } : Room) dC dI (wTys cI cD cJ) [.ref (g 0), .int p1, .int p2] (wSys cI cD kk.1 g x) (outX out (fun r => (some (.int r.1), (wSys cI cD kk.1 g r.2)))) 1 6 := by
  refine wk_enterX (cc := cX6_cancel) (maxL := 3) (ret := (some .int)) (by decide) rfl (Nat.le_of_ble_eq_true rfl) ?_
  intro p e s m below meth c A Q ls hB hno hT hA hP hD hQ hl
  obtain ⟨hx, hb, hml, hr, hts, hown, hname, hlocks, hG⟩ := hB
  have hown : s.vm.findClass RX6 = some m.cls := hown
  have hS : va_S A s.heap s.heap [] := va_S.rf
  have hl : lv_has ls 3 [(0, .ref (g 0)), (1, .int p1), (2, .int p2)] := hl
  have inX6 : ∀ w ∈ wsX60, w ∈ wsX6_cancel := fun _ h => List.mem_cons_of_mem _ (List.mem_append_left _ (List.mem_append_left _ (List.mem_append_left _ (List.mem_append_left _ (List.mem_append_left _ (List.mem_append_left _ (List.mem_append_right _ h)))))))
  obtain ⟨H, hH⟩ : ∃ z, z = s.heap := ⟨_, rfl⟩
  have hP : va_P (dC, dI) vwCl (wSys cI cD kk.1 g x) H := by rw [hH]; exact hP
  have hS : va_S A s.heap H [] := by rw [hH]; exact hS
  refine wk_at hH ?_
  generalize ([] : List Loc) = locs at hS ⊢
  unfold M_X6_cancel at hM
  refine lv_aload_n hx hb dX6_cancel_0 rfl (lv_at hl 0 rfl) ?_
  refine va_get (D := (dC, dI)) (ci := 4) (v := .ref ((fun i => g (1 + i)) 0)) (C := RX6) (T := TX6) (N := 6) hx hb hts inX6 hown hG.1 hP 0 rfl rfl 0 (by decide) (hts (.fieldLink RX6 10 "WokenDrive" "drive" "LWokenDrive$Drive;") (List.mem_of_getElem? (i := 1) rfl)) (fun _ h9 => h9) rfl dX6_cancel_1 ?_
  refine lv_iload_n hx hb dX6_cancel_4 rfl (lv_at hl 1 rfl) ?_
  refine lv_iload_n hx hb dX6_cancel_5 rfl (lv_at hl 2 rfl) ?_
  obtain ⟨r1, hr1, hM⟩ := ob hM
  refine wk_callP (va_runV (As := [.int p1, .int p2]) (rest := []) ⟨hx, hb, hml, hown, hts⟩ (c_X3_faultOfCancelling l dC dI cI cD cJ kk (fun i => g (1 + i)) (ss_drv x) p1 p2 _ hr1 H) (cwV 2 hts gX6_cancel_X3_faultOfCancelling rfl rfl rfl (by decide +kernel) ⟨Nat.le_of_ble_eq_true rfl, Nat.le_of_ble_eq_true rfl⟩) (wk_preV (ci := 2) (q0 := 1) hG hP hD [1, 2, 3, 4, 5] rfl rfl rfl rfl) rfl rfl hl.1 rfl (lv_room (Nat.le_of_ble_eq_true rfl)) dX6_cancel_6 ⟨Nat.le_of_ble_eq_true rfl, Nat.le_of_ble_eq_true rfl⟩) hS (fun locs hS => ?_)
  by_cases c2 : rfs r1 = true
  · replace hM := (if_pos c2).symm.trans hM
    refine wk_callX (vx_runS (As := [.int r1]) (rest := []) ⟨hx, hb, hml, hown, hts⟩ (c_X6_refuse l hflags dC dI cI cD cJ kk r1 _ (if_pos c2).symm H) (va_cwS 1 hts gX6_cancel_X6_refuse rfl rfl rfl (by decide +kernel) ⟨Nat.le_of_ble_eq_true rfl, Nat.le_of_ble_eq_true rfl⟩) (wk_preST hG hP hD hT hS [] rfl rfl (va_free hD hS hA [] rfl)) rfl rfl hl.1 rfl (lv_room (Nat.le_of_ble_eq_true rfl)) dX6_cancel_9 ⟨Nat.le_of_ble_eq_true rfl, Nat.le_of_ble_eq_true rfl⟩) hP hD hS hA [] [0, 1, 2, 3, 4, 5, 6, 7, 8, 9, 10, 11, 12, 13, 14, 15, 16, 17, 18, 19, 20, 21, 22, 23, 24, 25, 26, 27, 28, 29, 30, 31, 32, 33, 34, 35, 36, 37] [0, 1, 2, 3, 4, 5, 6, 7, 8, 9, 10, 11, 12, 13, 14, 15, 16, 17, 18, 19, 20, 21, 22, 23, 24, 25, 26, 27, 28, 29, 30, 31, 32, 33, 34, 35, 36, 37] rfl rfl rfl (by decide) rfl rfl (fun f9 ce q9 H locs ho9 hP hD hS hc9 hv9 hf9 => ?_) (fun ov w1 ho9 => by cases ho9)
    cases ho9
    replace hM := Option.some.inj hM
    subst hM
    exact wk_outX hno hlocks hQ rfl hP hD hS (Nat.le_of_ble_eq_true rfl) (Nat.le_of_ble_eq_true rfl) hc9 hv9 hf9
  replace hM := (if_neg c2).symm.trans hM
  refine wk_callX (vx_runS (As := [.int r1]) (rest := []) ⟨hx, hb, hml, hown, hts⟩ (c_X6_refuse l hflags dC dI cI cD cJ kk r1 _ (if_neg c2).symm H) (va_cwS 1 hts gX6_cancel_X6_refuse rfl rfl rfl (by decide +kernel) ⟨Nat.le_of_ble_eq_true rfl, Nat.le_of_ble_eq_true rfl⟩) (wk_preST hG hP hD hT hS [] rfl rfl (va_free hD hS hA [] rfl)) rfl rfl hl.1 rfl (lv_room (Nat.le_of_ble_eq_true rfl)) dX6_cancel_9 ⟨Nat.le_of_ble_eq_true rfl, Nat.le_of_ble_eq_true rfl⟩) hP hD hS hA [] [0, 1, 2, 3, 4, 5, 6, 7, 8, 9, 10, 11, 12, 13, 14, 15, 16, 17, 18, 19, 20, 21, 22, 23, 24, 25, 26, 27, 28, 29, 30, 31, 32, 33, 34, 35, 36, 37] [0, 1, 2, 3, 4, 5, 6, 7, 8, 9, 10, 11, 12, 13, 14, 15, 16, 17, 18, 19, 20, 21, 22, 23, 24, 25, 26, 27, 28, 29, 30, 31, 32, 33, 34, 35, 36, 37] rfl rfl rfl (by decide) rfl rfl (fun f9 ce q9 H locs ho9 hP hD hS hc9 hv9 hf9 => by cases ho9) (fun ov w1 ho9 H locs hPD hS => ?_)
  cases ho9
  obtain ⟨hP, hD⟩ := hPD (wSys cI cD kk.1 g x) rfl
  refine lv_aload_n hx hb dX6_cancel_12 rfl (lv_at hl 0 rfl) ?_
  refine va_get (D := (dC, dI)) (ci := 4) (v := .ref ((fun i => g (11 + i)) 0)) (C := RX6) (T := TX6) (N := 6) hx hb hts inX6 hown hG.1 hP 0 rfl rfl 2 (by decide) (hts (.fieldLink RX6 22 "WokenDrive" "history" "LWokenDrive$History;") (List.mem_of_getElem? (i := 2) rfl)) (fun _ h9 => h9) rfl dX6_cancel_13 ?_
  refine lv_aload_n hx hb dX6_cancel_16 rfl (lv_at hl 0 rfl) ?_
  refine va_get (D := (dC, dI)) (ci := 4) (v := .ref ((fun i => g (1 + i)) 0)) (C := RX6) (T := TX6) (N := 6) hx hb hts inX6 hown hG.1 hP 0 rfl rfl 0 (by decide) (hts (.fieldLink RX6 10 "WokenDrive" "drive" "LWokenDrive$Drive;") (List.mem_of_getElem? (i := 1) rfl)) (fun _ h9 => h9) rfl dX6_cancel_17 ?_
  obtain ⟨r3, hr3, hM⟩ := tbE hM
  obtain ⟨y_4, hy_4, hM⟩ := tbE hM
  refine wk_callM (ws' := (wSys cI cD kk.1 g (ss_his_s x r3))) (va_runV (As := [.ref ((fun i => g (1 + i)) 0)]) (rest := []) ⟨hx, hb, hml, hown, hts⟩ (c_X4_save l dC dI cI cD cJ kk (fun i => g (11 + i)) (fun i => g (1 + i)) (ss_his x) (ss_drv x) _ hr3.symm H) (cwV 1 hts gX6_cancel_X4_save rfl rfl rfl (by decide +kernel) ⟨Nat.le_of_ble_eq_true rfl, Nat.le_of_ble_eq_true rfl⟩) (wk_preV (ci := 3) (q0 := 11) hG hP hD [11, 12, 13, 14, 15, 16, 17, 18, 19, 20, 21, 22, 23, 24, 25, 26, 27, 28, 29, 30, 31, 32, 1, 2, 3, 4, 5] rfl rfl rfl rfl) rfl rfl hl.1 rfl (lv_room (Nat.le_of_ble_eq_true rfl)) dX6_cancel_20 ⟨Nat.le_of_ble_eq_true rfl, Nat.le_of_ble_eq_true rfl⟩) hP hD hS hA [11, 12, 13, 14, 15, 16, 17, 18, 19, 20, 21, 22, 23, 24, 25, 26, 27, 28, 29, 30, 31, 32, 1, 2, 3, 4, 5] [0, 6, 7, 8, 9, 10, 33, 34, 35, 36, 37] [0, 33, 34, 35, 36, 37, 1, 2, 3, 4, 5, 11, 12, 13, 14, 15, 16, 17, 18, 19, 20, 21, 22, 23, 24, 25, 26, 27, 28, 29, 30, 31, 32, 6, 7, 8, 9, 10] rfl rfl rfl (by decide) rfl rfl (fun H locs hP hD hS => ?_)
  have hP : va_P (dC, dI) vwCl (wSys cI cD kk.1 g y_4) H := by rw [hy_4]; exact hP
  have hD : va_D A (wSys cI cD kk.1 g y_4) := by rw [hy_4]; exact hD
  refine lv_aload_n hx hb dX6_cancel_23 rfl (lv_at hl 0 rfl) ?_
  refine va_get (D := (dC, dI)) (ci := 4) (v := .ref ((fun i => g (1 + i)) 0)) (C := RX6) (T := TX6) (N := 6) hx hb hts inX6 hown hG.1 hP 0 rfl rfl 0 (by decide) (hts (.fieldLink RX6 10 "WokenDrive" "drive" "LWokenDrive$Drive;") (List.mem_of_getElem? (i := 1) rfl)) (fun _ h9 => h9) rfl dX6_cancel_24 ?_
  refine lv_iload_n hx hb dX6_cancel_27 rfl (lv_at hl 1 rfl) ?_
  refine lv_iload_n hx hb dX6_cancel_28 rfl (lv_at hl 2 rfl) ?_
  obtain ⟨r5, hr5, hM⟩ := ob hM
  refine wk_callM (ws' := (wSys cI cD kk.1 g (ss_drv_s y_4 r5.2))) (va_runV (As := [.int p1, .int p2]) (rest := []) ⟨hx, hb, hml, hown, hts⟩ (c_X3_callOff l dC dI cI cD cJ kk (fun i => g (1 + i)) (ss_drv y_4) p1 p2 _ hr5 H) (cwV 2 hts gX6_cancel_X3_callOff rfl rfl rfl (by decide +kernel) ⟨Nat.le_of_ble_eq_true rfl, Nat.le_of_ble_eq_true rfl⟩) (wk_preV (ci := 2) (q0 := 1) hG hP hD [1, 2, 3, 4, 5] rfl rfl rfl rfl) rfl rfl hl.1 rfl (lv_room (Nat.le_of_ble_eq_true rfl)) dX6_cancel_29 ⟨Nat.le_of_ble_eq_true rfl, Nat.le_of_ble_eq_true rfl⟩) hP hD hS hA [1, 2, 3, 4, 5] [0, 6, 7, 8, 9, 10, 11, 12, 13, 14, 15, 16, 17, 18, 19, 20, 21, 22, 23, 24, 25, 26, 27, 28, 29, 30, 31, 32, 33, 34, 35, 36, 37] [0, 33, 34, 35, 36, 37, 1, 2, 3, 4, 5, 6, 7, 8, 9, 10, 11, 12, 13, 14, 15, 16, 17, 18, 19, 20, 21, 22, 23, 24, 25, 26, 27, 28, 29, 30, 31, 32] rfl rfl rfl (by decide) rfl rfl (fun H locs hP hD hS => ?_)
  replace hM := Option.some.inj hM
  subst hM
  exact wk_retXi hx hb hr hlocks hQ rfl rfl hP hD hS (Nat.le_of_ble_eq_true rfl) (Nat.le_of_ble_eq_true rfl) dX6_cancel_32
set_option maxHeartbeats 4000000 in
set_option maxRecDepth 100000 in
theorem c_X6_wake (l : Launch) (hflags : l.stackTraces = false) (dC : Nat → ClassId) (dI : Nat → Nat → Nat) (cI cD cJ : ClassId) (kk : wAd) (g : Nat → Nat) (x : SS) (p1 : Int32) (out : Int32 ⊕ (Int32 × SS)) (hM : M_X6_wake x p1 = some out) : CX kk l yX6_wake wsX6_wake ({ frames := 7, cells := 1, slots := 6, locals := 103 } : Room) dC dI (wTys cI cD cJ) [.ref (g 0), .int p1] (wSys cI cD kk.1 g x) (outX out (fun r => (some (.int r.1), (wSys cI cD kk.1 g r.2)))) 1 6 := by
  refine wk_enterX (cc := cX6_wake) (maxL := 2) (ret := (some .int)) (by decide) rfl (Nat.le_of_ble_eq_true rfl) ?_
  intro p e s m below meth c A Q ls hB hno hT hA hP hD hQ hl
  obtain ⟨hx, hb, hml, hr, hts, hown, hname, hlocks, hG⟩ := hB
  have hown : s.vm.findClass RX6 = some m.cls := hown
  have hS : va_S A s.heap s.heap [] := va_S.rf
  have hl : lv_has ls 2 [(0, .ref (g 0)), (1, .int p1)] := hl
  have inX6 : ∀ w ∈ wsX60, w ∈ wsX6_wake := fun _ h => List.mem_cons_of_mem _ (List.mem_append_left _ (List.mem_append_left _ (List.mem_append_left _ (List.mem_append_left _ (List.mem_append_left _ (List.mem_append_left _ (List.mem_append_right _ h)))))))
  obtain ⟨H, hH⟩ : ∃ z, z = s.heap := ⟨_, rfl⟩
  have hP : va_P (dC, dI) vwCl (wSys cI cD kk.1 g x) H := by rw [hH]; exact hP
  have hS : va_S A s.heap H [] := by rw [hH]; exact hS
  refine wk_at hH ?_
  generalize ([] : List Loc) = locs at hS ⊢
  unfold M_X6_wake at hM
  refine lv_aload_n hx hb dX6_wake_0 rfl (lv_at hl 0 rfl) ?_
  refine va_get (D := (dC, dI)) (ci := 4) (v := .ref ((fun i => g (1 + i)) 0)) (C := RX6) (T := TX6) (N := 6) hx hb hts inX6 hown hG.1 hP 0 rfl rfl 0 (by decide) (hts (.fieldLink RX6 10 "WokenDrive" "drive" "LWokenDrive$Drive;") (List.mem_of_getElem? (i := 1) rfl)) (fun _ h9 => h9) rfl dX6_wake_1 ?_
  refine lv_iload_n hx hb dX6_wake_4 rfl (lv_at hl 1 rfl) ?_
  refine wk_callP (va_runV (As := [.int p1]) (rest := []) ⟨hx, hb, hml, hown, hts⟩ (c_X3_faultOfWaking l dC dI cI cD cJ kk (fun i => g (1 + i)) (ss_drv x) p1 _ rfl H) (cwV 1 hts gX6_wake_X3_faultOfWaking rfl rfl rfl (by decide +kernel) ⟨Nat.le_of_ble_eq_true rfl, Nat.le_of_ble_eq_true rfl⟩) (wk_preV (ci := 2) (q0 := 1) hG hP hD [1, 2, 3, 4, 5] rfl rfl rfl rfl) rfl rfl hl.1 rfl (lv_room (Nat.le_of_ble_eq_true rfl)) dX6_wake_5 ⟨Nat.le_of_ble_eq_true rfl, Nat.le_of_ble_eq_true rfl⟩) hS (fun locs hS => ?_)
  by_cases c1 : rfs (M_X3_faultOfWaking (ss_drv x) p1) = true
  · replace hM := (if_pos c1).symm.trans hM
    refine wk_callX (vx_runS (As := [.int (M_X3_faultOfWaking (ss_drv x) p1)]) (rest := []) ⟨hx, hb, hml, hown, hts⟩ (c_X6_refuse l hflags dC dI cI cD cJ kk (M_X3_faultOfWaking (ss_drv x) p1) _ (if_pos c1).symm H) (va_cwS 1 hts gX6_wake_X6_refuse rfl rfl rfl (by decide +kernel) ⟨Nat.le_of_ble_eq_true rfl, Nat.le_of_ble_eq_true rfl⟩) (wk_preST hG hP hD hT hS [] rfl rfl (va_free hD hS hA [] rfl)) rfl rfl hl.1 rfl (lv_room (Nat.le_of_ble_eq_true rfl)) dX6_wake_8 ⟨Nat.le_of_ble_eq_true rfl, Nat.le_of_ble_eq_true rfl⟩) hP hD hS hA [] [0, 1, 2, 3, 4, 5, 6, 7, 8, 9, 10, 11, 12, 13, 14, 15, 16, 17, 18, 19, 20, 21, 22, 23, 24, 25, 26, 27, 28, 29, 30, 31, 32, 33, 34, 35, 36, 37] [0, 1, 2, 3, 4, 5, 6, 7, 8, 9, 10, 11, 12, 13, 14, 15, 16, 17, 18, 19, 20, 21, 22, 23, 24, 25, 26, 27, 28, 29, 30, 31, 32, 33, 34, 35, 36, 37] rfl rfl rfl (by decide) rfl rfl (fun f9 ce q9 H locs ho9 hP hD hS hc9 hv9 hf9 => ?_) (fun ov w1 ho9 => by cases ho9)
    cases ho9
    replace hM := Option.some.inj hM
    subst hM
    exact wk_outX hno hlocks hQ rfl hP hD hS (Nat.le_of_ble_eq_true rfl) (Nat.le_of_ble_eq_true rfl) hc9 hv9 hf9
  replace hM := (if_neg c1).symm.trans hM
  refine wk_callX (vx_runS (As := [.int (M_X3_faultOfWaking (ss_drv x) p1)]) (rest := []) ⟨hx, hb, hml, hown, hts⟩ (c_X6_refuse l hflags dC dI cI cD cJ kk (M_X3_faultOfWaking (ss_drv x) p1) _ (if_neg c1).symm H) (va_cwS 1 hts gX6_wake_X6_refuse rfl rfl rfl (by decide +kernel) ⟨Nat.le_of_ble_eq_true rfl, Nat.le_of_ble_eq_true rfl⟩) (wk_preST hG hP hD hT hS [] rfl rfl (va_free hD hS hA [] rfl)) rfl rfl hl.1 rfl (lv_room (Nat.le_of_ble_eq_true rfl)) dX6_wake_8 ⟨Nat.le_of_ble_eq_true rfl, Nat.le_of_ble_eq_true rfl⟩) hP hD hS hA [] [0, 1, 2, 3, 4, 5, 6, 7, 8, 9, 10, 11, 12, 13, 14, 15, 16, 17, 18, 19, 20, 21, 22, 23, 24, 25, 26, 27, 28, 29, 30, 31, 32, 33, 34, 35, 36, 37] [0, 1, 2, 3, 4, 5, 6, 7, 8, 9, 10, 11, 12, 13, 14, 15, 16, 17, 18, 19, 20, 21, 22, 23, 24, 25, 26, 27, 28, 29, 30, 31, 32, 33, 34, 35, 36, 37] rfl rfl rfl (by decide) rfl rfl (fun f9 ce q9 H locs ho9 hP hD hS hc9 hv9 hf9 => by cases ho9) (fun ov w1 ho9 H locs hPD hS => ?_)
  cases ho9
  obtain ⟨hP, hD⟩ := hPD (wSys cI cD kk.1 g x) rfl
  refine lv_aload_n hx hb dX6_wake_11 rfl (lv_at hl 0 rfl) ?_
  refine va_get (D := (dC, dI)) (ci := 4) (v := .ref ((fun i => g (11 + i)) 0)) (C := RX6) (T := TX6) (N := 6) hx hb hts inX6 hown hG.1 hP 0 rfl rfl 2 (by decide) (hts (.fieldLink RX6 22 "WokenDrive" "history" "LWokenDrive$History;") (List.mem_of_getElem? (i := 2) rfl)) (fun _ h9 => h9) rfl dX6_wake_12 ?_
  refine lv_aload_n hx hb dX6_wake_15 rfl (lv_at hl 0 rfl) ?_
  refine va_get (D := (dC, dI)) (ci := 4) (v := .ref ((fun i => g (1 + i)) 0)) (C := RX6) (T := TX6) (N := 6) hx hb hts inX6 hown hG.1 hP 0 rfl rfl 0 (by decide) (hts (.fieldLink RX6 10 "WokenDrive" "drive" "LWokenDrive$Drive;") (List.mem_of_getElem? (i := 1) rfl)) (fun _ h9 => h9) rfl dX6_wake_16 ?_
  obtain ⟨r2, hr2, hM⟩ := tbE hM
  obtain ⟨y_3, hy_3, hM⟩ := tbE hM
  refine wk_callM (ws' := (wSys cI cD kk.1 g (ss_his_s x r2))) (va_runV (As := [.ref ((fun i => g (1 + i)) 0)]) (rest := []) ⟨hx, hb, hml, hown, hts⟩ (c_X4_save l dC dI cI cD cJ kk (fun i => g (11 + i)) (fun i => g (1 + i)) (ss_his x) (ss_drv x) _ hr2.symm H) (cwV 1 hts gX6_wake_X4_save rfl rfl rfl (by decide +kernel) ⟨Nat.le_of_ble_eq_true rfl, Nat.le_of_ble_eq_true rfl⟩) (wk_preV (ci := 3) (q0 := 11) hG hP hD [11, 12, 13, 14, 15, 16, 17, 18, 19, 20, 21, 22, 23, 24, 25, 26, 27, 28, 29, 30, 31, 32, 1, 2, 3, 4, 5] rfl rfl rfl rfl) rfl rfl hl.1 rfl (lv_room (Nat.le_of_ble_eq_true rfl)) dX6_wake_19 ⟨Nat.le_of_ble_eq_true rfl, Nat.le_of_ble_eq_true rfl⟩) hP hD hS hA [11, 12, 13, 14, 15, 16, 17, 18, 19, 20, 21, 22, 23, 24, 25, 26, 27, 28, 29, 30, 31, 32, 1, 2, 3, 4, 5] [0, 6, 7, 8, 9, 10, 33, 34, 35, 36, 37] [0, 33, 34, 35, 36, 37, 1, 2, 3, 4, 5, 11, 12, 13, 14, 15, 16, 17, 18, 19, 20, 21, 22, 23, 24, 25, 26, 27, 28, 29, 30, 31, 32, 6, 7, 8, 9, 10] rfl rfl rfl (by decide) rfl rfl (fun H locs hP hD hS => ?_)
  have hP : va_P (dC, dI) vwCl (wSys cI cD kk.1 g y_3) H := by rw [hy_3]; exact hP
  have hD : va_D A (wSys cI cD kk.1 g y_3) := by rw [hy_3]; exact hD
  refine lv_aload_n hx hb dX6_wake_22 rfl (lv_at hl 0 rfl) ?_
  refine va_get (D := (dC, dI)) (ci := 4) (v := .ref ((fun i => g (1 + i)) 0)) (C := RX6) (T := TX6) (N := 6) hx hb hts inX6 hown hG.1 hP 0 rfl rfl 0 (by decide) (hts (.fieldLink RX6 10 "WokenDrive" "drive" "LWokenDrive$Drive;") (List.mem_of_getElem? (i := 1) rfl)) (fun _ h9 => h9) rfl dX6_wake_23 ?_
  refine lv_iload_n hx hb dX6_wake_26 rfl (lv_at hl 1 rfl) ?_
  obtain ⟨r4, hr4, hM⟩ := ob hM
  refine wk_callM (ws' := (wSys cI cD kk.1 g (ss_drv_s y_3 r4.2))) (va_runV (As := [.int p1]) (rest := []) ⟨hx, hb, hml, hown, hts⟩ (c_X3_rouse l dC dI cI cD cJ kk (fun i => g (1 + i)) (ss_drv y_3) p1 _ hr4 H) (cwV 1 hts gX6_wake_X3_rouse rfl rfl rfl (by decide +kernel) ⟨Nat.le_of_ble_eq_true rfl, Nat.le_of_ble_eq_true rfl⟩) (wk_preV (ci := 2) (q0 := 1) hG hP hD [1, 2, 3, 4, 5] rfl rfl rfl rfl) rfl rfl hl.1 rfl (lv_room (Nat.le_of_ble_eq_true rfl)) dX6_wake_27 ⟨Nat.le_of_ble_eq_true rfl, Nat.le_of_ble_eq_true rfl⟩) hP hD hS hA [1, 2, 3, 4, 5] [0, 6, 7, 8, 9, 10, 11, 12, 13, 14, 15, 16, 17, 18, 19, 20, 21, 22, 23, 24, 25, 26, 27, 28, 29, 30, 31, 32, 33, 34, 35, 36, 37] [0, 33, 34, 35, 36, 37, 1, 2, 3, 4, 5, 6, 7, 8, 9, 10, 11, 12, 13, 14, 15, 16, 17, 18, 19, 20, 21, 22, 23, 24, 25, 26, 27, 28, 29, 30, 31, 32] rfl rfl rfl (by decide) rfl rfl (fun H locs hP hD hS => ?_)
  replace hM := Option.some.inj hM
  subst hM
  exact wk_retXi hx hb hr hlocks hQ rfl rfl hP hD hS (Nat.le_of_ble_eq_true rfl) (Nat.le_of_ble_eq_true rfl) dX6_wake_30
set_option maxHeartbeats 4000000 in
set_option maxRecDepth 100000 in
theorem c_X6_sleep (l : Launch) (hflags : l.stackTraces = false) (dC : Nat → ClassId) (dI : Nat → Nat → Nat) (cI cD cJ : ClassId) (kk : wAd) (g : Nat → Nat) (x : SS) (p1 : Int32) (out : Int32 ⊕ (Int32 × SS)) (hM : M_X6_sleep x p1 = some out) : CX kk l yX6_sleep wsX6_sleep ({ frames := 7, cells := 1, slots := 6, locals := 103 } : Room) dC dI (wTys cI cD cJ) [.ref (g 0), .int p1] (wSys cI cD kk.1 g x) (outX out (fun r => (some (.int r.1), (wSys cI cD kk.1 g r.2)))) 1 6 := by
  refine wk_enterX (cc := cX6_sleep) (maxL := 2) (ret := (some .int)) (by decide) rfl (Nat.le_of_ble_eq_true rfl) ?_
  intro p e s m below meth c A Q ls hB hno hT hA hP hD hQ hl
  obtain ⟨hx, hb, hml, hr, hts, hown, hname, hlocks, hG⟩ := hB
  have hown : s.vm.findClass RX6 = some m.cls := hown
  have hS : va_S A s.heap s.heap [] := va_S.rf
  have hl : lv_has ls 2 [(0, .ref (g 0)), (1, .int p1)] := hl
  have inX6 : ∀ w ∈ wsX60, w ∈ wsX6_sleep := fun _ h => List.mem_cons_of_mem _ (List.mem_append_left _ (List.mem_append_left _ (List.mem_append_left _ (List.mem_append_left _ (List.mem_append_left _ (List.mem_append_left _ (List.mem_append_right _ h)))))))
  obtain ⟨H, hH⟩ : ∃ z, z = s.heap := ⟨_, rfl⟩
  have hP : va_P (dC, dI) vwCl (wSys cI cD kk.1 g x) H := by rw [hH]; exact hP
  have hS : va_S A s.heap H [] := by rw [hH]; exact hS
  refine wk_at hH ?_
  generalize ([] : List Loc) = locs at hS ⊢
  unfold M_X6_sleep at hM
  refine lv_aload_n hx hb dX6_sleep_0 rfl (lv_at hl 0 rfl) ?_
  refine va_get (D := (dC, dI)) (ci := 4) (v := .ref ((fun i => g (1 + i)) 0)) (C := RX6) (T := TX6) (N := 6) hx hb hts inX6 hown hG.1 hP 0 rfl rfl 0 (by decide) (hts (.fieldLink RX6 10 "WokenDrive" "drive" "LWokenDrive$Drive;") (List.mem_of_getElem? (i := 1) rfl)) (fun _ h9 => h9) rfl dX6_sleep_1 ?_
  refine lv_iload_n hx hb dX6_sleep_4 rfl (lv_at hl 1 rfl) ?_
  refine wk_callP (va_runV (As := [.int p1]) (rest := []) ⟨hx, hb, hml, hown, hts⟩ (c_X3_faultOfNeedingAwake l dC dI cI cD cJ kk (fun i => g (1 + i)) (ss_drv x) p1 _ rfl H) (cwV 1 hts gX6_sleep_X3_faultOfNeedingAwake rfl rfl rfl (by decide +kernel) ⟨Nat.le_of_ble_eq_true rfl, Nat.le_of_ble_eq_true rfl⟩) (wk_preV (ci := 2) (q0 := 1) hG hP hD [1, 2, 3, 4, 5] rfl rfl rfl rfl) rfl rfl hl.1 rfl (lv_room (Nat.le_of_ble_eq_true rfl)) dX6_sleep_5 ⟨Nat.le_of_ble_eq_true rfl, Nat.le_of_ble_eq_true rfl⟩) hS (fun locs hS => ?_)
  by_cases c1 : rfs (M_X3_faultOfNeedingAwake (ss_drv x) p1) = true
  · replace hM := (if_pos c1).symm.trans hM
    refine wk_callX (vx_runS (As := [.int (M_X3_faultOfNeedingAwake (ss_drv x) p1)]) (rest := []) ⟨hx, hb, hml, hown, hts⟩ (c_X6_refuse l hflags dC dI cI cD cJ kk (M_X3_faultOfNeedingAwake (ss_drv x) p1) _ (if_pos c1).symm H) (va_cwS 1 hts gX6_sleep_X6_refuse rfl rfl rfl (by decide +kernel) ⟨Nat.le_of_ble_eq_true rfl, Nat.le_of_ble_eq_true rfl⟩) (wk_preST hG hP hD hT hS [] rfl rfl (va_free hD hS hA [] rfl)) rfl rfl hl.1 rfl (lv_room (Nat.le_of_ble_eq_true rfl)) dX6_sleep_8 ⟨Nat.le_of_ble_eq_true rfl, Nat.le_of_ble_eq_true rfl⟩) hP hD hS hA [] [0, 1, 2, 3, 4, 5, 6, 7, 8, 9, 10, 11, 12, 13, 14, 15, 16, 17, 18, 19, 20, 21, 22, 23, 24, 25, 26, 27, 28, 29, 30, 31, 32, 33, 34, 35, 36, 37] [0, 1, 2, 3, 4, 5, 6, 7, 8, 9, 10, 11, 12, 13, 14, 15, 16, 17, 18, 19, 20, 21, 22, 23, 24, 25, 26, 27, 28, 29, 30, 31, 32, 33, 34, 35, 36, 37] rfl rfl rfl (by decide) rfl rfl (fun f9 ce q9 H locs ho9 hP hD hS hc9 hv9 hf9 => ?_) (fun ov w1 ho9 => by cases ho9)
    cases ho9
    replace hM := Option.some.inj hM
    subst hM
    exact wk_outX hno hlocks hQ rfl hP hD hS (Nat.le_of_ble_eq_true rfl) (Nat.le_of_ble_eq_true rfl) hc9 hv9 hf9
  replace hM := (if_neg c1).symm.trans hM
  refine wk_callX (vx_runS (As := [.int (M_X3_faultOfNeedingAwake (ss_drv x) p1)]) (rest := []) ⟨hx, hb, hml, hown, hts⟩ (c_X6_refuse l hflags dC dI cI cD cJ kk (M_X3_faultOfNeedingAwake (ss_drv x) p1) _ (if_neg c1).symm H) (va_cwS 1 hts gX6_sleep_X6_refuse rfl rfl rfl (by decide +kernel) ⟨Nat.le_of_ble_eq_true rfl, Nat.le_of_ble_eq_true rfl⟩) (wk_preST hG hP hD hT hS [] rfl rfl (va_free hD hS hA [] rfl)) rfl rfl hl.1 rfl (lv_room (Nat.le_of_ble_eq_true rfl)) dX6_sleep_8 ⟨Nat.le_of_ble_eq_true rfl, Nat.le_of_ble_eq_true rfl⟩) hP hD hS hA [] [0, 1, 2, 3, 4, 5, 6, 7, 8, 9, 10, 11, 12, 13, 14, 15, 16, 17, 18, 19, 20, 21, 22, 23, 24, 25, 26, 27, 28, 29, 30, 31, 32, 33, 34, 35, 36, 37] [0, 1, 2, 3, 4, 5, 6, 7, 8, 9, 10, 11, 12, 13, 14, 15, 16, 17, 18, 19, 20, 21, 22, 23, 24, 25, 26, 27, 28, 29, 30, 31, 32, 33, 34, 35, 36, 37] rfl rfl rfl (by decide) rfl rfl (fun f9 ce q9 H locs ho9 hP hD hS hc9 hv9 hf9 => by cases ho9) (fun ov w1 ho9 H locs hPD hS => ?_)
  cases ho9
  obtain ⟨hP, hD⟩ := hPD (wSys cI cD kk.1 g x) rfl
  refine lv_aload_n hx hb dX6_sleep_11 rfl (lv_at hl 0 rfl) ?_
  refine va_get (D := (dC, dI)) (ci := 4) (v := .ref ((fun i => g (11 + i)) 0)) (C := RX6) (T := TX6) (N := 6) hx hb hts inX6 hown hG.1 hP 0 rfl rfl 2 (by decide) (hts (.fieldLink RX6 22 "WokenDrive" "history" "LWokenDrive$History;") (List.mem_of_getElem? (i := 2) rfl)) (fun _ h9 => h9) rfl dX6_sleep_12 ?_
  refine lv_aload_n hx hb dX6_sleep_15 rfl (lv_at hl 0 rfl) ?_
  refine va_get (D := (dC, dI)) (ci := 4) (v := .ref ((fun i => g (1 + i)) 0)) (C := RX6) (T := TX6) (N := 6) hx hb hts inX6 hown hG.1 hP 0 rfl rfl 0 (by decide) (hts (.fieldLink RX6 10 "WokenDrive" "drive" "LWokenDrive$Drive;") (List.mem_of_getElem? (i := 1) rfl)) (fun _ h9 => h9) rfl dX6_sleep_16 ?_
  obtain ⟨r2, hr2, hM⟩ := tbE hM
  obtain ⟨y_3, hy_3, hM⟩ := tbE hM
  refine wk_callM (ws' := (wSys cI cD kk.1 g (ss_his_s x r2))) (va_runV (As := [.ref ((fun i => g (1 + i)) 0)]) (rest := []) ⟨hx, hb, hml, hown, hts⟩ (c_X4_save l dC dI cI cD cJ kk (fun i => g (11 + i)) (fun i => g (1 + i)) (ss_his x) (ss_drv x) _ hr2.symm H) (cwV 1 hts gX6_sleep_X4_save rfl rfl rfl (by decide +kernel) ⟨Nat.le_of_ble_eq_true rfl, Nat.le_of_ble_eq_true rfl⟩) (wk_preV (ci := 3) (q0 := 11) hG hP hD [11, 12, 13, 14, 15, 16, 17, 18, 19, 20, 21, 22, 23, 24, 25, 26, 27, 28, 29, 30, 31, 32, 1, 2, 3, 4, 5] rfl rfl rfl rfl) rfl rfl hl.1 rfl (lv_room (Nat.le_of_ble_eq_true rfl)) dX6_sleep_19 ⟨Nat.le_of_ble_eq_true rfl, Nat.le_of_ble_eq_true rfl⟩) hP hD hS hA [11, 12, 13, 14, 15, 16, 17, 18, 19, 20, 21, 22, 23, 24, 25, 26, 27, 28, 29, 30, 31, 32, 1, 2, 3, 4, 5] [0, 6, 7, 8, 9, 10, 33, 34, 35, 36, 37] [0, 33, 34, 35, 36, 37, 1, 2, 3, 4, 5, 11, 12, 13, 14, 15, 16, 17, 18, 19, 20, 21, 22, 23, 24, 25, 26, 27, 28, 29, 30, 31, 32, 6, 7, 8, 9, 10] rfl rfl rfl (by decide) rfl rfl (fun H locs hP hD hS => ?_)
  have hP : va_P (dC, dI) vwCl (wSys cI cD kk.1 g y_3) H := by rw [hy_3]; exact hP
  have hD : va_D A (wSys cI cD kk.1 g y_3) := by rw [hy_3]; exact hD
  refine lv_aload_n hx hb dX6_sleep_22 rfl (lv_at hl 0 rfl) ?_
  refine va_get (D := (dC, dI)) (ci := 4) (v := .ref ((fun i => g (1 + i)) 0)) (C := RX6) (T := TX6) (N := 6) hx hb hts inX6 hown hG.1 hP 0 rfl rfl 0 (by decide) (hts (.fieldLink RX6 10 "WokenDrive" "drive" "LWokenDrive$Drive;") (List.mem_of_getElem? (i := 1) rfl)) (fun _ h9 => h9) rfl dX6_sleep_23 ?_
  refine lv_iload_n hx hb dX6_sleep_26 rfl (lv_at hl 1 rfl) ?_
  obtain ⟨r4, hr4, hM⟩ := ob hM
  refine wk_callM (ws' := (wSys cI cD kk.1 g (ss_drv_s y_3 r4.2))) (va_runV (As := [.int p1]) (rest := []) ⟨hx, hb, hml, hown, hts⟩ (c_X3_putToSleep l dC dI cI cD cJ kk (fun i => g (1 + i)) (ss_drv y_3) p1 _ hr4 H) (cwV 1 hts gX6_sleep_X3_putToSleep rfl rfl rfl (by decide +kernel) ⟨Nat.le_of_ble_eq_true rfl, Nat.le_of_ble_eq_true rfl⟩) (wk_preV (ci := 2) (q0 := 1) hG hP hD [1, 2, 3, 4, 5] rfl rfl rfl rfl) rfl rfl hl.1 rfl (lv_room (Nat.le_of_ble_eq_true rfl)) dX6_sleep_27 ⟨Nat.le_of_ble_eq_true rfl, Nat.le_of_ble_eq_true rfl⟩) hP hD hS hA [1, 2, 3, 4, 5] [0, 6, 7, 8, 9, 10, 11, 12, 13, 14, 15, 16, 17, 18, 19, 20, 21, 22, 23, 24, 25, 26, 27, 28, 29, 30, 31, 32, 33, 34, 35, 36, 37] [0, 33, 34, 35, 36, 37, 1, 2, 3, 4, 5, 6, 7, 8, 9, 10, 11, 12, 13, 14, 15, 16, 17, 18, 19, 20, 21, 22, 23, 24, 25, 26, 27, 28, 29, 30, 31, 32] rfl rfl rfl (by decide) rfl rfl (fun H locs hP hD hS => ?_)
  replace hM := Option.some.inj hM
  subst hM
  exact wk_retXi hx hb hr hlocks hQ rfl rfl hP hD hS (Nat.le_of_ble_eq_true rfl) (Nat.le_of_ble_eq_true rfl) dX6_sleep_30
set_option maxHeartbeats 4000000 in
set_option maxRecDepth 100000 in
theorem c_X6_setDelay (l : Launch) (hflags : l.stackTraces = false) (dC : Nat → ClassId) (dI : Nat → Nat → Nat) (cI cD cJ : ClassId) (kk : wAd) (g : Nat → Nat) (x : SS) (p1 : Int32) (p2 : Int32) (out : Int32 ⊕ (Int32 × SS)) (hM : M_X6_setDelay x p1 p2 = some out) : CX kk l yX6_setDelay wsX6_setDelay ({ frames := 7, cells := 1, slots := 6, locals := 103 } : Room) dC dI (wTys cI cD cJ) [.ref (g 0), .int p1, .int p2] (wSys cI cD kk.1 g x) (outX out (fun r => (some (.int r.1), (wSys cI cD kk.1 g r.2)))) 1 6 := by
  refine wk_enterX (cc := cX6_setDelay) (maxL := 3) (ret := (some .int)) (by decide) rfl (Nat.le_of_ble_eq_true rfl) ?_
  intro p e s m below meth c A Q ls hB hno hT hA hP hD hQ hl
  obtain ⟨hx, hb, hml, hr, hts, hown, hname, hlocks, hG⟩ := hB
  have hown : s.vm.findClass RX6 = some m.cls := hown
  have hS : va_S A s.heap s.heap [] := va_S.rf
  have hl : lv_has ls 3 [(0, .ref (g 0)), (1, .int p1), (2, .int p2)] := hl
  have inX6 : ∀ w ∈ wsX60, w ∈ wsX6_setDelay := fun _ h => List.mem_cons_of_mem _ (List.mem_append_left _ (List.mem_append_left _ (List.mem_append_left _ (List.mem_append_left _ (List.mem_append_left _ (List.mem_append_left _ (List.mem_append_right _ h)))))))
  obtain ⟨H, hH⟩ : ∃ z, z = s.heap := ⟨_, rfl⟩
  have hP : va_P (dC, dI) vwCl (wSys cI cD kk.1 g x) H := by rw [hH]; exact hP
  have hS : va_S A s.heap H [] := by rw [hH]; exact hS
  refine wk_at hH ?_
  generalize ([] : List Loc) = locs at hS ⊢
  unfold M_X6_setDelay at hM
  refine lv_aload_n hx hb dX6_setDelay_0 rfl (lv_at hl 0 rfl) ?_
  refine va_get (D := (dC, dI)) (ci := 4) (v := .ref ((fun i => g (1 + i)) 0)) (C := RX6) (T := TX6) (N := 6) hx hb hts inX6 hown hG.1 hP 0 rfl rfl 0 (by decide) (hts (.fieldLink RX6 10 "WokenDrive" "drive" "LWokenDrive$Drive;") (List.mem_of_getElem? (i := 1) rfl)) (fun _ h9 => h9) rfl dX6_setDelay_1 ?_
  refine lv_iload_n hx hb dX6_setDelay_4 rfl (lv_at hl 1 rfl) ?_
  refine lv_iload_n hx hb dX6_setDelay_5 rfl (lv_at hl 2 rfl) ?_
  refine wk_callP (va_runV (As := [.int p1, .int p2]) (rest := []) ⟨hx, hb, hml, hown, hts⟩ (c_X3_faultOfDelay l dC dI cI cD cJ kk (fun i => g (1 + i)) (ss_drv x) p1 p2 _ rfl H) (cwV 2 hts gX6_setDelay_X3_faultOfDelay rfl rfl rfl (by decide +kernel) ⟨Nat.le_of_ble_eq_true rfl, Nat.le_of_ble_eq_true rfl⟩) (wk_preV (ci := 2) (q0 := 1) hG hP hD [1, 2, 3, 4, 5] rfl rfl rfl rfl) rfl rfl hl.1 rfl (lv_room (Nat.le_of_ble_eq_true rfl)) dX6_setDelay_6 ⟨Nat.le_of_ble_eq_true rfl, Nat.le_of_ble_eq_true rfl⟩) hS (fun locs hS => ?_)
  by_cases c1 : rfs (M_X3_faultOfDelay (ss_drv x) p1 p2) = true
  · replace hM := (if_pos c1).symm.trans hM
    refine wk_callX (vx_runS (As := [.int (M_X3_faultOfDelay (ss_drv x) p1 p2)]) (rest := []) ⟨hx, hb, hml, hown, hts⟩ (c_X6_refuse l hflags dC dI cI cD cJ kk (M_X3_faultOfDelay (ss_drv x) p1 p2) _ (if_pos c1).symm H) (va_cwS 1 hts gX6_setDelay_X6_refuse rfl rfl rfl (by decide +kernel) ⟨Nat.le_of_ble_eq_true rfl, Nat.le_of_ble_eq_true rfl⟩) (wk_preST hG hP hD hT hS [] rfl rfl (va_free hD hS hA [] rfl)) rfl rfl hl.1 rfl (lv_room (Nat.le_of_ble_eq_true rfl)) dX6_setDelay_9 ⟨Nat.le_of_ble_eq_true rfl, Nat.le_of_ble_eq_true rfl⟩) hP hD hS hA [] [0, 1, 2, 3, 4, 5, 6, 7, 8, 9, 10, 11, 12, 13, 14, 15, 16, 17, 18, 19, 20, 21, 22, 23, 24, 25, 26, 27, 28, 29, 30, 31, 32, 33, 34, 35, 36, 37] [0, 1, 2, 3, 4, 5, 6, 7, 8, 9, 10, 11, 12, 13, 14, 15, 16, 17, 18, 19, 20, 21, 22, 23, 24, 25, 26, 27, 28, 29, 30, 31, 32, 33, 34, 35, 36, 37] rfl rfl rfl (by decide) rfl rfl (fun f9 ce q9 H locs ho9 hP hD hS hc9 hv9 hf9 => ?_) (fun ov w1 ho9 => by cases ho9)
    cases ho9
    replace hM := Option.some.inj hM
    subst hM
    exact wk_outX hno hlocks hQ rfl hP hD hS (Nat.le_of_ble_eq_true rfl) (Nat.le_of_ble_eq_true rfl) hc9 hv9 hf9
  replace hM := (if_neg c1).symm.trans hM
  refine wk_callX (vx_runS (As := [.int (M_X3_faultOfDelay (ss_drv x) p1 p2)]) (rest := []) ⟨hx, hb, hml, hown, hts⟩ (c_X6_refuse l hflags dC dI cI cD cJ kk (M_X3_faultOfDelay (ss_drv x) p1 p2) _ (if_neg c1).symm H) (va_cwS 1 hts gX6_setDelay_X6_refuse rfl rfl rfl (by decide +kernel) ⟨Nat.le_of_ble_eq_true rfl, Nat.le_of_ble_eq_true rfl⟩) (wk_preST hG hP hD hT hS [] rfl rfl (va_free hD hS hA [] rfl)) rfl rfl hl.1 rfl (lv_room (Nat.le_of_ble_eq_true rfl)) dX6_setDelay_9 ⟨Nat.le_of_ble_eq_true rfl, Nat.le_of_ble_eq_true rfl⟩) hP hD hS hA [] [0, 1, 2, 3, 4, 5, 6, 7, 8, 9, 10, 11, 12, 13, 14, 15, 16, 17, 18, 19, 20, 21, 22, 23, 24, 25, 26, 27, 28, 29, 30, 31, 32, 33, 34, 35, 36, 37] [0, 1, 2, 3, 4, 5, 6, 7, 8, 9, 10, 11, 12, 13, 14, 15, 16, 17, 18, 19, 20, 21, 22, 23, 24, 25, 26, 27, 28, 29, 30, 31, 32, 33, 34, 35, 36, 37] rfl rfl rfl (by decide) rfl rfl (fun f9 ce q9 H locs ho9 hP hD hS hc9 hv9 hf9 => by cases ho9) (fun ov w1 ho9 H locs hPD hS => ?_)
  cases ho9
  obtain ⟨hP, hD⟩ := hPD (wSys cI cD kk.1 g x) rfl
  refine lv_aload_n hx hb dX6_setDelay_12 rfl (lv_at hl 0 rfl) ?_
  refine va_get (D := (dC, dI)) (ci := 4) (v := .ref ((fun i => g (11 + i)) 0)) (C := RX6) (T := TX6) (N := 6) hx hb hts inX6 hown hG.1 hP 0 rfl rfl 2 (by decide) (hts (.fieldLink RX6 22 "WokenDrive" "history" "LWokenDrive$History;") (List.mem_of_getElem? (i := 2) rfl)) (fun _ h9 => h9) rfl dX6_setDelay_13 ?_
  refine lv_aload_n hx hb dX6_setDelay_16 rfl (lv_at hl 0 rfl) ?_
  refine va_get (D := (dC, dI)) (ci := 4) (v := .ref ((fun i => g (1 + i)) 0)) (C := RX6) (T := TX6) (N := 6) hx hb hts inX6 hown hG.1 hP 0 rfl rfl 0 (by decide) (hts (.fieldLink RX6 10 "WokenDrive" "drive" "LWokenDrive$Drive;") (List.mem_of_getElem? (i := 1) rfl)) (fun _ h9 => h9) rfl dX6_setDelay_17 ?_
  obtain ⟨r2, hr2, hM⟩ := tbE hM
  obtain ⟨y_3, hy_3, hM⟩ := tbE hM
  refine wk_callM (ws' := (wSys cI cD kk.1 g (ss_his_s x r2))) (va_runV (As := [.ref ((fun i => g (1 + i)) 0)]) (rest := []) ⟨hx, hb, hml, hown, hts⟩ (c_X4_save l dC dI cI cD cJ kk (fun i => g (11 + i)) (fun i => g (1 + i)) (ss_his x) (ss_drv x) _ hr2.symm H) (cwV 1 hts gX6_setDelay_X4_save rfl rfl rfl (by decide +kernel) ⟨Nat.le_of_ble_eq_true rfl, Nat.le_of_ble_eq_true rfl⟩) (wk_preV (ci := 3) (q0 := 11) hG hP hD [11, 12, 13, 14, 15, 16, 17, 18, 19, 20, 21, 22, 23, 24, 25, 26, 27, 28, 29, 30, 31, 32, 1, 2, 3, 4, 5] rfl rfl rfl rfl) rfl rfl hl.1 rfl (lv_room (Nat.le_of_ble_eq_true rfl)) dX6_setDelay_20 ⟨Nat.le_of_ble_eq_true rfl, Nat.le_of_ble_eq_true rfl⟩) hP hD hS hA [11, 12, 13, 14, 15, 16, 17, 18, 19, 20, 21, 22, 23, 24, 25, 26, 27, 28, 29, 30, 31, 32, 1, 2, 3, 4, 5] [0, 6, 7, 8, 9, 10, 33, 34, 35, 36, 37] [0, 33, 34, 35, 36, 37, 1, 2, 3, 4, 5, 11, 12, 13, 14, 15, 16, 17, 18, 19, 20, 21, 22, 23, 24, 25, 26, 27, 28, 29, 30, 31, 32, 6, 7, 8, 9, 10] rfl rfl rfl (by decide) rfl rfl (fun H locs hP hD hS => ?_)
  have hP : va_P (dC, dI) vwCl (wSys cI cD kk.1 g y_3) H := by rw [hy_3]; exact hP
  have hD : va_D A (wSys cI cD kk.1 g y_3) := by rw [hy_3]; exact hD
  refine lv_aload_n hx hb dX6_setDelay_23 rfl (lv_at hl 0 rfl) ?_
  refine va_get (D := (dC, dI)) (ci := 4) (v := .ref ((fun i => g (1 + i)) 0)) (C := RX6) (T := TX6) (N := 6) hx hb hts inX6 hown hG.1 hP 0 rfl rfl 0 (by decide) (hts (.fieldLink RX6 10 "WokenDrive" "drive" "LWokenDrive$Drive;") (List.mem_of_getElem? (i := 1) rfl)) (fun _ h9 => h9) rfl dX6_setDelay_24 ?_
  refine lv_iload_n hx hb dX6_setDelay_27 rfl (lv_at hl 1 rfl) ?_
  refine lv_iload_n hx hb dX6_setDelay_28 rfl (lv_at hl 2 rfl) ?_
  obtain ⟨r4, hr4, hM⟩ := tbE hM
  refine wk_callM (ws' := (wSys cI cD kk.1 g (ss_drv_s y_3 r4.2))) (va_runV (As := [.int p1, .int p2]) (rest := []) ⟨hx, hb, hml, hown, hts⟩ (c_X3_changeDelay l dC dI cI cD cJ kk (fun i => g (1 + i)) (ss_drv y_3) p1 p2 _ hr4.symm H) (cwV 2 hts gX6_setDelay_X3_changeDelay rfl rfl rfl (by decide +kernel) ⟨Nat.le_of_ble_eq_true rfl, Nat.le_of_ble_eq_true rfl⟩) (wk_preV (ci := 2) (q0 := 1) hG hP hD [1, 2, 3, 4, 5] rfl rfl rfl rfl) rfl rfl hl.1 rfl (lv_room (Nat.le_of_ble_eq_true rfl)) dX6_setDelay_29 ⟨Nat.le_of_ble_eq_true rfl, Nat.le_of_ble_eq_true rfl⟩) hP hD hS hA [1, 2, 3, 4, 5] [0, 6, 7, 8, 9, 10, 11, 12, 13, 14, 15, 16, 17, 18, 19, 20, 21, 22, 23, 24, 25, 26, 27, 28, 29, 30, 31, 32, 33, 34, 35, 36, 37] [0, 33, 34, 35, 36, 37, 1, 2, 3, 4, 5, 6, 7, 8, 9, 10, 11, 12, 13, 14, 15, 16, 17, 18, 19, 20, 21, 22, 23, 24, 25, 26, 27, 28, 29, 30, 31, 32] rfl rfl rfl (by decide) rfl rfl (fun H locs hP hD hS => ?_)
  replace hM := Option.some.inj hM
  subst hM
  exact wk_retXi hx hb hr hlocks hQ rfl rfl hP hD hS (Nat.le_of_ble_eq_true rfl) (Nat.le_of_ble_eq_true rfl) dX6_setDelay_32
set_option maxHeartbeats 4000000 in
set_option maxRecDepth 100000 in
theorem c_X6_setAlarm (l : Launch) (hflags : l.stackTraces = false) (dC : Nat → ClassId) (dI : Nat → Nat → Nat) (cI cD cJ : ClassId) (kk : wAd) (g : Nat → Nat) (x : SS) (p1 : Int32) (p2 : Int32) (out : Int32 ⊕ (Int32 × SS)) (hM : M_X6_setAlarm x p1 p2 = some out) : CX kk l yX6_setAlarm wsX6_setAlarm ({ frames := 7, cells := 1, slots := 6, locals := 103 } : Room) dC dI (wTys cI cD cJ) [.ref (g 0), .int p1, .int p2] (wSys cI cD kk.1 g x) (outX out (fun r => (some (.int r.1), (wSys cI cD kk.1 g r.2)))) 1 6 := by
  refine wk_enterX (cc := cX6_setAlarm) (maxL := 3) (ret := (some .int)) (by decide) rfl (Nat.le_of_ble_eq_true rfl) ?_
  intro p e s m below meth c A Q ls hB hno hT hA hP hD hQ hl
  obtain ⟨hx, hb, hml, hr, hts, hown, hname, hlocks, hG⟩ := hB
  have hown : s.vm.findClass RX6 = some m.cls := hown
  have hS : va_S A s.heap s.heap [] := va_S.rf
  have hl : lv_has ls 3 [(0, .ref (g 0)), (1, .int p1), (2, .int p2)] := hl
  have inX6 : ∀ w ∈ wsX60, w ∈ wsX6_setAlarm := fun _ h => List.mem_cons_of_mem _ (List.mem_append_left _ (List.mem_append_left _ (List.mem_append_left _ (List.mem_append_left _ (List.mem_append_left _ (List.mem_append_left _ (List.mem_append_right _ h)))))))
  obtain ⟨H, hH⟩ : ∃ z, z = s.heap := ⟨_, rfl⟩
  have hP : va_P (dC, dI) vwCl (wSys cI cD kk.1 g x) H := by rw [hH]; exact hP
  have hS : va_S A s.heap H [] := by rw [hH]; exact hS
  refine wk_at hH ?_
  generalize ([] : List Loc) = locs at hS ⊢
  unfold M_X6_setAlarm at hM
  refine lv_aload_n hx hb dX6_setAlarm_0 rfl (lv_at hl 0 rfl) ?_
  refine va_get (D := (dC, dI)) (ci := 4) (v := .ref ((fun i => g (1 + i)) 0)) (C := RX6) (T := TX6) (N := 6) hx hb hts inX6 hown hG.1 hP 0 rfl rfl 0 (by decide) (hts (.fieldLink RX6 10 "WokenDrive" "drive" "LWokenDrive$Drive;") (List.mem_of_getElem? (i := 1) rfl)) (fun _ h9 => h9) rfl dX6_setAlarm_1 ?_
  refine lv_iload_n hx hb dX6_setAlarm_4 rfl (lv_at hl 1 rfl) ?_
  refine lv_iload_n hx hb dX6_setAlarm_5 rfl (lv_at hl 2 rfl) ?_
  refine wk_callP (va_runV (As := [.int p1, .int p2]) (rest := []) ⟨hx, hb, hml, hown, hts⟩ (c_X3_faultOfAlarm l dC dI cI cD cJ kk (fun i => g (1 + i)) (ss_drv x) p1 p2 _ rfl H) (cwV 2 hts gX6_setAlarm_X3_faultOfAlarm rfl rfl rfl (by decide +kernel) ⟨Nat.le_of_ble_eq_true rfl, Nat.le_of_ble_eq_true rfl⟩) (wk_preV (ci := 2) (q0 := 1) hG hP hD [1, 2, 3, 4, 5] rfl rfl rfl rfl) rfl rfl hl.1 rfl (lv_room (Nat.le_of_ble_eq_true rfl)) dX6_setAlarm_6 ⟨Nat.le_of_ble_eq_true rfl, Nat.le_of_ble_eq_true rfl⟩) hS (fun locs hS => ?_)
  by_cases c1 : rfs (M_X3_faultOfAlarm (ss_drv x) p1 p2) = true
  · replace hM := (if_pos c1).symm.trans hM
    refine wk_callX (vx_runS (As := [.int (M_X3_faultOfAlarm (ss_drv x) p1 p2)]) (rest := []) ⟨hx, hb, hml, hown, hts⟩ (c_X6_refuse l hflags dC dI cI cD cJ kk (M_X3_faultOfAlarm (ss_drv x) p1 p2) _ (if_pos c1).symm H) (va_cwS 1 hts gX6_setAlarm_X6_refuse rfl rfl rfl (by decide +kernel) ⟨Nat.le_of_ble_eq_true rfl, Nat.le_of_ble_eq_true rfl⟩) (wk_preST hG hP hD hT hS [] rfl rfl (va_free hD hS hA [] rfl)) rfl rfl hl.1 rfl (lv_room (Nat.le_of_ble_eq_true rfl)) dX6_setAlarm_9 ⟨Nat.le_of_ble_eq_true rfl, Nat.le_of_ble_eq_true rfl⟩) hP hD hS hA [] [0, 1, 2, 3, 4, 5, 6, 7, 8, 9, 10, 11, 12, 13, 14, 15, 16, 17, 18, 19, 20, 21, 22, 23, 24, 25, 26, 27, 28, 29, 30, 31, 32, 33, 34, 35, 36, 37] [0, 1, 2, 3, 4, 5, 6, 7, 8, 9, 10, 11, 12, 13, 14, 15, 16, 17, 18, 19, 20, 21, 22, 23, 24, 25, 26, 27, 28, 29, 30, 31, 32, 33, 34, 35, 36, 37] rfl rfl rfl (by decide) rfl rfl (fun f9 ce q9 H locs ho9 hP hD hS hc9 hv9 hf9 => ?_) (fun ov w1 ho9 => by cases ho9)
    cases ho9
    replace hM := Option.some.inj hM
    subst hM
    exact wk_outX hno hlocks hQ rfl hP hD hS (Nat.le_of_ble_eq_true rfl) (Nat.le_of_ble_eq_true rfl) hc9 hv9 hf9
  replace hM := (if_neg c1).symm.trans hM
  refine wk_callX (vx_runS (As := [.int (M_X3_faultOfAlarm (ss_drv x) p1 p2)]) (rest := []) ⟨hx, hb, hml, hown, hts⟩ (c_X6_refuse l hflags dC dI cI cD cJ kk (M_X3_faultOfAlarm (ss_drv x) p1 p2) _ (if_neg c1).symm H) (va_cwS 1 hts gX6_setAlarm_X6_refuse rfl rfl rfl (by decide +kernel) ⟨Nat.le_of_ble_eq_true rfl, Nat.le_of_ble_eq_true rfl⟩) (wk_preST hG hP hD hT hS [] rfl rfl (va_free hD hS hA [] rfl)) rfl rfl hl.1 rfl (lv_room (Nat.le_of_ble_eq_true rfl)) dX6_setAlarm_9 ⟨Nat.le_of_ble_eq_true rfl, Nat.le_of_ble_eq_true rfl⟩) hP hD hS hA [] [0, 1, 2, 3, 4, 5, 6, 7, 8, 9, 10, 11, 12, 13, 14, 15, 16, 17, 18, 19, 20, 21, 22, 23, 24, 25, 26, 27, 28, 29, 30, 31, 32, 33, 34, 35, 36, 37] [0, 1, 2, 3, 4, 5, 6, 7, 8, 9, 10, 11, 12, 13, 14, 15, 16, 17, 18, 19, 20, 21, 22, 23, 24, 25, 26, 27, 28, 29, 30, 31, 32, 33, 34, 35, 36, 37] rfl rfl rfl (by decide) rfl rfl (fun f9 ce q9 H locs ho9 hP hD hS hc9 hv9 hf9 => by cases ho9) (fun ov w1 ho9 H locs hPD hS => ?_)
  cases ho9
  obtain ⟨hP, hD⟩ := hPD (wSys cI cD kk.1 g x) rfl
  refine lv_aload_n hx hb dX6_setAlarm_12 rfl (lv_at hl 0 rfl) ?_
  refine va_get (D := (dC, dI)) (ci := 4) (v := .ref ((fun i => g (11 + i)) 0)) (C := RX6) (T := TX6) (N := 6) hx hb hts inX6 hown hG.1 hP 0 rfl rfl 2 (by decide) (hts (.fieldLink RX6 22 "WokenDrive" "history" "LWokenDrive$History;") (List.mem_of_getElem? (i := 2) rfl)) (fun _ h9 => h9) rfl dX6_setAlarm_13 ?_
  refine lv_aload_n hx hb dX6_setAlarm_16 rfl (lv_at hl 0 rfl) ?_
  refine va_get (D := (dC, dI)) (ci := 4) (v := .ref ((fun i => g (1 + i)) 0)) (C := RX6) (T := TX6) (N := 6) hx hb hts inX6 hown hG.1 hP 0 rfl rfl 0 (by decide) (hts (.fieldLink RX6 10 "WokenDrive" "drive" "LWokenDrive$Drive;") (List.mem_of_getElem? (i := 1) rfl)) (fun _ h9 => h9) rfl dX6_setAlarm_17 ?_
  obtain ⟨r2, hr2, hM⟩ := tbE hM
  obtain ⟨y_3, hy_3, hM⟩ := tbE hM
  refine wk_callM (ws' := (wSys cI cD kk.1 g (ss_his_s x r2))) (va_runV (As := [.ref ((fun i => g (1 + i)) 0)]) (rest := []) ⟨hx, hb, hml, hown, hts⟩ (c_X4_save l dC dI cI cD cJ kk (fun i => g (11 + i)) (fun i => g (1 + i)) (ss_his x) (ss_drv x) _ hr2.symm H) (cwV 1 hts gX6_setAlarm_X4_save rfl rfl rfl (by decide +kernel) ⟨Nat.le_of_ble_eq_true rfl, Nat.le_of_ble_eq_true rfl⟩) (wk_preV (ci := 3) (q0 := 11) hG hP hD [11, 12, 13, 14, 15, 16, 17, 18, 19, 20, 21, 22, 23, 24, 25, 26, 27, 28, 29, 30, 31, 32, 1, 2, 3, 4, 5] rfl rfl rfl rfl) rfl rfl hl.1 rfl (lv_room (Nat.le_of_ble_eq_true rfl)) dX6_setAlarm_20 ⟨Nat.le_of_ble_eq_true rfl, Nat.le_of_ble_eq_true rfl⟩) hP hD hS hA [11, 12, 13, 14, 15, 16, 17, 18, 19, 20, 21, 22, 23, 24, 25, 26, 27, 28, 29, 30, 31, 32, 1, 2, 3, 4, 5] [0, 6, 7, 8, 9, 10, 33, 34, 35, 36, 37] [0, 33, 34, 35, 36, 37, 1, 2, 3, 4, 5, 11, 12, 13, 14, 15, 16, 17, 18, 19, 20, 21, 22, 23, 24, 25, 26, 27, 28, 29, 30, 31, 32, 6, 7, 8, 9, 10] rfl rfl rfl (by decide) rfl rfl (fun H locs hP hD hS => ?_)
  have hP : va_P (dC, dI) vwCl (wSys cI cD kk.1 g y_3) H := by rw [hy_3]; exact hP
  have hD : va_D A (wSys cI cD kk.1 g y_3) := by rw [hy_3]; exact hD
  refine lv_aload_n hx hb dX6_setAlarm_23 rfl (lv_at hl 0 rfl) ?_
  refine va_get (D := (dC, dI)) (ci := 4) (v := .ref ((fun i => g (1 + i)) 0)) (C := RX6) (T := TX6) (N := 6) hx hb hts inX6 hown hG.1 hP 0 rfl rfl 0 (by decide) (hts (.fieldLink RX6 10 "WokenDrive" "drive" "LWokenDrive$Drive;") (List.mem_of_getElem? (i := 1) rfl)) (fun _ h9 => h9) rfl dX6_setAlarm_24 ?_
  refine lv_iload_n hx hb dX6_setAlarm_27 rfl (lv_at hl 1 rfl) ?_
  refine lv_iload_n hx hb dX6_setAlarm_28 rfl (lv_at hl 2 rfl) ?_
  obtain ⟨r4, hr4, hM⟩ := tbE hM
  refine wk_callM (ws' := (wSys cI cD kk.1 g (ss_drv_s y_3 r4.2))) (va_runV (As := [.int p1, .int p2]) (rest := []) ⟨hx, hb, hml, hown, hts⟩ (c_X3_changeAlarm l dC dI cI cD cJ kk (fun i => g (1 + i)) (ss_drv y_3) p1 p2 _ hr4.symm H) (cwV 2 hts gX6_setAlarm_X3_changeAlarm rfl rfl rfl (by decide +kernel) ⟨Nat.le_of_ble_eq_true rfl, Nat.le_of_ble_eq_true rfl⟩) (wk_preV (ci := 2) (q0 := 1) hG hP hD [1, 2, 3, 4, 5] rfl rfl rfl rfl) rfl rfl hl.1 rfl (lv_room (Nat.le_of_ble_eq_true rfl)) dX6_setAlarm_29 ⟨Nat.le_of_ble_eq_true rfl, Nat.le_of_ble_eq_true rfl⟩) hP hD hS hA [1, 2, 3, 4, 5] [0, 6, 7, 8, 9, 10, 11, 12, 13, 14, 15, 16, 17, 18, 19, 20, 21, 22, 23, 24, 25, 26, 27, 28, 29, 30, 31, 32, 33, 34, 35, 36, 37] [0, 33, 34, 35, 36, 37, 1, 2, 3, 4, 5, 6, 7, 8, 9, 10, 11, 12, 13, 14, 15, 16, 17, 18, 19, 20, 21, 22, 23, 24, 25, 26, 27, 28, 29, 30, 31, 32] rfl rfl rfl (by decide) rfl rfl (fun H locs hP hD hS => ?_)
  replace hM := Option.some.inj hM
  subst hM
  exact wk_retXi hx hb hr hlocks hQ rfl rfl hP hD hS (Nat.le_of_ble_eq_true rfl) (Nat.le_of_ble_eq_true rfl) dX6_setAlarm_32
set_option maxHeartbeats 4000000 in
set_option maxRecDepth 100000 in
theorem c_X6_work (l : Launch) (hflags : l.stackTraces = false) (dC : Nat → ClassId) (dI : Nat → Nat → Nat) (cI cD cJ : ClassId) (kk : wAd) (g : Nat → Nat) (x : SS) (p1 : Int32) (p2 : Int32) (out : Int32 ⊕ (Int32 × SS)) (hM : M_X6_work x p1 p2 = some out) : CX kk l yX6_work wsX6_work ({ frames := 7, cells := 1, slots := 6, locals := 103 } : Room) dC dI (wTys cI cD cJ) [.ref (g 0), .int p1, .int p2] (wSys cI cD kk.1 g x) (outX out (fun r => (some (.int r.1), (wSys cI cD kk.1 g r.2)))) 1 6 := by
  refine wk_enterX (cc := cX6_work) (maxL := 3) (ret := (some .int)) (by decide) rfl (Nat.le_of_ble_eq_true rfl) ?_
  intro p e s m below meth c A Q ls hB hno hT hA hP hD hQ hl
  obtain ⟨hx, hb, hml, hr, hts, hown, hname, hlocks, hG⟩ := hB
  have hown : s.vm.findClass RX6 = some m.cls := hown
  have hS : va_S A s.heap s.heap [] := va_S.rf
  have hl : lv_has ls 3 [(0, .ref (g 0)), (1, .int p1), (2, .int p2)] := hl
  have inX6 : ∀ w ∈ wsX60, w ∈ wsX6_work := fun _ h => List.mem_cons_of_mem _ (List.mem_append_left _ (List.mem_append_left _ (List.mem_append_left _ (List.mem_append_left _ (List.mem_append_left _ (List.mem_append_left _ (List.mem_append_right _ h)))))))
  obtain ⟨H, hH⟩ : ∃ z, z = s.heap := ⟨_, rfl⟩
  have hP : va_P (dC, dI) vwCl (wSys cI cD kk.1 g x) H := by rw [hH]; exact hP
  have hS : va_S A s.heap H [] := by rw [hH]; exact hS
  refine wk_at hH ?_
  generalize ([] : List Loc) = locs at hS ⊢
  unfold M_X6_work at hM
  refine lv_aload_n hx hb dX6_work_0 rfl (lv_at hl 0 rfl) ?_
  refine va_get (D := (dC, dI)) (ci := 4) (v := .ref ((fun i => g (1 + i)) 0)) (C := RX6) (T := TX6) (N := 6) hx hb hts inX6 hown hG.1 hP 0 rfl rfl 0 (by decide) (hts (.fieldLink RX6 10 "WokenDrive" "drive" "LWokenDrive$Drive;") (List.mem_of_getElem? (i := 1) rfl)) (fun _ h9 => h9) rfl dX6_work_1 ?_
  refine lv_iload_n hx hb dX6_work_4 rfl (lv_at hl 1 rfl) ?_
  refine lv_iload_n hx hb dX6_work_5 rfl (lv_at hl 2 rfl) ?_
  refine wk_callP (va_runV (As := [.int p1, .int p2]) (rest := []) ⟨hx, hb, hml, hown, hts⟩ (c_X3_faultOfWorking l dC dI cI cD cJ kk (fun i => g (1 + i)) (ss_drv x) p1 p2 _ rfl H) (cwV 2 hts gX6_work_X3_faultOfWorking rfl rfl rfl (by decide +kernel) ⟨Nat.le_of_ble_eq_true rfl, Nat.le_of_ble_eq_true rfl⟩) (wk_preV (ci := 2) (q0 := 1) hG hP hD [1, 2, 3, 4, 5] rfl rfl rfl rfl) rfl rfl hl.1 rfl (lv_room (Nat.le_of_ble_eq_true rfl)) dX6_work_6 ⟨Nat.le_of_ble_eq_true rfl, Nat.le_of_ble_eq_true rfl⟩) hS (fun locs hS => ?_)
  by_cases c1 : rfs (M_X3_faultOfWorking (ss_drv x) p1 p2) = true
  · replace hM := (if_pos c1).symm.trans hM
    refine wk_callX (vx_runS (As := [.int (M_X3_faultOfWorking (ss_drv x) p1 p2)]) (rest := []) ⟨hx, hb, hml, hown, hts⟩ (c_X6_refuse l hflags dC dI cI cD cJ kk (M_X3_faultOfWorking (ss_drv x) p1 p2) _ (if_pos c1).symm H) (va_cwS 1 hts gX6_work_X6_refuse rfl rfl rfl (by decide +kernel) ⟨Nat.le_of_ble_eq_true rfl, Nat.le_of_ble_eq_true rfl⟩) (wk_preST hG hP hD hT hS [] rfl rfl (va_free hD hS hA [] rfl)) rfl rfl hl.1 rfl (lv_room (Nat.le_of_ble_eq_true rfl)) dX6_work_9 ⟨Nat.le_of_ble_eq_true rfl, Nat.le_of_ble_eq_true rfl⟩) hP hD hS hA [] [0, 1, 2, 3, 4, 5, 6, 7, 8, 9, 10, 11, 12, 13, 14, 15, 16, 17, 18, 19, 20, 21, 22, 23, 24, 25, 26, 27, 28, 29, 30, 31, 32, 33, 34, 35, 36, 37] [0, 1, 2, 3, 4, 5, 6, 7, 8, 9, 10, 11, 12, 13, 14, 15, 16, 17, 18, 19, 20, 21, 22, 23, 24, 25, 26, 27, 28, 29, 30, 31, 32, 33, 34, 35, 36, 37] rfl rfl rfl (by decide) rfl rfl (fun f9 ce q9 H locs ho9 hP hD hS hc9 hv9 hf9 => ?_) (fun ov w1 ho9 => by cases ho9)
    cases ho9
    replace hM := Option.some.inj hM
    subst hM
    exact wk_outX hno hlocks hQ rfl hP hD hS (Nat.le_of_ble_eq_true rfl) (Nat.le_of_ble_eq_true rfl) hc9 hv9 hf9
  replace hM := (if_neg c1).symm.trans hM
  refine wk_callX (vx_runS (As := [.int (M_X3_faultOfWorking (ss_drv x) p1 p2)]) (rest := []) ⟨hx, hb, hml, hown, hts⟩ (c_X6_refuse l hflags dC dI cI cD cJ kk (M_X3_faultOfWorking (ss_drv x) p1 p2) _ (if_neg c1).symm H) (va_cwS 1 hts gX6_work_X6_refuse rfl rfl rfl (by decide +kernel) ⟨Nat.le_of_ble_eq_true rfl, Nat.le_of_ble_eq_true rfl⟩) (wk_preST hG hP hD hT hS [] rfl rfl (va_free hD hS hA [] rfl)) rfl rfl hl.1 rfl (lv_room (Nat.le_of_ble_eq_true rfl)) dX6_work_9 ⟨Nat.le_of_ble_eq_true rfl, Nat.le_of_ble_eq_true rfl⟩) hP hD hS hA [] [0, 1, 2, 3, 4, 5, 6, 7, 8, 9, 10, 11, 12, 13, 14, 15, 16, 17, 18, 19, 20, 21, 22, 23, 24, 25, 26, 27, 28, 29, 30, 31, 32, 33, 34, 35, 36, 37] [0, 1, 2, 3, 4, 5, 6, 7, 8, 9, 10, 11, 12, 13, 14, 15, 16, 17, 18, 19, 20, 21, 22, 23, 24, 25, 26, 27, 28, 29, 30, 31, 32, 33, 34, 35, 36, 37] rfl rfl rfl (by decide) rfl rfl (fun f9 ce q9 H locs ho9 hP hD hS hc9 hv9 hf9 => by cases ho9) (fun ov w1 ho9 H locs hPD hS => ?_)
  cases ho9
  obtain ⟨hP, hD⟩ := hPD (wSys cI cD kk.1 g x) rfl
  refine lv_aload_n hx hb dX6_work_12 rfl (lv_at hl 0 rfl) ?_
  refine va_get (D := (dC, dI)) (ci := 4) (v := .ref ((fun i => g (11 + i)) 0)) (C := RX6) (T := TX6) (N := 6) hx hb hts inX6 hown hG.1 hP 0 rfl rfl 2 (by decide) (hts (.fieldLink RX6 22 "WokenDrive" "history" "LWokenDrive$History;") (List.mem_of_getElem? (i := 2) rfl)) (fun _ h9 => h9) rfl dX6_work_13 ?_
  refine lv_aload_n hx hb dX6_work_16 rfl (lv_at hl 0 rfl) ?_
  refine va_get (D := (dC, dI)) (ci := 4) (v := .ref ((fun i => g (1 + i)) 0)) (C := RX6) (T := TX6) (N := 6) hx hb hts inX6 hown hG.1 hP 0 rfl rfl 0 (by decide) (hts (.fieldLink RX6 10 "WokenDrive" "drive" "LWokenDrive$Drive;") (List.mem_of_getElem? (i := 1) rfl)) (fun _ h9 => h9) rfl dX6_work_17 ?_
  obtain ⟨r2, hr2, hM⟩ := tbE hM
  obtain ⟨y_3, hy_3, hM⟩ := tbE hM
  refine wk_callM (ws' := (wSys cI cD kk.1 g (ss_his_s x r2))) (va_runV (As := [.ref ((fun i => g (1 + i)) 0)]) (rest := []) ⟨hx, hb, hml, hown, hts⟩ (c_X4_save l dC dI cI cD cJ kk (fun i => g (11 + i)) (fun i => g (1 + i)) (ss_his x) (ss_drv x) _ hr2.symm H) (cwV 1 hts gX6_work_X4_save rfl rfl rfl (by decide +kernel) ⟨Nat.le_of_ble_eq_true rfl, Nat.le_of_ble_eq_true rfl⟩) (wk_preV (ci := 3) (q0 := 11) hG hP hD [11, 12, 13, 14, 15, 16, 17, 18, 19, 20, 21, 22, 23, 24, 25, 26, 27, 28, 29, 30, 31, 32, 1, 2, 3, 4, 5] rfl rfl rfl rfl) rfl rfl hl.1 rfl (lv_room (Nat.le_of_ble_eq_true rfl)) dX6_work_20 ⟨Nat.le_of_ble_eq_true rfl, Nat.le_of_ble_eq_true rfl⟩) hP hD hS hA [11, 12, 13, 14, 15, 16, 17, 18, 19, 20, 21, 22, 23, 24, 25, 26, 27, 28, 29, 30, 31, 32, 1, 2, 3, 4, 5] [0, 6, 7, 8, 9, 10, 33, 34, 35, 36, 37] [0, 33, 34, 35, 36, 37, 1, 2, 3, 4, 5, 11, 12, 13, 14, 15, 16, 17, 18, 19, 20, 21, 22, 23, 24, 25, 26, 27, 28, 29, 30, 31, 32, 6, 7, 8, 9, 10] rfl rfl rfl (by decide) rfl rfl (fun H locs hP hD hS => ?_)
  have hP : va_P (dC, dI) vwCl (wSys cI cD kk.1 g y_3) H := by rw [hy_3]; exact hP
  have hD : va_D A (wSys cI cD kk.1 g y_3) := by rw [hy_3]; exact hD
  refine lv_aload_n hx hb dX6_work_23 rfl (lv_at hl 0 rfl) ?_
  refine va_get (D := (dC, dI)) (ci := 4) (v := .ref ((fun i => g (1 + i)) 0)) (C := RX6) (T := TX6) (N := 6) hx hb hts inX6 hown hG.1 hP 0 rfl rfl 0 (by decide) (hts (.fieldLink RX6 10 "WokenDrive" "drive" "LWokenDrive$Drive;") (List.mem_of_getElem? (i := 1) rfl)) (fun _ h9 => h9) rfl dX6_work_24 ?_
  refine lv_iload_n hx hb dX6_work_27 rfl (lv_at hl 1 rfl) ?_
  refine lv_iload_n hx hb dX6_work_28 rfl (lv_at hl 2 rfl) ?_
  obtain ⟨r4, hr4, hM⟩ := ob hM
  refine wk_callM (ws' := (wSys cI cD kk.1 g (ss_drv_s y_3 r4.2))) (va_runV (As := [.int p1, .int p2]) (rest := []) ⟨hx, hb, hml, hown, hts⟩ (c_X3_letWork l dC dI cI cD cJ kk (fun i => g (1 + i)) (ss_drv y_3) p1 p2 _ hr4 H) (cwV 2 hts gX6_work_X3_letWork rfl rfl rfl (by decide +kernel) ⟨Nat.le_of_ble_eq_true rfl, Nat.le_of_ble_eq_true rfl⟩) (wk_preV (ci := 2) (q0 := 1) hG hP hD [1, 2, 3, 4, 5] rfl rfl rfl rfl) rfl rfl hl.1 rfl (lv_room (Nat.le_of_ble_eq_true rfl)) dX6_work_29 ⟨Nat.le_of_ble_eq_true rfl, Nat.le_of_ble_eq_true rfl⟩) hP hD hS hA [1, 2, 3, 4, 5] [0, 6, 7, 8, 9, 10, 11, 12, 13, 14, 15, 16, 17, 18, 19, 20, 21, 22, 23, 24, 25, 26, 27, 28, 29, 30, 31, 32, 33, 34, 35, 36, 37] [0, 33, 34, 35, 36, 37, 1, 2, 3, 4, 5, 6, 7, 8, 9, 10, 11, 12, 13, 14, 15, 16, 17, 18, 19, 20, 21, 22, 23, 24, 25, 26, 27, 28, 29, 30, 31, 32] rfl rfl rfl (by decide) rfl rfl (fun H locs hP hD hS => ?_)
  replace hM := Option.some.inj hM
  subst hM
  exact wk_retXi hx hb hr hlocks hQ rfl rfl hP hD hS (Nat.le_of_ble_eq_true rfl) (Nat.le_of_ble_eq_true rfl) dX6_work_32
set_option maxHeartbeats 4000000 in
set_option maxRecDepth 100000 in
theorem c_X6_pass (l : Launch) (hflags : l.stackTraces = false) (dC : Nat → ClassId) (dI : Nat → Nat → Nat) (cI cD cJ : ClassId) (kk : wAd) (g : Nat → Nat) (x : SS) (p1 : Int32) (out : Int32 ⊕ (Int32 × SS)) (hM : M_X6_pass x p1 = some out) : CX kk l yX6_pass wsX6_pass ({ frames := 7, cells := 1, slots := 6, locals := 118 } : Room) dC dI (wTys cI cD cJ) [.ref (g 0), .int p1] (wSys cI cD kk.1 g x) (outX out (fun r => (some (.int r.1), (wSys cI cD kk.1 g r.2)))) 1 6 := by
  refine wk_enterX (cc := cX6_pass) (maxL := 2) (ret := (some .int)) (by decide) rfl (Nat.le_of_ble_eq_true rfl) ?_
  intro p e s m below meth c A Q ls hB hno hT hA hP hD hQ hl
  obtain ⟨hx, hb, hml, hr, hts, hown, hname, hlocks, hG⟩ := hB
  have hown : s.vm.findClass RX6 = some m.cls := hown
  have hS : va_S A s.heap s.heap [] := va_S.rf
  have hl : lv_has ls 2 [(0, .ref (g 0)), (1, .int p1)] := hl
  have inX6 : ∀ w ∈ wsX60, w ∈ wsX6_pass := fun _ h => List.mem_cons_of_mem _ (List.mem_append_left _ (List.mem_append_left _ (List.mem_append_left _ (List.mem_append_left _ (List.mem_append_left _ (List.mem_append_left _ (List.mem_append_right _ h)))))))
  obtain ⟨H, hH⟩ : ∃ z, z = s.heap := ⟨_, rfl⟩
  have hP : va_P (dC, dI) vwCl (wSys cI cD kk.1 g x) H := by rw [hH]; exact hP
  have hS : va_S A s.heap H [] := by rw [hH]; exact hS
  refine wk_at hH ?_
  generalize ([] : List Loc) = locs at hS ⊢
  unfold M_X6_pass at hM
  refine lv_aload_n hx hb dX6_pass_0 rfl (lv_at hl 0 rfl) ?_
  refine va_get (D := (dC, dI)) (ci := 4) (v := .ref ((fun i => g (1 + i)) 0)) (C := RX6) (T := TX6) (N := 6) hx hb hts inX6 hown hG.1 hP 0 rfl rfl 0 (by decide) (hts (.fieldLink RX6 10 "WokenDrive" "drive" "LWokenDrive$Drive;") (List.mem_of_getElem? (i := 1) rfl)) (fun _ h9 => h9) rfl dX6_pass_1 ?_
  refine lv_iload_n hx hb dX6_pass_4 rfl (lv_at hl 1 rfl) ?_
  refine wk_callP (va_runV (As := [.int p1]) (rest := []) ⟨hx, hb, hml, hown, hts⟩ (c_X3_faultOfPassing l dC dI cI cD cJ kk (fun i => g (1 + i)) (ss_drv x) p1 _ rfl H) (cwV 1 hts gX6_pass_X3_faultOfPassing rfl rfl rfl (by decide +kernel) ⟨Nat.le_of_ble_eq_true rfl, Nat.le_of_ble_eq_true rfl⟩) (wk_preV (ci := 2) (q0 := 1) hG hP hD [1, 2, 3, 4, 5] rfl rfl rfl rfl) rfl rfl hl.1 rfl (lv_room (Nat.le_of_ble_eq_true rfl)) dX6_pass_5 ⟨Nat.le_of_ble_eq_true rfl, Nat.le_of_ble_eq_true rfl⟩) hS (fun locs hS => ?_)
  by_cases c1 : rfs (M_X3_faultOfPassing (ss_drv x) p1) = true
  · replace hM := (if_pos c1).symm.trans hM
    refine wk_callX (vx_runS (As := [.int (M_X3_faultOfPassing (ss_drv x) p1)]) (rest := []) ⟨hx, hb, hml, hown, hts⟩ (c_X6_refuse l hflags dC dI cI cD cJ kk (M_X3_faultOfPassing (ss_drv x) p1) _ (if_pos c1).symm H) (va_cwS 1 hts gX6_pass_X6_refuse rfl rfl rfl (by decide +kernel) ⟨Nat.le_of_ble_eq_true rfl, Nat.le_of_ble_eq_true rfl⟩) (wk_preST hG hP hD hT hS [] rfl rfl (va_free hD hS hA [] rfl)) rfl rfl hl.1 rfl (lv_room (Nat.le_of_ble_eq_true rfl)) dX6_pass_8 ⟨Nat.le_of_ble_eq_true rfl, Nat.le_of_ble_eq_true rfl⟩) hP hD hS hA [] [0, 1, 2, 3, 4, 5, 6, 7, 8, 9, 10, 11, 12, 13, 14, 15, 16, 17, 18, 19, 20, 21, 22, 23, 24, 25, 26, 27, 28, 29, 30, 31, 32, 33, 34, 35, 36, 37] [0, 1, 2, 3, 4, 5, 6, 7, 8, 9, 10, 11, 12, 13, 14, 15, 16, 17, 18, 19, 20, 21, 22, 23, 24, 25, 26, 27, 28, 29, 30, 31, 32, 33, 34, 35, 36, 37] rfl rfl rfl (by decide) rfl rfl (fun f9 ce q9 H locs ho9 hP hD hS hc9 hv9 hf9 => ?_) (fun ov w1 ho9 => by cases ho9)
    cases ho9
    replace hM := Option.some.inj hM
    subst hM
    exact wk_outX hno hlocks hQ rfl hP hD hS (Nat.le_of_ble_eq_true rfl) (Nat.le_of_ble_eq_true rfl) hc9 hv9 hf9
  replace hM := (if_neg c1).symm.trans hM
  refine wk_callX (vx_runS (As := [.int (M_X3_faultOfPassing (ss_drv x) p1)]) (rest := []) ⟨hx, hb, hml, hown, hts⟩ (c_X6_refuse l hflags dC dI cI cD cJ kk (M_X3_faultOfPassing (ss_drv x) p1) _ (if_neg c1).symm H) (va_cwS 1 hts gX6_pass_X6_refuse rfl rfl rfl (by decide +kernel) ⟨Nat.le_of_ble_eq_true rfl, Nat.le_of_ble_eq_true rfl⟩) (wk_preST hG hP hD hT hS [] rfl rfl (va_free hD hS hA [] rfl)) rfl rfl hl.1 rfl (lv_room (Nat.le_of_ble_eq_true rfl)) dX6_pass_8 ⟨Nat.le_of_ble_eq_true rfl, Nat.le_of_ble_eq_true rfl⟩) hP hD hS hA [] [0, 1, 2, 3, 4, 5, 6, 7, 8, 9, 10, 11, 12, 13, 14, 15, 16, 17, 18, 19, 20, 21, 22, 23, 24, 25, 26, 27, 28, 29, 30, 31, 32, 33, 34, 35, 36, 37] [0, 1, 2, 3, 4, 5, 6, 7, 8, 9, 10, 11, 12, 13, 14, 15, 16, 17, 18, 19, 20, 21, 22, 23, 24, 25, 26, 27, 28, 29, 30, 31, 32, 33, 34, 35, 36, 37] rfl rfl rfl (by decide) rfl rfl (fun f9 ce q9 H locs ho9 hP hD hS hc9 hv9 hf9 => by cases ho9) (fun ov w1 ho9 H locs hPD hS => ?_)
  cases ho9
  obtain ⟨hP, hD⟩ := hPD (wSys cI cD kk.1 g x) rfl
  refine lv_aload_n hx hb dX6_pass_11 rfl (lv_at hl 0 rfl) ?_
  refine va_get (D := (dC, dI)) (ci := 4) (v := .ref ((fun i => g (11 + i)) 0)) (C := RX6) (T := TX6) (N := 6) hx hb hts inX6 hown hG.1 hP 0 rfl rfl 2 (by decide) (hts (.fieldLink RX6 22 "WokenDrive" "history" "LWokenDrive$History;") (List.mem_of_getElem? (i := 2) rfl)) (fun _ h9 => h9) rfl dX6_pass_12 ?_
  refine lv_aload_n hx hb dX6_pass_15 rfl (lv_at hl 0 rfl) ?_
  refine va_get (D := (dC, dI)) (ci := 4) (v := .ref ((fun i => g (1 + i)) 0)) (C := RX6) (T := TX6) (N := 6) hx hb hts inX6 hown hG.1 hP 0 rfl rfl 0 (by decide) (hts (.fieldLink RX6 10 "WokenDrive" "drive" "LWokenDrive$Drive;") (List.mem_of_getElem? (i := 1) rfl)) (fun _ h9 => h9) rfl dX6_pass_16 ?_
  obtain ⟨r2, hr2, hM⟩ := tbE hM
  obtain ⟨y_3, hy_3, hM⟩ := tbE hM
  refine wk_callM (ws' := (wSys cI cD kk.1 g (ss_his_s x r2))) (va_runV (As := [.ref ((fun i => g (1 + i)) 0)]) (rest := []) ⟨hx, hb, hml, hown, hts⟩ (c_X4_save l dC dI cI cD cJ kk (fun i => g (11 + i)) (fun i => g (1 + i)) (ss_his x) (ss_drv x) _ hr2.symm H) (cwV 1 hts gX6_pass_X4_save rfl rfl rfl (by decide +kernel) ⟨Nat.le_of_ble_eq_true rfl, Nat.le_of_ble_eq_true rfl⟩) (wk_preV (ci := 3) (q0 := 11) hG hP hD [11, 12, 13, 14, 15, 16, 17, 18, 19, 20, 21, 22, 23, 24, 25, 26, 27, 28, 29, 30, 31, 32, 1, 2, 3, 4, 5] rfl rfl rfl rfl) rfl rfl hl.1 rfl (lv_room (Nat.le_of_ble_eq_true rfl)) dX6_pass_19 ⟨Nat.le_of_ble_eq_true rfl, Nat.le_of_ble_eq_true rfl⟩) hP hD hS hA [11, 12, 13, 14, 15, 16, 17, 18, 19, 20, 21, 22, 23, 24, 25, 26, 27, 28, 29, 30, 31, 32, 1, 2, 3, 4, 5] [0, 6, 7, 8, 9, 10, 33, 34, 35, 36, 37] [0, 33, 34, 35, 36, 37, 1, 2, 3, 4, 5, 11, 12, 13, 14, 15, 16, 17, 18, 19, 20, 21, 22, 23, 24, 25, 26, 27, 28, 29, 30, 31, 32, 6, 7, 8, 9, 10] rfl rfl rfl (by decide) rfl rfl (fun H locs hP hD hS => ?_)
  have hP : va_P (dC, dI) vwCl (wSys cI cD kk.1 g y_3) H := by rw [hy_3]; exact hP
  have hD : va_D A (wSys cI cD kk.1 g y_3) := by rw [hy_3]; exact hD
  refine lv_aload_n hx hb dX6_pass_22 rfl (lv_at hl 0 rfl) ?_
  refine va_get (D := (dC, dI)) (ci := 4) (v := .ref ((fun i => g (1 + i)) 0)) (C := RX6) (T := TX6) (N := 6) hx hb hts inX6 hown hG.1 hP 0 rfl rfl 0 (by decide) (hts (.fieldLink RX6 10 "WokenDrive" "drive" "LWokenDrive$Drive;") (List.mem_of_getElem? (i := 1) rfl)) (fun _ h9 => h9) rfl dX6_pass_23 ?_
  refine lv_iload_n hx hb dX6_pass_26 rfl (lv_at hl 1 rfl) ?_
  obtain ⟨r4, hr4, hM⟩ := ob hM
  refine wk_callM (ws' := (wSys cI cD kk.1 g (ss_drv_s y_3 r4.2))) (va_runV (As := [.int p1]) (rest := []) ⟨hx, hb, hml, hown, hts⟩ (c_X3_letPass l dC dI cI cD cJ kk (fun i => g (1 + i)) (ss_drv y_3) p1 _ hr4 H) (cwV 1 hts gX6_pass_X3_letPass rfl rfl rfl (by decide +kernel) ⟨Nat.le_of_ble_eq_true rfl, Nat.le_of_ble_eq_true rfl⟩) (wk_preV (ci := 2) (q0 := 1) hG hP hD [1, 2, 3, 4, 5] rfl rfl rfl rfl) rfl rfl hl.1 rfl (lv_room (Nat.le_of_ble_eq_true rfl)) dX6_pass_27 ⟨Nat.le_of_ble_eq_true rfl, Nat.le_of_ble_eq_true rfl⟩) hP hD hS hA [1, 2, 3, 4, 5] [0, 6, 7, 8, 9, 10, 11, 12, 13, 14, 15, 16, 17, 18, 19, 20, 21, 22, 23, 24, 25, 26, 27, 28, 29, 30, 31, 32, 33, 34, 35, 36, 37] [0, 33, 34, 35, 36, 37, 1, 2, 3, 4, 5, 6, 7, 8, 9, 10, 11, 12, 13, 14, 15, 16, 17, 18, 19, 20, 21, 22, 23, 24, 25, 26, 27, 28, 29, 30, 31, 32] rfl rfl rfl (by decide) rfl rfl (fun H locs hP hD hS => ?_)
  replace hM := Option.some.inj hM
  subst hM
  exact wk_retXi hx hb hr hlocks hQ rfl rfl hP hD hS (Nat.le_of_ble_eq_true rfl) (Nat.le_of_ble_eq_true rfl) dX6_pass_30
set_option maxHeartbeats 4000000 in
set_option maxRecDepth 100000 in
theorem c_X6_lose (l : Launch) (hflags : l.stackTraces = false) (dC : Nat → ClassId) (dI : Nat → Nat → Nat) (cI cD cJ : ClassId) (kk : wAd) (g : Nat → Nat) (x : SS) (p1 : Int32) (out : Int32 ⊕ (Int32 × SS)) (hM : M_X6_lose x p1 = some out) : CX kk l yX6_lose wsX6_lose ({ frames := 7, cells := 1, slots := 6, locals := 103 } : Room) dC dI (wTys cI cD cJ) [.ref (g 0), .int p1] (wSys cI cD kk.1 g x) (outX out (fun r => (some (.int r.1), (wSys cI cD kk.1 g r.2)))) 1 6 := by
  refine wk_enterX (cc := cX6_lose) (maxL := 2) (ret := (some .int)) (by decide) rfl (Nat.le_of_ble_eq_true rfl) ?_
  intro p e s m below meth c A Q ls hB hno hT hA hP hD hQ hl
  obtain ⟨hx, hb, hml, hr, hts, hown, hname, hlocks, hG⟩ := hB
  have hown : s.vm.findClass RX6 = some m.cls := hown
  have hS : va_S A s.heap s.heap [] := va_S.rf
  have hl : lv_has ls 2 [(0, .ref (g 0)), (1, .int p1)] := hl
  have inX6 : ∀ w ∈ wsX60, w ∈ wsX6_lose := fun _ h => List.mem_cons_of_mem _ (List.mem_append_left _ (List.mem_append_left _ (List.mem_append_left _ (List.mem_append_left _ (List.mem_append_left _ (List.mem_append_left _ (List.mem_append_right _ h)))))))
  obtain ⟨H, hH⟩ : ∃ z, z = s.heap := ⟨_, rfl⟩
  have hP : va_P (dC, dI) vwCl (wSys cI cD kk.1 g x) H := by rw [hH]; exact hP
  have hS : va_S A s.heap H [] := by rw [hH]; exact hS
  refine wk_at hH ?_
  generalize ([] : List Loc) = locs at hS ⊢
  unfold M_X6_lose at hM
  refine lv_iload_n hx hb dX6_lose_0 rfl (lv_at hl 1 rfl) ?_
  refine wk_callP (va_runS (As := [.int p1]) (rest := []) ⟨hx, hb, hml, hown, hts⟩ (c_X6_faultOfController l dC dI cI cD cJ kk  p1 _ rfl H) (va_cwS 1 hts gX6_lose_X6_faultOfController rfl rfl rfl (by decide +kernel) ⟨Nat.le_of_ble_eq_true rfl, Nat.le_of_ble_eq_true rfl⟩) (wk_preS hG hP hD [] rfl rfl) rfl rfl hl.1 rfl (lv_room (Nat.le_of_ble_eq_true rfl)) dX6_lose_1 ⟨Nat.le_of_ble_eq_true rfl, Nat.le_of_ble_eq_true rfl⟩) hS (fun locs hS => ?_)
  by_cases c1 : rfs (M_X6_faultOfController p1) = true
  · replace hM := (if_pos c1).symm.trans hM
    refine wk_callX (vx_runS (As := [.int (M_X6_faultOfController p1)]) (rest := []) ⟨hx, hb, hml, hown, hts⟩ (c_X6_refuse l hflags dC dI cI cD cJ kk (M_X6_faultOfController p1) _ (if_pos c1).symm H) (va_cwS 1 hts gX6_lose_X6_refuse rfl rfl rfl (by decide +kernel) ⟨Nat.le_of_ble_eq_true rfl, Nat.le_of_ble_eq_true rfl⟩) (wk_preST hG hP hD hT hS [] rfl rfl (va_free hD hS hA [] rfl)) rfl rfl hl.1 rfl (lv_room (Nat.le_of_ble_eq_true rfl)) dX6_lose_4 ⟨Nat.le_of_ble_eq_true rfl, Nat.le_of_ble_eq_true rfl⟩) hP hD hS hA [] [0, 1, 2, 3, 4, 5, 6, 7, 8, 9, 10, 11, 12, 13, 14, 15, 16, 17, 18, 19, 20, 21, 22, 23, 24, 25, 26, 27, 28, 29, 30, 31, 32, 33, 34, 35, 36, 37] [0, 1, 2, 3, 4, 5, 6, 7, 8, 9, 10, 11, 12, 13, 14, 15, 16, 17, 18, 19, 20, 21, 22, 23, 24, 25, 26, 27, 28, 29, 30, 31, 32, 33, 34, 35, 36, 37] rfl rfl rfl (by decide) rfl rfl (fun f9 ce q9 H locs ho9 hP hD hS hc9 hv9 hf9 => ?_) (fun ov w1 ho9 => by cases ho9)
    cases ho9
    replace hM := Option.some.inj hM
    subst hM
    exact wk_outX hno hlocks hQ rfl hP hD hS (Nat.le_of_ble_eq_true rfl) (Nat.le_of_ble_eq_true rfl) hc9 hv9 hf9
  replace hM := (if_neg c1).symm.trans hM
  refine wk_callX (vx_runS (As := [.int (M_X6_faultOfController p1)]) (rest := []) ⟨hx, hb, hml, hown, hts⟩ (c_X6_refuse l hflags dC dI cI cD cJ kk (M_X6_faultOfController p1) _ (if_neg c1).symm H) (va_cwS 1 hts gX6_lose_X6_refuse rfl rfl rfl (by decide +kernel) ⟨Nat.le_of_ble_eq_true rfl, Nat.le_of_ble_eq_true rfl⟩) (wk_preST hG hP hD hT hS [] rfl rfl (va_free hD hS hA [] rfl)) rfl rfl hl.1 rfl (lv_room (Nat.le_of_ble_eq_true rfl)) dX6_lose_4 ⟨Nat.le_of_ble_eq_true rfl, Nat.le_of_ble_eq_true rfl⟩) hP hD hS hA [] [0, 1, 2, 3, 4, 5, 6, 7, 8, 9, 10, 11, 12, 13, 14, 15, 16, 17, 18, 19, 20, 21, 22, 23, 24, 25, 26, 27, 28, 29, 30, 31, 32, 33, 34, 35, 36, 37] [0, 1, 2, 3, 4, 5, 6, 7, 8, 9, 10, 11, 12, 13, 14, 15, 16, 17, 18, 19, 20, 21, 22, 23, 24, 25, 26, 27, 28, 29, 30, 31, 32, 33, 34, 35, 36, 37] rfl rfl rfl (by decide) rfl rfl (fun f9 ce q9 H locs ho9 hP hD hS hc9 hv9 hf9 => by cases ho9) (fun ov w1 ho9 H locs hPD hS => ?_)
  cases ho9
  obtain ⟨hP, hD⟩ := hPD (wSys cI cD kk.1 g x) rfl
  refine lv_aload_n hx hb dX6_lose_7 rfl (lv_at hl 0 rfl) ?_
  refine va_get (D := (dC, dI)) (ci := 4) (v := .ref ((fun i => g (11 + i)) 0)) (C := RX6) (T := TX6) (N := 6) hx hb hts inX6 hown hG.1 hP 0 rfl rfl 2 (by decide) (hts (.fieldLink RX6 22 "WokenDrive" "history" "LWokenDrive$History;") (List.mem_of_getElem? (i := 1) rfl)) (fun _ h9 => h9) rfl dX6_lose_8 ?_
  refine lv_aload_n hx hb dX6_lose_11 rfl (lv_at hl 0 rfl) ?_
  refine va_get (D := (dC, dI)) (ci := 4) (v := .ref ((fun i => g (1 + i)) 0)) (C := RX6) (T := TX6) (N := 6) hx hb hts inX6 hown hG.1 hP 0 rfl rfl 0 (by decide) (hts (.fieldLink RX6 10 "WokenDrive" "drive" "LWokenDrive$Drive;") (List.mem_of_getElem? (i := 2) rfl)) (fun _ h9 => h9) rfl dX6_lose_12 ?_
  obtain ⟨r2, hr2, hM⟩ := tbE hM
  obtain ⟨y_3, hy_3, hM⟩ := tbE hM
  refine wk_callM (ws' := (wSys cI cD kk.1 g (ss_his_s x r2))) (va_runV (As := [.ref ((fun i => g (1 + i)) 0)]) (rest := []) ⟨hx, hb, hml, hown, hts⟩ (c_X4_save l dC dI cI cD cJ kk (fun i => g (11 + i)) (fun i => g (1 + i)) (ss_his x) (ss_drv x) _ hr2.symm H) (cwV 1 hts gX6_lose_X4_save rfl rfl rfl (by decide +kernel) ⟨Nat.le_of_ble_eq_true rfl, Nat.le_of_ble_eq_true rfl⟩) (wk_preV (ci := 3) (q0 := 11) hG hP hD [11, 12, 13, 14, 15, 16, 17, 18, 19, 20, 21, 22, 23, 24, 25, 26, 27, 28, 29, 30, 31, 32, 1, 2, 3, 4, 5] rfl rfl rfl rfl) rfl rfl hl.1 rfl (lv_room (Nat.le_of_ble_eq_true rfl)) dX6_lose_15 ⟨Nat.le_of_ble_eq_true rfl, Nat.le_of_ble_eq_true rfl⟩) hP hD hS hA [11, 12, 13, 14, 15, 16, 17, 18, 19, 20, 21, 22, 23, 24, 25, 26, 27, 28, 29, 30, 31, 32, 1, 2, 3, 4, 5] [0, 6, 7, 8, 9, 10, 33, 34, 35, 36, 37] [0, 33, 34, 35, 36, 37, 1, 2, 3, 4, 5, 11, 12, 13, 14, 15, 16, 17, 18, 19, 20, 21, 22, 23, 24, 25, 26, 27, 28, 29, 30, 31, 32, 6, 7, 8, 9, 10] rfl rfl rfl (by decide) rfl rfl (fun H locs hP hD hS => ?_)
  have hP : va_P (dC, dI) vwCl (wSys cI cD kk.1 g y_3) H := by rw [hy_3]; exact hP
  have hD : va_D A (wSys cI cD kk.1 g y_3) := by rw [hy_3]; exact hD
  refine lv_aload_n hx hb dX6_lose_18 rfl (lv_at hl 0 rfl) ?_
  refine va_get (D := (dC, dI)) (ci := 4) (v := .ref ((fun i => g (1 + i)) 0)) (C := RX6) (T := TX6) (N := 6) hx hb hts inX6 hown hG.1 hP 0 rfl rfl 0 (by decide) (hts (.fieldLink RX6 10 "WokenDrive" "drive" "LWokenDrive$Drive;") (List.mem_of_getElem? (i := 2) rfl)) (fun _ h9 => h9) rfl dX6_lose_19 ?_
  refine lv_iload_n hx hb dX6_lose_22 rfl (lv_at hl 1 rfl) ?_
  obtain ⟨r4, hr4, hM⟩ := tbE hM
  refine wk_callM (ws' := (wSys cI cD kk.1 g (ss_drv_s y_3 r4.2))) (va_runV (As := [.int p1]) (rest := []) ⟨hx, hb, hml, hown, hts⟩ (c_X3_takeMailboxAway l dC dI cI cD cJ kk (fun i => g (1 + i)) (ss_drv y_3) p1 _ hr4.symm H) (cwV 1 hts gX6_lose_X3_takeMailboxAway rfl rfl rfl (by decide +kernel) ⟨Nat.le_of_ble_eq_true rfl, Nat.le_of_ble_eq_true rfl⟩) (wk_preV (ci := 2) (q0 := 1) hG hP hD [1, 2, 3, 4, 5] rfl rfl rfl rfl) rfl rfl hl.1 rfl (lv_room (Nat.le_of_ble_eq_true rfl)) dX6_lose_23 ⟨Nat.le_of_ble_eq_true rfl, Nat.le_of_ble_eq_true rfl⟩) hP hD hS hA [1, 2, 3, 4, 5] [0, 6, 7, 8, 9, 10, 11, 12, 13, 14, 15, 16, 17, 18, 19, 20, 21, 22, 23, 24, 25, 26, 27, 28, 29, 30, 31, 32, 33, 34, 35, 36, 37] [0, 33, 34, 35, 36, 37, 1, 2, 3, 4, 5, 6, 7, 8, 9, 10, 11, 12, 13, 14, 15, 16, 17, 18, 19, 20, 21, 22, 23, 24, 25, 26, 27, 28, 29, 30, 31, 32] rfl rfl rfl (by decide) rfl rfl (fun H locs hP hD hS => ?_)
  replace hM := Option.some.inj hM
  subst hM
  exact wk_retXi hx hb hr hlocks hQ rfl rfl hP hD hS (Nat.le_of_ble_eq_true rfl) (Nat.le_of_ble_eq_true rfl) dX6_lose_26
set_option maxHeartbeats 4000000 in
set_option maxRecDepth 100000 in
theorem c_X6_block (l : Launch) (hflags : l.stackTraces = false) (dC : Nat → ClassId) (dI : Nat → Nat → Nat) (cI cD cJ : ClassId) (kk : wAd) (g : Nat → Nat) (x : SS) (p1 : Int32) (out : Int32 ⊕ (Int32)) (hM : M_X6_block x p1 = some out) : CX kk l yX6_block wsX6_block ({ frames := 7, cells := 1, slots := 6, locals := 102 } : Room) dC dI (wTys cI cD cJ) [.ref (g 0), .int p1] (wSys cI cD kk.1 g x) (outX out (fun r => (some (.int r), (wSys cI cD kk.1 g x)))) 1 6 := by
  refine wk_enterX (cc := cX6_block) (maxL := 2) (ret := (some .int)) (by decide) rfl (Nat.le_of_ble_eq_true rfl) ?_
  intro p e s m below meth c A Q ls hB hno hT hA hP hD hQ hl
  obtain ⟨hx, hb, hml, hr, hts, hown, hname, hlocks, hG⟩ := hB
  have hown : s.vm.findClass RX6 = some m.cls := hown
  have hS : va_S A s.heap s.heap [] := va_S.rf
  have hl : lv_has ls 2 [(0, .ref (g 0)), (1, .int p1)] := hl
  have inX3 : ∀ w ∈ wsX30, w ∈ wsX6_block := fun _ h => List.mem_cons_of_mem _ (List.mem_append_left _ (List.mem_append_left _ (List.mem_append_left _ (List.mem_append_right _ h))))
  have inX6 : ∀ w ∈ wsX60, w ∈ wsX6_block := fun _ h => List.mem_cons_of_mem _ (List.mem_append_left _ (List.mem_append_left _ (List.mem_append_left _ (List.mem_append_left _ (List.mem_append_right _ h)))))
  obtain ⟨H, hH⟩ : ∃ z, z = s.heap := ⟨_, rfl⟩
  have hP : va_P (dC, dI) vwCl (wSys cI cD kk.1 g x) H := by rw [hH]; exact hP
  have hS : va_S A s.heap H [] := by rw [hH]; exact hS
  refine wk_at hH ?_
  generalize ([] : List Loc) = locs at hS ⊢
  unfold M_X6_block at hM
  refine lv_iload_n hx hb dX6_block_0 rfl (lv_at hl 1 rfl) ?_
  refine wk_callP (va_runS (As := [.int p1]) (rest := []) ⟨hx, hb, hml, hown, hts⟩ (c_X6_faultOfBlock l dC dI cI cD cJ kk  p1 _ rfl H) (va_cwS 1 hts gX6_block_X6_faultOfBlock rfl rfl rfl (by decide +kernel) ⟨Nat.le_of_ble_eq_true rfl, Nat.le_of_ble_eq_true rfl⟩) (wk_preS hG hP hD [] rfl rfl) rfl rfl hl.1 rfl (lv_room (Nat.le_of_ble_eq_true rfl)) dX6_block_1 ⟨Nat.le_of_ble_eq_true rfl, Nat.le_of_ble_eq_true rfl⟩) hS (fun locs hS => ?_)
  by_cases c1 : rfs (M_X6_faultOfBlock p1) = true
  · replace hM := (if_pos c1).symm.trans hM
    refine wk_callX (vx_runS (As := [.int (M_X6_faultOfBlock p1)]) (rest := []) ⟨hx, hb, hml, hown, hts⟩ (c_X6_refuse l hflags dC dI cI cD cJ kk (M_X6_faultOfBlock p1) _ (if_pos c1).symm H) (va_cwS 1 hts gX6_block_X6_refuse rfl rfl rfl (by decide +kernel) ⟨Nat.le_of_ble_eq_true rfl, Nat.le_of_ble_eq_true rfl⟩) (wk_preST hG hP hD hT hS [] rfl rfl (va_free hD hS hA [] rfl)) rfl rfl hl.1 rfl (lv_room (Nat.le_of_ble_eq_true rfl)) dX6_block_4 ⟨Nat.le_of_ble_eq_true rfl, Nat.le_of_ble_eq_true rfl⟩) hP hD hS hA [] [0, 1, 2, 3, 4, 5, 6, 7, 8, 9, 10, 11, 12, 13, 14, 15, 16, 17, 18, 19, 20, 21, 22, 23, 24, 25, 26, 27, 28, 29, 30, 31, 32, 33, 34, 35, 36, 37] [0, 1, 2, 3, 4, 5, 6, 7, 8, 9, 10, 11, 12, 13, 14, 15, 16, 17, 18, 19, 20, 21, 22, 23, 24, 25, 26, 27, 28, 29, 30, 31, 32, 33, 34, 35, 36, 37] rfl rfl rfl (by decide) rfl rfl (fun f9 ce q9 H locs ho9 hP hD hS hc9 hv9 hf9 => ?_) (fun ov w1 ho9 => by cases ho9)
    cases ho9
    replace hM := Option.some.inj hM
    subst hM
    exact wk_outX hno hlocks hQ rfl hP hD hS (Nat.le_of_ble_eq_true rfl) (Nat.le_of_ble_eq_true rfl) hc9 hv9 hf9
  replace hM := (if_neg c1).symm.trans hM
  refine wk_callX (vx_runS (As := [.int (M_X6_faultOfBlock p1)]) (rest := []) ⟨hx, hb, hml, hown, hts⟩ (c_X6_refuse l hflags dC dI cI cD cJ kk (M_X6_faultOfBlock p1) _ (if_neg c1).symm H) (va_cwS 1 hts gX6_block_X6_refuse rfl rfl rfl (by decide +kernel) ⟨Nat.le_of_ble_eq_true rfl, Nat.le_of_ble_eq_true rfl⟩) (wk_preST hG hP hD hT hS [] rfl rfl (va_free hD hS hA [] rfl)) rfl rfl hl.1 rfl (lv_room (Nat.le_of_ble_eq_true rfl)) dX6_block_4 ⟨Nat.le_of_ble_eq_true rfl, Nat.le_of_ble_eq_true rfl⟩) hP hD hS hA [] [0, 1, 2, 3, 4, 5, 6, 7, 8, 9, 10, 11, 12, 13, 14, 15, 16, 17, 18, 19, 20, 21, 22, 23, 24, 25, 26, 27, 28, 29, 30, 31, 32, 33, 34, 35, 36, 37] [0, 1, 2, 3, 4, 5, 6, 7, 8, 9, 10, 11, 12, 13, 14, 15, 16, 17, 18, 19, 20, 21, 22, 23, 24, 25, 26, 27, 28, 29, 30, 31, 32, 33, 34, 35, 36, 37] rfl rfl rfl (by decide) rfl rfl (fun f9 ce q9 H locs ho9 hP hD hS hc9 hv9 hf9 => by cases ho9) (fun ov w1 ho9 H locs hPD hS => ?_)
  cases ho9
  obtain ⟨hP, hD⟩ := hPD (wSys cI cD kk.1 g x) rfl
  refine lv_aload_n hx hb dX6_block_7 rfl (lv_at hl 0 rfl) ?_
  refine va_get (D := (dC, dI)) (ci := 4) (v := .ref ((fun i => g (1 + i)) 0)) (C := RX6) (T := TX6) (N := 6) hx hb hts inX6 hown hG.1 hP 0 rfl rfl 0 (by decide) (hts (.fieldLink RX6 10 "WokenDrive" "drive" "LWokenDrive$Drive;") (List.mem_of_getElem? (i := 1) rfl)) (fun _ h9 => h9) rfl dX6_block_8 ?_
  refine va_get (D := (dC, dI)) (ci := 2) (v := .ref ((fun i => g (1 + i)) 1)) (C := RX3) (T := TX3) (N := 8) hx hb hts inX3 hown hG.1 hP 1 rfl rfl 0 (by decide) (hts (.fieldLink RX6 108 "WokenDrive$Drive" "values" "[I") (List.mem_of_getElem? (i := 2) rfl)) (fun _ h9 => h9) rfl dX6_block_11 ?_
  refine lv_iload_n hx hb dX6_block_14 rfl (lv_at hl 1 rfl) ?_
  refine wk_callP (va_runS (As := [.ref ((fun i => g (1 + i)) 1), .int p1]) (rest := []) ⟨hx, hb, hml, hown, hts⟩ (c_X6_at l dC dI cI cD cJ kk ((fun i => g (1 + i)) 1) 16 (ds_val (ss_drv x)) p1 (by decide) _ rfl H) (va_cwS 2 hts gX6_block_X6_at rfl rfl rfl (by decide +kernel) ⟨Nat.le_of_ble_eq_true rfl, Nat.le_of_ble_eq_true rfl⟩) (wk_preS hG hP hD [2] rfl rfl) rfl rfl hl.1 rfl (lv_room (Nat.le_of_ble_eq_true rfl)) dX6_block_15 ⟨Nat.le_of_ble_eq_true rfl, Nat.le_of_ble_eq_true rfl⟩) hS (fun locs hS => ?_)
  replace hM := Option.some.inj hM
  subst hM
  exact wk_retXi hx hb hr hlocks hQ rfl rfl hP hD hS (Nat.le_of_ble_eq_true rfl) (Nat.le_of_ble_eq_true rfl) dX6_block_18
set_option maxHeartbeats 4000000 in
set_option maxRecDepth 100000 in
theorem c_X6_orderOf (l : Launch) (hflags : l.stackTraces = false) (dC : Nat → ClassId) (dI : Nat → Nat → Nat) (cI cD cJ : ClassId) (kk : wAd) (g : Nat → Nat) (x : SS) (p1 : Int32) (p2 : Int32) (out : Int32 ⊕ (Int32)) (hM : M_X6_orderOf x p1 p2 = some out) : CX kk l yX6_orderOf wsX6_orderOf ({ frames := 7, cells := 2, slots := 12, locals := 102 } : Room) dC dI (wTys cI cD cJ) [.ref (g 0), .int p1, .int p2] (wSys cI cD kk.1 g x) (outX out (fun r => (some (.int r), (wSys cI cD kk.1 g x)))) 2 12 := by
  refine wk_enterX (cc := cX6_orderOf) (maxL := 3) (ret := (some .int)) (by decide) rfl (Nat.le_of_ble_eq_true rfl) ?_
  intro p e s m below meth c A Q ls hB hno hT hA hP hD hQ hl
  obtain ⟨hx, hb, hml, hr, hts, hown, hname, hlocks, hG⟩ := hB
  have hown : s.vm.findClass RX6 = some m.cls := hown
  have hS : va_S A s.heap s.heap [] := va_S.rf
  have hl : lv_has ls 3 [(0, .ref (g 0)), (1, .int p1), (2, .int p2)] := hl
  have inX6 : ∀ w ∈ wsX60, w ∈ wsX6_orderOf := fun _ h => List.mem_cons_of_mem _ (List.mem_append_left _ (List.mem_append_left _ (List.mem_append_left _ (List.mem_append_left _ (List.mem_append_right _ h)))))
  obtain ⟨H, hH⟩ : ∃ z, z = s.heap := ⟨_, rfl⟩
  have hP : va_P (dC, dI) vwCl (wSys cI cD kk.1 g x) H := by rw [hH]; exact hP
  have hS : va_S A s.heap H [] := by rw [hH]; exact hS
  refine wk_at hH ?_
  generalize ([] : List Loc) = locs at hS ⊢
  unfold M_X6_orderOf at hM
  refine lv_aload_n hx hb dX6_orderOf_0 rfl (lv_at hl 0 rfl) ?_
  refine va_get (D := (dC, dI)) (ci := 4) (v := .ref ((fun i => g (1 + i)) 0)) (C := RX6) (T := TX6) (N := 6) hx hb hts inX6 hown hG.1 hP 0 rfl rfl 0 (by decide) (hts (.fieldLink RX6 10 "WokenDrive" "drive" "LWokenDrive$Drive;") (List.mem_of_getElem? (i := 1) rfl)) (fun _ h9 => h9) rfl dX6_orderOf_1 ?_
  refine lv_iload_n hx hb dX6_orderOf_4 rfl (lv_at hl 1 rfl) ?_
  refine wk_callP (va_runV (As := [.int p1]) (rest := []) ⟨hx, hb, hml, hown, hts⟩ (c_X3_faultOfOrder l dC dI cI cD cJ kk (fun i => g (1 + i)) (ss_drv x) p1 _ rfl H) (cwV 1 hts gX6_orderOf_X3_faultOfOrder rfl rfl rfl (by decide +kernel) ⟨Nat.le_of_ble_eq_true rfl, Nat.le_of_ble_eq_true rfl⟩) (wk_preV (ci := 2) (q0 := 1) hG hP hD [1, 2, 3, 4, 5] rfl rfl rfl rfl) rfl rfl hl.1 rfl (lv_room (Nat.le_of_ble_eq_true rfl)) dX6_orderOf_5 ⟨Nat.le_of_ble_eq_true rfl, Nat.le_of_ble_eq_true rfl⟩) hS (fun locs hS => ?_)
  by_cases c1 : rfs (M_X3_faultOfOrder (ss_drv x) p1) = true
  · replace hM := (if_pos c1).symm.trans hM
    refine wk_callX (vx_runS (As := [.int (M_X3_faultOfOrder (ss_drv x) p1)]) (rest := []) ⟨hx, hb, hml, hown, hts⟩ (c_X6_refuse l hflags dC dI cI cD cJ kk (M_X3_faultOfOrder (ss_drv x) p1) _ (if_pos c1).symm H) (va_cwS 1 hts gX6_orderOf_X6_refuse rfl rfl rfl (by decide +kernel) ⟨Nat.le_of_ble_eq_true rfl, Nat.le_of_ble_eq_true rfl⟩) (wk_preST hG hP hD hT hS [] rfl rfl (va_free hD hS hA [] rfl)) rfl rfl hl.1 rfl (lv_room (Nat.le_of_ble_eq_true rfl)) dX6_orderOf_8 ⟨Nat.le_of_ble_eq_true rfl, Nat.le_of_ble_eq_true rfl⟩) hP hD hS hA [] [0, 1, 2, 3, 4, 5, 6, 7, 8, 9, 10, 11, 12, 13, 14, 15, 16, 17, 18, 19, 20, 21, 22, 23, 24, 25, 26, 27, 28, 29, 30, 31, 32, 33, 34, 35, 36, 37] [0, 1, 2, 3, 4, 5, 6, 7, 8, 9, 10, 11, 12, 13, 14, 15, 16, 17, 18, 19, 20, 21, 22, 23, 24, 25, 26, 27, 28, 29, 30, 31, 32, 33, 34, 35, 36, 37] rfl rfl rfl (by decide) rfl rfl (fun f9 ce q9 H locs ho9 hP hD hS hc9 hv9 hf9 => ?_) (fun ov w1 ho9 => by cases ho9)
    cases ho9
    replace hM := Option.some.inj hM
    subst hM
    exact wk_outX hno hlocks hQ rfl hP hD hS (Nat.le_of_ble_eq_true rfl) (Nat.le_of_ble_eq_true rfl) hc9 hv9 hf9
  replace hM := (if_neg c1).symm.trans hM
  refine wk_callX (vx_runS (As := [.int (M_X3_faultOfOrder (ss_drv x) p1)]) (rest := []) ⟨hx, hb, hml, hown, hts⟩ (c_X6_refuse l hflags dC dI cI cD cJ kk (M_X3_faultOfOrder (ss_drv x) p1) _ (if_neg c1).symm H) (va_cwS 1 hts gX6_orderOf_X6_refuse rfl rfl rfl (by decide +kernel) ⟨Nat.le_of_ble_eq_true rfl, Nat.le_of_ble_eq_true rfl⟩) (wk_preST hG hP hD hT hS [] rfl rfl (va_free hD hS hA [] rfl)) rfl rfl hl.1 rfl (lv_room (Nat.le_of_ble_eq_true rfl)) dX6_orderOf_8 ⟨Nat.le_of_ble_eq_true rfl, Nat.le_of_ble_eq_true rfl⟩) hP hD hS hA [] [0, 1, 2, 3, 4, 5, 6, 7, 8, 9, 10, 11, 12, 13, 14, 15, 16, 17, 18, 19, 20, 21, 22, 23, 24, 25, 26, 27, 28, 29, 30, 31, 32, 33, 34, 35, 36, 37] [0, 1, 2, 3, 4, 5, 6, 7, 8, 9, 10, 11, 12, 13, 14, 15, 16, 17, 18, 19, 20, 21, 22, 23, 24, 25, 26, 27, 28, 29, 30, 31, 32, 33, 34, 35, 36, 37] rfl rfl rfl (by decide) rfl rfl (fun f9 ce q9 H locs ho9 hP hD hS hc9 hv9 hf9 => by cases ho9) (fun ov w1 ho9 H locs hPD hS => ?_)
  cases ho9
  obtain ⟨hP, hD⟩ := hPD (wSys cI cD kk.1 g x) rfl
  refine lv_iload_n hx hb dX6_orderOf_11 rfl (lv_at hl 2 rfl) ?_
  refine lv_iconst (v := (0 : Int32)) hx hb dX6_orderOf_12 (by decide) ?_
  refine lv_bipush (v := (9 : Int32)) hx hb dX6_orderOf_13 (by decide) ?_
  refine wk_callP (va_runS (As := [.int p2, .int (0 : Int32), .int (9 : Int32)]) (rest := []) ⟨hx, hb, hml, hown, hts⟩ (c_X6_faultOfRange l dC dI cI cD cJ kk  p2 (0 : Int32) (9 : Int32) _ rfl H) (va_cwS 3 hts gX6_orderOf_X6_faultOfRange rfl rfl rfl (by decide +kernel) ⟨Nat.le_of_ble_eq_true rfl, Nat.le_of_ble_eq_true rfl⟩) (wk_preS hG hP hD [] rfl rfl) rfl rfl hl.1 rfl (lv_room (Nat.le_of_ble_eq_true rfl)) dX6_orderOf_15 ⟨Nat.le_of_ble_eq_true rfl, Nat.le_of_ble_eq_true rfl⟩) hS (fun locs hS => ?_)
  by_cases c2 : rfs (M_X6_faultOfRange p2 (0 : Int32) (9 : Int32)) = true
  · replace hM := (if_pos c2).symm.trans hM
    refine wk_callX (vx_runS (As := [.int (M_X6_faultOfRange p2 (0 : Int32) (9 : Int32))]) (rest := []) ⟨hx, hb, hml, hown, hts⟩ (c_X6_refuse l hflags dC dI cI cD cJ kk (M_X6_faultOfRange p2 (0 : Int32) (9 : Int32)) _ (if_pos c2).symm H) (va_cwS 1 hts gX6_orderOf_X6_refuse rfl rfl rfl (by decide +kernel) ⟨Nat.le_of_ble_eq_true rfl, Nat.le_of_ble_eq_true rfl⟩) (wk_preST hG hP hD hT hS [] rfl rfl (va_free hD hS hA [] rfl)) rfl rfl hl.1 rfl (lv_room (Nat.le_of_ble_eq_true rfl)) dX6_orderOf_18 ⟨Nat.le_of_ble_eq_true rfl, Nat.le_of_ble_eq_true rfl⟩) hP hD hS hA [] [0, 1, 2, 3, 4, 5, 6, 7, 8, 9, 10, 11, 12, 13, 14, 15, 16, 17, 18, 19, 20, 21, 22, 23, 24, 25, 26, 27, 28, 29, 30, 31, 32, 33, 34, 35, 36, 37] [0, 1, 2, 3, 4, 5, 6, 7, 8, 9, 10, 11, 12, 13, 14, 15, 16, 17, 18, 19, 20, 21, 22, 23, 24, 25, 26, 27, 28, 29, 30, 31, 32, 33, 34, 35, 36, 37] rfl rfl rfl (by decide) rfl rfl (fun f9 ce q9 H locs ho9 hP hD hS hc9 hv9 hf9 => ?_) (fun ov w1 ho9 => by cases ho9)
    cases ho9
    replace hM := Option.some.inj hM
    subst hM
    exact wk_outX hno hlocks hQ rfl hP hD hS (Nat.le_of_ble_eq_true rfl) (Nat.le_of_ble_eq_true rfl) hc9 hv9 hf9
  replace hM := (if_neg c2).symm.trans hM
  refine wk_callX (vx_runS (As := [.int (M_X6_faultOfRange p2 (0 : Int32) (9 : Int32))]) (rest := []) ⟨hx, hb, hml, hown, hts⟩ (c_X6_refuse l hflags dC dI cI cD cJ kk (M_X6_faultOfRange p2 (0 : Int32) (9 : Int32)) _ (if_neg c2).symm H) (va_cwS 1 hts gX6_orderOf_X6_refuse rfl rfl rfl (by decide +kernel) ⟨Nat.le_of_ble_eq_true rfl, Nat.le_of_ble_eq_true rfl⟩) (wk_preST hG hP hD hT hS [] rfl rfl (va_free hD hS hA [] rfl)) rfl rfl hl.1 rfl (lv_room (Nat.le_of_ble_eq_true rfl)) dX6_orderOf_18 ⟨Nat.le_of_ble_eq_true rfl, Nat.le_of_ble_eq_true rfl⟩) hP hD hS hA [] [0, 1, 2, 3, 4, 5, 6, 7, 8, 9, 10, 11, 12, 13, 14, 15, 16, 17, 18, 19, 20, 21, 22, 23, 24, 25, 26, 27, 28, 29, 30, 31, 32, 33, 34, 35, 36, 37] [0, 1, 2, 3, 4, 5, 6, 7, 8, 9, 10, 11, 12, 13, 14, 15, 16, 17, 18, 19, 20, 21, 22, 23, 24, 25, 26, 27, 28, 29, 30, 31, 32, 33, 34, 35, 36, 37] rfl rfl rfl (by decide) rfl rfl (fun f9 ce q9 H locs ho9 hP hD hS hc9 hv9 hf9 => by cases ho9) (fun ov w1 ho9 H locs hPD hS => ?_)
  cases ho9
  obtain ⟨hP, hD⟩ := hPD (wSys cI cD kk.1 g x) rfl
  refine lv_aload_n hx hb dX6_orderOf_21 rfl (lv_at hl 0 rfl) ?_
  refine va_get (D := (dC, dI)) (ci := 4) (v := .ref ((fun i => g (1 + i)) 0)) (C := RX6) (T := TX6) (N := 6) hx hb hts inX6 hown hG.1 hP 0 rfl rfl 0 (by decide) (hts (.fieldLink RX6 10 "WokenDrive" "drive" "LWokenDrive$Drive;") (List.mem_of_getElem? (i := 1) rfl)) (fun _ h9 => h9) rfl dX6_orderOf_22 ?_
  refine lv_iload_n hx hb dX6_orderOf_25 rfl (lv_at hl 1 rfl) ?_
  refine lv_iload_n hx hb dX6_orderOf_26 rfl (lv_at hl 2 rfl) ?_
  refine wk_callP (va_runV (As := [.int p1, .int p2]) (rest := []) ⟨hx, hb, hml, hown, hts⟩ (c_X3_fact l dC dI cI cD cJ kk (fun i => g (1 + i)) (ss_drv x) p1 p2 _ rfl H) (cwV 2 hts gX6_orderOf_X3_fact rfl rfl rfl (by decide +kernel) ⟨Nat.le_of_ble_eq_true rfl, Nat.le_of_ble_eq_true rfl⟩) (wk_preV (ci := 2) (q0 := 1) hG hP hD [1, 2, 3, 4, 5] rfl rfl rfl rfl) rfl rfl hl.1 rfl (lv_room (Nat.le_of_ble_eq_true rfl)) dX6_orderOf_27 ⟨Nat.le_of_ble_eq_true rfl, Nat.le_of_ble_eq_true rfl⟩) hS (fun locs hS => ?_)
  replace hM := Option.some.inj hM
  subst hM
  exact wk_retXi hx hb hr hlocks hQ rfl rfl hP hD hS (Nat.le_of_ble_eq_true rfl) (Nat.le_of_ble_eq_true rfl) dX6_orderOf_30
set_option maxHeartbeats 4000000 in
set_option maxRecDepth 100000 in
theorem c_X6_orderWith (l : Launch) (hflags : l.stackTraces = false) (dC : Nat → ClassId) (dI : Nat → Nat → Nat) (cI cD cJ : ClassId) (kk : wAd) (g : Nat → Nat) (x : SS) (p1 : Int32) (p2 : Int32) (out : Int32 ⊕ (Int32)) (hM : M_X6_orderWith x p1 p2 = some out) : CX kk l yX6_orderWith wsX6_orderWith ({ frames := 7, cells := 1, slots := 6, locals := 102 } : Room) dC dI (wTys cI cD cJ) [.ref (g 0), .int p1, .int p2] (wSys cI cD kk.1 g x) (outX out (fun r => (some (.int r), (wSys cI cD kk.1 g x)))) 1 6 := by
  refine wk_enterX (cc := cX6_orderWith) (maxL := 3) (ret := (some .int)) (by decide) rfl (Nat.le_of_ble_eq_true rfl) ?_
  intro p e s m below meth c A Q ls hB hno hT hA hP hD hQ hl
  obtain ⟨hx, hb, hml, hr, hts, hown, hname, hlocks, hG⟩ := hB
  have hown : s.vm.findClass RX6 = some m.cls := hown
  have hS : va_S A s.heap s.heap [] := va_S.rf
  have hl : lv_has ls 3 [(0, .ref (g 0)), (1, .int p1), (2, .int p2)] := hl
  have inX6 : ∀ w ∈ wsX60, w ∈ wsX6_orderWith := fun _ h => List.mem_cons_of_mem _ (List.mem_append_left _ (List.mem_append_left _ (List.mem_append_left _ (List.mem_append_left _ (List.mem_append_right _ h)))))
  obtain ⟨H, hH⟩ : ∃ z, z = s.heap := ⟨_, rfl⟩
  have hP : va_P (dC, dI) vwCl (wSys cI cD kk.1 g x) H := by rw [hH]; exact hP
  have hS : va_S A s.heap H [] := by rw [hH]; exact hS
  refine wk_at hH ?_
  generalize ([] : List Loc) = locs at hS ⊢
  unfold M_X6_orderWith at hM
  refine lv_iload_n hx hb dX6_orderWith_0 rfl (lv_at hl 1 rfl) ?_
  refine lv_iload_n hx hb dX6_orderWith_1 rfl (lv_at hl 2 rfl) ?_
  refine wk_callP (va_runS (As := [.int p1, .int p2]) (rest := []) ⟨hx, hb, hml, hown, hts⟩ (c_X6_faultOfTag l dC dI cI cD cJ kk  p1 p2 _ rfl H) (va_cwS 2 hts gX6_orderWith_X6_faultOfTag rfl rfl rfl (by decide +kernel) ⟨Nat.le_of_ble_eq_true rfl, Nat.le_of_ble_eq_true rfl⟩) (wk_preS hG hP hD [] rfl rfl) rfl rfl hl.1 rfl (lv_room (Nat.le_of_ble_eq_true rfl)) dX6_orderWith_2 ⟨Nat.le_of_ble_eq_true rfl, Nat.le_of_ble_eq_true rfl⟩) hS (fun locs hS => ?_)
  by_cases c1 : rfs (M_X6_faultOfTag p1 p2) = true
  · replace hM := (if_pos c1).symm.trans hM
    refine wk_callX (vx_runS (As := [.int (M_X6_faultOfTag p1 p2)]) (rest := []) ⟨hx, hb, hml, hown, hts⟩ (c_X6_refuse l hflags dC dI cI cD cJ kk (M_X6_faultOfTag p1 p2) _ (if_pos c1).symm H) (va_cwS 1 hts gX6_orderWith_X6_refuse rfl rfl rfl (by decide +kernel) ⟨Nat.le_of_ble_eq_true rfl, Nat.le_of_ble_eq_true rfl⟩) (wk_preST hG hP hD hT hS [] rfl rfl (va_free hD hS hA [] rfl)) rfl rfl hl.1 rfl (lv_room (Nat.le_of_ble_eq_true rfl)) dX6_orderWith_5 ⟨Nat.le_of_ble_eq_true rfl, Nat.le_of_ble_eq_true rfl⟩) hP hD hS hA [] [0, 1, 2, 3, 4, 5, 6, 7, 8, 9, 10, 11, 12, 13, 14, 15, 16, 17, 18, 19, 20, 21, 22, 23, 24, 25, 26, 27, 28, 29, 30, 31, 32, 33, 34, 35, 36, 37] [0, 1, 2, 3, 4, 5, 6, 7, 8, 9, 10, 11, 12, 13, 14, 15, 16, 17, 18, 19, 20, 21, 22, 23, 24, 25, 26, 27, 28, 29, 30, 31, 32, 33, 34, 35, 36, 37] rfl rfl rfl (by decide) rfl rfl (fun f9 ce q9 H locs ho9 hP hD hS hc9 hv9 hf9 => ?_) (fun ov w1 ho9 => by cases ho9)
    cases ho9
    replace hM := Option.some.inj hM
    subst hM
    exact wk_outX hno hlocks hQ rfl hP hD hS (Nat.le_of_ble_eq_true rfl) (Nat.le_of_ble_eq_true rfl) hc9 hv9 hf9
  replace hM := (if_neg c1).symm.trans hM
  refine wk_callX (vx_runS (As := [.int (M_X6_faultOfTag p1 p2)]) (rest := []) ⟨hx, hb, hml, hown, hts⟩ (c_X6_refuse l hflags dC dI cI cD cJ kk (M_X6_faultOfTag p1 p2) _ (if_neg c1).symm H) (va_cwS 1 hts gX6_orderWith_X6_refuse rfl rfl rfl (by decide +kernel) ⟨Nat.le_of_ble_eq_true rfl, Nat.le_of_ble_eq_true rfl⟩) (wk_preST hG hP hD hT hS [] rfl rfl (va_free hD hS hA [] rfl)) rfl rfl hl.1 rfl (lv_room (Nat.le_of_ble_eq_true rfl)) dX6_orderWith_5 ⟨Nat.le_of_ble_eq_true rfl, Nat.le_of_ble_eq_true rfl⟩) hP hD hS hA [] [0, 1, 2, 3, 4, 5, 6, 7, 8, 9, 10, 11, 12, 13, 14, 15, 16, 17, 18, 19, 20, 21, 22, 23, 24, 25, 26, 27, 28, 29, 30, 31, 32, 33, 34, 35, 36, 37] [0, 1, 2, 3, 4, 5, 6, 7, 8, 9, 10, 11, 12, 13, 14, 15, 16, 17, 18, 19, 20, 21, 22, 23, 24, 25, 26, 27, 28, 29, 30, 31, 32, 33, 34, 35, 36, 37] rfl rfl rfl (by decide) rfl rfl (fun f9 ce q9 H locs ho9 hP hD hS hc9 hv9 hf9 => by cases ho9) (fun ov w1 ho9 H locs hPD hS => ?_)
  cases ho9
  obtain ⟨hP, hD⟩ := hPD (wSys cI cD kk.1 g x) rfl
  refine lv_aload_n hx hb dX6_orderWith_8 rfl (lv_at hl 0 rfl) ?_
  refine va_get (D := (dC, dI)) (ci := 4) (v := .ref ((fun i => g (1 + i)) 0)) (C := RX6) (T := TX6) (N := 6) hx hb hts inX6 hown hG.1 hP 0 rfl rfl 0 (by decide) (hts (.fieldLink RX6 10 "WokenDrive" "drive" "LWokenDrive$Drive;") (List.mem_of_getElem? (i := 1) rfl)) (fun _ h9 => h9) rfl dX6_orderWith_9 ?_
  refine lv_iload_n hx hb dX6_orderWith_12 rfl (lv_at hl 1 rfl) ?_
  refine lv_iload_n hx hb dX6_orderWith_13 rfl (lv_at hl 2 rfl) ?_
  obtain ⟨r2, hr2, hM⟩ := ob hM
  refine wk_callP (va_runV (As := [.int p1, .int p2]) (rest := []) ⟨hx, hb, hml, hown, hts⟩ (c_X3_latestWith l dC dI cI cD cJ kk (fun i => g (1 + i)) (ss_drv x) p1 p2 _ hr2 H) (cwV 2 hts gX6_orderWith_X3_latestWith rfl rfl rfl (by decide +kernel) ⟨Nat.le_of_ble_eq_true rfl, Nat.le_of_ble_eq_true rfl⟩) (wk_preV (ci := 2) (q0 := 1) hG hP hD [1, 2, 3, 4, 5] rfl rfl rfl rfl) rfl rfl hl.1 rfl (lv_room (Nat.le_of_ble_eq_true rfl)) dX6_orderWith_14 ⟨Nat.le_of_ble_eq_true rfl, Nat.le_of_ble_eq_true rfl⟩) hS (fun locs hS => ?_)
  replace hM := Option.some.inj hM
  subst hM
  exact wk_retXi hx hb hr hlocks hQ rfl rfl hP hD hS (Nat.le_of_ble_eq_true rfl) (Nat.le_of_ble_eq_true rfl) dX6_orderWith_17
set_option maxHeartbeats 4000000 in
set_option maxRecDepth 100000 in
theorem c_X6_controller (l : Launch) (hflags : l.stackTraces = false) (dC : Nat → ClassId) (dI : Nat → Nat → Nat) (cI cD cJ : ClassId) (kk : wAd) (g : Nat → Nat) (x : SS) (p1 : Int32) (p2 : Int32) (out : Int32 ⊕ (Int32)) (hM : M_X6_controller x p1 p2 = some out) : CX kk l yX6_controller wsX6_controller ({ frames := 7, cells := 2, slots := 12, locals := 102 } : Room) dC dI (wTys cI cD cJ) [.ref (g 0), .int p1, .int p2] (wSys cI cD kk.1 g x) (outX out (fun r => (some (.int r), (wSys cI cD kk.1 g x)))) 2 12 := by
  refine wk_enterX (cc := cX6_controller) (maxL := 3) (ret := (some .int)) (by decide) rfl (Nat.le_of_ble_eq_true rfl) ?_
  intro p e s m below meth c A Q ls hB hno hT hA hP hD hQ hl
  obtain ⟨hx, hb, hml, hr, hts, hown, hname, hlocks, hG⟩ := hB
  have hown : s.vm.findClass RX6 = some m.cls := hown
  have hS : va_S A s.heap s.heap [] := va_S.rf
  have hl : lv_has ls 3 [(0, .ref (g 0)), (1, .int p1), (2, .int p2)] := hl
  have inX6 : ∀ w ∈ wsX60, w ∈ wsX6_controller := fun _ h => List.mem_cons_of_mem _ (List.mem_append_left _ (List.mem_append_left _ (List.mem_append_left _ (List.mem_append_left _ (List.mem_append_left _ (List.mem_append_right _ h))))))
  obtain ⟨H, hH⟩ : ∃ z, z = s.heap := ⟨_, rfl⟩
  have hP : va_P (dC, dI) vwCl (wSys cI cD kk.1 g x) H := by rw [hH]; exact hP
  have hS : va_S A s.heap H [] := by rw [hH]; exact hS
  refine wk_at hH ?_
  generalize ([] : List Loc) = locs at hS ⊢
  unfold M_X6_controller at hM
  refine lv_iload_n hx hb dX6_controller_0 rfl (lv_at hl 1 rfl) ?_
  refine wk_callP (va_runS (As := [.int p1]) (rest := []) ⟨hx, hb, hml, hown, hts⟩ (c_X6_faultOfController l dC dI cI cD cJ kk  p1 _ rfl H) (va_cwS 1 hts gX6_controller_X6_faultOfController rfl rfl rfl (by decide +kernel) ⟨Nat.le_of_ble_eq_true rfl, Nat.le_of_ble_eq_true rfl⟩) (wk_preS hG hP hD [] rfl rfl) rfl rfl hl.1 rfl (lv_room (Nat.le_of_ble_eq_true rfl)) dX6_controller_1 ⟨Nat.le_of_ble_eq_true rfl, Nat.le_of_ble_eq_true rfl⟩) hS (fun locs hS => ?_)
  by_cases c1 : rfs (M_X6_faultOfController p1) = true
  · replace hM := (if_pos c1).symm.trans hM
    refine wk_callX (vx_runS (As := [.int (M_X6_faultOfController p1)]) (rest := []) ⟨hx, hb, hml, hown, hts⟩ (c_X6_refuse l hflags dC dI cI cD cJ kk (M_X6_faultOfController p1) _ (if_pos c1).symm H) (va_cwS 1 hts gX6_controller_X6_refuse rfl rfl rfl (by decide +kernel) ⟨Nat.le_of_ble_eq_true rfl, Nat.le_of_ble_eq_true rfl⟩) (wk_preST hG hP hD hT hS [] rfl rfl (va_free hD hS hA [] rfl)) rfl rfl hl.1 rfl (lv_room (Nat.le_of_ble_eq_true rfl)) dX6_controller_4 ⟨Nat.le_of_ble_eq_true rfl, Nat.le_of_ble_eq_true rfl⟩) hP hD hS hA [] [0, 1, 2, 3, 4, 5, 6, 7, 8, 9, 10, 11, 12, 13, 14, 15, 16, 17, 18, 19, 20, 21, 22, 23, 24, 25, 26, 27, 28, 29, 30, 31, 32, 33, 34, 35, 36, 37] [0, 1, 2, 3, 4, 5, 6, 7, 8, 9, 10, 11, 12, 13, 14, 15, 16, 17, 18, 19, 20, 21, 22, 23, 24, 25, 26, 27, 28, 29, 30, 31, 32, 33, 34, 35, 36, 37] rfl rfl rfl (by decide) rfl rfl (fun f9 ce q9 H locs ho9 hP hD hS hc9 hv9 hf9 => ?_) (fun ov w1 ho9 => by cases ho9)
    cases ho9
    replace hM := Option.some.inj hM
    subst hM
    exact wk_outX hno hlocks hQ rfl hP hD hS (Nat.le_of_ble_eq_true rfl) (Nat.le_of_ble_eq_true rfl) hc9 hv9 hf9
  replace hM := (if_neg c1).symm.trans hM
  refine wk_callX (vx_runS (As := [.int (M_X6_faultOfController p1)]) (rest := []) ⟨hx, hb, hml, hown, hts⟩ (c_X6_refuse l hflags dC dI cI cD cJ kk (M_X6_faultOfController p1) _ (if_neg c1).symm H) (va_cwS 1 hts gX6_controller_X6_refuse rfl rfl rfl (by decide +kernel) ⟨Nat.le_of_ble_eq_true rfl, Nat.le_of_ble_eq_true rfl⟩) (wk_preST hG hP hD hT hS [] rfl rfl (va_free hD hS hA [] rfl)) rfl rfl hl.1 rfl (lv_room (Nat.le_of_ble_eq_true rfl)) dX6_controller_4 ⟨Nat.le_of_ble_eq_true rfl, Nat.le_of_ble_eq_true rfl⟩) hP hD hS hA [] [0, 1, 2, 3, 4, 5, 6, 7, 8, 9, 10, 11, 12, 13, 14, 15, 16, 17, 18, 19, 20, 21, 22, 23, 24, 25, 26, 27, 28, 29, 30, 31, 32, 33, 34, 35, 36, 37] [0, 1, 2, 3, 4, 5, 6, 7, 8, 9, 10, 11, 12, 13, 14, 15, 16, 17, 18, 19, 20, 21, 22, 23, 24, 25, 26, 27, 28, 29, 30, 31, 32, 33, 34, 35, 36, 37] rfl rfl rfl (by decide) rfl rfl (fun f9 ce q9 H locs ho9 hP hD hS hc9 hv9 hf9 => by cases ho9) (fun ov w1 ho9 H locs hPD hS => ?_)
  cases ho9
  obtain ⟨hP, hD⟩ := hPD (wSys cI cD kk.1 g x) rfl
  refine lv_iload_n hx hb dX6_controller_7 rfl (lv_at hl 2 rfl) ?_
  refine lv_iconst (v := (0 : Int32)) hx hb dX6_controller_8 (by decide) ?_
  refine lv_bipush (v := (8 : Int32)) hx hb dX6_controller_9 (by decide) ?_
  refine wk_callP (va_runS (As := [.int p2, .int (0 : Int32), .int (8 : Int32)]) (rest := []) ⟨hx, hb, hml, hown, hts⟩ (c_X6_faultOfRange l dC dI cI cD cJ kk  p2 (0 : Int32) (8 : Int32) _ rfl H) (va_cwS 3 hts gX6_controller_X6_faultOfRange rfl rfl rfl (by decide +kernel) ⟨Nat.le_of_ble_eq_true rfl, Nat.le_of_ble_eq_true rfl⟩) (wk_preS hG hP hD [] rfl rfl) rfl rfl hl.1 rfl (lv_room (Nat.le_of_ble_eq_true rfl)) dX6_controller_11 ⟨Nat.le_of_ble_eq_true rfl, Nat.le_of_ble_eq_true rfl⟩) hS (fun locs hS => ?_)
  by_cases c2 : rfs (M_X6_faultOfRange p2 (0 : Int32) (8 : Int32)) = true
  · replace hM := (if_pos c2).symm.trans hM
    refine wk_callX (vx_runS (As := [.int (M_X6_faultOfRange p2 (0 : Int32) (8 : Int32))]) (rest := []) ⟨hx, hb, hml, hown, hts⟩ (c_X6_refuse l hflags dC dI cI cD cJ kk (M_X6_faultOfRange p2 (0 : Int32) (8 : Int32)) _ (if_pos c2).symm H) (va_cwS 1 hts gX6_controller_X6_refuse rfl rfl rfl (by decide +kernel) ⟨Nat.le_of_ble_eq_true rfl, Nat.le_of_ble_eq_true rfl⟩) (wk_preST hG hP hD hT hS [] rfl rfl (va_free hD hS hA [] rfl)) rfl rfl hl.1 rfl (lv_room (Nat.le_of_ble_eq_true rfl)) dX6_controller_14 ⟨Nat.le_of_ble_eq_true rfl, Nat.le_of_ble_eq_true rfl⟩) hP hD hS hA [] [0, 1, 2, 3, 4, 5, 6, 7, 8, 9, 10, 11, 12, 13, 14, 15, 16, 17, 18, 19, 20, 21, 22, 23, 24, 25, 26, 27, 28, 29, 30, 31, 32, 33, 34, 35, 36, 37] [0, 1, 2, 3, 4, 5, 6, 7, 8, 9, 10, 11, 12, 13, 14, 15, 16, 17, 18, 19, 20, 21, 22, 23, 24, 25, 26, 27, 28, 29, 30, 31, 32, 33, 34, 35, 36, 37] rfl rfl rfl (by decide) rfl rfl (fun f9 ce q9 H locs ho9 hP hD hS hc9 hv9 hf9 => ?_) (fun ov w1 ho9 => by cases ho9)
    cases ho9
    replace hM := Option.some.inj hM
    subst hM
    exact wk_outX hno hlocks hQ rfl hP hD hS (Nat.le_of_ble_eq_true rfl) (Nat.le_of_ble_eq_true rfl) hc9 hv9 hf9
  replace hM := (if_neg c2).symm.trans hM
  refine wk_callX (vx_runS (As := [.int (M_X6_faultOfRange p2 (0 : Int32) (8 : Int32))]) (rest := []) ⟨hx, hb, hml, hown, hts⟩ (c_X6_refuse l hflags dC dI cI cD cJ kk (M_X6_faultOfRange p2 (0 : Int32) (8 : Int32)) _ (if_neg c2).symm H) (va_cwS 1 hts gX6_controller_X6_refuse rfl rfl rfl (by decide +kernel) ⟨Nat.le_of_ble_eq_true rfl, Nat.le_of_ble_eq_true rfl⟩) (wk_preST hG hP hD hT hS [] rfl rfl (va_free hD hS hA [] rfl)) rfl rfl hl.1 rfl (lv_room (Nat.le_of_ble_eq_true rfl)) dX6_controller_14 ⟨Nat.le_of_ble_eq_true rfl, Nat.le_of_ble_eq_true rfl⟩) hP hD hS hA [] [0, 1, 2, 3, 4, 5, 6, 7, 8, 9, 10, 11, 12, 13, 14, 15, 16, 17, 18, 19, 20, 21, 22, 23, 24, 25, 26, 27, 28, 29, 30, 31, 32, 33, 34, 35, 36, 37] [0, 1, 2, 3, 4, 5, 6, 7, 8, 9, 10, 11, 12, 13, 14, 15, 16, 17, 18, 19, 20, 21, 22, 23, 24, 25, 26, 27, 28, 29, 30, 31, 32, 33, 34, 35, 36, 37] rfl rfl rfl (by decide) rfl rfl (fun f9 ce q9 H locs ho9 hP hD hS hc9 hv9 hf9 => by cases ho9) (fun ov w1 ho9 H locs hPD hS => ?_)
  cases ho9
  obtain ⟨hP, hD⟩ := hPD (wSys cI cD kk.1 g x) rfl
  refine lv_aload_n hx hb dX6_controller_17 rfl (lv_at hl 0 rfl) ?_
  refine va_get (D := (dC, dI)) (ci := 4) (v := .ref ((fun i => g (1 + i)) 0)) (C := RX6) (T := TX6) (N := 6) hx hb hts inX6 hown hG.1 hP 0 rfl rfl 0 (by decide) (hts (.fieldLink RX6 10 "WokenDrive" "drive" "LWokenDrive$Drive;") (List.mem_of_getElem? (i := 1) rfl)) (fun _ h9 => h9) rfl dX6_controller_18 ?_
  refine lv_iload_n hx hb dX6_controller_21 rfl (lv_at hl 1 rfl) ?_
  refine lv_iload_n hx hb dX6_controller_22 rfl (lv_at hl 2 rfl) ?_
  obtain ⟨r3, hr3, hM⟩ := ob hM
  refine wk_callP (va_runV (As := [.int p1, .int p2]) (rest := []) ⟨hx, hb, hml, hown, hts⟩ (c_X3_controllerFact l dC dI cI cD cJ kk (fun i => g (1 + i)) (ss_drv x) p1 p2 _ hr3 H) (cwV 2 hts gX6_controller_X3_controllerFact rfl rfl rfl (by decide +kernel) ⟨Nat.le_of_ble_eq_true rfl, Nat.le_of_ble_eq_true rfl⟩) (wk_preV (ci := 2) (q0 := 1) hG hP hD [1, 2, 3, 4, 5] rfl rfl rfl rfl) rfl rfl hl.1 rfl (lv_room (Nat.le_of_ble_eq_true rfl)) dX6_controller_23 ⟨Nat.le_of_ble_eq_true rfl, Nat.le_of_ble_eq_true rfl⟩) hS (fun locs hS => ?_)
  replace hM := Option.some.inj hM
  subst hM
  exact wk_retXi hx hb hr hlocks hQ rfl rfl hP hD hS (Nat.le_of_ble_eq_true rfl) (Nat.le_of_ble_eq_true rfl) dX6_controller_26
set_option maxHeartbeats 4000000 in
set_option maxRecDepth 100000 in
theorem c_X6_mail (l : Launch) (hflags : l.stackTraces = false) (dC : Nat → ClassId) (dI : Nat → Nat → Nat) (cI cD cJ : ClassId) (kk : wAd) (g : Nat → Nat) (x : SS) (p1 : Int32) (p2 : Int32) (out : Int32 ⊕ (Int32)) (hM : M_X6_mail x p1 p2 = some out) : CX kk l yX6_mail wsX6_mail ({ frames := 7, cells := 2, slots := 12, locals := 102 } : Room) dC dI (wTys cI cD cJ) [.ref (g 0), .int p1, .int p2] (wSys cI cD kk.1 g x) (outX out (fun r => (some (.int r), (wSys cI cD kk.1 g x)))) 2 12 := by
  refine wk_enterX (cc := cX6_mail) (maxL := 3) (ret := (some .int)) (by decide) rfl (Nat.le_of_ble_eq_true rfl) ?_
  intro p e s m below meth c A Q ls hB hno hT hA hP hD hQ hl
  obtain ⟨hx, hb, hml, hr, hts, hown, hname, hlocks, hG⟩ := hB
  have hown : s.vm.findClass RX6 = some m.cls := hown
  have hS : va_S A s.heap s.heap [] := va_S.rf
  have hl : lv_has ls 3 [(0, .ref (g 0)), (1, .int p1), (2, .int p2)] := hl
  have inX6 : ∀ w ∈ wsX60, w ∈ wsX6_mail := fun _ h => List.mem_cons_of_mem _ (List.mem_append_left _ (List.mem_append_left _ (List.mem_append_left _ (List.mem_append_left _ (List.mem_append_left _ (List.mem_append_right _ h))))))
  obtain ⟨H, hH⟩ : ∃ z, z = s.heap := ⟨_, rfl⟩
  have hP : va_P (dC, dI) vwCl (wSys cI cD kk.1 g x) H := by rw [hH]; exact hP
  have hS : va_S A s.heap H [] := by rw [hH]; exact hS
  refine wk_at hH ?_
  generalize ([] : List Loc) = locs at hS ⊢
  have hB16 : ∀ (w0 : Int32) (H : Heap) (locs : List Loc) (ls : Array Slot), M_X6_mail_16 x p1 p2 w0 = some out → va_P (dC, dI) vwCl (wSys cI cD kk.1 g x) H → va_D A (wSys cI cD kk.1 g x) → va_S A s.heap H locs → lv_has ls 3 [(0, .ref (g 0)), (1, .int p1), (2, .int p2)] → W p l e ({ frames := 7, cells := 2, slots := 12, locals := 102 } : Room) s m ([.ref (g 0), .int p1, .int p2] : List Value).toArray below meth c H locs 1 6 Q (F0 m 16 ls [.int w0]) := by
    intro w0 H locs ls hM hP hD hS hl
    unfold M_X6_mail_16 at hM
    by_cases c1 : rfs w0 = true
    · replace hM := (if_pos c1).symm.trans hM
      refine wk_callX (vx_runS (As := [.int w0]) (rest := []) ⟨hx, hb, hml, hown, hts⟩ (c_X6_refuse l hflags dC dI cI cD cJ kk w0 _ (if_pos c1).symm H) (va_cwS 1 hts gX6_mail_X6_refuse rfl rfl rfl (by decide +kernel) ⟨Nat.le_of_ble_eq_true rfl, Nat.le_of_ble_eq_true rfl⟩) (wk_preST hG hP hD hT hS [] rfl rfl (va_free hD hS hA [] rfl)) rfl rfl hl.1 rfl (lv_room (Nat.le_of_ble_eq_true rfl)) dX6_mail_16 ⟨Nat.le_of_ble_eq_true rfl, Nat.le_of_ble_eq_true rfl⟩) hP hD hS hA [] [0, 1, 2, 3, 4, 5, 6, 7, 8, 9, 10, 11, 12, 13, 14, 15, 16, 17, 18, 19, 20, 21, 22, 23, 24, 25, 26, 27, 28, 29, 30, 31, 32, 33, 34, 35, 36, 37] [0, 1, 2, 3, 4, 5, 6, 7, 8, 9, 10, 11, 12, 13, 14, 15, 16, 17, 18, 19, 20, 21, 22, 23, 24, 25, 26, 27, 28, 29, 30, 31, 32, 33, 34, 35, 36, 37] rfl rfl rfl (by decide) rfl rfl (fun f9 ce q9 H locs ho9 hP hD hS hc9 hv9 hf9 => ?_) (fun ov w1 ho9 => by cases ho9)
      cases ho9
      replace hM := Option.some.inj hM
      subst hM
      exact wk_outX hno hlocks hQ rfl hP hD hS (Nat.le_of_ble_eq_true rfl) (Nat.le_of_ble_eq_true rfl) hc9 hv9 hf9
    replace hM := (if_neg c1).symm.trans hM
    refine wk_callX (vx_runS (As := [.int w0]) (rest := []) ⟨hx, hb, hml, hown, hts⟩ (c_X6_refuse l hflags dC dI cI cD cJ kk w0 _ (if_neg c1).symm H) (va_cwS 1 hts gX6_mail_X6_refuse rfl rfl rfl (by decide +kernel) ⟨Nat.le_of_ble_eq_true rfl, Nat.le_of_ble_eq_true rfl⟩) (wk_preST hG hP hD hT hS [] rfl rfl (va_free hD hS hA [] rfl)) rfl rfl hl.1 rfl (lv_room (Nat.le_of_ble_eq_true rfl)) dX6_mail_16 ⟨Nat.le_of_ble_eq_true rfl, Nat.le_of_ble_eq_true rfl⟩) hP hD hS hA [] [0, 1, 2, 3, 4, 5, 6, 7, 8, 9, 10, 11, 12, 13, 14, 15, 16, 17, 18, 19, 20, 21, 22, 23, 24, 25, 26, 27, 28, 29, 30, 31, 32, 33, 34, 35, 36, 37] [0, 1, 2, 3, 4, 5, 6, 7, 8, 9, 10, 11, 12, 13, 14, 15, 16, 17, 18, 19, 20, 21, 22, 23, 24, 25, 26, 27, 28, 29, 30, 31, 32, 33, 34, 35, 36, 37] rfl rfl rfl (by decide) rfl rfl (fun f9 ce q9 H locs ho9 hP hD hS hc9 hv9 hf9 => by cases ho9) (fun ov w1 ho9 H locs hPD hS => ?_)
    cases ho9
    obtain ⟨hP, hD⟩ := hPD (wSys cI cD kk.1 g x) rfl
    refine lv_aload_n hx hb dX6_mail_19 rfl (lv_at hl 0 rfl) ?_
    refine va_get (D := (dC, dI)) (ci := 4) (v := .ref ((fun i => g (1 + i)) 0)) (C := RX6) (T := TX6) (N := 6) hx hb hts inX6 hown hG.1 hP 0 rfl rfl 0 (by decide) (hts (.fieldLink RX6 10 "WokenDrive" "drive" "LWokenDrive$Drive;") (List.mem_of_getElem? (i := 1) rfl)) (fun _ h9 => h9) rfl dX6_mail_20 ?_
    refine lv_iload_n hx hb dX6_mail_23 rfl (lv_at hl 1 rfl) ?_
    refine lv_iload_n hx hb dX6_mail_24 rfl (lv_at hl 2 rfl) ?_
    obtain ⟨r2, hr2, hM⟩ := ob hM
    refine wk_callP (va_runV (As := [.int p1, .int p2]) (rest := []) ⟨hx, hb, hml, hown, hts⟩ (c_X3_mailAt l dC dI cI cD cJ kk (fun i => g (1 + i)) (ss_drv x) p1 p2 _ hr2 H) (cwV 2 hts gX6_mail_X3_mailAt rfl rfl rfl (by decide +kernel) ⟨Nat.le_of_ble_eq_true rfl, Nat.le_of_ble_eq_true rfl⟩) (wk_preV (ci := 2) (q0 := 1) hG hP hD [1, 2, 3, 4, 5] rfl rfl rfl rfl) rfl rfl hl.1 rfl (lv_room (Nat.le_of_ble_eq_true rfl)) dX6_mail_25 ⟨Nat.le_of_ble_eq_true rfl, Nat.le_of_ble_eq_true rfl⟩) hS (fun locs hS => ?_)
    replace hM := Option.some.inj hM
    subst hM
    exact wk_retXi hx hb hr hlocks hQ rfl rfl hP hD hS (Nat.le_of_ble_eq_true rfl) (Nat.le_of_ble_eq_true rfl) dX6_mail_28
  unfold M_X6_mail at hM
  refine lv_iload_n hx hb dX6_mail_0 rfl (lv_at hl 1 rfl) ?_
  refine wk_callP (va_runS (As := [.int p1]) (rest := []) ⟨hx, hb, hml, hown, hts⟩ (c_X6_faultOfController l dC dI cI cD cJ kk  p1 _ rfl H) (va_cwS 1 hts gX6_mail_X6_faultOfController rfl rfl rfl (by decide +kernel) ⟨Nat.le_of_ble_eq_true rfl, Nat.le_of_ble_eq_true rfl⟩) (wk_preS hG hP hD [] rfl rfl) rfl rfl hl.1 rfl (lv_room (Nat.le_of_ble_eq_true rfl)) dX6_mail_1 ⟨Nat.le_of_ble_eq_true rfl, Nat.le_of_ble_eq_true rfl⟩) hS (fun locs hS => ?_)
  by_cases c1 : rfs (M_X6_faultOfController p1) = true
  · replace hM := (if_pos c1).symm.trans hM
    refine wk_callX (vx_runS (As := [.int (M_X6_faultOfController p1)]) (rest := []) ⟨hx, hb, hml, hown, hts⟩ (c_X6_refuse l hflags dC dI cI cD cJ kk (M_X6_faultOfController p1) _ (if_pos c1).symm H) (va_cwS 1 hts gX6_mail_X6_refuse rfl rfl rfl (by decide +kernel) ⟨Nat.le_of_ble_eq_true rfl, Nat.le_of_ble_eq_true rfl⟩) (wk_preST hG hP hD hT hS [] rfl rfl (va_free hD hS hA [] rfl)) rfl rfl hl.1 rfl (lv_room (Nat.le_of_ble_eq_true rfl)) dX6_mail_4 ⟨Nat.le_of_ble_eq_true rfl, Nat.le_of_ble_eq_true rfl⟩) hP hD hS hA [] [0, 1, 2, 3, 4, 5, 6, 7, 8, 9, 10, 11, 12, 13, 14, 15, 16, 17, 18, 19, 20, 21, 22, 23, 24, 25, 26, 27, 28, 29, 30, 31, 32, 33, 34, 35, 36, 37] [0, 1, 2, 3, 4, 5, 6, 7, 8, 9, 10, 11, 12, 13, 14, 15, 16, 17, 18, 19, 20, 21, 22, 23, 24, 25, 26, 27, 28, 29, 30, 31, 32, 33, 34, 35, 36, 37] rfl rfl rfl (by decide) rfl rfl (fun f9 ce q9 H locs ho9 hP hD hS hc9 hv9 hf9 => ?_) (fun ov w1 ho9 => by cases ho9)
    cases ho9
    replace hM := Option.some.inj hM
    subst hM
    exact wk_outX hno hlocks hQ rfl hP hD hS (Nat.le_of_ble_eq_true rfl) (Nat.le_of_ble_eq_true rfl) hc9 hv9 hf9
  replace hM := (if_neg c1).symm.trans hM
  refine wk_callX (vx_runS (As := [.int (M_X6_faultOfController p1)]) (rest := []) ⟨hx, hb, hml, hown, hts⟩ (c_X6_refuse l hflags dC dI cI cD cJ kk (M_X6_faultOfController p1) _ (if_neg c1).symm H) (va_cwS 1 hts gX6_mail_X6_refuse rfl rfl rfl (by decide +kernel) ⟨Nat.le_of_ble_eq_true rfl, Nat.le_of_ble_eq_true rfl⟩) (wk_preST hG hP hD hT hS [] rfl rfl (va_free hD hS hA [] rfl)) rfl rfl hl.1 rfl (lv_room (Nat.le_of_ble_eq_true rfl)) dX6_mail_4 ⟨Nat.le_of_ble_eq_true rfl, Nat.le_of_ble_eq_true rfl⟩) hP hD hS hA [] [0, 1, 2, 3, 4, 5, 6, 7, 8, 9, 10, 11, 12, 13, 14, 15, 16, 17, 18, 19, 20, 21, 22, 23, 24, 25, 26, 27, 28, 29, 30, 31, 32, 33, 34, 35, 36, 37] [0, 1, 2, 3, 4, 5, 6, 7, 8, 9, 10, 11, 12, 13, 14, 15, 16, 17, 18, 19, 20, 21, 22, 23, 24, 25, 26, 27, 28, 29, 30, 31, 32, 33, 34, 35, 36, 37] rfl rfl rfl (by decide) rfl rfl (fun f9 ce q9 H locs ho9 hP hD hS hc9 hv9 hf9 => by cases ho9) (fun ov w1 ho9 H locs hPD hS => ?_)
  cases ho9
  obtain ⟨hP, hD⟩ := hPD (wSys cI cD kk.1 g x) rfl
  refine lv_iload_n hx hb dX6_mail_7 rfl (lv_at hl 2 rfl) ?_
  refine lv_if_ge (tgt := 15) hx hb dX6_mail_8 (by decide) (fun c2 => ?_) (fun c2 => ?_)
  · replace hM := (if_pos c2).symm.trans hM
    refine lv_iconst (v := (0 : Int32)) hx hb dX6_mail_15 (by decide) ?_
    exact hB16 (0 : Int32) H _ _ hM hP hD hS (lv_sub hl [0, 1, 2] rfl)
  · replace hM := (if_neg c2).symm.trans hM
    refine lv_iconst (v := (2 : Int32)) hx hb dX6_mail_11 (by decide) ?_
    refine lv_goto (tgt := 16) hx hb dX6_mail_12 (by decide) ?_
    exact hB16 (2 : Int32) H _ _ hM hP hD hS (lv_sub hl [0, 1, 2] rfl)
set_option maxHeartbeats 4000000 in
set_option maxRecDepth 100000 in
theorem c_X6_whole (l : Launch) (hflags : l.stackTraces = false) (dC : Nat → ClassId) (dI : Nat → Nat → Nat) (cI cD cJ : ClassId) (kk : wAd) (g : Nat → Nat) (x : SS) (p1 : Int32) (out : Int32 ⊕ (Int32)) (hM : M_X6_whole x p1 = some out) : CX kk l yX6_whole wsX6_whole ({ frames := 7, cells := 1, slots := 6, locals := 102 } : Room) dC dI (wTys cI cD cJ) [.ref (g 0), .int p1] (wSys cI cD kk.1 g x) (outX out (fun r => (some (.int r), (wSys cI cD kk.1 g x)))) 1 6 := by
  refine wk_enterX (cc := cX6_whole) (maxL := 2) (ret := (some .int)) (by decide) rfl (Nat.le_of_ble_eq_true rfl) ?_
  intro p e s m below meth c A Q ls hB hno hT hA hP hD hQ hl
  obtain ⟨hx, hb, hml, hr, hts, hown, hname, hlocks, hG⟩ := hB
  have hown : s.vm.findClass RX6 = some m.cls := hown
  have hS : va_S A s.heap s.heap [] := va_S.rf
  have hl : lv_has ls 2 [(0, .ref (g 0)), (1, .int p1)] := hl
  obtain ⟨H, hH⟩ : ∃ z, z = s.heap := ⟨_, rfl⟩
  have hP : va_P (dC, dI) vwCl (wSys cI cD kk.1 g x) H := by rw [hH]; exact hP
  have hS : va_S A s.heap H [] := by rw [hH]; exact hS
  refine wk_at hH ?_
  generalize ([] : List Loc) = locs at hS ⊢
  unfold M_X6_whole at hM
  refine lv_iload_n hx hb dX6_whole_0 rfl (lv_at hl 1 rfl) ?_
  refine lv_iconst (v := (0 : Int32)) hx hb dX6_whole_1 (by decide) ?_
  refine lv_bipush (v := (11 : Int32)) hx hb dX6_whole_2 (by decide) ?_
  refine wk_callP (va_runS (As := [.int p1, .int (0 : Int32), .int (11 : Int32)]) (rest := []) ⟨hx, hb, hml, hown, hts⟩ (c_X6_faultOfRange l dC dI cI cD cJ kk  p1 (0 : Int32) (11 : Int32) _ rfl H) (va_cwS 3 hts gX6_whole_X6_faultOfRange rfl rfl rfl (by decide +kernel) ⟨Nat.le_of_ble_eq_true rfl, Nat.le_of_ble_eq_true rfl⟩) (wk_preS hG hP hD [] rfl rfl) rfl rfl hl.1 rfl (lv_room (Nat.le_of_ble_eq_true rfl)) dX6_whole_4 ⟨Nat.le_of_ble_eq_true rfl, Nat.le_of_ble_eq_true rfl⟩) hS (fun locs hS => ?_)
  by_cases c1 : rfs (M_X6_faultOfRange p1 (0 : Int32) (11 : Int32)) = true
  · replace hM := (if_pos c1).symm.trans hM
    refine wk_callX (vx_runS (As := [.int (M_X6_faultOfRange p1 (0 : Int32) (11 : Int32))]) (rest := []) ⟨hx, hb, hml, hown, hts⟩ (c_X6_refuse l hflags dC dI cI cD cJ kk (M_X6_faultOfRange p1 (0 : Int32) (11 : Int32)) _ (if_pos c1).symm H) (va_cwS 1 hts gX6_whole_X6_refuse rfl rfl rfl (by decide +kernel) ⟨Nat.le_of_ble_eq_true rfl, Nat.le_of_ble_eq_true rfl⟩) (wk_preST hG hP hD hT hS [] rfl rfl (va_free hD hS hA [] rfl)) rfl rfl hl.1 rfl (lv_room (Nat.le_of_ble_eq_true rfl)) dX6_whole_7 ⟨Nat.le_of_ble_eq_true rfl, Nat.le_of_ble_eq_true rfl⟩) hP hD hS hA [] [0, 1, 2, 3, 4, 5, 6, 7, 8, 9, 10, 11, 12, 13, 14, 15, 16, 17, 18, 19, 20, 21, 22, 23, 24, 25, 26, 27, 28, 29, 30, 31, 32, 33, 34, 35, 36, 37] [0, 1, 2, 3, 4, 5, 6, 7, 8, 9, 10, 11, 12, 13, 14, 15, 16, 17, 18, 19, 20, 21, 22, 23, 24, 25, 26, 27, 28, 29, 30, 31, 32, 33, 34, 35, 36, 37] rfl rfl rfl (by decide) rfl rfl (fun f9 ce q9 H locs ho9 hP hD hS hc9 hv9 hf9 => ?_) (fun ov w1 ho9 => by cases ho9)
    cases ho9
    replace hM := Option.some.inj hM
    subst hM
    exact wk_outX hno hlocks hQ rfl hP hD hS (Nat.le_of_ble_eq_true rfl) (Nat.le_of_ble_eq_true rfl) hc9 hv9 hf9
  replace hM := (if_neg c1).symm.trans hM
  refine wk_callX (vx_runS (As := [.int (M_X6_faultOfRange p1 (0 : Int32) (11 : Int32))]) (rest := []) ⟨hx, hb, hml, hown, hts⟩ (c_X6_refuse l hflags dC dI cI cD cJ kk (M_X6_faultOfRange p1 (0 : Int32) (11 : Int32)) _ (if_neg c1).symm H) (va_cwS 1 hts gX6_whole_X6_refuse rfl rfl rfl (by decide +kernel) ⟨Nat.le_of_ble_eq_true rfl, Nat.le_of_ble_eq_true rfl⟩) (wk_preST hG hP hD hT hS [] rfl rfl (va_free hD hS hA [] rfl)) rfl rfl hl.1 rfl (lv_room (Nat.le_of_ble_eq_true rfl)) dX6_whole_7 ⟨Nat.le_of_ble_eq_true rfl, Nat.le_of_ble_eq_true rfl⟩) hP hD hS hA [] [0, 1, 2, 3, 4, 5, 6, 7, 8, 9, 10, 11, 12, 13, 14, 15, 16, 17, 18, 19, 20, 21, 22, 23, 24, 25, 26, 27, 28, 29, 30, 31, 32, 33, 34, 35, 36, 37] [0, 1, 2, 3, 4, 5, 6, 7, 8, 9, 10, 11, 12, 13, 14, 15, 16, 17, 18, 19, 20, 21, 22, 23, 24, 25, 26, 27, 28, 29, 30, 31, 32, 33, 34, 35, 36, 37] rfl rfl rfl (by decide) rfl rfl (fun f9 ce q9 H locs ho9 hP hD hS hc9 hv9 hf9 => by cases ho9) (fun ov w1 ho9 H locs hPD hS => ?_)
  cases ho9
  obtain ⟨hP, hD⟩ := hPD (wSys cI cD kk.1 g x) rfl
  refine lv_aload_n hx hb dX6_whole_10 rfl (lv_at hl 0 rfl) ?_
  refine lv_iload_n hx hb dX6_whole_11 rfl (lv_at hl 1 rfl) ?_
  obtain ⟨r2, hr2, hM⟩ := ob hM
  refine wk_callP (va_runV (As := [.int p1]) (rest := []) ⟨hx, hb, hml, hown, hts⟩ (c_X6_wholeFact l dC dI cI cD cJ kk g x p1 _ hr2 H) (cwV 1 hts gX6_whole_X6_wholeFact rfl rfl rfl (by decide +kernel) ⟨Nat.le_of_ble_eq_true rfl, Nat.le_of_ble_eq_true rfl⟩) (wk_preV (ci := 4) (q0 := 0) hG hP hD [0, 1, 2, 3, 4, 5, 6, 7, 8, 9, 10, 11, 12, 13, 14, 15, 16, 17, 18, 19, 20, 21, 22, 23, 24, 25, 26, 27, 28, 29, 30, 31, 32, 33, 34, 35, 36, 37] rfl rfl rfl rfl) rfl rfl hl.1 rfl (lv_room (Nat.le_of_ble_eq_true rfl)) dX6_whole_12 ⟨Nat.le_of_ble_eq_true rfl, Nat.le_of_ble_eq_true rfl⟩) hS (fun locs hS => ?_)
  replace hM := Option.some.inj hM
  subst hM
  exact wk_retXi hx hb hr hlocks hQ rfl rfl hP hD hS (Nat.le_of_ble_eq_true rfl) (Nat.le_of_ble_eq_true rfl) dX6_whole_15
set_option maxHeartbeats 4000000 in
set_option maxRecDepth 100000 in
theorem c_X6_waitsFor (l : Launch) (hflags : l.stackTraces = false) (dC : Nat → ClassId) (dI : Nat → Nat → Nat) (cI cD cJ : ClassId) (kk : wAd) (g : Nat → Nat) (x : SS) (p1 : Int32) (out : Int32 ⊕ (Int32)) (hM : M_X6_waitsFor x p1 = some out) : CX kk l yX6_waitsFor wsX6_waitsFor ({ frames := 7, cells := 1, slots := 6, locals := 102 } : Room) dC dI (wTys cI cD cJ) [.ref (g 0), .int p1] (wSys cI cD kk.1 g x) (outX out (fun r => (some (.int r), (wSys cI cD kk.1 g x)))) 1 6 := by
  refine wk_enterX (cc := cX6_waitsFor) (maxL := 2) (ret := (some .int)) (by decide) rfl (Nat.le_of_ble_eq_true rfl) ?_
  intro p e s m below meth c A Q ls hB hno hT hA hP hD hQ hl
  obtain ⟨hx, hb, hml, hr, hts, hown, hname, hlocks, hG⟩ := hB
  have hown : s.vm.findClass RX6 = some m.cls := hown
  have hS : va_S A s.heap s.heap [] := va_S.rf
  have hl : lv_has ls 2 [(0, .ref (g 0)), (1, .int p1)] := hl
  have inX6 : ∀ w ∈ wsX60, w ∈ wsX6_waitsFor := fun _ h => List.mem_cons_of_mem _ (List.mem_append_left _ (List.mem_append_left _ (List.mem_append_left _ (List.mem_append_left _ (List.mem_append_right _ h)))))
  obtain ⟨H, hH⟩ : ∃ z, z = s.heap := ⟨_, rfl⟩
  have hP : va_P (dC, dI) vwCl (wSys cI cD kk.1 g x) H := by rw [hH]; exact hP
  have hS : va_S A s.heap H [] := by rw [hH]; exact hS
  refine wk_at hH ?_
  generalize ([] : List Loc) = locs at hS ⊢
  unfold M_X6_waitsFor at hM
  refine lv_aload_n hx hb dX6_waitsFor_0 rfl (lv_at hl 0 rfl) ?_
  refine va_get (D := (dC, dI)) (ci := 4) (v := .ref ((fun i => g (1 + i)) 0)) (C := RX6) (T := TX6) (N := 6) hx hb hts inX6 hown hG.1 hP 0 rfl rfl 0 (by decide) (hts (.fieldLink RX6 10 "WokenDrive" "drive" "LWokenDrive$Drive;") (List.mem_of_getElem? (i := 1) rfl)) (fun _ h9 => h9) rfl dX6_waitsFor_1 ?_
  refine lv_iload_n hx hb dX6_waitsFor_4 rfl (lv_at hl 1 rfl) ?_
  refine wk_callP (va_runV (As := [.int p1]) (rest := []) ⟨hx, hb, hml, hown, hts⟩ (c_X3_faultOfOrder l dC dI cI cD cJ kk (fun i => g (1 + i)) (ss_drv x) p1 _ rfl H) (cwV 1 hts gX6_waitsFor_X3_faultOfOrder rfl rfl rfl (by decide +kernel) ⟨Nat.le_of_ble_eq_true rfl, Nat.le_of_ble_eq_true rfl⟩) (wk_preV (ci := 2) (q0 := 1) hG hP hD [1, 2, 3, 4, 5] rfl rfl rfl rfl) rfl rfl hl.1 rfl (lv_room (Nat.le_of_ble_eq_true rfl)) dX6_waitsFor_5 ⟨Nat.le_of_ble_eq_true rfl, Nat.le_of_ble_eq_true rfl⟩) hS (fun locs hS => ?_)
  by_cases c1 : rfs (M_X3_faultOfOrder (ss_drv x) p1) = true
  · replace hM := (if_pos c1).symm.trans hM
    refine wk_callX (vx_runS (As := [.int (M_X3_faultOfOrder (ss_drv x) p1)]) (rest := []) ⟨hx, hb, hml, hown, hts⟩ (c_X6_refuse l hflags dC dI cI cD cJ kk (M_X3_faultOfOrder (ss_drv x) p1) _ (if_pos c1).symm H) (va_cwS 1 hts gX6_waitsFor_X6_refuse rfl rfl rfl (by decide +kernel) ⟨Nat.le_of_ble_eq_true rfl, Nat.le_of_ble_eq_true rfl⟩) (wk_preST hG hP hD hT hS [] rfl rfl (va_free hD hS hA [] rfl)) rfl rfl hl.1 rfl (lv_room (Nat.le_of_ble_eq_true rfl)) dX6_waitsFor_8 ⟨Nat.le_of_ble_eq_true rfl, Nat.le_of_ble_eq_true rfl⟩) hP hD hS hA [] [0, 1, 2, 3, 4, 5, 6, 7, 8, 9, 10, 11, 12, 13, 14, 15, 16, 17, 18, 19, 20, 21, 22, 23, 24, 25, 26, 27, 28, 29, 30, 31, 32, 33, 34, 35, 36, 37] [0, 1, 2, 3, 4, 5, 6, 7, 8, 9, 10, 11, 12, 13, 14, 15, 16, 17, 18, 19, 20, 21, 22, 23, 24, 25, 26, 27, 28, 29, 30, 31, 32, 33, 34, 35, 36, 37] rfl rfl rfl (by decide) rfl rfl (fun f9 ce q9 H locs ho9 hP hD hS hc9 hv9 hf9 => ?_) (fun ov w1 ho9 => by cases ho9)
    cases ho9
    replace hM := Option.some.inj hM
    subst hM
    exact wk_outX hno hlocks hQ rfl hP hD hS (Nat.le_of_ble_eq_true rfl) (Nat.le_of_ble_eq_true rfl) hc9 hv9 hf9
  replace hM := (if_neg c1).symm.trans hM
  refine wk_callX (vx_runS (As := [.int (M_X3_faultOfOrder (ss_drv x) p1)]) (rest := []) ⟨hx, hb, hml, hown, hts⟩ (c_X6_refuse l hflags dC dI cI cD cJ kk (M_X3_faultOfOrder (ss_drv x) p1) _ (if_neg c1).symm H) (va_cwS 1 hts gX6_waitsFor_X6_refuse rfl rfl rfl (by decide +kernel) ⟨Nat.le_of_ble_eq_true rfl, Nat.le_of_ble_eq_true rfl⟩) (wk_preST hG hP hD hT hS [] rfl rfl (va_free hD hS hA [] rfl)) rfl rfl hl.1 rfl (lv_room (Nat.le_of_ble_eq_true rfl)) dX6_waitsFor_8 ⟨Nat.le_of_ble_eq_true rfl, Nat.le_of_ble_eq_true rfl⟩) hP hD hS hA [] [0, 1, 2, 3, 4, 5, 6, 7, 8, 9, 10, 11, 12, 13, 14, 15, 16, 17, 18, 19, 20, 21, 22, 23, 24, 25, 26, 27, 28, 29, 30, 31, 32, 33, 34, 35, 36, 37] [0, 1, 2, 3, 4, 5, 6, 7, 8, 9, 10, 11, 12, 13, 14, 15, 16, 17, 18, 19, 20, 21, 22, 23, 24, 25, 26, 27, 28, 29, 30, 31, 32, 33, 34, 35, 36, 37] rfl rfl rfl (by decide) rfl rfl (fun f9 ce q9 H locs ho9 hP hD hS hc9 hv9 hf9 => by cases ho9) (fun ov w1 ho9 H locs hPD hS => ?_)
  cases ho9
  obtain ⟨hP, hD⟩ := hPD (wSys cI cD kk.1 g x) rfl
  refine lv_aload_n hx hb dX6_waitsFor_11 rfl (lv_at hl 0 rfl) ?_
  refine va_get (D := (dC, dI)) (ci := 4) (v := .ref ((fun i => g (1 + i)) 0)) (C := RX6) (T := TX6) (N := 6) hx hb hts inX6 hown hG.1 hP 0 rfl rfl 0 (by decide) (hts (.fieldLink RX6 10 "WokenDrive" "drive" "LWokenDrive$Drive;") (List.mem_of_getElem? (i := 1) rfl)) (fun _ h9 => h9) rfl dX6_waitsFor_12 ?_
  refine lv_iload_n hx hb dX6_waitsFor_15 rfl (lv_at hl 1 rfl) ?_
  obtain ⟨r2, hr2, hM⟩ := ob hM
  refine wk_callP (va_runV (As := [.int p1]) (rest := []) ⟨hx, hb, hml, hown, hts⟩ (c_X3_firstAwaited l dC dI cI cD cJ kk (fun i => g (1 + i)) (ss_drv x) p1 _ hr2 H) (cwV 1 hts gX6_waitsFor_X3_firstAwaited rfl rfl rfl (by decide +kernel) ⟨Nat.le_of_ble_eq_true rfl, Nat.le_of_ble_eq_true rfl⟩) (wk_preV (ci := 2) (q0 := 1) hG hP hD [1, 2, 3, 4, 5] rfl rfl rfl rfl) rfl rfl hl.1 rfl (lv_room (Nat.le_of_ble_eq_true rfl)) dX6_waitsFor_16 ⟨Nat.le_of_ble_eq_true rfl, Nat.le_of_ble_eq_true rfl⟩) hS (fun locs hS => ?_)
  replace hM := Option.some.inj hM
  subst hM
  exact wk_retXi hx hb hr hlocks hQ rfl rfl hP hD hS (Nat.le_of_ble_eq_true rfl) (Nat.le_of_ble_eq_true rfl) dX6_waitsFor_19
set_option maxHeartbeats 4000000 in
set_option maxRecDepth 100000 in
theorem c_X6_depth (l : Launch) (hflags : l.stackTraces = false) (dC : Nat → ClassId) (dI : Nat → Nat → Nat) (cI cD cJ : ClassId) (kk : wAd) (g : Nat → Nat) (x : SS) (p1 : Int32) (out : Int32 ⊕ (Int32 × SS)) (hM : M_X6_depth x p1 = some out) : CX kk l yX6_depth wsX6_depth ({ frames := 7, cells := 1, slots := 6, locals := 102 } : Room) dC dI (wTys cI cD cJ) [.ref (g 0), .int p1] (wSys cI cD kk.1 g x) (outX out (fun r => (some (.int r.1), (wSys cI cD kk.1 g r.2)))) 1 6 := by
  refine wk_enterX (cc := cX6_depth) (maxL := 2) (ret := (some .int)) (by decide) rfl (Nat.le_of_ble_eq_true rfl) ?_
  intro p e s m below meth c A Q ls hB hno hT hA hP hD hQ hl
  obtain ⟨hx, hb, hml, hr, hts, hown, hname, hlocks, hG⟩ := hB
  have hown : s.vm.findClass RX6 = some m.cls := hown
  have hS : va_S A s.heap s.heap [] := va_S.rf
  have hl : lv_has ls 2 [(0, .ref (g 0)), (1, .int p1)] := hl
  have inX6 : ∀ w ∈ wsX60, w ∈ wsX6_depth := fun _ h => List.mem_cons_of_mem _ (List.mem_append_left _ (List.mem_append_left _ (List.mem_append_left _ (List.mem_append_left _ (List.mem_append_right _ h)))))
  obtain ⟨H, hH⟩ : ∃ z, z = s.heap := ⟨_, rfl⟩
  have hP : va_P (dC, dI) vwCl (wSys cI cD kk.1 g x) H := by rw [hH]; exact hP
  have hS : va_S A s.heap H [] := by rw [hH]; exact hS
  refine wk_at hH ?_
  generalize ([] : List Loc) = locs at hS ⊢
  unfold M_X6_depth at hM
  refine lv_aload_n hx hb dX6_depth_0 rfl (lv_at hl 0 rfl) ?_
  refine va_get (D := (dC, dI)) (ci := 4) (v := .ref ((fun i => g (1 + i)) 0)) (C := RX6) (T := TX6) (N := 6) hx hb hts inX6 hown hG.1 hP 0 rfl rfl 0 (by decide) (hts (.fieldLink RX6 10 "WokenDrive" "drive" "LWokenDrive$Drive;") (List.mem_of_getElem? (i := 1) rfl)) (fun _ h9 => h9) rfl dX6_depth_1 ?_
  refine lv_iload_n hx hb dX6_depth_4 rfl (lv_at hl 1 rfl) ?_
  refine wk_callP (va_runV (As := [.int p1]) (rest := []) ⟨hx, hb, hml, hown, hts⟩ (c_X3_faultOfOrder l dC dI cI cD cJ kk (fun i => g (1 + i)) (ss_drv x) p1 _ rfl H) (cwV 1 hts gX6_depth_X3_faultOfOrder rfl rfl rfl (by decide +kernel) ⟨Nat.le_of_ble_eq_true rfl, Nat.le_of_ble_eq_true rfl⟩) (wk_preV (ci := 2) (q0 := 1) hG hP hD [1, 2, 3, 4, 5] rfl rfl rfl rfl) rfl rfl hl.1 rfl (lv_room (Nat.le_of_ble_eq_true rfl)) dX6_depth_5 ⟨Nat.le_of_ble_eq_true rfl, Nat.le_of_ble_eq_true rfl⟩) hS (fun locs hS => ?_)
  by_cases c1 : rfs (M_X3_faultOfOrder (ss_drv x) p1) = true
  · replace hM := (if_pos c1).symm.trans hM
    refine wk_callX (vx_runS (As := [.int (M_X3_faultOfOrder (ss_drv x) p1)]) (rest := []) ⟨hx, hb, hml, hown, hts⟩ (c_X6_refuse l hflags dC dI cI cD cJ kk (M_X3_faultOfOrder (ss_drv x) p1) _ (if_pos c1).symm H) (va_cwS 1 hts gX6_depth_X6_refuse rfl rfl rfl (by decide +kernel) ⟨Nat.le_of_ble_eq_true rfl, Nat.le_of_ble_eq_true rfl⟩) (wk_preST hG hP hD hT hS [] rfl rfl (va_free hD hS hA [] rfl)) rfl rfl hl.1 rfl (lv_room (Nat.le_of_ble_eq_true rfl)) dX6_depth_8 ⟨Nat.le_of_ble_eq_true rfl, Nat.le_of_ble_eq_true rfl⟩) hP hD hS hA [] [0, 1, 2, 3, 4, 5, 6, 7, 8, 9, 10, 11, 12, 13, 14, 15, 16, 17, 18, 19, 20, 21, 22, 23, 24, 25, 26, 27, 28, 29, 30, 31, 32, 33, 34, 35, 36, 37] [0, 1, 2, 3, 4, 5, 6, 7, 8, 9, 10, 11, 12, 13, 14, 15, 16, 17, 18, 19, 20, 21, 22, 23, 24, 25, 26, 27, 28, 29, 30, 31, 32, 33, 34, 35, 36, 37] rfl rfl rfl (by decide) rfl rfl (fun f9 ce q9 H locs ho9 hP hD hS hc9 hv9 hf9 => ?_) (fun ov w1 ho9 => by cases ho9)
    cases ho9
    replace hM := Option.some.inj hM
    subst hM
    exact wk_outX hno hlocks hQ rfl hP hD hS (Nat.le_of_ble_eq_true rfl) (Nat.le_of_ble_eq_true rfl) hc9 hv9 hf9
  replace hM := (if_neg c1).symm.trans hM
  refine wk_callX (vx_runS (As := [.int (M_X3_faultOfOrder (ss_drv x) p1)]) (rest := []) ⟨hx, hb, hml, hown, hts⟩ (c_X6_refuse l hflags dC dI cI cD cJ kk (M_X3_faultOfOrder (ss_drv x) p1) _ (if_neg c1).symm H) (va_cwS 1 hts gX6_depth_X6_refuse rfl rfl rfl (by decide +kernel) ⟨Nat.le_of_ble_eq_true rfl, Nat.le_of_ble_eq_true rfl⟩) (wk_preST hG hP hD hT hS [] rfl rfl (va_free hD hS hA [] rfl)) rfl rfl hl.1 rfl (lv_room (Nat.le_of_ble_eq_true rfl)) dX6_depth_8 ⟨Nat.le_of_ble_eq_true rfl, Nat.le_of_ble_eq_true rfl⟩) hP hD hS hA [] [0, 1, 2, 3, 4, 5, 6, 7, 8, 9, 10, 11, 12, 13, 14, 15, 16, 17, 18, 19, 20, 21, 22, 23, 24, 25, 26, 27, 28, 29, 30, 31, 32, 33, 34, 35, 36, 37] [0, 1, 2, 3, 4, 5, 6, 7, 8, 9, 10, 11, 12, 13, 14, 15, 16, 17, 18, 19, 20, 21, 22, 23, 24, 25, 26, 27, 28, 29, 30, 31, 32, 33, 34, 35, 36, 37] rfl rfl rfl (by decide) rfl rfl (fun f9 ce q9 H locs ho9 hP hD hS hc9 hv9 hf9 => by cases ho9) (fun ov w1 ho9 H locs hPD hS => ?_)
  cases ho9
  obtain ⟨hP, hD⟩ := hPD (wSys cI cD kk.1 g x) rfl
  refine lv_aload_n hx hb dX6_depth_11 rfl (lv_at hl 0 rfl) ?_
  refine va_get (D := (dC, dI)) (ci := 4) (v := .ref ((fun i => g (1 + i)) 0)) (C := RX6) (T := TX6) (N := 6) hx hb hts inX6 hown hG.1 hP 0 rfl rfl 0 (by decide) (hts (.fieldLink RX6 10 "WokenDrive" "drive" "LWokenDrive$Drive;") (List.mem_of_getElem? (i := 1) rfl)) (fun _ h9 => h9) rfl dX6_depth_12 ?_
  refine lv_aload_n hx hb dX6_depth_15 rfl (lv_at hl 0 rfl) ?_
  refine va_get (D := (dC, dI)) (ci := 4) (v := .ref (g 37)) (C := RX6) (T := TX6) (N := 6) hx hb hts inX6 hown hG.1 hP 0 rfl rfl 5 (by decide) (hts (.fieldLink RX6 37 "WokenDrive" "depths" "[I") (List.mem_of_getElem? (i := 2) rfl)) (fun _ h9 => h9) rfl dX6_depth_16 ?_
  obtain ⟨r2, hr2, hM⟩ := ob hM
  obtain ⟨y_3, hy_3, hM⟩ := tbE hM
  refine wk_callM (ws' := (wSys cI cD kk.1 g (ss_dep_s x r2))) (va_runV (As := [.ref (g 37)]) (rest := []) ⟨hx, hb, hml, hown, hts⟩ (c_X3_reckonDepths l dC dI cI cD cJ kk (fun i => g (1 + i)) (g 37) (ss_drv x) (ss_dep x) _ hr2 H) (cwV 1 hts gX6_depth_X3_reckonDepths rfl rfl rfl (by decide +kernel) ⟨Nat.le_of_ble_eq_true rfl, Nat.le_of_ble_eq_true rfl⟩) (wk_preV (ci := 2) (q0 := 1) hG hP hD [1, 2, 3, 4, 5, 37] rfl rfl rfl rfl) rfl rfl hl.1 rfl (lv_room (Nat.le_of_ble_eq_true rfl)) dX6_depth_19 ⟨Nat.le_of_ble_eq_true rfl, Nat.le_of_ble_eq_true rfl⟩) hP hD hS hA [1, 2, 3, 4, 5, 37] [0, 6, 7, 8, 9, 10, 11, 12, 13, 14, 15, 16, 17, 18, 19, 20, 21, 22, 23, 24, 25, 26, 27, 28, 29, 30, 31, 32, 33, 34, 35, 36] [0, 32, 33, 34, 35, 36, 1, 2, 3, 4, 5, 6, 7, 8, 9, 10, 11, 12, 13, 14, 15, 16, 17, 18, 19, 20, 21, 22, 23, 24, 25, 26, 27, 28, 29, 30, 31, 37] rfl rfl rfl (by decide) rfl rfl (fun H locs hP hD hS => ?_)
  have hP : va_P (dC, dI) vwCl (wSys cI cD kk.1 g y_3) H := by rw [hy_3]; exact hP
  have hD : va_D A (wSys cI cD kk.1 g y_3) := by rw [hy_3]; exact hD
  refine lv_aload_n hx hb dX6_depth_22 rfl (lv_at hl 0 rfl) ?_
  refine va_get (D := (dC, dI)) (ci := 4) (v := .ref (g 37)) (C := RX6) (T := TX6) (N := 6) hx hb hts inX6 hown hG.1 hP 0 rfl rfl 5 (by decide) (hts (.fieldLink RX6 37 "WokenDrive" "depths" "[I") (List.mem_of_getElem? (i := 2) rfl)) (fun _ h9 => h9) rfl dX6_depth_23 ?_
  refine lv_iload_n hx hb dX6_depth_26 rfl (lv_at hl 1 rfl) ?_
  refine wk_callP (va_runS (As := [.ref (g 37), .int p1]) (rest := []) ⟨hx, hb, hml, hown, hts⟩ (c_X6_at l dC dI cI cD cJ kk (g 37) 40 (ss_dep y_3) p1 (by decide) _ rfl H) (va_cwS 2 hts gX6_depth_X6_at rfl rfl rfl (by decide +kernel) ⟨Nat.le_of_ble_eq_true rfl, Nat.le_of_ble_eq_true rfl⟩) (wk_preS hG hP hD [37] rfl rfl) rfl rfl hl.1 rfl (lv_room (Nat.le_of_ble_eq_true rfl)) dX6_depth_27 ⟨Nat.le_of_ble_eq_true rfl, Nat.le_of_ble_eq_true rfl⟩) hS (fun locs hS => ?_)
  replace hM := Option.some.inj hM
  subst hM
  exact wk_retXi hx hb hr hlocks hQ rfl rfl hP hD hS (Nat.le_of_ble_eq_true rfl) (Nat.le_of_ble_eq_true rfl) dX6_depth_30
set_option maxHeartbeats 4000000 in
set_option maxRecDepth 100000 in
theorem c_X6_nextFor (l : Launch) (hflags : l.stackTraces = false) (dC : Nat → ClassId) (dI : Nat → Nat → Nat) (cI cD cJ : ClassId) (kk : wAd) (g : Nat → Nat) (x : SS) (p1 : Int32) (out : Int32 ⊕ (Int32)) (hM : M_X6_nextFor x p1 = some out) : CX kk l yX6_nextFor wsX6_nextFor ({ frames := 7, cells := 1, slots := 6, locals := 102 } : Room) dC dI (wTys cI cD cJ) [.ref (g 0), .int p1] (wSys cI cD kk.1 g x) (outX out (fun r => (some (.int r), (wSys cI cD kk.1 g x)))) 1 6 := by
  refine wk_enterX (cc := cX6_nextFor) (maxL := 2) (ret := (some .int)) (by decide) rfl (Nat.le_of_ble_eq_true rfl) ?_
  intro p e s m below meth c A Q ls hB hno hT hA hP hD hQ hl
  obtain ⟨hx, hb, hml, hr, hts, hown, hname, hlocks, hG⟩ := hB
  have hown : s.vm.findClass RX6 = some m.cls := hown
  have hS : va_S A s.heap s.heap [] := va_S.rf
  have hl : lv_has ls 2 [(0, .ref (g 0)), (1, .int p1)] := hl
  have inX6 : ∀ w ∈ wsX60, w ∈ wsX6_nextFor := fun _ h => List.mem_cons_of_mem _ (List.mem_append_left _ (List.mem_append_left _ (List.mem_append_left _ (List.mem_append_left _ (List.mem_append_left _ (List.mem_append_right _ h))))))
  obtain ⟨H, hH⟩ : ∃ z, z = s.heap := ⟨_, rfl⟩
  have hP : va_P (dC, dI) vwCl (wSys cI cD kk.1 g x) H := by rw [hH]; exact hP
  have hS : va_S A s.heap H [] := by rw [hH]; exact hS
  refine wk_at hH ?_
  generalize ([] : List Loc) = locs at hS ⊢
  unfold M_X6_nextFor at hM
  refine lv_iload_n hx hb dX6_nextFor_0 rfl (lv_at hl 1 rfl) ?_
  refine wk_callP (va_runS (As := [.int p1]) (rest := []) ⟨hx, hb, hml, hown, hts⟩ (c_X6_faultOfController l dC dI cI cD cJ kk  p1 _ rfl H) (va_cwS 1 hts gX6_nextFor_X6_faultOfController rfl rfl rfl (by decide +kernel) ⟨Nat.le_of_ble_eq_true rfl, Nat.le_of_ble_eq_true rfl⟩) (wk_preS hG hP hD [] rfl rfl) rfl rfl hl.1 rfl (lv_room (Nat.le_of_ble_eq_true rfl)) dX6_nextFor_1 ⟨Nat.le_of_ble_eq_true rfl, Nat.le_of_ble_eq_true rfl⟩) hS (fun locs hS => ?_)
  by_cases c1 : rfs (M_X6_faultOfController p1) = true
  · replace hM := (if_pos c1).symm.trans hM
    refine wk_callX (vx_runS (As := [.int (M_X6_faultOfController p1)]) (rest := []) ⟨hx, hb, hml, hown, hts⟩ (c_X6_refuse l hflags dC dI cI cD cJ kk (M_X6_faultOfController p1) _ (if_pos c1).symm H) (va_cwS 1 hts gX6_nextFor_X6_refuse rfl rfl rfl (by decide +kernel) ⟨Nat.le_of_ble_eq_true rfl, Nat.le_of_ble_eq_true rfl⟩) (wk_preST hG hP hD hT hS [] rfl rfl (va_free hD hS hA [] rfl)) rfl rfl hl.1 rfl (lv_room (Nat.le_of_ble_eq_true rfl)) dX6_nextFor_4 ⟨Nat.le_of_ble_eq_true rfl, Nat.le_of_ble_eq_true rfl⟩) hP hD hS hA [] [0, 1, 2, 3, 4, 5, 6, 7, 8, 9, 10, 11, 12, 13, 14, 15, 16, 17, 18, 19, 20, 21, 22, 23, 24, 25, 26, 27, 28, 29, 30, 31, 32, 33, 34, 35, 36, 37] [0, 1, 2, 3, 4, 5, 6, 7, 8, 9, 10, 11, 12, 13, 14, 15, 16, 17, 18, 19, 20, 21, 22, 23, 24, 25, 26, 27, 28, 29, 30, 31, 32, 33, 34, 35, 36, 37] rfl rfl rfl (by decide) rfl rfl (fun f9 ce q9 H locs ho9 hP hD hS hc9 hv9 hf9 => ?_) (fun ov w1 ho9 => by cases ho9)
    cases ho9
    replace hM := Option.some.inj hM
    subst hM
    exact wk_outX hno hlocks hQ rfl hP hD hS (Nat.le_of_ble_eq_true rfl) (Nat.le_of_ble_eq_true rfl) hc9 hv9 hf9
  replace hM := (if_neg c1).symm.trans hM
  refine wk_callX (vx_runS (As := [.int (M_X6_faultOfController p1)]) (rest := []) ⟨hx, hb, hml, hown, hts⟩ (c_X6_refuse l hflags dC dI cI cD cJ kk (M_X6_faultOfController p1) _ (if_neg c1).symm H) (va_cwS 1 hts gX6_nextFor_X6_refuse rfl rfl rfl (by decide +kernel) ⟨Nat.le_of_ble_eq_true rfl, Nat.le_of_ble_eq_true rfl⟩) (wk_preST hG hP hD hT hS [] rfl rfl (va_free hD hS hA [] rfl)) rfl rfl hl.1 rfl (lv_room (Nat.le_of_ble_eq_true rfl)) dX6_nextFor_4 ⟨Nat.le_of_ble_eq_true rfl, Nat.le_of_ble_eq_true rfl⟩) hP hD hS hA [] [0, 1, 2, 3, 4, 5, 6, 7, 8, 9, 10, 11, 12, 13, 14, 15, 16, 17, 18, 19, 20, 21, 22, 23, 24, 25, 26, 27, 28, 29, 30, 31, 32, 33, 34, 35, 36, 37] [0, 1, 2, 3, 4, 5, 6, 7, 8, 9, 10, 11, 12, 13, 14, 15, 16, 17, 18, 19, 20, 21, 22, 23, 24, 25, 26, 27, 28, 29, 30, 31, 32, 33, 34, 35, 36, 37] rfl rfl rfl (by decide) rfl rfl (fun f9 ce q9 H locs ho9 hP hD hS hc9 hv9 hf9 => by cases ho9) (fun ov w1 ho9 H locs hPD hS => ?_)
  cases ho9
  obtain ⟨hP, hD⟩ := hPD (wSys cI cD kk.1 g x) rfl
  refine lv_aload_n hx hb dX6_nextFor_7 rfl (lv_at hl 0 rfl) ?_
  refine va_get (D := (dC, dI)) (ci := 4) (v := .ref ((fun i => g (1 + i)) 0)) (C := RX6) (T := TX6) (N := 6) hx hb hts inX6 hown hG.1 hP 0 rfl rfl 0 (by decide) (hts (.fieldLink RX6 10 "WokenDrive" "drive" "LWokenDrive$Drive;") (List.mem_of_getElem? (i := 1) rfl)) (fun _ h9 => h9) rfl dX6_nextFor_8 ?_
  refine lv_iload_n hx hb dX6_nextFor_11 rfl (lv_at hl 1 rfl) ?_
  obtain ⟨r2, hr2, hM⟩ := ob hM
  refine wk_callP (va_runV (As := [.int p1]) (rest := []) ⟨hx, hb, hml, hown, hts⟩ (c_X3_nextOf l dC dI cI cD cJ kk (fun i => g (1 + i)) (ss_drv x) p1 _ hr2 H) (cwV 1 hts gX6_nextFor_X3_nextOf rfl rfl rfl (by decide +kernel) ⟨Nat.le_of_ble_eq_true rfl, Nat.le_of_ble_eq_true rfl⟩) (wk_preV (ci := 2) (q0 := 1) hG hP hD [1, 2, 3, 4, 5] rfl rfl rfl rfl) rfl rfl hl.1 rfl (lv_room (Nat.le_of_ble_eq_true rfl)) dX6_nextFor_12 ⟨Nat.le_of_ble_eq_true rfl, Nat.le_of_ble_eq_true rfl⟩) hS (fun locs hS => ?_)
  replace hM := Option.some.inj hM
  subst hM
  exact wk_retXi hx hb hr hlocks hQ rfl rfl hP hD hS (Nat.le_of_ble_eq_true rfl) (Nat.le_of_ble_eq_true rfl) dX6_nextFor_15
set_option maxHeartbeats 4000000 in
set_option maxRecDepth 100000 in
theorem c_X6_reason (l : Launch) (hflags : l.stackTraces = false) (dC : Nat → ClassId) (dI : Nat → Nat → Nat) (cI cD cJ : ClassId) (kk : wAd) (g : Nat → Nat) (x : SS) (p1 : Int32) (p2 : Int32) (out : Int32 ⊕ (Int32)) (hM : M_X6_reason x p1 p2 = some out) : CX kk l yX6_reason wsX6_reason ({ frames := 7, cells := 2, slots := 12, locals := 113 } : Room) dC dI (wTys cI cD cJ) [.ref (g 0), .int p1, .int p2] (wSys cI cD kk.1 g x) (outX out (fun r => (some (.int r), (wSys cI cD kk.1 g x)))) 2 12 := by
  refine wk_enterX (cc := cX6_reason) (maxL := 3) (ret := (some .int)) (by decide) rfl (Nat.le_of_ble_eq_true rfl) ?_
  intro p e s m below meth c A Q ls hB hno hT hA hP hD hQ hl
  obtain ⟨hx, hb, hml, hr, hts, hown, hname, hlocks, hG⟩ := hB
  have hown : s.vm.findClass RX6 = some m.cls := hown
  have hS : va_S A s.heap s.heap [] := va_S.rf
  have hl : lv_has ls 3 [(0, .ref (g 0)), (1, .int p1), (2, .int p2)] := hl
  have inX6 : ∀ w ∈ wsX60, w ∈ wsX6_reason := fun _ h => List.mem_cons_of_mem _ (List.mem_append_left _ (List.mem_append_left _ (List.mem_append_left _ (List.mem_append_left _ (List.mem_append_left _ (List.mem_append_right _ h))))))
  obtain ⟨H, hH⟩ : ∃ z, z = s.heap := ⟨_, rfl⟩
  have hP : va_P (dC, dI) vwCl (wSys cI cD kk.1 g x) H := by rw [hH]; exact hP
  have hS : va_S A s.heap H [] := by rw [hH]; exact hS
  refine wk_at hH ?_
  generalize ([] : List Loc) = locs at hS ⊢
  unfold M_X6_reason at hM
  refine lv_iload_n hx hb dX6_reason_0 rfl (lv_at hl 1 rfl) ?_
  refine wk_callP (va_runS (As := [.int p1]) (rest := []) ⟨hx, hb, hml, hown, hts⟩ (c_X6_faultOfController l dC dI cI cD cJ kk  p1 _ rfl H) (va_cwS 1 hts gX6_reason_X6_faultOfController rfl rfl rfl (by decide +kernel) ⟨Nat.le_of_ble_eq_true rfl, Nat.le_of_ble_eq_true rfl⟩) (wk_preS hG hP hD [] rfl rfl) rfl rfl hl.1 rfl (lv_room (Nat.le_of_ble_eq_true rfl)) dX6_reason_1 ⟨Nat.le_of_ble_eq_true rfl, Nat.le_of_ble_eq_true rfl⟩) hS (fun locs hS => ?_)
  by_cases c1 : rfs (M_X6_faultOfController p1) = true
  · replace hM := (if_pos c1).symm.trans hM
    refine wk_callX (vx_runS (As := [.int (M_X6_faultOfController p1)]) (rest := []) ⟨hx, hb, hml, hown, hts⟩ (c_X6_refuse l hflags dC dI cI cD cJ kk (M_X6_faultOfController p1) _ (if_pos c1).symm H) (va_cwS 1 hts gX6_reason_X6_refuse rfl rfl rfl (by decide +kernel) ⟨Nat.le_of_ble_eq_true rfl, Nat.le_of_ble_eq_true rfl⟩) (wk_preST hG hP hD hT hS [] rfl rfl (va_free hD hS hA [] rfl)) rfl rfl hl.1 rfl (lv_room (Nat.le_of_ble_eq_true rfl)) dX6_reason_4 ⟨Nat.le_of_ble_eq_true rfl, Nat.le_of_ble_eq_true rfl⟩) hP hD hS hA [] [0, 1, 2, 3, 4, 5, 6, 7, 8, 9, 10, 11, 12, 13, 14, 15, 16, 17, 18, 19, 20, 21, 22, 23, 24, 25, 26, 27, 28, 29, 30, 31, 32, 33, 34, 35, 36, 37] [0, 1, 2, 3, 4, 5, 6, 7, 8, 9, 10, 11, 12, 13, 14, 15, 16, 17, 18, 19, 20, 21, 22, 23, 24, 25, 26, 27, 28, 29, 30, 31, 32, 33, 34, 35, 36, 37] rfl rfl rfl (by decide) rfl rfl (fun f9 ce q9 H locs ho9 hP hD hS hc9 hv9 hf9 => ?_) (fun ov w1 ho9 => by cases ho9)
    cases ho9
    replace hM := Option.some.inj hM
    subst hM
    exact wk_outX hno hlocks hQ rfl hP hD hS (Nat.le_of_ble_eq_true rfl) (Nat.le_of_ble_eq_true rfl) hc9 hv9 hf9
  replace hM := (if_neg c1).symm.trans hM
  refine wk_callX (vx_runS (As := [.int (M_X6_faultOfController p1)]) (rest := []) ⟨hx, hb, hml, hown, hts⟩ (c_X6_refuse l hflags dC dI cI cD cJ kk (M_X6_faultOfController p1) _ (if_neg c1).symm H) (va_cwS 1 hts gX6_reason_X6_refuse rfl rfl rfl (by decide +kernel) ⟨Nat.le_of_ble_eq_true rfl, Nat.le_of_ble_eq_true rfl⟩) (wk_preST hG hP hD hT hS [] rfl rfl (va_free hD hS hA [] rfl)) rfl rfl hl.1 rfl (lv_room (Nat.le_of_ble_eq_true rfl)) dX6_reason_4 ⟨Nat.le_of_ble_eq_true rfl, Nat.le_of_ble_eq_true rfl⟩) hP hD hS hA [] [0, 1, 2, 3, 4, 5, 6, 7, 8, 9, 10, 11, 12, 13, 14, 15, 16, 17, 18, 19, 20, 21, 22, 23, 24, 25, 26, 27, 28, 29, 30, 31, 32, 33, 34, 35, 36, 37] [0, 1, 2, 3, 4, 5, 6, 7, 8, 9, 10, 11, 12, 13, 14, 15, 16, 17, 18, 19, 20, 21, 22, 23, 24, 25, 26, 27, 28, 29, 30, 31, 32, 33, 34, 35, 36, 37] rfl rfl rfl (by decide) rfl rfl (fun f9 ce q9 H locs ho9 hP hD hS hc9 hv9 hf9 => by cases ho9) (fun ov w1 ho9 H locs hPD hS => ?_)
  cases ho9
  obtain ⟨hP, hD⟩ := hPD (wSys cI cD kk.1 g x) rfl
  refine lv_aload_n hx hb dX6_reason_7 rfl (lv_at hl 0 rfl) ?_
  refine va_get (D := (dC, dI)) (ci := 4) (v := .ref ((fun i => g (1 + i)) 0)) (C := RX6) (T := TX6) (N := 6) hx hb hts inX6 hown hG.1 hP 0 rfl rfl 0 (by decide) (hts (.fieldLink RX6 10 "WokenDrive" "drive" "LWokenDrive$Drive;") (List.mem_of_getElem? (i := 1) rfl)) (fun _ h9 => h9) rfl dX6_reason_8 ?_
  refine lv_iload_n hx hb dX6_reason_11 rfl (lv_at hl 2 rfl) ?_
  refine wk_callP (va_runV (As := [.int p2]) (rest := []) ⟨hx, hb, hml, hown, hts⟩ (c_X3_faultOfOrder l dC dI cI cD cJ kk (fun i => g (1 + i)) (ss_drv x) p2 _ rfl H) (cwV 1 hts gX6_reason_X3_faultOfOrder rfl rfl rfl (by decide +kernel) ⟨Nat.le_of_ble_eq_true rfl, Nat.le_of_ble_eq_true rfl⟩) (wk_preV (ci := 2) (q0 := 1) hG hP hD [1, 2, 3, 4, 5] rfl rfl rfl rfl) rfl rfl hl.1 rfl (lv_room (Nat.le_of_ble_eq_true rfl)) dX6_reason_12 ⟨Nat.le_of_ble_eq_true rfl, Nat.le_of_ble_eq_true rfl⟩) hS (fun locs hS => ?_)
  by_cases c2 : rfs (M_X3_faultOfOrder (ss_drv x) p2) = true
  · replace hM := (if_pos c2).symm.trans hM
    refine wk_callX (vx_runS (As := [.int (M_X3_faultOfOrder (ss_drv x) p2)]) (rest := []) ⟨hx, hb, hml, hown, hts⟩ (c_X6_refuse l hflags dC dI cI cD cJ kk (M_X3_faultOfOrder (ss_drv x) p2) _ (if_pos c2).symm H) (va_cwS 1 hts gX6_reason_X6_refuse rfl rfl rfl (by decide +kernel) ⟨Nat.le_of_ble_eq_true rfl, Nat.le_of_ble_eq_true rfl⟩) (wk_preST hG hP hD hT hS [] rfl rfl (va_free hD hS hA [] rfl)) rfl rfl hl.1 rfl (lv_room (Nat.le_of_ble_eq_true rfl)) dX6_reason_15 ⟨Nat.le_of_ble_eq_true rfl, Nat.le_of_ble_eq_true rfl⟩) hP hD hS hA [] [0, 1, 2, 3, 4, 5, 6, 7, 8, 9, 10, 11, 12, 13, 14, 15, 16, 17, 18, 19, 20, 21, 22, 23, 24, 25, 26, 27, 28, 29, 30, 31, 32, 33, 34, 35, 36, 37] [0, 1, 2, 3, 4, 5, 6, 7, 8, 9, 10, 11, 12, 13, 14, 15, 16, 17, 18, 19, 20, 21, 22, 23, 24, 25, 26, 27, 28, 29, 30, 31, 32, 33, 34, 35, 36, 37] rfl rfl rfl (by decide) rfl rfl (fun f9 ce q9 H locs ho9 hP hD hS hc9 hv9 hf9 => ?_) (fun ov w1 ho9 => by cases ho9)
    cases ho9
    replace hM := Option.some.inj hM
    subst hM
    exact wk_outX hno hlocks hQ rfl hP hD hS (Nat.le_of_ble_eq_true rfl) (Nat.le_of_ble_eq_true rfl) hc9 hv9 hf9
  replace hM := (if_neg c2).symm.trans hM
  refine wk_callX (vx_runS (As := [.int (M_X3_faultOfOrder (ss_drv x) p2)]) (rest := []) ⟨hx, hb, hml, hown, hts⟩ (c_X6_refuse l hflags dC dI cI cD cJ kk (M_X3_faultOfOrder (ss_drv x) p2) _ (if_neg c2).symm H) (va_cwS 1 hts gX6_reason_X6_refuse rfl rfl rfl (by decide +kernel) ⟨Nat.le_of_ble_eq_true rfl, Nat.le_of_ble_eq_true rfl⟩) (wk_preST hG hP hD hT hS [] rfl rfl (va_free hD hS hA [] rfl)) rfl rfl hl.1 rfl (lv_room (Nat.le_of_ble_eq_true rfl)) dX6_reason_15 ⟨Nat.le_of_ble_eq_true rfl, Nat.le_of_ble_eq_true rfl⟩) hP hD hS hA [] [0, 1, 2, 3, 4, 5, 6, 7, 8, 9, 10, 11, 12, 13, 14, 15, 16, 17, 18, 19, 20, 21, 22, 23, 24, 25, 26, 27, 28, 29, 30, 31, 32, 33, 34, 35, 36, 37] [0, 1, 2, 3, 4, 5, 6, 7, 8, 9, 10, 11, 12, 13, 14, 15, 16, 17, 18, 19, 20, 21, 22, 23, 24, 25, 26, 27, 28, 29, 30, 31, 32, 33, 34, 35, 36, 37] rfl rfl rfl (by decide) rfl rfl (fun f9 ce q9 H locs ho9 hP hD hS hc9 hv9 hf9 => by cases ho9) (fun ov w1 ho9 H locs hPD hS => ?_)
  cases ho9
  obtain ⟨hP, hD⟩ := hPD (wSys cI cD kk.1 g x) rfl
  refine lv_aload_n hx hb dX6_reason_18 rfl (lv_at hl 0 rfl) ?_
  refine va_get (D := (dC, dI)) (ci := 4) (v := .ref ((fun i => g (1 + i)) 0)) (C := RX6) (T := TX6) (N := 6) hx hb hts inX6 hown hG.1 hP 0 rfl rfl 0 (by decide) (hts (.fieldLink RX6 10 "WokenDrive" "drive" "LWokenDrive$Drive;") (List.mem_of_getElem? (i := 1) rfl)) (fun _ h9 => h9) rfl dX6_reason_19 ?_
  refine lv_iload_n hx hb dX6_reason_22 rfl (lv_at hl 1 rfl) ?_
  refine lv_iload_n hx hb dX6_reason_23 rfl (lv_at hl 2 rfl) ?_
  obtain ⟨r3, hr3, hM⟩ := ob hM
  refine wk_callP (va_runV (As := [.int p1, .int p2]) (rest := []) ⟨hx, hb, hml, hown, hts⟩ (c_X3_whyNot l dC dI cI cD cJ kk (fun i => g (1 + i)) (ss_drv x) p1 p2 _ hr3 H) (cwV 2 hts gX6_reason_X3_whyNot rfl rfl rfl (by decide +kernel) ⟨Nat.le_of_ble_eq_true rfl, Nat.le_of_ble_eq_true rfl⟩) (wk_preV (ci := 2) (q0 := 1) hG hP hD [1, 2, 3, 4, 5] rfl rfl rfl rfl) rfl rfl hl.1 rfl (lv_room (Nat.le_of_ble_eq_true rfl)) dX6_reason_24 ⟨Nat.le_of_ble_eq_true rfl, Nat.le_of_ble_eq_true rfl⟩) hS (fun locs hS => ?_)
  replace hM := Option.some.inj hM
  subst hM
  exact wk_retXi hx hb hr hlocks hQ rfl rfl hP hD hS (Nat.le_of_ble_eq_true rfl) (Nat.le_of_ble_eq_true rfl) dX6_reason_27
set_option maxHeartbeats 4000000 in
set_option maxRecDepth 100000 in
theorem c_X6_finalValue (l : Launch) (hflags : l.stackTraces = false) (dC : Nat → ClassId) (dI : Nat → Nat → Nat) (cI cD cJ : ClassId) (kk : wAd) (g : Nat → Nat) (x : SS) (p1 : Int32) (out : Int32 ⊕ (Int32 × SS)) (hM : M_X6_finalValue x p1 = some out) : CX kk l yX6_finalValue wsX6_finalValue ({ frames := 7, cells := 1, slots := 6, locals := 102 } : Room) dC dI (wTys cI cD cJ) [.ref (g 0), .int p1] (wSys cI cD kk.1 g x) (outX out (fun r => (some (.int r.1), (wSys cI cD kk.1 g r.2)))) 1 6 := by
  refine wk_enterX (cc := cX6_finalValue) (maxL := 2) (ret := (some .int)) (by decide) rfl (Nat.le_of_ble_eq_true rfl) ?_
  intro p e s m below meth c A Q ls hB hno hT hA hP hD hQ hl
  obtain ⟨hx, hb, hml, hr, hts, hown, hname, hlocks, hG⟩ := hB
  have hown : s.vm.findClass RX6 = some m.cls := hown
  have hS : va_S A s.heap s.heap [] := va_S.rf
  have hl : lv_has ls 2 [(0, .ref (g 0)), (1, .int p1)] := hl
  have inX6 : ∀ w ∈ wsX60, w ∈ wsX6_finalValue := fun _ h => List.mem_cons_of_mem _ (List.mem_append_left _ (List.mem_append_left _ (List.mem_append_left _ (List.mem_append_left _ (List.mem_append_right _ h)))))
  obtain ⟨H, hH⟩ : ∃ z, z = s.heap := ⟨_, rfl⟩
  have hP : va_P (dC, dI) vwCl (wSys cI cD kk.1 g x) H := by rw [hH]; exact hP
  have hS : va_S A s.heap H [] := by rw [hH]; exact hS
  refine wk_at hH ?_
  generalize ([] : List Loc) = locs at hS ⊢
  unfold M_X6_finalValue at hM
  refine lv_iload_n hx hb dX6_finalValue_0 rfl (lv_at hl 1 rfl) ?_
  refine wk_callP (va_runS (As := [.int p1]) (rest := []) ⟨hx, hb, hml, hown, hts⟩ (c_X6_faultOfBlock l dC dI cI cD cJ kk  p1 _ rfl H) (va_cwS 1 hts gX6_finalValue_X6_faultOfBlock rfl rfl rfl (by decide +kernel) ⟨Nat.le_of_ble_eq_true rfl, Nat.le_of_ble_eq_true rfl⟩) (wk_preS hG hP hD [] rfl rfl) rfl rfl hl.1 rfl (lv_room (Nat.le_of_ble_eq_true rfl)) dX6_finalValue_1 ⟨Nat.le_of_ble_eq_true rfl, Nat.le_of_ble_eq_true rfl⟩) hS (fun locs hS => ?_)
  by_cases c1 : rfs (M_X6_faultOfBlock p1) = true
  · replace hM := (if_pos c1).symm.trans hM
    refine wk_callX (vx_runS (As := [.int (M_X6_faultOfBlock p1)]) (rest := []) ⟨hx, hb, hml, hown, hts⟩ (c_X6_refuse l hflags dC dI cI cD cJ kk (M_X6_faultOfBlock p1) _ (if_pos c1).symm H) (va_cwS 1 hts gX6_finalValue_X6_refuse rfl rfl rfl (by decide +kernel) ⟨Nat.le_of_ble_eq_true rfl, Nat.le_of_ble_eq_true rfl⟩) (wk_preST hG hP hD hT hS [] rfl rfl (va_free hD hS hA [] rfl)) rfl rfl hl.1 rfl (lv_room (Nat.le_of_ble_eq_true rfl)) dX6_finalValue_4 ⟨Nat.le_of_ble_eq_true rfl, Nat.le_of_ble_eq_true rfl⟩) hP hD hS hA [] [0, 1, 2, 3, 4, 5, 6, 7, 8, 9, 10, 11, 12, 13, 14, 15, 16, 17, 18, 19, 20, 21, 22, 23, 24, 25, 26, 27, 28, 29, 30, 31, 32, 33, 34, 35, 36, 37] [0, 1, 2, 3, 4, 5, 6, 7, 8, 9, 10, 11, 12, 13, 14, 15, 16, 17, 18, 19, 20, 21, 22, 23, 24, 25, 26, 27, 28, 29, 30, 31, 32, 33, 34, 35, 36, 37] rfl rfl rfl (by decide) rfl rfl (fun f9 ce q9 H locs ho9 hP hD hS hc9 hv9 hf9 => ?_) (fun ov w1 ho9 => by cases ho9)
    cases ho9
    replace hM := Option.some.inj hM
    subst hM
    exact wk_outX hno hlocks hQ rfl hP hD hS (Nat.le_of_ble_eq_true rfl) (Nat.le_of_ble_eq_true rfl) hc9 hv9 hf9
  replace hM := (if_neg c1).symm.trans hM
  refine wk_callX (vx_runS (As := [.int (M_X6_faultOfBlock p1)]) (rest := []) ⟨hx, hb, hml, hown, hts⟩ (c_X6_refuse l hflags dC dI cI cD cJ kk (M_X6_faultOfBlock p1) _ (if_neg c1).symm H) (va_cwS 1 hts gX6_finalValue_X6_refuse rfl rfl rfl (by decide +kernel) ⟨Nat.le_of_ble_eq_true rfl, Nat.le_of_ble_eq_true rfl⟩) (wk_preST hG hP hD hT hS [] rfl rfl (va_free hD hS hA [] rfl)) rfl rfl hl.1 rfl (lv_room (Nat.le_of_ble_eq_true rfl)) dX6_finalValue_4 ⟨Nat.le_of_ble_eq_true rfl, Nat.le_of_ble_eq_true rfl⟩) hP hD hS hA [] [0, 1, 2, 3, 4, 5, 6, 7, 8, 9, 10, 11, 12, 13, 14, 15, 16, 17, 18, 19, 20, 21, 22, 23, 24, 25, 26, 27, 28, 29, 30, 31, 32, 33, 34, 35, 36, 37] [0, 1, 2, 3, 4, 5, 6, 7, 8, 9, 10, 11, 12, 13, 14, 15, 16, 17, 18, 19, 20, 21, 22, 23, 24, 25, 26, 27, 28, 29, 30, 31, 32, 33, 34, 35, 36, 37] rfl rfl rfl (by decide) rfl rfl (fun f9 ce q9 H locs ho9 hP hD hS hc9 hv9 hf9 => by cases ho9) (fun ov w1 ho9 H locs hPD hS => ?_)
  cases ho9
  obtain ⟨hP, hD⟩ := hPD (wSys cI cD kk.1 g x) rfl
  refine lv_aload_n hx hb dX6_finalValue_7 rfl (lv_at hl 0 rfl) ?_
  refine va_get (D := (dC, dI)) (ci := 4) (v := .ref ((fun i => g (1 + i)) 0)) (C := RX6) (T := TX6) (N := 6) hx hb hts inX6 hown hG.1 hP 0 rfl rfl 0 (by decide) (hts (.fieldLink RX6 10 "WokenDrive" "drive" "LWokenDrive$Drive;") (List.mem_of_getElem? (i := 1) rfl)) (fun _ h9 => h9) rfl dX6_finalValue_8 ?_
  refine lv_aload_n hx hb dX6_finalValue_11 rfl (lv_at hl 0 rfl) ?_
  refine va_get (D := (dC, dI)) (ci := 4) (v := .ref (g 36)) (C := RX6) (T := TX6) (N := 6) hx hb hts inX6 hown hG.1 hP 0 rfl rfl 4 (by decide) (hts (.fieldLink RX6 33 "WokenDrive" "finals" "[I") (List.mem_of_getElem? (i := 2) rfl)) (fun _ h9 => h9) rfl dX6_finalValue_12 ?_
  obtain ⟨r2, hr2, hM⟩ := ob hM
  obtain ⟨y_3, hy_3, hM⟩ := tbE hM
  refine wk_callM (ws' := (wSys cI cD kk.1 g (ss_fin_s x r2))) (va_runV (As := [.ref (g 36)]) (rest := []) ⟨hx, hb, hml, hown, hts⟩ (c_X3_reckonFinals l dC dI cI cD cJ kk (fun i => g (1 + i)) (g 36) (ss_drv x) (ss_fin x) _ hr2 H) (cwV 1 hts gX6_finalValue_X3_reckonFinals rfl rfl rfl (by decide +kernel) ⟨Nat.le_of_ble_eq_true rfl, Nat.le_of_ble_eq_true rfl⟩) (wk_preV (ci := 2) (q0 := 1) hG hP hD [1, 2, 3, 4, 5, 36] rfl rfl rfl rfl) rfl rfl hl.1 rfl (lv_room (Nat.le_of_ble_eq_true rfl)) dX6_finalValue_15 ⟨Nat.le_of_ble_eq_true rfl, Nat.le_of_ble_eq_true rfl⟩) hP hD hS hA [1, 2, 3, 4, 5, 36] [0, 6, 7, 8, 9, 10, 11, 12, 13, 14, 15, 16, 17, 18, 19, 20, 21, 22, 23, 24, 25, 26, 27, 28, 29, 30, 31, 32, 33, 34, 35, 37] [0, 32, 33, 34, 35, 36, 1, 2, 3, 4, 5, 6, 7, 8, 9, 10, 11, 12, 13, 14, 15, 16, 17, 18, 19, 20, 21, 22, 23, 24, 25, 26, 27, 28, 29, 30, 37, 31] rfl rfl rfl (by decide) rfl rfl (fun H locs hP hD hS => ?_)
  have hP : va_P (dC, dI) vwCl (wSys cI cD kk.1 g y_3) H := by rw [hy_3]; exact hP
  have hD : va_D A (wSys cI cD kk.1 g y_3) := by rw [hy_3]; exact hD
  refine lv_aload_n hx hb dX6_finalValue_18 rfl (lv_at hl 0 rfl) ?_
  refine va_get (D := (dC, dI)) (ci := 4) (v := .ref (g 36)) (C := RX6) (T := TX6) (N := 6) hx hb hts inX6 hown hG.1 hP 0 rfl rfl 4 (by decide) (hts (.fieldLink RX6 33 "WokenDrive" "finals" "[I") (List.mem_of_getElem? (i := 2) rfl)) (fun _ h9 => h9) rfl dX6_finalValue_19 ?_
  refine lv_iload_n hx hb dX6_finalValue_22 rfl (lv_at hl 1 rfl) ?_
  refine wk_callP (va_runS (As := [.ref (g 36), .int p1]) (rest := []) ⟨hx, hb, hml, hown, hts⟩ (c_X6_at l dC dI cI cD cJ kk (g 36) 16 (ss_fin y_3) p1 (by decide) _ rfl H) (va_cwS 2 hts gX6_finalValue_X6_at rfl rfl rfl (by decide +kernel) ⟨Nat.le_of_ble_eq_true rfl, Nat.le_of_ble_eq_true rfl⟩) (wk_preS hG hP hD [36] rfl rfl) rfl rfl hl.1 rfl (lv_room (Nat.le_of_ble_eq_true rfl)) dX6_finalValue_23 ⟨Nat.le_of_ble_eq_true rfl, Nat.le_of_ble_eq_true rfl⟩) hS (fun locs hS => ?_)
  replace hM := Option.some.inj hM
  subst hM
  exact wk_retXi hx hb hr hlocks hQ rfl rfl hP hD hS (Nat.le_of_ble_eq_true rfl) (Nat.le_of_ble_eq_true rfl) dX6_finalValue_26
set_option maxHeartbeats 4000000 in
set_option maxRecDepth 100000 in
theorem c_X6_type (l : Launch) (hflags : l.stackTraces = false) (dC : Nat → ClassId) (dI : Nat → Nat → Nat) (cI cD cJ : ClassId) (kk : wAd) (g : Nat → Nat) (x : SS) (p1 : Int32) (out : Int32 ⊕ (Int32 × SS)) (hM : M_X6_type x p1 = some out) : CX kk l yX6_type wsX6_type ({ frames := 7, cells := 2, slots := 12, locals := 102 } : Room) dC dI (wTys cI cD cJ) [.ref (g 0), .int p1] (wSys cI cD kk.1 g x) (outX out (fun r => (some (.int r.1), (wSys cI cD kk.1 g r.2)))) 2 12 := by
  refine wk_enterX (cc := cX6_type) (maxL := 2) (ret := (some .int)) (by decide) rfl (Nat.le_of_ble_eq_true rfl) ?_
  intro p e s m below meth c A Q ls hB hno hT hA hP hD hQ hl
  obtain ⟨hx, hb, hml, hr, hts, hown, hname, hlocks, hG⟩ := hB
  have hown : s.vm.findClass RX6 = some m.cls := hown
  have hS : va_S A s.heap s.heap [] := va_S.rf
  have hl : lv_has ls 2 [(0, .ref (g 0)), (1, .int p1)] := hl
  have inX6 : ∀ w ∈ wsX60, w ∈ wsX6_type := fun _ h => List.mem_cons_of_mem _ (List.mem_append_left _ (List.mem_append_left _ (List.mem_append_left _ (List.mem_append_left _ (List.mem_append_right _ h)))))
  obtain ⟨H, hH⟩ : ∃ z, z = s.heap := ⟨_, rfl⟩
  have hP : va_P (dC, dI) vwCl (wSys cI cD kk.1 g x) H := by rw [hH]; exact hP
  have hS : va_S A s.heap H [] := by rw [hH]; exact hS
  refine wk_at hH ?_
  generalize ([] : List Loc) = locs at hS ⊢
  have hB25 : ∀ (w0 : Int32) (y0 : SS) (H : Heap) (locs : List Loc) (ls : Array Slot), M_X6_type_25 x p1 w0 y0 = some out → va_P (dC, dI) vwCl (wSys cI cD kk.1 g y0) H → va_D A (wSys cI cD kk.1 g y0) → va_S A s.heap H locs → lv_has ls 2 [(0, .ref (g 0)), (1, .int p1)] → W p l e ({ frames := 7, cells := 2, slots := 12, locals := 102 } : Room) s m ([.ref (g 0), .int p1] : List Value).toArray below meth c H locs 1 6 Q (F0 m 25 ls [.int w0]) := by
    intro w0 y0 H locs ls hM hP hD hS hl
    unfold M_X6_type_25 at hM
    by_cases c1 : rfs w0 = true
    · replace hM := (if_pos c1).symm.trans hM
      refine wk_callX (vx_runS (As := [.int w0]) (rest := []) ⟨hx, hb, hml, hown, hts⟩ (c_X6_refuse l hflags dC dI cI cD cJ kk w0 _ (if_pos c1).symm H) (va_cwS 1 hts gX6_type_X6_refuse rfl rfl rfl (by decide +kernel) ⟨Nat.le_of_ble_eq_true rfl, Nat.le_of_ble_eq_true rfl⟩) (wk_preST hG hP hD hT hS [] rfl rfl (va_free hD hS hA [] rfl)) rfl rfl hl.1 rfl (lv_room (Nat.le_of_ble_eq_true rfl)) dX6_type_25 ⟨Nat.le_of_ble_eq_true rfl, Nat.le_of_ble_eq_true rfl⟩) hP hD hS hA [] [0, 1, 2, 3, 4, 5, 6, 7, 8, 9, 10, 11, 12, 13, 14, 15, 16, 17, 18, 19, 20, 21, 22, 23, 24, 25, 26, 27, 28, 29, 30, 31, 32, 33, 34, 35, 36, 37] [0, 1, 2, 3, 4, 5, 6, 7, 8, 9, 10, 11, 12, 13, 14, 15, 16, 17, 18, 19, 20, 21, 22, 23, 24, 25, 26, 27, 28, 29, 30, 31, 32, 33, 34, 35, 36, 37] rfl rfl rfl (by decide) rfl rfl (fun f9 ce q9 H locs ho9 hP hD hS hc9 hv9 hf9 => ?_) (fun ov w1 ho9 => by cases ho9)
      cases ho9
      replace hM := Option.some.inj hM
      subst hM
      exact wk_outX hno hlocks hQ rfl hP hD hS (Nat.le_of_ble_eq_true rfl) (Nat.le_of_ble_eq_true rfl) hc9 hv9 hf9
    replace hM := (if_neg c1).symm.trans hM
    refine wk_callX (vx_runS (As := [.int w0]) (rest := []) ⟨hx, hb, hml, hown, hts⟩ (c_X6_refuse l hflags dC dI cI cD cJ kk w0 _ (if_neg c1).symm H) (va_cwS 1 hts gX6_type_X6_refuse rfl rfl rfl (by decide +kernel) ⟨Nat.le_of_ble_eq_true rfl, Nat.le_of_ble_eq_true rfl⟩) (wk_preST hG hP hD hT hS [] rfl rfl (va_free hD hS hA [] rfl)) rfl rfl hl.1 rfl (lv_room (Nat.le_of_ble_eq_true rfl)) dX6_type_25 ⟨Nat.le_of_ble_eq_true rfl, Nat.le_of_ble_eq_true rfl⟩) hP hD hS hA [] [0, 1, 2, 3, 4, 5, 6, 7, 8, 9, 10, 11, 12, 13, 14, 15, 16, 17, 18, 19, 20, 21, 22, 23, 24, 25, 26, 27, 28, 29, 30, 31, 32, 33, 34, 35, 36, 37] [0, 1, 2, 3, 4, 5, 6, 7, 8, 9, 10, 11, 12, 13, 14, 15, 16, 17, 18, 19, 20, 21, 22, 23, 24, 25, 26, 27, 28, 29, 30, 31, 32, 33, 34, 35, 36, 37] rfl rfl rfl (by decide) rfl rfl (fun f9 ce q9 H locs ho9 hP hD hS hc9 hv9 hf9 => by cases ho9) (fun ov w1 ho9 H locs hPD hS => ?_)
    cases ho9
    obtain ⟨hP, hD⟩ := hPD (wSys cI cD kk.1 g y0) rfl
    refine lv_aload_n hx hb dX6_type_28 rfl (lv_at hl 0 rfl) ?_
    refine va_get (D := (dC, dI)) (ci := 4) (v := .ref ((fun i => g (33 + i)) 0)) (C := RX6) (T := TX6) (N := 6) hx hb hts inX6 hown hG.1 hP 0 rfl rfl 3 (by decide) (hts (.fieldLink RX6 29 "WokenDrive" "text" "LWokenDrive$CommandText;") (List.mem_of_getElem? (i := 1) rfl)) (fun _ h9 => h9) rfl dX6_type_29 ?_
    refine lv_iload_n hx hb dX6_type_32 rfl (lv_at hl 1 rfl) ?_
    obtain ⟨r2, hr2, hM⟩ := tbE hM
    refine wk_callM (ws' := (wSys cI cD kk.1 g (ss_txt_s y0 r2.2))) (va_runV (As := [.int p1]) (rest := []) ⟨hx, hb, hml, hown, hts⟩ (c_X1_append l dC dI cI cD cJ kk (fun i => g (33 + i)) (ss_txt y0) p1 _ hr2.symm H) (cwV 1 hts gX6_type_X1_append rfl rfl rfl (by decide +kernel) ⟨Nat.le_of_ble_eq_true rfl, Nat.le_of_ble_eq_true rfl⟩) (wk_preV (ci := 0) (q0 := 33) hG hP hD [33, 34, 35] rfl rfl rfl rfl) rfl rfl hl.1 rfl (lv_room (Nat.le_of_ble_eq_true rfl)) dX6_type_33 ⟨Nat.le_of_ble_eq_true rfl, Nat.le_of_ble_eq_true rfl⟩) hP hD hS hA [33, 34, 35] [0, 1, 2, 3, 4, 5, 6, 7, 8, 9, 10, 11, 12, 13, 14, 15, 16, 17, 18, 19, 20, 21, 22, 23, 24, 25, 26, 27, 28, 29, 30, 31, 32, 36, 37] [0, 1, 2, 3, 4, 5, 6, 7, 8, 9, 10, 11, 12, 13, 14, 15, 16, 17, 18, 19, 20, 21, 22, 23, 24, 25, 26, 27, 28, 29, 30, 31, 32, 35, 36, 37, 33, 34] rfl rfl rfl (by decide) rfl rfl (fun H locs hP hD hS => ?_)
    replace hM := Option.some.inj hM
    subst hM
    exact wk_retXi hx hb hr hlocks hQ rfl rfl hP hD hS (Nat.le_of_ble_eq_true rfl) (Nat.le_of_ble_eq_true rfl) dX6_type_36
  unfold M_X6_type at hM
  refine lv_iload_n hx hb dX6_type_0 rfl (lv_at hl 1 rfl) ?_
  refine lv_iconst (v := (0 : Int32)) hx hb dX6_type_1 (by decide) ?_
  refine lv_bipush (v := (127 : Int32)) hx hb dX6_type_2 (by decide) ?_
  refine wk_callP (va_runS (As := [.int p1, .int (0 : Int32), .int (127 : Int32)]) (rest := []) ⟨hx, hb, hml, hown, hts⟩ (c_X6_faultOfRange l dC dI cI cD cJ kk  p1 (0 : Int32) (127 : Int32) _ rfl H) (va_cwS 3 hts gX6_type_X6_faultOfRange rfl rfl rfl (by decide +kernel) ⟨Nat.le_of_ble_eq_true rfl, Nat.le_of_ble_eq_true rfl⟩) (wk_preS hG hP hD [] rfl rfl) rfl rfl hl.1 rfl (lv_room (Nat.le_of_ble_eq_true rfl)) dX6_type_4 ⟨Nat.le_of_ble_eq_true rfl, Nat.le_of_ble_eq_true rfl⟩) hS (fun locs hS => ?_)
  by_cases c1 : rfs (M_X6_faultOfRange p1 (0 : Int32) (127 : Int32)) = true
  · replace hM := (if_pos c1).symm.trans hM
    refine wk_callX (vx_runS (As := [.int (M_X6_faultOfRange p1 (0 : Int32) (127 : Int32))]) (rest := []) ⟨hx, hb, hml, hown, hts⟩ (c_X6_refuse l hflags dC dI cI cD cJ kk (M_X6_faultOfRange p1 (0 : Int32) (127 : Int32)) _ (if_pos c1).symm H) (va_cwS 1 hts gX6_type_X6_refuse rfl rfl rfl (by decide +kernel) ⟨Nat.le_of_ble_eq_true rfl, Nat.le_of_ble_eq_true rfl⟩) (wk_preST hG hP hD hT hS [] rfl rfl (va_free hD hS hA [] rfl)) rfl rfl hl.1 rfl (lv_room (Nat.le_of_ble_eq_true rfl)) dX6_type_7 ⟨Nat.le_of_ble_eq_true rfl, Nat.le_of_ble_eq_true rfl⟩) hP hD hS hA [] [0, 1, 2, 3, 4, 5, 6, 7, 8, 9, 10, 11, 12, 13, 14, 15, 16, 17, 18, 19, 20, 21, 22, 23, 24, 25, 26, 27, 28, 29, 30, 31, 32, 33, 34, 35, 36, 37] [0, 1, 2, 3, 4, 5, 6, 7, 8, 9, 10, 11, 12, 13, 14, 15, 16, 17, 18, 19, 20, 21, 22, 23, 24, 25, 26, 27, 28, 29, 30, 31, 32, 33, 34, 35, 36, 37] rfl rfl rfl (by decide) rfl rfl (fun f9 ce q9 H locs ho9 hP hD hS hc9 hv9 hf9 => ?_) (fun ov w1 ho9 => by cases ho9)
    cases ho9
    replace hM := Option.some.inj hM
    subst hM
    exact wk_outX hno hlocks hQ rfl hP hD hS (Nat.le_of_ble_eq_true rfl) (Nat.le_of_ble_eq_true rfl) hc9 hv9 hf9
  replace hM := (if_neg c1).symm.trans hM
  refine wk_callX (vx_runS (As := [.int (M_X6_faultOfRange p1 (0 : Int32) (127 : Int32))]) (rest := []) ⟨hx, hb, hml, hown, hts⟩ (c_X6_refuse l hflags dC dI cI cD cJ kk (M_X6_faultOfRange p1 (0 : Int32) (127 : Int32)) _ (if_neg c1).symm H) (va_cwS 1 hts gX6_type_X6_refuse rfl rfl rfl (by decide +kernel) ⟨Nat.le_of_ble_eq_true rfl, Nat.le_of_ble_eq_true rfl⟩) (wk_preST hG hP hD hT hS [] rfl rfl (va_free hD hS hA [] rfl)) rfl rfl hl.1 rfl (lv_room (Nat.le_of_ble_eq_true rfl)) dX6_type_7 ⟨Nat.le_of_ble_eq_true rfl, Nat.le_of_ble_eq_true rfl⟩) hP hD hS hA [] [0, 1, 2, 3, 4, 5, 6, 7, 8, 9, 10, 11, 12, 13, 14, 15, 16, 17, 18, 19, 20, 21, 22, 23, 24, 25, 26, 27, 28, 29, 30, 31, 32, 33, 34, 35, 36, 37] [0, 1, 2, 3, 4, 5, 6, 7, 8, 9, 10, 11, 12, 13, 14, 15, 16, 17, 18, 19, 20, 21, 22, 23, 24, 25, 26, 27, 28, 29, 30, 31, 32, 33, 34, 35, 36, 37] rfl rfl rfl (by decide) rfl rfl (fun f9 ce q9 H locs ho9 hP hD hS hc9 hv9 hf9 => by cases ho9) (fun ov w1 ho9 H locs hPD hS => ?_)
  cases ho9
  obtain ⟨hP, hD⟩ := hPD (wSys cI cD kk.1 g x) rfl
  refine lv_aload_n hx hb dX6_type_10 rfl (lv_at hl 0 rfl) ?_
  refine va_get (D := (dC, dI)) (ci := 4) (v := .ref ((fun i => g (33 + i)) 0)) (C := RX6) (T := TX6) (N := 6) hx hb hts inX6 hown hG.1 hP 0 rfl rfl 3 (by decide) (hts (.fieldLink RX6 29 "WokenDrive" "text" "LWokenDrive$CommandText;") (List.mem_of_getElem? (i := 1) rfl)) (fun _ h9 => h9) rfl dX6_type_11 ?_
  refine wk_callP (va_runV (As := []) (rest := []) ⟨hx, hb, hml, hown, hts⟩ (c_X1_isFull l dC dI cI cD cJ kk (fun i => g (33 + i)) (ss_txt x) _ rfl H) (cwV 0 hts gX6_type_X1_isFull rfl rfl rfl (by decide +kernel) ⟨Nat.le_of_ble_eq_true rfl, Nat.le_of_ble_eq_true rfl⟩) (wk_preV (ci := 0) (q0 := 33) hG hP hD [33, 34, 35] rfl rfl rfl rfl) rfl rfl hl.1 rfl (lv_room (Nat.le_of_ble_eq_true rfl)) dX6_type_14 ⟨Nat.le_of_ble_eq_true rfl, Nat.le_of_ble_eq_true rfl⟩) hS (fun locs hS => ?_)
  refine lv_if_eq (tgt := 24) hx hb dX6_type_17 (by decide) (fun c2 => ?_) (fun c2 => ?_)
  · replace hM := (if_pos c2).symm.trans hM
    refine lv_iconst (v := (0 : Int32)) hx hb dX6_type_24 (by decide) ?_
    exact hB25 (0 : Int32) x H _ _ hM hP hD hS (lv_sub hl [0, 1] rfl)
  · replace hM := (if_neg c2).symm.trans hM
    refine lv_iconst (v := (3 : Int32)) hx hb dX6_type_20 (by decide) ?_
    refine lv_goto (tgt := 25) hx hb dX6_type_21 (by decide) ?_
    exact hB25 (3 : Int32) x H _ _ hM hP hD hS (lv_sub hl [0, 1] rfl)
set_option maxHeartbeats 4000000 in
set_option maxRecDepth 100000 in
theorem c_X6_undo (l : Launch) (hflags : l.stackTraces = false) (dC : Nat → ClassId) (dI : Nat → Nat → Nat) (cI cD cJ : ClassId) (kk : wAd) (g : Nat → Nat) (x : SS) (out : Int32 ⊕ (Int32 × SS)) (hM : M_X6_undo x = some out) : CX kk l yX6_undo wsX6_undo ({ frames := 7, cells := 1, slots := 6, locals := 103 } : Room) dC dI (wTys cI cD cJ) [.ref (g 0)] (wSys cI cD kk.1 g x) (outX out (fun r => (some (.int r.1), (wSys cI cD kk.1 g r.2)))) 1 6 := by
  refine wk_enterX (cc := cX6_undo) (maxL := 1) (ret := (some .int)) (by decide) rfl (Nat.le_of_ble_eq_true rfl) ?_
  intro p e s m below meth c A Q ls hB hno hT hA hP hD hQ hl
  obtain ⟨hx, hb, hml, hr, hts, hown, hname, hlocks, hG⟩ := hB
  have hown : s.vm.findClass RX6 = some m.cls := hown
  have hS : va_S A s.heap s.heap [] := va_S.rf
  have hl : lv_has ls 1 [(0, .ref (g 0))] := hl
  have inX4 : ∀ w ∈ wsX40, w ∈ wsX6_undo := fun _ h => List.mem_cons_of_mem _ (List.mem_append_left _ (List.mem_append_left _ (List.mem_append_left _ (List.mem_append_left _ (List.mem_append_left _ (List.mem_append_right _ h))))))
  have inX6 : ∀ w ∈ wsX60, w ∈ wsX6_undo := fun _ h => List.mem_cons_of_mem _ (List.mem_append_left _ (List.mem_append_left _ (List.mem_append_left _ (List.mem_append_left _ (List.mem_append_left _ (List.mem_append_left _ (List.mem_append_right _ h)))))))
  obtain ⟨H, hH⟩ : ∃ z, z = s.heap := ⟨_, rfl⟩
  have hP : va_P (dC, dI) vwCl (wSys cI cD kk.1 g x) H := by rw [hH]; exact hP
  have hS : va_S A s.heap H [] := by rw [hH]; exact hS
  refine wk_at hH ?_
  generalize ([] : List Loc) = locs at hS ⊢
  have hB15 : ∀ (w0 : Int32) (y0 : SS) (H : Heap) (locs : List Loc) (ls : Array Slot), M_X6_undo_15 x w0 y0 = some out → va_P (dC, dI) vwCl (wSys cI cD kk.1 g y0) H → va_D A (wSys cI cD kk.1 g y0) → va_S A s.heap H locs → lv_has ls 1 [(0, .ref (g 0))] → W p l e ({ frames := 7, cells := 1, slots := 6, locals := 103 } : Room) s m ([.ref (g 0)] : List Value).toArray below meth c H locs 0 0 Q (F0 m 15 ls [.int w0]) := by
    intro w0 y0 H locs ls hM hP hD hS hl
    unfold M_X6_undo_15 at hM
    by_cases c1 : rfs w0 = true
    · replace hM := (if_pos c1).symm.trans hM
      refine wk_callX (vx_runS (As := [.int w0]) (rest := []) ⟨hx, hb, hml, hown, hts⟩ (c_X6_refuse l hflags dC dI cI cD cJ kk w0 _ (if_pos c1).symm H) (va_cwS 1 hts gX6_undo_X6_refuse rfl rfl rfl (by decide +kernel) ⟨Nat.le_of_ble_eq_true rfl, Nat.le_of_ble_eq_true rfl⟩) (wk_preST hG hP hD hT hS [] rfl rfl (va_free hD hS hA [] rfl)) rfl rfl hl.1 rfl (lv_room (Nat.le_of_ble_eq_true rfl)) dX6_undo_15 ⟨Nat.le_of_ble_eq_true rfl, Nat.le_of_ble_eq_true rfl⟩) hP hD hS hA [] [0, 1, 2, 3, 4, 5, 6, 7, 8, 9, 10, 11, 12, 13, 14, 15, 16, 17, 18, 19, 20, 21, 22, 23, 24, 25, 26, 27, 28, 29, 30, 31, 32, 33, 34, 35, 36, 37] [0, 1, 2, 3, 4, 5, 6, 7, 8, 9, 10, 11, 12, 13, 14, 15, 16, 17, 18, 19, 20, 21, 22, 23, 24, 25, 26, 27, 28, 29, 30, 31, 32, 33, 34, 35, 36, 37] rfl rfl rfl (by decide) rfl rfl (fun f9 ce q9 H locs ho9 hP hD hS hc9 hv9 hf9 => ?_) (fun ov w1 ho9 => by cases ho9)
      cases ho9
      replace hM := Option.some.inj hM
      subst hM
      exact wk_outX hno hlocks hQ rfl hP hD hS (Nat.le_of_ble_eq_true rfl) (Nat.le_of_ble_eq_true rfl) hc9 hv9 hf9
    replace hM := (if_neg c1).symm.trans hM
    refine wk_callX (vx_runS (As := [.int w0]) (rest := []) ⟨hx, hb, hml, hown, hts⟩ (c_X6_refuse l hflags dC dI cI cD cJ kk w0 _ (if_neg c1).symm H) (va_cwS 1 hts gX6_undo_X6_refuse rfl rfl rfl (by decide +kernel) ⟨Nat.le_of_ble_eq_true rfl, Nat.le_of_ble_eq_true rfl⟩) (wk_preST hG hP hD hT hS [] rfl rfl (va_free hD hS hA [] rfl)) rfl rfl hl.1 rfl (lv_room (Nat.le_of_ble_eq_true rfl)) dX6_undo_15 ⟨Nat.le_of_ble_eq_true rfl, Nat.le_of_ble_eq_true rfl⟩) hP hD hS hA [] [0, 1, 2, 3, 4, 5, 6, 7, 8, 9, 10, 11, 12, 13, 14, 15, 16, 17, 18, 19, 20, 21, 22, 23, 24, 25, 26, 27, 28, 29, 30, 31, 32, 33, 34, 35, 36, 37] [0, 1, 2, 3, 4, 5, 6, 7, 8, 9, 10, 11, 12, 13, 14, 15, 16, 17, 18, 19, 20, 21, 22, 23, 24, 25, 26, 27, 28, 29, 30, 31, 32, 33, 34, 35, 36, 37] rfl rfl rfl (by decide) rfl rfl (fun f9 ce q9 H locs ho9 hP hD hS hc9 hv9 hf9 => by cases ho9) (fun ov w1 ho9 H locs hPD hS => ?_)
    cases ho9
    obtain ⟨hP, hD⟩ := hPD (wSys cI cD kk.1 g y0) rfl
    refine lv_aload_n hx hb dX6_undo_18 rfl (lv_at hl 0 rfl) ?_
    refine va_get (D := (dC, dI)) (ci := 4) (v := .ref ((fun i => g (11 + i)) 0)) (C := RX6) (T := TX6) (N := 6) hx hb hts inX6 hown hG.1 hP 0 rfl rfl 2 (by decide) (hts (.fieldLink RX6 22 "WokenDrive" "history" "LWokenDrive$History;") (List.mem_of_getElem? (i := 1) rfl)) (fun _ h9 => h9) rfl dX6_undo_19 ?_
    refine lv_aload_n hx hb dX6_undo_22 rfl (lv_at hl 0 rfl) ?_
    refine va_get (D := (dC, dI)) (ci := 4) (v := .ref ((fun i => g (1 + i)) 0)) (C := RX6) (T := TX6) (N := 6) hx hb hts inX6 hown hG.1 hP 0 rfl rfl 0 (by decide) (hts (.fieldLink RX6 10 "WokenDrive" "drive" "LWokenDrive$Drive;") (List.mem_of_getElem? (i := 3) rfl)) (fun _ h9 => h9) rfl dX6_undo_23 ?_
    obtain ⟨r2, hr2, hM⟩ := tbE hM
    refine wk_callM (ws' := (wSys cI cD kk.1 g (ss_drv_s (ss_his_s y0 r2.2.1) r2.2.2))) (va_runV (As := [.ref ((fun i => g (1 + i)) 0)]) (rest := []) ⟨hx, hb, hml, hown, hts⟩ (c_X4_restoreTo l dC dI cI cD cJ kk (fun i => g (11 + i)) (fun i => g (1 + i)) (ss_his y0) (ss_drv y0) _ hr2.symm H) (cwV 1 hts gX6_undo_X4_restoreTo rfl rfl rfl (by decide +kernel) ⟨Nat.le_of_ble_eq_true rfl, Nat.le_of_ble_eq_true rfl⟩) (wk_preV (ci := 3) (q0 := 11) hG hP hD [11, 12, 13, 14, 15, 16, 17, 18, 19, 20, 21, 22, 23, 24, 25, 26, 27, 28, 29, 30, 31, 32, 1, 2, 3, 4, 5] rfl rfl rfl rfl) rfl rfl hl.1 rfl (lv_room (Nat.le_of_ble_eq_true rfl)) dX6_undo_26 ⟨Nat.le_of_ble_eq_true rfl, Nat.le_of_ble_eq_true rfl⟩) hP hD hS hA [11, 12, 13, 14, 15, 16, 17, 18, 19, 20, 21, 22, 23, 24, 25, 26, 27, 28, 29, 30, 31, 32, 1, 2, 3, 4, 5] [0, 6, 7, 8, 9, 10, 33, 34, 35, 36, 37] [0, 33, 34, 35, 36, 37, 1, 2, 3, 4, 5, 11, 12, 13, 14, 15, 16, 17, 18, 19, 20, 21, 22, 23, 24, 25, 26, 27, 28, 29, 30, 31, 32, 6, 7, 8, 9, 10] rfl rfl rfl (by decide) rfl rfl (fun H locs hP hD hS => ?_)
    replace hM := Option.some.inj hM
    subst hM
    exact wk_retXi hx hb hr hlocks hQ rfl rfl hP hD hS (Nat.le_of_ble_eq_true rfl) (Nat.le_of_ble_eq_true rfl) dX6_undo_29
  unfold M_X6_undo at hM
  refine lv_aload_n hx hb dX6_undo_0 rfl (lv_at hl 0 rfl) ?_
  refine va_get (D := (dC, dI)) (ci := 4) (v := .ref ((fun i => g (11 + i)) 0)) (C := RX6) (T := TX6) (N := 6) hx hb hts inX6 hown hG.1 hP 0 rfl rfl 2 (by decide) (hts (.fieldLink RX6 22 "WokenDrive" "history" "LWokenDrive$History;") (List.mem_of_getElem? (i := 1) rfl)) (fun _ h9 => h9) rfl dX6_undo_1 ?_
  refine va_get (D := (dC, dI)) (ci := 3) (v := .int (hs_size (ss_his x))) (C := RX4) (T := TX4) (N := 3) hx hb hts inX4 hown hG.1 hP 11 rfl rfl 1 (by decide) (hts (.fieldLink RX6 188 "WokenDrive$History" "size" "I") (List.mem_of_getElem? (i := 2) rfl)) (fun _ h9 => h9) rfl dX6_undo_4 ?_
  refine lv_if_ne (tgt := 14) hx hb dX6_undo_7 (by decide) (fun c1 => ?_) (fun c1 => ?_)
  · replace hM := (if_neg c1).symm.trans hM
    refine lv_iconst (v := (0 : Int32)) hx hb dX6_undo_14 (by decide) ?_
    exact hB15 (0 : Int32) x H _ _ hM hP hD hS (lv_sub hl [0] rfl)
  · replace hM := (if_pos c1).symm.trans hM
    refine lv_iconst (v := (3 : Int32)) hx hb dX6_undo_10 (by decide) ?_
    refine lv_goto (tgt := 15) hx hb dX6_undo_11 (by decide) ?_
    exact hB15 (3 : Int32) x H _ _ hM hP hD hS (lv_sub hl [0] rfl)
