/-! PART 27: the public methods that may throw -/
set_option maxHeartbeats 4000000 in
set_option maxRecDepth 100000 in
theorem c_X6_orderOf (l : Launch) (hflags : l.stackTraces = false) (dC : Nat → ClassId) (dI : Nat → Nat → Nat) (cI cD cJ : ClassId) (kk : wAd) (g : Nat → Nat) (x : SS) (p1 : Int32) (p2 : Int32) (out : Int32 ⊕ (Int32)) (hM : M_X6_orderOf x p1 p2 = some out) : CX kk l yX6_orderOf wsX6_orderOf ({ frames := 7, cells := 2, slots := 12, locals := 102 } : Room) dC dI (wTys cI cD cJ) [.ref (g 0), .int p1, .int p2] (wSys cI cD kk.1 g x) (outX out (fun r => (some (.int r), (wSys cI cD kk.1 g x)))) 2 12 := by
  refine wk_enterX (cc := cX6_orderOf) (maxL := 3) (ret := (some .int)) (by decide) rfl (Nat.le_of_ble_eq_true rfl) ?_
  intro p e s m below meth c A Q ls hB hno hT hA hP hD hQ hl
  obtain ⟨hx, hb, hml, hr, hts, hown, hname, hlocks, hG⟩ := hB
  have hown : s.vm.findClass RX6 = some m.cls := hown
  have hS : va_S A s.heap s.heap [] := va_S.rf
  have hl : lv_has ls 3 [(0, .ref (g 0)), (1, .int p1), (2, .int p2)] := hl
  have inX6 : ∀ w ∈ wsX60, w ∈ wsX6_orderOf := fun _ h => List.mem_cons_of_mem _ (List.mem_append_left _ (List.mem_append_left _ (List.mem_append_left _ (List.mem_append_left _ (List.mem_append_right _ h)))))
  obtain ⟨H, hH⟩ : ∃ z, z = s.heap := ⟨_, rfl⟩
  have hP : va_P (dC, dI) vwCl (wSys cI cD kk.1 g x) H := by rw [hH]; exact hP
  have hS : va_S A s.heap H [] := by rw [hH]; exact hS
  refine wk_at hH ?_
  generalize ([] : List Loc) = locs at hS ⊢
  unfold M_X6_orderOf at hM
  refine lv_aload_n hx hb dX6_orderOf_0 rfl (lv_at hl 0 rfl) ?_
  refine va_get (D := (dC, dI)) (ci := 4) (v := .ref ((fun i => g (1 + i)) 0)) (C := RX6) (T := TX6) (N := 6) hx hb hts inX6 hown hG.1 hP 0 rfl rfl 0 (by decide) (hts (.fieldLink RX6 10 "WokenDrive" "drive" "LWokenDrive$Drive;") (List.mem_of_getElem? (i := 1) rfl)) (fun _ h9 => h9) rfl dX6_orderOf_1 ?_
  refine lv_iload_n hx hb dX6_orderOf_4 rfl (lv_at hl 1 rfl) ?_
  refine wk_callP (va_runV (As := [.int p1]) (rest := []) ⟨hx, hb, hml, hown, hts⟩ (c_X3_faultOfOrder l dC dI cI cD cJ kk (fun i => g (1 + i)) (ss_drv x) p1 _ rfl H) (cwV 1 hts gX6_orderOf_X3_faultOfOrder rfl rfl rfl (by decide +kernel) ⟨Nat.le_of_ble_eq_true rfl, Nat.le_of_ble_eq_true rfl⟩) (wk_preV (ci := 2) (q0 := 1) hG hP hD [1, 2, 3, 4, 5] rfl rfl rfl rfl) rfl rfl hl.1 rfl (lv_room (Nat.le_of_ble_eq_true rfl)) dX6_orderOf_5 ⟨Nat.le_of_ble_eq_true rfl, Nat.le_of_ble_eq_true rfl⟩) hS (fun locs hS => ?_)
  by_cases c1 : rfs (M_X3_faultOfOrder (ss_drv x) p1) = true
  · replace hM := (if_pos c1).symm.trans hM
    refine wk_callX (vx_runS (As := [.int (M_X3_faultOfOrder (ss_drv x) p1)]) (rest := []) ⟨hx, hb, hml, hown, hts⟩ (c_X6_refuse l hflags dC dI cI cD cJ kk (M_X3_faultOfOrder (ss_drv x) p1) _ (if_pos c1).symm H) (va_cwS 1 hts gX6_orderOf_X6_refuse rfl rfl rfl (by decide +kernel) ⟨Nat.le_of_ble_eq_true rfl, Nat.le_of_ble_eq_true rfl⟩) (wk_preST hG hP hD hT hS [] rfl rfl (va_free hD hS hA [] rfl)) rfl rfl hl.1 rfl (lv_room (Nat.le_of_ble_eq_true rfl)) dX6_orderOf_8 ⟨Nat.le_of_ble_eq_true rfl, Nat.le_of_ble_eq_true rfl⟩) hP hD hS hA [] [0, 1, 2, 3, 4, 5, 6, 7, 8, 9, 10, 11, 12, 13, 14, 15, 16, 17, 18, 19, 20, 21, 22, 23, 24, 25, 26, 27, 28, 29, 30, 31, 32, 33, 34, 35, 36, 37] [0, 1, 2, 3, 4, 5, 6, 7, 8, 9, 10, 11, 12, 13, 14, 15, 16, 17, 18, 19, 20, 21, 22, 23, 24, 25, 26, 27, 28, 29, 30, 31, 32, 33, 34, 35, 36, 37] rfl rfl rfl (by decide) rfl rfl (fun f9 ce q9 H locs ho9 hP hD hS hc9 hv9 hf9 => ?_) (fun ov w1 ho9 => by cases ho9)
    cases ho9
    replace hM := Option.some.inj hM
    subst hM
    exact wk_outX hno hlocks hQ rfl hP hD hS (Nat.le_of_ble_eq_true rfl) (Nat.le_of_ble_eq_true rfl) hc9 hv9 hf9
  replace hM := (if_neg c1).symm.trans hM
  refine wk_callX (vx_runS (As := [.int (M_X3_faultOfOrder (ss_drv x) p1)]) (rest := []) ⟨hx, hb, hml, hown, hts⟩ (c_X6_refuse l hflags dC dI cI cD cJ kk (M_X3_faultOfOrder (ss_drv x) p1) _ (if_neg c1).symm H) (va_cwS 1 hts gX6_orderOf_X6_refuse rfl rfl rfl (by decide +kernel) ⟨Nat.le_of_ble_eq_true rfl, Nat.le_of_ble_eq_true rfl⟩) (wk_preST hG hP hD hT hS [] rfl rfl (va_free hD hS hA [] rfl)) rfl rfl hl.1 rfl (lv_room (Nat.le_of_ble_eq_true rfl)) dX6_orderOf_8 ⟨Nat.le_of_ble_eq_true rfl, Nat.le_of_ble_eq_true rfl⟩) hP hD hS hA [] [0, 1, 2, 3, 4, 5, 6, 7, 8, 9, 10, 11, 12, 13, 14, 15, 16, 17, 18, 19, 20, 21, 22, 23, 24, 25, 26, 27, 28, 29, 30, 31, 32, 33, 34, 35, 36, 37] [0, 1, 2, 3, 4, 5, 6, 7, 8, 9, 10, 11, 12, 13, 14, 15, 16, 17, 18, 19, 20, 21, 22, 23, 24, 25, 26, 27, 28, 29, 30, 31, 32, 33, 34, 35, 36, 37] rfl rfl rfl (by decide) rfl rfl (fun f9 ce q9 H locs ho9 hP hD hS hc9 hv9 hf9 => by cases ho9) (fun ov w1 ho9 H locs hPD hS => ?_)
  cases ho9
  obtain ⟨hP, hD⟩ := hPD (wSys cI cD kk.1 g x) rfl
  refine lv_iload_n hx hb dX6_orderOf_11 rfl (lv_at hl 2 rfl) ?_
  refine lv_iconst (v := (0 : Int32)) hx hb dX6_orderOf_12 (by decide) ?_
  refine lv_bipush (v := (9 : Int32)) hx hb dX6_orderOf_13 (by decide) ?_
  refine wk_callP (va_runS (As := [.int p2, .int (0 : Int32), .int (9 : Int32)]) (rest := []) ⟨hx, hb, hml, hown, hts⟩ (c_X6_faultOfRange l dC dI cI cD cJ kk  p2 (0 : Int32) (9 : Int32) _ rfl H) (va_cwS 3 hts gX6_orderOf_X6_faultOfRange rfl rfl rfl (by decide +kernel) ⟨Nat.le_of_ble_eq_true rfl, Nat.le_of_ble_eq_true rfl⟩) (wk_preS hG hP hD [] rfl rfl) rfl rfl hl.1 rfl (lv_room (Nat.le_of_ble_eq_true rfl)) dX6_orderOf_15 ⟨Nat.le_of_ble_eq_true rfl, Nat.le_of_ble_eq_true rfl⟩) hS (fun locs hS => ?_)
  by_cases c2 : rfs (M_X6_faultOfRange p2 (0 : Int32) (9 : Int32)) = true
  · replace hM := (if_pos c2).symm.trans hM
    refine wk_callX (vx_runS (As := [.int (M_X6_faultOfRange p2 (0 : Int32) (9 : Int32))]) (rest := []) ⟨hx, hb, hml, hown, hts⟩ (c_X6_refuse l hflags dC dI cI cD cJ kk (M_X6_faultOfRange p2 (0 : Int32) (9 : Int32)) _ (if_pos c2).symm H) (va_cwS 1 hts gX6_orderOf_X6_refuse rfl rfl rfl (by decide +kernel) ⟨Nat.le_of_ble_eq_true rfl, Nat.le_of_ble_eq_true rfl⟩) (wk_preST hG hP hD hT hS [] rfl rfl (va_free hD hS hA [] rfl)) rfl rfl hl.1 rfl (lv_room (Nat.le_of_ble_eq_true rfl)) dX6_orderOf_18 ⟨Nat.le_of_ble_eq_true rfl, Nat.le_of_ble_eq_true rfl⟩) hP hD hS hA [] [0, 1, 2, 3, 4, 5, 6, 7, 8, 9, 10, 11, 12, 13, 14, 15, 16, 17, 18, 19, 20, 21, 22, 23, 24, 25, 26, 27, 28, 29, 30, 31, 32, 33, 34, 35, 36, 37] [0, 1, 2, 3, 4, 5, 6, 7, 8, 9, 10, 11, 12, 13, 14, 15, 16, 17, 18, 19, 20, 21, 22, 23, 24, 25, 26, 27, 28, 29, 30, 31, 32, 33, 34, 35, 36, 37] rfl rfl rfl (by decide) rfl rfl (fun f9 ce q9 H locs ho9 hP hD hS hc9 hv9 hf9 => ?_) (fun ov w1 ho9 => by cases ho9)
    cases ho9
    replace hM := Option.some.inj hM
    subst hM
    exact wk_outX hno hlocks hQ rfl hP hD hS (Nat.le_of_ble_eq_true rfl) (Nat.le_of_ble_eq_true rfl) hc9 hv9 hf9
  replace hM := (if_neg c2).symm.trans hM
  refine wk_callX (vx_runS (As := [.int (M_X6_faultOfRange p2 (0 : Int32) (9 : Int32))]) (rest := []) ⟨hx, hb, hml, hown, hts⟩ (c_X6_refuse l hflags dC dI cI cD cJ kk (M_X6_faultOfRange p2 (0 : Int32) (9 : Int32)) _ (if_neg c2).symm H) (va_cwS 1 hts gX6_orderOf_X6_refuse rfl rfl rfl (by decide +kernel) ⟨Nat.le_of_ble_eq_true rfl, Nat.le_of_ble_eq_true rfl⟩) (wk_preST hG hP hD hT hS [] rfl rfl (va_free hD hS hA [] rfl)) rfl rfl hl.1 rfl (lv_room (Nat.le_of_ble_eq_true rfl)) dX6_orderOf_18 ⟨Nat.le_of_ble_eq_true rfl, Nat.le_of_ble_eq_true rfl⟩) hP hD hS hA [] [0, 1, 2, 3, 4, 5, 6, 7, 8, 9, 10, 11, 12, 13, 14, 15, 16, 17, 18, 19, 20, 21, 22, 23, 24, 25, 26, 27, 28, 29, 30, 31, 32, 33, 34, 35, 36, 37] [0, 1, 2, 3, 4, 5, 6, 7, 8, 9, 10, 11, 12, 13, 14, 15, 16, 17, 18, 19, 20, 21, 22, 23, 24, 25, 26, 27, 28, 29, 30, 31, 32, 33, 34, 35, 36, 37] rfl rfl rfl (by decide) rfl rfl (fun f9 ce q9 H locs ho9 hP hD hS hc9 hv9 hf9 => by cases ho9) (fun ov w1 ho9 H locs hPD hS => ?_)
  cases ho9
  obtain ⟨hP, hD⟩ := hPD (wSys cI cD kk.1 g x) rfl
  refine lv_aload_n hx hb dX6_orderOf_21 rfl (lv_at hl 0 rfl) ?_
  refine va_get (D := (dC, dI)) (ci := 4) (v := .ref ((fun i => g (1 + i)) 0)) (C := RX6) (T := TX6) (N := 6) hx hb hts inX6 hown hG.1 hP 0 rfl rfl 0 (by decide) (hts (.fieldLink RX6 10 "WokenDrive" "drive" "LWokenDrive$Drive;") (List.mem_of_getElem? (i := 1) rfl)) (fun _ h9 => h9) rfl dX6_orderOf_22 ?_
  refine lv_iload_n hx hb dX6_orderOf_25 rfl (lv_at hl 1 rfl) ?_
  refine lv_iload_n hx hb dX6_orderOf_26 rfl (lv_at hl 2 rfl) ?_
  refine wk_callP (va_runV (As := [.int p1, .int p2]) (rest := []) ⟨hx, hb, hml, hown, hts⟩ (c_X3_fact l dC dI cI cD cJ kk (fun i => g (1 + i)) (ss_drv x) p1 p2 _ rfl H) (cwV 2 hts gX6_orderOf_X3_fact rfl rfl rfl (by decide +kernel) ⟨Nat.le_of_ble_eq_true rfl, Nat.le_of_ble_eq_true rfl⟩) (wk_preV (ci := 2) (q0 := 1) hG hP hD [1, 2, 3, 4, 5] rfl rfl rfl rfl) rfl rfl hl.1 rfl (lv_room (Nat.le_of_ble_eq_true rfl)) dX6_orderOf_27 ⟨Nat.le_of_ble_eq_true rfl, Nat.le_of_ble_eq_true rfl⟩) hS (fun locs hS => ?_)
  replace hM := Option.some.inj hM
  subst hM
  exact wk_retXi hx hb hr hlocks hQ rfl rfl hP hD hS (Nat.le_of_ble_eq_true rfl) (Nat.le_of_ble_eq_true rfl) dX6_orderOf_30
