/-! PART 27q: the public methods that ask, where they do not throw -/
set_option maxHeartbeats 4000000 in
set_option maxRecDepth 100000 in
theorem c_X6_block (l : Launch) (dC : Nat → ClassId) (dI : Nat → Nat → Nat) (cI cD cJ : ClassId) (kk : wAd) (g : Nat → Nat) (x : SS) (p1 : Int32) (out : Int32) (hM : M_X6_block x p1 = some out) : CP l yX6_block wsX6_block ({ frames := 2, cells := 0, slots := 0, locals := 42 } : Room) dC dI (wTys cI cD cJ) [.ref (g 0), .int p1] (wSys cI cD kk.1 g x) (some (.int out)) := by
  refine wk_enterP (cc := cX6_block) (maxL := 2) (ret := (some .int)) (by decide) rfl (Nat.le_of_ble_eq_true rfl) ?_
  intro p e s m below meth c A Q ls hB hP hD hA hQ hl
  obtain ⟨hx, hb, hml, hr, hts, hown, hname, hlocks, hG⟩ := hB
  have hown : s.vm.findClass RX6 = some m.cls := hown
  have hS : va_S A s.heap s.heap [] := va_S.rf
  have hl : lv_has ls 2 [(0, .ref (g 0)), (1, .int p1)] := hl
  have inX3 : ∀ w ∈ wsX30, w ∈ wsX6_block := fun _ h => List.mem_cons_of_mem _ (List.mem_append_left _ (List.mem_append_left _ (List.mem_append_left _ (List.mem_append_right _ h))))
  have inX6 : ∀ w ∈ wsX60, w ∈ wsX6_block := fun _ h => List.mem_cons_of_mem _ (List.mem_append_left _ (List.mem_append_left _ (List.mem_append_left _ (List.mem_append_left _ (List.mem_append_right _ h)))))
  generalize ([] : List Loc) = locs at hS ⊢
  unfold M_X6_block at hM
  refine lv_iload_n hx hb dX6_block_0 rfl (lv_at hl 1 rfl) ?_
  refine wk_callP (va_runS (As := [.int p1]) (rest := []) ⟨hx, hb, hml, hown, hts⟩ (c_X6_faultOfBlock l dC dI cI cD cJ kk  p1 _ rfl s.heap) (va_cwS 1 hts gX6_block_X6_faultOfBlock rfl rfl rfl (by decide +kernel) ⟨Nat.le_of_ble_eq_true rfl, Nat.le_of_ble_eq_true rfl⟩) (wk_preS hG hP hD [] rfl rfl) rfl rfl hl.1 rfl (lv_room (Nat.le_of_ble_eq_true rfl)) dX6_block_1 ⟨Nat.le_of_ble_eq_true rfl, Nat.le_of_ble_eq_true rfl⟩) hS (fun locs hS => ?_)
  by_cases c1 : rfs (M_X6_faultOfBlock p1) = true
  · replace hM := (if_pos c1).symm.trans hM
    cases hM
  replace hM := (if_neg c1).symm.trans hM
  refine wk_callP (va_runS (As := [.int (M_X6_faultOfBlock p1)]) (rest := []) ⟨hx, hb, hml, hown, hts⟩ (c_X6_refuse0 l dC dI cI cD cJ kk (M_X6_faultOfBlock p1) c1 s.heap) (va_cwS 1 hts gX6_block_X6_refuse rfl rfl rfl (by decide +kernel) ⟨Nat.le_of_ble_eq_true rfl, Nat.le_of_ble_eq_true rfl⟩) (wk_preS hG hP hD [] rfl rfl) rfl rfl hl.1 rfl (lv_room (Nat.le_of_ble_eq_true rfl)) dX6_block_4 ⟨Nat.le_of_ble_eq_true rfl, Nat.le_of_ble_eq_true rfl⟩) hS (fun locs hS => ?_)
  refine lv_aload_n hx hb dX6_block_7 rfl (lv_at hl 0 rfl) ?_
  refine va_get (D := (dC, dI)) (ci := 4) (v := .ref ((fun i => g (1 + i)) 0)) (C := RX6) (T := TX6) (N := 6) hx hb hts inX6 hown hG.1 hP 0 rfl rfl 0 (by decide) (hts (.fieldLink RX6 10 "WokenDrive" "drive" "LWokenDrive$Drive;") (List.mem_of_getElem? (i := 1) rfl)) (fun _ h9 => h9) rfl dX6_block_8 ?_
  refine va_get (D := (dC, dI)) (ci := 2) (v := .ref ((fun i => g (1 + i)) 1)) (C := RX3) (T := TX3) (N := 8) hx hb hts inX3 hown hG.1 hP 1 rfl rfl 0 (by decide) (hts (.fieldLink RX6 108 "WokenDrive$Drive" "values" "[I") (List.mem_of_getElem? (i := 2) rfl)) (fun _ h9 => h9) rfl dX6_block_11 ?_
  refine lv_iload_n hx hb dX6_block_14 rfl (lv_at hl 1 rfl) ?_
  refine wk_callP (va_runS (As := [.ref ((fun i => g (1 + i)) 1), .int p1]) (rest := []) ⟨hx, hb, hml, hown, hts⟩ (c_X6_at l dC dI cI cD cJ kk ((fun i => g (1 + i)) 1) 16 (ds_val (ss_drv x)) p1 (by decide) _ rfl s.heap) (va_cwS 2 hts gX6_block_X6_at rfl rfl rfl (by decide +kernel) ⟨Nat.le_of_ble_eq_true rfl, Nat.le_of_ble_eq_true rfl⟩) (wk_preS hG hP hD [2] rfl rfl) rfl rfl hl.1 rfl (lv_room (Nat.le_of_ble_eq_true rfl)) dX6_block_15 ⟨Nat.le_of_ble_eq_true rfl, Nat.le_of_ble_eq_true rfl⟩) hS (fun locs hS => ?_)
  replace hM := Option.some.inj hM
  subst hM
  exact wk_retPi hx hb hr hlocks hQ rfl rfl hS dX6_block_18
set_option maxHeartbeats 4000000 in
set_option maxRecDepth 100000 in
theorem c_X6_orderOf (l : Launch) (dC : Nat → ClassId) (dI : Nat → Nat → Nat) (cI cD cJ : ClassId) (kk : wAd) (g : Nat → Nat) (x : SS) (p1 : Int32) (p2 : Int32) (out : Int32) (hM : M_X6_orderOf x p1 p2 = some out) : CP l yX6_orderOf wsX6_orderOf ({ frames := 2, cells := 0, slots := 0, locals := 44 } : Room) dC dI (wTys cI cD cJ) [.ref (g 0), .int p1, .int p2] (wSys cI cD kk.1 g x) (some (.int out)) := by
  refine wk_enterP (cc := cX6_orderOf) (maxL := 3) (ret := (some .int)) (by decide) rfl (Nat.le_of_ble_eq_true rfl) ?_
  intro p e s m below meth c A Q ls hB hP hD hA hQ hl
  obtain ⟨hx, hb, hml, hr, hts, hown, hname, hlocks, hG⟩ := hB
  have hown : s.vm.findClass RX6 = some m.cls := hown
  have hS : va_S A s.heap s.heap [] := va_S.rf
  have hl : lv_has ls 3 [(0, .ref (g 0)), (1, .int p1), (2, .int p2)] := hl
  have inX6 : ∀ w ∈ wsX60, w ∈ wsX6_orderOf := fun _ h => List.mem_cons_of_mem _ (List.mem_append_left _ (List.mem_append_left _ (List.mem_append_left _ (List.mem_append_left _ (List.mem_append_right _ h)))))
  generalize ([] : List Loc) = locs at hS ⊢
  unfold M_X6_orderOf at hM
  refine lv_aload_n hx hb dX6_orderOf_0 rfl (lv_at hl 0 rfl) ?_
  refine va_get (D := (dC, dI)) (ci := 4) (v := .ref ((fun i => g (1 + i)) 0)) (C := RX6) (T := TX6) (N := 6) hx hb hts inX6 hown hG.1 hP 0 rfl rfl 0 (by decide) (hts (.fieldLink RX6 10 "WokenDrive" "drive" "LWokenDrive$Drive;") (List.mem_of_getElem? (i := 1) rfl)) (fun _ h9 => h9) rfl dX6_orderOf_1 ?_
  refine lv_iload_n hx hb dX6_orderOf_4 rfl (lv_at hl 1 rfl) ?_
  refine wk_callP (va_runV (As := [.int p1]) (rest := []) ⟨hx, hb, hml, hown, hts⟩ (c_X3_faultOfOrder l dC dI cI cD cJ kk (fun i => g (1 + i)) (ss_drv x) p1 _ rfl s.heap) (cwV 1 hts gX6_orderOf_X3_faultOfOrder rfl rfl rfl (by decide +kernel) ⟨Nat.le_of_ble_eq_true rfl, Nat.le_of_ble_eq_true rfl⟩) (wk_preV (ci := 2) (q0 := 1) hG hP hD [1, 2, 3, 4, 5] rfl rfl rfl rfl) rfl rfl hl.1 rfl (lv_room (Nat.le_of_ble_eq_true rfl)) dX6_orderOf_5 ⟨Nat.le_of_ble_eq_true rfl, Nat.le_of_ble_eq_true rfl⟩) hS (fun locs hS => ?_)
  by_cases c1 : rfs (M_X3_faultOfOrder (ss_drv x) p1) = true
  · replace hM := (if_pos c1).symm.trans hM
    cases hM
  replace hM := (if_neg c1).symm.trans hM
  refine wk_callP (va_runS (As := [.int (M_X3_faultOfOrder (ss_drv x) p1)]) (rest := []) ⟨hx, hb, hml, hown, hts⟩ (c_X6_refuse0 l dC dI cI cD cJ kk (M_X3_faultOfOrder (ss_drv x) p1) c1 s.heap) (va_cwS 1 hts gX6_orderOf_X6_refuse rfl rfl rfl (by decide +kernel) ⟨Nat.le_of_ble_eq_true rfl, Nat.le_of_ble_eq_true rfl⟩) (wk_preS hG hP hD [] rfl rfl) rfl rfl hl.1 rfl (lv_room (Nat.le_of_ble_eq_true rfl)) dX6_orderOf_8 ⟨Nat.le_of_ble_eq_true rfl, Nat.le_of_ble_eq_true rfl⟩) hS (fun locs hS => ?_)
  refine lv_iload_n hx hb dX6_orderOf_11 rfl (lv_at hl 2 rfl) ?_
  refine lv_iconst (v := (0 : Int32)) hx hb dX6_orderOf_12 (by decide) ?_
  refine lv_bipush (v := (9 : Int32)) hx hb dX6_orderOf_13 (by decide) ?_
  refine wk_callP (va_runS (As := [.int p2, .int (0 : Int32), .int (9 : Int32)]) (rest := []) ⟨hx, hb, hml, hown, hts⟩ (c_X6_faultOfRange l dC dI cI cD cJ kk  p2 (0 : Int32) (9 : Int32) _ rfl s.heap) (va_cwS 3 hts gX6_orderOf_X6_faultOfRange rfl rfl rfl (by decide +kernel) ⟨Nat.le_of_ble_eq_true rfl, Nat.le_of_ble_eq_true rfl⟩) (wk_preS hG hP hD [] rfl rfl) rfl rfl hl.1 rfl (lv_room (Nat.le_of_ble_eq_true rfl)) dX6_orderOf_15 ⟨Nat.le_of_ble_eq_true rfl, Nat.le_of_ble_eq_true rfl⟩) hS (fun locs hS => ?_)
  by_cases c2 : rfs (M_X6_faultOfRange p2 (0 : Int32) (9 : Int32)) = true
  · replace hM := (if_pos c2).symm.trans hM
    cases hM
  replace hM := (if_neg c2).symm.trans hM
  refine wk_callP (va_runS (As := [.int (M_X6_faultOfRange p2 (0 : Int32) (9 : Int32))]) (rest := []) ⟨hx, hb, hml, hown, hts⟩ (c_X6_refuse0 l dC dI cI cD cJ kk (M_X6_faultOfRange p2 (0 : Int32) (9 : Int32)) c2 s.heap) (va_cwS 1 hts gX6_orderOf_X6_refuse rfl rfl rfl (by decide +kernel) ⟨Nat.le_of_ble_eq_true rfl, Nat.le_of_ble_eq_true rfl⟩) (wk_preS hG hP hD [] rfl rfl) rfl rfl hl.1 rfl (lv_room (Nat.le_of_ble_eq_true rfl)) dX6_orderOf_18 ⟨Nat.le_of_ble_eq_true rfl, Nat.le_of_ble_eq_true rfl⟩) hS (fun locs hS => ?_)
  refine lv_aload_n hx hb dX6_orderOf_21 rfl (lv_at hl 0 rfl) ?_
  refine va_get (D := (dC, dI)) (ci := 4) (v := .ref ((fun i => g (1 + i)) 0)) (C := RX6) (T := TX6) (N := 6) hx hb hts inX6 hown hG.1 hP 0 rfl rfl 0 (by decide) (hts (.fieldLink RX6 10 "WokenDrive" "drive" "LWokenDrive$Drive;") (List.mem_of_getElem? (i := 1) rfl)) (fun _ h9 => h9) rfl dX6_orderOf_22 ?_
  refine lv_iload_n hx hb dX6_orderOf_25 rfl (lv_at hl 1 rfl) ?_
  refine lv_iload_n hx hb dX6_orderOf_26 rfl (lv_at hl 2 rfl) ?_
  refine wk_callP (va_runV (As := [.int p1, .int p2]) (rest := []) ⟨hx, hb, hml, hown, hts⟩ (c_X3_fact l dC dI cI cD cJ kk (fun i => g (1 + i)) (ss_drv x) p1 p2 _ rfl s.heap) (cwV 2 hts gX6_orderOf_X3_fact rfl rfl rfl (by decide +kernel) ⟨Nat.le_of_ble_eq_true rfl, Nat.le_of_ble_eq_true rfl⟩) (wk_preV (ci := 2) (q0 := 1) hG hP hD [1, 2, 3, 4, 5] rfl rfl rfl rfl) rfl rfl hl.1 rfl (lv_room (Nat.le_of_ble_eq_true rfl)) dX6_orderOf_27 ⟨Nat.le_of_ble_eq_true rfl, Nat.le_of_ble_eq_true rfl⟩) hS (fun locs hS => ?_)
  replace hM := Option.some.inj hM
  subst hM
  exact wk_retPi hx hb hr hlocks hQ rfl rfl hS dX6_orderOf_30
set_option maxHeartbeats 4000000 in
set_option maxRecDepth 100000 in
theorem c_X6_orderWith (l : Launch) (dC : Nat → ClassId) (dI : Nat → Nat → Nat) (cI cD cJ : ClassId) (kk : wAd) (g : Nat → Nat) (x : SS) (p1 : Int32) (p2 : Int32) (out : Int32) (hM : M_X6_orderWith x p1 p2 = some out) : CP l yX6_orderWith wsX6_orderWith ({ frames := 2, cells := 0, slots := 0, locals := 46 } : Room) dC dI (wTys cI cD cJ) [.ref (g 0), .int p1, .int p2] (wSys cI cD kk.1 g x) (some (.int out)) := by
  refine wk_enterP (cc := cX6_orderWith) (maxL := 3) (ret := (some .int)) (by decide) rfl (Nat.le_of_ble_eq_true rfl) ?_
  intro p e s m below meth c A Q ls hB hP hD hA hQ hl
  obtain ⟨hx, hb, hml, hr, hts, hown, hname, hlocks, hG⟩ := hB
  have hown : s.vm.findClass RX6 = some m.cls := hown
  have hS : va_S A s.heap s.heap [] := va_S.rf
  have hl : lv_has ls 3 [(0, .ref (g 0)), (1, .int p1), (2, .int p2)] := hl
  have inX6 : ∀ w ∈ wsX60, w ∈ wsX6_orderWith := fun _ h => List.mem_cons_of_mem _ (List.mem_append_left _ (List.mem_append_left _ (List.mem_append_left _ (List.mem_append_left _ (List.mem_append_right _ h)))))
  generalize ([] : List Loc) = locs at hS ⊢
  unfold M_X6_orderWith at hM
  refine lv_iload_n hx hb dX6_orderWith_0 rfl (lv_at hl 1 rfl) ?_
  refine lv_iload_n hx hb dX6_orderWith_1 rfl (lv_at hl 2 rfl) ?_
  refine wk_callP (va_runS (As := [.int p1, .int p2]) (rest := []) ⟨hx, hb, hml, hown, hts⟩ (c_X6_faultOfTag l dC dI cI cD cJ kk  p1 p2 _ rfl s.heap) (va_cwS 2 hts gX6_orderWith_X6_faultOfTag rfl rfl rfl (by decide +kernel) ⟨Nat.le_of_ble_eq_true rfl, Nat.le_of_ble_eq_true rfl⟩) (wk_preS hG hP hD [] rfl rfl) rfl rfl hl.1 rfl (lv_room (Nat.le_of_ble_eq_true rfl)) dX6_orderWith_2 ⟨Nat.le_of_ble_eq_true rfl, Nat.le_of_ble_eq_true rfl⟩) hS (fun locs hS => ?_)
  by_cases c1 : rfs (M_X6_faultOfTag p1 p2) = true
  · replace hM := (if_pos c1).symm.trans hM
    cases hM
  replace hM := (if_neg c1).symm.trans hM
  refine wk_callP (va_runS (As := [.int (M_X6_faultOfTag p1 p2)]) (rest := []) ⟨hx, hb, hml, hown, hts⟩ (c_X6_refuse0 l dC dI cI cD cJ kk (M_X6_faultOfTag p1 p2) c1 s.heap) (va_cwS 1 hts gX6_orderWith_X6_refuse rfl rfl rfl (by decide +kernel) ⟨Nat.le_of_ble_eq_true rfl, Nat.le_of_ble_eq_true rfl⟩) (wk_preS hG hP hD [] rfl rfl) rfl rfl hl.1 rfl (lv_room (Nat.le_of_ble_eq_true rfl)) dX6_orderWith_5 ⟨Nat.le_of_ble_eq_true rfl, Nat.le_of_ble_eq_true rfl⟩) hS (fun locs hS => ?_)
  refine lv_aload_n hx hb dX6_orderWith_8 rfl (lv_at hl 0 rfl) ?_
  refine va_get (D := (dC, dI)) (ci := 4) (v := .ref ((fun i => g (1 + i)) 0)) (C := RX6) (T := TX6) (N := 6) hx hb hts inX6 hown hG.1 hP 0 rfl rfl 0 (by decide) (hts (.fieldLink RX6 10 "WokenDrive" "drive" "LWokenDrive$Drive;") (List.mem_of_getElem? (i := 1) rfl)) (fun _ h9 => h9) rfl dX6_orderWith_9 ?_
  refine lv_iload_n hx hb dX6_orderWith_12 rfl (lv_at hl 1 rfl) ?_
  refine lv_iload_n hx hb dX6_orderWith_13 rfl (lv_at hl 2 rfl) ?_
  obtain ⟨r2, hr2, hM⟩ := ob hM
  refine wk_callP (va_runV (As := [.int p1, .int p2]) (rest := []) ⟨hx, hb, hml, hown, hts⟩ (c_X3_latestWith l dC dI cI cD cJ kk (fun i => g (1 + i)) (ss_drv x) p1 p2 _ hr2 s.heap) (cwV 2 hts gX6_orderWith_X3_latestWith rfl rfl rfl (by decide +kernel) ⟨Nat.le_of_ble_eq_true rfl, Nat.le_of_ble_eq_true rfl⟩) (wk_preV (ci := 2) (q0 := 1) hG hP hD [1, 2, 3, 4, 5] rfl rfl rfl rfl) rfl rfl hl.1 rfl (lv_room (Nat.le_of_ble_eq_true rfl)) dX6_orderWith_14 ⟨Nat.le_of_ble_eq_true rfl, Nat.le_of_ble_eq_true rfl⟩) hS (fun locs hS => ?_)
  replace hM := Option.some.inj hM
  subst hM
  exact wk_retPi hx hb hr hlocks hQ rfl rfl hS dX6_orderWith_17
set_option maxHeartbeats 4000000 in
set_option maxRecDepth 100000 in
theorem c_X6_controller (l : Launch) (dC : Nat → ClassId) (dI : Nat → Nat → Nat) (cI cD cJ : ClassId) (kk : wAd) (g : Nat → Nat) (x : SS) (p1 : Int32) (p2 : Int32) (out : Int32) (hM : M_X6_controller x p1 p2 = some out) : CP l yX6_controller wsX6_controller ({ frames := 4, cells := 0, slots := 0, locals := 90 } : Room) dC dI (wTys cI cD cJ) [.ref (g 0), .int p1, .int p2] (wSys cI cD kk.1 g x) (some (.int out)) := by
  refine wk_enterP (cc := cX6_controller) (maxL := 3) (ret := (some .int)) (by decide) rfl (Nat.le_of_ble_eq_true rfl) ?_
  intro p e s m below meth c A Q ls hB hP hD hA hQ hl
  obtain ⟨hx, hb, hml, hr, hts, hown, hname, hlocks, hG⟩ := hB
  have hown : s.vm.findClass RX6 = some m.cls := hown
  have hS : va_S A s.heap s.heap [] := va_S.rf
  have hl : lv_has ls 3 [(0, .ref (g 0)), (1, .int p1), (2, .int p2)] := hl
  have inX6 : ∀ w ∈ wsX60, w ∈ wsX6_controller := fun _ h => List.mem_cons_of_mem _ (List.mem_append_left _ (List.mem_append_left _ (List.mem_append_left _ (List.mem_append_left _ (List.mem_append_left _ (List.mem_append_right _ h))))))
  generalize ([] : List Loc) = locs at hS ⊢
  unfold M_X6_controller at hM
  refine lv_iload_n hx hb dX6_controller_0 rfl (lv_at hl 1 rfl) ?_
  refine wk_callP (va_runS (As := [.int p1]) (rest := []) ⟨hx, hb, hml, hown, hts⟩ (c_X6_faultOfController l dC dI cI cD cJ kk  p1 _ rfl s.heap) (va_cwS 1 hts gX6_controller_X6_faultOfController rfl rfl rfl (by decide +kernel) ⟨Nat.le_of_ble_eq_true rfl, Nat.le_of_ble_eq_true rfl⟩) (wk_preS hG hP hD [] rfl rfl) rfl rfl hl.1 rfl (lv_room (Nat.le_of_ble_eq_true rfl)) dX6_controller_1 ⟨Nat.le_of_ble_eq_true rfl, Nat.le_of_ble_eq_true rfl⟩) hS (fun locs hS => ?_)
  by_cases c1 : rfs (M_X6_faultOfController p1) = true
  · replace hM := (if_pos c1).symm.trans hM
    cases hM
  replace hM := (if_neg c1).symm.trans hM
  refine wk_callP (va_runS (As := [.int (M_X6_faultOfController p1)]) (rest := []) ⟨hx, hb, hml, hown, hts⟩ (c_X6_refuse0 l dC dI cI cD cJ kk (M_X6_faultOfController p1) c1 s.heap) (va_cwS 1 hts gX6_controller_X6_refuse rfl rfl rfl (by decide +kernel) ⟨Nat.le_of_ble_eq_true rfl, Nat.le_of_ble_eq_true rfl⟩) (wk_preS hG hP hD [] rfl rfl) rfl rfl hl.1 rfl (lv_room (Nat.le_of_ble_eq_true rfl)) dX6_controller_4 ⟨Nat.le_of_ble_eq_true rfl, Nat.le_of_ble_eq_true rfl⟩) hS (fun locs hS => ?_)
  refine lv_iload_n hx hb dX6_controller_7 rfl (lv_at hl 2 rfl) ?_
  refine lv_iconst (v := (0 : Int32)) hx hb dX6_controller_8 (by decide) ?_
  refine lv_bipush (v := (8 : Int32)) hx hb dX6_controller_9 (by decide) ?_
  refine wk_callP (va_runS (As := [.int p2, .int (0 : Int32), .int (8 : Int32)]) (rest := []) ⟨hx, hb, hml, hown, hts⟩ (c_X6_faultOfRange l dC dI cI cD cJ kk  p2 (0 : Int32) (8 : Int32) _ rfl s.heap) (va_cwS 3 hts gX6_controller_X6_faultOfRange rfl rfl rfl (by decide +kernel) ⟨Nat.le_of_ble_eq_true rfl, Nat.le_of_ble_eq_true rfl⟩) (wk_preS hG hP hD [] rfl rfl) rfl rfl hl.1 rfl (lv_room (Nat.le_of_ble_eq_true rfl)) dX6_controller_11 ⟨Nat.le_of_ble_eq_true rfl, Nat.le_of_ble_eq_true rfl⟩) hS (fun locs hS => ?_)
  by_cases c2 : rfs (M_X6_faultOfRange p2 (0 : Int32) (8 : Int32)) = true
  · replace hM := (if_pos c2).symm.trans hM
    cases hM
  replace hM := (if_neg c2).symm.trans hM
  refine wk_callP (va_runS (As := [.int (M_X6_faultOfRange p2 (0 : Int32) (8 : Int32))]) (rest := []) ⟨hx, hb, hml, hown, hts⟩ (c_X6_refuse0 l dC dI cI cD cJ kk (M_X6_faultOfRange p2 (0 : Int32) (8 : Int32)) c2 s.heap) (va_cwS 1 hts gX6_controller_X6_refuse rfl rfl rfl (by decide +kernel) ⟨Nat.le_of_ble_eq_true rfl, Nat.le_of_ble_eq_true rfl⟩) (wk_preS hG hP hD [] rfl rfl) rfl rfl hl.1 rfl (lv_room (Nat.le_of_ble_eq_true rfl)) dX6_controller_14 ⟨Nat.le_of_ble_eq_true rfl, Nat.le_of_ble_eq_true rfl⟩) hS (fun locs hS => ?_)
  refine lv_aload_n hx hb dX6_controller_17 rfl (lv_at hl 0 rfl) ?_
  refine va_get (D := (dC, dI)) (ci := 4) (v := .ref ((fun i => g (1 + i)) 0)) (C := RX6) (T := TX6) (N := 6) hx hb hts inX6 hown hG.1 hP 0 rfl rfl 0 (by decide) (hts (.fieldLink RX6 10 "WokenDrive" "drive" "LWokenDrive$Drive;") (List.mem_of_getElem? (i := 1) rfl)) (fun _ h9 => h9) rfl dX6_controller_18 ?_
  refine lv_iload_n hx hb dX6_controller_21 rfl (lv_at hl 1 rfl) ?_
  refine lv_iload_n hx hb dX6_controller_22 rfl (lv_at hl 2 rfl) ?_
  obtain ⟨r3, hr3, hM⟩ := ob hM
  refine wk_callP (va_runV (As := [.int p1, .int p2]) (rest := []) ⟨hx, hb, hml, hown, hts⟩ (c_X3_controllerFact l dC dI cI cD cJ kk (fun i => g (1 + i)) (ss_drv x) p1 p2 _ hr3 s.heap) (cwV 2 hts gX6_controller_X3_controllerFact rfl rfl rfl (by decide +kernel) ⟨Nat.le_of_ble_eq_true rfl, Nat.le_of_ble_eq_true rfl⟩) (wk_preV (ci := 2) (q0 := 1) hG hP hD [1, 2, 3, 4, 5] rfl rfl rfl rfl) rfl rfl hl.1 rfl (lv_room (Nat.le_of_ble_eq_true rfl)) dX6_controller_23 ⟨Nat.le_of_ble_eq_true rfl, Nat.le_of_ble_eq_true rfl⟩) hS (fun locs hS => ?_)
  replace hM := Option.some.inj hM
  subst hM
  exact wk_retPi hx hb hr hlocks hQ rfl rfl hS dX6_controller_26
set_option maxHeartbeats 4000000 in
set_option maxRecDepth 100000 in
theorem c_X6_mail (l : Launch) (dC : Nat → ClassId) (dI : Nat → Nat → Nat) (cI cD cJ : ClassId) (kk : wAd) (g : Nat → Nat) (x : SS) (p1 : Int32) (p2 : Int32) (out : Int32) (hM : M_X6_mail x p1 p2 = some out) : CP l yX6_mail wsX6_mail ({ frames := 2, cells := 0, slots := 0, locals := 45 } : Room) dC dI (wTys cI cD cJ) [.ref (g 0), .int p1, .int p2] (wSys cI cD kk.1 g x) (some (.int out)) := by
  refine wk_enterP (cc := cX6_mail) (maxL := 3) (ret := (some .int)) (by decide) rfl (Nat.le_of_ble_eq_true rfl) ?_
  intro p e s m below meth c A Q ls hB hP hD hA hQ hl
  obtain ⟨hx, hb, hml, hr, hts, hown, hname, hlocks, hG⟩ := hB
  have hown : s.vm.findClass RX6 = some m.cls := hown
  have hS : va_S A s.heap s.heap [] := va_S.rf
  have hl : lv_has ls 3 [(0, .ref (g 0)), (1, .int p1), (2, .int p2)] := hl
  have inX6 : ∀ w ∈ wsX60, w ∈ wsX6_mail := fun _ h => List.mem_cons_of_mem _ (List.mem_append_left _ (List.mem_append_left _ (List.mem_append_left _ (List.mem_append_left _ (List.mem_append_left _ (List.mem_append_right _ h))))))
  generalize ([] : List Loc) = locs at hS ⊢
  have hB16 : ∀ (w0 : Int32) (locs : List Loc) (ls : Array Slot), M_X6_mail_16 x p1 p2 w0 = some out → va_S A s.heap s.heap locs → lv_has ls 3 [(0, .ref (g 0)), (1, .int p1), (2, .int p2)] → W p l e ({ frames := 2, cells := 0, slots := 0, locals := 45 } : Room) s m ([.ref (g 0), .int p1, .int p2] : List Value).toArray below meth c s.heap locs 0 0 Q (F0 m 16 ls [.int w0]) := by
    intro w0 locs ls hM hS hl
    unfold M_X6_mail_16 at hM
    by_cases c1 : rfs w0 = true
    · replace hM := (if_pos c1).symm.trans hM
      cases hM
    replace hM := (if_neg c1).symm.trans hM
    refine wk_callP (va_runS (As := [.int w0]) (rest := []) ⟨hx, hb, hml, hown, hts⟩ (c_X6_refuse0 l dC dI cI cD cJ kk w0 c1 s.heap) (va_cwS 1 hts gX6_mail_X6_refuse rfl rfl rfl (by decide +kernel) ⟨Nat.le_of_ble_eq_true rfl, Nat.le_of_ble_eq_true rfl⟩) (wk_preS hG hP hD [] rfl rfl) rfl rfl hl.1 rfl (lv_room (Nat.le_of_ble_eq_true rfl)) dX6_mail_16 ⟨Nat.le_of_ble_eq_true rfl, Nat.le_of_ble_eq_true rfl⟩) hS (fun locs hS => ?_)
    refine lv_aload_n hx hb dX6_mail_19 rfl (lv_at hl 0 rfl) ?_
    refine va_get (D := (dC, dI)) (ci := 4) (v := .ref ((fun i => g (1 + i)) 0)) (C := RX6) (T := TX6) (N := 6) hx hb hts inX6 hown hG.1 hP 0 rfl rfl 0 (by decide) (hts (.fieldLink RX6 10 "WokenDrive" "drive" "LWokenDrive$Drive;") (List.mem_of_getElem? (i := 1) rfl)) (fun _ h9 => h9) rfl dX6_mail_20 ?_
    refine lv_iload_n hx hb dX6_mail_23 rfl (lv_at hl 1 rfl) ?_
    refine lv_iload_n hx hb dX6_mail_24 rfl (lv_at hl 2 rfl) ?_
    obtain ⟨r2, hr2, hM⟩ := ob hM
    refine wk_callP (va_runV (As := [.int p1, .int p2]) (rest := []) ⟨hx, hb, hml, hown, hts⟩ (c_X3_mailAt l dC dI cI cD cJ kk (fun i => g (1 + i)) (ss_drv x) p1 p2 _ hr2 s.heap) (cwV 2 hts gX6_mail_X3_mailAt rfl rfl rfl (by decide +kernel) ⟨Nat.le_of_ble_eq_true rfl, Nat.le_of_ble_eq_true rfl⟩) (wk_preV (ci := 2) (q0 := 1) hG hP hD [1, 2, 3, 4, 5] rfl rfl rfl rfl) rfl rfl hl.1 rfl (lv_room (Nat.le_of_ble_eq_true rfl)) dX6_mail_25 ⟨Nat.le_of_ble_eq_true rfl, Nat.le_of_ble_eq_true rfl⟩) hS (fun locs hS => ?_)
    replace hM := Option.some.inj hM
    subst hM
    exact wk_retPi hx hb hr hlocks hQ rfl rfl hS dX6_mail_28
  unfold M_X6_mail at hM
  refine lv_iload_n hx hb dX6_mail_0 rfl (lv_at hl 1 rfl) ?_
  refine wk_callP (va_runS (As := [.int p1]) (rest := []) ⟨hx, hb, hml, hown, hts⟩ (c_X6_faultOfController l dC dI cI cD cJ kk  p1 _ rfl s.heap) (va_cwS 1 hts gX6_mail_X6_faultOfController rfl rfl rfl (by decide +kernel) ⟨Nat.le_of_ble_eq_true rfl, Nat.le_of_ble_eq_true rfl⟩) (wk_preS hG hP hD [] rfl rfl) rfl rfl hl.1 rfl (lv_room (Nat.le_of_ble_eq_true rfl)) dX6_mail_1 ⟨Nat.le_of_ble_eq_true rfl, Nat.le_of_ble_eq_true rfl⟩) hS (fun locs hS => ?_)
  by_cases c1 : rfs (M_X6_faultOfController p1) = true
  · replace hM := (if_pos c1).symm.trans hM
    cases hM
  replace hM := (if_neg c1).symm.trans hM
  refine wk_callP (va_runS (As := [.int (M_X6_faultOfController p1)]) (rest := []) ⟨hx, hb, hml, hown, hts⟩ (c_X6_refuse0 l dC dI cI cD cJ kk (M_X6_faultOfController p1) c1 s.heap) (va_cwS 1 hts gX6_mail_X6_refuse rfl rfl rfl (by decide +kernel) ⟨Nat.le_of_ble_eq_true rfl, Nat.le_of_ble_eq_true rfl⟩) (wk_preS hG hP hD [] rfl rfl) rfl rfl hl.1 rfl (lv_room (Nat.le_of_ble_eq_true rfl)) dX6_mail_4 ⟨Nat.le_of_ble_eq_true rfl, Nat.le_of_ble_eq_true rfl⟩) hS (fun locs hS => ?_)
  refine lv_iload_n hx hb dX6_mail_7 rfl (lv_at hl 2 rfl) ?_
  refine lv_if_ge (tgt := 15) hx hb dX6_mail_8 (by decide) (fun c2 => ?_) (fun c2 => ?_)
  · replace hM := (if_pos c2).symm.trans hM
    refine lv_iconst (v := (0 : Int32)) hx hb dX6_mail_15 (by decide) ?_
    exact hB16 (0 : Int32)  _ _ hM hS (lv_sub hl [0, 1, 2] rfl)
  · replace hM := (if_neg c2).symm.trans hM
    refine lv_iconst (v := (2 : Int32)) hx hb dX6_mail_11 (by decide) ?_
    refine lv_goto (tgt := 16) hx hb dX6_mail_12 (by decide) ?_
    exact hB16 (2 : Int32)  _ _ hM hS (lv_sub hl [0, 1, 2] rfl)
set_option maxHeartbeats 4000000 in
set_option maxRecDepth 100000 in
theorem c_X6_whole (l : Launch) (dC : Nat → ClassId) (dI : Nat → Nat → Nat) (cI cD cJ : ClassId) (kk : wAd) (g : Nat → Nat) (x : SS) (p1 : Int32) (out : Int32) (hM : M_X6_whole x p1 = some out) : CP l yX6_whole wsX6_whole ({ frames := 4, cells := 0, slots := 0, locals := 88 } : Room) dC dI (wTys cI cD cJ) [.ref (g 0), .int p1] (wSys cI cD kk.1 g x) (some (.int out)) := by
  refine wk_enterP (cc := cX6_whole) (maxL := 2) (ret := (some .int)) (by decide) rfl (Nat.le_of_ble_eq_true rfl) ?_
  intro p e s m below meth c A Q ls hB hP hD hA hQ hl
  obtain ⟨hx, hb, hml, hr, hts, hown, hname, hlocks, hG⟩ := hB
  have hown : s.vm.findClass RX6 = some m.cls := hown
  have hS : va_S A s.heap s.heap [] := va_S.rf
  have hl : lv_has ls 2 [(0, .ref (g 0)), (1, .int p1)] := hl
  generalize ([] : List Loc) = locs at hS ⊢
  unfold M_X6_whole at hM
  refine lv_iload_n hx hb dX6_whole_0 rfl (lv_at hl 1 rfl) ?_
  refine lv_iconst (v := (0 : Int32)) hx hb dX6_whole_1 (by decide) ?_
  refine lv_bipush (v := (11 : Int32)) hx hb dX6_whole_2 (by decide) ?_
  refine wk_callP (va_runS (As := [.int p1, .int (0 : Int32), .int (11 : Int32)]) (rest := []) ⟨hx, hb, hml, hown, hts⟩ (c_X6_faultOfRange l dC dI cI cD cJ kk  p1 (0 : Int32) (11 : Int32) _ rfl s.heap) (va_cwS 3 hts gX6_whole_X6_faultOfRange rfl rfl rfl (by decide +kernel) ⟨Nat.le_of_ble_eq_true rfl, Nat.le_of_ble_eq_true rfl⟩) (wk_preS hG hP hD [] rfl rfl) rfl rfl hl.1 rfl (lv_room (Nat.le_of_ble_eq_true rfl)) dX6_whole_4 ⟨Nat.le_of_ble_eq_true rfl, Nat.le_of_ble_eq_true rfl⟩) hS (fun locs hS => ?_)
  by_cases c1 : rfs (M_X6_faultOfRange p1 (0 : Int32) (11 : Int32)) = true
  · replace hM := (if_pos c1).symm.trans hM
    cases hM
  replace hM := (if_neg c1).symm.trans hM
  refine wk_callP (va_runS (As := [.int (M_X6_faultOfRange p1 (0 : Int32) (11 : Int32))]) (rest := []) ⟨hx, hb, hml, hown, hts⟩ (c_X6_refuse0 l dC dI cI cD cJ kk (M_X6_faultOfRange p1 (0 : Int32) (11 : Int32)) c1 s.heap) (va_cwS 1 hts gX6_whole_X6_refuse rfl rfl rfl (by decide +kernel) ⟨Nat.le_of_ble_eq_true rfl, Nat.le_of_ble_eq_true rfl⟩) (wk_preS hG hP hD [] rfl rfl) rfl rfl hl.1 rfl (lv_room (Nat.le_of_ble_eq_true rfl)) dX6_whole_7 ⟨Nat.le_of_ble_eq_true rfl, Nat.le_of_ble_eq_true rfl⟩) hS (fun locs hS => ?_)
  refine lv_aload_n hx hb dX6_whole_10 rfl (lv_at hl 0 rfl) ?_
  refine lv_iload_n hx hb dX6_whole_11 rfl (lv_at hl 1 rfl) ?_
  obtain ⟨r2, hr2, hM⟩ := ob hM
  refine wk_callP (va_runV (As := [.int p1]) (rest := []) ⟨hx, hb, hml, hown, hts⟩ (c_X6_wholeFact l dC dI cI cD cJ kk g x p1 _ hr2 s.heap) (cwV 1 hts gX6_whole_X6_wholeFact rfl rfl rfl (by decide +kernel) ⟨Nat.le_of_ble_eq_true rfl, Nat.le_of_ble_eq_true rfl⟩) (wk_preV (ci := 4) (q0 := 0) hG hP hD [0, 1, 2, 3, 4, 5, 6, 7, 8, 9, 10, 11, 12, 13, 14, 15, 16, 17, 18, 19, 20, 21, 22, 23, 24, 25, 26, 27, 28, 29, 30, 31, 32, 33, 34, 35, 36, 37] rfl rfl rfl rfl) rfl rfl hl.1 rfl (lv_room (Nat.le_of_ble_eq_true rfl)) dX6_whole_12 ⟨Nat.le_of_ble_eq_true rfl, Nat.le_of_ble_eq_true rfl⟩) hS (fun locs hS => ?_)
  replace hM := Option.some.inj hM
  subst hM
  exact wk_retPi hx hb hr hlocks hQ rfl rfl hS dX6_whole_15
set_option maxHeartbeats 4000000 in
set_option maxRecDepth 100000 in
theorem c_X6_waitsFor (l : Launch) (dC : Nat → ClassId) (dI : Nat → Nat → Nat) (cI cD cJ : ClassId) (kk : wAd) (g : Nat → Nat) (x : SS) (p1 : Int32) (out : Int32) (hM : M_X6_waitsFor x p1 = some out) : CP l yX6_waitsFor wsX6_waitsFor ({ frames := 4, cells := 0, slots := 0, locals := 90 } : Room) dC dI (wTys cI cD cJ) [.ref (g 0), .int p1] (wSys cI cD kk.1 g x) (some (.int out)) := by
  refine wk_enterP (cc := cX6_waitsFor) (maxL := 2) (ret := (some .int)) (by decide) rfl (Nat.le_of_ble_eq_true rfl) ?_
  intro p e s m below meth c A Q ls hB hP hD hA hQ hl
  obtain ⟨hx, hb, hml, hr, hts, hown, hname, hlocks, hG⟩ := hB
  have hown : s.vm.findClass RX6 = some m.cls := hown
  have hS : va_S A s.heap s.heap [] := va_S.rf
  have hl : lv_has ls 2 [(0, .ref (g 0)), (1, .int p1)] := hl
  have inX6 : ∀ w ∈ wsX60, w ∈ wsX6_waitsFor := fun _ h => List.mem_cons_of_mem _ (List.mem_append_left _ (List.mem_append_left _ (List.mem_append_left _ (List.mem_append_left _ (List.mem_append_right _ h)))))
  generalize ([] : List Loc) = locs at hS ⊢
  unfold M_X6_waitsFor at hM
  refine lv_aload_n hx hb dX6_waitsFor_0 rfl (lv_at hl 0 rfl) ?_
  refine va_get (D := (dC, dI)) (ci := 4) (v := .ref ((fun i => g (1 + i)) 0)) (C := RX6) (T := TX6) (N := 6) hx hb hts inX6 hown hG.1 hP 0 rfl rfl 0 (by decide) (hts (.fieldLink RX6 10 "WokenDrive" "drive" "LWokenDrive$Drive;") (List.mem_of_getElem? (i := 1) rfl)) (fun _ h9 => h9) rfl dX6_waitsFor_1 ?_
  refine lv_iload_n hx hb dX6_waitsFor_4 rfl (lv_at hl 1 rfl) ?_
  refine wk_callP (va_runV (As := [.int p1]) (rest := []) ⟨hx, hb, hml, hown, hts⟩ (c_X3_faultOfOrder l dC dI cI cD cJ kk (fun i => g (1 + i)) (ss_drv x) p1 _ rfl s.heap) (cwV 1 hts gX6_waitsFor_X3_faultOfOrder rfl rfl rfl (by decide +kernel) ⟨Nat.le_of_ble_eq_true rfl, Nat.le_of_ble_eq_true rfl⟩) (wk_preV (ci := 2) (q0 := 1) hG hP hD [1, 2, 3, 4, 5] rfl rfl rfl rfl) rfl rfl hl.1 rfl (lv_room (Nat.le_of_ble_eq_true rfl)) dX6_waitsFor_5 ⟨Nat.le_of_ble_eq_true rfl, Nat.le_of_ble_eq_true rfl⟩) hS (fun locs hS => ?_)
  by_cases c1 : rfs (M_X3_faultOfOrder (ss_drv x) p1) = true
  · replace hM := (if_pos c1).symm.trans hM
    cases hM
  replace hM := (if_neg c1).symm.trans hM
  refine wk_callP (va_runS (As := [.int (M_X3_faultOfOrder (ss_drv x) p1)]) (rest := []) ⟨hx, hb, hml, hown, hts⟩ (c_X6_refuse0 l dC dI cI cD cJ kk (M_X3_faultOfOrder (ss_drv x) p1) c1 s.heap) (va_cwS 1 hts gX6_waitsFor_X6_refuse rfl rfl rfl (by decide +kernel) ⟨Nat.le_of_ble_eq_true rfl, Nat.le_of_ble_eq_true rfl⟩) (wk_preS hG hP hD [] rfl rfl) rfl rfl hl.1 rfl (lv_room (Nat.le_of_ble_eq_true rfl)) dX6_waitsFor_8 ⟨Nat.le_of_ble_eq_true rfl, Nat.le_of_ble_eq_true rfl⟩) hS (fun locs hS => ?_)
  refine lv_aload_n hx hb dX6_waitsFor_11 rfl (lv_at hl 0 rfl) ?_
  refine va_get (D := (dC, dI)) (ci := 4) (v := .ref ((fun i => g (1 + i)) 0)) (C := RX6) (T := TX6) (N := 6) hx hb hts inX6 hown hG.1 hP 0 rfl rfl 0 (by decide) (hts (.fieldLink RX6 10 "WokenDrive" "drive" "LWokenDrive$Drive;") (List.mem_of_getElem? (i := 1) rfl)) (fun _ h9 => h9) rfl dX6_waitsFor_12 ?_
  refine lv_iload_n hx hb dX6_waitsFor_15 rfl (lv_at hl 1 rfl) ?_
  obtain ⟨r2, hr2, hM⟩ := ob hM
  refine wk_callP (va_runV (As := [.int p1]) (rest := []) ⟨hx, hb, hml, hown, hts⟩ (c_X3_firstAwaited l dC dI cI cD cJ kk (fun i => g (1 + i)) (ss_drv x) p1 _ hr2 s.heap) (cwV 1 hts gX6_waitsFor_X3_firstAwaited rfl rfl rfl (by decide +kernel) ⟨Nat.le_of_ble_eq_true rfl, Nat.le_of_ble_eq_true rfl⟩) (wk_preV (ci := 2) (q0 := 1) hG hP hD [1, 2, 3, 4, 5] rfl rfl rfl rfl) rfl rfl hl.1 rfl (lv_room (Nat.le_of_ble_eq_true rfl)) dX6_waitsFor_16 ⟨Nat.le_of_ble_eq_true rfl, Nat.le_of_ble_eq_true rfl⟩) hS (fun locs hS => ?_)
  replace hM := Option.some.inj hM
  subst hM
  exact wk_retPi hx hb hr hlocks hQ rfl rfl hS dX6_waitsFor_19
set_option maxHeartbeats 4000000 in
set_option maxRecDepth 100000 in
theorem c_X6_depth (l : Launch) (dC : Nat → ClassId) (dI : Nat → Nat → Nat) (cI cD cJ : ClassId) (kk : wAd) (g : Nat → Nat) (x : SS) (p1 : Int32) (out : Int32 × SS) (hM : M_X6_depth x p1 = some out) : CM l yX6_depth wsX6_depth ({ frames := 4, cells := 0, slots := 0, locals := 92 } : Room) dC dI (wTys cI cD cJ) [.ref (g 0), .int p1] (wSys cI cD kk.1 g x) (some (.int out.1)) (wSys cI cD kk.1 g out.2) 0 0 := by
  refine wk_enterM (cc := cX6_depth) (maxL := 2) (ret := (some .int)) (by decide) rfl (Nat.le_of_ble_eq_true rfl) ?_
  intro p e s m below meth c A Q ls hB hA hP hD hQ hl
  obtain ⟨hx, hb, hml, hr, hts, hown, hname, hlocks, hG⟩ := hB
  have hown : s.vm.findClass RX6 = some m.cls := hown
  have hS : va_S A s.heap s.heap [] := va_S.rf
  have hl : lv_has ls 2 [(0, .ref (g 0)), (1, .int p1)] := hl
  have inX6 : ∀ w ∈ wsX60, w ∈ wsX6_depth := fun _ h => List.mem_cons_of_mem _ (List.mem_append_left _ (List.mem_append_left _ (List.mem_append_left _ (List.mem_append_left _ (List.mem_append_right _ h)))))
  obtain ⟨H, hH⟩ : ∃ z, z = s.heap := ⟨_, rfl⟩
  have hP : va_P (dC, dI) vwCl (wSys cI cD kk.1 g x) H := by rw [hH]; exact hP
  have hS : va_S A s.heap H [] := by rw [hH]; exact hS
  refine wk_at hH ?_
  generalize ([] : List Loc) = locs at hS ⊢
  unfold M_X6_depth at hM
  refine lv_aload_n hx hb dX6_depth_0 rfl (lv_at hl 0 rfl) ?_
  refine va_get (D := (dC, dI)) (ci := 4) (v := .ref ((fun i => g (1 + i)) 0)) (C := RX6) (T := TX6) (N := 6) hx hb hts inX6 hown hG.1 hP 0 rfl rfl 0 (by decide) (hts (.fieldLink RX6 10 "WokenDrive" "drive" "LWokenDrive$Drive;") (List.mem_of_getElem? (i := 1) rfl)) (fun _ h9 => h9) rfl dX6_depth_1 ?_
  refine lv_iload_n hx hb dX6_depth_4 rfl (lv_at hl 1 rfl) ?_
  refine wk_callP (va_runV (As := [.int p1]) (rest := []) ⟨hx, hb, hml, hown, hts⟩ (c_X3_faultOfOrder l dC dI cI cD cJ kk (fun i => g (1 + i)) (ss_drv x) p1 _ rfl H) (cwV 1 hts gX6_depth_X3_faultOfOrder rfl rfl rfl (by decide +kernel) ⟨Nat.le_of_ble_eq_true rfl, Nat.le_of_ble_eq_true rfl⟩) (wk_preV (ci := 2) (q0 := 1) hG hP hD [1, 2, 3, 4, 5] rfl rfl rfl rfl) rfl rfl hl.1 rfl (lv_room (Nat.le_of_ble_eq_true rfl)) dX6_depth_5 ⟨Nat.le_of_ble_eq_true rfl, Nat.le_of_ble_eq_true rfl⟩) hS (fun locs hS => ?_)
  by_cases c1 : rfs (M_X3_faultOfOrder (ss_drv x) p1) = true
  · replace hM := (if_pos c1).symm.trans hM
    cases hM
  replace hM := (if_neg c1).symm.trans hM
  refine wk_callP (va_runS (As := [.int (M_X3_faultOfOrder (ss_drv x) p1)]) (rest := []) ⟨hx, hb, hml, hown, hts⟩ (c_X6_refuse0 l dC dI cI cD cJ kk (M_X3_faultOfOrder (ss_drv x) p1) c1 H) (va_cwS 1 hts gX6_depth_X6_refuse rfl rfl rfl (by decide +kernel) ⟨Nat.le_of_ble_eq_true rfl, Nat.le_of_ble_eq_true rfl⟩) (wk_preS hG hP hD [] rfl rfl) rfl rfl hl.1 rfl (lv_room (Nat.le_of_ble_eq_true rfl)) dX6_depth_8 ⟨Nat.le_of_ble_eq_true rfl, Nat.le_of_ble_eq_true rfl⟩) hS (fun locs hS => ?_)
  refine lv_aload_n hx hb dX6_depth_11 rfl (lv_at hl 0 rfl) ?_
  refine va_get (D := (dC, dI)) (ci := 4) (v := .ref ((fun i => g (1 + i)) 0)) (C := RX6) (T := TX6) (N := 6) hx hb hts inX6 hown hG.1 hP 0 rfl rfl 0 (by decide) (hts (.fieldLink RX6 10 "WokenDrive" "drive" "LWokenDrive$Drive;") (List.mem_of_getElem? (i := 1) rfl)) (fun _ h9 => h9) rfl dX6_depth_12 ?_
  refine lv_aload_n hx hb dX6_depth_15 rfl (lv_at hl 0 rfl) ?_
  refine va_get (D := (dC, dI)) (ci := 4) (v := .ref (g 37)) (C := RX6) (T := TX6) (N := 6) hx hb hts inX6 hown hG.1 hP 0 rfl rfl 5 (by decide) (hts (.fieldLink RX6 37 "WokenDrive" "depths" "[I") (List.mem_of_getElem? (i := 2) rfl)) (fun _ h9 => h9) rfl dX6_depth_16 ?_
  obtain ⟨r2, hr2, hM⟩ := ob hM
  obtain ⟨y_3, hy_3, hM⟩ := tbE hM
  refine wk_callM (ws' := (wSys cI cD kk.1 g (ss_dep_s x r2))) (va_runV (As := [.ref (g 37)]) (rest := []) ⟨hx, hb, hml, hown, hts⟩ (c_X3_reckonDepths l dC dI cI cD cJ kk (fun i => g (1 + i)) (g 37) (ss_drv x) (ss_dep x) _ hr2 H) (cwV 1 hts gX6_depth_X3_reckonDepths rfl rfl rfl (by decide +kernel) ⟨Nat.le_of_ble_eq_true rfl, Nat.le_of_ble_eq_true rfl⟩) (wk_preV (ci := 2) (q0 := 1) hG hP hD [1, 2, 3, 4, 5, 37] rfl rfl rfl rfl) rfl rfl hl.1 rfl (lv_room (Nat.le_of_ble_eq_true rfl)) dX6_depth_19 ⟨Nat.le_of_ble_eq_true rfl, Nat.le_of_ble_eq_true rfl⟩) hP hD hS hA [1, 2, 3, 4, 5, 37] [0, 6, 7, 8, 9, 10, 11, 12, 13, 14, 15, 16, 17, 18, 19, 20, 21, 22, 23, 24, 25, 26, 27, 28, 29, 30, 31, 32, 33, 34, 35, 36] [0, 32, 33, 34, 35, 36, 1, 2, 3, 4, 5, 6, 7, 8, 9, 10, 11, 12, 13, 14, 15, 16, 17, 18, 19, 20, 21, 22, 23, 24, 25, 26, 27, 28, 29, 30, 31, 37] rfl rfl rfl (by decide) rfl rfl (fun H locs hP hD hS => ?_)
  have hP : va_P (dC, dI) vwCl (wSys cI cD kk.1 g y_3) H := by rw [hy_3]; exact hP
  have hD : va_D A (wSys cI cD kk.1 g y_3) := by rw [hy_3]; exact hD
  refine lv_aload_n hx hb dX6_depth_22 rfl (lv_at hl 0 rfl) ?_
  refine va_get (D := (dC, dI)) (ci := 4) (v := .ref (g 37)) (C := RX6) (T := TX6) (N := 6) hx hb hts inX6 hown hG.1 hP 0 rfl rfl 5 (by decide) (hts (.fieldLink RX6 37 "WokenDrive" "depths" "[I") (List.mem_of_getElem? (i := 2) rfl)) (fun _ h9 => h9) rfl dX6_depth_23 ?_
  refine lv_iload_n hx hb dX6_depth_26 rfl (lv_at hl 1 rfl) ?_
  refine wk_callP (va_runS (As := [.ref (g 37), .int p1]) (rest := []) ⟨hx, hb, hml, hown, hts⟩ (c_X6_at l dC dI cI cD cJ kk (g 37) 40 (ss_dep y_3) p1 (by decide) _ rfl H) (va_cwS 2 hts gX6_depth_X6_at rfl rfl rfl (by decide +kernel) ⟨Nat.le_of_ble_eq_true rfl, Nat.le_of_ble_eq_true rfl⟩) (wk_preS hG hP hD [37] rfl rfl) rfl rfl hl.1 rfl (lv_room (Nat.le_of_ble_eq_true rfl)) dX6_depth_27 ⟨Nat.le_of_ble_eq_true rfl, Nat.le_of_ble_eq_true rfl⟩) hS (fun locs hS => ?_)
  replace hM := Option.some.inj hM
  subst hM
  exact wk_retMi hx hb hr hlocks hQ rfl rfl hP hD hS dX6_depth_30
set_option maxHeartbeats 4000000 in
set_option maxRecDepth 100000 in
theorem c_X6_nextFor (l : Launch) (dC : Nat → ClassId) (dI : Nat → Nat → Nat) (cI cD cJ : ClassId) (kk : wAd) (g : Nat → Nat) (x : SS) (p1 : Int32) (out : Int32) (hM : M_X6_nextFor x p1 = some out) : CP l yX6_nextFor wsX6_nextFor ({ frames := 4, cells := 0, slots := 0, locals := 91 } : Room) dC dI (wTys cI cD cJ) [.ref (g 0), .int p1] (wSys cI cD kk.1 g x) (some (.int out)) := by
  refine wk_enterP (cc := cX6_nextFor) (maxL := 2) (ret := (some .int)) (by decide) rfl (Nat.le_of_ble_eq_true rfl) ?_
  intro p e s m below meth c A Q ls hB hP hD hA hQ hl
  obtain ⟨hx, hb, hml, hr, hts, hown, hname, hlocks, hG⟩ := hB
  have hown : s.vm.findClass RX6 = some m.cls := hown
  have hS : va_S A s.heap s.heap [] := va_S.rf
  have hl : lv_has ls 2 [(0, .ref (g 0)), (1, .int p1)] := hl
  have inX6 : ∀ w ∈ wsX60, w ∈ wsX6_nextFor := fun _ h => List.mem_cons_of_mem _ (List.mem_append_left _ (List.mem_append_left _ (List.mem_append_left _ (List.mem_append_left _ (List.mem_append_left _ (List.mem_append_right _ h))))))
  generalize ([] : List Loc) = locs at hS ⊢
  unfold M_X6_nextFor at hM
  refine lv_iload_n hx hb dX6_nextFor_0 rfl (lv_at hl 1 rfl) ?_
  refine wk_callP (va_runS (As := [.int p1]) (rest := []) ⟨hx, hb, hml, hown, hts⟩ (c_X6_faultOfController l dC dI cI cD cJ kk  p1 _ rfl s.heap) (va_cwS 1 hts gX6_nextFor_X6_faultOfController rfl rfl rfl (by decide +kernel) ⟨Nat.le_of_ble_eq_true rfl, Nat.le_of_ble_eq_true rfl⟩) (wk_preS hG hP hD [] rfl rfl) rfl rfl hl.1 rfl (lv_room (Nat.le_of_ble_eq_true rfl)) dX6_nextFor_1 ⟨Nat.le_of_ble_eq_true rfl, Nat.le_of_ble_eq_true rfl⟩) hS (fun locs hS => ?_)
  by_cases c1 : rfs (M_X6_faultOfController p1) = true
  · replace hM := (if_pos c1).symm.trans hM
    cases hM
  replace hM := (if_neg c1).symm.trans hM
  refine wk_callP (va_runS (As := [.int (M_X6_faultOfController p1)]) (rest := []) ⟨hx, hb, hml, hown, hts⟩ (c_X6_refuse0 l dC dI cI cD cJ kk (M_X6_faultOfController p1) c1 s.heap) (va_cwS 1 hts gX6_nextFor_X6_refuse rfl rfl rfl (by decide +kernel) ⟨Nat.le_of_ble_eq_true rfl, Nat.le_of_ble_eq_true rfl⟩) (wk_preS hG hP hD [] rfl rfl) rfl rfl hl.1 rfl (lv_room (Nat.le_of_ble_eq_true rfl)) dX6_nextFor_4 ⟨Nat.le_of_ble_eq_true rfl, Nat.le_of_ble_eq_true rfl⟩) hS (fun locs hS => ?_)
  refine lv_aload_n hx hb dX6_nextFor_7 rfl (lv_at hl 0 rfl) ?_
  refine va_get (D := (dC, dI)) (ci := 4) (v := .ref ((fun i => g (1 + i)) 0)) (C := RX6) (T := TX6) (N := 6) hx hb hts inX6 hown hG.1 hP 0 rfl rfl 0 (by decide) (hts (.fieldLink RX6 10 "WokenDrive" "drive" "LWokenDrive$Drive;") (List.mem_of_getElem? (i := 1) rfl)) (fun _ h9 => h9) rfl dX6_nextFor_8 ?_
  refine lv_iload_n hx hb dX6_nextFor_11 rfl (lv_at hl 1 rfl) ?_
  obtain ⟨r2, hr2, hM⟩ := ob hM
  refine wk_callP (va_runV (As := [.int p1]) (rest := []) ⟨hx, hb, hml, hown, hts⟩ (c_X3_nextOf l dC dI cI cD cJ kk (fun i => g (1 + i)) (ss_drv x) p1 _ hr2 s.heap) (cwV 1 hts gX6_nextFor_X3_nextOf rfl rfl rfl (by decide +kernel) ⟨Nat.le_of_ble_eq_true rfl, Nat.le_of_ble_eq_true rfl⟩) (wk_preV (ci := 2) (q0 := 1) hG hP hD [1, 2, 3, 4, 5] rfl rfl rfl rfl) rfl rfl hl.1 rfl (lv_room (Nat.le_of_ble_eq_true rfl)) dX6_nextFor_12 ⟨Nat.le_of_ble_eq_true rfl, Nat.le_of_ble_eq_true rfl⟩) hS (fun locs hS => ?_)
  replace hM := Option.some.inj hM
  subst hM
  exact wk_retPi hx hb hr hlocks hQ rfl rfl hS dX6_nextFor_15
set_option maxHeartbeats 4000000 in
set_option maxRecDepth 100000 in
theorem c_X6_reason (l : Launch) (dC : Nat → ClassId) (dI : Nat → Nat → Nat) (cI cD cJ : ClassId) (kk : wAd) (g : Nat → Nat) (x : SS) (p1 : Int32) (p2 : Int32) (out : Int32) (hM : M_X6_reason x p1 p2 = some out) : CP l yX6_reason wsX6_reason ({ frames := 5, cells := 0, slots := 0, locals := 113 } : Room) dC dI (wTys cI cD cJ) [.ref (g 0), .int p1, .int p2] (wSys cI cD kk.1 g x) (some (.int out)) := by
  refine wk_enterP (cc := cX6_reason) (maxL := 3) (ret := (some .int)) (by decide) rfl (Nat.le_of_ble_eq_true rfl) ?_
  intro p e s m below meth c A Q ls hB hP hD hA hQ hl
  obtain ⟨hx, hb, hml, hr, hts, hown, hname, hlocks, hG⟩ := hB
  have hown : s.vm.findClass RX6 = some m.cls := hown
  have hS : va_S A s.heap s.heap [] := va_S.rf
  have hl : lv_has ls 3 [(0, .ref (g 0)), (1, .int p1), (2, .int p2)] := hl
  have inX6 : ∀ w ∈ wsX60, w ∈ wsX6_reason := fun _ h => List.mem_cons_of_mem _ (List.mem_append_left _ (List.mem_append_left _ (List.mem_append_left _ (List.mem_append_left _ (List.mem_append_left _ (List.mem_append_right _ h))))))
  generalize ([] : List Loc) = locs at hS ⊢
  unfold M_X6_reason at hM
  refine lv_iload_n hx hb dX6_reason_0 rfl (lv_at hl 1 rfl) ?_
  refine wk_callP (va_runS (As := [.int p1]) (rest := []) ⟨hx, hb, hml, hown, hts⟩ (c_X6_faultOfController l dC dI cI cD cJ kk  p1 _ rfl s.heap) (va_cwS 1 hts gX6_reason_X6_faultOfController rfl rfl rfl (by decide +kernel) ⟨Nat.le_of_ble_eq_true rfl, Nat.le_of_ble_eq_true rfl⟩) (wk_preS hG hP hD [] rfl rfl) rfl rfl hl.1 rfl (lv_room (Nat.le_of_ble_eq_true rfl)) dX6_reason_1 ⟨Nat.le_of_ble_eq_true rfl, Nat.le_of_ble_eq_true rfl⟩) hS (fun locs hS => ?_)
  by_cases c1 : rfs (M_X6_faultOfController p1) = true
  · replace hM := (if_pos c1).symm.trans hM
    cases hM
  replace hM := (if_neg c1).symm.trans hM
  refine wk_callP (va_runS (As := [.int (M_X6_faultOfController p1)]) (rest := []) ⟨hx, hb, hml, hown, hts⟩ (c_X6_refuse0 l dC dI cI cD cJ kk (M_X6_faultOfController p1) c1 s.heap) (va_cwS 1 hts gX6_reason_X6_refuse rfl rfl rfl (by decide +kernel) ⟨Nat.le_of_ble_eq_true rfl, Nat.le_of_ble_eq_true rfl⟩) (wk_preS hG hP hD [] rfl rfl) rfl rfl hl.1 rfl (lv_room (Nat.le_of_ble_eq_true rfl)) dX6_reason_4 ⟨Nat.le_of_ble_eq_true rfl, Nat.le_of_ble_eq_true rfl⟩) hS (fun locs hS => ?_)
  refine lv_aload_n hx hb dX6_reason_7 rfl (lv_at hl 0 rfl) ?_
  refine va_get (D := (dC, dI)) (ci := 4) (v := .ref ((fun i => g (1 + i)) 0)) (C := RX6) (T := TX6) (N := 6) hx hb hts inX6 hown hG.1 hP 0 rfl rfl 0 (by decide) (hts (.fieldLink RX6 10 "WokenDrive" "drive" "LWokenDrive$Drive;") (List.mem_of_getElem? (i := 1) rfl)) (fun _ h9 => h9) rfl dX6_reason_8 ?_
  refine lv_iload_n hx hb dX6_reason_11 rfl (lv_at hl 2 rfl) ?_
  refine wk_callP (va_runV (As := [.int p2]) (rest := []) ⟨hx, hb, hml, hown, hts⟩ (c_X3_faultOfOrder l dC dI cI cD cJ kk (fun i => g (1 + i)) (ss_drv x) p2 _ rfl s.heap) (cwV 1 hts gX6_reason_X3_faultOfOrder rfl rfl rfl (by decide +kernel) ⟨Nat.le_of_ble_eq_true rfl, Nat.le_of_ble_eq_true rfl⟩) (wk_preV (ci := 2) (q0 := 1) hG hP hD [1, 2, 3, 4, 5] rfl rfl rfl rfl) rfl rfl hl.1 rfl (lv_room (Nat.le_of_ble_eq_true rfl)) dX6_reason_12 ⟨Nat.le_of_ble_eq_true rfl, Nat.le_of_ble_eq_true rfl⟩) hS (fun locs hS => ?_)
  by_cases c2 : rfs (M_X3_faultOfOrder (ss_drv x) p2) = true
  · replace hM := (if_pos c2).symm.trans hM
    cases hM
  replace hM := (if_neg c2).symm.trans hM
  refine wk_callP (va_runS (As := [.int (M_X3_faultOfOrder (ss_drv x) p2)]) (rest := []) ⟨hx, hb, hml, hown, hts⟩ (c_X6_refuse0 l dC dI cI cD cJ kk (M_X3_faultOfOrder (ss_drv x) p2) c2 s.heap) (va_cwS 1 hts gX6_reason_X6_refuse rfl rfl rfl (by decide +kernel) ⟨Nat.le_of_ble_eq_true rfl, Nat.le_of_ble_eq_true rfl⟩) (wk_preS hG hP hD [] rfl rfl) rfl rfl hl.1 rfl (lv_room (Nat.le_of_ble_eq_true rfl)) dX6_reason_15 ⟨Nat.le_of_ble_eq_true rfl, Nat.le_of_ble_eq_true rfl⟩) hS (fun locs hS => ?_)
  refine lv_aload_n hx hb dX6_reason_18 rfl (lv_at hl 0 rfl) ?_
  refine va_get (D := (dC, dI)) (ci := 4) (v := .ref ((fun i => g (1 + i)) 0)) (C := RX6) (T := TX6) (N := 6) hx hb hts inX6 hown hG.1 hP 0 rfl rfl 0 (by decide) (hts (.fieldLink RX6 10 "WokenDrive" "drive" "LWokenDrive$Drive;") (List.mem_of_getElem? (i := 1) rfl)) (fun _ h9 => h9) rfl dX6_reason_19 ?_
  refine lv_iload_n hx hb dX6_reason_22 rfl (lv_at hl 1 rfl) ?_
  refine lv_iload_n hx hb dX6_reason_23 rfl (lv_at hl 2 rfl) ?_
  obtain ⟨r3, hr3, hM⟩ := ob hM
  refine wk_callP (va_runV (As := [.int p1, .int p2]) (rest := []) ⟨hx, hb, hml, hown, hts⟩ (c_X3_whyNot l dC dI cI cD cJ kk (fun i => g (1 + i)) (ss_drv x) p1 p2 _ hr3 s.heap) (cwV 2 hts gX6_reason_X3_whyNot rfl rfl rfl (by decide +kernel) ⟨Nat.le_of_ble_eq_true rfl, Nat.le_of_ble_eq_true rfl⟩) (wk_preV (ci := 2) (q0 := 1) hG hP hD [1, 2, 3, 4, 5] rfl rfl rfl rfl) rfl rfl hl.1 rfl (lv_room (Nat.le_of_ble_eq_true rfl)) dX6_reason_24 ⟨Nat.le_of_ble_eq_true rfl, Nat.le_of_ble_eq_true rfl⟩) hS (fun locs hS => ?_)
  replace hM := Option.some.inj hM
  subst hM
  exact wk_retPi hx hb hr hlocks hQ rfl rfl hS dX6_reason_27
set_option maxHeartbeats 4000000 in
set_option maxRecDepth 100000 in
theorem c_X6_finalValue (l : Launch) (dC : Nat → ClassId) (dI : Nat → Nat → Nat) (cI cD cJ : ClassId) (kk : wAd) (g : Nat → Nat) (x : SS) (p1 : Int32) (out : Int32 × SS) (hM : M_X6_finalValue x p1 = some out) : CM l yX6_finalValue wsX6_finalValue ({ frames := 3, cells := 0, slots := 0, locals := 69 } : Room) dC dI (wTys cI cD cJ) [.ref (g 0), .int p1] (wSys cI cD kk.1 g x) (some (.int out.1)) (wSys cI cD kk.1 g out.2) 0 0 := by
  refine wk_enterM (cc := cX6_finalValue) (maxL := 2) (ret := (some .int)) (by decide) rfl (Nat.le_of_ble_eq_true rfl) ?_
  intro p e s m below meth c A Q ls hB hA hP hD hQ hl
  obtain ⟨hx, hb, hml, hr, hts, hown, hname, hlocks, hG⟩ := hB
  have hown : s.vm.findClass RX6 = some m.cls := hown
  have hS : va_S A s.heap s.heap [] := va_S.rf
  have hl : lv_has ls 2 [(0, .ref (g 0)), (1, .int p1)] := hl
  have inX6 : ∀ w ∈ wsX60, w ∈ wsX6_finalValue := fun _ h => List.mem_cons_of_mem _ (List.mem_append_left _ (List.mem_append_left _ (List.mem_append_left _ (List.mem_append_left _ (List.mem_append_right _ h)))))
  obtain ⟨H, hH⟩ : ∃ z, z = s.heap := ⟨_, rfl⟩
  have hP : va_P (dC, dI) vwCl (wSys cI cD kk.1 g x) H := by rw [hH]; exact hP
  have hS : va_S A s.heap H [] := by rw [hH]; exact hS
  refine wk_at hH ?_
  generalize ([] : List Loc) = locs at hS ⊢
  unfold M_X6_finalValue at hM
  refine lv_iload_n hx hb dX6_finalValue_0 rfl (lv_at hl 1 rfl) ?_
  refine wk_callP (va_runS (As := [.int p1]) (rest := []) ⟨hx, hb, hml, hown, hts⟩ (c_X6_faultOfBlock l dC dI cI cD cJ kk  p1 _ rfl H) (va_cwS 1 hts gX6_finalValue_X6_faultOfBlock rfl rfl rfl (by decide +kernel) ⟨Nat.le_of_ble_eq_true rfl, Nat.le_of_ble_eq_true rfl⟩) (wk_preS hG hP hD [] rfl rfl) rfl rfl hl.1 rfl (lv_room (Nat.le_of_ble_eq_true rfl)) dX6_finalValue_1 ⟨Nat.le_of_ble_eq_true rfl, Nat.le_of_ble_eq_true rfl⟩) hS (fun locs hS => ?_)
  by_cases c1 : rfs (M_X6_faultOfBlock p1) = true
  · replace hM := (if_pos c1).symm.trans hM
    cases hM
  replace hM := (if_neg c1).symm.trans hM
  refine wk_callP (va_runS (As := [.int (M_X6_faultOfBlock p1)]) (rest := []) ⟨hx, hb, hml, hown, hts⟩ (c_X6_refuse0 l dC dI cI cD cJ kk (M_X6_faultOfBlock p1) c1 H) (va_cwS 1 hts gX6_finalValue_X6_refuse rfl rfl rfl (by decide +kernel) ⟨Nat.le_of_ble_eq_true rfl, Nat.le_of_ble_eq_true rfl⟩) (wk_preS hG hP hD [] rfl rfl) rfl rfl hl.1 rfl (lv_room (Nat.le_of_ble_eq_true rfl)) dX6_finalValue_4 ⟨Nat.le_of_ble_eq_true rfl, Nat.le_of_ble_eq_true rfl⟩) hS (fun locs hS => ?_)
  refine lv_aload_n hx hb dX6_finalValue_7 rfl (lv_at hl 0 rfl) ?_
  refine va_get (D := (dC, dI)) (ci := 4) (v := .ref ((fun i => g (1 + i)) 0)) (C := RX6) (T := TX6) (N := 6) hx hb hts inX6 hown hG.1 hP 0 rfl rfl 0 (by decide) (hts (.fieldLink RX6 10 "WokenDrive" "drive" "LWokenDrive$Drive;") (List.mem_of_getElem? (i := 1) rfl)) (fun _ h9 => h9) rfl dX6_finalValue_8 ?_
  refine lv_aload_n hx hb dX6_finalValue_11 rfl (lv_at hl 0 rfl) ?_
  refine va_get (D := (dC, dI)) (ci := 4) (v := .ref (g 36)) (C := RX6) (T := TX6) (N := 6) hx hb hts inX6 hown hG.1 hP 0 rfl rfl 4 (by decide) (hts (.fieldLink RX6 33 "WokenDrive" "finals" "[I") (List.mem_of_getElem? (i := 2) rfl)) (fun _ h9 => h9) rfl dX6_finalValue_12 ?_
  obtain ⟨r2, hr2, hM⟩ := ob hM
  obtain ⟨y_3, hy_3, hM⟩ := tbE hM
  refine wk_callM (ws' := (wSys cI cD kk.1 g (ss_fin_s x r2))) (va_runV (As := [.ref (g 36)]) (rest := []) ⟨hx, hb, hml, hown, hts⟩ (c_X3_reckonFinals l dC dI cI cD cJ kk (fun i => g (1 + i)) (g 36) (ss_drv x) (ss_fin x) _ hr2 H) (cwV 1 hts gX6_finalValue_X3_reckonFinals rfl rfl rfl (by decide +kernel) ⟨Nat.le_of_ble_eq_true rfl, Nat.le_of_ble_eq_true rfl⟩) (wk_preV (ci := 2) (q0 := 1) hG hP hD [1, 2, 3, 4, 5, 36] rfl rfl rfl rfl) rfl rfl hl.1 rfl (lv_room (Nat.le_of_ble_eq_true rfl)) dX6_finalValue_15 ⟨Nat.le_of_ble_eq_true rfl, Nat.le_of_ble_eq_true rfl⟩) hP hD hS hA [1, 2, 3, 4, 5, 36] [0, 6, 7, 8, 9, 10, 11, 12, 13, 14, 15, 16, 17, 18, 19, 20, 21, 22, 23, 24, 25, 26, 27, 28, 29, 30, 31, 32, 33, 34, 35, 37] [0, 32, 33, 34, 35, 36, 1, 2, 3, 4, 5, 6, 7, 8, 9, 10, 11, 12, 13, 14, 15, 16, 17, 18, 19, 20, 21, 22, 23, 24, 25, 26, 27, 28, 29, 30, 37, 31] rfl rfl rfl (by decide) rfl rfl (fun H locs hP hD hS => ?_)
  have hP : va_P (dC, dI) vwCl (wSys cI cD kk.1 g y_3) H := by rw [hy_3]; exact hP
  have hD : va_D A (wSys cI cD kk.1 g y_3) := by rw [hy_3]; exact hD
  refine lv_aload_n hx hb dX6_finalValue_18 rfl (lv_at hl 0 rfl) ?_
  refine va_get (D := (dC, dI)) (ci := 4) (v := .ref (g 36)) (C := RX6) (T := TX6) (N := 6) hx hb hts inX6 hown hG.1 hP 0 rfl rfl 4 (by decide) (hts (.fieldLink RX6 33 "WokenDrive" "finals" "[I") (List.mem_of_getElem? (i := 2) rfl)) (fun _ h9 => h9) rfl dX6_finalValue_19 ?_
  refine lv_iload_n hx hb dX6_finalValue_22 rfl (lv_at hl 1 rfl) ?_
  refine wk_callP (va_runS (As := [.ref (g 36), .int p1]) (rest := []) ⟨hx, hb, hml, hown, hts⟩ (c_X6_at l dC dI cI cD cJ kk (g 36) 16 (ss_fin y_3) p1 (by decide) _ rfl H) (va_cwS 2 hts gX6_finalValue_X6_at rfl rfl rfl (by decide +kernel) ⟨Nat.le_of_ble_eq_true rfl, Nat.le_of_ble_eq_true rfl⟩) (wk_preS hG hP hD [36] rfl rfl) rfl rfl hl.1 rfl (lv_room (Nat.le_of_ble_eq_true rfl)) dX6_finalValue_23 ⟨Nat.le_of_ble_eq_true rfl, Nat.le_of_ble_eq_true rfl⟩) hS (fun locs hS => ?_)
  replace hM := Option.some.inj hM
  subst hM
  exact wk_retMi hx hb hr hlocks hQ rfl rfl hP hD hS dX6_finalValue_26
