/-! PART 37: the law's ordersFit -/
set_option maxHeartbeats 4000000 in
set_option maxRecDepth 100000 in
theorem c_L_ordersFit (l : Launch) (dC : Nat → ClassId) (dI : Nat → Nat → Nat) (cI cD cJ : ClassId) (kk : wAd) (g : Nat → Nat) (x : SS) (out : Bool × SS) (hM : M_L_ordersFit x = some out) : CM l yL_ordersFit wsL_ordersFit ({ frames := 6, cells := 0, slots := 0, locals := 139 } : Room) dC dI (wTys cI cD cJ) [.ref (g 0)] (wSys cI cD kk.1 g x) (some (.int (zI out.1))) (wSys cI cD kk.1 g out.2) 0 0 := by
  refine wk_enterM (cc := cL_ordersFit) (maxL := 11) (ret := (some .boolean)) (by decide) rfl (Nat.le_of_ble_eq_true rfl) ?_
  intro p e s m below meth c A Q ls hB hA hP hD hQ hl
  obtain ⟨hx, hb, hml, hr, hts, hown, hname, hlocks, hG⟩ := hB
  have hown : s.vm.findClass RL = some m.cls := hown
  have hS : va_S A s.heap s.heap [] := va_S.rf
  have hl : lv_has ls 11 [(0, .ref (g 0))] := hl
  obtain ⟨H, hH⟩ : ∃ z, z = s.heap := ⟨_, rfl⟩
  have hP : va_P (dC, dI) vwCl (wSys cI cD kk.1 g x) H := by rw [hH]; exact hP
  have hS : va_S A s.heap H [] := by rw [hH]; exact hS
  refine wk_at hH ?_
  generalize ([] : List Loc) = locs at hS ⊢
  have hB435 : ∀ (w0 : Bool) (y0 : SS) (H : Heap) (locs : List Loc) (ls : Array Slot), M_L_ordersFit_435 x w0 y0 = some out → va_P (dC, dI) vwCl (wSys cI cD kk.1 g y0) H → va_D A (wSys cI cD kk.1 g y0) → va_S A s.heap H locs → lv_has ls 11 [] → W p l e ({ frames := 6, cells := 0, slots := 0, locals := 139 } : Room) s m ([.ref (g 0)] : List Value).toArray below meth c H locs 0 0 Q (F0 m 435 ls [.int (zI w0)]) := by
    intro w0 y0 H locs ls hM hP hD hS hl
    unfold M_L_ordersFit_435 at hM
    replace hM := Option.some.inj hM
    subst hM
    exact wk_retMi hx hb hr hlocks hQ (zI_nar _) rfl hP hD hS dL_ordersFit_435
  have hB434 : ∀ (y0 : SS) (H : Heap) (locs : List Loc) (ls : Array Slot), M_L_ordersFit_434 x y0 = some out → va_P (dC, dI) vwCl (wSys cI cD kk.1 g y0) H → va_D A (wSys cI cD kk.1 g y0) → va_S A s.heap H locs → lv_has ls 11 [] → W p l e ({ frames := 6, cells := 0, slots := 0, locals := 139 } : Room) s m ([.ref (g 0)] : List Value).toArray below meth c H locs 0 0 Q (F0 m 434 ls []) := by
    intro y0 H locs ls hM hP hD hS hl
    unfold M_L_ordersFit_434 at hM
    refine lv_iconst (v := (0 : Int32)) hx hb dL_ordersFit_434 (by decide) ?_
    exact hB435 false y0 H _ _ hM hP hD hS (lv_sub hl [] rfl)
  have hB397 : ∀ (u1 : Int32) (u6 : Int32) (w0 : Bool) (y0 : SS) (H : Heap) (locs : List Loc) (ls : Array Slot), M_L_ordersFit_397 x u1 u6 w0 y0 = some out → va_P (dC, dI) vwCl (wSys cI cD kk.1 g y0) H → va_D A (wSys cI cD kk.1 g y0) → va_S A s.heap H locs → lv_has ls 11 [(0, .ref (g 0)), (1, .int u1), (6, .int u6)] → W p l e ({ frames := 6, cells := 0, slots := 0, locals := 139 } : Room) s m ([.ref (g 0)] : List Value).toArray below meth c H locs 0 0 Q (F0 m 397 ls [.int (zI w0)]) := by
    intro u1 u6 w0 y0 H locs ls hM hP hD hS hl
    unfold M_L_ordersFit_397 at hM
    refine lv_istore_n (lv' := [(2, .int (zI w0)), (0, .ref (g 0)), (1, .int u1), (6, .int u6)]) hx hb dL_ordersFit_397 rfl hl (by decide) rfl (fun ls hl => ?_)
    refine lv_iload_n hx hb dL_ordersFit_398 rfl (lv_at hl 0 rfl) ?_
    refine lv_if_eq (tgt := 434) hx hb dL_ordersFit_399 (by decide) (fun c1 => ?_) (fun c1 => ?_)
    · replace hM := (if_pos c1).symm.trans hM
      exact hB434 y0 H _ _ hM hP hD hS (lv_sub hl [] rfl)
    · replace hM := (if_neg c1).symm.trans hM
      refine lv_iload hx hb dL_ordersFit_402 (lv_at hl 3 rfl) ?_
      refine lv_aload_n hx hb dL_ordersFit_404 rfl (lv_at hl 1 rfl) ?_
      refine lv_iconst (v := (0 : Int32)) hx hb dL_ordersFit_405 (by decide) ?_
      refine lv_bipush (v := (6 : Int32)) hx hb dL_ordersFit_406 (by decide) ?_
      obtain ⟨r2, hr2, hM⟩ := ob hM
      refine wk_callP (va_runV (As := [.int (0 : Int32), .int (6 : Int32)]) (rest := [.int u6]) ⟨hx, hb, hml, hown, hts⟩ (c_X6_controller l dC dI cI cD cJ kk g y0 (0 : Int32) (6 : Int32) _ hr2 H) (cwV 2 hts gL_ordersFit_X6_controller rfl rfl rfl (by decide +kernel) ⟨Nat.le_of_ble_eq_true rfl, Nat.le_of_ble_eq_true rfl⟩) (wk_preV (ci := 4) (q0 := 0) hG hP hD [0, 1, 2, 3, 4, 5, 6, 7, 8, 9, 10, 11, 12, 13, 14, 15, 16, 17, 18, 19, 20, 21, 22, 23, 24, 25, 26, 27, 28, 29, 30, 31, 32, 33, 34, 35, 36, 37] rfl rfl rfl rfl) rfl rfl hl.1 rfl (lv_room (Nat.le_of_ble_eq_true rfl)) dL_ordersFit_408 ⟨Nat.le_of_ble_eq_true rfl, Nat.le_of_ble_eq_true rfl⟩) hS (fun locs hS => ?_)
      refine lv_aload_n hx hb dL_ordersFit_411 rfl (lv_at hl 1 rfl) ?_
      refine lv_iconst (v := (1 : Int32)) hx hb dL_ordersFit_412 (by decide) ?_
      refine lv_bipush (v := (6 : Int32)) hx hb dL_ordersFit_413 (by decide) ?_
      obtain ⟨r3, hr3, hM⟩ := ob hM
      refine wk_callP (va_runV (As := [.int (1 : Int32), .int (6 : Int32)]) (rest := [.int r2, .int u6]) ⟨hx, hb, hml, hown, hts⟩ (c_X6_controller l dC dI cI cD cJ kk g y0 (1 : Int32) (6 : Int32) _ hr3 H) (cwV 2 hts gL_ordersFit_X6_controller rfl rfl rfl (by decide +kernel) ⟨Nat.le_of_ble_eq_true rfl, Nat.le_of_ble_eq_true rfl⟩) (wk_preV (ci := 4) (q0 := 0) hG hP hD [0, 1, 2, 3, 4, 5, 6, 7, 8, 9, 10, 11, 12, 13, 14, 15, 16, 17, 18, 19, 20, 21, 22, 23, 24, 25, 26, 27, 28, 29, 30, 31, 32, 33, 34, 35, 36, 37] rfl rfl rfl rfl) rfl rfl hl.1 rfl (lv_room (Nat.le_of_ble_eq_true rfl)) dL_ordersFit_415 ⟨Nat.le_of_ble_eq_true rfl, Nat.le_of_ble_eq_true rfl⟩) hS (fun locs hS => ?_)
      refine lv_iadd hx hb dL_ordersFit_418 ?_
      refine lv_icmp_ne (tgt := 434) hx hb dL_ordersFit_419 (by decide) (fun c4 => ?_) (fun c4 => ?_)
      · replace hM := (if_neg c4).symm.trans hM
        exact hB434 y0 H _ _ hM hP hD hS (lv_sub hl [] rfl)
      · replace hM := (if_pos c4).symm.trans hM
        refine lv_aload_n hx hb dL_ordersFit_422 rfl (lv_at hl 1 rfl) ?_
        refine lv_iload_n hx hb dL_ordersFit_423 rfl (lv_at hl 2 rfl) ?_
        obtain ⟨r5, hr5, hM⟩ := ob hM
        refine wk_callM (ws' := (wSys cI cD kk.1 g r5.2)) (va_runS (As := [.ref (g 0), .int u1]) (rest := []) ⟨hx, hb, hml, hown, hts⟩ (c_L_waitsFit l dC dI cI cD cJ kk g y0 u1 _ hr5 H) (va_cwS 2 hts gL_ordersFit_L_waitsFit rfl rfl rfl (by decide +kernel) ⟨Nat.le_of_ble_eq_true rfl, Nat.le_of_ble_eq_true rfl⟩) (wk_preS hG hP hD [0, 1, 2, 3, 4, 5, 6, 7, 8, 9, 10, 11, 12, 13, 14, 15, 16, 17, 18, 19, 20, 21, 22, 23, 24, 25, 26, 27, 28, 29, 30, 31, 32, 33, 34, 35, 36, 37] rfl rfl) rfl rfl hl.1 rfl (lv_room (Nat.le_of_ble_eq_true rfl)) dL_ordersFit_424 ⟨Nat.le_of_ble_eq_true rfl, Nat.le_of_ble_eq_true rfl⟩) hP hD hS hA [0, 1, 2, 3, 4, 5, 6, 7, 8, 9, 10, 11, 12, 13, 14, 15, 16, 17, 18, 19, 20, 21, 22, 23, 24, 25, 26, 27, 28, 29, 30, 31, 32, 33, 34, 35, 36, 37] [] [0, 1, 2, 3, 4, 5, 6, 7, 8, 9, 10, 11, 12, 13, 14, 15, 16, 17, 18, 19, 20, 21, 22, 23, 24, 25, 26, 27, 28, 29, 30, 31, 32, 33, 34, 35, 36, 37] rfl rfl rfl (by decide) rfl rfl (fun H locs hP hD hS => ?_)
        refine lv_if_eq (tgt := 434) hx hb dL_ordersFit_427 (by decide) (fun c6 => ?_) (fun c6 => ?_)
        · replace hM := (if_pos c6).symm.trans hM
          exact hB434 r5.2 H _ _ hM hP hD hS (lv_sub hl [] rfl)
        · replace hM := (if_neg c6).symm.trans hM
          refine lv_iconst (v := (1 : Int32)) hx hb dL_ordersFit_430 (by decide) ?_
          refine lv_goto (tgt := 435) hx hb dL_ordersFit_431 (by decide) ?_
          exact hB435 true r5.2 H _ _ hM hP hD hS (lv_sub hl [] rfl)
  have hB396 : ∀ (u1 : Int32) (u6 : Int32) (y0 : SS) (H : Heap) (locs : List Loc) (ls : Array Slot), M_L_ordersFit_396 x u1 u6 y0 = some out → va_P (dC, dI) vwCl (wSys cI cD kk.1 g y0) H → va_D A (wSys cI cD kk.1 g y0) → va_S A s.heap H locs → lv_has ls 11 [(0, .ref (g 0)), (1, .int u1), (6, .int u6)] → W p l e ({ frames := 6, cells := 0, slots := 0, locals := 139 } : Room) s m ([.ref (g 0)] : List Value).toArray below meth c H locs 0 0 Q (F0 m 396 ls []) := by
    intro u1 u6 y0 H locs ls hM hP hD hS hl
    unfold M_L_ordersFit_396 at hM
    refine lv_iconst (v := (0 : Int32)) hx hb dL_ordersFit_396 (by decide) ?_
    exact hB397 u1 u6 false y0 H _ _ hM hP hD hS (lv_sub hl [0, 1, 2] rfl)
  have hB370 : ∀ (u1 : Int32) (u4 : Int32) (u5 : Int32) (u6 : Int32) (y0 : SS) (H : Heap) (locs : List Loc) (ls : Array Slot), M_L_ordersFit_370 x u1 u4 u5 u6 y0 = some out → va_P (dC, dI) vwCl (wSys cI cD kk.1 g y0) H → va_D A (wSys cI cD kk.1 g y0) → va_S A s.heap H locs → lv_has ls 11 [(0, .ref (g 0)), (1, .int u1), (4, .int u4), (5, .int u5), (6, .int u6)] → W p l e ({ frames := 6, cells := 0, slots := 0, locals := 139 } : Room) s m ([.ref (g 0)] : List Value).toArray below meth c H locs 0 0 Q (F0 m 370 ls []) := by
    intro u1 u4 u5 u6 y0 H locs ls hM hP hD hS hl
    unfold M_L_ordersFit_370 at hM
    refine lv_aload_n hx hb dL_ordersFit_370 rfl (lv_at hl 0 rfl) ?_
    refine lv_iconst (v := (0 : Int32)) hx hb dL_ordersFit_371 (by decide) ?_
    refine lv_iconst (v := (5 : Int32)) hx hb dL_ordersFit_372 (by decide) ?_
    obtain ⟨r1, hr1, hM⟩ := ob hM
    refine wk_callP (va_runV (As := [.int (0 : Int32), .int (5 : Int32)]) (rest := []) ⟨hx, hb, hml, hown, hts⟩ (c_X6_controller l dC dI cI cD cJ kk g y0 (0 : Int32) (5 : Int32) _ hr1 H) (cwV 2 hts gL_ordersFit_X6_controller rfl rfl rfl (by decide +kernel) ⟨Nat.le_of_ble_eq_true rfl, Nat.le_of_ble_eq_true rfl⟩) (wk_preV (ci := 4) (q0 := 0) hG hP hD [0, 1, 2, 3, 4, 5, 6, 7, 8, 9, 10, 11, 12, 13, 14, 15, 16, 17, 18, 19, 20, 21, 22, 23, 24, 25, 26, 27, 28, 29, 30, 31, 32, 33, 34, 35, 36, 37] rfl rfl rfl rfl) rfl rfl hl.1 rfl (lv_room (Nat.le_of_ble_eq_true rfl)) dL_ordersFit_373 ⟨Nat.le_of_ble_eq_true rfl, Nat.le_of_ble_eq_true rfl⟩) hS (fun locs hS => ?_)
    refine lv_iload hx hb dL_ordersFit_376 (lv_at hl 2 rfl) ?_
    refine lv_icmp_ne (tgt := 396) hx hb dL_ordersFit_378 (by decide) (fun c2 => ?_) (fun c2 => ?_)
    · replace hM := (if_neg c2).symm.trans hM
      exact hB396 u1 u6 y0 H _ _ hM hP hD hS (lv_sub hl [0, 1, 4] rfl)
    · replace hM := (if_pos c2).symm.trans hM
      refine lv_aload_n hx hb dL_ordersFit_381 rfl (lv_at hl 0 rfl) ?_
      refine lv_iconst (v := (1 : Int32)) hx hb dL_ordersFit_382 (by decide) ?_
      refine lv_iconst (v := (5 : Int32)) hx hb dL_ordersFit_383 (by decide) ?_
      obtain ⟨r3, hr3, hM⟩ := ob hM
      refine wk_callP (va_runV (As := [.int (1 : Int32), .int (5 : Int32)]) (rest := []) ⟨hx, hb, hml, hown, hts⟩ (c_X6_controller l dC dI cI cD cJ kk g y0 (1 : Int32) (5 : Int32) _ hr3 H) (cwV 2 hts gL_ordersFit_X6_controller rfl rfl rfl (by decide +kernel) ⟨Nat.le_of_ble_eq_true rfl, Nat.le_of_ble_eq_true rfl⟩) (wk_preV (ci := 4) (q0 := 0) hG hP hD [0, 1, 2, 3, 4, 5, 6, 7, 8, 9, 10, 11, 12, 13, 14, 15, 16, 17, 18, 19, 20, 21, 22, 23, 24, 25, 26, 27, 28, 29, 30, 31, 32, 33, 34, 35, 36, 37] rfl rfl rfl rfl) rfl rfl hl.1 rfl (lv_room (Nat.le_of_ble_eq_true rfl)) dL_ordersFit_384 ⟨Nat.le_of_ble_eq_true rfl, Nat.le_of_ble_eq_true rfl⟩) hS (fun locs hS => ?_)
      refine lv_iload hx hb dL_ordersFit_387 (lv_at hl 3 rfl) ?_
      refine lv_icmp_ne (tgt := 396) hx hb dL_ordersFit_389 (by decide) (fun c4 => ?_) (fun c4 => ?_)
      · replace hM := (if_neg c4).symm.trans hM
        exact hB396 u1 u6 y0 H _ _ hM hP hD hS (lv_sub hl [0, 1, 4] rfl)
      · replace hM := (if_pos c4).symm.trans hM
        refine lv_iconst (v := (1 : Int32)) hx hb dL_ordersFit_392 (by decide) ?_
        refine lv_goto (tgt := 397) hx hb dL_ordersFit_393 (by decide) ?_
        exact hB397 u1 u6 true y0 H _ _ hM hP hD hS (lv_sub hl [0, 1, 4] rfl)
  have hB352 : ∀ (u1 : Int32) (u2 : Bool) (u3 : Int32) (u4 : Int32) (u5 : Int32) (u6 : Int32) (y0 : SS) (H : Heap) (locs : List Loc) (ls : Array Slot), M_L_ordersFit_352 x u1 u2 u3 u4 u5 u6 y0 = some out → va_P (dC, dI) vwCl (wSys cI cD kk.1 g y0) H → va_D A (wSys cI cD kk.1 g y0) → va_S A s.heap H locs → lv_has ls 11 [(0, .ref (g 0)), (1, .int u1), (2, .int (zI u2)), (3, .int u3), (4, .int u4), (5, .int u5), (6, .int u6)] → W p l e ({ frames := 6, cells := 0, slots := 0, locals := 139 } : Room) s m ([.ref (g 0)] : List Value).toArray below meth c H locs 0 0 Q (F0 m 352 ls []) := by
    intro u1 u2 u3 u4 u5 u6 y0 H locs ls hM hP hD hS hl
    unfold M_L_ordersFit_352 at hM
    refine lv_iload_n hx hb dL_ordersFit_352 rfl (lv_at hl 2 rfl) ?_
    refine lv_if_eq (tgt := 396) hx hb dL_ordersFit_353 (by decide) (fun c1 => ?_) (fun c1 => ?_)
    · replace hM := (if_pos c1).symm.trans hM
      exact hB396 u1 u6 y0 H _ _ hM hP hD hS (lv_sub hl [0, 1, 6] rfl)
    · replace hM := (if_neg c1).symm.trans hM
      refine lv_iload_n hx hb dL_ordersFit_356 rfl (lv_at hl 3 rfl) ?_
      refine lv_if_lt (tgt := 370) hx hb dL_ordersFit_357 (by decide) (fun c2 => ?_) (fun c2 => ?_)
      · replace hM := (if_pos c2).symm.trans hM
        exact hB370 u1 u4 u5 u6 y0 H _ _ hM hP hD hS (lv_sub hl [0, 1, 4, 5, 6] rfl)
      · replace hM := (if_neg c2).symm.trans hM
        refine lv_aload_n hx hb dL_ordersFit_360 rfl (lv_at hl 0 rfl) ?_
        refine lv_bipush (v := (6 : Int32)) hx hb dL_ordersFit_361 (by decide) ?_
        obtain ⟨r3, hr3, hM⟩ := ob hM
        refine wk_callP (va_runV (As := [.int (6 : Int32)]) (rest := []) ⟨hx, hb, hml, hown, hts⟩ (c_X6_whole l dC dI cI cD cJ kk g y0 (6 : Int32) _ hr3 H) (cwV 1 hts gL_ordersFit_X6_whole rfl rfl rfl (by decide +kernel) ⟨Nat.le_of_ble_eq_true rfl, Nat.le_of_ble_eq_true rfl⟩) (wk_preV (ci := 4) (q0 := 0) hG hP hD [0, 1, 2, 3, 4, 5, 6, 7, 8, 9, 10, 11, 12, 13, 14, 15, 16, 17, 18, 19, 20, 21, 22, 23, 24, 25, 26, 27, 28, 29, 30, 31, 32, 33, 34, 35, 36, 37] rfl rfl rfl rfl) rfl rfl hl.1 rfl (lv_room (Nat.le_of_ble_eq_true rfl)) dL_ordersFit_363 ⟨Nat.le_of_ble_eq_true rfl, Nat.le_of_ble_eq_true rfl⟩) hS (fun locs hS => ?_)
        refine lv_iload_n hx hb dL_ordersFit_366 rfl (lv_at hl 3 rfl) ?_
        refine lv_icmp_ne (tgt := 396) hx hb dL_ordersFit_367 (by decide) (fun c4 => ?_) (fun c4 => ?_)
        · replace hM := (if_neg c4).symm.trans hM
          exact hB396 u1 u6 y0 H _ _ hM hP hD hS (lv_sub hl [0, 1, 6] rfl)
        · replace hM := (if_pos c4).symm.trans hM
          exact hB370 u1 u4 u5 u6 y0 H _ _ hM hP hD hS (lv_sub hl [0, 1, 4, 5, 6] rfl)
  have hL72 : ∀ (n72 : Nat) (u1 : Int32) (u2 : Bool) (u3 : Int32) (u4 : Int32) (u5 : Int32) (u6 : Int32) (u7 : Int32) (y0 : SS) (H : Heap) (locs : List Loc) (ls : Array Slot), lpF (M_L_ordersFit_72s x) n72 (u1, u2, u3, u4, u5, u6, u7, y0) = some out → va_P (dC, dI) vwCl (wSys cI cD kk.1 g y0) H → va_D A (wSys cI cD kk.1 g y0) → va_S A s.heap H locs → lv_has ls 11 [(0, .ref (g 0)), (1, .int u1), (2, .int (zI u2)), (3, .int u3), (4, .int u4), (5, .int u5), (6, .int u6), (7, .int u7)] → W p l e ({ frames := 6, cells := 0, slots := 0, locals := 139 } : Room) s m ([.ref (g 0)] : List Value).toArray below meth c H locs 0 0 Q (F0 m 72 ls []) := by
    intro n72
    induction n72 with
    | zero => intro u1 u2 u3 u4 u5 u6 u7 y0 H locs ls hM; exact lpF_0 hM
    | succ n72 ih72 =>
      have hB345 : ∀ (u1 : Int32) (u3 : Int32) (u4 : Int32) (u5 : Int32) (u6 : Int32) (u7 : Int32) (w0 : Bool) (y0 : SS) (H : Heap) (locs : List Loc) (ls : Array Slot), M_L_ordersFit_345 x (lpF (M_L_ordersFit_72s x) n72) u1 u3 u4 u5 u6 u7 w0 y0 = some out → va_P (dC, dI) vwCl (wSys cI cD kk.1 g y0) H → va_D A (wSys cI cD kk.1 g y0) → va_S A s.heap H locs → lv_has ls 11 [(0, .ref (g 0)), (1, .int u1), (3, .int u3), (4, .int u4), (5, .int u5), (6, .int u6), (7, .int u7)] → W p l e ({ frames := 6, cells := 0, slots := 0, locals := 139 } : Room) s m ([.ref (g 0)] : List Value).toArray below meth c H locs 0 0 Q (F0 m 345 ls [.int (zI w0)]) := by
        intro u1 u3 u4 u5 u6 u7 w0 y0 H locs ls hM hP hD hS hl
        unfold M_L_ordersFit_345 at hM
        refine lv_istore_n (lv' := [(2, .int (zI w0)), (0, .ref (g 0)), (1, .int u1), (3, .int u3), (4, .int u4), (5, .int u5), (6, .int u6), (7, .int u7)]) hx hb dL_ordersFit_345 rfl hl (by decide) rfl (fun ls hl => ?_)
        refine lv_iinc (v := (u7 + 1)) (lv' := [(7, .int (u7 + 1)), (2, .int (zI w0)), (0, .ref (g 0)), (1, .int u1), (3, .int u3), (4, .int u4), (5, .int u5), (6, .int u6)]) hx hb dL_ordersFit_346 hl (k := 7) rfl rfl (by decide) rfl (fun ls hl => ?_)
        refine lv_goto (tgt := 72) hx hb dL_ordersFit_349 (by decide) ?_
        exact ih72 u1 w0 u3 u4 u5 u6 (u7 + 1) y0 H _ _ hM hP hD hS (lv_sub hl [2, 3, 1, 4, 5, 6, 7, 0] rfl)
      have hB340 : ∀ (u1 : Int32) (u3 : Int32) (u4 : Int32) (u5 : Int32) (u6 : Int32) (u7 : Int32) (y0 : SS) (H : Heap) (locs : List Loc) (ls : Array Slot), M_L_ordersFit_340 x (lpF (M_L_ordersFit_72s x) n72) u1 u3 u4 u5 u6 u7 y0 = some out → va_P (dC, dI) vwCl (wSys cI cD kk.1 g y0) H → va_D A (wSys cI cD kk.1 g y0) → va_S A s.heap H locs → lv_has ls 11 [(0, .ref (g 0)), (1, .int u1), (3, .int u3), (4, .int u4), (5, .int u5), (6, .int u6), (7, .int u7)] → W p l e ({ frames := 6, cells := 0, slots := 0, locals := 139 } : Room) s m ([.ref (g 0)] : List Value).toArray below meth c H locs 0 0 Q (F0 m 340 ls []) := by
        intro u1 u3 u4 u5 u6 u7 y0 H locs ls hM hP hD hS hl
        unfold M_L_ordersFit_340 at hM
        refine lv_iconst (v := (1 : Int32)) hx hb dL_ordersFit_340 (by decide) ?_
        refine lv_goto (tgt := 345) hx hb dL_ordersFit_341 (by decide) ?_
        exact hB345 u1 u3 u4 u5 u6 u7 true y0 H _ _ hM hP hD hS (lv_sub hl [0, 1, 2, 3, 4, 5, 6] rfl)
      have hB344 : ∀ (u1 : Int32) (u3 : Int32) (u4 : Int32) (u5 : Int32) (u6 : Int32) (u7 : Int32) (y0 : SS) (H : Heap) (locs : List Loc) (ls : Array Slot), M_L_ordersFit_344 x (lpF (M_L_ordersFit_72s x) n72) u1 u3 u4 u5 u6 u7 y0 = some out → va_P (dC, dI) vwCl (wSys cI cD kk.1 g y0) H → va_D A (wSys cI cD kk.1 g y0) → va_S A s.heap H locs → lv_has ls 11 [(0, .ref (g 0)), (1, .int u1), (3, .int u3), (4, .int u4), (5, .int u5), (6, .int u6), (7, .int u7)] → W p l e ({ frames := 6, cells := 0, slots := 0, locals := 139 } : Room) s m ([.ref (g 0)] : List Value).toArray below meth c H locs 0 0 Q (F0 m 344 ls []) := by
        intro u1 u3 u4 u5 u6 u7 y0 H locs ls hM hP hD hS hl
        unfold M_L_ordersFit_344 at hM
        refine lv_iconst (v := (0 : Int32)) hx hb dL_ordersFit_344 (by decide) ?_
        exact hB345 u1 u3 u4 u5 u6 u7 false y0 H _ _ hM hP hD hS (lv_sub hl [0, 1, 2, 3, 4, 5, 6] rfl)
      have hB294 : ∀ (u1 : Int32) (u3 : Int32) (u4 : Int32) (u5 : Int32) (u6 : Int32) (u7 : Int32) (u8 : Int32) (w0 : Bool) (y0 : SS) (H : Heap) (locs : List Loc) (ls : Array Slot), M_L_ordersFit_294 x (lpF (M_L_ordersFit_72s x) n72) u1 u3 u4 u5 u6 u7 u8 w0 y0 = some out → va_P (dC, dI) vwCl (wSys cI cD kk.1 g y0) H → va_D A (wSys cI cD kk.1 g y0) → va_S A s.heap H locs → lv_has ls 11 [(0, .ref (g 0)), (1, .int u1), (3, .int u3), (4, .int u4), (5, .int u5), (6, .int u6), (7, .int u7), (8, .int u8)] → W p l e ({ frames := 6, cells := 0, slots := 0, locals := 139 } : Room) s m ([.ref (g 0)] : List Value).toArray below meth c H locs 0 0 Q (F0 m 294 ls [.int (zI w0)]) := by
        intro u1 u3 u4 u5 u6 u7 u8 w0 y0 H locs ls hM hP hD hS hl
        unfold M_L_ordersFit_294 at hM
        refine lv_istore_n (lv' := [(2, .int (zI w0)), (0, .ref (g 0)), (1, .int u1), (3, .int u3), (4, .int u4), (5, .int u5), (6, .int u6), (7, .int u7), (8, .int u8)]) hx hb dL_ordersFit_294 rfl hl (by decide) rfl (fun ls hl => ?_)
        refine lv_iload_n hx hb dL_ordersFit_295 rfl (lv_at hl 0 rfl) ?_
        refine lv_if_eq (tgt := 344) hx hb dL_ordersFit_296 (by decide) (fun c1 => ?_) (fun c1 => ?_)
        · replace hM := (if_pos c1).symm.trans hM
          exact hB344 u1 u3 u4 u5 u6 u7 y0 H _ _ hM hP hD hS (lv_sub hl [1, 2, 3, 4, 5, 6, 7] rfl)
        · replace hM := (if_neg c1).symm.trans hM
          refine lv_iload hx hb dL_ordersFit_299 (lv_at hl 8 rfl) ?_
          refine lv_iconst (v := (2 : Int32)) hx hb dL_ordersFit_301 (by decide) ?_
          refine lv_icmp_ne (tgt := 340) hx hb dL_ordersFit_302 (by decide) (fun c2 => ?_) (fun c2 => ?_)
          · replace hM := (if_neg c2).symm.trans hM
            exact hB340 u1 u3 u4 u5 u6 u7 y0 H _ _ hM hP hD hS (lv_sub hl [1, 2, 3, 4, 5, 6, 7] rfl)
          · replace hM := (if_pos c2).symm.trans hM
            refine lv_aload_n hx hb dL_ordersFit_305 rfl (lv_at hl 1 rfl) ?_
            refine lv_iload hx hb dL_ordersFit_306 (lv_at hl 7 rfl) ?_
            refine lv_bipush (v := (8 : Int32)) hx hb dL_ordersFit_308 (by decide) ?_
            obtain ⟨r3, hr3, hM⟩ := ob hM
            refine wk_callP (va_runV (As := [.int u7, .int (8 : Int32)]) (rest := []) ⟨hx, hb, hml, hown, hts⟩ (c_X6_orderOf l dC dI cI cD cJ kk g y0 u7 (8 : Int32) _ hr3 H) (cwV 2 hts gL_ordersFit_X6_orderOf rfl rfl rfl (by decide +kernel) ⟨Nat.le_of_ble_eq_true rfl, Nat.le_of_ble_eq_true rfl⟩) (wk_preV (ci := 4) (q0 := 0) hG hP hD [0, 1, 2, 3, 4, 5, 6, 7, 8, 9, 10, 11, 12, 13, 14, 15, 16, 17, 18, 19, 20, 21, 22, 23, 24, 25, 26, 27, 28, 29, 30, 31, 32, 33, 34, 35, 36, 37] rfl rfl rfl rfl) rfl rfl hl.1 rfl (lv_room (Nat.le_of_ble_eq_true rfl)) dL_ordersFit_310 ⟨Nat.le_of_ble_eq_true rfl, Nat.le_of_ble_eq_true rfl⟩) hS (fun locs hS => ?_)
            refine lv_aload_n hx hb dL_ordersFit_313 rfl (lv_at hl 1 rfl) ?_
            refine lv_iload hx hb dL_ordersFit_314 (lv_at hl 7 rfl) ?_
            refine lv_bipush (v := (7 : Int32)) hx hb dL_ordersFit_316 (by decide) ?_
            obtain ⟨r4, hr4, hM⟩ := ob hM
            refine wk_callP (va_runV (As := [.int u7, .int (7 : Int32)]) (rest := [.int r3]) ⟨hx, hb, hml, hown, hts⟩ (c_X6_orderOf l dC dI cI cD cJ kk g y0 u7 (7 : Int32) _ hr4 H) (cwV 2 hts gL_ordersFit_X6_orderOf rfl rfl rfl (by decide +kernel) ⟨Nat.le_of_ble_eq_true rfl, Nat.le_of_ble_eq_true rfl⟩) (wk_preV (ci := 4) (q0 := 0) hG hP hD [0, 1, 2, 3, 4, 5, 6, 7, 8, 9, 10, 11, 12, 13, 14, 15, 16, 17, 18, 19, 20, 21, 22, 23, 24, 25, 26, 27, 28, 29, 30, 31, 32, 33, 34, 35, 36, 37] rfl rfl rfl rfl) rfl rfl hl.1 rfl (lv_room (Nat.le_of_ble_eq_true rfl)) dL_ordersFit_318 ⟨Nat.le_of_ble_eq_true rfl, Nat.le_of_ble_eq_true rfl⟩) hS (fun locs hS => ?_)
            refine lv_icmp_lt (tgt := 344) hx hb dL_ordersFit_321 (by decide) (fun c5 => ?_) (fun c5 => ?_)
            · replace hM := (if_pos c5).symm.trans hM
              exact hB344 u1 u3 u4 u5 u6 u7 y0 H _ _ hM hP hD hS (lv_sub hl [1, 2, 3, 4, 5, 6, 7] rfl)
            · replace hM := (if_neg c5).symm.trans hM
              refine lv_aload_n hx hb dL_ordersFit_324 rfl (lv_at hl 1 rfl) ?_
              refine lv_iload hx hb dL_ordersFit_325 (lv_at hl 7 rfl) ?_
              refine lv_bipush (v := (8 : Int32)) hx hb dL_ordersFit_327 (by decide) ?_
              obtain ⟨r6, hr6, hM⟩ := ob hM
              refine wk_callP (va_runV (As := [.int u7, .int (8 : Int32)]) (rest := []) ⟨hx, hb, hml, hown, hts⟩ (c_X6_orderOf l dC dI cI cD cJ kk g y0 u7 (8 : Int32) _ hr6 H) (cwV 2 hts gL_ordersFit_X6_orderOf rfl rfl rfl (by decide +kernel) ⟨Nat.le_of_ble_eq_true rfl, Nat.le_of_ble_eq_true rfl⟩) (wk_preV (ci := 4) (q0 := 0) hG hP hD [0, 1, 2, 3, 4, 5, 6, 7, 8, 9, 10, 11, 12, 13, 14, 15, 16, 17, 18, 19, 20, 21, 22, 23, 24, 25, 26, 27, 28, 29, 30, 31, 32, 33, 34, 35, 36, 37] rfl rfl rfl rfl) rfl rfl hl.1 rfl (lv_room (Nat.le_of_ble_eq_true rfl)) dL_ordersFit_329 ⟨Nat.le_of_ble_eq_true rfl, Nat.le_of_ble_eq_true rfl⟩) hS (fun locs hS => ?_)
              refine lv_aload_n hx hb dL_ordersFit_332 rfl (lv_at hl 1 rfl) ?_
              refine lv_iconst (v := (5 : Int32)) hx hb dL_ordersFit_333 (by decide) ?_
              obtain ⟨r7, hr7, hM⟩ := ob hM
              refine wk_callP (va_runV (As := [.int (5 : Int32)]) (rest := [.int r6]) ⟨hx, hb, hml, hown, hts⟩ (c_X6_whole l dC dI cI cD cJ kk g y0 (5 : Int32) _ hr7 H) (cwV 1 hts gL_ordersFit_X6_whole rfl rfl rfl (by decide +kernel) ⟨Nat.le_of_ble_eq_true rfl, Nat.le_of_ble_eq_true rfl⟩) (wk_preV (ci := 4) (q0 := 0) hG hP hD [0, 1, 2, 3, 4, 5, 6, 7, 8, 9, 10, 11, 12, 13, 14, 15, 16, 17, 18, 19, 20, 21, 22, 23, 24, 25, 26, 27, 28, 29, 30, 31, 32, 33, 34, 35, 36, 37] rfl rfl rfl rfl) rfl rfl hl.1 rfl (lv_room (Nat.le_of_ble_eq_true rfl)) dL_ordersFit_334 ⟨Nat.le_of_ble_eq_true rfl, Nat.le_of_ble_eq_true rfl⟩) hS (fun locs hS => ?_)
              refine lv_icmp_gt (tgt := 344) hx hb dL_ordersFit_337 (by decide) (fun c8 => ?_) (fun c8 => ?_)
              · replace hM := (if_pos c8).symm.trans hM
                exact hB344 u1 u3 u4 u5 u6 u7 y0 H _ _ hM hP hD hS (lv_sub hl [1, 2, 3, 4, 5, 6, 7] rfl)
              · replace hM := (if_neg c8).symm.trans hM
                exact hB340 u1 u3 u4 u5 u6 u7 y0 H _ _ hM hP hD hS (lv_sub hl [1, 2, 3, 4, 5, 6, 7] rfl)
      have hB293 : ∀ (u1 : Int32) (u3 : Int32) (u4 : Int32) (u5 : Int32) (u6 : Int32) (u7 : Int32) (u8 : Int32) (y0 : SS) (H : Heap) (locs : List Loc) (ls : Array Slot), M_L_ordersFit_293 x (lpF (M_L_ordersFit_72s x) n72) u1 u3 u4 u5 u6 u7 u8 y0 = some out → va_P (dC, dI) vwCl (wSys cI cD kk.1 g y0) H → va_D A (wSys cI cD kk.1 g y0) → va_S A s.heap H locs → lv_has ls 11 [(0, .ref (g 0)), (1, .int u1), (3, .int u3), (4, .int u4), (5, .int u5), (6, .int u6), (7, .int u7), (8, .int u8)] → W p l e ({ frames := 6, cells := 0, slots := 0, locals := 139 } : Room) s m ([.ref (g 0)] : List Value).toArray below meth c H locs 0 0 Q (F0 m 293 ls []) := by
        intro u1 u3 u4 u5 u6 u7 u8 y0 H locs ls hM hP hD hS hl
        unfold M_L_ordersFit_293 at hM
        refine lv_iconst (v := (0 : Int32)) hx hb dL_ordersFit_293 (by decide) ?_
        exact hB294 u1 u3 u4 u5 u6 u7 u8 false y0 H _ _ hM hP hD hS (lv_sub hl [0, 1, 2, 3, 4, 5, 6, 7] rfl)
      have hB273 : ∀ (u1 : Int32) (u3 : Int32) (u4 : Int32) (u5 : Int32) (u6 : Int32) (u7 : Int32) (u8 : Int32) (y0 : SS) (H : Heap) (locs : List Loc) (ls : Array Slot), M_L_ordersFit_273 x (lpF (M_L_ordersFit_72s x) n72) u1 u3 u4 u5 u6 u7 u8 y0 = some out → va_P (dC, dI) vwCl (wSys cI cD kk.1 g y0) H → va_D A (wSys cI cD kk.1 g y0) → va_S A s.heap H locs → lv_has ls 11 [(0, .ref (g 0)), (1, .int u1), (3, .int u3), (4, .int u4), (5, .int u5), (6, .int u6), (7, .int u7), (8, .int u8)] → W p l e ({ frames := 6, cells := 0, slots := 0, locals := 139 } : Room) s m ([.ref (g 0)] : List Value).toArray below meth c H locs 0 0 Q (F0 m 273 ls []) := by
        intro u1 u3 u4 u5 u6 u7 u8 y0 H locs ls hM hP hD hS hl
        unfold M_L_ordersFit_273 at hM
        refine lv_aload_n hx hb dL_ordersFit_273 rfl (lv_at hl 0 rfl) ?_
        refine lv_iload hx hb dL_ordersFit_274 (lv_at hl 6 rfl) ?_
        refine lv_bipush (v := (7 : Int32)) hx hb dL_ordersFit_276 (by decide) ?_
        obtain ⟨r1, hr1, hM⟩ := ob hM
        refine wk_callP (va_runV (As := [.int u7, .int (7 : Int32)]) (rest := []) ⟨hx, hb, hml, hown, hts⟩ (c_X6_orderOf l dC dI cI cD cJ kk g y0 u7 (7 : Int32) _ hr1 H) (cwV 2 hts gL_ordersFit_X6_orderOf rfl rfl rfl (by decide +kernel) ⟨Nat.le_of_ble_eq_true rfl, Nat.le_of_ble_eq_true rfl⟩) (wk_preV (ci := 4) (q0 := 0) hG hP hD [0, 1, 2, 3, 4, 5, 6, 7, 8, 9, 10, 11, 12, 13, 14, 15, 16, 17, 18, 19, 20, 21, 22, 23, 24, 25, 26, 27, 28, 29, 30, 31, 32, 33, 34, 35, 36, 37] rfl rfl rfl rfl) rfl rfl hl.1 rfl (lv_room (Nat.le_of_ble_eq_true rfl)) dL_ordersFit_278 ⟨Nat.le_of_ble_eq_true rfl, Nat.le_of_ble_eq_true rfl⟩) hS (fun locs hS => ?_)
        refine lv_aload_n hx hb dL_ordersFit_281 rfl (lv_at hl 0 rfl) ?_
        refine lv_iconst (v := (5 : Int32)) hx hb dL_ordersFit_282 (by decide) ?_
        obtain ⟨r2, hr2, hM⟩ := ob hM
        refine wk_callP (va_runV (As := [.int (5 : Int32)]) (rest := [.int r1]) ⟨hx, hb, hml, hown, hts⟩ (c_X6_whole l dC dI cI cD cJ kk g y0 (5 : Int32) _ hr2 H) (cwV 1 hts gL_ordersFit_X6_whole rfl rfl rfl (by decide +kernel) ⟨Nat.le_of_ble_eq_true rfl, Nat.le_of_ble_eq_true rfl⟩) (wk_preV (ci := 4) (q0 := 0) hG hP hD [0, 1, 2, 3, 4, 5, 6, 7, 8, 9, 10, 11, 12, 13, 14, 15, 16, 17, 18, 19, 20, 21, 22, 23, 24, 25, 26, 27, 28, 29, 30, 31, 32, 33, 34, 35, 36, 37] rfl rfl rfl rfl) rfl rfl hl.1 rfl (lv_room (Nat.le_of_ble_eq_true rfl)) dL_ordersFit_283 ⟨Nat.le_of_ble_eq_true rfl, Nat.le_of_ble_eq_true rfl⟩) hS (fun locs hS => ?_)
        refine lv_icmp_gt (tgt := 293) hx hb dL_ordersFit_286 (by decide) (fun c3 => ?_) (fun c3 => ?_)
        · replace hM := (if_pos c3).symm.trans hM
          exact hB293 u1 u3 u4 u5 u6 u7 u8 y0 H _ _ hM hP hD hS (lv_sub hl [0, 1, 2, 3, 4, 5, 6, 7] rfl)
        · replace hM := (if_neg c3).symm.trans hM
          refine lv_iconst (v := (1 : Int32)) hx hb dL_ordersFit_289 (by decide) ?_
          refine lv_goto (tgt := 294) hx hb dL_ordersFit_290 (by decide) ?_
          exact hB294 u1 u3 u4 u5 u6 u7 u8 true y0 H _ _ hM hP hD hS (lv_sub hl [0, 1, 2, 3, 4, 5, 6, 7] rfl)
      have hB248 : ∀ (u1 : Int32) (u3 : Int32) (u4 : Int32) (u5 : Int32) (u6 : Int32) (u7 : Int32) (u8 : Int32) (u10 : Int32) (w0 : Bool) (y0 : SS) (H : Heap) (locs : List Loc) (ls : Array Slot), M_L_ordersFit_248 x (lpF (M_L_ordersFit_72s x) n72) u1 u3 u4 u5 u6 u7 u8 u10 w0 y0 = some out → va_P (dC, dI) vwCl (wSys cI cD kk.1 g y0) H → va_D A (wSys cI cD kk.1 g y0) → va_S A s.heap H locs → lv_has ls 11 [(0, .ref (g 0)), (1, .int u1), (3, .int u3), (4, .int u4), (5, .int u5), (6, .int u6), (7, .int u7), (8, .int u8), (10, .int u10)] → W p l e ({ frames := 6, cells := 0, slots := 0, locals := 139 } : Room) s m ([.ref (g 0)] : List Value).toArray below meth c H locs 0 0 Q (F0 m 248 ls [.int (zI w0)]) := by
        intro u1 u3 u4 u5 u6 u7 u8 u10 w0 y0 H locs ls hM hP hD hS hl
        unfold M_L_ordersFit_248 at hM
        refine lv_istore_n (lv' := [(2, .int (zI w0)), (0, .ref (g 0)), (1, .int u1), (3, .int u3), (4, .int u4), (5, .int u5), (6, .int u6), (7, .int u7), (8, .int u8), (10, .int u10)]) hx hb dL_ordersFit_248 rfl hl (by decide) rfl (fun ls hl => ?_)
        refine lv_iload_n hx hb dL_ordersFit_249 rfl (lv_at hl 0 rfl) ?_
        refine lv_if_eq (tgt := 293) hx hb dL_ordersFit_250 (by decide) (fun c1 => ?_) (fun c1 => ?_)
        · replace hM := (if_pos c1).symm.trans hM
          exact hB293 u1 u3 u4 u5 u6 u7 u8 y0 H _ _ hM hP hD hS (lv_sub hl [1, 2, 3, 4, 5, 6, 7, 8] rfl)
        · replace hM := (if_neg c1).symm.trans hM
          refine lv_iload hx hb dL_ordersFit_253 (lv_at hl 9 rfl) ?_
          refine lv_iload hx hb dL_ordersFit_255 (lv_at hl 7 rfl) ?_
          refine lv_icmp_lt (tgt := 293) hx hb dL_ordersFit_257 (by decide) (fun c2 => ?_) (fun c2 => ?_)
          · replace hM := (if_pos c2).symm.trans hM
            exact hB293 u1 u3 u4 u5 u6 u7 u8 y0 H _ _ hM hP hD hS (lv_sub hl [1, 2, 3, 4, 5, 6, 7, 8] rfl)
          · replace hM := (if_neg c2).symm.trans hM
            refine lv_iload hx hb dL_ordersFit_260 (lv_at hl 9 rfl) ?_
            refine lv_iload hx hb dL_ordersFit_262 (lv_at hl 7 rfl) ?_
            refine lv_icmp_eq (tgt := 273) hx hb dL_ordersFit_264 (by decide) (fun c3 => ?_) (fun c3 => ?_)
            · replace hM := (if_pos c3).symm.trans hM
              exact hB273 u1 u3 u4 u5 u6 u7 u8 y0 H _ _ hM hP hD hS (lv_sub hl [1, 2, 3, 4, 5, 6, 7, 8] rfl)
            · replace hM := (if_neg c3).symm.trans hM
              refine lv_iload hx hb dL_ordersFit_267 (lv_at hl 8 rfl) ?_
              refine lv_iconst (v := (2 : Int32)) hx hb dL_ordersFit_269 (by decide) ?_
              refine lv_icmp_lt (tgt := 293) hx hb dL_ordersFit_270 (by decide) (fun c4 => ?_) (fun c4 => ?_)
              · replace hM := (if_pos c4).symm.trans hM
                exact hB293 u1 u3 u4 u5 u6 u7 u8 y0 H _ _ hM hP hD hS (lv_sub hl [1, 2, 3, 4, 5, 6, 7, 8] rfl)
              · replace hM := (if_neg c4).symm.trans hM
                exact hB273 u1 u3 u4 u5 u6 u7 u8 y0 H _ _ hM hP hD hS (lv_sub hl [1, 2, 3, 4, 5, 6, 7, 8] rfl)
      have hB247 : ∀ (u1 : Int32) (u3 : Int32) (u4 : Int32) (u5 : Int32) (u6 : Int32) (u7 : Int32) (u8 : Int32) (u10 : Int32) (y0 : SS) (H : Heap) (locs : List Loc) (ls : Array Slot), M_L_ordersFit_247 x (lpF (M_L_ordersFit_72s x) n72) u1 u3 u4 u5 u6 u7 u8 u10 y0 = some out → va_P (dC, dI) vwCl (wSys cI cD kk.1 g y0) H → va_D A (wSys cI cD kk.1 g y0) → va_S A s.heap H locs → lv_has ls 11 [(0, .ref (g 0)), (1, .int u1), (3, .int u3), (4, .int u4), (5, .int u5), (6, .int u6), (7, .int u7), (8, .int u8), (10, .int u10)] → W p l e ({ frames := 6, cells := 0, slots := 0, locals := 139 } : Room) s m ([.ref (g 0)] : List Value).toArray below meth c H locs 0 0 Q (F0 m 247 ls []) := by
        intro u1 u3 u4 u5 u6 u7 u8 u10 y0 H locs ls hM hP hD hS hl
        unfold M_L_ordersFit_247 at hM
        refine lv_iconst (v := (0 : Int32)) hx hb dL_ordersFit_247 (by decide) ?_
        exact hB248 u1 u3 u4 u5 u6 u7 u8 u10 false y0 H _ _ hM hP hD hS (lv_sub hl [0, 1, 2, 3, 4, 5, 6, 7, 8] rfl)
      have hB240 : ∀ (u1 : Int32) (u3 : Int32) (u4 : Int32) (u5 : Int32) (u6 : Int32) (u7 : Int32) (u8 : Int32) (u10 : Int32) (w0 : Bool) (w1 : Bool) (y0 : SS) (H : Heap) (locs : List Loc) (ls : Array Slot), M_L_ordersFit_240 x (lpF (M_L_ordersFit_72s x) n72) u1 u3 u4 u5 u6 u7 u8 u10 w0 w1 y0 = some out → va_P (dC, dI) vwCl (wSys cI cD kk.1 g y0) H → va_D A (wSys cI cD kk.1 g y0) → va_S A s.heap H locs → lv_has ls 11 [(0, .ref (g 0)), (1, .int u1), (3, .int u3), (4, .int u4), (5, .int u5), (6, .int u6), (7, .int u7), (8, .int u8), (10, .int u10)] → W p l e ({ frames := 6, cells := 0, slots := 0, locals := 139 } : Room) s m ([.ref (g 0)] : List Value).toArray below meth c H locs 0 0 Q (F0 m 240 ls [.int (zI w1), .int (zI w0)]) := by
        intro u1 u3 u4 u5 u6 u7 u8 u10 w0 w1 y0 H locs ls hM hP hD hS hl
        unfold M_L_ordersFit_240 at hM
        refine lv_icmp_ne (tgt := 247) hx hb dL_ordersFit_240 (by decide) (fun c1 => ?_) (fun c1 => ?_)
        · replace hM := (if_neg c1).symm.trans hM
          exact hB247 u1 u3 u4 u5 u6 u7 u8 u10 y0 H _ _ hM hP hD hS (lv_sub hl [0, 1, 2, 3, 4, 5, 6, 7, 8] rfl)
        · replace hM := (if_pos c1).symm.trans hM
          refine lv_iconst (v := (1 : Int32)) hx hb dL_ordersFit_243 (by decide) ?_
          refine lv_goto (tgt := 248) hx hb dL_ordersFit_244 (by decide) ?_
          exact hB248 u1 u3 u4 u5 u6 u7 u8 u10 true y0 H _ _ hM hP hD hS (lv_sub hl [0, 1, 2, 3, 4, 5, 6, 7, 8] rfl)
      have hB224 : ∀ (u1 : Int32) (u3 : Int32) (u4 : Int32) (u5 : Int32) (u6 : Int32) (u7 : Int32) (u8 : Int32) (u10 : Int32) (w0 : Bool) (y0 : SS) (H : Heap) (locs : List Loc) (ls : Array Slot), M_L_ordersFit_224 x (lpF (M_L_ordersFit_72s x) n72) u1 u3 u4 u5 u6 u7 u8 u10 w0 y0 = some out → va_P (dC, dI) vwCl (wSys cI cD kk.1 g y0) H → va_D A (wSys cI cD kk.1 g y0) → va_S A s.heap H locs → lv_has ls 11 [(0, .ref (g 0)), (1, .int u1), (3, .int u3), (4, .int u4), (5, .int u5), (6, .int u6), (7, .int u7), (8, .int u8), (10, .int u10)] → W p l e ({ frames := 6, cells := 0, slots := 0, locals := 139 } : Room) s m ([.ref (g 0)] : List Value).toArray below meth c H locs 0 0 Q (F0 m 224 ls [.int (zI w0)]) := by
        intro u1 u3 u4 u5 u6 u7 u8 u10 w0 y0 H locs ls hM hP hD hS hl
        unfold M_L_ordersFit_224 at hM
        refine lv_aload_n hx hb dL_ordersFit_224 rfl (lv_at hl 0 rfl) ?_
        refine lv_iload hx hb dL_ordersFit_225 (lv_at hl 6 rfl) ?_
        refine lv_bipush (v := (8 : Int32)) hx hb dL_ordersFit_227 (by decide) ?_
        obtain ⟨r1, hr1, hM⟩ := ob hM
        refine wk_callP (va_runV (As := [.int u7, .int (8 : Int32)]) (rest := [.int (zI w0)]) ⟨hx, hb, hml, hown, hts⟩ (c_X6_orderOf l dC dI cI cD cJ kk g y0 u7 (8 : Int32) _ hr1 H) (cwV 2 hts gL_ordersFit_X6_orderOf rfl rfl rfl (by decide +kernel) ⟨Nat.le_of_ble_eq_true rfl, Nat.le_of_ble_eq_true rfl⟩) (wk_preV (ci := 4) (q0 := 0) hG hP hD [0, 1, 2, 3, 4, 5, 6, 7, 8, 9, 10, 11, 12, 13, 14, 15, 16, 17, 18, 19, 20, 21, 22, 23, 24, 25, 26, 27, 28, 29, 30, 31, 32, 33, 34, 35, 36, 37] rfl rfl rfl rfl) rfl rfl hl.1 rfl (lv_room (Nat.le_of_ble_eq_true rfl)) dL_ordersFit_229 ⟨Nat.le_of_ble_eq_true rfl, Nat.le_of_ble_eq_true rfl⟩) hS (fun locs hS => ?_)
        refine lv_if_lt (tgt := 239) hx hb dL_ordersFit_232 (by decide) (fun c2 => ?_) (fun c2 => ?_)
        · replace hM := (if_pos c2).symm.trans hM
          refine lv_iconst (v := (0 : Int32)) hx hb dL_ordersFit_239 (by decide) ?_
          exact hB240 u1 u3 u4 u5 u6 u7 u8 u10 w0 false y0 H _ _ hM hP hD hS (lv_sub hl [0, 1, 2, 3, 4, 5, 6, 7, 8] rfl)
        · replace hM := (if_neg c2).symm.trans hM
          refine lv_iconst (v := (1 : Int32)) hx hb dL_ordersFit_235 (by decide) ?_
          refine lv_goto (tgt := 240) hx hb dL_ordersFit_236 (by decide) ?_
          exact hB240 u1 u3 u4 u5 u6 u7 u8 u10 w0 true y0 H _ _ hM hP hD hS (lv_sub hl [0, 1, 2, 3, 4, 5, 6, 7, 8] rfl)
      have hB210 : ∀ (u1 : Int32) (u3 : Int32) (u4 : Int32) (u5 : Int32) (u6 : Int32) (u7 : Int32) (u8 : Int32) (u10 : Int32) (w0 : Bool) (w1 : Bool) (y0 : SS) (H : Heap) (locs : List Loc) (ls : Array Slot), M_L_ordersFit_210 x (lpF (M_L_ordersFit_72s x) n72) u1 u3 u4 u5 u6 u7 u8 u10 w0 w1 y0 = some out → va_P (dC, dI) vwCl (wSys cI cD kk.1 g y0) H → va_D A (wSys cI cD kk.1 g y0) → va_S A s.heap H locs → lv_has ls 11 [(0, .ref (g 0)), (1, .int u1), (3, .int u3), (4, .int u4), (5, .int u5), (6, .int u6), (7, .int u7), (8, .int u8), (10, .int u10)] → W p l e ({ frames := 6, cells := 0, slots := 0, locals := 139 } : Room) s m ([.ref (g 0)] : List Value).toArray below meth c H locs 0 0 Q (F0 m 210 ls [.int (zI w1), .int (zI w0)]) := by
        intro u1 u3 u4 u5 u6 u7 u8 u10 w0 w1 y0 H locs ls hM hP hD hS hl
        unfold M_L_ordersFit_210 at hM
        refine lv_icmp_ne (tgt := 247) hx hb dL_ordersFit_210 (by decide) (fun c1 => ?_) (fun c1 => ?_)
        · replace hM := (if_neg c1).symm.trans hM
          exact hB247 u1 u3 u4 u5 u6 u7 u8 u10 y0 H _ _ hM hP hD hS (lv_sub hl [0, 1, 2, 3, 4, 5, 6, 7, 8] rfl)
        · replace hM := (if_pos c1).symm.trans hM
          refine lv_iload hx hb dL_ordersFit_213 (lv_at hl 7 rfl) ?_
          refine lv_iconst (v := (2 : Int32)) hx hb dL_ordersFit_215 (by decide) ?_
          refine lv_icmp_ne (tgt := 223) hx hb dL_ordersFit_216 (by decide) (fun c2 => ?_) (fun c2 => ?_)
          · replace hM := (if_neg c2).symm.trans hM
            refine lv_iconst (v := (0 : Int32)) hx hb dL_ordersFit_223 (by decide) ?_
            exact hB224 u1 u3 u4 u5 u6 u7 u8 u10 false y0 H _ _ hM hP hD hS (lv_sub hl [0, 1, 2, 3, 4, 5, 6, 7, 8] rfl)
          · replace hM := (if_pos c2).symm.trans hM
            refine lv_iconst (v := (1 : Int32)) hx hb dL_ordersFit_219 (by decide) ?_
            refine lv_goto (tgt := 224) hx hb dL_ordersFit_220 (by decide) ?_
            exact hB224 u1 u3 u4 u5 u6 u7 u8 u10 true y0 H _ _ hM hP hD hS (lv_sub hl [0, 1, 2, 3, 4, 5, 6, 7, 8] rfl)
      have hB200 : ∀ (u1 : Int32) (u3 : Int32) (u4 : Int32) (u5 : Int32) (u6 : Int32) (u7 : Int32) (u8 : Int32) (u9 : Int32) (u10 : Int32) (w0 : Bool) (y0 : SS) (H : Heap) (locs : List Loc) (ls : Array Slot), M_L_ordersFit_200 x (lpF (M_L_ordersFit_72s x) n72) u1 u3 u4 u5 u6 u7 u8 u9 u10 w0 y0 = some out → va_P (dC, dI) vwCl (wSys cI cD kk.1 g y0) H → va_D A (wSys cI cD kk.1 g y0) → va_S A s.heap H locs → lv_has ls 11 [(0, .ref (g 0)), (1, .int u1), (3, .int u3), (4, .int u4), (5, .int u5), (6, .int u6), (7, .int u7), (8, .int u8), (9, .int u9), (10, .int u10)] → W p l e ({ frames := 6, cells := 0, slots := 0, locals := 139 } : Room) s m ([.ref (g 0)] : List Value).toArray below meth c H locs 0 0 Q (F0 m 200 ls [.int (zI w0)]) := by
        intro u1 u3 u4 u5 u6 u7 u8 u9 u10 w0 y0 H locs ls hM hP hD hS hl
        unfold M_L_ordersFit_200 at hM
        refine lv_iload hx hb dL_ordersFit_200 (lv_at hl 8 rfl) ?_
        refine lv_if_lt (tgt := 209) hx hb dL_ordersFit_202 (by decide) (fun c1 => ?_) (fun c1 => ?_)
        · replace hM := (if_pos c1).symm.trans hM
          refine lv_iconst (v := (0 : Int32)) hx hb dL_ordersFit_209 (by decide) ?_
          exact hB210 u1 u3 u4 u5 u6 u7 u8 u10 w0 false y0 H _ _ hM hP hD hS (lv_sub hl [0, 1, 2, 3, 4, 5, 6, 7, 9] rfl)
        · replace hM := (if_neg c1).symm.trans hM
          refine lv_iconst (v := (1 : Int32)) hx hb dL_ordersFit_205 (by decide) ?_
          refine lv_goto (tgt := 210) hx hb dL_ordersFit_206 (by decide) ?_
          exact hB210 u1 u3 u4 u5 u6 u7 u8 u10 w0 true y0 H _ _ hM hP hD hS (lv_sub hl [0, 1, 2, 3, 4, 5, 6, 7, 9] rfl)
      have hB162 : ∀ (u1 : Int32) (u3 : Int32) (u4 : Int32) (u6 : Int32) (u7 : Int32) (u8 : Int32) (u9 : Int32) (u10 : Int32) (w0 : Int32) (w1 : Bool) (y0 : SS) (H : Heap) (locs : List Loc) (ls : Array Slot), M_L_ordersFit_162 x (lpF (M_L_ordersFit_72s x) n72) u1 u3 u4 u6 u7 u8 u9 u10 w0 w1 y0 = some out → va_P (dC, dI) vwCl (wSys cI cD kk.1 g y0) H → va_D A (wSys cI cD kk.1 g y0) → va_S A s.heap H locs → lv_has ls 11 [(0, .ref (g 0)), (1, .int u1), (3, .int u3), (4, .int u4), (6, .int u6), (7, .int u7), (8, .int u8), (9, .int u9), (10, .int u10)] → W p l e ({ frames := 6, cells := 0, slots := 0, locals := 139 } : Room) s m ([.ref (g 0)] : List Value).toArray below meth c H locs 0 0 Q (F0 m 162 ls [.int (zI w1), .int w0]) := by
        intro u1 u3 u4 u6 u7 u8 u9 u10 w0 w1 y0 H locs ls hM hP hD hS hl
        unfold M_L_ordersFit_162 at hM
        refine lv_iadd hx hb dL_ordersFit_162 ?_
        refine lv_istore (lv' := [(5, .int (w0 + (zI w1))), (0, .ref (g 0)), (1, .int u1), (3, .int u3), (4, .int u4), (6, .int u6), (7, .int u7), (8, .int u8), (9, .int u9), (10, .int u10)]) hx hb dL_ordersFit_163 hl (by decide) rfl (fun ls hl => ?_)
        refine lv_iload hx hb dL_ordersFit_165 (lv_at hl 5 rfl) ?_
        refine lv_aload_n hx hb dL_ordersFit_167 rfl (lv_at hl 1 rfl) ?_
        refine lv_iload hx hb dL_ordersFit_168 (lv_at hl 6 rfl) ?_
        refine lv_bipush (v := (9 : Int32)) hx hb dL_ordersFit_170 (by decide) ?_
        obtain ⟨r1, hr1, hM⟩ := ob hM
        refine wk_callP (va_runV (As := [.int u7, .int (9 : Int32)]) (rest := [.int u6]) ⟨hx, hb, hml, hown, hts⟩ (c_X6_orderOf l dC dI cI cD cJ kk g y0 u7 (9 : Int32) _ hr1 H) (cwV 2 hts gL_ordersFit_X6_orderOf rfl rfl rfl (by decide +kernel) ⟨Nat.le_of_ble_eq_true rfl, Nat.le_of_ble_eq_true rfl⟩) (wk_preV (ci := 4) (q0 := 0) hG hP hD [0, 1, 2, 3, 4, 5, 6, 7, 8, 9, 10, 11, 12, 13, 14, 15, 16, 17, 18, 19, 20, 21, 22, 23, 24, 25, 26, 27, 28, 29, 30, 31, 32, 33, 34, 35, 36, 37] rfl rfl rfl rfl) rfl rfl hl.1 rfl (lv_room (Nat.le_of_ble_eq_true rfl)) dL_ordersFit_172 ⟨Nat.le_of_ble_eq_true rfl, Nat.le_of_ble_eq_true rfl⟩) hS (fun locs hS => ?_)
        refine lv_iadd hx hb dL_ordersFit_175 ?_
        refine lv_istore (lv' := [(6, .int (u6 + r1)), (5, .int (w0 + (zI w1))), (0, .ref (g 0)), (1, .int u1), (3, .int u3), (4, .int u4), (7, .int u7), (8, .int u8), (9, .int u9), (10, .int u10)]) hx hb dL_ordersFit_176 hl (by decide) rfl (fun ls hl => ?_)
        refine lv_iload hx hb dL_ordersFit_178 (lv_at hl 7 rfl) ?_
        refine lv_if_lt (tgt := 247) hx hb dL_ordersFit_180 (by decide) (fun c2 => ?_) (fun c2 => ?_)
        · replace hM := (if_pos c2).symm.trans hM
          exact hB247 u1 u3 u4 (w0 + (zI w1)) (u6 + r1) u7 u8 u10 y0 H _ _ hM hP hD hS (lv_sub hl [2, 3, 4, 5, 1, 0, 6, 7, 9] rfl)
        · replace hM := (if_neg c2).symm.trans hM
          refine lv_iload hx hb dL_ordersFit_183 (lv_at hl 7 rfl) ?_
          refine lv_iconst (v := (3 : Int32)) hx hb dL_ordersFit_185 (by decide) ?_
          refine lv_icmp_gt (tgt := 247) hx hb dL_ordersFit_186 (by decide) (fun c3 => ?_) (fun c3 => ?_)
          · replace hM := (if_pos c3).symm.trans hM
            exact hB247 u1 u3 u4 (w0 + (zI w1)) (u6 + r1) u7 u8 u10 y0 H _ _ hM hP hD hS (lv_sub hl [2, 3, 4, 5, 1, 0, 6, 7, 9] rfl)
          · replace hM := (if_neg c3).symm.trans hM
            refine lv_iload hx hb dL_ordersFit_189 (lv_at hl 7 rfl) ?_
            refine lv_iconst (v := (2 : Int32)) hx hb dL_ordersFit_191 (by decide) ?_
            refine lv_icmp_ne (tgt := 199) hx hb dL_ordersFit_192 (by decide) (fun c4 => ?_) (fun c4 => ?_)
            · replace hM := (if_neg c4).symm.trans hM
              refine lv_iconst (v := (0 : Int32)) hx hb dL_ordersFit_199 (by decide) ?_
              exact hB200 u1 u3 u4 (w0 + (zI w1)) (u6 + r1) u7 u8 u9 u10 false y0 H _ _ hM hP hD hS (lv_sub hl [2, 3, 4, 5, 1, 0, 6, 7, 8, 9] rfl)
            · replace hM := (if_pos c4).symm.trans hM
              refine lv_iconst (v := (1 : Int32)) hx hb dL_ordersFit_195 (by decide) ?_
              refine lv_goto (tgt := 200) hx hb dL_ordersFit_196 (by decide) ?_
              exact hB200 u1 u3 u4 (w0 + (zI w1)) (u6 + r1) u7 u8 u9 u10 true y0 H _ _ hM hP hD hS (lv_sub hl [2, 3, 4, 5, 1, 0, 6, 7, 8, 9] rfl)
      have hB146 : ∀ (u1 : Int32) (u3 : Int32) (u5 : Int32) (u6 : Int32) (u7 : Int32) (u8 : Int32) (u9 : Int32) (u10 : Int32) (w0 : Int32) (w1 : Bool) (y0 : SS) (H : Heap) (locs : List Loc) (ls : Array Slot), M_L_ordersFit_146 x (lpF (M_L_ordersFit_72s x) n72) u1 u3 u5 u6 u7 u8 u9 u10 w0 w1 y0 = some out → va_P (dC, dI) vwCl (wSys cI cD kk.1 g y0) H → va_D A (wSys cI cD kk.1 g y0) → va_S A s.heap H locs → lv_has ls 11 [(0, .ref (g 0)), (1, .int u1), (3, .int u3), (5, .int u5), (6, .int u6), (7, .int u7), (8, .int u8), (9, .int u9), (10, .int u10)] → W p l e ({ frames := 6, cells := 0, slots := 0, locals := 139 } : Room) s m ([.ref (g 0)] : List Value).toArray below meth c H locs 0 0 Q (F0 m 146 ls [.int (zI w1), .int w0]) := by
        intro u1 u3 u5 u6 u7 u8 u9 u10 w0 w1 y0 H locs ls hM hP hD hS hl
        unfold M_L_ordersFit_146 at hM
        refine lv_iadd hx hb dL_ordersFit_146 ?_
        refine lv_istore (lv' := [(4, .int (w0 + (zI w1))), (0, .ref (g 0)), (1, .int u1), (3, .int u3), (5, .int u5), (6, .int u6), (7, .int u7), (8, .int u8), (9, .int u9), (10, .int u10)]) hx hb dL_ordersFit_147 hl (by decide) rfl (fun ls hl => ?_)
        refine lv_iload hx hb dL_ordersFit_149 (lv_at hl 4 rfl) ?_
        refine lv_iload hx hb dL_ordersFit_151 (lv_at hl 8 rfl) ?_
        refine lv_iconst (v := (1 : Int32)) hx hb dL_ordersFit_153 (by decide) ?_
        refine lv_icmp_ne (tgt := 161) hx hb dL_ordersFit_154 (by decide) (fun c1 => ?_) (fun c1 => ?_)
        · replace hM := (if_neg c1).symm.trans hM
          refine lv_iconst (v := (0 : Int32)) hx hb dL_ordersFit_161 (by decide) ?_
          exact hB162 u1 u3 (w0 + (zI w1)) u6 u7 u8 u9 u10 u5 false y0 H _ _ hM hP hD hS (lv_sub hl [1, 2, 3, 0, 5, 6, 7, 8, 9] rfl)
        · replace hM := (if_pos c1).symm.trans hM
          refine lv_iconst (v := (1 : Int32)) hx hb dL_ordersFit_157 (by decide) ?_
          refine lv_goto (tgt := 162) hx hb dL_ordersFit_158 (by decide) ?_
          exact hB162 u1 u3 (w0 + (zI w1)) u6 u7 u8 u9 u10 u5 true y0 H _ _ hM hP hD hS (lv_sub hl [1, 2, 3, 0, 5, 6, 7, 8, 9] rfl)
      have hB133 : ∀ (u1 : Int32) (u4 : Int32) (u5 : Int32) (u6 : Int32) (u7 : Int32) (u8 : Int32) (u9 : Int32) (u10 : Int32) (w0 : Int32) (y0 : SS) (H : Heap) (locs : List Loc) (ls : Array Slot), M_L_ordersFit_133 x (lpF (M_L_ordersFit_72s x) n72) u1 u4 u5 u6 u7 u8 u9 u10 w0 y0 = some out → va_P (dC, dI) vwCl (wSys cI cD kk.1 g y0) H → va_D A (wSys cI cD kk.1 g y0) → va_S A s.heap H locs → lv_has ls 11 [(0, .ref (g 0)), (1, .int u1), (4, .int u4), (5, .int u5), (6, .int u6), (7, .int u7), (8, .int u8), (9, .int u9), (10, .int u10)] → W p l e ({ frames := 6, cells := 0, slots := 0, locals := 139 } : Room) s m ([.ref (g 0)] : List Value).toArray below meth c H locs 0 0 Q (F0 m 133 ls [.int w0]) := by
        intro u1 u4 u5 u6 u7 u8 u9 u10 w0 y0 H locs ls hM hP hD hS hl
        unfold M_L_ordersFit_133 at hM
        refine lv_istore_n (lv' := [(3, .int w0), (0, .ref (g 0)), (1, .int u1), (4, .int u4), (5, .int u5), (6, .int u6), (7, .int u7), (8, .int u8), (9, .int u9), (10, .int u10)]) hx hb dL_ordersFit_133 rfl hl (by decide) rfl (fun ls hl => ?_)
        refine lv_iload hx hb dL_ordersFit_134 (lv_at hl 3 rfl) ?_
        refine lv_iload hx hb dL_ordersFit_136 (lv_at hl 8 rfl) ?_
        refine lv_if_ne (tgt := 145) hx hb dL_ordersFit_138 (by decide) (fun c1 => ?_) (fun c1 => ?_)
        · replace hM := (if_neg c1).symm.trans hM
          refine lv_iconst (v := (0 : Int32)) hx hb dL_ordersFit_145 (by decide) ?_
          exact hB146 u1 w0 u5 u6 u7 u8 u9 u10 u4 false y0 H _ _ hM hP hD hS (lv_sub hl [1, 2, 0, 4, 5, 6, 7, 8, 9] rfl)
        · replace hM := (if_pos c1).symm.trans hM
          refine lv_iconst (v := (1 : Int32)) hx hb dL_ordersFit_141 (by decide) ?_
          refine lv_goto (tgt := 146) hx hb dL_ordersFit_142 (by decide) ?_
          exact hB146 u1 w0 u5 u6 u7 u8 u9 u10 u4 true y0 H _ _ hM hP hD hS (lv_sub hl [1, 2, 0, 4, 5, 6, 7, 8, 9] rfl)
      intro u1 u2 u3 u4 u5 u6 u7 y0 H locs ls hM hP hD hS hl
      replace hM : M_L_ordersFit_72s x (lpF (M_L_ordersFit_72s x) n72) (u1, u2, u3, u4, u5, u6, u7, y0) = some out := hM
      unfold M_L_ordersFit_72s at hM
      try dsimp only at hM
      refine lv_iload hx hb dL_ordersFit_72 (lv_at hl 7 rfl) ?_
      refine lv_iload_n hx hb dL_ordersFit_74 rfl (lv_at hl 1 rfl) ?_
      refine lv_icmp_ge (tgt := 352) hx hb dL_ordersFit_75 (by decide) (fun c1 => ?_) (fun c1 => ?_)
      · replace hM := (if_pos c1).symm.trans hM
        exact hB352 u1 u2 u3 u4 u5 u6 y0 H _ _ hM hP hD hS (lv_sub hl [0, 1, 2, 3, 4, 5, 6] rfl)
      · replace hM := (if_neg c1).symm.trans hM
        refine lv_iload_n hx hb dL_ordersFit_78 rfl (lv_at hl 2 rfl) ?_
        refine lv_if_eq (tgt := 352) hx hb dL_ordersFit_79 (by decide) (fun c2 => ?_) (fun c2 => ?_)
        · replace hM := (if_pos c2).symm.trans hM
          exact hB352 u1 u2 u3 u4 u5 u6 y0 H _ _ hM hP hD hS (lv_sub hl [0, 1, 2, 3, 4, 5, 6] rfl)
        · replace hM := (if_neg c2).symm.trans hM
          refine lv_aload_n hx hb dL_ordersFit_82 rfl (lv_at hl 0 rfl) ?_
          refine lv_iload hx hb dL_ordersFit_83 (lv_at hl 7 rfl) ?_
          refine lv_iconst (v := (5 : Int32)) hx hb dL_ordersFit_85 (by decide) ?_
          obtain ⟨r3, hr3, hM⟩ := ob hM
          refine wk_callP (va_runV (As := [.int u7, .int (5 : Int32)]) (rest := []) ⟨hx, hb, hml, hown, hts⟩ (c_X6_orderOf l dC dI cI cD cJ kk g y0 u7 (5 : Int32) _ hr3 H) (cwV 2 hts gL_ordersFit_X6_orderOf rfl rfl rfl (by decide +kernel) ⟨Nat.le_of_ble_eq_true rfl, Nat.le_of_ble_eq_true rfl⟩) (wk_preV (ci := 4) (q0 := 0) hG hP hD [0, 1, 2, 3, 4, 5, 6, 7, 8, 9, 10, 11, 12, 13, 14, 15, 16, 17, 18, 19, 20, 21, 22, 23, 24, 25, 26, 27, 28, 29, 30, 31, 32, 33, 34, 35, 36, 37] rfl rfl rfl rfl) rfl rfl hl.1 rfl (lv_room (Nat.le_of_ble_eq_true rfl)) dL_ordersFit_86 ⟨Nat.le_of_ble_eq_true rfl, Nat.le_of_ble_eq_true rfl⟩) hS (fun locs hS => ?_)
          refine lv_istore (lv' := [(8, .int r3), (0, .ref (g 0)), (1, .int u1), (2, .int (zI u2)), (3, .int u3), (4, .int u4), (5, .int u5), (6, .int u6), (7, .int u7)]) hx hb dL_ordersFit_89 hl (by decide) rfl (fun ls hl => ?_)
          refine lv_aload_n hx hb dL_ordersFit_91 rfl (lv_at hl 1 rfl) ?_
          refine lv_iload hx hb dL_ordersFit_92 (lv_at hl 8 rfl) ?_
          refine lv_bipush (v := (6 : Int32)) hx hb dL_ordersFit_94 (by decide) ?_
          obtain ⟨r4, hr4, hM⟩ := ob hM
          refine wk_callP (va_runV (As := [.int u7, .int (6 : Int32)]) (rest := []) ⟨hx, hb, hml, hown, hts⟩ (c_X6_orderOf l dC dI cI cD cJ kk g y0 u7 (6 : Int32) _ hr4 H) (cwV 2 hts gL_ordersFit_X6_orderOf rfl rfl rfl (by decide +kernel) ⟨Nat.le_of_ble_eq_true rfl, Nat.le_of_ble_eq_true rfl⟩) (wk_preV (ci := 4) (q0 := 0) hG hP hD [0, 1, 2, 3, 4, 5, 6, 7, 8, 9, 10, 11, 12, 13, 14, 15, 16, 17, 18, 19, 20, 21, 22, 23, 24, 25, 26, 27, 28, 29, 30, 31, 32, 33, 34, 35, 36, 37] rfl rfl rfl rfl) rfl rfl hl.1 rfl (lv_room (Nat.le_of_ble_eq_true rfl)) dL_ordersFit_96 ⟨Nat.le_of_ble_eq_true rfl, Nat.le_of_ble_eq_true rfl⟩) hS (fun locs hS => ?_)
          refine lv_istore (lv' := [(9, .int r4), (8, .int r3), (0, .ref (g 0)), (1, .int u1), (2, .int (zI u2)), (3, .int u3), (4, .int u4), (5, .int u5), (6, .int u6), (7, .int u7)]) hx hb dL_ordersFit_99 hl (by decide) rfl (fun ls hl => ?_)
          refine lv_aload_n hx hb dL_ordersFit_101 rfl (lv_at hl 2 rfl) ?_
          refine lv_aload_n hx hb dL_ordersFit_102 rfl (lv_at hl 2 rfl) ?_
          refine lv_iload hx hb dL_ordersFit_103 (lv_at hl 9 rfl) ?_
          refine lv_iconst (v := (0 : Int32)) hx hb dL_ordersFit_105 (by decide) ?_
          obtain ⟨r5, hr5, hM⟩ := ob hM
          refine wk_callP (va_runV (As := [.int u7, .int (0 : Int32)]) (rest := [.ref (g 0)]) ⟨hx, hb, hml, hown, hts⟩ (c_X6_orderOf l dC dI cI cD cJ kk g y0 u7 (0 : Int32) _ hr5 H) (cwV 2 hts gL_ordersFit_X6_orderOf rfl rfl rfl (by decide +kernel) ⟨Nat.le_of_ble_eq_true rfl, Nat.le_of_ble_eq_true rfl⟩) (wk_preV (ci := 4) (q0 := 0) hG hP hD [0, 1, 2, 3, 4, 5, 6, 7, 8, 9, 10, 11, 12, 13, 14, 15, 16, 17, 18, 19, 20, 21, 22, 23, 24, 25, 26, 27, 28, 29, 30, 31, 32, 33, 34, 35, 36, 37] rfl rfl rfl rfl) rfl rfl hl.1 rfl (lv_room (Nat.le_of_ble_eq_true rfl)) dL_ordersFit_106 ⟨Nat.le_of_ble_eq_true rfl, Nat.le_of_ble_eq_true rfl⟩) hS (fun locs hS => ?_)
          refine lv_aload_n hx hb dL_ordersFit_109 rfl (lv_at hl 2 rfl) ?_
          refine lv_iload hx hb dL_ordersFit_110 (lv_at hl 9 rfl) ?_
          refine lv_iconst (v := (1 : Int32)) hx hb dL_ordersFit_112 (by decide) ?_
          obtain ⟨r6, hr6, hM⟩ := ob hM
          refine wk_callP (va_runV (As := [.int u7, .int (1 : Int32)]) (rest := [.int r5, .ref (g 0)]) ⟨hx, hb, hml, hown, hts⟩ (c_X6_orderOf l dC dI cI cD cJ kk g y0 u7 (1 : Int32) _ hr6 H) (cwV 2 hts gL_ordersFit_X6_orderOf rfl rfl rfl (by decide +kernel) ⟨Nat.le_of_ble_eq_true rfl, Nat.le_of_ble_eq_true rfl⟩) (wk_preV (ci := 4) (q0 := 0) hG hP hD [0, 1, 2, 3, 4, 5, 6, 7, 8, 9, 10, 11, 12, 13, 14, 15, 16, 17, 18, 19, 20, 21, 22, 23, 24, 25, 26, 27, 28, 29, 30, 31, 32, 33, 34, 35, 36, 37] rfl rfl rfl rfl) rfl rfl hl.1 rfl (lv_room (Nat.le_of_ble_eq_true rfl)) dL_ordersFit_113 ⟨Nat.le_of_ble_eq_true rfl, Nat.le_of_ble_eq_true rfl⟩) hS (fun locs hS => ?_)
          obtain ⟨r7, hr7, hM⟩ := ob hM
          refine wk_callP (va_runV (As := [.int r5, .int r6]) (rest := []) ⟨hx, hb, hml, hown, hts⟩ (c_X6_orderWith l dC dI cI cD cJ kk g y0 r5 r6 _ hr7 H) (cwV 2 hts gL_ordersFit_X6_orderWith rfl rfl rfl (by decide +kernel) ⟨Nat.le_of_ble_eq_true rfl, Nat.le_of_ble_eq_true rfl⟩) (wk_preV (ci := 4) (q0 := 0) hG hP hD [0, 1, 2, 3, 4, 5, 6, 7, 8, 9, 10, 11, 12, 13, 14, 15, 16, 17, 18, 19, 20, 21, 22, 23, 24, 25, 26, 27, 28, 29, 30, 31, 32, 33, 34, 35, 36, 37] rfl rfl rfl rfl) rfl rfl hl.1 rfl (lv_room (Nat.le_of_ble_eq_true rfl)) dL_ordersFit_116 ⟨Nat.le_of_ble_eq_true rfl, Nat.le_of_ble_eq_true rfl⟩) hS (fun locs hS => ?_)
          refine lv_istore (lv' := [(10, .int r7), (9, .int r4), (8, .int r3), (0, .ref (g 0)), (1, .int u1), (2, .int (zI u2)), (3, .int u3), (4, .int u4), (5, .int u5), (6, .int u6), (7, .int u7)]) hx hb dL_ordersFit_119 hl (by decide) rfl (fun ls hl => ?_)
          refine lv_iload hx hb dL_ordersFit_121 (lv_at hl 2 rfl) ?_
          refine lv_iconst (v := (1 : Int32)) hx hb dL_ordersFit_123 (by decide) ?_
          refine lv_icmp_ne (tgt := 132) hx hb dL_ordersFit_124 (by decide) (fun c8 => ?_) (fun c8 => ?_)
          · replace hM := (if_neg c8).symm.trans hM
            refine lv_iload_n hx hb dL_ordersFit_132 rfl (lv_at hl 6 rfl) ?_
            exact hB133 u1 u4 u5 u6 u7 r3 r4 r7 u3 y0 H _ _ hM hP hD hS (lv_sub hl [3, 4, 7, 8, 9, 10, 2, 1, 0] rfl)
          · replace hM := (if_pos c8).symm.trans hM
            refine lv_iload hx hb dL_ordersFit_127 (lv_at hl 10 rfl) ?_
            refine lv_goto (tgt := 133) hx hb dL_ordersFit_129 (by decide) ?_
            exact hB133 u1 u4 u5 u6 u7 r3 r4 r7 u7 y0 H _ _ hM hP hD hS (lv_sub hl [3, 4, 7, 8, 9, 10, 2, 1, 0] rfl)
  have hB57 : ∀ (u1 : Int32) (w0 : Bool) (y0 : SS) (H : Heap) (locs : List Loc) (ls : Array Slot), M_L_ordersFit_57 x u1 w0 y0 = some out → va_P (dC, dI) vwCl (wSys cI cD kk.1 g y0) H → va_D A (wSys cI cD kk.1 g y0) → va_S A s.heap H locs → lv_has ls 11 [(0, .ref (g 0)), (1, .int u1)] → W p l e ({ frames := 6, cells := 0, slots := 0, locals := 139 } : Room) s m ([.ref (g 0)] : List Value).toArray below meth c H locs 0 0 Q (F0 m 57 ls [.int (zI w0)]) := by
    intro u1 w0 y0 H locs ls hM hP hD hS hl
    unfold M_L_ordersFit_57 at hM
    refine lv_istore_n (lv' := [(2, .int (zI w0)), (0, .ref (g 0)), (1, .int u1)]) hx hb dL_ordersFit_57 rfl hl (by decide) rfl (fun ls hl => ?_)
    refine lv_iconst (v := (-1 : Int32)) hx hb dL_ordersFit_58 (by decide) ?_
    refine lv_istore_n (lv' := [(3, .int (-1 : Int32)), (2, .int (zI w0)), (0, .ref (g 0)), (1, .int u1)]) hx hb dL_ordersFit_59 rfl hl (by decide) rfl (fun ls hl => ?_)
    refine lv_iconst (v := (0 : Int32)) hx hb dL_ordersFit_60 (by decide) ?_
    refine lv_istore (lv' := [(4, .int (0 : Int32)), (3, .int (-1 : Int32)), (2, .int (zI w0)), (0, .ref (g 0)), (1, .int u1)]) hx hb dL_ordersFit_61 hl (by decide) rfl (fun ls hl => ?_)
    refine lv_iconst (v := (0 : Int32)) hx hb dL_ordersFit_63 (by decide) ?_
    refine lv_istore (lv' := [(5, .int (0 : Int32)), (4, .int (0 : Int32)), (3, .int (-1 : Int32)), (2, .int (zI w0)), (0, .ref (g 0)), (1, .int u1)]) hx hb dL_ordersFit_64 hl (by decide) rfl (fun ls hl => ?_)
    refine lv_iconst (v := (0 : Int32)) hx hb dL_ordersFit_66 (by decide) ?_
    refine lv_istore (lv' := [(6, .int (0 : Int32)), (5, .int (0 : Int32)), (4, .int (0 : Int32)), (3, .int (-1 : Int32)), (2, .int (zI w0)), (0, .ref (g 0)), (1, .int u1)]) hx hb dL_ordersFit_67 hl (by decide) rfl (fun ls hl => ?_)
    refine lv_iconst (v := (0 : Int32)) hx hb dL_ordersFit_69 (by decide) ?_
    refine lv_istore (lv' := [(7, .int (0 : Int32)), (6, .int (0 : Int32)), (5, .int (0 : Int32)), (4, .int (0 : Int32)), (3, .int (-1 : Int32)), (2, .int (zI w0)), (0, .ref (g 0)), (1, .int u1)]) hx hb dL_ordersFit_70 hl (by decide) rfl (fun ls hl => ?_)
    exact hL72 64 u1 w0 (-1 : Int32) (0 : Int32) (0 : Int32) (0 : Int32) (0 : Int32) y0 H _ _ hM hP hD hS (lv_sub hl [6, 7, 5, 4, 3, 2, 1, 0] rfl)
  have hB56 : ∀ (u1 : Int32) (y0 : SS) (H : Heap) (locs : List Loc) (ls : Array Slot), M_L_ordersFit_56 x u1 y0 = some out → va_P (dC, dI) vwCl (wSys cI cD kk.1 g y0) H → va_D A (wSys cI cD kk.1 g y0) → va_S A s.heap H locs → lv_has ls 11 [(0, .ref (g 0)), (1, .int u1)] → W p l e ({ frames := 6, cells := 0, slots := 0, locals := 139 } : Room) s m ([.ref (g 0)] : List Value).toArray below meth c H locs 0 0 Q (F0 m 56 ls []) := by
    intro u1 y0 H locs ls hM hP hD hS hl
    unfold M_L_ordersFit_56 at hM
    refine lv_iconst (v := (0 : Int32)) hx hb dL_ordersFit_56 (by decide) ?_
    exact hB57 u1 false y0 H _ _ hM hP hD hS (lv_sub hl [0, 1] rfl)
  unfold M_L_ordersFit at hM
  refine lv_aload_n hx hb dL_ordersFit_0 rfl (lv_at hl 0 rfl) ?_
  refine lv_iconst (v := (0 : Int32)) hx hb dL_ordersFit_1 (by decide) ?_
  obtain ⟨r1, hr1, hM⟩ := ob hM
  refine wk_callP (va_runV (As := [.int (0 : Int32)]) (rest := []) ⟨hx, hb, hml, hown, hts⟩ (c_X6_whole l dC dI cI cD cJ kk g x (0 : Int32) _ hr1 H) (cwV 1 hts gL_ordersFit_X6_whole rfl rfl rfl (by decide +kernel) ⟨Nat.le_of_ble_eq_true rfl, Nat.le_of_ble_eq_true rfl⟩) (wk_preV (ci := 4) (q0 := 0) hG hP hD [0, 1, 2, 3, 4, 5, 6, 7, 8, 9, 10, 11, 12, 13, 14, 15, 16, 17, 18, 19, 20, 21, 22, 23, 24, 25, 26, 27, 28, 29, 30, 31, 32, 33, 34, 35, 36, 37] rfl rfl rfl rfl) rfl rfl hl.1 rfl (lv_room (Nat.le_of_ble_eq_true rfl)) dL_ordersFit_2 ⟨Nat.le_of_ble_eq_true rfl, Nat.le_of_ble_eq_true rfl⟩) hS (fun locs hS => ?_)
  refine lv_istore_n (lv' := [(1, .int r1), (0, .ref (g 0))]) hx hb dL_ordersFit_5 rfl hl (by decide) rfl (fun ls hl => ?_)
  refine lv_iload_n hx hb dL_ordersFit_6 rfl (lv_at hl 0 rfl) ?_
  refine lv_if_lt (tgt := 56) hx hb dL_ordersFit_7 (by decide) (fun c2 => ?_) (fun c2 => ?_)
  · replace hM := (if_pos c2).symm.trans hM
    exact hB56 r1 x H _ _ hM hP hD hS (lv_sub hl [1, 0] rfl)
  · replace hM := (if_neg c2).symm.trans hM
    refine lv_iload_n hx hb dL_ordersFit_10 rfl (lv_at hl 0 rfl) ?_
    refine lv_bipush (v := (40 : Int32)) hx hb dL_ordersFit_11 (by decide) ?_
    refine lv_icmp_gt (tgt := 56) hx hb dL_ordersFit_13 (by decide) (fun c3 => ?_) (fun c3 => ?_)
    · replace hM := (if_pos c3).symm.trans hM
      exact hB56 r1 x H _ _ hM hP hD hS (lv_sub hl [1, 0] rfl)
    · replace hM := (if_neg c3).symm.trans hM
      refine lv_aload_n hx hb dL_ordersFit_16 rfl (lv_at hl 1 rfl) ?_
      refine lv_iconst (v := (1 : Int32)) hx hb dL_ordersFit_17 (by decide) ?_
      obtain ⟨r4, hr4, hM⟩ := ob hM
      refine wk_callP (va_runV (As := [.int (1 : Int32)]) (rest := []) ⟨hx, hb, hml, hown, hts⟩ (c_X6_whole l dC dI cI cD cJ kk g x (1 : Int32) _ hr4 H) (cwV 1 hts gL_ordersFit_X6_whole rfl rfl rfl (by decide +kernel) ⟨Nat.le_of_ble_eq_true rfl, Nat.le_of_ble_eq_true rfl⟩) (wk_preV (ci := 4) (q0 := 0) hG hP hD [0, 1, 2, 3, 4, 5, 6, 7, 8, 9, 10, 11, 12, 13, 14, 15, 16, 17, 18, 19, 20, 21, 22, 23, 24, 25, 26, 27, 28, 29, 30, 31, 32, 33, 34, 35, 36, 37] rfl rfl rfl rfl) rfl rfl hl.1 rfl (lv_room (Nat.le_of_ble_eq_true rfl)) dL_ordersFit_18 ⟨Nat.le_of_ble_eq_true rfl, Nat.le_of_ble_eq_true rfl⟩) hS (fun locs hS => ?_)
      refine lv_aload_n hx hb dL_ordersFit_21 rfl (lv_at hl 1 rfl) ?_
      refine lv_iconst (v := (2 : Int32)) hx hb dL_ordersFit_22 (by decide) ?_
      obtain ⟨r5, hr5, hM⟩ := ob hM
      refine wk_callP (va_runV (As := [.int (2 : Int32)]) (rest := [.int r4]) ⟨hx, hb, hml, hown, hts⟩ (c_X6_whole l dC dI cI cD cJ kk g x (2 : Int32) _ hr5 H) (cwV 1 hts gL_ordersFit_X6_whole rfl rfl rfl (by decide +kernel) ⟨Nat.le_of_ble_eq_true rfl, Nat.le_of_ble_eq_true rfl⟩) (wk_preV (ci := 4) (q0 := 0) hG hP hD [0, 1, 2, 3, 4, 5, 6, 7, 8, 9, 10, 11, 12, 13, 14, 15, 16, 17, 18, 19, 20, 21, 22, 23, 24, 25, 26, 27, 28, 29, 30, 31, 32, 33, 34, 35, 36, 37] rfl rfl rfl rfl) rfl rfl hl.1 rfl (lv_room (Nat.le_of_ble_eq_true rfl)) dL_ordersFit_23 ⟨Nat.le_of_ble_eq_true rfl, Nat.le_of_ble_eq_true rfl⟩) hS (fun locs hS => ?_)
      refine lv_iadd hx hb dL_ordersFit_26 ?_
      refine lv_aload_n hx hb dL_ordersFit_27 rfl (lv_at hl 1 rfl) ?_
      refine lv_iconst (v := (3 : Int32)) hx hb dL_ordersFit_28 (by decide) ?_
      obtain ⟨r6, hr6, hM⟩ := ob hM
      refine wk_callP (va_runV (As := [.int (3 : Int32)]) (rest := [.int (r4 + r5)]) ⟨hx, hb, hml, hown, hts⟩ (c_X6_whole l dC dI cI cD cJ kk g x (3 : Int32) _ hr6 H) (cwV 1 hts gL_ordersFit_X6_whole rfl rfl rfl (by decide +kernel) ⟨Nat.le_of_ble_eq_true rfl, Nat.le_of_ble_eq_true rfl⟩) (wk_preV (ci := 4) (q0 := 0) hG hP hD [0, 1, 2, 3, 4, 5, 6, 7, 8, 9, 10, 11, 12, 13, 14, 15, 16, 17, 18, 19, 20, 21, 22, 23, 24, 25, 26, 27, 28, 29, 30, 31, 32, 33, 34, 35, 36, 37] rfl rfl rfl rfl) rfl rfl hl.1 rfl (lv_room (Nat.le_of_ble_eq_true rfl)) dL_ordersFit_29 ⟨Nat.le_of_ble_eq_true rfl, Nat.le_of_ble_eq_true rfl⟩) hS (fun locs hS => ?_)
      refine lv_iadd hx hb dL_ordersFit_32 ?_
      refine lv_aload_n hx hb dL_ordersFit_33 rfl (lv_at hl 1 rfl) ?_
      refine lv_iconst (v := (4 : Int32)) hx hb dL_ordersFit_34 (by decide) ?_
      obtain ⟨r7, hr7, hM⟩ := ob hM
      refine wk_callP (va_runV (As := [.int (4 : Int32)]) (rest := [.int ((r4 + r5) + r6)]) ⟨hx, hb, hml, hown, hts⟩ (c_X6_whole l dC dI cI cD cJ kk g x (4 : Int32) _ hr7 H) (cwV 1 hts gL_ordersFit_X6_whole rfl rfl rfl (by decide +kernel) ⟨Nat.le_of_ble_eq_true rfl, Nat.le_of_ble_eq_true rfl⟩) (wk_preV (ci := 4) (q0 := 0) hG hP hD [0, 1, 2, 3, 4, 5, 6, 7, 8, 9, 10, 11, 12, 13, 14, 15, 16, 17, 18, 19, 20, 21, 22, 23, 24, 25, 26, 27, 28, 29, 30, 31, 32, 33, 34, 35, 36, 37] rfl rfl rfl rfl) rfl rfl hl.1 rfl (lv_room (Nat.le_of_ble_eq_true rfl)) dL_ordersFit_35 ⟨Nat.le_of_ble_eq_true rfl, Nat.le_of_ble_eq_true rfl⟩) hS (fun locs hS => ?_)
      refine lv_iadd hx hb dL_ordersFit_38 ?_
      refine lv_iload_n hx hb dL_ordersFit_39 rfl (lv_at hl 0 rfl) ?_
      refine lv_icmp_ne (tgt := 56) hx hb dL_ordersFit_40 (by decide) (fun c8 => ?_) (fun c8 => ?_)
      · replace hM := (if_neg c8).symm.trans hM
        exact hB56 r1 x H _ _ hM hP hD hS (lv_sub hl [1, 0] rfl)
      · replace hM := (if_pos c8).symm.trans hM
        refine lv_aload_n hx hb dL_ordersFit_43 rfl (lv_at hl 1 rfl) ?_
        refine lv_iconst (v := (2 : Int32)) hx hb dL_ordersFit_44 (by decide) ?_
        obtain ⟨r9, hr9, hM⟩ := ob hM
        refine wk_callP (va_runV (As := [.int (2 : Int32)]) (rest := []) ⟨hx, hb, hml, hown, hts⟩ (c_X6_whole l dC dI cI cD cJ kk g x (2 : Int32) _ hr9 H) (cwV 1 hts gL_ordersFit_X6_whole rfl rfl rfl (by decide +kernel) ⟨Nat.le_of_ble_eq_true rfl, Nat.le_of_ble_eq_true rfl⟩) (wk_preV (ci := 4) (q0 := 0) hG hP hD [0, 1, 2, 3, 4, 5, 6, 7, 8, 9, 10, 11, 12, 13, 14, 15, 16, 17, 18, 19, 20, 21, 22, 23, 24, 25, 26, 27, 28, 29, 30, 31, 32, 33, 34, 35, 36, 37] rfl rfl rfl rfl) rfl rfl hl.1 rfl (lv_room (Nat.le_of_ble_eq_true rfl)) dL_ordersFit_45 ⟨Nat.le_of_ble_eq_true rfl, Nat.le_of_ble_eq_true rfl⟩) hS (fun locs hS => ?_)
        refine lv_iconst (v := (1 : Int32)) hx hb dL_ordersFit_48 (by decide) ?_
        refine lv_icmp_gt (tgt := 56) hx hb dL_ordersFit_49 (by decide) (fun c10 => ?_) (fun c10 => ?_)
        · replace hM := (if_pos c10).symm.trans hM
          exact hB56 r1 x H _ _ hM hP hD hS (lv_sub hl [1, 0] rfl)
        · replace hM := (if_neg c10).symm.trans hM
          refine lv_iconst (v := (1 : Int32)) hx hb dL_ordersFit_52 (by decide) ?_
          refine lv_goto (tgt := 57) hx hb dL_ordersFit_53 (by decide) ?_
          exact hB57 r1 true x H _ _ hM hP hD hS (lv_sub hl [1, 0] rfl)
