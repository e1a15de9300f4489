/-! PART 29: the constructors -/
set_option maxHeartbeats 4000000 in
set_option maxRecDepth 100000 in
theorem c_X2_init (l : Launch) (dC : Nat → ClassId) (dI : Nat → Nat → Nat) (cI cD cJ : ClassId) (kk : wAd) (h : Nat) : CI l yX2_init wsX2_init ({ frames := 1, cells := 0, slots := 0, locals := 40 } : Room) dC dI (wTys cI cD cJ) h [(h, .inr (1, [.int 0, .int 0, .int 0, .long 0, .int 0, .int 0, .int 0, .int 0]))] (fun g => wCtl (g 0) cs0) 0 0 := by
  refine wk_enterI (cc := cX2_init) (maxL := 1) (by decide) rfl (by decide) ?_
  intro p e s m below meth c A Q ls hB hA hP hD hQ hl
  obtain ⟨hx, hb, hml, hr, hts, hown, hname, hlocks, hG⟩ := hB
  have hown : s.vm.findClass RX2 = some m.cls := hown
  have hin : meth.name = "<init>" := hname
  have hS : va_S A s.heap s.heap [] := va_S.rf
  have inX2 : ∀ w ∈ wsX20, w ∈ wsX2_init := fun _ h => List.mem_cons_of_mem _ (List.mem_append_right _ h)
  obtain ⟨H, hH⟩ : ∃ z, z = s.heap := ⟨_, rfl⟩
  have hP : va_P (dC, dI) vwCl [(h, .inr (1, [.int 0, .int 0, .int 0, .long 0, .int 0, .int 0, .int 0, .int 0]))] H := by rw [hH]; exact hP
  have hS : va_S A s.heap H [] := by rw [hH]; exact hS
  refine wk_at hH ?_
  generalize ([] : List Loc) = locs at hS ⊢
  refine lv_aload_n hx hb dX2_init_0 rfl (lv_at hl 0 rfl) ?_
  refine W.objInit hx hb hown (hts (.methodLink RX2 1 objectInit) (List.mem_of_getElem? (i := 1) rfl)) (hts (.instanceMethod objectInit) (List.mem_of_getElem? (i := 2) rfl)) (hts (.code objectInit ⟨#[0xb1]⟩ 1 none) (List.mem_of_getElem? (i := 3) rfl)) rfl (by rw [hml]; exact hl.1) rfl dX2_init_1 (Nat.le_of_ble_eq_true rfl) (Nat.le_of_ble_eq_true rfl) ?_
  refine W.eq (g2 := F0 m 4 ls []) rfl ?_
  refine lv_aload_n hx hb dX2_init_4 rfl (lv_at hl 0 rfl) ?_
  refine lv_iconst (v := 1) hx hb dX2_init_5 (by decide) ?_
  refine va_put (D := (dC, dI)) (ci := 1) (v := .int 1) (ty := .boolean) (C := RX2) (T := TX2) (N := 8) hx hb hts inX2 tyX2 tyX2_ok nmX2 hown hG.1 hP hD hS 0 rfl rfl 0 (by decide) (hts (.fieldLink RX2 7 "WokenDrive$Controller" "awake" "Z") (List.mem_of_getElem? (i := 4) rfl)) (fun _ h9 => h9) rfl (by decide +kernel) rfl rfl (Nat.le_of_ble_eq_true rfl) dX2_init_6 (fun H locs hP hD hS => ?_)
  have hP : va_P (dC, dI) vwCl ([(h, .inr (1, [.int 1, .int 0, .int 0, .long 0, .int 0, .int 0, .int 0, .int 0]))] : va_W) H := hP
  have hD : va_D A ([(h, .inr (1, [.int 1, .int 0, .int 0, .long 0, .int 0, .int 0, .int 0, .int 0]))] : va_W) := hD
  refine lv_aload_n hx hb dX2_init_9 rfl (lv_at hl 0 rfl) ?_
  refine lv_iconst (v := 0) hx hb dX2_init_10 (by decide) ?_
  refine va_put (D := (dC, dI)) (ci := 1) (v := .int 0) (ty := .int) (C := RX2) (T := TX2) (N := 8) hx hb hts inX2 tyX2 tyX2_ok nmX2 hown hG.1 hP hD hS 0 rfl rfl 1 (by decide) (hts (.fieldLink RX2 13 "WokenDrive$Controller" "delay" "I") (List.mem_of_getElem? (i := 5) rfl)) (fun _ h9 => h9) rfl (by decide +kernel) rfl rfl (Nat.le_of_ble_eq_true rfl) dX2_init_11 (fun H locs hP hD hS => ?_)
  have hP : va_P (dC, dI) vwCl ([(h, .inr (1, [.int 1, .int 0, .int 0, .long 0, .int 0, .int 0, .int 0, .int 0]))] : va_W) H := hP
  have hD : va_D A ([(h, .inr (1, [.int 1, .int 0, .int 0, .long 0, .int 0, .int 0, .int 0, .int 0]))] : va_W) := hD
  refine lv_aload_n hx hb dX2_init_14 rfl (lv_at hl 0 rfl) ?_
  refine lv_iconst (v := 0) hx hb dX2_init_15 (by decide) ?_
  refine va_put (D := (dC, dI)) (ci := 1) (v := .int 0) (ty := .int) (C := RX2) (T := TX2) (N := 8) hx hb hts inX2 tyX2 tyX2_ok nmX2 hown hG.1 hP hD hS 0 rfl rfl 2 (by decide) (hts (.fieldLink RX2 17 "WokenDrive$Controller" "alarm" "I") (List.mem_of_getElem? (i := 6) rfl)) (fun _ h9 => h9) rfl (by decide +kernel) rfl rfl (Nat.le_of_ble_eq_true rfl) dX2_init_16 (fun H locs hP hD hS => ?_)
  have hP : va_P (dC, dI) vwCl ([(h, .inr (1, [.int 1, .int 0, .int 0, .long 0, .int 0, .int 0, .int 0, .int 0]))] : va_W) H := hP
  have hD : va_D A ([(h, .inr (1, [.int 1, .int 0, .int 0, .long 0, .int 0, .int 0, .int 0, .int 0]))] : va_W) := hD
  refine lv_aload_n hx hb dX2_init_19 rfl (lv_at hl 0 rfl) ?_
  refine lv_lconst (v := 0) hx hb dX2_init_20 (by decide) ?_
  refine va_put (D := (dC, dI)) (ci := 1) (v := .long 0) (ty := .long) (C := RX2) (T := TX2) (N := 8) hx hb hts inX2 tyX2 tyX2_ok nmX2 hown hG.1 hP hD hS 0 rfl rfl 3 (by decide) (hts (.fieldLink RX2 20 "WokenDrive$Controller" "mailbox" "J") (List.mem_of_getElem? (i := 7) rfl)) (fun _ h9 => h9) rfl (by decide +kernel) rfl rfl (Nat.le_of_ble_eq_true rfl) dX2_init_21 (fun H locs hP hD hS => ?_)
  have hP : va_P (dC, dI) vwCl ([(h, .inr (1, [.int 1, .int 0, .int 0, .long 0, .int 0, .int 0, .int 0, .int 0]))] : va_W) H := hP
  have hD : va_D A ([(h, .inr (1, [.int 1, .int 0, .int 0, .long 0, .int 0, .int 0, .int 0, .int 0]))] : va_W) := hD
  refine lv_aload_n hx hb dX2_init_24 rfl (lv_at hl 0 rfl) ?_
  refine lv_iconst (v := 0) hx hb dX2_init_25 (by decide) ?_
  refine va_put (D := (dC, dI)) (ci := 1) (v := .int 0) (ty := .int) (C := RX2) (T := TX2) (N := 8) hx hb hts inX2 tyX2 tyX2_ok nmX2 hown hG.1 hP hD hS 0 rfl rfl 4 (by decide) (hts (.fieldLink RX2 24 "WokenDrive$Controller" "done" "I") (List.mem_of_getElem? (i := 8) rfl)) (fun _ h9 => h9) rfl (by decide +kernel) rfl rfl (Nat.le_of_ble_eq_true rfl) dX2_init_26 (fun H locs hP hD hS => ?_)
  have hP : va_P (dC, dI) vwCl ([(h, .inr (1, [.int 1, .int 0, .int 0, .long 0, .int 0, .int 0, .int 0, .int 0]))] : va_W) H := hP
  have hD : va_D A ([(h, .inr (1, [.int 1, .int 0, .int 0, .long 0, .int 0, .int 0, .int 0, .int 0]))] : va_W) := hD
  refine lv_aload_n hx hb dX2_init_29 rfl (lv_at hl 0 rfl) ?_
  refine lv_iconst (v := 0) hx hb dX2_init_30 (by decide) ?_
  refine va_put (D := (dC, dI)) (ci := 1) (v := .int 0) (ty := .int) (C := RX2) (T := TX2) (N := 8) hx hb hts inX2 tyX2 tyX2_ok nmX2 hown hG.1 hP hD hS 0 rfl rfl 5 (by decide) (hts (.fieldLink RX2 27 "WokenDrive$Controller" "finished" "I") (List.mem_of_getElem? (i := 9) rfl)) (fun _ h9 => h9) rfl (by decide +kernel) rfl rfl (Nat.le_of_ble_eq_true rfl) dX2_init_31 (fun H locs hP hD hS => ?_)
  have hP : va_P (dC, dI) vwCl ([(h, .inr (1, [.int 1, .int 0, .int 0, .long 0, .int 0, .int 0, .int 0, .int 0]))] : va_W) H := hP
  have hD : va_D A ([(h, .inr (1, [.int 1, .int 0, .int 0, .long 0, .int 0, .int 0, .int 0, .int 0]))] : va_W) := hD
  refine lv_aload_n hx hb dX2_init_34 rfl (lv_at hl 0 rfl) ?_
  refine lv_iconst (v := 0) hx hb dX2_init_35 (by decide) ?_
  refine va_put (D := (dC, dI)) (ci := 1) (v := .int 0) (ty := .int) (C := RX2) (T := TX2) (N := 8) hx hb hts inX2 tyX2 tyX2_ok nmX2 hown hG.1 hP hD hS 0 rfl rfl 6 (by decide) (hts (.fieldLink RX2 30 "WokenDrive$Controller" "quarrels" "I") (List.mem_of_getElem? (i := 10) rfl)) (fun _ h9 => h9) rfl (by decide +kernel) rfl rfl (Nat.le_of_ble_eq_true rfl) dX2_init_36 (fun H locs hP hD hS => ?_)
  have hP : va_P (dC, dI) vwCl ([(h, .inr (1, [.int 1, .int 0, .int 0, .long 0, .int 0, .int 0, .int 0, .int 0]))] : va_W) H := hP
  have hD : va_D A ([(h, .inr (1, [.int 1, .int 0, .int 0, .long 0, .int 0, .int 0, .int 0, .int 0]))] : va_W) := hD
  refine lv_aload_n hx hb dX2_init_39 rfl (lv_at hl 0 rfl) ?_
  refine lv_iconst (v := 0) hx hb dX2_init_40 (by decide) ?_
  refine va_put (D := (dC, dI)) (ci := 1) (v := .int 0) (ty := .int) (C := RX2) (T := TX2) (N := 8) hx hb hts inX2 tyX2 tyX2_ok nmX2 hown hG.1 hP hD hS 0 rfl rfl 7 (by decide) (hts (.fieldLink RX2 33 "WokenDrive$Controller" "fallenAsleep" "I") (List.mem_of_getElem? (i := 11) rfl)) (fun _ h9 => h9) rfl (by decide +kernel) rfl rfl (Nat.le_of_ble_eq_true rfl) dX2_init_41 (fun H locs hP hD hS => ?_)
  have hP : va_P (dC, dI) vwCl ([(h, .inr (1, [.int 1, .int 0, .int 0, .long 0, .int 0, .int 0, .int 0, .int 0]))] : va_W) H := hP
  have hD : va_D A ([(h, .inr (1, [.int 1, .int 0, .int 0, .long 0, .int 0, .int 0, .int 0, .int 0]))] : va_W) := hD
  have hP : va_P (dC, dI) vwCl (wCtl ((fun n => [h].getD n 0) 0) cs0) H := hP.sub [0] rfl
  have hD : va_D A (wCtl ((fun n => [h].getD n 0) 0) cs0) := hD.sub [0] rfl rfl
  exact wk_retI (fun n => [h].getD n 0) hx hb hr hlocks hQ rfl hP hD hS (Nat.le_of_ble_eq_true rfl) (Nat.le_of_ble_eq_true rfl) dX2_init_44
set_option maxHeartbeats 4000000 in
set_option maxRecDepth 100000 in
theorem c_X3_init (l : Launch) (dC : Nat → ClassId) (dI : Nat → Nat → Nat) (cI cD cJ : ClassId) (kk : wAd) (h : Nat) : CI l yX3_init wsX3_init ({ frames := 2, cells := 4, slots := 512, locals := 60 } : Room) dC dI (wTys cI cD cJ) h [(h, .inr (2, [.null, .null, .null, .null, .int 0, .int 0, .int 0, .int 0]))] (fun g => wDrv cI g ds0) 4 512 := by
  refine wk_enterI (cc := cX3_init) (maxL := 1) (by decide) rfl (by decide) ?_
  intro p e s m below meth c A Q ls hB hA hP hD hQ hl
  obtain ⟨hx, hb, hml, hr, hts, hown, hname, hlocks, hG⟩ := hB
  have hown : s.vm.findClass RX3 = some m.cls := hown
  have hin : meth.name = "<init>" := hname
  have hS : va_S A s.heap s.heap [] := va_S.rf
  have inX2 : ∀ w ∈ wsX20, w ∈ wsX3_init := fun _ h => List.mem_cons_of_mem _ (List.mem_append_right _ h)
  have inX3 : ∀ w ∈ wsX30, w ∈ wsX3_init := fun _ h => List.mem_cons_of_mem _ (List.mem_append_left _ (List.mem_append_right _ h))
  obtain ⟨H, hH⟩ : ∃ z, z = s.heap := ⟨_, rfl⟩
  have hP : va_P (dC, dI) vwCl [(h, .inr (2, [.null, .null, .null, .null, .int 0, .int 0, .int 0, .int 0]))] H := by rw [hH]; exact hP
  have hS : va_S A s.heap H [] := by rw [hH]; exact hS
  refine wk_at hH ?_
  generalize ([] : List Loc) = locs at hS ⊢
  refine lv_aload_n hx hb dX3_init_0 rfl (lv_at hl 0 rfl) ?_
  refine W.objInit hx hb hown (hts (.methodLink RX3 3 objectInit) (List.mem_of_getElem? (i := 1) rfl)) (hts (.instanceMethod objectInit) (List.mem_of_getElem? (i := 2) rfl)) (hts (.code objectInit ⟨#[0xb1]⟩ 1 none) (List.mem_of_getElem? (i := 3) rfl)) rfl (by rw [hml]; exact hl.1) rfl dX3_init_1 (Nat.le_of_ble_eq_true rfl) (Nat.le_of_ble_eq_true rfl) ?_
  refine W.eq (g2 := F0 m 4 ls []) rfl ?_
  refine lv_aload_n hx hb dX3_init_4 rfl (lv_at hl 0 rfl) ?_
  refine lv_bipush (v := 16) hx hb dX3_init_5 (by decide) ?_
  refine wk_newa hx hb (hts (.arrayClass .int) (List.mem_of_getElem? (i := 4) rfl)) hG hP hD hS hA 16 (by decide) (by decide) (by decide) (Nat.le_of_ble_eq_true rfl) (Nat.le_of_ble_eq_true rfl) dX3_init_7 (fun q0 H hP hD hS => ?_)
  have hP : va_P (dC, dI) vwCl ([(h, .inr (2, [.null, .null, .null, .null, .int 0, .int 0, .int 0, .int 0])), (q0, .inl (cI, 16, .inl (fun _ => 0)))] : va_W) H := hP
  have hD : va_D A ([(h, .inr (2, [.null, .null, .null, .null, .int 0, .int 0, .int 0, .int 0])), (q0, .inl (cI, 16, .inl (fun _ => 0)))] : va_W) := hD
  refine va_putF (D := (dC, dI)) (ci := 2) (v := .ref q0) (ty := .array .int) (C := RX3) (T := TX3) (N := 8) hx hb hts inX3 tyX3 tyX3_ok nmX3 hown hG.1 hP hD hS 0 rfl rfl 0 (by decide) (hts (.fieldLink RX3 9 "WokenDrive$Drive" "values" "[I") (List.mem_of_getElem? (i := 5) rfl)) (fun _ h9 => h9) rfl hin rfl (by decide +kernel) rfl rfl (Nat.le_of_ble_eq_true rfl) dX3_init_9 (fun H locs hP hD hS => ?_)
  have hP : va_P (dC, dI) vwCl ([(h, .inr (2, [.ref q0, .null, .null, .null, .int 0, .int 0, .int 0, .int 0])), (q0, .inl (cI, 16, .inl (fun _ => 0)))] : va_W) H := hP
  have hD : va_D A ([(h, .inr (2, [.ref q0, .null, .null, .null, .int 0, .int 0, .int 0, .int 0])), (q0, .inl (cI, 16, .inl (fun _ => 0)))] : va_W) := hD
  refine lv_aload_n hx hb dX3_init_12 rfl (lv_at hl 0 rfl) ?_
  refine lv_sipush (v := 480) hx hb dX3_init_13 (by decide) ?_
  refine wk_newa hx hb (hts (.arrayClass .int) (List.mem_of_getElem? (i := 4) rfl)) hG hP hD hS hA 480 (by decide) (by decide) (by decide) (Nat.le_of_ble_eq_true rfl) (Nat.le_of_ble_eq_true rfl) dX3_init_16 (fun q1 H hP hD hS => ?_)
  have hP : va_P (dC, dI) vwCl ([(h, .inr (2, [.ref q0, .null, .null, .null, .int 0, .int 0, .int 0, .int 0])), (q0, .inl (cI, 16, .inl (fun _ => 0))), (q1, .inl (cI, 480, .inl (fun _ => 0)))] : va_W) H := hP
  have hD : va_D A ([(h, .inr (2, [.ref q0, .null, .null, .null, .int 0, .int 0, .int 0, .int 0])), (q0, .inl (cI, 16, .inl (fun _ => 0))), (q1, .inl (cI, 480, .inl (fun _ => 0)))] : va_W) := hD
  refine va_putF (D := (dC, dI)) (ci := 2) (v := .ref q1) (ty := .array .int) (C := RX3) (T := TX3) (N := 8) hx hb hts inX3 tyX3 tyX3_ok nmX3 hown hG.1 hP hD hS 0 rfl rfl 1 (by decide) (hts (.fieldLink RX3 15 "WokenDrive$Drive" "facts" "[I") (List.mem_of_getElem? (i := 6) rfl)) (fun _ h9 => h9) rfl hin rfl (by decide +kernel) rfl rfl (Nat.le_of_ble_eq_true rfl) dX3_init_18 (fun H locs hP hD hS => ?_)
  have hP : va_P (dC, dI) vwCl ([(h, .inr (2, [.ref q0, .ref q1, .null, .null, .int 0, .int 0, .int 0, .int 0])), (q0, .inl (cI, 16, .inl (fun _ => 0))), (q1, .inl (cI, 480, .inl (fun _ => 0)))] : va_W) H := hP
  have hD : va_D A ([(h, .inr (2, [.ref q0, .ref q1, .null, .null, .int 0, .int 0, .int 0, .int 0])), (q0, .inl (cI, 16, .inl (fun _ => 0))), (q1, .inl (cI, 480, .inl (fun _ => 0)))] : va_W) := hD
  refine lv_aload_n hx hb dX3_init_21 rfl (lv_at hl 0 rfl) ?_
  refine va_new (ci := 1) (fs := [.int 0, .int 0, .int 0, .long 0, .int 0, .int 0, .int 0, .int 0]) (C := RX2) (T := TX2) (N := 8) hx hb hts inX2 tyX2 tyX2_ok hown (hts (.classLink RX3 18 RX2) (List.mem_of_getElem? (i := 7) rfl)) (hts (.instantiable RX2 8) (List.mem_of_getElem? (i := 8) rfl)) (hts (.initialized RX2) (List.mem_of_getElem? (i := 9) rfl)) hG.1 hP hD hS hA rfl (fun j hj => by rcases (show j = 0 ∨ j = 1 ∨ j = 2 ∨ j = 3 ∨ j = 4 ∨ j = 5 ∨ j = 6 ∨ j = 7 by omega) with rfl | rfl | rfl | rfl | rfl | rfl | rfl | rfl <;> rfl) (Nat.le_of_ble_eq_true rfl) (Nat.le_of_ble_eq_true rfl) dX3_init_22 (fun q2 H hP hD hS => ?_)
  have hP : va_P (dC, dI) vwCl ([(h, .inr (2, [.ref q0, .ref q1, .null, .null, .int 0, .int 0, .int 0, .int 0])), (q0, .inl (cI, 16, .inl (fun _ => 0))), (q1, .inl (cI, 480, .inl (fun _ => 0))), (q2, .inr (1, [.int 0, .int 0, .int 0, .long 0, .int 0, .int 0, .int 0, .int 0]))] : va_W) H := hP
  have hD : va_D A ([(h, .inr (2, [.ref q0, .ref q1, .null, .null, .int 0, .int 0, .int 0, .int 0])), (q0, .inl (cI, 16, .inl (fun _ => 0))), (q1, .inl (cI, 480, .inl (fun _ => 0))), (q2, .inr (1, [.int 0, .int 0, .int 0, .long 0, .int 0, .int 0, .int 0, .int 0]))] : va_W) := hD
  refine lv_dup hx hb dX3_init_25 rfl ?_
  refine wk_callI (wr := ([(h, .inr (2, [.ref q0, .ref q1, .null, .null, .int 0, .int 0, .int 0, .int 0])), (q0, .inl (cI, 16, .inl (fun _ => 0))), (q1, .inl (cI, 480, .inl (fun _ => 0)))] : va_W)) (va_runIN (As := []) (rest := [.ref q2, .ref h]) ⟨hx, hb, hml, hown, hts⟩ (c_X2_init l dC dI cI cD cJ kk q2 H) ⟨va_cnB 0 hts gX3_init_X2_init_n20 rfl rfl rfl (hG.2 _ (List.mem_of_getElem? (i := 7) rfl)) (hts (.initialized RX2) (List.mem_of_getElem? (i := 9) rfl)) (by decide +kernel) ⟨(Nat.le_of_ble_eq_true rfl), (Nat.le_of_ble_eq_true rfl)⟩, rfl, (hts (.instanceMethod yX2_init) (List.mem_of_getElem? (i := 16) rfl))⟩ (wk_preS hG hP hD [3] rfl rfl) rfl rfl hl.1 rfl (lv_room (Nat.le_of_ble_eq_true rfl)) dX3_init_26 ⟨(Nat.le_of_ble_eq_true rfl), (Nat.le_of_ble_eq_true rfl)⟩) hP hD hS hA [3] [0, 1, 2] rfl rfl rfl (by decide) (fun g3 H locs hg hPn hDn hSn => ?_)
  subst hg
  have hP := hPn
  have hD := hDn
  have hS := hSn
  have hP : va_P (dC, dI) vwCl ([(h, .inr (2, [.ref q0, .ref q1, .null, .null, .int 0, .int 0, .int 0, .int 0])), (q0, .inl (cI, 16, .inl (fun _ => 0))), (q1, .inl (cI, 480, .inl (fun _ => 0)))] ++ wCtl (g3 0) cs0 : va_W) H := hP
  have hD : va_D A ([(h, .inr (2, [.ref q0, .ref q1, .null, .null, .int 0, .int 0, .int 0, .int 0])), (q0, .inl (cI, 16, .inl (fun _ => 0))), (q1, .inl (cI, 480, .inl (fun _ => 0)))] ++ wCtl (g3 0) cs0 : va_W) := hD
  refine va_putF (D := (dC, dI)) (ci := 2) (v := .ref (g3 0)) (ty := .object "WokenDrive$Controller") (C := RX3) (T := TX3) (N := 8) hx hb hts inX3 tyX3 tyX3_ok nmX3 hown hG.1 hP hD hS 0 rfl rfl 2 (by decide) (hts (.fieldLink RX3 21 "WokenDrive$Drive" "zero" "LWokenDrive$Controller;") (List.mem_of_getElem? (i := 10) rfl)) (fun _ h9 => h9) rfl hin rfl (by decide +kernel) rfl rfl (Nat.le_of_ble_eq_true rfl) dX3_init_29 (fun H locs hP hD hS => ?_)
  have hP : va_P (dC, dI) vwCl ([(h, .inr (2, [.ref q0, .ref q1, .ref (g3 0), .null, .int 0, .int 0, .int 0, .int 0])), (q0, .inl (cI, 16, .inl (fun _ => 0))), (q1, .inl (cI, 480, .inl (fun _ => 0)))] ++ wCtl (g3 0) cs0 : va_W) H := hP
  have hD : va_D A ([(h, .inr (2, [.ref q0, .ref q1, .ref (g3 0), .null, .int 0, .int 0, .int 0, .int 0])), (q0, .inl (cI, 16, .inl (fun _ => 0))), (q1, .inl (cI, 480, .inl (fun _ => 0)))] ++ wCtl (g3 0) cs0 : va_W) := hD
  refine lv_aload_n hx hb dX3_init_32 rfl (lv_at hl 0 rfl) ?_
  refine va_new (ci := 1) (fs := [.int 0, .int 0, .int 0, .long 0, .int 0, .int 0, .int 0, .int 0]) (C := RX2) (T := TX2) (N := 8) hx hb hts inX2 tyX2 tyX2_ok hown (hts (.classLink RX3 18 RX2) (List.mem_of_getElem? (i := 7) rfl)) (hts (.instantiable RX2 8) (List.mem_of_getElem? (i := 8) rfl)) (hts (.initialized RX2) (List.mem_of_getElem? (i := 9) rfl)) hG.1 hP hD hS hA rfl (fun j hj => by rcases (show j = 0 ∨ j = 1 ∨ j = 2 ∨ j = 3 ∨ j = 4 ∨ j = 5 ∨ j = 6 ∨ j = 7 by omega) with rfl | rfl | rfl | rfl | rfl | rfl | rfl | rfl <;> rfl) (Nat.le_of_ble_eq_true rfl) (Nat.le_of_ble_eq_true rfl) dX3_init_33 (fun q4 H hP hD hS => ?_)
  have hP : va_P (dC, dI) vwCl ([(h, .inr (2, [.ref q0, .ref q1, .ref (g3 0), .null, .int 0, .int 0, .int 0, .int 0])), (q0, .inl (cI, 16, .inl (fun _ => 0))), (q1, .inl (cI, 480, .inl (fun _ => 0)))] ++ wCtl (g3 0) cs0 ++ [(q4, .inr (1, [.int 0, .int 0, .int 0, .long 0, .int 0, .int 0, .int 0, .int 0]))] : va_W) H := hP
  have hD : va_D A ([(h, .inr (2, [.ref q0, .ref q1, .ref (g3 0), .null, .int 0, .int 0, .int 0, .int 0])), (q0, .inl (cI, 16, .inl (fun _ => 0))), (q1, .inl (cI, 480, .inl (fun _ => 0)))] ++ wCtl (g3 0) cs0 ++ [(q4, .inr (1, [.int 0, .int 0, .int 0, .long 0, .int 0, .int 0, .int 0, .int 0]))] : va_W) := hD
  refine lv_dup hx hb dX3_init_36 rfl ?_
  refine wk_callI (wr := ([(h, .inr (2, [.ref q0, .ref q1, .ref (g3 0), .null, .int 0, .int 0, .int 0, .int 0])), (q0, .inl (cI, 16, .inl (fun _ => 0))), (q1, .inl (cI, 480, .inl (fun _ => 0)))] ++ wCtl (g3 0) cs0 : va_W)) (va_runIN (As := []) (rest := [.ref q4, .ref h]) ⟨hx, hb, hml, hown, hts⟩ (c_X2_init l dC dI cI cD cJ kk q4 H) ⟨va_cnB 0 hts gX3_init_X2_init_n20 rfl rfl rfl (hG.2 _ (List.mem_of_getElem? (i := 7) rfl)) (hts (.initialized RX2) (List.mem_of_getElem? (i := 9) rfl)) (by decide +kernel) ⟨(Nat.le_of_ble_eq_true rfl), (Nat.le_of_ble_eq_true rfl)⟩, rfl, (hts (.instanceMethod yX2_init) (List.mem_of_getElem? (i := 16) rfl))⟩ (wk_preS hG hP hD [4] rfl rfl) rfl rfl hl.1 rfl (lv_room (Nat.le_of_ble_eq_true rfl)) dX3_init_37 ⟨(Nat.le_of_ble_eq_true rfl), (Nat.le_of_ble_eq_true rfl)⟩) hP hD hS hA [4] [0, 1, 2, 3] rfl rfl rfl (by decide) (fun g5 H locs hg hPn hDn hSn => ?_)
  subst hg
  have hP := hPn
  have hD := hDn
  have hS := hSn
  have hP : va_P (dC, dI) vwCl ([(h, .inr (2, [.ref q0, .ref q1, .ref (g3 0), .null, .int 0, .int 0, .int 0, .int 0])), (q0, .inl (cI, 16, .inl (fun _ => 0))), (q1, .inl (cI, 480, .inl (fun _ => 0)))] ++ wCtl (g3 0) cs0 ++ wCtl (g5 0) cs0 : va_W) H := hP
  have hD : va_D A ([(h, .inr (2, [.ref q0, .ref q1, .ref (g3 0), .null, .int 0, .int 0, .int 0, .int 0])), (q0, .inl (cI, 16, .inl (fun _ => 0))), (q1, .inl (cI, 480, .inl (fun _ => 0)))] ++ wCtl (g3 0) cs0 ++ wCtl (g5 0) cs0 : va_W) := hD
  refine va_putF (D := (dC, dI)) (ci := 2) (v := .ref (g5 0)) (ty := .object "WokenDrive$Controller") (C := RX3) (T := TX3) (N := 8) hx hb hts inX3 tyX3 tyX3_ok nmX3 hown hG.1 hP hD hS 0 rfl rfl 3 (by decide) (hts (.fieldLink RX3 25 "WokenDrive$Drive" "one" "LWokenDrive$Controller;") (List.mem_of_getElem? (i := 11) rfl)) (fun _ h9 => h9) rfl hin rfl (by decide +kernel) rfl rfl (Nat.le_of_ble_eq_true rfl) dX3_init_40 (fun H locs hP hD hS => ?_)
  have hP : va_P (dC, dI) vwCl ([(h, .inr (2, [.ref q0, .ref q1, .ref (g3 0), .ref (g5 0), .int 0, .int 0, .int 0, .int 0])), (q0, .inl (cI, 16, .inl (fun _ => 0))), (q1, .inl (cI, 480, .inl (fun _ => 0)))] ++ wCtl (g3 0) cs0 ++ wCtl (g5 0) cs0 : va_W) H := hP
  have hD : va_D A ([(h, .inr (2, [.ref q0, .ref q1, .ref (g3 0), .ref (g5 0), .int 0, .int 0, .int 0, .int 0])), (q0, .inl (cI, 16, .inl (fun _ => 0))), (q1, .inl (cI, 480, .inl (fun _ => 0)))] ++ wCtl (g3 0) cs0 ++ wCtl (g5 0) cs0 : va_W) := hD
  refine lv_aload_n hx hb dX3_init_43 rfl (lv_at hl 0 rfl) ?_
  refine lv_iconst (v := 0) hx hb dX3_init_44 (by decide) ?_
  refine va_put (D := (dC, dI)) (ci := 2) (v := .int 0) (ty := .int) (C := RX3) (T := TX3) (N := 8) hx hb hts inX3 tyX3 tyX3_ok nmX3 hown hG.1 hP hD hS 0 rfl rfl 4 (by decide) (hts (.fieldLink RX3 28 "WokenDrive$Drive" "orders" "I") (List.mem_of_getElem? (i := 12) rfl)) (fun _ h9 => h9) rfl (by decide +kernel) rfl rfl (Nat.le_of_ble_eq_true rfl) dX3_init_45 (fun H locs hP hD hS => ?_)
  have hP : va_P (dC, dI) vwCl ([(h, .inr (2, [.ref q0, .ref q1, .ref (g3 0), .ref (g5 0), .int 0, .int 0, .int 0, .int 0])), (q0, .inl (cI, 16, .inl (fun _ => 0))), (q1, .inl (cI, 480, .inl (fun _ => 0)))] ++ wCtl (g3 0) cs0 ++ wCtl (g5 0) cs0 : va_W) H := hP
  have hD : va_D A ([(h, .inr (2, [.ref q0, .ref q1, .ref (g3 0), .ref (g5 0), .int 0, .int 0, .int 0, .int 0])), (q0, .inl (cI, 16, .inl (fun _ => 0))), (q1, .inl (cI, 480, .inl (fun _ => 0)))] ++ wCtl (g3 0) cs0 ++ wCtl (g5 0) cs0 : va_W) := hD
  refine lv_aload_n hx hb dX3_init_48 rfl (lv_at hl 0 rfl) ?_
  refine lv_iconst (v := 0) hx hb dX3_init_49 (by decide) ?_
  refine va_put (D := (dC, dI)) (ci := 2) (v := .int 0) (ty := .int) (C := RX3) (T := TX3) (N := 8) hx hb hts inX3 tyX3 tyX3_ok nmX3 hown hG.1 hP hD hS 0 rfl rfl 5 (by decide) (hts (.fieldLink RX3 32 "WokenDrive$Drive" "tick" "I") (List.mem_of_getElem? (i := 13) rfl)) (fun _ h9 => h9) rfl (by decide +kernel) rfl rfl (Nat.le_of_ble_eq_true rfl) dX3_init_50 (fun H locs hP hD hS => ?_)
  have hP : va_P (dC, dI) vwCl ([(h, .inr (2, [.ref q0, .ref q1, .ref (g3 0), .ref (g5 0), .int 0, .int 0, .int 0, .int 0])), (q0, .inl (cI, 16, .inl (fun _ => 0))), (q1, .inl (cI, 480, .inl (fun _ => 0)))] ++ wCtl (g3 0) cs0 ++ wCtl (g5 0) cs0 : va_W) H := hP
  have hD : va_D A ([(h, .inr (2, [.ref q0, .ref q1, .ref (g3 0), .ref (g5 0), .int 0, .int 0, .int 0, .int 0])), (q0, .inl (cI, 16, .inl (fun _ => 0))), (q1, .inl (cI, 480, .inl (fun _ => 0)))] ++ wCtl (g3 0) cs0 ++ wCtl (g5 0) cs0 : va_W) := hD
  refine lv_aload_n hx hb dX3_init_53 rfl (lv_at hl 0 rfl) ?_
  refine lv_iconst (v := -1) hx hb dX3_init_54 (by decide) ?_
  refine va_put (D := (dC, dI)) (ci := 2) (v := .int (-1)) (ty := .int) (C := RX3) (T := TX3) (N := 8) hx hb hts inX3 tyX3 tyX3_ok nmX3 hown hG.1 hP hD hS 0 rfl rfl 6 (by decide) (hts (.fieldLink RX3 35 "WokenDrive$Drive" "markerOrder" "I") (List.mem_of_getElem? (i := 14) rfl)) (fun _ h9 => h9) rfl (by decide +kernel) rfl rfl (Nat.le_of_ble_eq_true rfl) dX3_init_55 (fun H locs hP hD hS => ?_)
  have hP : va_P (dC, dI) vwCl ([(h, .inr (2, [.ref q0, .ref q1, .ref (g3 0), .ref (g5 0), .int 0, .int 0, .int (-1), .int 0])), (q0, .inl (cI, 16, .inl (fun _ => 0))), (q1, .inl (cI, 480, .inl (fun _ => 0)))] ++ wCtl (g3 0) cs0 ++ wCtl (g5 0) cs0 : va_W) H := hP
  have hD : va_D A ([(h, .inr (2, [.ref q0, .ref q1, .ref (g3 0), .ref (g5 0), .int 0, .int 0, .int (-1), .int 0])), (q0, .inl (cI, 16, .inl (fun _ => 0))), (q1, .inl (cI, 480, .inl (fun _ => 0)))] ++ wCtl (g3 0) cs0 ++ wCtl (g5 0) cs0 : va_W) := hD
  refine lv_aload_n hx hb dX3_init_58 rfl (lv_at hl 0 rfl) ?_
  refine lv_iconst (v := 0) hx hb dX3_init_59 (by decide) ?_
  refine va_put (D := (dC, dI)) (ci := 2) (v := .int 0) (ty := .int) (C := RX3) (T := TX3) (N := 8) hx hb hts inX3 tyX3 tyX3_ok nmX3 hown hG.1 hP hD hS 0 rfl rfl 7 (by decide) (hts (.fieldLink RX3 38 "WokenDrive$Drive" "markerValue" "I") (List.mem_of_getElem? (i := 15) rfl)) (fun _ h9 => h9) rfl (by decide +kernel) rfl rfl (Nat.le_of_ble_eq_true rfl) dX3_init_60 (fun H locs hP hD hS => ?_)
  have hP : va_P (dC, dI) vwCl ([(h, .inr (2, [.ref q0, .ref q1, .ref (g3 0), .ref (g5 0), .int 0, .int 0, .int (-1), .int 0])), (q0, .inl (cI, 16, .inl (fun _ => 0))), (q1, .inl (cI, 480, .inl (fun _ => 0)))] ++ wCtl (g3 0) cs0 ++ wCtl (g5 0) cs0 : va_W) H := hP
  have hD : va_D A ([(h, .inr (2, [.ref q0, .ref q1, .ref (g3 0), .ref (g5 0), .int 0, .int 0, .int (-1), .int 0])), (q0, .inl (cI, 16, .inl (fun _ => 0))), (q1, .inl (cI, 480, .inl (fun _ => 0)))] ++ wCtl (g3 0) cs0 ++ wCtl (g5 0) cs0 : va_W) := hD
  have hP : va_P (dC, dI) vwCl (wDrv cI (fun n => [h, q0, q1, g3 0, g5 0].getD n 0) ds0) H := hP.sub [0, 1, 2, 3, 4] rfl
  have hD : va_D A (wDrv cI (fun n => [h, q0, q1, g3 0, g5 0].getD n 0) ds0) := hD.sub [0, 1, 2, 3, 4] rfl rfl
  exact wk_retI (fun n => [h, q0, q1, g3 0, g5 0].getD n 0) hx hb hr hlocks hQ rfl hP hD hS (Nat.le_of_ble_eq_true rfl) (Nat.le_of_ble_eq_true rfl) dX3_init_63
