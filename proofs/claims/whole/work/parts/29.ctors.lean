/-! PART 29: the constructors -/
set_option maxHeartbeats 4000000 in
set_option maxRecDepth 100000 in
theorem c_X2_init (l : Launch) (dC : Nat → ClassId) (dI : Nat → Nat → Nat) (cI cD cJ : ClassId) (kk : wAd) (h : Nat) : CI l yX2_init wsX2_init ({ frames := 1, cells := 0, slots := 0, locals := 40 } : Room) dC dI (wTys cI cD cJ) h [(h, .inr (1, [.int 0, .int 0, .int 0, .long 0, .int 0, .int 0, .int 0, .int 0]))] (fun g => wCtl (g 0) cs0) 0 0 := by
  refine wk_enterI (cc := cX2_init) (maxL := 1) (by decide) rfl (by decide) ?_
  intro p e s m below meth c A Q ls hB hA hP hD hQ hl
  obtain ⟨hx, hb, hml, hr, hts, hown, hname, hlocks, hG⟩ := hB
  have hown : s.vm.findClass RX2 = some m.cls := hown
  have hin : meth.name = "<init>" := hname
  have hS : va_S A s.heap s.heap [] := va_S.rf
  have inX2 : ∀ w ∈ wsX20, w ∈ wsX2_init := fun _ h => List.mem_cons_of_mem _ (List.mem_append_right _ h)
  obtain ⟨H, hH⟩ : ∃ z, z = s.heap := ⟨_, rfl⟩
  have hP : va_P (dC, dI) vwCl [(h, .inr (1, [.int 0, .int 0, .int 0, .long 0, .int 0, .int 0, .int 0, .int 0]))] H := by rw [hH]; exact hP
  have hS : va_S A s.heap H [] := by rw [hH]; exact hS
  refine wk_at hH ?_
  generalize ([] : List Loc) = locs at hS ⊢
  refine lv_aload_n hx hb dX2_init_0 rfl (lv_at hl 0 rfl) ?_
  refine W.objInit hx hb hown (hts (.methodLink RX2 1 objectInit) (List.mem_of_getElem? (i := 1) rfl)) (hts (.instanceMethod objectInit) (List.mem_of_getElem? (i := 2) rfl)) (hts (.code objectInit ⟨#[0xb1]⟩ 1 none) (List.mem_of_getElem? (i := 3) rfl)) rfl (by rw [hml]; exact hl.1) rfl dX2_init_1 (Nat.le_of_ble_eq_true rfl) (Nat.le_of_ble_eq_true rfl) ?_
  refine W.eq (g2 := F0 m 4 ls []) rfl ?_
  refine lv_aload_n hx hb dX2_init_4 rfl (lv_at hl 0 rfl) ?_
  refine lv_iconst (v := 1) hx hb dX2_init_5 (by decide) ?_
  refine va_put (D := (dC, dI)) (ci := 1) (v := .int 1) (ty := .boolean) (C := RX2) (T := TX2) (N := 8) hx hb hts inX2 tyX2 tyX2_ok nmX2 hown hG.1 hP hD hS 0 rfl rfl 0 (by decide) (hts (.fieldLink RX2 7 "WokenDrive$Controller" "awake" "Z") (List.mem_of_getElem? (i := 4) rfl)) (fun _ h9 => h9) rfl (by decide +kernel) rfl rfl (Nat.le_of_ble_eq_true rfl) dX2_init_6 (fun H locs hP hD hS => ?_)
  have hP : va_P (dC, dI) vwCl ([(h, .inr (1, [.int 1, .int 0, .int 0, .long 0, .int 0, .int 0, .int 0, .int 0]))] : va_W) H := hP
  have hD : va_D A ([(h, .inr (1, [.int 1, .int 0, .int 0, .long 0, .int 0, .int 0, .int 0, .int 0]))] : va_W) := hD
  refine lv_aload_n hx hb dX2_init_9 rfl (lv_at hl 0 rfl) ?_
  refine lv_iconst (v := 0) hx hb dX2_init_10 (by decide) ?_
  refine va_put (D := (dC, dI)) (ci := 1) (v := .int 0) (ty := .int) (C := RX2) (T := TX2) (N := 8) hx hb hts inX2 tyX2 tyX2_ok nmX2 hown hG.1 hP hD hS 0 rfl rfl 1 (by decide) (hts (.fieldLink RX2 13 "WokenDrive$Controller" "delay" "I") (List.mem_of_getElem? (i := 5) rfl)) (fun _ h9 => h9) rfl (by decide +kernel) rfl rfl (Nat.le_of_ble_eq_true rfl) dX2_init_11 (fun H locs hP hD hS => ?_)
  have hP : va_P (dC, dI) vwCl ([(h, .inr (1, [.int 1, .int 0, .int 0, .long 0, .int 0, .int 0, .int 0, .int 0]))] : va_W) H := hP
  have hD : va_D A ([(h, .inr (1, [.int 1, .int 0, .int 0, .long 0, .int 0, .int 0, .int 0, .int 0]))] : va_W) := hD
  refine lv_aload_n hx hb dX2_init_14 rfl (lv_at hl 0 rfl) ?_
  refine lv_iconst (v := 0) hx hb dX2_init_15 (by decide) ?_
  refine va_put (D := (dC, dI)) (ci := 1) (v := .int 0) (ty := .int) (C := RX2) (T := TX2) (N := 8) hx hb hts inX2 tyX2 tyX2_ok nmX2 hown hG.1 hP hD hS 0 rfl rfl 2 (by decide) (hts (.fieldLink RX2 17 "WokenDrive$Controller" "alarm" "I") (List.mem_of_getElem? (i := 6) rfl)) (fun _ h9 => h9) rfl (by decide +kernel) rfl rfl (Nat.le_of_ble_eq_true rfl) dX2_init_16 (fun H locs hP hD hS => ?_)
  have hP : va_P (dC, dI) vwCl ([(h, .inr (1, [.int 1, .int 0, .int 0, .long 0, .int 0, .int 0, .int 0, .int 0]))] : va_W) H := hP
  have hD : va_D A ([(h, .inr (1, [.int 1, .int 0, .int 0, .long 0, .int 0, .int 0, .int 0, .int 0]))] : va_W) := hD
  refine lv_aload_n hx hb dX2_init_19 rfl (lv_at hl 0 rfl) ?_
  refine lv_lconst (v := 0) hx hb dX2_init_20 (by decide) ?_
  refine va_put (D := (dC, dI)) (ci := 1) (v := .long 0) (ty := .long) (C := RX2) (T := TX2) (N := 8) hx hb hts inX2 tyX2 tyX2_ok nmX2 hown hG.1 hP hD hS 0 rfl rfl 3 (by decide) (hts (.fieldLink RX2 20 "WokenDrive$Controller" "mailbox" "J") (List.mem_of_getElem? (i := 7) rfl)) (fun _ h9 => h9) rfl (by decide +kernel) rfl rfl (Nat.le_of_ble_eq_true rfl) dX2_init_21 (fun H locs hP hD hS => ?_)
  have hP : va_P (dC, dI) vwCl ([(h, .inr (1, [.int 1, .int 0, .int 0, .long 0, .int 0, .int 0, .int 0, .int 0]))] : va_W) H := hP
  have hD : va_D A ([(h, .inr (1, [.int 1, .int 0, .int 0, .long 0, .int 0, .int 0, .int 0, .int 0]))] : va_W) := hD
  refine lv_aload_n hx hb dX2_init_24 rfl (lv_at hl 0 rfl) ?_
  refine lv_iconst (v := 0) hx hb dX2_init_25 (by decide) ?_
  refine va_put (D := (dC, dI)) (ci := 1) (v := .int 0) (ty := .int) (C := RX2) (T := TX2) (N := 8) hx hb hts inX2 tyX2 tyX2_ok nmX2 hown hG.1 hP hD hS 0 rfl rfl 4 (by decide) (hts (.fieldLink RX2 24 "WokenDrive$Controller" "done" "I") (List.mem_of_getElem? (i := 8) rfl)) (fun _ h9 => h9) rfl (by decide +kernel) rfl rfl (Nat.le_of_ble_eq_true rfl) dX2_init_26 (fun H locs hP hD hS => ?_)
  have hP : va_P (dC, dI) vwCl ([(h, .inr (1, [.int 1, .int 0, .int 0, .long 0, .int 0, .int 0, .int 0, .int 0]))] : va_W) H := hP
  have hD : va_D A ([(h, .inr (1, [.int 1, .int 0, .int 0, .long 0, .int 0, .int 0, .int 0, .int 0]))] : va_W) := hD
  refine lv_aload_n hx hb dX2_init_29 rfl (lv_at hl 0 rfl) ?_
  refine lv_iconst (v := 0) hx hb dX2_init_30 (by decide) ?_
  refine va_put (D := (dC, dI)) (ci := 1) (v := .int 0) (ty := .int) (C := RX2) (T := TX2) (N := 8) hx hb hts inX2 tyX2 tyX2_ok nmX2 hown hG.1 hP hD hS 0 rfl rfl 5 (by decide) (hts (.fieldLink RX2 27 "WokenDrive$Controller" "finished" "I") (List.mem_of_getElem? (i := 9) rfl)) (fun _ h9 => h9) rfl (by decide +kernel) rfl rfl (Nat.le_of_ble_eq_true rfl) dX2_init_31 (fun H locs hP hD hS => ?_)
  have hP : va_P (dC, dI) vwCl ([(h, .inr (1, [.int 1, .int 0, .int 0, .long 0, .int 0, .int 0, .int 0, .int 0]))] : va_W) H := hP
  have hD : va_D A ([(h, .inr (1, [.int 1, .int 0, .int 0, .long 0, .int 0, .int 0, .int 0, .int 0]))] : va_W) := hD
  refine lv_aload_n hx hb dX2_init_34 rfl (lv_at hl 0 rfl) ?_
  refine lv_iconst (v := 0) hx hb dX2_init_35 (by decide) ?_
  refine va_put (D := (dC, dI)) (ci := 1) (v := .int 0) (ty := .int) (C := RX2) (T := TX2) (N := 8) hx hb hts inX2 tyX2 tyX2_ok nmX2 hown hG.1 hP hD hS 0 rfl rfl 6 (by decide) (hts (.fieldLink RX2 30 "WokenDrive$Controller" "quarrels" "I") (List.mem_of_getElem? (i := 10) rfl)) (fun _ h9 => h9) rfl (by decide +kernel) rfl rfl (Nat.le_of_ble_eq_true rfl) dX2_init_36 (fun H locs hP hD hS => ?_)
  have hP : va_P (dC, dI) vwCl ([(h, .inr (1, [.int 1, .int 0, .int 0, .long 0, .int 0, .int 0, .int 0, .int 0]))] : va_W) H := hP
  have hD : va_D A ([(h, .inr (1, [.int 1, .int 0, .int 0, .long 0, .int 0, .int 0, .int 0, .int 0]))] : va_W) := hD
  refine lv_aload_n hx hb dX2_init_39 rfl (lv_at hl 0 rfl) ?_
  refine lv_iconst (v := 0) hx hb dX2_init_40 (by decide) ?_
  refine va_put (D := (dC, dI)) (ci := 1) (v := .int 0) (ty := .int) (C := RX2) (T := TX2) (N := 8) hx hb hts inX2 tyX2 tyX2_ok nmX2 hown hG.1 hP hD hS 0 rfl rfl 7 (by decide) (hts (.fieldLink RX2 33 "WokenDrive$Controller" "fallenAsleep" "I") (List.mem_of_getElem? (i := 11) rfl)) (fun _ h9 => h9) rfl (by decide +kernel) rfl rfl (Nat.le_of_ble_eq_true rfl) dX2_init_41 (fun H locs hP hD hS => ?_)
  have hP : va_P (dC, dI) vwCl ([(h, .inr (1, [.int 1, .int 0, .int 0, .long 0, .int 0, .int 0, .int 0, .int 0]))] : va_W) H := hP
  have hD : va_D A ([(h, .inr (1, [.int 1, .int 0, .int 0, .long 0, .int 0, .int 0, .int 0, .int 0]))] : va_W) := hD
  have hP : va_P (dC, dI) vwCl (wCtl ((fun n => [h].getD n 0) 0) cs0) H := hP.sub [0] rfl
  have hD : va_D A (wCtl ((fun n => [h].getD n 0) 0) cs0) := hD.sub [0] rfl rfl
  exact wk_retI (fun n => [h].getD n 0) hx hb hr hlocks hQ rfl hP hD hS (Nat.le_of_ble_eq_true rfl) (Nat.le_of_ble_eq_true rfl) dX2_init_44
set_option maxHeartbeats 4000000 in
set_option maxRecDepth 100000 in
theorem c_X3_init (l : Launch) (dC : Nat → ClassId) (dI : Nat → Nat → Nat) (cI cD cJ : ClassId) (kk : wAd) (h : Nat) : CI l yX3_init wsX3_init ({ frames := 2, cells := 4, slots := 512, locals := 60 } : Room) dC dI (wTys cI cD cJ) h [(h, .inr (2, [.null, .null, .null, .null, .int 0, .int 0, .int 0, .int 0]))] (fun g => wDrv cI g ds0) 4 512 := by
  refine wk_enterI (cc := cX3_init) (maxL := 1) (by decide) rfl (by decide) ?_
  intro p e s m below meth c A Q ls hB hA hP hD hQ hl
  obtain ⟨hx, hb, hml, hr, hts, hown, hname, hlocks, hG⟩ := hB
  have hown : s.vm.findClass RX3 = some m.cls := hown
  have hin : meth.name = "<init>" := hname
  have hS : va_S A s.heap s.heap [] := va_S.rf
  have inX2 : ∀ w ∈ wsX20, w ∈ wsX3_init := fun _ h => List.mem_cons_of_mem _ (List.mem_append_right _ h)
  have inX3 : ∀ w ∈ wsX30, w ∈ wsX3_init := fun _ h => List.mem_cons_of_mem _ (List.mem_append_left _ (List.mem_append_right _ h))
  obtain ⟨H, hH⟩ : ∃ z, z = s.heap := ⟨_, rfl⟩
  have hP : va_P (dC, dI) vwCl [(h, .inr (2, [.null, .null, .null, .null, .int 0, .int 0, .int 0, .int 0]))] H := by rw [hH]; exact hP
  have hS : va_S A s.heap H [] := by rw [hH]; exact hS
  refine wk_at hH ?_
  generalize ([] : List Loc) = locs at hS ⊢
  refine lv_aload_n hx hb dX3_init_0 rfl (lv_at hl 0 rfl) ?_
  refine W.objInit hx hb hown (hts (.methodLink RX3 3 objectInit) (List.mem_of_getElem? (i := 1) rfl)) (hts (.instanceMethod objectInit) (List.mem_of_getElem? (i := 2) rfl)) (hts (.code objectInit ⟨#[0xb1]⟩ 1 none) (List.mem_of_getElem? (i := 3) rfl)) rfl (by rw [hml]; exact hl.1) rfl dX3_init_1 (Nat.le_of_ble_eq_true rfl) (Nat.le_of_ble_eq_true rfl) ?_
  refine W.eq (g2 := F0 m 4 ls []) rfl ?_
  refine lv_aload_n hx hb dX3_init_4 rfl (lv_at hl 0 rfl) ?_
  refine lv_bipush (v := 16) hx hb dX3_init_5 (by decide) ?_
  refine wk_newa hx hb (hts (.arrayClass .int) (List.mem_of_getElem? (i := 4) rfl)) hG hP hD hS hA 16 (by decide) (by decide) (by decide) (Nat.le_of_ble_eq_true rfl) (Nat.le_of_ble_eq_true rfl) dX3_init_7 (fun q0 H hP hD hS => ?_)
  have hP : va_P (dC, dI) vwCl ([(h, .inr (2, [.null, .null, .null, .null, .int 0, .int 0, .int 0, .int 0])), (q0, .inl (cI, 16, .inl (fun _ => 0)))] : va_W) H := hP
  have hD : va_D A ([(h, .inr (2, [.null, .null, .null, .null, .int 0, .int 0, .int 0, .int 0])), (q0, .inl (cI, 16, .inl (fun _ => 0)))] : va_W) := hD
  refine va_putF (D := (dC, dI)) (ci := 2) (v := .ref q0) (ty := .array .int) (C := RX3) (T := TX3) (N := 8) hx hb hts inX3 tyX3 tyX3_ok nmX3 hown hG.1 hP hD hS 0 rfl rfl 0 (by decide) (hts (.fieldLink RX3 9 "WokenDrive$Drive" "values" "[I") (List.mem_of_getElem? (i := 5) rfl)) (fun _ h9 => h9) rfl hin rfl (by decide +kernel) rfl rfl (Nat.le_of_ble_eq_true rfl) dX3_init_9 (fun H locs hP hD hS => ?_)
  have hP : va_P (dC, dI) vwCl ([(h, .inr (2, [.ref q0, .null, .null, .null, .int 0, .int 0, .int 0, .int 0])), (q0, .inl (cI, 16, .inl (fun _ => 0)))] : va_W) H := hP
  have hD : va_D A ([(h, .inr (2, [.ref q0, .null, .null, .null, .int 0, .int 0, .int 0, .int 0])), (q0, .inl (cI, 16, .inl (fun _ => 0)))] : va_W) := hD
  refine lv_aload_n hx hb dX3_init_12 rfl (lv_at hl 0 rfl) ?_
  refine lv_sipush (v := 480) hx hb dX3_init_13 (by decide) ?_
  refine wk_newa hx hb (hts (.arrayClass .int) (List.mem_of_getElem? (i := 4) rfl)) hG hP hD hS hA 480 (by decide) (by decide) (by decide) (Nat.le_of_ble_eq_true rfl) (Nat.le_of_ble_eq_true rfl) dX3_init_16 (fun q1 H hP hD hS => ?_)
  have hP : va_P (dC, dI) vwCl ([(h, .inr (2, [.ref q0, .null, .null, .null, .int 0, .int 0, .int 0, .int 0])), (q0, .inl (cI, 16, .inl (fun _ => 0))), (q1, .inl (cI, 480, .inl (fun _ => 0)))] : va_W) H := hP
  have hD : va_D A ([(h, .inr (2, [.ref q0, .null, .null, .null, .int 0, .int 0, .int 0, .int 0])), (q0, .inl (cI, 16, .inl (fun _ => 0))), (q1, .inl (cI, 480, .inl (fun _ => 0)))] : va_W) := hD
  refine va_putF (D := (dC, dI)) (ci := 2) (v := .ref q1) (ty := .array .int) (C := RX3) (T := TX3) (N := 8) hx hb hts inX3 tyX3 tyX3_ok nmX3 hown hG.1 hP hD hS 0 rfl rfl 1 (by decide) (hts (.fieldLink RX3 15 "WokenDrive$Drive" "facts" "[I") (List.mem_of_getElem? (i := 6) rfl)) (fun _ h9 => h9) rfl hin rfl (by decide +kernel) rfl rfl (Nat.le_of_ble_eq_true rfl) dX3_init_18 (fun H locs hP hD hS => ?_)
  have hP : va_P (dC, dI) vwCl ([(h, .inr (2, [.ref q0, .ref q1, .null, .null, .int 0, .int 0, .int 0, .int 0])), (q0, .inl (cI, 16, .inl (fun _ => 0))), (q1, .inl (cI, 480, .inl (fun _ => 0)))] : va_W) H := hP
  have hD : va_D A ([(h, .inr (2, [.ref q0, .ref q1, .null, .null, .int 0, .int 0, .int 0, .int 0])), (q0, .inl (cI, 16, .inl (fun _ => 0))), (q1, .inl (cI, 480, .inl (fun _ => 0)))] : va_W) := hD
  refine lv_aload_n hx hb dX3_init_21 rfl (lv_at hl 0 rfl) ?_
  refine va_new (ci := 1) (fs := [.int 0, .int 0, .int 0, .long 0, .int 0, .int 0, .int 0, .int 0]) (C := RX2) (T := TX2) (N := 8) hx hb hts inX2 tyX2 tyX2_ok hown (hts (.classLink RX3 18 RX2) (List.mem_of_getElem? (i := 7) rfl)) (hts (.instantiable RX2 8) (List.mem_of_getElem? (i := 8) rfl)) (hts (.initialized RX2) (List.mem_of_getElem? (i := 9) rfl)) hG.1 hP hD hS hA rfl (fun j hj => by rcases (show j = 0 ∨ j = 1 ∨ j = 2 ∨ j = 3 ∨ j = 4 ∨ j = 5 ∨ j = 6 ∨ j = 7 by omega) with rfl | rfl | rfl | rfl | rfl | rfl | rfl | rfl <;> rfl) (Nat.le_of_ble_eq_true rfl) (Nat.le_of_ble_eq_true rfl) dX3_init_22 (fun q2 H hP hD hS => ?_)
  have hP : va_P (dC, dI) vwCl ([(h, .inr (2, [.ref q0, .ref q1, .null, .null, .int 0, .int 0, .int 0, .int 0])), (q0, .inl (cI, 16, .inl (fun _ => 0))), (q1, .inl (cI, 480, .inl (fun _ => 0))), (q2, .inr (1, [.int 0, .int 0, .int 0, .long 0, .int 0, .int 0, .int 0, .int 0]))] : va_W) H := hP
  have hD : va_D A ([(h, .inr (2, [.ref q0, .ref q1, .null, .null, .int 0, .int 0, .int 0, .int 0])), (q0, .inl (cI, 16, .inl (fun _ => 0))), (q1, .inl (cI, 480, .inl (fun _ => 0))), (q2, .inr (1, [.int 0, .int 0, .int 0, .long 0, .int 0, .int 0, .int 0, .int 0]))] : va_W) := hD
  refine lv_dup hx hb dX3_init_25 rfl ?_
  refine wk_callI (wr := ([(h, .inr (2, [.ref q0, .ref q1, .null, .null, .int 0, .int 0, .int 0, .int 0])), (q0, .inl (cI, 16, .inl (fun _ => 0))), (q1, .inl (cI, 480, .inl (fun _ => 0)))] : va_W)) (va_runIN (As := []) (rest := [.ref q2, .ref h]) ⟨hx, hb, hml, hown, hts⟩ (c_X2_init l dC dI cI cD cJ kk q2 H) ⟨va_cnB 0 hts gX3_init_X2_init_n20 rfl rfl rfl (hG.2 _ (List.mem_of_getElem? (i := 7) rfl)) (hts (.initialized RX2) (List.mem_of_getElem? (i := 9) rfl)) (by decide +kernel) ⟨(Nat.le_of_ble_eq_true rfl), (Nat.le_of_ble_eq_true rfl)⟩, rfl, (hts (.instanceMethod yX2_init) (List.mem_of_getElem? (i := 16) rfl))⟩ (wk_preS hG hP hD [3] rfl rfl) rfl rfl hl.1 rfl (lv_room (Nat.le_of_ble_eq_true rfl)) dX3_init_26 ⟨(Nat.le_of_ble_eq_true rfl), (Nat.le_of_ble_eq_true rfl)⟩) hP hD hS hA [3] [0, 1, 2] rfl rfl rfl (by decide) (fun g3 H locs hg hP hD hS => ?_)
  subst hg
  have hP : va_P (dC, dI) vwCl ([(h, .inr (2, [.ref q0, .ref q1, .null, .null, .int 0, .int 0, .int 0, .int 0])), (q0, .inl (cI, 16, .inl (fun _ => 0))), (q1, .inl (cI, 480, .inl (fun _ => 0)))] ++ wCtl (g3 0) cs0 : va_W) H := hP
  have hD : va_D A ([(h, .inr (2, [.ref q0, .ref q1, .null, .null, .int 0, .int 0, .int 0, .int 0])), (q0, .inl (cI, 16, .inl (fun _ => 0))), (q1, .inl (cI, 480, .inl (fun _ => 0)))] ++ wCtl (g3 0) cs0 : va_W) := hD
  refine va_putF (D := (dC, dI)) (ci := 2) (v := .ref (g3 0)) (ty := .object "WokenDrive$Controller") (C := RX3) (T := TX3) (N := 8) hx hb hts inX3 tyX3 tyX3_ok nmX3 hown hG.1 hP hD hS 0 rfl rfl 2 (by decide) (hts (.fieldLink RX3 21 "WokenDrive$Drive" "zero" "LWokenDrive$Controller;") (List.mem_of_getElem? (i := 10) rfl)) (fun _ h9 => h9) rfl hin rfl (by decide +kernel) rfl rfl (Nat.le_of_ble_eq_true rfl) dX3_init_29 (fun H locs hP hD hS => ?_)
  have hP : va_P (dC, dI) vwCl ([(h, .inr (2, [.ref q0, .ref q1, .ref (g3 0), .null, .int 0, .int 0, .int 0, .int 0])), (q0, .inl (cI, 16, .inl (fun _ => 0))), (q1, .inl (cI, 480, .inl (fun _ => 0)))] ++ wCtl (g3 0) cs0 : va_W) H := hP
  have hD : va_D A ([(h, .inr (2, [.ref q0, .ref q1, .ref (g3 0), .null, .int 0, .int 0, .int 0, .int 0])), (q0, .inl (cI, 16, .inl (fun _ => 0))), (q1, .inl (cI, 480, .inl (fun _ => 0)))] ++ wCtl (g3 0) cs0 : va_W) := hD
  refine lv_aload_n hx hb dX3_init_32 rfl (lv_at hl 0 rfl) ?_
  refine va_new (ci := 1) (fs := [.int 0, .int 0, .int 0, .long 0, .int 0, .int 0, .int 0, .int 0]) (C := RX2) (T := TX2) (N := 8) hx hb hts inX2 tyX2 tyX2_ok hown (hts (.classLink RX3 18 RX2) (List.mem_of_getElem? (i := 7) rfl)) (hts (.instantiable RX2 8) (List.mem_of_getElem? (i := 8) rfl)) (hts (.initialized RX2) (List.mem_of_getElem? (i := 9) rfl)) hG.1 hP hD hS hA rfl (fun j hj => by rcases (show j = 0 ∨ j = 1 ∨ j = 2 ∨ j = 3 ∨ j = 4 ∨ j = 5 ∨ j = 6 ∨ j = 7 by omega) with rfl | rfl | rfl | rfl | rfl | rfl | rfl | rfl <;> rfl) (Nat.le_of_ble_eq_true rfl) (Nat.le_of_ble_eq_true rfl) dX3_init_33 (fun q4 H hP hD hS => ?_)
  have hP : va_P (dC, dI) vwCl ([(h, .inr (2, [.ref q0, .ref q1, .ref (g3 0), .null, .int 0, .int 0, .int 0, .int 0])), (q0, .inl (cI, 16, .inl (fun _ => 0))), (q1, .inl (cI, 480, .inl (fun _ => 0)))] ++ wCtl (g3 0) cs0 ++ [(q4, .inr (1, [.int 0, .int 0, .int 0, .long 0, .int 0, .int 0, .int 0, .int 0]))] : va_W) H := hP
  have hD : va_D A ([(h, .inr (2, [.ref q0, .ref q1, .ref (g3 0), .null, .int 0, .int 0, .int 0, .int 0])), (q0, .inl (cI, 16, .inl (fun _ => 0))), (q1, .inl (cI, 480, .inl (fun _ => 0)))] ++ wCtl (g3 0) cs0 ++ [(q4, .inr (1, [.int 0, .int 0, .int 0, .long 0, .int 0, .int 0, .int 0, .int 0]))] : va_W) := hD
  refine lv_dup hx hb dX3_init_36 rfl ?_
  refine wk_callI (wr := ([(h, .inr (2, [.ref q0, .ref q1, .ref (g3 0), .null, .int 0, .int 0, .int 0, .int 0])), (q0, .inl (cI, 16, .inl (fun _ => 0))), (q1, .inl (cI, 480, .inl (fun _ => 0)))] ++ wCtl (g3 0) cs0 : va_W)) (va_runIN (As := []) (rest := [.ref q4, .ref h]) ⟨hx, hb, hml, hown, hts⟩ (c_X2_init l dC dI cI cD cJ kk q4 H) ⟨va_cnB 0 hts gX3_init_X2_init_n20 rfl rfl rfl (hG.2 _ (List.mem_of_getElem? (i := 7) rfl)) (hts (.initialized RX2) (List.mem_of_getElem? (i := 9) rfl)) (by decide +kernel) ⟨(Nat.le_of_ble_eq_true rfl), (Nat.le_of_ble_eq_true rfl)⟩, rfl, (hts (.instanceMethod yX2_init) (List.mem_of_getElem? (i := 16) rfl))⟩ (wk_preS hG hP hD [4] rfl rfl) rfl rfl hl.1 rfl (lv_room (Nat.le_of_ble_eq_true rfl)) dX3_init_37 ⟨(Nat.le_of_ble_eq_true rfl), (Nat.le_of_ble_eq_true rfl)⟩) hP hD hS hA [4] [0, 1, 2, 3] rfl rfl rfl (by decide) (fun g5 H locs hg hP hD hS => ?_)
  subst hg
  have hP : va_P (dC, dI) vwCl ([(h, .inr (2, [.ref q0, .ref q1, .ref (g3 0), .null, .int 0, .int 0, .int 0, .int 0])), (q0, .inl (cI, 16, .inl (fun _ => 0))), (q1, .inl (cI, 480, .inl (fun _ => 0)))] ++ wCtl (g3 0) cs0 ++ wCtl (g5 0) cs0 : va_W) H := hP
  have hD : va_D A ([(h, .inr (2, [.ref q0, .ref q1, .ref (g3 0), .null, .int 0, .int 0, .int 0, .int 0])), (q0, .inl (cI, 16, .inl (fun _ => 0))), (q1, .inl (cI, 480, .inl (fun _ => 0)))] ++ wCtl (g3 0) cs0 ++ wCtl (g5 0) cs0 : va_W) := hD
  refine va_putF (D := (dC, dI)) (ci := 2) (v := .ref (g5 0)) (ty := .object "WokenDrive$Controller") (C := RX3) (T := TX3) (N := 8) hx hb hts inX3 tyX3 tyX3_ok nmX3 hown hG.1 hP hD hS 0 rfl rfl 3 (by decide) (hts (.fieldLink RX3 25 "WokenDrive$Drive" "one" "LWokenDrive$Controller;") (List.mem_of_getElem? (i := 11) rfl)) (fun _ h9 => h9) rfl hin rfl (by decide +kernel) rfl rfl (Nat.le_of_ble_eq_true rfl) dX3_init_40 (fun H locs hP hD hS => ?_)
  have hP : va_P (dC, dI) vwCl ([(h, .inr (2, [.ref q0, .ref q1, .ref (g3 0), .ref (g5 0), .int 0, .int 0, .int 0, .int 0])), (q0, .inl (cI, 16, .inl (fun _ => 0))), (q1, .inl (cI, 480, .inl (fun _ => 0)))] ++ wCtl (g3 0) cs0 ++ wCtl (g5 0) cs0 : va_W) H := hP
  have hD : va_D A ([(h, .inr (2, [.ref q0, .ref q1, .ref (g3 0), .ref (g5 0), .int 0, .int 0, .int 0, .int 0])), (q0, .inl (cI, 16, .inl (fun _ => 0))), (q1, .inl (cI, 480, .inl (fun _ => 0)))] ++ wCtl (g3 0) cs0 ++ wCtl (g5 0) cs0 : va_W) := hD
  refine lv_aload_n hx hb dX3_init_43 rfl (lv_at hl 0 rfl) ?_
  refine lv_iconst (v := 0) hx hb dX3_init_44 (by decide) ?_
  refine va_put (D := (dC, dI)) (ci := 2) (v := .int 0) (ty := .int) (C := RX3) (T := TX3) (N := 8) hx hb hts inX3 tyX3 tyX3_ok nmX3 hown hG.1 hP hD hS 0 rfl rfl 4 (by decide) (hts (.fieldLink RX3 28 "WokenDrive$Drive" "orders" "I") (List.mem_of_getElem? (i := 12) rfl)) (fun _ h9 => h9) rfl (by decide +kernel) rfl rfl (Nat.le_of_ble_eq_true rfl) dX3_init_45 (fun H locs hP hD hS => ?_)
  have hP : va_P (dC, dI) vwCl ([(h, .inr (2, [.ref q0, .ref q1, .ref (g3 0), .ref (g5 0), .int 0, .int 0, .int 0, .int 0])), (q0, .inl (cI, 16, .inl (fun _ => 0))), (q1, .inl (cI, 480, .inl (fun _ => 0)))] ++ wCtl (g3 0) cs0 ++ wCtl (g5 0) cs0 : va_W) H := hP
  have hD : va_D A ([(h, .inr (2, [.ref q0, .ref q1, .ref (g3 0), .ref (g5 0), .int 0, .int 0, .int 0, .int 0])), (q0, .inl (cI, 16, .inl (fun _ => 0))), (q1, .inl (cI, 480, .inl (fun _ => 0)))] ++ wCtl (g3 0) cs0 ++ wCtl (g5 0) cs0 : va_W) := hD
  refine lv_aload_n hx hb dX3_init_48 rfl (lv_at hl 0 rfl) ?_
  refine lv_iconst (v := 0) hx hb dX3_init_49 (by decide) ?_
  refine va_put (D := (dC, dI)) (ci := 2) (v := .int 0) (ty := .int) (C := RX3) (T := TX3) (N := 8) hx hb hts inX3 tyX3 tyX3_ok nmX3 hown hG.1 hP hD hS 0 rfl rfl 5 (by decide) (hts (.fieldLink RX3 32 "WokenDrive$Drive" "tick" "I") (List.mem_of_getElem? (i := 13) rfl)) (fun _ h9 => h9) rfl (by decide +kernel) rfl rfl (Nat.le_of_ble_eq_true rfl) dX3_init_50 (fun H locs hP hD hS => ?_)
  have hP : va_P (dC, dI) vwCl ([(h, .inr (2, [.ref q0, .ref q1, .ref (g3 0), .ref (g5 0), .int 0, .int 0, .int 0, .int 0])), (q0, .inl (cI, 16, .inl (fun _ => 0))), (q1, .inl (cI, 480, .inl (fun _ => 0)))] ++ wCtl (g3 0) cs0 ++ wCtl (g5 0) cs0 : va_W) H := hP
  have hD : va_D A ([(h, .inr (2, [.ref q0, .ref q1, .ref (g3 0), .ref (g5 0), .int 0, .int 0, .int 0, .int 0])), (q0, .inl (cI, 16, .inl (fun _ => 0))), (q1, .inl (cI, 480, .inl (fun _ => 0)))] ++ wCtl (g3 0) cs0 ++ wCtl (g5 0) cs0 : va_W) := hD
  refine lv_aload_n hx hb dX3_init_53 rfl (lv_at hl 0 rfl) ?_
  refine lv_iconst (v := -1) hx hb dX3_init_54 (by decide) ?_
  refine va_put (D := (dC, dI)) (ci := 2) (v := .int (-1)) (ty := .int) (C := RX3) (T := TX3) (N := 8) hx hb hts inX3 tyX3 tyX3_ok nmX3 hown hG.1 hP hD hS 0 rfl rfl 6 (by decide) (hts (.fieldLink RX3 35 "WokenDrive$Drive" "markerOrder" "I") (List.mem_of_getElem? (i := 14) rfl)) (fun _ h9 => h9) rfl (by decide +kernel) rfl rfl (Nat.le_of_ble_eq_true rfl) dX3_init_55 (fun H locs hP hD hS => ?_)
  have hP : va_P (dC, dI) vwCl ([(h, .inr (2, [.ref q0, .ref q1, .ref (g3 0), .ref (g5 0), .int 0, .int 0, .int (-1), .int 0])), (q0, .inl (cI, 16, .inl (fun _ => 0))), (q1, .inl (cI, 480, .inl (fun _ => 0)))] ++ wCtl (g3 0) cs0 ++ wCtl (g5 0) cs0 : va_W) H := hP
  have hD : va_D A ([(h, .inr (2, [.ref q0, .ref q1, .ref (g3 0), .ref (g5 0), .int 0, .int 0, .int (-1), .int 0])), (q0, .inl (cI, 16, .inl (fun _ => 0))), (q1, .inl (cI, 480, .inl (fun _ => 0)))] ++ wCtl (g3 0) cs0 ++ wCtl (g5 0) cs0 : va_W) := hD
  refine lv_aload_n hx hb dX3_init_58 rfl (lv_at hl 0 rfl) ?_
  refine lv_iconst (v := 0) hx hb dX3_init_59 (by decide) ?_
  refine va_put (D := (dC, dI)) (ci := 2) (v := .int 0) (ty := .int) (C := RX3) (T := TX3) (N := 8) hx hb hts inX3 tyX3 tyX3_ok nmX3 hown hG.1 hP hD hS 0 rfl rfl 7 (by decide) (hts (.fieldLink RX3 38 "WokenDrive$Drive" "markerValue" "I") (List.mem_of_getElem? (i := 15) rfl)) (fun _ h9 => h9) rfl (by decide +kernel) rfl rfl (Nat.le_of_ble_eq_true rfl) dX3_init_60 (fun H locs hP hD hS => ?_)
  have hP : va_P (dC, dI) vwCl ([(h, .inr (2, [.ref q0, .ref q1, .ref (g3 0), .ref (g5 0), .int 0, .int 0, .int (-1), .int 0])), (q0, .inl (cI, 16, .inl (fun _ => 0))), (q1, .inl (cI, 480, .inl (fun _ => 0)))] ++ wCtl (g3 0) cs0 ++ wCtl (g5 0) cs0 : va_W) H := hP
  have hD : va_D A ([(h, .inr (2, [.ref q0, .ref q1, .ref (g3 0), .ref (g5 0), .int 0, .int 0, .int (-1), .int 0])), (q0, .inl (cI, 16, .inl (fun _ => 0))), (q1, .inl (cI, 480, .inl (fun _ => 0)))] ++ wCtl (g3 0) cs0 ++ wCtl (g5 0) cs0 : va_W) := hD
  have hP : va_P (dC, dI) vwCl (wDrv cI (fun n => [h, q0, q1, g3 0, g5 0].getD n 0) ds0) H := hP.sub [0, 1, 2, 3, 4] rfl
  have hD : va_D A (wDrv cI (fun n => [h, q0, q1, g3 0, g5 0].getD n 0) ds0) := hD.sub [0, 1, 2, 3, 4] rfl rfl
  exact wk_retI (fun n => [h, q0, q1, g3 0, g5 0].getD n 0) hx hb hr hlocks hQ rfl hP hD hS (Nat.le_of_ble_eq_true rfl) (Nat.le_of_ble_eq_true rfl) dX3_init_63
set_option maxHeartbeats 4000000 in
set_option maxRecDepth 100000 in
theorem c_X4_init (l : Launch) (dC : Nat → ClassId) (dI : Nat → Nat → Nat) (cI cD cJ : ClassId) (kk : wAd) (h : Nat) : CI l yX4_init wsX4_init ({ frames := 3, cells := 21, slots := 2084, locals := 80 } : Room) dC dI (wTys cI cD cJ) h [(h, .inr (3, [.null, .int 0, .int 0]))] (fun g => wHis cI cD g hs0) 21 2084 := by
  refine wk_enterI (cc := cX4_init) (maxL := 2) (by decide) rfl (by decide) ?_
  intro p e s m below meth c A Q ls hB hA hP hD hQ hl
  obtain ⟨hx, hb, hml, hr, hts, hown, hname, hlocks, hG⟩ := hB
  have hown : s.vm.findClass RX4 = some m.cls := hown
  have hin : meth.name = "<init>" := hname
  have hS : va_S A s.heap s.heap [] := va_S.rf
  have inX3 : ∀ w ∈ wsX30, w ∈ wsX4_init := fun _ h => List.mem_cons_of_mem _ (List.mem_append_left _ (List.mem_append_right _ h))
  have inX4 : ∀ w ∈ wsX40, w ∈ wsX4_init := fun _ h => List.mem_cons_of_mem _ (List.mem_append_left _ (List.mem_append_left _ (List.mem_append_right _ h)))
  obtain ⟨H, hH⟩ : ∃ z, z = s.heap := ⟨_, rfl⟩
  have hP : va_P (dC, dI) vwCl [(h, .inr (3, [.null, .int 0, .int 0]))] H := by rw [hH]; exact hP
  have hS : va_S A s.heap H [] := by rw [hH]; exact hS
  refine wk_at hH ?_
  generalize ([] : List Loc) = locs at hS ⊢
  refine lv_aload_n hx hb dX4_init_0 rfl (lv_at hl 0 rfl) ?_
  refine W.objInit hx hb hown (hts (.methodLink RX4 3 objectInit) (List.mem_of_getElem? (i := 1) rfl)) (hts (.instanceMethod objectInit) (List.mem_of_getElem? (i := 2) rfl)) (hts (.code objectInit ⟨#[0xb1]⟩ 1 none) (List.mem_of_getElem? (i := 3) rfl)) rfl (by rw [hml]; exact hl.1) rfl dX4_init_1 (Nat.le_of_ble_eq_true rfl) (Nat.le_of_ble_eq_true rfl) ?_
  refine W.eq (g2 := F0 m 4 ls []) rfl ?_
  refine lv_aload_n hx hb dX4_init_4 rfl (lv_at hl 0 rfl) ?_
  refine lv_iconst (v := 4) hx hb dX4_init_5 (by decide) ?_
  refine wk_newq hx hb hown (hts (.classLink RX4 9 RX3) (List.mem_of_getElem? (i := 4) rfl)) (hG.2 _ (List.mem_of_getElem? (i := 16) rfl)) hG hP hD hS hA 4 (by decide) (by decide) (by decide) (Nat.le_of_ble_eq_true rfl) (Nat.le_of_ble_eq_true rfl) dX4_init_6 (fun q0 H hP hD hS => ?_)
  have hP : va_P (dC, dI) vwCl ([(h, .inr (3, [.null, .int 0, .int 0])), (q0, .inl (cD, 4, .inr (.inr (.inr (.inr (fun _ => none))))))] : va_W) H := hP
  have hD : va_D A ([(h, .inr (3, [.null, .int 0, .int 0])), (q0, .inl (cD, 4, .inr (.inr (.inr (.inr (fun _ => none))))))] : va_W) := hD
  refine va_putF (D := (dC, dI)) (ci := 3) (v := .ref q0) (ty := .array (.object "WokenDrive$Drive")) (C := RX4) (T := TX4) (N := 3) hx hb hts inX4 tyX4 tyX4_ok nmX4 hown hG.1 hP hD hS 0 rfl rfl 0 (by decide) (hts (.fieldLink RX4 11 "WokenDrive$History" "saved" "[LWokenDrive$Drive;") (List.mem_of_getElem? (i := 5) rfl)) (fun _ h9 => h9) rfl hin rfl (by decide +kernel) rfl rfl (Nat.le_of_ble_eq_true rfl) dX4_init_9 (fun H locs hP hD hS => ?_)
  have hP : va_P (dC, dI) vwCl ([(h, .inr (3, [.ref q0, .int 0, .int 0])), (q0, .inl (cD, 4, .inr (.inr (.inr (.inr (fun _ => none))))))] : va_W) H := hP
  have hD : va_D A ([(h, .inr (3, [.ref q0, .int 0, .int 0])), (q0, .inl (cD, 4, .inr (.inr (.inr (.inr (fun _ => none))))))] : va_W) := hD
  refine lv_aload_n hx hb dX4_init_12 rfl (lv_at hl 0 rfl) ?_
  refine lv_iconst (v := 0) hx hb dX4_init_13 (by decide) ?_
  refine va_put (D := (dC, dI)) (ci := 3) (v := .int 0) (ty := .int) (C := RX4) (T := TX4) (N := 3) hx hb hts inX4 tyX4 tyX4_ok nmX4 hown hG.1 hP hD hS 0 rfl rfl 1 (by decide) (hts (.fieldLink RX4 17 "WokenDrive$History" "size" "I") (List.mem_of_getElem? (i := 6) rfl)) (fun _ h9 => h9) rfl (by decide +kernel) rfl rfl (Nat.le_of_ble_eq_true rfl) dX4_init_14 (fun H locs hP hD hS => ?_)
  have hP : va_P (dC, dI) vwCl ([(h, .inr (3, [.ref q0, .int 0, .int 0])), (q0, .inl (cD, 4, .inr (.inr (.inr (.inr (fun _ => none))))))] : va_W) H := hP
  have hD : va_D A ([(h, .inr (3, [.ref q0, .int 0, .int 0])), (q0, .inl (cD, 4, .inr (.inr (.inr (.inr (fun _ => none))))))] : va_W) := hD
  refine lv_aload_n hx hb dX4_init_17 rfl (lv_at hl 0 rfl) ?_
  refine lv_iconst (v := 0) hx hb dX4_init_18 (by decide) ?_
  refine va_put (D := (dC, dI)) (ci := 3) (v := .int 0) (ty := .int) (C := RX4) (T := TX4) (N := 3) hx hb hts inX4 tyX4 tyX4_ok nmX4 hown hG.1 hP hD hS 0 rfl rfl 2 (by decide) (hts (.fieldLink RX4 21 "WokenDrive$History" "newest" "I") (List.mem_of_getElem? (i := 7) rfl)) (fun _ h9 => h9) rfl (by decide +kernel) rfl rfl (Nat.le_of_ble_eq_true rfl) dX4_init_19 (fun H locs hP hD hS => ?_)
  have hP : va_P (dC, dI) vwCl ([(h, .inr (3, [.ref q0, .int 0, .int 0])), (q0, .inl (cD, 4, .inr (.inr (.inr (.inr (fun _ => none))))))] : va_W) H := hP
  have hD : va_D A ([(h, .inr (3, [.ref q0, .int 0, .int 0])), (q0, .inl (cD, 4, .inr (.inr (.inr (.inr (fun _ => none))))))] : va_W) := hD
  refine lv_iconst (v := 0) hx hb dX4_init_22 (by decide) ?_
  refine lv_istore_n (lv' := [(1, .int 0), (0, .ref h)]) hx hb dX4_init_23 rfl hl (by decide) rfl (fun ls hl => ?_)
  refine lv_iload_n hx hb dX4_init_24 rfl (lv_at hl 0 rfl) ?_
  refine lv_aload_n hx hb dX4_init_25 rfl (lv_at hl 1 rfl) ?_
  refine va_get (D := (dC, dI)) (ci := 3) (v := .ref q0) (C := RX4) (T := TX4) (N := 3) hx hb hts inX4 hown hG.1 hP 0 rfl rfl 0 (by decide) (hts (.fieldLink RX4 11 "WokenDrive$History" "saved" "[LWokenDrive$Drive;") (List.mem_of_getElem? (i := 5) rfl)) (fun _ h9 => h9) rfl dX4_init_26 ?_
  refine va_alen hx hb hG.1 hP 1 1 rfl rfl (v := (4 : Int32)) rfl dX4_init_29 ?_
  refine lv_icmp_ge (tgt := 52) hx hb dX4_init_30 (by decide) (fun c9 => absurd c9 (by decide)) (fun c9 => ?_)
  refine lv_aload_n hx hb dX4_init_33 rfl (lv_at hl 1 rfl) ?_
  refine va_get (D := (dC, dI)) (ci := 3) (v := .ref q0) (C := RX4) (T := TX4) (N := 3) hx hb hts inX4 hown hG.1 hP 0 rfl rfl 0 (by decide) (hts (.fieldLink RX4 11 "WokenDrive$History" "saved" "[LWokenDrive$Drive;") (List.mem_of_getElem? (i := 5) rfl)) (fun _ h9 => h9) rfl dX4_init_34 ?_
  refine lv_iload_n hx hb dX4_init_37 rfl (lv_at hl 0 rfl) ?_
  refine va_new (ci := 2) (fs := [.null, .null, .null, .null, .int 0, .int 0, .int 0, .int 0]) (C := RX3) (T := TX3) (N := 8) hx hb hts inX3 tyX3 tyX3_ok hown (hts (.classLink RX4 9 RX3) (List.mem_of_getElem? (i := 4) rfl)) (hts (.instantiable RX3 8) (List.mem_of_getElem? (i := 8) rfl)) (hts (.initialized RX3) (List.mem_of_getElem? (i := 9) rfl)) hG.1 hP hD hS hA rfl (fun j hj => by rcases (show j = 0 ∨ j = 1 ∨ j = 2 ∨ j = 3 ∨ j = 4 ∨ j = 5 ∨ j = 6 ∨ j = 7 by omega) with rfl | rfl | rfl | rfl | rfl | rfl | rfl | rfl <;> rfl) (Nat.le_of_ble_eq_true rfl) (Nat.le_of_ble_eq_true rfl) dX4_init_38 (fun q1 H hP hD hS => ?_)
  have hP : va_P (dC, dI) vwCl ([(h, .inr (3, [.ref q0, .int 0, .int 0])), (q0, .inl (cD, 4, .inr (.inr (.inr (.inr (fun _ => none)))))), (q1, .inr (2, [.null, .null, .null, .null, .int 0, .int 0, .int 0, .int 0]))] : va_W) H := hP
  have hD : va_D A ([(h, .inr (3, [.ref q0, .int 0, .int 0])), (q0, .inl (cD, 4, .inr (.inr (.inr (.inr (fun _ => none)))))), (q1, .inr (2, [.null, .null, .null, .null, .int 0, .int 0, .int 0, .int 0]))] : va_W) := hD
  refine lv_dup hx hb dX4_init_41 rfl ?_
  refine wk_callI (wr := ([(h, .inr (3, [.ref q0, .int 0, .int 0])), (q0, .inl (cD, 4, .inr (.inr (.inr (.inr (fun _ => none))))))] : va_W)) (va_runIN (As := []) (rest := [.ref q1, .int 0, .ref q0]) ⟨hx, hb, hml, hown, hts⟩ (c_X3_init l dC dI cI cD cJ kk q1 H) ⟨va_cnB 0 hts gX4_init_X3_init_n24 rfl rfl rfl (hG.2 _ (List.mem_of_getElem? (i := 12) rfl)) (hts (.initialized RX3) (List.mem_of_getElem? (i := 9) rfl)) (by decide +kernel) ⟨(Nat.le_of_ble_eq_true rfl), (Nat.le_of_ble_eq_true rfl)⟩, rfl, (hts (.instanceMethod yX3_init) (List.mem_of_getElem? (i := 10) rfl))⟩ (wk_preS hG hP hD [2] rfl rfl) rfl rfl hl.1 rfl (lv_room (Nat.le_of_ble_eq_true rfl)) dX4_init_42 ⟨(Nat.le_of_ble_eq_true rfl), (Nat.le_of_ble_eq_true rfl)⟩) hP hD hS hA [2] [0, 1] rfl rfl rfl (by decide) (fun g2 H locs hg hP hD hS => ?_)
  subst hg
  have hP : va_P (dC, dI) vwCl ([(h, .inr (3, [.ref q0, .int 0, .int 0])), (q0, .inl (cD, 4, .inr (.inr (.inr (.inr (fun _ => none))))))] ++ wDrv cI g2 ds0 : va_W) H := hP
  have hD : va_D A ([(h, .inr (3, [.ref q0, .int 0, .int 0])), (q0, .inl (cD, 4, .inr (.inr (.inr (.inr (fun _ => none))))))] ++ wDrv cI g2 ds0 : va_W) := hD
  refine va_astq (r := (RX3, TX3, 8)) hx hb hG.1 hP hD hS 1 1 2 2 rfl rfl rfl rfl (vpb_in.mp (by decide)) dX4_init_45 (fun H locs hP hD hS => ?_)
  have hP : va_P (dC, dI) vwCl ([(h, .inr (3, [.ref q0, .int 0, .int 0])), (q0, .inl (cD, 4, .inr (.inr (.inr (.inr (va_up (fun _ => none) 0 (some (g2 0))))))))] ++ wDrv cI g2 ds0 : va_W) H := hP
  have hD : va_D A ([(h, .inr (3, [.ref q0, .int 0, .int 0])), (q0, .inl (cD, 4, .inr (.inr (.inr (.inr (va_up (fun _ => none) 0 (some (g2 0))))))))] ++ wDrv cI g2 ds0 : va_W) := hD
  refine lv_iinc (v := 1) (lv' := [(1, .int 1), (0, .ref h)]) hx hb dX4_init_46 hl (k := 0) rfl (by decide) (by decide) rfl (fun ls hl => ?_)
  refine lv_goto (tgt := 24) hx hb dX4_init_49 (by decide) ?_
  refine lv_iload_n hx hb dX4_init_24 rfl (lv_at hl 0 rfl) ?_
  refine lv_aload_n hx hb dX4_init_25 rfl (lv_at hl 1 rfl) ?_
  refine va_get (D := (dC, dI)) (ci := 3) (v := .ref q0) (C := RX4) (T := TX4) (N := 3) hx hb hts inX4 hown hG.1 hP 0 rfl rfl 0 (by decide) (hts (.fieldLink RX4 11 "WokenDrive$History" "saved" "[LWokenDrive$Drive;") (List.mem_of_getElem? (i := 5) rfl)) (fun _ h9 => h9) rfl dX4_init_26 ?_
  refine va_alen hx hb hG.1 hP 1 1 rfl rfl (v := (4 : Int32)) rfl dX4_init_29 ?_
  refine lv_icmp_ge (tgt := 52) hx hb dX4_init_30 (by decide) (fun c9 => absurd c9 (by decide)) (fun c9 => ?_)
  refine lv_aload_n hx hb dX4_init_33 rfl (lv_at hl 1 rfl) ?_
  refine va_get (D := (dC, dI)) (ci := 3) (v := .ref q0) (C := RX4) (T := TX4) (N := 3) hx hb hts inX4 hown hG.1 hP 0 rfl rfl 0 (by decide) (hts (.fieldLink RX4 11 "WokenDrive$History" "saved" "[LWokenDrive$Drive;") (List.mem_of_getElem? (i := 5) rfl)) (fun _ h9 => h9) rfl dX4_init_34 ?_
  refine lv_iload_n hx hb dX4_init_37 rfl (lv_at hl 0 rfl) ?_
  refine va_new (ci := 2) (fs := [.null, .null, .null, .null, .int 0, .int 0, .int 0, .int 0]) (C := RX3) (T := TX3) (N := 8) hx hb hts inX3 tyX3 tyX3_ok hown (hts (.classLink RX4 9 RX3) (List.mem_of_getElem? (i := 4) rfl)) (hts (.instantiable RX3 8) (List.mem_of_getElem? (i := 8) rfl)) (hts (.initialized RX3) (List.mem_of_getElem? (i := 9) rfl)) hG.1 hP hD hS hA rfl (fun j hj => by rcases (show j = 0 ∨ j = 1 ∨ j = 2 ∨ j = 3 ∨ j = 4 ∨ j = 5 ∨ j = 6 ∨ j = 7 by omega) with rfl | rfl | rfl | rfl | rfl | rfl | rfl | rfl <;> rfl) (Nat.le_of_ble_eq_true rfl) (Nat.le_of_ble_eq_true rfl) dX4_init_38 (fun q3 H hP hD hS => ?_)
  have hP : va_P (dC, dI) vwCl ([(h, .inr (3, [.ref q0, .int 0, .int 0])), (q0, .inl (cD, 4, .inr (.inr (.inr (.inr (va_up (fun _ => none) 0 (some (g2 0))))))))] ++ wDrv cI g2 ds0 ++ [(q3, .inr (2, [.null, .null, .null, .null, .int 0, .int 0, .int 0, .int 0]))] : va_W) H := hP
  have hD : va_D A ([(h, .inr (3, [.ref q0, .int 0, .int 0])), (q0, .inl (cD, 4, .inr (.inr (.inr (.inr (va_up (fun _ => none) 0 (some (g2 0))))))))] ++ wDrv cI g2 ds0 ++ [(q3, .inr (2, [.null, .null, .null, .null, .int 0, .int 0, .int 0, .int 0]))] : va_W) := hD
  refine lv_dup hx hb dX4_init_41 rfl ?_
  refine wk_callI (wr := ([(h, .inr (3, [.ref q0, .int 0, .int 0])), (q0, .inl (cD, 4, .inr (.inr (.inr (.inr (va_up (fun _ => none) 0 (some (g2 0))))))))] ++ wDrv cI g2 ds0 : va_W)) (va_runIN (As := []) (rest := [.ref q3, .int 1, .ref q0]) ⟨hx, hb, hml, hown, hts⟩ (c_X3_init l dC dI cI cD cJ kk q3 H) ⟨va_cnB 0 hts gX4_init_X3_init_n24 rfl rfl rfl (hG.2 _ (List.mem_of_getElem? (i := 12) rfl)) (hts (.initialized RX3) (List.mem_of_getElem? (i := 9) rfl)) (by decide +kernel) ⟨(Nat.le_of_ble_eq_true rfl), (Nat.le_of_ble_eq_true rfl)⟩, rfl, (hts (.instanceMethod yX3_init) (List.mem_of_getElem? (i := 10) rfl))⟩ (wk_preS hG hP hD [7] rfl rfl) rfl rfl hl.1 rfl (lv_room (Nat.le_of_ble_eq_true rfl)) dX4_init_42 ⟨(Nat.le_of_ble_eq_true rfl), (Nat.le_of_ble_eq_true rfl)⟩) hP hD hS hA [7] [0, 1, 2, 3, 4, 5, 6] rfl rfl rfl (by decide) (fun g4 H locs hg hP hD hS => ?_)
  subst hg
  have hP : va_P (dC, dI) vwCl ([(h, .inr (3, [.ref q0, .int 0, .int 0])), (q0, .inl (cD, 4, .inr (.inr (.inr (.inr (va_up (fun _ => none) 0 (some (g2 0))))))))] ++ wDrv cI g2 ds0 ++ wDrv cI g4 ds0 : va_W) H := hP
  have hD : va_D A ([(h, .inr (3, [.ref q0, .int 0, .int 0])), (q0, .inl (cD, 4, .inr (.inr (.inr (.inr (va_up (fun _ => none) 0 (some (g2 0))))))))] ++ wDrv cI g2 ds0 ++ wDrv cI g4 ds0 : va_W) := hD
  refine va_astq (r := (RX3, TX3, 8)) hx hb hG.1 hP hD hS 1 1 7 2 rfl rfl rfl rfl (vpb_in.mp (by decide)) dX4_init_45 (fun H locs hP hD hS => ?_)
  have hP : va_P (dC, dI) vwCl ([(h, .inr (3, [.ref q0, .int 0, .int 0])), (q0, .inl (cD, 4, .inr (.inr (.inr (.inr (va_up (va_up (fun _ => none) 0 (some (g2 0))) 1 (some (g4 0))))))))] ++ wDrv cI g2 ds0 ++ wDrv cI g4 ds0 : va_W) H := hP
  have hD : va_D A ([(h, .inr (3, [.ref q0, .int 0, .int 0])), (q0, .inl (cD, 4, .inr (.inr (.inr (.inr (va_up (va_up (fun _ => none) 0 (some (g2 0))) 1 (some (g4 0))))))))] ++ wDrv cI g2 ds0 ++ wDrv cI g4 ds0 : va_W) := hD
  refine lv_iinc (v := 2) (lv' := [(1, .int 2), (0, .ref h)]) hx hb dX4_init_46 hl (k := 0) rfl (by decide) (by decide) rfl (fun ls hl => ?_)
  refine lv_goto (tgt := 24) hx hb dX4_init_49 (by decide) ?_
  refine lv_iload_n hx hb dX4_init_24 rfl (lv_at hl 0 rfl) ?_
  refine lv_aload_n hx hb dX4_init_25 rfl (lv_at hl 1 rfl) ?_
  refine va_get (D := (dC, dI)) (ci := 3) (v := .ref q0) (C := RX4) (T := TX4) (N := 3) hx hb hts inX4 hown hG.1 hP 0 rfl rfl 0 (by decide) (hts (.fieldLink RX4 11 "WokenDrive$History" "saved" "[LWokenDrive$Drive;") (List.mem_of_getElem? (i := 5) rfl)) (fun _ h9 => h9) rfl dX4_init_26 ?_
  refine va_alen hx hb hG.1 hP 1 1 rfl rfl (v := (4 : Int32)) rfl dX4_init_29 ?_
  refine lv_icmp_ge (tgt := 52) hx hb dX4_init_30 (by decide) (fun c9 => absurd c9 (by decide)) (fun c9 => ?_)
  refine lv_aload_n hx hb dX4_init_33 rfl (lv_at hl 1 rfl) ?_
  refine va_get (D := (dC, dI)) (ci := 3) (v := .ref q0) (C := RX4) (T := TX4) (N := 3) hx hb hts inX4 hown hG.1 hP 0 rfl rfl 0 (by decide) (hts (.fieldLink RX4 11 "WokenDrive$History" "saved" "[LWokenDrive$Drive;") (List.mem_of_getElem? (i := 5) rfl)) (fun _ h9 => h9) rfl dX4_init_34 ?_
  refine lv_iload_n hx hb dX4_init_37 rfl (lv_at hl 0 rfl) ?_
  refine va_new (ci := 2) (fs := [.null, .null, .null, .null, .int 0, .int 0, .int 0, .int 0]) (C := RX3) (T := TX3) (N := 8) hx hb hts inX3 tyX3 tyX3_ok hown (hts (.classLink RX4 9 RX3) (List.mem_of_getElem? (i := 4) rfl)) (hts (.instantiable RX3 8) (List.mem_of_getElem? (i := 8) rfl)) (hts (.initialized RX3) (List.mem_of_getElem? (i := 9) rfl)) hG.1 hP hD hS hA rfl (fun j hj => by rcases (show j = 0 ∨ j = 1 ∨ j = 2 ∨ j = 3 ∨ j = 4 ∨ j = 5 ∨ j = 6 ∨ j = 7 by omega) with rfl | rfl | rfl | rfl | rfl | rfl | rfl | rfl <;> rfl) (Nat.le_of_ble_eq_true rfl) (Nat.le_of_ble_eq_true rfl) dX4_init_38 (fun q5 H hP hD hS => ?_)
  have hP : va_P (dC, dI) vwCl ([(h, .inr (3, [.ref q0, .int 0, .int 0])), (q0, .inl (cD, 4, .inr (.inr (.inr (.inr (va_up (va_up (fun _ => none) 0 (some (g2 0))) 1 (some (g4 0))))))))] ++ wDrv cI g2 ds0 ++ wDrv cI g4 ds0 ++ [(q5, .inr (2, [.null, .null, .null, .null, .int 0, .int 0, .int 0, .int 0]))] : va_W) H := hP
  have hD : va_D A ([(h, .inr (3, [.ref q0, .int 0, .int 0])), (q0, .inl (cD, 4, .inr (.inr (.inr (.inr (va_up (va_up (fun _ => none) 0 (some (g2 0))) 1 (some (g4 0))))))))] ++ wDrv cI g2 ds0 ++ wDrv cI g4 ds0 ++ [(q5, .inr (2, [.null, .null, .null, .null, .int 0, .int 0, .int 0, .int 0]))] : va_W) := hD
  refine lv_dup hx hb dX4_init_41 rfl ?_
  refine wk_callI (wr := ([(h, .inr (3, [.ref q0, .int 0, .int 0])), (q0, .inl (cD, 4, .inr (.inr (.inr (.inr (va_up (va_up (fun _ => none) 0 (some (g2 0))) 1 (some (g4 0))))))))] ++ wDrv cI g2 ds0 ++ wDrv cI g4 ds0 : va_W)) (va_runIN (As := []) (rest := [.ref q5, .int 2, .ref q0]) ⟨hx, hb, hml, hown, hts⟩ (c_X3_init l dC dI cI cD cJ kk q5 H) ⟨va_cnB 0 hts gX4_init_X3_init_n24 rfl rfl rfl (hG.2 _ (List.mem_of_getElem? (i := 12) rfl)) (hts (.initialized RX3) (List.mem_of_getElem? (i := 9) rfl)) (by decide +kernel) ⟨(Nat.le_of_ble_eq_true rfl), (Nat.le_of_ble_eq_true rfl)⟩, rfl, (hts (.instanceMethod yX3_init) (List.mem_of_getElem? (i := 10) rfl))⟩ (wk_preS hG hP hD [12] rfl rfl) rfl rfl hl.1 rfl (lv_room (Nat.le_of_ble_eq_true rfl)) dX4_init_42 ⟨(Nat.le_of_ble_eq_true rfl), (Nat.le_of_ble_eq_true rfl)⟩) hP hD hS hA [12] [0, 1, 2, 3, 4, 5, 6, 7, 8, 9, 10, 11] rfl rfl rfl (by decide) (fun g6 H locs hg hP hD hS => ?_)
  subst hg
  have hP : va_P (dC, dI) vwCl ([(h, .inr (3, [.ref q0, .int 0, .int 0])), (q0, .inl (cD, 4, .inr (.inr (.inr (.inr (va_up (va_up (fun _ => none) 0 (some (g2 0))) 1 (some (g4 0))))))))] ++ wDrv cI g2 ds0 ++ wDrv cI g4 ds0 ++ wDrv cI g6 ds0 : va_W) H := hP
  have hD : va_D A ([(h, .inr (3, [.ref q0, .int 0, .int 0])), (q0, .inl (cD, 4, .inr (.inr (.inr (.inr (va_up (va_up (fun _ => none) 0 (some (g2 0))) 1 (some (g4 0))))))))] ++ wDrv cI g2 ds0 ++ wDrv cI g4 ds0 ++ wDrv cI g6 ds0 : va_W) := hD
  refine va_astq (r := (RX3, TX3, 8)) hx hb hG.1 hP hD hS 1 1 12 2 rfl rfl rfl rfl (vpb_in.mp (by decide)) dX4_init_45 (fun H locs hP hD hS => ?_)
  have hP : va_P (dC, dI) vwCl ([(h, .inr (3, [.ref q0, .int 0, .int 0])), (q0, .inl (cD, 4, .inr (.inr (.inr (.inr (va_up (va_up (va_up (fun _ => none) 0 (some (g2 0))) 1 (some (g4 0))) 2 (some (g6 0))))))))] ++ wDrv cI g2 ds0 ++ wDrv cI g4 ds0 ++ wDrv cI g6 ds0 : va_W) H := hP
  have hD : va_D A ([(h, .inr (3, [.ref q0, .int 0, .int 0])), (q0, .inl (cD, 4, .inr (.inr (.inr (.inr (va_up (va_up (va_up (fun _ => none) 0 (some (g2 0))) 1 (some (g4 0))) 2 (some (g6 0))))))))] ++ wDrv cI g2 ds0 ++ wDrv cI g4 ds0 ++ wDrv cI g6 ds0 : va_W) := hD
  refine lv_iinc (v := 3) (lv' := [(1, .int 3), (0, .ref h)]) hx hb dX4_init_46 hl (k := 0) rfl (by decide) (by decide) rfl (fun ls hl => ?_)
  refine lv_goto (tgt := 24) hx hb dX4_init_49 (by decide) ?_
  refine lv_iload_n hx hb dX4_init_24 rfl (lv_at hl 0 rfl) ?_
  refine lv_aload_n hx hb dX4_init_25 rfl (lv_at hl 1 rfl) ?_
  refine va_get (D := (dC, dI)) (ci := 3) (v := .ref q0) (C := RX4) (T := TX4) (N := 3) hx hb hts inX4 hown hG.1 hP 0 rfl rfl 0 (by decide) (hts (.fieldLink RX4 11 "WokenDrive$History" "saved" "[LWokenDrive$Drive;") (List.mem_of_getElem? (i := 5) rfl)) (fun _ h9 => h9) rfl dX4_init_26 ?_
  refine va_alen hx hb hG.1 hP 1 1 rfl rfl (v := (4 : Int32)) rfl dX4_init_29 ?_
  refine lv_icmp_ge (tgt := 52) hx hb dX4_init_30 (by decide) (fun c9 => absurd c9 (by decide)) (fun c9 => ?_)
  refine lv_aload_n hx hb dX4_init_33 rfl (lv_at hl 1 rfl) ?_
  refine va_get (D := (dC, dI)) (ci := 3) (v := .ref q0) (C := RX4) (T := TX4) (N := 3) hx hb hts inX4 hown hG.1 hP 0 rfl rfl 0 (by decide) (hts (.fieldLink RX4 11 "WokenDrive$History" "saved" "[LWokenDrive$Drive;") (List.mem_of_getElem? (i := 5) rfl)) (fun _ h9 => h9) rfl dX4_init_34 ?_
  refine lv_iload_n hx hb dX4_init_37 rfl (lv_at hl 0 rfl) ?_
  refine va_new (ci := 2) (fs := [.null, .null, .null, .null, .int 0, .int 0, .int 0, .int 0]) (C := RX3) (T := TX3) (N := 8) hx hb hts inX3 tyX3 tyX3_ok hown (hts (.classLink RX4 9 RX3) (List.mem_of_getElem? (i := 4) rfl)) (hts (.instantiable RX3 8) (List.mem_of_getElem? (i := 8) rfl)) (hts (.initialized RX3) (List.mem_of_getElem? (i := 9) rfl)) hG.1 hP hD hS hA rfl (fun j hj => by rcases (show j = 0 ∨ j = 1 ∨ j = 2 ∨ j = 3 ∨ j = 4 ∨ j = 5 ∨ j = 6 ∨ j = 7 by omega) with rfl | rfl | rfl | rfl | rfl | rfl | rfl | rfl <;> rfl) (Nat.le_of_ble_eq_true rfl) (Nat.le_of_ble_eq_true rfl) dX4_init_38 (fun q7 H hP hD hS => ?_)
  have hP : va_P (dC, dI) vwCl ([(h, .inr (3, [.ref q0, .int 0, .int 0])), (q0, .inl (cD, 4, .inr (.inr (.inr (.inr (va_up (va_up (va_up (fun _ => none) 0 (some (g2 0))) 1 (some (g4 0))) 2 (some (g6 0))))))))] ++ wDrv cI g2 ds0 ++ wDrv cI g4 ds0 ++ wDrv cI g6 ds0 ++ [(q7, .inr (2, [.null, .null, .null, .null, .int 0, .int 0, .int 0, .int 0]))] : va_W) H := hP
  have hD : va_D A ([(h, .inr (3, [.ref q0, .int 0, .int 0])), (q0, .inl (cD, 4, .inr (.inr (.inr (.inr (va_up (va_up (va_up (fun _ => none) 0 (some (g2 0))) 1 (some (g4 0))) 2 (some (g6 0))))))))] ++ wDrv cI g2 ds0 ++ wDrv cI g4 ds0 ++ wDrv cI g6 ds0 ++ [(q7, .inr (2, [.null, .null, .null, .null, .int 0, .int 0, .int 0, .int 0]))] : va_W) := hD
  refine lv_dup hx hb dX4_init_41 rfl ?_
  refine wk_callI (wr := ([(h, .inr (3, [.ref q0, .int 0, .int 0])), (q0, .inl (cD, 4, .inr (.inr (.inr (.inr (va_up (va_up (va_up (fun _ => none) 0 (some (g2 0))) 1 (some (g4 0))) 2 (some (g6 0))))))))] ++ wDrv cI g2 ds0 ++ wDrv cI g4 ds0 ++ wDrv cI g6 ds0 : va_W)) (va_runIN (As := []) (rest := [.ref q7, .int 3, .ref q0]) ⟨hx, hb, hml, hown, hts⟩ (c_X3_init l dC dI cI cD cJ kk q7 H) ⟨va_cnB 0 hts gX4_init_X3_init_n24 rfl rfl rfl (hG.2 _ (List.mem_of_getElem? (i := 12) rfl)) (hts (.initialized RX3) (List.mem_of_getElem? (i := 9) rfl)) (by decide +kernel) ⟨(Nat.le_of_ble_eq_true rfl), (Nat.le_of_ble_eq_true rfl)⟩, rfl, (hts (.instanceMethod yX3_init) (List.mem_of_getElem? (i := 10) rfl))⟩ (wk_preS hG hP hD [17] rfl rfl) rfl rfl hl.1 rfl (lv_room (Nat.le_of_ble_eq_true rfl)) dX4_init_42 ⟨(Nat.le_of_ble_eq_true rfl), (Nat.le_of_ble_eq_true rfl)⟩) hP hD hS hA [17] [0, 1, 2, 3, 4, 5, 6, 7, 8, 9, 10, 11, 12, 13, 14, 15, 16] rfl rfl rfl (by decide) (fun g8 H locs hg hP hD hS => ?_)
  subst hg
  have hP : va_P (dC, dI) vwCl ([(h, .inr (3, [.ref q0, .int 0, .int 0])), (q0, .inl (cD, 4, .inr (.inr (.inr (.inr (va_up (va_up (va_up (fun _ => none) 0 (some (g2 0))) 1 (some (g4 0))) 2 (some (g6 0))))))))] ++ wDrv cI g2 ds0 ++ wDrv cI g4 ds0 ++ wDrv cI g6 ds0 ++ wDrv cI g8 ds0 : va_W) H := hP
  have hD : va_D A ([(h, .inr (3, [.ref q0, .int 0, .int 0])), (q0, .inl (cD, 4, .inr (.inr (.inr (.inr (va_up (va_up (va_up (fun _ => none) 0 (some (g2 0))) 1 (some (g4 0))) 2 (some (g6 0))))))))] ++ wDrv cI g2 ds0 ++ wDrv cI g4 ds0 ++ wDrv cI g6 ds0 ++ wDrv cI g8 ds0 : va_W) := hD
  refine va_astq (r := (RX3, TX3, 8)) hx hb hG.1 hP hD hS 1 1 17 2 rfl rfl rfl rfl (vpb_in.mp (by decide)) dX4_init_45 (fun H locs hP hD hS => ?_)
  have hP : va_P (dC, dI) vwCl ([(h, .inr (3, [.ref q0, .int 0, .int 0])), (q0, .inl (cD, 4, .inr (.inr (.inr (.inr (va_up (va_up (va_up (va_up (fun _ => none) 0 (some (g2 0))) 1 (some (g4 0))) 2 (some (g6 0))) 3 (some (g8 0))))))))] ++ wDrv cI g2 ds0 ++ wDrv cI g4 ds0 ++ wDrv cI g6 ds0 ++ wDrv cI g8 ds0 : va_W) H := hP
  have hD : va_D A ([(h, .inr (3, [.ref q0, .int 0, .int 0])), (q0, .inl (cD, 4, .inr (.inr (.inr (.inr (va_up (va_up (va_up (va_up (fun _ => none) 0 (some (g2 0))) 1 (some (g4 0))) 2 (some (g6 0))) 3 (some (g8 0))))))))] ++ wDrv cI g2 ds0 ++ wDrv cI g4 ds0 ++ wDrv cI g6 ds0 ++ wDrv cI g8 ds0 : va_W) := hD
  refine lv_iinc (v := 4) (lv' := [(1, .int 4), (0, .ref h)]) hx hb dX4_init_46 hl (k := 0) rfl (by decide) (by decide) rfl (fun ls hl => ?_)
  refine lv_goto (tgt := 24) hx hb dX4_init_49 (by decide) ?_
  refine lv_iload_n hx hb dX4_init_24 rfl (lv_at hl 0 rfl) ?_
  refine lv_aload_n hx hb dX4_init_25 rfl (lv_at hl 1 rfl) ?_
  refine va_get (D := (dC, dI)) (ci := 3) (v := .ref q0) (C := RX4) (T := TX4) (N := 3) hx hb hts inX4 hown hG.1 hP 0 rfl rfl 0 (by decide) (hts (.fieldLink RX4 11 "WokenDrive$History" "saved" "[LWokenDrive$Drive;") (List.mem_of_getElem? (i := 5) rfl)) (fun _ h9 => h9) rfl dX4_init_26 ?_
  refine va_alen hx hb hG.1 hP 1 1 rfl rfl (v := (4 : Int32)) rfl dX4_init_29 ?_
  refine lv_icmp_ge (tgt := 52) hx hb dX4_init_30 (by decide) (fun c9 => ?_) (fun c9 => absurd (by decide) c9)
  have hP := wk_setq hP (k := 1) (f' := (fun i => some ((fun n => [h, q0, g2 0, g2 1, g2 2, g2 3, g2 4, g4 0, g4 1, g4 2, g4 3, g4 4, g6 0, g6 1, g6 2, g6 3, g6 4, g8 0, g8 1, g8 2, g8 3, g8 4].getD n 0) (2 + 5 * i)))) rfl (fun i hi => by rcases (show i = 0 ∨ i = 1 ∨ i = 2 ∨ i = 3 by omega) with rfl | rfl | rfl | rfl <;> rfl)
  have hD := hD.set (p := 1) (e := .inl (cD, 4, .inr (.inr (.inr (.inr (fun i => some ((fun n => [h, q0, g2 0, g2 1, g2 2, g2 3, g2 4, g4 0, g4 1, g4 2, g4 3, g4 4, g6 0, g6 1, g6 2, g6 3, g6 4, g8 0, g8 1, g8 2, g8 3, g8 4].getD n 0) (2 + 5 * i))))))) ) (a := q0) (e0 := .inl (cD, 4, .inr (.inr (.inr (.inr (va_up (va_up (va_up (va_up (fun _ => none) 0 (some (g2 0))) 1 (some (g4 0))) 2 (some (g6 0))) 3 (some (g8 0)))))))) rfl
  have hP : va_P (dC, dI) vwCl (wHis cI cD (fun n => [h, q0, g2 0, g2 1, g2 2, g2 3, g2 4, g4 0, g4 1, g4 2, g4 3, g4 4, g6 0, g6 1, g6 2, g6 3, g6 4, g8 0, g8 1, g8 2, g8 3, g8 4].getD n 0) hs0) H := hP.sub [0, 1, 2, 3, 4, 5, 6, 7, 8, 9, 10, 11, 12, 13, 14, 15, 16, 17, 18, 19, 20, 21] rfl
  have hD : va_D A (wHis cI cD (fun n => [h, q0, g2 0, g2 1, g2 2, g2 3, g2 4, g4 0, g4 1, g4 2, g4 3, g4 4, g6 0, g6 1, g6 2, g6 3, g6 4, g8 0, g8 1, g8 2, g8 3, g8 4].getD n 0) hs0) := hD.sub [0, 1, 2, 3, 4, 5, 6, 7, 8, 9, 10, 11, 12, 13, 14, 15, 16, 17, 18, 19, 20, 21] rfl rfl
  exact wk_retI (fun n => [h, q0, g2 0, g2 1, g2 2, g2 3, g2 4, g4 0, g4 1, g4 2, g4 3, g4 4, g6 0, g6 1, g6 2, g6 3, g6 4, g8 0, g8 1, g8 2, g8 3, g8 4].getD n 0) hx hb hr hlocks hQ rfl hP hD hS (Nat.le_of_ble_eq_true rfl) (Nat.le_of_ble_eq_true rfl) dX4_init_52
set_option maxHeartbeats 4000000 in
set_option maxRecDepth 100000 in
theorem c_X1_init (l : Launch) (dC : Nat → ClassId) (dI : Nat → Nat → Nat) (cI cD cJ : ClassId) (kk : wAd) (h : Nat) : CI l yX1_init wsX1_init ({ frames := 1, cells := 2, slots := 154, locals := 40 } : Room) dC dI (wTys cI cD cJ) h [(h, .inr (0, [.null, .null, .int 0, .int 0, .null]))] (fun g => wTxt cI kk.1 g ts0) 2 154 := by
  refine wk_enterI (cc := cX1_init) (maxL := 1) (by decide) rfl (by decide) ?_
  intro p e s m below meth c A Q ls hB hA hP hD hQ hl
  obtain ⟨hx, hb, hml, hr, hts, hown, hname, hlocks, hG⟩ := hB
  have hown : s.vm.findClass RX1 = some m.cls := hown
  have hin : meth.name = "<init>" := hname
  have hS : va_S A s.heap s.heap [] := va_S.rf
  have inX1 : ∀ w ∈ wsX10, w ∈ wsX1_init := fun _ h => List.mem_cons_of_mem _ (List.mem_append_right _ h)
  obtain ⟨H, hH⟩ : ∃ z, z = s.heap := ⟨_, rfl⟩
  have hP : va_P (dC, dI) vwCl [(h, .inr (0, [.null, .null, .int 0, .int 0, .null]))] H := by rw [hH]; exact hP
  have hS : va_S A s.heap H [] := by rw [hH]; exact hS
  refine wk_at hH ?_
  generalize ([] : List Loc) = locs at hS ⊢
  refine lv_aload_n hx hb dX1_init_0 rfl (lv_at hl 0 rfl) ?_
  refine W.objInit hx hb hown (hts (.methodLink RX1 3 objectInit) (List.mem_of_getElem? (i := 1) rfl)) (hts (.instanceMethod objectInit) (List.mem_of_getElem? (i := 2) rfl)) (hts (.code objectInit ⟨#[0xb1]⟩ 1 none) (List.mem_of_getElem? (i := 3) rfl)) rfl (by rw [hml]; exact hl.1) rfl dX1_init_1 (Nat.le_of_ble_eq_true rfl) (Nat.le_of_ble_eq_true rfl) ?_
  refine W.eq (g2 := F0 m 4 ls []) rfl ?_
  refine lv_aload_n hx hb dX1_init_4 rfl (lv_at hl 0 rfl) ?_
  refine lv_sipush (v := 150) hx hb dX1_init_5 (by decide) ?_
  refine wk_newa hx hb (hts (.arrayClass .int) (List.mem_of_getElem? (i := 4) rfl)) hG hP hD hS hA 150 (by decide) (by decide) (by decide) (Nat.le_of_ble_eq_true rfl) (Nat.le_of_ble_eq_true rfl) dX1_init_8 (fun q0 H hP hD hS => ?_)
  have hP : va_P (dC, dI) vwCl ([(h, .inr (0, [.null, .null, .int 0, .int 0, .null])), (q0, .inl (cI, 150, .inl (fun _ => 0)))] : va_W) H := hP
  have hD : va_D A ([(h, .inr (0, [.null, .null, .int 0, .int 0, .null])), (q0, .inl (cI, 150, .inl (fun _ => 0)))] : va_W) := hD
  refine va_putF (D := (dC, dI)) (ci := 0) (v := .ref q0) (ty := .array .int) (C := RX1) (T := TX1) (N := 5) hx hb hts inX1 tyX1 tyX1_ok nmX1 hown hG.1 hP hD hS 0 rfl rfl 0 (by decide) (hts (.fieldLink RX1 9 "WokenDrive$CommandText" "bytes" "[I") (List.mem_of_getElem? (i := 5) rfl)) (fun _ h9 => h9) rfl hin rfl (by decide +kernel) rfl rfl (Nat.le_of_ble_eq_true rfl) dX1_init_10 (fun H locs hP hD hS => ?_)
  have hP : va_P (dC, dI) vwCl ([(h, .inr (0, [.ref q0, .null, .int 0, .int 0, .null])), (q0, .inl (cI, 150, .inl (fun _ => 0)))] : va_W) H := hP
  have hD : va_D A ([(h, .inr (0, [.ref q0, .null, .int 0, .int 0, .null])), (q0, .inl (cI, 150, .inl (fun _ => 0)))] : va_W) := hD
  refine lv_aload_n hx hb dX1_init_13 rfl (lv_at hl 0 rfl) ?_
  refine lv_iconst (v := 4) hx hb dX1_init_14 (by decide) ?_
  refine wk_newa hx hb (hts (.arrayClass .int) (List.mem_of_getElem? (i := 4) rfl)) hG hP hD hS hA 4 (by decide) (by decide) (by decide) (Nat.le_of_ble_eq_true rfl) (Nat.le_of_ble_eq_true rfl) dX1_init_15 (fun q1 H hP hD hS => ?_)
  have hP : va_P (dC, dI) vwCl ([(h, .inr (0, [.ref q0, .null, .int 0, .int 0, .null])), (q0, .inl (cI, 150, .inl (fun _ => 0))), (q1, .inl (cI, 4, .inl (fun _ => 0)))] : va_W) H := hP
  have hD : va_D A ([(h, .inr (0, [.ref q0, .null, .int 0, .int 0, .null])), (q0, .inl (cI, 150, .inl (fun _ => 0))), (q1, .inl (cI, 4, .inl (fun _ => 0)))] : va_W) := hD
  refine va_putF (D := (dC, dI)) (ci := 0) (v := .ref q1) (ty := .array .int) (C := RX1) (T := TX1) (N := 5) hx hb hts inX1 tyX1 tyX1_ok nmX1 hown hG.1 hP hD hS 0 rfl rfl 1 (by decide) (hts (.fieldLink RX1 15 "WokenDrive$CommandText" "numbers" "[I") (List.mem_of_getElem? (i := 6) rfl)) (fun _ h9 => h9) rfl hin rfl (by decide +kernel) rfl rfl (Nat.le_of_ble_eq_true rfl) dX1_init_17 (fun H locs hP hD hS => ?_)
  have hP : va_P (dC, dI) vwCl ([(h, .inr (0, [.ref q0, .ref q1, .int 0, .int 0, .null])), (q0, .inl (cI, 150, .inl (fun _ => 0))), (q1, .inl (cI, 4, .inl (fun _ => 0)))] : va_W) H := hP
  have hD : va_D A ([(h, .inr (0, [.ref q0, .ref q1, .int 0, .int 0, .null])), (q0, .inl (cI, 150, .inl (fun _ => 0))), (q1, .inl (cI, 4, .inl (fun _ => 0)))] : va_W) := hD
  refine lv_aload_n hx hb dX1_init_20 rfl (lv_at hl 0 rfl) ?_
  refine lv_iconst (v := 0) hx hb dX1_init_21 (by decide) ?_
  refine va_put (D := (dC, dI)) (ci := 0) (v := .int 0) (ty := .int) (C := RX1) (T := TX1) (N := 5) hx hb hts inX1 tyX1 tyX1_ok nmX1 hown hG.1 hP hD hS 0 rfl rfl 2 (by decide) (hts (.fieldLink RX1 18 "WokenDrive$CommandText" "length" "I") (List.mem_of_getElem? (i := 7) rfl)) (fun _ h9 => h9) rfl (by decide +kernel) rfl rfl (Nat.le_of_ble_eq_true rfl) dX1_init_22 (fun H locs hP hD hS => ?_)
  have hP : va_P (dC, dI) vwCl ([(h, .inr (0, [.ref q0, .ref q1, .int 0, .int 0, .null])), (q0, .inl (cI, 150, .inl (fun _ => 0))), (q1, .inl (cI, 4, .inl (fun _ => 0)))] : va_W) H := hP
  have hD : va_D A ([(h, .inr (0, [.ref q0, .ref q1, .int 0, .int 0, .null])), (q0, .inl (cI, 150, .inl (fun _ => 0))), (q1, .inl (cI, 4, .inl (fun _ => 0)))] : va_W) := hD
  refine lv_aload_n hx hb dX1_init_25 rfl (lv_at hl 0 rfl) ?_
  refine lv_iconst (v := 0) hx hb dX1_init_26 (by decide) ?_
  refine va_put (D := (dC, dI)) (ci := 0) (v := .int 0) (ty := .int) (C := RX1) (T := TX1) (N := 5) hx hb hts inX1 tyX1 tyX1_ok nmX1 hown hG.1 hP hD hS 0 rfl rfl 3 (by decide) (hts (.fieldLink RX1 22 "WokenDrive$CommandText" "cursor" "I") (List.mem_of_getElem? (i := 8) rfl)) (fun _ h9 => h9) rfl (by decide +kernel) rfl rfl (Nat.le_of_ble_eq_true rfl) dX1_init_27 (fun H locs hP hD hS => ?_)
  have hP : va_P (dC, dI) vwCl ([(h, .inr (0, [.ref q0, .ref q1, .int 0, .int 0, .null])), (q0, .inl (cI, 150, .inl (fun _ => 0))), (q1, .inl (cI, 4, .inl (fun _ => 0)))] : va_W) H := hP
  have hD : va_D A ([(h, .inr (0, [.ref q0, .ref q1, .int 0, .int 0, .null])), (q0, .inl (cI, 150, .inl (fun _ => 0))), (q1, .inl (cI, 4, .inl (fun _ => 0)))] : va_W) := hD
  refine lv_aload_n hx hb dX1_init_30 rfl (lv_at hl 0 rfl) ?_
  refine lv_null hx hb dX1_init_31 ?_
  refine va_put (D := (dC, dI)) (ci := 0) (v := .null) (ty := .object "WokenDrive$Word") (C := RX1) (T := TX1) (N := 5) hx hb hts inX1 tyX1 tyX1_ok nmX1 hown hG.1 hP hD hS 0 rfl rfl 4 (by decide) (hts (.fieldLink RX1 25 "WokenDrive$CommandText" "word" "LWokenDrive$Word;") (List.mem_of_getElem? (i := 9) rfl)) (fun _ h9 => h9) rfl (by decide +kernel) rfl rfl (Nat.le_of_ble_eq_true rfl) dX1_init_32 (fun H locs hP hD hS => ?_)
  have hP : va_P (dC, dI) vwCl ([(h, .inr (0, [.ref q0, .ref q1, .int 0, .int 0, .null])), (q0, .inl (cI, 150, .inl (fun _ => 0))), (q1, .inl (cI, 4, .inl (fun _ => 0)))] : va_W) H := hP
  have hD : va_D A ([(h, .inr (0, [.ref q0, .ref q1, .int 0, .int 0, .null])), (q0, .inl (cI, 150, .inl (fun _ => 0))), (q1, .inl (cI, 4, .inl (fun _ => 0)))] : va_W) := hD
  have hP : va_P (dC, dI) vwCl (wTxt cI kk.1 (fun n => [h, q0, q1].getD n 0) ts0) H := hP.sub [0, 1, 2] rfl
  have hD : va_D A (wTxt cI kk.1 (fun n => [h, q0, q1].getD n 0) ts0) := hD.sub [0, 1, 2] rfl rfl
  exact wk_retI (fun n => [h, q0, q1].getD n 0) hx hb hr hlocks hQ rfl hP hD hS (Nat.le_of_ble_eq_true rfl) (Nat.le_of_ble_eq_true rfl) dX1_init_35
set_option maxHeartbeats 4000000 in
set_option maxRecDepth 100000 in
theorem c_X6_init (l : Launch) (dC : Nat → ClassId) (dI : Nat → Nat → Nat) (cI cD cJ : ClassId) (kk : wAd) (h : Nat) : CI l yX6_init wsX6_init ({ frames := 4, cells := 37, slots := 3342, locals := 101 } : Room) dC dI (wTys cI cD cJ) h [(h, .inr (4, [.null, .null, .null, .null, .null, .null]))] (fun g => wSys cI cD kk.1 g ss0) 37 3342 := by
  refine wk_enterI (cc := cX6_init) (maxL := 1) (by decide) rfl (by decide) ?_
  intro p e s m below meth c A Q ls hB hA hP hD hQ hl
  obtain ⟨hx, hb, hml, hr, hts, hown, hname, hlocks, hG⟩ := hB
  have hown : s.vm.findClass RX6 = some m.cls := hown
  have hin : meth.name = "<init>" := hname
  have hS : va_S A s.heap s.heap [] := va_S.rf
  have inX1 : ∀ w ∈ wsX10, w ∈ wsX6_init := fun _ h => List.mem_cons_of_mem _ (List.mem_append_left _ (List.mem_append_right _ h))
  have inX3 : ∀ w ∈ wsX30, w ∈ wsX6_init := fun _ h => List.mem_cons_of_mem _ (List.mem_append_left _ (List.mem_append_left _ (List.mem_append_left _ (List.mem_append_left _ (List.mem_append_right _ h)))))
  have inX4 : ∀ w ∈ wsX40, w ∈ wsX6_init := fun _ h => List.mem_cons_of_mem _ (List.mem_append_left _ (List.mem_append_left _ (List.mem_append_right _ h)))
  have inX6 : ∀ w ∈ wsX60, w ∈ wsX6_init := fun _ h => List.mem_cons_of_mem _ (List.mem_append_left _ (List.mem_append_left _ (List.mem_append_left _ (List.mem_append_right _ h))))
  obtain ⟨H, hH⟩ : ∃ z, z = s.heap := ⟨_, rfl⟩
  have hP : va_P (dC, dI) vwCl [(h, .inr (4, [.null, .null, .null, .null, .null, .null]))] H := by rw [hH]; exact hP
  have hS : va_S A s.heap H [] := by rw [hH]; exact hS
  refine wk_at hH ?_
  generalize ([] : List Loc) = locs at hS ⊢
  refine lv_aload_n hx hb dX6_init_0 rfl (lv_at hl 0 rfl) ?_
  refine W.objInit hx hb hown (hts (.methodLink RX6 1 objectInit) (List.mem_of_getElem? (i := 1) rfl)) (hts (.instanceMethod objectInit) (List.mem_of_getElem? (i := 2) rfl)) (hts (.code objectInit ⟨#[0xb1]⟩ 1 none) (List.mem_of_getElem? (i := 3) rfl)) rfl (by rw [hml]; exact hl.1) rfl dX6_init_1 (Nat.le_of_ble_eq_true rfl) (Nat.le_of_ble_eq_true rfl) ?_
  refine W.eq (g2 := F0 m 4 ls []) rfl ?_
  refine lv_aload_n hx hb dX6_init_4 rfl (lv_at hl 0 rfl) ?_
  refine va_new (ci := 2) (fs := [.null, .null, .null, .null, .int 0, .int 0, .int 0, .int 0]) (C := RX3) (T := TX3) (N := 8) hx hb hts inX3 tyX3 tyX3_ok hown (hts (.classLink RX6 7 RX3) (List.mem_of_getElem? (i := 4) rfl)) (hts (.instantiable RX3 8) (List.mem_of_getElem? (i := 5) rfl)) (hts (.initialized RX3) (List.mem_of_getElem? (i := 6) rfl)) hG.1 hP hD hS hA rfl (fun j hj => by rcases (show j = 0 ∨ j = 1 ∨ j = 2 ∨ j = 3 ∨ j = 4 ∨ j = 5 ∨ j = 6 ∨ j = 7 by omega) with rfl | rfl | rfl | rfl | rfl | rfl | rfl | rfl <;> rfl) (Nat.le_of_ble_eq_true rfl) (Nat.le_of_ble_eq_true rfl) dX6_init_5 (fun q0 H hP hD hS => ?_)
  have hP : va_P (dC, dI) vwCl ([(h, .inr (4, [.null, .null, .null, .null, .null, .null])), (q0, .inr (2, [.null, .null, .null, .null, .int 0, .int 0, .int 0, .int 0]))] : va_W) H := hP
  have hD : va_D A ([(h, .inr (4, [.null, .null, .null, .null, .null, .null])), (q0, .inr (2, [.null, .null, .null, .null, .int 0, .int 0, .int 0, .int 0]))] : va_W) := hD
  refine lv_dup hx hb dX6_init_8 rfl ?_
  refine wk_callI (wr := ([(h, .inr (4, [.null, .null, .null, .null, .null, .null]))] : va_W)) (va_runIN (As := []) (rest := [.ref q0, .ref h]) ⟨hx, hb, hml, hown, hts⟩ (c_X3_init l dC dI cI cD cJ kk q0 H) ⟨va_cnB 0 hts gX6_init_X3_init_n9 rfl rfl rfl (hG.2 _ (List.mem_of_getElem? (i := 2) rfl)) (hts (.initialized RX3) (List.mem_of_getElem? (i := 6) rfl)) (by decide +kernel) ⟨(Nat.le_of_ble_eq_true rfl), (Nat.le_of_ble_eq_true rfl)⟩, rfl, (hts (.instanceMethod yX3_init) (List.mem_of_getElem? (i := 20) rfl))⟩ (wk_preS hG hP hD [1] rfl rfl) rfl rfl hl.1 rfl (lv_room (Nat.le_of_ble_eq_true rfl)) dX6_init_9 ⟨(Nat.le_of_ble_eq_true rfl), (Nat.le_of_ble_eq_true rfl)⟩) hP hD hS hA [1] [0] rfl rfl rfl (by decide) (fun g1 H locs hg hP hD hS => ?_)
  subst hg
  have hP : va_P (dC, dI) vwCl ([(h, .inr (4, [.null, .null, .null, .null, .null, .null]))] ++ wDrv cI g1 ds0 : va_W) H := hP
  have hD : va_D A ([(h, .inr (4, [.null, .null, .null, .null, .null, .null]))] ++ wDrv cI g1 ds0 : va_W) := hD
  refine va_putF (D := (dC, dI)) (ci := 4) (v := .ref (g1 0)) (ty := .object "WokenDrive$Drive") (C := RX6) (T := TX6) (N := 6) hx hb hts inX6 tyX6 tyX6_ok nmX6 hown hG.1 hP hD hS 0 rfl rfl 0 (by decide) (hts (.fieldLink RX6 10 "WokenDrive" "drive" "LWokenDrive$Drive;") (List.mem_of_getElem? (i := 7) rfl)) (fun _ h9 => h9) rfl hin rfl (by decide +kernel) rfl rfl (Nat.le_of_ble_eq_true rfl) dX6_init_12 (fun H locs hP hD hS => ?_)
  have hP : va_P (dC, dI) vwCl ([(h, .inr (4, [.ref (g1 0), .null, .null, .null, .null, .null]))] ++ wDrv cI g1 ds0 : va_W) H := hP
  have hD : va_D A ([(h, .inr (4, [.ref (g1 0), .null, .null, .null, .null, .null]))] ++ wDrv cI g1 ds0 : va_W) := hD
  refine lv_aload_n hx hb dX6_init_15 rfl (lv_at hl 0 rfl) ?_
  refine va_new (ci := 2) (fs := [.null, .null, .null, .null, .int 0, .int 0, .int 0, .int 0]) (C := RX3) (T := TX3) (N := 8) hx hb hts inX3 tyX3 tyX3_ok hown (hts (.classLink RX6 7 RX3) (List.mem_of_getElem? (i := 4) rfl)) (hts (.instantiable RX3 8) (List.mem_of_getElem? (i := 5) rfl)) (hts (.initialized RX3) (List.mem_of_getElem? (i := 6) rfl)) hG.1 hP hD hS hA rfl (fun j hj => by rcases (show j = 0 ∨ j = 1 ∨ j = 2 ∨ j = 3 ∨ j = 4 ∨ j = 5 ∨ j = 6 ∨ j = 7 by omega) with rfl | rfl | rfl | rfl | rfl | rfl | rfl | rfl <;> rfl) (Nat.le_of_ble_eq_true rfl) (Nat.le_of_ble_eq_true rfl) dX6_init_16 (fun q2 H hP hD hS => ?_)
  have hP : va_P (dC, dI) vwCl ([(h, .inr (4, [.ref (g1 0), .null, .null, .null, .null, .null]))] ++ wDrv cI g1 ds0 ++ [(q2, .inr (2, [.null, .null, .null, .null, .int 0, .int 0, .int 0, .int 0]))] : va_W) H := hP
  have hD : va_D A ([(h, .inr (4, [.ref (g1 0), .null, .null, .null, .null, .null]))] ++ wDrv cI g1 ds0 ++ [(q2, .inr (2, [.null, .null, .null, .null, .int 0, .int 0, .int 0, .int 0]))] : va_W) := hD
  refine lv_dup hx hb dX6_init_19 rfl ?_
  refine wk_callI (wr := ([(h, .inr (4, [.ref (g1 0), .null, .null, .null, .null, .null]))] ++ wDrv cI g1 ds0 : va_W)) (va_runIN (As := []) (rest := [.ref q2, .ref h]) ⟨hx, hb, hml, hown, hts⟩ (c_X3_init l dC dI cI cD cJ kk q2 H) ⟨va_cnB 0 hts gX6_init_X3_init_n9 rfl rfl rfl (hG.2 _ (List.mem_of_getElem? (i := 2) rfl)) (hts (.initialized RX3) (List.mem_of_getElem? (i := 6) rfl)) (by decide +kernel) ⟨(Nat.le_of_ble_eq_true rfl), (Nat.le_of_ble_eq_true rfl)⟩, rfl, (hts (.instanceMethod yX3_init) (List.mem_of_getElem? (i := 20) rfl))⟩ (wk_preS hG hP hD [6] rfl rfl) rfl rfl hl.1 rfl (lv_room (Nat.le_of_ble_eq_true rfl)) dX6_init_20 ⟨(Nat.le_of_ble_eq_true rfl), (Nat.le_of_ble_eq_true rfl)⟩) hP hD hS hA [6] [0, 1, 2, 3, 4, 5] rfl rfl rfl (by decide) (fun g3 H locs hg hP hD hS => ?_)
  subst hg
  have hP : va_P (dC, dI) vwCl ([(h, .inr (4, [.ref (g1 0), .null, .null, .null, .null, .null]))] ++ wDrv cI g1 ds0 ++ wDrv cI g3 ds0 : va_W) H := hP
  have hD : va_D A ([(h, .inr (4, [.ref (g1 0), .null, .null, .null, .null, .null]))] ++ wDrv cI g1 ds0 ++ wDrv cI g3 ds0 : va_W) := hD
  refine va_putF (D := (dC, dI)) (ci := 4) (v := .ref (g3 0)) (ty := .object "WokenDrive$Drive") (C := RX6) (T := TX6) (N := 6) hx hb hts inX6 tyX6 tyX6_ok nmX6 hown hG.1 hP hD hS 0 rfl rfl 1 (by decide) (hts (.fieldLink RX6 16 "WokenDrive" "imagined" "LWokenDrive$Drive;") (List.mem_of_getElem? (i := 8) rfl)) (fun _ h9 => h9) rfl hin rfl (by decide +kernel) rfl rfl (Nat.le_of_ble_eq_true rfl) dX6_init_23 (fun H locs hP hD hS => ?_)
  have hP : va_P (dC, dI) vwCl ([(h, .inr (4, [.ref (g1 0), .ref (g3 0), .null, .null, .null, .null]))] ++ wDrv cI g1 ds0 ++ wDrv cI g3 ds0 : va_W) H := hP
  have hD : va_D A ([(h, .inr (4, [.ref (g1 0), .ref (g3 0), .null, .null, .null, .null]))] ++ wDrv cI g1 ds0 ++ wDrv cI g3 ds0 : va_W) := hD
  refine lv_aload_n hx hb dX6_init_26 rfl (lv_at hl 0 rfl) ?_
  refine va_new (ci := 3) (fs := [.null, .int 0, .int 0]) (C := RX4) (T := TX4) (N := 3) hx hb hts inX4 tyX4 tyX4_ok hown (hts (.classLink RX6 19 RX4) (List.mem_of_getElem? (i := 9) rfl)) (hts (.instantiable RX4 3) (List.mem_of_getElem? (i := 10) rfl)) (hts (.initialized RX4) (List.mem_of_getElem? (i := 11) rfl)) hG.1 hP hD hS hA rfl (fun j hj => by rcases (show j = 0 ∨ j = 1 ∨ j = 2 by omega) with rfl | rfl | rfl <;> rfl) (Nat.le_of_ble_eq_true rfl) (Nat.le_of_ble_eq_true rfl) dX6_init_27 (fun q4 H hP hD hS => ?_)
  have hP : va_P (dC, dI) vwCl ([(h, .inr (4, [.ref (g1 0), .ref (g3 0), .null, .null, .null, .null]))] ++ wDrv cI g1 ds0 ++ wDrv cI g3 ds0 ++ [(q4, .inr (3, [.null, .int 0, .int 0]))] : va_W) H := hP
  have hD : va_D A ([(h, .inr (4, [.ref (g1 0), .ref (g3 0), .null, .null, .null, .null]))] ++ wDrv cI g1 ds0 ++ wDrv cI g3 ds0 ++ [(q4, .inr (3, [.null, .int 0, .int 0]))] : va_W) := hD
  refine lv_dup hx hb dX6_init_30 rfl ?_
  refine wk_callI (wr := ([(h, .inr (4, [.ref (g1 0), .ref (g3 0), .null, .null, .null, .null]))] ++ wDrv cI g1 ds0 ++ wDrv cI g3 ds0 : va_W)) (va_runI (As := []) (rest := [.ref q4, .ref h]) ⟨hx, hb, hml, hown, hts⟩ (c_X4_init l dC dI cI cD cJ kk q4 H) (cwI 0 hts gX6_init_X4_init rfl rfl rfl (hts (.initialized RX4) (List.mem_of_getElem? (i := 11) rfl)) (hts (.methodLink RX6 21 yX4_init) (List.mem_of_getElem? (i := 45) rfl)) (hts (.instanceMethod yX4_init) (List.mem_of_getElem? (i := 46) rfl)) rfl (by decide +kernel) ⟨(Nat.le_of_ble_eq_true rfl), (Nat.le_of_ble_eq_true rfl)⟩) (wk_preS hG hP hD [11] rfl rfl) rfl rfl hl.1 rfl (lv_room (Nat.le_of_ble_eq_true rfl)) dX6_init_31 ⟨(Nat.le_of_ble_eq_true rfl), (Nat.le_of_ble_eq_true rfl)⟩) hP hD hS hA [11] [0, 1, 2, 3, 4, 5, 6, 7, 8, 9, 10] rfl rfl rfl (by decide) (fun g5 H locs hg hP hD hS => ?_)
  subst hg
  have hP : va_P (dC, dI) vwCl ([(h, .inr (4, [.ref (g1 0), .ref (g3 0), .null, .null, .null, .null]))] ++ wDrv cI g1 ds0 ++ wDrv cI g3 ds0 ++ wHis cI cD g5 hs0 : va_W) H := hP
  have hD : va_D A ([(h, .inr (4, [.ref (g1 0), .ref (g3 0), .null, .null, .null, .null]))] ++ wDrv cI g1 ds0 ++ wDrv cI g3 ds0 ++ wHis cI cD g5 hs0 : va_W) := hD
  refine va_putF (D := (dC, dI)) (ci := 4) (v := .ref (g5 0)) (ty := .object "WokenDrive$History") (C := RX6) (T := TX6) (N := 6) hx hb hts inX6 tyX6 tyX6_ok nmX6 hown hG.1 hP hD hS 0 rfl rfl 2 (by decide) (hts (.fieldLink RX6 22 "WokenDrive" "history" "LWokenDrive$History;") (List.mem_of_getElem? (i := 12) rfl)) (fun _ h9 => h9) rfl hin rfl (by decide +kernel) rfl rfl (Nat.le_of_ble_eq_true rfl) dX6_init_34 (fun H locs hP hD hS => ?_)
  have hP : va_P (dC, dI) vwCl ([(h, .inr (4, [.ref (g1 0), .ref (g3 0), .ref (g5 0), .null, .null, .null]))] ++ wDrv cI g1 ds0 ++ wDrv cI g3 ds0 ++ wHis cI cD g5 hs0 : va_W) H := hP
  have hD : va_D A ([(h, .inr (4, [.ref (g1 0), .ref (g3 0), .ref (g5 0), .null, .null, .null]))] ++ wDrv cI g1 ds0 ++ wDrv cI g3 ds0 ++ wHis cI cD g5 hs0 : va_W) := hD
  refine lv_aload_n hx hb dX6_init_37 rfl (lv_at hl 0 rfl) ?_
  refine va_new (ci := 0) (fs := [.null, .null, .int 0, .int 0, .null]) (C := RX1) (T := TX1) (N := 5) hx hb hts inX1 tyX1 tyX1_ok hown (hts (.classLink RX6 26 RX1) (List.mem_of_getElem? (i := 13) rfl)) (hts (.instantiable RX1 5) (List.mem_of_getElem? (i := 14) rfl)) (hts (.initialized RX1) (List.mem_of_getElem? (i := 15) rfl)) hG.1 hP hD hS hA rfl (fun j hj => by rcases (show j = 0 ∨ j = 1 ∨ j = 2 ∨ j = 3 ∨ j = 4 by omega) with rfl | rfl | rfl | rfl | rfl <;> rfl) (Nat.le_of_ble_eq_true rfl) (Nat.le_of_ble_eq_true rfl) dX6_init_38 (fun q6 H hP hD hS => ?_)
  have hP : va_P (dC, dI) vwCl ([(h, .inr (4, [.ref (g1 0), .ref (g3 0), .ref (g5 0), .null, .null, .null]))] ++ wDrv cI g1 ds0 ++ wDrv cI g3 ds0 ++ wHis cI cD g5 hs0 ++ [(q6, .inr (0, [.null, .null, .int 0, .int 0, .null]))] : va_W) H := hP
  have hD : va_D A ([(h, .inr (4, [.ref (g1 0), .ref (g3 0), .ref (g5 0), .null, .null, .null]))] ++ wDrv cI g1 ds0 ++ wDrv cI g3 ds0 ++ wHis cI cD g5 hs0 ++ [(q6, .inr (0, [.null, .null, .int 0, .int 0, .null]))] : va_W) := hD
  refine lv_dup hx hb dX6_init_41 rfl ?_
  refine wk_callI (wr := ([(h, .inr (4, [.ref (g1 0), .ref (g3 0), .ref (g5 0), .null, .null, .null]))] ++ wDrv cI g1 ds0 ++ wDrv cI g3 ds0 ++ wHis cI cD g5 hs0 : va_W)) (va_runIN (As := []) (rest := [.ref q6, .ref h]) ⟨hx, hb, hml, hown, hts⟩ (c_X1_init l dC dI cI cD cJ kk q6 H) ⟨va_cnB 0 hts gX6_init_X1_init_n28 rfl rfl rfl (hG.2 _ (List.mem_of_getElem? (i := 1) rfl)) (hts (.initialized RX1) (List.mem_of_getElem? (i := 15) rfl)) (by decide +kernel) ⟨(Nat.le_of_ble_eq_true rfl), (Nat.le_of_ble_eq_true rfl)⟩, rfl, (hts (.instanceMethod yX1_init) (List.mem_of_getElem? (i := 53) rfl))⟩ (wk_preS hG hP hD [33] rfl rfl) rfl rfl hl.1 rfl (lv_room (Nat.le_of_ble_eq_true rfl)) dX6_init_42 ⟨(Nat.le_of_ble_eq_true rfl), (Nat.le_of_ble_eq_true rfl)⟩) hP hD hS hA [33] [0, 1, 2, 3, 4, 5, 6, 7, 8, 9, 10, 11, 12, 13, 14, 15, 16, 17, 18, 19, 20, 21, 22, 23, 24, 25, 26, 27, 28, 29, 30, 31, 32] rfl rfl rfl (by decide) (fun g7 H locs hg hP hD hS => ?_)
  subst hg
  have hP : va_P (dC, dI) vwCl ([(h, .inr (4, [.ref (g1 0), .ref (g3 0), .ref (g5 0), .null, .null, .null]))] ++ wDrv cI g1 ds0 ++ wDrv cI g3 ds0 ++ wHis cI cD g5 hs0 ++ wTxt cI kk.1 g7 ts0 : va_W) H := hP
  have hD : va_D A ([(h, .inr (4, [.ref (g1 0), .ref (g3 0), .ref (g5 0), .null, .null, .null]))] ++ wDrv cI g1 ds0 ++ wDrv cI g3 ds0 ++ wHis cI cD g5 hs0 ++ wTxt cI kk.1 g7 ts0 : va_W) := hD
  refine va_putF (D := (dC, dI)) (ci := 4) (v := .ref (g7 0)) (ty := .object "WokenDrive$CommandText") (C := RX6) (T := TX6) (N := 6) hx hb hts inX6 tyX6 tyX6_ok nmX6 hown hG.1 hP hD hS 0 rfl rfl 3 (by decide) (hts (.fieldLink RX6 29 "WokenDrive" "text" "LWokenDrive$CommandText;") (List.mem_of_getElem? (i := 16) rfl)) (fun _ h9 => h9) rfl hin rfl (by decide +kernel) rfl rfl (Nat.le_of_ble_eq_true rfl) dX6_init_45 (fun H locs hP hD hS => ?_)
  have hP : va_P (dC, dI) vwCl ([(h, .inr (4, [.ref (g1 0), .ref (g3 0), .ref (g5 0), .ref (g7 0), .null, .null]))] ++ wDrv cI g1 ds0 ++ wDrv cI g3 ds0 ++ wHis cI cD g5 hs0 ++ wTxt cI kk.1 g7 ts0 : va_W) H := hP
  have hD : va_D A ([(h, .inr (4, [.ref (g1 0), .ref (g3 0), .ref (g5 0), .ref (g7 0), .null, .null]))] ++ wDrv cI g1 ds0 ++ wDrv cI g3 ds0 ++ wHis cI cD g5 hs0 ++ wTxt cI kk.1 g7 ts0 : va_W) := hD
  refine lv_aload_n hx hb dX6_init_48 rfl (lv_at hl 0 rfl) ?_
  refine lv_bipush (v := 16) hx hb dX6_init_49 (by decide) ?_
  refine wk_newa hx hb (hts (.arrayClass .int) (List.mem_of_getElem? (i := 17) rfl)) hG hP hD hS hA 16 (by decide) (by decide) (by decide) (Nat.le_of_ble_eq_true rfl) (Nat.le_of_ble_eq_true rfl) dX6_init_51 (fun q8 H hP hD hS => ?_)
  have hP : va_P (dC, dI) vwCl ([(h, .inr (4, [.ref (g1 0), .ref (g3 0), .ref (g5 0), .ref (g7 0), .null, .null]))] ++ wDrv cI g1 ds0 ++ wDrv cI g3 ds0 ++ wHis cI cD g5 hs0 ++ wTxt cI kk.1 g7 ts0 ++ [(q8, .inl (cI, 16, .inl (fun _ => 0)))] : va_W) H := hP
  have hD : va_D A ([(h, .inr (4, [.ref (g1 0), .ref (g3 0), .ref (g5 0), .ref (g7 0), .null, .null]))] ++ wDrv cI g1 ds0 ++ wDrv cI g3 ds0 ++ wHis cI cD g5 hs0 ++ wTxt cI kk.1 g7 ts0 ++ [(q8, .inl (cI, 16, .inl (fun _ => 0)))] : va_W) := hD
  refine va_putF (D := (dC, dI)) (ci := 4) (v := .ref q8) (ty := .array .int) (C := RX6) (T := TX6) (N := 6) hx hb hts inX6 tyX6 tyX6_ok nmX6 hown hG.1 hP hD hS 0 rfl rfl 4 (by decide) (hts (.fieldLink RX6 33 "WokenDrive" "finals" "[I") (List.mem_of_getElem? (i := 18) rfl)) (fun _ h9 => h9) rfl hin rfl (by decide +kernel) rfl rfl (Nat.le_of_ble_eq_true rfl) dX6_init_53 (fun H locs hP hD hS => ?_)
  have hP : va_P (dC, dI) vwCl ([(h, .inr (4, [.ref (g1 0), .ref (g3 0), .ref (g5 0), .ref (g7 0), .ref q8, .null]))] ++ wDrv cI g1 ds0 ++ wDrv cI g3 ds0 ++ wHis cI cD g5 hs0 ++ wTxt cI kk.1 g7 ts0 ++ [(q8, .inl (cI, 16, .inl (fun _ => 0)))] : va_W) H := hP
  have hD : va_D A ([(h, .inr (4, [.ref (g1 0), .ref (g3 0), .ref (g5 0), .ref (g7 0), .ref q8, .null]))] ++ wDrv cI g1 ds0 ++ wDrv cI g3 ds0 ++ wHis cI cD g5 hs0 ++ wTxt cI kk.1 g7 ts0 ++ [(q8, .inl (cI, 16, .inl (fun _ => 0)))] : va_W) := hD
  refine lv_aload_n hx hb dX6_init_56 rfl (lv_at hl 0 rfl) ?_
  refine lv_bipush (v := 40) hx hb dX6_init_57 (by decide) ?_
  refine wk_newa hx hb (hts (.arrayClass .int) (List.mem_of_getElem? (i := 17) rfl)) hG hP hD hS hA 40 (by decide) (by decide) (by decide) (Nat.le_of_ble_eq_true rfl) (Nat.le_of_ble_eq_true rfl) dX6_init_59 (fun q9 H hP hD hS => ?_)
  have hP : va_P (dC, dI) vwCl ([(h, .inr (4, [.ref (g1 0), .ref (g3 0), .ref (g5 0), .ref (g7 0), .ref q8, .null]))] ++ wDrv cI g1 ds0 ++ wDrv cI g3 ds0 ++ wHis cI cD g5 hs0 ++ wTxt cI kk.1 g7 ts0 ++ [(q8, .inl (cI, 16, .inl (fun _ => 0))), (q9, .inl (cI, 40, .inl (fun _ => 0)))] : va_W) H := hP
  have hD : va_D A ([(h, .inr (4, [.ref (g1 0), .ref (g3 0), .ref (g5 0), .ref (g7 0), .ref q8, .null]))] ++ wDrv cI g1 ds0 ++ wDrv cI g3 ds0 ++ wHis cI cD g5 hs0 ++ wTxt cI kk.1 g7 ts0 ++ [(q8, .inl (cI, 16, .inl (fun _ => 0))), (q9, .inl (cI, 40, .inl (fun _ => 0)))] : va_W) := hD
  refine va_putF (D := (dC, dI)) (ci := 4) (v := .ref q9) (ty := .array .int) (C := RX6) (T := TX6) (N := 6) hx hb hts inX6 tyX6 tyX6_ok nmX6 hown hG.1 hP hD hS 0 rfl rfl 5 (by decide) (hts (.fieldLink RX6 37 "WokenDrive" "depths" "[I") (List.mem_of_getElem? (i := 19) rfl)) (fun _ h9 => h9) rfl hin rfl (by decide +kernel) rfl rfl (Nat.le_of_ble_eq_true rfl) dX6_init_61 (fun H locs hP hD hS => ?_)
  have hP : va_P (dC, dI) vwCl ([(h, .inr (4, [.ref (g1 0), .ref (g3 0), .ref (g5 0), .ref (g7 0), .ref q8, .ref q9]))] ++ wDrv cI g1 ds0 ++ wDrv cI g3 ds0 ++ wHis cI cD g5 hs0 ++ wTxt cI kk.1 g7 ts0 ++ [(q8, .inl (cI, 16, .inl (fun _ => 0))), (q9, .inl (cI, 40, .inl (fun _ => 0)))] : va_W) H := hP
  have hD : va_D A ([(h, .inr (4, [.ref (g1 0), .ref (g3 0), .ref (g5 0), .ref (g7 0), .ref q8, .ref q9]))] ++ wDrv cI g1 ds0 ++ wDrv cI g3 ds0 ++ wHis cI cD g5 hs0 ++ wTxt cI kk.1 g7 ts0 ++ [(q8, .inl (cI, 16, .inl (fun _ => 0))), (q9, .inl (cI, 40, .inl (fun _ => 0)))] : va_W) := hD
  have hP : va_P (dC, dI) vwCl (wSys cI cD kk.1 (fun n => [h, g1 0, g1 1, g1 2, g1 3, g1 4, g3 0, g3 1, g3 2, g3 3, g3 4, g5 0, g5 1, g5 2, g5 3, g5 4, g5 5, g5 6, g5 7, g5 8, g5 9, g5 10, g5 11, g5 12, g5 13, g5 14, g5 15, g5 16, g5 17, g5 18, g5 19, g5 20, g5 21, g7 0, g7 1, g7 2, q8, q9].getD n 0) ss0) H := hP.sub [0, 1, 2, 3, 4, 5, 6, 7, 8, 9, 10, 11, 12, 13, 14, 15, 16, 17, 18, 19, 20, 21, 22, 23, 24, 25, 26, 27, 28, 29, 30, 31, 32, 33, 34, 35, 36, 37] rfl
  have hD : va_D A (wSys cI cD kk.1 (fun n => [h, g1 0, g1 1, g1 2, g1 3, g1 4, g3 0, g3 1, g3 2, g3 3, g3 4, g5 0, g5 1, g5 2, g5 3, g5 4, g5 5, g5 6, g5 7, g5 8, g5 9, g5 10, g5 11, g5 12, g5 13, g5 14, g5 15, g5 16, g5 17, g5 18, g5 19, g5 20, g5 21, g7 0, g7 1, g7 2, q8, q9].getD n 0) ss0) := hD.sub [0, 1, 2, 3, 4, 5, 6, 7, 8, 9, 10, 11, 12, 13, 14, 15, 16, 17, 18, 19, 20, 21, 22, 23, 24, 25, 26, 27, 28, 29, 30, 31, 32, 33, 34, 35, 36, 37] rfl rfl
  exact wk_retI (fun n => [h, g1 0, g1 1, g1 2, g1 3, g1 4, g3 0, g3 1, g3 2, g3 3, g3 4, g5 0, g5 1, g5 2, g5 3, g5 4, g5 5, g5 6, g5 7, g5 8, g5 9, g5 10, g5 11, g5 12, g5 13, g5 14, g5 15, g5 16, g5 17, g5 18, g5 19, g5 20, g5 21, g7 0, g7 1, g7 2, q8, q9].getD n 0) hx hb hr hlocks hQ rfl hP hD hS (Nat.le_of_ble_eq_true rfl) (Nat.le_of_ble_eq_true rfl) dX6_init_64
set_option maxHeartbeats 4000000 in
set_option maxRecDepth 100000 in
theorem c_X7_init (l : Launch) (dC : Nat → ClassId) (dI : Nat → Nat → Nat) (cI cD cJ : ClassId) (kk : wAd) (h : Nat) : CI l yX7_init wsX7_init ({ frames := 1, cells := 7, slots := 3786, locals := 40 } : Room) dC dI (wTys cI cD cJ) h [(h, .inr (5, [.null, .null, .null, .null, .null, .null, .null, .int 0, .int 0, .int 0, .int 0, .int 0, .int 0, .int 0]))] (fun g => wMod cI g ms0) 7 3786 := by
  refine wk_enterI (cc := cX7_init) (maxL := 1) (by decide) rfl (by decide) ?_
  intro p e s m below meth c A Q ls hB hA hP hD hQ hl
  obtain ⟨hx, hb, hml, hr, hts, hown, hname, hlocks, hG⟩ := hB
  have hown : s.vm.findClass RX7 = some m.cls := hown
  have hin : meth.name = "<init>" := hname
  have hS : va_S A s.heap s.heap [] := va_S.rf
  have inX7 : ∀ w ∈ wsX70, w ∈ wsX7_init := fun _ h => List.mem_cons_of_mem _ (List.mem_append_right _ h)
  obtain ⟨H, hH⟩ : ∃ z, z = s.heap := ⟨_, rfl⟩
  have hP : va_P (dC, dI) vwCl [(h, .inr (5, [.null, .null, .null, .null, .null, .null, .null, .int 0, .int 0, .int 0, .int 0, .int 0, .int 0, .int 0]))] H := by rw [hH]; exact hP
  have hS : va_S A s.heap H [] := by rw [hH]; exact hS
  refine wk_at hH ?_
  generalize ([] : List Loc) = locs at hS ⊢
  refine lv_aload_n hx hb dX7_init_0 rfl (lv_at hl 0 rfl) ?_
  refine W.objInit hx hb hown (hts (.methodLink RX7 1 objectInit) (List.mem_of_getElem? (i := 1) rfl)) (hts (.instanceMethod objectInit) (List.mem_of_getElem? (i := 2) rfl)) (hts (.code objectInit ⟨#[0xb1]⟩ 1 none) (List.mem_of_getElem? (i := 3) rfl)) rfl (by rw [hml]; exact hl.1) rfl dX7_init_1 (Nat.le_of_ble_eq_true rfl) (Nat.le_of_ble_eq_true rfl) ?_
  refine W.eq (g2 := F0 m 4 ls []) rfl ?_
  refine lv_aload_n hx hb dX7_init_4 rfl (lv_at hl 0 rfl) ?_
  refine lv_sipush (v := 596) hx hb dX7_init_5 (by decide) ?_
  refine wk_newa hx hb (hts (.arrayClass .int) (List.mem_of_getElem? (i := 4) rfl)) hG hP hD hS hA 596 (by decide) (by decide) (by decide) (Nat.le_of_ble_eq_true rfl) (Nat.le_of_ble_eq_true rfl) dX7_init_8 (fun q0 H hP hD hS => ?_)
  have hP : va_P (dC, dI) vwCl ([(h, .inr (5, [.null, .null, .null, .null, .null, .null, .null, .int 0, .int 0, .int 0, .int 0, .int 0, .int 0, .int 0])), (q0, .inl (cI, 596, .inl (fun _ => 0)))] : va_W) H := hP
  have hD : va_D A ([(h, .inr (5, [.null, .null, .null, .null, .null, .null, .null, .int 0, .int 0, .int 0, .int 0, .int 0, .int 0, .int 0])), (q0, .inl (cI, 596, .inl (fun _ => 0)))] : va_W) := hD
  refine va_putF (D := (dC, dI)) (ci := 5) (v := .ref q0) (ty := .array .int) (C := RX7) (T := TX7) (N := 14) hx hb hts inX7 tyX7 tyX7_ok nmX7 hown hG.1 hP hD hS 0 rfl rfl 0 (by decide) (hts (.fieldLink RX7 7 "WokenDriveModel" "now" "[I") (List.mem_of_getElem? (i := 5) rfl)) (fun _ h9 => h9) rfl hin rfl (by decide +kernel) rfl rfl (Nat.le_of_ble_eq_true rfl) dX7_init_10 (fun H locs hP hD hS => ?_)
  have hP : va_P (dC, dI) vwCl ([(h, .inr (5, [.ref q0, .null, .null, .null, .null, .null, .null, .int 0, .int 0, .int 0, .int 0, .int 0, .int 0, .int 0])), (q0, .inl (cI, 596, .inl (fun _ => 0)))] : va_W) H := hP
  have hD : va_D A ([(h, .inr (5, [.ref q0, .null, .null, .null, .null, .null, .null, .int 0, .int 0, .int 0, .int 0, .int 0, .int 0, .int 0])), (q0, .inl (cI, 596, .inl (fun _ => 0)))] : va_W) := hD
  refine lv_aload_n hx hb dX7_init_13 rfl (lv_at hl 0 rfl) ?_
  refine lv_sipush (v := 2384) hx hb dX7_init_14 (by decide) ?_
  refine wk_newa hx hb (hts (.arrayClass .int) (List.mem_of_getElem? (i := 4) rfl)) hG hP hD hS hA 2384 (by decide) (by decide) (by decide) (Nat.le_of_ble_eq_true rfl) (Nat.le_of_ble_eq_true rfl) dX7_init_17 (fun q1 H hP hD hS => ?_)
  have hP : va_P (dC, dI) vwCl ([(h, .inr (5, [.ref q0, .null, .null, .null, .null, .null, .null, .int 0, .int 0, .int 0, .int 0, .int 0, .int 0, .int 0])), (q0, .inl (cI, 596, .inl (fun _ => 0))), (q1, .inl (cI, 2384, .inl (fun _ => 0)))] : va_W) H := hP
  have hD : va_D A ([(h, .inr (5, [.ref q0, .null, .null, .null, .null, .null, .null, .int 0, .int 0, .int 0, .int 0, .int 0, .int 0, .int 0])), (q0, .inl (cI, 596, .inl (fun _ => 0))), (q1, .inl (cI, 2384, .inl (fun _ => 0)))] : va_W) := hD
  refine va_putF (D := (dC, dI)) (ci := 5) (v := .ref q1) (ty := .array .int) (C := RX7) (T := TX7) (N := 14) hx hb hts inX7 tyX7 tyX7_ok nmX7 hown hG.1 hP hD hS 0 rfl rfl 1 (by decide) (hts (.fieldLink RX7 13 "WokenDriveModel" "past" "[I") (List.mem_of_getElem? (i := 6) rfl)) (fun _ h9 => h9) rfl hin rfl (by decide +kernel) rfl rfl (Nat.le_of_ble_eq_true rfl) dX7_init_19 (fun H locs hP hD hS => ?_)
  have hP : va_P (dC, dI) vwCl ([(h, .inr (5, [.ref q0, .ref q1, .null, .null, .null, .null, .null, .int 0, .int 0, .int 0, .int 0, .int 0, .int 0, .int 0])), (q0, .inl (cI, 596, .inl (fun _ => 0))), (q1, .inl (cI, 2384, .inl (fun _ => 0)))] : va_W) H := hP
  have hD : va_D A ([(h, .inr (5, [.ref q0, .ref q1, .null, .null, .null, .null, .null, .int 0, .int 0, .int 0, .int 0, .int 0, .int 0, .int 0])), (q0, .inl (cI, 596, .inl (fun _ => 0))), (q1, .inl (cI, 2384, .inl (fun _ => 0)))] : va_W) := hD
  refine lv_aload_n hx hb dX7_init_22 rfl (lv_at hl 0 rfl) ?_
  refine lv_sipush (v := 596) hx hb dX7_init_23 (by decide) ?_
  refine wk_newa hx hb (hts (.arrayClass .int) (List.mem_of_getElem? (i := 4) rfl)) hG hP hD hS hA 596 (by decide) (by decide) (by decide) (Nat.le_of_ble_eq_true rfl) (Nat.le_of_ble_eq_true rfl) dX7_init_26 (fun q2 H hP hD hS => ?_)
  have hP : va_P (dC, dI) vwCl ([(h, .inr (5, [.ref q0, .ref q1, .null, .null, .null, .null, .null, .int 0, .int 0, .int 0, .int 0, .int 0, .int 0, .int 0])), (q0, .inl (cI, 596, .inl (fun _ => 0))), (q1, .inl (cI, 2384, .inl (fun _ => 0))), (q2, .inl (cI, 596, .inl (fun _ => 0)))] : va_W) H := hP
  have hD : va_D A ([(h, .inr (5, [.ref q0, .ref q1, .null, .null, .null, .null, .null, .int 0, .int 0, .int 0, .int 0, .int 0, .int 0, .int 0])), (q0, .inl (cI, 596, .inl (fun _ => 0))), (q1, .inl (cI, 2384, .inl (fun _ => 0))), (q2, .inl (cI, 596, .inl (fun _ => 0)))] : va_W) := hD
  refine va_putF (D := (dC, dI)) (ci := 5) (v := .ref q2) (ty := .array .int) (C := RX7) (T := TX7) (N := 14) hx hb hts inX7 tyX7 tyX7_ok nmX7 hown hG.1 hP hD hS 0 rfl rfl 2 (by decide) (hts (.fieldLink RX7 16 "WokenDriveModel" "aside" "[I") (List.mem_of_getElem? (i := 7) rfl)) (fun _ h9 => h9) rfl hin rfl (by decide +kernel) rfl rfl (Nat.le_of_ble_eq_true rfl) dX7_init_28 (fun H locs hP hD hS => ?_)
  have hP : va_P (dC, dI) vwCl ([(h, .inr (5, [.ref q0, .ref q1, .ref q2, .null, .null, .null, .null, .int 0, .int 0, .int 0, .int 0, .int 0, .int 0, .int 0])), (q0, .inl (cI, 596, .inl (fun _ => 0))), (q1, .inl (cI, 2384, .inl (fun _ => 0))), (q2, .inl (cI, 596, .inl (fun _ => 0)))] : va_W) H := hP
  have hD : va_D A ([(h, .inr (5, [.ref q0, .ref q1, .ref q2, .null, .null, .null, .null, .int 0, .int 0, .int 0, .int 0, .int 0, .int 0, .int 0])), (q0, .inl (cI, 596, .inl (fun _ => 0))), (q1, .inl (cI, 2384, .inl (fun _ => 0))), (q2, .inl (cI, 596, .inl (fun _ => 0)))] : va_W) := hD
  refine lv_aload_n hx hb dX7_init_31 rfl (lv_at hl 0 rfl) ?_
  refine lv_bipush (v := 40) hx hb dX7_init_32 (by decide) ?_
  refine wk_newa hx hb (hts (.arrayClass .int) (List.mem_of_getElem? (i := 4) rfl)) hG hP hD hS hA 40 (by decide) (by decide) (by decide) (Nat.le_of_ble_eq_true rfl) (Nat.le_of_ble_eq_true rfl) dX7_init_34 (fun q3 H hP hD hS => ?_)
  have hP : va_P (dC, dI) vwCl ([(h, .inr (5, [.ref q0, .ref q1, .ref q2, .null, .null, .null, .null, .int 0, .int 0, .int 0, .int 0, .int 0, .int 0, .int 0])), (q0, .inl (cI, 596, .inl (fun _ => 0))), (q1, .inl (cI, 2384, .inl (fun _ => 0))), (q2, .inl (cI, 596, .inl (fun _ => 0))), (q3, .inl (cI, 40, .inl (fun _ => 0)))] : va_W) H := hP
  have hD : va_D A ([(h, .inr (5, [.ref q0, .ref q1, .ref q2, .null, .null, .null, .null, .int 0, .int 0, .int 0, .int 0, .int 0, .int 0, .int 0])), (q0, .inl (cI, 596, .inl (fun _ => 0))), (q1, .inl (cI, 2384, .inl (fun _ => 0))), (q2, .inl (cI, 596, .inl (fun _ => 0))), (q3, .inl (cI, 40, .inl (fun _ => 0)))] : va_W) := hD
  refine va_putF (D := (dC, dI)) (ci := 5) (v := .ref q3) (ty := .array .int) (C := RX7) (T := TX7) (N := 14) hx hb hts inX7 tyX7 tyX7_ok nmX7 hown hG.1 hP hD hS 0 rfl rfl 3 (by decide) (hts (.fieldLink RX7 19 "WokenDriveModel" "depths" "[I") (List.mem_of_getElem? (i := 8) rfl)) (fun _ h9 => h9) rfl hin rfl (by decide +kernel) rfl rfl (Nat.le_of_ble_eq_true rfl) dX7_init_36 (fun H locs hP hD hS => ?_)
  have hP : va_P (dC, dI) vwCl ([(h, .inr (5, [.ref q0, .ref q1, .ref q2, .ref q3, .null, .null, .null, .int 0, .int 0, .int 0, .int 0, .int 0, .int 0, .int 0])), (q0, .inl (cI, 596, .inl (fun _ => 0))), (q1, .inl (cI, 2384, .inl (fun _ => 0))), (q2, .inl (cI, 596, .inl (fun _ => 0))), (q3, .inl (cI, 40, .inl (fun _ => 0)))] : va_W) H := hP
  have hD : va_D A ([(h, .inr (5, [.ref q0, .ref q1, .ref q2, .ref q3, .null, .null, .null, .int 0, .int 0, .int 0, .int 0, .int 0, .int 0, .int 0])), (q0, .inl (cI, 596, .inl (fun _ => 0))), (q1, .inl (cI, 2384, .inl (fun _ => 0))), (q2, .inl (cI, 596, .inl (fun _ => 0))), (q3, .inl (cI, 40, .inl (fun _ => 0)))] : va_W) := hD
  refine lv_aload_n hx hb dX7_init_39 rfl (lv_at hl 0 rfl) ?_
  refine lv_bipush (v := 16) hx hb dX7_init_40 (by decide) ?_
  refine wk_newa hx hb (hts (.arrayClass .int) (List.mem_of_getElem? (i := 4) rfl)) hG hP hD hS hA 16 (by decide) (by decide) (by decide) (Nat.le_of_ble_eq_true rfl) (Nat.le_of_ble_eq_true rfl) dX7_init_42 (fun q4 H hP hD hS => ?_)
  have hP : va_P (dC, dI) vwCl ([(h, .inr (5, [.ref q0, .ref q1, .ref q2, .ref q3, .null, .null, .null, .int 0, .int 0, .int 0, .int 0, .int 0, .int 0, .int 0])), (q0, .inl (cI, 596, .inl (fun _ => 0))), (q1, .inl (cI, 2384, .inl (fun _ => 0))), (q2, .inl (cI, 596, .inl (fun _ => 0))), (q3, .inl (cI, 40, .inl (fun _ => 0))), (q4, .inl (cI, 16, .inl (fun _ => 0)))] : va_W) H := hP
  have hD : va_D A ([(h, .inr (5, [.ref q0, .ref q1, .ref q2, .ref q3, .null, .null, .null, .int 0, .int 0, .int 0, .int 0, .int 0, .int 0, .int 0])), (q0, .inl (cI, 596, .inl (fun _ => 0))), (q1, .inl (cI, 2384, .inl (fun _ => 0))), (q2, .inl (cI, 596, .inl (fun _ => 0))), (q3, .inl (cI, 40, .inl (fun _ => 0))), (q4, .inl (cI, 16, .inl (fun _ => 0)))] : va_W) := hD
  refine va_putF (D := (dC, dI)) (ci := 5) (v := .ref q4) (ty := .array .int) (C := RX7) (T := TX7) (N := 14) hx hb hts inX7 tyX7 tyX7_ok nmX7 hown hG.1 hP hD hS 0 rfl rfl 4 (by decide) (hts (.fieldLink RX7 22 "WokenDriveModel" "values" "[I") (List.mem_of_getElem? (i := 9) rfl)) (fun _ h9 => h9) rfl hin rfl (by decide +kernel) rfl rfl (Nat.le_of_ble_eq_true rfl) dX7_init_44 (fun H locs hP hD hS => ?_)
  have hP : va_P (dC, dI) vwCl ([(h, .inr (5, [.ref q0, .ref q1, .ref q2, .ref q3, .ref q4, .null, .null, .int 0, .int 0, .int 0, .int 0, .int 0, .int 0, .int 0])), (q0, .inl (cI, 596, .inl (fun _ => 0))), (q1, .inl (cI, 2384, .inl (fun _ => 0))), (q2, .inl (cI, 596, .inl (fun _ => 0))), (q3, .inl (cI, 40, .inl (fun _ => 0))), (q4, .inl (cI, 16, .inl (fun _ => 0)))] : va_W) H := hP
  have hD : va_D A ([(h, .inr (5, [.ref q0, .ref q1, .ref q2, .ref q3, .ref q4, .null, .null, .int 0, .int 0, .int 0, .int 0, .int 0, .int 0, .int 0])), (q0, .inl (cI, 596, .inl (fun _ => 0))), (q1, .inl (cI, 2384, .inl (fun _ => 0))), (q2, .inl (cI, 596, .inl (fun _ => 0))), (q3, .inl (cI, 40, .inl (fun _ => 0))), (q4, .inl (cI, 16, .inl (fun _ => 0)))] : va_W) := hD
  refine lv_aload_n hx hb dX7_init_47 rfl (lv_at hl 0 rfl) ?_
  refine lv_sipush (v := 150) hx hb dX7_init_48 (by decide) ?_
  refine wk_newa hx hb (hts (.arrayClass .int) (List.mem_of_getElem? (i := 4) rfl)) hG hP hD hS hA 150 (by decide) (by decide) (by decide) (Nat.le_of_ble_eq_true rfl) (Nat.le_of_ble_eq_true rfl) dX7_init_51 (fun q5 H hP hD hS => ?_)
  have hP : va_P (dC, dI) vwCl ([(h, .inr (5, [.ref q0, .ref q1, .ref q2, .ref q3, .ref q4, .null, .null, .int 0, .int 0, .int 0, .int 0, .int 0, .int 0, .int 0])), (q0, .inl (cI, 596, .inl (fun _ => 0))), (q1, .inl (cI, 2384, .inl (fun _ => 0))), (q2, .inl (cI, 596, .inl (fun _ => 0))), (q3, .inl (cI, 40, .inl (fun _ => 0))), (q4, .inl (cI, 16, .inl (fun _ => 0))), (q5, .inl (cI, 150, .inl (fun _ => 0)))] : va_W) H := hP
  have hD : va_D A ([(h, .inr (5, [.ref q0, .ref q1, .ref q2, .ref q3, .ref q4, .null, .null, .int 0, .int 0, .int 0, .int 0, .int 0, .int 0, .int 0])), (q0, .inl (cI, 596, .inl (fun _ => 0))), (q1, .inl (cI, 2384, .inl (fun _ => 0))), (q2, .inl (cI, 596, .inl (fun _ => 0))), (q3, .inl (cI, 40, .inl (fun _ => 0))), (q4, .inl (cI, 16, .inl (fun _ => 0))), (q5, .inl (cI, 150, .inl (fun _ => 0)))] : va_W) := hD
  refine va_putF (D := (dC, dI)) (ci := 5) (v := .ref q5) (ty := .array .int) (C := RX7) (T := TX7) (N := 14) hx hb hts inX7 tyX7 tyX7_ok nmX7 hown hG.1 hP hD hS 0 rfl rfl 5 (by decide) (hts (.fieldLink RX7 25 "WokenDriveModel" "text" "[I") (List.mem_of_getElem? (i := 10) rfl)) (fun _ h9 => h9) rfl hin rfl (by decide +kernel) rfl rfl (Nat.le_of_ble_eq_true rfl) dX7_init_53 (fun H locs hP hD hS => ?_)
  have hP : va_P (dC, dI) vwCl ([(h, .inr (5, [.ref q0, .ref q1, .ref q2, .ref q3, .ref q4, .ref q5, .null, .int 0, .int 0, .int 0, .int 0, .int 0, .int 0, .int 0])), (q0, .inl (cI, 596, .inl (fun _ => 0))), (q1, .inl (cI, 2384, .inl (fun _ => 0))), (q2, .inl (cI, 596, .inl (fun _ => 0))), (q3, .inl (cI, 40, .inl (fun _ => 0))), (q4, .inl (cI, 16, .inl (fun _ => 0))), (q5, .inl (cI, 150, .inl (fun _ => 0)))] : va_W) H := hP
  have hD : va_D A ([(h, .inr (5, [.ref q0, .ref q1, .ref q2, .ref q3, .ref q4, .ref q5, .null, .int 0, .int 0, .int 0, .int 0, .int 0, .int 0, .int 0])), (q0, .inl (cI, 596, .inl (fun _ => 0))), (q1, .inl (cI, 2384, .inl (fun _ => 0))), (q2, .inl (cI, 596, .inl (fun _ => 0))), (q3, .inl (cI, 40, .inl (fun _ => 0))), (q4, .inl (cI, 16, .inl (fun _ => 0))), (q5, .inl (cI, 150, .inl (fun _ => 0)))] : va_W) := hD
  refine lv_aload_n hx hb dX7_init_56 rfl (lv_at hl 0 rfl) ?_
  refine lv_iconst (v := 4) hx hb dX7_init_57 (by decide) ?_
  refine wk_newa hx hb (hts (.arrayClass .int) (List.mem_of_getElem? (i := 4) rfl)) hG hP hD hS hA 4 (by decide) (by decide) (by decide) (Nat.le_of_ble_eq_true rfl) (Nat.le_of_ble_eq_true rfl) dX7_init_58 (fun q6 H hP hD hS => ?_)
  have hP : va_P (dC, dI) vwCl ([(h, .inr (5, [.ref q0, .ref q1, .ref q2, .ref q3, .ref q4, .ref q5, .null, .int 0, .int 0, .int 0, .int 0, .int 0, .int 0, .int 0])), (q0, .inl (cI, 596, .inl (fun _ => 0))), (q1, .inl (cI, 2384, .inl (fun _ => 0))), (q2, .inl (cI, 596, .inl (fun _ => 0))), (q3, .inl (cI, 40, .inl (fun _ => 0))), (q4, .inl (cI, 16, .inl (fun _ => 0))), (q5, .inl (cI, 150, .inl (fun _ => 0))), (q6, .inl (cI, 4, .inl (fun _ => 0)))] : va_W) H := hP
  have hD : va_D A ([(h, .inr (5, [.ref q0, .ref q1, .ref q2, .ref q3, .ref q4, .ref q5, .null, .int 0, .int 0, .int 0, .int 0, .int 0, .int 0, .int 0])), (q0, .inl (cI, 596, .inl (fun _ => 0))), (q1, .inl (cI, 2384, .inl (fun _ => 0))), (q2, .inl (cI, 596, .inl (fun _ => 0))), (q3, .inl (cI, 40, .inl (fun _ => 0))), (q4, .inl (cI, 16, .inl (fun _ => 0))), (q5, .inl (cI, 150, .inl (fun _ => 0))), (q6, .inl (cI, 4, .inl (fun _ => 0)))] : va_W) := hD
  refine va_putF (D := (dC, dI)) (ci := 5) (v := .ref q6) (ty := .array .int) (C := RX7) (T := TX7) (N := 14) hx hb hts inX7 tyX7 tyX7_ok nmX7 hown hG.1 hP hD hS 0 rfl rfl 6 (by decide) (hts (.fieldLink RX7 28 "WokenDriveModel" "numbers" "[I") (List.mem_of_getElem? (i := 11) rfl)) (fun _ h9 => h9) rfl hin rfl (by decide +kernel) rfl rfl (Nat.le_of_ble_eq_true rfl) dX7_init_60 (fun H locs hP hD hS => ?_)
  have hP : va_P (dC, dI) vwCl ([(h, .inr (5, [.ref q0, .ref q1, .ref q2, .ref q3, .ref q4, .ref q5, .ref q6, .int 0, .int 0, .int 0, .int 0, .int 0, .int 0, .int 0])), (q0, .inl (cI, 596, .inl (fun _ => 0))), (q1, .inl (cI, 2384, .inl (fun _ => 0))), (q2, .inl (cI, 596, .inl (fun _ => 0))), (q3, .inl (cI, 40, .inl (fun _ => 0))), (q4, .inl (cI, 16, .inl (fun _ => 0))), (q5, .inl (cI, 150, .inl (fun _ => 0))), (q6, .inl (cI, 4, .inl (fun _ => 0)))] : va_W) H := hP
  have hD : va_D A ([(h, .inr (5, [.ref q0, .ref q1, .ref q2, .ref q3, .ref q4, .ref q5, .ref q6, .int 0, .int 0, .int 0, .int 0, .int 0, .int 0, .int 0])), (q0, .inl (cI, 596, .inl (fun _ => 0))), (q1, .inl (cI, 2384, .inl (fun _ => 0))), (q2, .inl (cI, 596, .inl (fun _ => 0))), (q3, .inl (cI, 40, .inl (fun _ => 0))), (q4, .inl (cI, 16, .inl (fun _ => 0))), (q5, .inl (cI, 150, .inl (fun _ => 0))), (q6, .inl (cI, 4, .inl (fun _ => 0)))] : va_W) := hD
  refine lv_aload_n hx hb dX7_init_63 rfl (lv_at hl 0 rfl) ?_
  refine va_get (D := (dC, dI)) (ci := 5) (v := .ref q0) (C := RX7) (T := TX7) (N := 14) hx hb hts inX7 hown hG.1 hP 0 rfl rfl 0 (by decide) (hts (.fieldLink RX7 7 "WokenDriveModel" "now" "[I") (List.mem_of_getElem? (i := 5) rfl)) (fun _ h9 => h9) rfl dX7_init_64 ?_
  refine lv_iconst (v := 2) hx hb dX7_init_67 (by decide) ?_
  refine lv_iconst (v := -1) hx hb dX7_init_68 (by decide) ?_
  refine va_iast hx hb hG.1 hP hD hS 1 0 rfl rfl (vpb_in.mp (by decide)) dX7_init_69 (fun H locs hP hD hS => ?_)
  have hP : va_P (dC, dI) vwCl ([(h, .inr (5, [.ref q0, .ref q1, .ref q2, .ref q3, .ref q4, .ref q5, .ref q6, .int 0, .int 0, .int 0, .int 0, .int 0, .int 0, .int 0])), (q0, .inl (cI, 596, .inl (upd (fun _ => 0) 2 (-1)))), (q1, .inl (cI, 2384, .inl (fun _ => 0))), (q2, .inl (cI, 596, .inl (fun _ => 0))), (q3, .inl (cI, 40, .inl (fun _ => 0))), (q4, .inl (cI, 16, .inl (fun _ => 0))), (q5, .inl (cI, 150, .inl (fun _ => 0))), (q6, .inl (cI, 4, .inl (fun _ => 0)))] : va_W) H := hP
  have hD : va_D A ([(h, .inr (5, [.ref q0, .ref q1, .ref q2, .ref q3, .ref q4, .ref q5, .ref q6, .int 0, .int 0, .int 0, .int 0, .int 0, .int 0, .int 0])), (q0, .inl (cI, 596, .inl (upd (fun _ => 0) 2 (-1)))), (q1, .inl (cI, 2384, .inl (fun _ => 0))), (q2, .inl (cI, 596, .inl (fun _ => 0))), (q3, .inl (cI, 40, .inl (fun _ => 0))), (q4, .inl (cI, 16, .inl (fun _ => 0))), (q5, .inl (cI, 150, .inl (fun _ => 0))), (q6, .inl (cI, 4, .inl (fun _ => 0)))] : va_W) := hD
  refine lv_aload_n hx hb dX7_init_70 rfl (lv_at hl 0 rfl) ?_
  refine va_get (D := (dC, dI)) (ci := 5) (v := .ref q0) (C := RX7) (T := TX7) (N := 14) hx hb hts inX7 hown hG.1 hP 0 rfl rfl 0 (by decide) (hts (.fieldLink RX7 7 "WokenDriveModel" "now" "[I") (List.mem_of_getElem? (i := 5) rfl)) (fun _ h9 => h9) rfl dX7_init_71 ?_
  refine lv_bipush (v := 20) hx hb dX7_init_74 (by decide) ?_
  refine lv_iconst (v := 1) hx hb dX7_init_76 (by decide) ?_
  refine va_iast hx hb hG.1 hP hD hS 1 0 rfl rfl (vpb_in.mp (by decide)) dX7_init_77 (fun H locs hP hD hS => ?_)
  have hP : va_P (dC, dI) vwCl ([(h, .inr (5, [.ref q0, .ref q1, .ref q2, .ref q3, .ref q4, .ref q5, .ref q6, .int 0, .int 0, .int 0, .int 0, .int 0, .int 0, .int 0])), (q0, .inl (cI, 596, .inl (upd (upd (fun _ => 0) 2 (-1)) 20 1))), (q1, .inl (cI, 2384, .inl (fun _ => 0))), (q2, .inl (cI, 596, .inl (fun _ => 0))), (q3, .inl (cI, 40, .inl (fun _ => 0))), (q4, .inl (cI, 16, .inl (fun _ => 0))), (q5, .inl (cI, 150, .inl (fun _ => 0))), (q6, .inl (cI, 4, .inl (fun _ => 0)))] : va_W) H := hP
  have hD : va_D A ([(h, .inr (5, [.ref q0, .ref q1, .ref q2, .ref q3, .ref q4, .ref q5, .ref q6, .int 0, .int 0, .int 0, .int 0, .int 0, .int 0, .int 0])), (q0, .inl (cI, 596, .inl (upd (upd (fun _ => 0) 2 (-1)) 20 1))), (q1, .inl (cI, 2384, .inl (fun _ => 0))), (q2, .inl (cI, 596, .inl (fun _ => 0))), (q3, .inl (cI, 40, .inl (fun _ => 0))), (q4, .inl (cI, 16, .inl (fun _ => 0))), (q5, .inl (cI, 150, .inl (fun _ => 0))), (q6, .inl (cI, 4, .inl (fun _ => 0)))] : va_W) := hD
  refine lv_aload_n hx hb dX7_init_78 rfl (lv_at hl 0 rfl) ?_
  refine va_get (D := (dC, dI)) (ci := 5) (v := .ref q0) (C := RX7) (T := TX7) (N := 14) hx hb hts inX7 hown hG.1 hP 0 rfl rfl 0 (by decide) (hts (.fieldLink RX7 7 "WokenDriveModel" "now" "[I") (List.mem_of_getElem? (i := 5) rfl)) (fun _ h9 => h9) rfl dX7_init_79 ?_
  refine lv_bipush (v := 28) hx hb dX7_init_82 (by decide) ?_
  refine lv_iconst (v := 1) hx hb dX7_init_84 (by decide) ?_
  refine va_iast hx hb hG.1 hP hD hS 1 0 rfl rfl (vpb_in.mp (by decide)) dX7_init_85 (fun H locs hP hD hS => ?_)
  have hP : va_P (dC, dI) vwCl ([(h, .inr (5, [.ref q0, .ref q1, .ref q2, .ref q3, .ref q4, .ref q5, .ref q6, .int 0, .int 0, .int 0, .int 0, .int 0, .int 0, .int 0])), (q0, .inl (cI, 596, .inl (upd (upd (upd (fun _ => 0) 2 (-1)) 20 1) 28 1))), (q1, .inl (cI, 2384, .inl (fun _ => 0))), (q2, .inl (cI, 596, .inl (fun _ => 0))), (q3, .inl (cI, 40, .inl (fun _ => 0))), (q4, .inl (cI, 16, .inl (fun _ => 0))), (q5, .inl (cI, 150, .inl (fun _ => 0))), (q6, .inl (cI, 4, .inl (fun _ => 0)))] : va_W) H := hP
  have hD : va_D A ([(h, .inr (5, [.ref q0, .ref q1, .ref q2, .ref q3, .ref q4, .ref q5, .ref q6, .int 0, .int 0, .int 0, .int 0, .int 0, .int 0, .int 0])), (q0, .inl (cI, 596, .inl (upd (upd (upd (fun _ => 0) 2 (-1)) 20 1) 28 1))), (q1, .inl (cI, 2384, .inl (fun _ => 0))), (q2, .inl (cI, 596, .inl (fun _ => 0))), (q3, .inl (cI, 40, .inl (fun _ => 0))), (q4, .inl (cI, 16, .inl (fun _ => 0))), (q5, .inl (cI, 150, .inl (fun _ => 0))), (q6, .inl (cI, 4, .inl (fun _ => 0)))] : va_W) := hD
  have hP : va_P (dC, dI) vwCl (wMod cI (fun n => [h, q0, q1, q2, q3, q4, q5, q6].getD n 0) ms0) H := hP.sub [0, 1, 2, 3, 4, 5, 6, 7] rfl
  have hD : va_D A (wMod cI (fun n => [h, q0, q1, q2, q3, q4, q5, q6].getD n 0) ms0) := hD.sub [0, 1, 2, 3, 4, 5, 6, 7] rfl rfl
  exact wk_retI (fun n => [h, q0, q1, q2, q3, q4, q5, q6].getD n 0) hx hb hr hlocks hQ rfl hP hD hS (Nat.le_of_ble_eq_true rfl) (Nat.le_of_ble_eq_true rfl) dX7_init_86
