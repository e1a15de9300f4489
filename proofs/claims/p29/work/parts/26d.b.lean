/-! PART 29: the constructors -/
set_option maxHeartbeats 4000000 in
set_option maxRecDepth 100000 in
theorem c_X4_init (l : Launch) (dC : Nat → ClassId) (dI : Nat → Nat → Nat) (cI cD cJ : ClassId) (kk : wAd) (h : Nat) : CI l yX4_init wsX4_init ({ frames := 3, cells := 21, slots := 2084, locals := 80 } : Room) dC dI (wTys cI cD cJ) h [(h, .inr (3, [.null, .int 0, .int 0]))] (fun g => wHis cI cD g hs0) 21 2084 := by
  refine wk_enterI (cc := cX4_init) (maxL := 2) (by decide) rfl (by decide) ?_
  intro p e s m below meth c A Q ls hB hA hP hD hQ hl
  obtain ⟨hx, hb, hml, hr, hts, hown, hname, hlocks, hG⟩ := hB
  have hown : s.vm.findClass RX4 = some m.cls := hown
  have hin : meth.name = "<init>" := hname
  have hS : va_S A s.heap s.heap [] := va_S.rf
  have inX3 : ∀ w ∈ wsX30, w ∈ wsX4_init := fun _ h => List.mem_cons_of_mem _ (List.mem_append_left _ (List.mem_append_right _ h))
  have inX4 : ∀ w ∈ wsX40, w ∈ wsX4_init := fun _ h => List.mem_cons_of_mem _ (List.mem_append_left _ (List.mem_append_left _ (List.mem_append_right _ h)))
  obtain ⟨H, hH⟩ : ∃ z, z = s.heap := ⟨_, rfl⟩
  have hP : va_P (dC, dI) vwCl [(h, .inr (3, [.null, .int 0, .int 0]))] H := by rw [hH]; exact hP
  have hS : va_S A s.heap H [] := by rw [hH]; exact hS
  refine wk_at hH ?_
  generalize ([] : List Loc) = locs at hS ⊢
  refine lv_aload_n hx hb dX4_init_0 rfl (lv_at hl 0 rfl) ?_
  refine W.objInit hx hb hown (hts (.methodLink RX4 3 objectInit) (List.mem_of_getElem? (i := 1) rfl)) (hts (.instanceMethod objectInit) (List.mem_of_getElem? (i := 2) rfl)) (hts (.code objectInit ⟨#[0xb1]⟩ 1 none) (List.mem_of_getElem? (i := 3) rfl)) rfl (by rw [hml]; exact hl.1) rfl dX4_init_1 (Nat.le_of_ble_eq_true rfl) (Nat.le_of_ble_eq_true rfl) ?_
  refine W.eq (g2 := F0 m 4 ls []) rfl ?_
  refine lv_aload_n hx hb dX4_init_4 rfl (lv_at hl 0 rfl) ?_
  refine lv_iconst (v := 4) hx hb dX4_init_5 (by decide) ?_
  refine wk_newq hx hb hown (hts (.classLink RX4 9 RX3) (List.mem_of_getElem? (i := 4) rfl)) (hG.2 _ (List.mem_of_getElem? (i := 16) rfl)) hG hP hD hS hA 4 (by decide) (by decide) (by decide) (Nat.le_of_ble_eq_true rfl) (Nat.le_of_ble_eq_true rfl) dX4_init_6 (fun q0 H hP hD hS => ?_)
  have hP : va_P (dC, dI) vwCl ([(h, .inr (3, [.null, .int 0, .int 0])), (q0, .inl (cD, 4, .inr (.inr (.inr (.inr (fun _ => none))))))] : va_W) H := hP
  have hD : va_D A ([(h, .inr (3, [.null, .int 0, .int 0])), (q0, .inl (cD, 4, .inr (.inr (.inr (.inr (fun _ => none))))))] : va_W) := hD
  refine va_putF (D := (dC, dI)) (ci := 3) (v := .ref q0) (ty := .array (.object "WokenDrive$Drive")) (C := RX4) (T := TX4) (N := 3) hx hb hts inX4 tyX4 tyX4_ok nmX4 hown hG.1 hP hD hS 0 rfl rfl 0 (by decide) (hts (.fieldLink RX4 11 "WokenDrive$History" "saved" "[LWokenDrive$Drive;") (List.mem_of_getElem? (i := 5) rfl)) (fun _ h9 => h9) rfl hin rfl (by decide +kernel) rfl rfl (Nat.le_of_ble_eq_true rfl) dX4_init_9 (fun H locs hP hD hS => ?_)
  have hP : va_P (dC, dI) vwCl ([(h, .inr (3, [.ref q0, .int 0, .int 0])), (q0, .inl (cD, 4, .inr (.inr (.inr (.inr (fun _ => none))))))] : va_W) H := hP
  have hD : va_D A ([(h, .inr (3, [.ref q0, .int 0, .int 0])), (q0, .inl (cD, 4, .inr (.inr (.inr (.inr (fun _ => none))))))] : va_W) := hD
  refine lv_aload_n hx hb dX4_init_12 rfl (lv_at hl 0 rfl) ?_
  refine lv_iconst (v := 0) hx hb dX4_init_13 (by decide) ?_
  refine va_put (D := (dC, dI)) (ci := 3) (v := .int 0) (ty := .int) (C := RX4) (T := TX4) (N := 3) hx hb hts inX4 tyX4 tyX4_ok nmX4 hown hG.1 hP hD hS 0 rfl rfl 1 (by decide) (hts (.fieldLink RX4 17 "WokenDrive$History" "size" "I") (List.mem_of_getElem? (i := 6) rfl)) (fun _ h9 => h9) rfl (by decide +kernel) rfl rfl (Nat.le_of_ble_eq_true rfl) dX4_init_14 (fun H locs hP hD hS => ?_)
  have hP : va_P (dC, dI) vwCl ([(h, .inr (3, [.ref q0, .int 0, .int 0])), (q0, .inl (cD, 4, .inr (.inr (.inr (.inr (fun _ => none))))))] : va_W) H := hP
  have hD : va_D A ([(h, .inr (3, [.ref q0, .int 0, .int 0])), (q0, .inl (cD, 4, .inr (.inr (.inr (.inr (fun _ => none))))))] : va_W) := hD
  refine lv_aload_n hx hb dX4_init_17 rfl (lv_at hl 0 rfl) ?_
  refine lv_iconst (v := 0) hx hb dX4_init_18 (by decide) ?_
  refine va_put (D := (dC, dI)) (ci := 3) (v := .int 0) (ty := .int) (C := RX4) (T := TX4) (N := 3) hx hb hts inX4 tyX4 tyX4_ok nmX4 hown hG.1 hP hD hS 0 rfl rfl 2 (by decide) (hts (.fieldLink RX4 21 "WokenDrive$History" "newest" "I") (List.mem_of_getElem? (i := 7) rfl)) (fun _ h9 => h9) rfl (by decide +kernel) rfl rfl (Nat.le_of_ble_eq_true rfl) dX4_init_19 (fun H locs hP hD hS => ?_)
  have hP : va_P (dC, dI) vwCl ([(h, .inr (3, [.ref q0, .int 0, .int 0])), (q0, .inl (cD, 4, .inr (.inr (.inr (.inr (fun _ => none))))))] : va_W) H := hP
  have hD : va_D A ([(h, .inr (3, [.ref q0, .int 0, .int 0])), (q0, .inl (cD, 4, .inr (.inr (.inr (.inr (fun _ => none))))))] : va_W) := hD
  refine lv_iconst (v := 0) hx hb dX4_init_22 (by decide) ?_
  refine lv_istore_n (lv' := [(1, .int 0), (0, .ref h)]) hx hb dX4_init_23 rfl hl (by decide) rfl (fun ls hl => ?_)
  refine lv_iload_n hx hb dX4_init_24 rfl (lv_at hl 0 rfl) ?_
  refine lv_aload_n hx hb dX4_init_25 rfl (lv_at hl 1 rfl) ?_
  refine va_get (D := (dC, dI)) (ci := 3) (v := .ref q0) (C := RX4) (T := TX4) (N := 3) hx hb hts inX4 hown hG.1 hP 0 rfl rfl 0 (by decide) (hts (.fieldLink RX4 11 "WokenDrive$History" "saved" "[LWokenDrive$Drive;") (List.mem_of_getElem? (i := 5) rfl)) (fun _ h9 => h9) rfl dX4_init_26 ?_
  refine va_alen hx hb hG.1 hP 1 1 rfl rfl (v := (4 : Int32)) rfl dX4_init_29 ?_
  refine lv_icmp_ge (tgt := 52) hx hb dX4_init_30 (by decide) (fun c9 => absurd c9 (by decide)) (fun c9 => ?_)
  refine lv_aload_n hx hb dX4_init_33 rfl (lv_at hl 1 rfl) ?_
  refine va_get (D := (dC, dI)) (ci := 3) (v := .ref q0) (C := RX4) (T := TX4) (N := 3) hx hb hts inX4 hown hG.1 hP 0 rfl rfl 0 (by decide) (hts (.fieldLink RX4 11 "WokenDrive$History" "saved" "[LWokenDrive$Drive;") (List.mem_of_getElem? (i := 5) rfl)) (fun _ h9 => h9) rfl dX4_init_34 ?_
  refine lv_iload_n hx hb dX4_init_37 rfl (lv_at hl 0 rfl) ?_
  refine va_new (ci := 2) (fs := [.null, .null, .null, .null, .int 0, .int 0, .int 0, .int 0]) (C := RX3) (T := TX3) (N := 8) hx hb hts inX3 tyX3 tyX3_ok hown (hts (.classLink RX4 9 RX3) (List.mem_of_getElem? (i := 4) rfl)) (hts (.instantiable RX3 8) (List.mem_of_getElem? (i := 8) rfl)) (hts (.initialized RX3) (List.mem_of_getElem? (i := 9) rfl)) hG.1 hP hD hS hA rfl (fun j hj => by rcases (show j = 0 ∨ j = 1 ∨ j = 2 ∨ j = 3 ∨ j = 4 ∨ j = 5 ∨ j = 6 ∨ j = 7 by omega) with rfl | rfl | rfl | rfl | rfl | rfl | rfl | rfl <;> rfl) (Nat.le_of_ble_eq_true rfl) (Nat.le_of_ble_eq_true rfl) dX4_init_38 (fun q1 H hP hD hS => ?_)
  have hP : va_P (dC, dI) vwCl ([(h, .inr (3, [.ref q0, .int 0, .int 0])), (q0, .inl (cD, 4, .inr (.inr (.inr (.inr (fun _ => none)))))), (q1, .inr (2, [.null, .null, .null, .null, .int 0, .int 0, .int 0, .int 0]))] : va_W) H := hP
  have hD : va_D A ([(h, .inr (3, [.ref q0, .int 0, .int 0])), (q0, .inl (cD, 4, .inr (.inr (.inr (.inr (fun _ => none)))))), (q1, .inr (2, [.null, .null, .null, .null, .int 0, .int 0, .int 0, .int 0]))] : va_W) := hD
  refine lv_dup hx hb dX4_init_41 rfl ?_
  refine wk_callI (wr := ([(h, .inr (3, [.ref q0, .int 0, .int 0])), (q0, .inl (cD, 4, .inr (.inr (.inr (.inr (fun _ => none))))))] : va_W)) (va_runIN (As := []) (rest := [.ref q1, .int 0, .ref q0]) ⟨hx, hb, hml, hown, hts⟩ (c_X3_init l dC dI cI cD cJ kk q1 H) ⟨va_cnB 0 hts gX4_init_X3_init_n24 rfl rfl rfl (hG.2 _ (List.mem_of_getElem? (i := 12) rfl)) (hts (.initialized RX3) (List.mem_of_getElem? (i := 9) rfl)) (by decide +kernel) ⟨(Nat.le_of_ble_eq_true rfl), (Nat.le_of_ble_eq_true rfl)⟩, rfl, (hts (.instanceMethod yX3_init) (List.mem_of_getElem? (i := 10) rfl))⟩ (wk_preS hG hP hD [2] rfl rfl) rfl rfl hl.1 rfl (lv_room (Nat.le_of_ble_eq_true rfl)) dX4_init_42 ⟨(Nat.le_of_ble_eq_true rfl), (Nat.le_of_ble_eq_true rfl)⟩) hP hD hS hA [2] [0, 1] rfl rfl rfl (by decide) (fun g2 H locs hg hPn hDn hSn => ?_)
  subst hg
  have hP := hPn
  have hD := hDn
  have hS := hSn
  have hP : va_P (dC, dI) vwCl ([(h, .inr (3, [.ref q0, .int 0, .int 0])), (q0, .inl (cD, 4, .inr (.inr (.inr (.inr (fun _ => none))))))] ++ wDrv cI g2 ds0 : va_W) H := hP
  have hD : va_D A ([(h, .inr (3, [.ref q0, .int 0, .int 0])), (q0, .inl (cD, 4, .inr (.inr (.inr (.inr (fun _ => none))))))] ++ wDrv cI g2 ds0 : va_W) := hD
  refine va_astq (r := (RX3, TX3, 8)) hx hb hG.1 hP hD hS 1 1 2 2 rfl rfl rfl rfl (vpb_in.mp (by decide)) dX4_init_45 (fun H locs hP hD hS => ?_)
  have hP : va_P (dC, dI) vwCl ([(h, .inr (3, [.ref q0, .int 0, .int 0])), (q0, .inl (cD, 4, .inr (.inr (.inr (.inr (va_up (fun _ => none) 0 (some (g2 0))))))))] ++ wDrv cI g2 ds0 : va_W) H := hP
  have hD : va_D A ([(h, .inr (3, [.ref q0, .int 0, .int 0])), (q0, .inl (cD, 4, .inr (.inr (.inr (.inr (va_up (fun _ => none) 0 (some (g2 0))))))))] ++ wDrv cI g2 ds0 : va_W) := hD
  refine lv_iinc (v := 1) (lv' := [(1, .int 1), (0, .ref h)]) hx hb dX4_init_46 hl (k := 0) rfl (by decide) (by decide) rfl (fun ls hl => ?_)
  refine lv_goto (tgt := 24) hx hb dX4_init_49 (by decide) ?_
  refine lv_iload_n hx hb dX4_init_24 rfl (lv_at hl 0 rfl) ?_
  refine lv_aload_n hx hb dX4_init_25 rfl (lv_at hl 1 rfl) ?_
  refine va_get (D := (dC, dI)) (ci := 3) (v := .ref q0) (C := RX4) (T := TX4) (N := 3) hx hb hts inX4 hown hG.1 hP 0 rfl rfl 0 (by decide) (hts (.fieldLink RX4 11 "WokenDrive$History" "saved" "[LWokenDrive$Drive;") (List.mem_of_getElem? (i := 5) rfl)) (fun _ h9 => h9) rfl dX4_init_26 ?_
  refine va_alen hx hb hG.1 hP 1 1 rfl rfl (v := (4 : Int32)) rfl dX4_init_29 ?_
  refine lv_icmp_ge (tgt := 52) hx hb dX4_init_30 (by decide) (fun c9 => absurd c9 (by decide)) (fun c9 => ?_)
  refine lv_aload_n hx hb dX4_init_33 rfl (lv_at hl 1 rfl) ?_
  refine va_get (D := (dC, dI)) (ci := 3) (v := .ref q0) (C := RX4) (T := TX4) (N := 3) hx hb hts inX4 hown hG.1 hP 0 rfl rfl 0 (by decide) (hts (.fieldLink RX4 11 "WokenDrive$History" "saved" "[LWokenDrive$Drive;") (List.mem_of_getElem? (i := 5) rfl)) (fun _ h9 => h9) rfl dX4_init_34 ?_
  refine lv_iload_n hx hb dX4_init_37 rfl (lv_at hl 0 rfl) ?_
  refine va_new (ci := 2) (fs := [.null, .null, .null, .null, .int 0, .int 0, .int 0, .int 0]) (C := RX3) (T := TX3) (N := 8) hx hb hts inX3 tyX3 tyX3_ok hown (hts (.classLink RX4 9 RX3) (List.mem_of_getElem? (i := 4) rfl)) (hts (.instantiable RX3 8) (List.mem_of_getElem? (i := 8) rfl)) (hts (.initialized RX3) (List.mem_of_getElem? (i := 9) rfl)) hG.1 hP hD hS hA rfl (fun j hj => by rcases (show j = 0 ∨ j = 1 ∨ j = 2 ∨ j = 3 ∨ j = 4 ∨ j = 5 ∨ j = 6 ∨ j = 7 by omega) with rfl | rfl | rfl | rfl | rfl | rfl | rfl | rfl <;> rfl) (Nat.le_of_ble_eq_true rfl) (Nat.le_of_ble_eq_true rfl) dX4_init_38 (fun q3 H hP hD hS => ?_)
  have hP : va_P (dC, dI) vwCl ([(h, .inr (3, [.ref q0, .int 0, .int 0])), (q0, .inl (cD, 4, .inr (.inr (.inr (.inr (va_up (fun _ => none) 0 (some (g2 0))))))))] ++ wDrv cI g2 ds0 ++ [(q3, .inr (2, [.null, .null, .null, .null, .int 0, .int 0, .int 0, .int 0]))] : va_W) H := hP
  have hD : va_D A ([(h, .inr (3, [.ref q0, .int 0, .int 0])), (q0, .inl (cD, 4, .inr (.inr (.inr (.inr (va_up (fun _ => none) 0 (some (g2 0))))))))] ++ wDrv cI g2 ds0 ++ [(q3, .inr (2, [.null, .null, .null, .null, .int 0, .int 0, .int 0, .int 0]))] : va_W) := hD
  refine lv_dup hx hb dX4_init_41 rfl ?_
  refine wk_callI (wr := ([(h, .inr (3, [.ref q0, .int 0, .int 0])), (q0, .inl (cD, 4, .inr (.inr (.inr (.inr (va_up (fun _ => none) 0 (some (g2 0))))))))] ++ wDrv cI g2 ds0 : va_W)) (va_runIN (As := []) (rest := [.ref q3, .int 1, .ref q0]) ⟨hx, hb, hml, hown, hts⟩ (c_X3_init l dC dI cI cD cJ kk q3 H) ⟨va_cnB 0 hts gX4_init_X3_init_n24 rfl rfl rfl (hG.2 _ (List.mem_of_getElem? (i := 12) rfl)) (hts (.initialized RX3) (List.mem_of_getElem? (i := 9) rfl)) (by decide +kernel) ⟨(Nat.le_of_ble_eq_true rfl), (Nat.le_of_ble_eq_true rfl)⟩, rfl, (hts (.instanceMethod yX3_init) (List.mem_of_getElem? (i := 10) rfl))⟩ (wk_preS hG hP hD [7] rfl rfl) rfl rfl hl.1 rfl (lv_room (Nat.le_of_ble_eq_true rfl)) dX4_init_42 ⟨(Nat.le_of_ble_eq_true rfl), (Nat.le_of_ble_eq_true rfl)⟩) hP hD hS hA [7] [0, 1, 2, 3, 4, 5, 6] rfl rfl rfl (by decide) (fun g4 H locs hg hPn hDn hSn => ?_)
  subst hg
  have hP := hPn
  have hD := hDn
  have hS := hSn
  have hP : va_P (dC, dI) vwCl ([(h, .inr (3, [.ref q0, .int 0, .int 0])), (q0, .inl (cD, 4, .inr (.inr (.inr (.inr (va_up (fun _ => none) 0 (some (g2 0))))))))] ++ wDrv cI g2 ds0 ++ wDrv cI g4 ds0 : va_W) H := hP
  have hD : va_D A ([(h, .inr (3, [.ref q0, .int 0, .int 0])), (q0, .inl (cD, 4, .inr (.inr (.inr (.inr (va_up (fun _ => none) 0 (some (g2 0))))))))] ++ wDrv cI g2 ds0 ++ wDrv cI g4 ds0 : va_W) := hD
  refine va_astq (r := (RX3, TX3, 8)) hx hb hG.1 hP hD hS 1 1 7 2 rfl rfl rfl rfl (vpb_in.mp (by decide)) dX4_init_45 (fun H locs hP hD hS => ?_)
  have hP : va_P (dC, dI) vwCl ([(h, .inr (3, [.ref q0, .int 0, .int 0])), (q0, .inl (cD, 4, .inr (.inr (.inr (.inr (va_up (va_up (fun _ => none) 0 (some (g2 0))) 1 (some (g4 0))))))))] ++ wDrv cI g2 ds0 ++ wDrv cI g4 ds0 : va_W) H := hP
  have hD : va_D A ([(h, .inr (3, [.ref q0, .int 0, .int 0])), (q0, .inl (cD, 4, .inr (.inr (.inr (.inr (va_up (va_up (fun _ => none) 0 (some (g2 0))) 1 (some (g4 0))))))))] ++ wDrv cI g2 ds0 ++ wDrv cI g4 ds0 : va_W) := hD
  refine lv_iinc (v := 2) (lv' := [(1, .int 2), (0, .ref h)]) hx hb dX4_init_46 hl (k := 0) rfl (by decide) (by decide) rfl (fun ls hl => ?_)
  refine lv_goto (tgt := 24) hx hb dX4_init_49 (by decide) ?_
  refine lv_iload_n hx hb dX4_init_24 rfl (lv_at hl 0 rfl) ?_
  refine lv_aload_n hx hb dX4_init_25 rfl (lv_at hl 1 rfl) ?_
  refine va_get (D := (dC, dI)) (ci := 3) (v := .ref q0) (C := RX4) (T := TX4) (N := 3) hx hb hts inX4 hown hG.1 hP 0 rfl rfl 0 (by decide) (hts (.fieldLink RX4 11 "WokenDrive$History" "saved" "[LWokenDrive$Drive;") (List.mem_of_getElem? (i := 5) rfl)) (fun _ h9 => h9) rfl dX4_init_26 ?_
  refine va_alen hx hb hG.1 hP 1 1 rfl rfl (v := (4 : Int32)) rfl dX4_init_29 ?_
  refine lv_icmp_ge (tgt := 52) hx hb dX4_init_30 (by decide) (fun c9 => absurd c9 (by decide)) (fun c9 => ?_)
  refine lv_aload_n hx hb dX4_init_33 rfl (lv_at hl 1 rfl) ?_
  refine va_get (D := (dC, dI)) (ci := 3) (v := .ref q0) (C := RX4) (T := TX4) (N := 3) hx hb hts inX4 hown hG.1 hP 0 rfl rfl 0 (by decide) (hts (.fieldLink RX4 11 "WokenDrive$History" "saved" "[LWokenDrive$Drive;") (List.mem_of_getElem? (i := 5) rfl)) (fun _ h9 => h9) rfl dX4_init_34 ?_
  refine lv_iload_n hx hb dX4_init_37 rfl (lv_at hl 0 rfl) ?_
  refine va_new (ci := 2) (fs := [.null, .null, .null, .null, .int 0, .int 0, .int 0, .int 0]) (C := RX3) (T := TX3) (N := 8) hx hb hts inX3 tyX3 tyX3_ok hown (hts (.classLink RX4 9 RX3) (List.mem_of_getElem? (i := 4) rfl)) (hts (.instantiable RX3 8) (List.mem_of_getElem? (i := 8) rfl)) (hts (.initialized RX3) (List.mem_of_getElem? (i := 9) rfl)) hG.1 hP hD hS hA rfl (fun j hj => by rcases (show j = 0 ∨ j = 1 ∨ j = 2 ∨ j = 3 ∨ j = 4 ∨ j = 5 ∨ j = 6 ∨ j = 7 by omega) with rfl | rfl | rfl | rfl | rfl | rfl | rfl | rfl <;> rfl) (Nat.le_of_ble_eq_true rfl) (Nat.le_of_ble_eq_true rfl) dX4_init_38 (fun q5 H hP hD hS => ?_)
  have hP : va_P (dC, dI) vwCl ([(h, .inr (3, [.ref q0, .int 0, .int 0])), (q0, .inl (cD, 4, .inr (.inr (.inr (.inr (va_up (va_up (fun _ => none) 0 (some (g2 0))) 1 (some (g4 0))))))))] ++ wDrv cI g2 ds0 ++ wDrv cI g4 ds0 ++ [(q5, .inr (2, [.null, .null, .null, .null, .int 0, .int 0, .int 0, .int 0]))] : va_W) H := hP
  have hD : va_D A ([(h, .inr (3, [.ref q0, .int 0, .int 0])), (q0, .inl (cD, 4, .inr (.inr (.inr (.inr (va_up (va_up (fun _ => none) 0 (some (g2 0))) 1 (some (g4 0))))))))] ++ wDrv cI g2 ds0 ++ wDrv cI g4 ds0 ++ [(q5, .inr (2, [.null, .null, .null, .null, .int 0, .int 0, .int 0, .int 0]))] : va_W) := hD
  refine lv_dup hx hb dX4_init_41 rfl ?_
  refine wk_callI (wr := ([(h, .inr (3, [.ref q0, .int 0, .int 0])), (q0, .inl (cD, 4, .inr (.inr (.inr (.inr (va_up (va_up (fun _ => none) 0 (some (g2 0))) 1 (some (g4 0))))))))] ++ wDrv cI g2 ds0 ++ wDrv cI g4 ds0 : va_W)) (va_runIN (As := []) (rest := [.ref q5, .int 2, .ref q0]) ⟨hx, hb, hml, hown, hts⟩ (c_X3_init l dC dI cI cD cJ kk q5 H) ⟨va_cnB 0 hts gX4_init_X3_init_n24 rfl rfl rfl (hG.2 _ (List.mem_of_getElem? (i := 12) rfl)) (hts (.initialized RX3) (List.mem_of_getElem? (i := 9) rfl)) (by decide +kernel) ⟨(Nat.le_of_ble_eq_true rfl), (Nat.le_of_ble_eq_true rfl)⟩, rfl, (hts (.instanceMethod yX3_init) (List.mem_of_getElem? (i := 10) rfl))⟩ (wk_preS hG hP hD [12] rfl rfl) rfl rfl hl.1 rfl (lv_room (Nat.le_of_ble_eq_true rfl)) dX4_init_42 ⟨(Nat.le_of_ble_eq_true rfl), (Nat.le_of_ble_eq_true rfl)⟩) hP hD hS hA [12] [0, 1, 2, 3, 4, 5, 6, 7, 8, 9, 10, 11] rfl rfl rfl (by decide) (fun g6 H locs hg hPn hDn hSn => ?_)
  subst hg
  have hP := hPn
  have hD := hDn
  have hS := hSn
  have hP : va_P (dC, dI) vwCl ([(h, .inr (3, [.ref q0, .int 0, .int 0])), (q0, .inl (cD, 4, .inr (.inr (.inr (.inr (va_up (va_up (fun _ => none) 0 (some (g2 0))) 1 (some (g4 0))))))))] ++ wDrv cI g2 ds0 ++ wDrv cI g4 ds0 ++ wDrv cI g6 ds0 : va_W) H := hP
  have hD : va_D A ([(h, .inr (3, [.ref q0, .int 0, .int 0])), (q0, .inl (cD, 4, .inr (.inr (.inr (.inr (va_up (va_up (fun _ => none) 0 (some (g2 0))) 1 (some (g4 0))))))))] ++ wDrv cI g2 ds0 ++ wDrv cI g4 ds0 ++ wDrv cI g6 ds0 : va_W) := hD
  refine va_astq (r := (RX3, TX3, 8)) hx hb hG.1 hP hD hS 1 1 12 2 rfl rfl rfl rfl (vpb_in.mp (by decide)) dX4_init_45 (fun H locs hP hD hS => ?_)
  have hP : va_P (dC, dI) vwCl ([(h, .inr (3, [.ref q0, .int 0, .int 0])), (q0, .inl (cD, 4, .inr (.inr (.inr (.inr (va_up (va_up (va_up (fun _ => none) 0 (some (g2 0))) 1 (some (g4 0))) 2 (some (g6 0))))))))] ++ wDrv cI g2 ds0 ++ wDrv cI g4 ds0 ++ wDrv cI g6 ds0 : va_W) H := hP
  have hD : va_D A ([(h, .inr (3, [.ref q0, .int 0, .int 0])), (q0, .inl (cD, 4, .inr (.inr (.inr (.inr (va_up (va_up (va_up (fun _ => none) 0 (some (g2 0))) 1 (some (g4 0))) 2 (some (g6 0))))))))] ++ wDrv cI g2 ds0 ++ wDrv cI g4 ds0 ++ wDrv cI g6 ds0 : va_W) := hD
  refine lv_iinc (v := 3) (lv' := [(1, .int 3), (0, .ref h)]) hx hb dX4_init_46 hl (k := 0) rfl (by decide) (by decide) rfl (fun ls hl => ?_)
  refine lv_goto (tgt := 24) hx hb dX4_init_49 (by decide) ?_
  refine lv_iload_n hx hb dX4_init_24 rfl (lv_at hl 0 rfl) ?_
  refine lv_aload_n hx hb dX4_init_25 rfl (lv_at hl 1 rfl) ?_
  refine va_get (D := (dC, dI)) (ci := 3) (v := .ref q0) (C := RX4) (T := TX4) (N := 3) hx hb hts inX4 hown hG.1 hP 0 rfl rfl 0 (by decide) (hts (.fieldLink RX4 11 "WokenDrive$History" "saved" "[LWokenDrive$Drive;") (List.mem_of_getElem? (i := 5) rfl)) (fun _ h9 => h9) rfl dX4_init_26 ?_
  refine va_alen hx hb hG.1 hP 1 1 rfl rfl (v := (4 : Int32)) rfl dX4_init_29 ?_
  refine lv_icmp_ge (tgt := 52) hx hb dX4_init_30 (by decide) (fun c9 => absurd c9 (by decide)) (fun c9 => ?_)
  refine lv_aload_n hx hb dX4_init_33 rfl (lv_at hl 1 rfl) ?_
  refine va_get (D := (dC, dI)) (ci := 3) (v := .ref q0) (C := RX4) (T := TX4) (N := 3) hx hb hts inX4 hown hG.1 hP 0 rfl rfl 0 (by decide) (hts (.fieldLink RX4 11 "WokenDrive$History" "saved" "[LWokenDrive$Drive;") (List.mem_of_getElem? (i := 5) rfl)) (fun _ h9 => h9) rfl dX4_init_34 ?_
  refine lv_iload_n hx hb dX4_init_37 rfl (lv_at hl 0 rfl) ?_
  refine va_new (ci := 2) (fs := [.null, .null, .null, .null, .int 0, .int 0, .int 0, .int 0]) (C := RX3) (T := TX3) (N := 8) hx hb hts inX3 tyX3 tyX3_ok hown (hts (.classLink RX4 9 RX3) (List.mem_of_getElem? (i := 4) rfl)) (hts (.instantiable RX3 8) (List.mem_of_getElem? (i := 8) rfl)) (hts (.initialized RX3) (List.mem_of_getElem? (i := 9) rfl)) hG.1 hP hD hS hA rfl (fun j hj => by rcases (show j = 0 ∨ j = 1 ∨ j = 2 ∨ j = 3 ∨ j = 4 ∨ j = 5 ∨ j = 6 ∨ j = 7 by omega) with rfl | rfl | rfl | rfl | rfl | rfl | rfl | rfl <;> rfl) (Nat.le_of_ble_eq_true rfl) (Nat.le_of_ble_eq_true rfl) dX4_init_38 (fun q7 H hP hD hS => ?_)
  have hP : va_P (dC, dI) vwCl ([(h, .inr (3, [.ref q0, .int 0, .int 0])), (q0, .inl (cD, 4, .inr (.inr (.inr (.inr (va_up (va_up (va_up (fun _ => none) 0 (some (g2 0))) 1 (some (g4 0))) 2 (some (g6 0))))))))] ++ wDrv cI g2 ds0 ++ wDrv cI g4 ds0 ++ wDrv cI g6 ds0 ++ [(q7, .inr (2, [.null, .null, .null, .null, .int 0, .int 0, .int 0, .int 0]))] : va_W) H := hP
  have hD : va_D A ([(h, .inr (3, [.ref q0, .int 0, .int 0])), (q0, .inl (cD, 4, .inr (.inr (.inr (.inr (va_up (va_up (va_up (fun _ => none) 0 (some (g2 0))) 1 (some (g4 0))) 2 (some (g6 0))))))))] ++ wDrv cI g2 ds0 ++ wDrv cI g4 ds0 ++ wDrv cI g6 ds0 ++ [(q7, .inr (2, [.null, .null, .null, .null, .int 0, .int 0, .int 0, .int 0]))] : va_W) := hD
  refine lv_dup hx hb dX4_init_41 rfl ?_
  refine wk_callI (wr := ([(h, .inr (3, [.ref q0, .int 0, .int 0])), (q0, .inl (cD, 4, .inr (.inr (.inr (.inr (va_up (va_up (va_up (fun _ => none) 0 (some (g2 0))) 1 (some (g4 0))) 2 (some (g6 0))))))))] ++ wDrv cI g2 ds0 ++ wDrv cI g4 ds0 ++ wDrv cI g6 ds0 : va_W)) (va_runIN (As := []) (rest := [.ref q7, .int 3, .ref q0]) ⟨hx, hb, hml, hown, hts⟩ (c_X3_init l dC dI cI cD cJ kk q7 H) ⟨va_cnB 0 hts gX4_init_X3_init_n24 rfl rfl rfl (hG.2 _ (List.mem_of_getElem? (i := 12) rfl)) (hts (.initialized RX3) (List.mem_of_getElem? (i := 9) rfl)) (by decide +kernel) ⟨(Nat.le_of_ble_eq_true rfl), (Nat.le_of_ble_eq_true rfl)⟩, rfl, (hts (.instanceMethod yX3_init) (List.mem_of_getElem? (i := 10) rfl))⟩ (wk_preS hG hP hD [17] rfl rfl) rfl rfl hl.1 rfl (lv_room (Nat.le_of_ble_eq_true rfl)) dX4_init_42 ⟨(Nat.le_of_ble_eq_true rfl), (Nat.le_of_ble_eq_true rfl)⟩) hP hD hS hA [17] [0, 1, 2, 3, 4, 5, 6, 7, 8, 9, 10, 11, 12, 13, 14, 15, 16] rfl rfl rfl (by decide) (fun g8 H locs hg hPn hDn hSn => ?_)
  subst hg
  have hP := hPn
  have hD := hDn
  have hS := hSn
  have hP : va_P (dC, dI) vwCl ([(h, .inr (3, [.ref q0, .int 0, .int 0])), (q0, .inl (cD, 4, .inr (.inr (.inr (.inr (va_up (va_up (va_up (fun _ => none) 0 (some (g2 0))) 1 (some (g4 0))) 2 (some (g6 0))))))))] ++ wDrv cI g2 ds0 ++ wDrv cI g4 ds0 ++ wDrv cI g6 ds0 ++ wDrv cI g8 ds0 : va_W) H := hP
  have hD : va_D A ([(h, .inr (3, [.ref q0, .int 0, .int 0])), (q0, .inl (cD, 4, .inr (.inr (.inr (.inr (va_up (va_up (va_up (fun _ => none) 0 (some (g2 0))) 1 (some (g4 0))) 2 (some (g6 0))))))))] ++ wDrv cI g2 ds0 ++ wDrv cI g4 ds0 ++ wDrv cI g6 ds0 ++ wDrv cI g8 ds0 : va_W) := hD
  refine va_astq (r := (RX3, TX3, 8)) hx hb hG.1 hP hD hS 1 1 17 2 rfl rfl rfl rfl (vpb_in.mp (by decide)) dX4_init_45 (fun H locs hP hD hS => ?_)
  have hP : va_P (dC, dI) vwCl ([(h, .inr (3, [.ref q0, .int 0, .int 0])), (q0, .inl (cD, 4, .inr (.inr (.inr (.inr (va_up (va_up (va_up (va_up (fun _ => none) 0 (some (g2 0))) 1 (some (g4 0))) 2 (some (g6 0))) 3 (some (g8 0))))))))] ++ wDrv cI g2 ds0 ++ wDrv cI g4 ds0 ++ wDrv cI g6 ds0 ++ wDrv cI g8 ds0 : va_W) H := hP
  have hD : va_D A ([(h, .inr (3, [.ref q0, .int 0, .int 0])), (q0, .inl (cD, 4, .inr (.inr (.inr (.inr (va_up (va_up (va_up (va_up (fun _ => none) 0 (some (g2 0))) 1 (some (g4 0))) 2 (some (g6 0))) 3 (some (g8 0))))))))] ++ wDrv cI g2 ds0 ++ wDrv cI g4 ds0 ++ wDrv cI g6 ds0 ++ wDrv cI g8 ds0 : va_W) := hD
  refine lv_iinc (v := 4) (lv' := [(1, .int 4), (0, .ref h)]) hx hb dX4_init_46 hl (k := 0) rfl (by decide) (by decide) rfl (fun ls hl => ?_)
  refine lv_goto (tgt := 24) hx hb dX4_init_49 (by decide) ?_
  refine lv_iload_n hx hb dX4_init_24 rfl (lv_at hl 0 rfl) ?_
  refine lv_aload_n hx hb dX4_init_25 rfl (lv_at hl 1 rfl) ?_
  refine va_get (D := (dC, dI)) (ci := 3) (v := .ref q0) (C := RX4) (T := TX4) (N := 3) hx hb hts inX4 hown hG.1 hP 0 rfl rfl 0 (by decide) (hts (.fieldLink RX4 11 "WokenDrive$History" "saved" "[LWokenDrive$Drive;") (List.mem_of_getElem? (i := 5) rfl)) (fun _ h9 => h9) rfl dX4_init_26 ?_
  refine va_alen hx hb hG.1 hP 1 1 rfl rfl (v := (4 : Int32)) rfl dX4_init_29 ?_
  refine lv_icmp_ge (tgt := 52) hx hb dX4_init_30 (by decide) (fun c9 => ?_) (fun c9 => absurd (by decide) c9)
  have hP := wk_setq hP (k := 1) (f' := (fun i => some ((fun n => [h, q0, g2 0, g2 1, g2 2, g2 3, g2 4, g4 0, g4 1, g4 2, g4 3, g4 4, g6 0, g6 1, g6 2, g6 3, g6 4, g8 0, g8 1, g8 2, g8 3, g8 4].getD n 0) (2 + 5 * i)))) rfl (fun i hi => by rcases (show i = 0 ∨ i = 1 ∨ i = 2 ∨ i = 3 by omega) with rfl | rfl | rfl | rfl <;> rfl)
  have hD := hD.set (p := 1) (e := .inl (cD, 4, .inr (.inr (.inr (.inr (fun i => some ((fun n => [h, q0, g2 0, g2 1, g2 2, g2 3, g2 4, g4 0, g4 1, g4 2, g4 3, g4 4, g6 0, g6 1, g6 2, g6 3, g6 4, g8 0, g8 1, g8 2, g8 3, g8 4].getD n 0) (2 + 5 * i))))))) ) (a := q0) (e0 := .inl (cD, 4, .inr (.inr (.inr (.inr (va_up (va_up (va_up (va_up (fun _ => none) 0 (some (g2 0))) 1 (some (g4 0))) 2 (some (g6 0))) 3 (some (g8 0)))))))) rfl
  have hP : va_P (dC, dI) vwCl (wHis cI cD (fun n => [h, q0, g2 0, g2 1, g2 2, g2 3, g2 4, g4 0, g4 1, g4 2, g4 3, g4 4, g6 0, g6 1, g6 2, g6 3, g6 4, g8 0, g8 1, g8 2, g8 3, g8 4].getD n 0) hs0) H := hP.sub [0, 1, 2, 3, 4, 5, 6, 7, 8, 9, 10, 11, 12, 13, 14, 15, 16, 17, 18, 19, 20, 21] rfl
  have hD : va_D A (wHis cI cD (fun n => [h, q0, g2 0, g2 1, g2 2, g2 3, g2 4, g4 0, g4 1, g4 2, g4 3, g4 4, g6 0, g6 1, g6 2, g6 3, g6 4, g8 0, g8 1, g8 2, g8 3, g8 4].getD n 0) hs0) := hD.sub [0, 1, 2, 3, 4, 5, 6, 7, 8, 9, 10, 11, 12, 13, 14, 15, 16, 17, 18, 19, 20, 21] rfl rfl
  exact wk_retI (fun n => [h, q0, g2 0, g2 1, g2 2, g2 3, g2 4, g4 0, g4 1, g4 2, g4 3, g4 4, g6 0, g6 1, g6 2, g6 3, g6 4, g8 0, g8 1, g8 2, g8 3, g8 4].getD n 0) hx hb hr hlocks hQ rfl hP hD hS (Nat.le_of_ble_eq_true rfl) (Nat.le_of_ble_eq_true rfl) dX4_init_52
set_option maxHeartbeats 4000000 in
set_option maxRecDepth 100000 in
theorem c_X1_init (l : Launch) (dC : Nat → ClassId) (dI : Nat → Nat → Nat) (cI cD cJ : ClassId) (kk : wAd) (h : Nat) : CI l yX1_init wsX1_init ({ frames := 1, cells := 2, slots := 154, locals := 40 } : Room) dC dI (wTys cI cD cJ) h [(h, .inr (0, [.null, .null, .int 0, .int 0, .null]))] (fun g => wTxt cI kk.1 g ts0) 2 154 := by
  refine wk_enterI (cc := cX1_init) (maxL := 1) (by decide) rfl (by decide) ?_
  intro p e s m below meth c A Q ls hB hA hP hD hQ hl
  obtain ⟨hx, hb, hml, hr, hts, hown, hname, hlocks, hG⟩ := hB
  have hown : s.vm.findClass RX1 = some m.cls := hown
  have hin : meth.name = "<init>" := hname
  have hS : va_S A s.heap s.heap [] := va_S.rf
  have inX1 : ∀ w ∈ wsX10, w ∈ wsX1_init := fun _ h => List.mem_cons_of_mem _ (List.mem_append_right _ h)
  obtain ⟨H, hH⟩ : ∃ z, z = s.heap := ⟨_, rfl⟩
  have hP : va_P (dC, dI) vwCl [(h, .inr (0, [.null, .null, .int 0, .int 0, .null]))] H := by rw [hH]; exact hP
  have hS : va_S A s.heap H [] := by rw [hH]; exact hS
  refine wk_at hH ?_
  generalize ([] : List Loc) = locs at hS ⊢
  refine lv_aload_n hx hb dX1_init_0 rfl (lv_at hl 0 rfl) ?_
  refine W.objInit hx hb hown (hts (.methodLink RX1 3 objectInit) (List.mem_of_getElem? (i := 1) rfl)) (hts (.instanceMethod objectInit) (List.mem_of_getElem? (i := 2) rfl)) (hts (.code objectInit ⟨#[0xb1]⟩ 1 none) (List.mem_of_getElem? (i := 3) rfl)) rfl (by rw [hml]; exact hl.1) rfl dX1_init_1 (Nat.le_of_ble_eq_true rfl) (Nat.le_of_ble_eq_true rfl) ?_
  refine W.eq (g2 := F0 m 4 ls []) rfl ?_
  refine lv_aload_n hx hb dX1_init_4 rfl (lv_at hl 0 rfl) ?_
  refine lv_sipush (v := 150) hx hb dX1_init_5 (by decide) ?_
  refine wk_newa hx hb (hts (.arrayClass .int) (List.mem_of_getElem? (i := 4) rfl)) hG hP hD hS hA 150 (by decide) (by decide) (by decide) (Nat.le_of_ble_eq_true rfl) (Nat.le_of_ble_eq_true rfl) dX1_init_8 (fun q0 H hP hD hS => ?_)
  have hP : va_P (dC, dI) vwCl ([(h, .inr (0, [.null, .null, .int 0, .int 0, .null])), (q0, .inl (cI, 150, .inl (fun _ => 0)))] : va_W) H := hP
  have hD : va_D A ([(h, .inr (0, [.null, .null, .int 0, .int 0, .null])), (q0, .inl (cI, 150, .inl (fun _ => 0)))] : va_W) := hD
  refine va_putF (D := (dC, dI)) (ci := 0) (v := .ref q0) (ty := .array .int) (C := RX1) (T := TX1) (N := 5) hx hb hts inX1 tyX1 tyX1_ok nmX1 hown hG.1 hP hD hS 0 rfl rfl 0 (by decide) (hts (.fieldLink RX1 9 "WokenDrive$CommandText" "bytes" "[I") (List.mem_of_getElem? (i := 5) rfl)) (fun _ h9 => h9) rfl hin rfl (by decide +kernel) rfl rfl (Nat.le_of_ble_eq_true rfl) dX1_init_10 (fun H locs hP hD hS => ?_)
  have hP : va_P (dC, dI) vwCl ([(h, .inr (0, [.ref q0, .null, .int 0, .int 0, .null])), (q0, .inl (cI, 150, .inl (fun _ => 0)))] : va_W) H := hP
  have hD : va_D A ([(h, .inr (0, [.ref q0, .null, .int 0, .int 0, .null])), (q0, .inl (cI, 150, .inl (fun _ => 0)))] : va_W) := hD
  refine lv_aload_n hx hb dX1_init_13 rfl (lv_at hl 0 rfl) ?_
  refine lv_iconst (v := 4) hx hb dX1_init_14 (by decide) ?_
  refine wk_newa hx hb (hts (.arrayClass .int) (List.mem_of_getElem? (i := 4) rfl)) hG hP hD hS hA 4 (by decide) (by decide) (by decide) (Nat.le_of_ble_eq_true rfl) (Nat.le_of_ble_eq_true rfl) dX1_init_15 (fun q1 H hP hD hS => ?_)
  have hP : va_P (dC, dI) vwCl ([(h, .inr (0, [.ref q0, .null, .int 0, .int 0, .null])), (q0, .inl (cI, 150, .inl (fun _ => 0))), (q1, .inl (cI, 4, .inl (fun _ => 0)))] : va_W) H := hP
  have hD : va_D A ([(h, .inr (0, [.ref q0, .null, .int 0, .int 0, .null])), (q0, .inl (cI, 150, .inl (fun _ => 0))), (q1, .inl (cI, 4, .inl (fun _ => 0)))] : va_W) := hD
  refine va_putF (D := (dC, dI)) (ci := 0) (v := .ref q1) (ty := .array .int) (C := RX1) (T := TX1) (N := 5) hx hb hts inX1 tyX1 tyX1_ok nmX1 hown hG.1 hP hD hS 0 rfl rfl 1 (by decide) (hts (.fieldLink RX1 15 "WokenDrive$CommandText" "numbers" "[I") (List.mem_of_getElem? (i := 6) rfl)) (fun _ h9 => h9) rfl hin rfl (by decide +kernel) rfl rfl (Nat.le_of_ble_eq_true rfl) dX1_init_17 (fun H locs hP hD hS => ?_)
  have hP : va_P (dC, dI) vwCl ([(h, .inr (0, [.ref q0, .ref q1, .int 0, .int 0, .null])), (q0, .inl (cI, 150, .inl (fun _ => 0))), (q1, .inl (cI, 4, .inl (fun _ => 0)))] : va_W) H := hP
  have hD : va_D A ([(h, .inr (0, [.ref q0, .ref q1, .int 0, .int 0, .null])), (q0, .inl (cI, 150, .inl (fun _ => 0))), (q1, .inl (cI, 4, .inl (fun _ => 0)))] : va_W) := hD
  refine lv_aload_n hx hb dX1_init_20 rfl (lv_at hl 0 rfl) ?_
  refine lv_iconst (v := 0) hx hb dX1_init_21 (by decide) ?_
  refine va_put (D := (dC, dI)) (ci := 0) (v := .int 0) (ty := .int) (C := RX1) (T := TX1) (N := 5) hx hb hts inX1 tyX1 tyX1_ok nmX1 hown hG.1 hP hD hS 0 rfl rfl 2 (by decide) (hts (.fieldLink RX1 18 "WokenDrive$CommandText" "length" "I") (List.mem_of_getElem? (i := 7) rfl)) (fun _ h9 => h9) rfl (by decide +kernel) rfl rfl (Nat.le_of_ble_eq_true rfl) dX1_init_22 (fun H locs hP hD hS => ?_)
  have hP : va_P (dC, dI) vwCl ([(h, .inr (0, [.ref q0, .ref q1, .int 0, .int 0, .null])), (q0, .inl (cI, 150, .inl (fun _ => 0))), (q1, .inl (cI, 4, .inl (fun _ => 0)))] : va_W) H := hP
  have hD : va_D A ([(h, .inr (0, [.ref q0, .ref q1, .int 0, .int 0, .null])), (q0, .inl (cI, 150, .inl (fun _ => 0))), (q1, .inl (cI, 4, .inl (fun _ => 0)))] : va_W) := hD
  refine lv_aload_n hx hb dX1_init_25 rfl (lv_at hl 0 rfl) ?_
  refine lv_iconst (v := 0) hx hb dX1_init_26 (by decide) ?_
  refine va_put (D := (dC, dI)) (ci := 0) (v := .int 0) (ty := .int) (C := RX1) (T := TX1) (N := 5) hx hb hts inX1 tyX1 tyX1_ok nmX1 hown hG.1 hP hD hS 0 rfl rfl 3 (by decide) (hts (.fieldLink RX1 22 "WokenDrive$CommandText" "cursor" "I") (List.mem_of_getElem? (i := 8) rfl)) (fun _ h9 => h9) rfl (by decide +kernel) rfl rfl (Nat.le_of_ble_eq_true rfl) dX1_init_27 (fun H locs hP hD hS => ?_)
  have hP : va_P (dC, dI) vwCl ([(h, .inr (0, [.ref q0, .ref q1, .int 0, .int 0, .null])), (q0, .inl (cI, 150, .inl (fun _ => 0))), (q1, .inl (cI, 4, .inl (fun _ => 0)))] : va_W) H := hP
  have hD : va_D A ([(h, .inr (0, [.ref q0, .ref q1, .int 0, .int 0, .null])), (q0, .inl (cI, 150, .inl (fun _ => 0))), (q1, .inl (cI, 4, .inl (fun _ => 0)))] : va_W) := hD
  refine lv_aload_n hx hb dX1_init_30 rfl (lv_at hl 0 rfl) ?_
  refine lv_null hx hb dX1_init_31 ?_
  refine va_put (D := (dC, dI)) (ci := 0) (v := .null) (ty := .object "WokenDrive$Word") (C := RX1) (T := TX1) (N := 5) hx hb hts inX1 tyX1 tyX1_ok nmX1 hown hG.1 hP hD hS 0 rfl rfl 4 (by decide) (hts (.fieldLink RX1 25 "WokenDrive$CommandText" "word" "LWokenDrive$Word;") (List.mem_of_getElem? (i := 9) rfl)) (fun _ h9 => h9) rfl (by decide +kernel) rfl rfl (Nat.le_of_ble_eq_true rfl) dX1_init_32 (fun H locs hP hD hS => ?_)
  have hP : va_P (dC, dI) vwCl ([(h, .inr (0, [.ref q0, .ref q1, .int 0, .int 0, .null])), (q0, .inl (cI, 150, .inl (fun _ => 0))), (q1, .inl (cI, 4, .inl (fun _ => 0)))] : va_W) H := hP
  have hD : va_D A ([(h, .inr (0, [.ref q0, .ref q1, .int 0, .int 0, .null])), (q0, .inl (cI, 150, .inl (fun _ => 0))), (q1, .inl (cI, 4, .inl (fun _ => 0)))] : va_W) := hD
  have hP : va_P (dC, dI) vwCl (wTxt cI kk.1 (fun n => [h, q0, q1].getD n 0) ts0) H := hP.sub [0, 1, 2] rfl
  have hD : va_D A (wTxt cI kk.1 (fun n => [h, q0, q1].getD n 0) ts0) := hD.sub [0, 1, 2] rfl rfl
  exact wk_retI (fun n => [h, q0, q1].getD n 0) hx hb hr hlocks hQ rfl hP hD hS (Nat.le_of_ble_eq_true rfl) (Nat.le_of_ble_eq_true rfl) dX1_init_35
