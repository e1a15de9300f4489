/-! PART 26b: runCommands -/
set_option maxHeartbeats 4000000 in
set_option maxRecDepth 100000 in
theorem c_X6_runCommands (l : Launch) (dC : Nat → ClassId) (dI : Nat → Nat → Nat) (cI cD cJ : ClassId) (kk : wAd) (g : Nat → Nat) (x : SS) (out : Int32 × SS) (hM : M_X6_runCommands x = some out) : CMT kk l yX6_runCommands xsX6_runCommands ({ frames := 8, cells := 0, slots := 0, locals := 178 } : Room) dC dI (wTys cI cD cJ) [.ref (g 0)] (wSys cI cD kk.1 g x) (some (.int out.1)) (wSys cI cD kk.1 g out.2) 0 0 := by
  refine wk_enterMT (cc := cX6_runCommands) (maxL := 3) (ret := (some .int)) (by decide) rfl (Nat.le_of_ble_eq_true rfl) ?_
  intro p e s m below meth c A Q ls hB hT hA hP hD hQ hl
  obtain ⟨hx, hb, hml, hr, hts, hown, hname, hlocks, hG⟩ := hB
  have hown : s.vm.findClass RX6 = some m.cls := hown
  have hS : va_S A s.heap s.heap [] := va_S.rf
  have hl : lv_has ls 3 [(0, .ref (g 0))] := hl
  have inX6 : ∀ w ∈ wsX60, w ∈ xsX6_runCommands := fun _ h => List.mem_cons_of_mem _ (List.mem_append_left _ (List.mem_append_left _ (List.mem_append_left _ (List.mem_append_left _ (List.mem_append_right _ h)))))
  obtain ⟨H, hH⟩ : ∃ z, z = s.heap := ⟨_, rfl⟩
  have hP : va_P (dC, dI) vwCl (wSys cI cD kk.1 g x) H := by rw [hH]; exact hP
  have hS : va_S A s.heap H [] := by rw [hH]; exact hS
  refine wk_at hH ?_
  generalize ([] : List Loc) = locs at hS ⊢
  have hB72 : ∀ (u2 : Int32) (y0 : SS) (H : Heap) (locs : List Loc) (ls : Array Slot), M_X6_runCommands_72 x u2 y0 = some out → va_P (dC, dI) vwCl (wSys cI cD kk.1 g y0) H → va_D A (wSys cI cD kk.1 g y0) → va_S A s.heap H locs → lv_has ls 3 [(2, .int u2)] → W p l e ({ frames := 8, cells := 0, slots := 0, locals := 178 } : Room) s m ([.ref (g 0)] : List Value).toArray below meth c H locs 0 0 Q (F0 m 72 ls []) := by
    intro u2 y0 H locs ls hM hP hD hS hl
    unfold M_X6_runCommands_72 at hM
    refine lv_iload_n hx hb dX6_runCommands_72 rfl (lv_at hl 0 rfl) ?_
    replace hM := Option.some.inj hM
    subst hM
    exact wk_retMi hx hb hr hlocks hQ rfl rfl hP hD hS dX6_runCommands_73
  have hL38 : ∀ (n38 : Nat) (u2 : Int32) (y0 : SS) (H : Heap) (locs : List Loc) (ls : Array Slot), lpF (M_X6_runCommands_38s x) n38 (u2, y0) = some out → va_P (dC, dI) vwCl (wSys cI cD kk.1 g y0) H → va_D A (wSys cI cD kk.1 g y0) → va_S A s.heap H locs → lv_has ls 3 [(0, .ref (g 0)), (2, .int u2)] → W p l e ({ frames := 8, cells := 0, slots := 0, locals := 178 } : Room) s m ([.ref (g 0)] : List Value).toArray below meth c H locs 0 0 Q (F0 m 38 ls []) := by
    intro n38
    induction n38 with
    | zero => intro u2 y0 H locs ls hM; exact lpF_0 hM
    | succ n38 ih38 =>
      intro u2 y0 H locs ls hM hP hD hS hl
      replace hM : M_X6_runCommands_38s x (lpF (M_X6_runCommands_38s x) n38) (u2, y0) = some out := hM
      unfold M_X6_runCommands_38s at hM
      try dsimp only at hM
      refine lv_iload_n hx hb dX6_runCommands_38 rfl (lv_at hl 1 rfl) ?_
      refine lv_sipush (v := (150 : Int32)) hx hb dX6_runCommands_39 (by decide) ?_
      refine lv_icmp_ge (tgt := 72) hx hb dX6_runCommands_42 (by decide) (fun c1 => ?_) (fun c1 => ?_)
      · replace hM := (if_pos c1).symm.trans hM
        exact hB72 u2 y0 H _ _ hM hP hD hS (lv_sub hl [1] rfl)
      · replace hM := (if_neg c1).symm.trans hM
        refine lv_aload_n hx hb dX6_runCommands_45 rfl (lv_at hl 0 rfl) ?_
        refine va_get (D := (dC, dI)) (ci := 4) (v := .ref ((fun i => g (33 + i)) 0)) (C := RX6) (T := TX6) (N := 6) hx hb hts inX6 hown hG.1 hP 0 rfl rfl 3 (by decide) (hts (.fieldLink RX6 29 "WokenDrive" "text" "LWokenDrive$CommandText;") (List.mem_of_getElem? (i := 1) rfl)) (fun _ h9 => h9) rfl dX6_runCommands_46 ?_
        obtain ⟨r2, hr2, hM⟩ := ob hM
        obtain ⟨y_3, hy_3, hM⟩ := tbE hM
        refine wk_callM (ws' := (wSys cI cD kk.1 g (ss_txt_s y0 r2.2))) (va_runV (As := []) (rest := []) ⟨hx, hb, hml, hown, hts⟩ (c_X1_readNext l dC dI cI cD cJ kk (fun i => g (33 + i)) (ss_txt y0) _ hr2 H) (cwV 0 hts xgX6_runCommands_X1_readNext rfl rfl rfl (by decide +kernel) ⟨Nat.le_of_ble_eq_true rfl, Nat.le_of_ble_eq_true rfl⟩) (wk_preVT (ci := 0) (q0 := 33) hG hP hD hT hS (fun _ h9 => h9) [33, 34, 35] rfl rfl rfl rfl (va_free hD hS hA [33, 34, 35] rfl)) rfl rfl hl.1 rfl (lv_room (Nat.le_of_ble_eq_true rfl)) dX6_runCommands_49 ⟨Nat.le_of_ble_eq_true rfl, Nat.le_of_ble_eq_true rfl⟩) hP hD hS hA [33, 34, 35] [0, 1, 2, 3, 4, 5, 6, 7, 8, 9, 10, 11, 12, 13, 14, 15, 16, 17, 18, 19, 20, 21, 22, 23, 24, 25, 26, 27, 28, 29, 30, 31, 32, 36, 37] [0, 1, 2, 3, 4, 5, 6, 7, 8, 9, 10, 11, 12, 13, 14, 15, 16, 17, 18, 19, 20, 21, 22, 23, 24, 25, 26, 27, 28, 29, 30, 31, 32, 35, 36, 37, 33, 34] rfl rfl rfl (by decide) rfl rfl (fun H locs hP hD hS => ?_)
        have hP : va_P (dC, dI) vwCl (wSys cI cD kk.1 g y_3) H := by rw [hy_3]; exact hP
        have hD : va_D A (wSys cI cD kk.1 g y_3) := by rw [hy_3]; exact hD
        refine lv_if_eq (tgt := 72) hx hb dX6_runCommands_52 (by decide) (fun c4 => ?_) (fun c4 => ?_)
        · replace hM := (if_pos c4).symm.trans hM
          exact hB72 u2 y_3 H _ _ hM hP hD hS (lv_sub hl [1] rfl)
        · replace hM := (if_neg c4).symm.trans hM
          refine lv_aload_n hx hb dX6_runCommands_55 rfl (lv_at hl 0 rfl) ?_
          obtain ⟨r5, hr5, hM⟩ := ob hM
          refine wk_callP (va_runV (As := []) (rest := []) ⟨hx, hb, hml, hown, hts⟩ (c_X6_faultOfCommand l dC dI cI cD cJ kk g y_3 _ hr5 H) (cwV 0 hts xgX6_runCommands_X6_faultOfCommand rfl rfl rfl (by decide +kernel) ⟨Nat.le_of_ble_eq_true rfl, Nat.le_of_ble_eq_true rfl⟩) (wk_preVT (ci := 4) (q0 := 0) hG hP hD hT hS (fun _ h9 => h9) [0, 1, 2, 3, 4, 5, 6, 7, 8, 9, 10, 11, 12, 13, 14, 15, 16, 17, 18, 19, 20, 21, 22, 23, 24, 25, 26, 27, 28, 29, 30, 31, 32, 33, 34, 35, 36, 37] rfl rfl rfl rfl (fun _ h9 => h9.elim)) rfl rfl hl.1 rfl (lv_room (Nat.le_of_ble_eq_true rfl)) dX6_runCommands_56 ⟨Nat.le_of_ble_eq_true rfl, Nat.le_of_ble_eq_true rfl⟩) hS (fun locs hS => ?_)
          refine lv_if_ne (tgt := 72) hx hb dX6_runCommands_59 (by decide) (fun c6 => ?_) (fun c6 => ?_)
          · replace hM := (if_neg c6).symm.trans hM
            exact hB72 u2 y_3 H _ _ hM hP hD hS (lv_sub hl [1] rfl)
          · replace hM := (if_pos c6).symm.trans hM
            refine lv_aload_n hx hb dX6_runCommands_62 rfl (lv_at hl 0 rfl) ?_
            obtain ⟨r7, hr7, hM⟩ := ob hM
            refine wk_callM (ws' := (wSys cI cD kk.1 g r7)) (va_runV (As := []) (rest := []) ⟨hx, hb, hml, hown, hts⟩ (c_X6_obeyCommand l dC dI cI cD cJ kk g y_3 _ hr7 H) (cwV 0 hts xgX6_runCommands_X6_obeyCommand rfl rfl rfl (by decide +kernel) ⟨Nat.le_of_ble_eq_true rfl, Nat.le_of_ble_eq_true rfl⟩) (wk_preVT (ci := 4) (q0 := 0) hG hP hD hT hS (fun _ h9 => h9) [0, 1, 2, 3, 4, 5, 6, 7, 8, 9, 10, 11, 12, 13, 14, 15, 16, 17, 18, 19, 20, 21, 22, 23, 24, 25, 26, 27, 28, 29, 30, 31, 32, 33, 34, 35, 36, 37] rfl rfl rfl rfl (va_free hD hS hA [0, 1, 2, 3, 4, 5, 6, 7, 8, 9, 10, 11, 12, 13, 14, 15, 16, 17, 18, 19, 20, 21, 22, 23, 24, 25, 26, 27, 28, 29, 30, 31, 32, 33, 34, 35, 36, 37] rfl)) rfl rfl hl.1 rfl (lv_room (Nat.le_of_ble_eq_true rfl)) dX6_runCommands_63 ⟨Nat.le_of_ble_eq_true rfl, Nat.le_of_ble_eq_true rfl⟩) hP hD hS hA [0, 1, 2, 3, 4, 5, 6, 7, 8, 9, 10, 11, 12, 13, 14, 15, 16, 17, 18, 19, 20, 21, 22, 23, 24, 25, 26, 27, 28, 29, 30, 31, 32, 33, 34, 35, 36, 37] [] [0, 1, 2, 3, 4, 5, 6, 7, 8, 9, 10, 11, 12, 13, 14, 15, 16, 17, 18, 19, 20, 21, 22, 23, 24, 25, 26, 27, 28, 29, 30, 31, 32, 33, 34, 35, 36, 37] rfl rfl rfl (by decide) rfl rfl (fun H locs hP hD hS => ?_)
            refine lv_iinc (v := (u2 + 1)) (lv' := [(2, .int (u2 + 1)), (0, .ref (g 0))]) hx hb dX6_runCommands_66 hl (k := 1) rfl rfl (by decide) rfl (fun ls hl => ?_)
            refine lv_goto (tgt := 38) hx hb dX6_runCommands_69 (by decide) ?_
            exact ih38 (u2 + 1) r7 H _ _ hM hP hD hS (lv_sub hl [1, 0] rfl)
  unfold M_X6_runCommands at hM
  refine lv_aload_n hx hb dX6_runCommands_0 rfl (lv_at hl 0 rfl) ?_
  refine va_get (D := (dC, dI)) (ci := 4) (v := .ref ((fun i => g (33 + i)) 0)) (C := RX6) (T := TX6) (N := 6) hx hb hts inX6 hown hG.1 hP 0 rfl rfl 3 (by decide) (hts (.fieldLink RX6 29 "WokenDrive" "text" "LWokenDrive$CommandText;") (List.mem_of_getElem? (i := 1) rfl)) (fun _ h9 => h9) rfl dX6_runCommands_1 ?_
  obtain ⟨r1, hr1, hM⟩ := ob hM
  obtain ⟨y_2, hy_2, hM⟩ := tbE hM
  refine wk_callM (ws' := (wSys cI cD kk.1 g (ss_txt_s x r1.2))) (va_runV (As := []) (rest := []) ⟨hx, hb, hml, hown, hts⟩ (c_X1_findFault l dC dI cI cD cJ kk (fun i => g (33 + i)) (ss_txt x) _ hr1 H) (cwV 0 hts xgX6_runCommands_X1_findFault rfl rfl rfl (by decide +kernel) ⟨Nat.le_of_ble_eq_true rfl, Nat.le_of_ble_eq_true rfl⟩) (wk_preVT (ci := 0) (q0 := 33) hG hP hD hT hS (fun _ h9 => h9) [33, 34, 35] rfl rfl rfl rfl (va_free hD hS hA [33, 34, 35] rfl)) rfl rfl hl.1 rfl (lv_room (Nat.le_of_ble_eq_true rfl)) dX6_runCommands_4 ⟨Nat.le_of_ble_eq_true rfl, Nat.le_of_ble_eq_true rfl⟩) hP hD hS hA [33, 34, 35] [0, 1, 2, 3, 4, 5, 6, 7, 8, 9, 10, 11, 12, 13, 14, 15, 16, 17, 18, 19, 20, 21, 22, 23, 24, 25, 26, 27, 28, 29, 30, 31, 32, 36, 37] [0, 1, 2, 3, 4, 5, 6, 7, 8, 9, 10, 11, 12, 13, 14, 15, 16, 17, 18, 19, 20, 21, 22, 23, 24, 25, 26, 27, 28, 29, 30, 31, 32, 35, 36, 37, 33, 34] rfl rfl rfl (by decide) rfl rfl (fun H locs hP hD hS => ?_)
  have hP : va_P (dC, dI) vwCl (wSys cI cD kk.1 g y_2) H := by rw [hy_2]; exact hP
  have hD : va_D A (wSys cI cD kk.1 g y_2) := by rw [hy_2]; exact hD
  refine lv_istore_n (lv' := [(1, .int r1.1), (0, .ref (g 0))]) hx hb dX6_runCommands_7 rfl hl (by decide) rfl (fun ls hl => ?_)
  refine lv_iload_n hx hb dX6_runCommands_8 rfl (lv_at hl 0 rfl) ?_
  refine lv_iconst (v := (-1 : Int32)) hx hb dX6_runCommands_9 (by decide) ?_
  refine lv_icmp_eq (tgt := 18) hx hb dX6_runCommands_10 (by decide) (fun c3 => ?_) (fun c3 => ?_)
  · replace hM := (if_pos c3).symm.trans hM
    refine lv_aload_n hx hb dX6_runCommands_18 rfl (lv_at hl 1 rfl) ?_
    refine va_get (D := (dC, dI)) (ci := 4) (v := .ref ((fun i => g (11 + i)) 0)) (C := RX6) (T := TX6) (N := 6) hx hb hts inX6 hown hG.1 hP 0 rfl rfl 2 (by decide) (hts (.fieldLink RX6 22 "WokenDrive" "history" "LWokenDrive$History;") (List.mem_of_getElem? (i := 2) rfl)) (fun _ h9 => h9) rfl dX6_runCommands_19 ?_
    refine lv_aload_n hx hb dX6_runCommands_22 rfl (lv_at hl 1 rfl) ?_
    refine va_get (D := (dC, dI)) (ci := 4) (v := .ref ((fun i => g (1 + i)) 0)) (C := RX6) (T := TX6) (N := 6) hx hb hts inX6 hown hG.1 hP 0 rfl rfl 0 (by decide) (hts (.fieldLink RX6 10 "WokenDrive" "drive" "LWokenDrive$Drive;") (List.mem_of_getElem? (i := 3) rfl)) (fun _ h9 => h9) rfl dX6_runCommands_23 ?_
    obtain ⟨r4, hr4, hM⟩ := tbE hM
    obtain ⟨y_5, hy_5, hM⟩ := tbE hM
    refine wk_callM (ws' := (wSys cI cD kk.1 g (ss_his_s y_2 r4))) (va_runV (As := [.ref ((fun i => g (1 + i)) 0)]) (rest := []) ⟨hx, hb, hml, hown, hts⟩ (c_X4_save l dC dI cI cD cJ kk (fun i => g (11 + i)) (fun i => g (1 + i)) (ss_his y_2) (ss_drv y_2) _ hr4.symm H) (cwV 1 hts xgX6_runCommands_X4_save rfl rfl rfl (by decide +kernel) ⟨Nat.le_of_ble_eq_true rfl, Nat.le_of_ble_eq_true rfl⟩) (wk_preV (ci := 3) (q0 := 11) hG hP hD [11, 12, 13, 14, 15, 16, 17, 18, 19, 20, 21, 22, 23, 24, 25, 26, 27, 28, 29, 30, 31, 32, 1, 2, 3, 4, 5] rfl rfl rfl rfl) rfl rfl hl.1 rfl (lv_room (Nat.le_of_ble_eq_true rfl)) dX6_runCommands_26 ⟨Nat.le_of_ble_eq_true rfl, Nat.le_of_ble_eq_true rfl⟩) hP hD hS hA [11, 12, 13, 14, 15, 16, 17, 18, 19, 20, 21, 22, 23, 24, 25, 26, 27, 28, 29, 30, 31, 32, 1, 2, 3, 4, 5] [0, 6, 7, 8, 9, 10, 33, 34, 35, 36, 37] [0, 33, 34, 35, 36, 37, 1, 2, 3, 4, 5, 11, 12, 13, 14, 15, 16, 17, 18, 19, 20, 21, 22, 23, 24, 25, 26, 27, 28, 29, 30, 31, 32, 6, 7, 8, 9, 10] rfl rfl rfl (by decide) rfl rfl (fun H locs hP hD hS => ?_)
    have hP : va_P (dC, dI) vwCl (wSys cI cD kk.1 g y_5) H := by rw [hy_5]; exact hP
    have hD : va_D A (wSys cI cD kk.1 g y_5) := by rw [hy_5]; exact hD
    refine lv_aload_n hx hb dX6_runCommands_29 rfl (lv_at hl 1 rfl) ?_
    refine va_get (D := (dC, dI)) (ci := 4) (v := .ref ((fun i => g (33 + i)) 0)) (C := RX6) (T := TX6) (N := 6) hx hb hts inX6 hown hG.1 hP 0 rfl rfl 3 (by decide) (hts (.fieldLink RX6 29 "WokenDrive" "text" "LWokenDrive$CommandText;") (List.mem_of_getElem? (i := 1) rfl)) (fun _ h9 => h9) rfl dX6_runCommands_30 ?_
    obtain ⟨r6, hr6, hM⟩ := tbE hM
    obtain ⟨y_7, hy_7, hM⟩ := tbE hM
    refine wk_callM (ws' := (wSys cI cD kk.1 g (ss_txt_s y_5 r6))) (va_runV (As := []) (rest := []) ⟨hx, hb, hml, hown, hts⟩ (c_X1_rewind l dC dI cI cD cJ kk (fun i => g (33 + i)) (ss_txt y_5) _ hr6.symm H) (cwV 0 hts xgX6_runCommands_X1_rewind rfl rfl rfl (by decide +kernel) ⟨Nat.le_of_ble_eq_true rfl, Nat.le_of_ble_eq_true rfl⟩) (wk_preV (ci := 0) (q0 := 33) hG hP hD [33, 34, 35] rfl rfl rfl rfl) rfl rfl hl.1 rfl (lv_room (Nat.le_of_ble_eq_true rfl)) dX6_runCommands_33 ⟨Nat.le_of_ble_eq_true rfl, Nat.le_of_ble_eq_true rfl⟩) hP hD hS hA [33, 34, 35] [0, 1, 2, 3, 4, 5, 6, 7, 8, 9, 10, 11, 12, 13, 14, 15, 16, 17, 18, 19, 20, 21, 22, 23, 24, 25, 26, 27, 28, 29, 30, 31, 32, 36, 37] [0, 1, 2, 3, 4, 5, 6, 7, 8, 9, 10, 11, 12, 13, 14, 15, 16, 17, 18, 19, 20, 21, 22, 23, 24, 25, 26, 27, 28, 29, 30, 31, 32, 35, 36, 37, 33, 34] rfl rfl rfl (by decide) rfl rfl (fun H locs hP hD hS => ?_)
    have hP : va_P (dC, dI) vwCl (wSys cI cD kk.1 g y_7) H := by rw [hy_7]; exact hP
    have hD : va_D A (wSys cI cD kk.1 g y_7) := by rw [hy_7]; exact hD
    refine lv_iconst (v := (0 : Int32)) hx hb dX6_runCommands_36 (by decide) ?_
    refine lv_istore_n (lv' := [(2, .int (0 : Int32)), (1, .int r1.1), (0, .ref (g 0))]) hx hb dX6_runCommands_37 rfl hl (by decide) rfl (fun ls hl => ?_)
    exact hL38 400 (0 : Int32) y_7 H _ _ hM hP hD hS (lv_sub hl [2, 0] rfl)
  · replace hM := (if_neg c3).symm.trans hM
    refine lv_bipush (v := (-10 : Int32)) hx hb dX6_runCommands_13 (by decide) ?_
    refine lv_iload_n hx hb dX6_runCommands_15 rfl (lv_at hl 0 rfl) ?_
    refine lv_isub hx hb dX6_runCommands_16 ?_
    replace hM := Option.some.inj hM
    subst hM
    exact wk_retMi hx hb hr hlocks hQ rfl rfl hP hD hS dX6_runCommands_17
