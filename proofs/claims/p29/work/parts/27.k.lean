/-! PART 27: the public methods that may throw -/
set_option maxHeartbeats 4000000 in
set_option maxRecDepth 100000 in
theorem c_X6_undo (l : Launch) (hflags : l.stackTraces = false) (dC : Nat → ClassId) (dI : Nat → Nat → Nat) (cI cD cJ : ClassId) (kk : wAd) (g : Nat → Nat) (x : SS) (out : Int32 ⊕ (Int32 × SS)) (hM : M_X6_undo x = some out) : CX kk l yX6_undo wsX6_undo ({ frames := 7, cells := 1, slots := 6, locals := 103 } : Room) dC dI (wTys cI cD cJ) [.ref (g 0)] (wSys cI cD kk.1 g x) (outX out (fun r => (some (.int r.1), (wSys cI cD kk.1 g r.2)))) 1 6 := by
  refine wk_enterX (cc := cX6_undo) (maxL := 1) (ret := (some .int)) (by decide) rfl (Nat.le_of_ble_eq_true rfl) ?_
  intro p e s m below meth c A Q ls hB hno hT hA hP hD hQ hl
  obtain ⟨hx, hb, hml, hr, hts, hown, hname, hlocks, hG⟩ := hB
  have hown : s.vm.findClass RX6 = some m.cls := hown
  have hS : va_S A s.heap s.heap [] := va_S.rf
  have hl : lv_has ls 1 [(0, .ref (g 0))] := hl
  have inX4 : ∀ w ∈ wsX40, w ∈ wsX6_undo := fun _ h => List.mem_cons_of_mem _ (List.mem_append_left _ (List.mem_append_left _ (List.mem_append_left _ (List.mem_append_left _ (List.mem_append_left _ (List.mem_append_right _ h))))))
  have inX6 : ∀ w ∈ wsX60, w ∈ wsX6_undo := fun _ h => List.mem_cons_of_mem _ (List.mem_append_left _ (List.mem_append_left _ (List.mem_append_left _ (List.mem_append_left _ (List.mem_append_left _ (List.mem_append_left _ (List.mem_append_right _ h)))))))
  obtain ⟨H, hH⟩ : ∃ z, z = s.heap := ⟨_, rfl⟩
  have hP : va_P (dC, dI) vwCl (wSys cI cD kk.1 g x) H := by rw [hH]; exact hP
  have hS : va_S A s.heap H [] := by rw [hH]; exact hS
  refine wk_at hH ?_
  generalize ([] : List Loc) = locs at hS ⊢
  have hB15 : ∀ (w0 : Int32) (H : Heap) (locs : List Loc) (ls : Array Slot), M_X6_undo_15 x w0 x = some out → va_P (dC, dI) vwCl (wSys cI cD kk.1 g x) H → va_D A (wSys cI cD kk.1 g x) → va_S A s.heap H locs → lv_has ls 1 [(0, .ref (g 0))] → W p l e ({ frames := 7, cells := 1, slots := 6, locals := 103 } : Room) s m ([.ref (g 0)] : List Value).toArray below meth c H locs 0 0 Q (F0 m 15 ls [.int w0]) := by
    intro w0 H locs ls hM hP hD hS hl
    unfold M_X6_undo_15 at hM
    by_cases c1 : rfs w0 = true
    · replace hM := (if_pos c1).symm.trans hM
      refine wk_callX (vx_runS (As := [.int w0]) (rest := []) ⟨hx, hb, hml, hown, hts⟩ (c_X6_refuse l hflags dC dI cI cD cJ kk w0 _ (if_pos c1).symm H) (va_cwS 1 hts gX6_undo_X6_refuse rfl rfl rfl (by decide +kernel) ⟨Nat.le_of_ble_eq_true rfl, Nat.le_of_ble_eq_true rfl⟩) (wk_preST hG hP hD hT hS [] rfl rfl (va_free hD hS hA [] rfl)) rfl rfl hl.1 rfl (lv_room (Nat.le_of_ble_eq_true rfl)) dX6_undo_15 ⟨Nat.le_of_ble_eq_true rfl, Nat.le_of_ble_eq_true rfl⟩) hP hD hS hA [] [0, 1, 2, 3, 4, 5, 6, 7, 8, 9, 10, 11, 12, 13, 14, 15, 16, 17, 18, 19, 20, 21, 22, 23, 24, 25, 26, 27, 28, 29, 30, 31, 32, 33, 34, 35, 36, 37] [0, 1, 2, 3, 4, 5, 6, 7, 8, 9, 10, 11, 12, 13, 14, 15, 16, 17, 18, 19, 20, 21, 22, 23, 24, 25, 26, 27, 28, 29, 30, 31, 32, 33, 34, 35, 36, 37] rfl rfl rfl (by decide) rfl rfl (fun f9 ce q9 H locs ho9 hP hD hS hc9 hv9 hf9 => ?_) (fun ov w1 ho9 => by cases ho9)
      cases ho9
      replace hM := Option.some.inj hM
      subst hM
      exact wk_outX hno hlocks hQ rfl hP hD hS (Nat.le_of_ble_eq_true rfl) (Nat.le_of_ble_eq_true rfl) hc9 hv9 hf9
    replace hM := (if_neg c1).symm.trans hM
    refine wk_callX (vx_runS (As := [.int w0]) (rest := []) ⟨hx, hb, hml, hown, hts⟩ (c_X6_refuse l hflags dC dI cI cD cJ kk w0 _ (if_neg c1).symm H) (va_cwS 1 hts gX6_undo_X6_refuse rfl rfl rfl (by decide +kernel) ⟨Nat.le_of_ble_eq_true rfl, Nat.le_of_ble_eq_true rfl⟩) (wk_preST hG hP hD hT hS [] rfl rfl (va_free hD hS hA [] rfl)) rfl rfl hl.1 rfl (lv_room (Nat.le_of_ble_eq_true rfl)) dX6_undo_15 ⟨Nat.le_of_ble_eq_true rfl, Nat.le_of_ble_eq_true rfl⟩) hP hD hS hA [] [0, 1, 2, 3, 4, 5, 6, 7, 8, 9, 10, 11, 12, 13, 14, 15, 16, 17, 18, 19, 20, 21, 22, 23, 24, 25, 26, 27, 28, 29, 30, 31, 32, 33, 34, 35, 36, 37] [0, 1, 2, 3, 4, 5, 6, 7, 8, 9, 10, 11, 12, 13, 14, 15, 16, 17, 18, 19, 20, 21, 22, 23, 24, 25, 26, 27, 28, 29, 30, 31, 32, 33, 34, 35, 36, 37] rfl rfl rfl (by decide) rfl rfl (fun f9 ce q9 H locs ho9 hP hD hS hc9 hv9 hf9 => by cases ho9) (fun ov w1 ho9 H locs hPD hS => ?_)
    cases ho9
    obtain ⟨hP, hD⟩ := hPD (wSys cI cD kk.1 g x) rfl
    refine lv_aload_n hx hb dX6_undo_18 rfl (lv_at hl 0 rfl) ?_
    refine va_get (D := (dC, dI)) (ci := 4) (v := .ref ((fun i => g (11 + i)) 0)) (C := RX6) (T := TX6) (N := 6) hx hb hts inX6 hown hG.1 hP 0 rfl rfl 2 (by decide) (hts (.fieldLink RX6 22 "WokenDrive" "history" "LWokenDrive$History;") (List.mem_of_getElem? (i := 1) rfl)) (fun _ h9 => h9) rfl dX6_undo_19 ?_
    refine lv_aload_n hx hb dX6_undo_22 rfl (lv_at hl 0 rfl) ?_
    refine va_get (D := (dC, dI)) (ci := 4) (v := .ref ((fun i => g (1 + i)) 0)) (C := RX6) (T := TX6) (N := 6) hx hb hts inX6 hown hG.1 hP 0 rfl rfl 0 (by decide) (hts (.fieldLink RX6 10 "WokenDrive" "drive" "LWokenDrive$Drive;") (List.mem_of_getElem? (i := 3) rfl)) (fun _ h9 => h9) rfl dX6_undo_23 ?_
    obtain ⟨r2, hr2, hM⟩ := tbE hM
    refine wk_callM (ws' := (wSys cI cD kk.1 g (ss_drv_s (ss_his_s x r2.2.1) r2.2.2))) (va_runV (As := [.ref ((fun i => g (1 + i)) 0)]) (rest := []) ⟨hx, hb, hml, hown, hts⟩ (c_X4_restoreTo l dC dI cI cD cJ kk (fun i => g (11 + i)) (fun i => g (1 + i)) (ss_his x) (ss_drv x) _ hr2.symm H) (cwV 1 hts gX6_undo_X4_restoreTo rfl rfl rfl (by decide +kernel) ⟨Nat.le_of_ble_eq_true rfl, Nat.le_of_ble_eq_true rfl⟩) (wk_preV (ci := 3) (q0 := 11) hG hP hD [11, 12, 13, 14, 15, 16, 17, 18, 19, 20, 21, 22, 23, 24, 25, 26, 27, 28, 29, 30, 31, 32, 1, 2, 3, 4, 5] rfl rfl rfl rfl) rfl rfl hl.1 rfl (lv_room (Nat.le_of_ble_eq_true rfl)) dX6_undo_26 ⟨Nat.le_of_ble_eq_true rfl, Nat.le_of_ble_eq_true rfl⟩) hP hD hS hA [11, 12, 13, 14, 15, 16, 17, 18, 19, 20, 21, 22, 23, 24, 25, 26, 27, 28, 29, 30, 31, 32, 1, 2, 3, 4, 5] [0, 6, 7, 8, 9, 10, 33, 34, 35, 36, 37] [0, 33, 34, 35, 36, 37, 1, 2, 3, 4, 5, 11, 12, 13, 14, 15, 16, 17, 18, 19, 20, 21, 22, 23, 24, 25, 26, 27, 28, 29, 30, 31, 32, 6, 7, 8, 9, 10] rfl rfl rfl (by decide) rfl rfl (fun H locs hP hD hS => ?_)
    replace hM := Option.some.inj hM
    subst hM
    exact wk_retXi hx hb hr hlocks hQ rfl rfl hP hD hS (Nat.le_of_ble_eq_true rfl) (Nat.le_of_ble_eq_true rfl) dX6_undo_29
  unfold M_X6_undo at hM
  refine lv_aload_n hx hb dX6_undo_0 rfl (lv_at hl 0 rfl) ?_
  refine va_get (D := (dC, dI)) (ci := 4) (v := .ref ((fun i => g (11 + i)) 0)) (C := RX6) (T := TX6) (N := 6) hx hb hts inX6 hown hG.1 hP 0 rfl rfl 2 (by decide) (hts (.fieldLink RX6 22 "WokenDrive" "history" "LWokenDrive$History;") (List.mem_of_getElem? (i := 1) rfl)) (fun _ h9 => h9) rfl dX6_undo_1 ?_
  refine va_get (D := (dC, dI)) (ci := 3) (v := .int (hs_size (ss_his x))) (C := RX4) (T := TX4) (N := 3) hx hb hts inX4 hown hG.1 hP 11 rfl rfl 1 (by decide) (hts (.fieldLink RX6 188 "WokenDrive$History" "size" "I") (List.mem_of_getElem? (i := 2) rfl)) (fun _ h9 => h9) rfl dX6_undo_4 ?_
  refine lv_if_ne (tgt := 14) hx hb dX6_undo_7 (by decide) (fun c1 => ?_) (fun c1 => ?_)
  · replace hM := (if_neg c1).symm.trans hM
    refine lv_iconst (v := (0 : Int32)) hx hb dX6_undo_14 (by decide) ?_
    exact hB15 (0 : Int32) H _ _ hM hP hD hS (lv_sub hl [0] rfl)
  · replace hM := (if_pos c1).symm.trans hM
    refine lv_iconst (v := (3 : Int32)) hx hb dX6_undo_10 (by decide) ?_
    refine lv_goto (tgt := 15) hx hb dX6_undo_11 (by decide) ?_
    exact hB15 (3 : Int32) H _ _ hM hP hD hS (lv_sub hl [0] rfl)
