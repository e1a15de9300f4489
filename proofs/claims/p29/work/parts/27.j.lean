/-! PART 27: the public methods that may throw -/
set_option maxHeartbeats 4000000 in
set_option maxRecDepth 100000 in
theorem c_X6_type (l : Launch) (hflags : l.stackTraces = false) (dC : Nat → ClassId) (dI : Nat → Nat → Nat) (cI cD cJ : ClassId) (kk : wAd) (g : Nat → Nat) (x : SS) (p1 : Int32) (out : Int32 ⊕ (Int32 × SS)) (hM : M_X6_type x p1 = some out) : CX kk l yX6_type wsX6_type ({ frames := 7, cells := 2, slots := 12, locals := 102 } : Room) dC dI (wTys cI cD cJ) [.ref (g 0), .int p1] (wSys cI cD kk.1 g x) (outX out (fun r => (some (.int r.1), (wSys cI cD kk.1 g r.2)))) 2 12 := by
  refine wk_enterX (cc := cX6_type) (maxL := 2) (ret := (some .int)) (by decide) rfl (Nat.le_of_ble_eq_true rfl) ?_
  intro p e s m below meth c A Q ls hB hno hT hA hP hD hQ hl
  obtain ⟨hx, hb, hml, hr, hts, hown, hname, hlocks, hG⟩ := hB
  have hown : s.vm.findClass RX6 = some m.cls := hown
  have hS : va_S A s.heap s.heap [] := va_S.rf
  have hl : lv_has ls 2 [(0, .ref (g 0)), (1, .int p1)] := hl
  have inX6 : ∀ w ∈ wsX60, w ∈ wsX6_type := fun _ h => List.mem_cons_of_mem _ (List.mem_append_left _ (List.mem_append_left _ (List.mem_append_left _ (List.mem_append_left _ (List.mem_append_right _ h)))))
  obtain ⟨H, hH⟩ : ∃ z, z = s.heap := ⟨_, rfl⟩
  have hP : va_P (dC, dI) vwCl (wSys cI cD kk.1 g x) H := by rw [hH]; exact hP
  have hS : va_S A s.heap H [] := by rw [hH]; exact hS
  refine wk_at hH ?_
  generalize ([] : List Loc) = locs at hS ⊢
  have hB25 : ∀ (w0 : Int32) (H : Heap) (locs : List Loc) (ls : Array Slot), M_X6_type_25 x p1 w0 x = some out → va_P (dC, dI) vwCl (wSys cI cD kk.1 g x) H → va_D A (wSys cI cD kk.1 g x) → va_S A s.heap H locs → lv_has ls 2 [(0, .ref (g 0)), (1, .int p1)] → W p l e ({ frames := 7, cells := 2, slots := 12, locals := 102 } : Room) s m ([.ref (g 0), .int p1] : List Value).toArray below meth c H locs 1 6 Q (F0 m 25 ls [.int w0]) := by
    intro w0 H locs ls hM hP hD hS hl
    unfold M_X6_type_25 at hM
    by_cases c1 : rfs w0 = true
    · replace hM := (if_pos c1).symm.trans hM
      refine wk_callX (vx_runS (As := [.int w0]) (rest := []) ⟨hx, hb, hml, hown, hts⟩ (c_X6_refuse l hflags dC dI cI cD cJ kk w0 _ (if_pos c1).symm H) (va_cwS 1 hts gX6_type_X6_refuse rfl rfl rfl (by decide +kernel) ⟨Nat.le_of_ble_eq_true rfl, Nat.le_of_ble_eq_true rfl⟩) (wk_preST hG hP hD hT hS [] rfl rfl (va_free hD hS hA [] rfl)) rfl rfl hl.1 rfl (lv_room (Nat.le_of_ble_eq_true rfl)) dX6_type_25 ⟨Nat.le_of_ble_eq_true rfl, Nat.le_of_ble_eq_true rfl⟩) hP hD hS hA [] [0, 1, 2, 3, 4, 5, 6, 7, 8, 9, 10, 11, 12, 13, 14, 15, 16, 17, 18, 19, 20, 21, 22, 23, 24, 25, 26, 27, 28, 29, 30, 31, 32, 33, 34, 35, 36, 37] [0, 1, 2, 3, 4, 5, 6, 7, 8, 9, 10, 11, 12, 13, 14, 15, 16, 17, 18, 19, 20, 21, 22, 23, 24, 25, 26, 27, 28, 29, 30, 31, 32, 33, 34, 35, 36, 37] rfl rfl rfl (by decide) rfl rfl (fun f9 ce q9 H locs ho9 hP hD hS hc9 hv9 hf9 => ?_) (fun ov w1 ho9 => by cases ho9)
      cases ho9
      replace hM := Option.some.inj hM
      subst hM
      exact wk_outX hno hlocks hQ rfl hP hD hS (Nat.le_of_ble_eq_true rfl) (Nat.le_of_ble_eq_true rfl) hc9 hv9 hf9
    replace hM := (if_neg c1).symm.trans hM
    refine wk_callX (vx_runS (As := [.int w0]) (rest := []) ⟨hx, hb, hml, hown, hts⟩ (c_X6_refuse l hflags dC dI cI cD cJ kk w0 _ (if_neg c1).symm H) (va_cwS 1 hts gX6_type_X6_refuse rfl rfl rfl (by decide +kernel) ⟨Nat.le_of_ble_eq_true rfl, Nat.le_of_ble_eq_true rfl⟩) (wk_preST hG hP hD hT hS [] rfl rfl (va_free hD hS hA [] rfl)) rfl rfl hl.1 rfl (lv_room (Nat.le_of_ble_eq_true rfl)) dX6_type_25 ⟨Nat.le_of_ble_eq_true rfl, Nat.le_of_ble_eq_true rfl⟩) hP hD hS hA [] [0, 1, 2, 3, 4, 5, 6, 7, 8, 9, 10, 11, 12, 13, 14, 15, 16, 17, 18, 19, 20, 21, 22, 23, 24, 25, 26, 27, 28, 29, 30, 31, 32, 33, 34, 35, 36, 37] [0, 1, 2, 3, 4, 5, 6, 7, 8, 9, 10, 11, 12, 13, 14, 15, 16, 17, 18, 19, 20, 21, 22, 23, 24, 25, 26, 27, 28, 29, 30, 31, 32, 33, 34, 35, 36, 37] rfl rfl rfl (by decide) rfl rfl (fun f9 ce q9 H locs ho9 hP hD hS hc9 hv9 hf9 => by cases ho9) (fun ov w1 ho9 H locs hPD hS => ?_)
    cases ho9
    obtain ⟨hP, hD⟩ := hPD (wSys cI cD kk.1 g x) rfl
    refine lv_aload_n hx hb dX6_type_28 rfl (lv_at hl 0 rfl) ?_
    refine va_get (D := (dC, dI)) (ci := 4) (v := .ref ((fun i => g (33 + i)) 0)) (C := RX6) (T := TX6) (N := 6) hx hb hts inX6 hown hG.1 hP 0 rfl rfl 3 (by decide) (hts (.fieldLink RX6 29 "WokenDrive" "text" "LWokenDrive$CommandText;") (List.mem_of_getElem? (i := 1) rfl)) (fun _ h9 => h9) rfl dX6_type_29 ?_
    refine lv_iload_n hx hb dX6_type_32 rfl (lv_at hl 1 rfl) ?_
    obtain ⟨r2, hr2, hM⟩ := tbE hM
    refine wk_callM (ws' := (wSys cI cD kk.1 g (ss_txt_s x r2.2))) (va_runV (As := [.int p1]) (rest := []) ⟨hx, hb, hml, hown, hts⟩ (c_X1_append l dC dI cI cD cJ kk (fun i => g (33 + i)) (ss_txt x) p1 _ hr2.symm H) (cwV 1 hts gX6_type_X1_append rfl rfl rfl (by decide +kernel) ⟨Nat.le_of_ble_eq_true rfl, Nat.le_of_ble_eq_true rfl⟩) (wk_preV (ci := 0) (q0 := 33) hG hP hD [33, 34, 35] rfl rfl rfl rfl) rfl rfl hl.1 rfl (lv_room (Nat.le_of_ble_eq_true rfl)) dX6_type_33 ⟨Nat.le_of_ble_eq_true rfl, Nat.le_of_ble_eq_true rfl⟩) hP hD hS hA [33, 34, 35] [0, 1, 2, 3, 4, 5, 6, 7, 8, 9, 10, 11, 12, 13, 14, 15, 16, 17, 18, 19, 20, 21, 22, 23, 24, 25, 26, 27, 28, 29, 30, 31, 32, 36, 37] [0, 1, 2, 3, 4, 5, 6, 7, 8, 9, 10, 11, 12, 13, 14, 15, 16, 17, 18, 19, 20, 21, 22, 23, 24, 25, 26, 27, 28, 29, 30, 31, 32, 35, 36, 37, 33, 34] rfl rfl rfl (by decide) rfl rfl (fun H locs hP hD hS => ?_)
    replace hM := Option.some.inj hM
    subst hM
    exact wk_retXi hx hb hr hlocks hQ rfl rfl hP hD hS (Nat.le_of_ble_eq_true rfl) (Nat.le_of_ble_eq_true rfl) dX6_type_36
  unfold M_X6_type at hM
  refine lv_iload_n hx hb dX6_type_0 rfl (lv_at hl 1 rfl) ?_
  refine lv_iconst (v := (0 : Int32)) hx hb dX6_type_1 (by decide) ?_
  refine lv_bipush (v := (127 : Int32)) hx hb dX6_type_2 (by decide) ?_
  refine wk_callP (va_runS (As := [.int p1, .int (0 : Int32), .int (127 : Int32)]) (rest := []) ⟨hx, hb, hml, hown, hts⟩ (c_X6_faultOfRange l dC dI cI cD cJ kk  p1 (0 : Int32) (127 : Int32) _ rfl H) (va_cwS 3 hts gX6_type_X6_faultOfRange rfl rfl rfl (by decide +kernel) ⟨Nat.le_of_ble_eq_true rfl, Nat.le_of_ble_eq_true rfl⟩) (wk_preS hG hP hD [] rfl rfl) rfl rfl hl.1 rfl (lv_room (Nat.le_of_ble_eq_true rfl)) dX6_type_4 ⟨Nat.le_of_ble_eq_true rfl, Nat.le_of_ble_eq_true rfl⟩) hS (fun locs hS => ?_)
  by_cases c1 : rfs (M_X6_faultOfRange p1 (0 : Int32) (127 : Int32)) = true
  · replace hM := (if_pos c1).symm.trans hM
    refine wk_callX (vx_runS (As := [.int (M_X6_faultOfRange p1 (0 : Int32) (127 : Int32))]) (rest := []) ⟨hx, hb, hml, hown, hts⟩ (c_X6_refuse l hflags dC dI cI cD cJ kk (M_X6_faultOfRange p1 (0 : Int32) (127 : Int32)) _ (if_pos c1).symm H) (va_cwS 1 hts gX6_type_X6_refuse rfl rfl rfl (by decide +kernel) ⟨Nat.le_of_ble_eq_true rfl, Nat.le_of_ble_eq_true rfl⟩) (wk_preST hG hP hD hT hS [] rfl rfl (va_free hD hS hA [] rfl)) rfl rfl hl.1 rfl (lv_room (Nat.le_of_ble_eq_true rfl)) dX6_type_7 ⟨Nat.le_of_ble_eq_true rfl, Nat.le_of_ble_eq_true rfl⟩) hP hD hS hA [] [0, 1, 2, 3, 4, 5, 6, 7, 8, 9, 10, 11, 12, 13, 14, 15, 16, 17, 18, 19, 20, 21, 22, 23, 24, 25, 26, 27, 28, 29, 30, 31, 32, 33, 34, 35, 36, 37] [0, 1, 2, 3, 4, 5, 6, 7, 8, 9, 10, 11, 12, 13, 14, 15, 16, 17, 18, 19, 20, 21, 22, 23, 24, 25, 26, 27, 28, 29, 30, 31, 32, 33, 34, 35, 36, 37] rfl rfl rfl (by decide) rfl rfl (fun f9 ce q9 H locs ho9 hP hD hS hc9 hv9 hf9 => ?_) (fun ov w1 ho9 => by cases ho9)
    cases ho9
    replace hM := Option.some.inj hM
    subst hM
    exact wk_outX hno hlocks hQ rfl hP hD hS (Nat.le_of_ble_eq_true rfl) (Nat.le_of_ble_eq_true rfl) hc9 hv9 hf9
  replace hM := (if_neg c1).symm.trans hM
  refine wk_callX (vx_runS (As := [.int (M_X6_faultOfRange p1 (0 : Int32) (127 : Int32))]) (rest := []) ⟨hx, hb, hml, hown, hts⟩ (c_X6_refuse l hflags dC dI cI cD cJ kk (M_X6_faultOfRange p1 (0 : Int32) (127 : Int32)) _ (if_neg c1).symm H) (va_cwS 1 hts gX6_type_X6_refuse rfl rfl rfl (by decide +kernel) ⟨Nat.le_of_ble_eq_true rfl, Nat.le_of_ble_eq_true rfl⟩) (wk_preST hG hP hD hT hS [] rfl rfl (va_free hD hS hA [] rfl)) rfl rfl hl.1 rfl (lv_room (Nat.le_of_ble_eq_true rfl)) dX6_type_7 ⟨Nat.le_of_ble_eq_true rfl, Nat.le_of_ble_eq_true rfl⟩) hP hD hS hA [] [0, 1, 2, 3, 4, 5, 6, 7, 8, 9, 10, 11, 12, 13, 14, 15, 16, 17, 18, 19, 20, 21, 22, 23, 24, 25, 26, 27, 28, 29, 30, 31, 32, 33, 34, 35, 36, 37] [0, 1, 2, 3, 4, 5, 6, 7, 8, 9, 10, 11, 12, 13, 14, 15, 16, 17, 18, 19, 20, 21, 22, 23, 24, 25, 26, 27, 28, 29, 30, 31, 32, 33, 34, 35, 36, 37] rfl rfl rfl (by decide) rfl rfl (fun f9 ce q9 H locs ho9 hP hD hS hc9 hv9 hf9 => by cases ho9) (fun ov w1 ho9 H locs hPD hS => ?_)
  cases ho9
  obtain ⟨hP, hD⟩ := hPD (wSys cI cD kk.1 g x) rfl
  refine lv_aload_n hx hb dX6_type_10 rfl (lv_at hl 0 rfl) ?_
  refine va_get (D := (dC, dI)) (ci := 4) (v := .ref ((fun i => g (33 + i)) 0)) (C := RX6) (T := TX6) (N := 6) hx hb hts inX6 hown hG.1 hP 0 rfl rfl 3 (by decide) (hts (.fieldLink RX6 29 "WokenDrive" "text" "LWokenDrive$CommandText;") (List.mem_of_getElem? (i := 1) rfl)) (fun _ h9 => h9) rfl dX6_type_11 ?_
  refine wk_callP (va_runV (As := []) (rest := []) ⟨hx, hb, hml, hown, hts⟩ (c_X1_isFull l dC dI cI cD cJ kk (fun i => g (33 + i)) (ss_txt x) _ rfl H) (cwV 0 hts gX6_type_X1_isFull rfl rfl rfl (by decide +kernel) ⟨Nat.le_of_ble_eq_true rfl, Nat.le_of_ble_eq_true rfl⟩) (wk_preV (ci := 0) (q0 := 33) hG hP hD [33, 34, 35] rfl rfl rfl rfl) rfl rfl hl.1 rfl (lv_room (Nat.le_of_ble_eq_true rfl)) dX6_type_14 ⟨Nat.le_of_ble_eq_true rfl, Nat.le_of_ble_eq_true rfl⟩) hS (fun locs hS => ?_)
  refine lv_if_eq (tgt := 24) hx hb dX6_type_17 (by decide) (fun c2 => ?_) (fun c2 => ?_)
  · replace hM := (if_pos c2).symm.trans hM
    refine lv_iconst (v := (0 : Int32)) hx hb dX6_type_24 (by decide) ?_
    exact hB25 (0 : Int32) H _ _ hM hP hD hS (lv_sub hl [0, 1] rfl)
  · replace hM := (if_neg c2).symm.trans hM
    refine lv_iconst (v := (3 : Int32)) hx hb dX6_type_20 (by decide) ?_
    refine lv_goto (tgt := 25) hx hb dX6_type_21 (by decide) ?_
    exact hB25 (3 : Int32) H _ _ hM hP hD hS (lv_sub hl [0, 1] rfl)
