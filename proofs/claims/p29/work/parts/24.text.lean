/-! PART 24: CommandText -/
set_option maxHeartbeats 4000000 in
set_option maxRecDepth 100000 in
theorem c_X1_isFull (l : Launch) (dC : Nat → ClassId) (dI : Nat → Nat → Nat) (cI cD cJ : ClassId) (kk : wAd) (g : Nat → Nat) (x : TS) (out : Bool) (hM : M_X1_isFull x = out) : CP l yX1_isFull wsX1_isFull ({ frames := 0, cells := 0, slots := 0, locals := 0 } : Room) dC dI (wTys cI cD cJ) [.ref (g 0)] (wTxt cI kk.1 g x) (some (.int (zI out))) := by
  refine wk_enterP (cc := cX1_isFull) (maxL := 1) (ret := (some .boolean)) (by decide) rfl (Nat.le_of_ble_eq_true rfl) ?_
  intro p e s m below meth c A Q ls hB hP hD hA hQ hl
  obtain ⟨hx, hb, hml, hr, hts, hown, hname, hlocks, hG⟩ := hB
  have hown : s.vm.findClass RX1 = some m.cls := hown
  have hS : va_S A s.heap s.heap [] := va_S.rf
  have hl : lv_has ls 1 [(0, .ref (g 0))] := hl
  have inX1 : ∀ w ∈ wsX10, w ∈ wsX1_isFull := fun _ h => List.mem_cons_of_mem _ (List.mem_append_right _ h)
  generalize ([] : List Loc) = locs at hS ⊢
  have hB15 : ∀ (w0 : Bool) (locs : List Loc) (ls : Array Slot), M_X1_isFull_15 x w0 = out → va_S A s.heap s.heap locs → lv_has ls 1 [] → W p l e ({ frames := 0, cells := 0, slots := 0, locals := 0 } : Room) s m ([.ref (g 0)] : List Value).toArray below meth c s.heap locs 0 0 Q (F0 m 15 ls [.int (zI w0)]) := by
    intro w0 locs ls hM hS hl
    unfold M_X1_isFull_15 at hM
    subst hM
    exact wk_retPi hx hb hr hlocks hQ (zI_nar _) rfl hS dX1_isFull_15
  unfold M_X1_isFull at hM
  refine lv_aload_n hx hb dX1_isFull_0 rfl (lv_at hl 0 rfl) ?_
  refine va_get (D := (dC, dI)) (ci := 0) (v := .int (ts_len x)) (C := RX1) (T := TX1) (N := 5) hx hb hts inX1 hown hG.1 hP 0 rfl rfl 2 (by decide) (hts (.fieldLink RX1 18 "WokenDrive$CommandText" "length" "I") (List.mem_of_getElem? (i := 1) rfl)) (fun _ h9 => h9) rfl dX1_isFull_1 ?_
  refine lv_sipush (v := (150 : Int32)) hx hb dX1_isFull_4 (by decide) ?_
  refine lv_icmp_lt (tgt := 14) hx hb dX1_isFull_7 (by decide) (fun c1 => ?_) (fun c1 => ?_)
  · replace hM := (if_pos c1).symm.trans hM
    refine lv_iconst (v := (0 : Int32)) hx hb dX1_isFull_14 (by decide) ?_
    exact hB15 false  _ _ hM hS (lv_sub hl [] rfl)
  · replace hM := (if_neg c1).symm.trans hM
    refine lv_iconst (v := (1 : Int32)) hx hb dX1_isFull_10 (by decide) ?_
    refine lv_goto (tgt := 15) hx hb dX1_isFull_11 (by decide) ?_
    exact hB15 true  _ _ hM hS (lv_sub hl [] rfl)
set_option maxHeartbeats 4000000 in
set_option maxRecDepth 100000 in
theorem c_X1_append (l : Launch) (dC : Nat → ClassId) (dI : Nat → Nat → Nat) (cI cD cJ : ClassId) (kk : wAd) (g : Nat → Nat) (x : TS) (p1 : Int32) (out : Int32 × TS) (hM : M_X1_append x p1 = out) : CM l yX1_append wsX1_append ({ frames := 1, cells := 0, slots := 0, locals := 22 } : Room) dC dI (wTys cI cD cJ) [.ref (g 0), .int p1] (wTxt cI kk.1 g x) (some (.int out.1)) (wTxt cI kk.1 g out.2) 0 0 := by
  refine wk_enterM (cc := cX1_append) (maxL := 2) (ret := (some .int)) (by decide) rfl (Nat.le_of_ble_eq_true rfl) ?_
  intro p e s m below meth c A Q ls hB hA hP hD hQ hl
  obtain ⟨hx, hb, hml, hr, hts, hown, hname, hlocks, hG⟩ := hB
  have hown : s.vm.findClass RX1 = some m.cls := hown
  have hS : va_S A s.heap s.heap [] := va_S.rf
  have hl : lv_has ls 2 [(0, .ref (g 0)), (1, .int p1)] := hl
  have inX1 : ∀ w ∈ wsX10, w ∈ wsX1_append := fun _ h => List.mem_cons_of_mem _ (List.mem_append_right _ h)
  obtain ⟨H, hH⟩ : ∃ z, z = s.heap := ⟨_, rfl⟩
  have hP : va_P (dC, dI) vwCl (wTxt cI kk.1 g x) H := by rw [hH]; exact hP
  have hS : va_S A s.heap H [] := by rw [hH]; exact hS
  refine wk_at hH ?_
  generalize ([] : List Loc) = locs at hS ⊢
  unfold M_X1_append at hM
  refine lv_aload_n hx hb dX1_append_0 rfl (lv_at hl 0 rfl) ?_
  refine va_get (D := (dC, dI)) (ci := 0) (v := .ref (g 1)) (C := RX1) (T := TX1) (N := 5) hx hb hts inX1 hown hG.1 hP 0 rfl rfl 0 (by decide) (hts (.fieldLink RX1 9 "WokenDrive$CommandText" "bytes" "[I") (List.mem_of_getElem? (i := 1) rfl)) (fun _ h9 => h9) rfl dX1_append_1 ?_
  refine lv_aload_n hx hb dX1_append_4 rfl (lv_at hl 0 rfl) ?_
  refine va_get (D := (dC, dI)) (ci := 0) (v := .int (ts_len x)) (C := RX1) (T := TX1) (N := 5) hx hb hts inX1 hown hG.1 hP 0 rfl rfl 2 (by decide) (hts (.fieldLink RX1 18 "WokenDrive$CommandText" "length" "I") (List.mem_of_getElem? (i := 2) rfl)) (fun _ h9 => h9) rfl dX1_append_5 ?_
  refine lv_iload_n hx hb dX1_append_8 rfl (lv_at hl 1 rfl) ?_
  obtain ⟨r1, hr1, hM⟩ := tbE hM
  obtain ⟨y_2, hy_2, hM⟩ := tbE hM
  refine wk_callM (ws' := (wTxt cI kk.1 g (ts_by_s x r1))) (va_runSN (As := [.ref (g 1), .int (ts_len x), .int p1]) (rest := []) ⟨hx, hb, hml, hown, hts⟩ (c_X6_put l dC dI cI cD cJ kk (g 1) 150 (ts_by x) (ts_len x) p1 (by decide) _ hr1.symm H) ⟨va_cnB 3 hts gX1_append_X6_put_n29 rfl rfl rfl (hG.2 _ (List.mem_of_getElem? (i := 3) rfl)) (hts (.initialized RX6) (List.mem_of_getElem? (i := 4) rfl)) (by decide +kernel) ⟨Nat.le_of_ble_eq_true rfl, Nat.le_of_ble_eq_true rfl⟩, hts (.static yX6_put) (List.mem_of_getElem? (i := 3) rfl), trivial⟩ (wk_preS hG hP hD [1] rfl rfl) rfl rfl hl.1 rfl (lv_room (Nat.le_of_ble_eq_true rfl)) dX1_append_9 ⟨Nat.le_of_ble_eq_true rfl, Nat.le_of_ble_eq_true rfl⟩) hP hD hS hA [1] [0, 2] [0, 2, 1] rfl rfl rfl (by decide) rfl rfl (fun H locs hP hD hS => ?_)
  have hP : va_P (dC, dI) vwCl (wTxt cI kk.1 g y_2) H := by rw [hy_2]; exact hP
  have hD : va_D A (wTxt cI kk.1 g y_2) := by rw [hy_2]; exact hD
  refine lv_aload_n hx hb dX1_append_12 rfl (lv_at hl 0 rfl) ?_
  refine lv_dup hx hb dX1_append_13 rfl ?_
  refine va_get (D := (dC, dI)) (ci := 0) (v := .int (ts_len y_2)) (C := RX1) (T := TX1) (N := 5) hx hb hts inX1 hown hG.1 hP 0 rfl rfl 2 (by decide) (hts (.fieldLink RX1 18 "WokenDrive$CommandText" "length" "I") (List.mem_of_getElem? (i := 2) rfl)) (fun _ h9 => h9) rfl dX1_append_14 ?_
  refine lv_iconst (v := (1 : Int32)) hx hb dX1_append_17 (by decide) ?_
  refine lv_iadd hx hb dX1_append_18 ?_
  obtain ⟨y_3, hy_3, hM⟩ := tbE hM
  refine va_put (D := (dC, dI)) (ci := 0) (v := .int ((ts_len y_2) + (1 : Int32))) (ty := .int) (C := RX1) (T := TX1) (N := 5) hx hb hts inX1 tyX1 tyX1_ok nmX1 hown hG.1 hP hD hS 0 rfl rfl 2 (by decide) (hts (.fieldLink RX1 18 "WokenDrive$CommandText" "length" "I") (List.mem_of_getElem? (i := 2) rfl)) (fun _ h9 => h9) rfl (by decide +kernel) rfl rfl (Nat.le_of_ble_eq_true rfl) dX1_append_19 (fun H locs hP hD hS => ?_)
  have hP : va_P (dC, dI) vwCl (wTxt cI kk.1 g y_3) H := by rw [hy_3]; exact hP
  have hD : va_D A (wTxt cI kk.1 g y_3) := by rw [hy_3]; exact hD
  refine lv_aload_n hx hb dX1_append_22 rfl (lv_at hl 0 rfl) ?_
  refine va_get (D := (dC, dI)) (ci := 0) (v := .int (ts_len y_3)) (C := RX1) (T := TX1) (N := 5) hx hb hts inX1 hown hG.1 hP 0 rfl rfl 2 (by decide) (hts (.fieldLink RX1 18 "WokenDrive$CommandText" "length" "I") (List.mem_of_getElem? (i := 2) rfl)) (fun _ h9 => h9) rfl dX1_append_23 ?_
  subst hM
  exact wk_retMi hx hb hr hlocks hQ rfl rfl hP hD hS dX1_append_26
