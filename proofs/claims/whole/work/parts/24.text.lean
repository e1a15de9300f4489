/-! PART 24: CommandText -/
set_option maxHeartbeats 4000000 in
set_option maxRecDepth 100000 in
theorem c_X1_isFull (l : Launch) (dC : Nat → ClassId) (dI : Nat → Nat → Nat) (cI cD cJ : ClassId) (kk : wAd) (g : Nat → Nat) (x : TS) (out : Bool) (hM : M_X1_isFull x = out) : CP l yX1_isFull wsX1_isFull ({ frames := 0, cells := 0, slots := 0, locals := 0 } : Room) dC dI (wTys cI cD cJ) [.ref (g 0)] (wTxt cI kk.1 g x) (some (.int (zI out))) := by
  refine wk_enterP (cc := cX1_isFull) (maxL := 1) (ret := (some .boolean)) (by decide) rfl (Nat.le_of_ble_eq_true rfl) ?_
  intro p e s m below meth c A Q ls hB hP hD hA hQ hl
  obtain ⟨hx, hb, hml, hr, hts, hown, hname, hlocks, hG⟩ := hB
  have hown : s.vm.findClass RX1 = some m.cls := hown
  have hS : va_S A s.heap s.heap [] := va_S.rf
  have hl : lv_has ls 1 [(0, .ref (g 0))] := hl
  have inX1 : ∀ w ∈ wsX10, w ∈ wsX1_isFull := fun _ h => List.mem_cons_of_mem _ (List.mem_append_right _ h)
  generalize ([] : List Loc) = locs at hS ⊢
  have hB15 : ∀ (w0 : Bool) (locs : List Loc) (ls : Array Slot), M_X1_isFull_15 x w0 = out → va_S A s.heap s.heap locs → lv_has ls 1 [] → W p l e ({ frames := 0, cells := 0, slots := 0, locals := 0 } : Room) s m ([.ref (g 0)] : List Value).toArray below meth c s.heap locs 0 0 Q (F0 m 15 ls [.int (zI w0)]) := by
    intro w0 locs ls hM hS hl
    unfold M_X1_isFull_15 at hM
    subst hM
    exact wk_retPi hx hb hr hlocks hQ (zI_nar _) rfl hS dX1_isFull_15
  unfold M_X1_isFull at hM
  refine lv_aload_n hx hb dX1_isFull_0 rfl (lv_at hl 0 rfl) ?_
  refine va_get (D := (dC, dI)) (ci := 0) (v := .int (ts_len x)) (C := RX1) (T := TX1) (N := 5) hx hb hts inX1 hown hG.1 hP 0 rfl rfl 2 (by decide) (hts (.fieldLink RX1 18 "WokenDrive$CommandText" "length" "I") (List.mem_of_getElem? (i := 1) rfl)) (fun _ h9 => h9) rfl dX1_isFull_1 ?_
  refine lv_sipush (v := (150 : Int32)) hx hb dX1_isFull_4 (by decide) ?_
  refine lv_icmp_lt (tgt := 14) hx hb dX1_isFull_7 (by decide) (fun c1 => ?_) (fun c1 => ?_)
  · replace hM := (if_pos c1).symm.trans hM
    refine lv_iconst (v := (0 : Int32)) hx hb dX1_isFull_14 (by decide) ?_
    exact hB15 false  _ _ hM hS (lv_sub hl [] rfl)
  · replace hM := (if_neg c1).symm.trans hM
    refine lv_iconst (v := (1 : Int32)) hx hb dX1_isFull_10 (by decide) ?_
    refine lv_goto (tgt := 15) hx hb dX1_isFull_11 (by decide) ?_
    exact hB15 true  _ _ hM hS (lv_sub hl [] rfl)
set_option maxHeartbeats 4000000 in
set_option maxRecDepth 100000 in
theorem c_X1_append (l : Launch) (dC : Nat → ClassId) (dI : Nat → Nat → Nat) (cI cD cJ : ClassId) (kk : wAd) (g : Nat → Nat) (x : TS) (p1 : Int32) (out : Int32 × TS) (hM : M_X1_append x p1 = out) : CM l yX1_append wsX1_append ({ frames := 1, cells := 0, slots := 0, locals := 22 } : Room) dC dI (wTys cI cD cJ) [.ref (g 0), .int p1] (wTxt cI kk.1 g x) (some (.int out.1)) (wTxt cI kk.1 g out.2) 0 0 := by
  refine wk_enterM (cc := cX1_append) (maxL := 2) (ret := (some .int)) (by decide) rfl (Nat.le_of_ble_eq_true rfl) ?_
  intro p e s m below meth c A Q ls hB hA hP hD hQ hl
  obtain ⟨hx, hb, hml, hr, hts, hown, hname, hlocks, hG⟩ := hB
  have hown : s.vm.findClass RX1 = some m.cls := hown
  have hS : va_S A s.heap s.heap [] := va_S.rf
  have hl : lv_has ls 2 [(0, .ref (g 0)), (1, .int p1)] := hl
  have inX1 : ∀ w ∈ wsX10, w ∈ wsX1_append := fun _ h => List.mem_cons_of_mem _ (List.mem_append_right _ h)
  obtain ⟨H, hH⟩ : ∃ z, z = s.heap := ⟨_, rfl⟩
  have hP : va_P (dC, dI) vwCl (wTxt cI kk.1 g x) H := by rw [hH]; exact hP
  have hS : va_S A s.heap H [] := by rw [hH]; exact hS
  refine wk_at hH ?_
  generalize ([] : List Loc) = locs at hS ⊢
  unfold M_X1_append at hM
  refine lv_aload_n hx hb dX1_append_0 rfl (lv_at hl 0 rfl) ?_
  refine va_get (D := (dC, dI)) (ci := 0) (v := .ref (g 1)) (C := RX1) (T := TX1) (N := 5) hx hb hts inX1 hown hG.1 hP 0 rfl rfl 0 (by decide) (hts (.fieldLink RX1 9 "WokenDrive$CommandText" "bytes" "[I") (List.mem_of_getElem? (i := 1) rfl)) (fun _ h9 => h9) rfl dX1_append_1 ?_
  refine lv_aload_n hx hb dX1_append_4 rfl (lv_at hl 0 rfl) ?_
  refine va_get (D := (dC, dI)) (ci := 0) (v := .int (ts_len x)) (C := RX1) (T := TX1) (N := 5) hx hb hts inX1 hown hG.1 hP 0 rfl rfl 2 (by decide) (hts (.fieldLink RX1 18 "WokenDrive$CommandText" "length" "I") (List.mem_of_getElem? (i := 2) rfl)) (fun _ h9 => h9) rfl dX1_append_5 ?_
  refine lv_iload_n hx hb dX1_append_8 rfl (lv_at hl 1 rfl) ?_
  obtain ⟨r1, hr1, hM⟩ := tbE hM
  obtain ⟨y_2, hy_2, hM⟩ := tbE hM
  refine wk_callM (ws' := (wTxt cI kk.1 g (ts_by_s x r1))) (va_runSN (As := [.ref (g 1), .int (ts_len x), .int p1]) (rest := []) ⟨hx, hb, hml, hown, hts⟩ (c_X6_put l dC dI cI cD cJ kk (g 1) 150 (ts_by x) (ts_len x) p1 (by decide) _ hr1.symm H) ⟨va_cnB 3 hts gX1_append_X6_put_n29 rfl rfl rfl (hG.2 _ (List.mem_of_getElem? (i := 3) rfl)) (hts (.initialized RX6) (List.mem_of_getElem? (i := 4) rfl)) (by decide +kernel) ⟨Nat.le_of_ble_eq_true rfl, Nat.le_of_ble_eq_true rfl⟩, hts (.static yX6_put) (List.mem_of_getElem? (i := 3) rfl), trivial⟩ (wk_preS hG hP hD [1] rfl rfl) rfl rfl hl.1 rfl (lv_room (Nat.le_of_ble_eq_true rfl)) dX1_append_9 ⟨Nat.le_of_ble_eq_true rfl, Nat.le_of_ble_eq_true rfl⟩) hP hD hS hA [1] [0, 2] [0, 2, 1] rfl rfl rfl (by decide) rfl rfl (fun H locs hP hD hS => ?_)
  have hP : va_P (dC, dI) vwCl (wTxt cI kk.1 g y_2) H := by rw [hy_2]; exact hP
  have hD : va_D A (wTxt cI kk.1 g y_2) := by rw [hy_2]; exact hD
  refine lv_aload_n hx hb dX1_append_12 rfl (lv_at hl 0 rfl) ?_
  refine lv_dup hx hb dX1_append_13 rfl ?_
  refine va_get (D := (dC, dI)) (ci := 0) (v := .int (ts_len y_2)) (C := RX1) (T := TX1) (N := 5) hx hb hts inX1 hown hG.1 hP 0 rfl rfl 2 (by decide) (hts (.fieldLink RX1 18 "WokenDrive$CommandText" "length" "I") (List.mem_of_getElem? (i := 2) rfl)) (fun _ h9 => h9) rfl dX1_append_14 ?_
  refine lv_iconst (v := (1 : Int32)) hx hb dX1_append_17 (by decide) ?_
  refine lv_iadd hx hb dX1_append_18 ?_
  obtain ⟨y_3, hy_3, hM⟩ := tbE hM
  refine va_put (D := (dC, dI)) (ci := 0) (v := .int ((ts_len y_2) + (1 : Int32))) (ty := .int) (C := RX1) (T := TX1) (N := 5) hx hb hts inX1 tyX1 tyX1_ok nmX1 hown hG.1 hP hD hS 0 rfl rfl 2 (by decide) (hts (.fieldLink RX1 18 "WokenDrive$CommandText" "length" "I") (List.mem_of_getElem? (i := 2) rfl)) (fun _ h9 => h9) rfl (by decide +kernel) rfl rfl (Nat.le_of_ble_eq_true rfl) dX1_append_19 (fun H locs hP hD hS => ?_)
  have hP : va_P (dC, dI) vwCl (wTxt cI kk.1 g y_3) H := by rw [hy_3]; exact hP
  have hD : va_D A (wTxt cI kk.1 g y_3) := by rw [hy_3]; exact hD
  refine lv_aload_n hx hb dX1_append_22 rfl (lv_at hl 0 rfl) ?_
  refine va_get (D := (dC, dI)) (ci := 0) (v := .int (ts_len y_3)) (C := RX1) (T := TX1) (N := 5) hx hb hts inX1 hown hG.1 hP 0 rfl rfl 2 (by decide) (hts (.fieldLink RX1 18 "WokenDrive$CommandText" "length" "I") (List.mem_of_getElem? (i := 2) rfl)) (fun _ h9 => h9) rfl dX1_append_23 ?_
  subst hM
  exact wk_retMi hx hb hr hlocks hQ rfl rfl hP hD hS dX1_append_26
set_option maxHeartbeats 4000000 in
set_option maxRecDepth 100000 in
theorem c_X1_empty (l : Launch) (dC : Nat → ClassId) (dI : Nat → Nat → Nat) (cI cD cJ : ClassId) (kk : wAd) (g : Nat → Nat) (x : TS) (out : Int32 × TS) (hM : M_X1_empty x = out) : CM l yX1_empty wsX1_empty ({ frames := 0, cells := 0, slots := 0, locals := 0 } : Room) dC dI (wTys cI cD cJ) [.ref (g 0)] (wTxt cI kk.1 g x) (some (.int out.1)) (wTxt cI kk.1 g out.2) 0 0 := by
  refine wk_enterM (cc := cX1_empty) (maxL := 2) (ret := (some .int)) (by decide) rfl (Nat.le_of_ble_eq_true rfl) ?_
  intro p e s m below meth c A Q ls hB hA hP hD hQ hl
  obtain ⟨hx, hb, hml, hr, hts, hown, hname, hlocks, hG⟩ := hB
  have hown : s.vm.findClass RX1 = some m.cls := hown
  have hS : va_S A s.heap s.heap [] := va_S.rf
  have hl : lv_has ls 2 [(0, .ref (g 0))] := hl
  have inX1 : ∀ w ∈ wsX10, w ∈ wsX1_empty := fun _ h => List.mem_cons_of_mem _ (List.mem_append_right _ h)
  obtain ⟨H, hH⟩ : ∃ z, z = s.heap := ⟨_, rfl⟩
  have hP : va_P (dC, dI) vwCl (wTxt cI kk.1 g x) H := by rw [hH]; exact hP
  have hS : va_S A s.heap H [] := by rw [hH]; exact hS
  refine wk_at hH ?_
  generalize ([] : List Loc) = locs at hS ⊢
  unfold M_X1_empty at hM
  refine lv_aload_n hx hb dX1_empty_0 rfl (lv_at hl 0 rfl) ?_
  refine va_get (D := (dC, dI)) (ci := 0) (v := .int (ts_len x)) (C := RX1) (T := TX1) (N := 5) hx hb hts inX1 hown hG.1 hP 0 rfl rfl 2 (by decide) (hts (.fieldLink RX1 18 "WokenDrive$CommandText" "length" "I") (List.mem_of_getElem? (i := 1) rfl)) (fun _ h9 => h9) rfl dX1_empty_1 ?_
  refine lv_istore_n (lv' := [(1, .int (ts_len x)), (0, .ref (g 0))]) hx hb dX1_empty_4 rfl hl (by decide) rfl (fun ls hl => ?_)
  refine lv_aload_n hx hb dX1_empty_5 rfl (lv_at hl 1 rfl) ?_
  refine lv_iconst (v := (0 : Int32)) hx hb dX1_empty_6 (by decide) ?_
  obtain ⟨y_1, hy_1, hM⟩ := tbE hM
  refine va_put (D := (dC, dI)) (ci := 0) (v := .int (0 : Int32)) (ty := .int) (C := RX1) (T := TX1) (N := 5) hx hb hts inX1 tyX1 tyX1_ok nmX1 hown hG.1 hP hD hS 0 rfl rfl 2 (by decide) (hts (.fieldLink RX1 18 "WokenDrive$CommandText" "length" "I") (List.mem_of_getElem? (i := 1) rfl)) (fun _ h9 => h9) rfl (by decide +kernel) rfl rfl (Nat.le_of_ble_eq_true rfl) dX1_empty_7 (fun H locs hP hD hS => ?_)
  have hP : va_P (dC, dI) vwCl (wTxt cI kk.1 g y_1) H := by rw [hy_1]; exact hP
  have hD : va_D A (wTxt cI kk.1 g y_1) := by rw [hy_1]; exact hD
  refine lv_iload_n hx hb dX1_empty_10 rfl (lv_at hl 0 rfl) ?_
  subst hM
  exact wk_retMi hx hb hr hlocks hQ rfl rfl hP hD hS dX1_empty_11
set_option maxHeartbeats 4000000 in
set_option maxRecDepth 100000 in
theorem c_X1_numberAt (l : Launch) (dC : Nat → ClassId) (dI : Nat → Nat → Nat) (cI cD cJ : ClassId) (kk : wAd) (g : Nat → Nat) (x : TS) (p1 : Int32) (out : Int32) (hM : M_X1_numberAt x p1 = out) : CP l yX1_numberAt wsX1_numberAt ({ frames := 1, cells := 0, slots := 0, locals := 21 } : Room) dC dI (wTys cI cD cJ) [.ref (g 0), .int p1] (wTxt cI kk.1 g x) (some (.int out)) := by
  refine wk_enterP (cc := cX1_numberAt) (maxL := 2) (ret := (some .int)) (by decide) rfl (Nat.le_of_ble_eq_true rfl) ?_
  intro p e s m below meth c A Q ls hB hP hD hA hQ hl
  obtain ⟨hx, hb, hml, hr, hts, hown, hname, hlocks, hG⟩ := hB
  have hown : s.vm.findClass RX1 = some m.cls := hown
  have hS : va_S A s.heap s.heap [] := va_S.rf
  have hl : lv_has ls 2 [(0, .ref (g 0)), (1, .int p1)] := hl
  have inX1 : ∀ w ∈ wsX10, w ∈ wsX1_numberAt := fun _ h => List.mem_cons_of_mem _ (List.mem_append_right _ h)
  generalize ([] : List Loc) = locs at hS ⊢
  unfold M_X1_numberAt at hM
  refine lv_aload_n hx hb dX1_numberAt_0 rfl (lv_at hl 0 rfl) ?_
  refine va_get (D := (dC, dI)) (ci := 0) (v := .ref (g 2)) (C := RX1) (T := TX1) (N := 5) hx hb hts inX1 hown hG.1 hP 0 rfl rfl 1 (by decide) (hts (.fieldLink RX1 15 "WokenDrive$CommandText" "numbers" "[I") (List.mem_of_getElem? (i := 1) rfl)) (fun _ h9 => h9) rfl dX1_numberAt_1 ?_
  refine lv_iload_n hx hb dX1_numberAt_4 rfl (lv_at hl 1 rfl) ?_
  refine wk_callP (va_runSN (As := [.ref (g 2), .int p1]) (rest := []) ⟨hx, hb, hml, hown, hts⟩ (c_X6_at l dC dI cI cD cJ kk (g 2) 4 (ts_nu x) p1 (by decide) _ rfl s.heap) ⟨va_cnB 2 hts gX1_numberAt_X6_at_n33 rfl rfl rfl (hG.2 _ (List.mem_of_getElem? (i := 4) rfl)) (hts (.initialized RX6) (List.mem_of_getElem? (i := 3) rfl)) (by decide +kernel) ⟨Nat.le_of_ble_eq_true rfl, Nat.le_of_ble_eq_true rfl⟩, hts (.static yX6_at) (List.mem_of_getElem? (i := 2) rfl), trivial⟩ (wk_preS hG hP hD [2] rfl rfl) rfl rfl hl.1 rfl (lv_room (Nat.le_of_ble_eq_true rfl)) dX1_numberAt_5 ⟨Nat.le_of_ble_eq_true rfl, Nat.le_of_ble_eq_true rfl⟩) hS (fun locs hS => ?_)
  subst hM
  exact wk_retPi hx hb hr hlocks hQ rfl rfl hS dX1_numberAt_8
set_option maxHeartbeats 4000000 in
set_option maxRecDepth 100000 in
theorem c_X1_rewind (l : Launch) (dC : Nat → ClassId) (dI : Nat → Nat → Nat) (cI cD cJ : ClassId) (kk : wAd) (g : Nat → Nat) (x : TS) (out : TS) (hM : M_X1_rewind x = out) : CM l yX1_rewind wsX1_rewind ({ frames := 0, cells := 0, slots := 0, locals := 0 } : Room) dC dI (wTys cI cD cJ) [.ref (g 0)] (wTxt cI kk.1 g x) none (wTxt cI kk.1 g out) 0 0 := by
  refine wk_enterM (cc := cX1_rewind) (maxL := 1) (ret := none) (by decide) rfl (Nat.le_of_ble_eq_true rfl) ?_
  intro p e s m below meth c A Q ls hB hA hP hD hQ hl
  obtain ⟨hx, hb, hml, hr, hts, hown, hname, hlocks, hG⟩ := hB
  have hown : s.vm.findClass RX1 = some m.cls := hown
  have hS : va_S A s.heap s.heap [] := va_S.rf
  have hl : lv_has ls 1 [(0, .ref (g 0))] := hl
  have inX1 : ∀ w ∈ wsX10, w ∈ wsX1_rewind := fun _ h => List.mem_cons_of_mem _ (List.mem_append_right _ h)
  obtain ⟨H, hH⟩ : ∃ z, z = s.heap := ⟨_, rfl⟩
  have hP : va_P (dC, dI) vwCl (wTxt cI kk.1 g x) H := by rw [hH]; exact hP
  have hS : va_S A s.heap H [] := by rw [hH]; exact hS
  refine wk_at hH ?_
  generalize ([] : List Loc) = locs at hS ⊢
  unfold M_X1_rewind at hM
  refine lv_aload_n hx hb dX1_rewind_0 rfl (lv_at hl 0 rfl) ?_
  refine lv_iconst (v := (0 : Int32)) hx hb dX1_rewind_1 (by decide) ?_
  refine va_put (D := (dC, dI)) (ci := 0) (v := .int (0 : Int32)) (ty := .int) (C := RX1) (T := TX1) (N := 5) hx hb hts inX1 tyX1 tyX1_ok nmX1 hown hG.1 hP hD hS 0 rfl rfl 3 (by decide) (hts (.fieldLink RX1 22 "WokenDrive$CommandText" "cursor" "I") (List.mem_of_getElem? (i := 1) rfl)) (fun _ h9 => h9) rfl (by decide +kernel) rfl rfl (Nat.le_of_ble_eq_true rfl) dX1_rewind_2 (fun H locs hP hD hS => ?_)
  have hP : va_P (dC, dI) vwCl (wTxt cI kk.1 g (ts_cur_s x (0 : Int32))) H := hP
  have hD : va_D A (wTxt cI kk.1 g (ts_cur_s x (0 : Int32))) := hD
  subst hM
  exact wk_retMv hx hb hr hlocks hQ rfl hP hD hS dX1_rewind_5
set_option maxHeartbeats 4000000 in
set_option maxRecDepth 100000 in
theorem c_X1_byteAt (l : Launch) (dC : Nat → ClassId) (dI : Nat → Nat → Nat) (cI cD cJ : ClassId) (kk : wAd) (g : Nat → Nat) (x : TS) (p1 : Int32) (out : Int32) (hM : M_X1_byteAt x p1 = out) : CP l yX1_byteAt wsX1_byteAt ({ frames := 1, cells := 0, slots := 0, locals := 21 } : Room) dC dI (wTys cI cD cJ) [.ref (g 0), .int p1] (wTxt cI kk.1 g x) (some (.int out)) := by
  refine wk_enterP (cc := cX1_byteAt) (maxL := 2) (ret := (some .int)) (by decide) rfl (Nat.le_of_ble_eq_true rfl) ?_
  intro p e s m below meth c A Q ls hB hP hD hA hQ hl
  obtain ⟨hx, hb, hml, hr, hts, hown, hname, hlocks, hG⟩ := hB
  have hown : s.vm.findClass RX1 = some m.cls := hown
  have hS : va_S A s.heap s.heap [] := va_S.rf
  have hl : lv_has ls 2 [(0, .ref (g 0)), (1, .int p1)] := hl
  have inX1 : ∀ w ∈ wsX10, w ∈ wsX1_byteAt := fun _ h => List.mem_cons_of_mem _ (List.mem_append_right _ h)
  generalize ([] : List Loc) = locs at hS ⊢
  have hB24 : ∀ (w0 : Int32) (locs : List Loc) (ls : Array Slot), M_X1_byteAt_24 x p1 w0 = out → va_S A s.heap s.heap locs → lv_has ls 2 [] → W p l e ({ frames := 1, cells := 0, slots := 0, locals := 21 } : Room) s m ([.ref (g 0), .int p1] : List Value).toArray below meth c s.heap locs 0 0 Q (F0 m 24 ls [.int w0]) := by
    intro w0 locs ls hM hS hl
    unfold M_X1_byteAt_24 at hM
    subst hM
    exact wk_retPi hx hb hr hlocks hQ rfl rfl hS dX1_byteAt_24
  have hB23 : ∀  (locs : List Loc) (ls : Array Slot), M_X1_byteAt_23 x p1 = out → va_S A s.heap s.heap locs → lv_has ls 2 [] → W p l e ({ frames := 1, cells := 0, slots := 0, locals := 21 } : Room) s m ([.ref (g 0), .int p1] : List Value).toArray below meth c s.heap locs 0 0 Q (F0 m 23 ls []) := by
    intro  locs ls hM hS hl
    unfold M_X1_byteAt_23 at hM
    refine lv_iconst (v := (-1 : Int32)) hx hb dX1_byteAt_23 (by decide) ?_
    exact hB24 (-1 : Int32)  _ _ hM hS (lv_sub hl [] rfl)
  unfold M_X1_byteAt at hM
  refine lv_iload_n hx hb dX1_byteAt_0 rfl (lv_at hl 1 rfl) ?_
  refine lv_if_lt (tgt := 23) hx hb dX1_byteAt_1 (by decide) (fun c1 => ?_) (fun c1 => ?_)
  · replace hM := (if_pos c1).symm.trans hM
    exact hB23   _ _ hM hS (lv_sub hl [] rfl)
  · replace hM := (if_neg c1).symm.trans hM
    refine lv_iload_n hx hb dX1_byteAt_4 rfl (lv_at hl 1 rfl) ?_
    refine lv_aload_n hx hb dX1_byteAt_5 rfl (lv_at hl 0 rfl) ?_
    refine va_get (D := (dC, dI)) (ci := 0) (v := .int (ts_len x)) (C := RX1) (T := TX1) (N := 5) hx hb hts inX1 hown hG.1 hP 0 rfl rfl 2 (by decide) (hts (.fieldLink RX1 18 "WokenDrive$CommandText" "length" "I") (List.mem_of_getElem? (i := 1) rfl)) (fun _ h9 => h9) rfl dX1_byteAt_6 ?_
    refine lv_icmp_ge (tgt := 23) hx hb dX1_byteAt_9 (by decide) (fun c2 => ?_) (fun c2 => ?_)
    · replace hM := (if_pos c2).symm.trans hM
      exact hB23   _ _ hM hS (lv_sub hl [] rfl)
    · replace hM := (if_neg c2).symm.trans hM
      refine lv_aload_n hx hb dX1_byteAt_12 rfl (lv_at hl 0 rfl) ?_
      refine va_get (D := (dC, dI)) (ci := 0) (v := .ref (g 1)) (C := RX1) (T := TX1) (N := 5) hx hb hts inX1 hown hG.1 hP 0 rfl rfl 0 (by decide) (hts (.fieldLink RX1 9 "WokenDrive$CommandText" "bytes" "[I") (List.mem_of_getElem? (i := 2) rfl)) (fun _ h9 => h9) rfl dX1_byteAt_13 ?_
      refine lv_iload_n hx hb dX1_byteAt_16 rfl (lv_at hl 1 rfl) ?_
      refine wk_callP (va_runSN (As := [.ref (g 1), .int p1]) (rest := []) ⟨hx, hb, hml, hown, hts⟩ (c_X6_at l dC dI cI cD cJ kk (g 1) 150 (ts_by x) p1 (by decide) _ rfl s.heap) ⟨va_cnB 2 hts gX1_byteAt_X6_at_n33 rfl rfl rfl (hG.2 _ (List.mem_of_getElem? (i := 4) rfl)) (hts (.initialized RX6) (List.mem_of_getElem? (i := 4) rfl)) (by decide +kernel) ⟨Nat.le_of_ble_eq_true rfl, Nat.le_of_ble_eq_true rfl⟩, hts (.static yX6_at) (List.mem_of_getElem? (i := 3) rfl), trivial⟩ (wk_preS hG hP hD [1] rfl rfl) rfl rfl hl.1 rfl (lv_room (Nat.le_of_ble_eq_true rfl)) dX1_byteAt_17 ⟨Nat.le_of_ble_eq_true rfl, Nat.le_of_ble_eq_true rfl⟩) hS (fun locs hS => ?_)
      refine lv_goto (tgt := 24) hx hb dX1_byteAt_20 (by decide) ?_
      exact hB24 (M_X6_at 150 (ts_by x) p1)  _ _ hM hS (lv_sub hl [] rfl)
set_option maxHeartbeats 4000000 in
set_option maxRecDepth 100000 in
theorem c_X1_skipSpaces (l : Launch) (dC : Nat → ClassId) (dI : Nat → Nat → Nat) (cI cD cJ : ClassId) (kk : wAd) (g : Nat → Nat) (x : TS) (out : TS) (hM : M_X1_skipSpaces x = some out) : CM l yX1_skipSpaces wsX1_skipSpaces ({ frames := 2, cells := 0, slots := 0, locals := 42 } : Room) dC dI (wTys cI cD cJ) [.ref (g 0)] (wTxt cI kk.1 g x) none (wTxt cI kk.1 g out) 0 0 := by
  refine wk_enterM (cc := cX1_skipSpaces) (maxL := 1) (ret := none) (by decide) rfl (Nat.le_of_ble_eq_true rfl) ?_
  intro p e s m below meth c A Q ls hB hA hP hD hQ hl
  obtain ⟨hx, hb, hml, hr, hts, hown, hname, hlocks, hG⟩ := hB
  have hown : s.vm.findClass RX1 = some m.cls := hown
  have hS : va_S A s.heap s.heap [] := va_S.rf
  have hl : lv_has ls 1 [(0, .ref (g 0))] := hl
  have inX1 : ∀ w ∈ wsX10, w ∈ wsX1_skipSpaces := fun _ h => List.mem_cons_of_mem _ (List.mem_append_right _ h)
  obtain ⟨H, hH⟩ : ∃ z, z = s.heap := ⟨_, rfl⟩
  have hP : va_P (dC, dI) vwCl (wTxt cI kk.1 g x) H := by rw [hH]; exact hP
  have hS : va_S A s.heap H [] := by rw [hH]; exact hS
  refine wk_at hH ?_
  generalize ([] : List Loc) = locs at hS ⊢
  have hB37 : ∀ (y0 : TS) (H : Heap) (locs : List Loc) (ls : Array Slot), M_X1_skipSpaces_37 x y0 = some out → va_P (dC, dI) vwCl (wTxt cI kk.1 g y0) H → va_D A (wTxt cI kk.1 g y0) → va_S A s.heap H locs → lv_has ls 1 [] → W p l e ({ frames := 2, cells := 0, slots := 0, locals := 42 } : Room) s m ([.ref (g 0)] : List Value).toArray below meth c H locs 0 0 Q (F0 m 37 ls []) := by
    intro y0 H locs ls hM hP hD hS hl
    unfold M_X1_skipSpaces_37 at hM
    replace hM := Option.some.inj hM
    subst hM
    exact wk_retMv hx hb hr hlocks hQ rfl hP hD hS dX1_skipSpaces_37
  have hL0 : ∀ (n0 : Nat) (y0 : TS) (H : Heap) (locs : List Loc) (ls : Array Slot), lpF (M_X1_skipSpaces_0s x) n0 (y0) = some out → va_P (dC, dI) vwCl (wTxt cI kk.1 g y0) H → va_D A (wTxt cI kk.1 g y0) → va_S A s.heap H locs → lv_has ls 1 [(0, .ref (g 0))] → W p l e ({ frames := 2, cells := 0, slots := 0, locals := 42 } : Room) s m ([.ref (g 0)] : List Value).toArray below meth c H locs 0 0 Q (F0 m 0 ls []) := by
    intro n0
    induction n0 with
    | zero => intro y0 H locs ls hM; exact lpF_0 hM
    | succ n0 ih0 =>
      intro y0 H locs ls hM hP hD hS hl
      replace hM : M_X1_skipSpaces_0s x (lpF (M_X1_skipSpaces_0s x) n0) (y0) = some out := hM
      unfold M_X1_skipSpaces_0s at hM
      try dsimp only at hM
      refine lv_aload_n hx hb dX1_skipSpaces_0 rfl (lv_at hl 0 rfl) ?_
      refine va_get (D := (dC, dI)) (ci := 0) (v := .int (ts_cur y0)) (C := RX1) (T := TX1) (N := 5) hx hb hts inX1 hown hG.1 hP 0 rfl rfl 3 (by decide) (hts (.fieldLink RX1 22 "WokenDrive$CommandText" "cursor" "I") (List.mem_of_getElem? (i := 1) rfl)) (fun _ h9 => h9) rfl dX1_skipSpaces_1 ?_
      refine lv_aload_n hx hb dX1_skipSpaces_4 rfl (lv_at hl 0 rfl) ?_
      refine va_get (D := (dC, dI)) (ci := 0) (v := .int (ts_len y0)) (C := RX1) (T := TX1) (N := 5) hx hb hts inX1 hown hG.1 hP 0 rfl rfl 2 (by decide) (hts (.fieldLink RX1 18 "WokenDrive$CommandText" "length" "I") (List.mem_of_getElem? (i := 2) rfl)) (fun _ h9 => h9) rfl dX1_skipSpaces_5 ?_
      refine lv_icmp_ge (tgt := 37) hx hb dX1_skipSpaces_8 (by decide) (fun c1 => ?_) (fun c1 => ?_)
      · replace hM := (if_pos c1).symm.trans hM
        exact hB37 y0 H _ _ hM hP hD hS (lv_sub hl [] rfl)
      · replace hM := (if_neg c1).symm.trans hM
        refine lv_aload_n hx hb dX1_skipSpaces_11 rfl (lv_at hl 0 rfl) ?_
        refine lv_aload_n hx hb dX1_skipSpaces_12 rfl (lv_at hl 0 rfl) ?_
        refine va_get (D := (dC, dI)) (ci := 0) (v := .int (ts_cur y0)) (C := RX1) (T := TX1) (N := 5) hx hb hts inX1 hown hG.1 hP 0 rfl rfl 3 (by decide) (hts (.fieldLink RX1 22 "WokenDrive$CommandText" "cursor" "I") (List.mem_of_getElem? (i := 1) rfl)) (fun _ h9 => h9) rfl dX1_skipSpaces_13 ?_
        refine wk_callP (va_runV (As := [.int (ts_cur y0)]) (rest := []) ⟨hx, hb, hml, hown, hts⟩ (c_X1_byteAt l dC dI cI cD cJ kk g y0 (ts_cur y0) _ rfl H) (cwV 1 hts gX1_skipSpaces_X1_byteAt rfl rfl rfl (by decide +kernel) ⟨Nat.le_of_ble_eq_true rfl, Nat.le_of_ble_eq_true rfl⟩) (wk_preV (ci := 0) (q0 := 0) hG hP hD [0, 1, 2] rfl rfl rfl rfl) rfl rfl hl.1 rfl (lv_room (Nat.le_of_ble_eq_true rfl)) dX1_skipSpaces_16 ⟨Nat.le_of_ble_eq_true rfl, Nat.le_of_ble_eq_true rfl⟩) hS (fun locs hS => ?_)
        refine lv_bipush (v := (32 : Int32)) hx hb dX1_skipSpaces_19 (by decide) ?_
        refine lv_icmp_ne (tgt := 37) hx hb dX1_skipSpaces_21 (by decide) (fun c2 => ?_) (fun c2 => ?_)
        · replace hM := (if_neg c2).symm.trans hM
          exact hB37 y0 H _ _ hM hP hD hS (lv_sub hl [] rfl)
        · replace hM := (if_pos c2).symm.trans hM
          refine lv_aload_n hx hb dX1_skipSpaces_24 rfl (lv_at hl 0 rfl) ?_
          refine lv_dup hx hb dX1_skipSpaces_25 rfl ?_
          refine va_get (D := (dC, dI)) (ci := 0) (v := .int (ts_cur y0)) (C := RX1) (T := TX1) (N := 5) hx hb hts inX1 hown hG.1 hP 0 rfl rfl 3 (by decide) (hts (.fieldLink RX1 22 "WokenDrive$CommandText" "cursor" "I") (List.mem_of_getElem? (i := 1) rfl)) (fun _ h9 => h9) rfl dX1_skipSpaces_26 ?_
          refine lv_iconst (v := (1 : Int32)) hx hb dX1_skipSpaces_29 (by decide) ?_
          refine lv_iadd hx hb dX1_skipSpaces_30 ?_
          obtain ⟨y_3, hy_3, hM⟩ := tbE hM
          refine va_put (D := (dC, dI)) (ci := 0) (v := .int ((ts_cur y0) + (1 : Int32))) (ty := .int) (C := RX1) (T := TX1) (N := 5) hx hb hts inX1 tyX1 tyX1_ok nmX1 hown hG.1 hP hD hS 0 rfl rfl 3 (by decide) (hts (.fieldLink RX1 22 "WokenDrive$CommandText" "cursor" "I") (List.mem_of_getElem? (i := 1) rfl)) (fun _ h9 => h9) rfl (by decide +kernel) rfl rfl (Nat.le_of_ble_eq_true rfl) dX1_skipSpaces_31 (fun H locs hP hD hS => ?_)
          have hP : va_P (dC, dI) vwCl (wTxt cI kk.1 g y_3) H := by rw [hy_3]; exact hP
          have hD : va_D A (wTxt cI kk.1 g y_3) := by rw [hy_3]; exact hD
          refine lv_goto (tgt := 0) hx hb dX1_skipSpaces_34 (by decide) ?_
          exact ih0 y_3 H _ _ hM hP hD hS (lv_sub hl [0] rfl)
  unfold M_X1_skipSpaces at hM
  exact hL0 400 x H _ _ hM hP hD hS (lv_sub hl [0] rfl)
set_option maxHeartbeats 4000000 in
set_option maxRecDepth 100000 in
theorem c_X1_isLetter (l : Launch) (dC : Nat → ClassId) (dI : Nat → Nat → Nat) (cI cD cJ : ClassId) (kk : wAd)  (p0 : Int32) (out : Bool) (hM : M_X1_isLetter p0 = out) : CP l yX1_isLetter wsX1_isLetter ({ frames := 0, cells := 0, slots := 0, locals := 0 } : Room) dC dI (wTys cI cD cJ) [.int p0] ([] : va_W) (some (.int (zI out))) := by
  refine wk_enterP (cc := cX1_isLetter) (maxL := 1) (ret := (some .boolean)) (by decide) rfl (Nat.le_of_ble_eq_true rfl) ?_
  intro p e s m below meth c A Q ls hB hP hD hA hQ hl
  obtain ⟨hx, hb, hml, hr, hts, hown, hname, hlocks, hG⟩ := hB
  have hown : s.vm.findClass RX1 = some m.cls := hown
  have hS : va_S A s.heap s.heap [] := va_S.rf
  have hl : lv_has ls 1 [(0, .int p0)] := hl
  generalize ([] : List Loc) = locs at hS ⊢
  have hB17 : ∀ (w0 : Bool) (locs : List Loc) (ls : Array Slot), M_X1_isLetter_17 p0 w0 = out → va_S A s.heap s.heap locs → lv_has ls 1 [] → W p l e ({ frames := 0, cells := 0, slots := 0, locals := 0 } : Room) s m ([.int p0] : List Value).toArray below meth c s.heap locs 0 0 Q (F0 m 17 ls [.int (zI w0)]) := by
    intro w0 locs ls hM hS hl
    unfold M_X1_isLetter_17 at hM
    subst hM
    exact wk_retPi hx hb hr hlocks hQ (zI_nar _) rfl hS dX1_isLetter_17
  have hB16 : ∀  (locs : List Loc) (ls : Array Slot), M_X1_isLetter_16 p0 = out → va_S A s.heap s.heap locs → lv_has ls 1 [] → W p l e ({ frames := 0, cells := 0, slots := 0, locals := 0 } : Room) s m ([.int p0] : List Value).toArray below meth c s.heap locs 0 0 Q (F0 m 16 ls []) := by
    intro  locs ls hM hS hl
    unfold M_X1_isLetter_16 at hM
    refine lv_iconst (v := (0 : Int32)) hx hb dX1_isLetter_16 (by decide) ?_
    exact hB17 false  _ _ hM hS (lv_sub hl [] rfl)
  unfold M_X1_isLetter at hM
  refine lv_iload_n hx hb dX1_isLetter_0 rfl (lv_at hl 0 rfl) ?_
  refine lv_bipush (v := (97 : Int32)) hx hb dX1_isLetter_1 (by decide) ?_
  refine lv_icmp_lt (tgt := 16) hx hb dX1_isLetter_3 (by decide) (fun c1 => ?_) (fun c1 => ?_)
  · replace hM := (if_pos c1).symm.trans hM
    exact hB16   _ _ hM hS (lv_sub hl [] rfl)
  · replace hM := (if_neg c1).symm.trans hM
    refine lv_iload_n hx hb dX1_isLetter_6 rfl (lv_at hl 0 rfl) ?_
    refine lv_bipush (v := (122 : Int32)) hx hb dX1_isLetter_7 (by decide) ?_
    refine lv_icmp_gt (tgt := 16) hx hb dX1_isLetter_9 (by decide) (fun c2 => ?_) (fun c2 => ?_)
    · replace hM := (if_pos c2).symm.trans hM
      exact hB16   _ _ hM hS (lv_sub hl [] rfl)
    · replace hM := (if_neg c2).symm.trans hM
      refine lv_iconst (v := (1 : Int32)) hx hb dX1_isLetter_12 (by decide) ?_
      refine lv_goto (tgt := 17) hx hb dX1_isLetter_13 (by decide) ?_
      exact hB17 true  _ _ hM hS (lv_sub hl [] rfl)
set_option maxHeartbeats 4000000 in
set_option maxRecDepth 100000 in
theorem c_X1_isDigit (l : Launch) (dC : Nat → ClassId) (dI : Nat → Nat → Nat) (cI cD cJ : ClassId) (kk : wAd)  (p0 : Int32) (out : Bool) (hM : M_X1_isDigit p0 = out) : CP l yX1_isDigit wsX1_isDigit ({ frames := 0, cells := 0, slots := 0, locals := 0 } : Room) dC dI (wTys cI cD cJ) [.int p0] ([] : va_W) (some (.int (zI out))) := by
  refine wk_enterP (cc := cX1_isDigit) (maxL := 1) (ret := (some .boolean)) (by decide) rfl (Nat.le_of_ble_eq_true rfl) ?_
  intro p e s m below meth c A Q ls hB hP hD hA hQ hl
  obtain ⟨hx, hb, hml, hr, hts, hown, hname, hlocks, hG⟩ := hB
  have hown : s.vm.findClass RX1 = some m.cls := hown
  have hS : va_S A s.heap s.heap [] := va_S.rf
  have hl : lv_has ls 1 [(0, .int p0)] := hl
  generalize ([] : List Loc) = locs at hS ⊢
  have hB17 : ∀ (w0 : Bool) (locs : List Loc) (ls : Array Slot), M_X1_isDigit_17 p0 w0 = out → va_S A s.heap s.heap locs → lv_has ls 1 [] → W p l e ({ frames := 0, cells := 0, slots := 0, locals := 0 } : Room) s m ([.int p0] : List Value).toArray below meth c s.heap locs 0 0 Q (F0 m 17 ls [.int (zI w0)]) := by
    intro w0 locs ls hM hS hl
    unfold M_X1_isDigit_17 at hM
    subst hM
    exact wk_retPi hx hb hr hlocks hQ (zI_nar _) rfl hS dX1_isDigit_17
  have hB16 : ∀  (locs : List Loc) (ls : Array Slot), M_X1_isDigit_16 p0 = out → va_S A s.heap s.heap locs → lv_has ls 1 [] → W p l e ({ frames := 0, cells := 0, slots := 0, locals := 0 } : Room) s m ([.int p0] : List Value).toArray below meth c s.heap locs 0 0 Q (F0 m 16 ls []) := by
    intro  locs ls hM hS hl
    unfold M_X1_isDigit_16 at hM
    refine lv_iconst (v := (0 : Int32)) hx hb dX1_isDigit_16 (by decide) ?_
    exact hB17 false  _ _ hM hS (lv_sub hl [] rfl)
  unfold M_X1_isDigit at hM
  refine lv_iload_n hx hb dX1_isDigit_0 rfl (lv_at hl 0 rfl) ?_
  refine lv_bipush (v := (48 : Int32)) hx hb dX1_isDigit_1 (by decide) ?_
  refine lv_icmp_lt (tgt := 16) hx hb dX1_isDigit_3 (by decide) (fun c1 => ?_) (fun c1 => ?_)
  · replace hM := (if_pos c1).symm.trans hM
    exact hB16   _ _ hM hS (lv_sub hl [] rfl)
  · replace hM := (if_neg c1).symm.trans hM
    refine lv_iload_n hx hb dX1_isDigit_6 rfl (lv_at hl 0 rfl) ?_
    refine lv_bipush (v := (57 : Int32)) hx hb dX1_isDigit_7 (by decide) ?_
    refine lv_icmp_gt (tgt := 16) hx hb dX1_isDigit_9 (by decide) (fun c2 => ?_) (fun c2 => ?_)
    · replace hM := (if_pos c2).symm.trans hM
      exact hB16   _ _ hM hS (lv_sub hl [] rfl)
    · replace hM := (if_neg c2).symm.trans hM
      refine lv_iconst (v := (1 : Int32)) hx hb dX1_isDigit_12 (by decide) ?_
      refine lv_goto (tgt := 17) hx hb dX1_isDigit_13 (by decide) ?_
      exact hB17 true  _ _ hM hS (lv_sub hl [] rfl)
set_option maxHeartbeats 4000000 in
set_option maxRecDepth 100000 in
theorem c_X1_readNumber (l : Launch) (dC : Nat → ClassId) (dI : Nat → Nat → Nat) (cI cD cJ : ClassId) (kk : wAd) (g : Nat → Nat) (x : TS) (p1 : Int32) (out : Bool × TS) (hM : M_X1_readNumber x p1 = some out) : CM l yX1_readNumber wsX1_readNumber ({ frames := 3, cells := 0, slots := 0, locals := 62 } : Room) dC dI (wTys cI cD cJ) [.ref (g 0), .int p1] (wTxt cI kk.1 g x) (some (.int (zI out.1))) (wTxt cI kk.1 g out.2) 0 0 := by
  refine wk_enterM (cc := cX1_readNumber) (maxL := 4) (ret := (some .boolean)) (by decide) rfl (Nat.le_of_ble_eq_true rfl) ?_
  intro p e s m below meth c A Q ls hB hA hP hD hQ hl
  obtain ⟨hx, hb, hml, hr, hts, hown, hname, hlocks, hG⟩ := hB
  have hown : s.vm.findClass RX1 = some m.cls := hown
  have hS : va_S A s.heap s.heap [] := va_S.rf
  have hl : lv_has ls 4 [(0, .ref (g 0)), (1, .int p1)] := hl
  have inX1 : ∀ w ∈ wsX10, w ∈ wsX1_readNumber := fun _ h => List.mem_cons_of_mem _ (List.mem_append_right _ h)
  obtain ⟨H, hH⟩ : ∃ z, z = s.heap := ⟨_, rfl⟩
  have hP : va_P (dC, dI) vwCl (wTxt cI kk.1 g x) H := by rw [hH]; exact hP
  have hS : va_S A s.heap H [] := by rw [hH]; exact hS
  refine wk_at hH ?_
  generalize ([] : List Loc) = locs at hS ⊢
  have hB93 : ∀ (w0 : Bool) (y0 : TS) (H : Heap) (locs : List Loc) (ls : Array Slot), M_X1_readNumber_93 x p1 w0 y0 = some out → va_P (dC, dI) vwCl (wTxt cI kk.1 g y0) H → va_D A (wTxt cI kk.1 g y0) → va_S A s.heap H locs → lv_has ls 4 [] → W p l e ({ frames := 3, cells := 0, slots := 0, locals := 62 } : Room) s m ([.ref (g 0), .int p1] : List Value).toArray below meth c H locs 0 0 Q (F0 m 93 ls [.int (zI w0)]) := by
    intro w0 y0 H locs ls hM hP hD hS hl
    unfold M_X1_readNumber_93 at hM
    replace hM := Option.some.inj hM
    subst hM
    exact wk_retMi hx hb hr hlocks hQ (zI_nar _) rfl hP hD hS dX1_readNumber_93
  have hB75 : ∀ (u2 : Int32) (u3 : Int32) (y0 : TS) (H : Heap) (locs : List Loc) (ls : Array Slot), M_X1_readNumber_75 x p1 u2 u3 y0 = some out → va_P (dC, dI) vwCl (wTxt cI kk.1 g y0) H → va_D A (wTxt cI kk.1 g y0) → va_S A s.heap H locs → lv_has ls 4 [(0, .ref (g 0)), (1, .int p1), (2, .int u2), (3, .int u3)] → W p l e ({ frames := 3, cells := 0, slots := 0, locals := 62 } : Room) s m ([.ref (g 0), .int p1] : List Value).toArray below meth c H locs 0 0 Q (F0 m 75 ls []) := by
    intro u2 u3 y0 H locs ls hM hP hD hS hl
    unfold M_X1_readNumber_75 at hM
    refine lv_aload_n hx hb dX1_readNumber_75 rfl (lv_at hl 0 rfl) ?_
    refine va_get (D := (dC, dI)) (ci := 0) (v := .ref (g 2)) (C := RX1) (T := TX1) (N := 5) hx hb hts inX1 hown hG.1 hP 0 rfl rfl 1 (by decide) (hts (.fieldLink RX1 15 "WokenDrive$CommandText" "numbers" "[I") (List.mem_of_getElem? (i := 2) rfl)) (fun _ h9 => h9) rfl dX1_readNumber_76 ?_
    refine lv_iload_n hx hb dX1_readNumber_79 rfl (lv_at hl 1 rfl) ?_
    refine lv_iload_n hx hb dX1_readNumber_80 rfl (lv_at hl 3 rfl) ?_
    obtain ⟨r1, hr1, hM⟩ := tbE hM
    obtain ⟨y_2, hy_2, hM⟩ := tbE hM
    refine wk_callM (ws' := (wTxt cI kk.1 g (ts_nu_s y0 r1))) (va_runSN (As := [.ref (g 2), .int p1, .int u3]) (rest := []) ⟨hx, hb, hml, hown, hts⟩ (c_X6_put l dC dI cI cD cJ kk (g 2) 4 (ts_nu y0) p1 u3 (by decide) _ hr1.symm H) ⟨va_cnB 3 hts gX1_readNumber_X6_put_n29 rfl rfl rfl (hG.2 _ (List.mem_of_getElem? (i := 3) rfl)) (hts (.initialized RX6) (List.mem_of_getElem? (i := 11) rfl)) (by decide +kernel) ⟨Nat.le_of_ble_eq_true rfl, Nat.le_of_ble_eq_true rfl⟩, hts (.static yX6_put) (List.mem_of_getElem? (i := 20) rfl), trivial⟩ (wk_preS hG hP hD [2] rfl rfl) rfl rfl hl.1 rfl (lv_room (Nat.le_of_ble_eq_true rfl)) dX1_readNumber_81 ⟨Nat.le_of_ble_eq_true rfl, Nat.le_of_ble_eq_true rfl⟩) hP hD hS hA [2] [0, 1] [0, 1, 2] rfl rfl rfl (by decide) rfl rfl (fun H locs hP hD hS => ?_)
    have hP : va_P (dC, dI) vwCl (wTxt cI kk.1 g y_2) H := by rw [hy_2]; exact hP
    have hD : va_D A (wTxt cI kk.1 g y_2) := by rw [hy_2]; exact hD
    refine lv_iload_n hx hb dX1_readNumber_84 rfl (lv_at hl 2 rfl) ?_
    refine lv_if_le (tgt := 92) hx hb dX1_readNumber_85 (by decide) (fun c3 => ?_) (fun c3 => ?_)
    · replace hM := (if_pos c3).symm.trans hM
      refine lv_iconst (v := (0 : Int32)) hx hb dX1_readNumber_92 (by decide) ?_
      exact hB93 false y_2 H _ _ hM hP hD hS (lv_sub hl [] rfl)
    · replace hM := (if_neg c3).symm.trans hM
      refine lv_iconst (v := (1 : Int32)) hx hb dX1_readNumber_88 (by decide) ?_
      refine lv_goto (tgt := 93) hx hb dX1_readNumber_89 (by decide) ?_
      exact hB93 true y_2 H _ _ hM hP hD hS (lv_sub hl [] rfl)
  have hL23 : ∀ (n23 : Nat) (u2 : Int32) (u3 : Int32) (y0 : TS) (H : Heap) (locs : List Loc) (ls : Array Slot), lpF (M_X1_readNumber_23s x p1) n23 (u2, u3, y0) = some out → va_P (dC, dI) vwCl (wTxt cI kk.1 g y0) H → va_D A (wTxt cI kk.1 g y0) → va_S A s.heap H locs → lv_has ls 4 [(0, .ref (g 0)), (1, .int p1), (2, .int u2), (3, .int u3)] → W p l e ({ frames := 3, cells := 0, slots := 0, locals := 62 } : Room) s m ([.ref (g 0), .int p1] : List Value).toArray below meth c H locs 0 0 Q (F0 m 23 ls []) := by
    intro n23
    induction n23 with
    | zero => intro u2 u3 y0 H locs ls hM; exact lpF_0 hM
    | succ n23 ih23 =>
      intro u2 u3 y0 H locs ls hM hP hD hS hl
      replace hM : M_X1_readNumber_23s x p1 (lpF (M_X1_readNumber_23s x p1) n23) (u2, u3, y0) = some out := hM
      unfold M_X1_readNumber_23s at hM
      try dsimp only at hM
      refine lv_iload_n hx hb dX1_readNumber_23 rfl (lv_at hl 2 rfl) ?_
      refine lv_iconst (v := (3 : Int32)) hx hb dX1_readNumber_24 (by decide) ?_
      refine lv_icmp_ge (tgt := 75) hx hb dX1_readNumber_25 (by decide) (fun c1 => ?_) (fun c1 => ?_)
      · replace hM := (if_pos c1).symm.trans hM
        exact hB75 u2 u3 y0 H _ _ hM hP hD hS (lv_sub hl [0, 1, 2, 3] rfl)
      · replace hM := (if_neg c1).symm.trans hM
        refine lv_aload_n hx hb dX1_readNumber_28 rfl (lv_at hl 0 rfl) ?_
        refine lv_aload_n hx hb dX1_readNumber_29 rfl (lv_at hl 0 rfl) ?_
        refine va_get (D := (dC, dI)) (ci := 0) (v := .int (ts_cur y0)) (C := RX1) (T := TX1) (N := 5) hx hb hts inX1 hown hG.1 hP 0 rfl rfl 3 (by decide) (hts (.fieldLink RX1 22 "WokenDrive$CommandText" "cursor" "I") (List.mem_of_getElem? (i := 1) rfl)) (fun _ h9 => h9) rfl dX1_readNumber_30 ?_
        refine wk_callP (va_runV (As := [.int (ts_cur y0)]) (rest := []) ⟨hx, hb, hml, hown, hts⟩ (c_X1_byteAt l dC dI cI cD cJ kk g y0 (ts_cur y0) _ rfl H) (cwV 1 hts gX1_readNumber_X1_byteAt rfl rfl rfl (by decide +kernel) ⟨Nat.le_of_ble_eq_true rfl, Nat.le_of_ble_eq_true rfl⟩) (wk_preV (ci := 0) (q0 := 0) hG hP hD [0, 1, 2] rfl rfl rfl rfl) rfl rfl hl.1 rfl (lv_room (Nat.le_of_ble_eq_true rfl)) dX1_readNumber_33 ⟨Nat.le_of_ble_eq_true rfl, Nat.le_of_ble_eq_true rfl⟩) hS (fun locs hS => ?_)
        refine wk_callP (va_runS (As := [.int (M_X1_byteAt y0 (ts_cur y0))]) (rest := []) ⟨hx, hb, hml, hown, hts⟩ (c_X1_isDigit l dC dI cI cD cJ kk  (M_X1_byteAt y0 (ts_cur y0)) _ rfl H) (va_cwS 1 hts gX1_readNumber_X1_isDigit rfl rfl rfl (by decide +kernel) ⟨Nat.le_of_ble_eq_true rfl, Nat.le_of_ble_eq_true rfl⟩) (wk_preS hG hP hD [] rfl rfl) rfl rfl hl.1 rfl (lv_room (Nat.le_of_ble_eq_true rfl)) dX1_readNumber_36 ⟨Nat.le_of_ble_eq_true rfl, Nat.le_of_ble_eq_true rfl⟩) hS (fun locs hS => ?_)
        refine lv_if_eq (tgt := 75) hx hb dX1_readNumber_39 (by decide) (fun c2 => ?_) (fun c2 => ?_)
        · replace hM := (if_pos c2).symm.trans hM
          exact hB75 u2 u3 y0 H _ _ hM hP hD hS (lv_sub hl [0, 1, 2, 3] rfl)
        · replace hM := (if_neg c2).symm.trans hM
          refine lv_bipush (v := (10 : Int32)) hx hb dX1_readNumber_42 (by decide) ?_
          refine lv_iload_n hx hb dX1_readNumber_44 rfl (lv_at hl 3 rfl) ?_
          refine lv_imul hx hb dX1_readNumber_45 ?_
          refine lv_aload_n hx hb dX1_readNumber_46 rfl (lv_at hl 0 rfl) ?_
          refine lv_aload_n hx hb dX1_readNumber_47 rfl (lv_at hl 0 rfl) ?_
          refine va_get (D := (dC, dI)) (ci := 0) (v := .int (ts_cur y0)) (C := RX1) (T := TX1) (N := 5) hx hb hts inX1 hown hG.1 hP 0 rfl rfl 3 (by decide) (hts (.fieldLink RX1 22 "WokenDrive$CommandText" "cursor" "I") (List.mem_of_getElem? (i := 1) rfl)) (fun _ h9 => h9) rfl dX1_readNumber_48 ?_
          refine wk_callP (va_runV (As := [.int (ts_cur y0)]) (rest := [.int ((10 : Int32) * u3)]) ⟨hx, hb, hml, hown, hts⟩ (c_X1_byteAt l dC dI cI cD cJ kk g y0 (ts_cur y0) _ rfl H) (cwV 1 hts gX1_readNumber_X1_byteAt rfl rfl rfl (by decide +kernel) ⟨Nat.le_of_ble_eq_true rfl, Nat.le_of_ble_eq_true rfl⟩) (wk_preV (ci := 0) (q0 := 0) hG hP hD [0, 1, 2] rfl rfl rfl rfl) rfl rfl hl.1 rfl (lv_room (Nat.le_of_ble_eq_true rfl)) dX1_readNumber_51 ⟨Nat.le_of_ble_eq_true rfl, Nat.le_of_ble_eq_true rfl⟩) hS (fun locs hS => ?_)
          refine lv_iadd hx hb dX1_readNumber_54 ?_
          refine lv_bipush (v := (48 : Int32)) hx hb dX1_readNumber_55 (by decide) ?_
          refine lv_isub hx hb dX1_readNumber_57 ?_
          refine lv_istore_n (lv' := [(3, .int ((((10 : Int32) * u3) + (M_X1_byteAt y0 (ts_cur y0))) - (48 : Int32))), (0, .ref (g 0)), (1, .int p1), (2, .int u2)]) hx hb dX1_readNumber_58 rfl hl (by decide) rfl (fun ls hl => ?_)
          refine lv_iinc (v := (u2 + 1)) (lv' := [(2, .int (u2 + 1)), (3, .int ((((10 : Int32) * u3) + (M_X1_byteAt y0 (ts_cur y0))) - (48 : Int32))), (0, .ref (g 0)), (1, .int p1)]) hx hb dX1_readNumber_59 hl (k := 3) rfl rfl (by decide) rfl (fun ls hl => ?_)
          refine lv_aload_n hx hb dX1_readNumber_62 rfl (lv_at hl 2 rfl) ?_
          refine lv_dup hx hb dX1_readNumber_63 rfl ?_
          refine va_get (D := (dC, dI)) (ci := 0) (v := .int (ts_cur y0)) (C := RX1) (T := TX1) (N := 5) hx hb hts inX1 hown hG.1 hP 0 rfl rfl 3 (by decide) (hts (.fieldLink RX1 22 "WokenDrive$CommandText" "cursor" "I") (List.mem_of_getElem? (i := 1) rfl)) (fun _ h9 => h9) rfl dX1_readNumber_64 ?_
          refine lv_iconst (v := (1 : Int32)) hx hb dX1_readNumber_67 (by decide) ?_
          refine lv_iadd hx hb dX1_readNumber_68 ?_
          obtain ⟨y_3, hy_3, hM⟩ := tbE hM
          refine va_put (D := (dC, dI)) (ci := 0) (v := .int ((ts_cur y0) + (1 : Int32))) (ty := .int) (C := RX1) (T := TX1) (N := 5) hx hb hts inX1 tyX1 tyX1_ok nmX1 hown hG.1 hP hD hS 0 rfl rfl 3 (by decide) (hts (.fieldLink RX1 22 "WokenDrive$CommandText" "cursor" "I") (List.mem_of_getElem? (i := 1) rfl)) (fun _ h9 => h9) rfl (by decide +kernel) rfl rfl (Nat.le_of_ble_eq_true rfl) dX1_readNumber_69 (fun H locs hP hD hS => ?_)
          have hP : va_P (dC, dI) vwCl (wTxt cI kk.1 g y_3) H := by rw [hy_3]; exact hP
          have hD : va_D A (wTxt cI kk.1 g y_3) := by rw [hy_3]; exact hD
          refine lv_goto (tgt := 23) hx hb dX1_readNumber_72 (by decide) ?_
          exact ih23 (u2 + 1) ((((10 : Int32) * u3) + (M_X1_byteAt y0 (ts_cur y0))) - (48 : Int32)) y_3 H _ _ hM hP hD hS (lv_sub hl [2, 3, 0, 1] rfl)
  unfold M_X1_readNumber at hM
  refine lv_aload_n hx hb dX1_readNumber_0 rfl (lv_at hl 0 rfl) ?_
  refine lv_aload_n hx hb dX1_readNumber_1 rfl (lv_at hl 0 rfl) ?_
  refine va_get (D := (dC, dI)) (ci := 0) (v := .int (ts_cur x)) (C := RX1) (T := TX1) (N := 5) hx hb hts inX1 hown hG.1 hP 0 rfl rfl 3 (by decide) (hts (.fieldLink RX1 22 "WokenDrive$CommandText" "cursor" "I") (List.mem_of_getElem? (i := 1) rfl)) (fun _ h9 => h9) rfl dX1_readNumber_2 ?_
  refine wk_callP (va_runV (As := [.int (ts_cur x)]) (rest := []) ⟨hx, hb, hml, hown, hts⟩ (c_X1_byteAt l dC dI cI cD cJ kk g x (ts_cur x) _ rfl H) (cwV 1 hts gX1_readNumber_X1_byteAt rfl rfl rfl (by decide +kernel) ⟨Nat.le_of_ble_eq_true rfl, Nat.le_of_ble_eq_true rfl⟩) (wk_preV (ci := 0) (q0 := 0) hG hP hD [0, 1, 2] rfl rfl rfl rfl) rfl rfl hl.1 rfl (lv_room (Nat.le_of_ble_eq_true rfl)) dX1_readNumber_5 ⟨Nat.le_of_ble_eq_true rfl, Nat.le_of_ble_eq_true rfl⟩) hS (fun locs hS => ?_)
  refine lv_bipush (v := (32 : Int32)) hx hb dX1_readNumber_8 (by decide) ?_
  refine lv_icmp_eq (tgt := 15) hx hb dX1_readNumber_10 (by decide) (fun c1 => ?_) (fun c1 => ?_)
  · replace hM := (if_pos c1).symm.trans hM
    refine lv_aload_n hx hb dX1_readNumber_15 rfl (lv_at hl 0 rfl) ?_
    obtain ⟨r2, hr2, hM⟩ := ob hM
    refine wk_callM (ws' := (wTxt cI kk.1 g r2)) (va_runV (As := []) (rest := []) ⟨hx, hb, hml, hown, hts⟩ (c_X1_skipSpaces l dC dI cI cD cJ kk g x _ hr2 H) (cwV 0 hts gX1_readNumber_X1_skipSpaces rfl rfl rfl (by decide +kernel) ⟨Nat.le_of_ble_eq_true rfl, Nat.le_of_ble_eq_true rfl⟩) (wk_preV (ci := 0) (q0 := 0) hG hP hD [0, 1, 2] rfl rfl rfl rfl) rfl rfl hl.1 rfl (lv_room (Nat.le_of_ble_eq_true rfl)) dX1_readNumber_16 ⟨Nat.le_of_ble_eq_true rfl, Nat.le_of_ble_eq_true rfl⟩) hP hD hS hA [0, 1, 2] [] [0, 1, 2] rfl rfl rfl (by decide) rfl rfl (fun H locs hP hD hS => ?_)
    refine lv_iconst (v := (0 : Int32)) hx hb dX1_readNumber_19 (by decide) ?_
    refine lv_istore_n (lv' := [(2, .int (0 : Int32)), (0, .ref (g 0)), (1, .int p1)]) hx hb dX1_readNumber_20 rfl hl (by decide) rfl (fun ls hl => ?_)
    refine lv_iconst (v := (0 : Int32)) hx hb dX1_readNumber_21 (by decide) ?_
    refine lv_istore_n (lv' := [(3, .int (0 : Int32)), (2, .int (0 : Int32)), (0, .ref (g 0)), (1, .int p1)]) hx hb dX1_readNumber_22 rfl hl (by decide) rfl (fun ls hl => ?_)
    exact hL23 64 (0 : Int32) (0 : Int32) r2 H _ _ hM hP hD hS (lv_sub hl [2, 3, 1, 0] rfl)
  · replace hM := (if_neg c1).symm.trans hM
    refine lv_iconst (v := (0 : Int32)) hx hb dX1_readNumber_13 (by decide) ?_
    replace hM := Option.some.inj hM
    subst hM
    exact wk_retMi hx hb hr hlocks hQ rfl rfl hP hD hS dX1_readNumber_14
set_option maxHeartbeats 4000000 in
set_option maxRecDepth 100000 in
theorem c_X1_standsBetween (l : Launch) (dC : Nat → ClassId) (dI : Nat → Nat → Nat) (cI cD cJ : ClassId) (kk : wAd) (g : Nat → Nat) (x : TS) (p1 : Nat) (p2 : Int32) (p3 : Int32) (hp1 : p1 < 10) (out : Bool) (hM : M_X1_standsBetween x p1 p2 p3 = some out) : CPT kk l yX1_standsBetween wsX1_standsBetween ({ frames := 4, cells := 0, slots := 0, locals := 85 } : Room) dC dI (wTys cI cD cJ) [.ref (g 0), .ref (kk.2.1 p1), .int p2, .int p3] (wTxt cI kk.1 g x) (some (.int (zI out))) := by
  refine wk_enterPT (cc := cX1_standsBetween) (maxL := 5) (ret := (some .boolean)) (by decide) rfl (Nat.le_of_ble_eq_true rfl) ?_
  intro p e s m below meth c A Q ls hB hT hP hD hA hQ hl
  obtain ⟨hx, hb, hml, hr, hts, hown, hname, hlocks, hG⟩ := hB
  have hown : s.vm.findClass RX1 = some m.cls := hown
  have hS : va_S A s.heap s.heap [] := va_S.rf
  have hl : lv_has ls 5 [(0, .ref (g 0)), (1, .ref (kk.2.1 p1)), (2, .int p2), (3, .int p3)] := hl
  generalize ([] : List Loc) = locs at hS ⊢
  have hL15 : ∀ (n15 : Nat) (u4 : Int32) (locs : List Loc) (ls : Array Slot), lpF (M_X1_standsBetween_15s x p1 p2 p3) n15 (u4) = some out → va_S A s.heap s.heap locs → lv_has ls 5 [(0, .ref (g 0)), (1, .ref (kk.2.1 p1)), (2, .int p2), (4, .int u4)] → W p l e ({ frames := 4, cells := 0, slots := 0, locals := 85 } : Room) s m ([.ref (g 0), .ref (kk.2.1 p1), .int p2, .int p3] : List Value).toArray below meth c s.heap locs 0 0 Q (F0 m 15 ls []) := by
    intro n15
    induction n15 with
    | zero => intro u4 locs ls hM; exact lpF_0 hM
    | succ n15 ih15 =>
      intro u4 locs ls hM hS hl
      replace hM : M_X1_standsBetween_15s x p1 p2 p3 (lpF (M_X1_standsBetween_15s x p1 p2 p3) n15) (u4) = some out := hM
      unfold M_X1_standsBetween_15s at hM
      try dsimp only at hM
      refine lv_iload hx hb dX1_standsBetween_15 (lv_at hl 3 rfl) ?_
      refine lv_aload_n hx hb dX1_standsBetween_17 rfl (lv_at hl 1 rfl) ?_
      refine wk_callP (va_runV (As := []) (rest := [.int u4]) ⟨hx, hb, hml, hown, hts⟩ (c_jlen l dC dI cI cD cJ kk p1 hp1 s.heap) (cwV 0 hts gX1_standsBetween_J0_length_8abf5 rfl rfl rfl (by decide +kernel) ⟨Nat.le_of_ble_eq_true rfl, Nat.le_of_ble_eq_true rfl⟩) (wk_preVK hG hP hD hT hS (hT.2.2.1.1 p1 hp1).1 (fun _ h9 => h9.elim)) rfl rfl hl.1 rfl (lv_room (Nat.le_of_ble_eq_true rfl)) dX1_standsBetween_18 ⟨Nat.le_of_ble_eq_true rfl, Nat.le_of_ble_eq_true rfl⟩) hS (fun locs hS => ?_)
      refine lv_icmp_ge (tgt := 49) hx hb dX1_standsBetween_21 (by decide) (fun c1 => ?_) (fun c1 => ?_)
      · replace hM := (if_pos c1).symm.trans hM
        refine lv_iconst (v := (1 : Int32)) hx hb dX1_standsBetween_49 (by decide) ?_
        replace hM := Option.some.inj hM
        subst hM
        exact wk_retPi hx hb hr hlocks hQ rfl rfl hS dX1_standsBetween_50
      · replace hM := (if_neg c1).symm.trans hM
        refine lv_aload_n hx hb dX1_standsBetween_24 rfl (lv_at hl 1 rfl) ?_
        refine lv_iload hx hb dX1_standsBetween_25 (lv_at hl 3 rfl) ?_
        obtain ⟨r2, hr2, hM⟩ := ob hM
        refine wk_callP (va_runV (As := [.int u4]) (rest := []) ⟨hx, hb, hml, hown, hts⟩ (c_jchr l dC dI cI cD cJ kk p1 hp1 u4 _ hr2 s.heap) (cwV 1 hts gX1_standsBetween_J0_charAt_5068e rfl rfl rfl (by decide +kernel) ⟨Nat.le_of_ble_eq_true rfl, Nat.le_of_ble_eq_true rfl⟩) (wk_preVK hG hP hD hT hS (hT.2.2.1.1 p1 hp1).1 (fun _ h9 => h9.elim)) rfl rfl hl.1 rfl (lv_room (Nat.le_of_ble_eq_true rfl)) dX1_standsBetween_27 ⟨Nat.le_of_ble_eq_true rfl, Nat.le_of_ble_eq_true rfl⟩) hS (fun locs hS => ?_)
        refine lv_aload_n hx hb dX1_standsBetween_30 rfl (lv_at hl 0 rfl) ?_
        refine lv_iload_n hx hb dX1_standsBetween_31 rfl (lv_at hl 2 rfl) ?_
        refine lv_iload hx hb dX1_standsBetween_32 (lv_at hl 3 rfl) ?_
        refine lv_iadd hx hb dX1_standsBetween_34 ?_
        refine wk_callP (va_runV (As := [.int (p2 + u4)]) (rest := [.int r2]) ⟨hx, hb, hml, hown, hts⟩ (c_X1_byteAt l dC dI cI cD cJ kk g x (p2 + u4) _ rfl s.heap) (cwV 1 hts gX1_standsBetween_X1_byteAt rfl rfl rfl (by decide +kernel) ⟨Nat.le_of_ble_eq_true rfl, Nat.le_of_ble_eq_true rfl⟩) (wk_preV (ci := 0) (q0 := 0) hG hP hD [0, 1, 2] rfl rfl rfl rfl) rfl rfl hl.1 rfl (lv_room (Nat.le_of_ble_eq_true rfl)) dX1_standsBetween_35 ⟨Nat.le_of_ble_eq_true rfl, Nat.le_of_ble_eq_true rfl⟩) hS (fun locs hS => ?_)
        refine lv_icmp_eq (tgt := 43) hx hb dX1_standsBetween_38 (by decide) (fun c3 => ?_) (fun c3 => ?_)
        · replace hM := (if_pos c3).symm.trans hM
          refine lv_iinc (v := (u4 + 1)) (lv' := [(4, .int (u4 + 1)), (0, .ref (g 0)), (1, .ref (kk.2.1 p1)), (2, .int p2)]) hx hb dX1_standsBetween_43 hl (k := 3) rfl rfl (by decide) rfl (fun ls hl => ?_)
          refine lv_goto (tgt := 15) hx hb dX1_standsBetween_46 (by decide) ?_
          exact ih15 (u4 + 1)  _ _ hM hS (lv_sub hl [1, 2, 3, 0] rfl)
        · replace hM := (if_neg c3).symm.trans hM
          refine lv_iconst (v := (0 : Int32)) hx hb dX1_standsBetween_41 (by decide) ?_
          replace hM := Option.some.inj hM
          subst hM
          exact wk_retPi hx hb hr hlocks hQ rfl rfl hS dX1_standsBetween_42
  unfold M_X1_standsBetween at hM
  refine lv_aload_n hx hb dX1_standsBetween_0 rfl (lv_at hl 1 rfl) ?_
  refine wk_callP (va_runV (As := []) (rest := []) ⟨hx, hb, hml, hown, hts⟩ (c_jlen l dC dI cI cD cJ kk p1 hp1 s.heap) (cwV 0 hts gX1_standsBetween_J0_length_8abf5 rfl rfl rfl (by decide +kernel) ⟨Nat.le_of_ble_eq_true rfl, Nat.le_of_ble_eq_true rfl⟩) (wk_preVK hG hP hD hT hS (hT.2.2.1.1 p1 hp1).1 (fun _ h9 => h9.elim)) rfl rfl hl.1 rfl (lv_room (Nat.le_of_ble_eq_true rfl)) dX1_standsBetween_1 ⟨Nat.le_of_ble_eq_true rfl, Nat.le_of_ble_eq_true rfl⟩) hS (fun locs hS => ?_)
  refine lv_iload_n hx hb dX1_standsBetween_4 rfl (lv_at hl 3 rfl) ?_
  refine lv_iload_n hx hb dX1_standsBetween_5 rfl (lv_at hl 2 rfl) ?_
  refine lv_isub hx hb dX1_standsBetween_6 ?_
  refine lv_icmp_eq (tgt := 12) hx hb dX1_standsBetween_7 (by decide) (fun c1 => ?_) (fun c1 => ?_)
  · replace hM := (if_pos c1).symm.trans hM
    refine lv_iconst (v := (0 : Int32)) hx hb dX1_standsBetween_12 (by decide) ?_
    refine lv_istore (lv' := [(4, .int (0 : Int32)), (0, .ref (g 0)), (1, .ref (kk.2.1 p1)), (2, .int p2), (3, .int p3)]) hx hb dX1_standsBetween_13 hl (by decide) rfl (fun ls hl => ?_)
    exact hL15 64 (0 : Int32)  _ _ hM hS (lv_sub hl [1, 2, 3, 0] rfl)
  · replace hM := (if_neg c1).symm.trans hM
    refine lv_iconst (v := (0 : Int32)) hx hb dX1_standsBetween_10 (by decide) ?_
    replace hM := Option.some.inj hM
    subst hM
    exact wk_retPi hx hb hr hlocks hQ rfl rfl hS dX1_standsBetween_11
set_option maxHeartbeats 4000000 in
set_option maxRecDepth 100000 in
theorem c_X1_wordBetween (l : Launch) (dC : Nat → ClassId) (dI : Nat → Nat → Nat) (cI cD cJ : ClassId) (kk : wAd) (g : Nat → Nat) (x : TS) (p1 : Int32) (p2 : Int32) (out : (Option Nat)) (hM : M_X1_wordBetween x p1 p2 = some out) : CPT kk l yX1_wordBetween wsX1_wordBetween ({ frames := 5, cells := 0, slots := 0, locals := 109 } : Room) dC dI (wTys cI cD cJ) [.ref (g 0), .int p1, .int p2] (wTxt cI kk.1 g x) (some (va_re kk.1 out)) := by
  refine wk_enterPT (cc := cX1_wordBetween) (maxL := 5) (ret := (some (.object "WokenDrive$Word"))) (by decide) rfl (Nat.le_of_ble_eq_true rfl) ?_
  intro p e s m below meth c A Q ls hB hT hP hD hA hQ hl
  obtain ⟨hx, hb, hml, hr, hts, hown, hname, hlocks, hG⟩ := hB
  have hown : s.vm.findClass RX1 = some m.cls := hown
  have hS : va_S A s.heap s.heap [] := va_S.rf
  have hl : lv_has ls 5 [(0, .ref (g 0)), (1, .int p1), (2, .int p2)] := hl
  generalize ([] : List Loc) = locs at hS ⊢
  have hL2 : ∀ (n2 : Nat) (u3 : Int32) (locs : List Loc) (ls : Array Slot), lpF (M_X1_wordBetween_2s x p1 p2) n2 (u3) = some out → va_S A s.heap s.heap locs → lv_has ls 5 [(0, .ref (g 0)), (1, .int p1), (2, .int p2), (3, .int u3)] → W p l e ({ frames := 5, cells := 0, slots := 0, locals := 109 } : Room) s m ([.ref (g 0), .int p1, .int p2] : List Value).toArray below meth c s.heap locs 0 0 Q (F0 m 2 ls []) := by
    intro n2
    induction n2 with
    | zero => intro u3 locs ls hM; exact lpF_0 hM
    | succ n2 ih2 =>
      have hB39 : ∀ (u3 : Int32) (locs : List Loc) (ls : Array Slot), M_X1_wordBetween_39 x p1 p2 (lpF (M_X1_wordBetween_2s x p1 p2) n2) u3 = some out → va_S A s.heap s.heap locs → lv_has ls 5 [(0, .ref (g 0)), (1, .int p1), (2, .int p2), (3, .int u3)] → W p l e ({ frames := 5, cells := 0, slots := 0, locals := 109 } : Room) s m ([.ref (g 0), .int p1, .int p2] : List Value).toArray below meth c s.heap locs 0 0 Q (F0 m 39 ls []) := by
        intro u3 locs ls hM hS hl
        unfold M_X1_wordBetween_39 at hM
        refine lv_iinc (v := (u3 + 1)) (lv' := [(3, .int (u3 + 1)), (0, .ref (g 0)), (1, .int p1), (2, .int p2)]) hx hb dX1_wordBetween_39 hl (k := 3) rfl rfl (by decide) rfl (fun ls hl => ?_)
        refine lv_goto (tgt := 2) hx hb dX1_wordBetween_42 (by decide) ?_
        exact ih2 (u3 + 1)  _ _ hM hS (lv_sub hl [1, 2, 3, 0] rfl)
      intro u3 locs ls hM hS hl
      replace hM : M_X1_wordBetween_2s x p1 p2 (lpF (M_X1_wordBetween_2s x p1 p2) n2) (u3) = some out := hM
      unfold M_X1_wordBetween_2s at hM
      try dsimp only at hM
      refine lv_iload_n hx hb dX1_wordBetween_2 rfl (lv_at hl 3 rfl) ?_
      refine va_getsN hx hb hT.1.1 hS hown (va_Nw.use rfl (hG.2 _ (List.mem_of_getElem? (i := 0) rfl))) (fun _ h9 => h9) dX1_wordBetween_3 ?_
      refine va_tlen hx hb hT.1.2 hS (v := (10 : Int32)) rfl dX1_wordBetween_6 ?_
      refine lv_icmp_ge (tgt := 45) hx hb dX1_wordBetween_7 (by decide) (fun c1 => ?_) (fun c1 => ?_)
      · replace hM := (if_pos c1).symm.trans hM
        refine lv_null hx hb dX1_wordBetween_45 ?_
        replace hM := Option.some.inj hM
        subst hM
        exact wk_retPa hx hb hr hlocks hQ (Or.inl ⟨_, rfl⟩) (Or.inl rfl) rfl hS dX1_wordBetween_46
      · replace hM := (if_neg c1).symm.trans hM
        refine va_getsN hx hb hT.1.1 hS hown (va_Nw.use rfl (hG.2 _ (List.mem_of_getElem? (i := 0) rfl))) (fun _ h9 => h9) dX1_wordBetween_10 ?_
        refine lv_iload_n hx hb dX1_wordBetween_13 rfl (lv_at hl 3 rfl) ?_
        obtain ⟨e2, he2, hM⟩ := ob hM
        obtain ⟨hke2, hie2, hee2⟩ := chk10_some he2
        refine vb_tq hx hb hT.1.2 hS hie2 (v := .ref (kk.1 e2)) (by rw [hee2]) dX1_wordBetween_14 ?_
        refine lv_astore (lv' := [(4, .ref (kk.1 e2)), (0, .ref (g 0)), (1, .int p1), (2, .int p2), (3, .int u3)]) hx hb dX1_wordBetween_15 hl (by decide) rfl (fun ls hl => ?_)
        refine lv_aload hx hb dX1_wordBetween_17 (lv_at hl 0 rfl) ?_
        refine lv_ifnull hx hb dX1_wordBetween_19 ?_
        refine lv_aload_n hx hb dX1_wordBetween_22 rfl (lv_at hl 1 rfl) ?_
        refine lv_aload hx hb dX1_wordBetween_23 (lv_at hl 0 rfl) ?_
        refine vk_getf (v := .ref (kk.2.1 e2)) hx hb (hT.2.1 e2 hke2).2.1 hS hown (hts (.fieldLink RX1 73 "WokenDrive$Word" "letters" "Ljava/lang/String;") (List.mem_of_getElem? (i := 1) rfl)) (fun _ h9 => h9) dX1_wordBetween_25 ?_
        refine lv_iload_n hx hb dX1_wordBetween_28 rfl (lv_at hl 2 rfl) ?_
        refine lv_iload_n hx hb dX1_wordBetween_29 rfl (lv_at hl 3 rfl) ?_
        obtain ⟨r3, hr3, hM⟩ := ob hM
        refine wk_callP (va_runV (As := [.ref (kk.2.1 e2), .int p1, .int p2]) (rest := []) ⟨hx, hb, hml, hown, hts⟩ (c_X1_standsBetween l dC dI cI cD cJ kk g x e2 p1 p2 hke2 _ hr3 s.heap) (cwV 3 hts gX1_wordBetween_X1_standsBetween rfl rfl rfl (by decide +kernel) ⟨Nat.le_of_ble_eq_true rfl, Nat.le_of_ble_eq_true rfl⟩) (wk_preVTP (ci := 0) (q0 := 0) hG hP hD hT hS [0, 1, 2] rfl rfl rfl rfl (fun _ h9 => h9.elim)) rfl rfl hl.1 rfl (lv_room (Nat.le_of_ble_eq_true rfl)) dX1_wordBetween_30 ⟨Nat.le_of_ble_eq_true rfl, Nat.le_of_ble_eq_true rfl⟩) hS (fun locs hS => ?_)
        refine lv_if_eq (tgt := 39) hx hb dX1_wordBetween_33 (by decide) (fun c4 => ?_) (fun c4 => ?_)
        · replace hM := (if_pos c4).symm.trans hM
          exact hB39 u3  _ _ hM hS (lv_sub hl [1, 2, 3, 4] rfl)
        · replace hM := (if_neg c4).symm.trans hM
          refine lv_aload hx hb dX1_wordBetween_36 (lv_at hl 0 rfl) ?_
          replace hM := Option.some.inj hM
          subst hM
          exact wk_retPa hx hb hr hlocks hQ (Or.inl ⟨_, rfl⟩) (Or.inr ⟨_, rfl⟩) rfl hS dX1_wordBetween_38
  unfold M_X1_wordBetween at hM
  refine lv_iconst (v := (0 : Int32)) hx hb dX1_wordBetween_0 (by decide) ?_
  refine lv_istore_n (lv' := [(3, .int (0 : Int32)), (0, .ref (g 0)), (1, .int p1), (2, .int p2)]) hx hb dX1_wordBetween_1 rfl hl (by decide) rfl (fun ls hl => ?_)
  exact hL2 64 (0 : Int32)  _ _ hM hS (lv_sub hl [1, 2, 3, 0] rfl)
set_option maxHeartbeats 4000000 in
set_option maxRecDepth 100000 in
theorem c_X1_readCommand (l : Launch) (dC : Nat → ClassId) (dI : Nat → Nat → Nat) (cI cD cJ : ClassId) (kk : wAd) (g : Nat → Nat) (x : TS) (out : Int32 × TS) (hM : M_X1_readCommand x = some out) : CMT kk l yX1_readCommand wsX1_readCommand ({ frames := 6, cells := 0, slots := 0, locals := 133 } : Room) dC dI (wTys cI cD cJ) [.ref (g 0)] (wTxt cI kk.1 g x) (some (.int out.1)) (wTxt cI kk.1 g out.2) 0 0 := by
  refine wk_enterMT (cc := cX1_readCommand) (maxL := 4) (ret := (some .int)) (by decide) rfl (Nat.le_of_ble_eq_true rfl) ?_
  intro p e s m below meth c A Q ls hB hT hA hP hD hQ hl
  obtain ⟨hx, hb, hml, hr, hts, hown, hname, hlocks, hG⟩ := hB
  have hown : s.vm.findClass RX1 = some m.cls := hown
  have hS : va_S A s.heap s.heap [] := va_S.rf
  have hl : lv_has ls 4 [(0, .ref (g 0))] := hl
  have inX1 : ∀ w ∈ wsX10, w ∈ wsX1_readCommand := fun _ h => List.mem_cons_of_mem _ (List.mem_append_right _ h)
  obtain ⟨H, hH⟩ : ∃ z, z = s.heap := ⟨_, rfl⟩
  have hP : va_P (dC, dI) vwCl (wTxt cI kk.1 g x) H := by rw [hH]; exact hP
  have hS : va_S A s.heap H [] := by rw [hH]; exact hS
  refine wk_at hH ?_
  generalize ([] : List Loc) = locs at hS ⊢
  have hL66 : ∀ (n66 : Nat) (u2 : Nat) (u3 : Int32) (y0 : TS) (H : Heap) (locs : List Loc) (ls : Array Slot), lpF (M_X1_readCommand_66s x) n66 (u2, u3, y0) = some out → va_P (dC, dI) vwCl (wTxt cI kk.1 g y0) H → va_D A (wTxt cI kk.1 g y0) → va_S A s.heap H locs → lv_has ls 4 [(0, .ref (g 0)), (2, .ref (kk.1 u2)), (3, .int u3)] → W p l e ({ frames := 6, cells := 0, slots := 0, locals := 133 } : Room) s m ([.ref (g 0)] : List Value).toArray below meth c H locs 0 0 Q (F0 m 66 ls []) := by
    intro n66
    induction n66 with
    | zero => intro u2 u3 y0 H locs ls hM; exact lpF_0 hM
    | succ n66 ih66 =>
      intro u2 u3 y0 H locs ls hM hP hD hS hl
      replace hM : M_X1_readCommand_66s x (lpF (M_X1_readCommand_66s x) n66) (u2, u3, y0) = some out := hM
      unfold M_X1_readCommand_66s at hM
      try dsimp only at hM
      refine lv_iload_n hx hb dX1_readCommand_66 rfl (lv_at hl 2 rfl) ?_
      refine lv_aload_n hx hb dX1_readCommand_67 rfl (lv_at hl 1 rfl) ?_
      obtain ⟨uu1, huu1, hM⟩ := ob hM
      have hkuu1 := chkE_some huu1
      refine vk_getf (v := .int (wNum.getD u2 0)) hx hb (hT.2.1 u2 hkuu1).2.2.1 hS hown (hts (.fieldLink RX1 59 "WokenDrive$Word" "numbers" "I") (List.mem_of_getElem? (i := 4) rfl)) (fun _ h9 => h9) dX1_readCommand_68 ?_
      refine lv_icmp_ge (tgt := 93) hx hb dX1_readCommand_71 (by decide) (fun c2 => ?_) (fun c2 => ?_)
      · replace hM := (if_pos c2).symm.trans hM
        refine lv_aload_n hx hb dX1_readCommand_93 rfl (lv_at hl 0 rfl) ?_
        obtain ⟨r3, hr3, hM⟩ := ob hM
        refine wk_callM (ws' := (wTxt cI kk.1 g r3)) (va_runV (As := []) (rest := []) ⟨hx, hb, hml, hown, hts⟩ (c_X1_skipSpaces l dC dI cI cD cJ kk g y0 _ hr3 H) (cwV 0 hts gX1_readCommand_X1_skipSpaces rfl rfl rfl (by decide +kernel) ⟨Nat.le_of_ble_eq_true rfl, Nat.le_of_ble_eq_true rfl⟩) (wk_preV (ci := 0) (q0 := 0) hG hP hD [0, 1, 2] rfl rfl rfl rfl) rfl rfl hl.1 rfl (lv_room (Nat.le_of_ble_eq_true rfl)) dX1_readCommand_94 ⟨Nat.le_of_ble_eq_true rfl, Nat.le_of_ble_eq_true rfl⟩) hP hD hS hA [0, 1, 2] [] [0, 1, 2] rfl rfl rfl (by decide) rfl rfl (fun H locs hP hD hS => ?_)
        refine lv_aload_n hx hb dX1_readCommand_97 rfl (lv_at hl 0 rfl) ?_
        refine lv_aload_n hx hb dX1_readCommand_98 rfl (lv_at hl 0 rfl) ?_
        refine va_get (D := (dC, dI)) (ci := 0) (v := .int (ts_cur r3)) (C := RX1) (T := TX1) (N := 5) hx hb hts inX1 hown hG.1 hP 0 rfl rfl 3 (by decide) (hts (.fieldLink RX1 22 "WokenDrive$CommandText" "cursor" "I") (List.mem_of_getElem? (i := 1) rfl)) (fun _ h9 => h9) rfl dX1_readCommand_99 ?_
        refine wk_callP (va_runV (As := [.int (ts_cur r3)]) (rest := []) ⟨hx, hb, hml, hown, hts⟩ (c_X1_byteAt l dC dI cI cD cJ kk g r3 (ts_cur r3) _ rfl H) (cwV 1 hts gX1_readCommand_X1_byteAt rfl rfl rfl (by decide +kernel) ⟨Nat.le_of_ble_eq_true rfl, Nat.le_of_ble_eq_true rfl⟩) (wk_preV (ci := 0) (q0 := 0) hG hP hD [0, 1, 2] rfl rfl rfl rfl) rfl rfl hl.1 rfl (lv_room (Nat.le_of_ble_eq_true rfl)) dX1_readCommand_102 ⟨Nat.le_of_ble_eq_true rfl, Nat.le_of_ble_eq_true rfl⟩) hS (fun locs hS => ?_)
        refine lv_bipush (v := (59 : Int32)) hx hb dX1_readCommand_105 (by decide) ?_
        refine lv_icmp_eq (tgt := 115) hx hb dX1_readCommand_107 (by decide) (fun c4 => ?_) (fun c4 => ?_)
        · replace hM := (if_pos c4).symm.trans hM
          refine lv_aload_n hx hb dX1_readCommand_115 rfl (lv_at hl 0 rfl) ?_
          refine lv_dup hx hb dX1_readCommand_116 rfl ?_
          refine va_get (D := (dC, dI)) (ci := 0) (v := .int (ts_cur r3)) (C := RX1) (T := TX1) (N := 5) hx hb hts inX1 hown hG.1 hP 0 rfl rfl 3 (by decide) (hts (.fieldLink RX1 22 "WokenDrive$CommandText" "cursor" "I") (List.mem_of_getElem? (i := 1) rfl)) (fun _ h9 => h9) rfl dX1_readCommand_117 ?_
          refine lv_iconst (v := (1 : Int32)) hx hb dX1_readCommand_120 (by decide) ?_
          refine lv_iadd hx hb dX1_readCommand_121 ?_
          obtain ⟨y_5, hy_5, hM⟩ := tbE hM
          refine va_put (D := (dC, dI)) (ci := 0) (v := .int ((ts_cur r3) + (1 : Int32))) (ty := .int) (C := RX1) (T := TX1) (N := 5) hx hb hts inX1 tyX1 tyX1_ok nmX1 hown hG.1 hP hD hS 0 rfl rfl 3 (by decide) (hts (.fieldLink RX1 22 "WokenDrive$CommandText" "cursor" "I") (List.mem_of_getElem? (i := 1) rfl)) (fun _ h9 => h9) rfl (by decide +kernel) rfl rfl (Nat.le_of_ble_eq_true rfl) dX1_readCommand_122 (fun H locs hP hD hS => ?_)
          have hP : va_P (dC, dI) vwCl (wTxt cI kk.1 g y_5) H := by rw [hy_5]; exact hP
          have hD : va_D A (wTxt cI kk.1 g y_5) := by rw [hy_5]; exact hD
          refine lv_iconst (v := (-1 : Int32)) hx hb dX1_readCommand_125 (by decide) ?_
          replace hM := Option.some.inj hM
          subst hM
          exact wk_retMi hx hb hr hlocks hQ rfl rfl hP hD hS dX1_readCommand_126
        · replace hM := (if_neg c4).symm.trans hM
          refine lv_aload_n hx hb dX1_readCommand_110 rfl (lv_at hl 0 rfl) ?_
          refine va_get (D := (dC, dI)) (ci := 0) (v := .int (ts_cur r3)) (C := RX1) (T := TX1) (N := 5) hx hb hts inX1 hown hG.1 hP 0 rfl rfl 3 (by decide) (hts (.fieldLink RX1 22 "WokenDrive$CommandText" "cursor" "I") (List.mem_of_getElem? (i := 1) rfl)) (fun _ h9 => h9) rfl dX1_readCommand_111 ?_
          replace hM := Option.some.inj hM
          subst hM
          exact wk_retMi hx hb hr hlocks hQ rfl rfl hP hD hS dX1_readCommand_114
      · replace hM := (if_neg c2).symm.trans hM
        refine lv_aload_n hx hb dX1_readCommand_74 rfl (lv_at hl 0 rfl) ?_
        refine lv_iload_n hx hb dX1_readCommand_75 rfl (lv_at hl 2 rfl) ?_
        obtain ⟨r6, hr6, hM⟩ := ob hM
        refine wk_callM (ws' := (wTxt cI kk.1 g r6.2)) (va_runV (As := [.int u3]) (rest := []) ⟨hx, hb, hml, hown, hts⟩ (c_X1_readNumber l dC dI cI cD cJ kk g y0 u3 _ hr6 H) (cwV 1 hts gX1_readCommand_X1_readNumber rfl rfl rfl (by decide +kernel) ⟨Nat.le_of_ble_eq_true rfl, Nat.le_of_ble_eq_true rfl⟩) (wk_preV (ci := 0) (q0 := 0) hG hP hD [0, 1, 2] rfl rfl rfl rfl) rfl rfl hl.1 rfl (lv_room (Nat.le_of_ble_eq_true rfl)) dX1_readCommand_76 ⟨Nat.le_of_ble_eq_true rfl, Nat.le_of_ble_eq_true rfl⟩) hP hD hS hA [0, 1, 2] [] [0, 1, 2] rfl rfl rfl (by decide) rfl rfl (fun H locs hP hD hS => ?_)
        refine lv_if_ne (tgt := 87) hx hb dX1_readCommand_79 (by decide) (fun c7 => ?_) (fun c7 => ?_)
        · replace hM := (if_neg c7).symm.trans hM
          refine lv_iinc (v := (u3 + 1)) (lv' := [(3, .int (u3 + 1)), (0, .ref (g 0)), (2, .ref (kk.1 u2))]) hx hb dX1_readCommand_87 hl (k := 2) rfl rfl (by decide) rfl (fun ls hl => ?_)
          refine lv_goto (tgt := 66) hx hb dX1_readCommand_90 (by decide) ?_
          exact ih66 u2 (u3 + 1) r6.2 H _ _ hM hP hD hS (lv_sub hl [1, 2, 0] rfl)
        · replace hM := (if_pos c7).symm.trans hM
          refine lv_aload_n hx hb dX1_readCommand_82 rfl (lv_at hl 0 rfl) ?_
          refine va_get (D := (dC, dI)) (ci := 0) (v := .int (ts_cur r6.2)) (C := RX1) (T := TX1) (N := 5) hx hb hts inX1 hown hG.1 hP 0 rfl rfl 3 (by decide) (hts (.fieldLink RX1 22 "WokenDrive$CommandText" "cursor" "I") (List.mem_of_getElem? (i := 1) rfl)) (fun _ h9 => h9) rfl dX1_readCommand_83 ?_
          replace hM := Option.some.inj hM
          subst hM
          exact wk_retMi hx hb hr hlocks hQ rfl rfl hP hD hS dX1_readCommand_86
  have hB43 : ∀ (u1 : Int32) (y0 : TS) (H : Heap) (locs : List Loc) (ls : Array Slot), M_X1_readCommand_43 x u1 y0 = some out → va_P (dC, dI) vwCl (wTxt cI kk.1 g y0) H → va_D A (wTxt cI kk.1 g y0) → va_S A s.heap H locs → lv_has ls 4 [(0, .ref (g 0)), (1, .int u1)] → W p l e ({ frames := 6, cells := 0, slots := 0, locals := 133 } : Room) s m ([.ref (g 0)] : List Value).toArray below meth c H locs 0 0 Q (F0 m 43 ls []) := by
    intro u1 y0 H locs ls hM hP hD hS hl
    unfold M_X1_readCommand_43 at hM
    refine lv_aload_n hx hb dX1_readCommand_43 rfl (lv_at hl 0 rfl) ?_
    refine lv_iload_n hx hb dX1_readCommand_44 rfl (lv_at hl 1 rfl) ?_
    refine lv_aload_n hx hb dX1_readCommand_45 rfl (lv_at hl 0 rfl) ?_
    refine va_get (D := (dC, dI)) (ci := 0) (v := .int (ts_cur y0)) (C := RX1) (T := TX1) (N := 5) hx hb hts inX1 hown hG.1 hP 0 rfl rfl 3 (by decide) (hts (.fieldLink RX1 22 "WokenDrive$CommandText" "cursor" "I") (List.mem_of_getElem? (i := 1) rfl)) (fun _ h9 => h9) rfl dX1_readCommand_46 ?_
    obtain ⟨r1, hr1, hM⟩ := ob hM
    refine wk_callP (va_runV (As := [.int u1, .int (ts_cur y0)]) (rest := []) ⟨hx, hb, hml, hown, hts⟩ (c_X1_wordBetween l dC dI cI cD cJ kk g y0 u1 (ts_cur y0) _ hr1 H) (cwV 2 hts gX1_readCommand_X1_wordBetween rfl rfl rfl (by decide +kernel) ⟨Nat.le_of_ble_eq_true rfl, Nat.le_of_ble_eq_true rfl⟩) (wk_preVT (ci := 0) (q0 := 0) hG hP hD hT hS (fun _ h9 => h9) [0, 1, 2] rfl rfl rfl rfl (fun _ h9 => h9.elim)) rfl rfl hl.1 rfl (lv_room (Nat.le_of_ble_eq_true rfl)) dX1_readCommand_49 ⟨Nat.le_of_ble_eq_true rfl, Nat.le_of_ble_eq_true rfl⟩) hS (fun locs hS => ?_)
    rcases hqq2 : r1 with _ | e3
    · rw [hqq2] at hM
      try rw [hqq2]
      replace hM := hM
      refine lv_astore_nN (lv' := [(2, .null), (0, .ref (g 0)), (1, .int u1)]) hx hb dX1_readCommand_52 rfl hl (by decide) rfl (fun ls hl => ?_)
      refine lv_aload_n hx hb dX1_readCommand_53 rfl (lv_at hl 1 rfl) ?_
      refine lv_aload_nN hx hb dX1_readCommand_54 rfl (lv_at hl 0 rfl) ?_
      obtain ⟨y_4, hy_4, hM⟩ := tbE hM
      refine va_put (D := (dC, dI)) (ci := 0) (v := .null) (ty := (.object "WokenDrive$Word")) (C := RX1) (T := TX1) (N := 5) hx hb hts inX1 tyX1 tyX1_ok nmX1 hown hG.1 hP hD hS 0 rfl rfl 4 (by decide) (hts (.fieldLink RX1 25 "WokenDrive$CommandText" "word" "LWokenDrive$Word;") (List.mem_of_getElem? (i := 3) rfl)) (fun _ h9 => h9) rfl (by decide +kernel) rfl rfl (Nat.le_of_ble_eq_true rfl) dX1_readCommand_55 (fun H locs hP hD hS => ?_)
      have hP : va_P (dC, dI) vwCl (wTxt cI kk.1 g y_4) H := by rw [hy_4]; exact hP
      have hD : va_D A (wTxt cI kk.1 g y_4) := by rw [hy_4]; exact hD
      refine lv_aload_nN hx hb dX1_readCommand_58 rfl (lv_at hl 0 rfl) ?_
      refine lv_ifnonnullN hx hb dX1_readCommand_59 ?_
      refine lv_iload_n hx hb dX1_readCommand_62 rfl (lv_at hl 2 rfl) ?_
      replace hM := Option.some.inj hM
      subst hM
      exact wk_retMi hx hb hr hlocks hQ rfl rfl hP hD hS dX1_readCommand_63
    · rw [hqq2] at hM
      try rw [hqq2]
      obtain ⟨ue3, hue3, hM⟩ := ob hM
      have hke3 := chkE_some hue3
      refine lv_astore_n (lv' := [(2, .ref (kk.1 e3)), (0, .ref (g 0)), (1, .int u1)]) hx hb dX1_readCommand_52 rfl hl (by decide) rfl (fun ls hl => ?_)
      refine lv_aload_n hx hb dX1_readCommand_53 rfl (lv_at hl 1 rfl) ?_
      refine lv_aload_n hx hb dX1_readCommand_54 rfl (lv_at hl 0 rfl) ?_
      obtain ⟨y_5, hy_5, hM⟩ := tbE hM
      refine va_put (D := (dC, dI)) (ci := 0) (v := .ref (kk.1 e3)) (ty := (.object "WokenDrive$Word")) (C := RX1) (T := TX1) (N := 5) hx hb hts inX1 tyX1 tyX1_ok nmX1 hown hG.1 hP hD hS 0 rfl rfl 4 (by decide) (hts (.fieldLink RX1 25 "WokenDrive$CommandText" "word" "LWokenDrive$Word;") (List.mem_of_getElem? (i := 3) rfl)) (fun _ h9 => h9) rfl (by decide +kernel) rfl rfl (Nat.le_of_ble_eq_true rfl) dX1_readCommand_55 (fun H locs hP hD hS => ?_)
      have hP : va_P (dC, dI) vwCl (wTxt cI kk.1 g y_5) H := by rw [hy_5]; exact hP
      have hD : va_D A (wTxt cI kk.1 g y_5) := by rw [hy_5]; exact hD
      refine lv_aload_n hx hb dX1_readCommand_58 rfl (lv_at hl 0 rfl) ?_
      refine lv_ifnonnull (tgt := 64) hx hb dX1_readCommand_59 (by decide) ?_
      refine lv_iconst (v := (0 : Int32)) hx hb dX1_readCommand_64 (by decide) ?_
      refine lv_istore_n (lv' := [(3, .int (0 : Int32)), (2, .ref (kk.1 e3)), (0, .ref (g 0)), (1, .int u1)]) hx hb dX1_readCommand_65 rfl hl (by decide) rfl (fun ls hl => ?_)
      exact hL66 400 e3 (0 : Int32) y_5 H _ _ hM hP hD hS (lv_sub hl [2, 1, 0] rfl)
  have hL5 : ∀ (n5 : Nat) (u1 : Int32) (y0 : TS) (H : Heap) (locs : List Loc) (ls : Array Slot), lpF (M_X1_readCommand_5s x) n5 (u1, y0) = some out → va_P (dC, dI) vwCl (wTxt cI kk.1 g y0) H → va_D A (wTxt cI kk.1 g y0) → va_S A s.heap H locs → lv_has ls 4 [(0, .ref (g 0)), (1, .int u1)] → W p l e ({ frames := 6, cells := 0, slots := 0, locals := 133 } : Room) s m ([.ref (g 0)] : List Value).toArray below meth c H locs 0 0 Q (F0 m 5 ls []) := by
    intro n5
    induction n5 with
    | zero => intro u1 y0 H locs ls hM; exact lpF_0 hM
    | succ n5 ih5 =>
      intro u1 y0 H locs ls hM hP hD hS hl
      replace hM : M_X1_readCommand_5s x (lpF (M_X1_readCommand_5s x) n5) (u1, y0) = some out := hM
      unfold M_X1_readCommand_5s at hM
      try dsimp only at hM
      refine lv_aload_n hx hb dX1_readCommand_5 rfl (lv_at hl 0 rfl) ?_
      refine va_get (D := (dC, dI)) (ci := 0) (v := .int (ts_cur y0)) (C := RX1) (T := TX1) (N := 5) hx hb hts inX1 hown hG.1 hP 0 rfl rfl 3 (by decide) (hts (.fieldLink RX1 22 "WokenDrive$CommandText" "cursor" "I") (List.mem_of_getElem? (i := 1) rfl)) (fun _ h9 => h9) rfl dX1_readCommand_6 ?_
      refine lv_aload_n hx hb dX1_readCommand_9 rfl (lv_at hl 0 rfl) ?_
      refine va_get (D := (dC, dI)) (ci := 0) (v := .int (ts_len y0)) (C := RX1) (T := TX1) (N := 5) hx hb hts inX1 hown hG.1 hP 0 rfl rfl 2 (by decide) (hts (.fieldLink RX1 18 "WokenDrive$CommandText" "length" "I") (List.mem_of_getElem? (i := 2) rfl)) (fun _ h9 => h9) rfl dX1_readCommand_10 ?_
      refine lv_icmp_ge (tgt := 43) hx hb dX1_readCommand_13 (by decide) (fun c1 => ?_) (fun c1 => ?_)
      · replace hM := (if_pos c1).symm.trans hM
        exact hB43 u1 y0 H _ _ hM hP hD hS (lv_sub hl [0, 1] rfl)
      · replace hM := (if_neg c1).symm.trans hM
        refine lv_aload_n hx hb dX1_readCommand_16 rfl (lv_at hl 0 rfl) ?_
        refine lv_aload_n hx hb dX1_readCommand_17 rfl (lv_at hl 0 rfl) ?_
        refine va_get (D := (dC, dI)) (ci := 0) (v := .int (ts_cur y0)) (C := RX1) (T := TX1) (N := 5) hx hb hts inX1 hown hG.1 hP 0 rfl rfl 3 (by decide) (hts (.fieldLink RX1 22 "WokenDrive$CommandText" "cursor" "I") (List.mem_of_getElem? (i := 1) rfl)) (fun _ h9 => h9) rfl dX1_readCommand_18 ?_
        refine wk_callP (va_runV (As := [.int (ts_cur y0)]) (rest := []) ⟨hx, hb, hml, hown, hts⟩ (c_X1_byteAt l dC dI cI cD cJ kk g y0 (ts_cur y0) _ rfl H) (cwV 1 hts gX1_readCommand_X1_byteAt rfl rfl rfl (by decide +kernel) ⟨Nat.le_of_ble_eq_true rfl, Nat.le_of_ble_eq_true rfl⟩) (wk_preV (ci := 0) (q0 := 0) hG hP hD [0, 1, 2] rfl rfl rfl rfl) rfl rfl hl.1 rfl (lv_room (Nat.le_of_ble_eq_true rfl)) dX1_readCommand_21 ⟨Nat.le_of_ble_eq_true rfl, Nat.le_of_ble_eq_true rfl⟩) hS (fun locs hS => ?_)
        refine wk_callP (va_runS (As := [.int (M_X1_byteAt y0 (ts_cur y0))]) (rest := []) ⟨hx, hb, hml, hown, hts⟩ (c_X1_isLetter l dC dI cI cD cJ kk  (M_X1_byteAt y0 (ts_cur y0)) _ rfl H) (va_cwS 1 hts gX1_readCommand_X1_isLetter rfl rfl rfl (by decide +kernel) ⟨Nat.le_of_ble_eq_true rfl, Nat.le_of_ble_eq_true rfl⟩) (wk_preS hG hP hD [] rfl rfl) rfl rfl hl.1 rfl (lv_room (Nat.le_of_ble_eq_true rfl)) dX1_readCommand_24 ⟨Nat.le_of_ble_eq_true rfl, Nat.le_of_ble_eq_true rfl⟩) hS (fun locs hS => ?_)
        refine lv_if_eq (tgt := 43) hx hb dX1_readCommand_27 (by decide) (fun c2 => ?_) (fun c2 => ?_)
        · replace hM := (if_pos c2).symm.trans hM
          exact hB43 u1 y0 H _ _ hM hP hD hS (lv_sub hl [0, 1] rfl)
        · replace hM := (if_neg c2).symm.trans hM
          refine lv_aload_n hx hb dX1_readCommand_30 rfl (lv_at hl 0 rfl) ?_
          refine lv_dup hx hb dX1_readCommand_31 rfl ?_
          refine va_get (D := (dC, dI)) (ci := 0) (v := .int (ts_cur y0)) (C := RX1) (T := TX1) (N := 5) hx hb hts inX1 hown hG.1 hP 0 rfl rfl 3 (by decide) (hts (.fieldLink RX1 22 "WokenDrive$CommandText" "cursor" "I") (List.mem_of_getElem? (i := 1) rfl)) (fun _ h9 => h9) rfl dX1_readCommand_32 ?_
          refine lv_iconst (v := (1 : Int32)) hx hb dX1_readCommand_35 (by decide) ?_
          refine lv_iadd hx hb dX1_readCommand_36 ?_
          obtain ⟨y_3, hy_3, hM⟩ := tbE hM
          refine va_put (D := (dC, dI)) (ci := 0) (v := .int ((ts_cur y0) + (1 : Int32))) (ty := .int) (C := RX1) (T := TX1) (N := 5) hx hb hts inX1 tyX1 tyX1_ok nmX1 hown hG.1 hP hD hS 0 rfl rfl 3 (by decide) (hts (.fieldLink RX1 22 "WokenDrive$CommandText" "cursor" "I") (List.mem_of_getElem? (i := 1) rfl)) (fun _ h9 => h9) rfl (by decide +kernel) rfl rfl (Nat.le_of_ble_eq_true rfl) dX1_readCommand_37 (fun H locs hP hD hS => ?_)
          have hP : va_P (dC, dI) vwCl (wTxt cI kk.1 g y_3) H := by rw [hy_3]; exact hP
          have hD : va_D A (wTxt cI kk.1 g y_3) := by rw [hy_3]; exact hD
          refine lv_goto (tgt := 5) hx hb dX1_readCommand_40 (by decide) ?_
          exact ih5 u1 y_3 H _ _ hM hP hD hS (lv_sub hl [0, 1] rfl)
  unfold M_X1_readCommand at hM
  refine lv_aload_n hx hb dX1_readCommand_0 rfl (lv_at hl 0 rfl) ?_
  refine va_get (D := (dC, dI)) (ci := 0) (v := .int (ts_cur x)) (C := RX1) (T := TX1) (N := 5) hx hb hts inX1 hown hG.1 hP 0 rfl rfl 3 (by decide) (hts (.fieldLink RX1 22 "WokenDrive$CommandText" "cursor" "I") (List.mem_of_getElem? (i := 1) rfl)) (fun _ h9 => h9) rfl dX1_readCommand_1 ?_
  refine lv_istore_n (lv' := [(1, .int (ts_cur x)), (0, .ref (g 0))]) hx hb dX1_readCommand_4 rfl hl (by decide) rfl (fun ls hl => ?_)
  exact hL5 400 (ts_cur x) x H _ _ hM hP hD hS (lv_sub hl [1, 0] rfl)
set_option maxHeartbeats 4000000 in
set_option maxRecDepth 100000 in
theorem c_X1_findFault (l : Launch) (dC : Nat → ClassId) (dI : Nat → Nat → Nat) (cI cD cJ : ClassId) (kk : wAd) (g : Nat → Nat) (x : TS) (out : Int32 × TS) (hM : M_X1_findFault x = some out) : CMT kk l yX1_findFault wsX1_findFault ({ frames := 7, cells := 0, slots := 0, locals := 156 } : Room) dC dI (wTys cI cD cJ) [.ref (g 0)] (wTxt cI kk.1 g x) (some (.int out.1)) (wTxt cI kk.1 g out.2) 0 0 := by
  refine wk_enterMT (cc := cX1_findFault) (maxL := 3) (ret := (some .int)) (by decide) rfl (Nat.le_of_ble_eq_true rfl) ?_
  intro p e s m below meth c A Q ls hB hT hA hP hD hQ hl
  obtain ⟨hx, hb, hml, hr, hts, hown, hname, hlocks, hG⟩ := hB
  have hown : s.vm.findClass RX1 = some m.cls := hown
  have hS : va_S A s.heap s.heap [] := va_S.rf
  have hl : lv_has ls 3 [(0, .ref (g 0))] := hl
  have inX1 : ∀ w ∈ wsX10, w ∈ wsX1_findFault := fun _ h => List.mem_cons_of_mem _ (List.mem_append_right _ h)
  obtain ⟨H, hH⟩ : ∃ z, z = s.heap := ⟨_, rfl⟩
  have hP : va_P (dC, dI) vwCl (wTxt cI kk.1 g x) H := by rw [hH]; exact hP
  have hS : va_S A s.heap H [] := by rw [hH]; exact hS
  refine wk_at hH ?_
  generalize ([] : List Loc) = locs at hS ⊢
  have hB50 : ∀ (y0 : TS) (H : Heap) (locs : List Loc) (ls : Array Slot), M_X1_findFault_50 x y0 = some out → va_P (dC, dI) vwCl (wTxt cI kk.1 g y0) H → va_D A (wTxt cI kk.1 g y0) → va_S A s.heap H locs → lv_has ls 3 [] → W p l e ({ frames := 7, cells := 0, slots := 0, locals := 156 } : Room) s m ([.ref (g 0)] : List Value).toArray below meth c H locs 0 0 Q (F0 m 50 ls []) := by
    intro y0 H locs ls hM hP hD hS hl
    unfold M_X1_findFault_50 at hM
    refine lv_iconst (v := (-1 : Int32)) hx hb dX1_findFault_50 (by decide) ?_
    replace hM := Option.some.inj hM
    subst hM
    exact wk_retMi hx hb hr hlocks hQ rfl rfl hP hD hS dX1_findFault_51
  have hL10 : ∀ (n10 : Nat) (u1 : Int32) (y0 : TS) (H : Heap) (locs : List Loc) (ls : Array Slot), lpF (M_X1_findFault_10s x) n10 (u1, y0) = some out → va_P (dC, dI) vwCl (wTxt cI kk.1 g y0) H → va_D A (wTxt cI kk.1 g y0) → va_S A s.heap H locs → lv_has ls 3 [(0, .ref (g 0)), (1, .int u1)] → W p l e ({ frames := 7, cells := 0, slots := 0, locals := 156 } : Room) s m ([.ref (g 0)] : List Value).toArray below meth c H locs 0 0 Q (F0 m 10 ls []) := by
    intro n10
    induction n10 with
    | zero => intro u1 y0 H locs ls hM; exact lpF_0 hM
    | succ n10 ih10 =>
      intro u1 y0 H locs ls hM hP hD hS hl
      replace hM : M_X1_findFault_10s x (lpF (M_X1_findFault_10s x) n10) (u1, y0) = some out := hM
      unfold M_X1_findFault_10s at hM
      try dsimp only at hM
      refine lv_iload_n hx hb dX1_findFault_10 rfl (lv_at hl 1 rfl) ?_
      refine lv_sipush (v := (150 : Int32)) hx hb dX1_findFault_11 (by decide) ?_
      refine lv_icmp_ge (tgt := 50) hx hb dX1_findFault_14 (by decide) (fun c1 => ?_) (fun c1 => ?_)
      · replace hM := (if_pos c1).symm.trans hM
        exact hB50 y0 H _ _ hM hP hD hS (lv_sub hl [] rfl)
      · replace hM := (if_neg c1).symm.trans hM
        refine lv_aload_n hx hb dX1_findFault_17 rfl (lv_at hl 0 rfl) ?_
        refine va_get (D := (dC, dI)) (ci := 0) (v := .int (ts_cur y0)) (C := RX1) (T := TX1) (N := 5) hx hb hts inX1 hown hG.1 hP 0 rfl rfl 3 (by decide) (hts (.fieldLink RX1 22 "WokenDrive$CommandText" "cursor" "I") (List.mem_of_getElem? (i := 1) rfl)) (fun _ h9 => h9) rfl dX1_findFault_18 ?_
        refine lv_aload_n hx hb dX1_findFault_21 rfl (lv_at hl 0 rfl) ?_
        refine va_get (D := (dC, dI)) (ci := 0) (v := .int (ts_len y0)) (C := RX1) (T := TX1) (N := 5) hx hb hts inX1 hown hG.1 hP 0 rfl rfl 2 (by decide) (hts (.fieldLink RX1 18 "WokenDrive$CommandText" "length" "I") (List.mem_of_getElem? (i := 2) rfl)) (fun _ h9 => h9) rfl dX1_findFault_22 ?_
        refine lv_icmp_ge (tgt := 50) hx hb dX1_findFault_25 (by decide) (fun c2 => ?_) (fun c2 => ?_)
        · replace hM := (if_pos c2).symm.trans hM
          exact hB50 y0 H _ _ hM hP hD hS (lv_sub hl [] rfl)
        · replace hM := (if_neg c2).symm.trans hM
          refine lv_aload_n hx hb dX1_findFault_28 rfl (lv_at hl 0 rfl) ?_
          obtain ⟨r3, hr3, hM⟩ := ob hM
          refine wk_callM (ws' := (wTxt cI kk.1 g r3.2)) (va_runV (As := []) (rest := []) ⟨hx, hb, hml, hown, hts⟩ (c_X1_readCommand l dC dI cI cD cJ kk g y0 _ hr3 H) (cwV 0 hts gX1_findFault_X1_readCommand rfl rfl rfl (by decide +kernel) ⟨Nat.le_of_ble_eq_true rfl, Nat.le_of_ble_eq_true rfl⟩) (wk_preVT (ci := 0) (q0 := 0) hG hP hD hT hS (fun _ h9 => h9) [0, 1, 2] rfl rfl rfl rfl (va_free hD hS hA [0, 1, 2] rfl)) rfl rfl hl.1 rfl (lv_room (Nat.le_of_ble_eq_true rfl)) dX1_findFault_29 ⟨Nat.le_of_ble_eq_true rfl, Nat.le_of_ble_eq_true rfl⟩) hP hD hS hA [0, 1, 2] [] [0, 1, 2] rfl rfl rfl (by decide) rfl rfl (fun H locs hP hD hS => ?_)
          refine lv_istore_n (lv' := [(2, .int r3.1), (0, .ref (g 0)), (1, .int u1)]) hx hb dX1_findFault_32 rfl hl (by decide) rfl (fun ls hl => ?_)
          refine lv_iload_n hx hb dX1_findFault_33 rfl (lv_at hl 0 rfl) ?_
          refine lv_iconst (v := (-1 : Int32)) hx hb dX1_findFault_34 (by decide) ?_
          refine lv_icmp_eq (tgt := 40) hx hb dX1_findFault_35 (by decide) (fun c4 => ?_) (fun c4 => ?_)
          · replace hM := (if_pos c4).symm.trans hM
            refine lv_aload_n hx hb dX1_findFault_40 rfl (lv_at hl 1 rfl) ?_
            obtain ⟨r5, hr5, hM⟩ := ob hM
            refine wk_callM (ws' := (wTxt cI kk.1 g r5)) (va_runV (As := []) (rest := []) ⟨hx, hb, hml, hown, hts⟩ (c_X1_skipSpaces l dC dI cI cD cJ kk g r3.2 _ hr5 H) (cwV 0 hts gX1_findFault_X1_skipSpaces rfl rfl rfl (by decide +kernel) ⟨Nat.le_of_ble_eq_true rfl, Nat.le_of_ble_eq_true rfl⟩) (wk_preV (ci := 0) (q0 := 0) hG hP hD [0, 1, 2] rfl rfl rfl rfl) rfl rfl hl.1 rfl (lv_room (Nat.le_of_ble_eq_true rfl)) dX1_findFault_41 ⟨Nat.le_of_ble_eq_true rfl, Nat.le_of_ble_eq_true rfl⟩) hP hD hS hA [0, 1, 2] [] [0, 1, 2] rfl rfl rfl (by decide) rfl rfl (fun H locs hP hD hS => ?_)
            refine lv_iinc (v := (u1 + 1)) (lv' := [(1, .int (u1 + 1)), (2, .int r3.1), (0, .ref (g 0))]) hx hb dX1_findFault_44 hl (k := 2) rfl rfl (by decide) rfl (fun ls hl => ?_)
            refine lv_goto (tgt := 10) hx hb dX1_findFault_47 (by decide) ?_
            exact ih10 (u1 + 1) r5 H _ _ hM hP hD hS (lv_sub hl [2, 0] rfl)
          · replace hM := (if_neg c4).symm.trans hM
            refine lv_iload_n hx hb dX1_findFault_38 rfl (lv_at hl 0 rfl) ?_
            replace hM := Option.some.inj hM
            subst hM
            exact wk_retMi hx hb hr hlocks hQ rfl rfl hP hD hS dX1_findFault_39
  unfold M_X1_findFault at hM
  refine lv_aload_n hx hb dX1_findFault_0 rfl (lv_at hl 0 rfl) ?_
  obtain ⟨r1, hr1, hM⟩ := tbE hM
  refine wk_callM (ws' := (wTxt cI kk.1 g r1)) (va_runV (As := []) (rest := []) ⟨hx, hb, hml, hown, hts⟩ (c_X1_rewind l dC dI cI cD cJ kk g x _ hr1.symm H) (cwV 0 hts gX1_findFault_X1_rewind rfl rfl rfl (by decide +kernel) ⟨Nat.le_of_ble_eq_true rfl, Nat.le_of_ble_eq_true rfl⟩) (wk_preV (ci := 0) (q0 := 0) hG hP hD [0, 1, 2] rfl rfl rfl rfl) rfl rfl hl.1 rfl (lv_room (Nat.le_of_ble_eq_true rfl)) dX1_findFault_1 ⟨Nat.le_of_ble_eq_true rfl, Nat.le_of_ble_eq_true rfl⟩) hP hD hS hA [0, 1, 2] [] [0, 1, 2] rfl rfl rfl (by decide) rfl rfl (fun H locs hP hD hS => ?_)
  refine lv_aload_n hx hb dX1_findFault_4 rfl (lv_at hl 0 rfl) ?_
  obtain ⟨r2, hr2, hM⟩ := ob hM
  refine wk_callM (ws' := (wTxt cI kk.1 g r2)) (va_runV (As := []) (rest := []) ⟨hx, hb, hml, hown, hts⟩ (c_X1_skipSpaces l dC dI cI cD cJ kk g r1 _ hr2 H) (cwV 0 hts gX1_findFault_X1_skipSpaces rfl rfl rfl (by decide +kernel) ⟨Nat.le_of_ble_eq_true rfl, Nat.le_of_ble_eq_true rfl⟩) (wk_preV (ci := 0) (q0 := 0) hG hP hD [0, 1, 2] rfl rfl rfl rfl) rfl rfl hl.1 rfl (lv_room (Nat.le_of_ble_eq_true rfl)) dX1_findFault_5 ⟨Nat.le_of_ble_eq_true rfl, Nat.le_of_ble_eq_true rfl⟩) hP hD hS hA [0, 1, 2] [] [0, 1, 2] rfl rfl rfl (by decide) rfl rfl (fun H locs hP hD hS => ?_)
  refine lv_iconst (v := (0 : Int32)) hx hb dX1_findFault_8 (by decide) ?_
  refine lv_istore_n (lv' := [(1, .int (0 : Int32)), (0, .ref (g 0))]) hx hb dX1_findFault_9 rfl hl (by decide) rfl (fun ls hl => ?_)
  exact hL10 400 (0 : Int32) r2 H _ _ hM hP hD hS (lv_sub hl [1, 0] rfl)
set_option maxHeartbeats 4000000 in
set_option maxRecDepth 100000 in
theorem c_X1_readNext (l : Launch) (dC : Nat → ClassId) (dI : Nat → Nat → Nat) (cI cD cJ : ClassId) (kk : wAd) (g : Nat → Nat) (x : TS) (out : Bool × TS) (hM : M_X1_readNext x = some out) : CMT kk l yX1_readNext wsX1_readNext ({ frames := 7, cells := 0, slots := 0, locals := 156 } : Room) dC dI (wTys cI cD cJ) [.ref (g 0)] (wTxt cI kk.1 g x) (some (.int (zI out.1))) (wTxt cI kk.1 g out.2) 0 0 := by
  refine wk_enterMT (cc := cX1_readNext) (maxL := 1) (ret := (some .boolean)) (by decide) rfl (Nat.le_of_ble_eq_true rfl) ?_
  intro p e s m below meth c A Q ls hB hT hA hP hD hQ hl
  obtain ⟨hx, hb, hml, hr, hts, hown, hname, hlocks, hG⟩ := hB
  have hown : s.vm.findClass RX1 = some m.cls := hown
  have hS : va_S A s.heap s.heap [] := va_S.rf
  have hl : lv_has ls 1 [(0, .ref (g 0))] := hl
  have inX1 : ∀ w ∈ wsX10, w ∈ wsX1_readNext := fun _ h => List.mem_cons_of_mem _ (List.mem_append_right _ h)
  obtain ⟨H, hH⟩ : ∃ z, z = s.heap := ⟨_, rfl⟩
  have hP : va_P (dC, dI) vwCl (wTxt cI kk.1 g x) H := by rw [hH]; exact hP
  have hS : va_S A s.heap H [] := by rw [hH]; exact hS
  refine wk_at hH ?_
  generalize ([] : List Loc) = locs at hS ⊢
  have hB28 : ∀ (w0 : Bool) (y0 : TS) (H : Heap) (locs : List Loc) (ls : Array Slot), M_X1_readNext_28 x w0 y0 = some out → va_P (dC, dI) vwCl (wTxt cI kk.1 g y0) H → va_D A (wTxt cI kk.1 g y0) → va_S A s.heap H locs → lv_has ls 1 [] → W p l e ({ frames := 7, cells := 0, slots := 0, locals := 156 } : Room) s m ([.ref (g 0)] : List Value).toArray below meth c H locs 0 0 Q (F0 m 28 ls [.int (zI w0)]) := by
    intro w0 y0 H locs ls hM hP hD hS hl
    unfold M_X1_readNext_28 at hM
    replace hM := Option.some.inj hM
    subst hM
    exact wk_retMi hx hb hr hlocks hQ (zI_nar _) rfl hP hD hS dX1_readNext_28
  have hB27 : ∀ (y0 : TS) (H : Heap) (locs : List Loc) (ls : Array Slot), M_X1_readNext_27 x y0 = some out → va_P (dC, dI) vwCl (wTxt cI kk.1 g y0) H → va_D A (wTxt cI kk.1 g y0) → va_S A s.heap H locs → lv_has ls 1 [] → W p l e ({ frames := 7, cells := 0, slots := 0, locals := 156 } : Room) s m ([.ref (g 0)] : List Value).toArray below meth c H locs 0 0 Q (F0 m 27 ls []) := by
    intro y0 H locs ls hM hP hD hS hl
    unfold M_X1_readNext_27 at hM
    refine lv_iconst (v := (0 : Int32)) hx hb dX1_readNext_27 (by decide) ?_
    exact hB28 false y0 H _ _ hM hP hD hS (lv_sub hl [] rfl)
  unfold M_X1_readNext at hM
  refine lv_aload_n hx hb dX1_readNext_0 rfl (lv_at hl 0 rfl) ?_
  obtain ⟨r1, hr1, hM⟩ := ob hM
  refine wk_callM (ws' := (wTxt cI kk.1 g r1)) (va_runV (As := []) (rest := []) ⟨hx, hb, hml, hown, hts⟩ (c_X1_skipSpaces l dC dI cI cD cJ kk g x _ hr1 H) (cwV 0 hts gX1_readNext_X1_skipSpaces rfl rfl rfl (by decide +kernel) ⟨Nat.le_of_ble_eq_true rfl, Nat.le_of_ble_eq_true rfl⟩) (wk_preV (ci := 0) (q0 := 0) hG hP hD [0, 1, 2] rfl rfl rfl rfl) rfl rfl hl.1 rfl (lv_room (Nat.le_of_ble_eq_true rfl)) dX1_readNext_1 ⟨Nat.le_of_ble_eq_true rfl, Nat.le_of_ble_eq_true rfl⟩) hP hD hS hA [0, 1, 2] [] [0, 1, 2] rfl rfl rfl (by decide) rfl rfl (fun H locs hP hD hS => ?_)
  refine lv_aload_n hx hb dX1_readNext_4 rfl (lv_at hl 0 rfl) ?_
  refine va_get (D := (dC, dI)) (ci := 0) (v := .int (ts_cur r1)) (C := RX1) (T := TX1) (N := 5) hx hb hts inX1 hown hG.1 hP 0 rfl rfl 3 (by decide) (hts (.fieldLink RX1 22 "WokenDrive$CommandText" "cursor" "I") (List.mem_of_getElem? (i := 1) rfl)) (fun _ h9 => h9) rfl dX1_readNext_5 ?_
  refine lv_aload_n hx hb dX1_readNext_8 rfl (lv_at hl 0 rfl) ?_
  refine va_get (D := (dC, dI)) (ci := 0) (v := .int (ts_len r1)) (C := RX1) (T := TX1) (N := 5) hx hb hts inX1 hown hG.1 hP 0 rfl rfl 2 (by decide) (hts (.fieldLink RX1 18 "WokenDrive$CommandText" "length" "I") (List.mem_of_getElem? (i := 2) rfl)) (fun _ h9 => h9) rfl dX1_readNext_9 ?_
  refine lv_icmp_ge (tgt := 27) hx hb dX1_readNext_12 (by decide) (fun c2 => ?_) (fun c2 => ?_)
  · replace hM := (if_pos c2).symm.trans hM
    exact hB27 r1 H _ _ hM hP hD hS (lv_sub hl [] rfl)
  · replace hM := (if_neg c2).symm.trans hM
    refine lv_aload_n hx hb dX1_readNext_15 rfl (lv_at hl 0 rfl) ?_
    obtain ⟨r3, hr3, hM⟩ := ob hM
    refine wk_callM (ws' := (wTxt cI kk.1 g r3.2)) (va_runV (As := []) (rest := []) ⟨hx, hb, hml, hown, hts⟩ (c_X1_readCommand l dC dI cI cD cJ kk g r1 _ hr3 H) (cwV 0 hts gX1_readNext_X1_readCommand rfl rfl rfl (by decide +kernel) ⟨Nat.le_of_ble_eq_true rfl, Nat.le_of_ble_eq_true rfl⟩) (wk_preVT (ci := 0) (q0 := 0) hG hP hD hT hS (fun _ h9 => h9) [0, 1, 2] rfl rfl rfl rfl (va_free hD hS hA [0, 1, 2] rfl)) rfl rfl hl.1 rfl (lv_room (Nat.le_of_ble_eq_true rfl)) dX1_readNext_16 ⟨Nat.le_of_ble_eq_true rfl, Nat.le_of_ble_eq_true rfl⟩) hP hD hS hA [0, 1, 2] [] [0, 1, 2] rfl rfl rfl (by decide) rfl rfl (fun H locs hP hD hS => ?_)
    refine lv_iconst (v := (-1 : Int32)) hx hb dX1_readNext_19 (by decide) ?_
    refine lv_icmp_ne (tgt := 27) hx hb dX1_readNext_20 (by decide) (fun c4 => ?_) (fun c4 => ?_)
    · replace hM := (if_neg c4).symm.trans hM
      exact hB27 r3.2 H _ _ hM hP hD hS (lv_sub hl [] rfl)
    · replace hM := (if_pos c4).symm.trans hM
      refine lv_iconst (v := (1 : Int32)) hx hb dX1_readNext_23 (by decide) ?_
      refine lv_goto (tgt := 28) hx hb dX1_readNext_24 (by decide) ?_
      exact hB28 true r3.2 H _ _ hM hP hD hS (lv_sub hl [] rfl)
