/-! PART 18: Drive, second half -/
set_option maxHeartbeats 4000000 in
set_option maxRecDepth 100000 in
theorem c_X3_countIn (l : Launch) (dC : Nat → ClassId) (dI : Nat → Nat → Nat) (cI cD cJ : ClassId) (kk : wAd) (g : Nat → Nat) (x : DS) (p1 : Int32) (out : Int32) (hM : M_X3_countIn x p1 = some out) : CP l yX3_countIn wsX3_countIn ({ frames := 1, cells := 0, slots := 0, locals := 23 } : Room) dC dI (wTys cI cD cJ) [.ref (g 0), .int p1] (wDrv cI g x) (some (.int out)) := by
  refine wk_enterP (cc := cX3_countIn) (maxL := 4) (ret := (some .int)) (by decide) rfl (Nat.le_of_ble_eq_true rfl) ?_
  intro p e s m below meth c A Q ls hB hP hD hA hQ hl
  obtain ⟨hx, hb, hml, hr, hts, hown, hname, hlocks, hG⟩ := hB
  have hown : s.vm.findClass RX3 = some m.cls := hown
  have hS : va_S A s.heap s.heap [] := va_S.rf
  have hl : lv_has ls 4 [(0, .ref (g 0)), (1, .int p1)] := hl
  have inX3 : ∀ w ∈ wsX30, w ∈ wsX3_countIn := fun _ h => List.mem_cons_of_mem _ (List.mem_append_right _ h)
  generalize ([] : List Loc) = locs at hS ⊢
  have hL4 : ∀ (n4 : Nat) (u2 : Int32) (u3 : Int32) (locs : List Loc) (ls : Array Slot), lpF (M_X3_countIn_4s x p1) n4 (u2, u3) = some out → va_S A s.heap s.heap locs → lv_has ls 4 [(0, .ref (g 0)), (1, .int p1), (2, .int u2), (3, .int u3)] → W p l e ({ frames := 1, cells := 0, slots := 0, locals := 23 } : Room) s m ([.ref (g 0), .int p1] : List Value).toArray below meth c s.heap locs 0 0 Q (F0 m 4 ls []) := by
    intro n4
    induction n4 with
    | zero => intro u2 u3 locs ls hM; exact lpF_0 hM
    | succ n4 ih4 =>
      have hB25 : ∀ (u2 : Int32) (u3 : Int32) (locs : List Loc) (ls : Array Slot), M_X3_countIn_25 x p1 (lpF (M_X3_countIn_4s x p1) n4) u2 u3 = some out → va_S A s.heap s.heap locs → lv_has ls 4 [(0, .ref (g 0)), (1, .int p1), (2, .int u2), (3, .int u3)] → W p l e ({ frames := 1, cells := 0, slots := 0, locals := 23 } : Room) s m ([.ref (g 0), .int p1] : List Value).toArray below meth c s.heap locs 0 0 Q (F0 m 25 ls []) := by
        intro u2 u3 locs ls hM hS hl
        unfold M_X3_countIn_25 at hM
        refine lv_iinc (v := (u3 + 1)) (lv' := [(3, .int (u3 + 1)), (0, .ref (g 0)), (1, .int p1), (2, .int u2)]) hx hb dX3_countIn_25 hl (k := 3) rfl rfl (by decide) rfl (fun ls hl => ?_)
        refine lv_goto (tgt := 4) hx hb dX3_countIn_28 (by decide) ?_
        exact ih4 u2 (u3 + 1)  _ _ hM hS (lv_sub hl [1, 2, 3, 0] rfl)
      intro u2 u3 locs ls hM hS hl
      replace hM : M_X3_countIn_4s x p1 (lpF (M_X3_countIn_4s x p1) n4) (u2, u3) = some out := hM
      unfold M_X3_countIn_4s at hM
      try dsimp only at hM
      refine lv_iload_n hx hb dX3_countIn_4 rfl (lv_at hl 3 rfl) ?_
      refine lv_aload_n hx hb dX3_countIn_5 rfl (lv_at hl 0 rfl) ?_
      refine va_get (D := (dC, dI)) (ci := 2) (v := .int (ds_ord x)) (C := RX3) (T := TX3) (N := 8) hx hb hts inX3 hown hG.1 hP 0 rfl rfl 4 (by decide) (hts (.fieldLink RX3 28 "WokenDrive$Drive" "orders" "I") (List.mem_of_getElem? (i := 1) rfl)) (fun _ h9 => h9) rfl dX3_countIn_6 ?_
      refine lv_icmp_ge (tgt := 31) hx hb dX3_countIn_9 (by decide) (fun c1 => ?_) (fun c1 => ?_)
      · replace hM := (if_pos c1).symm.trans hM
        refine lv_iload_n hx hb dX3_countIn_31 rfl (lv_at hl 2 rfl) ?_
        replace hM := Option.some.inj hM
        subst hM
        exact wk_retPi hx hb hr hlocks hQ rfl rfl hS dX3_countIn_32
      · replace hM := (if_neg c1).symm.trans hM
        refine lv_aload_n hx hb dX3_countIn_12 rfl (lv_at hl 0 rfl) ?_
        refine lv_iload_n hx hb dX3_countIn_13 rfl (lv_at hl 3 rfl) ?_
        refine lv_iconst (v := (5 : Int32)) hx hb dX3_countIn_14 (by decide) ?_
        refine wk_callP (va_runV (As := [.int u3, .int (5 : Int32)]) (rest := []) ⟨hx, hb, hml, hown, hts⟩ (c_X3_fact l dC dI cI cD cJ kk g x u3 (5 : Int32) _ rfl s.heap) (cwV 2 hts gX3_countIn_X3_fact rfl rfl rfl (by decide +kernel) ⟨Nat.le_of_ble_eq_true rfl, Nat.le_of_ble_eq_true rfl⟩) (wk_preV (ci := 2) (q0 := 0) hG hP hD [0, 1, 2, 3, 4] rfl rfl rfl rfl) rfl rfl hl.1 rfl (lv_room (Nat.le_of_ble_eq_true rfl)) dX3_countIn_15 ⟨Nat.le_of_ble_eq_true rfl, Nat.le_of_ble_eq_true rfl⟩) hS (fun locs hS => ?_)
        refine lv_iload_n hx hb dX3_countIn_18 rfl (lv_at hl 1 rfl) ?_
        refine lv_icmp_ne (tgt := 25) hx hb dX3_countIn_19 (by decide) (fun c2 => ?_) (fun c2 => ?_)
        · replace hM := (if_neg c2).symm.trans hM
          exact hB25 u2 u3  _ _ hM hS (lv_sub hl [0, 1, 2, 3] rfl)
        · replace hM := (if_pos c2).symm.trans hM
          refine lv_iinc (v := (u2 + 1)) (lv' := [(2, .int (u2 + 1)), (0, .ref (g 0)), (1, .int p1), (3, .int u3)]) hx hb dX3_countIn_22 hl (k := 2) rfl rfl (by decide) rfl (fun ls hl => ?_)
          exact hB25 (u2 + 1) u3  _ _ hM hS (lv_sub hl [1, 2, 0, 3] rfl)
  unfold M_X3_countIn at hM
  refine lv_iconst (v := (0 : Int32)) hx hb dX3_countIn_0 (by decide) ?_
  refine lv_istore_n (lv' := [(2, .int (0 : Int32)), (0, .ref (g 0)), (1, .int p1)]) hx hb dX3_countIn_1 rfl hl (by decide) rfl (fun ls hl => ?_)
  refine lv_iconst (v := (0 : Int32)) hx hb dX3_countIn_2 (by decide) ?_
  refine lv_istore_n (lv' := [(3, .int (0 : Int32)), (2, .int (0 : Int32)), (0, .ref (g 0)), (1, .int p1)]) hx hb dX3_countIn_3 rfl hl (by decide) rfl (fun ls hl => ?_)
  exact hL4 64 (0 : Int32) (0 : Int32)  _ _ hM hS (lv_sub hl [2, 3, 1, 0] rfl)
set_option maxHeartbeats 4000000 in
set_option maxRecDepth 100000 in
theorem c_X3_hasOpenOrder (l : Launch) (dC : Nat → ClassId) (dI : Nat → Nat → Nat) (cI cD cJ : ClassId) (kk : wAd) (g : Nat → Nat) (x : DS) (out : Bool) (hM : M_X3_hasOpenOrder x = some out) : CP l yX3_hasOpenOrder wsX3_hasOpenOrder ({ frames := 2, cells := 0, slots := 0, locals := 46 } : Room) dC dI (wTys cI cD cJ) [.ref (g 0)] (wDrv cI g x) (some (.int (zI out))) := by
  refine wk_enterP (cc := cX3_hasOpenOrder) (maxL := 1) (ret := (some .boolean)) (by decide) rfl (Nat.le_of_ble_eq_true rfl) ?_
  intro p e s m below meth c A Q ls hB hP hD hA hQ hl
  obtain ⟨hx, hb, hml, hr, hts, hown, hname, hlocks, hG⟩ := hB
  have hown : s.vm.findClass RX3 = some m.cls := hown
  have hS : va_S A s.heap s.heap [] := va_S.rf
  have hl : lv_has ls 1 [(0, .ref (g 0))] := hl
  generalize ([] : List Loc) = locs at hS ⊢
  have hB19 : ∀ (w0 : Bool) (locs : List Loc) (ls : Array Slot), M_X3_hasOpenOrder_19 x w0 = some out → va_S A s.heap s.heap locs → lv_has ls 1 [] → W p l e ({ frames := 2, cells := 0, slots := 0, locals := 46 } : Room) s m ([.ref (g 0)] : List Value).toArray below meth c s.heap locs 0 0 Q (F0 m 19 ls [.int (zI w0)]) := by
    intro w0 locs ls hM hS hl
    unfold M_X3_hasOpenOrder_19 at hM
    replace hM := Option.some.inj hM
    subst hM
    exact wk_retPi hx hb hr hlocks hQ (zI_nar _) rfl hS dX3_hasOpenOrder_19
  unfold M_X3_hasOpenOrder at hM
  refine lv_aload_n hx hb dX3_hasOpenOrder_0 rfl (lv_at hl 0 rfl) ?_
  refine lv_iconst (v := (0 : Int32)) hx hb dX3_hasOpenOrder_1 (by decide) ?_
  obtain ⟨r1, hr1, hM⟩ := ob hM
  refine wk_callP (va_runV (As := [.int (0 : Int32)]) (rest := []) ⟨hx, hb, hml, hown, hts⟩ (c_X3_countIn l dC dI cI cD cJ kk g x (0 : Int32) _ hr1 s.heap) (cwV 1 hts gX3_hasOpenOrder_X3_countIn rfl rfl rfl (by decide +kernel) ⟨Nat.le_of_ble_eq_true rfl, Nat.le_of_ble_eq_true rfl⟩) (wk_preV (ci := 2) (q0 := 0) hG hP hD [0, 1, 2, 3, 4] rfl rfl rfl rfl) rfl rfl hl.1 rfl (lv_room (Nat.le_of_ble_eq_true rfl)) dX3_hasOpenOrder_2 ⟨Nat.le_of_ble_eq_true rfl, Nat.le_of_ble_eq_true rfl⟩) hS (fun locs hS => ?_)
  refine lv_aload_n hx hb dX3_hasOpenOrder_5 rfl (lv_at hl 0 rfl) ?_
  refine lv_iconst (v := (1 : Int32)) hx hb dX3_hasOpenOrder_6 (by decide) ?_
  obtain ⟨r2, hr2, hM⟩ := ob hM
  refine wk_callP (va_runV (As := [.int (1 : Int32)]) (rest := [.int r1]) ⟨hx, hb, hml, hown, hts⟩ (c_X3_countIn l dC dI cI cD cJ kk g x (1 : Int32) _ hr2 s.heap) (cwV 1 hts gX3_hasOpenOrder_X3_countIn rfl rfl rfl (by decide +kernel) ⟨Nat.le_of_ble_eq_true rfl, Nat.le_of_ble_eq_true rfl⟩) (wk_preV (ci := 2) (q0 := 0) hG hP hD [0, 1, 2, 3, 4] rfl rfl rfl rfl) rfl rfl hl.1 rfl (lv_room (Nat.le_of_ble_eq_true rfl)) dX3_hasOpenOrder_7 ⟨Nat.le_of_ble_eq_true rfl, Nat.le_of_ble_eq_true rfl⟩) hS (fun locs hS => ?_)
  refine lv_iadd hx hb dX3_hasOpenOrder_10 ?_
  refine lv_if_le (tgt := 18) hx hb dX3_hasOpenOrder_11 (by decide) (fun c3 => ?_) (fun c3 => ?_)
  · replace hM := (if_pos c3).symm.trans hM
    refine lv_iconst (v := (0 : Int32)) hx hb dX3_hasOpenOrder_18 (by decide) ?_
    exact hB19 false  _ _ hM hS (lv_sub hl [] rfl)
  · replace hM := (if_neg c3).symm.trans hM
    refine lv_iconst (v := (1 : Int32)) hx hb dX3_hasOpenOrder_14 (by decide) ?_
    refine lv_goto (tgt := 19) hx hb dX3_hasOpenOrder_15 (by decide) ?_
    exact hB19 true  _ _ hM hS (lv_sub hl [] rfl)
set_option maxHeartbeats 4000000 in
set_option maxRecDepth 100000 in
theorem c_X3_isTorn (l : Launch) (dC : Nat → ClassId) (dI : Nat → Nat → Nat) (cI cD cJ : ClassId) (kk : wAd) (g : Nat → Nat) (x : DS) (out : Bool) (hM : M_X3_isTorn x = out) : CP l yX3_isTorn wsX3_isTorn ({ frames := 1, cells := 0, slots := 0, locals := 23 } : Room) dC dI (wTys cI cD cJ) [.ref (g 0)] (wDrv cI g x) (some (.int (zI out))) := by
  refine wk_enterP (cc := cX3_isTorn) (maxL := 1) (ret := (some .boolean)) (by decide) rfl (Nat.le_of_ble_eq_true rfl) ?_
  intro p e s m below meth c A Q ls hB hP hD hA hQ hl
  obtain ⟨hx, hb, hml, hr, hts, hown, hname, hlocks, hG⟩ := hB
  have hown : s.vm.findClass RX3 = some m.cls := hown
  have hS : va_S A s.heap s.heap [] := va_S.rf
  have hl : lv_has ls 1 [(0, .ref (g 0))] := hl
  have inX3 : ∀ w ∈ wsX30, w ∈ wsX3_isTorn := fun _ h => List.mem_cons_of_mem _ (List.mem_append_right _ h)
  generalize ([] : List Loc) = locs at hS ⊢
  have hB26 : ∀ (w0 : Bool) (locs : List Loc) (ls : Array Slot), M_X3_isTorn_26 x w0 = out → va_S A s.heap s.heap locs → lv_has ls 1 [] → W p l e ({ frames := 1, cells := 0, slots := 0, locals := 23 } : Room) s m ([.ref (g 0)] : List Value).toArray below meth c s.heap locs 0 0 Q (F0 m 26 ls [.int (zI w0)]) := by
    intro w0 locs ls hM hS hl
    unfold M_X3_isTorn_26 at hM
    subst hM
    exact wk_retPi hx hb hr hlocks hQ (zI_nar _) rfl hS dX3_isTorn_26
  have hB25 : ∀  (locs : List Loc) (ls : Array Slot), M_X3_isTorn_25 x = out → va_S A s.heap s.heap locs → lv_has ls 1 [] → W p l e ({ frames := 1, cells := 0, slots := 0, locals := 23 } : Room) s m ([.ref (g 0)] : List Value).toArray below meth c s.heap locs 0 0 Q (F0 m 25 ls []) := by
    intro  locs ls hM hS hl
    unfold M_X3_isTorn_25 at hM
    refine lv_iconst (v := (0 : Int32)) hx hb dX3_isTorn_25 (by decide) ?_
    exact hB26 false  _ _ hM hS (lv_sub hl [] rfl)
  unfold M_X3_isTorn at hM
  refine lv_aload_n hx hb dX3_isTorn_0 rfl (lv_at hl 0 rfl) ?_
  refine va_get (D := (dC, dI)) (ci := 2) (v := .int (ds_mo x)) (C := RX3) (T := TX3) (N := 8) hx hb hts inX3 hown hG.1 hP 0 rfl rfl 6 (by decide) (hts (.fieldLink RX3 35 "WokenDrive$Drive" "markerOrder" "I") (List.mem_of_getElem? (i := 1) rfl)) (fun _ h9 => h9) rfl dX3_isTorn_1 ?_
  refine lv_iconst (v := (-1 : Int32)) hx hb dX3_isTorn_4 (by decide) ?_
  refine lv_icmp_eq (tgt := 25) hx hb dX3_isTorn_5 (by decide) (fun c1 => ?_) (fun c1 => ?_)
  · replace hM := (if_pos c1).symm.trans hM
    exact hB25   _ _ hM hS (lv_sub hl [] rfl)
  · replace hM := (if_neg c1).symm.trans hM
    refine lv_aload_n hx hb dX3_isTorn_8 rfl (lv_at hl 0 rfl) ?_
    refine lv_aload_n hx hb dX3_isTorn_9 rfl (lv_at hl 0 rfl) ?_
    refine va_get (D := (dC, dI)) (ci := 2) (v := .int (ds_mo x)) (C := RX3) (T := TX3) (N := 8) hx hb hts inX3 hown hG.1 hP 0 rfl rfl 6 (by decide) (hts (.fieldLink RX3 35 "WokenDrive$Drive" "markerOrder" "I") (List.mem_of_getElem? (i := 1) rfl)) (fun _ h9 => h9) rfl dX3_isTorn_10 ?_
    refine lv_iconst (v := (5 : Int32)) hx hb dX3_isTorn_13 (by decide) ?_
    refine wk_callP (va_runV (As := [.int (ds_mo x), .int (5 : Int32)]) (rest := []) ⟨hx, hb, hml, hown, hts⟩ (c_X3_fact l dC dI cI cD cJ kk g x (ds_mo x) (5 : Int32) _ rfl s.heap) (cwV 2 hts gX3_isTorn_X3_fact rfl rfl rfl (by decide +kernel) ⟨Nat.le_of_ble_eq_true rfl, Nat.le_of_ble_eq_true rfl⟩) (wk_preV (ci := 2) (q0 := 0) hG hP hD [0, 1, 2, 3, 4] rfl rfl rfl rfl) rfl rfl hl.1 rfl (lv_room (Nat.le_of_ble_eq_true rfl)) dX3_isTorn_14 ⟨Nat.le_of_ble_eq_true rfl, Nat.le_of_ble_eq_true rfl⟩) hS (fun locs hS => ?_)
    refine lv_iconst (v := (1 : Int32)) hx hb dX3_isTorn_17 (by decide) ?_
    refine lv_icmp_ne (tgt := 25) hx hb dX3_isTorn_18 (by decide) (fun c2 => ?_) (fun c2 => ?_)
    · replace hM := (if_neg c2).symm.trans hM
      exact hB25   _ _ hM hS (lv_sub hl [] rfl)
    · replace hM := (if_pos c2).symm.trans hM
      refine lv_iconst (v := (1 : Int32)) hx hb dX3_isTorn_21 (by decide) ?_
      refine lv_goto (tgt := 26) hx hb dX3_isTorn_22 (by decide) ?_
      exact hB26 true  _ _ hM hS (lv_sub hl [] rfl)
set_option maxHeartbeats 4000000 in
set_option maxRecDepth 100000 in
theorem c_X3_resultOn_v (l : Launch) (dC : Nat → ClassId) (dI : Nat → Nat → Nat) (cI cD cJ : ClassId) (kk : wAd) (g : Nat → Nat) (x : DS) (p2 : Int32) (out : Int32) (hM : M_X3_resultOn_v x p2 = out) : CP l yX3_resultOn wsX3_resultOn ({ frames := 1, cells := 0, slots := 0, locals := 23 } : Room) dC dI (wTys cI cD cJ) [.ref (g 0), .ref (g 1), .int p2] (wDrv cI g x) (some (.int out)) := by
  refine wk_enterP (cc := cX3_resultOn) (maxL := 5) (ret := (some .int)) (by decide) rfl (Nat.le_of_ble_eq_true rfl) ?_
  intro p e s m below meth c A Q ls hB hP hD hA hQ hl
  obtain ⟨hx, hb, hml, hr, hts, hown, hname, hlocks, hG⟩ := hB
  have hown : s.vm.findClass RX3 = some m.cls := hown
  have hS : va_S A s.heap s.heap [] := va_S.rf
  have hl : lv_has ls 5 [(0, .ref (g 0)), (1, .ref (g 1)), (2, .int p2)] := hl
  have inX3 : ∀ w ∈ wsX30, w ∈ wsX3_resultOn := fun _ h => List.mem_cons_of_mem _ (List.mem_append_right _ h)
  generalize ([] : List Loc) = locs at hS ⊢
  have hB73 : ∀ (u4 : Int32) (w0 : Int32) (locs : List Loc) (ls : Array Slot), M_X3_resultOn_v_73 x p2 u4 w0 = out → va_S A s.heap s.heap locs → lv_has ls 5 [(4, .int u4)] → W p l e ({ frames := 1, cells := 0, slots := 0, locals := 23 } : Room) s m ([.ref (g 0), .ref (g 1), .int p2] : List Value).toArray below meth c s.heap locs 0 0 Q (F0 m 73 ls [.int w0]) := by
    intro u4 w0 locs ls hM hS hl
    unfold M_X3_resultOn_v_73 at hM
    refine lv_iload hx hb dX3_resultOn_73 (lv_at hl 0 rfl) ?_
    refine lv_iadd hx hb dX3_resultOn_75 ?_
    subst hM
    exact wk_retPi hx hb hr hlocks hQ rfl rfl hS dX3_resultOn_76
  unfold M_X3_resultOn_v at hM
  refine lv_aload_n hx hb dX3_resultOn_0 rfl (lv_at hl 0 rfl) ?_
  refine lv_iload_n hx hb dX3_resultOn_1 rfl (lv_at hl 2 rfl) ?_
  refine lv_iconst (v := (3 : Int32)) hx hb dX3_resultOn_2 (by decide) ?_
  refine wk_callP (va_runV (As := [.int p2, .int (3 : Int32)]) (rest := []) ⟨hx, hb, hml, hown, hts⟩ (c_X3_fact l dC dI cI cD cJ kk g x p2 (3 : Int32) _ rfl s.heap) (cwV 2 hts gX3_resultOn_X3_fact rfl rfl rfl (by decide +kernel) ⟨Nat.le_of_ble_eq_true rfl, Nat.le_of_ble_eq_true rfl⟩) (wk_preV (ci := 2) (q0 := 0) hG hP hD [0, 1, 2, 3, 4] rfl rfl rfl rfl) rfl rfl hl.1 rfl (lv_room (Nat.le_of_ble_eq_true rfl)) dX3_resultOn_3 ⟨Nat.le_of_ble_eq_true rfl, Nat.le_of_ble_eq_true rfl⟩) hS (fun locs hS => ?_)
  refine lv_istore_n (lv' := [(3, .int (M_X3_fact x p2 (3 : Int32))), (0, .ref (g 0)), (1, .ref (g 1)), (2, .int p2)]) hx hb dX3_resultOn_6 rfl hl (by decide) rfl (fun ls hl => ?_)
  refine lv_aload_n hx hb dX3_resultOn_7 rfl (lv_at hl 1 rfl) ?_
  refine lv_iload_n hx hb dX3_resultOn_8 rfl (lv_at hl 3 rfl) ?_
  refine lv_iconst (v := (4 : Int32)) hx hb dX3_resultOn_9 (by decide) ?_
  refine wk_callP (va_runV (As := [.int p2, .int (4 : Int32)]) (rest := []) ⟨hx, hb, hml, hown, hts⟩ (c_X3_fact l dC dI cI cD cJ kk g x p2 (4 : Int32) _ rfl s.heap) (cwV 2 hts gX3_resultOn_X3_fact rfl rfl rfl (by decide +kernel) ⟨Nat.le_of_ble_eq_true rfl, Nat.le_of_ble_eq_true rfl⟩) (wk_preV (ci := 2) (q0 := 0) hG hP hD [0, 1, 2, 3, 4] rfl rfl rfl rfl) rfl rfl hl.1 rfl (lv_room (Nat.le_of_ble_eq_true rfl)) dX3_resultOn_10 ⟨Nat.le_of_ble_eq_true rfl, Nat.le_of_ble_eq_true rfl⟩) hS (fun locs hS => ?_)
  refine lv_istore (lv' := [(4, .int (M_X3_fact x p2 (4 : Int32))), (3, .int (M_X3_fact x p2 (3 : Int32))), (0, .ref (g 0)), (1, .ref (g 1)), (2, .int p2)]) hx hb dX3_resultOn_13 hl (by decide) rfl (fun ls hl => ?_)
  refine lv_aload_n hx hb dX3_resultOn_15 rfl (lv_at hl 2 rfl) ?_
  refine lv_iload_n hx hb dX3_resultOn_16 rfl (lv_at hl 4 rfl) ?_
  refine lv_iconst (v := (2 : Int32)) hx hb dX3_resultOn_17 (by decide) ?_
  refine wk_callP (va_runV (As := [.int p2, .int (2 : Int32)]) (rest := []) ⟨hx, hb, hml, hown, hts⟩ (c_X3_fact l dC dI cI cD cJ kk g x p2 (2 : Int32) _ rfl s.heap) (cwV 2 hts gX3_resultOn_X3_fact rfl rfl rfl (by decide +kernel) ⟨Nat.le_of_ble_eq_true rfl, Nat.le_of_ble_eq_true rfl⟩) (wk_preV (ci := 2) (q0 := 0) hG hP hD [0, 1, 2, 3, 4] rfl rfl rfl rfl) rfl rfl hl.1 rfl (lv_room (Nat.le_of_ble_eq_true rfl)) dX3_resultOn_18 ⟨Nat.le_of_ble_eq_true rfl, Nat.le_of_ble_eq_true rfl⟩) hS (fun locs hS => ?_)
  by_cases c1 : (M_X3_fact x p2 (2 : Int32)) = 0
  · replace hM := (if_pos c1).symm.trans hM
    refine lv_tableIn (off := 27) (tgt := 48) hx hb dX3_resultOn_21 (by rw [c1]; decide) (by rw [c1]; decide) (by rw [c1]; decide) (by decide) ?_
    refine lv_iload hx hb dX3_resultOn_48 (lv_at hl 0 rfl) ?_
    subst hM
    exact wk_retPi hx hb hr hlocks hQ rfl rfl hS dX3_resultOn_50
  replace hM := (if_neg c1).symm.trans hM
  by_cases c2 : (M_X3_fact x p2 (2 : Int32)) = 1
  · replace hM := (if_pos c2).symm.trans hM
    refine lv_tableIn (off := 30) (tgt := 51) hx hb dX3_resultOn_21 (by rw [c2]; decide) (by rw [c2]; decide) (by rw [c2]; decide) (by decide) ?_
    refine lv_aload_n hx hb dX3_resultOn_51 rfl (lv_at hl 2 rfl) ?_
    refine lv_iload_n hx hb dX3_resultOn_52 rfl (lv_at hl 4 rfl) ?_
    refine lv_iconst (v := (5 : Int32)) hx hb dX3_resultOn_53 (by decide) ?_
    refine wk_callP (va_runV (As := [.int p2, .int (5 : Int32)]) (rest := []) ⟨hx, hb, hml, hown, hts⟩ (c_X3_fact l dC dI cI cD cJ kk g x p2 (5 : Int32) _ rfl s.heap) (cwV 2 hts gX3_resultOn_X3_fact rfl rfl rfl (by decide +kernel) ⟨Nat.le_of_ble_eq_true rfl, Nat.le_of_ble_eq_true rfl⟩) (wk_preV (ci := 2) (q0 := 0) hG hP hD [0, 1, 2, 3, 4] rfl rfl rfl rfl) rfl rfl hl.1 rfl (lv_room (Nat.le_of_ble_eq_true rfl)) dX3_resultOn_54 ⟨Nat.le_of_ble_eq_true rfl, Nat.le_of_ble_eq_true rfl⟩) hS (fun locs hS => ?_)
    refine lv_iconst (v := (1 : Int32)) hx hb dX3_resultOn_57 (by decide) ?_
    refine lv_icmp_ne (tgt := 68) hx hb dX3_resultOn_58 (by decide) (fun c3 => ?_) (fun c3 => ?_)
    · replace hM := (if_neg c3).symm.trans hM
      refine lv_aload_n hx hb dX3_resultOn_68 rfl (lv_at hl 3 rfl) ?_
      refine lv_iload_n hx hb dX3_resultOn_69 rfl (lv_at hl 1 rfl) ?_
      refine wk_callP (va_runSN (As := [.ref (g 1), .int (M_X3_fact x p2 (3 : Int32))]) (rest := []) ⟨hx, hb, hml, hown, hts⟩ (c_X6_at l dC dI cI cD cJ kk (g 1) 16 (ds_val x) (M_X3_fact x p2 (3 : Int32)) (by decide) _ rfl s.heap) ⟨va_cnB 2 hts gX3_resultOn_X6_at_n162 rfl rfl rfl (hG.2 _ (List.mem_of_getElem? (i := 6) rfl)) (hts (.initialized RX6) (List.mem_of_getElem? (i := 9) rfl)) (by decide +kernel) ⟨Nat.le_of_ble_eq_true rfl, Nat.le_of_ble_eq_true rfl⟩, hts (.static yX6_at) (List.mem_of_getElem? (i := 8) rfl), trivial⟩ (wk_preS hG hP hD [1] rfl rfl) rfl rfl hl.1 rfl (lv_room (Nat.le_of_ble_eq_true rfl)) dX3_resultOn_70 ⟨Nat.le_of_ble_eq_true rfl, Nat.le_of_ble_eq_true rfl⟩) hS (fun locs hS => ?_)
      exact hB73 (M_X3_fact x p2 (4 : Int32)) (M_X6_at 16 (ds_val x) (M_X3_fact x p2 (3 : Int32)))  _ _ hM hS (lv_sub hl [0] rfl)
    · replace hM := (if_pos c3).symm.trans hM
      refine lv_aload_n hx hb dX3_resultOn_61 rfl (lv_at hl 2 rfl) ?_
      refine va_get (D := (dC, dI)) (ci := 2) (v := .int (ds_mv x)) (C := RX3) (T := TX3) (N := 8) hx hb hts inX3 hown hG.1 hP 0 rfl rfl 7 (by decide) (hts (.fieldLink RX3 38 "WokenDrive$Drive" "markerValue" "I") (List.mem_of_getElem? (i := 1) rfl)) (fun _ h9 => h9) rfl dX3_resultOn_62 ?_
      refine lv_goto (tgt := 73) hx hb dX3_resultOn_65 (by decide) ?_
      exact hB73 (M_X3_fact x p2 (4 : Int32)) (ds_mv x)  _ _ hM hS (lv_sub hl [0] rfl)
  replace hM := (if_neg c2).symm.trans hM
  by_cases c4 : (M_X3_fact x p2 (2 : Int32)) = 2
  · replace hM := (if_pos c4).symm.trans hM
    refine lv_tableIn (off := 56) (tgt := 77) hx hb dX3_resultOn_21 (by rw [c4]; decide) (by rw [c4]; decide) (by rw [c4]; decide) (by decide) ?_
    refine lv_aload_n hx hb dX3_resultOn_77 rfl (lv_at hl 3 rfl) ?_
    refine lv_iload hx hb dX3_resultOn_78 (lv_at hl 0 rfl) ?_
    refine wk_callP (va_runSN (As := [.ref (g 1), .int (M_X3_fact x p2 (4 : Int32))]) (rest := []) ⟨hx, hb, hml, hown, hts⟩ (c_X6_at l dC dI cI cD cJ kk (g 1) 16 (ds_val x) (M_X3_fact x p2 (4 : Int32)) (by decide) _ rfl s.heap) ⟨va_cnB 2 hts gX3_resultOn_X6_at_n162 rfl rfl rfl (hG.2 _ (List.mem_of_getElem? (i := 6) rfl)) (hts (.initialized RX6) (List.mem_of_getElem? (i := 9) rfl)) (by decide +kernel) ⟨Nat.le_of_ble_eq_true rfl, Nat.le_of_ble_eq_true rfl⟩, hts (.static yX6_at) (List.mem_of_getElem? (i := 8) rfl), trivial⟩ (wk_preS hG hP hD [1] rfl rfl) rfl rfl hl.1 rfl (lv_room (Nat.le_of_ble_eq_true rfl)) dX3_resultOn_80 ⟨Nat.le_of_ble_eq_true rfl, Nat.le_of_ble_eq_true rfl⟩) hS (fun locs hS => ?_)
    subst hM
    exact wk_retPi hx hb hr hlocks hQ rfl rfl hS dX3_resultOn_83
  replace hM := (if_neg c4).symm.trans hM
  have ec1 : ((M_X3_fact x p2 (2 : Int32))).toInt ≠ 0 := fun q => c1 (Int32.toInt_inj.mp (q.trans (by decide)))
  have ec2 : ((M_X3_fact x p2 (2 : Int32))).toInt ≠ 1 := fun q => c2 (Int32.toInt_inj.mp (q.trans (by decide)))
  have ec4 : ((M_X3_fact x p2 (2 : Int32))).toInt ≠ 2 := fun q => c4 (Int32.toInt_inj.mp (q.trans (by decide)))
  refine lv_tableOut (tgt := 84) hx hb dX3_resultOn_21 (by omega) (by decide) ?_
  refine lv_aload_n hx hb dX3_resultOn_84 rfl (lv_at hl 3 rfl) ?_
  refine lv_iload_n hx hb dX3_resultOn_85 rfl (lv_at hl 1 rfl) ?_
  refine wk_callP (va_runSN (As := [.ref (g 1), .int (M_X3_fact x p2 (3 : Int32))]) (rest := []) ⟨hx, hb, hml, hown, hts⟩ (c_X6_at l dC dI cI cD cJ kk (g 1) 16 (ds_val x) (M_X3_fact x p2 (3 : Int32)) (by decide) _ rfl s.heap) ⟨va_cnB 2 hts gX3_resultOn_X6_at_n162 rfl rfl rfl (hG.2 _ (List.mem_of_getElem? (i := 6) rfl)) (hts (.initialized RX6) (List.mem_of_getElem? (i := 9) rfl)) (by decide +kernel) ⟨Nat.le_of_ble_eq_true rfl, Nat.le_of_ble_eq_true rfl⟩, hts (.static yX6_at) (List.mem_of_getElem? (i := 8) rfl), trivial⟩ (wk_preS hG hP hD [1] rfl rfl) rfl rfl hl.1 rfl (lv_room (Nat.le_of_ble_eq_true rfl)) dX3_resultOn_86 ⟨Nat.le_of_ble_eq_true rfl, Nat.le_of_ble_eq_true rfl⟩) hS (fun locs hS => ?_)
  subst hM
  exact wk_retPi hx hb hr hlocks hQ rfl rfl hS dX3_resultOn_89
set_option maxHeartbeats 4000000 in
set_option maxRecDepth 100000 in
theorem c_X3_resultOn (l : Launch) (dC : Nat → ClassId) (dI : Nat → Nat → Nat) (cI cD cJ : ClassId) (kk : wAd) (g : Nat → Nat) (a1 : Nat) (x : DS) (x1 : (Nat → Int32)) (p2 : Int32) (out : Int32) (hM : M_X3_resultOn x x1 p2 = out) : CP l yX3_resultOn wsX3_resultOn ({ frames := 1, cells := 0, slots := 0, locals := 23 } : Room) dC dI (wTys cI cD cJ) [.ref (g 0), .ref a1, .int p2] (wDrv cI g x ++ wRow cI a1 16 x1) (some (.int out)) := by
  refine wk_enterP (cc := cX3_resultOn) (maxL := 5) (ret := (some .int)) (by decide) rfl (Nat.le_of_ble_eq_true rfl) ?_
  intro p e s m below meth c A Q ls hB hP hD hA hQ hl
  obtain ⟨hx, hb, hml, hr, hts, hown, hname, hlocks, hG⟩ := hB
  have hown : s.vm.findClass RX3 = some m.cls := hown
  have hS : va_S A s.heap s.heap [] := va_S.rf
  have hl : lv_has ls 5 [(0, .ref (g 0)), (1, .ref a1), (2, .int p2)] := hl
  have inX3 : ∀ w ∈ wsX30, w ∈ wsX3_resultOn := fun _ h => List.mem_cons_of_mem _ (List.mem_append_right _ h)
  generalize ([] : List Loc) = locs at hS ⊢
  have hB73 : ∀ (u4 : Int32) (w0 : Int32) (locs : List Loc) (ls : Array Slot), M_X3_resultOn_73 x x1 p2 u4 w0 = out → va_S A s.heap s.heap locs → lv_has ls 5 [(4, .int u4)] → W p l e ({ frames := 1, cells := 0, slots := 0, locals := 23 } : Room) s m ([.ref (g 0), .ref a1, .int p2] : List Value).toArray below meth c s.heap locs 0 0 Q (F0 m 73 ls [.int w0]) := by
    intro u4 w0 locs ls hM hS hl
    unfold M_X3_resultOn_73 at hM
    refine lv_iload hx hb dX3_resultOn_73 (lv_at hl 0 rfl) ?_
    refine lv_iadd hx hb dX3_resultOn_75 ?_
    subst hM
    exact wk_retPi hx hb hr hlocks hQ rfl rfl hS dX3_resultOn_76
  unfold M_X3_resultOn at hM
  refine lv_aload_n hx hb dX3_resultOn_0 rfl (lv_at hl 0 rfl) ?_
  refine lv_iload_n hx hb dX3_resultOn_1 rfl (lv_at hl 2 rfl) ?_
  refine lv_iconst (v := (3 : Int32)) hx hb dX3_resultOn_2 (by decide) ?_
  refine wk_callP (va_runV (As := [.int p2, .int (3 : Int32)]) (rest := []) ⟨hx, hb, hml, hown, hts⟩ (c_X3_fact l dC dI cI cD cJ kk g x p2 (3 : Int32) _ rfl s.heap) (cwV 2 hts gX3_resultOn_X3_fact rfl rfl rfl (by decide +kernel) ⟨Nat.le_of_ble_eq_true rfl, Nat.le_of_ble_eq_true rfl⟩) (wk_preV (ci := 2) (q0 := 0) hG hP hD [0, 1, 2, 3, 4] rfl rfl rfl rfl) rfl rfl hl.1 rfl (lv_room (Nat.le_of_ble_eq_true rfl)) dX3_resultOn_3 ⟨Nat.le_of_ble_eq_true rfl, Nat.le_of_ble_eq_true rfl⟩) hS (fun locs hS => ?_)
  refine lv_istore_n (lv' := [(3, .int (M_X3_fact x p2 (3 : Int32))), (0, .ref (g 0)), (1, .ref a1), (2, .int p2)]) hx hb dX3_resultOn_6 rfl hl (by decide) rfl (fun ls hl => ?_)
  refine lv_aload_n hx hb dX3_resultOn_7 rfl (lv_at hl 1 rfl) ?_
  refine lv_iload_n hx hb dX3_resultOn_8 rfl (lv_at hl 3 rfl) ?_
  refine lv_iconst (v := (4 : Int32)) hx hb dX3_resultOn_9 (by decide) ?_
  refine wk_callP (va_runV (As := [.int p2, .int (4 : Int32)]) (rest := []) ⟨hx, hb, hml, hown, hts⟩ (c_X3_fact l dC dI cI cD cJ kk g x p2 (4 : Int32) _ rfl s.heap) (cwV 2 hts gX3_resultOn_X3_fact rfl rfl rfl (by decide +kernel) ⟨Nat.le_of_ble_eq_true rfl, Nat.le_of_ble_eq_true rfl⟩) (wk_preV (ci := 2) (q0 := 0) hG hP hD [0, 1, 2, 3, 4] rfl rfl rfl rfl) rfl rfl hl.1 rfl (lv_room (Nat.le_of_ble_eq_true rfl)) dX3_resultOn_10 ⟨Nat.le_of_ble_eq_true rfl, Nat.le_of_ble_eq_true rfl⟩) hS (fun locs hS => ?_)
  refine lv_istore (lv' := [(4, .int (M_X3_fact x p2 (4 : Int32))), (3, .int (M_X3_fact x p2 (3 : Int32))), (0, .ref (g 0)), (1, .ref a1), (2, .int p2)]) hx hb dX3_resultOn_13 hl (by decide) rfl (fun ls hl => ?_)
  refine lv_aload_n hx hb dX3_resultOn_15 rfl (lv_at hl 2 rfl) ?_
  refine lv_iload_n hx hb dX3_resultOn_16 rfl (lv_at hl 4 rfl) ?_
  refine lv_iconst (v := (2 : Int32)) hx hb dX3_resultOn_17 (by decide) ?_
  refine wk_callP (va_runV (As := [.int p2, .int (2 : Int32)]) (rest := []) ⟨hx, hb, hml, hown, hts⟩ (c_X3_fact l dC dI cI cD cJ kk g x p2 (2 : Int32) _ rfl s.heap) (cwV 2 hts gX3_resultOn_X3_fact rfl rfl rfl (by decide +kernel) ⟨Nat.le_of_ble_eq_true rfl, Nat.le_of_ble_eq_true rfl⟩) (wk_preV (ci := 2) (q0 := 0) hG hP hD [0, 1, 2, 3, 4] rfl rfl rfl rfl) rfl rfl hl.1 rfl (lv_room (Nat.le_of_ble_eq_true rfl)) dX3_resultOn_18 ⟨Nat.le_of_ble_eq_true rfl, Nat.le_of_ble_eq_true rfl⟩) hS (fun locs hS => ?_)
  by_cases c1 : (M_X3_fact x p2 (2 : Int32)) = 0
  · replace hM := (if_pos c1).symm.trans hM
    refine lv_tableIn (off := 27) (tgt := 48) hx hb dX3_resultOn_21 (by rw [c1]; decide) (by rw [c1]; decide) (by rw [c1]; decide) (by decide) ?_
    refine lv_iload hx hb dX3_resultOn_48 (lv_at hl 0 rfl) ?_
    subst hM
    exact wk_retPi hx hb hr hlocks hQ rfl rfl hS dX3_resultOn_50
  replace hM := (if_neg c1).symm.trans hM
  by_cases c2 : (M_X3_fact x p2 (2 : Int32)) = 1
  · replace hM := (if_pos c2).symm.trans hM
    refine lv_tableIn (off := 30) (tgt := 51) hx hb dX3_resultOn_21 (by rw [c2]; decide) (by rw [c2]; decide) (by rw [c2]; decide) (by decide) ?_
    refine lv_aload_n hx hb dX3_resultOn_51 rfl (lv_at hl 2 rfl) ?_
    refine lv_iload_n hx hb dX3_resultOn_52 rfl (lv_at hl 4 rfl) ?_
    refine lv_iconst (v := (5 : Int32)) hx hb dX3_resultOn_53 (by decide) ?_
    refine wk_callP (va_runV (As := [.int p2, .int (5 : Int32)]) (rest := []) ⟨hx, hb, hml, hown, hts⟩ (c_X3_fact l dC dI cI cD cJ kk g x p2 (5 : Int32) _ rfl s.heap) (cwV 2 hts gX3_resultOn_X3_fact rfl rfl rfl (by decide +kernel) ⟨Nat.le_of_ble_eq_true rfl, Nat.le_of_ble_eq_true rfl⟩) (wk_preV (ci := 2) (q0 := 0) hG hP hD [0, 1, 2, 3, 4] rfl rfl rfl rfl) rfl rfl hl.1 rfl (lv_room (Nat.le_of_ble_eq_true rfl)) dX3_resultOn_54 ⟨Nat.le_of_ble_eq_true rfl, Nat.le_of_ble_eq_true rfl⟩) hS (fun locs hS => ?_)
    refine lv_iconst (v := (1 : Int32)) hx hb dX3_resultOn_57 (by decide) ?_
    refine lv_icmp_ne (tgt := 68) hx hb dX3_resultOn_58 (by decide) (fun c3 => ?_) (fun c3 => ?_)
    · replace hM := (if_neg c3).symm.trans hM
      refine lv_aload_n hx hb dX3_resultOn_68 rfl (lv_at hl 3 rfl) ?_
      refine lv_iload_n hx hb dX3_resultOn_69 rfl (lv_at hl 1 rfl) ?_
      refine wk_callP (va_runSN (As := [.ref a1, .int (M_X3_fact x p2 (3 : Int32))]) (rest := []) ⟨hx, hb, hml, hown, hts⟩ (c_X6_at l dC dI cI cD cJ kk a1 16 x1 (M_X3_fact x p2 (3 : Int32)) (by decide) _ rfl s.heap) ⟨va_cnB 2 hts gX3_resultOn_X6_at_n162 rfl rfl rfl (hG.2 _ (List.mem_of_getElem? (i := 6) rfl)) (hts (.initialized RX6) (List.mem_of_getElem? (i := 9) rfl)) (by decide +kernel) ⟨Nat.le_of_ble_eq_true rfl, Nat.le_of_ble_eq_true rfl⟩, hts (.static yX6_at) (List.mem_of_getElem? (i := 8) rfl), trivial⟩ (wk_preS hG hP hD [5] rfl rfl) rfl rfl hl.1 rfl (lv_room (Nat.le_of_ble_eq_true rfl)) dX3_resultOn_70 ⟨Nat.le_of_ble_eq_true rfl, Nat.le_of_ble_eq_true rfl⟩) hS (fun locs hS => ?_)
      exact hB73 (M_X3_fact x p2 (4 : Int32)) (M_X6_at 16 x1 (M_X3_fact x p2 (3 : Int32)))  _ _ hM hS (lv_sub hl [0] rfl)
    · replace hM := (if_pos c3).symm.trans hM
      refine lv_aload_n hx hb dX3_resultOn_61 rfl (lv_at hl 2 rfl) ?_
      refine va_get (D := (dC, dI)) (ci := 2) (v := .int (ds_mv x)) (C := RX3) (T := TX3) (N := 8) hx hb hts inX3 hown hG.1 hP 0 rfl rfl 7 (by decide) (hts (.fieldLink RX3 38 "WokenDrive$Drive" "markerValue" "I") (List.mem_of_getElem? (i := 1) rfl)) (fun _ h9 => h9) rfl dX3_resultOn_62 ?_
      refine lv_goto (tgt := 73) hx hb dX3_resultOn_65 (by decide) ?_
      exact hB73 (M_X3_fact x p2 (4 : Int32)) (ds_mv x)  _ _ hM hS (lv_sub hl [0] rfl)
  replace hM := (if_neg c2).symm.trans hM
  by_cases c4 : (M_X3_fact x p2 (2 : Int32)) = 2
  · replace hM := (if_pos c4).symm.trans hM
    refine lv_tableIn (off := 56) (tgt := 77) hx hb dX3_resultOn_21 (by rw [c4]; decide) (by rw [c4]; decide) (by rw [c4]; decide) (by decide) ?_
    refine lv_aload_n hx hb dX3_resultOn_77 rfl (lv_at hl 3 rfl) ?_
    refine lv_iload hx hb dX3_resultOn_78 (lv_at hl 0 rfl) ?_
    refine wk_callP (va_runSN (As := [.ref a1, .int (M_X3_fact x p2 (4 : Int32))]) (rest := []) ⟨hx, hb, hml, hown, hts⟩ (c_X6_at l dC dI cI cD cJ kk a1 16 x1 (M_X3_fact x p2 (4 : Int32)) (by decide) _ rfl s.heap) ⟨va_cnB 2 hts gX3_resultOn_X6_at_n162 rfl rfl rfl (hG.2 _ (List.mem_of_getElem? (i := 6) rfl)) (hts (.initialized RX6) (List.mem_of_getElem? (i := 9) rfl)) (by decide +kernel) ⟨Nat.le_of_ble_eq_true rfl, Nat.le_of_ble_eq_true rfl⟩, hts (.static yX6_at) (List.mem_of_getElem? (i := 8) rfl), trivial⟩ (wk_preS hG hP hD [5] rfl rfl) rfl rfl hl.1 rfl (lv_room (Nat.le_of_ble_eq_true rfl)) dX3_resultOn_80 ⟨Nat.le_of_ble_eq_true rfl, Nat.le_of_ble_eq_true rfl⟩) hS (fun locs hS => ?_)
    subst hM
    exact wk_retPi hx hb hr hlocks hQ rfl rfl hS dX3_resultOn_83
  replace hM := (if_neg c4).symm.trans hM
  have ec1 : ((M_X3_fact x p2 (2 : Int32))).toInt ≠ 0 := fun q => c1 (Int32.toInt_inj.mp (q.trans (by decide)))
  have ec2 : ((M_X3_fact x p2 (2 : Int32))).toInt ≠ 1 := fun q => c2 (Int32.toInt_inj.mp (q.trans (by decide)))
  have ec4 : ((M_X3_fact x p2 (2 : Int32))).toInt ≠ 2 := fun q => c4 (Int32.toInt_inj.mp (q.trans (by decide)))
  refine lv_tableOut (tgt := 84) hx hb dX3_resultOn_21 (by omega) (by decide) ?_
  refine lv_aload_n hx hb dX3_resultOn_84 rfl (lv_at hl 3 rfl) ?_
  refine lv_iload_n hx hb dX3_resultOn_85 rfl (lv_at hl 1 rfl) ?_
  refine wk_callP (va_runSN (As := [.ref a1, .int (M_X3_fact x p2 (3 : Int32))]) (rest := []) ⟨hx, hb, hml, hown, hts⟩ (c_X6_at l dC dI cI cD cJ kk a1 16 x1 (M_X3_fact x p2 (3 : Int32)) (by decide) _ rfl s.heap) ⟨va_cnB 2 hts gX3_resultOn_X6_at_n162 rfl rfl rfl (hG.2 _ (List.mem_of_getElem? (i := 6) rfl)) (hts (.initialized RX6) (List.mem_of_getElem? (i := 9) rfl)) (by decide +kernel) ⟨Nat.le_of_ble_eq_true rfl, Nat.le_of_ble_eq_true rfl⟩, hts (.static yX6_at) (List.mem_of_getElem? (i := 8) rfl), trivial⟩ (wk_preS hG hP hD [5] rfl rfl) rfl rfl hl.1 rfl (lv_room (Nat.le_of_ble_eq_true rfl)) dX3_resultOn_86 ⟨Nat.le_of_ble_eq_true rfl, Nat.le_of_ble_eq_true rfl⟩) hS (fun locs hS => ?_)
  subst hM
  exact wk_retPi hx hb hr hlocks hQ rfl rfl hS dX3_resultOn_89
set_option maxHeartbeats 4000000 in
set_option maxRecDepth 100000 in
theorem c_X3_complete (l : Launch) (dC : Nat → ClassId) (dI : Nat → Nat → Nat) (cI cD cJ : ClassId) (kk : wAd) (g : Nat → Nat) (x : DS) (p1 : Int32) (p2 : Int32) (out : DS) (hM : M_X3_complete x p1 p2 = out) : CM l yX3_complete wsX3_complete ({ frames := 1, cells := 0, slots := 0, locals := 24 } : Room) dC dI (wTys cI cD cJ) [.ref (g 0), .int p1, .int p2] (wDrv cI g x) none (wDrv cI g out) 0 0 := by
  refine wk_enterM (cc := cX3_complete) (maxL := 3) (ret := none) (by decide) rfl (Nat.le_of_ble_eq_true rfl) ?_
  intro p e s m below meth c A Q ls hB hA hP hD hQ hl
  obtain ⟨hx, hb, hml, hr, hts, hown, hname, hlocks, hG⟩ := hB
  have hown : s.vm.findClass RX3 = some m.cls := hown
  have hS : va_S A s.heap s.heap [] := va_S.rf
  have hl : lv_has ls 3 [(0, .ref (g 0)), (1, .int p1), (2, .int p2)] := hl
  have inX2 : ∀ w ∈ wsX20, w ∈ wsX3_complete := fun _ h => List.mem_cons_of_mem _ (List.mem_append_right _ h)
  have inX3 : ∀ w ∈ wsX30, w ∈ wsX3_complete := fun _ h => List.mem_cons_of_mem _ (List.mem_append_left _ (List.mem_append_right _ h))
  obtain ⟨H, hH⟩ : ∃ z, z = s.heap := ⟨_, rfl⟩
  have hP : va_P (dC, dI) vwCl (wDrv cI g x) H := by rw [hH]; exact hP
  have hS : va_S A s.heap H [] := by rw [hH]; exact hS
  refine wk_at hH ?_
  generalize ([] : List Loc) = locs at hS ⊢
  unfold M_X3_complete at hM
  refine lv_aload_n hx hb dX3_complete_0 rfl (lv_at hl 0 rfl) ?_
  refine lv_iload_n hx hb dX3_complete_1 rfl (lv_at hl 2 rfl) ?_
  refine lv_iconst (v := (5 : Int32)) hx hb dX3_complete_2 (by decide) ?_
  refine lv_iconst (v := (2 : Int32)) hx hb dX3_complete_3 (by decide) ?_
  obtain ⟨r1, hr1, hM⟩ := tbE hM
  refine wk_callM (ws' := (wDrv cI g r1)) (va_runV (As := [.int p2, .int (5 : Int32), .int (2 : Int32)]) (rest := []) ⟨hx, hb, hml, hown, hts⟩ (c_X3_setFact l dC dI cI cD cJ kk g x p2 (5 : Int32) (2 : Int32) _ hr1.symm H) (cwV 3 hts gX3_complete_X3_setFact rfl rfl rfl (by decide +kernel) ⟨Nat.le_of_ble_eq_true rfl, Nat.le_of_ble_eq_true rfl⟩) (wk_preV (ci := 2) (q0 := 0) hG hP hD [0, 1, 2, 3, 4] rfl rfl rfl rfl) rfl rfl hl.1 rfl (lv_room (Nat.le_of_ble_eq_true rfl)) dX3_complete_4 ⟨Nat.le_of_ble_eq_true rfl, Nat.le_of_ble_eq_true rfl⟩) hP hD hS hA [0, 1, 2, 3, 4] [] [0, 1, 2, 3, 4] rfl rfl rfl (by decide) rfl rfl (fun H locs hP hD hS => ?_)
  refine lv_aload_n hx hb dX3_complete_7 rfl (lv_at hl 0 rfl) ?_
  refine lv_iload_n hx hb dX3_complete_8 rfl (lv_at hl 2 rfl) ?_
  refine lv_bipush (v := (6 : Int32)) hx hb dX3_complete_9 (by decide) ?_
  refine lv_iload_n hx hb dX3_complete_11 rfl (lv_at hl 1 rfl) ?_
  obtain ⟨r2, hr2, hM⟩ := tbE hM
  refine wk_callM (ws' := (wDrv cI g r2)) (va_runV (As := [.int p2, .int (6 : Int32), .int p1]) (rest := []) ⟨hx, hb, hml, hown, hts⟩ (c_X3_setFact l dC dI cI cD cJ kk g r1 p2 (6 : Int32) p1 _ hr2.symm H) (cwV 3 hts gX3_complete_X3_setFact rfl rfl rfl (by decide +kernel) ⟨Nat.le_of_ble_eq_true rfl, Nat.le_of_ble_eq_true rfl⟩) (wk_preV (ci := 2) (q0 := 0) hG hP hD [0, 1, 2, 3, 4] rfl rfl rfl rfl) rfl rfl hl.1 rfl (lv_room (Nat.le_of_ble_eq_true rfl)) dX3_complete_12 ⟨Nat.le_of_ble_eq_true rfl, Nat.le_of_ble_eq_true rfl⟩) hP hD hS hA [0, 1, 2, 3, 4] [] [0, 1, 2, 3, 4] rfl rfl rfl (by decide) rfl rfl (fun H locs hP hD hS => ?_)
  refine lv_aload_n hx hb dX3_complete_15 rfl (lv_at hl 0 rfl) ?_
  refine lv_iload_n hx hb dX3_complete_16 rfl (lv_at hl 2 rfl) ?_
  refine lv_bipush (v := (8 : Int32)) hx hb dX3_complete_17 (by decide) ?_
  refine lv_aload_n hx hb dX3_complete_19 rfl (lv_at hl 0 rfl) ?_
  refine va_get (D := (dC, dI)) (ci := 2) (v := .int (ds_tick r2)) (C := RX3) (T := TX3) (N := 8) hx hb hts inX3 hown hG.1 hP 0 rfl rfl 5 (by decide) (hts (.fieldLink RX3 32 "WokenDrive$Drive" "tick" "I") (List.mem_of_getElem? (i := 1) rfl)) (fun _ h9 => h9) rfl dX3_complete_20 ?_
  obtain ⟨r3, hr3, hM⟩ := tbE hM
  refine wk_callM (ws' := (wDrv cI g r3)) (va_runV (As := [.int p2, .int (8 : Int32), .int (ds_tick r2)]) (rest := []) ⟨hx, hb, hml, hown, hts⟩ (c_X3_setFact l dC dI cI cD cJ kk g r2 p2 (8 : Int32) (ds_tick r2) _ hr3.symm H) (cwV 3 hts gX3_complete_X3_setFact rfl rfl rfl (by decide +kernel) ⟨Nat.le_of_ble_eq_true rfl, Nat.le_of_ble_eq_true rfl⟩) (wk_preV (ci := 2) (q0 := 0) hG hP hD [0, 1, 2, 3, 4] rfl rfl rfl rfl) rfl rfl hl.1 rfl (lv_room (Nat.le_of_ble_eq_true rfl)) dX3_complete_23 ⟨Nat.le_of_ble_eq_true rfl, Nat.le_of_ble_eq_true rfl⟩) hP hD hS hA [0, 1, 2, 3, 4] [] [0, 1, 2, 3, 4] rfl rfl rfl (by decide) rfl rfl (fun H locs hP hD hS => ?_)
  refine lv_aload_n hx hb dX3_complete_26 rfl (lv_at hl 0 rfl) ?_
  refine lv_iload_n hx hb dX3_complete_27 rfl (lv_at hl 1 rfl) ?_
  refine wk_callP (va_runV (As := [.int p1]) (rest := []) ⟨hx, hb, hml, hown, hts⟩ (c_X3_controllerAt l dC dI cI cD cJ kk g r3 p1 H) (cwV 1 hts gX3_complete_X3_controllerAt rfl rfl rfl (by decide +kernel) ⟨Nat.le_of_ble_eq_true rfl, Nat.le_of_ble_eq_true rfl⟩) (wk_preV (ci := 2) (q0 := 0) hG hP hD [0, 1, 2, 3, 4] rfl rfl rfl rfl) rfl rfl hl.1 rfl (lv_room (Nat.le_of_ble_eq_true rfl)) dX3_complete_28 ⟨Nat.le_of_ble_eq_true rfl, Nat.le_of_ble_eq_true rfl⟩) hS (fun locs hS => ?_)
  refine lv_dup hx hb dX3_complete_31 rfl ?_
  refine wk_getC (v := .int (cs_done (dCtl r3 p1))) hx hb hts inX2 hown hG hP 3 4 rfl rfl 4 (by decide) (hts (.fieldLink RX3 165 "WokenDrive$Controller" "done" "I") (List.mem_of_getElem? (i := 2) rfl)) rfl dX3_complete_32 ?_
  refine lv_iconst (v := (1 : Int32)) hx hb dX3_complete_35 (by decide) ?_
  refine lv_iadd hx hb dX3_complete_36 ?_
  refine wk_putC (ty := .int) (x' := (cs_done_s (dCtl r3 p1) ((cs_done (dCtl r3 p1)) + (1 : Int32)))) (v := .int ((cs_done (dCtl r3 p1)) + (1 : Int32))) hx hb hts inX2 hown hG hP hD hS 3 4 rfl rfl 4 (by decide) (by decide) (hts (.fieldLink RX3 165 "WokenDrive$Controller" "done" "I") (List.mem_of_getElem? (i := 2) rfl)) rfl (by decide +kernel) rfl rfl rfl dX3_complete_37 (fun H locs hP hD hS => ?_)
  have hP : va_P (dC, dI) vwCl (wDrv cI g (dCtl_s r3 p1 (cs_done_s (dCtl r3 p1) ((cs_done (dCtl r3 p1)) + (1 : Int32))))) H := hP
  have hD : va_D A (wDrv cI g (dCtl_s r3 p1 (cs_done_s (dCtl r3 p1) ((cs_done (dCtl r3 p1)) + (1 : Int32))))) := hD
  subst hM
  exact wk_retMv hx hb hr hlocks hQ rfl hP hD hS dX3_complete_40
set_option maxHeartbeats 4000000 in
set_option maxRecDepth 100000 in
theorem c_X3_finishTorn (l : Launch) (dC : Nat → ClassId) (dI : Nat → Nat → Nat) (cI cD cJ : ClassId) (kk : wAd) (g : Nat → Nat) (x : DS) (p1 : Int32) (out : DS) (hM : M_X3_finishTorn x p1 = out) : CM l yX3_finishTorn wsX3_finishTorn ({ frames := 2, cells := 0, slots := 0, locals := 47 } : Room) dC dI (wTys cI cD cJ) [.ref (g 0), .int p1] (wDrv cI g x) none (wDrv cI g out) 0 0 := by
  refine wk_enterM (cc := cX3_finishTorn) (maxL := 2) (ret := none) (by decide) rfl (Nat.le_of_ble_eq_true rfl) ?_
  intro p e s m below meth c A Q ls hB hA hP hD hQ hl
  obtain ⟨hx, hb, hml, hr, hts, hown, hname, hlocks, hG⟩ := hB
  have hown : s.vm.findClass RX3 = some m.cls := hown
  have hS : va_S A s.heap s.heap [] := va_S.rf
  have hl : lv_has ls 2 [(0, .ref (g 0)), (1, .int p1)] := hl
  have inX2 : ∀ w ∈ wsX20, w ∈ wsX3_finishTorn := fun _ h => List.mem_cons_of_mem _ (List.mem_append_right _ h)
  have inX3 : ∀ w ∈ wsX30, w ∈ wsX3_finishTorn := fun _ h => List.mem_cons_of_mem _ (List.mem_append_left _ (List.mem_append_right _ h))
  obtain ⟨H, hH⟩ : ∃ z, z = s.heap := ⟨_, rfl⟩
  have hP : va_P (dC, dI) vwCl (wDrv cI g x) H := by rw [hH]; exact hP
  have hS : va_S A s.heap H [] := by rw [hH]; exact hS
  refine wk_at hH ?_
  generalize ([] : List Loc) = locs at hS ⊢
  unfold M_X3_finishTorn at hM
  refine lv_aload_n hx hb dX3_finishTorn_0 rfl (lv_at hl 0 rfl) ?_
  refine va_get (D := (dC, dI)) (ci := 2) (v := .ref (g 1)) (C := RX3) (T := TX3) (N := 8) hx hb hts inX3 hown hG.1 hP 0 rfl rfl 0 (by decide) (hts (.fieldLink RX3 9 "WokenDrive$Drive" "values" "[I") (List.mem_of_getElem? (i := 1) rfl)) (fun _ h9 => h9) rfl dX3_finishTorn_1 ?_
  refine lv_aload_n hx hb dX3_finishTorn_4 rfl (lv_at hl 0 rfl) ?_
  refine lv_aload_n hx hb dX3_finishTorn_5 rfl (lv_at hl 0 rfl) ?_
  refine va_get (D := (dC, dI)) (ci := 2) (v := .int (ds_mo x)) (C := RX3) (T := TX3) (N := 8) hx hb hts inX3 hown hG.1 hP 0 rfl rfl 6 (by decide) (hts (.fieldLink RX3 35 "WokenDrive$Drive" "markerOrder" "I") (List.mem_of_getElem? (i := 2) rfl)) (fun _ h9 => h9) rfl dX3_finishTorn_6 ?_
  refine lv_iconst (v := (3 : Int32)) hx hb dX3_finishTorn_9 (by decide) ?_
  refine wk_callP (va_runV (As := [.int (ds_mo x), .int (3 : Int32)]) (rest := [.ref (g 1)]) ⟨hx, hb, hml, hown, hts⟩ (c_X3_fact l dC dI cI cD cJ kk g x (ds_mo x) (3 : Int32) _ rfl H) (cwV 2 hts gX3_finishTorn_X3_fact rfl rfl rfl (by decide +kernel) ⟨Nat.le_of_ble_eq_true rfl, Nat.le_of_ble_eq_true rfl⟩) (wk_preV (ci := 2) (q0 := 0) hG hP hD [0, 1, 2, 3, 4] rfl rfl rfl rfl) rfl rfl hl.1 rfl (lv_room (Nat.le_of_ble_eq_true rfl)) dX3_finishTorn_10 ⟨Nat.le_of_ble_eq_true rfl, Nat.le_of_ble_eq_true rfl⟩) hS (fun locs hS => ?_)
  refine lv_aload_n hx hb dX3_finishTorn_13 rfl (lv_at hl 0 rfl) ?_
  refine lv_aload_n hx hb dX3_finishTorn_14 rfl (lv_at hl 0 rfl) ?_
  refine va_get (D := (dC, dI)) (ci := 2) (v := .ref (g 1)) (C := RX3) (T := TX3) (N := 8) hx hb hts inX3 hown hG.1 hP 0 rfl rfl 0 (by decide) (hts (.fieldLink RX3 9 "WokenDrive$Drive" "values" "[I") (List.mem_of_getElem? (i := 1) rfl)) (fun _ h9 => h9) rfl dX3_finishTorn_15 ?_
  refine lv_aload_n hx hb dX3_finishTorn_18 rfl (lv_at hl 0 rfl) ?_
  refine va_get (D := (dC, dI)) (ci := 2) (v := .int (ds_mo x)) (C := RX3) (T := TX3) (N := 8) hx hb hts inX3 hown hG.1 hP 0 rfl rfl 6 (by decide) (hts (.fieldLink RX3 35 "WokenDrive$Drive" "markerOrder" "I") (List.mem_of_getElem? (i := 2) rfl)) (fun _ h9 => h9) rfl dX3_finishTorn_19 ?_
  refine wk_callP (va_runV (As := [.ref (g 1), .int (ds_mo x)]) (rest := [.int (M_X3_fact x (ds_mo x) (3 : Int32)), .ref (g 1)]) ⟨hx, hb, hml, hown, hts⟩ (c_X3_resultOn_v l dC dI cI cD cJ kk g x (ds_mo x) _ rfl H) (cwV 2 hts gX3_finishTorn_X3_resultOn rfl rfl rfl (by decide +kernel) ⟨Nat.le_of_ble_eq_true rfl, Nat.le_of_ble_eq_true rfl⟩) (wk_preV (ci := 2) (q0 := 0) hG hP hD [0, 1, 2, 3, 4] rfl rfl rfl rfl) rfl rfl hl.1 rfl (lv_room (Nat.le_of_ble_eq_true rfl)) dX3_finishTorn_22 ⟨Nat.le_of_ble_eq_true rfl, Nat.le_of_ble_eq_true rfl⟩) hS (fun locs hS => ?_)
  obtain ⟨r1, hr1, hM⟩ := tbE hM
  obtain ⟨y_2, hy_2, hM⟩ := tbE hM
  refine wk_callM (ws' := (wDrv cI g (ds_val_s x r1))) (va_runSN (As := [.ref (g 1), .int (M_X3_fact x (ds_mo x) (3 : Int32)), .int (M_X3_resultOn_v x (ds_mo x))]) (rest := []) ⟨hx, hb, hml, hown, hts⟩ (c_X6_put l dC dI cI cD cJ kk (g 1) 16 (ds_val x) (M_X3_fact x (ds_mo x) (3 : Int32)) (M_X3_resultOn_v x (ds_mo x)) (by decide) _ hr1.symm H) ⟨va_cnB 3 hts gX3_finishTorn_X6_put_n143 rfl rfl rfl (hG.2 _ (List.mem_of_getElem? (i := 5) rfl)) (hts (.initialized RX6) (List.mem_of_getElem? (i := 16) rfl)) (by decide +kernel) ⟨Nat.le_of_ble_eq_true rfl, Nat.le_of_ble_eq_true rfl⟩, hts (.static yX6_put) (List.mem_of_getElem? (i := 18) rfl), trivial⟩ (wk_preS hG hP hD [1] rfl rfl) rfl rfl hl.1 rfl (lv_room (Nat.le_of_ble_eq_true rfl)) dX3_finishTorn_25 ⟨Nat.le_of_ble_eq_true rfl, Nat.le_of_ble_eq_true rfl⟩) hP hD hS hA [1] [0, 2, 3, 4] [0, 4, 1, 2, 3] rfl rfl rfl (by decide) rfl rfl (fun H locs hP hD hS => ?_)
  have hP : va_P (dC, dI) vwCl (wDrv cI g y_2) H := by rw [hy_2]; exact hP
  have hD : va_D A (wDrv cI g y_2) := by rw [hy_2]; exact hD
  refine lv_aload_n hx hb dX3_finishTorn_28 rfl (lv_at hl 0 rfl) ?_
  refine lv_iload_n hx hb dX3_finishTorn_29 rfl (lv_at hl 1 rfl) ?_
  refine lv_aload_n hx hb dX3_finishTorn_30 rfl (lv_at hl 0 rfl) ?_
  refine va_get (D := (dC, dI)) (ci := 2) (v := .int (ds_mo y_2)) (C := RX3) (T := TX3) (N := 8) hx hb hts inX3 hown hG.1 hP 0 rfl rfl 6 (by decide) (hts (.fieldLink RX3 35 "WokenDrive$Drive" "markerOrder" "I") (List.mem_of_getElem? (i := 2) rfl)) (fun _ h9 => h9) rfl dX3_finishTorn_31 ?_
  obtain ⟨r3, hr3, hM⟩ := tbE hM
  refine wk_callM (ws' := (wDrv cI g r3)) (va_runV (As := [.int p1, .int (ds_mo y_2)]) (rest := []) ⟨hx, hb, hml, hown, hts⟩ (c_X3_complete l dC dI cI cD cJ kk g y_2 p1 (ds_mo y_2) _ hr3.symm H) (cwV 2 hts gX3_finishTorn_X3_complete rfl rfl rfl (by decide +kernel) ⟨Nat.le_of_ble_eq_true rfl, Nat.le_of_ble_eq_true rfl⟩) (wk_preV (ci := 2) (q0 := 0) hG hP hD [0, 1, 2, 3, 4] rfl rfl rfl rfl) rfl rfl hl.1 rfl (lv_room (Nat.le_of_ble_eq_true rfl)) dX3_finishTorn_34 ⟨Nat.le_of_ble_eq_true rfl, Nat.le_of_ble_eq_true rfl⟩) hP hD hS hA [0, 1, 2, 3, 4] [] [0, 1, 2, 3, 4] rfl rfl rfl (by decide) rfl rfl (fun H locs hP hD hS => ?_)
  refine lv_aload_n hx hb dX3_finishTorn_37 rfl (lv_at hl 0 rfl) ?_
  refine lv_aload_n hx hb dX3_finishTorn_38 rfl (lv_at hl 0 rfl) ?_
  refine va_get (D := (dC, dI)) (ci := 2) (v := .int (ds_mo r3)) (C := RX3) (T := TX3) (N := 8) hx hb hts inX3 hown hG.1 hP 0 rfl rfl 6 (by decide) (hts (.fieldLink RX3 35 "WokenDrive$Drive" "markerOrder" "I") (List.mem_of_getElem? (i := 2) rfl)) (fun _ h9 => h9) rfl dX3_finishTorn_39 ?_
  refine lv_bipush (v := (9 : Int32)) hx hb dX3_finishTorn_42 (by decide) ?_
  refine lv_iconst (v := (1 : Int32)) hx hb dX3_finishTorn_44 (by decide) ?_
  obtain ⟨r4, hr4, hM⟩ := tbE hM
  refine wk_callM (ws' := (wDrv cI g r4)) (va_runV (As := [.int (ds_mo r3), .int (9 : Int32), .int (1 : Int32)]) (rest := []) ⟨hx, hb, hml, hown, hts⟩ (c_X3_setFact l dC dI cI cD cJ kk g r3 (ds_mo r3) (9 : Int32) (1 : Int32) _ hr4.symm H) (cwV 3 hts gX3_finishTorn_X3_setFact rfl rfl rfl (by decide +kernel) ⟨Nat.le_of_ble_eq_true rfl, Nat.le_of_ble_eq_true rfl⟩) (wk_preV (ci := 2) (q0 := 0) hG hP hD [0, 1, 2, 3, 4] rfl rfl rfl rfl) rfl rfl hl.1 rfl (lv_room (Nat.le_of_ble_eq_true rfl)) dX3_finishTorn_45 ⟨Nat.le_of_ble_eq_true rfl, Nat.le_of_ble_eq_true rfl⟩) hP hD hS hA [0, 1, 2, 3, 4] [] [0, 1, 2, 3, 4] rfl rfl rfl (by decide) rfl rfl (fun H locs hP hD hS => ?_)
  refine lv_aload_n hx hb dX3_finishTorn_48 rfl (lv_at hl 0 rfl) ?_
  refine lv_iload_n hx hb dX3_finishTorn_49 rfl (lv_at hl 1 rfl) ?_
  refine wk_callP (va_runV (As := [.int p1]) (rest := []) ⟨hx, hb, hml, hown, hts⟩ (c_X3_controllerAt l dC dI cI cD cJ kk g r4 p1 H) (cwV 1 hts gX3_finishTorn_X3_controllerAt rfl rfl rfl (by decide +kernel) ⟨Nat.le_of_ble_eq_true rfl, Nat.le_of_ble_eq_true rfl⟩) (wk_preV (ci := 2) (q0 := 0) hG hP hD [0, 1, 2, 3, 4] rfl rfl rfl rfl) rfl rfl hl.1 rfl (lv_room (Nat.le_of_ble_eq_true rfl)) dX3_finishTorn_50 ⟨Nat.le_of_ble_eq_true rfl, Nat.le_of_ble_eq_true rfl⟩) hS (fun locs hS => ?_)
  refine lv_dup hx hb dX3_finishTorn_53 rfl ?_
  refine wk_getC (v := .int (cs_fin (dCtl r4 p1))) hx hb hts inX2 hown hG hP 3 4 rfl rfl 5 (by decide) (hts (.fieldLink RX3 150 "WokenDrive$Controller" "finished" "I") (List.mem_of_getElem? (i := 3) rfl)) rfl dX3_finishTorn_54 ?_
  refine lv_iconst (v := (1 : Int32)) hx hb dX3_finishTorn_57 (by decide) ?_
  refine lv_iadd hx hb dX3_finishTorn_58 ?_
  refine wk_putC (ty := .int) (x' := (cs_fin_s (dCtl r4 p1) ((cs_fin (dCtl r4 p1)) + (1 : Int32)))) (v := .int ((cs_fin (dCtl r4 p1)) + (1 : Int32))) hx hb hts inX2 hown hG hP hD hS 3 4 rfl rfl 5 (by decide) (by decide) (hts (.fieldLink RX3 150 "WokenDrive$Controller" "finished" "I") (List.mem_of_getElem? (i := 3) rfl)) rfl (by decide +kernel) rfl rfl rfl dX3_finishTorn_59 (fun H locs hP hD hS => ?_)
  have hP : va_P (dC, dI) vwCl (wDrv cI g (dCtl_s r4 p1 (cs_fin_s (dCtl r4 p1) ((cs_fin (dCtl r4 p1)) + (1 : Int32))))) H := hP
  have hD : va_D A (wDrv cI g (dCtl_s r4 p1 (cs_fin_s (dCtl r4 p1) ((cs_fin (dCtl r4 p1)) + (1 : Int32))))) := hD
  subst hM
  exact wk_retMv hx hb hr hlocks hQ rfl hP hD hS dX3_finishTorn_62
set_option maxHeartbeats 4000000 in
set_option maxRecDepth 100000 in
theorem c_X3_begin (l : Launch) (dC : Nat → ClassId) (dI : Nat → Nat → Nat) (cI cD cJ : ClassId) (kk : wAd) (g : Nat → Nat) (x : DS) (p1 : Int32) (out : DS) (hM : M_X3_begin x p1 = out) : CM l yX3_begin wsX3_begin ({ frames := 1, cells := 0, slots := 0, locals := 24 } : Room) dC dI (wTys cI cD cJ) [.ref (g 0), .int p1] (wDrv cI g x) none (wDrv cI g out) 0 0 := by
  refine wk_enterM (cc := cX3_begin) (maxL := 2) (ret := none) (by decide) rfl (Nat.le_of_ble_eq_true rfl) ?_
  intro p e s m below meth c A Q ls hB hA hP hD hQ hl
  obtain ⟨hx, hb, hml, hr, hts, hown, hname, hlocks, hG⟩ := hB
  have hown : s.vm.findClass RX3 = some m.cls := hown
  have hS : va_S A s.heap s.heap [] := va_S.rf
  have hl : lv_has ls 2 [(0, .ref (g 0)), (1, .int p1)] := hl
  have inX3 : ∀ w ∈ wsX30, w ∈ wsX3_begin := fun _ h => List.mem_cons_of_mem _ (List.mem_append_right _ h)
  obtain ⟨H, hH⟩ : ∃ z, z = s.heap := ⟨_, rfl⟩
  have hP : va_P (dC, dI) vwCl (wDrv cI g x) H := by rw [hH]; exact hP
  have hS : va_S A s.heap H [] := by rw [hH]; exact hS
  refine wk_at hH ?_
  generalize ([] : List Loc) = locs at hS ⊢
  unfold M_X3_begin at hM
  refine lv_aload_n hx hb dX3_begin_0 rfl (lv_at hl 0 rfl) ?_
  refine lv_iload_n hx hb dX3_begin_1 rfl (lv_at hl 1 rfl) ?_
  obtain ⟨y_1, hy_1, hM⟩ := tbE hM
  refine va_put (D := (dC, dI)) (ci := 2) (v := .int p1) (ty := .int) (C := RX3) (T := TX3) (N := 8) hx hb hts inX3 tyX3 tyX3_ok nmX3 hown hG.1 hP hD hS 0 rfl rfl 6 (by decide) (hts (.fieldLink RX3 35 "WokenDrive$Drive" "markerOrder" "I") (List.mem_of_getElem? (i := 1) rfl)) (fun _ h9 => h9) rfl (by decide +kernel) rfl rfl (Nat.le_of_ble_eq_true rfl) dX3_begin_2 (fun H locs hP hD hS => ?_)
  have hP : va_P (dC, dI) vwCl (wDrv cI g y_1) H := by rw [hy_1]; exact hP
  have hD : va_D A (wDrv cI g y_1) := by rw [hy_1]; exact hD
  refine lv_aload_n hx hb dX3_begin_5 rfl (lv_at hl 0 rfl) ?_
  refine lv_aload_n hx hb dX3_begin_6 rfl (lv_at hl 0 rfl) ?_
  refine va_get (D := (dC, dI)) (ci := 2) (v := .ref (g 1)) (C := RX3) (T := TX3) (N := 8) hx hb hts inX3 hown hG.1 hP 0 rfl rfl 0 (by decide) (hts (.fieldLink RX3 9 "WokenDrive$Drive" "values" "[I") (List.mem_of_getElem? (i := 2) rfl)) (fun _ h9 => h9) rfl dX3_begin_7 ?_
  refine lv_aload_n hx hb dX3_begin_10 rfl (lv_at hl 0 rfl) ?_
  refine lv_iload_n hx hb dX3_begin_11 rfl (lv_at hl 1 rfl) ?_
  refine lv_iconst (v := (3 : Int32)) hx hb dX3_begin_12 (by decide) ?_
  refine wk_callP (va_runV (As := [.int p1, .int (3 : Int32)]) (rest := [.ref (g 1), .ref (g 0)]) ⟨hx, hb, hml, hown, hts⟩ (c_X3_fact l dC dI cI cD cJ kk g y_1 p1 (3 : Int32) _ rfl H) (cwV 2 hts gX3_begin_X3_fact rfl rfl rfl (by decide +kernel) ⟨Nat.le_of_ble_eq_true rfl, Nat.le_of_ble_eq_true rfl⟩) (wk_preV (ci := 2) (q0 := 0) hG hP hD [0, 1, 2, 3, 4] rfl rfl rfl rfl) rfl rfl hl.1 rfl (lv_room (Nat.le_of_ble_eq_true rfl)) dX3_begin_13 ⟨Nat.le_of_ble_eq_true rfl, Nat.le_of_ble_eq_true rfl⟩) hS (fun locs hS => ?_)
  refine wk_callP (va_runSN (As := [.ref (g 1), .int (M_X3_fact y_1 p1 (3 : Int32))]) (rest := [.ref (g 0)]) ⟨hx, hb, hml, hown, hts⟩ (c_X6_at l dC dI cI cD cJ kk (g 1) 16 (ds_val y_1) (M_X3_fact y_1 p1 (3 : Int32)) (by decide) _ rfl H) ⟨va_cnB 2 hts gX3_begin_X6_at_n162 rfl rfl rfl (hG.2 _ (List.mem_of_getElem? (i := 6) rfl)) (hts (.initialized RX6) (List.mem_of_getElem? (i := 11) rfl)) (by decide +kernel) ⟨Nat.le_of_ble_eq_true rfl, Nat.le_of_ble_eq_true rfl⟩, hts (.static yX6_at) (List.mem_of_getElem? (i := 10) rfl), trivial⟩ (wk_preS hG hP hD [1] rfl rfl) rfl rfl hl.1 rfl (lv_room (Nat.le_of_ble_eq_true rfl)) dX3_begin_16 ⟨Nat.le_of_ble_eq_true rfl, Nat.le_of_ble_eq_true rfl⟩) hS (fun locs hS => ?_)
  obtain ⟨y_2, hy_2, hM⟩ := tbE hM
  refine va_put (D := (dC, dI)) (ci := 2) (v := .int (M_X6_at 16 (ds_val y_1) (M_X3_fact y_1 p1 (3 : Int32)))) (ty := .int) (C := RX3) (T := TX3) (N := 8) hx hb hts inX3 tyX3 tyX3_ok nmX3 hown hG.1 hP hD hS 0 rfl rfl 7 (by decide) (hts (.fieldLink RX3 38 "WokenDrive$Drive" "markerValue" "I") (List.mem_of_getElem? (i := 3) rfl)) (fun _ h9 => h9) rfl (by decide +kernel) rfl rfl (Nat.le_of_ble_eq_true rfl) dX3_begin_19 (fun H locs hP hD hS => ?_)
  have hP : va_P (dC, dI) vwCl (wDrv cI g y_2) H := by rw [hy_2]; exact hP
  have hD : va_D A (wDrv cI g y_2) := by rw [hy_2]; exact hD
  refine lv_aload_n hx hb dX3_begin_22 rfl (lv_at hl 0 rfl) ?_
  refine lv_iload_n hx hb dX3_begin_23 rfl (lv_at hl 1 rfl) ?_
  refine lv_iconst (v := (5 : Int32)) hx hb dX3_begin_24 (by decide) ?_
  refine lv_iconst (v := (1 : Int32)) hx hb dX3_begin_25 (by decide) ?_
  obtain ⟨r3, hr3, hM⟩ := tbE hM
  refine wk_callM (ws' := (wDrv cI g r3)) (va_runV (As := [.int p1, .int (5 : Int32), .int (1 : Int32)]) (rest := []) ⟨hx, hb, hml, hown, hts⟩ (c_X3_setFact l dC dI cI cD cJ kk g y_2 p1 (5 : Int32) (1 : Int32) _ hr3.symm H) (cwV 3 hts gX3_begin_X3_setFact rfl rfl rfl (by decide +kernel) ⟨Nat.le_of_ble_eq_true rfl, Nat.le_of_ble_eq_true rfl⟩) (wk_preV (ci := 2) (q0 := 0) hG hP hD [0, 1, 2, 3, 4] rfl rfl rfl rfl) rfl rfl hl.1 rfl (lv_room (Nat.le_of_ble_eq_true rfl)) dX3_begin_26 ⟨Nat.le_of_ble_eq_true rfl, Nat.le_of_ble_eq_true rfl⟩) hP hD hS hA [0, 1, 2, 3, 4] [] [0, 1, 2, 3, 4] rfl rfl rfl (by decide) rfl rfl (fun H locs hP hD hS => ?_)
  subst hM
  exact wk_retMv hx hb hr hlocks hQ rfl hP hD hS dX3_begin_29
set_option maxHeartbeats 4000000 in
set_option maxRecDepth 100000 in
theorem c_X3_makeSteps (l : Launch) (dC : Nat → ClassId) (dI : Nat → Nat → Nat) (cI cD cJ : ClassId) (kk : wAd) (g : Nat → Nat) (x : DS) (p1 : Int32) (p2 : Int32) (p3 : Int32) (out : Int32 × DS) (hM : M_X3_makeSteps x p1 p2 p3 = out) : CM l yX3_makeSteps wsX3_makeSteps ({ frames := 2, cells := 0, slots := 0, locals := 47 } : Room) dC dI (wTys cI cD cJ) [.ref (g 0), .int p1, .int p2, .int p3] (wDrv cI g x) (some (.int out.1)) (wDrv cI g out.2) 0 0 := by
  refine wk_enterM (cc := cX3_makeSteps) (maxL := 4) (ret := (some .int)) (by decide) rfl (Nat.le_of_ble_eq_true rfl) ?_
  intro p e s m below meth c A Q ls hB hA hP hD hQ hl
  obtain ⟨hx, hb, hml, hr, hts, hown, hname, hlocks, hG⟩ := hB
  have hown : s.vm.findClass RX3 = some m.cls := hown
  have hS : va_S A s.heap s.heap [] := va_S.rf
  have hl : lv_has ls 4 [(0, .ref (g 0)), (1, .int p1), (2, .int p2), (3, .int p3)] := hl
  have inX3 : ∀ w ∈ wsX30, w ∈ wsX3_makeSteps := fun _ h => List.mem_cons_of_mem _ (List.mem_append_left _ (List.mem_append_right _ h))
  obtain ⟨H, hH⟩ : ∃ z, z = s.heap := ⟨_, rfl⟩
  have hP : va_P (dC, dI) vwCl (wDrv cI g x) H := by rw [hH]; exact hP
  have hS : va_S A s.heap H [] := by rw [hH]; exact hS
  refine wk_at hH ?_
  generalize ([] : List Loc) = locs at hS ⊢
  have hB32 : ∀ (y0 : DS) (H : Heap) (locs : List Loc) (ls : Array Slot), M_X3_makeSteps_32 x p1 p2 p3 y0 = out → va_P (dC, dI) vwCl (wDrv cI g y0) H → va_D A (wDrv cI g y0) → va_S A s.heap H locs → lv_has ls 4 [(0, .ref (g 0)), (1, .int p1), (2, .int p2), (3, .int p3)] → W p l e ({ frames := 2, cells := 0, slots := 0, locals := 47 } : Room) s m ([.ref (g 0), .int p1, .int p2, .int p3] : List Value).toArray below meth c H locs 0 0 Q (F0 m 32 ls []) := by
    intro y0 H locs ls hM hP hD hS hl
    unfold M_X3_makeSteps_32 at hM
    refine lv_iload_n hx hb dX3_makeSteps_32 rfl (lv_at hl 3 rfl) ?_
    refine lv_iconst (v := (3 : Int32)) hx hb dX3_makeSteps_33 (by decide) ?_
    refine lv_icmp_ge (tgt := 47) hx hb dX3_makeSteps_34 (by decide) (fun c1 => ?_) (fun c1 => ?_)
    · replace hM := (if_pos c1).symm.trans hM
      refine lv_aload_n hx hb dX3_makeSteps_47 rfl (lv_at hl 0 rfl) ?_
      refine lv_iload_n hx hb dX3_makeSteps_48 rfl (lv_at hl 1 rfl) ?_
      refine lv_iload_n hx hb dX3_makeSteps_49 rfl (lv_at hl 2 rfl) ?_
      obtain ⟨r2, hr2, hM⟩ := tbE hM
      refine wk_callM (ws' := (wDrv cI g r2)) (va_runV (As := [.int p1, .int p2]) (rest := []) ⟨hx, hb, hml, hown, hts⟩ (c_X3_complete l dC dI cI cD cJ kk g y0 p1 p2 _ hr2.symm H) (cwV 2 hts gX3_makeSteps_X3_complete rfl rfl rfl (by decide +kernel) ⟨Nat.le_of_ble_eq_true rfl, Nat.le_of_ble_eq_true rfl⟩) (wk_preV (ci := 2) (q0 := 0) hG hP hD [0, 1, 2, 3, 4] rfl rfl rfl rfl) rfl rfl hl.1 rfl (lv_room (Nat.le_of_ble_eq_true rfl)) dX3_makeSteps_50 ⟨Nat.le_of_ble_eq_true rfl, Nat.le_of_ble_eq_true rfl⟩) hP hD hS hA [0, 1, 2, 3, 4] [] [0, 1, 2, 3, 4] rfl rfl rfl (by decide) rfl rfl (fun H locs hP hD hS => ?_)
      refine lv_aload_n hx hb dX3_makeSteps_53 rfl (lv_at hl 0 rfl) ?_
      refine lv_iload_n hx hb dX3_makeSteps_54 rfl (lv_at hl 1 rfl) ?_
      refine wk_callP (va_runV (As := [.int p1]) (rest := []) ⟨hx, hb, hml, hown, hts⟩ (c_X3_controllerAt l dC dI cI cD cJ kk g r2 p1 H) (cwV 1 hts gX3_makeSteps_X3_controllerAt rfl rfl rfl (by decide +kernel) ⟨Nat.le_of_ble_eq_true rfl, Nat.le_of_ble_eq_true rfl⟩) (wk_preV (ci := 2) (q0 := 0) hG hP hD [0, 1, 2, 3, 4] rfl rfl rfl rfl) rfl rfl hl.1 rfl (lv_room (Nat.le_of_ble_eq_true rfl)) dX3_makeSteps_55 ⟨Nat.le_of_ble_eq_true rfl, Nat.le_of_ble_eq_true rfl⟩) hS (fun locs hS => ?_)
      refine lv_iload_n hx hb dX3_makeSteps_58 rfl (lv_at hl 2 rfl) ?_
      obtain ⟨r3, hr3, hM⟩ := tbE hM
      obtain ⟨y_4, hy_4, hM⟩ := tbE hM
      refine wk_callMC (va_runV (As := [.int p2]) (rest := []) ⟨hx, hb, hml, hown, hts⟩ (c_X2_drop l dC dI cI cD cJ kk (ctlA g p1) (dCtl r2 p1) p2 _ hr3.symm H) (cwV 1 hts gX3_makeSteps_X2_drop rfl rfl rfl (by decide +kernel) ⟨Nat.le_of_ble_eq_true rfl, Nat.le_of_ble_eq_true rfl⟩) (wk_preVC hG hP hD 3 4 rfl rfl (by decide)) rfl rfl hl.1 rfl (lv_room (Nat.le_of_ble_eq_true rfl)) dX3_makeSteps_59 ⟨Nat.le_of_ble_eq_true rfl, Nat.le_of_ble_eq_true rfl⟩) hP hD hS hA 3 4 rfl rfl (by decide) (fun H locs hP hD hS => ?_)
      have hP : va_P (dC, dI) vwCl (wDrv cI g y_4) H := by rw [hy_4]; exact hP
      have hD : va_D A (wDrv cI g y_4) := by rw [hy_4]; exact hD
      refine lv_iconst (v := (2 : Int32)) hx hb dX3_makeSteps_62 (by decide) ?_
      subst hM
      exact wk_retMi hx hb hr hlocks hQ rfl rfl hP hD hS dX3_makeSteps_63
    · replace hM := (if_neg c1).symm.trans hM
      refine lv_aload_n hx hb dX3_makeSteps_37 rfl (lv_at hl 0 rfl) ?_
      refine lv_iload_n hx hb dX3_makeSteps_38 rfl (lv_at hl 1 rfl) ?_
      refine wk_callP (va_runV (As := [.int p1]) (rest := []) ⟨hx, hb, hml, hown, hts⟩ (c_X3_controllerAt l dC dI cI cD cJ kk g y0 p1 H) (cwV 1 hts gX3_makeSteps_X3_controllerAt rfl rfl rfl (by decide +kernel) ⟨Nat.le_of_ble_eq_true rfl, Nat.le_of_ble_eq_true rfl⟩) (wk_preV (ci := 2) (q0 := 0) hG hP hD [0, 1, 2, 3, 4] rfl rfl rfl rfl) rfl rfl hl.1 rfl (lv_room (Nat.le_of_ble_eq_true rfl)) dX3_makeSteps_39 ⟨Nat.le_of_ble_eq_true rfl, Nat.le_of_ble_eq_true rfl⟩) hS (fun locs hS => ?_)
      obtain ⟨r5, hr5, hM⟩ := tbE hM
      obtain ⟨y_6, hy_6, hM⟩ := tbE hM
      refine wk_callMC (va_runV (As := []) (rest := []) ⟨hx, hb, hml, hown, hts⟩ (c_X2_fallAsleepTorn l dC dI cI cD cJ kk (ctlA g p1) (dCtl y0 p1) _ hr5.symm H) (cwV 0 hts gX3_makeSteps_X2_fallAsleepTorn rfl rfl rfl (by decide +kernel) ⟨Nat.le_of_ble_eq_true rfl, Nat.le_of_ble_eq_true rfl⟩) (wk_preVC hG hP hD 3 4 rfl rfl (by decide)) rfl rfl hl.1 rfl (lv_room (Nat.le_of_ble_eq_true rfl)) dX3_makeSteps_42 ⟨Nat.le_of_ble_eq_true rfl, Nat.le_of_ble_eq_true rfl⟩) hP hD hS hA 3 4 rfl rfl (by decide) (fun H locs hP hD hS => ?_)
      have hP : va_P (dC, dI) vwCl (wDrv cI g y_6) H := by rw [hy_6]; exact hP
      have hD : va_D A (wDrv cI g y_6) := by rw [hy_6]; exact hD
      refine lv_iconst (v := (3 : Int32)) hx hb dX3_makeSteps_45 (by decide) ?_
      subst hM
      exact wk_retMi hx hb hr hlocks hQ rfl rfl hP hD hS dX3_makeSteps_46
  unfold M_X3_makeSteps at hM
  refine lv_aload_n hx hb dX3_makeSteps_0 rfl (lv_at hl 0 rfl) ?_
  refine lv_iload_n hx hb dX3_makeSteps_1 rfl (lv_at hl 2 rfl) ?_
  obtain ⟨r1, hr1, hM⟩ := tbE hM
  refine wk_callM (ws' := (wDrv cI g r1)) (va_runV (As := [.int p2]) (rest := []) ⟨hx, hb, hml, hown, hts⟩ (c_X3_begin l dC dI cI cD cJ kk g x p2 _ hr1.symm H) (cwV 1 hts gX3_makeSteps_X3_begin rfl rfl rfl (by decide +kernel) ⟨Nat.le_of_ble_eq_true rfl, Nat.le_of_ble_eq_true rfl⟩) (wk_preV (ci := 2) (q0 := 0) hG hP hD [0, 1, 2, 3, 4] rfl rfl rfl rfl) rfl rfl hl.1 rfl (lv_room (Nat.le_of_ble_eq_true rfl)) dX3_makeSteps_2 ⟨Nat.le_of_ble_eq_true rfl, Nat.le_of_ble_eq_true rfl⟩) hP hD hS hA [0, 1, 2, 3, 4] [] [0, 1, 2, 3, 4] rfl rfl rfl (by decide) rfl rfl (fun H locs hP hD hS => ?_)
  refine lv_iload_n hx hb dX3_makeSteps_5 rfl (lv_at hl 3 rfl) ?_
  refine lv_iconst (v := (1 : Int32)) hx hb dX3_makeSteps_6 (by decide) ?_
  refine lv_icmp_le (tgt := 32) hx hb dX3_makeSteps_7 (by decide) (fun c2 => ?_) (fun c2 => ?_)
  · replace hM := (if_pos c2).symm.trans hM
    exact hB32 r1 H _ _ hM hP hD hS (lv_sub hl [0, 1, 2, 3] rfl)
  · replace hM := (if_neg c2).symm.trans hM
    refine lv_aload_n hx hb dX3_makeSteps_10 rfl (lv_at hl 0 rfl) ?_
    refine va_get (D := (dC, dI)) (ci := 2) (v := .ref (g 1)) (C := RX3) (T := TX3) (N := 8) hx hb hts inX3 hown hG.1 hP 0 rfl rfl 0 (by decide) (hts (.fieldLink RX3 9 "WokenDrive$Drive" "values" "[I") (List.mem_of_getElem? (i := 1) rfl)) (fun _ h9 => h9) rfl dX3_makeSteps_11 ?_
    refine lv_aload_n hx hb dX3_makeSteps_14 rfl (lv_at hl 0 rfl) ?_
    refine lv_iload_n hx hb dX3_makeSteps_15 rfl (lv_at hl 2 rfl) ?_
    refine lv_iconst (v := (3 : Int32)) hx hb dX3_makeSteps_16 (by decide) ?_
    refine wk_callP (va_runV (As := [.int p2, .int (3 : Int32)]) (rest := [.ref (g 1)]) ⟨hx, hb, hml, hown, hts⟩ (c_X3_fact l dC dI cI cD cJ kk g r1 p2 (3 : Int32) _ rfl H) (cwV 2 hts gX3_makeSteps_X3_fact rfl rfl rfl (by decide +kernel) ⟨Nat.le_of_ble_eq_true rfl, Nat.le_of_ble_eq_true rfl⟩) (wk_preV (ci := 2) (q0 := 0) hG hP hD [0, 1, 2, 3, 4] rfl rfl rfl rfl) rfl rfl hl.1 rfl (lv_room (Nat.le_of_ble_eq_true rfl)) dX3_makeSteps_17 ⟨Nat.le_of_ble_eq_true rfl, Nat.le_of_ble_eq_true rfl⟩) hS (fun locs hS => ?_)
    refine lv_aload_n hx hb dX3_makeSteps_20 rfl (lv_at hl 0 rfl) ?_
    refine lv_aload_n hx hb dX3_makeSteps_21 rfl (lv_at hl 0 rfl) ?_
    refine va_get (D := (dC, dI)) (ci := 2) (v := .ref (g 1)) (C := RX3) (T := TX3) (N := 8) hx hb hts inX3 hown hG.1 hP 0 rfl rfl 0 (by decide) (hts (.fieldLink RX3 9 "WokenDrive$Drive" "values" "[I") (List.mem_of_getElem? (i := 1) rfl)) (fun _ h9 => h9) rfl dX3_makeSteps_22 ?_
    refine lv_iload_n hx hb dX3_makeSteps_25 rfl (lv_at hl 2 rfl) ?_
    refine wk_callP (va_runV (As := [.ref (g 1), .int p2]) (rest := [.int (M_X3_fact r1 p2 (3 : Int32)), .ref (g 1)]) ⟨hx, hb, hml, hown, hts⟩ (c_X3_resultOn_v l dC dI cI cD cJ kk g r1 p2 _ rfl H) (cwV 2 hts gX3_makeSteps_X3_resultOn rfl rfl rfl (by decide +kernel) ⟨Nat.le_of_ble_eq_true rfl, Nat.le_of_ble_eq_true rfl⟩) (wk_preV (ci := 2) (q0 := 0) hG hP hD [0, 1, 2, 3, 4] rfl rfl rfl rfl) rfl rfl hl.1 rfl (lv_room (Nat.le_of_ble_eq_true rfl)) dX3_makeSteps_26 ⟨Nat.le_of_ble_eq_true rfl, Nat.le_of_ble_eq_true rfl⟩) hS (fun locs hS => ?_)
    obtain ⟨r3, hr3, hM⟩ := tbE hM
    refine wk_callM (ws' := (wDrv cI g (ds_val_s r1 r3))) (va_runSN (As := [.ref (g 1), .int (M_X3_fact r1 p2 (3 : Int32)), .int (M_X3_resultOn_v r1 p2)]) (rest := []) ⟨hx, hb, hml, hown, hts⟩ (c_X6_put l dC dI cI cD cJ kk (g 1) 16 (ds_val r1) (M_X3_fact r1 p2 (3 : Int32)) (M_X3_resultOn_v r1 p2) (by decide) _ hr3.symm H) ⟨va_cnB 3 hts gX3_makeSteps_X6_put_n143 rfl rfl rfl (hG.2 _ (List.mem_of_getElem? (i := 5) rfl)) (hts (.initialized RX6) (List.mem_of_getElem? (i := 15) rfl)) (by decide +kernel) ⟨Nat.le_of_ble_eq_true rfl, Nat.le_of_ble_eq_true rfl⟩, hts (.static yX6_put) (List.mem_of_getElem? (i := 25) rfl), trivial⟩ (wk_preS hG hP hD [1] rfl rfl) rfl rfl hl.1 rfl (lv_room (Nat.le_of_ble_eq_true rfl)) dX3_makeSteps_29 ⟨Nat.le_of_ble_eq_true rfl, Nat.le_of_ble_eq_true rfl⟩) hP hD hS hA [1] [0, 2, 3, 4] [0, 4, 1, 2, 3] rfl rfl rfl (by decide) rfl rfl (fun H locs hP hD hS => ?_)
    exact hB32 (ds_val_s r1 r3) H _ _ hM hP hD hS (lv_sub hl [0, 1, 2, 3] rfl)
set_option maxHeartbeats 4000000 in
set_option maxRecDepth 100000 in
theorem c_X3_claimOf (l : Launch) (dC : Nat → ClassId) (dI : Nat → Nat → Nat) (cI cD cJ : ClassId) (kk : wAd) (g : Nat → Nat) (x : DS) (p1 : Int32) (out : Int32) (hM : M_X3_claimOf x p1 = out) : CP l yX3_claimOf wsX3_claimOf ({ frames := 1, cells := 0, slots := 0, locals := 23 } : Room) dC dI (wTys cI cD cJ) [.ref (g 0), .int p1] (wDrv cI g x) (some (.int out)) := by
  refine wk_enterP (cc := cX3_claimOf) (maxL := 4) (ret := (some .int)) (by decide) rfl (Nat.le_of_ble_eq_true rfl) ?_
  intro p e s m below meth c A Q ls hB hP hD hA hQ hl
  obtain ⟨hx, hb, hml, hr, hts, hown, hname, hlocks, hG⟩ := hB
  have hown : s.vm.findClass RX3 = some m.cls := hown
  have hS : va_S A s.heap s.heap [] := va_S.rf
  have hl : lv_has ls 4 [(0, .ref (g 0)), (1, .int p1)] := hl
  generalize ([] : List Loc) = locs at hS ⊢
  have hB43 : ∀ (w0 : Int32) (locs : List Loc) (ls : Array Slot), M_X3_claimOf_43 x p1 w0 = out → va_S A s.heap s.heap locs → lv_has ls 4 [] → W p l e ({ frames := 1, cells := 0, slots := 0, locals := 23 } : Room) s m ([.ref (g 0), .int p1] : List Value).toArray below meth c s.heap locs 0 0 Q (F0 m 43 ls [.int w0]) := by
    intro w0 locs ls hM hS hl
    unfold M_X3_claimOf_43 at hM
    subst hM
    exact wk_retPi hx hb hr hlocks hQ rfl rfl hS dX3_claimOf_43
  unfold M_X3_claimOf at hM
  refine lv_aload_n hx hb dX3_claimOf_0 rfl (lv_at hl 0 rfl) ?_
  refine lv_iload_n hx hb dX3_claimOf_1 rfl (lv_at hl 1 rfl) ?_
  refine lv_iconst (v := (2 : Int32)) hx hb dX3_claimOf_2 (by decide) ?_
  refine wk_callP (va_runV (As := [.int p1, .int (2 : Int32)]) (rest := []) ⟨hx, hb, hml, hown, hts⟩ (c_X3_fact l dC dI cI cD cJ kk g x p1 (2 : Int32) _ rfl s.heap) (cwV 2 hts gX3_claimOf_X3_fact rfl rfl rfl (by decide +kernel) ⟨Nat.le_of_ble_eq_true rfl, Nat.le_of_ble_eq_true rfl⟩) (wk_preV (ci := 2) (q0 := 0) hG hP hD [0, 1, 2, 3, 4] rfl rfl rfl rfl) rfl rfl hl.1 rfl (lv_room (Nat.le_of_ble_eq_true rfl)) dX3_claimOf_3 ⟨Nat.le_of_ble_eq_true rfl, Nat.le_of_ble_eq_true rfl⟩) hS (fun locs hS => ?_)
  refine lv_istore_n (lv' := [(2, .int (M_X3_fact x p1 (2 : Int32))), (0, .ref (g 0)), (1, .int p1)]) hx hb dX3_claimOf_6 rfl hl (by decide) rfl (fun ls hl => ?_)
  refine lv_iload_n hx hb dX3_claimOf_7 rfl (lv_at hl 0 rfl) ?_
  refine lv_iconst (v := (3 : Int32)) hx hb dX3_claimOf_8 (by decide) ?_
  refine lv_icmp_ne (tgt := 15) hx hb dX3_claimOf_9 (by decide) (fun c1 => ?_) (fun c1 => ?_)
  · replace hM := (if_neg c1).symm.trans hM
    refine lv_iconst (v := (1 : Int32)) hx hb dX3_claimOf_15 (by decide) ?_
    refine lv_aload_n hx hb dX3_claimOf_16 rfl (lv_at hl 1 rfl) ?_
    refine lv_iload_n hx hb dX3_claimOf_17 rfl (lv_at hl 2 rfl) ?_
    refine lv_iconst (v := (3 : Int32)) hx hb dX3_claimOf_18 (by decide) ?_
    refine wk_callP (va_runV (As := [.int p1, .int (3 : Int32)]) (rest := [.int (1 : Int32)]) ⟨hx, hb, hml, hown, hts⟩ (c_X3_fact l dC dI cI cD cJ kk g x p1 (3 : Int32) _ rfl s.heap) (cwV 2 hts gX3_claimOf_X3_fact rfl rfl rfl (by decide +kernel) ⟨Nat.le_of_ble_eq_true rfl, Nat.le_of_ble_eq_true rfl⟩) (wk_preV (ci := 2) (q0 := 0) hG hP hD [0, 1, 2, 3, 4] rfl rfl rfl rfl) rfl rfl hl.1 rfl (lv_room (Nat.le_of_ble_eq_true rfl)) dX3_claimOf_19 ⟨Nat.le_of_ble_eq_true rfl, Nat.le_of_ble_eq_true rfl⟩) hS (fun locs hS => ?_)
    refine lv_ishl hx hb dX3_claimOf_22 ?_
    refine lv_istore_n (lv' := [(3, .int ((1 : Int32) <<< ((M_X3_fact x p1 (3 : Int32)) &&& 31))), (2, .int (M_X3_fact x p1 (2 : Int32))), (0, .ref (g 0)), (1, .int p1)]) hx hb dX3_claimOf_23 rfl hl (by decide) rfl (fun ls hl => ?_)
    refine lv_iload_n hx hb dX3_claimOf_24 rfl (lv_at hl 1 rfl) ?_
    refine lv_iconst (v := (2 : Int32)) hx hb dX3_claimOf_25 (by decide) ?_
    refine lv_icmp_ne (tgt := 42) hx hb dX3_claimOf_26 (by decide) (fun c2 => ?_) (fun c2 => ?_)
    · replace hM := (if_neg c2).symm.trans hM
      refine lv_iload_n hx hb dX3_claimOf_42 rfl (lv_at hl 0 rfl) ?_
      exact hB43 ((1 : Int32) <<< ((M_X3_fact x p1 (3 : Int32)) &&& 31))  _ _ hM hS (lv_sub hl [] rfl)
    · replace hM := (if_pos c2).symm.trans hM
      refine lv_iload_n hx hb dX3_claimOf_29 rfl (lv_at hl 0 rfl) ?_
      refine lv_iconst (v := (1 : Int32)) hx hb dX3_claimOf_30 (by decide) ?_
      refine lv_aload_n hx hb dX3_claimOf_31 rfl (lv_at hl 2 rfl) ?_
      refine lv_iload_n hx hb dX3_claimOf_32 rfl (lv_at hl 3 rfl) ?_
      refine lv_iconst (v := (4 : Int32)) hx hb dX3_claimOf_33 (by decide) ?_
      refine wk_callP (va_runV (As := [.int p1, .int (4 : Int32)]) (rest := [.int (1 : Int32), .int ((1 : Int32) <<< ((M_X3_fact x p1 (3 : Int32)) &&& 31))]) ⟨hx, hb, hml, hown, hts⟩ (c_X3_fact l dC dI cI cD cJ kk g x p1 (4 : Int32) _ rfl s.heap) (cwV 2 hts gX3_claimOf_X3_fact rfl rfl rfl (by decide +kernel) ⟨Nat.le_of_ble_eq_true rfl, Nat.le_of_ble_eq_true rfl⟩) (wk_preV (ci := 2) (q0 := 0) hG hP hD [0, 1, 2, 3, 4] rfl rfl rfl rfl) rfl rfl hl.1 rfl (lv_room (Nat.le_of_ble_eq_true rfl)) dX3_claimOf_34 ⟨Nat.le_of_ble_eq_true rfl, Nat.le_of_ble_eq_true rfl⟩) hS (fun locs hS => ?_)
      refine lv_ishl hx hb dX3_claimOf_37 ?_
      refine lv_ior hx hb dX3_claimOf_38 ?_
      refine lv_goto (tgt := 43) hx hb dX3_claimOf_39 (by decide) ?_
      exact hB43 (((1 : Int32) <<< ((M_X3_fact x p1 (3 : Int32)) &&& 31)) ||| ((1 : Int32) <<< ((M_X3_fact x p1 (4 : Int32)) &&& 31)))  _ _ hM hS (lv_sub hl [] rfl)
  · replace hM := (if_pos c1).symm.trans hM
    refine lv_ldc (v := (65535 : Int32)) hx hb hown (hts (.constant RX3 181 (65535)) (List.mem_of_getElem? (i := 1) rfl)) dX3_claimOf_12 ?_
    subst hM
    exact wk_retPi hx hb hr hlocks hQ rfl rfl hS dX3_claimOf_14
set_option maxHeartbeats 4000000 in
set_option maxRecDepth 100000 in
theorem c_X3_isAwaited (l : Launch) (dC : Nat → ClassId) (dI : Nat → Nat → Nat) (cI cD cJ : ClassId) (kk : wAd) (g : Nat → Nat) (x : DS) (p1 : Int32) (p2 : Int32) (out : Bool) (hM : M_X3_isAwaited x p1 p2 = out) : CP l yX3_isAwaited wsX3_isAwaited ({ frames := 2, cells := 0, slots := 0, locals := 46 } : Room) dC dI (wTys cI cD cJ) [.ref (g 0), .int p1, .int p2] (wDrv cI g x) (some (.int (zI out))) := by
  refine wk_enterP (cc := cX3_isAwaited) (maxL := 3) (ret := (some .boolean)) (by decide) rfl (Nat.le_of_ble_eq_true rfl) ?_
  intro p e s m below meth c A Q ls hB hP hD hA hQ hl
  obtain ⟨hx, hb, hml, hr, hts, hown, hname, hlocks, hG⟩ := hB
  have hown : s.vm.findClass RX3 = some m.cls := hown
  have hS : va_S A s.heap s.heap [] := va_S.rf
  have hl : lv_has ls 3 [(0, .ref (g 0)), (1, .int p1), (2, .int p2)] := hl
  generalize ([] : List Loc) = locs at hS ⊢
  have hB27 : ∀ (w0 : Bool) (locs : List Loc) (ls : Array Slot), M_X3_isAwaited_27 x p1 p2 w0 = out → va_S A s.heap s.heap locs → lv_has ls 3 [] → W p l e ({ frames := 2, cells := 0, slots := 0, locals := 46 } : Room) s m ([.ref (g 0), .int p1, .int p2] : List Value).toArray below meth c s.heap locs 0 0 Q (F0 m 27 ls [.int (zI w0)]) := by
    intro w0 locs ls hM hS hl
    unfold M_X3_isAwaited_27 at hM
    subst hM
    exact wk_retPi hx hb hr hlocks hQ (zI_nar _) rfl hS dX3_isAwaited_27
  have hB26 : ∀  (locs : List Loc) (ls : Array Slot), M_X3_isAwaited_26 x p1 p2 = out → va_S A s.heap s.heap locs → lv_has ls 3 [] → W p l e ({ frames := 2, cells := 0, slots := 0, locals := 46 } : Room) s m ([.ref (g 0), .int p1, .int p2] : List Value).toArray below meth c s.heap locs 0 0 Q (F0 m 26 ls []) := by
    intro  locs ls hM hS hl
    unfold M_X3_isAwaited_26 at hM
    refine lv_iconst (v := (0 : Int32)) hx hb dX3_isAwaited_26 (by decide) ?_
    exact hB27 false  _ _ hM hS (lv_sub hl [] rfl)
  unfold M_X3_isAwaited at hM
  refine lv_aload_n hx hb dX3_isAwaited_0 rfl (lv_at hl 0 rfl) ?_
  refine lv_iload_n hx hb dX3_isAwaited_1 rfl (lv_at hl 1 rfl) ?_
  refine wk_callP (va_runV (As := [.int p1]) (rest := []) ⟨hx, hb, hml, hown, hts⟩ (c_X3_isOpen l dC dI cI cD cJ kk g x p1 _ rfl s.heap) (cwV 1 hts gX3_isAwaited_X3_isOpen rfl rfl rfl (by decide +kernel) ⟨Nat.le_of_ble_eq_true rfl, Nat.le_of_ble_eq_true rfl⟩) (wk_preV (ci := 2) (q0 := 0) hG hP hD [0, 1, 2, 3, 4] rfl rfl rfl rfl) rfl rfl hl.1 rfl (lv_room (Nat.le_of_ble_eq_true rfl)) dX3_isAwaited_2 ⟨Nat.le_of_ble_eq_true rfl, Nat.le_of_ble_eq_true rfl⟩) hS (fun locs hS => ?_)
  refine lv_if_eq (tgt := 26) hx hb dX3_isAwaited_5 (by decide) (fun c1 => ?_) (fun c1 => ?_)
  · replace hM := (if_pos c1).symm.trans hM
    exact hB26   _ _ hM hS (lv_sub hl [] rfl)
  · replace hM := (if_neg c1).symm.trans hM
    refine lv_aload_n hx hb dX3_isAwaited_8 rfl (lv_at hl 0 rfl) ?_
    refine lv_iload_n hx hb dX3_isAwaited_9 rfl (lv_at hl 1 rfl) ?_
    refine wk_callP (va_runV (As := [.int p1]) (rest := []) ⟨hx, hb, hml, hown, hts⟩ (c_X3_claimOf l dC dI cI cD cJ kk g x p1 _ rfl s.heap) (cwV 1 hts gX3_isAwaited_X3_claimOf rfl rfl rfl (by decide +kernel) ⟨Nat.le_of_ble_eq_true rfl, Nat.le_of_ble_eq_true rfl⟩) (wk_preV (ci := 2) (q0 := 0) hG hP hD [0, 1, 2, 3, 4] rfl rfl rfl rfl) rfl rfl hl.1 rfl (lv_room (Nat.le_of_ble_eq_true rfl)) dX3_isAwaited_10 ⟨Nat.le_of_ble_eq_true rfl, Nat.le_of_ble_eq_true rfl⟩) hS (fun locs hS => ?_)
    refine lv_aload_n hx hb dX3_isAwaited_13 rfl (lv_at hl 0 rfl) ?_
    refine lv_iload_n hx hb dX3_isAwaited_14 rfl (lv_at hl 2 rfl) ?_
    refine wk_callP (va_runV (As := [.int p2]) (rest := [.int (M_X3_claimOf x p1)]) ⟨hx, hb, hml, hown, hts⟩ (c_X3_claimOf l dC dI cI cD cJ kk g x p2 _ rfl s.heap) (cwV 1 hts gX3_isAwaited_X3_claimOf rfl rfl rfl (by decide +kernel) ⟨Nat.le_of_ble_eq_true rfl, Nat.le_of_ble_eq_true rfl⟩) (wk_preV (ci := 2) (q0 := 0) hG hP hD [0, 1, 2, 3, 4] rfl rfl rfl rfl) rfl rfl hl.1 rfl (lv_room (Nat.le_of_ble_eq_true rfl)) dX3_isAwaited_15 ⟨Nat.le_of_ble_eq_true rfl, Nat.le_of_ble_eq_true rfl⟩) hS (fun locs hS => ?_)
    refine lv_iand hx hb dX3_isAwaited_18 ?_
    refine lv_if_eq (tgt := 26) hx hb dX3_isAwaited_19 (by decide) (fun c2 => ?_) (fun c2 => ?_)
    · replace hM := (if_pos c2).symm.trans hM
      exact hB26   _ _ hM hS (lv_sub hl [] rfl)
    · replace hM := (if_neg c2).symm.trans hM
      refine lv_iconst (v := (1 : Int32)) hx hb dX3_isAwaited_22 (by decide) ?_
      refine lv_goto (tgt := 27) hx hb dX3_isAwaited_23 (by decide) ?_
      exact hB27 true  _ _ hM hS (lv_sub hl [] rfl)
set_option maxHeartbeats 4000000 in
set_option maxRecDepth 100000 in
theorem c_X3_firstAwaited (l : Launch) (dC : Nat → ClassId) (dI : Nat → Nat → Nat) (cI cD cJ : ClassId) (kk : wAd) (g : Nat → Nat) (x : DS) (p1 : Int32) (out : Int32) (hM : M_X3_firstAwaited x p1 = some out) : CP l yX3_firstAwaited wsX3_firstAwaited ({ frames := 3, cells := 0, slots := 0, locals := 68 } : Room) dC dI (wTys cI cD cJ) [.ref (g 0), .int p1] (wDrv cI g x) (some (.int out)) := by
  refine wk_enterP (cc := cX3_firstAwaited) (maxL := 3) (ret := (some .int)) (by decide) rfl (Nat.le_of_ble_eq_true rfl) ?_
  intro p e s m below meth c A Q ls hB hP hD hA hQ hl
  obtain ⟨hx, hb, hml, hr, hts, hown, hname, hlocks, hG⟩ := hB
  have hown : s.vm.findClass RX3 = some m.cls := hown
  have hS : va_S A s.heap s.heap [] := va_S.rf
  have hl : lv_has ls 3 [(0, .ref (g 0)), (1, .int p1)] := hl
  generalize ([] : List Loc) = locs at hS ⊢
  have hL12 : ∀ (n12 : Nat) (u2 : Int32) (locs : List Loc) (ls : Array Slot), lpF (M_X3_firstAwaited_12s x p1) n12 (u2) = some out → va_S A s.heap s.heap locs → lv_has ls 3 [(0, .ref (g 0)), (1, .int p1), (2, .int u2)] → W p l e ({ frames := 3, cells := 0, slots := 0, locals := 68 } : Room) s m ([.ref (g 0), .int p1] : List Value).toArray below meth c s.heap locs 0 0 Q (F0 m 12 ls []) := by
    intro n12
    induction n12 with
    | zero => intro u2 locs ls hM; exact lpF_0 hM
    | succ n12 ih12 =>
      intro u2 locs ls hM hS hl
      replace hM : M_X3_firstAwaited_12s x p1 (lpF (M_X3_firstAwaited_12s x p1) n12) (u2) = some out := hM
      unfold M_X3_firstAwaited_12s at hM
      try dsimp only at hM
      refine lv_iload_n hx hb dX3_firstAwaited_12 rfl (lv_at hl 2 rfl) ?_
      refine lv_iload_n hx hb dX3_firstAwaited_13 rfl (lv_at hl 1 rfl) ?_
      refine lv_icmp_ge (tgt := 34) hx hb dX3_firstAwaited_14 (by decide) (fun c1 => ?_) (fun c1 => ?_)
      · replace hM := (if_pos c1).symm.trans hM
        refine lv_iconst (v := (-1 : Int32)) hx hb dX3_firstAwaited_34 (by decide) ?_
        replace hM := Option.some.inj hM
        subst hM
        exact wk_retPi hx hb hr hlocks hQ rfl rfl hS dX3_firstAwaited_35
      · replace hM := (if_neg c1).symm.trans hM
        refine lv_aload_n hx hb dX3_firstAwaited_17 rfl (lv_at hl 0 rfl) ?_
        refine lv_iload_n hx hb dX3_firstAwaited_18 rfl (lv_at hl 2 rfl) ?_
        refine lv_iload_n hx hb dX3_firstAwaited_19 rfl (lv_at hl 1 rfl) ?_
        refine wk_callP (va_runV (As := [.int u2, .int p1]) (rest := []) ⟨hx, hb, hml, hown, hts⟩ (c_X3_isAwaited l dC dI cI cD cJ kk g x u2 p1 _ rfl s.heap) (cwV 2 hts gX3_firstAwaited_X3_isAwaited rfl rfl rfl (by decide +kernel) ⟨Nat.le_of_ble_eq_true rfl, Nat.le_of_ble_eq_true rfl⟩) (wk_preV (ci := 2) (q0 := 0) hG hP hD [0, 1, 2, 3, 4] rfl rfl rfl rfl) rfl rfl hl.1 rfl (lv_room (Nat.le_of_ble_eq_true rfl)) dX3_firstAwaited_20 ⟨Nat.le_of_ble_eq_true rfl, Nat.le_of_ble_eq_true rfl⟩) hS (fun locs hS => ?_)
        refine lv_if_eq (tgt := 28) hx hb dX3_firstAwaited_23 (by decide) (fun c2 => ?_) (fun c2 => ?_)
        · replace hM := (if_pos c2).symm.trans hM
          refine lv_iinc (v := (u2 + 1)) (lv' := [(2, .int (u2 + 1)), (0, .ref (g 0)), (1, .int p1)]) hx hb dX3_firstAwaited_28 hl (k := 2) rfl rfl (by decide) rfl (fun ls hl => ?_)
          refine lv_goto (tgt := 12) hx hb dX3_firstAwaited_31 (by decide) ?_
          exact ih12 (u2 + 1)  _ _ hM hS (lv_sub hl [1, 2, 0] rfl)
        · replace hM := (if_neg c2).symm.trans hM
          refine lv_iload_n hx hb dX3_firstAwaited_26 rfl (lv_at hl 2 rfl) ?_
          replace hM := Option.some.inj hM
          subst hM
          exact wk_retPi hx hb hr hlocks hQ rfl rfl hS dX3_firstAwaited_27
  unfold M_X3_firstAwaited at hM
  refine lv_aload_n hx hb dX3_firstAwaited_0 rfl (lv_at hl 0 rfl) ?_
  refine lv_iload_n hx hb dX3_firstAwaited_1 rfl (lv_at hl 1 rfl) ?_
  refine wk_callP (va_runV (As := [.int p1]) (rest := []) ⟨hx, hb, hml, hown, hts⟩ (c_X3_isOpen l dC dI cI cD cJ kk g x p1 _ rfl s.heap) (cwV 1 hts gX3_firstAwaited_X3_isOpen rfl rfl rfl (by decide +kernel) ⟨Nat.le_of_ble_eq_true rfl, Nat.le_of_ble_eq_true rfl⟩) (wk_preV (ci := 2) (q0 := 0) hG hP hD [0, 1, 2, 3, 4] rfl rfl rfl rfl) rfl rfl hl.1 rfl (lv_room (Nat.le_of_ble_eq_true rfl)) dX3_firstAwaited_2 ⟨Nat.le_of_ble_eq_true rfl, Nat.le_of_ble_eq_true rfl⟩) hS (fun locs hS => ?_)
  refine lv_if_ne (tgt := 10) hx hb dX3_firstAwaited_5 (by decide) (fun c1 => ?_) (fun c1 => ?_)
  · replace hM := (if_neg c1).symm.trans hM
    refine lv_iconst (v := (0 : Int32)) hx hb dX3_firstAwaited_10 (by decide) ?_
    refine lv_istore_n (lv' := [(2, .int (0 : Int32)), (0, .ref (g 0)), (1, .int p1)]) hx hb dX3_firstAwaited_11 rfl hl (by decide) rfl (fun ls hl => ?_)
    exact hL12 64 (0 : Int32)  _ _ hM hS (lv_sub hl [1, 2, 0] rfl)
  · replace hM := (if_pos c1).symm.trans hM
    refine lv_iconst (v := (-1 : Int32)) hx hb dX3_firstAwaited_8 (by decide) ?_
    replace hM := Option.some.inj hM
    subst hM
    exact wk_retPi hx hb hr hlocks hQ rfl rfl hS dX3_firstAwaited_9
set_option maxHeartbeats 4000000 in
set_option maxRecDepth 100000 in
theorem c_X3_firstTakeable (l : Launch) (dC : Nat → ClassId) (dI : Nat → Nat → Nat) (cI cD cJ : ClassId) (kk : wAd) (g : Nat → Nat) (x : DS) (p1 : Int32) (out : Int32) (hM : M_X3_firstTakeable x p1 = some out) : CP l yX3_firstTakeable wsX3_firstTakeable ({ frames := 2, cells := 0, slots := 0, locals := 46 } : Room) dC dI (wTys cI cD cJ) [.ref (g 0), .int p1] (wDrv cI g x) (some (.int out)) := by
  refine wk_enterP (cc := cX3_firstTakeable) (maxL := 5) (ret := (some .int)) (by decide) rfl (Nat.le_of_ble_eq_true rfl) ?_
  intro p e s m below meth c A Q ls hB hP hD hA hQ hl
  obtain ⟨hx, hb, hml, hr, hts, hown, hname, hlocks, hG⟩ := hB
  have hown : s.vm.findClass RX3 = some m.cls := hown
  have hS : va_S A s.heap s.heap [] := va_S.rf
  have hl : lv_has ls 5 [(0, .ref (g 0)), (1, .int p1)] := hl
  have inX3 : ∀ w ∈ wsX30, w ∈ wsX3_firstTakeable := fun _ h => List.mem_cons_of_mem _ (List.mem_append_left _ (List.mem_append_right _ h))
  generalize ([] : List Loc) = locs at hS ⊢
  have hL4 : ∀ (n4 : Nat) (u2 : Int32) (u3 : Int32) (locs : List Loc) (ls : Array Slot), lpF (M_X3_firstTakeable_4s x p1) n4 (u2, u3) = some out → va_S A s.heap s.heap locs → lv_has ls 5 [(0, .ref (g 0)), (1, .int p1), (2, .int u2), (3, .int u3)] → W p l e ({ frames := 2, cells := 0, slots := 0, locals := 46 } : Room) s m ([.ref (g 0), .int p1] : List Value).toArray below meth c s.heap locs 0 0 Q (F0 m 4 ls []) := by
    intro n4
    induction n4 with
    | zero => intro u2 u3 locs ls hM; exact lpF_0 hM
    | succ n4 ih4 =>
      have hB50 : ∀ (u2 : Int32) (u3 : Int32) (locs : List Loc) (ls : Array Slot), M_X3_firstTakeable_50 x p1 (lpF (M_X3_firstTakeable_4s x p1) n4) u2 u3 = some out → va_S A s.heap s.heap locs → lv_has ls 5 [(0, .ref (g 0)), (1, .int p1), (2, .int u2), (3, .int u3)] → W p l e ({ frames := 2, cells := 0, slots := 0, locals := 46 } : Room) s m ([.ref (g 0), .int p1] : List Value).toArray below meth c s.heap locs 0 0 Q (F0 m 50 ls []) := by
        intro u2 u3 locs ls hM hS hl
        unfold M_X3_firstTakeable_50 at hM
        refine lv_iinc (v := (u3 + 1)) (lv' := [(3, .int (u3 + 1)), (0, .ref (g 0)), (1, .int p1), (2, .int u2)]) hx hb dX3_firstTakeable_50 hl (k := 3) rfl rfl (by decide) rfl (fun ls hl => ?_)
        refine lv_goto (tgt := 4) hx hb dX3_firstTakeable_53 (by decide) ?_
        exact ih4 u2 (u3 + 1)  _ _ hM hS (lv_sub hl [1, 2, 3, 0] rfl)
      have hB45 : ∀ (u2 : Int32) (u3 : Int32) (u4 : Int32) (locs : List Loc) (ls : Array Slot), M_X3_firstTakeable_45 x p1 (lpF (M_X3_firstTakeable_4s x p1) n4) u2 u3 u4 = some out → va_S A s.heap s.heap locs → lv_has ls 5 [(0, .ref (g 0)), (1, .int p1), (2, .int u2), (3, .int u3), (4, .int u4)] → W p l e ({ frames := 2, cells := 0, slots := 0, locals := 46 } : Room) s m ([.ref (g 0), .int p1] : List Value).toArray below meth c s.heap locs 0 0 Q (F0 m 45 ls []) := by
        intro u2 u3 u4 locs ls hM hS hl
        unfold M_X3_firstTakeable_45 at hM
        refine lv_iload_n hx hb dX3_firstTakeable_45 rfl (lv_at hl 2 rfl) ?_
        refine lv_iload hx hb dX3_firstTakeable_46 (lv_at hl 4 rfl) ?_
        refine lv_ior hx hb dX3_firstTakeable_48 ?_
        refine lv_istore_n (lv' := [(2, .int (u2 ||| u4)), (0, .ref (g 0)), (1, .int p1), (3, .int u3), (4, .int u4)]) hx hb dX3_firstTakeable_49 rfl hl (by decide) rfl (fun ls hl => ?_)
        exact hB50 (u2 ||| u4) u3  _ _ hM hS (lv_sub hl [1, 2, 0, 3] rfl)
      intro u2 u3 locs ls hM hS hl
      replace hM : M_X3_firstTakeable_4s x p1 (lpF (M_X3_firstTakeable_4s x p1) n4) (u2, u3) = some out := hM
      unfold M_X3_firstTakeable_4s at hM
      try dsimp only at hM
      refine lv_iload_n hx hb dX3_firstTakeable_4 rfl (lv_at hl 3 rfl) ?_
      refine lv_aload_n hx hb dX3_firstTakeable_5 rfl (lv_at hl 0 rfl) ?_
      refine va_get (D := (dC, dI)) (ci := 2) (v := .int (ds_ord x)) (C := RX3) (T := TX3) (N := 8) hx hb hts inX3 hown hG.1 hP 0 rfl rfl 4 (by decide) (hts (.fieldLink RX3 28 "WokenDrive$Drive" "orders" "I") (List.mem_of_getElem? (i := 1) rfl)) (fun _ h9 => h9) rfl dX3_firstTakeable_6 ?_
      refine lv_icmp_ge (tgt := 56) hx hb dX3_firstTakeable_9 (by decide) (fun c1 => ?_) (fun c1 => ?_)
      · replace hM := (if_pos c1).symm.trans hM
        refine lv_iconst (v := (-1 : Int32)) hx hb dX3_firstTakeable_56 (by decide) ?_
        replace hM := Option.some.inj hM
        subst hM
        exact wk_retPi hx hb hr hlocks hQ rfl rfl hS dX3_firstTakeable_57
      · replace hM := (if_neg c1).symm.trans hM
        refine lv_aload_n hx hb dX3_firstTakeable_12 rfl (lv_at hl 0 rfl) ?_
        refine lv_iload_n hx hb dX3_firstTakeable_13 rfl (lv_at hl 3 rfl) ?_
        refine wk_callP (va_runV (As := [.int u3]) (rest := []) ⟨hx, hb, hml, hown, hts⟩ (c_X3_isOpen l dC dI cI cD cJ kk g x u3 _ rfl s.heap) (cwV 1 hts gX3_firstTakeable_X3_isOpen rfl rfl rfl (by decide +kernel) ⟨Nat.le_of_ble_eq_true rfl, Nat.le_of_ble_eq_true rfl⟩) (wk_preV (ci := 2) (q0 := 0) hG hP hD [0, 1, 2, 3, 4] rfl rfl rfl rfl) rfl rfl hl.1 rfl (lv_room (Nat.le_of_ble_eq_true rfl)) dX3_firstTakeable_14 ⟨Nat.le_of_ble_eq_true rfl, Nat.le_of_ble_eq_true rfl⟩) hS (fun locs hS => ?_)
        refine lv_if_eq (tgt := 50) hx hb dX3_firstTakeable_17 (by decide) (fun c2 => ?_) (fun c2 => ?_)
        · replace hM := (if_pos c2).symm.trans hM
          exact hB50 u2 u3  _ _ hM hS (lv_sub hl [0, 1, 2, 3] rfl)
        · replace hM := (if_neg c2).symm.trans hM
          refine lv_aload_n hx hb dX3_firstTakeable_20 rfl (lv_at hl 0 rfl) ?_
          refine lv_iload_n hx hb dX3_firstTakeable_21 rfl (lv_at hl 3 rfl) ?_
          refine wk_callP (va_runV (As := [.int u3]) (rest := []) ⟨hx, hb, hml, hown, hts⟩ (c_X3_claimOf l dC dI cI cD cJ kk g x u3 _ rfl s.heap) (cwV 1 hts gX3_firstTakeable_X3_claimOf rfl rfl rfl (by decide +kernel) ⟨Nat.le_of_ble_eq_true rfl, Nat.le_of_ble_eq_true rfl⟩) (wk_preV (ci := 2) (q0 := 0) hG hP hD [0, 1, 2, 3, 4] rfl rfl rfl rfl) rfl rfl hl.1 rfl (lv_room (Nat.le_of_ble_eq_true rfl)) dX3_firstTakeable_22 ⟨Nat.le_of_ble_eq_true rfl, Nat.le_of_ble_eq_true rfl⟩) hS (fun locs hS => ?_)
          refine lv_istore (lv' := [(4, .int (M_X3_claimOf x u3)), (0, .ref (g 0)), (1, .int p1), (2, .int u2), (3, .int u3)]) hx hb dX3_firstTakeable_25 hl (by decide) rfl (fun ls hl => ?_)
          refine lv_iload hx hb dX3_firstTakeable_27 (lv_at hl 0 rfl) ?_
          refine lv_iload_n hx hb dX3_firstTakeable_29 rfl (lv_at hl 3 rfl) ?_
          refine lv_iand hx hb dX3_firstTakeable_30 ?_
          refine lv_if_ne (tgt := 45) hx hb dX3_firstTakeable_31 (by decide) (fun c3 => ?_) (fun c3 => ?_)
          · replace hM := (if_neg c3).symm.trans hM
            exact hB45 u2 u3 (M_X3_claimOf x u3)  _ _ hM hS (lv_sub hl [1, 2, 3, 4, 0] rfl)
          · replace hM := (if_pos c3).symm.trans hM
            refine lv_aload_n hx hb dX3_firstTakeable_34 rfl (lv_at hl 1 rfl) ?_
            refine lv_iload_n hx hb dX3_firstTakeable_35 rfl (lv_at hl 2 rfl) ?_
            refine lv_iload_n hx hb dX3_firstTakeable_36 rfl (lv_at hl 4 rfl) ?_
            refine wk_callP (va_runV (As := [.int p1, .int u3]) (rest := []) ⟨hx, hb, hml, hown, hts⟩ (c_X3_hasArrivedMail l dC dI cI cD cJ kk g x p1 u3 _ rfl s.heap) (cwV 2 hts gX3_firstTakeable_X3_hasArrivedMail rfl rfl rfl (by decide +kernel) ⟨Nat.le_of_ble_eq_true rfl, Nat.le_of_ble_eq_true rfl⟩) (wk_preV (ci := 2) (q0 := 0) hG hP hD [0, 1, 2, 3, 4] rfl rfl rfl rfl) rfl rfl hl.1 rfl (lv_room (Nat.le_of_ble_eq_true rfl)) dX3_firstTakeable_37 ⟨Nat.le_of_ble_eq_true rfl, Nat.le_of_ble_eq_true rfl⟩) hS (fun locs hS => ?_)
            refine lv_if_eq (tgt := 45) hx hb dX3_firstTakeable_40 (by decide) (fun c4 => ?_) (fun c4 => ?_)
            · replace hM := (if_pos c4).symm.trans hM
              exact hB45 u2 u3 (M_X3_claimOf x u3)  _ _ hM hS (lv_sub hl [1, 2, 3, 4, 0] rfl)
            · replace hM := (if_neg c4).symm.trans hM
              refine lv_iload_n hx hb dX3_firstTakeable_43 rfl (lv_at hl 4 rfl) ?_
              replace hM := Option.some.inj hM
              subst hM
              exact wk_retPi hx hb hr hlocks hQ rfl rfl hS dX3_firstTakeable_44
  unfold M_X3_firstTakeable at hM
  refine lv_iconst (v := (0 : Int32)) hx hb dX3_firstTakeable_0 (by decide) ?_
  refine lv_istore_n (lv' := [(2, .int (0 : Int32)), (0, .ref (g 0)), (1, .int p1)]) hx hb dX3_firstTakeable_1 rfl hl (by decide) rfl (fun ls hl => ?_)
  refine lv_iconst (v := (0 : Int32)) hx hb dX3_firstTakeable_2 (by decide) ?_
  refine lv_istore_n (lv' := [(3, .int (0 : Int32)), (2, .int (0 : Int32)), (0, .ref (g 0)), (1, .int p1)]) hx hb dX3_firstTakeable_3 rfl hl (by decide) rfl (fun ls hl => ?_)
  exact hL4 64 (0 : Int32) (0 : Int32)  _ _ hM hS (lv_sub hl [2, 3, 1, 0] rfl)
set_option maxHeartbeats 4000000 in
set_option maxRecDepth 100000 in
theorem c_X3_sortOutMail (l : Launch) (dC : Nat → ClassId) (dI : Nat → Nat → Nat) (cI cD cJ : ClassId) (kk : wAd) (g : Nat → Nat) (x : DS) (p1 : Int32) (p2 : Int32) (out : DS) (hM : M_X3_sortOutMail x p1 p2 = some out) : CM l yX3_sortOutMail wsX3_sortOutMail ({ frames := 2, cells := 0, slots := 0, locals := 45 } : Room) dC dI (wTys cI cD cJ) [.ref (g 0), .int p1, .int p2] (wDrv cI g x) none (wDrv cI g out) 0 0 := by
  refine wk_enterM (cc := cX3_sortOutMail) (maxL := 5) (ret := none) (by decide) rfl (Nat.le_of_ble_eq_true rfl) ?_
  intro p e s m below meth c A Q ls hB hA hP hD hQ hl
  obtain ⟨hx, hb, hml, hr, hts, hown, hname, hlocks, hG⟩ := hB
  have hown : s.vm.findClass RX3 = some m.cls := hown
  have hS : va_S A s.heap s.heap [] := va_S.rf
  have hl : lv_has ls 5 [(0, .ref (g 0)), (1, .int p1), (2, .int p2)] := hl
  have inX2 : ∀ w ∈ wsX20, w ∈ wsX3_sortOutMail := fun _ h => List.mem_cons_of_mem _ (List.mem_append_left _ (List.mem_append_right _ h))
  obtain ⟨H, hH⟩ : ∃ z, z = s.heap := ⟨_, rfl⟩
  have hP : va_P (dC, dI) vwCl (wDrv cI g x) H := by rw [hH]; exact hP
  have hS : va_S A s.heap H [] := by rw [hH]; exact hS
  refine wk_at hH ?_
  generalize ([] : List Loc) = locs at hS ⊢
  have hL9 : ∀ (n9 : Nat) (u4 : Int32) (y0 : DS) (H : Heap) (locs : List Loc) (ls : Array Slot), lpF (M_X3_sortOutMail_9s x p1 p2) n9 (u4, y0) = some out → va_P (dC, dI) vwCl (wDrv cI g y0) H → va_D A (wDrv cI g y0) → va_S A s.heap H locs → lv_has ls 5 [(0, .ref (g 0)), (1, .int p1), (2, .int p2), (3, .ref (ctlA g p1)), (4, .int u4)] → W p l e ({ frames := 2, cells := 0, slots := 0, locals := 45 } : Room) s m ([.ref (g 0), .int p1, .int p2] : List Value).toArray below meth c H locs 0 0 Q (F0 m 9 ls []) := by
    intro n9
    induction n9 with
    | zero => intro u4 y0 H locs ls hM; exact lpF_0 hM
    | succ n9 ih9 =>
      have hB73 : ∀ (u4 : Int32) (y0 : DS) (H : Heap) (locs : List Loc) (ls : Array Slot), M_X3_sortOutMail_73 x p1 p2 (lpF (M_X3_sortOutMail_9s x p1 p2) n9) u4 y0 = some out → va_P (dC, dI) vwCl (wDrv cI g y0) H → va_D A (wDrv cI g y0) → va_S A s.heap H locs → lv_has ls 5 [(0, .ref (g 0)), (1, .int p1), (2, .int p2), (3, .ref (ctlA g p1)), (4, .int u4)] → W p l e ({ frames := 2, cells := 0, slots := 0, locals := 45 } : Room) s m ([.ref (g 0), .int p1, .int p2] : List Value).toArray below meth c H locs 0 0 Q (F0 m 73 ls []) := by
        intro u4 y0 H locs ls hM hP hD hS hl
        unfold M_X3_sortOutMail_73 at hM
        refine lv_iinc (v := (u4 + 1)) (lv' := [(4, .int (u4 + 1)), (0, .ref (g 0)), (1, .int p1), (2, .int p2), (3, .ref (ctlA g p1))]) hx hb dX3_sortOutMail_73 hl (k := 4) rfl rfl (by decide) rfl (fun ls hl => ?_)
        refine lv_goto (tgt := 9) hx hb dX3_sortOutMail_76 (by decide) ?_
        exact ih9 (u4 + 1) y0 H _ _ hM hP hD hS (lv_sub hl [1, 2, 3, 4, 0] rfl)
      intro u4 y0 H locs ls hM hP hD hS hl
      replace hM : M_X3_sortOutMail_9s x p1 p2 (lpF (M_X3_sortOutMail_9s x p1 p2) n9) (u4, y0) = some out := hM
      unfold M_X3_sortOutMail_9s at hM
      try dsimp only at hM
      refine lv_iload hx hb dX3_sortOutMail_9 (lv_at hl 4 rfl) ?_
      refine lv_iload_n hx hb dX3_sortOutMail_11 rfl (lv_at hl 2 rfl) ?_
      refine lv_icmp_ge (tgt := 79) hx hb dX3_sortOutMail_12 (by decide) (fun c1 => ?_) (fun c1 => ?_)
      · replace hM := (if_pos c1).symm.trans hM
        replace hM := Option.some.inj hM
        subst hM
        exact wk_retMv hx hb hr hlocks hQ rfl hP hD hS dX3_sortOutMail_79
      · replace hM := (if_neg c1).symm.trans hM
        refine lv_aload_n hx hb dX3_sortOutMail_15 rfl (lv_at hl 0 rfl) ?_
        refine lv_iload_n hx hb dX3_sortOutMail_16 rfl (lv_at hl 1 rfl) ?_
        refine lv_iload hx hb dX3_sortOutMail_17 (lv_at hl 4 rfl) ?_
        refine wk_callP (va_runV (As := [.int p1, .int u4]) (rest := []) ⟨hx, hb, hml, hown, hts⟩ (c_X3_hasArrivedMail l dC dI cI cD cJ kk g y0 p1 u4 _ rfl H) (cwV 2 hts gX3_sortOutMail_X3_hasArrivedMail rfl rfl rfl (by decide +kernel) ⟨Nat.le_of_ble_eq_true rfl, Nat.le_of_ble_eq_true rfl⟩) (wk_preV (ci := 2) (q0 := 0) hG hP hD [0, 1, 2, 3, 4] rfl rfl rfl rfl) rfl rfl hl.1 rfl (lv_room (Nat.le_of_ble_eq_true rfl)) dX3_sortOutMail_19 ⟨Nat.le_of_ble_eq_true rfl, Nat.le_of_ble_eq_true rfl⟩) hS (fun locs hS => ?_)
        refine lv_if_eq (tgt := 73) hx hb dX3_sortOutMail_22 (by decide) (fun c2 => ?_) (fun c2 => ?_)
        · replace hM := (if_pos c2).symm.trans hM
          exact hB73 u4 y0 H _ _ hM hP hD hS (lv_sub hl [0, 1, 2, 3, 4] rfl)
        · replace hM := (if_neg c2).symm.trans hM
          refine lv_aload_n hx hb dX3_sortOutMail_25 rfl (lv_at hl 0 rfl) ?_
          refine lv_iload hx hb dX3_sortOutMail_26 (lv_at hl 4 rfl) ?_
          refine wk_callP (va_runV (As := [.int u4]) (rest := []) ⟨hx, hb, hml, hown, hts⟩ (c_X3_isOpen l dC dI cI cD cJ kk g y0 u4 _ rfl H) (cwV 1 hts gX3_sortOutMail_X3_isOpen rfl rfl rfl (by decide +kernel) ⟨Nat.le_of_ble_eq_true rfl, Nat.le_of_ble_eq_true rfl⟩) (wk_preV (ci := 2) (q0 := 0) hG hP hD [0, 1, 2, 3, 4] rfl rfl rfl rfl) rfl rfl hl.1 rfl (lv_room (Nat.le_of_ble_eq_true rfl)) dX3_sortOutMail_28 ⟨Nat.le_of_ble_eq_true rfl, Nat.le_of_ble_eq_true rfl⟩) hS (fun locs hS => ?_)
          refine lv_if_ne (tgt := 73) hx hb dX3_sortOutMail_31 (by decide) (fun c3 => ?_) (fun c3 => ?_)
          · replace hM := (if_neg c3).symm.trans hM
            exact hB73 u4 y0 H _ _ hM hP hD hS (lv_sub hl [0, 1, 2, 3, 4] rfl)
          · replace hM := (if_pos c3).symm.trans hM
            refine lv_aload_n hx hb dX3_sortOutMail_34 rfl (lv_at hl 3 rfl) ?_
            refine lv_iload hx hb dX3_sortOutMail_35 (lv_at hl 4 rfl) ?_
            obtain ⟨r4, hr4, hM⟩ := tbE hM
            obtain ⟨y_5, hy_5, hM⟩ := tbE hM
            refine wk_callMC (va_runV (As := [.int u4]) (rest := []) ⟨hx, hb, hml, hown, hts⟩ (c_X2_drop l dC dI cI cD cJ kk (ctlA g p1) (dCtl y0 p1) u4 _ hr4.symm H) (cwV 1 hts gX3_sortOutMail_X2_drop rfl rfl rfl (by decide +kernel) ⟨Nat.le_of_ble_eq_true rfl, Nat.le_of_ble_eq_true rfl⟩) (wk_preVC hG hP hD 3 4 rfl rfl (by decide)) rfl rfl hl.1 rfl (lv_room (Nat.le_of_ble_eq_true rfl)) dX3_sortOutMail_37 ⟨Nat.le_of_ble_eq_true rfl, Nat.le_of_ble_eq_true rfl⟩) hP hD hS hA 3 4 rfl rfl (by decide) (fun H locs hP hD hS => ?_)
            have hP : va_P (dC, dI) vwCl (wDrv cI g y_5) H := by rw [hy_5]; exact hP
            have hD : va_D A (wDrv cI g y_5) := by rw [hy_5]; exact hD
            refine lv_aload_n hx hb dX3_sortOutMail_40 rfl (lv_at hl 0 rfl) ?_
            refine lv_iload hx hb dX3_sortOutMail_41 (lv_at hl 4 rfl) ?_
            refine lv_iconst (v := (5 : Int32)) hx hb dX3_sortOutMail_43 (by decide) ?_
            refine wk_callP (va_runV (As := [.int u4, .int (5 : Int32)]) (rest := []) ⟨hx, hb, hml, hown, hts⟩ (c_X3_fact l dC dI cI cD cJ kk g y_5 u4 (5 : Int32) _ rfl H) (cwV 2 hts gX3_sortOutMail_X3_fact rfl rfl rfl (by decide +kernel) ⟨Nat.le_of_ble_eq_true rfl, Nat.le_of_ble_eq_true rfl⟩) (wk_preV (ci := 2) (q0 := 0) hG hP hD [0, 1, 2, 3, 4] rfl rfl rfl rfl) rfl rfl hl.1 rfl (lv_room (Nat.le_of_ble_eq_true rfl)) dX3_sortOutMail_44 ⟨Nat.le_of_ble_eq_true rfl, Nat.le_of_ble_eq_true rfl⟩) hS (fun locs hS => ?_)
            refine lv_iconst (v := (2 : Int32)) hx hb dX3_sortOutMail_47 (by decide) ?_
            refine lv_icmp_ne (tgt := 73) hx hb dX3_sortOutMail_48 (by decide) (fun c6 => ?_) (fun c6 => ?_)
            · replace hM := (if_neg c6).symm.trans hM
              exact hB73 u4 y_5 H _ _ hM hP hD hS (lv_sub hl [0, 1, 2, 3, 4] rfl)
            · replace hM := (if_pos c6).symm.trans hM
              refine lv_aload_n hx hb dX3_sortOutMail_51 rfl (lv_at hl 0 rfl) ?_
              refine lv_iload hx hb dX3_sortOutMail_52 (lv_at hl 4 rfl) ?_
              refine lv_bipush (v := (6 : Int32)) hx hb dX3_sortOutMail_54 (by decide) ?_
              refine wk_callP (va_runV (As := [.int u4, .int (6 : Int32)]) (rest := []) ⟨hx, hb, hml, hown, hts⟩ (c_X3_fact l dC dI cI cD cJ kk g y_5 u4 (6 : Int32) _ rfl H) (cwV 2 hts gX3_sortOutMail_X3_fact rfl rfl rfl (by decide +kernel) ⟨Nat.le_of_ble_eq_true rfl, Nat.le_of_ble_eq_true rfl⟩) (wk_preV (ci := 2) (q0 := 0) hG hP hD [0, 1, 2, 3, 4] rfl rfl rfl rfl) rfl rfl hl.1 rfl (lv_room (Nat.le_of_ble_eq_true rfl)) dX3_sortOutMail_56 ⟨Nat.le_of_ble_eq_true rfl, Nat.le_of_ble_eq_true rfl⟩) hS (fun locs hS => ?_)
              refine lv_iload_n hx hb dX3_sortOutMail_59 rfl (lv_at hl 1 rfl) ?_
              refine lv_icmp_eq (tgt := 73) hx hb dX3_sortOutMail_60 (by decide) (fun c7 => ?_) (fun c7 => ?_)
              · replace hM := (if_pos c7).symm.trans hM
                exact hB73 u4 y_5 H _ _ hM hP hD hS (lv_sub hl [0, 1, 2, 3, 4] rfl)
              · replace hM := (if_neg c7).symm.trans hM
                refine lv_aload_n hx hb dX3_sortOutMail_63 rfl (lv_at hl 3 rfl) ?_
                refine lv_dup hx hb dX3_sortOutMail_64 rfl ?_
                refine wk_getC (v := .int (cs_qua (dCtl y_5 p1))) hx hb hts inX2 hown hG hP 3 4 rfl rfl 6 (by decide) (hts (.fieldLink RX3 172 "WokenDrive$Controller" "quarrels" "I") (List.mem_of_getElem? (i := 1) rfl)) rfl dX3_sortOutMail_65 ?_
                refine lv_iconst (v := (1 : Int32)) hx hb dX3_sortOutMail_68 (by decide) ?_
                refine lv_iadd hx hb dX3_sortOutMail_69 ?_
                refine wk_putC (ty := .int) (x' := (cs_qua_s (dCtl y_5 p1) ((cs_qua (dCtl y_5 p1)) + (1 : Int32)))) (v := .int ((cs_qua (dCtl y_5 p1)) + (1 : Int32))) hx hb hts inX2 hown hG hP hD hS 3 4 rfl rfl 6 (by decide) (by decide) (hts (.fieldLink RX3 172 "WokenDrive$Controller" "quarrels" "I") (List.mem_of_getElem? (i := 1) rfl)) rfl (by decide +kernel) rfl rfl rfl dX3_sortOutMail_70 (fun H locs hP hD hS => ?_)
                have hP : va_P (dC, dI) vwCl (wDrv cI g (dCtl_s y_5 p1 (cs_qua_s (dCtl y_5 p1) ((cs_qua (dCtl y_5 p1)) + (1 : Int32))))) H := hP
                have hD : va_D A (wDrv cI g (dCtl_s y_5 p1 (cs_qua_s (dCtl y_5 p1) ((cs_qua (dCtl y_5 p1)) + (1 : Int32))))) := hD
                exact hB73 u4 (dCtl_s y_5 p1 (cs_qua_s (dCtl y_5 p1) ((cs_qua (dCtl y_5 p1)) + (1 : Int32)))) H _ _ hM hP hD hS (lv_sub hl [0, 1, 2, 3, 4] rfl)
  unfold M_X3_sortOutMail at hM
  refine lv_aload_n hx hb dX3_sortOutMail_0 rfl (lv_at hl 0 rfl) ?_
  refine lv_iload_n hx hb dX3_sortOutMail_1 rfl (lv_at hl 1 rfl) ?_
  refine wk_callP (va_runV (As := [.int p1]) (rest := []) ⟨hx, hb, hml, hown, hts⟩ (c_X3_controllerAt l dC dI cI cD cJ kk g x p1 H) (cwV 1 hts gX3_sortOutMail_X3_controllerAt rfl rfl rfl (by decide +kernel) ⟨Nat.le_of_ble_eq_true rfl, Nat.le_of_ble_eq_true rfl⟩) (wk_preV (ci := 2) (q0 := 0) hG hP hD [0, 1, 2, 3, 4] rfl rfl rfl rfl) rfl rfl hl.1 rfl (lv_room (Nat.le_of_ble_eq_true rfl)) dX3_sortOutMail_2 ⟨Nat.le_of_ble_eq_true rfl, Nat.le_of_ble_eq_true rfl⟩) hS (fun locs hS => ?_)
  refine lv_astore_n (lv' := [(3, .ref (ctlA g p1)), (0, .ref (g 0)), (1, .int p1), (2, .int p2)]) hx hb dX3_sortOutMail_5 rfl hl (by decide) rfl (fun ls hl => ?_)
  refine lv_iconst (v := (0 : Int32)) hx hb dX3_sortOutMail_6 (by decide) ?_
  refine lv_istore (lv' := [(4, .int (0 : Int32)), (3, .ref (ctlA g p1)), (0, .ref (g 0)), (1, .int p1), (2, .int p2)]) hx hb dX3_sortOutMail_7 hl (by decide) rfl (fun ls hl => ?_)
  exact hL9 64 (0 : Int32) x H _ _ hM hP hD hS (lv_sub hl [2, 3, 4, 1, 0] rfl)
set_option maxHeartbeats 4000000 in
set_option maxRecDepth 100000 in
theorem c_X3_letWork (l : Launch) (dC : Nat → ClassId) (dI : Nat → Nat → Nat) (cI cD cJ : ClassId) (kk : wAd) (g : Nat → Nat) (x : DS) (p1 : Int32) (p2 : Int32) (out : Int32 × DS) (hM : M_X3_letWork x p1 p2 = some out) : CM l yX3_letWork wsX3_letWork ({ frames := 3, cells := 0, slots := 0, locals := 70 } : Room) dC dI (wTys cI cD cJ) [.ref (g 0), .int p1, .int p2] (wDrv cI g x) (some (.int out.1)) (wDrv cI g out.2) 0 0 := by
  refine wk_enterM (cc := cX3_letWork) (maxL := 4) (ret := (some .int)) (by decide) rfl (Nat.le_of_ble_eq_true rfl) ?_
  intro p e s m below meth c A Q ls hB hA hP hD hQ hl
  obtain ⟨hx, hb, hml, hr, hts, hown, hname, hlocks, hG⟩ := hB
  have hown : s.vm.findClass RX3 = some m.cls := hown
  have hS : va_S A s.heap s.heap [] := va_S.rf
  have hl : lv_has ls 4 [(0, .ref (g 0)), (1, .int p1), (2, .int p2)] := hl
  have inX3 : ∀ w ∈ wsX30, w ∈ wsX3_letWork := fun _ h => List.mem_cons_of_mem _ (List.mem_append_left _ (List.mem_append_right _ h))
  obtain ⟨H, hH⟩ : ∃ z, z = s.heap := ⟨_, rfl⟩
  have hP : va_P (dC, dI) vwCl (wDrv cI g x) H := by rw [hH]; exact hP
  have hS : va_S A s.heap H [] := by rw [hH]; exact hS
  refine wk_at hH ?_
  generalize ([] : List Loc) = locs at hS ⊢
  have hB54 : ∀ (w0 : Int32) (y0 : DS) (H : Heap) (locs : List Loc) (ls : Array Slot), M_X3_letWork_54 x p1 p2 w0 y0 = some out → va_P (dC, dI) vwCl (wDrv cI g y0) H → va_D A (wDrv cI g y0) → va_S A s.heap H locs → lv_has ls 4 [] → W p l e ({ frames := 3, cells := 0, slots := 0, locals := 70 } : Room) s m ([.ref (g 0), .int p1, .int p2] : List Value).toArray below meth c H locs 0 0 Q (F0 m 54 ls [.int w0]) := by
    intro w0 y0 H locs ls hM hP hD hS hl
    unfold M_X3_letWork_54 at hM
    replace hM := Option.some.inj hM
    subst hM
    exact wk_retMi hx hb hr hlocks hQ rfl rfl hP hD hS dX3_letWork_54
  have hB35 : ∀ (u3 : Int32) (w2 : Int32) (y0 : DS) (H : Heap) (locs : List Loc) (ls : Array Slot), M_X3_letWork_35 x p1 p2 u3 w2 y0 = some out → va_P (dC, dI) vwCl (wDrv cI g y0) H → va_D A (wDrv cI g y0) → va_S A s.heap H locs → lv_has ls 4 [(0, .ref (g 0)), (1, .int p1), (2, .int p2), (3, .int u3)] → W p l e ({ frames := 3, cells := 0, slots := 0, locals := 70 } : Room) s m ([.ref (g 0), .int p1, .int p2] : List Value).toArray below meth c H locs 0 0 Q (F0 m 35 ls [.int w2, .int p1, .ref (g 0)]) := by
    intro u3 w2 y0 H locs ls hM hP hD hS hl
    unfold M_X3_letWork_35 at hM
    obtain ⟨r1, hr1, hM⟩ := ob hM
    refine wk_callM (ws' := (wDrv cI g r1)) (va_runV (As := [.int p1, .int w2]) (rest := []) ⟨hx, hb, hml, hown, hts⟩ (c_X3_sortOutMail l dC dI cI cD cJ kk g y0 p1 w2 _ hr1 H) (cwV 2 hts gX3_letWork_X3_sortOutMail rfl rfl rfl (by decide +kernel) ⟨Nat.le_of_ble_eq_true rfl, Nat.le_of_ble_eq_true rfl⟩) (wk_preV (ci := 2) (q0 := 0) hG hP hD [0, 1, 2, 3, 4] rfl rfl rfl rfl) rfl rfl hl.1 rfl (lv_room (Nat.le_of_ble_eq_true rfl)) dX3_letWork_35 ⟨Nat.le_of_ble_eq_true rfl, Nat.le_of_ble_eq_true rfl⟩) hP hD hS hA [0, 1, 2, 3, 4] [] [0, 1, 2, 3, 4] rfl rfl rfl (by decide) rfl rfl (fun H locs hP hD hS => ?_)
    refine lv_iload_n hx hb dX3_letWork_38 rfl (lv_at hl 3 rfl) ?_
    refine lv_iconst (v := (-1 : Int32)) hx hb dX3_letWork_39 (by decide) ?_
    refine lv_icmp_ne (tgt := 47) hx hb dX3_letWork_40 (by decide) (fun c2 => ?_) (fun c2 => ?_)
    · replace hM := (if_neg c2).symm.trans hM
      refine lv_aload_n hx hb dX3_letWork_47 rfl (lv_at hl 0 rfl) ?_
      refine lv_iload_n hx hb dX3_letWork_48 rfl (lv_at hl 1 rfl) ?_
      refine lv_iload_n hx hb dX3_letWork_49 rfl (lv_at hl 3 rfl) ?_
      refine lv_iload_n hx hb dX3_letWork_50 rfl (lv_at hl 2 rfl) ?_
      obtain ⟨r3, hr3, hM⟩ := tbE hM
      refine wk_callM (ws' := (wDrv cI g r3.2)) (va_runV (As := [.int p1, .int u3, .int p2]) (rest := []) ⟨hx, hb, hml, hown, hts⟩ (c_X3_makeSteps l dC dI cI cD cJ kk g r1 p1 u3 p2 _ hr3.symm H) (cwV 3 hts gX3_letWork_X3_makeSteps rfl rfl rfl (by decide +kernel) ⟨Nat.le_of_ble_eq_true rfl, Nat.le_of_ble_eq_true rfl⟩) (wk_preV (ci := 2) (q0 := 0) hG hP hD [0, 1, 2, 3, 4] rfl rfl rfl rfl) rfl rfl hl.1 rfl (lv_room (Nat.le_of_ble_eq_true rfl)) dX3_letWork_51 ⟨Nat.le_of_ble_eq_true rfl, Nat.le_of_ble_eq_true rfl⟩) hP hD hS hA [0, 1, 2, 3, 4] [] [0, 1, 2, 3, 4] rfl rfl rfl (by decide) rfl rfl (fun H locs hP hD hS => ?_)
      exact hB54 r3.1 r3.2 H _ _ hM hP hD hS (lv_sub hl [] rfl)
    · replace hM := (if_pos c2).symm.trans hM
      refine lv_iconst (v := (0 : Int32)) hx hb dX3_letWork_43 (by decide) ?_
      refine lv_goto (tgt := 54) hx hb dX3_letWork_44 (by decide) ?_
      exact hB54 (0 : Int32) r1 H _ _ hM hP hD hS (lv_sub hl [] rfl)
  unfold M_X3_letWork at hM
  refine lv_aload_n hx hb dX3_letWork_0 rfl (lv_at hl 0 rfl) ?_
  refine wk_callP (va_runV (As := []) (rest := []) ⟨hx, hb, hml, hown, hts⟩ (c_X3_isTorn l dC dI cI cD cJ kk g x _ rfl H) (cwV 0 hts gX3_letWork_X3_isTorn rfl rfl rfl (by decide +kernel) ⟨Nat.le_of_ble_eq_true rfl, Nat.le_of_ble_eq_true rfl⟩) (wk_preV (ci := 2) (q0 := 0) hG hP hD [0, 1, 2, 3, 4] rfl rfl rfl rfl) rfl rfl hl.1 rfl (lv_room (Nat.le_of_ble_eq_true rfl)) dX3_letWork_1 ⟨Nat.le_of_ble_eq_true rfl, Nat.le_of_ble_eq_true rfl⟩) hS (fun locs hS => ?_)
  refine lv_if_eq (tgt := 14) hx hb dX3_letWork_4 (by decide) (fun c1 => ?_) (fun c1 => ?_)
  · replace hM := (if_pos c1).symm.trans hM
    refine lv_aload_n hx hb dX3_letWork_14 rfl (lv_at hl 0 rfl) ?_
    refine lv_iload_n hx hb dX3_letWork_15 rfl (lv_at hl 1 rfl) ?_
    obtain ⟨r2, hr2, hM⟩ := ob hM
    refine wk_callP (va_runV (As := [.int p1]) (rest := []) ⟨hx, hb, hml, hown, hts⟩ (c_X3_firstTakeable l dC dI cI cD cJ kk g x p1 _ hr2 H) (cwV 1 hts gX3_letWork_X3_firstTakeable rfl rfl rfl (by decide +kernel) ⟨Nat.le_of_ble_eq_true rfl, Nat.le_of_ble_eq_true rfl⟩) (wk_preV (ci := 2) (q0 := 0) hG hP hD [0, 1, 2, 3, 4] rfl rfl rfl rfl) rfl rfl hl.1 rfl (lv_room (Nat.le_of_ble_eq_true rfl)) dX3_letWork_16 ⟨Nat.le_of_ble_eq_true rfl, Nat.le_of_ble_eq_true rfl⟩) hS (fun locs hS => ?_)
    refine lv_istore_n (lv' := [(3, .int r2), (0, .ref (g 0)), (1, .int p1), (2, .int p2)]) hx hb dX3_letWork_19 rfl hl (by decide) rfl (fun ls hl => ?_)
    refine lv_aload_n hx hb dX3_letWork_20 rfl (lv_at hl 1 rfl) ?_
    refine lv_iload_n hx hb dX3_letWork_21 rfl (lv_at hl 2 rfl) ?_
    refine lv_iload_n hx hb dX3_letWork_22 rfl (lv_at hl 0 rfl) ?_
    refine lv_iconst (v := (-1 : Int32)) hx hb dX3_letWork_23 (by decide) ?_
    refine lv_icmp_ne (tgt := 34) hx hb dX3_letWork_24 (by decide) (fun c3 => ?_) (fun c3 => ?_)
    · replace hM := (if_neg c3).symm.trans hM
      refine lv_iload_n hx hb dX3_letWork_34 rfl (lv_at hl 0 rfl) ?_
      exact hB35 r2 r2 x H _ _ hM hP hD hS (lv_sub hl [1, 2, 3, 0] rfl)
    · replace hM := (if_pos c3).symm.trans hM
      refine lv_aload_n hx hb dX3_letWork_27 rfl (lv_at hl 1 rfl) ?_
      refine va_get (D := (dC, dI)) (ci := 2) (v := .int (ds_ord x)) (C := RX3) (T := TX3) (N := 8) hx hb hts inX3 hown hG.1 hP 0 rfl rfl 4 (by decide) (hts (.fieldLink RX3 28 "WokenDrive$Drive" "orders" "I") (List.mem_of_getElem? (i := 1) rfl)) (fun _ h9 => h9) rfl dX3_letWork_28 ?_
      refine lv_goto (tgt := 35) hx hb dX3_letWork_31 (by decide) ?_
      exact hB35 r2 (ds_ord x) x H _ _ hM hP hD hS (lv_sub hl [1, 2, 3, 0] rfl)
  · replace hM := (if_neg c1).symm.trans hM
    refine lv_aload_n hx hb dX3_letWork_7 rfl (lv_at hl 0 rfl) ?_
    refine lv_iload_n hx hb dX3_letWork_8 rfl (lv_at hl 1 rfl) ?_
    obtain ⟨r4, hr4, hM⟩ := tbE hM
    refine wk_callM (ws' := (wDrv cI g r4)) (va_runV (As := [.int p1]) (rest := []) ⟨hx, hb, hml, hown, hts⟩ (c_X3_finishTorn l dC dI cI cD cJ kk g x p1 _ hr4.symm H) (cwV 1 hts gX3_letWork_X3_finishTorn rfl rfl rfl (by decide +kernel) ⟨Nat.le_of_ble_eq_true rfl, Nat.le_of_ble_eq_true rfl⟩) (wk_preV (ci := 2) (q0 := 0) hG hP hD [0, 1, 2, 3, 4] rfl rfl rfl rfl) rfl rfl hl.1 rfl (lv_room (Nat.le_of_ble_eq_true rfl)) dX3_letWork_9 ⟨Nat.le_of_ble_eq_true rfl, Nat.le_of_ble_eq_true rfl⟩) hP hD hS hA [0, 1, 2, 3, 4] [] [0, 1, 2, 3, 4] rfl rfl rfl (by decide) rfl rfl (fun H locs hP hD hS => ?_)
    refine lv_iconst (v := (1 : Int32)) hx hb dX3_letWork_12 (by decide) ?_
    replace hM := Option.some.inj hM
    subst hM
    exact wk_retMi hx hb hr hlocks hQ rfl rfl hP hD hS dX3_letWork_13
set_option maxHeartbeats 4000000 in
set_option maxRecDepth 100000 in
theorem c_X3_letPass (l : Launch) (dC : Nat → ClassId) (dI : Nat → Nat → Nat) (cI cD cJ : ClassId) (kk : wAd) (g : Nat → Nat) (x : DS) (p1 : Int32) (out : Int32 × DS) (hM : M_X3_letPass x p1 = some out) : CM l yX3_letPass wsX3_letPass ({ frames := 4, cells := 0, slots := 0, locals := 93 } : Room) dC dI (wTys cI cD cJ) [.ref (g 0), .int p1] (wDrv cI g x) (some (.int out.1)) (wDrv cI g out.2) 0 0 := by
  refine wk_enterM (cc := cX3_letPass) (maxL := 6) (ret := (some .int)) (by decide) rfl (Nat.le_of_ble_eq_true rfl) ?_
  intro p e s m below meth c A Q ls hB hA hP hD hQ hl
  obtain ⟨hx, hb, hml, hr, hts, hown, hname, hlocks, hG⟩ := hB
  have hown : s.vm.findClass RX3 = some m.cls := hown
  have hS : va_S A s.heap s.heap [] := va_S.rf
  have hl : lv_has ls 6 [(0, .ref (g 0)), (1, .int p1)] := hl
  have inX2 : ∀ w ∈ wsX20, w ∈ wsX3_letPass := fun _ h => List.mem_cons_of_mem _ (List.mem_append_right _ h)
  have inX3 : ∀ w ∈ wsX30, w ∈ wsX3_letPass := fun _ h => List.mem_cons_of_mem _ (List.mem_append_left _ (List.mem_append_right _ h))
  obtain ⟨H, hH⟩ : ∃ z, z = s.heap := ⟨_, rfl⟩
  have hP : va_P (dC, dI) vwCl (wDrv cI g x) H := by rw [hH]; exact hP
  have hS : va_S A s.heap H [] := by rw [hH]; exact hS
  refine wk_at hH ?_
  generalize ([] : List Loc) = locs at hS ⊢
  have hL4 : ∀ (n4 : Nat) (u2 : Int32) (u3 : Int32) (y0 : DS) (H : Heap) (locs : List Loc) (ls : Array Slot), lpF (M_X3_letPass_4s x p1) n4 (u2, u3, y0) = some out → va_P (dC, dI) vwCl (wDrv cI g y0) H → va_D A (wDrv cI g y0) → va_S A s.heap H locs → lv_has ls 6 [(0, .ref (g 0)), (1, .int p1), (2, .int u2), (3, .int u3)] → W p l e ({ frames := 4, cells := 0, slots := 0, locals := 93 } : Room) s m ([.ref (g 0), .int p1] : List Value).toArray below meth c H locs 0 0 Q (F0 m 4 ls []) := by
    intro n4
    induction n4 with
    | zero => intro u2 u3 y0 H locs ls hM; exact lpF_0 hM
    | succ n4 ih4 =>
      have hL34 : ∀ (n34 : Nat) (u2 : Int32) (u3 : Int32) (u4 : Int32) (y0 : DS) (H : Heap) (locs : List Loc) (ls : Array Slot), lpF (M_X3_letPass_34s x p1 (lpF (M_X3_letPass_4s x p1) n4)) n34 (u2, u3, u4, y0) = some out → va_P (dC, dI) vwCl (wDrv cI g y0) H → va_D A (wDrv cI g y0) → va_S A s.heap H locs → lv_has ls 6 [(0, .ref (g 0)), (1, .int p1), (2, .int u2), (3, .int u3), (4, .int u4)] → W p l e ({ frames := 4, cells := 0, slots := 0, locals := 93 } : Room) s m ([.ref (g 0), .int p1] : List Value).toArray below meth c H locs 0 0 Q (F0 m 34 ls []) := by
        intro n34
        induction n34 with
        | zero => intro u2 u3 u4 y0 H locs ls hM; exact lpF_0 hM
        | succ n34 ih34 =>
          have hB76 : ∀ (u2 : Int32) (u3 : Int32) (u4 : Int32) (y0 : DS) (H : Heap) (locs : List Loc) (ls : Array Slot), M_X3_letPass_76 x p1 (lpF (M_X3_letPass_4s x p1) n4) (lpF (M_X3_letPass_34s x p1 (lpF (M_X3_letPass_4s x p1) n4)) n34) u2 u3 u4 y0 = some out → va_P (dC, dI) vwCl (wDrv cI g y0) H → va_D A (wDrv cI g y0) → va_S A s.heap H locs → lv_has ls 6 [(0, .ref (g 0)), (1, .int p1), (2, .int u2), (3, .int u3), (4, .int u4)] → W p l e ({ frames := 4, cells := 0, slots := 0, locals := 93 } : Room) s m ([.ref (g 0), .int p1] : List Value).toArray below meth c H locs 0 0 Q (F0 m 76 ls []) := by
            intro u2 u3 u4 y0 H locs ls hM hP hD hS hl
            unfold M_X3_letPass_76 at hM
            refine lv_iinc (v := (u4 + 1)) (lv' := [(4, .int (u4 + 1)), (0, .ref (g 0)), (1, .int p1), (2, .int u2), (3, .int u3)]) hx hb dX3_letPass_76 hl (k := 4) rfl rfl (by decide) rfl (fun ls hl => ?_)
            refine lv_goto (tgt := 34) hx hb dX3_letPass_79 (by decide) ?_
            exact ih34 u2 u3 (u4 + 1) y0 H _ _ hM hP hD hS (lv_sub hl [1, 2, 3, 4, 0] rfl)
          intro u2 u3 u4 y0 H locs ls hM hP hD hS hl
          replace hM : M_X3_letPass_34s x p1 (lpF (M_X3_letPass_4s x p1) n4) (lpF (M_X3_letPass_34s x p1 (lpF (M_X3_letPass_4s x p1) n4)) n34) (u2, u3, u4, y0) = some out := hM
          unfold M_X3_letPass_34s at hM
          try dsimp only at hM
          refine lv_iload hx hb dX3_letPass_34 (lv_at hl 4 rfl) ?_
          refine lv_iconst (v := (2 : Int32)) hx hb dX3_letPass_36 (by decide) ?_
          refine lv_icmp_ge (tgt := 82) hx hb dX3_letPass_37 (by decide) (fun c1 => ?_) (fun c1 => ?_)
          · replace hM := (if_pos c1).symm.trans hM
            refine lv_aload_n hx hb dX3_letPass_82 rfl (lv_at hl 0 rfl) ?_
            refine lv_dup hx hb dX3_letPass_83 rfl ?_
            refine va_get (D := (dC, dI)) (ci := 2) (v := .int (ds_tick y0)) (C := RX3) (T := TX3) (N := 8) hx hb hts inX3 hown hG.1 hP 0 rfl rfl 5 (by decide) (hts (.fieldLink RX3 32 "WokenDrive$Drive" "tick" "I") (List.mem_of_getElem? (i := 2) rfl)) (fun _ h9 => h9) rfl dX3_letPass_84 ?_
            refine lv_iconst (v := (1 : Int32)) hx hb dX3_letPass_87 (by decide) ?_
            refine lv_iadd hx hb dX3_letPass_88 ?_
            obtain ⟨y_2, hy_2, hM⟩ := tbE hM
            refine va_put (D := (dC, dI)) (ci := 2) (v := .int ((ds_tick y0) + (1 : Int32))) (ty := .int) (C := RX3) (T := TX3) (N := 8) hx hb hts inX3 tyX3 tyX3_ok nmX3 hown hG.1 hP hD hS 0 rfl rfl 5 (by decide) (hts (.fieldLink RX3 32 "WokenDrive$Drive" "tick" "I") (List.mem_of_getElem? (i := 2) rfl)) (fun _ h9 => h9) rfl (by decide +kernel) rfl rfl (Nat.le_of_ble_eq_true rfl) dX3_letPass_89 (fun H locs hP hD hS => ?_)
            have hP : va_P (dC, dI) vwCl (wDrv cI g y_2) H := by rw [hy_2]; exact hP
            have hD : va_D A (wDrv cI g y_2) := by rw [hy_2]; exact hD
            refine lv_iinc (v := (u3 + 1)) (lv' := [(3, .int (u3 + 1)), (0, .ref (g 0)), (1, .int p1), (2, .int u2), (4, .int u4)]) hx hb dX3_letPass_92 hl (k := 3) rfl rfl (by decide) rfl (fun ls hl => ?_)
            refine lv_goto (tgt := 4) hx hb dX3_letPass_95 (by decide) ?_
            exact ih4 u2 (u3 + 1) y_2 H _ _ hM hP hD hS (lv_sub hl [1, 2, 3, 0] rfl)
          · replace hM := (if_neg c1).symm.trans hM
            refine lv_aload_n hx hb dX3_letPass_40 rfl (lv_at hl 0 rfl) ?_
            refine va_get (D := (dC, dI)) (ci := 2) (v := .int (ds_tick y0)) (C := RX3) (T := TX3) (N := 8) hx hb hts inX3 hown hG.1 hP 0 rfl rfl 5 (by decide) (hts (.fieldLink RX3 32 "WokenDrive$Drive" "tick" "I") (List.mem_of_getElem? (i := 2) rfl)) (fun _ h9 => h9) rfl dX3_letPass_41 ?_
            refine lv_iload hx hb dX3_letPass_44 (lv_at hl 4 rfl) ?_
            refine lv_iadd hx hb dX3_letPass_46 ?_
            refine lv_iconst (v := (2 : Int32)) hx hb dX3_letPass_47 (by decide) ?_
            refine lv_irem hx hb dX3_letPass_48 (by decide) ?_
            refine lv_istore (lv' := [(5, .int (((ds_tick y0) + u4) - ((ds_tick y0) + u4) / (2 : Int32) * (2 : Int32))), (0, .ref (g 0)), (1, .int p1), (2, .int u2), (3, .int u3), (4, .int u4)]) hx hb dX3_letPass_49 hl (by decide) rfl (fun ls hl => ?_)
            refine lv_aload_n hx hb dX3_letPass_51 rfl (lv_at hl 1 rfl) ?_
            refine lv_iload hx hb dX3_letPass_52 (lv_at hl 0 rfl) ?_
            refine wk_callP (va_runV (As := [.int (((ds_tick y0) + u4) - ((ds_tick y0) + u4) / (2 : Int32) * (2 : Int32))]) (rest := []) ⟨hx, hb, hml, hown, hts⟩ (c_X3_controllerAt l dC dI cI cD cJ kk g y0 (((ds_tick y0) + u4) - ((ds_tick y0) + u4) / (2 : Int32) * (2 : Int32)) H) (cwV 1 hts gX3_letPass_X3_controllerAt rfl rfl rfl (by decide +kernel) ⟨Nat.le_of_ble_eq_true rfl, Nat.le_of_ble_eq_true rfl⟩) (wk_preV (ci := 2) (q0 := 0) hG hP hD [0, 1, 2, 3, 4] rfl rfl rfl rfl) rfl rfl hl.1 rfl (lv_room (Nat.le_of_ble_eq_true rfl)) dX3_letPass_54 ⟨Nat.le_of_ble_eq_true rfl, Nat.le_of_ble_eq_true rfl⟩) hS (fun locs hS => ?_)
            refine wk_getC (v := .int (zI (cs_aw (dCtl y0 (((ds_tick y0) + u4) - ((ds_tick y0) + u4) / (2 : Int32) * (2 : Int32)))))) hx hb hts inX2 hown hG hP 3 4 rfl rfl 0 (by decide) (hts (.fieldLink RX3 80 "WokenDrive$Controller" "awake" "Z") (List.mem_of_getElem? (i := 4) rfl)) rfl dX3_letPass_57 ?_
            refine lv_if_eq (tgt := 76) hx hb dX3_letPass_60 (by decide) (fun c3 => ?_) (fun c3 => ?_)
            · replace hM := (if_pos c3).symm.trans hM
              exact hB76 u2 u3 u4 y0 H _ _ hM hP hD hS (lv_sub hl [1, 2, 3, 4, 5] rfl)
            · replace hM := (if_neg c3).symm.trans hM
              refine lv_aload_n hx hb dX3_letPass_63 rfl (lv_at hl 1 rfl) ?_
              refine lv_iload hx hb dX3_letPass_64 (lv_at hl 0 rfl) ?_
              refine lv_iconst (v := (3 : Int32)) hx hb dX3_letPass_66 (by decide) ?_
              obtain ⟨r4, hr4, hM⟩ := ob hM
              refine wk_callM (ws' := (wDrv cI g r4.2)) (va_runV (As := [.int (((ds_tick y0) + u4) - ((ds_tick y0) + u4) / (2 : Int32) * (2 : Int32)), .int (3 : Int32)]) (rest := []) ⟨hx, hb, hml, hown, hts⟩ (c_X3_letWork l dC dI cI cD cJ kk g y0 (((ds_tick y0) + u4) - ((ds_tick y0) + u4) / (2 : Int32) * (2 : Int32)) (3 : Int32) _ hr4 H) (cwV 2 hts gX3_letPass_X3_letWork rfl rfl rfl (by decide +kernel) ⟨Nat.le_of_ble_eq_true rfl, Nat.le_of_ble_eq_true rfl⟩) (wk_preV (ci := 2) (q0 := 0) hG hP hD [0, 1, 2, 3, 4] rfl rfl rfl rfl) rfl rfl hl.1 rfl (lv_room (Nat.le_of_ble_eq_true rfl)) dX3_letPass_67 ⟨Nat.le_of_ble_eq_true rfl, Nat.le_of_ble_eq_true rfl⟩) hP hD hS hA [0, 1, 2, 3, 4] [] [0, 1, 2, 3, 4] rfl rfl rfl (by decide) rfl rfl (fun H locs hP hD hS => ?_)
              refine lv_if_eq (tgt := 76) hx hb dX3_letPass_70 (by decide) (fun c5 => ?_) (fun c5 => ?_)
              · replace hM := (if_pos c5).symm.trans hM
                exact hB76 u2 u3 u4 r4.2 H _ _ hM hP hD hS (lv_sub hl [1, 2, 3, 4, 5] rfl)
              · replace hM := (if_neg c5).symm.trans hM
                refine lv_iinc (v := (u2 + 1)) (lv' := [(2, .int (u2 + 1)), (5, .int (((ds_tick y0) + u4) - ((ds_tick y0) + u4) / (2 : Int32) * (2 : Int32))), (0, .ref (g 0)), (1, .int p1), (3, .int u3), (4, .int u4)]) hx hb dX3_letPass_73 hl (k := 3) rfl rfl (by decide) rfl (fun ls hl => ?_)
                exact hB76 (u2 + 1) u3 u4 r4.2 H _ _ hM hP hD hS (lv_sub hl [2, 3, 0, 4, 5] rfl)
      intro u2 u3 y0 H locs ls hM hP hD hS hl
      replace hM : M_X3_letPass_4s x p1 (lpF (M_X3_letPass_4s x p1) n4) (u2, u3, y0) = some out := hM
      unfold M_X3_letPass_4s at hM
      try dsimp only at hM
      refine lv_iload_n hx hb dX3_letPass_4 rfl (lv_at hl 3 rfl) ?_
      refine lv_iload_n hx hb dX3_letPass_5 rfl (lv_at hl 1 rfl) ?_
      refine lv_icmp_ge (tgt := 98) hx hb dX3_letPass_6 (by decide) (fun c1 => ?_) (fun c1 => ?_)
      · replace hM := (if_pos c1).symm.trans hM
        refine lv_iload_n hx hb dX3_letPass_98 rfl (lv_at hl 2 rfl) ?_
        replace hM := Option.some.inj hM
        subst hM
        exact wk_retMi hx hb hr hlocks hQ rfl rfl hP hD hS dX3_letPass_99
      · replace hM := (if_neg c1).symm.trans hM
        refine lv_aload_n hx hb dX3_letPass_9 rfl (lv_at hl 0 rfl) ?_
        refine va_get (D := (dC, dI)) (ci := 2) (v := .ref (g 3)) (C := RX3) (T := TX3) (N := 8) hx hb hts inX3 hown hG.1 hP 0 rfl rfl 2 (by decide) (hts (.fieldLink RX3 21 "WokenDrive$Drive" "zero" "LWokenDrive$Controller;") (List.mem_of_getElem? (i := 1) rfl)) (fun _ h9 => h9) rfl dX3_letPass_10 ?_
        refine lv_aload_n hx hb dX3_letPass_13 rfl (lv_at hl 0 rfl) ?_
        refine va_get (D := (dC, dI)) (ci := 2) (v := .int (ds_tick y0)) (C := RX3) (T := TX3) (N := 8) hx hb hts inX3 hown hG.1 hP 0 rfl rfl 5 (by decide) (hts (.fieldLink RX3 32 "WokenDrive$Drive" "tick" "I") (List.mem_of_getElem? (i := 2) rfl)) (fun _ h9 => h9) rfl dX3_letPass_14 ?_
        obtain ⟨r2, hr2, hM⟩ := tbE hM
        obtain ⟨y_3, hy_3, hM⟩ := tbE hM
        refine wk_callM (ws' := (wDrv cI g (ds_zero_s y0 r2))) (va_runV (As := [.int (ds_tick y0)]) (rest := []) ⟨hx, hb, hml, hown, hts⟩ (c_X2_heedAlarm l dC dI cI cD cJ kk (g 3) (ds_zero y0) (ds_tick y0) _ hr2.symm H) (cwV 1 hts gX3_letPass_X2_heedAlarm rfl rfl rfl (by decide +kernel) ⟨Nat.le_of_ble_eq_true rfl, Nat.le_of_ble_eq_true rfl⟩) (wk_preV (ci := 1) (q0 := 3) hG hP hD [3] rfl rfl rfl rfl) rfl rfl hl.1 rfl (lv_room (Nat.le_of_ble_eq_true rfl)) dX3_letPass_17 ⟨Nat.le_of_ble_eq_true rfl, Nat.le_of_ble_eq_true rfl⟩) hP hD hS hA [3] [0, 1, 2, 4] [0, 1, 2, 4, 3] rfl rfl rfl (by decide) rfl rfl (fun H locs hP hD hS => ?_)
        have hP : va_P (dC, dI) vwCl (wDrv cI g y_3) H := by rw [hy_3]; exact hP
        have hD : va_D A (wDrv cI g y_3) := by rw [hy_3]; exact hD
        refine lv_aload_n hx hb dX3_letPass_20 rfl (lv_at hl 0 rfl) ?_
        refine va_get (D := (dC, dI)) (ci := 2) (v := .ref (g 4)) (C := RX3) (T := TX3) (N := 8) hx hb hts inX3 hown hG.1 hP 0 rfl rfl 3 (by decide) (hts (.fieldLink RX3 25 "WokenDrive$Drive" "one" "LWokenDrive$Controller;") (List.mem_of_getElem? (i := 3) rfl)) (fun _ h9 => h9) rfl dX3_letPass_21 ?_
        refine lv_aload_n hx hb dX3_letPass_24 rfl (lv_at hl 0 rfl) ?_
        refine va_get (D := (dC, dI)) (ci := 2) (v := .int (ds_tick y_3)) (C := RX3) (T := TX3) (N := 8) hx hb hts inX3 hown hG.1 hP 0 rfl rfl 5 (by decide) (hts (.fieldLink RX3 32 "WokenDrive$Drive" "tick" "I") (List.mem_of_getElem? (i := 2) rfl)) (fun _ h9 => h9) rfl dX3_letPass_25 ?_
        obtain ⟨r4, hr4, hM⟩ := tbE hM
        obtain ⟨y_5, hy_5, hM⟩ := tbE hM
        refine wk_callM (ws' := (wDrv cI g (ds_one_s y_3 r4))) (va_runV (As := [.int (ds_tick y_3)]) (rest := []) ⟨hx, hb, hml, hown, hts⟩ (c_X2_heedAlarm l dC dI cI cD cJ kk (g 4) (ds_one y_3) (ds_tick y_3) _ hr4.symm H) (cwV 1 hts gX3_letPass_X2_heedAlarm rfl rfl rfl (by decide +kernel) ⟨Nat.le_of_ble_eq_true rfl, Nat.le_of_ble_eq_true rfl⟩) (wk_preV (ci := 1) (q0 := 4) hG hP hD [4] rfl rfl rfl rfl) rfl rfl hl.1 rfl (lv_room (Nat.le_of_ble_eq_true rfl)) dX3_letPass_28 ⟨Nat.le_of_ble_eq_true rfl, Nat.le_of_ble_eq_true rfl⟩) hP hD hS hA [4] [0, 1, 2, 3] [0, 1, 2, 3, 4] rfl rfl rfl (by decide) rfl rfl (fun H locs hP hD hS => ?_)
        have hP : va_P (dC, dI) vwCl (wDrv cI g y_5) H := by rw [hy_5]; exact hP
        have hD : va_D A (wDrv cI g y_5) := by rw [hy_5]; exact hD
        refine lv_iconst (v := (0 : Int32)) hx hb dX3_letPass_31 (by decide) ?_
        refine lv_istore (lv' := [(4, .int (0 : Int32)), (0, .ref (g 0)), (1, .int p1), (2, .int u2), (3, .int u3)]) hx hb dX3_letPass_32 hl (by decide) rfl (fun ls hl => ?_)
        exact hL34 64 u2 u3 (0 : Int32) y_5 H _ _ hM hP hD hS (lv_sub hl [1, 2, 3, 4, 0] rfl)
  unfold M_X3_letPass at hM
  refine lv_iconst (v := (0 : Int32)) hx hb dX3_letPass_0 (by decide) ?_
  refine lv_istore_n (lv' := [(2, .int (0 : Int32)), (0, .ref (g 0)), (1, .int p1)]) hx hb dX3_letPass_1 rfl hl (by decide) rfl (fun ls hl => ?_)
  refine lv_iconst (v := (0 : Int32)) hx hb dX3_letPass_2 (by decide) ?_
  refine lv_istore_n (lv' := [(3, .int (0 : Int32)), (2, .int (0 : Int32)), (0, .ref (g 0)), (1, .int p1)]) hx hb dX3_letPass_3 rfl hl (by decide) rfl (fun ls hl => ?_)
  exact hL4 64 (0 : Int32) (0 : Int32) x H _ _ hM hP hD hS (lv_sub hl [2, 3, 1, 0] rfl)
