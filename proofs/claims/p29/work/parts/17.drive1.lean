/-! PART 17: Drive, first half -/
set_option maxHeartbeats 4000000 in
set_option maxRecDepth 100000 in
theorem c_X3_fact (l : Launch) (dC : Nat → ClassId) (dI : Nat → Nat → Nat) (cI cD cJ : ClassId) (kk : wAd) (g : Nat → Nat) (x : DS) (p1 : Int32) (p2 : Int32) (out : Int32) (hM : M_X3_fact x p1 p2 = out) : CP l yX3_fact wsX3_fact ({ frames := 0, cells := 0, slots := 0, locals := 0 } : Room) dC dI (wTys cI cD cJ) [.ref (g 0), .int p1, .int p2] (wDrv cI g x) (some (.int out)) := by
  refine wk_enterP (cc := cX3_fact) (maxL := 4) (ret := (some .int)) (by decide) rfl (Nat.le_of_ble_eq_true rfl) ?_
  intro p e s m below meth c A Q ls hB hP hD hA hQ hl
  obtain ⟨hx, hb, hml, hr, hts, hown, hname, hlocks, hG⟩ := hB
  have hown : s.vm.findClass RX3 = some m.cls := hown
  have hS : va_S A s.heap s.heap [] := va_S.rf
  have hl : lv_has ls 4 [(0, .ref (g 0)), (1, .int p1), (2, .int p2)] := hl
  have inX3 : ∀ w ∈ wsX30, w ∈ wsX3_fact := fun _ h => List.mem_cons_of_mem _ (List.mem_append_right _ h)
  generalize ([] : List Loc) = locs at hS ⊢
  have hB30 : ∀ (w0 : Int32) (locs : List Loc) (ls : Array Slot), M_X3_fact_30 x p1 p2 w0 = out → va_S A s.heap s.heap locs → lv_has ls 4 [] → W p l e ({ frames := 0, cells := 0, slots := 0, locals := 0 } : Room) s m ([.ref (g 0), .int p1, .int p2] : List Value).toArray below meth c s.heap locs 0 0 Q (F0 m 30 ls [.int w0]) := by
    intro w0 locs ls hM hS hl
    unfold M_X3_fact_30 at hM
    subst hM
    exact wk_retPi hx hb hr hlocks hQ rfl rfl hS dX3_fact_30
  have hB29 : ∀  (locs : List Loc) (ls : Array Slot), M_X3_fact_29 x p1 p2 = out → va_S A s.heap s.heap locs → lv_has ls 4 [] → W p l e ({ frames := 0, cells := 0, slots := 0, locals := 0 } : Room) s m ([.ref (g 0), .int p1, .int p2] : List Value).toArray below meth c s.heap locs 0 0 Q (F0 m 29 ls []) := by
    intro  locs ls hM hS hl
    unfold M_X3_fact_29 at hM
    refine lv_iconst (v := (0 : Int32)) hx hb dX3_fact_29 (by decide) ?_
    exact hB30 (0 : Int32)  _ _ hM hS (lv_sub hl [] rfl)
  unfold M_X3_fact at hM
  refine lv_iload_n hx hb dX3_fact_0 rfl (lv_at hl 1 rfl) ?_
  refine lv_bipush (v := (12 : Int32)) hx hb dX3_fact_1 (by decide) ?_
  refine lv_imul hx hb dX3_fact_3 ?_
  refine lv_iload_n hx hb dX3_fact_4 rfl (lv_at hl 2 rfl) ?_
  refine lv_iadd hx hb dX3_fact_5 ?_
  refine lv_istore_n (lv' := [(3, .int ((p1 * (12 : Int32)) + p2)), (0, .ref (g 0)), (1, .int p1), (2, .int p2)]) hx hb dX3_fact_6 rfl hl (by decide) rfl (fun ls hl => ?_)
  refine lv_iload_n hx hb dX3_fact_7 rfl (lv_at hl 0 rfl) ?_
  refine lv_if_lt (tgt := 29) hx hb dX3_fact_8 (by decide) (fun c1 => ?_) (fun c1 => ?_)
  · replace hM := (if_pos c1).symm.trans hM
    exact hB29   _ _ hM hS (lv_sub hl [] rfl)
  · replace hM := (if_neg c1).symm.trans hM
    refine lv_iload_n hx hb dX3_fact_11 rfl (lv_at hl 0 rfl) ?_
    refine lv_aload_n hx hb dX3_fact_12 rfl (lv_at hl 1 rfl) ?_
    refine va_get (D := (dC, dI)) (ci := 2) (v := .ref (g 2)) (C := RX3) (T := TX3) (N := 8) hx hb hts inX3 hown hG.1 hP 0 rfl rfl 1 (by decide) (hts (.fieldLink RX3 15 "WokenDrive$Drive" "facts" "[I") (List.mem_of_getElem? (i := 1) rfl)) (fun _ h9 => h9) rfl dX3_fact_13 ?_
    refine va_alen hx hb hG.1 hP 2 0 rfl rfl (v := (480 : Int32)) rfl dX3_fact_16 ?_
    refine lv_icmp_ge (tgt := 29) hx hb dX3_fact_17 (by decide) (fun c2 => ?_) (fun c2 => ?_)
    · replace hM := (if_pos c2).symm.trans hM
      exact hB29   _ _ hM hS (lv_sub hl [] rfl)
    · replace hM := (if_neg c2).symm.trans hM
      refine lv_aload_n hx hb dX3_fact_20 rfl (lv_at hl 1 rfl) ?_
      refine va_get (D := (dC, dI)) (ci := 2) (v := .ref (g 2)) (C := RX3) (T := TX3) (N := 8) hx hb hts inX3 hown hG.1 hP 0 rfl rfl 1 (by decide) (hts (.fieldLink RX3 15 "WokenDrive$Drive" "facts" "[I") (List.mem_of_getElem? (i := 1) rfl)) (fun _ h9 => h9) rfl dX3_fact_21 ?_
      refine lv_iload_n hx hb dX3_fact_24 rfl (lv_at hl 0 rfl) ?_
      refine va_iald hx hb hG.1 hP 2 0 rfl rfl (vp_path (n := 480) c1 c2 (by decide)) dX3_fact_25 ?_
      refine lv_goto (tgt := 30) hx hb dX3_fact_26 (by decide) ?_
      exact hB30 ((ds_fac x) (((p1 * (12 : Int32)) + p2)).toNatClampNeg)  _ _ hM hS (lv_sub hl [] rfl)
set_option maxHeartbeats 4000000 in
set_option maxRecDepth 100000 in
theorem c_X3_setFact (l : Launch) (dC : Nat → ClassId) (dI : Nat → Nat → Nat) (cI cD cJ : ClassId) (kk : wAd) (g : Nat → Nat) (x : DS) (p1 : Int32) (p2 : Int32) (p3 : Int32) (out : DS) (hM : M_X3_setFact x p1 p2 p3 = out) : CM l yX3_setFact wsX3_setFact ({ frames := 0, cells := 0, slots := 0, locals := 0 } : Room) dC dI (wTys cI cD cJ) [.ref (g 0), .int p1, .int p2, .int p3] (wDrv cI g x) none (wDrv cI g out) 0 0 := by
  refine wk_enterM (cc := cX3_setFact) (maxL := 5) (ret := none) (by decide) rfl (Nat.le_of_ble_eq_true rfl) ?_
  intro p e s m below meth c A Q ls hB hA hP hD hQ hl
  obtain ⟨hx, hb, hml, hr, hts, hown, hname, hlocks, hG⟩ := hB
  have hown : s.vm.findClass RX3 = some m.cls := hown
  have hS : va_S A s.heap s.heap [] := va_S.rf
  have hl : lv_has ls 5 [(0, .ref (g 0)), (1, .int p1), (2, .int p2), (3, .int p3)] := hl
  have inX3 : ∀ w ∈ wsX30, w ∈ wsX3_setFact := fun _ h => List.mem_cons_of_mem _ (List.mem_append_right _ h)
  obtain ⟨H, hH⟩ : ∃ z, z = s.heap := ⟨_, rfl⟩
  have hP : va_P (dC, dI) vwCl (wDrv cI g x) H := by rw [hH]; exact hP
  have hS : va_S A s.heap H [] := by rw [hH]; exact hS
  refine wk_at hH ?_
  generalize ([] : List Loc) = locs at hS ⊢
  have hB31 : ∀ (y0 : DS) (H : Heap) (locs : List Loc) (ls : Array Slot), M_X3_setFact_31 x p1 p2 p3 y0 = out → va_P (dC, dI) vwCl (wDrv cI g y0) H → va_D A (wDrv cI g y0) → va_S A s.heap H locs → lv_has ls 5 [] → W p l e ({ frames := 0, cells := 0, slots := 0, locals := 0 } : Room) s m ([.ref (g 0), .int p1, .int p2, .int p3] : List Value).toArray below meth c H locs 0 0 Q (F0 m 31 ls []) := by
    intro y0 H locs ls hM hP hD hS hl
    unfold M_X3_setFact_31 at hM
    subst hM
    exact wk_retMv hx hb hr hlocks hQ rfl hP hD hS dX3_setFact_31
  unfold M_X3_setFact at hM
  refine lv_iload_n hx hb dX3_setFact_0 rfl (lv_at hl 1 rfl) ?_
  refine lv_bipush (v := (12 : Int32)) hx hb dX3_setFact_1 (by decide) ?_
  refine lv_imul hx hb dX3_setFact_3 ?_
  refine lv_iload_n hx hb dX3_setFact_4 rfl (lv_at hl 2 rfl) ?_
  refine lv_iadd hx hb dX3_setFact_5 ?_
  refine lv_istore (lv' := [(4, .int ((p1 * (12 : Int32)) + p2)), (0, .ref (g 0)), (1, .int p1), (2, .int p2), (3, .int p3)]) hx hb dX3_setFact_6 hl (by decide) rfl (fun ls hl => ?_)
  refine lv_iload hx hb dX3_setFact_8 (lv_at hl 0 rfl) ?_
  refine lv_if_lt (tgt := 31) hx hb dX3_setFact_10 (by decide) (fun c1 => ?_) (fun c1 => ?_)
  · replace hM := (if_pos c1).symm.trans hM
    exact hB31 x H _ _ hM hP hD hS (lv_sub hl [] rfl)
  · replace hM := (if_neg c1).symm.trans hM
    refine lv_iload hx hb dX3_setFact_13 (lv_at hl 0 rfl) ?_
    refine lv_aload_n hx hb dX3_setFact_15 rfl (lv_at hl 1 rfl) ?_
    refine va_get (D := (dC, dI)) (ci := 2) (v := .ref (g 2)) (C := RX3) (T := TX3) (N := 8) hx hb hts inX3 hown hG.1 hP 0 rfl rfl 1 (by decide) (hts (.fieldLink RX3 15 "WokenDrive$Drive" "facts" "[I") (List.mem_of_getElem? (i := 1) rfl)) (fun _ h9 => h9) rfl dX3_setFact_16 ?_
    refine va_alen hx hb hG.1 hP 2 0 rfl rfl (v := (480 : Int32)) rfl dX3_setFact_19 ?_
    refine lv_icmp_ge (tgt := 31) hx hb dX3_setFact_20 (by decide) (fun c2 => ?_) (fun c2 => ?_)
    · replace hM := (if_pos c2).symm.trans hM
      exact hB31 x H _ _ hM hP hD hS (lv_sub hl [] rfl)
    · replace hM := (if_neg c2).symm.trans hM
      refine lv_aload_n hx hb dX3_setFact_23 rfl (lv_at hl 1 rfl) ?_
      refine va_get (D := (dC, dI)) (ci := 2) (v := .ref (g 2)) (C := RX3) (T := TX3) (N := 8) hx hb hts inX3 hown hG.1 hP 0 rfl rfl 1 (by decide) (hts (.fieldLink RX3 15 "WokenDrive$Drive" "facts" "[I") (List.mem_of_getElem? (i := 1) rfl)) (fun _ h9 => h9) rfl dX3_setFact_24 ?_
      refine lv_iload hx hb dX3_setFact_27 (lv_at hl 0 rfl) ?_
      refine lv_iload_n hx hb dX3_setFact_29 rfl (lv_at hl 4 rfl) ?_
      refine va_iast hx hb hG.1 hP hD hS 2 0 rfl rfl (vp_path (n := 480) c1 c2 (by decide)) dX3_setFact_30 (fun H locs hP hD hS => ?_)
      have hP : va_P (dC, dI) vwCl (wDrv cI g (ds_fac_s x (upd (ds_fac x) (((p1 * (12 : Int32)) + p2)).toNatClampNeg p3))) H := hP
      have hD : va_D A (wDrv cI g (ds_fac_s x (upd (ds_fac x) (((p1 * (12 : Int32)) + p2)).toNatClampNeg p3))) := hD
      exact hB31 (ds_fac_s x (upd (ds_fac x) (((p1 * (12 : Int32)) + p2)).toNatClampNeg p3)) H _ _ hM hP hD hS (lv_sub hl [] rfl)
set_option maxHeartbeats 4000000 in
set_option maxRecDepth 100000 in
theorem c_X3_faultOfOrder (l : Launch) (dC : Nat → ClassId) (dI : Nat → Nat → Nat) (cI cD cJ : ClassId) (kk : wAd) (g : Nat → Nat) (x : DS) (p1 : Int32) (out : Int32) (hM : M_X3_faultOfOrder x p1 = out) : CP l yX3_faultOfOrder wsX3_faultOfOrder ({ frames := 0, cells := 0, slots := 0, locals := 0 } : Room) dC dI (wTys cI cD cJ) [.ref (g 0), .int p1] (wDrv cI g x) (some (.int out)) := by
  refine wk_enterP (cc := cX3_faultOfOrder) (maxL := 2) (ret := (some .int)) (by decide) rfl (Nat.le_of_ble_eq_true rfl) ?_
  intro p e s m below meth c A Q ls hB hP hD hA hQ hl
  obtain ⟨hx, hb, hml, hr, hts, hown, hname, hlocks, hG⟩ := hB
  have hown : s.vm.findClass RX3 = some m.cls := hown
  have hS : va_S A s.heap s.heap [] := va_S.rf
  have hl : lv_has ls 2 [(0, .ref (g 0)), (1, .int p1)] := hl
  have inX3 : ∀ w ∈ wsX30, w ∈ wsX3_faultOfOrder := fun _ h => List.mem_cons_of_mem _ (List.mem_append_right _ h)
  generalize ([] : List Loc) = locs at hS ⊢
  have hB17 : ∀ (w0 : Bool) (locs : List Loc) (ls : Array Slot), M_X3_faultOfOrder_17 x p1 w0 = out → va_S A s.heap s.heap locs → lv_has ls 2 [] → W p l e ({ frames := 0, cells := 0, slots := 0, locals := 0 } : Room) s m ([.ref (g 0), .int p1] : List Value).toArray below meth c s.heap locs 0 0 Q (F0 m 17 ls [.int (zI w0)]) := by
    intro w0 locs ls hM hS hl
    unfold M_X3_faultOfOrder_17 at hM
    subst hM
    exact wk_retPi hx hb hr hlocks hQ rfl rfl hS dX3_faultOfOrder_17
  have hB16 : ∀  (locs : List Loc) (ls : Array Slot), M_X3_faultOfOrder_16 x p1 = out → va_S A s.heap s.heap locs → lv_has ls 2 [] → W p l e ({ frames := 0, cells := 0, slots := 0, locals := 0 } : Room) s m ([.ref (g 0), .int p1] : List Value).toArray below meth c s.heap locs 0 0 Q (F0 m 16 ls []) := by
    intro  locs ls hM hS hl
    unfold M_X3_faultOfOrder_16 at hM
    refine lv_iconst (v := (1 : Int32)) hx hb dX3_faultOfOrder_16 (by decide) ?_
    exact hB17 true  _ _ hM hS (lv_sub hl [] rfl)
  unfold M_X3_faultOfOrder at hM
  refine lv_iload_n hx hb dX3_faultOfOrder_0 rfl (lv_at hl 1 rfl) ?_
  refine lv_if_lt (tgt := 16) hx hb dX3_faultOfOrder_1 (by decide) (fun c1 => ?_) (fun c1 => ?_)
  · replace hM := (if_pos c1).symm.trans hM
    exact hB16   _ _ hM hS (lv_sub hl [] rfl)
  · replace hM := (if_neg c1).symm.trans hM
    refine lv_iload_n hx hb dX3_faultOfOrder_4 rfl (lv_at hl 1 rfl) ?_
    refine lv_aload_n hx hb dX3_faultOfOrder_5 rfl (lv_at hl 0 rfl) ?_
    refine va_get (D := (dC, dI)) (ci := 2) (v := .int (ds_ord x)) (C := RX3) (T := TX3) (N := 8) hx hb hts inX3 hown hG.1 hP 0 rfl rfl 4 (by decide) (hts (.fieldLink RX3 28 "WokenDrive$Drive" "orders" "I") (List.mem_of_getElem? (i := 1) rfl)) (fun _ h9 => h9) rfl dX3_faultOfOrder_6 ?_
    refine lv_icmp_ge (tgt := 16) hx hb dX3_faultOfOrder_9 (by decide) (fun c2 => ?_) (fun c2 => ?_)
    · replace hM := (if_pos c2).symm.trans hM
      exact hB16   _ _ hM hS (lv_sub hl [] rfl)
    · replace hM := (if_neg c2).symm.trans hM
      refine lv_iconst (v := (0 : Int32)) hx hb dX3_faultOfOrder_12 (by decide) ?_
      refine lv_goto (tgt := 17) hx hb dX3_faultOfOrder_13 (by decide) ?_
      exact hB17 false  _ _ hM hS (lv_sub hl [] rfl)
set_option maxHeartbeats 4000000 in
set_option maxRecDepth 100000 in
theorem c_X3_isOpen (l : Launch) (dC : Nat → ClassId) (dI : Nat → Nat → Nat) (cI cD cJ : ClassId) (kk : wAd) (g : Nat → Nat) (x : DS) (p1 : Int32) (out : Bool) (hM : M_X3_isOpen x p1 = out) : CP l yX3_isOpen wsX3_isOpen ({ frames := 1, cells := 0, slots := 0, locals := 23 } : Room) dC dI (wTys cI cD cJ) [.ref (g 0), .int p1] (wDrv cI g x) (some (.int (zI out))) := by
  refine wk_enterP (cc := cX3_isOpen) (maxL := 3) (ret := (some .boolean)) (by decide) rfl (Nat.le_of_ble_eq_true rfl) ?_
  intro p e s m below meth c A Q ls hB hP hD hA hQ hl
  obtain ⟨hx, hb, hml, hr, hts, hown, hname, hlocks, hG⟩ := hB
  have hown : s.vm.findClass RX3 = some m.cls := hown
  have hS : va_S A s.heap s.heap [] := va_S.rf
  have hl : lv_has ls 3 [(0, .ref (g 0)), (1, .int p1)] := hl
  generalize ([] : List Loc) = locs at hS ⊢
  have hB21 : ∀ (w0 : Bool) (locs : List Loc) (ls : Array Slot), M_X3_isOpen_21 x p1 w0 = out → va_S A s.heap s.heap locs → lv_has ls 3 [] → W p l e ({ frames := 1, cells := 0, slots := 0, locals := 23 } : Room) s m ([.ref (g 0), .int p1] : List Value).toArray below meth c s.heap locs 0 0 Q (F0 m 21 ls [.int (zI w0)]) := by
    intro w0 locs ls hM hS hl
    unfold M_X3_isOpen_21 at hM
    subst hM
    exact wk_retPi hx hb hr hlocks hQ (zI_nar _) rfl hS dX3_isOpen_21
  have hB16 : ∀  (locs : List Loc) (ls : Array Slot), M_X3_isOpen_16 x p1 = out → va_S A s.heap s.heap locs → lv_has ls 3 [] → W p l e ({ frames := 1, cells := 0, slots := 0, locals := 23 } : Room) s m ([.ref (g 0), .int p1] : List Value).toArray below meth c s.heap locs 0 0 Q (F0 m 16 ls []) := by
    intro  locs ls hM hS hl
    unfold M_X3_isOpen_16 at hM
    refine lv_iconst (v := (1 : Int32)) hx hb dX3_isOpen_16 (by decide) ?_
    refine lv_goto (tgt := 21) hx hb dX3_isOpen_17 (by decide) ?_
    exact hB21 true  _ _ hM hS (lv_sub hl [] rfl)
  unfold M_X3_isOpen at hM
  refine lv_aload_n hx hb dX3_isOpen_0 rfl (lv_at hl 0 rfl) ?_
  refine lv_iload_n hx hb dX3_isOpen_1 rfl (lv_at hl 1 rfl) ?_
  refine lv_iconst (v := (5 : Int32)) hx hb dX3_isOpen_2 (by decide) ?_
  refine wk_callP (va_runV (As := [.int p1, .int (5 : Int32)]) (rest := []) ⟨hx, hb, hml, hown, hts⟩ (c_X3_fact l dC dI cI cD cJ kk g x p1 (5 : Int32) _ rfl s.heap) (cwV 2 hts gX3_isOpen_X3_fact rfl rfl rfl (by decide +kernel) ⟨Nat.le_of_ble_eq_true rfl, Nat.le_of_ble_eq_true rfl⟩) (wk_preV (ci := 2) (q0 := 0) hG hP hD [0, 1, 2, 3, 4] rfl rfl rfl rfl) rfl rfl hl.1 rfl (lv_room (Nat.le_of_ble_eq_true rfl)) dX3_isOpen_3 ⟨Nat.le_of_ble_eq_true rfl, Nat.le_of_ble_eq_true rfl⟩) hS (fun locs hS => ?_)
  refine lv_istore_n (lv' := [(2, .int (M_X3_fact x p1 (5 : Int32))), (0, .ref (g 0)), (1, .int p1)]) hx hb dX3_isOpen_6 rfl hl (by decide) rfl (fun ls hl => ?_)
  refine lv_iload_n hx hb dX3_isOpen_7 rfl (lv_at hl 0 rfl) ?_
  refine lv_if_eq (tgt := 16) hx hb dX3_isOpen_8 (by decide) (fun c1 => ?_) (fun c1 => ?_)
  · replace hM := (if_pos c1).symm.trans hM
    exact hB16   _ _ hM hS (lv_sub hl [] rfl)
  · replace hM := (if_neg c1).symm.trans hM
    refine lv_iload_n hx hb dX3_isOpen_11 rfl (lv_at hl 0 rfl) ?_
    refine lv_iconst (v := (1 : Int32)) hx hb dX3_isOpen_12 (by decide) ?_
    refine lv_icmp_ne (tgt := 20) hx hb dX3_isOpen_13 (by decide) (fun c2 => ?_) (fun c2 => ?_)
    · replace hM := (if_neg c2).symm.trans hM
      refine lv_iconst (v := (0 : Int32)) hx hb dX3_isOpen_20 (by decide) ?_
      exact hB21 false  _ _ hM hS (lv_sub hl [] rfl)
    · replace hM := (if_pos c2).symm.trans hM
      exact hB16   _ _ hM hS (lv_sub hl [] rfl)
set_option maxHeartbeats 4000000 in
set_option maxRecDepth 100000 in
theorem c_X3_latestWith (l : Launch) (dC : Nat → ClassId) (dI : Nat → Nat → Nat) (cI cD cJ : ClassId) (kk : wAd) (g : Nat → Nat) (x : DS) (p1 : Int32) (p2 : Int32) (out : Int32) (hM : M_X3_latestWith x p1 p2 = some out) : CP l yX3_latestWith wsX3_latestWith ({ frames := 1, cells := 0, slots := 0, locals := 23 } : Room) dC dI (wTys cI cD cJ) [.ref (g 0), .int p1, .int p2] (wDrv cI g x) (some (.int out)) := by
  refine wk_enterP (cc := cX3_latestWith) (maxL := 4) (ret := (some .int)) (by decide) rfl (Nat.le_of_ble_eq_true rfl) ?_
  intro p e s m below meth c A Q ls hB hP hD hA hQ hl
  obtain ⟨hx, hb, hml, hr, hts, hown, hname, hlocks, hG⟩ := hB
  have hown : s.vm.findClass RX3 = some m.cls := hown
  have hS : va_S A s.heap s.heap [] := va_S.rf
  have hl : lv_has ls 4 [(0, .ref (g 0)), (1, .int p1), (2, .int p2)] := hl
  have inX3 : ∀ w ∈ wsX30, w ∈ wsX3_latestWith := fun _ h => List.mem_cons_of_mem _ (List.mem_append_right _ h)
  generalize ([] : List Loc) = locs at hS ⊢
  have hL7 : ∀ (n7 : Nat) (u3 : Int32) (locs : List Loc) (ls : Array Slot), lpF (M_X3_latestWith_7s x p1 p2) n7 (u3) = some out → va_S A s.heap s.heap locs → lv_has ls 4 [(0, .ref (g 0)), (1, .int p1), (2, .int p2), (3, .int u3)] → W p l e ({ frames := 1, cells := 0, slots := 0, locals := 23 } : Room) s m ([.ref (g 0), .int p1, .int p2] : List Value).toArray below meth c s.heap locs 0 0 Q (F0 m 7 ls []) := by
    intro n7
    induction n7 with
    | zero => intro u3 locs ls hM; exact lpF_0 hM
    | succ n7 ih7 =>
      have hB33 : ∀ (u3 : Int32) (locs : List Loc) (ls : Array Slot), M_X3_latestWith_33 x p1 p2 (lpF (M_X3_latestWith_7s x p1 p2) n7) u3 = some out → va_S A s.heap s.heap locs → lv_has ls 4 [(0, .ref (g 0)), (1, .int p1), (2, .int p2), (3, .int u3)] → W p l e ({ frames := 1, cells := 0, slots := 0, locals := 23 } : Room) s m ([.ref (g 0), .int p1, .int p2] : List Value).toArray below meth c s.heap locs 0 0 Q (F0 m 33 ls []) := by
        intro u3 locs ls hM hS hl
        unfold M_X3_latestWith_33 at hM
        refine lv_iinc (v := (u3 + (-1))) (lv' := [(3, .int (u3 + (-1))), (0, .ref (g 0)), (1, .int p1), (2, .int p2)]) hx hb dX3_latestWith_33 hl (k := 3) rfl rfl (by decide) rfl (fun ls hl => ?_)
        refine lv_goto (tgt := 7) hx hb dX3_latestWith_36 (by decide) ?_
        exact ih7 (u3 + (-1))  _ _ hM hS (lv_sub hl [1, 2, 3, 0] rfl)
      intro u3 locs ls hM hS hl
      replace hM : M_X3_latestWith_7s x p1 p2 (lpF (M_X3_latestWith_7s x p1 p2) n7) (u3) = some out := hM
      unfold M_X3_latestWith_7s at hM
      try dsimp only at hM
      refine lv_iload_n hx hb dX3_latestWith_7 rfl (lv_at hl 3 rfl) ?_
      refine lv_if_lt (tgt := 39) hx hb dX3_latestWith_8 (by decide) (fun c1 => ?_) (fun c1 => ?_)
      · replace hM := (if_pos c1).symm.trans hM
        refine lv_iconst (v := (-1 : Int32)) hx hb dX3_latestWith_39 (by decide) ?_
        replace hM := Option.some.inj hM
        subst hM
        exact wk_retPi hx hb hr hlocks hQ rfl rfl hS dX3_latestWith_40
      · replace hM := (if_neg c1).symm.trans hM
        refine lv_aload_n hx hb dX3_latestWith_11 rfl (lv_at hl 0 rfl) ?_
        refine lv_iload_n hx hb dX3_latestWith_12 rfl (lv_at hl 3 rfl) ?_
        refine lv_iconst (v := (0 : Int32)) hx hb dX3_latestWith_13 (by decide) ?_
        refine wk_callP (va_runV (As := [.int u3, .int (0 : Int32)]) (rest := []) ⟨hx, hb, hml, hown, hts⟩ (c_X3_fact l dC dI cI cD cJ kk g x u3 (0 : Int32) _ rfl s.heap) (cwV 2 hts gX3_latestWith_X3_fact rfl rfl rfl (by decide +kernel) ⟨Nat.le_of_ble_eq_true rfl, Nat.le_of_ble_eq_true rfl⟩) (wk_preV (ci := 2) (q0 := 0) hG hP hD [0, 1, 2, 3, 4] rfl rfl rfl rfl) rfl rfl hl.1 rfl (lv_room (Nat.le_of_ble_eq_true rfl)) dX3_latestWith_14 ⟨Nat.le_of_ble_eq_true rfl, Nat.le_of_ble_eq_true rfl⟩) hS (fun locs hS => ?_)
        refine lv_iload_n hx hb dX3_latestWith_17 rfl (lv_at hl 1 rfl) ?_
        refine lv_icmp_ne (tgt := 33) hx hb dX3_latestWith_18 (by decide) (fun c2 => ?_) (fun c2 => ?_)
        · replace hM := (if_neg c2).symm.trans hM
          exact hB33 u3  _ _ hM hS (lv_sub hl [0, 1, 2, 3] rfl)
        · replace hM := (if_pos c2).symm.trans hM
          refine lv_aload_n hx hb dX3_latestWith_21 rfl (lv_at hl 0 rfl) ?_
          refine lv_iload_n hx hb dX3_latestWith_22 rfl (lv_at hl 3 rfl) ?_
          refine lv_iconst (v := (1 : Int32)) hx hb dX3_latestWith_23 (by decide) ?_
          refine wk_callP (va_runV (As := [.int u3, .int (1 : Int32)]) (rest := []) ⟨hx, hb, hml, hown, hts⟩ (c_X3_fact l dC dI cI cD cJ kk g x u3 (1 : Int32) _ rfl s.heap) (cwV 2 hts gX3_latestWith_X3_fact rfl rfl rfl (by decide +kernel) ⟨Nat.le_of_ble_eq_true rfl, Nat.le_of_ble_eq_true rfl⟩) (wk_preV (ci := 2) (q0 := 0) hG hP hD [0, 1, 2, 3, 4] rfl rfl rfl rfl) rfl rfl hl.1 rfl (lv_room (Nat.le_of_ble_eq_true rfl)) dX3_latestWith_24 ⟨Nat.le_of_ble_eq_true rfl, Nat.le_of_ble_eq_true rfl⟩) hS (fun locs hS => ?_)
          refine lv_iload_n hx hb dX3_latestWith_27 rfl (lv_at hl 2 rfl) ?_
          refine lv_icmp_ne (tgt := 33) hx hb dX3_latestWith_28 (by decide) (fun c3 => ?_) (fun c3 => ?_)
          · replace hM := (if_neg c3).symm.trans hM
            exact hB33 u3  _ _ hM hS (lv_sub hl [0, 1, 2, 3] rfl)
          · replace hM := (if_pos c3).symm.trans hM
            refine lv_iload_n hx hb dX3_latestWith_31 rfl (lv_at hl 3 rfl) ?_
            replace hM := Option.some.inj hM
            subst hM
            exact wk_retPi hx hb hr hlocks hQ rfl rfl hS dX3_latestWith_32
  unfold M_X3_latestWith at hM
  refine lv_aload_n hx hb dX3_latestWith_0 rfl (lv_at hl 0 rfl) ?_
  refine va_get (D := (dC, dI)) (ci := 2) (v := .int (ds_ord x)) (C := RX3) (T := TX3) (N := 8) hx hb hts inX3 hown hG.1 hP 0 rfl rfl 4 (by decide) (hts (.fieldLink RX3 28 "WokenDrive$Drive" "orders" "I") (List.mem_of_getElem? (i := 1) rfl)) (fun _ h9 => h9) rfl dX3_latestWith_1 ?_
  refine lv_iconst (v := (1 : Int32)) hx hb dX3_latestWith_4 (by decide) ?_
  refine lv_isub hx hb dX3_latestWith_5 ?_
  refine lv_istore_n (lv' := [(3, .int ((ds_ord x) - (1 : Int32))), (0, .ref (g 0)), (1, .int p1), (2, .int p2)]) hx hb dX3_latestWith_6 rfl hl (by decide) rfl (fun ls hl => ?_)
  exact hL7 64 ((ds_ord x) - (1 : Int32))  _ _ hM hS (lv_sub hl [1, 2, 3, 0] rfl)
set_option maxHeartbeats 4000000 in
set_option maxRecDepth 100000 in
theorem c_X3_isOrderOfItsKind (l : Launch) (dC : Nat → ClassId) (dI : Nat → Nat → Nat) (cI cD cJ : ClassId) (kk : wAd)  (p0 : Int32) (p1 : Int32) (p2 : Int32) (out : Bool) (hM : M_X3_isOrderOfItsKind p0 p1 p2 = out) : CP l yX3_isOrderOfItsKind wsX3_isOrderOfItsKind ({ frames := 1, cells := 0, slots := 0, locals := 22 } : Room) dC dI (wTys cI cD cJ) [.int p0, .int p1, .int p2] ([] : va_W) (some (.int (zI out))) := by
  refine wk_enterP (cc := cX3_isOrderOfItsKind) (maxL := 3) (ret := (some .boolean)) (by decide) rfl (Nat.le_of_ble_eq_true rfl) ?_
  intro p e s m below meth c A Q ls hB hP hD hA hQ hl
  obtain ⟨hx, hb, hml, hr, hts, hown, hname, hlocks, hG⟩ := hB
  have hown : s.vm.findClass RX3 = some m.cls := hown
  have hS : va_S A s.heap s.heap [] := va_S.rf
  have hl : lv_has ls 3 [(0, .int p0), (1, .int p1), (2, .int p2)] := hl
  generalize ([] : List Loc) = locs at hS ⊢
  have hB60 : ∀ (w0 : Bool) (locs : List Loc) (ls : Array Slot), M_X3_isOrderOfItsKind_60 p0 p1 p2 w0 = out → va_S A s.heap s.heap locs → lv_has ls 3 [] → W p l e ({ frames := 1, cells := 0, slots := 0, locals := 22 } : Room) s m ([.int p0, .int p1, .int p2] : List Value).toArray below meth c s.heap locs 0 0 Q (F0 m 60 ls [.int (zI w0)]) := by
    intro w0 locs ls hM hS hl
    unfold M_X3_isOrderOfItsKind_60 at hM
    subst hM
    exact wk_retPi hx hb hr hlocks hQ (zI_nar _) rfl hS dX3_isOrderOfItsKind_60
  have hB59 : ∀  (locs : List Loc) (ls : Array Slot), M_X3_isOrderOfItsKind_59 p0 p1 p2 = out → va_S A s.heap s.heap locs → lv_has ls 3 [] → W p l e ({ frames := 1, cells := 0, slots := 0, locals := 22 } : Room) s m ([.int p0, .int p1, .int p2] : List Value).toArray below meth c s.heap locs 0 0 Q (F0 m 59 ls []) := by
    intro  locs ls hM hS hl
    unfold M_X3_isOrderOfItsKind_59 at hM
    refine lv_iconst (v := (0 : Int32)) hx hb dX3_isOrderOfItsKind_59 (by decide) ?_
    exact hB60 false  _ _ hM hS (lv_sub hl [] rfl)
  have hB32 : ∀  (locs : List Loc) (ls : Array Slot), M_X3_isOrderOfItsKind_32 p0 p1 p2 = out → va_S A s.heap s.heap locs → lv_has ls 3 [(1, .int p1), (2, .int p2)] → W p l e ({ frames := 1, cells := 0, slots := 0, locals := 22 } : Room) s m ([.int p0, .int p1, .int p2] : List Value).toArray below meth c s.heap locs 0 0 Q (F0 m 32 ls []) := by
    intro  locs ls hM hS hl
    unfold M_X3_isOrderOfItsKind_32 at hM
    refine lv_iload_n hx hb dX3_isOrderOfItsKind_32 rfl (lv_at hl 0 rfl) ?_
    refine lv_iconst (v := (0 : Int32)) hx hb dX3_isOrderOfItsKind_33 (by decide) ?_
    refine lv_bipush (v := (15 : Int32)) hx hb dX3_isOrderOfItsKind_34 (by decide) ?_
    refine wk_callP (va_runSN (As := [.int p1, .int (0 : Int32), .int (15 : Int32)]) (rest := []) ⟨hx, hb, hml, hown, hts⟩ (c_X6_isWithin l dC dI cI cD cJ kk  p1 (0 : Int32) (15 : Int32) _ rfl s.heap) ⟨va_cnB 3 hts gX3_isOrderOfItsKind_X6_isWithin_n66 rfl rfl rfl (hG.2 _ (List.mem_of_getElem? (i := 9) rfl)) (hts (.initialized RX6) (List.mem_of_getElem? (i := 2) rfl)) (by decide +kernel) ⟨Nat.le_of_ble_eq_true rfl, Nat.le_of_ble_eq_true rfl⟩, hts (.static yX6_isWithin) (List.mem_of_getElem? (i := 1) rfl), trivial⟩ (wk_preS hG hP hD [] rfl rfl) rfl rfl hl.1 rfl (lv_room (Nat.le_of_ble_eq_true rfl)) dX3_isOrderOfItsKind_36 ⟨Nat.le_of_ble_eq_true rfl, Nat.le_of_ble_eq_true rfl⟩) hS (fun locs hS => ?_)
    refine lv_if_eq (tgt := 59) hx hb dX3_isOrderOfItsKind_39 (by decide) (fun c1 => ?_) (fun c1 => ?_)
    · replace hM := (if_pos c1).symm.trans hM
      exact hB59   _ _ hM hS (lv_sub hl [] rfl)
    · replace hM := (if_neg c1).symm.trans hM
      refine lv_iload_n hx hb dX3_isOrderOfItsKind_42 rfl (lv_at hl 1 rfl) ?_
      refine lv_sipush (v := (-999 : Int32)) hx hb dX3_isOrderOfItsKind_43 (by decide) ?_
      refine lv_sipush (v := (999 : Int32)) hx hb dX3_isOrderOfItsKind_46 (by decide) ?_
      refine wk_callP (va_runSN (As := [.int p2, .int (-999 : Int32), .int (999 : Int32)]) (rest := []) ⟨hx, hb, hml, hown, hts⟩ (c_X6_isWithin l dC dI cI cD cJ kk  p2 (-999 : Int32) (999 : Int32) _ rfl s.heap) ⟨va_cnB 3 hts gX3_isOrderOfItsKind_X6_isWithin_n66 rfl rfl rfl (hG.2 _ (List.mem_of_getElem? (i := 9) rfl)) (hts (.initialized RX6) (List.mem_of_getElem? (i := 2) rfl)) (by decide +kernel) ⟨Nat.le_of_ble_eq_true rfl, Nat.le_of_ble_eq_true rfl⟩, hts (.static yX6_isWithin) (List.mem_of_getElem? (i := 1) rfl), trivial⟩ (wk_preS hG hP hD [] rfl rfl) rfl rfl hl.1 rfl (lv_room (Nat.le_of_ble_eq_true rfl)) dX3_isOrderOfItsKind_49 ⟨Nat.le_of_ble_eq_true rfl, Nat.le_of_ble_eq_true rfl⟩) hS (fun locs hS => ?_)
      refine lv_if_eq (tgt := 59) hx hb dX3_isOrderOfItsKind_52 (by decide) (fun c2 => ?_) (fun c2 => ?_)
      · replace hM := (if_pos c2).symm.trans hM
        exact hB59   _ _ hM hS (lv_sub hl [] rfl)
      · replace hM := (if_neg c2).symm.trans hM
        refine lv_iconst (v := (1 : Int32)) hx hb dX3_isOrderOfItsKind_55 (by decide) ?_
        refine lv_goto (tgt := 60) hx hb dX3_isOrderOfItsKind_56 (by decide) ?_
        exact hB60 true  _ _ hM hS (lv_sub hl [] rfl)
  have hB86 : ∀ (w0 : Bool) (locs : List Loc) (ls : Array Slot), M_X3_isOrderOfItsKind_86 p0 p1 p2 w0 = out → va_S A s.heap s.heap locs → lv_has ls 3 [] → W p l e ({ frames := 1, cells := 0, slots := 0, locals := 22 } : Room) s m ([.int p0, .int p1, .int p2] : List Value).toArray below meth c s.heap locs 0 0 Q (F0 m 86 ls [.int (zI w0)]) := by
    intro w0 locs ls hM hS hl
    unfold M_X3_isOrderOfItsKind_86 at hM
    subst hM
    exact wk_retPi hx hb hr hlocks hQ (zI_nar _) rfl hS dX3_isOrderOfItsKind_86
  have hB85 : ∀  (locs : List Loc) (ls : Array Slot), M_X3_isOrderOfItsKind_85 p0 p1 p2 = out → va_S A s.heap s.heap locs → lv_has ls 3 [] → W p l e ({ frames := 1, cells := 0, slots := 0, locals := 22 } : Room) s m ([.int p0, .int p1, .int p2] : List Value).toArray below meth c s.heap locs 0 0 Q (F0 m 85 ls []) := by
    intro  locs ls hM hS hl
    unfold M_X3_isOrderOfItsKind_85 at hM
    refine lv_iconst (v := (0 : Int32)) hx hb dX3_isOrderOfItsKind_85 (by decide) ?_
    exact hB86 false  _ _ hM hS (lv_sub hl [] rfl)
  have hB100 : ∀ (w0 : Bool) (locs : List Loc) (ls : Array Slot), M_X3_isOrderOfItsKind_100 p0 p1 p2 w0 = out → va_S A s.heap s.heap locs → lv_has ls 3 [] → W p l e ({ frames := 1, cells := 0, slots := 0, locals := 22 } : Room) s m ([.int p0, .int p1, .int p2] : List Value).toArray below meth c s.heap locs 0 0 Q (F0 m 100 ls [.int (zI w0)]) := by
    intro w0 locs ls hM hS hl
    unfold M_X3_isOrderOfItsKind_100 at hM
    subst hM
    exact wk_retPi hx hb hr hlocks hQ (zI_nar _) rfl hS dX3_isOrderOfItsKind_100
  have hB99 : ∀  (locs : List Loc) (ls : Array Slot), M_X3_isOrderOfItsKind_99 p0 p1 p2 = out → va_S A s.heap s.heap locs → lv_has ls 3 [] → W p l e ({ frames := 1, cells := 0, slots := 0, locals := 22 } : Room) s m ([.int p0, .int p1, .int p2] : List Value).toArray below meth c s.heap locs 0 0 Q (F0 m 99 ls []) := by
    intro  locs ls hM hS hl
    unfold M_X3_isOrderOfItsKind_99 at hM
    refine lv_iconst (v := (0 : Int32)) hx hb dX3_isOrderOfItsKind_99 (by decide) ?_
    exact hB100 false  _ _ hM hS (lv_sub hl [] rfl)
  unfold M_X3_isOrderOfItsKind at hM
  refine lv_iload_n hx hb dX3_isOrderOfItsKind_0 rfl (lv_at hl 0 rfl) ?_
  by_cases c1 : p0 = 0
  · replace hM := (if_pos c1).symm.trans hM
    refine lv_tableIn (off := 31) (tgt := 32) hx hb dX3_isOrderOfItsKind_1 (by rw [c1]; decide) (by rw [c1]; decide) (by rw [c1]; decide) (by decide) ?_
    exact hB32   _ _ hM hS (lv_sub hl [1, 2] rfl)
  replace hM := (if_neg c1).symm.trans hM
  by_cases c2 : p0 = 1
  · replace hM := (if_pos c2).symm.trans hM
    refine lv_tableIn (off := 31) (tgt := 32) hx hb dX3_isOrderOfItsKind_1 (by rw [c2]; decide) (by rw [c2]; decide) (by rw [c2]; decide) (by decide) ?_
    exact hB32   _ _ hM hS (lv_sub hl [1, 2] rfl)
  replace hM := (if_neg c2).symm.trans hM
  by_cases c3 : p0 = 2
  · replace hM := (if_pos c3).symm.trans hM
    refine lv_tableIn (off := 60) (tgt := 61) hx hb dX3_isOrderOfItsKind_1 (by rw [c3]; decide) (by rw [c3]; decide) (by rw [c3]; decide) (by decide) ?_
    refine lv_iload_n hx hb dX3_isOrderOfItsKind_61 rfl (lv_at hl 1 rfl) ?_
    refine lv_iconst (v := (0 : Int32)) hx hb dX3_isOrderOfItsKind_62 (by decide) ?_
    refine lv_bipush (v := (15 : Int32)) hx hb dX3_isOrderOfItsKind_63 (by decide) ?_
    refine wk_callP (va_runSN (As := [.int p1, .int (0 : Int32), .int (15 : Int32)]) (rest := []) ⟨hx, hb, hml, hown, hts⟩ (c_X6_isWithin l dC dI cI cD cJ kk  p1 (0 : Int32) (15 : Int32) _ rfl s.heap) ⟨va_cnB 3 hts gX3_isOrderOfItsKind_X6_isWithin_n66 rfl rfl rfl (hG.2 _ (List.mem_of_getElem? (i := 9) rfl)) (hts (.initialized RX6) (List.mem_of_getElem? (i := 2) rfl)) (by decide +kernel) ⟨Nat.le_of_ble_eq_true rfl, Nat.le_of_ble_eq_true rfl⟩, hts (.static yX6_isWithin) (List.mem_of_getElem? (i := 1) rfl), trivial⟩ (wk_preS hG hP hD [] rfl rfl) rfl rfl hl.1 rfl (lv_room (Nat.le_of_ble_eq_true rfl)) dX3_isOrderOfItsKind_65 ⟨Nat.le_of_ble_eq_true rfl, Nat.le_of_ble_eq_true rfl⟩) hS (fun locs hS => ?_)
    refine lv_if_eq (tgt := 85) hx hb dX3_isOrderOfItsKind_68 (by decide) (fun c4 => ?_) (fun c4 => ?_)
    · replace hM := (if_pos c4).symm.trans hM
      exact hB85   _ _ hM hS (lv_sub hl [] rfl)
    · replace hM := (if_neg c4).symm.trans hM
      refine lv_iload_n hx hb dX3_isOrderOfItsKind_71 rfl (lv_at hl 2 rfl) ?_
      refine lv_iconst (v := (0 : Int32)) hx hb dX3_isOrderOfItsKind_72 (by decide) ?_
      refine lv_bipush (v := (15 : Int32)) hx hb dX3_isOrderOfItsKind_73 (by decide) ?_
      refine wk_callP (va_runSN (As := [.int p2, .int (0 : Int32), .int (15 : Int32)]) (rest := []) ⟨hx, hb, hml, hown, hts⟩ (c_X6_isWithin l dC dI cI cD cJ kk  p2 (0 : Int32) (15 : Int32) _ rfl s.heap) ⟨va_cnB 3 hts gX3_isOrderOfItsKind_X6_isWithin_n66 rfl rfl rfl (hG.2 _ (List.mem_of_getElem? (i := 9) rfl)) (hts (.initialized RX6) (List.mem_of_getElem? (i := 2) rfl)) (by decide +kernel) ⟨Nat.le_of_ble_eq_true rfl, Nat.le_of_ble_eq_true rfl⟩, hts (.static yX6_isWithin) (List.mem_of_getElem? (i := 1) rfl), trivial⟩ (wk_preS hG hP hD [] rfl rfl) rfl rfl hl.1 rfl (lv_room (Nat.le_of_ble_eq_true rfl)) dX3_isOrderOfItsKind_75 ⟨Nat.le_of_ble_eq_true rfl, Nat.le_of_ble_eq_true rfl⟩) hS (fun locs hS => ?_)
      refine lv_if_eq (tgt := 85) hx hb dX3_isOrderOfItsKind_78 (by decide) (fun c5 => ?_) (fun c5 => ?_)
      · replace hM := (if_pos c5).symm.trans hM
        exact hB85   _ _ hM hS (lv_sub hl [] rfl)
      · replace hM := (if_neg c5).symm.trans hM
        refine lv_iconst (v := (1 : Int32)) hx hb dX3_isOrderOfItsKind_81 (by decide) ?_
        refine lv_goto (tgt := 86) hx hb dX3_isOrderOfItsKind_82 (by decide) ?_
        exact hB86 true  _ _ hM hS (lv_sub hl [] rfl)
  replace hM := (if_neg c3).symm.trans hM
  by_cases c6 : p0 = 3
  · replace hM := (if_pos c6).symm.trans hM
    refine lv_tableIn (off := 86) (tgt := 87) hx hb dX3_isOrderOfItsKind_1 (by rw [c6]; decide) (by rw [c6]; decide) (by rw [c6]; decide) (by decide) ?_
    refine lv_iload_n hx hb dX3_isOrderOfItsKind_87 rfl (lv_at hl 1 rfl) ?_
    refine lv_if_ne (tgt := 99) hx hb dX3_isOrderOfItsKind_88 (by decide) (fun c7 => ?_) (fun c7 => ?_)
    · replace hM := (if_neg c7).symm.trans hM
      exact hB99   _ _ hM hS (lv_sub hl [] rfl)
    · replace hM := (if_pos c7).symm.trans hM
      refine lv_iload_n hx hb dX3_isOrderOfItsKind_91 rfl (lv_at hl 2 rfl) ?_
      refine lv_if_ne (tgt := 99) hx hb dX3_isOrderOfItsKind_92 (by decide) (fun c8 => ?_) (fun c8 => ?_)
      · replace hM := (if_neg c8).symm.trans hM
        exact hB99   _ _ hM hS (lv_sub hl [] rfl)
      · replace hM := (if_pos c8).symm.trans hM
        refine lv_iconst (v := (1 : Int32)) hx hb dX3_isOrderOfItsKind_95 (by decide) ?_
        refine lv_goto (tgt := 100) hx hb dX3_isOrderOfItsKind_96 (by decide) ?_
        exact hB100 true  _ _ hM hS (lv_sub hl [] rfl)
  replace hM := (if_neg c6).symm.trans hM
  have ec1 : (p0).toInt ≠ 0 := fun q => c1 (Int32.toInt_inj.mp (q.trans (by decide)))
  have ec2 : (p0).toInt ≠ 1 := fun q => c2 (Int32.toInt_inj.mp (q.trans (by decide)))
  have ec3 : (p0).toInt ≠ 2 := fun q => c3 (Int32.toInt_inj.mp (q.trans (by decide)))
  have ec6 : (p0).toInt ≠ 3 := fun q => c6 (Int32.toInt_inj.mp (q.trans (by decide)))
  refine lv_tableOut (tgt := 101) hx hb dX3_isOrderOfItsKind_1 (by omega) (by decide) ?_
  refine lv_iconst (v := (0 : Int32)) hx hb dX3_isOrderOfItsKind_101 (by decide) ?_
  subst hM
  exact wk_retPi hx hb hr hlocks hQ rfl rfl hS dX3_isOrderOfItsKind_102
set_option maxHeartbeats 4000000 in
set_option maxRecDepth 100000 in
theorem c_X3_faultOfTelling (l : Launch) (dC : Nat → ClassId) (dI : Nat → Nat → Nat) (cI cD cJ : ClassId) (kk : wAd) (g : Nat → Nat) (x : DS) (p1 : Int32) (p2 : Int32) (p3 : Int32) (p4 : Int32) (p5 : Int32) (out : Int32) (hM : M_X3_faultOfTelling x p1 p2 p3 p4 p5 = some out) : CP l yX3_faultOfTelling wsX3_faultOfTelling ({ frames := 2, cells := 0, slots := 0, locals := 46 } : Room) dC dI (wTys cI cD cJ) [.ref (g 0), .int p1, .int p2, .int p3, .int p4, .int p5] (wDrv cI g x) (some (.int out)) := by
  refine wk_enterP (cc := cX3_faultOfTelling) (maxL := 7) (ret := (some .int)) (by decide) rfl (Nat.le_of_ble_eq_true rfl) ?_
  intro p e s m below meth c A Q ls hB hP hD hA hQ hl
  obtain ⟨hx, hb, hml, hr, hts, hown, hname, hlocks, hG⟩ := hB
  have hown : s.vm.findClass RX3 = some m.cls := hown
  have hS : va_S A s.heap s.heap [] := va_S.rf
  have hl : lv_has ls 7 [(0, .ref (g 0)), (1, .int p1), (2, .int p2), (3, .int p3), (4, .int p4), (5, .int p5)] := hl
  have inX3 : ∀ w ∈ wsX30, w ∈ wsX3_faultOfTelling := fun _ h => List.mem_cons_of_mem _ (List.mem_append_right _ h)
  generalize ([] : List Loc) = locs at hS ⊢
  have hB19 : ∀  (locs : List Loc) (ls : Array Slot), M_X3_faultOfTelling_19 x p1 p2 p3 p4 p5 = some out → va_S A s.heap s.heap locs → lv_has ls 7 [] → W p l e ({ frames := 2, cells := 0, slots := 0, locals := 46 } : Room) s m ([.ref (g 0), .int p1, .int p2, .int p3, .int p4, .int p5] : List Value).toArray below meth c s.heap locs 0 0 Q (F0 m 19 ls []) := by
    intro  locs ls hM hS hl
    unfold M_X3_faultOfTelling_19 at hM
    refine lv_iconst (v := (2 : Int32)) hx hb dX3_faultOfTelling_19 (by decide) ?_
    replace hM := Option.some.inj hM
    subst hM
    exact wk_retPi hx hb hr hlocks hQ rfl rfl hS dX3_faultOfTelling_20
  have hB58 : ∀ (w0 : Int32) (locs : List Loc) (ls : Array Slot), M_X3_faultOfTelling_58 x p1 p2 p3 p4 p5 w0 = some out → va_S A s.heap s.heap locs → lv_has ls 7 [] → W p l e ({ frames := 2, cells := 0, slots := 0, locals := 46 } : Room) s m ([.ref (g 0), .int p1, .int p2, .int p3, .int p4, .int p5] : List Value).toArray below meth c s.heap locs 0 0 Q (F0 m 58 ls [.int w0]) := by
    intro w0 locs ls hM hS hl
    unfold M_X3_faultOfTelling_58 at hM
    replace hM := Option.some.inj hM
    subst hM
    exact wk_retPi hx hb hr hlocks hQ rfl rfl hS dX3_faultOfTelling_58
  have hB53 : ∀  (locs : List Loc) (ls : Array Slot), M_X3_faultOfTelling_53 x p1 p2 p3 p4 p5 = some out → va_S A s.heap s.heap locs → lv_has ls 7 [] → W p l e ({ frames := 2, cells := 0, slots := 0, locals := 46 } : Room) s m ([.ref (g 0), .int p1, .int p2, .int p3, .int p4, .int p5] : List Value).toArray below meth c s.heap locs 0 0 Q (F0 m 53 ls []) := by
    intro  locs ls hM hS hl
    unfold M_X3_faultOfTelling_53 at hM
    refine lv_iconst (v := (3 : Int32)) hx hb dX3_faultOfTelling_53 (by decide) ?_
    refine lv_goto (tgt := 58) hx hb dX3_faultOfTelling_54 (by decide) ?_
    exact hB58 (3 : Int32)  _ _ hM hS (lv_sub hl [] rfl)
  have hB57 : ∀  (locs : List Loc) (ls : Array Slot), M_X3_faultOfTelling_57 x p1 p2 p3 p4 p5 = some out → va_S A s.heap s.heap locs → lv_has ls 7 [] → W p l e ({ frames := 2, cells := 0, slots := 0, locals := 46 } : Room) s m ([.ref (g 0), .int p1, .int p2, .int p3, .int p4, .int p5] : List Value).toArray below meth c s.heap locs 0 0 Q (F0 m 57 ls []) := by
    intro  locs ls hM hS hl
    unfold M_X3_faultOfTelling_57 at hM
    refine lv_iconst (v := (0 : Int32)) hx hb dX3_faultOfTelling_57 (by decide) ?_
    exact hB58 (0 : Int32)  _ _ hM hS (lv_sub hl [] rfl)
  unfold M_X3_faultOfTelling at hM
  refine lv_iload_n hx hb dX3_faultOfTelling_0 rfl (lv_at hl 1 rfl) ?_
  refine lv_iload_n hx hb dX3_faultOfTelling_1 rfl (lv_at hl 2 rfl) ?_
  refine wk_callP (va_runSN (As := [.int p1, .int p2]) (rest := []) ⟨hx, hb, hml, hown, hts⟩ (c_X6_faultOfTag l dC dI cI cD cJ kk  p1 p2 _ rfl s.heap) ⟨va_cnB 2 hts gX3_faultOfTelling_X6_faultOfTag_n51 rfl rfl rfl (hG.2 _ (List.mem_of_getElem? (i := 8) rfl)) (hts (.initialized RX6) (List.mem_of_getElem? (i := 3) rfl)) (by decide +kernel) ⟨Nat.le_of_ble_eq_true rfl, Nat.le_of_ble_eq_true rfl⟩, hts (.static yX6_faultOfTag) (List.mem_of_getElem? (i := 2) rfl), trivial⟩ (wk_preS hG hP hD [] rfl rfl) rfl rfl hl.1 rfl (lv_room (Nat.le_of_ble_eq_true rfl)) dX3_faultOfTelling_2 ⟨Nat.le_of_ble_eq_true rfl, Nat.le_of_ble_eq_true rfl⟩) hS (fun locs hS => ?_)
  refine lv_if_ne (tgt := 19) hx hb dX3_faultOfTelling_5 (by decide) (fun c1 => ?_) (fun c1 => ?_)
  · replace hM := (if_neg c1).symm.trans hM
    exact hB19   _ _ hM hS (lv_sub hl [] rfl)
  · replace hM := (if_pos c1).symm.trans hM
    refine lv_iload_n hx hb dX3_faultOfTelling_8 rfl (lv_at hl 3 rfl) ?_
    refine lv_iload hx hb dX3_faultOfTelling_9 (lv_at hl 4 rfl) ?_
    refine lv_iload hx hb dX3_faultOfTelling_11 (lv_at hl 5 rfl) ?_
    refine wk_callP (va_runS (As := [.int p3, .int p4, .int p5]) (rest := []) ⟨hx, hb, hml, hown, hts⟩ (c_X3_isOrderOfItsKind l dC dI cI cD cJ kk  p3 p4 p5 _ rfl s.heap) (va_cwS 3 hts gX3_faultOfTelling_X3_isOrderOfItsKind rfl rfl rfl (by decide +kernel) ⟨Nat.le_of_ble_eq_true rfl, Nat.le_of_ble_eq_true rfl⟩) (wk_preS hG hP hD [] rfl rfl) rfl rfl hl.1 rfl (lv_room (Nat.le_of_ble_eq_true rfl)) dX3_faultOfTelling_13 ⟨Nat.le_of_ble_eq_true rfl, Nat.le_of_ble_eq_true rfl⟩) hS (fun locs hS => ?_)
    refine lv_if_ne (tgt := 21) hx hb dX3_faultOfTelling_16 (by decide) (fun c2 => ?_) (fun c2 => ?_)
    · replace hM := (if_neg c2).symm.trans hM
      refine lv_aload_n hx hb dX3_faultOfTelling_21 rfl (lv_at hl 0 rfl) ?_
      refine lv_iload_n hx hb dX3_faultOfTelling_22 rfl (lv_at hl 1 rfl) ?_
      refine lv_iload_n hx hb dX3_faultOfTelling_23 rfl (lv_at hl 2 rfl) ?_
      obtain ⟨r3, hr3, hM⟩ := ob hM
      refine wk_callP (va_runV (As := [.int p1, .int p2]) (rest := []) ⟨hx, hb, hml, hown, hts⟩ (c_X3_latestWith l dC dI cI cD cJ kk g x p1 p2 _ hr3 s.heap) (cwV 2 hts gX3_faultOfTelling_X3_latestWith rfl rfl rfl (by decide +kernel) ⟨Nat.le_of_ble_eq_true rfl, Nat.le_of_ble_eq_true rfl⟩) (wk_preV (ci := 2) (q0 := 0) hG hP hD [0, 1, 2, 3, 4] rfl rfl rfl rfl) rfl rfl hl.1 rfl (lv_room (Nat.le_of_ble_eq_true rfl)) dX3_faultOfTelling_24 ⟨Nat.le_of_ble_eq_true rfl, Nat.le_of_ble_eq_true rfl⟩) hS (fun locs hS => ?_)
      refine lv_istore (lv' := [(6, .int r3), (0, .ref (g 0)), (1, .int p1), (2, .int p2), (3, .int p3), (4, .int p4), (5, .int p5)]) hx hb dX3_faultOfTelling_27 hl (by decide) rfl (fun ls hl => ?_)
      refine lv_aload_n hx hb dX3_faultOfTelling_29 rfl (lv_at hl 1 rfl) ?_
      refine va_get (D := (dC, dI)) (ci := 2) (v := .int (ds_ord x)) (C := RX3) (T := TX3) (N := 8) hx hb hts inX3 hown hG.1 hP 0 rfl rfl 4 (by decide) (hts (.fieldLink RX3 28 "WokenDrive$Drive" "orders" "I") (List.mem_of_getElem? (i := 1) rfl)) (fun _ h9 => h9) rfl dX3_faultOfTelling_30 ?_
      refine lv_bipush (v := (40 : Int32)) hx hb dX3_faultOfTelling_33 (by decide) ?_
      refine lv_icmp_ge (tgt := 53) hx hb dX3_faultOfTelling_35 (by decide) (fun c4 => ?_) (fun c4 => ?_)
      · replace hM := (if_pos c4).symm.trans hM
        exact hB53   _ _ hM hS (lv_sub hl [] rfl)
      · replace hM := (if_neg c4).symm.trans hM
        refine lv_iload hx hb dX3_faultOfTelling_38 (lv_at hl 0 rfl) ?_
        refine lv_iconst (v := (-1 : Int32)) hx hb dX3_faultOfTelling_40 (by decide) ?_
        refine lv_icmp_eq (tgt := 57) hx hb dX3_faultOfTelling_41 (by decide) (fun c5 => ?_) (fun c5 => ?_)
        · replace hM := (if_pos c5).symm.trans hM
          exact hB57   _ _ hM hS (lv_sub hl [] rfl)
        · replace hM := (if_neg c5).symm.trans hM
          refine lv_aload_n hx hb dX3_faultOfTelling_44 rfl (lv_at hl 1 rfl) ?_
          refine lv_iload hx hb dX3_faultOfTelling_45 (lv_at hl 0 rfl) ?_
          refine wk_callP (va_runV (As := [.int r3]) (rest := []) ⟨hx, hb, hml, hown, hts⟩ (c_X3_isOpen l dC dI cI cD cJ kk g x r3 _ rfl s.heap) (cwV 1 hts gX3_faultOfTelling_X3_isOpen rfl rfl rfl (by decide +kernel) ⟨Nat.le_of_ble_eq_true rfl, Nat.le_of_ble_eq_true rfl⟩) (wk_preV (ci := 2) (q0 := 0) hG hP hD [0, 1, 2, 3, 4] rfl rfl rfl rfl) rfl rfl hl.1 rfl (lv_room (Nat.le_of_ble_eq_true rfl)) dX3_faultOfTelling_47 ⟨Nat.le_of_ble_eq_true rfl, Nat.le_of_ble_eq_true rfl⟩) hS (fun locs hS => ?_)
          refine lv_if_eq (tgt := 57) hx hb dX3_faultOfTelling_50 (by decide) (fun c6 => ?_) (fun c6 => ?_)
          · replace hM := (if_pos c6).symm.trans hM
            exact hB57   _ _ hM hS (lv_sub hl [] rfl)
          · replace hM := (if_neg c6).symm.trans hM
            exact hB53   _ _ hM hS (lv_sub hl [] rfl)
    · replace hM := (if_pos c2).symm.trans hM
      exact hB19   _ _ hM hS (lv_sub hl [] rfl)
set_option maxHeartbeats 4000000 in
set_option maxRecDepth 100000 in
theorem c_X3_faultOfCancelling (l : Launch) (dC : Nat → ClassId) (dI : Nat → Nat → Nat) (cI cD cJ : ClassId) (kk : wAd) (g : Nat → Nat) (x : DS) (p1 : Int32) (p2 : Int32) (out : Int32) (hM : M_X3_faultOfCancelling x p1 p2 = some out) : CP l yX3_faultOfCancelling wsX3_faultOfCancelling ({ frames := 2, cells := 0, slots := 0, locals := 46 } : Room) dC dI (wTys cI cD cJ) [.ref (g 0), .int p1, .int p2] (wDrv cI g x) (some (.int out)) := by
  refine wk_enterP (cc := cX3_faultOfCancelling) (maxL := 4) (ret := (some .int)) (by decide) rfl (Nat.le_of_ble_eq_true rfl) ?_
  intro p e s m below meth c A Q ls hB hP hD hA hQ hl
  obtain ⟨hx, hb, hml, hr, hts, hown, hname, hlocks, hG⟩ := hB
  have hown : s.vm.findClass RX3 = some m.cls := hown
  have hS : va_S A s.heap s.heap [] := va_S.rf
  have hl : lv_has ls 4 [(0, .ref (g 0)), (1, .int p1), (2, .int p2)] := hl
  generalize ([] : List Loc) = locs at hS ⊢
  have hB36 : ∀ (w0 : Int32) (locs : List Loc) (ls : Array Slot), M_X3_faultOfCancelling_36 x p1 p2 w0 = some out → va_S A s.heap s.heap locs → lv_has ls 4 [] → W p l e ({ frames := 2, cells := 0, slots := 0, locals := 46 } : Room) s m ([.ref (g 0), .int p1, .int p2] : List Value).toArray below meth c s.heap locs 0 0 Q (F0 m 36 ls [.int w0]) := by
    intro w0 locs ls hM hS hl
    unfold M_X3_faultOfCancelling_36 at hM
    replace hM := Option.some.inj hM
    subst hM
    exact wk_retPi hx hb hr hlocks hQ rfl rfl hS dX3_faultOfCancelling_36
  have hB31 : ∀  (locs : List Loc) (ls : Array Slot), M_X3_faultOfCancelling_31 x p1 p2 = some out → va_S A s.heap s.heap locs → lv_has ls 4 [] → W p l e ({ frames := 2, cells := 0, slots := 0, locals := 46 } : Room) s m ([.ref (g 0), .int p1, .int p2] : List Value).toArray below meth c s.heap locs 0 0 Q (F0 m 31 ls []) := by
    intro  locs ls hM hS hl
    unfold M_X3_faultOfCancelling_31 at hM
    refine lv_iconst (v := (3 : Int32)) hx hb dX3_faultOfCancelling_31 (by decide) ?_
    refine lv_goto (tgt := 36) hx hb dX3_faultOfCancelling_32 (by decide) ?_
    exact hB36 (3 : Int32)  _ _ hM hS (lv_sub hl [] rfl)
  unfold M_X3_faultOfCancelling at hM
  refine lv_iload_n hx hb dX3_faultOfCancelling_0 rfl (lv_at hl 1 rfl) ?_
  refine lv_iload_n hx hb dX3_faultOfCancelling_1 rfl (lv_at hl 2 rfl) ?_
  refine wk_callP (va_runSN (As := [.int p1, .int p2]) (rest := []) ⟨hx, hb, hml, hown, hts⟩ (c_X6_faultOfTag l dC dI cI cD cJ kk  p1 p2 _ rfl s.heap) ⟨va_cnB 2 hts gX3_faultOfCancelling_X6_faultOfTag_n51 rfl rfl rfl (hG.2 _ (List.mem_of_getElem? (i := 8) rfl)) (hts (.initialized RX6) (List.mem_of_getElem? (i := 2) rfl)) (by decide +kernel) ⟨Nat.le_of_ble_eq_true rfl, Nat.le_of_ble_eq_true rfl⟩, hts (.static yX6_faultOfTag) (List.mem_of_getElem? (i := 1) rfl), trivial⟩ (wk_preS hG hP hD [] rfl rfl) rfl rfl hl.1 rfl (lv_room (Nat.le_of_ble_eq_true rfl)) dX3_faultOfCancelling_2 ⟨Nat.le_of_ble_eq_true rfl, Nat.le_of_ble_eq_true rfl⟩) hS (fun locs hS => ?_)
  refine lv_if_eq (tgt := 10) hx hb dX3_faultOfCancelling_5 (by decide) (fun c1 => ?_) (fun c1 => ?_)
  · replace hM := (if_pos c1).symm.trans hM
    refine lv_aload_n hx hb dX3_faultOfCancelling_10 rfl (lv_at hl 0 rfl) ?_
    refine lv_iload_n hx hb dX3_faultOfCancelling_11 rfl (lv_at hl 1 rfl) ?_
    refine lv_iload_n hx hb dX3_faultOfCancelling_12 rfl (lv_at hl 2 rfl) ?_
    obtain ⟨r2, hr2, hM⟩ := ob hM
    refine wk_callP (va_runV (As := [.int p1, .int p2]) (rest := []) ⟨hx, hb, hml, hown, hts⟩ (c_X3_latestWith l dC dI cI cD cJ kk g x p1 p2 _ hr2 s.heap) (cwV 2 hts gX3_faultOfCancelling_X3_latestWith rfl rfl rfl (by decide +kernel) ⟨Nat.le_of_ble_eq_true rfl, Nat.le_of_ble_eq_true rfl⟩) (wk_preV (ci := 2) (q0 := 0) hG hP hD [0, 1, 2, 3, 4] rfl rfl rfl rfl) rfl rfl hl.1 rfl (lv_room (Nat.le_of_ble_eq_true rfl)) dX3_faultOfCancelling_13 ⟨Nat.le_of_ble_eq_true rfl, Nat.le_of_ble_eq_true rfl⟩) hS (fun locs hS => ?_)
    refine lv_istore_n (lv' := [(3, .int r2), (0, .ref (g 0)), (1, .int p1), (2, .int p2)]) hx hb dX3_faultOfCancelling_16 rfl hl (by decide) rfl (fun ls hl => ?_)
    refine lv_iload_n hx hb dX3_faultOfCancelling_17 rfl (lv_at hl 0 rfl) ?_
    refine lv_iconst (v := (-1 : Int32)) hx hb dX3_faultOfCancelling_18 (by decide) ?_
    refine lv_icmp_eq (tgt := 31) hx hb dX3_faultOfCancelling_19 (by decide) (fun c3 => ?_) (fun c3 => ?_)
    · replace hM := (if_pos c3).symm.trans hM
      exact hB31   _ _ hM hS (lv_sub hl [] rfl)
    · replace hM := (if_neg c3).symm.trans hM
      refine lv_aload_n hx hb dX3_faultOfCancelling_22 rfl (lv_at hl 1 rfl) ?_
      refine lv_iload_n hx hb dX3_faultOfCancelling_23 rfl (lv_at hl 0 rfl) ?_
      refine lv_iconst (v := (5 : Int32)) hx hb dX3_faultOfCancelling_24 (by decide) ?_
      refine wk_callP (va_runV (As := [.int r2, .int (5 : Int32)]) (rest := []) ⟨hx, hb, hml, hown, hts⟩ (c_X3_fact l dC dI cI cD cJ kk g x r2 (5 : Int32) _ rfl s.heap) (cwV 2 hts gX3_faultOfCancelling_X3_fact rfl rfl rfl (by decide +kernel) ⟨Nat.le_of_ble_eq_true rfl, Nat.le_of_ble_eq_true rfl⟩) (wk_preV (ci := 2) (q0 := 0) hG hP hD [0, 1, 2, 3, 4] rfl rfl rfl rfl) rfl rfl hl.1 rfl (lv_room (Nat.le_of_ble_eq_true rfl)) dX3_faultOfCancelling_25 ⟨Nat.le_of_ble_eq_true rfl, Nat.le_of_ble_eq_true rfl⟩) hS (fun locs hS => ?_)
      refine lv_if_eq (tgt := 35) hx hb dX3_faultOfCancelling_28 (by decide) (fun c4 => ?_) (fun c4 => ?_)
      · replace hM := (if_pos c4).symm.trans hM
        refine lv_iconst (v := (0 : Int32)) hx hb dX3_faultOfCancelling_35 (by decide) ?_
        exact hB36 (0 : Int32)  _ _ hM hS (lv_sub hl [] rfl)
      · replace hM := (if_neg c4).symm.trans hM
        exact hB31   _ _ hM hS (lv_sub hl [] rfl)
  · replace hM := (if_neg c1).symm.trans hM
    refine lv_iconst (v := (2 : Int32)) hx hb dX3_faultOfCancelling_8 (by decide) ?_
    replace hM := Option.some.inj hM
    subst hM
    exact wk_retPi hx hb hr hlocks hQ rfl rfl hS dX3_faultOfCancelling_9
set_option maxHeartbeats 4000000 in
set_option maxRecDepth 100000 in
theorem c_X3_faultOfWaking (l : Launch) (dC : Nat → ClassId) (dI : Nat → Nat → Nat) (cI cD cJ : ClassId) (kk : wAd) (g : Nat → Nat) (x : DS) (p1 : Int32) (out : Int32) (hM : M_X3_faultOfWaking x p1 = out) : CP l yX3_faultOfWaking wsX3_faultOfWaking ({ frames := 2, cells := 0, slots := 0, locals := 42 } : Room) dC dI (wTys cI cD cJ) [.ref (g 0), .int p1] (wDrv cI g x) (some (.int out)) := by
  refine wk_enterP (cc := cX3_faultOfWaking) (maxL := 2) (ret := (some .int)) (by decide) rfl (Nat.le_of_ble_eq_true rfl) ?_
  intro p e s m below meth c A Q ls hB hP hD hA hQ hl
  obtain ⟨hx, hb, hml, hr, hts, hown, hname, hlocks, hG⟩ := hB
  have hown : s.vm.findClass RX3 = some m.cls := hown
  have hS : va_S A s.heap s.heap [] := va_S.rf
  have hl : lv_has ls 2 [(0, .ref (g 0)), (1, .int p1)] := hl
  have inX2 : ∀ w ∈ wsX20, w ∈ wsX3_faultOfWaking := fun _ h => List.mem_cons_of_mem _ (List.mem_append_left _ (List.mem_append_right _ h))
  generalize ([] : List Loc) = locs at hS ⊢
  have hB25 : ∀ (w0 : Int32) (locs : List Loc) (ls : Array Slot), M_X3_faultOfWaking_25 x p1 w0 = out → va_S A s.heap s.heap locs → lv_has ls 2 [] → W p l e ({ frames := 2, cells := 0, slots := 0, locals := 42 } : Room) s m ([.ref (g 0), .int p1] : List Value).toArray below meth c s.heap locs 0 0 Q (F0 m 25 ls [.int w0]) := by
    intro w0 locs ls hM hS hl
    unfold M_X3_faultOfWaking_25 at hM
    subst hM
    exact wk_retPi hx hb hr hlocks hQ rfl rfl hS dX3_faultOfWaking_25
  unfold M_X3_faultOfWaking at hM
  refine lv_iload_n hx hb dX3_faultOfWaking_0 rfl (lv_at hl 1 rfl) ?_
  refine wk_callP (va_runSN (As := [.int p1]) (rest := []) ⟨hx, hb, hml, hown, hts⟩ (c_X6_faultOfController l dC dI cI cD cJ kk  p1 _ rfl s.heap) ⟨va_cnB 1 hts gX3_faultOfWaking_X6_faultOfController_n72 rfl rfl rfl (hG.2 _ (List.mem_of_getElem? (i := 10) rfl)) (hts (.initialized RX6) (List.mem_of_getElem? (i := 3) rfl)) (by decide +kernel) ⟨Nat.le_of_ble_eq_true rfl, Nat.le_of_ble_eq_true rfl⟩, hts (.static yX6_faultOfController) (List.mem_of_getElem? (i := 2) rfl), trivial⟩ (wk_preS hG hP hD [] rfl rfl) rfl rfl hl.1 rfl (lv_room (Nat.le_of_ble_eq_true rfl)) dX3_faultOfWaking_1 ⟨Nat.le_of_ble_eq_true rfl, Nat.le_of_ble_eq_true rfl⟩) hS (fun locs hS => ?_)
  refine lv_if_eq (tgt := 9) hx hb dX3_faultOfWaking_4 (by decide) (fun c1 => ?_) (fun c1 => ?_)
  · replace hM := (if_pos c1).symm.trans hM
    refine lv_aload_n hx hb dX3_faultOfWaking_9 rfl (lv_at hl 0 rfl) ?_
    refine lv_iload_n hx hb dX3_faultOfWaking_10 rfl (lv_at hl 1 rfl) ?_
    refine wk_callP (va_runV (As := [.int p1]) (rest := []) ⟨hx, hb, hml, hown, hts⟩ (c_X3_controllerAt l dC dI cI cD cJ kk g x p1 s.heap) (cwV 1 hts gX3_faultOfWaking_X3_controllerAt rfl rfl rfl (by decide +kernel) ⟨Nat.le_of_ble_eq_true rfl, Nat.le_of_ble_eq_true rfl⟩) (wk_preV (ci := 2) (q0 := 0) hG hP hD [0, 1, 2, 3, 4] rfl rfl rfl rfl) rfl rfl hl.1 rfl (lv_room (Nat.le_of_ble_eq_true rfl)) dX3_faultOfWaking_11 ⟨Nat.le_of_ble_eq_true rfl, Nat.le_of_ble_eq_true rfl⟩) hS (fun locs hS => ?_)
    refine wk_getC (v := .int (zI (cs_aw (dCtl x p1)))) hx hb hts inX2 hown hG hP 3 4 rfl rfl 0 (by decide) (hts (.fieldLink RX3 80 "WokenDrive$Controller" "awake" "Z") (List.mem_of_getElem? (i := 1) rfl)) rfl dX3_faultOfWaking_14 ?_
    refine lv_if_eq (tgt := 24) hx hb dX3_faultOfWaking_17 (by decide) (fun c2 => ?_) (fun c2 => ?_)
    · replace hM := (if_pos c2).symm.trans hM
      refine lv_iconst (v := (0 : Int32)) hx hb dX3_faultOfWaking_24 (by decide) ?_
      exact hB25 (0 : Int32)  _ _ hM hS (lv_sub hl [] rfl)
    · replace hM := (if_neg c2).symm.trans hM
      refine lv_iconst (v := (3 : Int32)) hx hb dX3_faultOfWaking_20 (by decide) ?_
      refine lv_goto (tgt := 25) hx hb dX3_faultOfWaking_21 (by decide) ?_
      exact hB25 (3 : Int32)  _ _ hM hS (lv_sub hl [] rfl)
  · replace hM := (if_neg c1).symm.trans hM
    refine lv_iconst (v := (1 : Int32)) hx hb dX3_faultOfWaking_7 (by decide) ?_
    subst hM
    exact wk_retPi hx hb hr hlocks hQ rfl rfl hS dX3_faultOfWaking_8
set_option maxHeartbeats 4000000 in
set_option maxRecDepth 100000 in
theorem c_X3_faultOfNeedingAwake (l : Launch) (dC : Nat → ClassId) (dI : Nat → Nat → Nat) (cI cD cJ : ClassId) (kk : wAd) (g : Nat → Nat) (x : DS) (p1 : Int32) (out : Int32) (hM : M_X3_faultOfNeedingAwake x p1 = out) : CP l yX3_faultOfNeedingAwake wsX3_faultOfNeedingAwake ({ frames := 2, cells := 0, slots := 0, locals := 42 } : Room) dC dI (wTys cI cD cJ) [.ref (g 0), .int p1] (wDrv cI g x) (some (.int out)) := by
  refine wk_enterP (cc := cX3_faultOfNeedingAwake) (maxL := 2) (ret := (some .int)) (by decide) rfl (Nat.le_of_ble_eq_true rfl) ?_
  intro p e s m below meth c A Q ls hB hP hD hA hQ hl
  obtain ⟨hx, hb, hml, hr, hts, hown, hname, hlocks, hG⟩ := hB
  have hown : s.vm.findClass RX3 = some m.cls := hown
  have hS : va_S A s.heap s.heap [] := va_S.rf
  have hl : lv_has ls 2 [(0, .ref (g 0)), (1, .int p1)] := hl
  have inX2 : ∀ w ∈ wsX20, w ∈ wsX3_faultOfNeedingAwake := fun _ h => List.mem_cons_of_mem _ (List.mem_append_left _ (List.mem_append_right _ h))
  generalize ([] : List Loc) = locs at hS ⊢
  have hB25 : ∀ (w0 : Int32) (locs : List Loc) (ls : Array Slot), M_X3_faultOfNeedingAwake_25 x p1 w0 = out → va_S A s.heap s.heap locs → lv_has ls 2 [] → W p l e ({ frames := 2, cells := 0, slots := 0, locals := 42 } : Room) s m ([.ref (g 0), .int p1] : List Value).toArray below meth c s.heap locs 0 0 Q (F0 m 25 ls [.int w0]) := by
    intro w0 locs ls hM hS hl
    unfold M_X3_faultOfNeedingAwake_25 at hM
    subst hM
    exact wk_retPi hx hb hr hlocks hQ rfl rfl hS dX3_faultOfNeedingAwake_25
  unfold M_X3_faultOfNeedingAwake at hM
  refine lv_iload_n hx hb dX3_faultOfNeedingAwake_0 rfl (lv_at hl 1 rfl) ?_
  refine wk_callP (va_runSN (As := [.int p1]) (rest := []) ⟨hx, hb, hml, hown, hts⟩ (c_X6_faultOfController l dC dI cI cD cJ kk  p1 _ rfl s.heap) ⟨va_cnB 1 hts gX3_faultOfNeedingAwake_X6_faultOfController_n72 rfl rfl rfl (hG.2 _ (List.mem_of_getElem? (i := 10) rfl)) (hts (.initialized RX6) (List.mem_of_getElem? (i := 3) rfl)) (by decide +kernel) ⟨Nat.le_of_ble_eq_true rfl, Nat.le_of_ble_eq_true rfl⟩, hts (.static yX6_faultOfController) (List.mem_of_getElem? (i := 2) rfl), trivial⟩ (wk_preS hG hP hD [] rfl rfl) rfl rfl hl.1 rfl (lv_room (Nat.le_of_ble_eq_true rfl)) dX3_faultOfNeedingAwake_1 ⟨Nat.le_of_ble_eq_true rfl, Nat.le_of_ble_eq_true rfl⟩) hS (fun locs hS => ?_)
  refine lv_if_eq (tgt := 9) hx hb dX3_faultOfNeedingAwake_4 (by decide) (fun c1 => ?_) (fun c1 => ?_)
  · replace hM := (if_pos c1).symm.trans hM
    refine lv_aload_n hx hb dX3_faultOfNeedingAwake_9 rfl (lv_at hl 0 rfl) ?_
    refine lv_iload_n hx hb dX3_faultOfNeedingAwake_10 rfl (lv_at hl 1 rfl) ?_
    refine wk_callP (va_runV (As := [.int p1]) (rest := []) ⟨hx, hb, hml, hown, hts⟩ (c_X3_controllerAt l dC dI cI cD cJ kk g x p1 s.heap) (cwV 1 hts gX3_faultOfNeedingAwake_X3_controllerAt rfl rfl rfl (by decide +kernel) ⟨Nat.le_of_ble_eq_true rfl, Nat.le_of_ble_eq_true rfl⟩) (wk_preV (ci := 2) (q0 := 0) hG hP hD [0, 1, 2, 3, 4] rfl rfl rfl rfl) rfl rfl hl.1 rfl (lv_room (Nat.le_of_ble_eq_true rfl)) dX3_faultOfNeedingAwake_11 ⟨Nat.le_of_ble_eq_true rfl, Nat.le_of_ble_eq_true rfl⟩) hS (fun locs hS => ?_)
    refine wk_getC (v := .int (zI (cs_aw (dCtl x p1)))) hx hb hts inX2 hown hG hP 3 4 rfl rfl 0 (by decide) (hts (.fieldLink RX3 80 "WokenDrive$Controller" "awake" "Z") (List.mem_of_getElem? (i := 1) rfl)) rfl dX3_faultOfNeedingAwake_14 ?_
    refine lv_if_eq (tgt := 24) hx hb dX3_faultOfNeedingAwake_17 (by decide) (fun c2 => ?_) (fun c2 => ?_)
    · replace hM := (if_pos c2).symm.trans hM
      refine lv_iconst (v := (3 : Int32)) hx hb dX3_faultOfNeedingAwake_24 (by decide) ?_
      exact hB25 (3 : Int32)  _ _ hM hS (lv_sub hl [] rfl)
    · replace hM := (if_neg c2).symm.trans hM
      refine lv_iconst (v := (0 : Int32)) hx hb dX3_faultOfNeedingAwake_20 (by decide) ?_
      refine lv_goto (tgt := 25) hx hb dX3_faultOfNeedingAwake_21 (by decide) ?_
      exact hB25 (0 : Int32)  _ _ hM hS (lv_sub hl [] rfl)
  · replace hM := (if_neg c1).symm.trans hM
    refine lv_iconst (v := (1 : Int32)) hx hb dX3_faultOfNeedingAwake_7 (by decide) ?_
    subst hM
    exact wk_retPi hx hb hr hlocks hQ rfl rfl hS dX3_faultOfNeedingAwake_8
set_option maxHeartbeats 4000000 in
set_option maxRecDepth 100000 in
theorem c_X3_faultOfDelay (l : Launch) (dC : Nat → ClassId) (dI : Nat → Nat → Nat) (cI cD cJ : ClassId) (kk : wAd) (g : Nat → Nat) (x : DS) (p1 : Int32) (p2 : Int32) (out : Int32) (hM : M_X3_faultOfDelay x p1 p2 = out) : CP l yX3_faultOfDelay wsX3_faultOfDelay ({ frames := 2, cells := 0, slots := 0, locals := 44 } : Room) dC dI (wTys cI cD cJ) [.ref (g 0), .int p1, .int p2] (wDrv cI g x) (some (.int out)) := by
  refine wk_enterP (cc := cX3_faultOfDelay) (maxL := 3) (ret := (some .int)) (by decide) rfl (Nat.le_of_ble_eq_true rfl) ?_
  intro p e s m below meth c A Q ls hB hP hD hA hQ hl
  obtain ⟨hx, hb, hml, hr, hts, hown, hname, hlocks, hG⟩ := hB
  have hown : s.vm.findClass RX3 = some m.cls := hown
  have hS : va_S A s.heap s.heap [] := va_S.rf
  have hl : lv_has ls 3 [(0, .ref (g 0)), (1, .int p1), (2, .int p2)] := hl
  generalize ([] : List Loc) = locs at hS ⊢
  unfold M_X3_faultOfDelay at hM
  refine lv_iload_n hx hb dX3_faultOfDelay_0 rfl (lv_at hl 1 rfl) ?_
  refine wk_callP (va_runSN (As := [.int p1]) (rest := []) ⟨hx, hb, hml, hown, hts⟩ (c_X6_faultOfController l dC dI cI cD cJ kk  p1 _ rfl s.heap) ⟨va_cnB 1 hts gX3_faultOfDelay_X6_faultOfController_n72 rfl rfl rfl (hG.2 _ (List.mem_of_getElem? (i := 10) rfl)) (hts (.initialized RX6) (List.mem_of_getElem? (i := 2) rfl)) (by decide +kernel) ⟨Nat.le_of_ble_eq_true rfl, Nat.le_of_ble_eq_true rfl⟩, hts (.static yX6_faultOfController) (List.mem_of_getElem? (i := 1) rfl), trivial⟩ (wk_preS hG hP hD [] rfl rfl) rfl rfl hl.1 rfl (lv_room (Nat.le_of_ble_eq_true rfl)) dX3_faultOfDelay_1 ⟨Nat.le_of_ble_eq_true rfl, Nat.le_of_ble_eq_true rfl⟩) hS (fun locs hS => ?_)
  refine lv_if_eq (tgt := 9) hx hb dX3_faultOfDelay_4 (by decide) (fun c1 => ?_) (fun c1 => ?_)
  · replace hM := (if_pos c1).symm.trans hM
    refine lv_iload_n hx hb dX3_faultOfDelay_9 rfl (lv_at hl 2 rfl) ?_
    refine lv_iconst (v := (0 : Int32)) hx hb dX3_faultOfDelay_10 (by decide) ?_
    refine lv_bipush (v := (20 : Int32)) hx hb dX3_faultOfDelay_11 (by decide) ?_
    refine wk_callP (va_runSN (As := [.int p2, .int (0 : Int32), .int (20 : Int32)]) (rest := []) ⟨hx, hb, hml, hown, hts⟩ (c_X6_faultOfRange l dC dI cI cD cJ kk  p2 (0 : Int32) (20 : Int32) _ rfl s.heap) ⟨va_cnB 3 hts gX3_faultOfDelay_X6_faultOfRange_n84 rfl rfl rfl (hG.2 _ (List.mem_of_getElem? (i := 11) rfl)) (hts (.initialized RX6) (List.mem_of_getElem? (i := 2) rfl)) (by decide +kernel) ⟨Nat.le_of_ble_eq_true rfl, Nat.le_of_ble_eq_true rfl⟩, hts (.static yX6_faultOfRange) (List.mem_of_getElem? (i := 7) rfl), trivial⟩ (wk_preS hG hP hD [] rfl rfl) rfl rfl hl.1 rfl (lv_room (Nat.le_of_ble_eq_true rfl)) dX3_faultOfDelay_13 ⟨Nat.le_of_ble_eq_true rfl, Nat.le_of_ble_eq_true rfl⟩) hS (fun locs hS => ?_)
    subst hM
    exact wk_retPi hx hb hr hlocks hQ rfl rfl hS dX3_faultOfDelay_16
  · replace hM := (if_neg c1).symm.trans hM
    refine lv_iconst (v := (1 : Int32)) hx hb dX3_faultOfDelay_7 (by decide) ?_
    subst hM
    exact wk_retPi hx hb hr hlocks hQ rfl rfl hS dX3_faultOfDelay_8
set_option maxHeartbeats 4000000 in
set_option maxRecDepth 100000 in
theorem c_X3_faultOfAlarm (l : Launch) (dC : Nat → ClassId) (dI : Nat → Nat → Nat) (cI cD cJ : ClassId) (kk : wAd) (g : Nat → Nat) (x : DS) (p1 : Int32) (p2 : Int32) (out : Int32) (hM : M_X3_faultOfAlarm x p1 p2 = out) : CP l yX3_faultOfAlarm wsX3_faultOfAlarm ({ frames := 2, cells := 0, slots := 0, locals := 44 } : Room) dC dI (wTys cI cD cJ) [.ref (g 0), .int p1, .int p2] (wDrv cI g x) (some (.int out)) := by
  refine wk_enterP (cc := cX3_faultOfAlarm) (maxL := 3) (ret := (some .int)) (by decide) rfl (Nat.le_of_ble_eq_true rfl) ?_
  intro p e s m below meth c A Q ls hB hP hD hA hQ hl
  obtain ⟨hx, hb, hml, hr, hts, hown, hname, hlocks, hG⟩ := hB
  have hown : s.vm.findClass RX3 = some m.cls := hown
  have hS : va_S A s.heap s.heap [] := va_S.rf
  have hl : lv_has ls 3 [(0, .ref (g 0)), (1, .int p1), (2, .int p2)] := hl
  generalize ([] : List Loc) = locs at hS ⊢
  unfold M_X3_faultOfAlarm at hM
  refine lv_iload_n hx hb dX3_faultOfAlarm_0 rfl (lv_at hl 1 rfl) ?_
  refine wk_callP (va_runSN (As := [.int p1]) (rest := []) ⟨hx, hb, hml, hown, hts⟩ (c_X6_faultOfController l dC dI cI cD cJ kk  p1 _ rfl s.heap) ⟨va_cnB 1 hts gX3_faultOfAlarm_X6_faultOfController_n72 rfl rfl rfl (hG.2 _ (List.mem_of_getElem? (i := 10) rfl)) (hts (.initialized RX6) (List.mem_of_getElem? (i := 2) rfl)) (by decide +kernel) ⟨Nat.le_of_ble_eq_true rfl, Nat.le_of_ble_eq_true rfl⟩, hts (.static yX6_faultOfController) (List.mem_of_getElem? (i := 1) rfl), trivial⟩ (wk_preS hG hP hD [] rfl rfl) rfl rfl hl.1 rfl (lv_room (Nat.le_of_ble_eq_true rfl)) dX3_faultOfAlarm_1 ⟨Nat.le_of_ble_eq_true rfl, Nat.le_of_ble_eq_true rfl⟩) hS (fun locs hS => ?_)
  refine lv_if_eq (tgt := 9) hx hb dX3_faultOfAlarm_4 (by decide) (fun c1 => ?_) (fun c1 => ?_)
  · replace hM := (if_pos c1).symm.trans hM
    refine lv_iload_n hx hb dX3_faultOfAlarm_9 rfl (lv_at hl 2 rfl) ?_
    refine lv_iconst (v := (0 : Int32)) hx hb dX3_faultOfAlarm_10 (by decide) ?_
    refine lv_bipush (v := (20 : Int32)) hx hb dX3_faultOfAlarm_11 (by decide) ?_
    refine wk_callP (va_runSN (As := [.int p2, .int (0 : Int32), .int (20 : Int32)]) (rest := []) ⟨hx, hb, hml, hown, hts⟩ (c_X6_faultOfRange l dC dI cI cD cJ kk  p2 (0 : Int32) (20 : Int32) _ rfl s.heap) ⟨va_cnB 3 hts gX3_faultOfAlarm_X6_faultOfRange_n84 rfl rfl rfl (hG.2 _ (List.mem_of_getElem? (i := 11) rfl)) (hts (.initialized RX6) (List.mem_of_getElem? (i := 2) rfl)) (by decide +kernel) ⟨Nat.le_of_ble_eq_true rfl, Nat.le_of_ble_eq_true rfl⟩, hts (.static yX6_faultOfRange) (List.mem_of_getElem? (i := 7) rfl), trivial⟩ (wk_preS hG hP hD [] rfl rfl) rfl rfl hl.1 rfl (lv_room (Nat.le_of_ble_eq_true rfl)) dX3_faultOfAlarm_13 ⟨Nat.le_of_ble_eq_true rfl, Nat.le_of_ble_eq_true rfl⟩) hS (fun locs hS => ?_)
    subst hM
    exact wk_retPi hx hb hr hlocks hQ rfl rfl hS dX3_faultOfAlarm_16
  · replace hM := (if_neg c1).symm.trans hM
    refine lv_iconst (v := (1 : Int32)) hx hb dX3_faultOfAlarm_7 (by decide) ?_
    subst hM
    exact wk_retPi hx hb hr hlocks hQ rfl rfl hS dX3_faultOfAlarm_8
set_option maxHeartbeats 4000000 in
set_option maxRecDepth 100000 in
theorem c_X3_faultOfWorking (l : Launch) (dC : Nat → ClassId) (dI : Nat → Nat → Nat) (cI cD cJ : ClassId) (kk : wAd) (g : Nat → Nat) (x : DS) (p1 : Int32) (p2 : Int32) (out : Int32) (hM : M_X3_faultOfWorking x p1 p2 = out) : CP l yX3_faultOfWorking wsX3_faultOfWorking ({ frames := 3, cells := 0, slots := 0, locals := 63 } : Room) dC dI (wTys cI cD cJ) [.ref (g 0), .int p1, .int p2] (wDrv cI g x) (some (.int out)) := by
  refine wk_enterP (cc := cX3_faultOfWorking) (maxL := 3) (ret := (some .int)) (by decide) rfl (Nat.le_of_ble_eq_true rfl) ?_
  intro p e s m below meth c A Q ls hB hP hD hA hQ hl
  obtain ⟨hx, hb, hml, hr, hts, hown, hname, hlocks, hG⟩ := hB
  have hown : s.vm.findClass RX3 = some m.cls := hown
  have hS : va_S A s.heap s.heap [] := va_S.rf
  have hl : lv_has ls 3 [(0, .ref (g 0)), (1, .int p1), (2, .int p2)] := hl
  generalize ([] : List Loc) = locs at hS ⊢
  have hB27 : ∀ (w0 : Int32) (locs : List Loc) (ls : Array Slot), M_X3_faultOfWorking_27 x p1 p2 w0 = out → va_S A s.heap s.heap locs → lv_has ls 3 [] → W p l e ({ frames := 3, cells := 0, slots := 0, locals := 63 } : Room) s m ([.ref (g 0), .int p1, .int p2] : List Value).toArray below meth c s.heap locs 0 0 Q (F0 m 27 ls [.int w0]) := by
    intro w0 locs ls hM hS hl
    unfold M_X3_faultOfWorking_27 at hM
    subst hM
    exact wk_retPi hx hb hr hlocks hQ rfl rfl hS dX3_faultOfWorking_27
  unfold M_X3_faultOfWorking at hM
  refine lv_iload_n hx hb dX3_faultOfWorking_0 rfl (lv_at hl 1 rfl) ?_
  refine wk_callP (va_runSN (As := [.int p1]) (rest := []) ⟨hx, hb, hml, hown, hts⟩ (c_X6_faultOfController l dC dI cI cD cJ kk  p1 _ rfl s.heap) ⟨va_cnB 1 hts gX3_faultOfWorking_X6_faultOfController_n72 rfl rfl rfl (hG.2 _ (List.mem_of_getElem? (i := 10) rfl)) (hts (.initialized RX6) (List.mem_of_getElem? (i := 2) rfl)) (by decide +kernel) ⟨Nat.le_of_ble_eq_true rfl, Nat.le_of_ble_eq_true rfl⟩, hts (.static yX6_faultOfController) (List.mem_of_getElem? (i := 1) rfl), trivial⟩ (wk_preS hG hP hD [] rfl rfl) rfl rfl hl.1 rfl (lv_room (Nat.le_of_ble_eq_true rfl)) dX3_faultOfWorking_1 ⟨Nat.le_of_ble_eq_true rfl, Nat.le_of_ble_eq_true rfl⟩) hS (fun locs hS => ?_)
  refine lv_if_eq (tgt := 9) hx hb dX3_faultOfWorking_4 (by decide) (fun c1 => ?_) (fun c1 => ?_)
  · replace hM := (if_pos c1).symm.trans hM
    refine lv_iload_n hx hb dX3_faultOfWorking_9 rfl (lv_at hl 2 rfl) ?_
    refine lv_iconst (v := (1 : Int32)) hx hb dX3_faultOfWorking_10 (by decide) ?_
    refine lv_iconst (v := (3 : Int32)) hx hb dX3_faultOfWorking_11 (by decide) ?_
    refine wk_callP (va_runSN (As := [.int p2, .int (1 : Int32), .int (3 : Int32)]) (rest := []) ⟨hx, hb, hml, hown, hts⟩ (c_X6_isWithin l dC dI cI cD cJ kk  p2 (1 : Int32) (3 : Int32) _ rfl s.heap) ⟨va_cnB 3 hts gX3_faultOfWorking_X6_isWithin_n66 rfl rfl rfl (hG.2 _ (List.mem_of_getElem? (i := 9) rfl)) (hts (.initialized RX6) (List.mem_of_getElem? (i := 2) rfl)) (by decide +kernel) ⟨Nat.le_of_ble_eq_true rfl, Nat.le_of_ble_eq_true rfl⟩, hts (.static yX6_isWithin) (List.mem_of_getElem? (i := 5) rfl), trivial⟩ (wk_preS hG hP hD [] rfl rfl) rfl rfl hl.1 rfl (lv_room (Nat.le_of_ble_eq_true rfl)) dX3_faultOfWorking_12 ⟨Nat.le_of_ble_eq_true rfl, Nat.le_of_ble_eq_true rfl⟩) hS (fun locs hS => ?_)
    refine lv_if_eq (tgt := 26) hx hb dX3_faultOfWorking_15 (by decide) (fun c2 => ?_) (fun c2 => ?_)
    · replace hM := (if_pos c2).symm.trans hM
      refine lv_iconst (v := (2 : Int32)) hx hb dX3_faultOfWorking_26 (by decide) ?_
      exact hB27 (2 : Int32)  _ _ hM hS (lv_sub hl [] rfl)
    · replace hM := (if_neg c2).symm.trans hM
      refine lv_aload_n hx hb dX3_faultOfWorking_18 rfl (lv_at hl 0 rfl) ?_
      refine lv_iload_n hx hb dX3_faultOfWorking_19 rfl (lv_at hl 1 rfl) ?_
      refine wk_callP (va_runV (As := [.int p1]) (rest := []) ⟨hx, hb, hml, hown, hts⟩ (c_X3_faultOfNeedingAwake l dC dI cI cD cJ kk g x p1 _ rfl s.heap) (cwV 1 hts gX3_faultOfWorking_X3_faultOfNeedingAwake rfl rfl rfl (by decide +kernel) ⟨Nat.le_of_ble_eq_true rfl, Nat.le_of_ble_eq_true rfl⟩) (wk_preV (ci := 2) (q0 := 0) hG hP hD [0, 1, 2, 3, 4] rfl rfl rfl rfl) rfl rfl hl.1 rfl (lv_room (Nat.le_of_ble_eq_true rfl)) dX3_faultOfWorking_20 ⟨Nat.le_of_ble_eq_true rfl, Nat.le_of_ble_eq_true rfl⟩) hS (fun locs hS => ?_)
      refine lv_goto (tgt := 27) hx hb dX3_faultOfWorking_23 (by decide) ?_
      exact hB27 (M_X3_faultOfNeedingAwake x p1)  _ _ hM hS (lv_sub hl [] rfl)
  · replace hM := (if_neg c1).symm.trans hM
    refine lv_iconst (v := (1 : Int32)) hx hb dX3_faultOfWorking_7 (by decide) ?_
    subst hM
    exact wk_retPi hx hb hr hlocks hQ rfl rfl hS dX3_faultOfWorking_8
set_option maxHeartbeats 4000000 in
set_option maxRecDepth 100000 in
theorem c_X3_faultOfPassing (l : Launch) (dC : Nat → ClassId) (dI : Nat → Nat → Nat) (cI cD cJ : ClassId) (kk : wAd) (g : Nat → Nat) (x : DS) (p1 : Int32) (out : Int32) (hM : M_X3_faultOfPassing x p1 = out) : CP l yX3_faultOfPassing wsX3_faultOfPassing ({ frames := 1, cells := 0, slots := 0, locals := 22 } : Room) dC dI (wTys cI cD cJ) [.ref (g 0), .int p1] (wDrv cI g x) (some (.int out)) := by
  refine wk_enterP (cc := cX3_faultOfPassing) (maxL := 2) (ret := (some .int)) (by decide) rfl (Nat.le_of_ble_eq_true rfl) ?_
  intro p e s m below meth c A Q ls hB hP hD hA hQ hl
  obtain ⟨hx, hb, hml, hr, hts, hown, hname, hlocks, hG⟩ := hB
  have hown : s.vm.findClass RX3 = some m.cls := hown
  have hS : va_S A s.heap s.heap [] := va_S.rf
  have hl : lv_has ls 2 [(0, .ref (g 0)), (1, .int p1)] := hl
  have inX3 : ∀ w ∈ wsX30, w ∈ wsX3_faultOfPassing := fun _ h => List.mem_cons_of_mem _ (List.mem_append_right _ h)
  generalize ([] : List Loc) = locs at hS ⊢
  have hB29 : ∀ (w0 : Int32) (locs : List Loc) (ls : Array Slot), M_X3_faultOfPassing_29 x p1 w0 = out → va_S A s.heap s.heap locs → lv_has ls 2 [] → W p l e ({ frames := 1, cells := 0, slots := 0, locals := 22 } : Room) s m ([.ref (g 0), .int p1] : List Value).toArray below meth c s.heap locs 0 0 Q (F0 m 29 ls [.int w0]) := by
    intro w0 locs ls hM hS hl
    unfold M_X3_faultOfPassing_29 at hM
    subst hM
    exact wk_retPi hx hb hr hlocks hQ rfl rfl hS dX3_faultOfPassing_29
  unfold M_X3_faultOfPassing at hM
  refine lv_iload_n hx hb dX3_faultOfPassing_0 rfl (lv_at hl 1 rfl) ?_
  refine lv_iconst (v := (1 : Int32)) hx hb dX3_faultOfPassing_1 (by decide) ?_
  refine lv_bipush (v := (50 : Int32)) hx hb dX3_faultOfPassing_2 (by decide) ?_
  refine wk_callP (va_runSN (As := [.int p1, .int (1 : Int32), .int (50 : Int32)]) (rest := []) ⟨hx, hb, hml, hown, hts⟩ (c_X6_isWithin l dC dI cI cD cJ kk  p1 (1 : Int32) (50 : Int32) _ rfl s.heap) ⟨va_cnB 3 hts gX3_faultOfPassing_X6_isWithin_n66 rfl rfl rfl (hG.2 _ (List.mem_of_getElem? (i := 9) rfl)) (hts (.initialized RX6) (List.mem_of_getElem? (i := 3) rfl)) (by decide +kernel) ⟨Nat.le_of_ble_eq_true rfl, Nat.le_of_ble_eq_true rfl⟩, hts (.static yX6_isWithin) (List.mem_of_getElem? (i := 2) rfl), trivial⟩ (wk_preS hG hP hD [] rfl rfl) rfl rfl hl.1 rfl (lv_room (Nat.le_of_ble_eq_true rfl)) dX3_faultOfPassing_4 ⟨Nat.le_of_ble_eq_true rfl, Nat.le_of_ble_eq_true rfl⟩) hS (fun locs hS => ?_)
  refine lv_if_ne (tgt := 12) hx hb dX3_faultOfPassing_7 (by decide) (fun c1 => ?_) (fun c1 => ?_)
  · replace hM := (if_neg c1).symm.trans hM
    refine lv_aload_n hx hb dX3_faultOfPassing_12 rfl (lv_at hl 0 rfl) ?_
    refine va_get (D := (dC, dI)) (ci := 2) (v := .int (ds_tick x)) (C := RX3) (T := TX3) (N := 8) hx hb hts inX3 hown hG.1 hP 0 rfl rfl 5 (by decide) (hts (.fieldLink RX3 32 "WokenDrive$Drive" "tick" "I") (List.mem_of_getElem? (i := 1) rfl)) (fun _ h9 => h9) rfl dX3_faultOfPassing_13 ?_
    refine lv_iload_n hx hb dX3_faultOfPassing_16 rfl (lv_at hl 1 rfl) ?_
    refine lv_iadd hx hb dX3_faultOfPassing_17 ?_
    refine lv_sipush (v := (9999 : Int32)) hx hb dX3_faultOfPassing_18 (by decide) ?_
    refine lv_icmp_le (tgt := 28) hx hb dX3_faultOfPassing_21 (by decide) (fun c2 => ?_) (fun c2 => ?_)
    · replace hM := (if_pos c2).symm.trans hM
      refine lv_iconst (v := (0 : Int32)) hx hb dX3_faultOfPassing_28 (by decide) ?_
      exact hB29 (0 : Int32)  _ _ hM hS (lv_sub hl [] rfl)
    · replace hM := (if_neg c2).symm.trans hM
      refine lv_iconst (v := (3 : Int32)) hx hb dX3_faultOfPassing_24 (by decide) ?_
      refine lv_goto (tgt := 29) hx hb dX3_faultOfPassing_25 (by decide) ?_
      exact hB29 (3 : Int32)  _ _ hM hS (lv_sub hl [] rfl)
  · replace hM := (if_pos c1).symm.trans hM
    refine lv_iconst (v := (2 : Int32)) hx hb dX3_faultOfPassing_10 (by decide) ?_
    subst hM
    exact wk_retPi hx hb hr hlocks hQ rfl rfl hS dX3_faultOfPassing_11
set_option maxHeartbeats 4000000 in
set_option maxRecDepth 100000 in
theorem c_X3_tell (l : Launch) (dC : Nat → ClassId) (dI : Nat → Nat → Nat) (cI cD cJ : ClassId) (kk : wAd) (g : Nat → Nat) (x : DS) (p1 : Int32) (p2 : Int32) (p3 : Int32) (p4 : Int32) (p5 : Int32) (out : Int32 × DS) (hM : M_X3_tell x p1 p2 p3 p4 p5 = some out) : CM l yX3_tell wsX3_tell ({ frames := 1, cells := 0, slots := 0, locals := 24 } : Room) dC dI (wTys cI cD cJ) [.ref (g 0), .int p1, .int p2, .int p3, .int p4, .int p5] (wDrv cI g x) (some (.int out.1)) (wDrv cI g out.2) 0 0 := by
  refine wk_enterM (cc := cX3_tell) (maxL := 8) (ret := (some .int)) (by decide) rfl (Nat.le_of_ble_eq_true rfl) ?_
  intro p e s m below meth c A Q ls hB hA hP hD hQ hl
  obtain ⟨hx, hb, hml, hr, hts, hown, hname, hlocks, hG⟩ := hB
  have hown : s.vm.findClass RX3 = some m.cls := hown
  have hS : va_S A s.heap s.heap [] := va_S.rf
  have hl : lv_has ls 8 [(0, .ref (g 0)), (1, .int p1), (2, .int p2), (3, .int p3), (4, .int p4), (5, .int p5)] := hl
  have inX2 : ∀ w ∈ wsX20, w ∈ wsX3_tell := fun _ h => List.mem_cons_of_mem _ (List.mem_append_right _ h)
  have inX3 : ∀ w ∈ wsX30, w ∈ wsX3_tell := fun _ h => List.mem_cons_of_mem _ (List.mem_append_left _ (List.mem_append_right _ h))
  obtain ⟨H, hH⟩ : ∃ z, z = s.heap := ⟨_, rfl⟩
  have hP : va_P (dC, dI) vwCl (wDrv cI g x) H := by rw [hH]; exact hP
  have hS : va_S A s.heap H [] := by rw [hH]; exact hS
  refine wk_at hH ?_
  generalize ([] : List Loc) = locs at hS ⊢
  have hL98 : ∀ (n98 : Nat) (u6 : Int32) (u7 : Int32) (y0 : DS) (H : Heap) (locs : List Loc) (ls : Array Slot), lpF (M_X3_tell_98s x p1 p2 p3 p4 p5) n98 (u6, u7, y0) = some out → va_P (dC, dI) vwCl (wDrv cI g y0) H → va_D A (wDrv cI g y0) → va_S A s.heap H locs → lv_has ls 8 [(0, .ref (g 0)), (6, .int u6), (7, .int u7)] → W p l e ({ frames := 1, cells := 0, slots := 0, locals := 24 } : Room) s m ([.ref (g 0), .int p1, .int p2, .int p3, .int p4, .int p5] : List Value).toArray below meth c H locs 0 0 Q (F0 m 98 ls []) := by
    intro n98
    induction n98 with
    | zero => intro u6 u7 y0 H locs ls hM; exact lpF_0 hM
    | succ n98 ih98 =>
      intro u6 u7 y0 H locs ls hM hP hD hS hl
      replace hM : M_X3_tell_98s x p1 p2 p3 p4 p5 (lpF (M_X3_tell_98s x p1 p2 p3 p4 p5) n98) (u6, u7, y0) = some out := hM
      unfold M_X3_tell_98s at hM
      try dsimp only at hM
      refine lv_iload hx hb dX3_tell_98 (lv_at hl 2 rfl) ?_
      refine lv_iconst (v := (2 : Int32)) hx hb dX3_tell_100 (by decide) ?_
      refine lv_icmp_ge (tgt := 146) hx hb dX3_tell_101 (by decide) (fun c1 => ?_) (fun c1 => ?_)
      · replace hM := (if_pos c1).symm.trans hM
        refine lv_aload_n hx hb dX3_tell_146 rfl (lv_at hl 0 rfl) ?_
        refine lv_dup hx hb dX3_tell_147 rfl ?_
        refine va_get (D := (dC, dI)) (ci := 2) (v := .int (ds_ord y0)) (C := RX3) (T := TX3) (N := 8) hx hb hts inX3 hown hG.1 hP 0 rfl rfl 4 (by decide) (hts (.fieldLink RX3 28 "WokenDrive$Drive" "orders" "I") (List.mem_of_getElem? (i := 1) rfl)) (fun _ h9 => h9) rfl dX3_tell_148 ?_
        refine lv_iconst (v := (1 : Int32)) hx hb dX3_tell_151 (by decide) ?_
        refine lv_iadd hx hb dX3_tell_152 ?_
        obtain ⟨y_2, hy_2, hM⟩ := tbE hM
        refine va_put (D := (dC, dI)) (ci := 2) (v := .int ((ds_ord y0) + (1 : Int32))) (ty := .int) (C := RX3) (T := TX3) (N := 8) hx hb hts inX3 tyX3 tyX3_ok nmX3 hown hG.1 hP hD hS 0 rfl rfl 4 (by decide) (hts (.fieldLink RX3 28 "WokenDrive$Drive" "orders" "I") (List.mem_of_getElem? (i := 1) rfl)) (fun _ h9 => h9) rfl (by decide +kernel) rfl rfl (Nat.le_of_ble_eq_true rfl) dX3_tell_153 (fun H locs hP hD hS => ?_)
        have hP : va_P (dC, dI) vwCl (wDrv cI g y_2) H := by rw [hy_2]; exact hP
        have hD : va_D A (wDrv cI g y_2) := by rw [hy_2]; exact hD
        refine lv_iload hx hb dX3_tell_156 (lv_at hl 1 rfl) ?_
        replace hM := Option.some.inj hM
        subst hM
        exact wk_retMi hx hb hr hlocks hQ rfl rfl hP hD hS dX3_tell_158
      · replace hM := (if_neg c1).symm.trans hM
        refine lv_aload_n hx hb dX3_tell_104 rfl (lv_at hl 0 rfl) ?_
        refine lv_iload hx hb dX3_tell_105 (lv_at hl 1 rfl) ?_
        refine lv_bipush (v := (10 : Int32)) hx hb dX3_tell_107 (by decide) ?_
        refine lv_iload hx hb dX3_tell_109 (lv_at hl 2 rfl) ?_
        refine lv_iadd hx hb dX3_tell_111 ?_
        refine lv_aload_n hx hb dX3_tell_112 rfl (lv_at hl 0 rfl) ?_
        refine va_get (D := (dC, dI)) (ci := 2) (v := .int (ds_tick y0)) (C := RX3) (T := TX3) (N := 8) hx hb hts inX3 hown hG.1 hP 0 rfl rfl 5 (by decide) (hts (.fieldLink RX3 32 "WokenDrive$Drive" "tick" "I") (List.mem_of_getElem? (i := 2) rfl)) (fun _ h9 => h9) rfl dX3_tell_113 ?_
        refine lv_aload_n hx hb dX3_tell_116 rfl (lv_at hl 0 rfl) ?_
        refine lv_iload hx hb dX3_tell_117 (lv_at hl 2 rfl) ?_
        refine wk_callP (va_runV (As := [.int u7]) (rest := [.int (ds_tick y0), .int ((10 : Int32) + u7), .int u6, .ref (g 0)]) ⟨hx, hb, hml, hown, hts⟩ (c_X3_controllerAt l dC dI cI cD cJ kk g y0 u7 H) (cwV 1 hts gX3_tell_X3_controllerAt rfl rfl rfl (by decide +kernel) ⟨Nat.le_of_ble_eq_true rfl, Nat.le_of_ble_eq_true rfl⟩) (wk_preV (ci := 2) (q0 := 0) hG hP hD [0, 1, 2, 3, 4] rfl rfl rfl rfl) rfl rfl hl.1 rfl (lv_room (Nat.le_of_ble_eq_true rfl)) dX3_tell_119 ⟨Nat.le_of_ble_eq_true rfl, Nat.le_of_ble_eq_true rfl⟩) hS (fun locs hS => ?_)
        refine wk_getC (v := .int (cs_delay (dCtl y0 u7))) hx hb hts inX2 hown hG hP 3 4 rfl rfl 1 (by decide) (hts (.fieldLink RX3 95 "WokenDrive$Controller" "delay" "I") (List.mem_of_getElem? (i := 3) rfl)) rfl dX3_tell_122 ?_
        refine lv_iadd hx hb dX3_tell_125 ?_
        obtain ⟨r3, hr3, hM⟩ := tbE hM
        refine wk_callM (ws' := (wDrv cI g r3)) (va_runV (As := [.int u6, .int ((10 : Int32) + u7), .int ((ds_tick y0) + (cs_delay (dCtl y0 u7)))]) (rest := []) ⟨hx, hb, hml, hown, hts⟩ (c_X3_setFact l dC dI cI cD cJ kk g y0 u6 ((10 : Int32) + u7) ((ds_tick y0) + (cs_delay (dCtl y0 u7))) _ hr3.symm H) (cwV 3 hts gX3_tell_X3_setFact rfl rfl rfl (by decide +kernel) ⟨Nat.le_of_ble_eq_true rfl, Nat.le_of_ble_eq_true rfl⟩) (wk_preV (ci := 2) (q0 := 0) hG hP hD [0, 1, 2, 3, 4] rfl rfl rfl rfl) rfl rfl hl.1 rfl (lv_room (Nat.le_of_ble_eq_true rfl)) dX3_tell_126 ⟨Nat.le_of_ble_eq_true rfl, Nat.le_of_ble_eq_true rfl⟩) hP hD hS hA [0, 1, 2, 3, 4] [] [0, 1, 2, 3, 4] rfl rfl rfl (by decide) rfl rfl (fun H locs hP hD hS => ?_)
        refine lv_aload_n hx hb dX3_tell_129 rfl (lv_at hl 0 rfl) ?_
        refine lv_iload hx hb dX3_tell_130 (lv_at hl 2 rfl) ?_
        refine wk_callP (va_runV (As := [.int u7]) (rest := []) ⟨hx, hb, hml, hown, hts⟩ (c_X3_controllerAt l dC dI cI cD cJ kk g r3 u7 H) (cwV 1 hts gX3_tell_X3_controllerAt rfl rfl rfl (by decide +kernel) ⟨Nat.le_of_ble_eq_true rfl, Nat.le_of_ble_eq_true rfl⟩) (wk_preV (ci := 2) (q0 := 0) hG hP hD [0, 1, 2, 3, 4] rfl rfl rfl rfl) rfl rfl hl.1 rfl (lv_room (Nat.le_of_ble_eq_true rfl)) dX3_tell_132 ⟨Nat.le_of_ble_eq_true rfl, Nat.le_of_ble_eq_true rfl⟩) hS (fun locs hS => ?_)
        refine lv_iload hx hb dX3_tell_135 (lv_at hl 1 rfl) ?_
        obtain ⟨r4, hr4, hM⟩ := tbE hM
        obtain ⟨y_5, hy_5, hM⟩ := tbE hM
        refine wk_callMC (va_runV (As := [.int u6]) (rest := []) ⟨hx, hb, hml, hown, hts⟩ (c_X2_receive l dC dI cI cD cJ kk (ctlA g u7) (dCtl r3 u7) u6 _ hr4.symm H) (cwV 1 hts gX3_tell_X2_receive rfl rfl rfl (by decide +kernel) ⟨Nat.le_of_ble_eq_true rfl, Nat.le_of_ble_eq_true rfl⟩) (wk_preVC hG hP hD 3 4 rfl rfl (by decide)) rfl rfl hl.1 rfl (lv_room (Nat.le_of_ble_eq_true rfl)) dX3_tell_137 ⟨Nat.le_of_ble_eq_true rfl, Nat.le_of_ble_eq_true rfl⟩) hP hD hS hA 3 4 rfl rfl (by decide) (fun H locs hP hD hS => ?_)
        have hP : va_P (dC, dI) vwCl (wDrv cI g y_5) H := by rw [hy_5]; exact hP
        have hD : va_D A (wDrv cI g y_5) := by rw [hy_5]; exact hD
        refine lv_iinc (v := (u7 + 1)) (lv' := [(7, .int (u7 + 1)), (0, .ref (g 0)), (6, .int u6)]) hx hb dX3_tell_140 hl (k := 2) rfl rfl (by decide) rfl (fun ls hl => ?_)
        refine lv_goto (tgt := 98) hx hb dX3_tell_143 (by decide) ?_
        exact ih98 u6 (u7 + 1) y_5 H _ _ hM hP hD hS (lv_sub hl [1, 2, 0] rfl)
  unfold M_X3_tell at hM
  refine lv_aload_n hx hb dX3_tell_0 rfl (lv_at hl 0 rfl) ?_
  refine va_get (D := (dC, dI)) (ci := 2) (v := .int (ds_ord x)) (C := RX3) (T := TX3) (N := 8) hx hb hts inX3 hown hG.1 hP 0 rfl rfl 4 (by decide) (hts (.fieldLink RX3 28 "WokenDrive$Drive" "orders" "I") (List.mem_of_getElem? (i := 1) rfl)) (fun _ h9 => h9) rfl dX3_tell_1 ?_
  refine lv_istore (lv' := [(6, .int (ds_ord x)), (0, .ref (g 0)), (1, .int p1), (2, .int p2), (3, .int p3), (4, .int p4), (5, .int p5)]) hx hb dX3_tell_4 hl (by decide) rfl (fun ls hl => ?_)
  refine lv_aload_n hx hb dX3_tell_6 rfl (lv_at hl 1 rfl) ?_
  refine lv_iload hx hb dX3_tell_7 (lv_at hl 0 rfl) ?_
  refine lv_iconst (v := (0 : Int32)) hx hb dX3_tell_9 (by decide) ?_
  refine lv_iload_n hx hb dX3_tell_10 rfl (lv_at hl 2 rfl) ?_
  obtain ⟨r1, hr1, hM⟩ := tbE hM
  refine wk_callM (ws' := (wDrv cI g r1)) (va_runV (As := [.int (ds_ord x), .int (0 : Int32), .int p1]) (rest := []) ⟨hx, hb, hml, hown, hts⟩ (c_X3_setFact l dC dI cI cD cJ kk g x (ds_ord x) (0 : Int32) p1 _ hr1.symm H) (cwV 3 hts gX3_tell_X3_setFact rfl rfl rfl (by decide +kernel) ⟨Nat.le_of_ble_eq_true rfl, Nat.le_of_ble_eq_true rfl⟩) (wk_preV (ci := 2) (q0 := 0) hG hP hD [0, 1, 2, 3, 4] rfl rfl rfl rfl) rfl rfl hl.1 rfl (lv_room (Nat.le_of_ble_eq_true rfl)) dX3_tell_11 ⟨Nat.le_of_ble_eq_true rfl, Nat.le_of_ble_eq_true rfl⟩) hP hD hS hA [0, 1, 2, 3, 4] [] [0, 1, 2, 3, 4] rfl rfl rfl (by decide) rfl rfl (fun H locs hP hD hS => ?_)
  refine lv_aload_n hx hb dX3_tell_14 rfl (lv_at hl 1 rfl) ?_
  refine lv_iload hx hb dX3_tell_15 (lv_at hl 0 rfl) ?_
  refine lv_iconst (v := (1 : Int32)) hx hb dX3_tell_17 (by decide) ?_
  refine lv_iload_n hx hb dX3_tell_18 rfl (lv_at hl 3 rfl) ?_
  obtain ⟨r2, hr2, hM⟩ := tbE hM
  refine wk_callM (ws' := (wDrv cI g r2)) (va_runV (As := [.int (ds_ord x), .int (1 : Int32), .int p2]) (rest := []) ⟨hx, hb, hml, hown, hts⟩ (c_X3_setFact l dC dI cI cD cJ kk g r1 (ds_ord x) (1 : Int32) p2 _ hr2.symm H) (cwV 3 hts gX3_tell_X3_setFact rfl rfl rfl (by decide +kernel) ⟨Nat.le_of_ble_eq_true rfl, Nat.le_of_ble_eq_true rfl⟩) (wk_preV (ci := 2) (q0 := 0) hG hP hD [0, 1, 2, 3, 4] rfl rfl rfl rfl) rfl rfl hl.1 rfl (lv_room (Nat.le_of_ble_eq_true rfl)) dX3_tell_19 ⟨Nat.le_of_ble_eq_true rfl, Nat.le_of_ble_eq_true rfl⟩) hP hD hS hA [0, 1, 2, 3, 4] [] [0, 1, 2, 3, 4] rfl rfl rfl (by decide) rfl rfl (fun H locs hP hD hS => ?_)
  refine lv_aload_n hx hb dX3_tell_22 rfl (lv_at hl 1 rfl) ?_
  refine lv_iload hx hb dX3_tell_23 (lv_at hl 0 rfl) ?_
  refine lv_iconst (v := (2 : Int32)) hx hb dX3_tell_25 (by decide) ?_
  refine lv_iload_n hx hb dX3_tell_26 rfl (lv_at hl 4 rfl) ?_
  obtain ⟨r3, hr3, hM⟩ := tbE hM
  refine wk_callM (ws' := (wDrv cI g r3)) (va_runV (As := [.int (ds_ord x), .int (2 : Int32), .int p3]) (rest := []) ⟨hx, hb, hml, hown, hts⟩ (c_X3_setFact l dC dI cI cD cJ kk g r2 (ds_ord x) (2 : Int32) p3 _ hr3.symm H) (cwV 3 hts gX3_tell_X3_setFact rfl rfl rfl (by decide +kernel) ⟨Nat.le_of_ble_eq_true rfl, Nat.le_of_ble_eq_true rfl⟩) (wk_preV (ci := 2) (q0 := 0) hG hP hD [0, 1, 2, 3, 4] rfl rfl rfl rfl) rfl rfl hl.1 rfl (lv_room (Nat.le_of_ble_eq_true rfl)) dX3_tell_27 ⟨Nat.le_of_ble_eq_true rfl, Nat.le_of_ble_eq_true rfl⟩) hP hD hS hA [0, 1, 2, 3, 4] [] [0, 1, 2, 3, 4] rfl rfl rfl (by decide) rfl rfl (fun H locs hP hD hS => ?_)
  refine lv_aload_n hx hb dX3_tell_30 rfl (lv_at hl 1 rfl) ?_
  refine lv_iload hx hb dX3_tell_31 (lv_at hl 0 rfl) ?_
  refine lv_iconst (v := (3 : Int32)) hx hb dX3_tell_33 (by decide) ?_
  refine lv_iload hx hb dX3_tell_34 (lv_at hl 5 rfl) ?_
  obtain ⟨r4, hr4, hM⟩ := tbE hM
  refine wk_callM (ws' := (wDrv cI g r4)) (va_runV (As := [.int (ds_ord x), .int (3 : Int32), .int p4]) (rest := []) ⟨hx, hb, hml, hown, hts⟩ (c_X3_setFact l dC dI cI cD cJ kk g r3 (ds_ord x) (3 : Int32) p4 _ hr4.symm H) (cwV 3 hts gX3_tell_X3_setFact rfl rfl rfl (by decide +kernel) ⟨Nat.le_of_ble_eq_true rfl, Nat.le_of_ble_eq_true rfl⟩) (wk_preV (ci := 2) (q0 := 0) hG hP hD [0, 1, 2, 3, 4] rfl rfl rfl rfl) rfl rfl hl.1 rfl (lv_room (Nat.le_of_ble_eq_true rfl)) dX3_tell_36 ⟨Nat.le_of_ble_eq_true rfl, Nat.le_of_ble_eq_true rfl⟩) hP hD hS hA [0, 1, 2, 3, 4] [] [0, 1, 2, 3, 4] rfl rfl rfl (by decide) rfl rfl (fun H locs hP hD hS => ?_)
  refine lv_aload_n hx hb dX3_tell_39 rfl (lv_at hl 1 rfl) ?_
  refine lv_iload hx hb dX3_tell_40 (lv_at hl 0 rfl) ?_
  refine lv_iconst (v := (4 : Int32)) hx hb dX3_tell_42 (by decide) ?_
  refine lv_iload hx hb dX3_tell_43 (lv_at hl 6 rfl) ?_
  obtain ⟨r5, hr5, hM⟩ := tbE hM
  refine wk_callM (ws' := (wDrv cI g r5)) (va_runV (As := [.int (ds_ord x), .int (4 : Int32), .int p5]) (rest := []) ⟨hx, hb, hml, hown, hts⟩ (c_X3_setFact l dC dI cI cD cJ kk g r4 (ds_ord x) (4 : Int32) p5 _ hr5.symm H) (cwV 3 hts gX3_tell_X3_setFact rfl rfl rfl (by decide +kernel) ⟨Nat.le_of_ble_eq_true rfl, Nat.le_of_ble_eq_true rfl⟩) (wk_preV (ci := 2) (q0 := 0) hG hP hD [0, 1, 2, 3, 4] rfl rfl rfl rfl) rfl rfl hl.1 rfl (lv_room (Nat.le_of_ble_eq_true rfl)) dX3_tell_45 ⟨Nat.le_of_ble_eq_true rfl, Nat.le_of_ble_eq_true rfl⟩) hP hD hS hA [0, 1, 2, 3, 4] [] [0, 1, 2, 3, 4] rfl rfl rfl (by decide) rfl rfl (fun H locs hP hD hS => ?_)
  refine lv_aload_n hx hb dX3_tell_48 rfl (lv_at hl 1 rfl) ?_
  refine lv_iload hx hb dX3_tell_49 (lv_at hl 0 rfl) ?_
  refine lv_iconst (v := (5 : Int32)) hx hb dX3_tell_51 (by decide) ?_
  refine lv_iconst (v := (0 : Int32)) hx hb dX3_tell_52 (by decide) ?_
  obtain ⟨r6, hr6, hM⟩ := tbE hM
  refine wk_callM (ws' := (wDrv cI g r6)) (va_runV (As := [.int (ds_ord x), .int (5 : Int32), .int (0 : Int32)]) (rest := []) ⟨hx, hb, hml, hown, hts⟩ (c_X3_setFact l dC dI cI cD cJ kk g r5 (ds_ord x) (5 : Int32) (0 : Int32) _ hr6.symm H) (cwV 3 hts gX3_tell_X3_setFact rfl rfl rfl (by decide +kernel) ⟨Nat.le_of_ble_eq_true rfl, Nat.le_of_ble_eq_true rfl⟩) (wk_preV (ci := 2) (q0 := 0) hG hP hD [0, 1, 2, 3, 4] rfl rfl rfl rfl) rfl rfl hl.1 rfl (lv_room (Nat.le_of_ble_eq_true rfl)) dX3_tell_53 ⟨Nat.le_of_ble_eq_true rfl, Nat.le_of_ble_eq_true rfl⟩) hP hD hS hA [0, 1, 2, 3, 4] [] [0, 1, 2, 3, 4] rfl rfl rfl (by decide) rfl rfl (fun H locs hP hD hS => ?_)
  refine lv_aload_n hx hb dX3_tell_56 rfl (lv_at hl 1 rfl) ?_
  refine lv_iload hx hb dX3_tell_57 (lv_at hl 0 rfl) ?_
  refine lv_bipush (v := (6 : Int32)) hx hb dX3_tell_59 (by decide) ?_
  refine lv_iconst (v := (-1 : Int32)) hx hb dX3_tell_61 (by decide) ?_
  obtain ⟨r7, hr7, hM⟩ := tbE hM
  refine wk_callM (ws' := (wDrv cI g r7)) (va_runV (As := [.int (ds_ord x), .int (6 : Int32), .int (-1 : Int32)]) (rest := []) ⟨hx, hb, hml, hown, hts⟩ (c_X3_setFact l dC dI cI cD cJ kk g r6 (ds_ord x) (6 : Int32) (-1 : Int32) _ hr7.symm H) (cwV 3 hts gX3_tell_X3_setFact rfl rfl rfl (by decide +kernel) ⟨Nat.le_of_ble_eq_true rfl, Nat.le_of_ble_eq_true rfl⟩) (wk_preV (ci := 2) (q0 := 0) hG hP hD [0, 1, 2, 3, 4] rfl rfl rfl rfl) rfl rfl hl.1 rfl (lv_room (Nat.le_of_ble_eq_true rfl)) dX3_tell_62 ⟨Nat.le_of_ble_eq_true rfl, Nat.le_of_ble_eq_true rfl⟩) hP hD hS hA [0, 1, 2, 3, 4] [] [0, 1, 2, 3, 4] rfl rfl rfl (by decide) rfl rfl (fun H locs hP hD hS => ?_)
  refine lv_aload_n hx hb dX3_tell_65 rfl (lv_at hl 1 rfl) ?_
  refine lv_iload hx hb dX3_tell_66 (lv_at hl 0 rfl) ?_
  refine lv_bipush (v := (7 : Int32)) hx hb dX3_tell_68 (by decide) ?_
  refine lv_aload_n hx hb dX3_tell_70 rfl (lv_at hl 1 rfl) ?_
  refine va_get (D := (dC, dI)) (ci := 2) (v := .int (ds_tick r7)) (C := RX3) (T := TX3) (N := 8) hx hb hts inX3 hown hG.1 hP 0 rfl rfl 5 (by decide) (hts (.fieldLink RX3 32 "WokenDrive$Drive" "tick" "I") (List.mem_of_getElem? (i := 2) rfl)) (fun _ h9 => h9) rfl dX3_tell_71 ?_
  obtain ⟨r8, hr8, hM⟩ := tbE hM
  refine wk_callM (ws' := (wDrv cI g r8)) (va_runV (As := [.int (ds_ord x), .int (7 : Int32), .int (ds_tick r7)]) (rest := []) ⟨hx, hb, hml, hown, hts⟩ (c_X3_setFact l dC dI cI cD cJ kk g r7 (ds_ord x) (7 : Int32) (ds_tick r7) _ hr8.symm H) (cwV 3 hts gX3_tell_X3_setFact rfl rfl rfl (by decide +kernel) ⟨Nat.le_of_ble_eq_true rfl, Nat.le_of_ble_eq_true rfl⟩) (wk_preV (ci := 2) (q0 := 0) hG hP hD [0, 1, 2, 3, 4] rfl rfl rfl rfl) rfl rfl hl.1 rfl (lv_room (Nat.le_of_ble_eq_true rfl)) dX3_tell_74 ⟨Nat.le_of_ble_eq_true rfl, Nat.le_of_ble_eq_true rfl⟩) hP hD hS hA [0, 1, 2, 3, 4] [] [0, 1, 2, 3, 4] rfl rfl rfl (by decide) rfl rfl (fun H locs hP hD hS => ?_)
  refine lv_aload_n hx hb dX3_tell_77 rfl (lv_at hl 1 rfl) ?_
  refine lv_iload hx hb dX3_tell_78 (lv_at hl 0 rfl) ?_
  refine lv_bipush (v := (8 : Int32)) hx hb dX3_tell_80 (by decide) ?_
  refine lv_iconst (v := (-1 : Int32)) hx hb dX3_tell_82 (by decide) ?_
  obtain ⟨r9, hr9, hM⟩ := tbE hM
  refine wk_callM (ws' := (wDrv cI g r9)) (va_runV (As := [.int (ds_ord x), .int (8 : Int32), .int (-1 : Int32)]) (rest := []) ⟨hx, hb, hml, hown, hts⟩ (c_X3_setFact l dC dI cI cD cJ kk g r8 (ds_ord x) (8 : Int32) (-1 : Int32) _ hr9.symm H) (cwV 3 hts gX3_tell_X3_setFact rfl rfl rfl (by decide +kernel) ⟨Nat.le_of_ble_eq_true rfl, Nat.le_of_ble_eq_true rfl⟩) (wk_preV (ci := 2) (q0 := 0) hG hP hD [0, 1, 2, 3, 4] rfl rfl rfl rfl) rfl rfl hl.1 rfl (lv_room (Nat.le_of_ble_eq_true rfl)) dX3_tell_83 ⟨Nat.le_of_ble_eq_true rfl, Nat.le_of_ble_eq_true rfl⟩) hP hD hS hA [0, 1, 2, 3, 4] [] [0, 1, 2, 3, 4] rfl rfl rfl (by decide) rfl rfl (fun H locs hP hD hS => ?_)
  refine lv_aload_n hx hb dX3_tell_86 rfl (lv_at hl 1 rfl) ?_
  refine lv_iload hx hb dX3_tell_87 (lv_at hl 0 rfl) ?_
  refine lv_bipush (v := (9 : Int32)) hx hb dX3_tell_89 (by decide) ?_
  refine lv_iconst (v := (0 : Int32)) hx hb dX3_tell_91 (by decide) ?_
  obtain ⟨r10, hr10, hM⟩ := tbE hM
  refine wk_callM (ws' := (wDrv cI g r10)) (va_runV (As := [.int (ds_ord x), .int (9 : Int32), .int (0 : Int32)]) (rest := []) ⟨hx, hb, hml, hown, hts⟩ (c_X3_setFact l dC dI cI cD cJ kk g r9 (ds_ord x) (9 : Int32) (0 : Int32) _ hr10.symm H) (cwV 3 hts gX3_tell_X3_setFact rfl rfl rfl (by decide +kernel) ⟨Nat.le_of_ble_eq_true rfl, Nat.le_of_ble_eq_true rfl⟩) (wk_preV (ci := 2) (q0 := 0) hG hP hD [0, 1, 2, 3, 4] rfl rfl rfl rfl) rfl rfl hl.1 rfl (lv_room (Nat.le_of_ble_eq_true rfl)) dX3_tell_92 ⟨Nat.le_of_ble_eq_true rfl, Nat.le_of_ble_eq_true rfl⟩) hP hD hS hA [0, 1, 2, 3, 4] [] [0, 1, 2, 3, 4] rfl rfl rfl (by decide) rfl rfl (fun H locs hP hD hS => ?_)
  refine lv_iconst (v := (0 : Int32)) hx hb dX3_tell_95 (by decide) ?_
  refine lv_istore (lv' := [(7, .int (0 : Int32)), (6, .int (ds_ord x)), (0, .ref (g 0)), (1, .int p1), (2, .int p2), (3, .int p3), (4, .int p4), (5, .int p5)]) hx hb dX3_tell_96 hl (by decide) rfl (fun ls hl => ?_)
  exact hL98 64 (ds_ord x) (0 : Int32) r10 H _ _ hM hP hD hS (lv_sub hl [2, 1, 0] rfl)
set_option maxHeartbeats 4000000 in
set_option maxRecDepth 100000 in
theorem c_X3_callOff (l : Launch) (dC : Nat → ClassId) (dI : Nat → Nat → Nat) (cI cD cJ : ClassId) (kk : wAd) (g : Nat → Nat) (x : DS) (p1 : Int32) (p2 : Int32) (out : Int32 × DS) (hM : M_X3_callOff x p1 p2 = some out) : CM l yX3_callOff wsX3_callOff ({ frames := 2, cells := 0, slots := 0, locals := 46 } : Room) dC dI (wTys cI cD cJ) [.ref (g 0), .int p1, .int p2] (wDrv cI g x) (some (.int out.1)) (wDrv cI g out.2) 0 0 := by
  refine wk_enterM (cc := cX3_callOff) (maxL := 4) (ret := (some .int)) (by decide) rfl (Nat.le_of_ble_eq_true rfl) ?_
  intro p e s m below meth c A Q ls hB hA hP hD hQ hl
  obtain ⟨hx, hb, hml, hr, hts, hown, hname, hlocks, hG⟩ := hB
  have hown : s.vm.findClass RX3 = some m.cls := hown
  have hS : va_S A s.heap s.heap [] := va_S.rf
  have hl : lv_has ls 4 [(0, .ref (g 0)), (1, .int p1), (2, .int p2)] := hl
  obtain ⟨H, hH⟩ : ∃ z, z = s.heap := ⟨_, rfl⟩
  have hP : va_P (dC, dI) vwCl (wDrv cI g x) H := by rw [hH]; exact hP
  have hS : va_S A s.heap H [] := by rw [hH]; exact hS
  refine wk_at hH ?_
  generalize ([] : List Loc) = locs at hS ⊢
  unfold M_X3_callOff at hM
  refine lv_aload_n hx hb dX3_callOff_0 rfl (lv_at hl 0 rfl) ?_
  refine lv_iload_n hx hb dX3_callOff_1 rfl (lv_at hl 1 rfl) ?_
  refine lv_iload_n hx hb dX3_callOff_2 rfl (lv_at hl 2 rfl) ?_
  obtain ⟨r1, hr1, hM⟩ := ob hM
  refine wk_callP (va_runV (As := [.int p1, .int p2]) (rest := []) ⟨hx, hb, hml, hown, hts⟩ (c_X3_latestWith l dC dI cI cD cJ kk g x p1 p2 _ hr1 H) (cwV 2 hts gX3_callOff_X3_latestWith rfl rfl rfl (by decide +kernel) ⟨Nat.le_of_ble_eq_true rfl, Nat.le_of_ble_eq_true rfl⟩) (wk_preV (ci := 2) (q0 := 0) hG hP hD [0, 1, 2, 3, 4] rfl rfl rfl rfl) rfl rfl hl.1 rfl (lv_room (Nat.le_of_ble_eq_true rfl)) dX3_callOff_3 ⟨Nat.le_of_ble_eq_true rfl, Nat.le_of_ble_eq_true rfl⟩) hS (fun locs hS => ?_)
  refine lv_istore_n (lv' := [(3, .int r1), (0, .ref (g 0)), (1, .int p1), (2, .int p2)]) hx hb dX3_callOff_6 rfl hl (by decide) rfl (fun ls hl => ?_)
  refine lv_aload_n hx hb dX3_callOff_7 rfl (lv_at hl 1 rfl) ?_
  refine lv_iload_n hx hb dX3_callOff_8 rfl (lv_at hl 0 rfl) ?_
  refine lv_iconst (v := (5 : Int32)) hx hb dX3_callOff_9 (by decide) ?_
  refine lv_iconst (v := (3 : Int32)) hx hb dX3_callOff_10 (by decide) ?_
  obtain ⟨r2, hr2, hM⟩ := tbE hM
  refine wk_callM (ws' := (wDrv cI g r2)) (va_runV (As := [.int r1, .int (5 : Int32), .int (3 : Int32)]) (rest := []) ⟨hx, hb, hml, hown, hts⟩ (c_X3_setFact l dC dI cI cD cJ kk g x r1 (5 : Int32) (3 : Int32) _ hr2.symm H) (cwV 3 hts gX3_callOff_X3_setFact rfl rfl rfl (by decide +kernel) ⟨Nat.le_of_ble_eq_true rfl, Nat.le_of_ble_eq_true rfl⟩) (wk_preV (ci := 2) (q0 := 0) hG hP hD [0, 1, 2, 3, 4] rfl rfl rfl rfl) rfl rfl hl.1 rfl (lv_room (Nat.le_of_ble_eq_true rfl)) dX3_callOff_11 ⟨Nat.le_of_ble_eq_true rfl, Nat.le_of_ble_eq_true rfl⟩) hP hD hS hA [0, 1, 2, 3, 4] [] [0, 1, 2, 3, 4] rfl rfl rfl (by decide) rfl rfl (fun H locs hP hD hS => ?_)
  refine lv_iload_n hx hb dX3_callOff_14 rfl (lv_at hl 0 rfl) ?_
  replace hM := Option.some.inj hM
  subst hM
  exact wk_retMi hx hb hr hlocks hQ rfl rfl hP hD hS dX3_callOff_15
set_option maxHeartbeats 4000000 in
set_option maxRecDepth 100000 in
theorem c_X3_hasArrivedMail (l : Launch) (dC : Nat → ClassId) (dI : Nat → Nat → Nat) (cI cD cJ : ClassId) (kk : wAd) (g : Nat → Nat) (x : DS) (p1 : Int32) (p2 : Int32) (out : Bool) (hM : M_X3_hasArrivedMail x p1 p2 = out) : CP l yX3_hasArrivedMail wsX3_hasArrivedMail ({ frames := 1, cells := 0, slots := 0, locals := 23 } : Room) dC dI (wTys cI cD cJ) [.ref (g 0), .int p1, .int p2] (wDrv cI g x) (some (.int (zI out))) := by
  refine wk_enterP (cc := cX3_hasArrivedMail) (maxL := 3) (ret := (some .boolean)) (by decide) rfl (Nat.le_of_ble_eq_true rfl) ?_
  intro p e s m below meth c A Q ls hB hP hD hA hQ hl
  obtain ⟨hx, hb, hml, hr, hts, hown, hname, hlocks, hG⟩ := hB
  have hown : s.vm.findClass RX3 = some m.cls := hown
  have hS : va_S A s.heap s.heap [] := va_S.rf
  have hl : lv_has ls 3 [(0, .ref (g 0)), (1, .int p1), (2, .int p2)] := hl
  have inX3 : ∀ w ∈ wsX30, w ∈ wsX3_hasArrivedMail := fun _ h => List.mem_cons_of_mem _ (List.mem_append_left _ (List.mem_append_right _ h))
  generalize ([] : List Loc) = locs at hS ⊢
  have hB33 : ∀ (w0 : Bool) (locs : List Loc) (ls : Array Slot), M_X3_hasArrivedMail_33 x p1 p2 w0 = out → va_S A s.heap s.heap locs → lv_has ls 3 [] → W p l e ({ frames := 1, cells := 0, slots := 0, locals := 23 } : Room) s m ([.ref (g 0), .int p1, .int p2] : List Value).toArray below meth c s.heap locs 0 0 Q (F0 m 33 ls [.int (zI w0)]) := by
    intro w0 locs ls hM hS hl
    unfold M_X3_hasArrivedMail_33 at hM
    subst hM
    exact wk_retPi hx hb hr hlocks hQ (zI_nar _) rfl hS dX3_hasArrivedMail_33
  have hB32 : ∀  (locs : List Loc) (ls : Array Slot), M_X3_hasArrivedMail_32 x p1 p2 = out → va_S A s.heap s.heap locs → lv_has ls 3 [] → W p l e ({ frames := 1, cells := 0, slots := 0, locals := 23 } : Room) s m ([.ref (g 0), .int p1, .int p2] : List Value).toArray below meth c s.heap locs 0 0 Q (F0 m 32 ls []) := by
    intro  locs ls hM hS hl
    unfold M_X3_hasArrivedMail_32 at hM
    refine lv_iconst (v := (0 : Int32)) hx hb dX3_hasArrivedMail_32 (by decide) ?_
    exact hB33 false  _ _ hM hS (lv_sub hl [] rfl)
  unfold M_X3_hasArrivedMail at hM
  refine lv_aload_n hx hb dX3_hasArrivedMail_0 rfl (lv_at hl 0 rfl) ?_
  refine lv_iload_n hx hb dX3_hasArrivedMail_1 rfl (lv_at hl 1 rfl) ?_
  refine wk_callP (va_runV (As := [.int p1]) (rest := []) ⟨hx, hb, hml, hown, hts⟩ (c_X3_controllerAt l dC dI cI cD cJ kk g x p1 s.heap) (cwV 1 hts gX3_hasArrivedMail_X3_controllerAt rfl rfl rfl (by decide +kernel) ⟨Nat.le_of_ble_eq_true rfl, Nat.le_of_ble_eq_true rfl⟩) (wk_preV (ci := 2) (q0 := 0) hG hP hD [0, 1, 2, 3, 4] rfl rfl rfl rfl) rfl rfl hl.1 rfl (lv_room (Nat.le_of_ble_eq_true rfl)) dX3_hasArrivedMail_2 ⟨Nat.le_of_ble_eq_true rfl, Nat.le_of_ble_eq_true rfl⟩) hS (fun locs hS => ?_)
  refine lv_iload_n hx hb dX3_hasArrivedMail_5 rfl (lv_at hl 2 rfl) ?_
  refine wk_callP (va_runV (As := [.int p2]) (rest := []) ⟨hx, hb, hml, hown, hts⟩ (c_X2_holds l dC dI cI cD cJ kk (ctlA g p1) (dCtl x p1) p2 _ rfl s.heap) (cwV 1 hts gX3_hasArrivedMail_X2_holds rfl rfl rfl (by decide +kernel) ⟨Nat.le_of_ble_eq_true rfl, Nat.le_of_ble_eq_true rfl⟩) (wk_preVC hG hP hD 3 4 rfl rfl (by decide)) rfl rfl hl.1 rfl (lv_room (Nat.le_of_ble_eq_true rfl)) dX3_hasArrivedMail_6 ⟨Nat.le_of_ble_eq_true rfl, Nat.le_of_ble_eq_true rfl⟩) hS (fun locs hS => ?_)
  refine lv_if_eq (tgt := 32) hx hb dX3_hasArrivedMail_9 (by decide) (fun c1 => ?_) (fun c1 => ?_)
  · replace hM := (if_pos c1).symm.trans hM
    exact hB32   _ _ hM hS (lv_sub hl [] rfl)
  · replace hM := (if_neg c1).symm.trans hM
    refine lv_aload_n hx hb dX3_hasArrivedMail_12 rfl (lv_at hl 0 rfl) ?_
    refine lv_iload_n hx hb dX3_hasArrivedMail_13 rfl (lv_at hl 2 rfl) ?_
    refine lv_bipush (v := (10 : Int32)) hx hb dX3_hasArrivedMail_14 (by decide) ?_
    refine lv_iload_n hx hb dX3_hasArrivedMail_16 rfl (lv_at hl 1 rfl) ?_
    refine lv_iadd hx hb dX3_hasArrivedMail_17 ?_
    refine wk_callP (va_runV (As := [.int p2, .int ((10 : Int32) + p1)]) (rest := []) ⟨hx, hb, hml, hown, hts⟩ (c_X3_fact l dC dI cI cD cJ kk g x p2 ((10 : Int32) + p1) _ rfl s.heap) (cwV 2 hts gX3_hasArrivedMail_X3_fact rfl rfl rfl (by decide +kernel) ⟨Nat.le_of_ble_eq_true rfl, Nat.le_of_ble_eq_true rfl⟩) (wk_preV (ci := 2) (q0 := 0) hG hP hD [0, 1, 2, 3, 4] rfl rfl rfl rfl) rfl rfl hl.1 rfl (lv_room (Nat.le_of_ble_eq_true rfl)) dX3_hasArrivedMail_18 ⟨Nat.le_of_ble_eq_true rfl, Nat.le_of_ble_eq_true rfl⟩) hS (fun locs hS => ?_)
    refine lv_aload_n hx hb dX3_hasArrivedMail_21 rfl (lv_at hl 0 rfl) ?_
    refine va_get (D := (dC, dI)) (ci := 2) (v := .int (ds_tick x)) (C := RX3) (T := TX3) (N := 8) hx hb hts inX3 hown hG.1 hP 0 rfl rfl 5 (by decide) (hts (.fieldLink RX3 32 "WokenDrive$Drive" "tick" "I") (List.mem_of_getElem? (i := 1) rfl)) (fun _ h9 => h9) rfl dX3_hasArrivedMail_22 ?_
    refine lv_icmp_gt (tgt := 32) hx hb dX3_hasArrivedMail_25 (by decide) (fun c2 => ?_) (fun c2 => ?_)
    · replace hM := (if_pos c2).symm.trans hM
      exact hB32   _ _ hM hS (lv_sub hl [] rfl)
    · replace hM := (if_neg c2).symm.trans hM
      refine lv_iconst (v := (1 : Int32)) hx hb dX3_hasArrivedMail_28 (by decide) ?_
      refine lv_goto (tgt := 33) hx hb dX3_hasArrivedMail_29 (by decide) ?_
      exact hB33 true  _ _ hM hS (lv_sub hl [] rfl)
set_option maxHeartbeats 4000000 in
set_option maxRecDepth 100000 in
theorem c_X3_arrivedMail (l : Launch) (dC : Nat → ClassId) (dI : Nat → Nat → Nat) (cI cD cJ : ClassId) (kk : wAd) (g : Nat → Nat) (x : DS) (p1 : Int32) (out : Int32) (hM : M_X3_arrivedMail x p1 = some out) : CP l yX3_arrivedMail wsX3_arrivedMail ({ frames := 2, cells := 0, slots := 0, locals := 45 } : Room) dC dI (wTys cI cD cJ) [.ref (g 0), .int p1] (wDrv cI g x) (some (.int out)) := by
  refine wk_enterP (cc := cX3_arrivedMail) (maxL := 4) (ret := (some .int)) (by decide) rfl (Nat.le_of_ble_eq_true rfl) ?_
  intro p e s m below meth c A Q ls hB hP hD hA hQ hl
  obtain ⟨hx, hb, hml, hr, hts, hown, hname, hlocks, hG⟩ := hB
  have hown : s.vm.findClass RX3 = some m.cls := hown
  have hS : va_S A s.heap s.heap [] := va_S.rf
  have hl : lv_has ls 4 [(0, .ref (g 0)), (1, .int p1)] := hl
  have inX3 : ∀ w ∈ wsX30, w ∈ wsX3_arrivedMail := fun _ h => List.mem_cons_of_mem _ (List.mem_append_left _ (List.mem_append_right _ h))
  generalize ([] : List Loc) = locs at hS ⊢
  have hL4 : ∀ (n4 : Nat) (u2 : Int32) (u3 : Int32) (locs : List Loc) (ls : Array Slot), lpF (M_X3_arrivedMail_4s x p1) n4 (u2, u3) = some out → va_S A s.heap s.heap locs → lv_has ls 4 [(0, .ref (g 0)), (1, .int p1), (2, .int u2), (3, .int u3)] → W p l e ({ frames := 2, cells := 0, slots := 0, locals := 45 } : Room) s m ([.ref (g 0), .int p1] : List Value).toArray below meth c s.heap locs 0 0 Q (F0 m 4 ls []) := by
    intro n4
    induction n4 with
    | zero => intro u2 u3 locs ls hM; exact lpF_0 hM
    | succ n4 ih4 =>
      have hB24 : ∀ (u2 : Int32) (u3 : Int32) (locs : List Loc) (ls : Array Slot), M_X3_arrivedMail_24 x p1 (lpF (M_X3_arrivedMail_4s x p1) n4) u2 u3 = some out → va_S A s.heap s.heap locs → lv_has ls 4 [(0, .ref (g 0)), (1, .int p1), (2, .int u2), (3, .int u3)] → W p l e ({ frames := 2, cells := 0, slots := 0, locals := 45 } : Room) s m ([.ref (g 0), .int p1] : List Value).toArray below meth c s.heap locs 0 0 Q (F0 m 24 ls []) := by
        intro u2 u3 locs ls hM hS hl
        unfold M_X3_arrivedMail_24 at hM
        refine lv_iinc (v := (u3 + 1)) (lv' := [(3, .int (u3 + 1)), (0, .ref (g 0)), (1, .int p1), (2, .int u2)]) hx hb dX3_arrivedMail_24 hl (k := 3) rfl rfl (by decide) rfl (fun ls hl => ?_)
        refine lv_goto (tgt := 4) hx hb dX3_arrivedMail_27 (by decide) ?_
        exact ih4 u2 (u3 + 1)  _ _ hM hS (lv_sub hl [1, 2, 3, 0] rfl)
      intro u2 u3 locs ls hM hS hl
      replace hM : M_X3_arrivedMail_4s x p1 (lpF (M_X3_arrivedMail_4s x p1) n4) (u2, u3) = some out := hM
      unfold M_X3_arrivedMail_4s at hM
      try dsimp only at hM
      refine lv_iload_n hx hb dX3_arrivedMail_4 rfl (lv_at hl 3 rfl) ?_
      refine lv_aload_n hx hb dX3_arrivedMail_5 rfl (lv_at hl 0 rfl) ?_
      refine va_get (D := (dC, dI)) (ci := 2) (v := .int (ds_ord x)) (C := RX3) (T := TX3) (N := 8) hx hb hts inX3 hown hG.1 hP 0 rfl rfl 4 (by decide) (hts (.fieldLink RX3 28 "WokenDrive$Drive" "orders" "I") (List.mem_of_getElem? (i := 1) rfl)) (fun _ h9 => h9) rfl dX3_arrivedMail_6 ?_
      refine lv_icmp_ge (tgt := 30) hx hb dX3_arrivedMail_9 (by decide) (fun c1 => ?_) (fun c1 => ?_)
      · replace hM := (if_pos c1).symm.trans hM
        refine lv_iload_n hx hb dX3_arrivedMail_30 rfl (lv_at hl 2 rfl) ?_
        replace hM := Option.some.inj hM
        subst hM
        exact wk_retPi hx hb hr hlocks hQ rfl rfl hS dX3_arrivedMail_31
      · replace hM := (if_neg c1).symm.trans hM
        refine lv_aload_n hx hb dX3_arrivedMail_12 rfl (lv_at hl 0 rfl) ?_
        refine lv_iload_n hx hb dX3_arrivedMail_13 rfl (lv_at hl 1 rfl) ?_
        refine lv_iload_n hx hb dX3_arrivedMail_14 rfl (lv_at hl 3 rfl) ?_
        refine wk_callP (va_runV (As := [.int p1, .int u3]) (rest := []) ⟨hx, hb, hml, hown, hts⟩ (c_X3_hasArrivedMail l dC dI cI cD cJ kk g x p1 u3 _ rfl s.heap) (cwV 2 hts gX3_arrivedMail_X3_hasArrivedMail rfl rfl rfl (by decide +kernel) ⟨Nat.le_of_ble_eq_true rfl, Nat.le_of_ble_eq_true rfl⟩) (wk_preV (ci := 2) (q0 := 0) hG hP hD [0, 1, 2, 3, 4] rfl rfl rfl rfl) rfl rfl hl.1 rfl (lv_room (Nat.le_of_ble_eq_true rfl)) dX3_arrivedMail_15 ⟨Nat.le_of_ble_eq_true rfl, Nat.le_of_ble_eq_true rfl⟩) hS (fun locs hS => ?_)
        refine lv_if_eq (tgt := 24) hx hb dX3_arrivedMail_18 (by decide) (fun c2 => ?_) (fun c2 => ?_)
        · replace hM := (if_pos c2).symm.trans hM
          exact hB24 u2 u3  _ _ hM hS (lv_sub hl [0, 1, 2, 3] rfl)
        · replace hM := (if_neg c2).symm.trans hM
          refine lv_iinc (v := (u2 + 1)) (lv' := [(2, .int (u2 + 1)), (0, .ref (g 0)), (1, .int p1), (3, .int u3)]) hx hb dX3_arrivedMail_21 hl (k := 2) rfl rfl (by decide) rfl (fun ls hl => ?_)
          exact hB24 (u2 + 1) u3  _ _ hM hS (lv_sub hl [1, 2, 0, 3] rfl)
  unfold M_X3_arrivedMail at hM
  refine lv_iconst (v := (0 : Int32)) hx hb dX3_arrivedMail_0 (by decide) ?_
  refine lv_istore_n (lv' := [(2, .int (0 : Int32)), (0, .ref (g 0)), (1, .int p1)]) hx hb dX3_arrivedMail_1 rfl hl (by decide) rfl (fun ls hl => ?_)
  refine lv_iconst (v := (0 : Int32)) hx hb dX3_arrivedMail_2 (by decide) ?_
  refine lv_istore_n (lv' := [(3, .int (0 : Int32)), (2, .int (0 : Int32)), (0, .ref (g 0)), (1, .int p1)]) hx hb dX3_arrivedMail_3 rfl hl (by decide) rfl (fun ls hl => ?_)
  exact hL4 64 (0 : Int32) (0 : Int32)  _ _ hM hS (lv_sub hl [2, 3, 1, 0] rfl)
set_option maxHeartbeats 4000000 in
set_option maxRecDepth 100000 in
theorem c_X3_rouse (l : Launch) (dC : Nat → ClassId) (dI : Nat → Nat → Nat) (cI cD cJ : ClassId) (kk : wAd) (g : Nat → Nat) (x : DS) (p1 : Int32) (out : Int32 × DS) (hM : M_X3_rouse x p1 = some out) : CM l yX3_rouse wsX3_rouse ({ frames := 3, cells := 0, slots := 0, locals := 68 } : Room) dC dI (wTys cI cD cJ) [.ref (g 0), .int p1] (wDrv cI g x) (some (.int out.1)) (wDrv cI g out.2) 0 0 := by
  refine wk_enterM (cc := cX3_rouse) (maxL := 2) (ret := (some .int)) (by decide) rfl (Nat.le_of_ble_eq_true rfl) ?_
  intro p e s m below meth c A Q ls hB hA hP hD hQ hl
  obtain ⟨hx, hb, hml, hr, hts, hown, hname, hlocks, hG⟩ := hB
  have hown : s.vm.findClass RX3 = some m.cls := hown
  have hS : va_S A s.heap s.heap [] := va_S.rf
  have hl : lv_has ls 2 [(0, .ref (g 0)), (1, .int p1)] := hl
  have inX2 : ∀ w ∈ wsX20, w ∈ wsX3_rouse := fun _ h => List.mem_cons_of_mem _ (List.mem_append_left _ (List.mem_append_right _ h))
  obtain ⟨H, hH⟩ : ∃ z, z = s.heap := ⟨_, rfl⟩
  have hP : va_P (dC, dI) vwCl (wDrv cI g x) H := by rw [hH]; exact hP
  have hS : va_S A s.heap H [] := by rw [hH]; exact hS
  refine wk_at hH ?_
  generalize ([] : List Loc) = locs at hS ⊢
  unfold M_X3_rouse at hM
  refine lv_aload_n hx hb dX3_rouse_0 rfl (lv_at hl 0 rfl) ?_
  refine lv_iload_n hx hb dX3_rouse_1 rfl (lv_at hl 1 rfl) ?_
  refine wk_callP (va_runV (As := [.int p1]) (rest := []) ⟨hx, hb, hml, hown, hts⟩ (c_X3_controllerAt l dC dI cI cD cJ kk g x p1 H) (cwV 1 hts gX3_rouse_X3_controllerAt rfl rfl rfl (by decide +kernel) ⟨Nat.le_of_ble_eq_true rfl, Nat.le_of_ble_eq_true rfl⟩) (wk_preV (ci := 2) (q0 := 0) hG hP hD [0, 1, 2, 3, 4] rfl rfl rfl rfl) rfl rfl hl.1 rfl (lv_room (Nat.le_of_ble_eq_true rfl)) dX3_rouse_2 ⟨Nat.le_of_ble_eq_true rfl, Nat.le_of_ble_eq_true rfl⟩) hS (fun locs hS => ?_)
  refine lv_iconst (v := (1 : Int32)) hx hb dX3_rouse_5 (by decide) ?_
  obtain ⟨y_1, hy_1, hM⟩ := tbE hM
  refine wk_putC (ty := .boolean) (x' := (cs_aw_s (dCtl x p1) true)) (v := .int (1 : Int32)) hx hb hts inX2 hown hG hP hD hS 3 4 rfl rfl 0 (by decide) (by decide) (hts (.fieldLink RX3 80 "WokenDrive$Controller" "awake" "Z") (List.mem_of_getElem? (i := 1) rfl)) rfl (by decide +kernel) rfl rfl rfl dX3_rouse_6 (fun H locs hP hD hS => ?_)
  have hP : va_P (dC, dI) vwCl (wDrv cI g y_1) H := by rw [hy_1]; exact hP
  have hD : va_D A (wDrv cI g y_1) := by rw [hy_1]; exact hD
  refine lv_aload_n hx hb dX3_rouse_9 rfl (lv_at hl 0 rfl) ?_
  refine lv_iload_n hx hb dX3_rouse_10 rfl (lv_at hl 1 rfl) ?_
  obtain ⟨r2, hr2, hM⟩ := ob hM
  refine wk_callP (va_runV (As := [.int p1]) (rest := []) ⟨hx, hb, hml, hown, hts⟩ (c_X3_arrivedMail l dC dI cI cD cJ kk g y_1 p1 _ hr2 H) (cwV 1 hts gX3_rouse_X3_arrivedMail rfl rfl rfl (by decide +kernel) ⟨Nat.le_of_ble_eq_true rfl, Nat.le_of_ble_eq_true rfl⟩) (wk_preV (ci := 2) (q0 := 0) hG hP hD [0, 1, 2, 3, 4] rfl rfl rfl rfl) rfl rfl hl.1 rfl (lv_room (Nat.le_of_ble_eq_true rfl)) dX3_rouse_11 ⟨Nat.le_of_ble_eq_true rfl, Nat.le_of_ble_eq_true rfl⟩) hS (fun locs hS => ?_)
  replace hM := Option.some.inj hM
  subst hM
  exact wk_retMi hx hb hr hlocks hQ rfl rfl hP hD hS dX3_rouse_14
set_option maxHeartbeats 4000000 in
set_option maxRecDepth 100000 in
theorem c_X3_putToSleep (l : Launch) (dC : Nat → ClassId) (dI : Nat → Nat → Nat) (cI cD cJ : ClassId) (kk : wAd) (g : Nat → Nat) (x : DS) (p1 : Int32) (out : Int32 × DS) (hM : M_X3_putToSleep x p1 = some out) : CM l yX3_putToSleep wsX3_putToSleep ({ frames := 3, cells := 0, slots := 0, locals := 68 } : Room) dC dI (wTys cI cD cJ) [.ref (g 0), .int p1] (wDrv cI g x) (some (.int out.1)) (wDrv cI g out.2) 0 0 := by
  refine wk_enterM (cc := cX3_putToSleep) (maxL := 2) (ret := (some .int)) (by decide) rfl (Nat.le_of_ble_eq_true rfl) ?_
  intro p e s m below meth c A Q ls hB hA hP hD hQ hl
  obtain ⟨hx, hb, hml, hr, hts, hown, hname, hlocks, hG⟩ := hB
  have hown : s.vm.findClass RX3 = some m.cls := hown
  have hS : va_S A s.heap s.heap [] := va_S.rf
  have hl : lv_has ls 2 [(0, .ref (g 0)), (1, .int p1)] := hl
  have inX2 : ∀ w ∈ wsX20, w ∈ wsX3_putToSleep := fun _ h => List.mem_cons_of_mem _ (List.mem_append_left _ (List.mem_append_right _ h))
  obtain ⟨H, hH⟩ : ∃ z, z = s.heap := ⟨_, rfl⟩
  have hP : va_P (dC, dI) vwCl (wDrv cI g x) H := by rw [hH]; exact hP
  have hS : va_S A s.heap H [] := by rw [hH]; exact hS
  refine wk_at hH ?_
  generalize ([] : List Loc) = locs at hS ⊢
  unfold M_X3_putToSleep at hM
  refine lv_aload_n hx hb dX3_putToSleep_0 rfl (lv_at hl 0 rfl) ?_
  refine lv_iload_n hx hb dX3_putToSleep_1 rfl (lv_at hl 1 rfl) ?_
  refine wk_callP (va_runV (As := [.int p1]) (rest := []) ⟨hx, hb, hml, hown, hts⟩ (c_X3_controllerAt l dC dI cI cD cJ kk g x p1 H) (cwV 1 hts gX3_putToSleep_X3_controllerAt rfl rfl rfl (by decide +kernel) ⟨Nat.le_of_ble_eq_true rfl, Nat.le_of_ble_eq_true rfl⟩) (wk_preV (ci := 2) (q0 := 0) hG hP hD [0, 1, 2, 3, 4] rfl rfl rfl rfl) rfl rfl hl.1 rfl (lv_room (Nat.le_of_ble_eq_true rfl)) dX3_putToSleep_2 ⟨Nat.le_of_ble_eq_true rfl, Nat.le_of_ble_eq_true rfl⟩) hS (fun locs hS => ?_)
  refine lv_iconst (v := (0 : Int32)) hx hb dX3_putToSleep_5 (by decide) ?_
  obtain ⟨y_1, hy_1, hM⟩ := tbE hM
  refine wk_putC (ty := .boolean) (x' := (cs_aw_s (dCtl x p1) false)) (v := .int (0 : Int32)) hx hb hts inX2 hown hG hP hD hS 3 4 rfl rfl 0 (by decide) (by decide) (hts (.fieldLink RX3 80 "WokenDrive$Controller" "awake" "Z") (List.mem_of_getElem? (i := 1) rfl)) rfl (by decide +kernel) rfl rfl rfl dX3_putToSleep_6 (fun H locs hP hD hS => ?_)
  have hP : va_P (dC, dI) vwCl (wDrv cI g y_1) H := by rw [hy_1]; exact hP
  have hD : va_D A (wDrv cI g y_1) := by rw [hy_1]; exact hD
  refine lv_aload_n hx hb dX3_putToSleep_9 rfl (lv_at hl 0 rfl) ?_
  refine lv_iload_n hx hb dX3_putToSleep_10 rfl (lv_at hl 1 rfl) ?_
  obtain ⟨r2, hr2, hM⟩ := ob hM
  refine wk_callP (va_runV (As := [.int p1]) (rest := []) ⟨hx, hb, hml, hown, hts⟩ (c_X3_arrivedMail l dC dI cI cD cJ kk g y_1 p1 _ hr2 H) (cwV 1 hts gX3_putToSleep_X3_arrivedMail rfl rfl rfl (by decide +kernel) ⟨Nat.le_of_ble_eq_true rfl, Nat.le_of_ble_eq_true rfl⟩) (wk_preV (ci := 2) (q0 := 0) hG hP hD [0, 1, 2, 3, 4] rfl rfl rfl rfl) rfl rfl hl.1 rfl (lv_room (Nat.le_of_ble_eq_true rfl)) dX3_putToSleep_11 ⟨Nat.le_of_ble_eq_true rfl, Nat.le_of_ble_eq_true rfl⟩) hS (fun locs hS => ?_)
  replace hM := Option.some.inj hM
  subst hM
  exact wk_retMi hx hb hr hlocks hQ rfl rfl hP hD hS dX3_putToSleep_14
set_option maxHeartbeats 4000000 in
set_option maxRecDepth 100000 in
theorem c_X3_changeDelay (l : Launch) (dC : Nat → ClassId) (dI : Nat → Nat → Nat) (cI cD cJ : ClassId) (kk : wAd) (g : Nat → Nat) (x : DS) (p1 : Int32) (p2 : Int32) (out : Int32 × DS) (hM : M_X3_changeDelay x p1 p2 = out) : CM l yX3_changeDelay wsX3_changeDelay ({ frames := 1, cells := 0, slots := 0, locals := 21 } : Room) dC dI (wTys cI cD cJ) [.ref (g 0), .int p1, .int p2] (wDrv cI g x) (some (.int out.1)) (wDrv cI g out.2) 0 0 := by
  refine wk_enterM (cc := cX3_changeDelay) (maxL := 4) (ret := (some .int)) (by decide) rfl (Nat.le_of_ble_eq_true rfl) ?_
  intro p e s m below meth c A Q ls hB hA hP hD hQ hl
  obtain ⟨hx, hb, hml, hr, hts, hown, hname, hlocks, hG⟩ := hB
  have hown : s.vm.findClass RX3 = some m.cls := hown
  have hS : va_S A s.heap s.heap [] := va_S.rf
  have hl : lv_has ls 4 [(0, .ref (g 0)), (1, .int p1), (2, .int p2)] := hl
  have inX2 : ∀ w ∈ wsX20, w ∈ wsX3_changeDelay := fun _ h => List.mem_cons_of_mem _ (List.mem_append_left _ (List.mem_append_right _ h))
  obtain ⟨H, hH⟩ : ∃ z, z = s.heap := ⟨_, rfl⟩
  have hP : va_P (dC, dI) vwCl (wDrv cI g x) H := by rw [hH]; exact hP
  have hS : va_S A s.heap H [] := by rw [hH]; exact hS
  refine wk_at hH ?_
  generalize ([] : List Loc) = locs at hS ⊢
  unfold M_X3_changeDelay at hM
  refine lv_aload_n hx hb dX3_changeDelay_0 rfl (lv_at hl 0 rfl) ?_
  refine lv_iload_n hx hb dX3_changeDelay_1 rfl (lv_at hl 1 rfl) ?_
  refine wk_callP (va_runV (As := [.int p1]) (rest := []) ⟨hx, hb, hml, hown, hts⟩ (c_X3_controllerAt l dC dI cI cD cJ kk g x p1 H) (cwV 1 hts gX3_changeDelay_X3_controllerAt rfl rfl rfl (by decide +kernel) ⟨Nat.le_of_ble_eq_true rfl, Nat.le_of_ble_eq_true rfl⟩) (wk_preV (ci := 2) (q0 := 0) hG hP hD [0, 1, 2, 3, 4] rfl rfl rfl rfl) rfl rfl hl.1 rfl (lv_room (Nat.le_of_ble_eq_true rfl)) dX3_changeDelay_2 ⟨Nat.le_of_ble_eq_true rfl, Nat.le_of_ble_eq_true rfl⟩) hS (fun locs hS => ?_)
  refine wk_getC (v := .int (cs_delay (dCtl x p1))) hx hb hts inX2 hown hG hP 3 4 rfl rfl 1 (by decide) (hts (.fieldLink RX3 95 "WokenDrive$Controller" "delay" "I") (List.mem_of_getElem? (i := 1) rfl)) rfl dX3_changeDelay_5 ?_
  refine lv_istore_n (lv' := [(3, .int (cs_delay (dCtl x p1))), (0, .ref (g 0)), (1, .int p1), (2, .int p2)]) hx hb dX3_changeDelay_8 rfl hl (by decide) rfl (fun ls hl => ?_)
  refine lv_aload_n hx hb dX3_changeDelay_9 rfl (lv_at hl 1 rfl) ?_
  refine lv_iload_n hx hb dX3_changeDelay_10 rfl (lv_at hl 2 rfl) ?_
  refine wk_callP (va_runV (As := [.int p1]) (rest := []) ⟨hx, hb, hml, hown, hts⟩ (c_X3_controllerAt l dC dI cI cD cJ kk g x p1 H) (cwV 1 hts gX3_changeDelay_X3_controllerAt rfl rfl rfl (by decide +kernel) ⟨Nat.le_of_ble_eq_true rfl, Nat.le_of_ble_eq_true rfl⟩) (wk_preV (ci := 2) (q0 := 0) hG hP hD [0, 1, 2, 3, 4] rfl rfl rfl rfl) rfl rfl hl.1 rfl (lv_room (Nat.le_of_ble_eq_true rfl)) dX3_changeDelay_11 ⟨Nat.le_of_ble_eq_true rfl, Nat.le_of_ble_eq_true rfl⟩) hS (fun locs hS => ?_)
  refine lv_iload_n hx hb dX3_changeDelay_14 rfl (lv_at hl 3 rfl) ?_
  obtain ⟨y_1, hy_1, hM⟩ := tbE hM
  refine wk_putC (ty := .int) (x' := (cs_delay_s (dCtl x p1) p2)) (v := .int p2) hx hb hts inX2 hown hG hP hD hS 3 4 rfl rfl 1 (by decide) (by decide) (hts (.fieldLink RX3 95 "WokenDrive$Controller" "delay" "I") (List.mem_of_getElem? (i := 1) rfl)) rfl (by decide +kernel) rfl rfl rfl dX3_changeDelay_15 (fun H locs hP hD hS => ?_)
  have hP : va_P (dC, dI) vwCl (wDrv cI g y_1) H := by rw [hy_1]; exact hP
  have hD : va_D A (wDrv cI g y_1) := by rw [hy_1]; exact hD
  refine lv_iload_n hx hb dX3_changeDelay_18 rfl (lv_at hl 0 rfl) ?_
  subst hM
  exact wk_retMi hx hb hr hlocks hQ rfl rfl hP hD hS dX3_changeDelay_19
set_option maxHeartbeats 4000000 in
set_option maxRecDepth 100000 in
theorem c_X3_changeAlarm (l : Launch) (dC : Nat → ClassId) (dI : Nat → Nat → Nat) (cI cD cJ : ClassId) (kk : wAd) (g : Nat → Nat) (x : DS) (p1 : Int32) (p2 : Int32) (out : Int32 × DS) (hM : M_X3_changeAlarm x p1 p2 = out) : CM l yX3_changeAlarm wsX3_changeAlarm ({ frames := 1, cells := 0, slots := 0, locals := 21 } : Room) dC dI (wTys cI cD cJ) [.ref (g 0), .int p1, .int p2] (wDrv cI g x) (some (.int out.1)) (wDrv cI g out.2) 0 0 := by
  refine wk_enterM (cc := cX3_changeAlarm) (maxL := 4) (ret := (some .int)) (by decide) rfl (Nat.le_of_ble_eq_true rfl) ?_
  intro p e s m below meth c A Q ls hB hA hP hD hQ hl
  obtain ⟨hx, hb, hml, hr, hts, hown, hname, hlocks, hG⟩ := hB
  have hown : s.vm.findClass RX3 = some m.cls := hown
  have hS : va_S A s.heap s.heap [] := va_S.rf
  have hl : lv_has ls 4 [(0, .ref (g 0)), (1, .int p1), (2, .int p2)] := hl
  have inX2 : ∀ w ∈ wsX20, w ∈ wsX3_changeAlarm := fun _ h => List.mem_cons_of_mem _ (List.mem_append_left _ (List.mem_append_right _ h))
  obtain ⟨H, hH⟩ : ∃ z, z = s.heap := ⟨_, rfl⟩
  have hP : va_P (dC, dI) vwCl (wDrv cI g x) H := by rw [hH]; exact hP
  have hS : va_S A s.heap H [] := by rw [hH]; exact hS
  refine wk_at hH ?_
  generalize ([] : List Loc) = locs at hS ⊢
  unfold M_X3_changeAlarm at hM
  refine lv_aload_n hx hb dX3_changeAlarm_0 rfl (lv_at hl 0 rfl) ?_
  refine lv_iload_n hx hb dX3_changeAlarm_1 rfl (lv_at hl 1 rfl) ?_
  refine wk_callP (va_runV (As := [.int p1]) (rest := []) ⟨hx, hb, hml, hown, hts⟩ (c_X3_controllerAt l dC dI cI cD cJ kk g x p1 H) (cwV 1 hts gX3_changeAlarm_X3_controllerAt rfl rfl rfl (by decide +kernel) ⟨Nat.le_of_ble_eq_true rfl, Nat.le_of_ble_eq_true rfl⟩) (wk_preV (ci := 2) (q0 := 0) hG hP hD [0, 1, 2, 3, 4] rfl rfl rfl rfl) rfl rfl hl.1 rfl (lv_room (Nat.le_of_ble_eq_true rfl)) dX3_changeAlarm_2 ⟨Nat.le_of_ble_eq_true rfl, Nat.le_of_ble_eq_true rfl⟩) hS (fun locs hS => ?_)
  refine wk_getC (v := .int (cs_alarm (dCtl x p1))) hx hb hts inX2 hown hG hP 3 4 rfl rfl 2 (by decide) (hts (.fieldLink RX3 105 "WokenDrive$Controller" "alarm" "I") (List.mem_of_getElem? (i := 1) rfl)) rfl dX3_changeAlarm_5 ?_
  refine lv_istore_n (lv' := [(3, .int (cs_alarm (dCtl x p1))), (0, .ref (g 0)), (1, .int p1), (2, .int p2)]) hx hb dX3_changeAlarm_8 rfl hl (by decide) rfl (fun ls hl => ?_)
  refine lv_aload_n hx hb dX3_changeAlarm_9 rfl (lv_at hl 1 rfl) ?_
  refine lv_iload_n hx hb dX3_changeAlarm_10 rfl (lv_at hl 2 rfl) ?_
  refine wk_callP (va_runV (As := [.int p1]) (rest := []) ⟨hx, hb, hml, hown, hts⟩ (c_X3_controllerAt l dC dI cI cD cJ kk g x p1 H) (cwV 1 hts gX3_changeAlarm_X3_controllerAt rfl rfl rfl (by decide +kernel) ⟨Nat.le_of_ble_eq_true rfl, Nat.le_of_ble_eq_true rfl⟩) (wk_preV (ci := 2) (q0 := 0) hG hP hD [0, 1, 2, 3, 4] rfl rfl rfl rfl) rfl rfl hl.1 rfl (lv_room (Nat.le_of_ble_eq_true rfl)) dX3_changeAlarm_11 ⟨Nat.le_of_ble_eq_true rfl, Nat.le_of_ble_eq_true rfl⟩) hS (fun locs hS => ?_)
  refine lv_iload_n hx hb dX3_changeAlarm_14 rfl (lv_at hl 3 rfl) ?_
  obtain ⟨y_1, hy_1, hM⟩ := tbE hM
  refine wk_putC (ty := .int) (x' := (cs_alarm_s (dCtl x p1) p2)) (v := .int p2) hx hb hts inX2 hown hG hP hD hS 3 4 rfl rfl 2 (by decide) (by decide) (hts (.fieldLink RX3 105 "WokenDrive$Controller" "alarm" "I") (List.mem_of_getElem? (i := 1) rfl)) rfl (by decide +kernel) rfl rfl rfl dX3_changeAlarm_15 (fun H locs hP hD hS => ?_)
  have hP : va_P (dC, dI) vwCl (wDrv cI g y_1) H := by rw [hy_1]; exact hP
  have hD : va_D A (wDrv cI g y_1) := by rw [hy_1]; exact hD
  refine lv_iload_n hx hb dX3_changeAlarm_18 rfl (lv_at hl 0 rfl) ?_
  subst hM
  exact wk_retMi hx hb hr hlocks hQ rfl rfl hP hD hS dX3_changeAlarm_19
set_option maxHeartbeats 4000000 in
set_option maxRecDepth 100000 in
theorem c_X3_takeMailboxAway (l : Launch) (dC : Nat → ClassId) (dI : Nat → Nat → Nat) (cI cD cJ : ClassId) (kk : wAd) (g : Nat → Nat) (x : DS) (p1 : Int32) (out : Int32 × DS) (hM : M_X3_takeMailboxAway x p1 = out) : CM l yX3_takeMailboxAway wsX3_takeMailboxAway ({ frames := 2, cells := 0, slots := 0, locals := 41 } : Room) dC dI (wTys cI cD cJ) [.ref (g 0), .int p1] (wDrv cI g x) (some (.int out.1)) (wDrv cI g out.2) 0 0 := by
  refine wk_enterM (cc := cX3_takeMailboxAway) (maxL := 3) (ret := (some .int)) (by decide) rfl (Nat.le_of_ble_eq_true rfl) ?_
  intro p e s m below meth c A Q ls hB hA hP hD hQ hl
  obtain ⟨hx, hb, hml, hr, hts, hown, hname, hlocks, hG⟩ := hB
  have hown : s.vm.findClass RX3 = some m.cls := hown
  have hS : va_S A s.heap s.heap [] := va_S.rf
  have hl : lv_has ls 3 [(0, .ref (g 0)), (1, .int p1)] := hl
  have inX2 : ∀ w ∈ wsX20, w ∈ wsX3_takeMailboxAway := fun _ h => List.mem_cons_of_mem _ (List.mem_append_left _ (List.mem_append_right _ h))
  obtain ⟨H, hH⟩ : ∃ z, z = s.heap := ⟨_, rfl⟩
  have hP : va_P (dC, dI) vwCl (wDrv cI g x) H := by rw [hH]; exact hP
  have hS : va_S A s.heap H [] := by rw [hH]; exact hS
  refine wk_at hH ?_
  generalize ([] : List Loc) = locs at hS ⊢
  unfold M_X3_takeMailboxAway at hM
  refine lv_aload_n hx hb dX3_takeMailboxAway_0 rfl (lv_at hl 0 rfl) ?_
  refine lv_iload_n hx hb dX3_takeMailboxAway_1 rfl (lv_at hl 1 rfl) ?_
  refine wk_callP (va_runV (As := [.int p1]) (rest := []) ⟨hx, hb, hml, hown, hts⟩ (c_X3_controllerAt l dC dI cI cD cJ kk g x p1 H) (cwV 1 hts gX3_takeMailboxAway_X3_controllerAt rfl rfl rfl (by decide +kernel) ⟨Nat.le_of_ble_eq_true rfl, Nat.le_of_ble_eq_true rfl⟩) (wk_preV (ci := 2) (q0 := 0) hG hP hD [0, 1, 2, 3, 4] rfl rfl rfl rfl) rfl rfl hl.1 rfl (lv_room (Nat.le_of_ble_eq_true rfl)) dX3_takeMailboxAway_2 ⟨Nat.le_of_ble_eq_true rfl, Nat.le_of_ble_eq_true rfl⟩) hS (fun locs hS => ?_)
  refine wk_callP (va_runV (As := []) (rest := []) ⟨hx, hb, hml, hown, hts⟩ (c_X2_mailSize l dC dI cI cD cJ kk (ctlA g p1) (dCtl x p1) _ rfl H) (cwV 0 hts gX3_takeMailboxAway_X2_mailSize rfl rfl rfl (by decide +kernel) ⟨Nat.le_of_ble_eq_true rfl, Nat.le_of_ble_eq_true rfl⟩) (wk_preVC hG hP hD 3 4 rfl rfl (by decide)) rfl rfl hl.1 rfl (lv_room (Nat.le_of_ble_eq_true rfl)) dX3_takeMailboxAway_5 ⟨Nat.le_of_ble_eq_true rfl, Nat.le_of_ble_eq_true rfl⟩) hS (fun locs hS => ?_)
  refine lv_istore_n (lv' := [(2, .int (M_X2_mailSize (dCtl x p1))), (0, .ref (g 0)), (1, .int p1)]) hx hb dX3_takeMailboxAway_8 rfl hl (by decide) rfl (fun ls hl => ?_)
  refine lv_aload_n hx hb dX3_takeMailboxAway_9 rfl (lv_at hl 1 rfl) ?_
  refine lv_iload_n hx hb dX3_takeMailboxAway_10 rfl (lv_at hl 2 rfl) ?_
  refine wk_callP (va_runV (As := [.int p1]) (rest := []) ⟨hx, hb, hml, hown, hts⟩ (c_X3_controllerAt l dC dI cI cD cJ kk g x p1 H) (cwV 1 hts gX3_takeMailboxAway_X3_controllerAt rfl rfl rfl (by decide +kernel) ⟨Nat.le_of_ble_eq_true rfl, Nat.le_of_ble_eq_true rfl⟩) (wk_preV (ci := 2) (q0 := 0) hG hP hD [0, 1, 2, 3, 4] rfl rfl rfl rfl) rfl rfl hl.1 rfl (lv_room (Nat.le_of_ble_eq_true rfl)) dX3_takeMailboxAway_11 ⟨Nat.le_of_ble_eq_true rfl, Nat.le_of_ble_eq_true rfl⟩) hS (fun locs hS => ?_)
  refine lv_lconst (v := 0) hx hb dX3_takeMailboxAway_14 (by decide) ?_
  obtain ⟨y_1, hy_1, hM⟩ := tbE hM
  refine wk_putC (ty := .long) (x' := (cs_mail_s (dCtl x p1) (0 : Int64))) (v := .long (0 : Int64)) hx hb hts inX2 hown hG hP hD hS 3 4 rfl rfl 3 (by decide) (by decide) (hts (.fieldLink RX3 112 "WokenDrive$Controller" "mailbox" "J") (List.mem_of_getElem? (i := 1) rfl)) rfl (by decide +kernel) rfl rfl rfl dX3_takeMailboxAway_15 (fun H locs hP hD hS => ?_)
  have hP : va_P (dC, dI) vwCl (wDrv cI g y_1) H := by rw [hy_1]; exact hP
  have hD : va_D A (wDrv cI g y_1) := by rw [hy_1]; exact hD
  refine lv_iload_n hx hb dX3_takeMailboxAway_18 rfl (lv_at hl 0 rfl) ?_
  subst hM
  exact wk_retMi hx hb hr hlocks hQ rfl rfl hP hD hS dX3_takeMailboxAway_19
