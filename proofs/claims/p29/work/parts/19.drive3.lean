/-! PART 19: Drive, what is asked, and become -/
set_option maxHeartbeats 4000000 in
set_option maxRecDepth 100000 in
theorem c_X3_nextOf (l : Launch) (dC : Nat → ClassId) (dI : Nat → Nat → Nat) (cI cD cJ : ClassId) (kk : wAd) (g : Nat → Nat) (x : DS) (p1 : Int32) (out : Int32) (hM : M_X3_nextOf x p1 = some out) : CP l yX3_nextOf wsX3_nextOf ({ frames := 3, cells := 0, slots := 0, locals := 70 } : Room) dC dI (wTys cI cD cJ) [.ref (g 0), .int p1] (wDrv cI g x) (some (.int out)) := by
  refine wk_enterP (cc := cX3_nextOf) (maxL := 2) (ret := (some .int)) (by decide) rfl (Nat.le_of_ble_eq_true rfl) ?_
  intro p e s m below meth c A Q ls hB hP hD hA hQ hl
  obtain ⟨hx, hb, hml, hr, hts, hown, hname, hlocks, hG⟩ := hB
  have hown : s.vm.findClass RX3 = some m.cls := hown
  have hS : va_S A s.heap s.heap [] := va_S.rf
  have hl : lv_has ls 2 [(0, .ref (g 0)), (1, .int p1)] := hl
  have inX3 : ∀ w ∈ wsX30, w ∈ wsX3_nextOf := fun _ h => List.mem_cons_of_mem _ (List.mem_append_left _ (List.mem_append_right _ h))
  generalize ([] : List Loc) = locs at hS ⊢
  have hB19 : ∀ (w0 : Int32) (locs : List Loc) (ls : Array Slot), M_X3_nextOf_19 x p1 w0 = some out → va_S A s.heap s.heap locs → lv_has ls 2 [] → W p l e ({ frames := 3, cells := 0, slots := 0, locals := 70 } : Room) s m ([.ref (g 0), .int p1] : List Value).toArray below meth c s.heap locs 0 0 Q (F0 m 19 ls [.int w0]) := by
    intro w0 locs ls hM hS hl
    unfold M_X3_nextOf_19 at hM
    replace hM := Option.some.inj hM
    subst hM
    exact wk_retPi hx hb hr hlocks hQ rfl rfl hS dX3_nextOf_19
  unfold M_X3_nextOf at hM
  refine lv_aload_n hx hb dX3_nextOf_0 rfl (lv_at hl 0 rfl) ?_
  refine wk_callP (va_runV (As := []) (rest := []) ⟨hx, hb, hml, hown, hts⟩ (c_X3_isTorn l dC dI cI cD cJ kk g x _ rfl s.heap) (cwV 0 hts gX3_nextOf_X3_isTorn rfl rfl rfl (by decide +kernel) ⟨Nat.le_of_ble_eq_true rfl, Nat.le_of_ble_eq_true rfl⟩) (wk_preV (ci := 2) (q0 := 0) hG hP hD [0, 1, 2, 3, 4] rfl rfl rfl rfl) rfl rfl hl.1 rfl (lv_room (Nat.le_of_ble_eq_true rfl)) dX3_nextOf_1 ⟨Nat.le_of_ble_eq_true rfl, Nat.le_of_ble_eq_true rfl⟩) hS (fun locs hS => ?_)
  refine lv_if_eq (tgt := 14) hx hb dX3_nextOf_4 (by decide) (fun c1 => ?_) (fun c1 => ?_)
  · replace hM := (if_pos c1).symm.trans hM
    refine lv_aload_n hx hb dX3_nextOf_14 rfl (lv_at hl 0 rfl) ?_
    refine lv_iload_n hx hb dX3_nextOf_15 rfl (lv_at hl 1 rfl) ?_
    obtain ⟨r2, hr2, hM⟩ := ob hM
    refine wk_callP (va_runV (As := [.int p1]) (rest := []) ⟨hx, hb, hml, hown, hts⟩ (c_X3_firstTakeable l dC dI cI cD cJ kk g x p1 _ hr2 s.heap) (cwV 1 hts gX3_nextOf_X3_firstTakeable rfl rfl rfl (by decide +kernel) ⟨Nat.le_of_ble_eq_true rfl, Nat.le_of_ble_eq_true rfl⟩) (wk_preV (ci := 2) (q0 := 0) hG hP hD [0, 1, 2, 3, 4] rfl rfl rfl rfl) rfl rfl hl.1 rfl (lv_room (Nat.le_of_ble_eq_true rfl)) dX3_nextOf_16 ⟨Nat.le_of_ble_eq_true rfl, Nat.le_of_ble_eq_true rfl⟩) hS (fun locs hS => ?_)
    exact hB19 r2  _ _ hM hS (lv_sub hl [] rfl)
  · replace hM := (if_neg c1).symm.trans hM
    refine lv_aload_n hx hb dX3_nextOf_7 rfl (lv_at hl 0 rfl) ?_
    refine va_get (D := (dC, dI)) (ci := 2) (v := .int (ds_mo x)) (C := RX3) (T := TX3) (N := 8) hx hb hts inX3 hown hG.1 hP 0 rfl rfl 6 (by decide) (hts (.fieldLink RX3 35 "WokenDrive$Drive" "markerOrder" "I") (List.mem_of_getElem? (i := 1) rfl)) (fun _ h9 => h9) rfl dX3_nextOf_8 ?_
    refine lv_goto (tgt := 19) hx hb dX3_nextOf_11 (by decide) ?_
    exact hB19 (ds_mo x)  _ _ hM hS (lv_sub hl [] rfl)
set_option maxHeartbeats 4000000 in
set_option maxRecDepth 100000 in
theorem c_X3_whyNot (l : Launch) (dC : Nat → ClassId) (dI : Nat → Nat → Nat) (cI cD cJ : ClassId) (kk : wAd) (g : Nat → Nat) (x : DS) (p1 : Int32) (p2 : Int32) (out : Int32) (hM : M_X3_whyNot x p1 p2 = some out) : CP l yX3_whyNot wsX3_whyNot ({ frames := 4, cells := 0, slots := 0, locals := 91 } : Room) dC dI (wTys cI cD cJ) [.ref (g 0), .int p1, .int p2] (wDrv cI g x) (some (.int out)) := by
  refine wk_enterP (cc := cX3_whyNot) (maxL := 3) (ret := (some .int)) (by decide) rfl (Nat.le_of_ble_eq_true rfl) ?_
  intro p e s m below meth c A Q ls hB hP hD hA hQ hl
  obtain ⟨hx, hb, hml, hr, hts, hown, hname, hlocks, hG⟩ := hB
  have hown : s.vm.findClass RX3 = some m.cls := hown
  have hS : va_S A s.heap s.heap [] := va_S.rf
  have hl : lv_has ls 3 [(0, .ref (g 0)), (1, .int p1), (2, .int p2)] := hl
  generalize ([] : List Loc) = locs at hS ⊢
  have hB70 : ∀ (w0 : Int32) (locs : List Loc) (ls : Array Slot), M_X3_whyNot_70 x p1 p2 w0 = some out → va_S A s.heap s.heap locs → lv_has ls 3 [] → W p l e ({ frames := 4, cells := 0, slots := 0, locals := 91 } : Room) s m ([.ref (g 0), .int p1, .int p2] : List Value).toArray below meth c s.heap locs 0 0 Q (F0 m 70 ls [.int w0]) := by
    intro w0 locs ls hM hS hl
    unfold M_X3_whyNot_70 at hM
    replace hM := Option.some.inj hM
    subst hM
    exact wk_retPi hx hb hr hlocks hQ rfl rfl hS dX3_whyNot_70
  unfold M_X3_whyNot at hM
  refine lv_aload_n hx hb dX3_whyNot_0 rfl (lv_at hl 0 rfl) ?_
  refine lv_iload_n hx hb dX3_whyNot_1 rfl (lv_at hl 1 rfl) ?_
  obtain ⟨r1, hr1, hM⟩ := ob hM
  refine wk_callP (va_runV (As := [.int p1]) (rest := []) ⟨hx, hb, hml, hown, hts⟩ (c_X3_nextOf l dC dI cI cD cJ kk g x p1 _ hr1 s.heap) (cwV 1 hts gX3_whyNot_X3_nextOf rfl rfl rfl (by decide +kernel) ⟨Nat.le_of_ble_eq_true rfl, Nat.le_of_ble_eq_true rfl⟩) (wk_preV (ci := 2) (q0 := 0) hG hP hD [0, 1, 2, 3, 4] rfl rfl rfl rfl) rfl rfl hl.1 rfl (lv_room (Nat.le_of_ble_eq_true rfl)) dX3_whyNot_2 ⟨Nat.le_of_ble_eq_true rfl, Nat.le_of_ble_eq_true rfl⟩) hS (fun locs hS => ?_)
  refine lv_iload_n hx hb dX3_whyNot_5 rfl (lv_at hl 2 rfl) ?_
  refine lv_icmp_ne (tgt := 11) hx hb dX3_whyNot_6 (by decide) (fun c2 => ?_) (fun c2 => ?_)
  · replace hM := (if_neg c2).symm.trans hM
    refine lv_aload_n hx hb dX3_whyNot_11 rfl (lv_at hl 0 rfl) ?_
    refine lv_iload_n hx hb dX3_whyNot_12 rfl (lv_at hl 2 rfl) ?_
    refine wk_callP (va_runV (As := [.int p2]) (rest := []) ⟨hx, hb, hml, hown, hts⟩ (c_X3_isOpen l dC dI cI cD cJ kk g x p2 _ rfl s.heap) (cwV 1 hts gX3_whyNot_X3_isOpen rfl rfl rfl (by decide +kernel) ⟨Nat.le_of_ble_eq_true rfl, Nat.le_of_ble_eq_true rfl⟩) (wk_preV (ci := 2) (q0 := 0) hG hP hD [0, 1, 2, 3, 4] rfl rfl rfl rfl) rfl rfl hl.1 rfl (lv_room (Nat.le_of_ble_eq_true rfl)) dX3_whyNot_13 ⟨Nat.le_of_ble_eq_true rfl, Nat.le_of_ble_eq_true rfl⟩) hS (fun locs hS => ?_)
    refine lv_if_ne (tgt := 21) hx hb dX3_whyNot_16 (by decide) (fun c3 => ?_) (fun c3 => ?_)
    · replace hM := (if_neg c3).symm.trans hM
      refine lv_aload_n hx hb dX3_whyNot_21 rfl (lv_at hl 0 rfl) ?_
      refine wk_callP (va_runV (As := []) (rest := []) ⟨hx, hb, hml, hown, hts⟩ (c_X3_isTorn l dC dI cI cD cJ kk g x _ rfl s.heap) (cwV 0 hts gX3_whyNot_X3_isTorn rfl rfl rfl (by decide +kernel) ⟨Nat.le_of_ble_eq_true rfl, Nat.le_of_ble_eq_true rfl⟩) (wk_preV (ci := 2) (q0 := 0) hG hP hD [0, 1, 2, 3, 4] rfl rfl rfl rfl) rfl rfl hl.1 rfl (lv_room (Nat.le_of_ble_eq_true rfl)) dX3_whyNot_22 ⟨Nat.le_of_ble_eq_true rfl, Nat.le_of_ble_eq_true rfl⟩) hS (fun locs hS => ?_)
      refine lv_if_eq (tgt := 30) hx hb dX3_whyNot_25 (by decide) (fun c4 => ?_) (fun c4 => ?_)
      · replace hM := (if_pos c4).symm.trans hM
        refine lv_aload_n hx hb dX3_whyNot_30 rfl (lv_at hl 0 rfl) ?_
        refine lv_iload_n hx hb dX3_whyNot_31 rfl (lv_at hl 1 rfl) ?_
        refine wk_callP (va_runV (As := [.int p1]) (rest := []) ⟨hx, hb, hml, hown, hts⟩ (c_X3_controllerAt l dC dI cI cD cJ kk g x p1 s.heap) (cwV 1 hts gX3_whyNot_X3_controllerAt rfl rfl rfl (by decide +kernel) ⟨Nat.le_of_ble_eq_true rfl, Nat.le_of_ble_eq_true rfl⟩) (wk_preV (ci := 2) (q0 := 0) hG hP hD [0, 1, 2, 3, 4] rfl rfl rfl rfl) rfl rfl hl.1 rfl (lv_room (Nat.le_of_ble_eq_true rfl)) dX3_whyNot_32 ⟨Nat.le_of_ble_eq_true rfl, Nat.le_of_ble_eq_true rfl⟩) hS (fun locs hS => ?_)
        refine lv_iload_n hx hb dX3_whyNot_35 rfl (lv_at hl 2 rfl) ?_
        refine wk_callP (va_runV (As := [.int p2]) (rest := []) ⟨hx, hb, hml, hown, hts⟩ (c_X2_holds l dC dI cI cD cJ kk (ctlA g p1) (dCtl x p1) p2 _ rfl s.heap) (cwV 1 hts gX3_whyNot_X2_holds rfl rfl rfl (by decide +kernel) ⟨Nat.le_of_ble_eq_true rfl, Nat.le_of_ble_eq_true rfl⟩) (wk_preVC hG hP hD 3 4 rfl rfl (by decide)) rfl rfl hl.1 rfl (lv_room (Nat.le_of_ble_eq_true rfl)) dX3_whyNot_36 ⟨Nat.le_of_ble_eq_true rfl, Nat.le_of_ble_eq_true rfl⟩) hS (fun locs hS => ?_)
        refine lv_if_ne (tgt := 44) hx hb dX3_whyNot_39 (by decide) (fun c5 => ?_) (fun c5 => ?_)
        · replace hM := (if_neg c5).symm.trans hM
          refine lv_aload_n hx hb dX3_whyNot_44 rfl (lv_at hl 0 rfl) ?_
          refine lv_iload_n hx hb dX3_whyNot_45 rfl (lv_at hl 1 rfl) ?_
          refine lv_iload_n hx hb dX3_whyNot_46 rfl (lv_at hl 2 rfl) ?_
          refine wk_callP (va_runV (As := [.int p1, .int p2]) (rest := []) ⟨hx, hb, hml, hown, hts⟩ (c_X3_hasArrivedMail l dC dI cI cD cJ kk g x p1 p2 _ rfl s.heap) (cwV 2 hts gX3_whyNot_X3_hasArrivedMail rfl rfl rfl (by decide +kernel) ⟨Nat.le_of_ble_eq_true rfl, Nat.le_of_ble_eq_true rfl⟩) (wk_preV (ci := 2) (q0 := 0) hG hP hD [0, 1, 2, 3, 4] rfl rfl rfl rfl) rfl rfl hl.1 rfl (lv_room (Nat.le_of_ble_eq_true rfl)) dX3_whyNot_47 ⟨Nat.le_of_ble_eq_true rfl, Nat.le_of_ble_eq_true rfl⟩) hS (fun locs hS => ?_)
          refine lv_if_ne (tgt := 55) hx hb dX3_whyNot_50 (by decide) (fun c6 => ?_) (fun c6 => ?_)
          · replace hM := (if_neg c6).symm.trans hM
            refine lv_aload_n hx hb dX3_whyNot_55 rfl (lv_at hl 0 rfl) ?_
            refine lv_iload_n hx hb dX3_whyNot_56 rfl (lv_at hl 2 rfl) ?_
            obtain ⟨r7, hr7, hM⟩ := ob hM
            refine wk_callP (va_runV (As := [.int p2]) (rest := []) ⟨hx, hb, hml, hown, hts⟩ (c_X3_firstAwaited l dC dI cI cD cJ kk g x p2 _ hr7 s.heap) (cwV 1 hts gX3_whyNot_X3_firstAwaited rfl rfl rfl (by decide +kernel) ⟨Nat.le_of_ble_eq_true rfl, Nat.le_of_ble_eq_true rfl⟩) (wk_preV (ci := 2) (q0 := 0) hG hP hD [0, 1, 2, 3, 4] rfl rfl rfl rfl) rfl rfl hl.1 rfl (lv_room (Nat.le_of_ble_eq_true rfl)) dX3_whyNot_57 ⟨Nat.le_of_ble_eq_true rfl, Nat.le_of_ble_eq_true rfl⟩) hS (fun locs hS => ?_)
            refine lv_iconst (v := (-1 : Int32)) hx hb dX3_whyNot_60 (by decide) ?_
            refine lv_icmp_ne (tgt := 69) hx hb dX3_whyNot_61 (by decide) (fun c8 => ?_) (fun c8 => ?_)
            · replace hM := (if_neg c8).symm.trans hM
              refine lv_iconst (v := (5 : Int32)) hx hb dX3_whyNot_69 (by decide) ?_
              exact hB70 (5 : Int32)  _ _ hM hS (lv_sub hl [] rfl)
            · replace hM := (if_pos c8).symm.trans hM
              refine lv_bipush (v := (6 : Int32)) hx hb dX3_whyNot_64 (by decide) ?_
              refine lv_goto (tgt := 70) hx hb dX3_whyNot_66 (by decide) ?_
              exact hB70 (6 : Int32)  _ _ hM hS (lv_sub hl [] rfl)
          · replace hM := (if_pos c6).symm.trans hM
            refine lv_iconst (v := (4 : Int32)) hx hb dX3_whyNot_53 (by decide) ?_
            replace hM := Option.some.inj hM
            subst hM
            exact wk_retPi hx hb hr hlocks hQ rfl rfl hS dX3_whyNot_54
        · replace hM := (if_pos c5).symm.trans hM
          refine lv_iconst (v := (3 : Int32)) hx hb dX3_whyNot_42 (by decide) ?_
          replace hM := Option.some.inj hM
          subst hM
          exact wk_retPi hx hb hr hlocks hQ rfl rfl hS dX3_whyNot_43
      · replace hM := (if_neg c4).symm.trans hM
        refine lv_iconst (v := (2 : Int32)) hx hb dX3_whyNot_28 (by decide) ?_
        replace hM := Option.some.inj hM
        subst hM
        exact wk_retPi hx hb hr hlocks hQ rfl rfl hS dX3_whyNot_29
    · replace hM := (if_pos c3).symm.trans hM
      refine lv_iconst (v := (1 : Int32)) hx hb dX3_whyNot_19 (by decide) ?_
      replace hM := Option.some.inj hM
      subst hM
      exact wk_retPi hx hb hr hlocks hQ rfl rfl hS dX3_whyNot_20
  · replace hM := (if_pos c2).symm.trans hM
    refine lv_iconst (v := (0 : Int32)) hx hb dX3_whyNot_9 (by decide) ?_
    replace hM := Option.some.inj hM
    subst hM
    exact wk_retPi hx hb hr hlocks hQ rfl rfl hS dX3_whyNot_10
set_option maxHeartbeats 4000000 in
set_option maxRecDepth 100000 in
theorem c_X3_reckonDepths (l : Launch) (dC : Nat → ClassId) (dI : Nat → Nat → Nat) (cI cD cJ : ClassId) (kk : wAd) (g : Nat → Nat) (a1 : Nat) (x : DS) (x1 : (Nat → Int32)) (out : (Nat → Int32)) (hM : M_X3_reckonDepths x x1 = some out) : CM l yX3_reckonDepths wsX3_reckonDepths ({ frames := 3, cells := 0, slots := 0, locals := 68 } : Room) dC dI (wTys cI cD cJ) [.ref (g 0), .ref a1] (wDrv cI g x ++ wRow cI a1 40 x1) none (wDrv cI g x ++ wRow cI a1 40 out) 0 0 := by
  refine wk_enterM (cc := cX3_reckonDepths) (maxL := 5) (ret := none) (by decide) rfl (Nat.le_of_ble_eq_true rfl) ?_
  intro p e s m below meth c A Q ls hB hA hP hD hQ hl
  obtain ⟨hx, hb, hml, hr, hts, hown, hname, hlocks, hG⟩ := hB
  have hown : s.vm.findClass RX3 = some m.cls := hown
  have hS : va_S A s.heap s.heap [] := va_S.rf
  have hl : lv_has ls 5 [(0, .ref (g 0)), (1, .ref a1)] := hl
  have inX3 : ∀ w ∈ wsX30, w ∈ wsX3_reckonDepths := fun _ h => List.mem_cons_of_mem _ (List.mem_append_right _ h)
  obtain ⟨H, hH⟩ : ∃ z, z = s.heap := ⟨_, rfl⟩
  have hP : va_P (dC, dI) vwCl (wDrv cI g x ++ wRow cI a1 40 x1) H := by rw [hH]; exact hP
  have hS : va_S A s.heap H [] := by rw [hH]; exact hS
  refine wk_at hH ?_
  generalize ([] : List Loc) = locs at hS ⊢
  have hL2 : ∀ (n2 : Nat) (u2 : Int32) (y1 : (Nat → Int32)) (H : Heap) (locs : List Loc) (ls : Array Slot), lpF (M_X3_reckonDepths_2s x x1) n2 (u2, y1) = some out → va_P (dC, dI) vwCl (wDrv cI g x ++ wRow cI a1 40 y1) H → va_D A (wDrv cI g x ++ wRow cI a1 40 y1) → va_S A s.heap H locs → lv_has ls 5 [(0, .ref (g 0)), (1, .ref a1), (2, .int u2)] → W p l e ({ frames := 3, cells := 0, slots := 0, locals := 68 } : Room) s m ([.ref (g 0), .ref a1] : List Value).toArray below meth c H locs 0 0 Q (F0 m 2 ls []) := by
    intro n2
    induction n2 with
    | zero => intro u2 y1 H locs ls hM; exact lpF_0 hM
    | succ n2 ih2 =>
      have hB67 : ∀ (u2 : Int32) (u3 : Int32) (y1 : (Nat → Int32)) (H : Heap) (locs : List Loc) (ls : Array Slot), M_X3_reckonDepths_67 x x1 (lpF (M_X3_reckonDepths_2s x x1) n2) u2 u3 y1 = some out → va_P (dC, dI) vwCl (wDrv cI g x ++ wRow cI a1 40 y1) H → va_D A (wDrv cI g x ++ wRow cI a1 40 y1) → va_S A s.heap H locs → lv_has ls 5 [(0, .ref (g 0)), (1, .ref a1), (2, .int u2), (3, .int u3)] → W p l e ({ frames := 3, cells := 0, slots := 0, locals := 68 } : Room) s m ([.ref (g 0), .ref a1] : List Value).toArray below meth c H locs 0 0 Q (F0 m 67 ls []) := by
        intro u2 u3 y1 H locs ls hM hP hD hS hl
        unfold M_X3_reckonDepths_67 at hM
        refine lv_aload_n hx hb dX3_reckonDepths_67 rfl (lv_at hl 1 rfl) ?_
        refine lv_iload_n hx hb dX3_reckonDepths_68 rfl (lv_at hl 2 rfl) ?_
        refine lv_iload_n hx hb dX3_reckonDepths_69 rfl (lv_at hl 3 rfl) ?_
        obtain ⟨r1, hr1, hM⟩ := tbE hM
        refine wk_callM (ws' := (wDrv cI g x ++ wRow cI a1 40 r1)) (va_runSN (As := [.ref a1, .int u2, .int u3]) (rest := []) ⟨hx, hb, hml, hown, hts⟩ (c_X6_put l dC dI cI cD cJ kk a1 40 y1 u2 u3 (by decide) _ hr1.symm H) ⟨va_cnB 3 hts gX3_reckonDepths_X6_put_n143 rfl rfl rfl (hG.2 _ (List.mem_of_getElem? (i := 5) rfl)) (hts (.initialized RX6) (List.mem_of_getElem? (i := 26) rfl)) (by decide +kernel) ⟨Nat.le_of_ble_eq_true rfl, Nat.le_of_ble_eq_true rfl⟩, hts (.static yX6_put) (List.mem_of_getElem? (i := 28) rfl), trivial⟩ (wk_preS hG hP hD [5] rfl rfl) rfl rfl hl.1 rfl (lv_room (Nat.le_of_ble_eq_true rfl)) dX3_reckonDepths_70 ⟨Nat.le_of_ble_eq_true rfl, Nat.le_of_ble_eq_true rfl⟩) hP hD hS hA [5] [0, 1, 2, 3, 4] [0, 1, 2, 3, 4, 5] rfl rfl rfl (by decide) rfl rfl (fun H locs hP hD hS => ?_)
        refine lv_iinc (v := (u2 + 1)) (lv' := [(2, .int (u2 + 1)), (0, .ref (g 0)), (1, .ref a1), (3, .int u3)]) hx hb dX3_reckonDepths_73 hl (k := 2) rfl rfl (by decide) rfl (fun ls hl => ?_)
        refine lv_goto (tgt := 2) hx hb dX3_reckonDepths_76 (by decide) ?_
        exact ih2 (u2 + 1) r1 H _ _ hM hP hD hS (lv_sub hl [1, 2, 0] rfl)
      have hL27 : ∀ (n27 : Nat) (u2 : Int32) (u3 : Int32) (u4 : Int32) (y1 : (Nat → Int32)) (H : Heap) (locs : List Loc) (ls : Array Slot), lpF (M_X3_reckonDepths_27s x x1 (lpF (M_X3_reckonDepths_2s x x1) n2)) n27 (u2, u3, u4, y1) = some out → va_P (dC, dI) vwCl (wDrv cI g x ++ wRow cI a1 40 y1) H → va_D A (wDrv cI g x ++ wRow cI a1 40 y1) → va_S A s.heap H locs → lv_has ls 5 [(0, .ref (g 0)), (1, .ref a1), (2, .int u2), (3, .int u3), (4, .int u4)] → W p l e ({ frames := 3, cells := 0, slots := 0, locals := 68 } : Room) s m ([.ref (g 0), .ref a1] : List Value).toArray below meth c H locs 0 0 Q (F0 m 27 ls []) := by
        intro n27
        induction n27 with
        | zero => intro u2 u3 u4 y1 H locs ls hM; exact lpF_0 hM
        | succ n27 ih27 =>
          have hB61 : ∀ (u2 : Int32) (u3 : Int32) (u4 : Int32) (y1 : (Nat → Int32)) (H : Heap) (locs : List Loc) (ls : Array Slot), M_X3_reckonDepths_61 x x1 (lpF (M_X3_reckonDepths_2s x x1) n2) (lpF (M_X3_reckonDepths_27s x x1 (lpF (M_X3_reckonDepths_2s x x1) n2)) n27) u2 u3 u4 y1 = some out → va_P (dC, dI) vwCl (wDrv cI g x ++ wRow cI a1 40 y1) H → va_D A (wDrv cI g x ++ wRow cI a1 40 y1) → va_S A s.heap H locs → lv_has ls 5 [(0, .ref (g 0)), (1, .ref a1), (2, .int u2), (3, .int u3), (4, .int u4)] → W p l e ({ frames := 3, cells := 0, slots := 0, locals := 68 } : Room) s m ([.ref (g 0), .ref a1] : List Value).toArray below meth c H locs 0 0 Q (F0 m 61 ls []) := by
            intro u2 u3 u4 y1 H locs ls hM hP hD hS hl
            unfold M_X3_reckonDepths_61 at hM
            refine lv_iinc (v := (u4 + 1)) (lv' := [(4, .int (u4 + 1)), (0, .ref (g 0)), (1, .ref a1), (2, .int u2), (3, .int u3)]) hx hb dX3_reckonDepths_61 hl (k := 4) rfl rfl (by decide) rfl (fun ls hl => ?_)
            refine lv_goto (tgt := 27) hx hb dX3_reckonDepths_64 (by decide) ?_
            exact ih27 u2 u3 (u4 + 1) y1 H _ _ hM hP hD hS (lv_sub hl [1, 2, 3, 4, 0] rfl)
          intro u2 u3 u4 y1 H locs ls hM hP hD hS hl
          replace hM : M_X3_reckonDepths_27s x x1 (lpF (M_X3_reckonDepths_2s x x1) n2) (lpF (M_X3_reckonDepths_27s x x1 (lpF (M_X3_reckonDepths_2s x x1) n2)) n27) (u2, u3, u4, y1) = some out := hM
          unfold M_X3_reckonDepths_27s at hM
          try dsimp only at hM
          refine lv_iload hx hb dX3_reckonDepths_27 (lv_at hl 4 rfl) ?_
          refine lv_iload_n hx hb dX3_reckonDepths_29 rfl (lv_at hl 2 rfl) ?_
          refine lv_icmp_ge (tgt := 67) hx hb dX3_reckonDepths_30 (by decide) (fun c1 => ?_) (fun c1 => ?_)
          · replace hM := (if_pos c1).symm.trans hM
            exact hB67 u2 u3 y1 H _ _ hM hP hD hS (lv_sub hl [0, 1, 2, 3] rfl)
          · replace hM := (if_neg c1).symm.trans hM
            refine lv_iload_n hx hb dX3_reckonDepths_33 rfl (lv_at hl 3 rfl) ?_
            refine lv_iconst (v := (-1 : Int32)) hx hb dX3_reckonDepths_34 (by decide) ?_
            refine lv_icmp_eq (tgt := 67) hx hb dX3_reckonDepths_35 (by decide) (fun c2 => ?_) (fun c2 => ?_)
            · replace hM := (if_pos c2).symm.trans hM
              exact hB67 u2 u3 y1 H _ _ hM hP hD hS (lv_sub hl [0, 1, 2, 3] rfl)
            · replace hM := (if_neg c2).symm.trans hM
              refine lv_aload_n hx hb dX3_reckonDepths_38 rfl (lv_at hl 0 rfl) ?_
              refine lv_iload hx hb dX3_reckonDepths_39 (lv_at hl 4 rfl) ?_
              refine lv_iload_n hx hb dX3_reckonDepths_41 rfl (lv_at hl 2 rfl) ?_
              refine wk_callP (va_runV (As := [.int u4, .int u2]) (rest := []) ⟨hx, hb, hml, hown, hts⟩ (c_X3_isAwaited l dC dI cI cD cJ kk g x u4 u2 _ rfl H) (cwV 2 hts gX3_reckonDepths_X3_isAwaited rfl rfl rfl (by decide +kernel) ⟨Nat.le_of_ble_eq_true rfl, Nat.le_of_ble_eq_true rfl⟩) (wk_preV (ci := 2) (q0 := 0) hG hP hD [0, 1, 2, 3, 4] rfl rfl rfl rfl) rfl rfl hl.1 rfl (lv_room (Nat.le_of_ble_eq_true rfl)) dX3_reckonDepths_42 ⟨Nat.le_of_ble_eq_true rfl, Nat.le_of_ble_eq_true rfl⟩) hS (fun locs hS => ?_)
              refine lv_if_eq (tgt := 61) hx hb dX3_reckonDepths_45 (by decide) (fun c3 => ?_) (fun c3 => ?_)
              · replace hM := (if_pos c3).symm.trans hM
                exact hB61 u2 u3 u4 y1 H _ _ hM hP hD hS (lv_sub hl [0, 1, 2, 3, 4] rfl)
              · replace hM := (if_neg c3).symm.trans hM
                refine lv_iload_n hx hb dX3_reckonDepths_48 rfl (lv_at hl 3 rfl) ?_
                refine lv_iconst (v := (1 : Int32)) hx hb dX3_reckonDepths_49 (by decide) ?_
                refine lv_aload_n hx hb dX3_reckonDepths_50 rfl (lv_at hl 1 rfl) ?_
                refine lv_iload hx hb dX3_reckonDepths_51 (lv_at hl 4 rfl) ?_
                refine wk_callP (va_runSN (As := [.ref a1, .int u4]) (rest := [.int (1 : Int32), .int u3]) ⟨hx, hb, hml, hown, hts⟩ (c_X6_at l dC dI cI cD cJ kk a1 40 y1 u4 (by decide) _ rfl H) ⟨va_cnB 2 hts gX3_reckonDepths_X6_at_n162 rfl rfl rfl (hG.2 _ (List.mem_of_getElem? (i := 6) rfl)) (hts (.initialized RX6) (List.mem_of_getElem? (i := 26) rfl)) (by decide +kernel) ⟨Nat.le_of_ble_eq_true rfl, Nat.le_of_ble_eq_true rfl⟩, hts (.static yX6_at) (List.mem_of_getElem? (i := 25) rfl), trivial⟩ (wk_preS hG hP hD [5] rfl rfl) rfl rfl hl.1 rfl (lv_room (Nat.le_of_ble_eq_true rfl)) dX3_reckonDepths_53 ⟨Nat.le_of_ble_eq_true rfl, Nat.le_of_ble_eq_true rfl⟩) hS (fun locs hS => ?_)
                refine lv_iadd hx hb dX3_reckonDepths_56 ?_
                refine va_mmax hx hb (hml.trans hl.1.symm) hown (hts (.methodLink RX3 194 Lib.Math.max.name) (List.mem_of_getElem? (i := 2) rfl)) (hts (.static Lib.Math.max.name) (List.mem_of_getElem? (i := 3) rfl)) (hts (.initialized "java/lang/Math") (List.mem_of_getElem? (i := 4) rfl)) (hts (.code Lib.Math.max.name Lib.Math.max.code 2 (some .int)) (List.mem_of_getElem? (i := 5) rfl)) (Nat.le_of_ble_eq_true rfl) (Nat.le_of_ble_eq_true rfl) (Nat.le_of_ble_eq_true rfl) (Nat.le_of_ble_eq_true rfl) dX3_reckonDepths_57 ?_
                refine lv_istore_n (lv' := [(3, .int (if u3 < ((1 : Int32) + (M_X6_at 40 y1 u4)) then ((1 : Int32) + (M_X6_at 40 y1 u4)) else u3)), (0, .ref (g 0)), (1, .ref a1), (2, .int u2), (4, .int u4)]) hx hb dX3_reckonDepths_60 rfl hl (by decide) rfl (fun ls hl => ?_)
                exact hB61 u2 (if u3 < ((1 : Int32) + (M_X6_at 40 y1 u4)) then ((1 : Int32) + (M_X6_at 40 y1 u4)) else u3) u4 y1 H _ _ hM hP hD hS (lv_sub hl [1, 2, 3, 0, 4] rfl)
      have hB23 : ∀ (u2 : Int32) (w0 : Int32) (y1 : (Nat → Int32)) (H : Heap) (locs : List Loc) (ls : Array Slot), M_X3_reckonDepths_23 x x1 (lpF (M_X3_reckonDepths_2s x x1) n2) u2 w0 y1 = some out → va_P (dC, dI) vwCl (wDrv cI g x ++ wRow cI a1 40 y1) H → va_D A (wDrv cI g x ++ wRow cI a1 40 y1) → va_S A s.heap H locs → lv_has ls 5 [(0, .ref (g 0)), (1, .ref a1), (2, .int u2)] → W p l e ({ frames := 3, cells := 0, slots := 0, locals := 68 } : Room) s m ([.ref (g 0), .ref a1] : List Value).toArray below meth c H locs 0 0 Q (F0 m 23 ls [.int w0]) := by
        intro u2 w0 y1 H locs ls hM hP hD hS hl
        unfold M_X3_reckonDepths_23 at hM
        refine lv_istore_n (lv' := [(3, .int w0), (0, .ref (g 0)), (1, .ref a1), (2, .int u2)]) hx hb dX3_reckonDepths_23 rfl hl (by decide) rfl (fun ls hl => ?_)
        refine lv_iconst (v := (0 : Int32)) hx hb dX3_reckonDepths_24 (by decide) ?_
        refine lv_istore (lv' := [(4, .int (0 : Int32)), (3, .int w0), (0, .ref (g 0)), (1, .ref a1), (2, .int u2)]) hx hb dX3_reckonDepths_25 hl (by decide) rfl (fun ls hl => ?_)
        exact hL27 64 u2 w0 (0 : Int32) y1 H _ _ hM hP hD hS (lv_sub hl [2, 3, 4, 1, 0] rfl)
      intro u2 y1 H locs ls hM hP hD hS hl
      replace hM : M_X3_reckonDepths_2s x x1 (lpF (M_X3_reckonDepths_2s x x1) n2) (u2, y1) = some out := hM
      unfold M_X3_reckonDepths_2s at hM
      try dsimp only at hM
      refine lv_iload_n hx hb dX3_reckonDepths_2 rfl (lv_at hl 2 rfl) ?_
      refine lv_aload_n hx hb dX3_reckonDepths_3 rfl (lv_at hl 0 rfl) ?_
      refine va_get (D := (dC, dI)) (ci := 2) (v := .int (ds_ord x)) (C := RX3) (T := TX3) (N := 8) hx hb hts inX3 hown hG.1 hP 0 rfl rfl 4 (by decide) (hts (.fieldLink RX3 28 "WokenDrive$Drive" "orders" "I") (List.mem_of_getElem? (i := 1) rfl)) (fun _ h9 => h9) rfl dX3_reckonDepths_4 ?_
      refine lv_icmp_ge (tgt := 79) hx hb dX3_reckonDepths_7 (by decide) (fun c1 => ?_) (fun c1 => ?_)
      · replace hM := (if_pos c1).symm.trans hM
        replace hM := Option.some.inj hM
        subst hM
        exact wk_retMv hx hb hr hlocks hQ rfl hP hD hS dX3_reckonDepths_79
      · replace hM := (if_neg c1).symm.trans hM
        refine lv_aload_n hx hb dX3_reckonDepths_10 rfl (lv_at hl 0 rfl) ?_
        refine lv_iload_n hx hb dX3_reckonDepths_11 rfl (lv_at hl 2 rfl) ?_
        refine wk_callP (va_runV (As := [.int u2]) (rest := []) ⟨hx, hb, hml, hown, hts⟩ (c_X3_isOpen l dC dI cI cD cJ kk g x u2 _ rfl H) (cwV 1 hts gX3_reckonDepths_X3_isOpen rfl rfl rfl (by decide +kernel) ⟨Nat.le_of_ble_eq_true rfl, Nat.le_of_ble_eq_true rfl⟩) (wk_preV (ci := 2) (q0 := 0) hG hP hD [0, 1, 2, 3, 4] rfl rfl rfl rfl) rfl rfl hl.1 rfl (lv_room (Nat.le_of_ble_eq_true rfl)) dX3_reckonDepths_12 ⟨Nat.le_of_ble_eq_true rfl, Nat.le_of_ble_eq_true rfl⟩) hS (fun locs hS => ?_)
        refine lv_if_eq (tgt := 22) hx hb dX3_reckonDepths_15 (by decide) (fun c2 => ?_) (fun c2 => ?_)
        · replace hM := (if_pos c2).symm.trans hM
          refine lv_iconst (v := (-1 : Int32)) hx hb dX3_reckonDepths_22 (by decide) ?_
          exact hB23 u2 (-1 : Int32) y1 H _ _ hM hP hD hS (lv_sub hl [0, 1, 2] rfl)
        · replace hM := (if_neg c2).symm.trans hM
          refine lv_iconst (v := (0 : Int32)) hx hb dX3_reckonDepths_18 (by decide) ?_
          refine lv_goto (tgt := 23) hx hb dX3_reckonDepths_19 (by decide) ?_
          exact hB23 u2 (0 : Int32) y1 H _ _ hM hP hD hS (lv_sub hl [0, 1, 2] rfl)
  unfold M_X3_reckonDepths at hM
  refine lv_iconst (v := (0 : Int32)) hx hb dX3_reckonDepths_0 (by decide) ?_
  refine lv_istore_n (lv' := [(2, .int (0 : Int32)), (0, .ref (g 0)), (1, .ref a1)]) hx hb dX3_reckonDepths_1 rfl hl (by decide) rfl (fun ls hl => ?_)
  exact hL2 64 (0 : Int32) x1 H _ _ hM hP hD hS (lv_sub hl [1, 2, 0] rfl)
set_option maxHeartbeats 4000000 in
set_option maxRecDepth 100000 in
theorem c_X3_reckonFinals (l : Launch) (dC : Nat → ClassId) (dI : Nat → Nat → Nat) (cI cD cJ : ClassId) (kk : wAd) (g : Nat → Nat) (a1 : Nat) (x : DS) (x1 : (Nat → Int32)) (out : (Nat → Int32)) (hM : M_X3_reckonFinals x x1 = some out) : CM l yX3_reckonFinals wsX3_reckonFinals ({ frames := 2, cells := 0, slots := 0, locals := 47 } : Room) dC dI (wTys cI cD cJ) [.ref (g 0), .ref a1] (wDrv cI g x ++ wRow cI a1 16 x1) none (wDrv cI g x ++ wRow cI a1 16 out) 0 0 := by
  refine wk_enterM (cc := cX3_reckonFinals) (maxL := 3) (ret := none) (by decide) rfl (Nat.le_of_ble_eq_true rfl) ?_
  intro p e s m below meth c A Q ls hB hA hP hD hQ hl
  obtain ⟨hx, hb, hml, hr, hts, hown, hname, hlocks, hG⟩ := hB
  have hown : s.vm.findClass RX3 = some m.cls := hown
  have hS : va_S A s.heap s.heap [] := va_S.rf
  have hl : lv_has ls 3 [(0, .ref (g 0)), (1, .ref a1)] := hl
  have inX3 : ∀ w ∈ wsX30, w ∈ wsX3_reckonFinals := fun _ h => List.mem_cons_of_mem _ (List.mem_append_right _ h)
  obtain ⟨H, hH⟩ : ∃ z, z = s.heap := ⟨_, rfl⟩
  have hP : va_P (dC, dI) vwCl (wDrv cI g x ++ wRow cI a1 16 x1) H := by rw [hH]; exact hP
  have hS : va_S A s.heap H [] := by rw [hH]; exact hS
  refine wk_at hH ?_
  generalize ([] : List Loc) = locs at hS ⊢
  have hL29 : ∀ (n29 : Nat) (u2 : Int32) (y1 : (Nat → Int32)) (H : Heap) (locs : List Loc) (ls : Array Slot), lpF (M_X3_reckonFinals_29s x x1) n29 (u2, y1) = some out → va_P (dC, dI) vwCl (wDrv cI g x ++ wRow cI a1 16 y1) H → va_D A (wDrv cI g x ++ wRow cI a1 16 y1) → va_S A s.heap H locs → lv_has ls 3 [(0, .ref (g 0)), (1, .ref a1), (2, .int u2)] → W p l e ({ frames := 2, cells := 0, slots := 0, locals := 47 } : Room) s m ([.ref (g 0), .ref a1] : List Value).toArray below meth c H locs 0 0 Q (F0 m 29 ls []) := by
    intro n29
    induction n29 with
    | zero => intro u2 y1 H locs ls hM; exact lpF_0 hM
    | succ n29 ih29 =>
      have hB61 : ∀ (u2 : Int32) (y1 : (Nat → Int32)) (H : Heap) (locs : List Loc) (ls : Array Slot), M_X3_reckonFinals_61 x x1 (lpF (M_X3_reckonFinals_29s x x1) n29) u2 y1 = some out → va_P (dC, dI) vwCl (wDrv cI g x ++ wRow cI a1 16 y1) H → va_D A (wDrv cI g x ++ wRow cI a1 16 y1) → va_S A s.heap H locs → lv_has ls 3 [(0, .ref (g 0)), (1, .ref a1), (2, .int u2)] → W p l e ({ frames := 2, cells := 0, slots := 0, locals := 47 } : Room) s m ([.ref (g 0), .ref a1] : List Value).toArray below meth c H locs 0 0 Q (F0 m 61 ls []) := by
        intro u2 y1 H locs ls hM hP hD hS hl
        unfold M_X3_reckonFinals_61 at hM
        refine lv_iinc (v := (u2 + 1)) (lv' := [(2, .int (u2 + 1)), (0, .ref (g 0)), (1, .ref a1)]) hx hb dX3_reckonFinals_61 hl (k := 2) rfl rfl (by decide) rfl (fun ls hl => ?_)
        refine lv_goto (tgt := 29) hx hb dX3_reckonFinals_64 (by decide) ?_
        exact ih29 (u2 + 1) y1 H _ _ hM hP hD hS (lv_sub hl [1, 2, 0] rfl)
      intro u2 y1 H locs ls hM hP hD hS hl
      replace hM : M_X3_reckonFinals_29s x x1 (lpF (M_X3_reckonFinals_29s x x1) n29) (u2, y1) = some out := hM
      unfold M_X3_reckonFinals_29s at hM
      try dsimp only at hM
      refine lv_iload_n hx hb dX3_reckonFinals_29 rfl (lv_at hl 2 rfl) ?_
      refine lv_aload_n hx hb dX3_reckonFinals_30 rfl (lv_at hl 0 rfl) ?_
      refine va_get (D := (dC, dI)) (ci := 2) (v := .int (ds_ord x)) (C := RX3) (T := TX3) (N := 8) hx hb hts inX3 hown hG.1 hP 0 rfl rfl 4 (by decide) (hts (.fieldLink RX3 28 "WokenDrive$Drive" "orders" "I") (List.mem_of_getElem? (i := 2) rfl)) (fun _ h9 => h9) rfl dX3_reckonFinals_31 ?_
      refine lv_icmp_ge (tgt := 67) hx hb dX3_reckonFinals_34 (by decide) (fun c1 => ?_) (fun c1 => ?_)
      · replace hM := (if_pos c1).symm.trans hM
        replace hM := Option.some.inj hM
        subst hM
        exact wk_retMv hx hb hr hlocks hQ rfl hP hD hS dX3_reckonFinals_67
      · replace hM := (if_neg c1).symm.trans hM
        refine lv_aload_n hx hb dX3_reckonFinals_37 rfl (lv_at hl 0 rfl) ?_
        refine lv_iload_n hx hb dX3_reckonFinals_38 rfl (lv_at hl 2 rfl) ?_
        refine wk_callP (va_runV (As := [.int u2]) (rest := []) ⟨hx, hb, hml, hown, hts⟩ (c_X3_isOpen l dC dI cI cD cJ kk g x u2 _ rfl H) (cwV 1 hts gX3_reckonFinals_X3_isOpen rfl rfl rfl (by decide +kernel) ⟨Nat.le_of_ble_eq_true rfl, Nat.le_of_ble_eq_true rfl⟩) (wk_preV (ci := 2) (q0 := 0) hG hP hD [0, 1, 2, 3, 4] rfl rfl rfl rfl) rfl rfl hl.1 rfl (lv_room (Nat.le_of_ble_eq_true rfl)) dX3_reckonFinals_39 ⟨Nat.le_of_ble_eq_true rfl, Nat.le_of_ble_eq_true rfl⟩) hS (fun locs hS => ?_)
        refine lv_if_eq (tgt := 61) hx hb dX3_reckonFinals_42 (by decide) (fun c2 => ?_) (fun c2 => ?_)
        · replace hM := (if_pos c2).symm.trans hM
          exact hB61 u2 y1 H _ _ hM hP hD hS (lv_sub hl [0, 1, 2] rfl)
        · replace hM := (if_neg c2).symm.trans hM
          refine lv_aload_n hx hb dX3_reckonFinals_45 rfl (lv_at hl 1 rfl) ?_
          refine lv_aload_n hx hb dX3_reckonFinals_46 rfl (lv_at hl 0 rfl) ?_
          refine lv_iload_n hx hb dX3_reckonFinals_47 rfl (lv_at hl 2 rfl) ?_
          refine lv_iconst (v := (3 : Int32)) hx hb dX3_reckonFinals_48 (by decide) ?_
          refine wk_callP (va_runV (As := [.int u2, .int (3 : Int32)]) (rest := [.ref a1]) ⟨hx, hb, hml, hown, hts⟩ (c_X3_fact l dC dI cI cD cJ kk g x u2 (3 : Int32) _ rfl H) (cwV 2 hts gX3_reckonFinals_X3_fact rfl rfl rfl (by decide +kernel) ⟨Nat.le_of_ble_eq_true rfl, Nat.le_of_ble_eq_true rfl⟩) (wk_preV (ci := 2) (q0 := 0) hG hP hD [0, 1, 2, 3, 4] rfl rfl rfl rfl) rfl rfl hl.1 rfl (lv_room (Nat.le_of_ble_eq_true rfl)) dX3_reckonFinals_49 ⟨Nat.le_of_ble_eq_true rfl, Nat.le_of_ble_eq_true rfl⟩) hS (fun locs hS => ?_)
          refine lv_aload_n hx hb dX3_reckonFinals_52 rfl (lv_at hl 0 rfl) ?_
          refine lv_aload_n hx hb dX3_reckonFinals_53 rfl (lv_at hl 1 rfl) ?_
          refine lv_iload_n hx hb dX3_reckonFinals_54 rfl (lv_at hl 2 rfl) ?_
          refine wk_callP (va_runV (As := [.ref a1, .int u2]) (rest := [.int (M_X3_fact x u2 (3 : Int32)), .ref a1]) ⟨hx, hb, hml, hown, hts⟩ (c_X3_resultOn l dC dI cI cD cJ kk g a1 x y1 u2 _ rfl H) (cwV 2 hts gX3_reckonFinals_X3_resultOn rfl rfl rfl (by decide +kernel) ⟨Nat.le_of_ble_eq_true rfl, Nat.le_of_ble_eq_true rfl⟩) (wk_preV (ci := 2) (q0 := 0) hG hP hD [0, 1, 2, 3, 4, 5] rfl rfl rfl rfl) rfl rfl hl.1 rfl (lv_room (Nat.le_of_ble_eq_true rfl)) dX3_reckonFinals_55 ⟨Nat.le_of_ble_eq_true rfl, Nat.le_of_ble_eq_true rfl⟩) hS (fun locs hS => ?_)
          obtain ⟨r3, hr3, hM⟩ := tbE hM
          refine wk_callM (ws' := (wDrv cI g x ++ wRow cI a1 16 r3)) (va_runSN (As := [.ref a1, .int (M_X3_fact x u2 (3 : Int32)), .int (M_X3_resultOn x y1 u2)]) (rest := []) ⟨hx, hb, hml, hown, hts⟩ (c_X6_put l dC dI cI cD cJ kk a1 16 y1 (M_X3_fact x u2 (3 : Int32)) (M_X3_resultOn x y1 u2) (by decide) _ hr3.symm H) ⟨va_cnB 3 hts gX3_reckonFinals_X6_put_n143 rfl rfl rfl (hG.2 _ (List.mem_of_getElem? (i := 5) rfl)) (hts (.initialized RX6) (List.mem_of_getElem? (i := 4) rfl)) (by decide +kernel) ⟨Nat.le_of_ble_eq_true rfl, Nat.le_of_ble_eq_true rfl⟩, hts (.static yX6_put) (List.mem_of_getElem? (i := 6) rfl), trivial⟩ (wk_preS hG hP hD [5] rfl rfl) rfl rfl hl.1 rfl (lv_room (Nat.le_of_ble_eq_true rfl)) dX3_reckonFinals_58 ⟨Nat.le_of_ble_eq_true rfl, Nat.le_of_ble_eq_true rfl⟩) hP hD hS hA [5] [0, 1, 2, 3, 4] [0, 1, 2, 3, 4, 5] rfl rfl rfl (by decide) rfl rfl (fun H locs hP hD hS => ?_)
          exact hB61 u2 r3 H _ _ hM hP hD hS (lv_sub hl [0, 1, 2] rfl)
  have hL2 : ∀ (n2 : Nat) (u2 : Int32) (y1 : (Nat → Int32)) (H : Heap) (locs : List Loc) (ls : Array Slot), lpF (M_X3_reckonFinals_2s x x1) n2 (u2, y1) = some out → va_P (dC, dI) vwCl (wDrv cI g x ++ wRow cI a1 16 y1) H → va_D A (wDrv cI g x ++ wRow cI a1 16 y1) → va_S A s.heap H locs → lv_has ls 3 [(0, .ref (g 0)), (1, .ref a1), (2, .int u2)] → W p l e ({ frames := 2, cells := 0, slots := 0, locals := 47 } : Room) s m ([.ref (g 0), .ref a1] : List Value).toArray below meth c H locs 0 0 Q (F0 m 2 ls []) := by
    intro n2
    induction n2 with
    | zero => intro u2 y1 H locs ls hM; exact lpF_0 hM
    | succ n2 ih2 =>
      intro u2 y1 H locs ls hM hP hD hS hl
      replace hM : M_X3_reckonFinals_2s x x1 (lpF (M_X3_reckonFinals_2s x x1) n2) (u2, y1) = some out := hM
      unfold M_X3_reckonFinals_2s at hM
      try dsimp only at hM
      refine lv_iload_n hx hb dX3_reckonFinals_2 rfl (lv_at hl 2 rfl) ?_
      refine lv_bipush (v := (16 : Int32)) hx hb dX3_reckonFinals_3 (by decide) ?_
      refine lv_icmp_ge (tgt := 27) hx hb dX3_reckonFinals_5 (by decide) (fun c1 => ?_) (fun c1 => ?_)
      · replace hM := (if_pos c1).symm.trans hM
        refine lv_iconst (v := (0 : Int32)) hx hb dX3_reckonFinals_27 (by decide) ?_
        refine lv_istore_n (lv' := [(2, .int (0 : Int32)), (0, .ref (g 0)), (1, .ref a1)]) hx hb dX3_reckonFinals_28 rfl hl (by decide) rfl (fun ls hl => ?_)
        exact hL29 64 (0 : Int32) y1 H _ _ hM hP hD hS (lv_sub hl [1, 2, 0] rfl)
      · replace hM := (if_neg c1).symm.trans hM
        refine lv_aload_n hx hb dX3_reckonFinals_8 rfl (lv_at hl 1 rfl) ?_
        refine lv_iload_n hx hb dX3_reckonFinals_9 rfl (lv_at hl 2 rfl) ?_
        refine lv_aload_n hx hb dX3_reckonFinals_10 rfl (lv_at hl 0 rfl) ?_
        refine va_get (D := (dC, dI)) (ci := 2) (v := .ref (g 1)) (C := RX3) (T := TX3) (N := 8) hx hb hts inX3 hown hG.1 hP 0 rfl rfl 0 (by decide) (hts (.fieldLink RX3 9 "WokenDrive$Drive" "values" "[I") (List.mem_of_getElem? (i := 1) rfl)) (fun _ h9 => h9) rfl dX3_reckonFinals_11 ?_
        refine lv_iload_n hx hb dX3_reckonFinals_14 rfl (lv_at hl 2 rfl) ?_
        refine wk_callP (va_runSN (As := [.ref (g 1), .int u2]) (rest := [.int u2, .ref a1]) ⟨hx, hb, hml, hown, hts⟩ (c_X6_at l dC dI cI cD cJ kk (g 1) 16 (ds_val x) u2 (by decide) _ rfl H) ⟨va_cnB 2 hts gX3_reckonFinals_X6_at_n162 rfl rfl rfl (hG.2 _ (List.mem_of_getElem? (i := 6) rfl)) (hts (.initialized RX6) (List.mem_of_getElem? (i := 4) rfl)) (by decide +kernel) ⟨Nat.le_of_ble_eq_true rfl, Nat.le_of_ble_eq_true rfl⟩, hts (.static yX6_at) (List.mem_of_getElem? (i := 3) rfl), trivial⟩ (wk_preS hG hP hD [1] rfl rfl) rfl rfl hl.1 rfl (lv_room (Nat.le_of_ble_eq_true rfl)) dX3_reckonFinals_15 ⟨Nat.le_of_ble_eq_true rfl, Nat.le_of_ble_eq_true rfl⟩) hS (fun locs hS => ?_)
        obtain ⟨r2, hr2, hM⟩ := tbE hM
        refine wk_callM (ws' := (wDrv cI g x ++ wRow cI a1 16 r2)) (va_runSN (As := [.ref a1, .int u2, .int (M_X6_at 16 (ds_val x) u2)]) (rest := []) ⟨hx, hb, hml, hown, hts⟩ (c_X6_put l dC dI cI cD cJ kk a1 16 y1 u2 (M_X6_at 16 (ds_val x) u2) (by decide) _ hr2.symm H) ⟨va_cnB 3 hts gX3_reckonFinals_X6_put_n143 rfl rfl rfl (hG.2 _ (List.mem_of_getElem? (i := 5) rfl)) (hts (.initialized RX6) (List.mem_of_getElem? (i := 4) rfl)) (by decide +kernel) ⟨Nat.le_of_ble_eq_true rfl, Nat.le_of_ble_eq_true rfl⟩, hts (.static yX6_put) (List.mem_of_getElem? (i := 6) rfl), trivial⟩ (wk_preS hG hP hD [5] rfl rfl) rfl rfl hl.1 rfl (lv_room (Nat.le_of_ble_eq_true rfl)) dX3_reckonFinals_18 ⟨Nat.le_of_ble_eq_true rfl, Nat.le_of_ble_eq_true rfl⟩) hP hD hS hA [5] [0, 1, 2, 3, 4] [0, 1, 2, 3, 4, 5] rfl rfl rfl (by decide) rfl rfl (fun H locs hP hD hS => ?_)
        refine lv_iinc (v := (u2 + 1)) (lv' := [(2, .int (u2 + 1)), (0, .ref (g 0)), (1, .ref a1)]) hx hb dX3_reckonFinals_21 hl (k := 2) rfl rfl (by decide) rfl (fun ls hl => ?_)
        refine lv_goto (tgt := 2) hx hb dX3_reckonFinals_24 (by decide) ?_
        exact ih2 (u2 + 1) r2 H _ _ hM hP hD hS (lv_sub hl [1, 2, 0] rfl)
  unfold M_X3_reckonFinals at hM
  refine lv_iconst (v := (0 : Int32)) hx hb dX3_reckonFinals_0 (by decide) ?_
  refine lv_istore_n (lv' := [(2, .int (0 : Int32)), (0, .ref (g 0)), (1, .ref a1)]) hx hb dX3_reckonFinals_1 rfl hl (by decide) rfl (fun ls hl => ?_)
  exact hL2 64 (0 : Int32) x1 H _ _ hM hP hD hS (lv_sub hl [1, 2, 0] rfl)
set_option maxHeartbeats 4000000 in
set_option maxRecDepth 100000 in
theorem c_X3_mailAt (l : Launch) (dC : Nat → ClassId) (dI : Nat → Nat → Nat) (cI cD cJ : ClassId) (kk : wAd) (g : Nat → Nat) (x : DS) (p1 : Int32) (p2 : Int32) (out : Int32) (hM : M_X3_mailAt x p1 p2 = some out) : CP l yX3_mailAt wsX3_mailAt ({ frames := 1, cells := 0, slots := 0, locals := 21 } : Room) dC dI (wTys cI cD cJ) [.ref (g 0), .int p1, .int p2] (wDrv cI g x) (some (.int out)) := by
  refine wk_enterP (cc := cX3_mailAt) (maxL := 5) (ret := (some .int)) (by decide) rfl (Nat.le_of_ble_eq_true rfl) ?_
  intro p e s m below meth c A Q ls hB hP hD hA hQ hl
  obtain ⟨hx, hb, hml, hr, hts, hown, hname, hlocks, hG⟩ := hB
  have hown : s.vm.findClass RX3 = some m.cls := hown
  have hS : va_S A s.heap s.heap [] := va_S.rf
  have hl : lv_has ls 5 [(0, .ref (g 0)), (1, .int p1), (2, .int p2)] := hl
  have inX3 : ∀ w ∈ wsX30, w ∈ wsX3_mailAt := fun _ h => List.mem_cons_of_mem _ (List.mem_append_left _ (List.mem_append_right _ h))
  generalize ([] : List Loc) = locs at hS ⊢
  have hL5 : ∀ (n5 : Nat) (u3 : Int32) (u4 : Int32) (locs : List Loc) (ls : Array Slot), lpF (M_X3_mailAt_5s x p1 p2) n5 (u3, u4) = some out → va_S A s.heap s.heap locs → lv_has ls 5 [(0, .ref (g 0)), (1, .int p1), (2, .int p2), (3, .int u3), (4, .int u4)] → W p l e ({ frames := 1, cells := 0, slots := 0, locals := 21 } : Room) s m ([.ref (g 0), .int p1, .int p2] : List Value).toArray below meth c s.heap locs 0 0 Q (F0 m 5 ls []) := by
    intro n5
    induction n5 with
    | zero => intro u3 u4 locs ls hM; exact lpF_0 hM
    | succ n5 ih5 =>
      have hB38 : ∀ (u3 : Int32) (u4 : Int32) (locs : List Loc) (ls : Array Slot), M_X3_mailAt_38 x p1 p2 (lpF (M_X3_mailAt_5s x p1 p2) n5) u3 u4 = some out → va_S A s.heap s.heap locs → lv_has ls 5 [(0, .ref (g 0)), (1, .int p1), (2, .int p2), (3, .int u3), (4, .int u4)] → W p l e ({ frames := 1, cells := 0, slots := 0, locals := 21 } : Room) s m ([.ref (g 0), .int p1, .int p2] : List Value).toArray below meth c s.heap locs 0 0 Q (F0 m 38 ls []) := by
        intro u3 u4 locs ls hM hS hl
        unfold M_X3_mailAt_38 at hM
        refine lv_iinc (v := (u4 + 1)) (lv' := [(4, .int (u4 + 1)), (0, .ref (g 0)), (1, .int p1), (2, .int p2), (3, .int u3)]) hx hb dX3_mailAt_38 hl (k := 4) rfl rfl (by decide) rfl (fun ls hl => ?_)
        refine lv_goto (tgt := 5) hx hb dX3_mailAt_41 (by decide) ?_
        exact ih5 u3 (u4 + 1)  _ _ hM hS (lv_sub hl [1, 2, 3, 4, 0] rfl)
      intro u3 u4 locs ls hM hS hl
      replace hM : M_X3_mailAt_5s x p1 p2 (lpF (M_X3_mailAt_5s x p1 p2) n5) (u3, u4) = some out := hM
      unfold M_X3_mailAt_5s at hM
      try dsimp only at hM
      refine lv_iload hx hb dX3_mailAt_5 (lv_at hl 4 rfl) ?_
      refine lv_aload_n hx hb dX3_mailAt_7 rfl (lv_at hl 0 rfl) ?_
      refine va_get (D := (dC, dI)) (ci := 2) (v := .int (ds_ord x)) (C := RX3) (T := TX3) (N := 8) hx hb hts inX3 hown hG.1 hP 0 rfl rfl 4 (by decide) (hts (.fieldLink RX3 28 "WokenDrive$Drive" "orders" "I") (List.mem_of_getElem? (i := 1) rfl)) (fun _ h9 => h9) rfl dX3_mailAt_8 ?_
      refine lv_icmp_ge (tgt := 44) hx hb dX3_mailAt_11 (by decide) (fun c1 => ?_) (fun c1 => ?_)
      · replace hM := (if_pos c1).symm.trans hM
        refine lv_iconst (v := (-1 : Int32)) hx hb dX3_mailAt_44 (by decide) ?_
        replace hM := Option.some.inj hM
        subst hM
        exact wk_retPi hx hb hr hlocks hQ rfl rfl hS dX3_mailAt_45
      · replace hM := (if_neg c1).symm.trans hM
        refine lv_aload_n hx hb dX3_mailAt_14 rfl (lv_at hl 0 rfl) ?_
        refine lv_iload_n hx hb dX3_mailAt_15 rfl (lv_at hl 1 rfl) ?_
        refine wk_callP (va_runV (As := [.int p1]) (rest := []) ⟨hx, hb, hml, hown, hts⟩ (c_X3_controllerAt l dC dI cI cD cJ kk g x p1 s.heap) (cwV 1 hts gX3_mailAt_X3_controllerAt rfl rfl rfl (by decide +kernel) ⟨Nat.le_of_ble_eq_true rfl, Nat.le_of_ble_eq_true rfl⟩) (wk_preV (ci := 2) (q0 := 0) hG hP hD [0, 1, 2, 3, 4] rfl rfl rfl rfl) rfl rfl hl.1 rfl (lv_room (Nat.le_of_ble_eq_true rfl)) dX3_mailAt_16 ⟨Nat.le_of_ble_eq_true rfl, Nat.le_of_ble_eq_true rfl⟩) hS (fun locs hS => ?_)
        refine lv_iload hx hb dX3_mailAt_19 (lv_at hl 4 rfl) ?_
        refine wk_callP (va_runV (As := [.int u4]) (rest := []) ⟨hx, hb, hml, hown, hts⟩ (c_X2_holds l dC dI cI cD cJ kk (ctlA g p1) (dCtl x p1) u4 _ rfl s.heap) (cwV 1 hts gX3_mailAt_X2_holds rfl rfl rfl (by decide +kernel) ⟨Nat.le_of_ble_eq_true rfl, Nat.le_of_ble_eq_true rfl⟩) (wk_preVC hG hP hD 3 4 rfl rfl (by decide)) rfl rfl hl.1 rfl (lv_room (Nat.le_of_ble_eq_true rfl)) dX3_mailAt_21 ⟨Nat.le_of_ble_eq_true rfl, Nat.le_of_ble_eq_true rfl⟩) hS (fun locs hS => ?_)
        refine lv_if_eq (tgt := 38) hx hb dX3_mailAt_24 (by decide) (fun c2 => ?_) (fun c2 => ?_)
        · replace hM := (if_pos c2).symm.trans hM
          exact hB38 u3 u4  _ _ hM hS (lv_sub hl [0, 1, 2, 3, 4] rfl)
        · replace hM := (if_neg c2).symm.trans hM
          refine lv_iload_n hx hb dX3_mailAt_27 rfl (lv_at hl 3 rfl) ?_
          refine lv_iload_n hx hb dX3_mailAt_28 rfl (lv_at hl 2 rfl) ?_
          refine lv_icmp_ne (tgt := 35) hx hb dX3_mailAt_29 (by decide) (fun c3 => ?_) (fun c3 => ?_)
          · replace hM := (if_neg c3).symm.trans hM
            refine lv_iinc (v := (u3 + 1)) (lv' := [(3, .int (u3 + 1)), (0, .ref (g 0)), (1, .int p1), (2, .int p2), (4, .int u4)]) hx hb dX3_mailAt_35 hl (k := 3) rfl rfl (by decide) rfl (fun ls hl => ?_)
            exact hB38 (u3 + 1) u4  _ _ hM hS (lv_sub hl [1, 2, 3, 0, 4] rfl)
          · replace hM := (if_pos c3).symm.trans hM
            refine lv_iload hx hb dX3_mailAt_32 (lv_at hl 4 rfl) ?_
            replace hM := Option.some.inj hM
            subst hM
            exact wk_retPi hx hb hr hlocks hQ rfl rfl hS dX3_mailAt_34
  unfold M_X3_mailAt at hM
  refine lv_iconst (v := (0 : Int32)) hx hb dX3_mailAt_0 (by decide) ?_
  refine lv_istore_n (lv' := [(3, .int (0 : Int32)), (0, .ref (g 0)), (1, .int p1), (2, .int p2)]) hx hb dX3_mailAt_1 rfl hl (by decide) rfl (fun ls hl => ?_)
  refine lv_iconst (v := (0 : Int32)) hx hb dX3_mailAt_2 (by decide) ?_
  refine lv_istore (lv' := [(4, .int (0 : Int32)), (3, .int (0 : Int32)), (0, .ref (g 0)), (1, .int p1), (2, .int p2)]) hx hb dX3_mailAt_3 hl (by decide) rfl (fun ls hl => ?_)
  exact hL5 64 (0 : Int32) (0 : Int32)  _ _ hM hS (lv_sub hl [2, 3, 4, 1, 0] rfl)
set_option maxHeartbeats 4000000 in
set_option maxRecDepth 100000 in
theorem c_X3_controllerFact (l : Launch) (dC : Nat → ClassId) (dI : Nat → Nat → Nat) (cI cD cJ : ClassId) (kk : wAd) (g : Nat → Nat) (x : DS) (p1 : Int32) (p2 : Int32) (out : Int32) (hM : M_X3_controllerFact x p1 p2 = some out) : CP l yX3_controllerFact wsX3_controllerFact ({ frames := 3, cells := 0, slots := 0, locals := 68 } : Room) dC dI (wTys cI cD cJ) [.ref (g 0), .int p1, .int p2] (wDrv cI g x) (some (.int out)) := by
  refine wk_enterP (cc := cX3_controllerFact) (maxL := 3) (ret := (some .int)) (by decide) rfl (Nat.le_of_ble_eq_true rfl) ?_
  intro p e s m below meth c A Q ls hB hP hD hA hQ hl
  obtain ⟨hx, hb, hml, hr, hts, hown, hname, hlocks, hG⟩ := hB
  have hown : s.vm.findClass RX3 = some m.cls := hown
  have hS : va_S A s.heap s.heap [] := va_S.rf
  have hl : lv_has ls 3 [(0, .ref (g 0)), (1, .int p1), (2, .int p2)] := hl
  generalize ([] : List Loc) = locs at hS ⊢
  have hB22 : ∀ (w0 : Int32) (locs : List Loc) (ls : Array Slot), M_X3_controllerFact_22 x p1 p2 w0 = some out → va_S A s.heap s.heap locs → lv_has ls 3 [] → W p l e ({ frames := 3, cells := 0, slots := 0, locals := 68 } : Room) s m ([.ref (g 0), .int p1, .int p2] : List Value).toArray below meth c s.heap locs 0 0 Q (F0 m 22 ls [.int w0]) := by
    intro w0 locs ls hM hS hl
    unfold M_X3_controllerFact_22 at hM
    replace hM := Option.some.inj hM
    subst hM
    exact wk_retPi hx hb hr hlocks hQ rfl rfl hS dX3_controllerFact_22
  unfold M_X3_controllerFact at hM
  refine lv_iload_n hx hb dX3_controllerFact_0 rfl (lv_at hl 2 rfl) ?_
  refine lv_iconst (v := (4 : Int32)) hx hb dX3_controllerFact_1 (by decide) ?_
  refine lv_icmp_ne (tgt := 13) hx hb dX3_controllerFact_2 (by decide) (fun c1 => ?_) (fun c1 => ?_)
  · replace hM := (if_neg c1).symm.trans hM
    refine lv_aload_n hx hb dX3_controllerFact_13 rfl (lv_at hl 0 rfl) ?_
    refine lv_iload_n hx hb dX3_controllerFact_14 rfl (lv_at hl 1 rfl) ?_
    refine wk_callP (va_runV (As := [.int p1]) (rest := []) ⟨hx, hb, hml, hown, hts⟩ (c_X3_controllerAt l dC dI cI cD cJ kk g x p1 s.heap) (cwV 1 hts gX3_controllerFact_X3_controllerAt rfl rfl rfl (by decide +kernel) ⟨Nat.le_of_ble_eq_true rfl, Nat.le_of_ble_eq_true rfl⟩) (wk_preV (ci := 2) (q0 := 0) hG hP hD [0, 1, 2, 3, 4] rfl rfl rfl rfl) rfl rfl hl.1 rfl (lv_room (Nat.le_of_ble_eq_true rfl)) dX3_controllerFact_15 ⟨Nat.le_of_ble_eq_true rfl, Nat.le_of_ble_eq_true rfl⟩) hS (fun locs hS => ?_)
    refine lv_iload_n hx hb dX3_controllerFact_18 rfl (lv_at hl 2 rfl) ?_
    refine wk_callP (va_runV (As := [.int p2]) (rest := []) ⟨hx, hb, hml, hown, hts⟩ (c_X2_ownFact l dC dI cI cD cJ kk (ctlA g p1) (dCtl x p1) p2 _ rfl s.heap) (cwV 1 hts gX3_controllerFact_X2_ownFact rfl rfl rfl (by decide +kernel) ⟨Nat.le_of_ble_eq_true rfl, Nat.le_of_ble_eq_true rfl⟩) (wk_preVC hG hP hD 3 4 rfl rfl (by decide)) rfl rfl hl.1 rfl (lv_room (Nat.le_of_ble_eq_true rfl)) dX3_controllerFact_19 ⟨Nat.le_of_ble_eq_true rfl, Nat.le_of_ble_eq_true rfl⟩) hS (fun locs hS => ?_)
    exact hB22 (M_X2_ownFact (dCtl x p1) p2)  _ _ hM hS (lv_sub hl [] rfl)
  · replace hM := (if_pos c1).symm.trans hM
    refine lv_aload_n hx hb dX3_controllerFact_5 rfl (lv_at hl 0 rfl) ?_
    refine lv_iload_n hx hb dX3_controllerFact_6 rfl (lv_at hl 1 rfl) ?_
    obtain ⟨r2, hr2, hM⟩ := ob hM
    refine wk_callP (va_runV (As := [.int p1]) (rest := []) ⟨hx, hb, hml, hown, hts⟩ (c_X3_arrivedMail l dC dI cI cD cJ kk g x p1 _ hr2 s.heap) (cwV 1 hts gX3_controllerFact_X3_arrivedMail rfl rfl rfl (by decide +kernel) ⟨Nat.le_of_ble_eq_true rfl, Nat.le_of_ble_eq_true rfl⟩) (wk_preV (ci := 2) (q0 := 0) hG hP hD [0, 1, 2, 3, 4] rfl rfl rfl rfl) rfl rfl hl.1 rfl (lv_room (Nat.le_of_ble_eq_true rfl)) dX3_controllerFact_7 ⟨Nat.le_of_ble_eq_true rfl, Nat.le_of_ble_eq_true rfl⟩) hS (fun locs hS => ?_)
    refine lv_goto (tgt := 22) hx hb dX3_controllerFact_10 (by decide) ?_
    exact hB22 r2  _ _ hM hS (lv_sub hl [] rfl)
set_option maxHeartbeats 4000000 in
set_option maxRecDepth 100000 in
theorem c_X3_sumOfValues (l : Launch) (dC : Nat → ClassId) (dI : Nat → Nat → Nat) (cI cD cJ : ClassId) (kk : wAd) (g : Nat → Nat) (x : DS) (out : Int32) (hM : M_X3_sumOfValues x = some out) : CP l yX3_sumOfValues wsX3_sumOfValues ({ frames := 1, cells := 0, slots := 0, locals := 21 } : Room) dC dI (wTys cI cD cJ) [.ref (g 0)] (wDrv cI g x) (some (.int out)) := by
  refine wk_enterP (cc := cX3_sumOfValues) (maxL := 3) (ret := (some .int)) (by decide) rfl (Nat.le_of_ble_eq_true rfl) ?_
  intro p e s m below meth c A Q ls hB hP hD hA hQ hl
  obtain ⟨hx, hb, hml, hr, hts, hown, hname, hlocks, hG⟩ := hB
  have hown : s.vm.findClass RX3 = some m.cls := hown
  have hS : va_S A s.heap s.heap [] := va_S.rf
  have hl : lv_has ls 3 [(0, .ref (g 0))] := hl
  have inX3 : ∀ w ∈ wsX30, w ∈ wsX3_sumOfValues := fun _ h => List.mem_cons_of_mem _ (List.mem_append_right _ h)
  generalize ([] : List Loc) = locs at hS ⊢
  have hL4 : ∀ (n4 : Nat) (u1 : Int32) (u2 : Int32) (locs : List Loc) (ls : Array Slot), lpF (M_X3_sumOfValues_4s x) n4 (u1, u2) = some out → va_S A s.heap s.heap locs → lv_has ls 3 [(0, .ref (g 0)), (1, .int u1), (2, .int u2)] → W p l e ({ frames := 1, cells := 0, slots := 0, locals := 21 } : Room) s m ([.ref (g 0)] : List Value).toArray below meth c s.heap locs 0 0 Q (F0 m 4 ls []) := by
    intro n4
    induction n4 with
    | zero => intro u1 u2 locs ls hM; exact lpF_0 hM
    | succ n4 ih4 =>
      intro u1 u2 locs ls hM hS hl
      replace hM : M_X3_sumOfValues_4s x (lpF (M_X3_sumOfValues_4s x) n4) (u1, u2) = some out := hM
      unfold M_X3_sumOfValues_4s at hM
      try dsimp only at hM
      refine lv_iload_n hx hb dX3_sumOfValues_4 rfl (lv_at hl 2 rfl) ?_
      refine lv_bipush (v := (16 : Int32)) hx hb dX3_sumOfValues_5 (by decide) ?_
      refine lv_icmp_ge (tgt := 27) hx hb dX3_sumOfValues_7 (by decide) (fun c1 => ?_) (fun c1 => ?_)
      · replace hM := (if_pos c1).symm.trans hM
        refine lv_iload_n hx hb dX3_sumOfValues_27 rfl (lv_at hl 1 rfl) ?_
        replace hM := Option.some.inj hM
        subst hM
        exact wk_retPi hx hb hr hlocks hQ rfl rfl hS dX3_sumOfValues_28
      · replace hM := (if_neg c1).symm.trans hM
        refine lv_iload_n hx hb dX3_sumOfValues_10 rfl (lv_at hl 1 rfl) ?_
        refine lv_aload_n hx hb dX3_sumOfValues_11 rfl (lv_at hl 0 rfl) ?_
        refine va_get (D := (dC, dI)) (ci := 2) (v := .ref (g 1)) (C := RX3) (T := TX3) (N := 8) hx hb hts inX3 hown hG.1 hP 0 rfl rfl 0 (by decide) (hts (.fieldLink RX3 9 "WokenDrive$Drive" "values" "[I") (List.mem_of_getElem? (i := 1) rfl)) (fun _ h9 => h9) rfl dX3_sumOfValues_12 ?_
        refine lv_iload_n hx hb dX3_sumOfValues_15 rfl (lv_at hl 2 rfl) ?_
        refine wk_callP (va_runSN (As := [.ref (g 1), .int u2]) (rest := [.int u1]) ⟨hx, hb, hml, hown, hts⟩ (c_X6_at l dC dI cI cD cJ kk (g 1) 16 (ds_val x) u2 (by decide) _ rfl s.heap) ⟨va_cnB 2 hts gX3_sumOfValues_X6_at_n162 rfl rfl rfl (hG.2 _ (List.mem_of_getElem? (i := 6) rfl)) (hts (.initialized RX6) (List.mem_of_getElem? (i := 3) rfl)) (by decide +kernel) ⟨Nat.le_of_ble_eq_true rfl, Nat.le_of_ble_eq_true rfl⟩, hts (.static yX6_at) (List.mem_of_getElem? (i := 2) rfl), trivial⟩ (wk_preS hG hP hD [1] rfl rfl) rfl rfl hl.1 rfl (lv_room (Nat.le_of_ble_eq_true rfl)) dX3_sumOfValues_16 ⟨Nat.le_of_ble_eq_true rfl, Nat.le_of_ble_eq_true rfl⟩) hS (fun locs hS => ?_)
        refine lv_iadd hx hb dX3_sumOfValues_19 ?_
        refine lv_istore_n (lv' := [(1, .int (u1 + (M_X6_at 16 (ds_val x) u2))), (0, .ref (g 0)), (2, .int u2)]) hx hb dX3_sumOfValues_20 rfl hl (by decide) rfl (fun ls hl => ?_)
        refine lv_iinc (v := (u2 + 1)) (lv' := [(2, .int (u2 + 1)), (1, .int (u1 + (M_X6_at 16 (ds_val x) u2))), (0, .ref (g 0))]) hx hb dX3_sumOfValues_21 hl (k := 2) rfl rfl (by decide) rfl (fun ls hl => ?_)
        refine lv_goto (tgt := 4) hx hb dX3_sumOfValues_24 (by decide) ?_
        exact ih4 (u1 + (M_X6_at 16 (ds_val x) u2)) (u2 + 1)  _ _ hM hS (lv_sub hl [2, 1, 0] rfl)
  unfold M_X3_sumOfValues at hM
  refine lv_iconst (v := (0 : Int32)) hx hb dX3_sumOfValues_0 (by decide) ?_
  refine lv_istore_n (lv' := [(1, .int (0 : Int32)), (0, .ref (g 0))]) hx hb dX3_sumOfValues_1 rfl hl (by decide) rfl (fun ls hl => ?_)
  refine lv_iconst (v := (0 : Int32)) hx hb dX3_sumOfValues_2 (by decide) ?_
  refine lv_istore_n (lv' := [(2, .int (0 : Int32)), (1, .int (0 : Int32)), (0, .ref (g 0))]) hx hb dX3_sumOfValues_3 rfl hl (by decide) rfl (fun ls hl => ?_)
  exact hL4 64 (0 : Int32) (0 : Int32)  _ _ hM hS (lv_sub hl [2, 1, 0] rfl)
set_option maxHeartbeats 4000000 in
set_option maxRecDepth 100000 in
theorem c_X3_wholeFact (l : Launch) (dC : Nat → ClassId) (dI : Nat → Nat → Nat) (cI cD cJ : ClassId) (kk : wAd) (g : Nat → Nat) (x : DS) (p1 : Int32) (out : Int32) (hM : M_X3_wholeFact x p1 = some out) : CP l yX3_wholeFact wsX3_wholeFact ({ frames := 2, cells := 0, slots := 0, locals := 46 } : Room) dC dI (wTys cI cD cJ) [.ref (g 0), .int p1] (wDrv cI g x) (some (.int out)) := by
  refine wk_enterP (cc := cX3_wholeFact) (maxL := 2) (ret := (some .int)) (by decide) rfl (Nat.le_of_ble_eq_true rfl) ?_
  intro p e s m below meth c A Q ls hB hP hD hA hQ hl
  obtain ⟨hx, hb, hml, hr, hts, hown, hname, hlocks, hG⟩ := hB
  have hown : s.vm.findClass RX3 = some m.cls := hown
  have hS : va_S A s.heap s.heap [] := va_S.rf
  have hl : lv_has ls 2 [(0, .ref (g 0)), (1, .int p1)] := hl
  have inX2 : ∀ w ∈ wsX20, w ∈ wsX3_wholeFact := fun _ h => List.mem_cons_of_mem _ (List.mem_append_right _ h)
  have inX3 : ∀ w ∈ wsX30, w ∈ wsX3_wholeFact := fun _ h => List.mem_cons_of_mem _ (List.mem_append_left _ (List.mem_append_right _ h))
  generalize ([] : List Loc) = locs at hS ⊢
  have hB146 : ∀ (w0 : Bool) (w1 : Bool) (locs : List Loc) (ls : Array Slot), M_X3_wholeFact_146 x p1 w0 w1 = some out → va_S A s.heap s.heap locs → lv_has ls 2 [] → W p l e ({ frames := 2, cells := 0, slots := 0, locals := 46 } : Room) s m ([.ref (g 0), .int p1] : List Value).toArray below meth c s.heap locs 0 0 Q (F0 m 146 ls [.int (zI w1), .int (zI w0)]) := by
    intro w0 w1 locs ls hM hS hl
    unfold M_X3_wholeFact_146 at hM
    refine lv_iadd hx hb dX3_wholeFact_146 ?_
    replace hM := Option.some.inj hM
    subst hM
    exact wk_retPi hx hb hr hlocks hQ rfl rfl hS dX3_wholeFact_147
  have hB131 : ∀ (w0 : Bool) (locs : List Loc) (ls : Array Slot), M_X3_wholeFact_131 x p1 w0 = some out → va_S A s.heap s.heap locs → lv_has ls 2 [(0, .ref (g 0))] → W p l e ({ frames := 2, cells := 0, slots := 0, locals := 46 } : Room) s m ([.ref (g 0), .int p1] : List Value).toArray below meth c s.heap locs 0 0 Q (F0 m 131 ls [.int (zI w0)]) := by
    intro w0 locs ls hM hS hl
    unfold M_X3_wholeFact_131 at hM
    refine lv_aload_n hx hb dX3_wholeFact_131 rfl (lv_at hl 0 rfl) ?_
    refine va_get (D := (dC, dI)) (ci := 2) (v := .ref (g 4)) (C := RX3) (T := TX3) (N := 8) hx hb hts inX3 hown hG.1 hP 0 rfl rfl 3 (by decide) (hts (.fieldLink RX3 25 "WokenDrive$Drive" "one" "LWokenDrive$Controller;") (List.mem_of_getElem? (i := 7) rfl)) (fun _ h9 => h9) rfl dX3_wholeFact_132 ?_
    refine va_get (D := (dC, dI)) (ci := 1) (v := .int (zI (cs_aw (ds_one x)))) (C := RX2) (T := TX2) (N := 8) hx hb hts inX2 hown hG.1 hP 4 rfl rfl 0 (by decide) (hts (.fieldLink RX3 80 "WokenDrive$Controller" "awake" "Z") (List.mem_of_getElem? (i := 8) rfl)) (fun _ h9 => h9) rfl dX3_wholeFact_135 ?_
    refine lv_if_eq (tgt := 145) hx hb dX3_wholeFact_138 (by decide) (fun c1 => ?_) (fun c1 => ?_)
    · replace hM := (if_pos c1).symm.trans hM
      refine lv_iconst (v := (0 : Int32)) hx hb dX3_wholeFact_145 (by decide) ?_
      exact hB146 w0 false  _ _ hM hS (lv_sub hl [] rfl)
    · replace hM := (if_neg c1).symm.trans hM
      refine lv_iconst (v := (1 : Int32)) hx hb dX3_wholeFact_141 (by decide) ?_
      refine lv_goto (tgt := 146) hx hb dX3_wholeFact_142 (by decide) ?_
      exact hB146 w0 true  _ _ hM hS (lv_sub hl [] rfl)
  unfold M_X3_wholeFact at hM
  refine lv_iload_n hx hb dX3_wholeFact_0 rfl (lv_at hl 1 rfl) ?_
  by_cases c1 : p1 = 0
  · replace hM := (if_pos c1).symm.trans hM
    refine lv_tableIn (off := 55) (tgt := 56) hx hb dX3_wholeFact_1 (by rw [c1]; decide) (by rw [c1]; decide) (by rw [c1]; decide) (by decide) ?_
    refine lv_aload_n hx hb dX3_wholeFact_56 rfl (lv_at hl 0 rfl) ?_
    refine va_get (D := (dC, dI)) (ci := 2) (v := .int (ds_ord x)) (C := RX3) (T := TX3) (N := 8) hx hb hts inX3 hown hG.1 hP 0 rfl rfl 4 (by decide) (hts (.fieldLink RX3 28 "WokenDrive$Drive" "orders" "I") (List.mem_of_getElem? (i := 1) rfl)) (fun _ h9 => h9) rfl dX3_wholeFact_57 ?_
    replace hM := Option.some.inj hM
    subst hM
    exact wk_retPi hx hb hr hlocks hQ rfl rfl hS dX3_wholeFact_60
  replace hM := (if_neg c1).symm.trans hM
  by_cases c2 : p1 = 1
  · replace hM := (if_pos c2).symm.trans hM
    refine lv_tableIn (off := 60) (tgt := 61) hx hb dX3_wholeFact_1 (by rw [c2]; decide) (by rw [c2]; decide) (by rw [c2]; decide) (by decide) ?_
    refine lv_aload_n hx hb dX3_wholeFact_61 rfl (lv_at hl 0 rfl) ?_
    refine lv_iconst (v := (0 : Int32)) hx hb dX3_wholeFact_62 (by decide) ?_
    obtain ⟨r3, hr3, hM⟩ := ob hM
    refine wk_callP (va_runV (As := [.int (0 : Int32)]) (rest := []) ⟨hx, hb, hml, hown, hts⟩ (c_X3_countIn l dC dI cI cD cJ kk g x (0 : Int32) _ hr3 s.heap) (cwV 1 hts gX3_wholeFact_X3_countIn rfl rfl rfl (by decide +kernel) ⟨Nat.le_of_ble_eq_true rfl, Nat.le_of_ble_eq_true rfl⟩) (wk_preV (ci := 2) (q0 := 0) hG hP hD [0, 1, 2, 3, 4] rfl rfl rfl rfl) rfl rfl hl.1 rfl (lv_room (Nat.le_of_ble_eq_true rfl)) dX3_wholeFact_63 ⟨Nat.le_of_ble_eq_true rfl, Nat.le_of_ble_eq_true rfl⟩) hS (fun locs hS => ?_)
    replace hM := Option.some.inj hM
    subst hM
    exact wk_retPi hx hb hr hlocks hQ rfl rfl hS dX3_wholeFact_66
  replace hM := (if_neg c2).symm.trans hM
  by_cases c4 : p1 = 2
  · replace hM := (if_pos c4).symm.trans hM
    refine lv_tableIn (off := 66) (tgt := 67) hx hb dX3_wholeFact_1 (by rw [c4]; decide) (by rw [c4]; decide) (by rw [c4]; decide) (by decide) ?_
    refine lv_aload_n hx hb dX3_wholeFact_67 rfl (lv_at hl 0 rfl) ?_
    refine lv_iconst (v := (1 : Int32)) hx hb dX3_wholeFact_68 (by decide) ?_
    obtain ⟨r5, hr5, hM⟩ := ob hM
    refine wk_callP (va_runV (As := [.int (1 : Int32)]) (rest := []) ⟨hx, hb, hml, hown, hts⟩ (c_X3_countIn l dC dI cI cD cJ kk g x (1 : Int32) _ hr5 s.heap) (cwV 1 hts gX3_wholeFact_X3_countIn rfl rfl rfl (by decide +kernel) ⟨Nat.le_of_ble_eq_true rfl, Nat.le_of_ble_eq_true rfl⟩) (wk_preV (ci := 2) (q0 := 0) hG hP hD [0, 1, 2, 3, 4] rfl rfl rfl rfl) rfl rfl hl.1 rfl (lv_room (Nat.le_of_ble_eq_true rfl)) dX3_wholeFact_69 ⟨Nat.le_of_ble_eq_true rfl, Nat.le_of_ble_eq_true rfl⟩) hS (fun locs hS => ?_)
    replace hM := Option.some.inj hM
    subst hM
    exact wk_retPi hx hb hr hlocks hQ rfl rfl hS dX3_wholeFact_72
  replace hM := (if_neg c4).symm.trans hM
  by_cases c6 : p1 = 3
  · replace hM := (if_pos c6).symm.trans hM
    refine lv_tableIn (off := 72) (tgt := 73) hx hb dX3_wholeFact_1 (by rw [c6]; decide) (by rw [c6]; decide) (by rw [c6]; decide) (by decide) ?_
    refine lv_aload_n hx hb dX3_wholeFact_73 rfl (lv_at hl 0 rfl) ?_
    refine lv_iconst (v := (2 : Int32)) hx hb dX3_wholeFact_74 (by decide) ?_
    obtain ⟨r7, hr7, hM⟩ := ob hM
    refine wk_callP (va_runV (As := [.int (2 : Int32)]) (rest := []) ⟨hx, hb, hml, hown, hts⟩ (c_X3_countIn l dC dI cI cD cJ kk g x (2 : Int32) _ hr7 s.heap) (cwV 1 hts gX3_wholeFact_X3_countIn rfl rfl rfl (by decide +kernel) ⟨Nat.le_of_ble_eq_true rfl, Nat.le_of_ble_eq_true rfl⟩) (wk_preV (ci := 2) (q0 := 0) hG hP hD [0, 1, 2, 3, 4] rfl rfl rfl rfl) rfl rfl hl.1 rfl (lv_room (Nat.le_of_ble_eq_true rfl)) dX3_wholeFact_75 ⟨Nat.le_of_ble_eq_true rfl, Nat.le_of_ble_eq_true rfl⟩) hS (fun locs hS => ?_)
    replace hM := Option.some.inj hM
    subst hM
    exact wk_retPi hx hb hr hlocks hQ rfl rfl hS dX3_wholeFact_78
  replace hM := (if_neg c6).symm.trans hM
  by_cases c8 : p1 = 4
  · replace hM := (if_pos c8).symm.trans hM
    refine lv_tableIn (off := 78) (tgt := 79) hx hb dX3_wholeFact_1 (by rw [c8]; decide) (by rw [c8]; decide) (by rw [c8]; decide) (by decide) ?_
    refine lv_aload_n hx hb dX3_wholeFact_79 rfl (lv_at hl 0 rfl) ?_
    refine lv_iconst (v := (3 : Int32)) hx hb dX3_wholeFact_80 (by decide) ?_
    obtain ⟨r9, hr9, hM⟩ := ob hM
    refine wk_callP (va_runV (As := [.int (3 : Int32)]) (rest := []) ⟨hx, hb, hml, hown, hts⟩ (c_X3_countIn l dC dI cI cD cJ kk g x (3 : Int32) _ hr9 s.heap) (cwV 1 hts gX3_wholeFact_X3_countIn rfl rfl rfl (by decide +kernel) ⟨Nat.le_of_ble_eq_true rfl, Nat.le_of_ble_eq_true rfl⟩) (wk_preV (ci := 2) (q0 := 0) hG hP hD [0, 1, 2, 3, 4] rfl rfl rfl rfl) rfl rfl hl.1 rfl (lv_room (Nat.le_of_ble_eq_true rfl)) dX3_wholeFact_81 ⟨Nat.le_of_ble_eq_true rfl, Nat.le_of_ble_eq_true rfl⟩) hS (fun locs hS => ?_)
    replace hM := Option.some.inj hM
    subst hM
    exact wk_retPi hx hb hr hlocks hQ rfl rfl hS dX3_wholeFact_84
  replace hM := (if_neg c8).symm.trans hM
  by_cases c10 : p1 = 5
  · replace hM := (if_pos c10).symm.trans hM
    refine lv_tableIn (off := 84) (tgt := 85) hx hb dX3_wholeFact_1 (by rw [c10]; decide) (by rw [c10]; decide) (by rw [c10]; decide) (by decide) ?_
    refine lv_aload_n hx hb dX3_wholeFact_85 rfl (lv_at hl 0 rfl) ?_
    refine va_get (D := (dC, dI)) (ci := 2) (v := .int (ds_tick x)) (C := RX3) (T := TX3) (N := 8) hx hb hts inX3 hown hG.1 hP 0 rfl rfl 5 (by decide) (hts (.fieldLink RX3 32 "WokenDrive$Drive" "tick" "I") (List.mem_of_getElem? (i := 2) rfl)) (fun _ h9 => h9) rfl dX3_wholeFact_86 ?_
    replace hM := Option.some.inj hM
    subst hM
    exact wk_retPi hx hb hr hlocks hQ rfl rfl hS dX3_wholeFact_89
  replace hM := (if_neg c10).symm.trans hM
  by_cases c11 : p1 = 6
  · replace hM := (if_pos c11).symm.trans hM
    refine lv_tableIn (off := 89) (tgt := 90) hx hb dX3_wholeFact_1 (by rw [c11]; decide) (by rw [c11]; decide) (by rw [c11]; decide) (by decide) ?_
    refine lv_aload_n hx hb dX3_wholeFact_90 rfl (lv_at hl 0 rfl) ?_
    refine va_get (D := (dC, dI)) (ci := 2) (v := .int (ds_mo x)) (C := RX3) (T := TX3) (N := 8) hx hb hts inX3 hown hG.1 hP 0 rfl rfl 6 (by decide) (hts (.fieldLink RX3 35 "WokenDrive$Drive" "markerOrder" "I") (List.mem_of_getElem? (i := 3) rfl)) (fun _ h9 => h9) rfl dX3_wholeFact_91 ?_
    replace hM := Option.some.inj hM
    subst hM
    exact wk_retPi hx hb hr hlocks hQ rfl rfl hS dX3_wholeFact_94
  replace hM := (if_neg c11).symm.trans hM
  by_cases c12 : p1 = 7
  · replace hM := (if_pos c12).symm.trans hM
    refine lv_tableIn (off := 94) (tgt := 95) hx hb dX3_wholeFact_1 (by rw [c12]; decide) (by rw [c12]; decide) (by rw [c12]; decide) (by decide) ?_
    refine lv_aload_n hx hb dX3_wholeFact_95 rfl (lv_at hl 0 rfl) ?_
    refine va_get (D := (dC, dI)) (ci := 2) (v := .int (ds_mv x)) (C := RX3) (T := TX3) (N := 8) hx hb hts inX3 hown hG.1 hP 0 rfl rfl 7 (by decide) (hts (.fieldLink RX3 38 "WokenDrive$Drive" "markerValue" "I") (List.mem_of_getElem? (i := 4) rfl)) (fun _ h9 => h9) rfl dX3_wholeFact_96 ?_
    replace hM := Option.some.inj hM
    subst hM
    exact wk_retPi hx hb hr hlocks hQ rfl rfl hS dX3_wholeFact_99
  replace hM := (if_neg c12).symm.trans hM
  by_cases c13 : p1 = 8
  · replace hM := (if_pos c13).symm.trans hM
    refine lv_tableIn (off := 99) (tgt := 100) hx hb dX3_wholeFact_1 (by rw [c13]; decide) (by rw [c13]; decide) (by rw [c13]; decide) (by decide) ?_
    refine lv_aload_n hx hb dX3_wholeFact_100 rfl (lv_at hl 0 rfl) ?_
    refine va_get (D := (dC, dI)) (ci := 2) (v := .ref (g 3)) (C := RX3) (T := TX3) (N := 8) hx hb hts inX3 hown hG.1 hP 0 rfl rfl 2 (by decide) (hts (.fieldLink RX3 21 "WokenDrive$Drive" "zero" "LWokenDrive$Controller;") (List.mem_of_getElem? (i := 5) rfl)) (fun _ h9 => h9) rfl dX3_wholeFact_101 ?_
    refine va_get (D := (dC, dI)) (ci := 1) (v := .int (cs_qua (ds_zero x))) (C := RX2) (T := TX2) (N := 8) hx hb hts inX2 hown hG.1 hP 3 rfl rfl 6 (by decide) (hts (.fieldLink RX3 172 "WokenDrive$Controller" "quarrels" "I") (List.mem_of_getElem? (i := 6) rfl)) (fun _ h9 => h9) rfl dX3_wholeFact_104 ?_
    refine lv_aload_n hx hb dX3_wholeFact_107 rfl (lv_at hl 0 rfl) ?_
    refine va_get (D := (dC, dI)) (ci := 2) (v := .ref (g 4)) (C := RX3) (T := TX3) (N := 8) hx hb hts inX3 hown hG.1 hP 0 rfl rfl 3 (by decide) (hts (.fieldLink RX3 25 "WokenDrive$Drive" "one" "LWokenDrive$Controller;") (List.mem_of_getElem? (i := 7) rfl)) (fun _ h9 => h9) rfl dX3_wholeFact_108 ?_
    refine va_get (D := (dC, dI)) (ci := 1) (v := .int (cs_qua (ds_one x))) (C := RX2) (T := TX2) (N := 8) hx hb hts inX2 hown hG.1 hP 4 rfl rfl 6 (by decide) (hts (.fieldLink RX3 172 "WokenDrive$Controller" "quarrels" "I") (List.mem_of_getElem? (i := 6) rfl)) (fun _ h9 => h9) rfl dX3_wholeFact_111 ?_
    refine lv_iadd hx hb dX3_wholeFact_114 ?_
    replace hM := Option.some.inj hM
    subst hM
    exact wk_retPi hx hb hr hlocks hQ rfl rfl hS dX3_wholeFact_115
  replace hM := (if_neg c13).symm.trans hM
  by_cases c14 : p1 = 9
  · replace hM := (if_pos c14).symm.trans hM
    refine lv_tableIn (off := 115) (tgt := 116) hx hb dX3_wholeFact_1 (by rw [c14]; decide) (by rw [c14]; decide) (by rw [c14]; decide) (by decide) ?_
    refine lv_aload_n hx hb dX3_wholeFact_116 rfl (lv_at hl 0 rfl) ?_
    refine va_get (D := (dC, dI)) (ci := 2) (v := .ref (g 3)) (C := RX3) (T := TX3) (N := 8) hx hb hts inX3 hown hG.1 hP 0 rfl rfl 2 (by decide) (hts (.fieldLink RX3 21 "WokenDrive$Drive" "zero" "LWokenDrive$Controller;") (List.mem_of_getElem? (i := 5) rfl)) (fun _ h9 => h9) rfl dX3_wholeFact_117 ?_
    refine va_get (D := (dC, dI)) (ci := 1) (v := .int (zI (cs_aw (ds_zero x)))) (C := RX2) (T := TX2) (N := 8) hx hb hts inX2 hown hG.1 hP 3 rfl rfl 0 (by decide) (hts (.fieldLink RX3 80 "WokenDrive$Controller" "awake" "Z") (List.mem_of_getElem? (i := 8) rfl)) (fun _ h9 => h9) rfl dX3_wholeFact_120 ?_
    refine lv_if_eq (tgt := 130) hx hb dX3_wholeFact_123 (by decide) (fun c15 => ?_) (fun c15 => ?_)
    · replace hM := (if_pos c15).symm.trans hM
      refine lv_iconst (v := (0 : Int32)) hx hb dX3_wholeFact_130 (by decide) ?_
      exact hB131 false  _ _ hM hS (lv_sub hl [0] rfl)
    · replace hM := (if_neg c15).symm.trans hM
      refine lv_iconst (v := (1 : Int32)) hx hb dX3_wholeFact_126 (by decide) ?_
      refine lv_goto (tgt := 131) hx hb dX3_wholeFact_127 (by decide) ?_
      exact hB131 true  _ _ hM hS (lv_sub hl [0] rfl)
  replace hM := (if_neg c14).symm.trans hM
  have ec1 : (p1).toInt ≠ 0 := fun q => c1 (Int32.toInt_inj.mp (q.trans (by decide)))
  have ec2 : (p1).toInt ≠ 1 := fun q => c2 (Int32.toInt_inj.mp (q.trans (by decide)))
  have ec4 : (p1).toInt ≠ 2 := fun q => c4 (Int32.toInt_inj.mp (q.trans (by decide)))
  have ec6 : (p1).toInt ≠ 3 := fun q => c6 (Int32.toInt_inj.mp (q.trans (by decide)))
  have ec8 : (p1).toInt ≠ 4 := fun q => c8 (Int32.toInt_inj.mp (q.trans (by decide)))
  have ec10 : (p1).toInt ≠ 5 := fun q => c10 (Int32.toInt_inj.mp (q.trans (by decide)))
  have ec11 : (p1).toInt ≠ 6 := fun q => c11 (Int32.toInt_inj.mp (q.trans (by decide)))
  have ec12 : (p1).toInt ≠ 7 := fun q => c12 (Int32.toInt_inj.mp (q.trans (by decide)))
  have ec13 : (p1).toInt ≠ 8 := fun q => c13 (Int32.toInt_inj.mp (q.trans (by decide)))
  have ec14 : (p1).toInt ≠ 9 := fun q => c14 (Int32.toInt_inj.mp (q.trans (by decide)))
  refine lv_tableOut (tgt := 148) hx hb dX3_wholeFact_1 (by omega) (by decide) ?_
  refine lv_aload_n hx hb dX3_wholeFact_148 rfl (lv_at hl 0 rfl) ?_
  obtain ⟨r16, hr16, hM⟩ := ob hM
  refine wk_callP (va_runV (As := []) (rest := []) ⟨hx, hb, hml, hown, hts⟩ (c_X3_sumOfValues l dC dI cI cD cJ kk g x _ hr16 s.heap) (cwV 0 hts gX3_wholeFact_X3_sumOfValues rfl rfl rfl (by decide +kernel) ⟨Nat.le_of_ble_eq_true rfl, Nat.le_of_ble_eq_true rfl⟩) (wk_preV (ci := 2) (q0 := 0) hG hP hD [0, 1, 2, 3, 4] rfl rfl rfl rfl) rfl rfl hl.1 rfl (lv_room (Nat.le_of_ble_eq_true rfl)) dX3_wholeFact_149 ⟨Nat.le_of_ble_eq_true rfl, Nat.le_of_ble_eq_true rfl⟩) hS (fun locs hS => ?_)
  replace hM := Option.some.inj hM
  subst hM
  exact wk_retPi hx hb hr hlocks hQ rfl rfl hS dX3_wholeFact_152
set_option maxHeartbeats 4000000 in
set_option maxRecDepth 100000 in
theorem c_X3_become (l : Launch) (dC : Nat → ClassId) (dI : Nat → Nat → Nat) (cI cD cJ : ClassId) (kk : wAd) (g : Nat → Nat) (g1 : Nat → Nat) (x : DS) (x1 : DS) (out : DS) (hM : M_X3_become x x1 = out) : CM l yX3_become wsX3_become ({ frames := 1, cells := 0, slots := 0, locals := 60 } : Room) dC dI (wTys cI cD cJ) [.ref (g 0), .ref (g1 0)] (wDrv cI g x ++ wDrv cI g1 x1) none (wDrv cI g out ++ wDrv cI g1 x1) 0 0 := by
  refine wk_enterM (cc := cX3_become) (maxL := 2) (ret := none) (by decide) rfl (Nat.le_of_ble_eq_true rfl) ?_
  intro p e s m below meth c A Q ls hB hA hP hD hQ hl
  obtain ⟨hx, hb, hml, hr, hts, hown, hname, hlocks, hG⟩ := hB
  have hown : s.vm.findClass RX3 = some m.cls := hown
  have hS : va_S A s.heap s.heap [] := va_S.rf
  have hl : lv_has ls 2 [(0, .ref (g 0)), (1, .ref (g1 0))] := hl
  have inX3 : ∀ w ∈ wsX30, w ∈ wsX3_become := fun _ h => List.mem_cons_of_mem _ (List.mem_append_left _ (List.mem_append_right _ h))
  obtain ⟨H, hH⟩ : ∃ z, z = s.heap := ⟨_, rfl⟩
  have hP : va_P (dC, dI) vwCl (wDrv cI g x ++ wDrv cI g1 x1) H := by rw [hH]; exact hP
  have hS : va_S A s.heap H [] := by rw [hH]; exact hS
  refine wk_at hH ?_
  generalize ([] : List Loc) = locs at hS ⊢
  unfold M_X3_become at hM
  refine lv_aload_n hx hb dX3_become_0 rfl (lv_at hl 1 rfl) ?_
  refine va_get (D := (dC, dI)) (ci := 2) (v := .ref (g1 1)) (C := RX3) (T := TX3) (N := 8) hx hb hts inX3 hown hG.1 hP 5 rfl rfl 0 (by decide) (hts (.fieldLink RX3 9 "WokenDrive$Drive" "values" "[I") (List.mem_of_getElem? (i := 1) rfl)) (fun _ h9 => h9) rfl dX3_become_1 ?_
  refine lv_iconst (v := (0 : Int32)) hx hb dX3_become_4 (by decide) ?_
  refine lv_aload_n hx hb dX3_become_5 rfl (lv_at hl 0 rfl) ?_
  refine va_get (D := (dC, dI)) (ci := 2) (v := .ref (g 1)) (C := RX3) (T := TX3) (N := 8) hx hb hts inX3 hown hG.1 hP 0 rfl rfl 0 (by decide) (hts (.fieldLink RX3 9 "WokenDrive$Drive" "values" "[I") (List.mem_of_getElem? (i := 1) rfl)) (fun _ h9 => h9) rfl dX3_become_6 ?_
  refine lv_iconst (v := (0 : Int32)) hx hb dX3_become_9 (by decide) ?_
  refine lv_bipush (v := (16 : Int32)) hx hb dX3_become_10 (by decide) ?_
  obtain ⟨y_1, hy_1, hM⟩ := tbE hM
  refine va_copyi hx hb (hml.trans hl.1.symm) hown (hts (.methodLink RX3 41 arraycopyName) (List.mem_of_getElem? (i := 2) rfl)) (hts (.native arraycopyName) (List.mem_of_getElem? (i := 3) rfl)) (hts (.static arraycopyName) (List.mem_of_getElem? (i := 4) rfl)) (hts (.initialized "java/lang/System") (List.mem_of_getElem? (i := 5) rfl)) hG.1 hP hD hS 6 1 0 0 rfl rfl rfl rfl rfl (by decide) (by decide) (by decide) (by decide) (by decide) (fun _ _ => rfl) (by decide +kernel) (by decide +kernel) dX3_become_12 (fun H locs hP hD hS => ?_)
  have hP : va_P (dC, dI) vwCl (wDrv cI g (ds_val_s x (va_cpy (ds_val x1) (ds_val x) 0 0 16)) ++ wDrv cI g1 x1) H := hP
  have hD : va_D A (wDrv cI g (ds_val_s x (va_cpy (ds_val x1) (ds_val x) 0 0 16)) ++ wDrv cI g1 x1) := hD
  have hP : va_P (dC, dI) vwCl (wDrv cI g y_1 ++ wDrv cI g1 x1) H := by rw [hy_1]; exact hP
  have hD : va_D A (wDrv cI g y_1 ++ wDrv cI g1 x1) := by rw [hy_1]; exact hD
  refine lv_aload_n hx hb dX3_become_15 rfl (lv_at hl 1 rfl) ?_
  refine va_get (D := (dC, dI)) (ci := 2) (v := .ref (g1 2)) (C := RX3) (T := TX3) (N := 8) hx hb hts inX3 hown hG.1 hP 5 rfl rfl 1 (by decide) (hts (.fieldLink RX3 15 "WokenDrive$Drive" "facts" "[I") (List.mem_of_getElem? (i := 6) rfl)) (fun _ h9 => h9) rfl dX3_become_16 ?_
  refine lv_iconst (v := (0 : Int32)) hx hb dX3_become_19 (by decide) ?_
  refine lv_aload_n hx hb dX3_become_20 rfl (lv_at hl 0 rfl) ?_
  refine va_get (D := (dC, dI)) (ci := 2) (v := .ref (g 2)) (C := RX3) (T := TX3) (N := 8) hx hb hts inX3 hown hG.1 hP 0 rfl rfl 1 (by decide) (hts (.fieldLink RX3 15 "WokenDrive$Drive" "facts" "[I") (List.mem_of_getElem? (i := 6) rfl)) (fun _ h9 => h9) rfl dX3_become_21 ?_
  refine lv_iconst (v := (0 : Int32)) hx hb dX3_become_24 (by decide) ?_
  refine lv_sipush (v := (480 : Int32)) hx hb dX3_become_25 (by decide) ?_
  obtain ⟨y_2, hy_2, hM⟩ := tbE hM
  refine va_copyi hx hb (hml.trans hl.1.symm) hown (hts (.methodLink RX3 41 arraycopyName) (List.mem_of_getElem? (i := 2) rfl)) (hts (.native arraycopyName) (List.mem_of_getElem? (i := 3) rfl)) (hts (.static arraycopyName) (List.mem_of_getElem? (i := 4) rfl)) (hts (.initialized "java/lang/System") (List.mem_of_getElem? (i := 5) rfl)) hG.1 hP hD hS 7 2 0 0 rfl rfl rfl rfl rfl (by decide) (by decide) (by decide) (by decide) (by decide) (fun _ _ => rfl) (by decide +kernel) (by decide +kernel) dX3_become_28 (fun H locs hP hD hS => ?_)
  have hP : va_P (dC, dI) vwCl (wDrv cI g (ds_fac_s y_1 (va_cpy (ds_fac x1) (ds_fac y_1) 0 0 480)) ++ wDrv cI g1 x1) H := hP
  have hD : va_D A (wDrv cI g (ds_fac_s y_1 (va_cpy (ds_fac x1) (ds_fac y_1) 0 0 480)) ++ wDrv cI g1 x1) := hD
  have hP : va_P (dC, dI) vwCl (wDrv cI g y_2 ++ wDrv cI g1 x1) H := by rw [hy_2]; exact hP
  have hD : va_D A (wDrv cI g y_2 ++ wDrv cI g1 x1) := by rw [hy_2]; exact hD
  refine lv_aload_n hx hb dX3_become_31 rfl (lv_at hl 0 rfl) ?_
  refine va_get (D := (dC, dI)) (ci := 2) (v := .ref (g 3)) (C := RX3) (T := TX3) (N := 8) hx hb hts inX3 hown hG.1 hP 0 rfl rfl 2 (by decide) (hts (.fieldLink RX3 21 "WokenDrive$Drive" "zero" "LWokenDrive$Controller;") (List.mem_of_getElem? (i := 7) rfl)) (fun _ h9 => h9) rfl dX3_become_32 ?_
  refine lv_aload_n hx hb dX3_become_35 rfl (lv_at hl 1 rfl) ?_
  refine va_get (D := (dC, dI)) (ci := 2) (v := .ref (g1 3)) (C := RX3) (T := TX3) (N := 8) hx hb hts inX3 hown hG.1 hP 5 rfl rfl 2 (by decide) (hts (.fieldLink RX3 21 "WokenDrive$Drive" "zero" "LWokenDrive$Controller;") (List.mem_of_getElem? (i := 7) rfl)) (fun _ h9 => h9) rfl dX3_become_36 ?_
  obtain ⟨r3, hr3, hM⟩ := tbE hM
  obtain ⟨y_4, hy_4, hM⟩ := tbE hM
  refine wk_callM (ws' := (wDrv cI g (ds_zero_s y_2 r3) ++ wDrv cI g1 x1)) (va_runV (As := [.ref (g1 3)]) (rest := []) ⟨hx, hb, hml, hown, hts⟩ (c_X2_become l dC dI cI cD cJ kk (g 3) (g1 3) (ds_zero y_2) (ds_zero x1) _ hr3.symm H) (cwV 1 hts gX3_become_X2_become rfl rfl rfl (by decide +kernel) ⟨Nat.le_of_ble_eq_true rfl, Nat.le_of_ble_eq_true rfl⟩) (wk_preV (ci := 1) (q0 := 3) hG hP hD [3, 8] rfl rfl rfl rfl) rfl rfl hl.1 rfl (lv_room (Nat.le_of_ble_eq_true rfl)) dX3_become_39 ⟨Nat.le_of_ble_eq_true rfl, Nat.le_of_ble_eq_true rfl⟩) hP hD hS hA [3, 8] [0, 1, 2, 4, 5, 6, 7, 9] [0, 1, 2, 8, 3, 4, 5, 6, 9, 7] rfl rfl rfl (by decide) rfl rfl (fun H locs hP hD hS => ?_)
  have hP : va_P (dC, dI) vwCl (wDrv cI g y_4 ++ wDrv cI g1 x1) H := by rw [hy_4]; exact hP
  have hD : va_D A (wDrv cI g y_4 ++ wDrv cI g1 x1) := by rw [hy_4]; exact hD
  refine lv_aload_n hx hb dX3_become_42 rfl (lv_at hl 0 rfl) ?_
  refine va_get (D := (dC, dI)) (ci := 2) (v := .ref (g 4)) (C := RX3) (T := TX3) (N := 8) hx hb hts inX3 hown hG.1 hP 0 rfl rfl 3 (by decide) (hts (.fieldLink RX3 25 "WokenDrive$Drive" "one" "LWokenDrive$Controller;") (List.mem_of_getElem? (i := 8) rfl)) (fun _ h9 => h9) rfl dX3_become_43 ?_
  refine lv_aload_n hx hb dX3_become_46 rfl (lv_at hl 1 rfl) ?_
  refine va_get (D := (dC, dI)) (ci := 2) (v := .ref (g1 4)) (C := RX3) (T := TX3) (N := 8) hx hb hts inX3 hown hG.1 hP 5 rfl rfl 3 (by decide) (hts (.fieldLink RX3 25 "WokenDrive$Drive" "one" "LWokenDrive$Controller;") (List.mem_of_getElem? (i := 8) rfl)) (fun _ h9 => h9) rfl dX3_become_47 ?_
  obtain ⟨r5, hr5, hM⟩ := tbE hM
  obtain ⟨y_6, hy_6, hM⟩ := tbE hM
  refine wk_callM (ws' := (wDrv cI g (ds_one_s y_4 r5) ++ wDrv cI g1 x1)) (va_runV (As := [.ref (g1 4)]) (rest := []) ⟨hx, hb, hml, hown, hts⟩ (c_X2_become l dC dI cI cD cJ kk (g 4) (g1 4) (ds_one y_4) (ds_one x1) _ hr5.symm H) (cwV 1 hts gX3_become_X2_become rfl rfl rfl (by decide +kernel) ⟨Nat.le_of_ble_eq_true rfl, Nat.le_of_ble_eq_true rfl⟩) (wk_preV (ci := 1) (q0 := 4) hG hP hD [4, 9] rfl rfl rfl rfl) rfl rfl hl.1 rfl (lv_room (Nat.le_of_ble_eq_true rfl)) dX3_become_50 ⟨Nat.le_of_ble_eq_true rfl, Nat.le_of_ble_eq_true rfl⟩) hP hD hS hA [4, 9] [0, 1, 2, 3, 5, 6, 7, 8] [0, 1, 2, 3, 8, 4, 5, 6, 7, 9] rfl rfl rfl (by decide) rfl rfl (fun H locs hP hD hS => ?_)
  have hP : va_P (dC, dI) vwCl (wDrv cI g y_6 ++ wDrv cI g1 x1) H := by rw [hy_6]; exact hP
  have hD : va_D A (wDrv cI g y_6 ++ wDrv cI g1 x1) := by rw [hy_6]; exact hD
  refine lv_aload_n hx hb dX3_become_53 rfl (lv_at hl 0 rfl) ?_
  refine lv_aload_n hx hb dX3_become_54 rfl (lv_at hl 1 rfl) ?_
  refine va_get (D := (dC, dI)) (ci := 2) (v := .int (ds_ord x1)) (C := RX3) (T := TX3) (N := 8) hx hb hts inX3 hown hG.1 hP 5 rfl rfl 4 (by decide) (hts (.fieldLink RX3 28 "WokenDrive$Drive" "orders" "I") (List.mem_of_getElem? (i := 9) rfl)) (fun _ h9 => h9) rfl dX3_become_55 ?_
  obtain ⟨y_7, hy_7, hM⟩ := tbE hM
  refine va_put (D := (dC, dI)) (ci := 2) (v := .int (ds_ord x1)) (ty := .int) (C := RX3) (T := TX3) (N := 8) hx hb hts inX3 tyX3 tyX3_ok nmX3 hown hG.1 hP hD hS 0 rfl rfl 4 (by decide) (hts (.fieldLink RX3 28 "WokenDrive$Drive" "orders" "I") (List.mem_of_getElem? (i := 9) rfl)) (fun _ h9 => h9) rfl (by decide +kernel) rfl rfl (Nat.le_of_ble_eq_true rfl) dX3_become_58 (fun H locs hP hD hS => ?_)
  have hP : va_P (dC, dI) vwCl (wDrv cI g y_7 ++ wDrv cI g1 x1) H := by rw [hy_7]; exact hP
  have hD : va_D A (wDrv cI g y_7 ++ wDrv cI g1 x1) := by rw [hy_7]; exact hD
  refine lv_aload_n hx hb dX3_become_61 rfl (lv_at hl 0 rfl) ?_
  refine lv_aload_n hx hb dX3_become_62 rfl (lv_at hl 1 rfl) ?_
  refine va_get (D := (dC, dI)) (ci := 2) (v := .int (ds_tick x1)) (C := RX3) (T := TX3) (N := 8) hx hb hts inX3 hown hG.1 hP 5 rfl rfl 5 (by decide) (hts (.fieldLink RX3 32 "WokenDrive$Drive" "tick" "I") (List.mem_of_getElem? (i := 10) rfl)) (fun _ h9 => h9) rfl dX3_become_63 ?_
  obtain ⟨y_8, hy_8, hM⟩ := tbE hM
  refine va_put (D := (dC, dI)) (ci := 2) (v := .int (ds_tick x1)) (ty := .int) (C := RX3) (T := TX3) (N := 8) hx hb hts inX3 tyX3 tyX3_ok nmX3 hown hG.1 hP hD hS 0 rfl rfl 5 (by decide) (hts (.fieldLink RX3 32 "WokenDrive$Drive" "tick" "I") (List.mem_of_getElem? (i := 10) rfl)) (fun _ h9 => h9) rfl (by decide +kernel) rfl rfl (Nat.le_of_ble_eq_true rfl) dX3_become_66 (fun H locs hP hD hS => ?_)
  have hP : va_P (dC, dI) vwCl (wDrv cI g y_8 ++ wDrv cI g1 x1) H := by rw [hy_8]; exact hP
  have hD : va_D A (wDrv cI g y_8 ++ wDrv cI g1 x1) := by rw [hy_8]; exact hD
  refine lv_aload_n hx hb dX3_become_69 rfl (lv_at hl 0 rfl) ?_
  refine lv_aload_n hx hb dX3_become_70 rfl (lv_at hl 1 rfl) ?_
  refine va_get (D := (dC, dI)) (ci := 2) (v := .int (ds_mo x1)) (C := RX3) (T := TX3) (N := 8) hx hb hts inX3 hown hG.1 hP 5 rfl rfl 6 (by decide) (hts (.fieldLink RX3 35 "WokenDrive$Drive" "markerOrder" "I") (List.mem_of_getElem? (i := 11) rfl)) (fun _ h9 => h9) rfl dX3_become_71 ?_
  obtain ⟨y_9, hy_9, hM⟩ := tbE hM
  refine va_put (D := (dC, dI)) (ci := 2) (v := .int (ds_mo x1)) (ty := .int) (C := RX3) (T := TX3) (N := 8) hx hb hts inX3 tyX3 tyX3_ok nmX3 hown hG.1 hP hD hS 0 rfl rfl 6 (by decide) (hts (.fieldLink RX3 35 "WokenDrive$Drive" "markerOrder" "I") (List.mem_of_getElem? (i := 11) rfl)) (fun _ h9 => h9) rfl (by decide +kernel) rfl rfl (Nat.le_of_ble_eq_true rfl) dX3_become_74 (fun H locs hP hD hS => ?_)
  have hP : va_P (dC, dI) vwCl (wDrv cI g y_9 ++ wDrv cI g1 x1) H := by rw [hy_9]; exact hP
  have hD : va_D A (wDrv cI g y_9 ++ wDrv cI g1 x1) := by rw [hy_9]; exact hD
  refine lv_aload_n hx hb dX3_become_77 rfl (lv_at hl 0 rfl) ?_
  refine lv_aload_n hx hb dX3_become_78 rfl (lv_at hl 1 rfl) ?_
  refine va_get (D := (dC, dI)) (ci := 2) (v := .int (ds_mv x1)) (C := RX3) (T := TX3) (N := 8) hx hb hts inX3 hown hG.1 hP 5 rfl rfl 7 (by decide) (hts (.fieldLink RX3 38 "WokenDrive$Drive" "markerValue" "I") (List.mem_of_getElem? (i := 12) rfl)) (fun _ h9 => h9) rfl dX3_become_79 ?_
  refine va_put (D := (dC, dI)) (ci := 2) (v := .int (ds_mv x1)) (ty := .int) (C := RX3) (T := TX3) (N := 8) hx hb hts inX3 tyX3 tyX3_ok nmX3 hown hG.1 hP hD hS 0 rfl rfl 7 (by decide) (hts (.fieldLink RX3 38 "WokenDrive$Drive" "markerValue" "I") (List.mem_of_getElem? (i := 12) rfl)) (fun _ h9 => h9) rfl (by decide +kernel) rfl rfl (Nat.le_of_ble_eq_true rfl) dX3_become_82 (fun H locs hP hD hS => ?_)
  have hP : va_P (dC, dI) vwCl (wDrv cI g (ds_mv_s y_9 (ds_mv x1)) ++ wDrv cI g1 x1) H := hP
  have hD : va_D A (wDrv cI g (ds_mv_s y_9 (ds_mv x1)) ++ wDrv cI g1 x1) := hD
  subst hM
  exact wk_retMv hx hb hr hlocks hQ rfl hP hD hS dX3_become_85
