/-! PART 15: the static helpers -/
set_option maxHeartbeats 4000000 in
set_option maxRecDepth 100000 in
theorem c_X6_at (l : Launch) (dC : Nat → ClassId) (dI : Nat → Nat → Nat) (cI cD cJ : ClassId) (kk : wAd) (a : Nat) (n : Nat) (x : (Nat → Int32)) (p1 : Int32) (hn : n < 2 ^ 31) (out : Int32) (hM : M_X6_at n x p1 = out) : CP l yX6_at wsX6_at ({ frames := 0, cells := 0, slots := 0, locals := 0 } : Room) dC dI (wTys cI cD cJ) [.ref a, .int p1] (wRow cI a n x) (some (.int out)) := by
  refine wk_enterP (cc := cX6_at) (maxL := 2) (ret := (some .int)) (by decide) rfl (Nat.le_of_ble_eq_true rfl) ?_
  intro p e s m below meth c A Q ls hB hP hD hA hQ hl
  obtain ⟨hx, hb, hml, hr, hts, hown, hname, hlocks, hG⟩ := hB
  have hown : s.vm.findClass RX6 = some m.cls := hown
  have hS : va_S A s.heap s.heap [] := va_S.rf
  have hl : lv_has ls 2 [(0, .ref a), (1, .int p1)] := hl
  generalize ([] : List Loc) = locs at hS ⊢
  have hB17 : ∀ (w0 : Int32) (locs : List Loc) (ls : Array Slot), M_X6_at_17 n x p1 w0 = out → va_S A s.heap s.heap locs → lv_has ls 2 [] → W p l e ({ frames := 0, cells := 0, slots := 0, locals := 0 } : Room) s m ([.ref a, .int p1] : List Value).toArray below meth c s.heap locs 0 0 Q (F0 m 17 ls [.int w0]) := by
    intro w0 locs ls hM hS hl
    unfold M_X6_at_17 at hM
    subst hM
    exact wk_retPi hx hb hr hlocks hQ rfl rfl hS dX6_at_17
  have hB16 : ∀  (locs : List Loc) (ls : Array Slot), M_X6_at_16 n x p1 = out → va_S A s.heap s.heap locs → lv_has ls 2 [] → W p l e ({ frames := 0, cells := 0, slots := 0, locals := 0 } : Room) s m ([.ref a, .int p1] : List Value).toArray below meth c s.heap locs 0 0 Q (F0 m 16 ls []) := by
    intro  locs ls hM hS hl
    unfold M_X6_at_16 at hM
    refine lv_iconst (v := (0 : Int32)) hx hb dX6_at_16 (by decide) ?_
    exact hB17 (0 : Int32)  _ _ hM hS (lv_sub hl [] rfl)
  unfold M_X6_at at hM
  refine lv_iload_n hx hb dX6_at_0 rfl (lv_at hl 1 rfl) ?_
  refine lv_if_lt (tgt := 16) hx hb dX6_at_1 (by decide) (fun c1 => ?_) (fun c1 => ?_)
  · replace hM := (if_pos c1).symm.trans hM
    exact hB16   _ _ hM hS (lv_sub hl [] rfl)
  · replace hM := (if_neg c1).symm.trans hM
    refine lv_iload_n hx hb dX6_at_4 rfl (lv_at hl 1 rfl) ?_
    refine lv_aload_n hx hb dX6_at_5 rfl (lv_at hl 0 rfl) ?_
    refine va_alen hx hb hG.1 hP 0 0 rfl rfl (v := (Int32.ofNat n)) rfl dX6_at_6 ?_
    refine lv_icmp_ge (tgt := 16) hx hb dX6_at_7 (by decide) (fun c2 => ?_) (fun c2 => ?_)
    · replace hM := (if_pos c2).symm.trans hM
      exact hB16   _ _ hM hS (lv_sub hl [] rfl)
    · replace hM := (if_neg c2).symm.trans hM
      refine lv_aload_n hx hb dX6_at_10 rfl (lv_at hl 0 rfl) ?_
      refine lv_iload_n hx hb dX6_at_11 rfl (lv_at hl 1 rfl) ?_
      refine va_iald hx hb hG.1 hP 0 0 rfl rfl (vp_path (n := n) c1 c2 hn) dX6_at_12 ?_
      refine lv_goto (tgt := 17) hx hb dX6_at_13 (by decide) ?_
      exact hB17 (x (p1).toNatClampNeg)  _ _ hM hS (lv_sub hl [] rfl)
set_option maxHeartbeats 4000000 in
set_option maxRecDepth 100000 in
theorem c_X6_put (l : Launch) (dC : Nat → ClassId) (dI : Nat → Nat → Nat) (cI cD cJ : ClassId) (kk : wAd) (a : Nat) (n : Nat) (x : (Nat → Int32)) (p1 : Int32) (p2 : Int32) (hn : n < 2 ^ 31) (out : (Nat → Int32)) (hM : M_X6_put n x p1 p2 = out) : CM l yX6_put wsX6_put ({ frames := 0, cells := 0, slots := 0, locals := 0 } : Room) dC dI (wTys cI cD cJ) [.ref a, .int p1, .int p2] (wRow cI a n x) none (wRow cI a n out) 0 0 := by
  refine wk_enterM (cc := cX6_put) (maxL := 3) (ret := none) (by decide) rfl (Nat.le_of_ble_eq_true rfl) ?_
  intro p e s m below meth c A Q ls hB hA hP hD hQ hl
  obtain ⟨hx, hb, hml, hr, hts, hown, hname, hlocks, hG⟩ := hB
  have hown : s.vm.findClass RX6 = some m.cls := hown
  have hS : va_S A s.heap s.heap [] := va_S.rf
  have hl : lv_has ls 3 [(0, .ref a), (1, .int p1), (2, .int p2)] := hl
  obtain ⟨H, hH⟩ : ∃ z, z = s.heap := ⟨_, rfl⟩
  have hP : va_P (dC, dI) vwCl (wRow cI a n x) H := by rw [hH]; exact hP
  have hS : va_S A s.heap H [] := by rw [hH]; exact hS
  refine wk_at hH ?_
  generalize ([] : List Loc) = locs at hS ⊢
  have hB14 : ∀ (y0 : (Nat → Int32)) (H : Heap) (locs : List Loc) (ls : Array Slot), M_X6_put_14 n x p1 p2 y0 = out → va_P (dC, dI) vwCl (wRow cI a n y0) H → va_D A (wRow cI a n y0) → va_S A s.heap H locs → lv_has ls 3 [] → W p l e ({ frames := 0, cells := 0, slots := 0, locals := 0 } : Room) s m ([.ref a, .int p1, .int p2] : List Value).toArray below meth c H locs 0 0 Q (F0 m 14 ls []) := by
    intro y0 H locs ls hM hP hD hS hl
    unfold M_X6_put_14 at hM
    subst hM
    exact wk_retMv hx hb hr hlocks hQ rfl hP hD hS dX6_put_14
  unfold M_X6_put at hM
  refine lv_iload_n hx hb dX6_put_0 rfl (lv_at hl 1 rfl) ?_
  refine lv_if_lt (tgt := 14) hx hb dX6_put_1 (by decide) (fun c1 => ?_) (fun c1 => ?_)
  · replace hM := (if_pos c1).symm.trans hM
    exact hB14 x H _ _ hM hP hD hS (lv_sub hl [] rfl)
  · replace hM := (if_neg c1).symm.trans hM
    refine lv_iload_n hx hb dX6_put_4 rfl (lv_at hl 1 rfl) ?_
    refine lv_aload_n hx hb dX6_put_5 rfl (lv_at hl 0 rfl) ?_
    refine va_alen hx hb hG.1 hP 0 0 rfl rfl (v := (Int32.ofNat n)) rfl dX6_put_6 ?_
    refine lv_icmp_ge (tgt := 14) hx hb dX6_put_7 (by decide) (fun c2 => ?_) (fun c2 => ?_)
    · replace hM := (if_pos c2).symm.trans hM
      exact hB14 x H _ _ hM hP hD hS (lv_sub hl [] rfl)
    · replace hM := (if_neg c2).symm.trans hM
      refine lv_aload_n hx hb dX6_put_10 rfl (lv_at hl 0 rfl) ?_
      refine lv_iload_n hx hb dX6_put_11 rfl (lv_at hl 1 rfl) ?_
      refine lv_iload_n hx hb dX6_put_12 rfl (lv_at hl 2 rfl) ?_
      refine va_iast hx hb hG.1 hP hD hS 0 0 rfl rfl (vp_path (n := n) c1 c2 hn) dX6_put_13 (fun H locs hP hD hS => ?_)
      have hP : va_P (dC, dI) vwCl (wRow cI a n (upd x (p1).toNatClampNeg p2)) H := hP
      have hD : va_D A (wRow cI a n (upd x (p1).toNatClampNeg p2)) := hD
      exact hB14 (upd x (p1).toNatClampNeg p2) H _ _ hM hP hD hS (lv_sub hl [] rfl)
set_option maxHeartbeats 4000000 in
set_option maxRecDepth 100000 in
theorem c_X6_isWithin (l : Launch) (dC : Nat → ClassId) (dI : Nat → Nat → Nat) (cI cD cJ : ClassId) (kk : wAd)  (p0 : Int32) (p1 : Int32) (p2 : Int32) (out : Bool) (hM : M_X6_isWithin p0 p1 p2 = out) : CP l yX6_isWithin wsX6_isWithin ({ frames := 0, cells := 0, slots := 0, locals := 0 } : Room) dC dI (wTys cI cD cJ) [.int p0, .int p1, .int p2] ([] : va_W) (some (.int (zI out))) := by
  refine wk_enterP (cc := cX6_isWithin) (maxL := 3) (ret := (some .boolean)) (by decide) rfl (Nat.le_of_ble_eq_true rfl) ?_
  intro p e s m below meth c A Q ls hB hP hD hA hQ hl
  obtain ⟨hx, hb, hml, hr, hts, hown, hname, hlocks, hG⟩ := hB
  have hown : s.vm.findClass RX6 = some m.cls := hown
  have hS : va_S A s.heap s.heap [] := va_S.rf
  have hl : lv_has ls 3 [(0, .int p0), (1, .int p1), (2, .int p2)] := hl
  generalize ([] : List Loc) = locs at hS ⊢
  have hB15 : ∀ (w0 : Bool) (locs : List Loc) (ls : Array Slot), M_X6_isWithin_15 p0 p1 p2 w0 = out → va_S A s.heap s.heap locs → lv_has ls 3 [] → W p l e ({ frames := 0, cells := 0, slots := 0, locals := 0 } : Room) s m ([.int p0, .int p1, .int p2] : List Value).toArray below meth c s.heap locs 0 0 Q (F0 m 15 ls [.int (zI w0)]) := by
    intro w0 locs ls hM hS hl
    unfold M_X6_isWithin_15 at hM
    subst hM
    exact wk_retPi hx hb hr hlocks hQ (zI_nar _) rfl hS dX6_isWithin_15
  have hB14 : ∀  (locs : List Loc) (ls : Array Slot), M_X6_isWithin_14 p0 p1 p2 = out → va_S A s.heap s.heap locs → lv_has ls 3 [] → W p l e ({ frames := 0, cells := 0, slots := 0, locals := 0 } : Room) s m ([.int p0, .int p1, .int p2] : List Value).toArray below meth c s.heap locs 0 0 Q (F0 m 14 ls []) := by
    intro  locs ls hM hS hl
    unfold M_X6_isWithin_14 at hM
    refine lv_iconst (v := (0 : Int32)) hx hb dX6_isWithin_14 (by decide) ?_
    exact hB15 false  _ _ hM hS (lv_sub hl [] rfl)
  unfold M_X6_isWithin at hM
  refine lv_iload_n hx hb dX6_isWithin_0 rfl (lv_at hl 0 rfl) ?_
  refine lv_iload_n hx hb dX6_isWithin_1 rfl (lv_at hl 1 rfl) ?_
  refine lv_icmp_lt (tgt := 14) hx hb dX6_isWithin_2 (by decide) (fun c1 => ?_) (fun c1 => ?_)
  · replace hM := (if_pos c1).symm.trans hM
    exact hB14   _ _ hM hS (lv_sub hl [] rfl)
  · replace hM := (if_neg c1).symm.trans hM
    refine lv_iload_n hx hb dX6_isWithin_5 rfl (lv_at hl 0 rfl) ?_
    refine lv_iload_n hx hb dX6_isWithin_6 rfl (lv_at hl 2 rfl) ?_
    refine lv_icmp_gt (tgt := 14) hx hb dX6_isWithin_7 (by decide) (fun c2 => ?_) (fun c2 => ?_)
    · replace hM := (if_pos c2).symm.trans hM
      exact hB14   _ _ hM hS (lv_sub hl [] rfl)
    · replace hM := (if_neg c2).symm.trans hM
      refine lv_iconst (v := (1 : Int32)) hx hb dX6_isWithin_10 (by decide) ?_
      refine lv_goto (tgt := 15) hx hb dX6_isWithin_11 (by decide) ?_
      exact hB15 true  _ _ hM hS (lv_sub hl [] rfl)
set_option maxHeartbeats 4000000 in
set_option maxRecDepth 100000 in
theorem c_X6_faultOfRange (l : Launch) (dC : Nat → ClassId) (dI : Nat → Nat → Nat) (cI cD cJ : ClassId) (kk : wAd)  (p0 : Int32) (p1 : Int32) (p2 : Int32) (out : Int32) (hM : M_X6_faultOfRange p0 p1 p2 = out) : CP l yX6_faultOfRange wsX6_faultOfRange ({ frames := 1, cells := 0, slots := 0, locals := 22 } : Room) dC dI (wTys cI cD cJ) [.int p0, .int p1, .int p2] ([] : va_W) (some (.int out)) := by
  refine wk_enterP (cc := cX6_faultOfRange) (maxL := 3) (ret := (some .int)) (by decide) rfl (Nat.le_of_ble_eq_true rfl) ?_
  intro p e s m below meth c A Q ls hB hP hD hA hQ hl
  obtain ⟨hx, hb, hml, hr, hts, hown, hname, hlocks, hG⟩ := hB
  have hown : s.vm.findClass RX6 = some m.cls := hown
  have hS : va_S A s.heap s.heap [] := va_S.rf
  have hl : lv_has ls 3 [(0, .int p0), (1, .int p1), (2, .int p2)] := hl
  generalize ([] : List Loc) = locs at hS ⊢
  have hB14 : ∀ (w0 : Int32) (locs : List Loc) (ls : Array Slot), M_X6_faultOfRange_14 p0 p1 p2 w0 = out → va_S A s.heap s.heap locs → lv_has ls 3 [] → W p l e ({ frames := 1, cells := 0, slots := 0, locals := 22 } : Room) s m ([.int p0, .int p1, .int p2] : List Value).toArray below meth c s.heap locs 0 0 Q (F0 m 14 ls [.int w0]) := by
    intro w0 locs ls hM hS hl
    unfold M_X6_faultOfRange_14 at hM
    subst hM
    exact wk_retPi hx hb hr hlocks hQ rfl rfl hS dX6_faultOfRange_14
  unfold M_X6_faultOfRange at hM
  refine lv_iload_n hx hb dX6_faultOfRange_0 rfl (lv_at hl 0 rfl) ?_
  refine lv_iload_n hx hb dX6_faultOfRange_1 rfl (lv_at hl 1 rfl) ?_
  refine lv_iload_n hx hb dX6_faultOfRange_2 rfl (lv_at hl 2 rfl) ?_
  refine wk_callP (va_runS (As := [.int p0, .int p1, .int p2]) (rest := []) ⟨hx, hb, hml, hown, hts⟩ (c_X6_isWithin l dC dI cI cD cJ kk  p0 p1 p2 _ rfl s.heap) (va_cwS 3 hts gX6_faultOfRange_X6_isWithin rfl rfl rfl (by decide +kernel) ⟨Nat.le_of_ble_eq_true rfl, Nat.le_of_ble_eq_true rfl⟩) (wk_preS hG hP hD [] rfl rfl) rfl rfl hl.1 rfl (lv_room (Nat.le_of_ble_eq_true rfl)) dX6_faultOfRange_3 ⟨Nat.le_of_ble_eq_true rfl, Nat.le_of_ble_eq_true rfl⟩) hS (fun locs hS => ?_)
  refine lv_if_eq (tgt := 13) hx hb dX6_faultOfRange_6 (by decide) (fun c1 => ?_) (fun c1 => ?_)
  · replace hM := (if_pos c1).symm.trans hM
    refine lv_iconst (v := (2 : Int32)) hx hb dX6_faultOfRange_13 (by decide) ?_
    exact hB14 (2 : Int32)  _ _ hM hS (lv_sub hl [] rfl)
  · replace hM := (if_neg c1).symm.trans hM
    refine lv_iconst (v := (0 : Int32)) hx hb dX6_faultOfRange_9 (by decide) ?_
    refine lv_goto (tgt := 14) hx hb dX6_faultOfRange_10 (by decide) ?_
    exact hB14 (0 : Int32)  _ _ hM hS (lv_sub hl [] rfl)
set_option maxHeartbeats 4000000 in
set_option maxRecDepth 100000 in
theorem c_X6_faultOfController (l : Launch) (dC : Nat → ClassId) (dI : Nat → Nat → Nat) (cI cD cJ : ClassId) (kk : wAd)  (p0 : Int32) (out : Int32) (hM : M_X6_faultOfController p0 = out) : CP l yX6_faultOfController wsX6_faultOfController ({ frames := 1, cells := 0, slots := 0, locals := 22 } : Room) dC dI (wTys cI cD cJ) [.int p0] ([] : va_W) (some (.int out)) := by
  refine wk_enterP (cc := cX6_faultOfController) (maxL := 1) (ret := (some .int)) (by decide) rfl (Nat.le_of_ble_eq_true rfl) ?_
  intro p e s m below meth c A Q ls hB hP hD hA hQ hl
  obtain ⟨hx, hb, hml, hr, hts, hown, hname, hlocks, hG⟩ := hB
  have hown : s.vm.findClass RX6 = some m.cls := hown
  have hS : va_S A s.heap s.heap [] := va_S.rf
  have hl : lv_has ls 1 [(0, .int p0)] := hl
  generalize ([] : List Loc) = locs at hS ⊢
  have hB14 : ∀ (w0 : Bool) (locs : List Loc) (ls : Array Slot), M_X6_faultOfController_14 p0 w0 = out → va_S A s.heap s.heap locs → lv_has ls 1 [] → W p l e ({ frames := 1, cells := 0, slots := 0, locals := 22 } : Room) s m ([.int p0] : List Value).toArray below meth c s.heap locs 0 0 Q (F0 m 14 ls [.int (zI w0)]) := by
    intro w0 locs ls hM hS hl
    unfold M_X6_faultOfController_14 at hM
    subst hM
    exact wk_retPi hx hb hr hlocks hQ rfl rfl hS dX6_faultOfController_14
  unfold M_X6_faultOfController at hM
  refine lv_iload_n hx hb dX6_faultOfController_0 rfl (lv_at hl 0 rfl) ?_
  refine lv_iconst (v := (0 : Int32)) hx hb dX6_faultOfController_1 (by decide) ?_
  refine lv_iconst (v := (1 : Int32)) hx hb dX6_faultOfController_2 (by decide) ?_
  refine wk_callP (va_runS (As := [.int p0, .int (0 : Int32), .int (1 : Int32)]) (rest := []) ⟨hx, hb, hml, hown, hts⟩ (c_X6_isWithin l dC dI cI cD cJ kk  p0 (0 : Int32) (1 : Int32) _ rfl s.heap) (va_cwS 3 hts gX6_faultOfController_X6_isWithin rfl rfl rfl (by decide +kernel) ⟨Nat.le_of_ble_eq_true rfl, Nat.le_of_ble_eq_true rfl⟩) (wk_preS hG hP hD [] rfl rfl) rfl rfl hl.1 rfl (lv_room (Nat.le_of_ble_eq_true rfl)) dX6_faultOfController_3 ⟨Nat.le_of_ble_eq_true rfl, Nat.le_of_ble_eq_true rfl⟩) hS (fun locs hS => ?_)
  refine lv_if_eq (tgt := 13) hx hb dX6_faultOfController_6 (by decide) (fun c1 => ?_) (fun c1 => ?_)
  · replace hM := (if_pos c1).symm.trans hM
    refine lv_iconst (v := (1 : Int32)) hx hb dX6_faultOfController_13 (by decide) ?_
    exact hB14 true  _ _ hM hS (lv_sub hl [] rfl)
  · replace hM := (if_neg c1).symm.trans hM
    refine lv_iconst (v := (0 : Int32)) hx hb dX6_faultOfController_9 (by decide) ?_
    refine lv_goto (tgt := 14) hx hb dX6_faultOfController_10 (by decide) ?_
    exact hB14 false  _ _ hM hS (lv_sub hl [] rfl)
set_option maxHeartbeats 4000000 in
set_option maxRecDepth 100000 in
theorem c_X6_faultOfBlock (l : Launch) (dC : Nat → ClassId) (dI : Nat → Nat → Nat) (cI cD cJ : ClassId) (kk : wAd)  (p0 : Int32) (out : Int32) (hM : M_X6_faultOfBlock p0 = out) : CP l yX6_faultOfBlock wsX6_faultOfBlock ({ frames := 1, cells := 0, slots := 0, locals := 22 } : Room) dC dI (wTys cI cD cJ) [.int p0] ([] : va_W) (some (.int out)) := by
  refine wk_enterP (cc := cX6_faultOfBlock) (maxL := 1) (ret := (some .int)) (by decide) rfl (Nat.le_of_ble_eq_true rfl) ?_
  intro p e s m below meth c A Q ls hB hP hD hA hQ hl
  obtain ⟨hx, hb, hml, hr, hts, hown, hname, hlocks, hG⟩ := hB
  have hown : s.vm.findClass RX6 = some m.cls := hown
  have hS : va_S A s.heap s.heap [] := va_S.rf
  have hl : lv_has ls 1 [(0, .int p0)] := hl
  generalize ([] : List Loc) = locs at hS ⊢
  have hB15 : ∀ (w0 : Bool) (locs : List Loc) (ls : Array Slot), M_X6_faultOfBlock_15 p0 w0 = out → va_S A s.heap s.heap locs → lv_has ls 1 [] → W p l e ({ frames := 1, cells := 0, slots := 0, locals := 22 } : Room) s m ([.int p0] : List Value).toArray below meth c s.heap locs 0 0 Q (F0 m 15 ls [.int (zI w0)]) := by
    intro w0 locs ls hM hS hl
    unfold M_X6_faultOfBlock_15 at hM
    subst hM
    exact wk_retPi hx hb hr hlocks hQ rfl rfl hS dX6_faultOfBlock_15
  unfold M_X6_faultOfBlock at hM
  refine lv_iload_n hx hb dX6_faultOfBlock_0 rfl (lv_at hl 0 rfl) ?_
  refine lv_iconst (v := (0 : Int32)) hx hb dX6_faultOfBlock_1 (by decide) ?_
  refine lv_bipush (v := (15 : Int32)) hx hb dX6_faultOfBlock_2 (by decide) ?_
  refine wk_callP (va_runS (As := [.int p0, .int (0 : Int32), .int (15 : Int32)]) (rest := []) ⟨hx, hb, hml, hown, hts⟩ (c_X6_isWithin l dC dI cI cD cJ kk  p0 (0 : Int32) (15 : Int32) _ rfl s.heap) (va_cwS 3 hts gX6_faultOfBlock_X6_isWithin rfl rfl rfl (by decide +kernel) ⟨Nat.le_of_ble_eq_true rfl, Nat.le_of_ble_eq_true rfl⟩) (wk_preS hG hP hD [] rfl rfl) rfl rfl hl.1 rfl (lv_room (Nat.le_of_ble_eq_true rfl)) dX6_faultOfBlock_4 ⟨Nat.le_of_ble_eq_true rfl, Nat.le_of_ble_eq_true rfl⟩) hS (fun locs hS => ?_)
  refine lv_if_eq (tgt := 14) hx hb dX6_faultOfBlock_7 (by decide) (fun c1 => ?_) (fun c1 => ?_)
  · replace hM := (if_pos c1).symm.trans hM
    refine lv_iconst (v := (1 : Int32)) hx hb dX6_faultOfBlock_14 (by decide) ?_
    exact hB15 true  _ _ hM hS (lv_sub hl [] rfl)
  · replace hM := (if_neg c1).symm.trans hM
    refine lv_iconst (v := (0 : Int32)) hx hb dX6_faultOfBlock_10 (by decide) ?_
    refine lv_goto (tgt := 15) hx hb dX6_faultOfBlock_11 (by decide) ?_
    exact hB15 false  _ _ hM hS (lv_sub hl [] rfl)
set_option maxHeartbeats 4000000 in
set_option maxRecDepth 100000 in
theorem c_X6_faultOfTag (l : Launch) (dC : Nat → ClassId) (dI : Nat → Nat → Nat) (cI cD cJ : ClassId) (kk : wAd)  (p0 : Int32) (p1 : Int32) (out : Int32) (hM : M_X6_faultOfTag p0 p1 = out) : CP l yX6_faultOfTag wsX6_faultOfTag ({ frames := 1, cells := 0, slots := 0, locals := 22 } : Room) dC dI (wTys cI cD cJ) [.int p0, .int p1] ([] : va_W) (some (.int out)) := by
  refine wk_enterP (cc := cX6_faultOfTag) (maxL := 2) (ret := (some .int)) (by decide) rfl (Nat.le_of_ble_eq_true rfl) ?_
  intro p e s m below meth c A Q ls hB hP hD hA hQ hl
  obtain ⟨hx, hb, hml, hr, hts, hown, hname, hlocks, hG⟩ := hB
  have hown : s.vm.findClass RX6 = some m.cls := hown
  have hS : va_S A s.heap s.heap [] := va_S.rf
  have hl : lv_has ls 2 [(0, .int p0), (1, .int p1)] := hl
  generalize ([] : List Loc) = locs at hS ⊢
  have hB24 : ∀ (w0 : Int32) (locs : List Loc) (ls : Array Slot), M_X6_faultOfTag_24 p0 p1 w0 = out → va_S A s.heap s.heap locs → lv_has ls 2 [] → W p l e ({ frames := 1, cells := 0, slots := 0, locals := 22 } : Room) s m ([.int p0, .int p1] : List Value).toArray below meth c s.heap locs 0 0 Q (F0 m 24 ls [.int w0]) := by
    intro w0 locs ls hM hS hl
    unfold M_X6_faultOfTag_24 at hM
    subst hM
    exact wk_retPi hx hb hr hlocks hQ rfl rfl hS dX6_faultOfTag_24
  have hB23 : ∀  (locs : List Loc) (ls : Array Slot), M_X6_faultOfTag_23 p0 p1 = out → va_S A s.heap s.heap locs → lv_has ls 2 [] → W p l e ({ frames := 1, cells := 0, slots := 0, locals := 22 } : Room) s m ([.int p0, .int p1] : List Value).toArray below meth c s.heap locs 0 0 Q (F0 m 23 ls []) := by
    intro  locs ls hM hS hl
    unfold M_X6_faultOfTag_23 at hM
    refine lv_iconst (v := (2 : Int32)) hx hb dX6_faultOfTag_23 (by decide) ?_
    exact hB24 (2 : Int32)  _ _ hM hS (lv_sub hl [] rfl)
  unfold M_X6_faultOfTag at hM
  refine lv_iload_n hx hb dX6_faultOfTag_0 rfl (lv_at hl 0 rfl) ?_
  refine lv_iconst (v := (0 : Int32)) hx hb dX6_faultOfTag_1 (by decide) ?_
  refine lv_iconst (v := (3 : Int32)) hx hb dX6_faultOfTag_2 (by decide) ?_
  refine wk_callP (va_runS (As := [.int p0, .int (0 : Int32), .int (3 : Int32)]) (rest := []) ⟨hx, hb, hml, hown, hts⟩ (c_X6_isWithin l dC dI cI cD cJ kk  p0 (0 : Int32) (3 : Int32) _ rfl s.heap) (va_cwS 3 hts gX6_faultOfTag_X6_isWithin rfl rfl rfl (by decide +kernel) ⟨Nat.le_of_ble_eq_true rfl, Nat.le_of_ble_eq_true rfl⟩) (wk_preS hG hP hD [] rfl rfl) rfl rfl hl.1 rfl (lv_room (Nat.le_of_ble_eq_true rfl)) dX6_faultOfTag_3 ⟨Nat.le_of_ble_eq_true rfl, Nat.le_of_ble_eq_true rfl⟩) hS (fun locs hS => ?_)
  refine lv_if_eq (tgt := 23) hx hb dX6_faultOfTag_6 (by decide) (fun c1 => ?_) (fun c1 => ?_)
  · replace hM := (if_pos c1).symm.trans hM
    exact hB23   _ _ hM hS (lv_sub hl [] rfl)
  · replace hM := (if_neg c1).symm.trans hM
    refine lv_iload_n hx hb dX6_faultOfTag_9 rfl (lv_at hl 1 rfl) ?_
    refine lv_iconst (v := (0 : Int32)) hx hb dX6_faultOfTag_10 (by decide) ?_
    refine lv_bipush (v := (31 : Int32)) hx hb dX6_faultOfTag_11 (by decide) ?_
    refine wk_callP (va_runS (As := [.int p1, .int (0 : Int32), .int (31 : Int32)]) (rest := []) ⟨hx, hb, hml, hown, hts⟩ (c_X6_isWithin l dC dI cI cD cJ kk  p1 (0 : Int32) (31 : Int32) _ rfl s.heap) (va_cwS 3 hts gX6_faultOfTag_X6_isWithin rfl rfl rfl (by decide +kernel) ⟨Nat.le_of_ble_eq_true rfl, Nat.le_of_ble_eq_true rfl⟩) (wk_preS hG hP hD [] rfl rfl) rfl rfl hl.1 rfl (lv_room (Nat.le_of_ble_eq_true rfl)) dX6_faultOfTag_13 ⟨Nat.le_of_ble_eq_true rfl, Nat.le_of_ble_eq_true rfl⟩) hS (fun locs hS => ?_)
    refine lv_if_eq (tgt := 23) hx hb dX6_faultOfTag_16 (by decide) (fun c2 => ?_) (fun c2 => ?_)
    · replace hM := (if_pos c2).symm.trans hM
      exact hB23   _ _ hM hS (lv_sub hl [] rfl)
    · replace hM := (if_neg c2).symm.trans hM
      refine lv_iconst (v := (0 : Int32)) hx hb dX6_faultOfTag_19 (by decide) ?_
      refine lv_goto (tgt := 24) hx hb dX6_faultOfTag_20 (by decide) ?_
      exact hB24 (0 : Int32)  _ _ hM hS (lv_sub hl [] rfl)
set_option maxHeartbeats 4000000 in
set_option maxRecDepth 100000 in
theorem c_X6_mix (l : Launch) (dC : Nat → ClassId) (dI : Nat → Nat → Nat) (cI cD cJ : ClassId) (kk : wAd)  (p0 : Int64) (p1 : Int64) (out : Int64) (hM : M_X6_mix p0 p1 = out) : CP l yX6_mix wsX6_mix ({ frames := 0, cells := 0, slots := 0, locals := 0 } : Room) dC dI (wTys cI cD cJ) [.long p0, .long p1] ([] : va_W) (some (.long out)) := by
  refine wk_enterP (cc := cX6_mix) (maxL := 4) (ret := (some .long)) (by decide) rfl (Nat.le_of_ble_eq_true rfl) ?_
  intro p e s m below meth c A Q ls hB hP hD hA hQ hl
  obtain ⟨hx, hb, hml, hr, hts, hown, hname, hlocks, hG⟩ := hB
  have hown : s.vm.findClass RX6 = some m.cls := hown
  have hS : va_S A s.heap s.heap [] := va_S.rf
  have hl : lv_has ls 4 [(0, .long p0), (2, .long p1)] := hl
  generalize ([] : List Loc) = locs at hS ⊢
  unfold M_X6_mix at hM
  refine lv_ldc2 (v := 31) hx hb hown (hts (.constantLong RX6 226 (31)) (List.mem_of_getElem? (i := 1) rfl)) dX6_mix_0 ?_
  refine lv_lload_n hx hb dX6_mix_3 rfl (lv_at hl 0 rfl) ?_
  refine lv_lmul hx hb dX6_mix_4 ?_
  refine lv_lload_n hx hb dX6_mix_5 rfl (lv_at hl 1 rfl) ?_
  refine lv_ladd hx hb dX6_mix_6 ?_
  subst hM
  exact wk_retPl hx hb hr hlocks hQ rfl hS dX6_mix_7
