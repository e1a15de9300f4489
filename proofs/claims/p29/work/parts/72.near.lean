/-! PART 35: low and near -/
set_option maxHeartbeats 4000000 in
set_option maxRecDepth 100000 in
theorem c_L_low (l : Launch) (dC : Nat → ClassId) (dI : Nat → Nat → Nat) (cI cD cJ : ClassId) (kk : wAd)  (p0 : Int32) (p1 : Int32) (out : Int32) (hM : M_L_low p0 p1 = some out) : CP l yL_low wsL_low ({ frames := 0, cells := 0, slots := 0, locals := 0 } : Room) dC dI (wTys cI cD cJ) [.int p0, .int p1] ([] : va_W) (some (.int out)) := by
  refine wk_enterP (cc := cL_low) (maxL := 2) (ret := (some .int)) (by decide) rfl (Nat.le_of_ble_eq_true rfl) ?_
  intro p e s m below meth c A Q ls hB hP hD hA hQ hl
  obtain ⟨hx, hb, hml, hr, hts, hown, hname, hlocks, hG⟩ := hB
  have hown : s.vm.findClass RL = some m.cls := hown
  have hS : va_S A s.heap s.heap [] := va_S.rf
  have hl : lv_has ls 2 [(0, .int p0), (1, .int p1)] := hl
  generalize ([] : List Loc) = locs at hS ⊢
  unfold M_L_low at hM
  refine lv_iload_n hx hb dL_low_0 rfl (lv_at hl 0 rfl) ?_
  refine lv_ldc (v := (2147483647 : Int32)) hx hb hown (hts (.constant RL 8 (2147483647)) (List.mem_of_getElem? (i := 1) rfl)) dL_low_1 ?_
  refine lv_iand hx hb dL_low_3 ?_
  refine lv_iload_n hx hb dL_low_4 rfl (lv_at hl 1 rfl) ?_
  obtain ⟨v1, hv1, hM⟩ := ob hM
  refine wk_irem hx hb hv1 dL_low_5 ?_
  replace hM := Option.some.inj hM
  subst hM
  exact wk_retPi hx hb hr hlocks hQ rfl rfl hS dL_low_6
set_option maxHeartbeats 4000000 in
set_option maxRecDepth 100000 in
theorem c_L_near (l : Launch) (dC : Nat → ClassId) (dI : Nat → Nat → Nat) (cI cD cJ : ClassId) (kk : wAd)  (p0 : Int32) (p1 : Int32) (out : Int32) (hM : M_L_near p0 p1 = some out) : CP l yL_near wsL_near ({ frames := 1, cells := 0, slots := 0, locals := 21 } : Room) dC dI (wTys cI cD cJ) [.int p0, .int p1] ([] : va_W) (some (.int out)) := by
  refine wk_enterP (cc := cL_near) (maxL := 3) (ret := (some .int)) (by decide) rfl (Nat.le_of_ble_eq_true rfl) ?_
  intro p e s m below meth c A Q ls hB hP hD hA hQ hl
  obtain ⟨hx, hb, hml, hr, hts, hown, hname, hlocks, hG⟩ := hB
  have hown : s.vm.findClass RL = some m.cls := hown
  have hS : va_S A s.heap s.heap [] := va_S.rf
  have hl : lv_has ls 3 [(0, .int p0), (1, .int p1)] := hl
  generalize ([] : List Loc) = locs at hS ⊢
  have hB41 : ∀ (w0 : Int32) (locs : List Loc) (ls : Array Slot), M_L_near_41 p0 p1 w0 = some out → va_S A s.heap s.heap locs → lv_has ls 3 [] → W p l e ({ frames := 1, cells := 0, slots := 0, locals := 21 } : Room) s m ([.int p0, .int p1] : List Value).toArray below meth c s.heap locs 0 0 Q (F0 m 41 ls [.int w0]) := by
    intro w0 locs ls hM hS hl
    unfold M_L_near_41 at hM
    replace hM := Option.some.inj hM
    subst hM
    exact wk_retPi hx hb hr hlocks hQ rfl rfl hS dL_near_41
  unfold M_L_near at hM
  refine lv_iload_n hx hb dL_near_0 rfl (lv_at hl 0 rfl) ?_
  refine lv_bipush (v := (40 : Int32)) hx hb dL_near_1 (by decide) ?_
  obtain ⟨r1, hr1, hM⟩ := ob hM
  refine wk_callP (va_runS (As := [.int p0, .int (40 : Int32)]) (rest := []) ⟨hx, hb, hml, hown, hts⟩ (c_L_low l dC dI cI cD cJ kk  p0 (40 : Int32) _ hr1 s.heap) (va_cwS 2 hts gL_near_L_low rfl rfl rfl (by decide +kernel) ⟨Nat.le_of_ble_eq_true rfl, Nat.le_of_ble_eq_true rfl⟩) (wk_preS hG hP hD [] rfl rfl) rfl rfl hl.1 rfl (lv_room (Nat.le_of_ble_eq_true rfl)) dL_near_3 ⟨Nat.le_of_ble_eq_true rfl, Nat.le_of_ble_eq_true rfl⟩) hS (fun locs hS => ?_)
  refine lv_istore_n (lv' := [(2, .int r1), (0, .int p0), (1, .int p1)]) hx hb dL_near_6 rfl hl (by decide) rfl (fun ls hl => ?_)
  refine lv_iload_n hx hb dL_near_7 rfl (lv_at hl 0 rfl) ?_
  refine lv_if_ne (tgt := 15) hx hb dL_near_8 (by decide) (fun c2 => ?_) (fun c2 => ?_)
  · replace hM := (if_neg c2).symm.trans hM
    refine lv_iload_n hx hb dL_near_15 rfl (lv_at hl 0 rfl) ?_
    refine lv_iconst (v := (1 : Int32)) hx hb dL_near_16 (by decide) ?_
    refine lv_icmp_ne (tgt := 24) hx hb dL_near_17 (by decide) (fun c3 => ?_) (fun c3 => ?_)
    · replace hM := (if_neg c3).symm.trans hM
      refine lv_iload_n hx hb dL_near_24 rfl (lv_at hl 0 rfl) ?_
      refine lv_iconst (v := (2 : Int32)) hx hb dL_near_25 (by decide) ?_
      refine lv_icmp_ne (tgt := 33) hx hb dL_near_26 (by decide) (fun c4 => ?_) (fun c4 => ?_)
      · replace hM := (if_neg c4).symm.trans hM
        refine lv_iload_n hx hb dL_near_33 rfl (lv_at hl 1 rfl) ?_
        refine lv_bipush (v := (6 : Int32)) hx hb dL_near_34 (by decide) ?_
        refine lv_ishr hx hb dL_near_36 ?_
        refine lv_iload_n hx hb dL_near_37 rfl (lv_at hl 2 rfl) ?_
        obtain ⟨r5, hr5, hM⟩ := ob hM
        refine wk_callP (va_runS (As := [.int (p0 >>> ((6 : Int32) &&& 31)), .int p1]) (rest := []) ⟨hx, hb, hml, hown, hts⟩ (c_L_low l dC dI cI cD cJ kk  (p0 >>> ((6 : Int32) &&& 31)) p1 _ hr5 s.heap) (va_cwS 2 hts gL_near_L_low rfl rfl rfl (by decide +kernel) ⟨Nat.le_of_ble_eq_true rfl, Nat.le_of_ble_eq_true rfl⟩) (wk_preS hG hP hD [] rfl rfl) rfl rfl hl.1 rfl (lv_room (Nat.le_of_ble_eq_true rfl)) dL_near_38 ⟨Nat.le_of_ble_eq_true rfl, Nat.le_of_ble_eq_true rfl⟩) hS (fun locs hS => ?_)
        exact hB41 r5  _ _ hM hS (lv_sub hl [] rfl)
      · replace hM := (if_pos c4).symm.trans hM
        refine lv_iload_n hx hb dL_near_29 rfl (lv_at hl 1 rfl) ?_
        refine lv_goto (tgt := 41) hx hb dL_near_30 (by decide) ?_
        exact hB41 p0  _ _ hM hS (lv_sub hl [] rfl)
    · replace hM := (if_pos c3).symm.trans hM
      refine lv_iload_n hx hb dL_near_20 rfl (lv_at hl 2 rfl) ?_
      refine lv_goto (tgt := 41) hx hb dL_near_21 (by decide) ?_
      exact hB41 p1  _ _ hM hS (lv_sub hl [] rfl)
  · replace hM := (if_pos c2).symm.trans hM
    refine lv_iconst (v := (-1 : Int32)) hx hb dL_near_11 (by decide) ?_
    refine lv_goto (tgt := 41) hx hb dL_near_12 (by decide) ?_
    exact hB41 (-1 : Int32)  _ _ hM hS (lv_sub hl [] rfl)
