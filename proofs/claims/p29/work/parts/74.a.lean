/-! PART 37: the law's isOpen -/
set_option maxHeartbeats 4000000 in
set_option maxRecDepth 100000 in
theorem c_L_isOpen (l : Launch) (dC : Nat → ClassId) (dI : Nat → Nat → Nat) (cI cD cJ : ClassId) (kk : wAd) (g : Nat → Nat) (x : SS) (p1 : Int32) (out : Bool) (hM : M_L_isOpen x p1 = some out) : CP l yL_isOpen wsL_isOpen ({ frames := 3, cells := 0, slots := 0, locals := 66 } : Room) dC dI (wTys cI cD cJ) [.ref (g 0), .int p1] (wSys cI cD kk.1 g x) (some (.int (zI out))) := by
  refine wk_enterP (cc := cL_isOpen) (maxL := 2) (ret := (some .boolean)) (by decide) rfl (Nat.le_of_ble_eq_true rfl) ?_
  intro p e s m below meth c A Q ls hB hP hD hA hQ hl
  obtain ⟨hx, hb, hml, hr, hts, hown, hname, hlocks, hG⟩ := hB
  have hown : s.vm.findClass RL = some m.cls := hown
  have hS : va_S A s.heap s.heap [] := va_S.rf
  have hl : lv_has ls 2 [(0, .ref (g 0)), (1, .int p1)] := hl
  generalize ([] : List Loc) = locs at hS ⊢
  have hB15 : ∀ (w0 : Bool) (locs : List Loc) (ls : Array Slot), M_L_isOpen_15 x p1 w0 = some out → va_S A s.heap s.heap locs → lv_has ls 2 [] → W p l e ({ frames := 3, cells := 0, slots := 0, locals := 66 } : Room) s m ([.ref (g 0), .int p1] : List Value).toArray below meth c s.heap locs 0 0 Q (F0 m 15 ls [.int (zI w0)]) := by
    intro w0 locs ls hM hS hl
    unfold M_L_isOpen_15 at hM
    replace hM := Option.some.inj hM
    subst hM
    exact wk_retPi hx hb hr hlocks hQ (zI_nar _) rfl hS dL_isOpen_15
  unfold M_L_isOpen at hM
  refine lv_aload_n hx hb dL_isOpen_0 rfl (lv_at hl 0 rfl) ?_
  refine lv_iload_n hx hb dL_isOpen_1 rfl (lv_at hl 1 rfl) ?_
  refine lv_iconst (v := (5 : Int32)) hx hb dL_isOpen_2 (by decide) ?_
  obtain ⟨r1, hr1, hM⟩ := ob hM
  refine wk_callP (va_runV (As := [.int p1, .int (5 : Int32)]) (rest := []) ⟨hx, hb, hml, hown, hts⟩ (c_X6_orderOf l dC dI cI cD cJ kk g x p1 (5 : Int32) _ hr1 s.heap) (cwV 2 hts gL_isOpen_X6_orderOf rfl rfl rfl (by decide +kernel) ⟨Nat.le_of_ble_eq_true rfl, Nat.le_of_ble_eq_true rfl⟩) (wk_preV (ci := 4) (q0 := 0) hG hP hD [0, 1, 2, 3, 4, 5, 6, 7, 8, 9, 10, 11, 12, 13, 14, 15, 16, 17, 18, 19, 20, 21, 22, 23, 24, 25, 26, 27, 28, 29, 30, 31, 32, 33, 34, 35, 36, 37] rfl rfl rfl rfl) rfl rfl hl.1 rfl (lv_room (Nat.le_of_ble_eq_true rfl)) dL_isOpen_3 ⟨Nat.le_of_ble_eq_true rfl, Nat.le_of_ble_eq_true rfl⟩) hS (fun locs hS => ?_)
  refine lv_iconst (v := (2 : Int32)) hx hb dL_isOpen_6 (by decide) ?_
  refine lv_icmp_ge (tgt := 14) hx hb dL_isOpen_7 (by decide) (fun c2 => ?_) (fun c2 => ?_)
  · replace hM := (if_pos c2).symm.trans hM
    refine lv_iconst (v := (0 : Int32)) hx hb dL_isOpen_14 (by decide) ?_
    exact hB15 false  _ _ hM hS (lv_sub hl [] rfl)
  · replace hM := (if_neg c2).symm.trans hM
    refine lv_iconst (v := (1 : Int32)) hx hb dL_isOpen_10 (by decide) ?_
    refine lv_goto (tgt := 15) hx hb dL_isOpen_11 (by decide) ?_
    exact hB15 true  _ _ hM hS (lv_sub hl [] rfl)
