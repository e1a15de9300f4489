/-! PART 36: the law's helpers -/
set_option maxHeartbeats 4000000 in
set_option maxRecDepth 100000 in
theorem c_L_order (l : Launch) (hflags : l.stackTraces = false) (dC : Nat → ClassId) (dI : Nat → Nat → Nat) (cI cD cJ : ClassId) (kk : wAd) (g : Nat → Nat) (x : SS) (p1 : Int32) (p2 : Int32) (p3 : Int32) (p4 : Int32) (p5 : Int32) (out : Int32 × SS) (hM : M_L_order x p1 p2 p3 p4 p5 = some out) : CL kk l yL_order wsL_order ({ frames := 8, cells := 2, slots := 12, locals := 128 } : Room) dC dI (wTys cI cD cJ) [.ref (g 0), .int p1, .int p2, .int p3, .int p4, .int p5] (wSys cI cD kk.1 g x) (.inr (some (.int out.1), wSys cI cD kk.1 g out.2)) 2 12 := by
  refine wk_enterL (cc := cL_order) (maxL := 7) (ret := some .int) (hh := [(0, 12, 15, 21), (0, 12, 19, 23)]) (by decide) rfl (Nat.le_of_ble_eq_true rfl) ?_
  intro p e s m below meth c A Q ls hB htab hN hT hA hP hD hQ hl
  obtain ⟨hx, hb, hml, hr, hts, hown, hname, hlocks, hG⟩ := hB
  have hown : s.vm.findClass RL = some m.cls := hown
  have hS : va_S A s.heap s.heap [] := va_S.rf
  have hl : lv_has ls 7 [(0, .ref (g 0)), (1, .int p1), (2, .int p2), (3, .int p3), (4, .int p4), (5, .int p5)] := hl
  obtain ⟨H, hH⟩ : ∃ z, z = s.heap := ⟨_, rfl⟩
  have hP : va_P (dC, dI) vwCl (wSys cI cD kk.1 g x) H := by rw [hH]; exact hP
  have hS : va_S A s.heap H [] := by rw [hH]; exact hS
  refine wk_at hH ?_
  generalize ([] : List Loc) = locs at hS ⊢
  unfold M_L_order at hM
  obtain ⟨r, hr9, hM⟩ := ob hM
  refine lv_aload_n hx hb dL_order_0 rfl (lv_at hl 0 rfl) ?_
  refine lv_iload_n hx hb dL_order_1 rfl (lv_at hl 1 rfl) ?_
  refine lv_iload_n hx hb dL_order_2 rfl (lv_at hl 2 rfl) ?_
  refine lv_iload_n hx hb dL_order_3 rfl (lv_at hl 3 rfl) ?_
  refine lv_iload hx hb dL_order_4 (lv_at hl 4 rfl) ?_
  refine lv_iload hx hb dL_order_6 (lv_at hl 5 rfl) ?_
  rcases r with f0 | r0
  · refine wk_callX (vx_runV (As := [.int p1, .int p2, .int p3, .int p4, .int p5]) (rest := []) ⟨hx, hb, hml, hown, hts⟩ (c_X6_order l hflags dC dI cI cD cJ kk g x p1 p2 p3 p4 p5 _ hr9 H) (cwV 5 hts gL_order_X6_order rfl rfl rfl (by decide +kernel) ⟨(Nat.le_of_ble_eq_true rfl), (Nat.le_of_ble_eq_true rfl)⟩) (wk_preVT (ci := 4) (q0 := 0) hG hP hD hT hS (fun _ h9 => h9) [0, 1, 2, 3, 4, 5, 6, 7, 8, 9, 10, 11, 12, 13, 14, 15, 16, 17, 18, 19, 20, 21, 22, 23, 24, 25, 26, 27, 28, 29, 30, 31, 32, 33, 34, 35, 36, 37] rfl rfl rfl rfl (va_free hD hS hA [0, 1, 2, 3, 4, 5, 6, 7, 8, 9, 10, 11, 12, 13, 14, 15, 16, 17, 18, 19, 20, 21, 22, 23, 24, 25, 26, 27, 28, 29, 30, 31, 32, 33, 34, 35, 36, 37] rfl)) rfl rfl hl.1 rfl (lv_room (Nat.le_of_ble_eq_true rfl)) dL_order_8 ⟨(Nat.le_of_ble_eq_true rfl), (Nat.le_of_ble_eq_true rfl)⟩) hP hD hS hA [0, 1, 2, 3, 4, 5, 6, 7, 8, 9, 10, 11, 12, 13, 14, 15, 16, 17, 18, 19, 20, 21, 22, 23, 24, 25, 26, 27, 28, 29, 30, 31, 32, 33, 34, 35, 36, 37] [] [0, 1, 2, 3, 4, 5, 6, 7, 8, 9, 10, 11, 12, 13, 14, 15, 16, 17, 18, 19, 20, 21, 22, 23, 24, 25, 26, 27, 28, 29, 30, 31, 32, 33, 34, 35, 36, 37] rfl rfl rfl (by decide) rfl rfl (fun f9 ce q9 H locs ho9 hP hD hS hc9 hv9 hf9 => ?_) (fun ov w1 ho9 => by cases ho9)
    cases ho9
    by_cases e0 : f0 = 2
    · replace hM := (if_pos e0).symm.trans hM
      replace hM := Option.some.inj hM
      subst hM
      have hf9 : s.vm.findClass xIA = some ce.cls := by rw [e0] at hf9; exact hf9
      refine vx_catch (name := xIA) (E := xIA) (ce := ce) hown [] (ExceptionTableEntry.mk 0 12 15 21) [(ExceptionTableEntry.mk 0 12 19 23)] htab (fun z hz => by cases hz) rfl (by decide) (hts (.classLink RL 21 xIA) (by decide +kernel)) (va_Nw.use rfl (hG.2 _ (List.mem_of_getElem? (i := 14) rfl))) hc9 hv9 hf9 ?_
      refine lv_astore (lv' := [(6, .ref q9), (0, .ref (g 0)), (1, .int p1), (2, .int p2), (3, .int p3), (4, .int p4), (5, .int p5)]) hx hb dL_order_15 hl (by decide) rfl (fun ls hl => ?_)
      refine lv_iconst (v := 1) hx hb dL_order_17 (by decide) ?_
      exact wk_retXi hx hb hr hlocks hQ rfl rfl hP hD hS (Nat.le_of_ble_eq_true rfl) (Nat.le_of_ble_eq_true rfl) dL_order_18
    replace hM := (if_neg e0).symm.trans hM
    by_cases e1 : f0 = 3
    · replace hM := (if_pos e1).symm.trans hM
      replace hM := Option.some.inj hM
      subst hM
      have hf9 : s.vm.findClass xIS = some ce.cls := by rw [e1] at hf9; exact hf9
      refine vx_catch (name := xIS) (E := xIS) (ce := ce) hown [(ExceptionTableEntry.mk 0 12 15 21)] (ExceptionTableEntry.mk 0 12 19 23) [] htab (fun z hz => by cases List.mem_singleton.mp hz; exact Or.inr ⟨by decide, xIA, hts (.classLink RL 21 xIA) (by decide +kernel), hN.2.2⟩) rfl (by decide) (hts (.classLink RL 23 xIS) (by decide +kernel)) (va_Nw.use rfl (hG.2 _ (List.mem_of_getElem? (i := 15) rfl))) hc9 hv9 hf9 ?_
      refine lv_astore (lv' := [(6, .ref q9), (0, .ref (g 0)), (1, .int p1), (2, .int p2), (3, .int p3), (4, .int p4), (5, .int p5)]) hx hb dL_order_19 hl (by decide) rfl (fun ls hl => ?_)
      refine lv_iconst (v := 2) hx hb dL_order_21 (by decide) ?_
      exact wk_retXi hx hb hr hlocks hQ rfl rfl hP hD hS (Nat.le_of_ble_eq_true rfl) (Nat.le_of_ble_eq_true rfl) dL_order_22
    replace hM := (if_neg e1).symm.trans hM
    cases hM
  · refine wk_callX (vx_runV (As := [.int p1, .int p2, .int p3, .int p4, .int p5]) (rest := []) ⟨hx, hb, hml, hown, hts⟩ (c_X6_order l hflags dC dI cI cD cJ kk g x p1 p2 p3 p4 p5 _ hr9 H) (cwV 5 hts gL_order_X6_order rfl rfl rfl (by decide +kernel) ⟨(Nat.le_of_ble_eq_true rfl), (Nat.le_of_ble_eq_true rfl)⟩) (wk_preVT (ci := 4) (q0 := 0) hG hP hD hT hS (fun _ h9 => h9) [0, 1, 2, 3, 4, 5, 6, 7, 8, 9, 10, 11, 12, 13, 14, 15, 16, 17, 18, 19, 20, 21, 22, 23, 24, 25, 26, 27, 28, 29, 30, 31, 32, 33, 34, 35, 36, 37] rfl rfl rfl rfl (va_free hD hS hA [0, 1, 2, 3, 4, 5, 6, 7, 8, 9, 10, 11, 12, 13, 14, 15, 16, 17, 18, 19, 20, 21, 22, 23, 24, 25, 26, 27, 28, 29, 30, 31, 32, 33, 34, 35, 36, 37] rfl)) rfl rfl hl.1 rfl (lv_room (Nat.le_of_ble_eq_true rfl)) dL_order_8 ⟨(Nat.le_of_ble_eq_true rfl), (Nat.le_of_ble_eq_true rfl)⟩) hP hD hS hA [0, 1, 2, 3, 4, 5, 6, 7, 8, 9, 10, 11, 12, 13, 14, 15, 16, 17, 18, 19, 20, 21, 22, 23, 24, 25, 26, 27, 28, 29, 30, 31, 32, 33, 34, 35, 36, 37] [] [0, 1, 2, 3, 4, 5, 6, 7, 8, 9, 10, 11, 12, 13, 14, 15, 16, 17, 18, 19, 20, 21, 22, 23, 24, 25, 26, 27, 28, 29, 30, 31, 32, 33, 34, 35, 36, 37] rfl rfl rfl (by decide) rfl rfl (fun f9 ce q9 H locs ho9 hP hD hS hc9 hv9 hf9 => by cases ho9) (fun ov w1 ho9 H locs hPD hS => ?_)
    cases ho9
    obtain ⟨hP, hD⟩ := hPD (wSys cI cD kk.1 g r0.2) rfl
    replace hM := Option.some.inj hM
    subst hM
    refine lv_pop hx hb dL_order_11 rfl ?_
    refine lv_goto (tgt := 23) hx hb dL_order_12 (by decide) ?_
    refine lv_iconst (v := 0) hx hb dL_order_23 (by decide) ?_
    exact wk_retXi hx hb hr hlocks hQ rfl rfl hP hD hS (Nat.le_of_ble_eq_true rfl) (Nat.le_of_ble_eq_true rfl) dL_order_24
set_option maxHeartbeats 4000000 in
set_option maxRecDepth 100000 in
theorem c_L_cancel (l : Launch) (hflags : l.stackTraces = false) (dC : Nat → ClassId) (dI : Nat → Nat → Nat) (cI cD cJ : ClassId) (kk : wAd) (g : Nat → Nat) (x : SS) (p1 : Int32) (p2 : Int32) (out : Int32 × SS) (hM : M_L_cancel x p1 p2 = some out) : CL kk l yL_cancel wsL_cancel ({ frames := 8, cells := 2, slots := 12, locals := 125 } : Room) dC dI (wTys cI cD cJ) [.ref (g 0), .int p1, .int p2] (wSys cI cD kk.1 g x) (.inr (some (.int out.1), wSys cI cD kk.1 g out.2)) 2 12 := by
  refine wk_enterL (cc := cL_cancel) (maxL := 4) (ret := some .int) (hh := [(0, 7, 10, 21), (0, 7, 13, 23)]) (by decide) rfl (Nat.le_of_ble_eq_true rfl) ?_
  intro p e s m below meth c A Q ls hB htab hN hT hA hP hD hQ hl
  obtain ⟨hx, hb, hml, hr, hts, hown, hname, hlocks, hG⟩ := hB
  have hown : s.vm.findClass RL = some m.cls := hown
  have hS : va_S A s.heap s.heap [] := va_S.rf
  have hl : lv_has ls 4 [(0, .ref (g 0)), (1, .int p1), (2, .int p2)] := hl
  obtain ⟨H, hH⟩ : ∃ z, z = s.heap := ⟨_, rfl⟩
  have hP : va_P (dC, dI) vwCl (wSys cI cD kk.1 g x) H := by rw [hH]; exact hP
  have hS : va_S A s.heap H [] := by rw [hH]; exact hS
  refine wk_at hH ?_
  generalize ([] : List Loc) = locs at hS ⊢
  unfold M_L_cancel at hM
  obtain ⟨r, hr9, hM⟩ := ob hM
  refine lv_aload_n hx hb dL_cancel_0 rfl (lv_at hl 0 rfl) ?_
  refine lv_iload_n hx hb dL_cancel_1 rfl (lv_at hl 1 rfl) ?_
  refine lv_iload_n hx hb dL_cancel_2 rfl (lv_at hl 2 rfl) ?_
  rcases r with f0 | r0
  · refine wk_callX (vx_runV (As := [.int p1, .int p2]) (rest := []) ⟨hx, hb, hml, hown, hts⟩ (c_X6_cancel l hflags dC dI cI cD cJ kk g x p1 p2 _ hr9 H) (cwV 2 hts gL_cancel_X6_cancel rfl rfl rfl (by decide +kernel) ⟨(Nat.le_of_ble_eq_true rfl), (Nat.le_of_ble_eq_true rfl)⟩) (wk_preVT (ci := 4) (q0 := 0) hG hP hD hT hS (fun _ h9 => h9) [0, 1, 2, 3, 4, 5, 6, 7, 8, 9, 10, 11, 12, 13, 14, 15, 16, 17, 18, 19, 20, 21, 22, 23, 24, 25, 26, 27, 28, 29, 30, 31, 32, 33, 34, 35, 36, 37] rfl rfl rfl rfl (va_free hD hS hA [0, 1, 2, 3, 4, 5, 6, 7, 8, 9, 10, 11, 12, 13, 14, 15, 16, 17, 18, 19, 20, 21, 22, 23, 24, 25, 26, 27, 28, 29, 30, 31, 32, 33, 34, 35, 36, 37] rfl)) rfl rfl hl.1 rfl (lv_room (Nat.le_of_ble_eq_true rfl)) dL_cancel_3 ⟨(Nat.le_of_ble_eq_true rfl), (Nat.le_of_ble_eq_true rfl)⟩) hP hD hS hA [0, 1, 2, 3, 4, 5, 6, 7, 8, 9, 10, 11, 12, 13, 14, 15, 16, 17, 18, 19, 20, 21, 22, 23, 24, 25, 26, 27, 28, 29, 30, 31, 32, 33, 34, 35, 36, 37] [] [0, 1, 2, 3, 4, 5, 6, 7, 8, 9, 10, 11, 12, 13, 14, 15, 16, 17, 18, 19, 20, 21, 22, 23, 24, 25, 26, 27, 28, 29, 30, 31, 32, 33, 34, 35, 36, 37] rfl rfl rfl (by decide) rfl rfl (fun f9 ce q9 H locs ho9 hP hD hS hc9 hv9 hf9 => ?_) (fun ov w1 ho9 => by cases ho9)
    cases ho9
    by_cases e0 : f0 = 2
    · replace hM := (if_pos e0).symm.trans hM
      replace hM := Option.some.inj hM
      subst hM
      have hf9 : s.vm.findClass xIA = some ce.cls := by rw [e0] at hf9; exact hf9
      refine vx_catch (name := xIA) (E := xIA) (ce := ce) hown [] (ExceptionTableEntry.mk 0 7 10 21) [(ExceptionTableEntry.mk 0 7 13 23)] htab (fun z hz => by cases hz) rfl (by decide) (hts (.classLink RL 21 xIA) (by decide +kernel)) (va_Nw.use rfl (hG.2 _ (List.mem_of_getElem? (i := 14) rfl))) hc9 hv9 hf9 ?_
      refine lv_astore_n (lv' := [(3, .ref q9), (0, .ref (g 0)), (1, .int p1), (2, .int p2)]) hx hb dL_cancel_10 rfl hl (by decide) rfl (fun ls hl => ?_)
      refine lv_iconst (v := 1) hx hb dL_cancel_11 (by decide) ?_
      exact wk_retXi hx hb hr hlocks hQ rfl rfl hP hD hS (Nat.le_of_ble_eq_true rfl) (Nat.le_of_ble_eq_true rfl) dL_cancel_12
    replace hM := (if_neg e0).symm.trans hM
    by_cases e1 : f0 = 3
    · replace hM := (if_pos e1).symm.trans hM
      replace hM := Option.some.inj hM
      subst hM
      have hf9 : s.vm.findClass xIS = some ce.cls := by rw [e1] at hf9; exact hf9
      refine vx_catch (name := xIS) (E := xIS) (ce := ce) hown [(ExceptionTableEntry.mk 0 7 10 21)] (ExceptionTableEntry.mk 0 7 13 23) [] htab (fun z hz => by cases List.mem_singleton.mp hz; exact Or.inr ⟨by decide, xIA, hts (.classLink RL 21 xIA) (by decide +kernel), hN.2.2⟩) rfl (by decide) (hts (.classLink RL 23 xIS) (by decide +kernel)) (va_Nw.use rfl (hG.2 _ (List.mem_of_getElem? (i := 15) rfl))) hc9 hv9 hf9 ?_
      refine lv_astore_n (lv' := [(3, .ref q9), (0, .ref (g 0)), (1, .int p1), (2, .int p2)]) hx hb dL_cancel_13 rfl hl (by decide) rfl (fun ls hl => ?_)
      refine lv_iconst (v := 2) hx hb dL_cancel_14 (by decide) ?_
      exact wk_retXi hx hb hr hlocks hQ rfl rfl hP hD hS (Nat.le_of_ble_eq_true rfl) (Nat.le_of_ble_eq_true rfl) dL_cancel_15
    replace hM := (if_neg e1).symm.trans hM
    cases hM
  · refine wk_callX (vx_runV (As := [.int p1, .int p2]) (rest := []) ⟨hx, hb, hml, hown, hts⟩ (c_X6_cancel l hflags dC dI cI cD cJ kk g x p1 p2 _ hr9 H) (cwV 2 hts gL_cancel_X6_cancel rfl rfl rfl (by decide +kernel) ⟨(Nat.le_of_ble_eq_true rfl), (Nat.le_of_ble_eq_true rfl)⟩) (wk_preVT (ci := 4) (q0 := 0) hG hP hD hT hS (fun _ h9 => h9) [0, 1, 2, 3, 4, 5, 6, 7, 8, 9, 10, 11, 12, 13, 14, 15, 16, 17, 18, 19, 20, 21, 22, 23, 24, 25, 26, 27, 28, 29, 30, 31, 32, 33, 34, 35, 36, 37] rfl rfl rfl rfl (va_free hD hS hA [0, 1, 2, 3, 4, 5, 6, 7, 8, 9, 10, 11, 12, 13, 14, 15, 16, 17, 18, 19, 20, 21, 22, 23, 24, 25, 26, 27, 28, 29, 30, 31, 32, 33, 34, 35, 36, 37] rfl)) rfl rfl hl.1 rfl (lv_room (Nat.le_of_ble_eq_true rfl)) dL_cancel_3 ⟨(Nat.le_of_ble_eq_true rfl), (Nat.le_of_ble_eq_true rfl)⟩) hP hD hS hA [0, 1, 2, 3, 4, 5, 6, 7, 8, 9, 10, 11, 12, 13, 14, 15, 16, 17, 18, 19, 20, 21, 22, 23, 24, 25, 26, 27, 28, 29, 30, 31, 32, 33, 34, 35, 36, 37] [] [0, 1, 2, 3, 4, 5, 6, 7, 8, 9, 10, 11, 12, 13, 14, 15, 16, 17, 18, 19, 20, 21, 22, 23, 24, 25, 26, 27, 28, 29, 30, 31, 32, 33, 34, 35, 36, 37] rfl rfl rfl (by decide) rfl rfl (fun f9 ce q9 H locs ho9 hP hD hS hc9 hv9 hf9 => by cases ho9) (fun ov w1 ho9 H locs hPD hS => ?_)
    cases ho9
    obtain ⟨hP, hD⟩ := hPD (wSys cI cD kk.1 g r0.2) rfl
    replace hM := Option.some.inj hM
    subst hM
    refine lv_pop hx hb dL_cancel_6 rfl ?_
    refine lv_goto (tgt := 16) hx hb dL_cancel_7 (by decide) ?_
    refine lv_iconst (v := 0) hx hb dL_cancel_16 (by decide) ?_
    exact wk_retXi hx hb hr hlocks hQ rfl rfl hP hD hS (Nat.le_of_ble_eq_true rfl) (Nat.le_of_ble_eq_true rfl) dL_cancel_17
set_option maxHeartbeats 4000000 in
set_option maxRecDepth 100000 in
theorem c_L_wake (l : Launch) (hflags : l.stackTraces = false) (dC : Nat → ClassId) (dI : Nat → Nat → Nat) (cI cD cJ : ClassId) (kk : wAd) (g : Nat → Nat) (x : SS) (p1 : Int32) (out : Int32 × SS) (hM : M_L_wake x p1 = some out) : CL kk l yL_wake wsL_wake ({ frames := 8, cells := 2, slots := 12, locals := 124 } : Room) dC dI (wTys cI cD cJ) [.ref (g 0), .int p1] (wSys cI cD kk.1 g x) (.inr (some (.int out.1), wSys cI cD kk.1 g out.2)) 2 12 := by
  refine wk_enterL (cc := cL_wake) (maxL := 3) (ret := some .int) (hh := [(0, 6, 9, 32), (0, 6, 12, 23)]) (by decide) rfl (Nat.le_of_ble_eq_true rfl) ?_
  intro p e s m below meth c A Q ls hB htab hN hT hA hP hD hQ hl
  obtain ⟨hx, hb, hml, hr, hts, hown, hname, hlocks, hG⟩ := hB
  have hown : s.vm.findClass RL = some m.cls := hown
  have hS : va_S A s.heap s.heap [] := va_S.rf
  have hl : lv_has ls 3 [(0, .ref (g 0)), (1, .int p1)] := hl
  obtain ⟨H, hH⟩ : ∃ z, z = s.heap := ⟨_, rfl⟩
  have hP : va_P (dC, dI) vwCl (wSys cI cD kk.1 g x) H := by rw [hH]; exact hP
  have hS : va_S A s.heap H [] := by rw [hH]; exact hS
  refine wk_at hH ?_
  generalize ([] : List Loc) = locs at hS ⊢
  unfold M_L_wake at hM
  obtain ⟨r, hr9, hM⟩ := ob hM
  refine lv_aload_n hx hb dL_wake_0 rfl (lv_at hl 0 rfl) ?_
  refine lv_iload_n hx hb dL_wake_1 rfl (lv_at hl 1 rfl) ?_
  rcases r with f0 | r0
  · refine wk_callX (vx_runV (As := [.int p1]) (rest := []) ⟨hx, hb, hml, hown, hts⟩ (c_X6_wake l hflags dC dI cI cD cJ kk g x p1 _ hr9 H) (cwV 1 hts gL_wake_X6_wake rfl rfl rfl (by decide +kernel) ⟨(Nat.le_of_ble_eq_true rfl), (Nat.le_of_ble_eq_true rfl)⟩) (wk_preVT (ci := 4) (q0 := 0) hG hP hD hT hS (fun _ h9 => h9) [0, 1, 2, 3, 4, 5, 6, 7, 8, 9, 10, 11, 12, 13, 14, 15, 16, 17, 18, 19, 20, 21, 22, 23, 24, 25, 26, 27, 28, 29, 30, 31, 32, 33, 34, 35, 36, 37] rfl rfl rfl rfl (va_free hD hS hA [0, 1, 2, 3, 4, 5, 6, 7, 8, 9, 10, 11, 12, 13, 14, 15, 16, 17, 18, 19, 20, 21, 22, 23, 24, 25, 26, 27, 28, 29, 30, 31, 32, 33, 34, 35, 36, 37] rfl)) rfl rfl hl.1 rfl (lv_room (Nat.le_of_ble_eq_true rfl)) dL_wake_2 ⟨(Nat.le_of_ble_eq_true rfl), (Nat.le_of_ble_eq_true rfl)⟩) hP hD hS hA [0, 1, 2, 3, 4, 5, 6, 7, 8, 9, 10, 11, 12, 13, 14, 15, 16, 17, 18, 19, 20, 21, 22, 23, 24, 25, 26, 27, 28, 29, 30, 31, 32, 33, 34, 35, 36, 37] [] [0, 1, 2, 3, 4, 5, 6, 7, 8, 9, 10, 11, 12, 13, 14, 15, 16, 17, 18, 19, 20, 21, 22, 23, 24, 25, 26, 27, 28, 29, 30, 31, 32, 33, 34, 35, 36, 37] rfl rfl rfl (by decide) rfl rfl (fun f9 ce q9 H locs ho9 hP hD hS hc9 hv9 hf9 => ?_) (fun ov w1 ho9 => by cases ho9)
    cases ho9
    by_cases e0 : f0 = 1
    · replace hM := (if_pos e0).symm.trans hM
      replace hM := Option.some.inj hM
      subst hM
      have hf9 : s.vm.findClass xIO = some ce.cls := by rw [e0] at hf9; exact hf9
      refine vx_catch (name := xIO) (E := xIO) (ce := ce) hown [] (ExceptionTableEntry.mk 0 6 9 32) [(ExceptionTableEntry.mk 0 6 12 23)] htab (fun z hz => by cases hz) rfl (by decide) (hts (.classLink RL 32 xIO) (by decide +kernel)) (va_Nw.use rfl (hG.2 _ (List.mem_of_getElem? (i := 13) rfl))) hc9 hv9 hf9 ?_
      refine lv_astore_n (lv' := [(2, .ref q9), (0, .ref (g 0)), (1, .int p1)]) hx hb dL_wake_9 rfl hl (by decide) rfl (fun ls hl => ?_)
      refine lv_iconst (v := 1) hx hb dL_wake_10 (by decide) ?_
      exact wk_retXi hx hb hr hlocks hQ rfl rfl hP hD hS (Nat.le_of_ble_eq_true rfl) (Nat.le_of_ble_eq_true rfl) dL_wake_11
    replace hM := (if_neg e0).symm.trans hM
    by_cases e1 : f0 = 3
    · replace hM := (if_pos e1).symm.trans hM
      replace hM := Option.some.inj hM
      subst hM
      have hf9 : s.vm.findClass xIS = some ce.cls := by rw [e1] at hf9; exact hf9
      refine vx_catch (name := xIS) (E := xIS) (ce := ce) hown [(ExceptionTableEntry.mk 0 6 9 32)] (ExceptionTableEntry.mk 0 6 12 23) [] htab (fun z hz => by cases List.mem_singleton.mp hz; exact Or.inr ⟨by decide, xIO, hts (.classLink RL 32 xIO) (by decide +kernel), hN.2.1⟩) rfl (by decide) (hts (.classLink RL 23 xIS) (by decide +kernel)) (va_Nw.use rfl (hG.2 _ (List.mem_of_getElem? (i := 15) rfl))) hc9 hv9 hf9 ?_
      refine lv_astore_n (lv' := [(2, .ref q9), (0, .ref (g 0)), (1, .int p1)]) hx hb dL_wake_12 rfl hl (by decide) rfl (fun ls hl => ?_)
      refine lv_iconst (v := 2) hx hb dL_wake_13 (by decide) ?_
      exact wk_retXi hx hb hr hlocks hQ rfl rfl hP hD hS (Nat.le_of_ble_eq_true rfl) (Nat.le_of_ble_eq_true rfl) dL_wake_14
    replace hM := (if_neg e1).symm.trans hM
    cases hM
  · refine wk_callX (vx_runV (As := [.int p1]) (rest := []) ⟨hx, hb, hml, hown, hts⟩ (c_X6_wake l hflags dC dI cI cD cJ kk g x p1 _ hr9 H) (cwV 1 hts gL_wake_X6_wake rfl rfl rfl (by decide +kernel) ⟨(Nat.le_of_ble_eq_true rfl), (Nat.le_of_ble_eq_true rfl)⟩) (wk_preVT (ci := 4) (q0 := 0) hG hP hD hT hS (fun _ h9 => h9) [0, 1, 2, 3, 4, 5, 6, 7, 8, 9, 10, 11, 12, 13, 14, 15, 16, 17, 18, 19, 20, 21, 22, 23, 24, 25, 26, 27, 28, 29, 30, 31, 32, 33, 34, 35, 36, 37] rfl rfl rfl rfl (va_free hD hS hA [0, 1, 2, 3, 4, 5, 6, 7, 8, 9, 10, 11, 12, 13, 14, 15, 16, 17, 18, 19, 20, 21, 22, 23, 24, 25, 26, 27, 28, 29, 30, 31, 32, 33, 34, 35, 36, 37] rfl)) rfl rfl hl.1 rfl (lv_room (Nat.le_of_ble_eq_true rfl)) dL_wake_2 ⟨(Nat.le_of_ble_eq_true rfl), (Nat.le_of_ble_eq_true rfl)⟩) hP hD hS hA [0, 1, 2, 3, 4, 5, 6, 7, 8, 9, 10, 11, 12, 13, 14, 15, 16, 17, 18, 19, 20, 21, 22, 23, 24, 25, 26, 27, 28, 29, 30, 31, 32, 33, 34, 35, 36, 37] [] [0, 1, 2, 3, 4, 5, 6, 7, 8, 9, 10, 11, 12, 13, 14, 15, 16, 17, 18, 19, 20, 21, 22, 23, 24, 25, 26, 27, 28, 29, 30, 31, 32, 33, 34, 35, 36, 37] rfl rfl rfl (by decide) rfl rfl (fun f9 ce q9 H locs ho9 hP hD hS hc9 hv9 hf9 => by cases ho9) (fun ov w1 ho9 H locs hPD hS => ?_)
    cases ho9
    obtain ⟨hP, hD⟩ := hPD (wSys cI cD kk.1 g r0.2) rfl
    replace hM := Option.some.inj hM
    subst hM
    refine lv_pop hx hb dL_wake_5 rfl ?_
    refine lv_goto (tgt := 15) hx hb dL_wake_6 (by decide) ?_
    refine lv_iconst (v := 0) hx hb dL_wake_15 (by decide) ?_
    exact wk_retXi hx hb hr hlocks hQ rfl rfl hP hD hS (Nat.le_of_ble_eq_true rfl) (Nat.le_of_ble_eq_true rfl) dL_wake_16
set_option maxHeartbeats 4000000 in
set_option maxRecDepth 100000 in
theorem c_L_sleep (l : Launch) (hflags : l.stackTraces = false) (dC : Nat → ClassId) (dI : Nat → Nat → Nat) (cI cD cJ : ClassId) (kk : wAd) (g : Nat → Nat) (x : SS) (p1 : Int32) (out : Int32 × SS) (hM : M_L_sleep x p1 = some out) : CL kk l yL_sleep wsL_sleep ({ frames := 8, cells := 2, slots := 12, locals := 124 } : Room) dC dI (wTys cI cD cJ) [.ref (g 0), .int p1] (wSys cI cD kk.1 g x) (.inr (some (.int out.1), wSys cI cD kk.1 g out.2)) 2 12 := by
  refine wk_enterL (cc := cL_sleep) (maxL := 3) (ret := some .int) (hh := [(0, 6, 9, 32), (0, 6, 12, 23)]) (by decide) rfl (Nat.le_of_ble_eq_true rfl) ?_
  intro p e s m below meth c A Q ls hB htab hN hT hA hP hD hQ hl
  obtain ⟨hx, hb, hml, hr, hts, hown, hname, hlocks, hG⟩ := hB
  have hown : s.vm.findClass RL = some m.cls := hown
  have hS : va_S A s.heap s.heap [] := va_S.rf
  have hl : lv_has ls 3 [(0, .ref (g 0)), (1, .int p1)] := hl
  obtain ⟨H, hH⟩ : ∃ z, z = s.heap := ⟨_, rfl⟩
  have hP : va_P (dC, dI) vwCl (wSys cI cD kk.1 g x) H := by rw [hH]; exact hP
  have hS : va_S A s.heap H [] := by rw [hH]; exact hS
  refine wk_at hH ?_
  generalize ([] : List Loc) = locs at hS ⊢
  unfold M_L_sleep at hM
  obtain ⟨r, hr9, hM⟩ := ob hM
  refine lv_aload_n hx hb dL_sleep_0 rfl (lv_at hl 0 rfl) ?_
  refine lv_iload_n hx hb dL_sleep_1 rfl (lv_at hl 1 rfl) ?_
  rcases r with f0 | r0
  · refine wk_callX (vx_runV (As := [.int p1]) (rest := []) ⟨hx, hb, hml, hown, hts⟩ (c_X6_sleep l hflags dC dI cI cD cJ kk g x p1 _ hr9 H) (cwV 1 hts gL_sleep_X6_sleep rfl rfl rfl (by decide +kernel) ⟨(Nat.le_of_ble_eq_true rfl), (Nat.le_of_ble_eq_true rfl)⟩) (wk_preVT (ci := 4) (q0 := 0) hG hP hD hT hS (fun _ h9 => h9) [0, 1, 2, 3, 4, 5, 6, 7, 8, 9, 10, 11, 12, 13, 14, 15, 16, 17, 18, 19, 20, 21, 22, 23, 24, 25, 26, 27, 28, 29, 30, 31, 32, 33, 34, 35, 36, 37] rfl rfl rfl rfl (va_free hD hS hA [0, 1, 2, 3, 4, 5, 6, 7, 8, 9, 10, 11, 12, 13, 14, 15, 16, 17, 18, 19, 20, 21, 22, 23, 24, 25, 26, 27, 28, 29, 30, 31, 32, 33, 34, 35, 36, 37] rfl)) rfl rfl hl.1 rfl (lv_room (Nat.le_of_ble_eq_true rfl)) dL_sleep_2 ⟨(Nat.le_of_ble_eq_true rfl), (Nat.le_of_ble_eq_true rfl)⟩) hP hD hS hA [0, 1, 2, 3, 4, 5, 6, 7, 8, 9, 10, 11, 12, 13, 14, 15, 16, 17, 18, 19, 20, 21, 22, 23, 24, 25, 26, 27, 28, 29, 30, 31, 32, 33, 34, 35, 36, 37] [] [0, 1, 2, 3, 4, 5, 6, 7, 8, 9, 10, 11, 12, 13, 14, 15, 16, 17, 18, 19, 20, 21, 22, 23, 24, 25, 26, 27, 28, 29, 30, 31, 32, 33, 34, 35, 36, 37] rfl rfl rfl (by decide) rfl rfl (fun f9 ce q9 H locs ho9 hP hD hS hc9 hv9 hf9 => ?_) (fun ov w1 ho9 => by cases ho9)
    cases ho9
    by_cases e0 : f0 = 1
    · replace hM := (if_pos e0).symm.trans hM
      replace hM := Option.some.inj hM
      subst hM
      have hf9 : s.vm.findClass xIO = some ce.cls := by rw [e0] at hf9; exact hf9
      refine vx_catch (name := xIO) (E := xIO) (ce := ce) hown [] (ExceptionTableEntry.mk 0 6 9 32) [(ExceptionTableEntry.mk 0 6 12 23)] htab (fun z hz => by cases hz) rfl (by decide) (hts (.classLink RL 32 xIO) (by decide +kernel)) (va_Nw.use rfl (hG.2 _ (List.mem_of_getElem? (i := 13) rfl))) hc9 hv9 hf9 ?_
      refine lv_astore_n (lv' := [(2, .ref q9), (0, .ref (g 0)), (1, .int p1)]) hx hb dL_sleep_9 rfl hl (by decide) rfl (fun ls hl => ?_)
      refine lv_iconst (v := 1) hx hb dL_sleep_10 (by decide) ?_
      exact wk_retXi hx hb hr hlocks hQ rfl rfl hP hD hS (Nat.le_of_ble_eq_true rfl) (Nat.le_of_ble_eq_true rfl) dL_sleep_11
    replace hM := (if_neg e0).symm.trans hM
    by_cases e1 : f0 = 3
    · replace hM := (if_pos e1).symm.trans hM
      replace hM := Option.some.inj hM
      subst hM
      have hf9 : s.vm.findClass xIS = some ce.cls := by rw [e1] at hf9; exact hf9
      refine vx_catch (name := xIS) (E := xIS) (ce := ce) hown [(ExceptionTableEntry.mk 0 6 9 32)] (ExceptionTableEntry.mk 0 6 12 23) [] htab (fun z hz => by cases List.mem_singleton.mp hz; exact Or.inr ⟨by decide, xIO, hts (.classLink RL 32 xIO) (by decide +kernel), hN.2.1⟩) rfl (by decide) (hts (.classLink RL 23 xIS) (by decide +kernel)) (va_Nw.use rfl (hG.2 _ (List.mem_of_getElem? (i := 15) rfl))) hc9 hv9 hf9 ?_
      refine lv_astore_n (lv' := [(2, .ref q9), (0, .ref (g 0)), (1, .int p1)]) hx hb dL_sleep_12 rfl hl (by decide) rfl (fun ls hl => ?_)
      refine lv_iconst (v := 2) hx hb dL_sleep_13 (by decide) ?_
      exact wk_retXi hx hb hr hlocks hQ rfl rfl hP hD hS (Nat.le_of_ble_eq_true rfl) (Nat.le_of_ble_eq_true rfl) dL_sleep_14
    replace hM := (if_neg e1).symm.trans hM
    cases hM
  · refine wk_callX (vx_runV (As := [.int p1]) (rest := []) ⟨hx, hb, hml, hown, hts⟩ (c_X6_sleep l hflags dC dI cI cD cJ kk g x p1 _ hr9 H) (cwV 1 hts gL_sleep_X6_sleep rfl rfl rfl (by decide +kernel) ⟨(Nat.le_of_ble_eq_true rfl), (Nat.le_of_ble_eq_true rfl)⟩) (wk_preVT (ci := 4) (q0 := 0) hG hP hD hT hS (fun _ h9 => h9) [0, 1, 2, 3, 4, 5, 6, 7, 8, 9, 10, 11, 12, 13, 14, 15, 16, 17, 18, 19, 20, 21, 22, 23, 24, 25, 26, 27, 28, 29, 30, 31, 32, 33, 34, 35, 36, 37] rfl rfl rfl rfl (va_free hD hS hA [0, 1, 2, 3, 4, 5, 6, 7, 8, 9, 10, 11, 12, 13, 14, 15, 16, 17, 18, 19, 20, 21, 22, 23, 24, 25, 26, 27, 28, 29, 30, 31, 32, 33, 34, 35, 36, 37] rfl)) rfl rfl hl.1 rfl (lv_room (Nat.le_of_ble_eq_true rfl)) dL_sleep_2 ⟨(Nat.le_of_ble_eq_true rfl), (Nat.le_of_ble_eq_true rfl)⟩) hP hD hS hA [0, 1, 2, 3, 4, 5, 6, 7, 8, 9, 10, 11, 12, 13, 14, 15, 16, 17, 18, 19, 20, 21, 22, 23, 24, 25, 26, 27, 28, 29, 30, 31, 32, 33, 34, 35, 36, 37] [] [0, 1, 2, 3, 4, 5, 6, 7, 8, 9, 10, 11, 12, 13, 14, 15, 16, 17, 18, 19, 20, 21, 22, 23, 24, 25, 26, 27, 28, 29, 30, 31, 32, 33, 34, 35, 36, 37] rfl rfl rfl (by decide) rfl rfl (fun f9 ce q9 H locs ho9 hP hD hS hc9 hv9 hf9 => by cases ho9) (fun ov w1 ho9 H locs hPD hS => ?_)
    cases ho9
    obtain ⟨hP, hD⟩ := hPD (wSys cI cD kk.1 g r0.2) rfl
    replace hM := Option.some.inj hM
    subst hM
    refine lv_pop hx hb dL_sleep_5 rfl ?_
    refine lv_goto (tgt := 15) hx hb dL_sleep_6 (by decide) ?_
    refine lv_iconst (v := 0) hx hb dL_sleep_15 (by decide) ?_
    exact wk_retXi hx hb hr hlocks hQ rfl rfl hP hD hS (Nat.le_of_ble_eq_true rfl) (Nat.le_of_ble_eq_true rfl) dL_sleep_16
set_option maxHeartbeats 4000000 in
set_option maxRecDepth 100000 in
theorem c_L_setDelay (l : Launch) (hflags : l.stackTraces = false) (dC : Nat → ClassId) (dI : Nat → Nat → Nat) (cI cD cJ : ClassId) (kk : wAd) (g : Nat → Nat) (x : SS) (p1 : Int32) (p2 : Int32) (out : Int32 × SS) (hM : M_L_setDelay x p1 p2 = some out) : CL kk l yL_setDelay wsL_setDelay ({ frames := 8, cells := 2, slots := 12, locals := 125 } : Room) dC dI (wTys cI cD cJ) [.ref (g 0), .int p1, .int p2] (wSys cI cD kk.1 g x) (.inr (some (.int out.1), wSys cI cD kk.1 g out.2)) 2 12 := by
  refine wk_enterL (cc := cL_setDelay) (maxL := 4) (ret := some .int) (hh := [(0, 7, 10, 32), (0, 7, 13, 21)]) (by decide) rfl (Nat.le_of_ble_eq_true rfl) ?_
  intro p e s m below meth c A Q ls hB htab hN hT hA hP hD hQ hl
  obtain ⟨hx, hb, hml, hr, hts, hown, hname, hlocks, hG⟩ := hB
  have hown : s.vm.findClass RL = some m.cls := hown
  have hS : va_S A s.heap s.heap [] := va_S.rf
  have hl : lv_has ls 4 [(0, .ref (g 0)), (1, .int p1), (2, .int p2)] := hl
  obtain ⟨H, hH⟩ : ∃ z, z = s.heap := ⟨_, rfl⟩
  have hP : va_P (dC, dI) vwCl (wSys cI cD kk.1 g x) H := by rw [hH]; exact hP
  have hS : va_S A s.heap H [] := by rw [hH]; exact hS
  refine wk_at hH ?_
  generalize ([] : List Loc) = locs at hS ⊢
  unfold M_L_setDelay at hM
  obtain ⟨r, hr9, hM⟩ := ob hM
  refine lv_aload_n hx hb dL_setDelay_0 rfl (lv_at hl 0 rfl) ?_
  refine lv_iload_n hx hb dL_setDelay_1 rfl (lv_at hl 1 rfl) ?_
  refine lv_iload_n hx hb dL_setDelay_2 rfl (lv_at hl 2 rfl) ?_
  rcases r with f0 | r0
  · refine wk_callX (vx_runV (As := [.int p1, .int p2]) (rest := []) ⟨hx, hb, hml, hown, hts⟩ (c_X6_setDelay l hflags dC dI cI cD cJ kk g x p1 p2 _ hr9 H) (cwV 2 hts gL_setDelay_X6_setDelay rfl rfl rfl (by decide +kernel) ⟨(Nat.le_of_ble_eq_true rfl), (Nat.le_of_ble_eq_true rfl)⟩) (wk_preVT (ci := 4) (q0 := 0) hG hP hD hT hS (fun _ h9 => h9) [0, 1, 2, 3, 4, 5, 6, 7, 8, 9, 10, 11, 12, 13, 14, 15, 16, 17, 18, 19, 20, 21, 22, 23, 24, 25, 26, 27, 28, 29, 30, 31, 32, 33, 34, 35, 36, 37] rfl rfl rfl rfl (va_free hD hS hA [0, 1, 2, 3, 4, 5, 6, 7, 8, 9, 10, 11, 12, 13, 14, 15, 16, 17, 18, 19, 20, 21, 22, 23, 24, 25, 26, 27, 28, 29, 30, 31, 32, 33, 34, 35, 36, 37] rfl)) rfl rfl hl.1 rfl (lv_room (Nat.le_of_ble_eq_true rfl)) dL_setDelay_3 ⟨(Nat.le_of_ble_eq_true rfl), (Nat.le_of_ble_eq_true rfl)⟩) hP hD hS hA [0, 1, 2, 3, 4, 5, 6, 7, 8, 9, 10, 11, 12, 13, 14, 15, 16, 17, 18, 19, 20, 21, 22, 23, 24, 25, 26, 27, 28, 29, 30, 31, 32, 33, 34, 35, 36, 37] [] [0, 1, 2, 3, 4, 5, 6, 7, 8, 9, 10, 11, 12, 13, 14, 15, 16, 17, 18, 19, 20, 21, 22, 23, 24, 25, 26, 27, 28, 29, 30, 31, 32, 33, 34, 35, 36, 37] rfl rfl rfl (by decide) rfl rfl (fun f9 ce q9 H locs ho9 hP hD hS hc9 hv9 hf9 => ?_) (fun ov w1 ho9 => by cases ho9)
    cases ho9
    by_cases e0 : f0 = 1
    · replace hM := (if_pos e0).symm.trans hM
      replace hM := Option.some.inj hM
      subst hM
      have hf9 : s.vm.findClass xIO = some ce.cls := by rw [e0] at hf9; exact hf9
      refine vx_catch (name := xIO) (E := xIO) (ce := ce) hown [] (ExceptionTableEntry.mk 0 7 10 32) [(ExceptionTableEntry.mk 0 7 13 21)] htab (fun z hz => by cases hz) rfl (by decide) (hts (.classLink RL 32 xIO) (by decide +kernel)) (va_Nw.use rfl (hG.2 _ (List.mem_of_getElem? (i := 13) rfl))) hc9 hv9 hf9 ?_
      refine lv_astore_n (lv' := [(3, .ref q9), (0, .ref (g 0)), (1, .int p1), (2, .int p2)]) hx hb dL_setDelay_10 rfl hl (by decide) rfl (fun ls hl => ?_)
      refine lv_iconst (v := 1) hx hb dL_setDelay_11 (by decide) ?_
      exact wk_retXi hx hb hr hlocks hQ rfl rfl hP hD hS (Nat.le_of_ble_eq_true rfl) (Nat.le_of_ble_eq_true rfl) dL_setDelay_12
    replace hM := (if_neg e0).symm.trans hM
    by_cases e1 : f0 = 2
    · replace hM := (if_pos e1).symm.trans hM
      replace hM := Option.some.inj hM
      subst hM
      have hf9 : s.vm.findClass xIA = some ce.cls := by rw [e1] at hf9; exact hf9
      refine vx_catch (name := xIA) (E := xIA) (ce := ce) hown [(ExceptionTableEntry.mk 0 7 10 32)] (ExceptionTableEntry.mk 0 7 13 21) [] htab (fun z hz => by cases List.mem_singleton.mp hz; exact Or.inr ⟨by decide, xIO, hts (.classLink RL 32 xIO) (by decide +kernel), hN.1⟩) rfl (by decide) (hts (.classLink RL 21 xIA) (by decide +kernel)) (va_Nw.use rfl (hG.2 _ (List.mem_of_getElem? (i := 14) rfl))) hc9 hv9 hf9 ?_
      refine lv_astore_n (lv' := [(3, .ref q9), (0, .ref (g 0)), (1, .int p1), (2, .int p2)]) hx hb dL_setDelay_13 rfl hl (by decide) rfl (fun ls hl => ?_)
      refine lv_iconst (v := 2) hx hb dL_setDelay_14 (by decide) ?_
      exact wk_retXi hx hb hr hlocks hQ rfl rfl hP hD hS (Nat.le_of_ble_eq_true rfl) (Nat.le_of_ble_eq_true rfl) dL_setDelay_15
    replace hM := (if_neg e1).symm.trans hM
    cases hM
  · refine wk_callX (vx_runV (As := [.int p1, .int p2]) (rest := []) ⟨hx, hb, hml, hown, hts⟩ (c_X6_setDelay l hflags dC dI cI cD cJ kk g x p1 p2 _ hr9 H) (cwV 2 hts gL_setDelay_X6_setDelay rfl rfl rfl (by decide +kernel) ⟨(Nat.le_of_ble_eq_true rfl), (Nat.le_of_ble_eq_true rfl)⟩) (wk_preVT (ci := 4) (q0 := 0) hG hP hD hT hS (fun _ h9 => h9) [0, 1, 2, 3, 4, 5, 6, 7, 8, 9, 10, 11, 12, 13, 14, 15, 16, 17, 18, 19, 20, 21, 22, 23, 24, 25, 26, 27, 28, 29, 30, 31, 32, 33, 34, 35, 36, 37] rfl rfl rfl rfl (va_free hD hS hA [0, 1, 2, 3, 4, 5, 6, 7, 8, 9, 10, 11, 12, 13, 14, 15, 16, 17, 18, 19, 20, 21, 22, 23, 24, 25, 26, 27, 28, 29, 30, 31, 32, 33, 34, 35, 36, 37] rfl)) rfl rfl hl.1 rfl (lv_room (Nat.le_of_ble_eq_true rfl)) dL_setDelay_3 ⟨(Nat.le_of_ble_eq_true rfl), (Nat.le_of_ble_eq_true rfl)⟩) hP hD hS hA [0, 1, 2, 3, 4, 5, 6, 7, 8, 9, 10, 11, 12, 13, 14, 15, 16, 17, 18, 19, 20, 21, 22, 23, 24, 25, 26, 27, 28, 29, 30, 31, 32, 33, 34, 35, 36, 37] [] [0, 1, 2, 3, 4, 5, 6, 7, 8, 9, 10, 11, 12, 13, 14, 15, 16, 17, 18, 19, 20, 21, 22, 23, 24, 25, 26, 27, 28, 29, 30, 31, 32, 33, 34, 35, 36, 37] rfl rfl rfl (by decide) rfl rfl (fun f9 ce q9 H locs ho9 hP hD hS hc9 hv9 hf9 => by cases ho9) (fun ov w1 ho9 H locs hPD hS => ?_)
    cases ho9
    obtain ⟨hP, hD⟩ := hPD (wSys cI cD kk.1 g r0.2) rfl
    replace hM := Option.some.inj hM
    subst hM
    refine lv_pop hx hb dL_setDelay_6 rfl ?_
    refine lv_goto (tgt := 16) hx hb dL_setDelay_7 (by decide) ?_
    refine lv_iconst (v := 0) hx hb dL_setDelay_16 (by decide) ?_
    exact wk_retXi hx hb hr hlocks hQ rfl rfl hP hD hS (Nat.le_of_ble_eq_true rfl) (Nat.le_of_ble_eq_true rfl) dL_setDelay_17
set_option maxHeartbeats 4000000 in
set_option maxRecDepth 100000 in
theorem c_L_setAlarm (l : Launch) (hflags : l.stackTraces = false) (dC : Nat → ClassId) (dI : Nat → Nat → Nat) (cI cD cJ : ClassId) (kk : wAd) (g : Nat → Nat) (x : SS) (p1 : Int32) (p2 : Int32) (out : Int32 × SS) (hM : M_L_setAlarm x p1 p2 = some out) : CL kk l yL_setAlarm wsL_setAlarm ({ frames := 8, cells := 2, slots := 12, locals := 125 } : Room) dC dI (wTys cI cD cJ) [.ref (g 0), .int p1, .int p2] (wSys cI cD kk.1 g x) (.inr (some (.int out.1), wSys cI cD kk.1 g out.2)) 2 12 := by
  refine wk_enterL (cc := cL_setAlarm) (maxL := 4) (ret := some .int) (hh := [(0, 7, 10, 32), (0, 7, 13, 21)]) (by decide) rfl (Nat.le_of_ble_eq_true rfl) ?_
  intro p e s m below meth c A Q ls hB htab hN hT hA hP hD hQ hl
  obtain ⟨hx, hb, hml, hr, hts, hown, hname, hlocks, hG⟩ := hB
  have hown : s.vm.findClass RL = some m.cls := hown
  have hS : va_S A s.heap s.heap [] := va_S.rf
  have hl : lv_has ls 4 [(0, .ref (g 0)), (1, .int p1), (2, .int p2)] := hl
  obtain ⟨H, hH⟩ : ∃ z, z = s.heap := ⟨_, rfl⟩
  have hP : va_P (dC, dI) vwCl (wSys cI cD kk.1 g x) H := by rw [hH]; exact hP
  have hS : va_S A s.heap H [] := by rw [hH]; exact hS
  refine wk_at hH ?_
  generalize ([] : List Loc) = locs at hS ⊢
  unfold M_L_setAlarm at hM
  obtain ⟨r, hr9, hM⟩ := ob hM
  refine lv_aload_n hx hb dL_setAlarm_0 rfl (lv_at hl 0 rfl) ?_
  refine lv_iload_n hx hb dL_setAlarm_1 rfl (lv_at hl 1 rfl) ?_
  refine lv_iload_n hx hb dL_setAlarm_2 rfl (lv_at hl 2 rfl) ?_
  rcases r with f0 | r0
  · refine wk_callX (vx_runV (As := [.int p1, .int p2]) (rest := []) ⟨hx, hb, hml, hown, hts⟩ (c_X6_setAlarm l hflags dC dI cI cD cJ kk g x p1 p2 _ hr9 H) (cwV 2 hts gL_setAlarm_X6_setAlarm rfl rfl rfl (by decide +kernel) ⟨(Nat.le_of_ble_eq_true rfl), (Nat.le_of_ble_eq_true rfl)⟩) (wk_preVT (ci := 4) (q0 := 0) hG hP hD hT hS (fun _ h9 => h9) [0, 1, 2, 3, 4, 5, 6, 7, 8, 9, 10, 11, 12, 13, 14, 15, 16, 17, 18, 19, 20, 21, 22, 23, 24, 25, 26, 27, 28, 29, 30, 31, 32, 33, 34, 35, 36, 37] rfl rfl rfl rfl (va_free hD hS hA [0, 1, 2, 3, 4, 5, 6, 7, 8, 9, 10, 11, 12, 13, 14, 15, 16, 17, 18, 19, 20, 21, 22, 23, 24, 25, 26, 27, 28, 29, 30, 31, 32, 33, 34, 35, 36, 37] rfl)) rfl rfl hl.1 rfl (lv_room (Nat.le_of_ble_eq_true rfl)) dL_setAlarm_3 ⟨(Nat.le_of_ble_eq_true rfl), (Nat.le_of_ble_eq_true rfl)⟩) hP hD hS hA [0, 1, 2, 3, 4, 5, 6, 7, 8, 9, 10, 11, 12, 13, 14, 15, 16, 17, 18, 19, 20, 21, 22, 23, 24, 25, 26, 27, 28, 29, 30, 31, 32, 33, 34, 35, 36, 37] [] [0, 1, 2, 3, 4, 5, 6, 7, 8, 9, 10, 11, 12, 13, 14, 15, 16, 17, 18, 19, 20, 21, 22, 23, 24, 25, 26, 27, 28, 29, 30, 31, 32, 33, 34, 35, 36, 37] rfl rfl rfl (by decide) rfl rfl (fun f9 ce q9 H locs ho9 hP hD hS hc9 hv9 hf9 => ?_) (fun ov w1 ho9 => by cases ho9)
    cases ho9
    by_cases e0 : f0 = 1
    · replace hM := (if_pos e0).symm.trans hM
      replace hM := Option.some.inj hM
      subst hM
      have hf9 : s.vm.findClass xIO = some ce.cls := by rw [e0] at hf9; exact hf9
      refine vx_catch (name := xIO) (E := xIO) (ce := ce) hown [] (ExceptionTableEntry.mk 0 7 10 32) [(ExceptionTableEntry.mk 0 7 13 21)] htab (fun z hz => by cases hz) rfl (by decide) (hts (.classLink RL 32 xIO) (by decide +kernel)) (va_Nw.use rfl (hG.2 _ (List.mem_of_getElem? (i := 13) rfl))) hc9 hv9 hf9 ?_
      refine lv_astore_n (lv' := [(3, .ref q9), (0, .ref (g 0)), (1, .int p1), (2, .int p2)]) hx hb dL_setAlarm_10 rfl hl (by decide) rfl (fun ls hl => ?_)
      refine lv_iconst (v := 1) hx hb dL_setAlarm_11 (by decide) ?_
      exact wk_retXi hx hb hr hlocks hQ rfl rfl hP hD hS (Nat.le_of_ble_eq_true rfl) (Nat.le_of_ble_eq_true rfl) dL_setAlarm_12
    replace hM := (if_neg e0).symm.trans hM
    by_cases e1 : f0 = 2
    · replace hM := (if_pos e1).symm.trans hM
      replace hM := Option.some.inj hM
      subst hM
      have hf9 : s.vm.findClass xIA = some ce.cls := by rw [e1] at hf9; exact hf9
      refine vx_catch (name := xIA) (E := xIA) (ce := ce) hown [(ExceptionTableEntry.mk 0 7 10 32)] (ExceptionTableEntry.mk 0 7 13 21) [] htab (fun z hz => by cases List.mem_singleton.mp hz; exact Or.inr ⟨by decide, xIO, hts (.classLink RL 32 xIO) (by decide +kernel), hN.1⟩) rfl (by decide) (hts (.classLink RL 21 xIA) (by decide +kernel)) (va_Nw.use rfl (hG.2 _ (List.mem_of_getElem? (i := 14) rfl))) hc9 hv9 hf9 ?_
      refine lv_astore_n (lv' := [(3, .ref q9), (0, .ref (g 0)), (1, .int p1), (2, .int p2)]) hx hb dL_setAlarm_13 rfl hl (by decide) rfl (fun ls hl => ?_)
      refine lv_iconst (v := 2) hx hb dL_setAlarm_14 (by decide) ?_
      exact wk_retXi hx hb hr hlocks hQ rfl rfl hP hD hS (Nat.le_of_ble_eq_true rfl) (Nat.le_of_ble_eq_true rfl) dL_setAlarm_15
    replace hM := (if_neg e1).symm.trans hM
    cases hM
  · refine wk_callX (vx_runV (As := [.int p1, .int p2]) (rest := []) ⟨hx, hb, hml, hown, hts⟩ (c_X6_setAlarm l hflags dC dI cI cD cJ kk g x p1 p2 _ hr9 H) (cwV 2 hts gL_setAlarm_X6_setAlarm rfl rfl rfl (by decide +kernel) ⟨(Nat.le_of_ble_eq_true rfl), (Nat.le_of_ble_eq_true rfl)⟩) (wk_preVT (ci := 4) (q0 := 0) hG hP hD hT hS (fun _ h9 => h9) [0, 1, 2, 3, 4, 5, 6, 7, 8, 9, 10, 11, 12, 13, 14, 15, 16, 17, 18, 19, 20, 21, 22, 23, 24, 25, 26, 27, 28, 29, 30, 31, 32, 33, 34, 35, 36, 37] rfl rfl rfl rfl (va_free hD hS hA [0, 1, 2, 3, 4, 5, 6, 7, 8, 9, 10, 11, 12, 13, 14, 15, 16, 17, 18, 19, 20, 21, 22, 23, 24, 25, 26, 27, 28, 29, 30, 31, 32, 33, 34, 35, 36, 37] rfl)) rfl rfl hl.1 rfl (lv_room (Nat.le_of_ble_eq_true rfl)) dL_setAlarm_3 ⟨(Nat.le_of_ble_eq_true rfl), (Nat.le_of_ble_eq_true rfl)⟩) hP hD hS hA [0, 1, 2, 3, 4, 5, 6, 7, 8, 9, 10, 11, 12, 13, 14, 15, 16, 17, 18, 19, 20, 21, 22, 23, 24, 25, 26, 27, 28, 29, 30, 31, 32, 33, 34, 35, 36, 37] [] [0, 1, 2, 3, 4, 5, 6, 7, 8, 9, 10, 11, 12, 13, 14, 15, 16, 17, 18, 19, 20, 21, 22, 23, 24, 25, 26, 27, 28, 29, 30, 31, 32, 33, 34, 35, 36, 37] rfl rfl rfl (by decide) rfl rfl (fun f9 ce q9 H locs ho9 hP hD hS hc9 hv9 hf9 => by cases ho9) (fun ov w1 ho9 H locs hPD hS => ?_)
    cases ho9
    obtain ⟨hP, hD⟩ := hPD (wSys cI cD kk.1 g r0.2) rfl
    replace hM := Option.some.inj hM
    subst hM
    refine lv_pop hx hb dL_setAlarm_6 rfl ?_
    refine lv_goto (tgt := 16) hx hb dL_setAlarm_7 (by decide) ?_
    refine lv_iconst (v := 0) hx hb dL_setAlarm_16 (by decide) ?_
    exact wk_retXi hx hb hr hlocks hQ rfl rfl hP hD hS (Nat.le_of_ble_eq_true rfl) (Nat.le_of_ble_eq_true rfl) dL_setAlarm_17
set_option maxHeartbeats 4000000 in
set_option maxRecDepth 100000 in
theorem c_L_work (l : Launch) (hflags : l.stackTraces = false) (dC : Nat → ClassId) (dI : Nat → Nat → Nat) (cI cD cJ : ClassId) (kk : wAd) (g : Nat → Nat) (x : SS) (p1 : Int32) (p2 : Int32) (out : Int32 × SS) (hM : M_L_work x p1 p2 = some out) : CL kk l yL_work wsL_work ({ frames := 8, cells := 2, slots := 12, locals := 125 } : Room) dC dI (wTys cI cD cJ) [.ref (g 0), .int p1, .int p2] (wSys cI cD kk.1 g x) (.inr (some (.int out.1), wSys cI cD kk.1 g out.2)) 2 12 := by
  refine wk_enterL (cc := cL_work) (maxL := 4) (ret := some .int) (hh := [(0, 7, 10, 32), (0, 7, 13, 21), (0, 7, 16, 23)]) (by decide) rfl (Nat.le_of_ble_eq_true rfl) ?_
  intro p e s m below meth c A Q ls hB htab hN hT hA hP hD hQ hl
  obtain ⟨hx, hb, hml, hr, hts, hown, hname, hlocks, hG⟩ := hB
  have hown : s.vm.findClass RL = some m.cls := hown
  have hS : va_S A s.heap s.heap [] := va_S.rf
  have hl : lv_has ls 4 [(0, .ref (g 0)), (1, .int p1), (2, .int p2)] := hl
  obtain ⟨H, hH⟩ : ∃ z, z = s.heap := ⟨_, rfl⟩
  have hP : va_P (dC, dI) vwCl (wSys cI cD kk.1 g x) H := by rw [hH]; exact hP
  have hS : va_S A s.heap H [] := by rw [hH]; exact hS
  refine wk_at hH ?_
  generalize ([] : List Loc) = locs at hS ⊢
  unfold M_L_work at hM
  obtain ⟨r, hr9, hM⟩ := ob hM
  refine lv_aload_n hx hb dL_work_0 rfl (lv_at hl 0 rfl) ?_
  refine lv_iload_n hx hb dL_work_1 rfl (lv_at hl 1 rfl) ?_
  refine lv_iload_n hx hb dL_work_2 rfl (lv_at hl 2 rfl) ?_
  rcases r with f0 | r0
  · refine wk_callX (vx_runV (As := [.int p1, .int p2]) (rest := []) ⟨hx, hb, hml, hown, hts⟩ (c_X6_work l hflags dC dI cI cD cJ kk g x p1 p2 _ hr9 H) (cwV 2 hts gL_work_X6_work rfl rfl rfl (by decide +kernel) ⟨(Nat.le_of_ble_eq_true rfl), (Nat.le_of_ble_eq_true rfl)⟩) (wk_preVT (ci := 4) (q0 := 0) hG hP hD hT hS (fun _ h9 => h9) [0, 1, 2, 3, 4, 5, 6, 7, 8, 9, 10, 11, 12, 13, 14, 15, 16, 17, 18, 19, 20, 21, 22, 23, 24, 25, 26, 27, 28, 29, 30, 31, 32, 33, 34, 35, 36, 37] rfl rfl rfl rfl (va_free hD hS hA [0, 1, 2, 3, 4, 5, 6, 7, 8, 9, 10, 11, 12, 13, 14, 15, 16, 17, 18, 19, 20, 21, 22, 23, 24, 25, 26, 27, 28, 29, 30, 31, 32, 33, 34, 35, 36, 37] rfl)) rfl rfl hl.1 rfl (lv_room (Nat.le_of_ble_eq_true rfl)) dL_work_3 ⟨(Nat.le_of_ble_eq_true rfl), (Nat.le_of_ble_eq_true rfl)⟩) hP hD hS hA [0, 1, 2, 3, 4, 5, 6, 7, 8, 9, 10, 11, 12, 13, 14, 15, 16, 17, 18, 19, 20, 21, 22, 23, 24, 25, 26, 27, 28, 29, 30, 31, 32, 33, 34, 35, 36, 37] [] [0, 1, 2, 3, 4, 5, 6, 7, 8, 9, 10, 11, 12, 13, 14, 15, 16, 17, 18, 19, 20, 21, 22, 23, 24, 25, 26, 27, 28, 29, 30, 31, 32, 33, 34, 35, 36, 37] rfl rfl rfl (by decide) rfl rfl (fun f9 ce q9 H locs ho9 hP hD hS hc9 hv9 hf9 => ?_) (fun ov w1 ho9 => by cases ho9)
    cases ho9
    by_cases e0 : f0 = 1
    · replace hM := (if_pos e0).symm.trans hM
      replace hM := Option.some.inj hM
      subst hM
      have hf9 : s.vm.findClass xIO = some ce.cls := by rw [e0] at hf9; exact hf9
      refine vx_catch (name := xIO) (E := xIO) (ce := ce) hown [] (ExceptionTableEntry.mk 0 7 10 32) [(ExceptionTableEntry.mk 0 7 13 21), (ExceptionTableEntry.mk 0 7 16 23)] htab (fun z hz => by cases hz) rfl (by decide) (hts (.classLink RL 32 xIO) (by decide +kernel)) (va_Nw.use rfl (hG.2 _ (List.mem_of_getElem? (i := 13) rfl))) hc9 hv9 hf9 ?_
      refine lv_astore_n (lv' := [(3, .ref q9), (0, .ref (g 0)), (1, .int p1), (2, .int p2)]) hx hb dL_work_10 rfl hl (by decide) rfl (fun ls hl => ?_)
      refine lv_iconst (v := 1) hx hb dL_work_11 (by decide) ?_
      exact wk_retXi hx hb hr hlocks hQ rfl rfl hP hD hS (Nat.le_of_ble_eq_true rfl) (Nat.le_of_ble_eq_true rfl) dL_work_12
    replace hM := (if_neg e0).symm.trans hM
    by_cases e1 : f0 = 2
    · replace hM := (if_pos e1).symm.trans hM
      replace hM := Option.some.inj hM
      subst hM
      have hf9 : s.vm.findClass xIA = some ce.cls := by rw [e1] at hf9; exact hf9
      refine vx_catch (name := xIA) (E := xIA) (ce := ce) hown [(ExceptionTableEntry.mk 0 7 10 32)] (ExceptionTableEntry.mk 0 7 13 21) [(ExceptionTableEntry.mk 0 7 16 23)] htab (fun z hz => by cases List.mem_singleton.mp hz; exact Or.inr ⟨by decide, xIO, hts (.classLink RL 32 xIO) (by decide +kernel), hN.1⟩) rfl (by decide) (hts (.classLink RL 21 xIA) (by decide +kernel)) (va_Nw.use rfl (hG.2 _ (List.mem_of_getElem? (i := 14) rfl))) hc9 hv9 hf9 ?_
      refine lv_astore_n (lv' := [(3, .ref q9), (0, .ref (g 0)), (1, .int p1), (2, .int p2)]) hx hb dL_work_13 rfl hl (by decide) rfl (fun ls hl => ?_)
      refine lv_iconst (v := 2) hx hb dL_work_14 (by decide) ?_
      exact wk_retXi hx hb hr hlocks hQ rfl rfl hP hD hS (Nat.le_of_ble_eq_true rfl) (Nat.le_of_ble_eq_true rfl) dL_work_15
    replace hM := (if_neg e1).symm.trans hM
    by_cases e2 : f0 = 3
    · replace hM := (if_pos e2).symm.trans hM
      replace hM := Option.some.inj hM
      subst hM
      have hf9 : s.vm.findClass xIS = some ce.cls := by rw [e2] at hf9; exact hf9
      refine vx_catch (name := xIS) (E := xIS) (ce := ce) hown [(ExceptionTableEntry.mk 0 7 10 32), (ExceptionTableEntry.mk 0 7 13 21)] (ExceptionTableEntry.mk 0 7 16 23) [] htab (fun z hz => by
              rcases List.mem_cons.mp hz with hz | hz
              · subst hz; exact Or.inr ⟨by decide, xIO, hts (.classLink RL 32 xIO) (by decide +kernel), hN.2.1⟩
              · cases List.mem_singleton.mp hz; exact Or.inr ⟨by decide, xIA, hts (.classLink RL 21 xIA) (by decide +kernel), hN.2.2⟩) rfl (by decide) (hts (.classLink RL 23 xIS) (by decide +kernel)) (va_Nw.use rfl (hG.2 _ (List.mem_of_getElem? (i := 15) rfl))) hc9 hv9 hf9 ?_
      refine lv_astore_n (lv' := [(3, .ref q9), (0, .ref (g 0)), (1, .int p1), (2, .int p2)]) hx hb dL_work_16 rfl hl (by decide) rfl (fun ls hl => ?_)
      refine lv_iconst (v := 3) hx hb dL_work_17 (by decide) ?_
      exact wk_retXi hx hb hr hlocks hQ rfl rfl hP hD hS (Nat.le_of_ble_eq_true rfl) (Nat.le_of_ble_eq_true rfl) dL_work_18
    replace hM := (if_neg e2).symm.trans hM
    cases hM
  · refine wk_callX (vx_runV (As := [.int p1, .int p2]) (rest := []) ⟨hx, hb, hml, hown, hts⟩ (c_X6_work l hflags dC dI cI cD cJ kk g x p1 p2 _ hr9 H) (cwV 2 hts gL_work_X6_work rfl rfl rfl (by decide +kernel) ⟨(Nat.le_of_ble_eq_true rfl), (Nat.le_of_ble_eq_true rfl)⟩) (wk_preVT (ci := 4) (q0 := 0) hG hP hD hT hS (fun _ h9 => h9) [0, 1, 2, 3, 4, 5, 6, 7, 8, 9, 10, 11, 12, 13, 14, 15, 16, 17, 18, 19, 20, 21, 22, 23, 24, 25, 26, 27, 28, 29, 30, 31, 32, 33, 34, 35, 36, 37] rfl rfl rfl rfl (va_free hD hS hA [0, 1, 2, 3, 4, 5, 6, 7, 8, 9, 10, 11, 12, 13, 14, 15, 16, 17, 18, 19, 20, 21, 22, 23, 24, 25, 26, 27, 28, 29, 30, 31, 32, 33, 34, 35, 36, 37] rfl)) rfl rfl hl.1 rfl (lv_room (Nat.le_of_ble_eq_true rfl)) dL_work_3 ⟨(Nat.le_of_ble_eq_true rfl), (Nat.le_of_ble_eq_true rfl)⟩) hP hD hS hA [0, 1, 2, 3, 4, 5, 6, 7, 8, 9, 10, 11, 12, 13, 14, 15, 16, 17, 18, 19, 20, 21, 22, 23, 24, 25, 26, 27, 28, 29, 30, 31, 32, 33, 34, 35, 36, 37] [] [0, 1, 2, 3, 4, 5, 6, 7, 8, 9, 10, 11, 12, 13, 14, 15, 16, 17, 18, 19, 20, 21, 22, 23, 24, 25, 26, 27, 28, 29, 30, 31, 32, 33, 34, 35, 36, 37] rfl rfl rfl (by decide) rfl rfl (fun f9 ce q9 H locs ho9 hP hD hS hc9 hv9 hf9 => by cases ho9) (fun ov w1 ho9 H locs hPD hS => ?_)
    cases ho9
    obtain ⟨hP, hD⟩ := hPD (wSys cI cD kk.1 g r0.2) rfl
    replace hM := Option.some.inj hM
    subst hM
    refine lv_pop hx hb dL_work_6 rfl ?_
    refine lv_goto (tgt := 19) hx hb dL_work_7 (by decide) ?_
    refine lv_iconst (v := 0) hx hb dL_work_19 (by decide) ?_
    exact wk_retXi hx hb hr hlocks hQ rfl rfl hP hD hS (Nat.le_of_ble_eq_true rfl) (Nat.le_of_ble_eq_true rfl) dL_work_20
set_option maxHeartbeats 4000000 in
set_option maxRecDepth 100000 in
theorem c_L_pass (l : Launch) (hflags : l.stackTraces = false) (dC : Nat → ClassId) (dI : Nat → Nat → Nat) (cI cD cJ : ClassId) (kk : wAd) (g : Nat → Nat) (x : SS) (p1 : Int32) (out : Int32 × SS) (hM : M_L_pass x p1 = some out) : CL kk l yL_pass wsL_pass ({ frames := 8, cells := 2, slots := 12, locals := 139 } : Room) dC dI (wTys cI cD cJ) [.ref (g 0), .int p1] (wSys cI cD kk.1 g x) (.inr (some (.int out.1), wSys cI cD kk.1 g out.2)) 2 12 := by
  refine wk_enterL (cc := cL_pass) (maxL := 3) (ret := some .int) (hh := [(0, 6, 9, 21), (0, 6, 12, 23)]) (by decide) rfl (Nat.le_of_ble_eq_true rfl) ?_
  intro p e s m below meth c A Q ls hB htab hN hT hA hP hD hQ hl
  obtain ⟨hx, hb, hml, hr, hts, hown, hname, hlocks, hG⟩ := hB
  have hown : s.vm.findClass RL = some m.cls := hown
  have hS : va_S A s.heap s.heap [] := va_S.rf
  have hl : lv_has ls 3 [(0, .ref (g 0)), (1, .int p1)] := hl
  obtain ⟨H, hH⟩ : ∃ z, z = s.heap := ⟨_, rfl⟩
  have hP : va_P (dC, dI) vwCl (wSys cI cD kk.1 g x) H := by rw [hH]; exact hP
  have hS : va_S A s.heap H [] := by rw [hH]; exact hS
  refine wk_at hH ?_
  generalize ([] : List Loc) = locs at hS ⊢
  unfold M_L_pass at hM
  obtain ⟨r, hr9, hM⟩ := ob hM
  refine lv_aload_n hx hb dL_pass_0 rfl (lv_at hl 0 rfl) ?_
  refine lv_iload_n hx hb dL_pass_1 rfl (lv_at hl 1 rfl) ?_
  rcases r with f0 | r0
  · refine wk_callX (vx_runV (As := [.int p1]) (rest := []) ⟨hx, hb, hml, hown, hts⟩ (c_X6_pass l hflags dC dI cI cD cJ kk g x p1 _ hr9 H) (cwV 1 hts gL_pass_X6_pass rfl rfl rfl (by decide +kernel) ⟨(Nat.le_of_ble_eq_true rfl), (Nat.le_of_ble_eq_true rfl)⟩) (wk_preVT (ci := 4) (q0 := 0) hG hP hD hT hS (fun _ h9 => h9) [0, 1, 2, 3, 4, 5, 6, 7, 8, 9, 10, 11, 12, 13, 14, 15, 16, 17, 18, 19, 20, 21, 22, 23, 24, 25, 26, 27, 28, 29, 30, 31, 32, 33, 34, 35, 36, 37] rfl rfl rfl rfl (va_free hD hS hA [0, 1, 2, 3, 4, 5, 6, 7, 8, 9, 10, 11, 12, 13, 14, 15, 16, 17, 18, 19, 20, 21, 22, 23, 24, 25, 26, 27, 28, 29, 30, 31, 32, 33, 34, 35, 36, 37] rfl)) rfl rfl hl.1 rfl (lv_room (Nat.le_of_ble_eq_true rfl)) dL_pass_2 ⟨(Nat.le_of_ble_eq_true rfl), (Nat.le_of_ble_eq_true rfl)⟩) hP hD hS hA [0, 1, 2, 3, 4, 5, 6, 7, 8, 9, 10, 11, 12, 13, 14, 15, 16, 17, 18, 19, 20, 21, 22, 23, 24, 25, 26, 27, 28, 29, 30, 31, 32, 33, 34, 35, 36, 37] [] [0, 1, 2, 3, 4, 5, 6, 7, 8, 9, 10, 11, 12, 13, 14, 15, 16, 17, 18, 19, 20, 21, 22, 23, 24, 25, 26, 27, 28, 29, 30, 31, 32, 33, 34, 35, 36, 37] rfl rfl rfl (by decide) rfl rfl (fun f9 ce q9 H locs ho9 hP hD hS hc9 hv9 hf9 => ?_) (fun ov w1 ho9 => by cases ho9)
    cases ho9
    by_cases e0 : f0 = 2
    · replace hM := (if_pos e0).symm.trans hM
      replace hM := Option.some.inj hM
      subst hM
      have hf9 : s.vm.findClass xIA = some ce.cls := by rw [e0] at hf9; exact hf9
      refine vx_catch (name := xIA) (E := xIA) (ce := ce) hown [] (ExceptionTableEntry.mk 0 6 9 21) [(ExceptionTableEntry.mk 0 6 12 23)] htab (fun z hz => by cases hz) rfl (by decide) (hts (.classLink RL 21 xIA) (by decide +kernel)) (va_Nw.use rfl (hG.2 _ (List.mem_of_getElem? (i := 14) rfl))) hc9 hv9 hf9 ?_
      refine lv_astore_n (lv' := [(2, .ref q9), (0, .ref (g 0)), (1, .int p1)]) hx hb dL_pass_9 rfl hl (by decide) rfl (fun ls hl => ?_)
      refine lv_iconst (v := 1) hx hb dL_pass_10 (by decide) ?_
      exact wk_retXi hx hb hr hlocks hQ rfl rfl hP hD hS (Nat.le_of_ble_eq_true rfl) (Nat.le_of_ble_eq_true rfl) dL_pass_11
    replace hM := (if_neg e0).symm.trans hM
    by_cases e1 : f0 = 3
    · replace hM := (if_pos e1).symm.trans hM
      replace hM := Option.some.inj hM
      subst hM
      have hf9 : s.vm.findClass xIS = some ce.cls := by rw [e1] at hf9; exact hf9
      refine vx_catch (name := xIS) (E := xIS) (ce := ce) hown [(ExceptionTableEntry.mk 0 6 9 21)] (ExceptionTableEntry.mk 0 6 12 23) [] htab (fun z hz => by cases List.mem_singleton.mp hz; exact Or.inr ⟨by decide, xIA, hts (.classLink RL 21 xIA) (by decide +kernel), hN.2.2⟩) rfl (by decide) (hts (.classLink RL 23 xIS) (by decide +kernel)) (va_Nw.use rfl (hG.2 _ (List.mem_of_getElem? (i := 15) rfl))) hc9 hv9 hf9 ?_
      refine lv_astore_n (lv' := [(2, .ref q9), (0, .ref (g 0)), (1, .int p1)]) hx hb dL_pass_12 rfl hl (by decide) rfl (fun ls hl => ?_)
      refine lv_iconst (v := 2) hx hb dL_pass_13 (by decide) ?_
      exact wk_retXi hx hb hr hlocks hQ rfl rfl hP hD hS (Nat.le_of_ble_eq_true rfl) (Nat.le_of_ble_eq_true rfl) dL_pass_14
    replace hM := (if_neg e1).symm.trans hM
    cases hM
  · refine wk_callX (vx_runV (As := [.int p1]) (rest := []) ⟨hx, hb, hml, hown, hts⟩ (c_X6_pass l hflags dC dI cI cD cJ kk g x p1 _ hr9 H) (cwV 1 hts gL_pass_X6_pass rfl rfl rfl (by decide +kernel) ⟨(Nat.le_of_ble_eq_true rfl), (Nat.le_of_ble_eq_true rfl)⟩) (wk_preVT (ci := 4) (q0 := 0) hG hP hD hT hS (fun _ h9 => h9) [0, 1, 2, 3, 4, 5, 6, 7, 8, 9, 10, 11, 12, 13, 14, 15, 16, 17, 18, 19, 20, 21, 22, 23, 24, 25, 26, 27, 28, 29, 30, 31, 32, 33, 34, 35, 36, 37] rfl rfl rfl rfl (va_free hD hS hA [0, 1, 2, 3, 4, 5, 6, 7, 8, 9, 10, 11, 12, 13, 14, 15, 16, 17, 18, 19, 20, 21, 22, 23, 24, 25, 26, 27, 28, 29, 30, 31, 32, 33, 34, 35, 36, 37] rfl)) rfl rfl hl.1 rfl (lv_room (Nat.le_of_ble_eq_true rfl)) dL_pass_2 ⟨(Nat.le_of_ble_eq_true rfl), (Nat.le_of_ble_eq_true rfl)⟩) hP hD hS hA [0, 1, 2, 3, 4, 5, 6, 7, 8, 9, 10, 11, 12, 13, 14, 15, 16, 17, 18, 19, 20, 21, 22, 23, 24, 25, 26, 27, 28, 29, 30, 31, 32, 33, 34, 35, 36, 37] [] [0, 1, 2, 3, 4, 5, 6, 7, 8, 9, 10, 11, 12, 13, 14, 15, 16, 17, 18, 19, 20, 21, 22, 23, 24, 25, 26, 27, 28, 29, 30, 31, 32, 33, 34, 35, 36, 37] rfl rfl rfl (by decide) rfl rfl (fun f9 ce q9 H locs ho9 hP hD hS hc9 hv9 hf9 => by cases ho9) (fun ov w1 ho9 H locs hPD hS => ?_)
    cases ho9
    obtain ⟨hP, hD⟩ := hPD (wSys cI cD kk.1 g r0.2) rfl
    replace hM := Option.some.inj hM
    subst hM
    refine lv_pop hx hb dL_pass_5 rfl ?_
    refine lv_goto (tgt := 15) hx hb dL_pass_6 (by decide) ?_
    refine lv_iconst (v := 0) hx hb dL_pass_15 (by decide) ?_
    exact wk_retXi hx hb hr hlocks hQ rfl rfl hP hD hS (Nat.le_of_ble_eq_true rfl) (Nat.le_of_ble_eq_true rfl) dL_pass_16
set_option maxHeartbeats 4000000 in
set_option maxRecDepth 100000 in
theorem c_L_lose (l : Launch) (hflags : l.stackTraces = false) (dC : Nat → ClassId) (dI : Nat → Nat → Nat) (cI cD cJ : ClassId) (kk : wAd) (g : Nat → Nat) (x : SS) (p1 : Int32) (out : Int32 × SS) (hM : M_L_lose x p1 = some out) : CL kk l yL_lose wsL_lose ({ frames := 8, cells := 2, slots := 12, locals := 124 } : Room) dC dI (wTys cI cD cJ) [.ref (g 0), .int p1] (wSys cI cD kk.1 g x) (.inr (some (.int out.1), wSys cI cD kk.1 g out.2)) 2 12 := by
  refine wk_enterL (cc := cL_lose) (maxL := 3) (ret := some .int) (hh := [(0, 6, 9, 32)]) (by decide) rfl (Nat.le_of_ble_eq_true rfl) ?_
  intro p e s m below meth c A Q ls hB htab hN hT hA hP hD hQ hl
  obtain ⟨hx, hb, hml, hr, hts, hown, hname, hlocks, hG⟩ := hB
  have hown : s.vm.findClass RL = some m.cls := hown
  have hS : va_S A s.heap s.heap [] := va_S.rf
  have hl : lv_has ls 3 [(0, .ref (g 0)), (1, .int p1)] := hl
  obtain ⟨H, hH⟩ : ∃ z, z = s.heap := ⟨_, rfl⟩
  have hP : va_P (dC, dI) vwCl (wSys cI cD kk.1 g x) H := by rw [hH]; exact hP
  have hS : va_S A s.heap H [] := by rw [hH]; exact hS
  refine wk_at hH ?_
  generalize ([] : List Loc) = locs at hS ⊢
  unfold M_L_lose at hM
  obtain ⟨r, hr9, hM⟩ := ob hM
  refine lv_aload_n hx hb dL_lose_0 rfl (lv_at hl 0 rfl) ?_
  refine lv_iload_n hx hb dL_lose_1 rfl (lv_at hl 1 rfl) ?_
  rcases r with f0 | r0
  · refine wk_callX (vx_runV (As := [.int p1]) (rest := []) ⟨hx, hb, hml, hown, hts⟩ (c_X6_lose l hflags dC dI cI cD cJ kk g x p1 _ hr9 H) (cwV 1 hts gL_lose_X6_lose rfl rfl rfl (by decide +kernel) ⟨(Nat.le_of_ble_eq_true rfl), (Nat.le_of_ble_eq_true rfl)⟩) (wk_preVT (ci := 4) (q0 := 0) hG hP hD hT hS (fun _ h9 => h9) [0, 1, 2, 3, 4, 5, 6, 7, 8, 9, 10, 11, 12, 13, 14, 15, 16, 17, 18, 19, 20, 21, 22, 23, 24, 25, 26, 27, 28, 29, 30, 31, 32, 33, 34, 35, 36, 37] rfl rfl rfl rfl (va_free hD hS hA [0, 1, 2, 3, 4, 5, 6, 7, 8, 9, 10, 11, 12, 13, 14, 15, 16, 17, 18, 19, 20, 21, 22, 23, 24, 25, 26, 27, 28, 29, 30, 31, 32, 33, 34, 35, 36, 37] rfl)) rfl rfl hl.1 rfl (lv_room (Nat.le_of_ble_eq_true rfl)) dL_lose_2 ⟨(Nat.le_of_ble_eq_true rfl), (Nat.le_of_ble_eq_true rfl)⟩) hP hD hS hA [0, 1, 2, 3, 4, 5, 6, 7, 8, 9, 10, 11, 12, 13, 14, 15, 16, 17, 18, 19, 20, 21, 22, 23, 24, 25, 26, 27, 28, 29, 30, 31, 32, 33, 34, 35, 36, 37] [] [0, 1, 2, 3, 4, 5, 6, 7, 8, 9, 10, 11, 12, 13, 14, 15, 16, 17, 18, 19, 20, 21, 22, 23, 24, 25, 26, 27, 28, 29, 30, 31, 32, 33, 34, 35, 36, 37] rfl rfl rfl (by decide) rfl rfl (fun f9 ce q9 H locs ho9 hP hD hS hc9 hv9 hf9 => ?_) (fun ov w1 ho9 => by cases ho9)
    cases ho9
    by_cases e0 : f0 = 1
    · replace hM := (if_pos e0).symm.trans hM
      replace hM := Option.some.inj hM
      subst hM
      have hf9 : s.vm.findClass xIO = some ce.cls := by rw [e0] at hf9; exact hf9
      refine vx_catch (name := xIO) (E := xIO) (ce := ce) hown [] (ExceptionTableEntry.mk 0 6 9 32) [] htab (fun z hz => by cases hz) rfl (by decide) (hts (.classLink RL 32 xIO) (by decide +kernel)) (va_Nw.use rfl (hG.2 _ (List.mem_of_getElem? (i := 13) rfl))) hc9 hv9 hf9 ?_
      refine lv_astore_n (lv' := [(2, .ref q9), (0, .ref (g 0)), (1, .int p1)]) hx hb dL_lose_9 rfl hl (by decide) rfl (fun ls hl => ?_)
      refine lv_iconst (v := 1) hx hb dL_lose_10 (by decide) ?_
      exact wk_retXi hx hb hr hlocks hQ rfl rfl hP hD hS (Nat.le_of_ble_eq_true rfl) (Nat.le_of_ble_eq_true rfl) dL_lose_11
    replace hM := (if_neg e0).symm.trans hM
    cases hM
  · refine wk_callX (vx_runV (As := [.int p1]) (rest := []) ⟨hx, hb, hml, hown, hts⟩ (c_X6_lose l hflags dC dI cI cD cJ kk g x p1 _ hr9 H) (cwV 1 hts gL_lose_X6_lose rfl rfl rfl (by decide +kernel) ⟨(Nat.le_of_ble_eq_true rfl), (Nat.le_of_ble_eq_true rfl)⟩) (wk_preVT (ci := 4) (q0 := 0) hG hP hD hT hS (fun _ h9 => h9) [0, 1, 2, 3, 4, 5, 6, 7, 8, 9, 10, 11, 12, 13, 14, 15, 16, 17, 18, 19, 20, 21, 22, 23, 24, 25, 26, 27, 28, 29, 30, 31, 32, 33, 34, 35, 36, 37] rfl rfl rfl rfl (va_free hD hS hA [0, 1, 2, 3, 4, 5, 6, 7, 8, 9, 10, 11, 12, 13, 14, 15, 16, 17, 18, 19, 20, 21, 22, 23, 24, 25, 26, 27, 28, 29, 30, 31, 32, 33, 34, 35, 36, 37] rfl)) rfl rfl hl.1 rfl (lv_room (Nat.le_of_ble_eq_true rfl)) dL_lose_2 ⟨(Nat.le_of_ble_eq_true rfl), (Nat.le_of_ble_eq_true rfl)⟩) hP hD hS hA [0, 1, 2, 3, 4, 5, 6, 7, 8, 9, 10, 11, 12, 13, 14, 15, 16, 17, 18, 19, 20, 21, 22, 23, 24, 25, 26, 27, 28, 29, 30, 31, 32, 33, 34, 35, 36, 37] [] [0, 1, 2, 3, 4, 5, 6, 7, 8, 9, 10, 11, 12, 13, 14, 15, 16, 17, 18, 19, 20, 21, 22, 23, 24, 25, 26, 27, 28, 29, 30, 31, 32, 33, 34, 35, 36, 37] rfl rfl rfl (by decide) rfl rfl (fun f9 ce q9 H locs ho9 hP hD hS hc9 hv9 hf9 => by cases ho9) (fun ov w1 ho9 H locs hPD hS => ?_)
    cases ho9
    obtain ⟨hP, hD⟩ := hPD (wSys cI cD kk.1 g r0.2) rfl
    replace hM := Option.some.inj hM
    subst hM
    refine lv_pop hx hb dL_lose_5 rfl ?_
    refine lv_goto (tgt := 12) hx hb dL_lose_6 (by decide) ?_
    refine lv_iconst (v := 0) hx hb dL_lose_12 (by decide) ?_
    exact wk_retXi hx hb hr hlocks hQ rfl rfl hP hD hS (Nat.le_of_ble_eq_true rfl) (Nat.le_of_ble_eq_true rfl) dL_lose_13
set_option maxHeartbeats 4000000 in
set_option maxRecDepth 100000 in
theorem c_L_undo (l : Launch) (hflags : l.stackTraces = false) (dC : Nat → ClassId) (dI : Nat → Nat → Nat) (cI cD cJ : ClassId) (kk : wAd) (g : Nat → Nat) (x : SS)  (out : Int32 × SS) (hM : M_L_undo x  = some out) : CL kk l yL_undo wsL_undo ({ frames := 8, cells := 2, slots := 12, locals := 123 } : Room) dC dI (wTys cI cD cJ) [.ref (g 0)] (wSys cI cD kk.1 g x) (.inr (some (.int out.1), wSys cI cD kk.1 g out.2)) 2 12 := by
  refine wk_enterL (cc := cL_undo) (maxL := 2) (ret := some .int) (hh := [(0, 5, 8, 23)]) (by decide) rfl (Nat.le_of_ble_eq_true rfl) ?_
  intro p e s m below meth c A Q ls hB htab hN hT hA hP hD hQ hl
  obtain ⟨hx, hb, hml, hr, hts, hown, hname, hlocks, hG⟩ := hB
  have hown : s.vm.findClass RL = some m.cls := hown
  have hS : va_S A s.heap s.heap [] := va_S.rf
  have hl : lv_has ls 2 [(0, .ref (g 0))] := hl
  obtain ⟨H, hH⟩ : ∃ z, z = s.heap := ⟨_, rfl⟩
  have hP : va_P (dC, dI) vwCl (wSys cI cD kk.1 g x) H := by rw [hH]; exact hP
  have hS : va_S A s.heap H [] := by rw [hH]; exact hS
  refine wk_at hH ?_
  generalize ([] : List Loc) = locs at hS ⊢
  unfold M_L_undo at hM
  obtain ⟨r, hr9, hM⟩ := ob hM
  refine lv_aload_n hx hb dL_undo_0 rfl (lv_at hl 0 rfl) ?_
  rcases r with f0 | r0
  · refine wk_callX (vx_runV (As := []) (rest := []) ⟨hx, hb, hml, hown, hts⟩ (c_X6_undo l hflags dC dI cI cD cJ kk g x  _ hr9 H) (cwV 0 hts gL_undo_X6_undo rfl rfl rfl (by decide +kernel) ⟨(Nat.le_of_ble_eq_true rfl), (Nat.le_of_ble_eq_true rfl)⟩) (wk_preVT (ci := 4) (q0 := 0) hG hP hD hT hS (fun _ h9 => h9) [0, 1, 2, 3, 4, 5, 6, 7, 8, 9, 10, 11, 12, 13, 14, 15, 16, 17, 18, 19, 20, 21, 22, 23, 24, 25, 26, 27, 28, 29, 30, 31, 32, 33, 34, 35, 36, 37] rfl rfl rfl rfl (va_free hD hS hA [0, 1, 2, 3, 4, 5, 6, 7, 8, 9, 10, 11, 12, 13, 14, 15, 16, 17, 18, 19, 20, 21, 22, 23, 24, 25, 26, 27, 28, 29, 30, 31, 32, 33, 34, 35, 36, 37] rfl)) rfl rfl hl.1 rfl (lv_room (Nat.le_of_ble_eq_true rfl)) dL_undo_1 ⟨(Nat.le_of_ble_eq_true rfl), (Nat.le_of_ble_eq_true rfl)⟩) hP hD hS hA [0, 1, 2, 3, 4, 5, 6, 7, 8, 9, 10, 11, 12, 13, 14, 15, 16, 17, 18, 19, 20, 21, 22, 23, 24, 25, 26, 27, 28, 29, 30, 31, 32, 33, 34, 35, 36, 37] [] [0, 1, 2, 3, 4, 5, 6, 7, 8, 9, 10, 11, 12, 13, 14, 15, 16, 17, 18, 19, 20, 21, 22, 23, 24, 25, 26, 27, 28, 29, 30, 31, 32, 33, 34, 35, 36, 37] rfl rfl rfl (by decide) rfl rfl (fun f9 ce q9 H locs ho9 hP hD hS hc9 hv9 hf9 => ?_) (fun ov w1 ho9 => by cases ho9)
    cases ho9
    by_cases e0 : f0 = 3
    · replace hM := (if_pos e0).symm.trans hM
      replace hM := Option.some.inj hM
      subst hM
      have hf9 : s.vm.findClass xIS = some ce.cls := by rw [e0] at hf9; exact hf9
      refine vx_catch (name := xIS) (E := xIS) (ce := ce) hown [] (ExceptionTableEntry.mk 0 5 8 23) [] htab (fun z hz => by cases hz) rfl (by decide) (hts (.classLink RL 23 xIS) (by decide +kernel)) (va_Nw.use rfl (hG.2 _ (List.mem_of_getElem? (i := 15) rfl))) hc9 hv9 hf9 ?_
      refine lv_astore_n (lv' := [(1, .ref q9), (0, .ref (g 0))]) hx hb dL_undo_8 rfl hl (by decide) rfl (fun ls hl => ?_)
      refine lv_iconst (v := 1) hx hb dL_undo_9 (by decide) ?_
      exact wk_retXi hx hb hr hlocks hQ rfl rfl hP hD hS (Nat.le_of_ble_eq_true rfl) (Nat.le_of_ble_eq_true rfl) dL_undo_10
    replace hM := (if_neg e0).symm.trans hM
    cases hM
  · refine wk_callX (vx_runV (As := []) (rest := []) ⟨hx, hb, hml, hown, hts⟩ (c_X6_undo l hflags dC dI cI cD cJ kk g x  _ hr9 H) (cwV 0 hts gL_undo_X6_undo rfl rfl rfl (by decide +kernel) ⟨(Nat.le_of_ble_eq_true rfl), (Nat.le_of_ble_eq_true rfl)⟩) (wk_preVT (ci := 4) (q0 := 0) hG hP hD hT hS (fun _ h9 => h9) [0, 1, 2, 3, 4, 5, 6, 7, 8, 9, 10, 11, 12, 13, 14, 15, 16, 17, 18, 19, 20, 21, 22, 23, 24, 25, 26, 27, 28, 29, 30, 31, 32, 33, 34, 35, 36, 37] rfl rfl rfl rfl (va_free hD hS hA [0, 1, 2, 3, 4, 5, 6, 7, 8, 9, 10, 11, 12, 13, 14, 15, 16, 17, 18, 19, 20, 21, 22, 23, 24, 25, 26, 27, 28, 29, 30, 31, 32, 33, 34, 35, 36, 37] rfl)) rfl rfl hl.1 rfl (lv_room (Nat.le_of_ble_eq_true rfl)) dL_undo_1 ⟨(Nat.le_of_ble_eq_true rfl), (Nat.le_of_ble_eq_true rfl)⟩) hP hD hS hA [0, 1, 2, 3, 4, 5, 6, 7, 8, 9, 10, 11, 12, 13, 14, 15, 16, 17, 18, 19, 20, 21, 22, 23, 24, 25, 26, 27, 28, 29, 30, 31, 32, 33, 34, 35, 36, 37] [] [0, 1, 2, 3, 4, 5, 6, 7, 8, 9, 10, 11, 12, 13, 14, 15, 16, 17, 18, 19, 20, 21, 22, 23, 24, 25, 26, 27, 28, 29, 30, 31, 32, 33, 34, 35, 36, 37] rfl rfl rfl (by decide) rfl rfl (fun f9 ce q9 H locs ho9 hP hD hS hc9 hv9 hf9 => by cases ho9) (fun ov w1 ho9 H locs hPD hS => ?_)
    cases ho9
    obtain ⟨hP, hD⟩ := hPD (wSys cI cD kk.1 g r0.2) rfl
    replace hM := Option.some.inj hM
    subst hM
    refine lv_pop hx hb dL_undo_4 rfl ?_
    refine lv_goto (tgt := 11) hx hb dL_undo_5 (by decide) ?_
    refine lv_iconst (v := 0) hx hb dL_undo_11 (by decide) ?_
    exact wk_retXi hx hb hr hlocks hQ rfl rfl hP hD hS (Nat.le_of_ble_eq_true rfl) (Nat.le_of_ble_eq_true rfl) dL_undo_12
set_option maxHeartbeats 4000000 in
set_option maxRecDepth 100000 in
theorem c_L_type (l : Launch) (hflags : l.stackTraces = false) (dC : Nat → ClassId) (dI : Nat → Nat → Nat) (cI cD cJ : ClassId) (kk : wAd) (g : Nat → Nat) (x : SS) (p1 : Int32) (out : Int32 × SS) (hM : M_L_type x p1 = some out) : CL kk l yL_type wsL_type ({ frames := 8, cells := 2, slots := 12, locals := 123 } : Room) dC dI (wTys cI cD cJ) [.ref (g 0), .int p1] (wSys cI cD kk.1 g x) (.inr (some (.int out.1), wSys cI cD kk.1 g out.2)) 2 12 := by
  refine wk_enterL (cc := cL_type) (maxL := 3) (ret := some .int) (hh := [(0, 6, 9, 21), (0, 6, 12, 23)]) (by decide) rfl (Nat.le_of_ble_eq_true rfl) ?_
  intro p e s m below meth c A Q ls hB htab hN hT hA hP hD hQ hl
  obtain ⟨hx, hb, hml, hr, hts, hown, hname, hlocks, hG⟩ := hB
  have hown : s.vm.findClass RL = some m.cls := hown
  have hS : va_S A s.heap s.heap [] := va_S.rf
  have hl : lv_has ls 3 [(0, .ref (g 0)), (1, .int p1)] := hl
  obtain ⟨H, hH⟩ : ∃ z, z = s.heap := ⟨_, rfl⟩
  have hP : va_P (dC, dI) vwCl (wSys cI cD kk.1 g x) H := by rw [hH]; exact hP
  have hS : va_S A s.heap H [] := by rw [hH]; exact hS
  refine wk_at hH ?_
  generalize ([] : List Loc) = locs at hS ⊢
  unfold M_L_type at hM
  obtain ⟨r, hr9, hM⟩ := ob hM
  refine lv_aload_n hx hb dL_type_0 rfl (lv_at hl 0 rfl) ?_
  refine lv_iload_n hx hb dL_type_1 rfl (lv_at hl 1 rfl) ?_
  rcases r with f0 | r0
  · refine wk_callX (vx_runV (As := [.int p1]) (rest := []) ⟨hx, hb, hml, hown, hts⟩ (c_X6_type l hflags dC dI cI cD cJ kk g x p1 _ hr9 H) (cwV 1 hts gL_type_X6_type rfl rfl rfl (by decide +kernel) ⟨(Nat.le_of_ble_eq_true rfl), (Nat.le_of_ble_eq_true rfl)⟩) (wk_preVT (ci := 4) (q0 := 0) hG hP hD hT hS (fun _ h9 => h9) [0, 1, 2, 3, 4, 5, 6, 7, 8, 9, 10, 11, 12, 13, 14, 15, 16, 17, 18, 19, 20, 21, 22, 23, 24, 25, 26, 27, 28, 29, 30, 31, 32, 33, 34, 35, 36, 37] rfl rfl rfl rfl (va_free hD hS hA [0, 1, 2, 3, 4, 5, 6, 7, 8, 9, 10, 11, 12, 13, 14, 15, 16, 17, 18, 19, 20, 21, 22, 23, 24, 25, 26, 27, 28, 29, 30, 31, 32, 33, 34, 35, 36, 37] rfl)) rfl rfl hl.1 rfl (lv_room (Nat.le_of_ble_eq_true rfl)) dL_type_2 ⟨(Nat.le_of_ble_eq_true rfl), (Nat.le_of_ble_eq_true rfl)⟩) hP hD hS hA [0, 1, 2, 3, 4, 5, 6, 7, 8, 9, 10, 11, 12, 13, 14, 15, 16, 17, 18, 19, 20, 21, 22, 23, 24, 25, 26, 27, 28, 29, 30, 31, 32, 33, 34, 35, 36, 37] [] [0, 1, 2, 3, 4, 5, 6, 7, 8, 9, 10, 11, 12, 13, 14, 15, 16, 17, 18, 19, 20, 21, 22, 23, 24, 25, 26, 27, 28, 29, 30, 31, 32, 33, 34, 35, 36, 37] rfl rfl rfl (by decide) rfl rfl (fun f9 ce q9 H locs ho9 hP hD hS hc9 hv9 hf9 => ?_) (fun ov w1 ho9 => by cases ho9)
    cases ho9
    by_cases e0 : f0 = 2
    · replace hM := (if_pos e0).symm.trans hM
      replace hM := Option.some.inj hM
      subst hM
      have hf9 : s.vm.findClass xIA = some ce.cls := by rw [e0] at hf9; exact hf9
      refine vx_catch (name := xIA) (E := xIA) (ce := ce) hown [] (ExceptionTableEntry.mk 0 6 9 21) [(ExceptionTableEntry.mk 0 6 12 23)] htab (fun z hz => by cases hz) rfl (by decide) (hts (.classLink RL 21 xIA) (by decide +kernel)) (va_Nw.use rfl (hG.2 _ (List.mem_of_getElem? (i := 14) rfl))) hc9 hv9 hf9 ?_
      refine lv_astore_n (lv' := [(2, .ref q9), (0, .ref (g 0)), (1, .int p1)]) hx hb dL_type_9 rfl hl (by decide) rfl (fun ls hl => ?_)
      refine lv_iconst (v := 1) hx hb dL_type_10 (by decide) ?_
      exact wk_retXi hx hb hr hlocks hQ rfl rfl hP hD hS (Nat.le_of_ble_eq_true rfl) (Nat.le_of_ble_eq_true rfl) dL_type_11
    replace hM := (if_neg e0).symm.trans hM
    by_cases e1 : f0 = 3
    · replace hM := (if_pos e1).symm.trans hM
      replace hM := Option.some.inj hM
      subst hM
      have hf9 : s.vm.findClass xIS = some ce.cls := by rw [e1] at hf9; exact hf9
      refine vx_catch (name := xIS) (E := xIS) (ce := ce) hown [(ExceptionTableEntry.mk 0 6 9 21)] (ExceptionTableEntry.mk 0 6 12 23) [] htab (fun z hz => by cases List.mem_singleton.mp hz; exact Or.inr ⟨by decide, xIA, hts (.classLink RL 21 xIA) (by decide +kernel), hN.2.2⟩) rfl (by decide) (hts (.classLink RL 23 xIS) (by decide +kernel)) (va_Nw.use rfl (hG.2 _ (List.mem_of_getElem? (i := 15) rfl))) hc9 hv9 hf9 ?_
      refine lv_astore_n (lv' := [(2, .ref q9), (0, .ref (g 0)), (1, .int p1)]) hx hb dL_type_12 rfl hl (by decide) rfl (fun ls hl => ?_)
      refine lv_iconst (v := 2) hx hb dL_type_13 (by decide) ?_
      exact wk_retXi hx hb hr hlocks hQ rfl rfl hP hD hS (Nat.le_of_ble_eq_true rfl) (Nat.le_of_ble_eq_true rfl) dL_type_14
    replace hM := (if_neg e1).symm.trans hM
    cases hM
  · refine wk_callX (vx_runV (As := [.int p1]) (rest := []) ⟨hx, hb, hml, hown, hts⟩ (c_X6_type l hflags dC dI cI cD cJ kk g x p1 _ hr9 H) (cwV 1 hts gL_type_X6_type rfl rfl rfl (by decide +kernel) ⟨(Nat.le_of_ble_eq_true rfl), (Nat.le_of_ble_eq_true rfl)⟩) (wk_preVT (ci := 4) (q0 := 0) hG hP hD hT hS (fun _ h9 => h9) [0, 1, 2, 3, 4, 5, 6, 7, 8, 9, 10, 11, 12, 13, 14, 15, 16, 17, 18, 19, 20, 21, 22, 23, 24, 25, 26, 27, 28, 29, 30, 31, 32, 33, 34, 35, 36, 37] rfl rfl rfl rfl (va_free hD hS hA [0, 1, 2, 3, 4, 5, 6, 7, 8, 9, 10, 11, 12, 13, 14, 15, 16, 17, 18, 19, 20, 21, 22, 23, 24, 25, 26, 27, 28, 29, 30, 31, 32, 33, 34, 35, 36, 37] rfl)) rfl rfl hl.1 rfl (lv_room (Nat.le_of_ble_eq_true rfl)) dL_type_2 ⟨(Nat.le_of_ble_eq_true rfl), (Nat.le_of_ble_eq_true rfl)⟩) hP hD hS hA [0, 1, 2, 3, 4, 5, 6, 7, 8, 9, 10, 11, 12, 13, 14, 15, 16, 17, 18, 19, 20, 21, 22, 23, 24, 25, 26, 27, 28, 29, 30, 31, 32, 33, 34, 35, 36, 37] [] [0, 1, 2, 3, 4, 5, 6, 7, 8, 9, 10, 11, 12, 13, 14, 15, 16, 17, 18, 19, 20, 21, 22, 23, 24, 25, 26, 27, 28, 29, 30, 31, 32, 33, 34, 35, 36, 37] rfl rfl rfl (by decide) rfl rfl (fun f9 ce q9 H locs ho9 hP hD hS hc9 hv9 hf9 => by cases ho9) (fun ov w1 ho9 H locs hPD hS => ?_)
    cases ho9
    obtain ⟨hP, hD⟩ := hPD (wSys cI cD kk.1 g r0.2) rfl
    replace hM := Option.some.inj hM
    subst hM
    refine lv_pop hx hb dL_type_5 rfl ?_
    refine lv_goto (tgt := 15) hx hb dL_type_6 (by decide) ?_
    refine lv_iconst (v := 0) hx hb dL_type_15 (by decide) ?_
    exact wk_retXi hx hb hr hlocks hQ rfl rfl hP hD hS (Nat.le_of_ble_eq_true rfl) (Nat.le_of_ble_eq_true rfl) dL_type_16
