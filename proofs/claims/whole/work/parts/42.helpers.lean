/-! PART 42: the law's helpers -/
set_option maxHeartbeats 4000000 in
set_option maxRecDepth 100000 in
theorem c_L_order (l : Launch) (hflags : l.stackTraces = false) (dC : Nat → ClassId) (dI : Nat → Nat → Nat) (cI cD cJ : ClassId) (kk : wAd) (g : Nat → Nat) (a : Nat) (x : SS) (o : Nat → Int64) (p1 : Int32) (p2 : Int32) (p3 : Int32) (p4 : Int32) (p5 : Int32) (out : Int32 × (SS × (Nat → Int64))) (hM : M_L_order x o p1 p2 p3 p4 p5 = some out) : CL kk l yL_order wsL_order ({ frames := 8, cells := 1, slots := 6, locals := 128 } : Room) dC dI (wTys cI cD cJ) [.ref (g 0), .int p1, .int p2, .int p3, .int p4, .int p5, .ref a] (wSys cI cD kk.1 g x ++ wLrow cJ a o) (.inr (some (.int out.1), wSys cI cD kk.1 g out.2.1 ++ wLrow cJ a out.2.2)) 1 6 := by
  refine wk_enterL (cc := cL_order) (maxL := 8) (ret := some .int) (hh := [(0, 16, 19, 13), (0, 16, 23, 15)]) (by decide) rfl (Nat.le_of_ble_eq_true rfl) ?_
  intro p e s m below meth c A Q ls hB htab hN hT hA hP hD hQ hl
  obtain ⟨hx, hb, hml, hr, hts, hown, hname, hlocks, hG⟩ := hB
  have hown : s.vm.findClass RL = some m.cls := hown
  have hS : va_S A s.heap s.heap [] := va_S.rf
  have hl : lv_has ls 8 [(0, .ref (g 0)), (1, .int p1), (2, .int p2), (3, .int p3), (4, .int p4), (5, .int p5), (6, .ref a)] := hl
  obtain ⟨H, hH⟩ : ∃ z, z = s.heap := ⟨_, rfl⟩
  have hP : va_P (dC, dI) vwCl (wSys cI cD kk.1 g x ++ wLrow cJ a o) H := by rw [hH]; exact hP
  have hS : va_S A s.heap H [] := by rw [hH]; exact hS
  refine wk_at hH ?_
  generalize ([] : List Loc) = locs at hS ⊢
  unfold M_L_order at hM
  obtain ⟨r, hr9, hM⟩ := ob hM
  refine lv_aload hx hb dL_order_0 (lv_at hl 6 rfl) ?_
  refine lv_iconst (v := 0) hx hb dL_order_2 (by decide) ?_
  refine lv_aload_n hx hb dL_order_3 rfl (lv_at hl 0 rfl) ?_
  refine lv_iload_n hx hb dL_order_4 rfl (lv_at hl 1 rfl) ?_
  refine lv_iload_n hx hb dL_order_5 rfl (lv_at hl 2 rfl) ?_
  refine lv_iload_n hx hb dL_order_6 rfl (lv_at hl 3 rfl) ?_
  refine lv_iload hx hb dL_order_7 (lv_at hl 4 rfl) ?_
  refine lv_iload hx hb dL_order_9 (lv_at hl 5 rfl) ?_
  rcases r with f0 | r0
  · refine wk_callX (vx_runV (As := [.int p1, .int p2, .int p3, .int p4, .int p5]) (rest := [.int 0, .ref a]) ⟨hx, hb, hml, hown, hts⟩ (c_X6_order l hflags dC dI cI cD cJ kk g x p1 p2 p3 p4 p5 _ hr9 H) (cwV 5 hts gL_order_X6_order rfl rfl rfl (by decide +kernel) ⟨(Nat.le_of_ble_eq_true rfl), (Nat.le_of_ble_eq_true rfl)⟩) (wk_preVT (ci := 4) (q0 := 0) hG hP hD hT hS (fun _ h9 => h9) [0, 1, 2, 3, 4, 5, 6, 7, 8, 9, 10, 11, 12, 13, 14, 15, 16, 17, 18, 19, 20, 21, 22, 23, 24, 25, 26, 27, 28, 29, 30, 31, 32, 33, 34, 35, 36, 37] rfl rfl rfl rfl (va_free hD hS hA [0, 1, 2, 3, 4, 5, 6, 7, 8, 9, 10, 11, 12, 13, 14, 15, 16, 17, 18, 19, 20, 21, 22, 23, 24, 25, 26, 27, 28, 29, 30, 31, 32, 33, 34, 35, 36, 37] rfl)) rfl rfl hl.1 rfl (lv_room (Nat.le_of_ble_eq_true rfl)) dL_order_11 ⟨(Nat.le_of_ble_eq_true rfl), (Nat.le_of_ble_eq_true rfl)⟩) hP hD hS hA [0, 1, 2, 3, 4, 5, 6, 7, 8, 9, 10, 11, 12, 13, 14, 15, 16, 17, 18, 19, 20, 21, 22, 23, 24, 25, 26, 27, 28, 29, 30, 31, 32, 33, 34, 35, 36, 37] [38] [1, 2, 3, 4, 5, 6, 7, 8, 9, 10, 11, 12, 13, 14, 15, 16, 17, 18, 19, 20, 21, 22, 23, 24, 25, 26, 27, 28, 29, 30, 31, 32, 33, 34, 35, 36, 37, 38, 0] rfl rfl rfl (by decide) rfl rfl (fun f9 ce q9 H locs ho9 hP hD hS hc9 hv9 hf9 => ?_) (fun ov w1 ho9 => by cases ho9)
    cases ho9
    by_cases e0 : f0 = 2
    · replace hM := (if_pos e0).symm.trans hM
      replace hM := Option.some.inj hM
      subst hM
      have hf9 : s.vm.findClass xIA = some ce.cls := by rw [e0] at hf9; exact hf9
      refine vx_catch (name := xIA) (E := xIA) (ce := ce) hown [] (ExceptionTableEntry.mk 0 16 19 13) [(ExceptionTableEntry.mk 0 16 23 15)] htab (fun z hz => by cases hz) rfl (by decide) (hts (.classLink RL 13 xIA) (by decide +kernel)) (va_Nw.use rfl (hG.2 _ (List.mem_of_getElem? (i := 14) rfl))) hc9 hv9 hf9 ?_
      refine lv_astore (lv' := [(7, .ref q9), (0, .ref (g 0)), (1, .int p1), (2, .int p2), (3, .int p3), (4, .int p4), (5, .int p5), (6, .ref a)]) hx hb dL_order_19 hl (by decide) rfl (fun ls hl => ?_)
      refine lv_iconst (v := 1) hx hb dL_order_21 (by decide) ?_
      exact wk_retXi hx hb hr hlocks hQ rfl rfl hP hD hS (Nat.le_of_ble_eq_true rfl) (Nat.le_of_ble_eq_true rfl) dL_order_22
    replace hM := (if_neg e0).symm.trans hM
    by_cases e1 : f0 = 3
    · replace hM := (if_pos e1).symm.trans hM
      replace hM := Option.some.inj hM
      subst hM
      have hf9 : s.vm.findClass xIS = some ce.cls := by rw [e1] at hf9; exact hf9
      refine vx_catch (name := xIS) (E := xIS) (ce := ce) hown [(ExceptionTableEntry.mk 0 16 19 13)] (ExceptionTableEntry.mk 0 16 23 15) [] htab (fun z hz => by cases List.mem_singleton.mp hz; exact Or.inr ⟨by decide, xIA, hts (.classLink RL 13 xIA) (by decide +kernel), hN.2.2⟩) rfl (by decide) (hts (.classLink RL 15 xIS) (by decide +kernel)) (va_Nw.use rfl (hG.2 _ (List.mem_of_getElem? (i := 15) rfl))) hc9 hv9 hf9 ?_
      refine lv_astore (lv' := [(7, .ref q9), (0, .ref (g 0)), (1, .int p1), (2, .int p2), (3, .int p3), (4, .int p4), (5, .int p5), (6, .ref a)]) hx hb dL_order_23 hl (by decide) rfl (fun ls hl => ?_)
      refine lv_iconst (v := 2) hx hb dL_order_25 (by decide) ?_
      exact wk_retXi hx hb hr hlocks hQ rfl rfl hP hD hS (Nat.le_of_ble_eq_true rfl) (Nat.le_of_ble_eq_true rfl) dL_order_26
    replace hM := (if_neg e1).symm.trans hM
    cases hM
  · refine wk_callX (vx_runV (As := [.int p1, .int p2, .int p3, .int p4, .int p5]) (rest := [.int 0, .ref a]) ⟨hx, hb, hml, hown, hts⟩ (c_X6_order l hflags dC dI cI cD cJ kk g x p1 p2 p3 p4 p5 _ hr9 H) (cwV 5 hts gL_order_X6_order rfl rfl rfl (by decide +kernel) ⟨(Nat.le_of_ble_eq_true rfl), (Nat.le_of_ble_eq_true rfl)⟩) (wk_preVT (ci := 4) (q0 := 0) hG hP hD hT hS (fun _ h9 => h9) [0, 1, 2, 3, 4, 5, 6, 7, 8, 9, 10, 11, 12, 13, 14, 15, 16, 17, 18, 19, 20, 21, 22, 23, 24, 25, 26, 27, 28, 29, 30, 31, 32, 33, 34, 35, 36, 37] rfl rfl rfl rfl (va_free hD hS hA [0, 1, 2, 3, 4, 5, 6, 7, 8, 9, 10, 11, 12, 13, 14, 15, 16, 17, 18, 19, 20, 21, 22, 23, 24, 25, 26, 27, 28, 29, 30, 31, 32, 33, 34, 35, 36, 37] rfl)) rfl rfl hl.1 rfl (lv_room (Nat.le_of_ble_eq_true rfl)) dL_order_11 ⟨(Nat.le_of_ble_eq_true rfl), (Nat.le_of_ble_eq_true rfl)⟩) hP hD hS hA [0, 1, 2, 3, 4, 5, 6, 7, 8, 9, 10, 11, 12, 13, 14, 15, 16, 17, 18, 19, 20, 21, 22, 23, 24, 25, 26, 27, 28, 29, 30, 31, 32, 33, 34, 35, 36, 37] [38] [1, 2, 3, 4, 5, 6, 7, 8, 9, 10, 11, 12, 13, 14, 15, 16, 17, 18, 19, 20, 21, 22, 23, 24, 25, 26, 27, 28, 29, 30, 31, 32, 33, 34, 35, 36, 37, 38, 0] rfl rfl rfl (by decide) rfl rfl (fun f9 ce q9 H locs ho9 hP hD hS hc9 hv9 hf9 => by cases ho9) (fun ov w1 ho9 H locs hPD hS => ?_)
    cases ho9
    obtain ⟨hP, hD⟩ := hPD (wSys cI cD kk.1 g r0.2 ++ wLrow cJ a o) rfl
    replace hM := Option.some.inj hM
    subst hM
    refine lv_i2l hx hb dL_order_14 rfl ?_
    refine va_last hx hb hG.1 hP hD hS 38 2 rfl rfl (vpb_in.mp (by decide)) dL_order_15 (fun H locs hP hD hS => ?_)
    have hP : va_P (dC, dI) vwCl (wSys cI cD kk.1 g r0.2 ++ wLrow cJ a (vp_updL o 0 (r0.1).toInt64)) H := hP
    have hD : va_D A (wSys cI cD kk.1 g r0.2 ++ wLrow cJ a (vp_updL o 0 (r0.1).toInt64)) := hD
    refine lv_goto (tgt := 27) hx hb dL_order_16 (by decide) ?_
    refine lv_iconst (v := 0) hx hb dL_order_27 (by decide) ?_
    exact wk_retXi hx hb hr hlocks hQ rfl rfl hP hD hS (Nat.le_of_ble_eq_true rfl) (Nat.le_of_ble_eq_true rfl) dL_order_28
set_option maxHeartbeats 4000000 in
set_option maxRecDepth 100000 in
theorem c_L_cancel (l : Launch) (hflags : l.stackTraces = false) (dC : Nat → ClassId) (dI : Nat → Nat → Nat) (cI cD cJ : ClassId) (kk : wAd) (g : Nat → Nat) (a : Nat) (x : SS) (o : Nat → Int64) (p1 : Int32) (p2 : Int32) (out : Int32 × (SS × (Nat → Int64))) (hM : M_L_cancel x o p1 p2 = some out) : CL kk l yL_cancel wsL_cancel ({ frames := 8, cells := 1, slots := 6, locals := 125 } : Room) dC dI (wTys cI cD cJ) [.ref (g 0), .int p1, .int p2, .ref a] (wSys cI cD kk.1 g x ++ wLrow cJ a o) (.inr (some (.int out.1), wSys cI cD kk.1 g out.2.1 ++ wLrow cJ a out.2.2)) 1 6 := by
  refine wk_enterL (cc := cL_cancel) (maxL := 5) (ret := some .int) (hh := [(0, 10, 13, 13), (0, 10, 17, 15)]) (by decide) rfl (Nat.le_of_ble_eq_true rfl) ?_
  intro p e s m below meth c A Q ls hB htab hN hT hA hP hD hQ hl
  obtain ⟨hx, hb, hml, hr, hts, hown, hname, hlocks, hG⟩ := hB
  have hown : s.vm.findClass RL = some m.cls := hown
  have hS : va_S A s.heap s.heap [] := va_S.rf
  have hl : lv_has ls 5 [(0, .ref (g 0)), (1, .int p1), (2, .int p2), (3, .ref a)] := hl
  obtain ⟨H, hH⟩ : ∃ z, z = s.heap := ⟨_, rfl⟩
  have hP : va_P (dC, dI) vwCl (wSys cI cD kk.1 g x ++ wLrow cJ a o) H := by rw [hH]; exact hP
  have hS : va_S A s.heap H [] := by rw [hH]; exact hS
  refine wk_at hH ?_
  generalize ([] : List Loc) = locs at hS ⊢
  unfold M_L_cancel at hM
  obtain ⟨r, hr9, hM⟩ := ob hM
  refine lv_aload_n hx hb dL_cancel_0 rfl (lv_at hl 3 rfl) ?_
  refine lv_iconst (v := 0) hx hb dL_cancel_1 (by decide) ?_
  refine lv_aload_n hx hb dL_cancel_2 rfl (lv_at hl 0 rfl) ?_
  refine lv_iload_n hx hb dL_cancel_3 rfl (lv_at hl 1 rfl) ?_
  refine lv_iload_n hx hb dL_cancel_4 rfl (lv_at hl 2 rfl) ?_
  rcases r with f0 | r0
  · refine wk_callX (vx_runV (As := [.int p1, .int p2]) (rest := [.int 0, .ref a]) ⟨hx, hb, hml, hown, hts⟩ (c_X6_cancel l hflags dC dI cI cD cJ kk g x p1 p2 _ hr9 H) (cwV 2 hts gL_cancel_X6_cancel rfl rfl rfl (by decide +kernel) ⟨(Nat.le_of_ble_eq_true rfl), (Nat.le_of_ble_eq_true rfl)⟩) (wk_preVT (ci := 4) (q0 := 0) hG hP hD hT hS (fun _ h9 => h9) [0, 1, 2, 3, 4, 5, 6, 7, 8, 9, 10, 11, 12, 13, 14, 15, 16, 17, 18, 19, 20, 21, 22, 23, 24, 25, 26, 27, 28, 29, 30, 31, 32, 33, 34, 35, 36, 37] rfl rfl rfl rfl (va_free hD hS hA [0, 1, 2, 3, 4, 5, 6, 7, 8, 9, 10, 11, 12, 13, 14, 15, 16, 17, 18, 19, 20, 21, 22, 23, 24, 25, 26, 27, 28, 29, 30, 31, 32, 33, 34, 35, 36, 37] rfl)) rfl rfl hl.1 rfl (lv_room (Nat.le_of_ble_eq_true rfl)) dL_cancel_5 ⟨(Nat.le_of_ble_eq_true rfl), (Nat.le_of_ble_eq_true rfl)⟩) hP hD hS hA [0, 1, 2, 3, 4, 5, 6, 7, 8, 9, 10, 11, 12, 13, 14, 15, 16, 17, 18, 19, 20, 21, 22, 23, 24, 25, 26, 27, 28, 29, 30, 31, 32, 33, 34, 35, 36, 37] [38] [1, 2, 3, 4, 5, 6, 7, 8, 9, 10, 11, 12, 13, 14, 15, 16, 17, 18, 19, 20, 21, 22, 23, 24, 25, 26, 27, 28, 29, 30, 31, 32, 33, 34, 35, 36, 37, 38, 0] rfl rfl rfl (by decide) rfl rfl (fun f9 ce q9 H locs ho9 hP hD hS hc9 hv9 hf9 => ?_) (fun ov w1 ho9 => by cases ho9)
    cases ho9
    by_cases e0 : f0 = 2
    · replace hM := (if_pos e0).symm.trans hM
      replace hM := Option.some.inj hM
      subst hM
      have hf9 : s.vm.findClass xIA = some ce.cls := by rw [e0] at hf9; exact hf9
      refine vx_catch (name := xIA) (E := xIA) (ce := ce) hown [] (ExceptionTableEntry.mk 0 10 13 13) [(ExceptionTableEntry.mk 0 10 17 15)] htab (fun z hz => by cases hz) rfl (by decide) (hts (.classLink RL 13 xIA) (by decide +kernel)) (va_Nw.use rfl (hG.2 _ (List.mem_of_getElem? (i := 14) rfl))) hc9 hv9 hf9 ?_
      refine lv_astore (lv' := [(4, .ref q9), (0, .ref (g 0)), (1, .int p1), (2, .int p2), (3, .ref a)]) hx hb dL_cancel_13 hl (by decide) rfl (fun ls hl => ?_)
      refine lv_iconst (v := 1) hx hb dL_cancel_15 (by decide) ?_
      exact wk_retXi hx hb hr hlocks hQ rfl rfl hP hD hS (Nat.le_of_ble_eq_true rfl) (Nat.le_of_ble_eq_true rfl) dL_cancel_16
    replace hM := (if_neg e0).symm.trans hM
    by_cases e1 : f0 = 3
    · replace hM := (if_pos e1).symm.trans hM
      replace hM := Option.some.inj hM
      subst hM
      have hf9 : s.vm.findClass xIS = some ce.cls := by rw [e1] at hf9; exact hf9
      refine vx_catch (name := xIS) (E := xIS) (ce := ce) hown [(ExceptionTableEntry.mk 0 10 13 13)] (ExceptionTableEntry.mk 0 10 17 15) [] htab (fun z hz => by cases List.mem_singleton.mp hz; exact Or.inr ⟨by decide, xIA, hts (.classLink RL 13 xIA) (by decide +kernel), hN.2.2⟩) rfl (by decide) (hts (.classLink RL 15 xIS) (by decide +kernel)) (va_Nw.use rfl (hG.2 _ (List.mem_of_getElem? (i := 15) rfl))) hc9 hv9 hf9 ?_
      refine lv_astore (lv' := [(4, .ref q9), (0, .ref (g 0)), (1, .int p1), (2, .int p2), (3, .ref a)]) hx hb dL_cancel_17 hl (by decide) rfl (fun ls hl => ?_)
      refine lv_iconst (v := 2) hx hb dL_cancel_19 (by decide) ?_
      exact wk_retXi hx hb hr hlocks hQ rfl rfl hP hD hS (Nat.le_of_ble_eq_true rfl) (Nat.le_of_ble_eq_true rfl) dL_cancel_20
    replace hM := (if_neg e1).symm.trans hM
    cases hM
  · refine wk_callX (vx_runV (As := [.int p1, .int p2]) (rest := [.int 0, .ref a]) ⟨hx, hb, hml, hown, hts⟩ (c_X6_cancel l hflags dC dI cI cD cJ kk g x p1 p2 _ hr9 H) (cwV 2 hts gL_cancel_X6_cancel rfl rfl rfl (by decide +kernel) ⟨(Nat.le_of_ble_eq_true rfl), (Nat.le_of_ble_eq_true rfl)⟩) (wk_preVT (ci := 4) (q0 := 0) hG hP hD hT hS (fun _ h9 => h9) [0, 1, 2, 3, 4, 5, 6, 7, 8, 9, 10, 11, 12, 13, 14, 15, 16, 17, 18, 19, 20, 21, 22, 23, 24, 25, 26, 27, 28, 29, 30, 31, 32, 33, 34, 35, 36, 37] rfl rfl rfl rfl (va_free hD hS hA [0, 1, 2, 3, 4, 5, 6, 7, 8, 9, 10, 11, 12, 13, 14, 15, 16, 17, 18, 19, 20, 21, 22, 23, 24, 25, 26, 27, 28, 29, 30, 31, 32, 33, 34, 35, 36, 37] rfl)) rfl rfl hl.1 rfl (lv_room (Nat.le_of_ble_eq_true rfl)) dL_cancel_5 ⟨(Nat.le_of_ble_eq_true rfl), (Nat.le_of_ble_eq_true rfl)⟩) hP hD hS hA [0, 1, 2, 3, 4, 5, 6, 7, 8, 9, 10, 11, 12, 13, 14, 15, 16, 17, 18, 19, 20, 21, 22, 23, 24, 25, 26, 27, 28, 29, 30, 31, 32, 33, 34, 35, 36, 37] [38] [1, 2, 3, 4, 5, 6, 7, 8, 9, 10, 11, 12, 13, 14, 15, 16, 17, 18, 19, 20, 21, 22, 23, 24, 25, 26, 27, 28, 29, 30, 31, 32, 33, 34, 35, 36, 37, 38, 0] rfl rfl rfl (by decide) rfl rfl (fun f9 ce q9 H locs ho9 hP hD hS hc9 hv9 hf9 => by cases ho9) (fun ov w1 ho9 H locs hPD hS => ?_)
    cases ho9
    obtain ⟨hP, hD⟩ := hPD (wSys cI cD kk.1 g r0.2 ++ wLrow cJ a o) rfl
    replace hM := Option.some.inj hM
    subst hM
    refine lv_i2l hx hb dL_cancel_8 rfl ?_
    refine va_last hx hb hG.1 hP hD hS 38 2 rfl rfl (vpb_in.mp (by decide)) dL_cancel_9 (fun H locs hP hD hS => ?_)
    have hP : va_P (dC, dI) vwCl (wSys cI cD kk.1 g r0.2 ++ wLrow cJ a (vp_updL o 0 (r0.1).toInt64)) H := hP
    have hD : va_D A (wSys cI cD kk.1 g r0.2 ++ wLrow cJ a (vp_updL o 0 (r0.1).toInt64)) := hD
    refine lv_goto (tgt := 21) hx hb dL_cancel_10 (by decide) ?_
    refine lv_iconst (v := 0) hx hb dL_cancel_21 (by decide) ?_
    exact wk_retXi hx hb hr hlocks hQ rfl rfl hP hD hS (Nat.le_of_ble_eq_true rfl) (Nat.le_of_ble_eq_true rfl) dL_cancel_22
set_option maxHeartbeats 4000000 in
set_option maxRecDepth 100000 in
theorem c_L_wake (l : Launch) (hflags : l.stackTraces = false) (dC : Nat → ClassId) (dI : Nat → Nat → Nat) (cI cD cJ : ClassId) (kk : wAd) (g : Nat → Nat) (a : Nat) (x : SS) (o : Nat → Int64) (p1 : Int32) (out : Int32 × (SS × (Nat → Int64))) (hM : M_L_wake x o p1 = some out) : CL kk l yL_wake wsL_wake ({ frames := 8, cells := 1, slots := 6, locals := 124 } : Room) dC dI (wTys cI cD cJ) [.ref (g 0), .int p1, .ref a] (wSys cI cD kk.1 g x ++ wLrow cJ a o) (.inr (some (.int out.1), wSys cI cD kk.1 g out.2.1 ++ wLrow cJ a out.2.2)) 1 6 := by
  refine wk_enterL (cc := cL_wake) (maxL := 4) (ret := some .int) (hh := [(0, 9, 12, 25), (0, 9, 15, 15)]) (by decide) rfl (Nat.le_of_ble_eq_true rfl) ?_
  intro p e s m below meth c A Q ls hB htab hN hT hA hP hD hQ hl
  obtain ⟨hx, hb, hml, hr, hts, hown, hname, hlocks, hG⟩ := hB
  have hown : s.vm.findClass RL = some m.cls := hown
  have hS : va_S A s.heap s.heap [] := va_S.rf
  have hl : lv_has ls 4 [(0, .ref (g 0)), (1, .int p1), (2, .ref a)] := hl
  obtain ⟨H, hH⟩ : ∃ z, z = s.heap := ⟨_, rfl⟩
  have hP : va_P (dC, dI) vwCl (wSys cI cD kk.1 g x ++ wLrow cJ a o) H := by rw [hH]; exact hP
  have hS : va_S A s.heap H [] := by rw [hH]; exact hS
  refine wk_at hH ?_
  generalize ([] : List Loc) = locs at hS ⊢
  unfold M_L_wake at hM
  obtain ⟨r, hr9, hM⟩ := ob hM
  refine lv_aload_n hx hb dL_wake_0 rfl (lv_at hl 2 rfl) ?_
  refine lv_iconst (v := 0) hx hb dL_wake_1 (by decide) ?_
  refine lv_aload_n hx hb dL_wake_2 rfl (lv_at hl 0 rfl) ?_
  refine lv_iload_n hx hb dL_wake_3 rfl (lv_at hl 1 rfl) ?_
  rcases r with f0 | r0
  · refine wk_callX (vx_runV (As := [.int p1]) (rest := [.int 0, .ref a]) ⟨hx, hb, hml, hown, hts⟩ (c_X6_wake l hflags dC dI cI cD cJ kk g x p1 _ hr9 H) (cwV 1 hts gL_wake_X6_wake rfl rfl rfl (by decide +kernel) ⟨(Nat.le_of_ble_eq_true rfl), (Nat.le_of_ble_eq_true rfl)⟩) (wk_preVT (ci := 4) (q0 := 0) hG hP hD hT hS (fun _ h9 => h9) [0, 1, 2, 3, 4, 5, 6, 7, 8, 9, 10, 11, 12, 13, 14, 15, 16, 17, 18, 19, 20, 21, 22, 23, 24, 25, 26, 27, 28, 29, 30, 31, 32, 33, 34, 35, 36, 37] rfl rfl rfl rfl (va_free hD hS hA [0, 1, 2, 3, 4, 5, 6, 7, 8, 9, 10, 11, 12, 13, 14, 15, 16, 17, 18, 19, 20, 21, 22, 23, 24, 25, 26, 27, 28, 29, 30, 31, 32, 33, 34, 35, 36, 37] rfl)) rfl rfl hl.1 rfl (lv_room (Nat.le_of_ble_eq_true rfl)) dL_wake_4 ⟨(Nat.le_of_ble_eq_true rfl), (Nat.le_of_ble_eq_true rfl)⟩) hP hD hS hA [0, 1, 2, 3, 4, 5, 6, 7, 8, 9, 10, 11, 12, 13, 14, 15, 16, 17, 18, 19, 20, 21, 22, 23, 24, 25, 26, 27, 28, 29, 30, 31, 32, 33, 34, 35, 36, 37] [38] [1, 2, 3, 4, 5, 6, 7, 8, 9, 10, 11, 12, 13, 14, 15, 16, 17, 18, 19, 20, 21, 22, 23, 24, 25, 26, 27, 28, 29, 30, 31, 32, 33, 34, 35, 36, 37, 38, 0] rfl rfl rfl (by decide) rfl rfl (fun f9 ce q9 H locs ho9 hP hD hS hc9 hv9 hf9 => ?_) (fun ov w1 ho9 => by cases ho9)
    cases ho9
    by_cases e0 : f0 = 1
    · replace hM := (if_pos e0).symm.trans hM
      replace hM := Option.some.inj hM
      subst hM
      have hf9 : s.vm.findClass xIO = some ce.cls := by rw [e0] at hf9; exact hf9
      refine vx_catch (name := xIO) (E := xIO) (ce := ce) hown [] (ExceptionTableEntry.mk 0 9 12 25) [(ExceptionTableEntry.mk 0 9 15 15)] htab (fun z hz => by cases hz) rfl (by decide) (hts (.classLink RL 25 xIO) (by decide +kernel)) (va_Nw.use rfl (hG.2 _ (List.mem_of_getElem? (i := 13) rfl))) hc9 hv9 hf9 ?_
      refine lv_astore_n (lv' := [(3, .ref q9), (0, .ref (g 0)), (1, .int p1), (2, .ref a)]) hx hb dL_wake_12 rfl hl (by decide) rfl (fun ls hl => ?_)
      refine lv_iconst (v := 1) hx hb dL_wake_13 (by decide) ?_
      exact wk_retXi hx hb hr hlocks hQ rfl rfl hP hD hS (Nat.le_of_ble_eq_true rfl) (Nat.le_of_ble_eq_true rfl) dL_wake_14
    replace hM := (if_neg e0).symm.trans hM
    by_cases e1 : f0 = 3
    · replace hM := (if_pos e1).symm.trans hM
      replace hM := Option.some.inj hM
      subst hM
      have hf9 : s.vm.findClass xIS = some ce.cls := by rw [e1] at hf9; exact hf9
      refine vx_catch (name := xIS) (E := xIS) (ce := ce) hown [(ExceptionTableEntry.mk 0 9 12 25)] (ExceptionTableEntry.mk 0 9 15 15) [] htab (fun z hz => by cases List.mem_singleton.mp hz; exact Or.inr ⟨by decide, xIO, hts (.classLink RL 25 xIO) (by decide +kernel), hN.2.1⟩) rfl (by decide) (hts (.classLink RL 15 xIS) (by decide +kernel)) (va_Nw.use rfl (hG.2 _ (List.mem_of_getElem? (i := 15) rfl))) hc9 hv9 hf9 ?_
      refine lv_astore_n (lv' := [(3, .ref q9), (0, .ref (g 0)), (1, .int p1), (2, .ref a)]) hx hb dL_wake_15 rfl hl (by decide) rfl (fun ls hl => ?_)
      refine lv_iconst (v := 2) hx hb dL_wake_16 (by decide) ?_
      exact wk_retXi hx hb hr hlocks hQ rfl rfl hP hD hS (Nat.le_of_ble_eq_true rfl) (Nat.le_of_ble_eq_true rfl) dL_wake_17
    replace hM := (if_neg e1).symm.trans hM
    cases hM
  · refine wk_callX (vx_runV (As := [.int p1]) (rest := [.int 0, .ref a]) ⟨hx, hb, hml, hown, hts⟩ (c_X6_wake l hflags dC dI cI cD cJ kk g x p1 _ hr9 H) (cwV 1 hts gL_wake_X6_wake rfl rfl rfl (by decide +kernel) ⟨(Nat.le_of_ble_eq_true rfl), (Nat.le_of_ble_eq_true rfl)⟩) (wk_preVT (ci := 4) (q0 := 0) hG hP hD hT hS (fun _ h9 => h9) [0, 1, 2, 3, 4, 5, 6, 7, 8, 9, 10, 11, 12, 13, 14, 15, 16, 17, 18, 19, 20, 21, 22, 23, 24, 25, 26, 27, 28, 29, 30, 31, 32, 33, 34, 35, 36, 37] rfl rfl rfl rfl (va_free hD hS hA [0, 1, 2, 3, 4, 5, 6, 7, 8, 9, 10, 11, 12, 13, 14, 15, 16, 17, 18, 19, 20, 21, 22, 23, 24, 25, 26, 27, 28, 29, 30, 31, 32, 33, 34, 35, 36, 37] rfl)) rfl rfl hl.1 rfl (lv_room (Nat.le_of_ble_eq_true rfl)) dL_wake_4 ⟨(Nat.le_of_ble_eq_true rfl), (Nat.le_of_ble_eq_true rfl)⟩) hP hD hS hA [0, 1, 2, 3, 4, 5, 6, 7, 8, 9, 10, 11, 12, 13, 14, 15, 16, 17, 18, 19, 20, 21, 22, 23, 24, 25, 26, 27, 28, 29, 30, 31, 32, 33, 34, 35, 36, 37] [38] [1, 2, 3, 4, 5, 6, 7, 8, 9, 10, 11, 12, 13, 14, 15, 16, 17, 18, 19, 20, 21, 22, 23, 24, 25, 26, 27, 28, 29, 30, 31, 32, 33, 34, 35, 36, 37, 38, 0] rfl rfl rfl (by decide) rfl rfl (fun f9 ce q9 H locs ho9 hP hD hS hc9 hv9 hf9 => by cases ho9) (fun ov w1 ho9 H locs hPD hS => ?_)
    cases ho9
    obtain ⟨hP, hD⟩ := hPD (wSys cI cD kk.1 g r0.2 ++ wLrow cJ a o) rfl
    replace hM := Option.some.inj hM
    subst hM
    refine lv_i2l hx hb dL_wake_7 rfl ?_
    refine va_last hx hb hG.1 hP hD hS 38 2 rfl rfl (vpb_in.mp (by decide)) dL_wake_8 (fun H locs hP hD hS => ?_)
    have hP : va_P (dC, dI) vwCl (wSys cI cD kk.1 g r0.2 ++ wLrow cJ a (vp_updL o 0 (r0.1).toInt64)) H := hP
    have hD : va_D A (wSys cI cD kk.1 g r0.2 ++ wLrow cJ a (vp_updL o 0 (r0.1).toInt64)) := hD
    refine lv_goto (tgt := 18) hx hb dL_wake_9 (by decide) ?_
    refine lv_iconst (v := 0) hx hb dL_wake_18 (by decide) ?_
    exact wk_retXi hx hb hr hlocks hQ rfl rfl hP hD hS (Nat.le_of_ble_eq_true rfl) (Nat.le_of_ble_eq_true rfl) dL_wake_19
set_option maxHeartbeats 4000000 in
set_option maxRecDepth 100000 in
theorem c_L_sleep (l : Launch) (hflags : l.stackTraces = false) (dC : Nat → ClassId) (dI : Nat → Nat → Nat) (cI cD cJ : ClassId) (kk : wAd) (g : Nat → Nat) (a : Nat) (x : SS) (o : Nat → Int64) (p1 : Int32) (out : Int32 × (SS × (Nat → Int64))) (hM : M_L_sleep x o p1 = some out) : CL kk l yL_sleep wsL_sleep ({ frames := 8, cells := 1, slots := 6, locals := 124 } : Room) dC dI (wTys cI cD cJ) [.ref (g 0), .int p1, .ref a] (wSys cI cD kk.1 g x ++ wLrow cJ a o) (.inr (some (.int out.1), wSys cI cD kk.1 g out.2.1 ++ wLrow cJ a out.2.2)) 1 6 := by
  refine wk_enterL (cc := cL_sleep) (maxL := 4) (ret := some .int) (hh := [(0, 9, 12, 25), (0, 9, 15, 15)]) (by decide) rfl (Nat.le_of_ble_eq_true rfl) ?_
  intro p e s m below meth c A Q ls hB htab hN hT hA hP hD hQ hl
  obtain ⟨hx, hb, hml, hr, hts, hown, hname, hlocks, hG⟩ := hB
  have hown : s.vm.findClass RL = some m.cls := hown
  have hS : va_S A s.heap s.heap [] := va_S.rf
  have hl : lv_has ls 4 [(0, .ref (g 0)), (1, .int p1), (2, .ref a)] := hl
  obtain ⟨H, hH⟩ : ∃ z, z = s.heap := ⟨_, rfl⟩
  have hP : va_P (dC, dI) vwCl (wSys cI cD kk.1 g x ++ wLrow cJ a o) H := by rw [hH]; exact hP
  have hS : va_S A s.heap H [] := by rw [hH]; exact hS
  refine wk_at hH ?_
  generalize ([] : List Loc) = locs at hS ⊢
  unfold M_L_sleep at hM
  obtain ⟨r, hr9, hM⟩ := ob hM
  refine lv_aload_n hx hb dL_sleep_0 rfl (lv_at hl 2 rfl) ?_
  refine lv_iconst (v := 0) hx hb dL_sleep_1 (by decide) ?_
  refine lv_aload_n hx hb dL_sleep_2 rfl (lv_at hl 0 rfl) ?_
  refine lv_iload_n hx hb dL_sleep_3 rfl (lv_at hl 1 rfl) ?_
  rcases r with f0 | r0
  · refine wk_callX (vx_runV (As := [.int p1]) (rest := [.int 0, .ref a]) ⟨hx, hb, hml, hown, hts⟩ (c_X6_sleep l hflags dC dI cI cD cJ kk g x p1 _ hr9 H) (cwV 1 hts gL_sleep_X6_sleep rfl rfl rfl (by decide +kernel) ⟨(Nat.le_of_ble_eq_true rfl), (Nat.le_of_ble_eq_true rfl)⟩) (wk_preVT (ci := 4) (q0 := 0) hG hP hD hT hS (fun _ h9 => h9) [0, 1, 2, 3, 4, 5, 6, 7, 8, 9, 10, 11, 12, 13, 14, 15, 16, 17, 18, 19, 20, 21, 22, 23, 24, 25, 26, 27, 28, 29, 30, 31, 32, 33, 34, 35, 36, 37] rfl rfl rfl rfl (va_free hD hS hA [0, 1, 2, 3, 4, 5, 6, 7, 8, 9, 10, 11, 12, 13, 14, 15, 16, 17, 18, 19, 20, 21, 22, 23, 24, 25, 26, 27, 28, 29, 30, 31, 32, 33, 34, 35, 36, 37] rfl)) rfl rfl hl.1 rfl (lv_room (Nat.le_of_ble_eq_true rfl)) dL_sleep_4 ⟨(Nat.le_of_ble_eq_true rfl), (Nat.le_of_ble_eq_true rfl)⟩) hP hD hS hA [0, 1, 2, 3, 4, 5, 6, 7, 8, 9, 10, 11, 12, 13, 14, 15, 16, 17, 18, 19, 20, 21, 22, 23, 24, 25, 26, 27, 28, 29, 30, 31, 32, 33, 34, 35, 36, 37] [38] [1, 2, 3, 4, 5, 6, 7, 8, 9, 10, 11, 12, 13, 14, 15, 16, 17, 18, 19, 20, 21, 22, 23, 24, 25, 26, 27, 28, 29, 30, 31, 32, 33, 34, 35, 36, 37, 38, 0] rfl rfl rfl (by decide) rfl rfl (fun f9 ce q9 H locs ho9 hP hD hS hc9 hv9 hf9 => ?_) (fun ov w1 ho9 => by cases ho9)
    cases ho9
    by_cases e0 : f0 = 1
    · replace hM := (if_pos e0).symm.trans hM
      replace hM := Option.some.inj hM
      subst hM
      have hf9 : s.vm.findClass xIO = some ce.cls := by rw [e0] at hf9; exact hf9
      refine vx_catch (name := xIO) (E := xIO) (ce := ce) hown [] (ExceptionTableEntry.mk 0 9 12 25) [(ExceptionTableEntry.mk 0 9 15 15)] htab (fun z hz => by cases hz) rfl (by decide) (hts (.classLink RL 25 xIO) (by decide +kernel)) (va_Nw.use rfl (hG.2 _ (List.mem_of_getElem? (i := 13) rfl))) hc9 hv9 hf9 ?_
      refine lv_astore_n (lv' := [(3, .ref q9), (0, .ref (g 0)), (1, .int p1), (2, .ref a)]) hx hb dL_sleep_12 rfl hl (by decide) rfl (fun ls hl => ?_)
      refine lv_iconst (v := 1) hx hb dL_sleep_13 (by decide) ?_
      exact wk_retXi hx hb hr hlocks hQ rfl rfl hP hD hS (Nat.le_of_ble_eq_true rfl) (Nat.le_of_ble_eq_true rfl) dL_sleep_14
    replace hM := (if_neg e0).symm.trans hM
    by_cases e1 : f0 = 3
    · replace hM := (if_pos e1).symm.trans hM
      replace hM := Option.some.inj hM
      subst hM
      have hf9 : s.vm.findClass xIS = some ce.cls := by rw [e1] at hf9; exact hf9
      refine vx_catch (name := xIS) (E := xIS) (ce := ce) hown [(ExceptionTableEntry.mk 0 9 12 25)] (ExceptionTableEntry.mk 0 9 15 15) [] htab (fun z hz => by cases List.mem_singleton.mp hz; exact Or.inr ⟨by decide, xIO, hts (.classLink RL 25 xIO) (by decide +kernel), hN.2.1⟩) rfl (by decide) (hts (.classLink RL 15 xIS) (by decide +kernel)) (va_Nw.use rfl (hG.2 _ (List.mem_of_getElem? (i := 15) rfl))) hc9 hv9 hf9 ?_
      refine lv_astore_n (lv' := [(3, .ref q9), (0, .ref (g 0)), (1, .int p1), (2, .ref a)]) hx hb dL_sleep_15 rfl hl (by decide) rfl (fun ls hl => ?_)
      refine lv_iconst (v := 2) hx hb dL_sleep_16 (by decide) ?_
      exact wk_retXi hx hb hr hlocks hQ rfl rfl hP hD hS (Nat.le_of_ble_eq_true rfl) (Nat.le_of_ble_eq_true rfl) dL_sleep_17
    replace hM := (if_neg e1).symm.trans hM
    cases hM
  · refine wk_callX (vx_runV (As := [.int p1]) (rest := [.int 0, .ref a]) ⟨hx, hb, hml, hown, hts⟩ (c_X6_sleep l hflags dC dI cI cD cJ kk g x p1 _ hr9 H) (cwV 1 hts gL_sleep_X6_sleep rfl rfl rfl (by decide +kernel) ⟨(Nat.le_of_ble_eq_true rfl), (Nat.le_of_ble_eq_true rfl)⟩) (wk_preVT (ci := 4) (q0 := 0) hG hP hD hT hS (fun _ h9 => h9) [0, 1, 2, 3, 4, 5, 6, 7, 8, 9, 10, 11, 12, 13, 14, 15, 16, 17, 18, 19, 20, 21, 22, 23, 24, 25, 26, 27, 28, 29, 30, 31, 32, 33, 34, 35, 36, 37] rfl rfl rfl rfl (va_free hD hS hA [0, 1, 2, 3, 4, 5, 6, 7, 8, 9, 10, 11, 12, 13, 14, 15, 16, 17, 18, 19, 20, 21, 22, 23, 24, 25, 26, 27, 28, 29, 30, 31, 32, 33, 34, 35, 36, 37] rfl)) rfl rfl hl.1 rfl (lv_room (Nat.le_of_ble_eq_true rfl)) dL_sleep_4 ⟨(Nat.le_of_ble_eq_true rfl), (Nat.le_of_ble_eq_true rfl)⟩) hP hD hS hA [0, 1, 2, 3, 4, 5, 6, 7, 8, 9, 10, 11, 12, 13, 14, 15, 16, 17, 18, 19, 20, 21, 22, 23, 24, 25, 26, 27, 28, 29, 30, 31, 32, 33, 34, 35, 36, 37] [38] [1, 2, 3, 4, 5, 6, 7, 8, 9, 10, 11, 12, 13, 14, 15, 16, 17, 18, 19, 20, 21, 22, 23, 24, 25, 26, 27, 28, 29, 30, 31, 32, 33, 34, 35, 36, 37, 38, 0] rfl rfl rfl (by decide) rfl rfl (fun f9 ce q9 H locs ho9 hP hD hS hc9 hv9 hf9 => by cases ho9) (fun ov w1 ho9 H locs hPD hS => ?_)
    cases ho9
    obtain ⟨hP, hD⟩ := hPD (wSys cI cD kk.1 g r0.2 ++ wLrow cJ a o) rfl
    replace hM := Option.some.inj hM
    subst hM
    refine lv_i2l hx hb dL_sleep_7 rfl ?_
    refine va_last hx hb hG.1 hP hD hS 38 2 rfl rfl (vpb_in.mp (by decide)) dL_sleep_8 (fun H locs hP hD hS => ?_)
    have hP : va_P (dC, dI) vwCl (wSys cI cD kk.1 g r0.2 ++ wLrow cJ a (vp_updL o 0 (r0.1).toInt64)) H := hP
    have hD : va_D A (wSys cI cD kk.1 g r0.2 ++ wLrow cJ a (vp_updL o 0 (r0.1).toInt64)) := hD
    refine lv_goto (tgt := 18) hx hb dL_sleep_9 (by decide) ?_
    refine lv_iconst (v := 0) hx hb dL_sleep_18 (by decide) ?_
    exact wk_retXi hx hb hr hlocks hQ rfl rfl hP hD hS (Nat.le_of_ble_eq_true rfl) (Nat.le_of_ble_eq_true rfl) dL_sleep_19
set_option maxHeartbeats 4000000 in
set_option maxRecDepth 100000 in
theorem c_L_setDelay (l : Launch) (hflags : l.stackTraces = false) (dC : Nat → ClassId) (dI : Nat → Nat → Nat) (cI cD cJ : ClassId) (kk : wAd) (g : Nat → Nat) (a : Nat) (x : SS) (o : Nat → Int64) (p1 : Int32) (p2 : Int32) (out : Int32 × (SS × (Nat → Int64))) (hM : M_L_setDelay x o p1 p2 = some out) : CL kk l yL_setDelay wsL_setDelay ({ frames := 8, cells := 1, slots := 6, locals := 125 } : Room) dC dI (wTys cI cD cJ) [.ref (g 0), .int p1, .int p2, .ref a] (wSys cI cD kk.1 g x ++ wLrow cJ a o) (.inr (some (.int out.1), wSys cI cD kk.1 g out.2.1 ++ wLrow cJ a out.2.2)) 1 6 := by
  refine wk_enterL (cc := cL_setDelay) (maxL := 5) (ret := some .int) (hh := [(0, 10, 13, 25), (0, 10, 17, 13)]) (by decide) rfl (Nat.le_of_ble_eq_true rfl) ?_
  intro p e s m below meth c A Q ls hB htab hN hT hA hP hD hQ hl
  obtain ⟨hx, hb, hml, hr, hts, hown, hname, hlocks, hG⟩ := hB
  have hown : s.vm.findClass RL = some m.cls := hown
  have hS : va_S A s.heap s.heap [] := va_S.rf
  have hl : lv_has ls 5 [(0, .ref (g 0)), (1, .int p1), (2, .int p2), (3, .ref a)] := hl
  obtain ⟨H, hH⟩ : ∃ z, z = s.heap := ⟨_, rfl⟩
  have hP : va_P (dC, dI) vwCl (wSys cI cD kk.1 g x ++ wLrow cJ a o) H := by rw [hH]; exact hP
  have hS : va_S A s.heap H [] := by rw [hH]; exact hS
  refine wk_at hH ?_
  generalize ([] : List Loc) = locs at hS ⊢
  unfold M_L_setDelay at hM
  obtain ⟨r, hr9, hM⟩ := ob hM
  refine lv_aload_n hx hb dL_setDelay_0 rfl (lv_at hl 3 rfl) ?_
  refine lv_iconst (v := 0) hx hb dL_setDelay_1 (by decide) ?_
  refine lv_aload_n hx hb dL_setDelay_2 rfl (lv_at hl 0 rfl) ?_
  refine lv_iload_n hx hb dL_setDelay_3 rfl (lv_at hl 1 rfl) ?_
  refine lv_iload_n hx hb dL_setDelay_4 rfl (lv_at hl 2 rfl) ?_
  rcases r with f0 | r0
  · refine wk_callX (vx_runV (As := [.int p1, .int p2]) (rest := [.int 0, .ref a]) ⟨hx, hb, hml, hown, hts⟩ (c_X6_setDelay l hflags dC dI cI cD cJ kk g x p1 p2 _ hr9 H) (cwV 2 hts gL_setDelay_X6_setDelay rfl rfl rfl (by decide +kernel) ⟨(Nat.le_of_ble_eq_true rfl), (Nat.le_of_ble_eq_true rfl)⟩) (wk_preVT (ci := 4) (q0 := 0) hG hP hD hT hS (fun _ h9 => h9) [0, 1, 2, 3, 4, 5, 6, 7, 8, 9, 10, 11, 12, 13, 14, 15, 16, 17, 18, 19, 20, 21, 22, 23, 24, 25, 26, 27, 28, 29, 30, 31, 32, 33, 34, 35, 36, 37] rfl rfl rfl rfl (va_free hD hS hA [0, 1, 2, 3, 4, 5, 6, 7, 8, 9, 10, 11, 12, 13, 14, 15, 16, 17, 18, 19, 20, 21, 22, 23, 24, 25, 26, 27, 28, 29, 30, 31, 32, 33, 34, 35, 36, 37] rfl)) rfl rfl hl.1 rfl (lv_room (Nat.le_of_ble_eq_true rfl)) dL_setDelay_5 ⟨(Nat.le_of_ble_eq_true rfl), (Nat.le_of_ble_eq_true rfl)⟩) hP hD hS hA [0, 1, 2, 3, 4, 5, 6, 7, 8, 9, 10, 11, 12, 13, 14, 15, 16, 17, 18, 19, 20, 21, 22, 23, 24, 25, 26, 27, 28, 29, 30, 31, 32, 33, 34, 35, 36, 37] [38] [1, 2, 3, 4, 5, 6, 7, 8, 9, 10, 11, 12, 13, 14, 15, 16, 17, 18, 19, 20, 21, 22, 23, 24, 25, 26, 27, 28, 29, 30, 31, 32, 33, 34, 35, 36, 37, 38, 0] rfl rfl rfl (by decide) rfl rfl (fun f9 ce q9 H locs ho9 hP hD hS hc9 hv9 hf9 => ?_) (fun ov w1 ho9 => by cases ho9)
    cases ho9
    by_cases e0 : f0 = 1
    · replace hM := (if_pos e0).symm.trans hM
      replace hM := Option.some.inj hM
      subst hM
      have hf9 : s.vm.findClass xIO = some ce.cls := by rw [e0] at hf9; exact hf9
      refine vx_catch (name := xIO) (E := xIO) (ce := ce) hown [] (ExceptionTableEntry.mk 0 10 13 25) [(ExceptionTableEntry.mk 0 10 17 13)] htab (fun z hz => by cases hz) rfl (by decide) (hts (.classLink RL 25 xIO) (by decide +kernel)) (va_Nw.use rfl (hG.2 _ (List.mem_of_getElem? (i := 13) rfl))) hc9 hv9 hf9 ?_
      refine lv_astore (lv' := [(4, .ref q9), (0, .ref (g 0)), (1, .int p1), (2, .int p2), (3, .ref a)]) hx hb dL_setDelay_13 hl (by decide) rfl (fun ls hl => ?_)
      refine lv_iconst (v := 1) hx hb dL_setDelay_15 (by decide) ?_
      exact wk_retXi hx hb hr hlocks hQ rfl rfl hP hD hS (Nat.le_of_ble_eq_true rfl) (Nat.le_of_ble_eq_true rfl) dL_setDelay_16
    replace hM := (if_neg e0).symm.trans hM
    by_cases e1 : f0 = 2
    · replace hM := (if_pos e1).symm.trans hM
      replace hM := Option.some.inj hM
      subst hM
      have hf9 : s.vm.findClass xIA = some ce.cls := by rw [e1] at hf9; exact hf9
      refine vx_catch (name := xIA) (E := xIA) (ce := ce) hown [(ExceptionTableEntry.mk 0 10 13 25)] (ExceptionTableEntry.mk 0 10 17 13) [] htab (fun z hz => by cases List.mem_singleton.mp hz; exact Or.inr ⟨by decide, xIO, hts (.classLink RL 25 xIO) (by decide +kernel), hN.1⟩) rfl (by decide) (hts (.classLink RL 13 xIA) (by decide +kernel)) (va_Nw.use rfl (hG.2 _ (List.mem_of_getElem? (i := 14) rfl))) hc9 hv9 hf9 ?_
      refine lv_astore (lv' := [(4, .ref q9), (0, .ref (g 0)), (1, .int p1), (2, .int p2), (3, .ref a)]) hx hb dL_setDelay_17 hl (by decide) rfl (fun ls hl => ?_)
      refine lv_iconst (v := 2) hx hb dL_setDelay_19 (by decide) ?_
      exact wk_retXi hx hb hr hlocks hQ rfl rfl hP hD hS (Nat.le_of_ble_eq_true rfl) (Nat.le_of_ble_eq_true rfl) dL_setDelay_20
    replace hM := (if_neg e1).symm.trans hM
    cases hM
  · refine wk_callX (vx_runV (As := [.int p1, .int p2]) (rest := [.int 0, .ref a]) ⟨hx, hb, hml, hown, hts⟩ (c_X6_setDelay l hflags dC dI cI cD cJ kk g x p1 p2 _ hr9 H) (cwV 2 hts gL_setDelay_X6_setDelay rfl rfl rfl (by decide +kernel) ⟨(Nat.le_of_ble_eq_true rfl), (Nat.le_of_ble_eq_true rfl)⟩) (wk_preVT (ci := 4) (q0 := 0) hG hP hD hT hS (fun _ h9 => h9) [0, 1, 2, 3, 4, 5, 6, 7, 8, 9, 10, 11, 12, 13, 14, 15, 16, 17, 18, 19, 20, 21, 22, 23, 24, 25, 26, 27, 28, 29, 30, 31, 32, 33, 34, 35, 36, 37] rfl rfl rfl rfl (va_free hD hS hA [0, 1, 2, 3, 4, 5, 6, 7, 8, 9, 10, 11, 12, 13, 14, 15, 16, 17, 18, 19, 20, 21, 22, 23, 24, 25, 26, 27, 28, 29, 30, 31, 32, 33, 34, 35, 36, 37] rfl)) rfl rfl hl.1 rfl (lv_room (Nat.le_of_ble_eq_true rfl)) dL_setDelay_5 ⟨(Nat.le_of_ble_eq_true rfl), (Nat.le_of_ble_eq_true rfl)⟩) hP hD hS hA [0, 1, 2, 3, 4, 5, 6, 7, 8, 9, 10, 11, 12, 13, 14, 15, 16, 17, 18, 19, 20, 21, 22, 23, 24, 25, 26, 27, 28, 29, 30, 31, 32, 33, 34, 35, 36, 37] [38] [1, 2, 3, 4, 5, 6, 7, 8, 9, 10, 11, 12, 13, 14, 15, 16, 17, 18, 19, 20, 21, 22, 23, 24, 25, 26, 27, 28, 29, 30, 31, 32, 33, 34, 35, 36, 37, 38, 0] rfl rfl rfl (by decide) rfl rfl (fun f9 ce q9 H locs ho9 hP hD hS hc9 hv9 hf9 => by cases ho9) (fun ov w1 ho9 H locs hPD hS => ?_)
    cases ho9
    obtain ⟨hP, hD⟩ := hPD (wSys cI cD kk.1 g r0.2 ++ wLrow cJ a o) rfl
    replace hM := Option.some.inj hM
    subst hM
    refine lv_i2l hx hb dL_setDelay_8 rfl ?_
    refine va_last hx hb hG.1 hP hD hS 38 2 rfl rfl (vpb_in.mp (by decide)) dL_setDelay_9 (fun H locs hP hD hS => ?_)
    have hP : va_P (dC, dI) vwCl (wSys cI cD kk.1 g r0.2 ++ wLrow cJ a (vp_updL o 0 (r0.1).toInt64)) H := hP
    have hD : va_D A (wSys cI cD kk.1 g r0.2 ++ wLrow cJ a (vp_updL o 0 (r0.1).toInt64)) := hD
    refine lv_goto (tgt := 21) hx hb dL_setDelay_10 (by decide) ?_
    refine lv_iconst (v := 0) hx hb dL_setDelay_21 (by decide) ?_
    exact wk_retXi hx hb hr hlocks hQ rfl rfl hP hD hS (Nat.le_of_ble_eq_true rfl) (Nat.le_of_ble_eq_true rfl) dL_setDelay_22
set_option maxHeartbeats 4000000 in
set_option maxRecDepth 100000 in
theorem c_L_setAlarm (l : Launch) (hflags : l.stackTraces = false) (dC : Nat → ClassId) (dI : Nat → Nat → Nat) (cI cD cJ : ClassId) (kk : wAd) (g : Nat → Nat) (a : Nat) (x : SS) (o : Nat → Int64) (p1 : Int32) (p2 : Int32) (out : Int32 × (SS × (Nat → Int64))) (hM : M_L_setAlarm x o p1 p2 = some out) : CL kk l yL_setAlarm wsL_setAlarm ({ frames := 8, cells := 1, slots := 6, locals := 125 } : Room) dC dI (wTys cI cD cJ) [.ref (g 0), .int p1, .int p2, .ref a] (wSys cI cD kk.1 g x ++ wLrow cJ a o) (.inr (some (.int out.1), wSys cI cD kk.1 g out.2.1 ++ wLrow cJ a out.2.2)) 1 6 := by
  refine wk_enterL (cc := cL_setAlarm) (maxL := 5) (ret := some .int) (hh := [(0, 10, 13, 25), (0, 10, 17, 13)]) (by decide) rfl (Nat.le_of_ble_eq_true rfl) ?_
  intro p e s m below meth c A Q ls hB htab hN hT hA hP hD hQ hl
  obtain ⟨hx, hb, hml, hr, hts, hown, hname, hlocks, hG⟩ := hB
  have hown : s.vm.findClass RL = some m.cls := hown
  have hS : va_S A s.heap s.heap [] := va_S.rf
  have hl : lv_has ls 5 [(0, .ref (g 0)), (1, .int p1), (2, .int p2), (3, .ref a)] := hl
  obtain ⟨H, hH⟩ : ∃ z, z = s.heap := ⟨_, rfl⟩
  have hP : va_P (dC, dI) vwCl (wSys cI cD kk.1 g x ++ wLrow cJ a o) H := by rw [hH]; exact hP
  have hS : va_S A s.heap H [] := by rw [hH]; exact hS
  refine wk_at hH ?_
  generalize ([] : List Loc) = locs at hS ⊢
  unfold M_L_setAlarm at hM
  obtain ⟨r, hr9, hM⟩ := ob hM
  refine lv_aload_n hx hb dL_setAlarm_0 rfl (lv_at hl 3 rfl) ?_
  refine lv_iconst (v := 0) hx hb dL_setAlarm_1 (by decide) ?_
  refine lv_aload_n hx hb dL_setAlarm_2 rfl (lv_at hl 0 rfl) ?_
  refine lv_iload_n hx hb dL_setAlarm_3 rfl (lv_at hl 1 rfl) ?_
  refine lv_iload_n hx hb dL_setAlarm_4 rfl (lv_at hl 2 rfl) ?_
  rcases r with f0 | r0
  · refine wk_callX (vx_runV (As := [.int p1, .int p2]) (rest := [.int 0, .ref a]) ⟨hx, hb, hml, hown, hts⟩ (c_X6_setAlarm l hflags dC dI cI cD cJ kk g x p1 p2 _ hr9 H) (cwV 2 hts gL_setAlarm_X6_setAlarm rfl rfl rfl (by decide +kernel) ⟨(Nat.le_of_ble_eq_true rfl), (Nat.le_of_ble_eq_true rfl)⟩) (wk_preVT (ci := 4) (q0 := 0) hG hP hD hT hS (fun _ h9 => h9) [0, 1, 2, 3, 4, 5, 6, 7, 8, 9, 10, 11, 12, 13, 14, 15, 16, 17, 18, 19, 20, 21, 22, 23, 24, 25, 26, 27, 28, 29, 30, 31, 32, 33, 34, 35, 36, 37] rfl rfl rfl rfl (va_free hD hS hA [0, 1, 2, 3, 4, 5, 6, 7, 8, 9, 10, 11, 12, 13, 14, 15, 16, 17, 18, 19, 20, 21, 22, 23, 24, 25, 26, 27, 28, 29, 30, 31, 32, 33, 34, 35, 36, 37] rfl)) rfl rfl hl.1 rfl (lv_room (Nat.le_of_ble_eq_true rfl)) dL_setAlarm_5 ⟨(Nat.le_of_ble_eq_true rfl), (Nat.le_of_ble_eq_true rfl)⟩) hP hD hS hA [0, 1, 2, 3, 4, 5, 6, 7, 8, 9, 10, 11, 12, 13, 14, 15, 16, 17, 18, 19, 20, 21, 22, 23, 24, 25, 26, 27, 28, 29, 30, 31, 32, 33, 34, 35, 36, 37] [38] [1, 2, 3, 4, 5, 6, 7, 8, 9, 10, 11, 12, 13, 14, 15, 16, 17, 18, 19, 20, 21, 22, 23, 24, 25, 26, 27, 28, 29, 30, 31, 32, 33, 34, 35, 36, 37, 38, 0] rfl rfl rfl (by decide) rfl rfl (fun f9 ce q9 H locs ho9 hP hD hS hc9 hv9 hf9 => ?_) (fun ov w1 ho9 => by cases ho9)
    cases ho9
    by_cases e0 : f0 = 1
    · replace hM := (if_pos e0).symm.trans hM
      replace hM := Option.some.inj hM
      subst hM
      have hf9 : s.vm.findClass xIO = some ce.cls := by rw [e0] at hf9; exact hf9
      refine vx_catch (name := xIO) (E := xIO) (ce := ce) hown [] (ExceptionTableEntry.mk 0 10 13 25) [(ExceptionTableEntry.mk 0 10 17 13)] htab (fun z hz => by cases hz) rfl (by decide) (hts (.classLink RL 25 xIO) (by decide +kernel)) (va_Nw.use rfl (hG.2 _ (List.mem_of_getElem? (i := 13) rfl))) hc9 hv9 hf9 ?_
      refine lv_astore (lv' := [(4, .ref q9), (0, .ref (g 0)), (1, .int p1), (2, .int p2), (3, .ref a)]) hx hb dL_setAlarm_13 hl (by decide) rfl (fun ls hl => ?_)
      refine lv_iconst (v := 1) hx hb dL_setAlarm_15 (by decide) ?_
      exact wk_retXi hx hb hr hlocks hQ rfl rfl hP hD hS (Nat.le_of_ble_eq_true rfl) (Nat.le_of_ble_eq_true rfl) dL_setAlarm_16
    replace hM := (if_neg e0).symm.trans hM
    by_cases e1 : f0 = 2
    · replace hM := (if_pos e1).symm.trans hM
      replace hM := Option.some.inj hM
      subst hM
      have hf9 : s.vm.findClass xIA = some ce.cls := by rw [e1] at hf9; exact hf9
      refine vx_catch (name := xIA) (E := xIA) (ce := ce) hown [(ExceptionTableEntry.mk 0 10 13 25)] (ExceptionTableEntry.mk 0 10 17 13) [] htab (fun z hz => by cases List.mem_singleton.mp hz; exact Or.inr ⟨by decide, xIO, hts (.classLink RL 25 xIO) (by decide +kernel), hN.1⟩) rfl (by decide) (hts (.classLink RL 13 xIA) (by decide +kernel)) (va_Nw.use rfl (hG.2 _ (List.mem_of_getElem? (i := 14) rfl))) hc9 hv9 hf9 ?_
      refine lv_astore (lv' := [(4, .ref q9), (0, .ref (g 0)), (1, .int p1), (2, .int p2), (3, .ref a)]) hx hb dL_setAlarm_17 hl (by decide) rfl (fun ls hl => ?_)
      refine lv_iconst (v := 2) hx hb dL_setAlarm_19 (by decide) ?_
      exact wk_retXi hx hb hr hlocks hQ rfl rfl hP hD hS (Nat.le_of_ble_eq_true rfl) (Nat.le_of_ble_eq_true rfl) dL_setAlarm_20
    replace hM := (if_neg e1).symm.trans hM
    cases hM
  · refine wk_callX (vx_runV (As := [.int p1, .int p2]) (rest := [.int 0, .ref a]) ⟨hx, hb, hml, hown, hts⟩ (c_X6_setAlarm l hflags dC dI cI cD cJ kk g x p1 p2 _ hr9 H) (cwV 2 hts gL_setAlarm_X6_setAlarm rfl rfl rfl (by decide +kernel) ⟨(Nat.le_of_ble_eq_true rfl), (Nat.le_of_ble_eq_true rfl)⟩) (wk_preVT (ci := 4) (q0 := 0) hG hP hD hT hS (fun _ h9 => h9) [0, 1, 2, 3, 4, 5, 6, 7, 8, 9, 10, 11, 12, 13, 14, 15, 16, 17, 18, 19, 20, 21, 22, 23, 24, 25, 26, 27, 28, 29, 30, 31, 32, 33, 34, 35, 36, 37] rfl rfl rfl rfl (va_free hD hS hA [0, 1, 2, 3, 4, 5, 6, 7, 8, 9, 10, 11, 12, 13, 14, 15, 16, 17, 18, 19, 20, 21, 22, 23, 24, 25, 26, 27, 28, 29, 30, 31, 32, 33, 34, 35, 36, 37] rfl)) rfl rfl hl.1 rfl (lv_room (Nat.le_of_ble_eq_true rfl)) dL_setAlarm_5 ⟨(Nat.le_of_ble_eq_true rfl), (Nat.le_of_ble_eq_true rfl)⟩) hP hD hS hA [0, 1, 2, 3, 4, 5, 6, 7, 8, 9, 10, 11, 12, 13, 14, 15, 16, 17, 18, 19, 20, 21, 22, 23, 24, 25, 26, 27, 28, 29, 30, 31, 32, 33, 34, 35, 36, 37] [38] [1, 2, 3, 4, 5, 6, 7, 8, 9, 10, 11, 12, 13, 14, 15, 16, 17, 18, 19, 20, 21, 22, 23, 24, 25, 26, 27, 28, 29, 30, 31, 32, 33, 34, 35, 36, 37, 38, 0] rfl rfl rfl (by decide) rfl rfl (fun f9 ce q9 H locs ho9 hP hD hS hc9 hv9 hf9 => by cases ho9) (fun ov w1 ho9 H locs hPD hS => ?_)
    cases ho9
    obtain ⟨hP, hD⟩ := hPD (wSys cI cD kk.1 g r0.2 ++ wLrow cJ a o) rfl
    replace hM := Option.some.inj hM
    subst hM
    refine lv_i2l hx hb dL_setAlarm_8 rfl ?_
    refine va_last hx hb hG.1 hP hD hS 38 2 rfl rfl (vpb_in.mp (by decide)) dL_setAlarm_9 (fun H locs hP hD hS => ?_)
    have hP : va_P (dC, dI) vwCl (wSys cI cD kk.1 g r0.2 ++ wLrow cJ a (vp_updL o 0 (r0.1).toInt64)) H := hP
    have hD : va_D A (wSys cI cD kk.1 g r0.2 ++ wLrow cJ a (vp_updL o 0 (r0.1).toInt64)) := hD
    refine lv_goto (tgt := 21) hx hb dL_setAlarm_10 (by decide) ?_
    refine lv_iconst (v := 0) hx hb dL_setAlarm_21 (by decide) ?_
    exact wk_retXi hx hb hr hlocks hQ rfl rfl hP hD hS (Nat.le_of_ble_eq_true rfl) (Nat.le_of_ble_eq_true rfl) dL_setAlarm_22
set_option maxHeartbeats 4000000 in
set_option maxRecDepth 100000 in
theorem c_L_work (l : Launch) (hflags : l.stackTraces = false) (dC : Nat → ClassId) (dI : Nat → Nat → Nat) (cI cD cJ : ClassId) (kk : wAd) (g : Nat → Nat) (a : Nat) (x : SS) (o : Nat → Int64) (p1 : Int32) (p2 : Int32) (out : Int32 × (SS × (Nat → Int64))) (hM : M_L_work x o p1 p2 = some out) : CL kk l yL_work wsL_work ({ frames := 8, cells := 1, slots := 6, locals := 125 } : Room) dC dI (wTys cI cD cJ) [.ref (g 0), .int p1, .int p2, .ref a] (wSys cI cD kk.1 g x ++ wLrow cJ a o) (.inr (some (.int out.1), wSys cI cD kk.1 g out.2.1 ++ wLrow cJ a out.2.2)) 1 6 := by
  refine wk_enterL (cc := cL_work) (maxL := 5) (ret := some .int) (hh := [(0, 10, 13, 25), (0, 10, 17, 13), (0, 10, 21, 15)]) (by decide) rfl (Nat.le_of_ble_eq_true rfl) ?_
  intro p e s m below meth c A Q ls hB htab hN hT hA hP hD hQ hl
  obtain ⟨hx, hb, hml, hr, hts, hown, hname, hlocks, hG⟩ := hB
  have hown : s.vm.findClass RL = some m.cls := hown
  have hS : va_S A s.heap s.heap [] := va_S.rf
  have hl : lv_has ls 5 [(0, .ref (g 0)), (1, .int p1), (2, .int p2), (3, .ref a)] := hl
  obtain ⟨H, hH⟩ : ∃ z, z = s.heap := ⟨_, rfl⟩
  have hP : va_P (dC, dI) vwCl (wSys cI cD kk.1 g x ++ wLrow cJ a o) H := by rw [hH]; exact hP
  have hS : va_S A s.heap H [] := by rw [hH]; exact hS
  refine wk_at hH ?_
  generalize ([] : List Loc) = locs at hS ⊢
  unfold M_L_work at hM
  obtain ⟨r, hr9, hM⟩ := ob hM
  refine lv_aload_n hx hb dL_work_0 rfl (lv_at hl 3 rfl) ?_
  refine lv_iconst (v := 0) hx hb dL_work_1 (by decide) ?_
  refine lv_aload_n hx hb dL_work_2 rfl (lv_at hl 0 rfl) ?_
  refine lv_iload_n hx hb dL_work_3 rfl (lv_at hl 1 rfl) ?_
  refine lv_iload_n hx hb dL_work_4 rfl (lv_at hl 2 rfl) ?_
  rcases r with f0 | r0
  · refine wk_callX (vx_runV (As := [.int p1, .int p2]) (rest := [.int 0, .ref a]) ⟨hx, hb, hml, hown, hts⟩ (c_X6_work l hflags dC dI cI cD cJ kk g x p1 p2 _ hr9 H) (cwV 2 hts gL_work_X6_work rfl rfl rfl (by decide +kernel) ⟨(Nat.le_of_ble_eq_true rfl), (Nat.le_of_ble_eq_true rfl)⟩) (wk_preVT (ci := 4) (q0 := 0) hG hP hD hT hS (fun _ h9 => h9) [0, 1, 2, 3, 4, 5, 6, 7, 8, 9, 10, 11, 12, 13, 14, 15, 16, 17, 18, 19, 20, 21, 22, 23, 24, 25, 26, 27, 28, 29, 30, 31, 32, 33, 34, 35, 36, 37] rfl rfl rfl rfl (va_free hD hS hA [0, 1, 2, 3, 4, 5, 6, 7, 8, 9, 10, 11, 12, 13, 14, 15, 16, 17, 18, 19, 20, 21, 22, 23, 24, 25, 26, 27, 28, 29, 30, 31, 32, 33, 34, 35, 36, 37] rfl)) rfl rfl hl.1 rfl (lv_room (Nat.le_of_ble_eq_true rfl)) dL_work_5 ⟨(Nat.le_of_ble_eq_true rfl), (Nat.le_of_ble_eq_true rfl)⟩) hP hD hS hA [0, 1, 2, 3, 4, 5, 6, 7, 8, 9, 10, 11, 12, 13, 14, 15, 16, 17, 18, 19, 20, 21, 22, 23, 24, 25, 26, 27, 28, 29, 30, 31, 32, 33, 34, 35, 36, 37] [38] [1, 2, 3, 4, 5, 6, 7, 8, 9, 10, 11, 12, 13, 14, 15, 16, 17, 18, 19, 20, 21, 22, 23, 24, 25, 26, 27, 28, 29, 30, 31, 32, 33, 34, 35, 36, 37, 38, 0] rfl rfl rfl (by decide) rfl rfl (fun f9 ce q9 H locs ho9 hP hD hS hc9 hv9 hf9 => ?_) (fun ov w1 ho9 => by cases ho9)
    cases ho9
    by_cases e0 : f0 = 1
    · replace hM := (if_pos e0).symm.trans hM
      replace hM := Option.some.inj hM
      subst hM
      have hf9 : s.vm.findClass xIO = some ce.cls := by rw [e0] at hf9; exact hf9
      refine vx_catch (name := xIO) (E := xIO) (ce := ce) hown [] (ExceptionTableEntry.mk 0 10 13 25) [(ExceptionTableEntry.mk 0 10 17 13), (ExceptionTableEntry.mk 0 10 21 15)] htab (fun z hz => by cases hz) rfl (by decide) (hts (.classLink RL 25 xIO) (by decide +kernel)) (va_Nw.use rfl (hG.2 _ (List.mem_of_getElem? (i := 13) rfl))) hc9 hv9 hf9 ?_
      refine lv_astore (lv' := [(4, .ref q9), (0, .ref (g 0)), (1, .int p1), (2, .int p2), (3, .ref a)]) hx hb dL_work_13 hl (by decide) rfl (fun ls hl => ?_)
      refine lv_iconst (v := 1) hx hb dL_work_15 (by decide) ?_
      exact wk_retXi hx hb hr hlocks hQ rfl rfl hP hD hS (Nat.le_of_ble_eq_true rfl) (Nat.le_of_ble_eq_true rfl) dL_work_16
    replace hM := (if_neg e0).symm.trans hM
    by_cases e1 : f0 = 2
    · replace hM := (if_pos e1).symm.trans hM
      replace hM := Option.some.inj hM
      subst hM
      have hf9 : s.vm.findClass xIA = some ce.cls := by rw [e1] at hf9; exact hf9
      refine vx_catch (name := xIA) (E := xIA) (ce := ce) hown [(ExceptionTableEntry.mk 0 10 13 25)] (ExceptionTableEntry.mk 0 10 17 13) [(ExceptionTableEntry.mk 0 10 21 15)] htab (fun z hz => by cases List.mem_singleton.mp hz; exact Or.inr ⟨by decide, xIO, hts (.classLink RL 25 xIO) (by decide +kernel), hN.1⟩) rfl (by decide) (hts (.classLink RL 13 xIA) (by decide +kernel)) (va_Nw.use rfl (hG.2 _ (List.mem_of_getElem? (i := 14) rfl))) hc9 hv9 hf9 ?_
      refine lv_astore (lv' := [(4, .ref q9), (0, .ref (g 0)), (1, .int p1), (2, .int p2), (3, .ref a)]) hx hb dL_work_17 hl (by decide) rfl (fun ls hl => ?_)
      refine lv_iconst (v := 2) hx hb dL_work_19 (by decide) ?_
      exact wk_retXi hx hb hr hlocks hQ rfl rfl hP hD hS (Nat.le_of_ble_eq_true rfl) (Nat.le_of_ble_eq_true rfl) dL_work_20
    replace hM := (if_neg e1).symm.trans hM
    by_cases e2 : f0 = 3
    · replace hM := (if_pos e2).symm.trans hM
      replace hM := Option.some.inj hM
      subst hM
      have hf9 : s.vm.findClass xIS = some ce.cls := by rw [e2] at hf9; exact hf9
      refine vx_catch (name := xIS) (E := xIS) (ce := ce) hown [(ExceptionTableEntry.mk 0 10 13 25), (ExceptionTableEntry.mk 0 10 17 13)] (ExceptionTableEntry.mk 0 10 21 15) [] htab (fun z hz => by
              rcases List.mem_cons.mp hz with hz | hz
              · subst hz; exact Or.inr ⟨by decide, xIO, hts (.classLink RL 25 xIO) (by decide +kernel), hN.2.1⟩
              · cases List.mem_singleton.mp hz; exact Or.inr ⟨by decide, xIA, hts (.classLink RL 13 xIA) (by decide +kernel), hN.2.2⟩) rfl (by decide) (hts (.classLink RL 15 xIS) (by decide +kernel)) (va_Nw.use rfl (hG.2 _ (List.mem_of_getElem? (i := 15) rfl))) hc9 hv9 hf9 ?_
      refine lv_astore (lv' := [(4, .ref q9), (0, .ref (g 0)), (1, .int p1), (2, .int p2), (3, .ref a)]) hx hb dL_work_21 hl (by decide) rfl (fun ls hl => ?_)
      refine lv_iconst (v := 3) hx hb dL_work_23 (by decide) ?_
      exact wk_retXi hx hb hr hlocks hQ rfl rfl hP hD hS (Nat.le_of_ble_eq_true rfl) (Nat.le_of_ble_eq_true rfl) dL_work_24
    replace hM := (if_neg e2).symm.trans hM
    cases hM
  · refine wk_callX (vx_runV (As := [.int p1, .int p2]) (rest := [.int 0, .ref a]) ⟨hx, hb, hml, hown, hts⟩ (c_X6_work l hflags dC dI cI cD cJ kk g x p1 p2 _ hr9 H) (cwV 2 hts gL_work_X6_work rfl rfl rfl (by decide +kernel) ⟨(Nat.le_of_ble_eq_true rfl), (Nat.le_of_ble_eq_true rfl)⟩) (wk_preVT (ci := 4) (q0 := 0) hG hP hD hT hS (fun _ h9 => h9) [0, 1, 2, 3, 4, 5, 6, 7, 8, 9, 10, 11, 12, 13, 14, 15, 16, 17, 18, 19, 20, 21, 22, 23, 24, 25, 26, 27, 28, 29, 30, 31, 32, 33, 34, 35, 36, 37] rfl rfl rfl rfl (va_free hD hS hA [0, 1, 2, 3, 4, 5, 6, 7, 8, 9, 10, 11, 12, 13, 14, 15, 16, 17, 18, 19, 20, 21, 22, 23, 24, 25, 26, 27, 28, 29, 30, 31, 32, 33, 34, 35, 36, 37] rfl)) rfl rfl hl.1 rfl (lv_room (Nat.le_of_ble_eq_true rfl)) dL_work_5 ⟨(Nat.le_of_ble_eq_true rfl), (Nat.le_of_ble_eq_true rfl)⟩) hP hD hS hA [0, 1, 2, 3, 4, 5, 6, 7, 8, 9, 10, 11, 12, 13, 14, 15, 16, 17, 18, 19, 20, 21, 22, 23, 24, 25, 26, 27, 28, 29, 30, 31, 32, 33, 34, 35, 36, 37] [38] [1, 2, 3, 4, 5, 6, 7, 8, 9, 10, 11, 12, 13, 14, 15, 16, 17, 18, 19, 20, 21, 22, 23, 24, 25, 26, 27, 28, 29, 30, 31, 32, 33, 34, 35, 36, 37, 38, 0] rfl rfl rfl (by decide) rfl rfl (fun f9 ce q9 H locs ho9 hP hD hS hc9 hv9 hf9 => by cases ho9) (fun ov w1 ho9 H locs hPD hS => ?_)
    cases ho9
    obtain ⟨hP, hD⟩ := hPD (wSys cI cD kk.1 g r0.2 ++ wLrow cJ a o) rfl
    replace hM := Option.some.inj hM
    subst hM
    refine lv_i2l hx hb dL_work_8 rfl ?_
    refine va_last hx hb hG.1 hP hD hS 38 2 rfl rfl (vpb_in.mp (by decide)) dL_work_9 (fun H locs hP hD hS => ?_)
    have hP : va_P (dC, dI) vwCl (wSys cI cD kk.1 g r0.2 ++ wLrow cJ a (vp_updL o 0 (r0.1).toInt64)) H := hP
    have hD : va_D A (wSys cI cD kk.1 g r0.2 ++ wLrow cJ a (vp_updL o 0 (r0.1).toInt64)) := hD
    refine lv_goto (tgt := 25) hx hb dL_work_10 (by decide) ?_
    refine lv_iconst (v := 0) hx hb dL_work_25 (by decide) ?_
    exact wk_retXi hx hb hr hlocks hQ rfl rfl hP hD hS (Nat.le_of_ble_eq_true rfl) (Nat.le_of_ble_eq_true rfl) dL_work_26
set_option maxHeartbeats 4000000 in
set_option maxRecDepth 100000 in
theorem c_L_pass (l : Launch) (hflags : l.stackTraces = false) (dC : Nat → ClassId) (dI : Nat → Nat → Nat) (cI cD cJ : ClassId) (kk : wAd) (g : Nat → Nat) (a : Nat) (x : SS) (o : Nat → Int64) (p1 : Int32) (out : Int32 × (SS × (Nat → Int64))) (hM : M_L_pass x o p1 = some out) : CL kk l yL_pass wsL_pass ({ frames := 8, cells := 1, slots := 6, locals := 139 } : Room) dC dI (wTys cI cD cJ) [.ref (g 0), .int p1, .ref a] (wSys cI cD kk.1 g x ++ wLrow cJ a o) (.inr (some (.int out.1), wSys cI cD kk.1 g out.2.1 ++ wLrow cJ a out.2.2)) 1 6 := by
  refine wk_enterL (cc := cL_pass) (maxL := 4) (ret := some .int) (hh := [(0, 9, 12, 13), (0, 9, 15, 15)]) (by decide) rfl (Nat.le_of_ble_eq_true rfl) ?_
  intro p e s m below meth c A Q ls hB htab hN hT hA hP hD hQ hl
  obtain ⟨hx, hb, hml, hr, hts, hown, hname, hlocks, hG⟩ := hB
  have hown : s.vm.findClass RL = some m.cls := hown
  have hS : va_S A s.heap s.heap [] := va_S.rf
  have hl : lv_has ls 4 [(0, .ref (g 0)), (1, .int p1), (2, .ref a)] := hl
  obtain ⟨H, hH⟩ : ∃ z, z = s.heap := ⟨_, rfl⟩
  have hP : va_P (dC, dI) vwCl (wSys cI cD kk.1 g x ++ wLrow cJ a o) H := by rw [hH]; exact hP
  have hS : va_S A s.heap H [] := by rw [hH]; exact hS
  refine wk_at hH ?_
  generalize ([] : List Loc) = locs at hS ⊢
  unfold M_L_pass at hM
  obtain ⟨r, hr9, hM⟩ := ob hM
  refine lv_aload_n hx hb dL_pass_0 rfl (lv_at hl 2 rfl) ?_
  refine lv_iconst (v := 0) hx hb dL_pass_1 (by decide) ?_
  refine lv_aload_n hx hb dL_pass_2 rfl (lv_at hl 0 rfl) ?_
  refine lv_iload_n hx hb dL_pass_3 rfl (lv_at hl 1 rfl) ?_
  rcases r with f0 | r0
  · refine wk_callX (vx_runV (As := [.int p1]) (rest := [.int 0, .ref a]) ⟨hx, hb, hml, hown, hts⟩ (c_X6_pass l hflags dC dI cI cD cJ kk g x p1 _ hr9 H) (cwV 1 hts gL_pass_X6_pass rfl rfl rfl (by decide +kernel) ⟨(Nat.le_of_ble_eq_true rfl), (Nat.le_of_ble_eq_true rfl)⟩) (wk_preVT (ci := 4) (q0 := 0) hG hP hD hT hS (fun _ h9 => h9) [0, 1, 2, 3, 4, 5, 6, 7, 8, 9, 10, 11, 12, 13, 14, 15, 16, 17, 18, 19, 20, 21, 22, 23, 24, 25, 26, 27, 28, 29, 30, 31, 32, 33, 34, 35, 36, 37] rfl rfl rfl rfl (va_free hD hS hA [0, 1, 2, 3, 4, 5, 6, 7, 8, 9, 10, 11, 12, 13, 14, 15, 16, 17, 18, 19, 20, 21, 22, 23, 24, 25, 26, 27, 28, 29, 30, 31, 32, 33, 34, 35, 36, 37] rfl)) rfl rfl hl.1 rfl (lv_room (Nat.le_of_ble_eq_true rfl)) dL_pass_4 ⟨(Nat.le_of_ble_eq_true rfl), (Nat.le_of_ble_eq_true rfl)⟩) hP hD hS hA [0, 1, 2, 3, 4, 5, 6, 7, 8, 9, 10, 11, 12, 13, 14, 15, 16, 17, 18, 19, 20, 21, 22, 23, 24, 25, 26, 27, 28, 29, 30, 31, 32, 33, 34, 35, 36, 37] [38] [1, 2, 3, 4, 5, 6, 7, 8, 9, 10, 11, 12, 13, 14, 15, 16, 17, 18, 19, 20, 21, 22, 23, 24, 25, 26, 27, 28, 29, 30, 31, 32, 33, 34, 35, 36, 37, 38, 0] rfl rfl rfl (by decide) rfl rfl (fun f9 ce q9 H locs ho9 hP hD hS hc9 hv9 hf9 => ?_) (fun ov w1 ho9 => by cases ho9)
    cases ho9
    by_cases e0 : f0 = 2
    · replace hM := (if_pos e0).symm.trans hM
      replace hM := Option.some.inj hM
      subst hM
      have hf9 : s.vm.findClass xIA = some ce.cls := by rw [e0] at hf9; exact hf9
      refine vx_catch (name := xIA) (E := xIA) (ce := ce) hown [] (ExceptionTableEntry.mk 0 9 12 13) [(ExceptionTableEntry.mk 0 9 15 15)] htab (fun z hz => by cases hz) rfl (by decide) (hts (.classLink RL 13 xIA) (by decide +kernel)) (va_Nw.use rfl (hG.2 _ (List.mem_of_getElem? (i := 14) rfl))) hc9 hv9 hf9 ?_
      refine lv_astore_n (lv' := [(3, .ref q9), (0, .ref (g 0)), (1, .int p1), (2, .ref a)]) hx hb dL_pass_12 rfl hl (by decide) rfl (fun ls hl => ?_)
      refine lv_iconst (v := 1) hx hb dL_pass_13 (by decide) ?_
      exact wk_retXi hx hb hr hlocks hQ rfl rfl hP hD hS (Nat.le_of_ble_eq_true rfl) (Nat.le_of_ble_eq_true rfl) dL_pass_14
    replace hM := (if_neg e0).symm.trans hM
    by_cases e1 : f0 = 3
    · replace hM := (if_pos e1).symm.trans hM
      replace hM := Option.some.inj hM
      subst hM
      have hf9 : s.vm.findClass xIS = some ce.cls := by rw [e1] at hf9; exact hf9
      refine vx_catch (name := xIS) (E := xIS) (ce := ce) hown [(ExceptionTableEntry.mk 0 9 12 13)] (ExceptionTableEntry.mk 0 9 15 15) [] htab (fun z hz => by cases List.mem_singleton.mp hz; exact Or.inr ⟨by decide, xIA, hts (.classLink RL 13 xIA) (by decide +kernel), hN.2.2⟩) rfl (by decide) (hts (.classLink RL 15 xIS) (by decide +kernel)) (va_Nw.use rfl (hG.2 _ (List.mem_of_getElem? (i := 15) rfl))) hc9 hv9 hf9 ?_
      refine lv_astore_n (lv' := [(3, .ref q9), (0, .ref (g 0)), (1, .int p1), (2, .ref a)]) hx hb dL_pass_15 rfl hl (by decide) rfl (fun ls hl => ?_)
      refine lv_iconst (v := 2) hx hb dL_pass_16 (by decide) ?_
      exact wk_retXi hx hb hr hlocks hQ rfl rfl hP hD hS (Nat.le_of_ble_eq_true rfl) (Nat.le_of_ble_eq_true rfl) dL_pass_17
    replace hM := (if_neg e1).symm.trans hM
    cases hM
  · refine wk_callX (vx_runV (As := [.int p1]) (rest := [.int 0, .ref a]) ⟨hx, hb, hml, hown, hts⟩ (c_X6_pass l hflags dC dI cI cD cJ kk g x p1 _ hr9 H) (cwV 1 hts gL_pass_X6_pass rfl rfl rfl (by decide +kernel) ⟨(Nat.le_of_ble_eq_true rfl), (Nat.le_of_ble_eq_true rfl)⟩) (wk_preVT (ci := 4) (q0 := 0) hG hP hD hT hS (fun _ h9 => h9) [0, 1, 2, 3, 4, 5, 6, 7, 8, 9, 10, 11, 12, 13, 14, 15, 16, 17, 18, 19, 20, 21, 22, 23, 24, 25, 26, 27, 28, 29, 30, 31, 32, 33, 34, 35, 36, 37] rfl rfl rfl rfl (va_free hD hS hA [0, 1, 2, 3, 4, 5, 6, 7, 8, 9, 10, 11, 12, 13, 14, 15, 16, 17, 18, 19, 20, 21, 22, 23, 24, 25, 26, 27, 28, 29, 30, 31, 32, 33, 34, 35, 36, 37] rfl)) rfl rfl hl.1 rfl (lv_room (Nat.le_of_ble_eq_true rfl)) dL_pass_4 ⟨(Nat.le_of_ble_eq_true rfl), (Nat.le_of_ble_eq_true rfl)⟩) hP hD hS hA [0, 1, 2, 3, 4, 5, 6, 7, 8, 9, 10, 11, 12, 13, 14, 15, 16, 17, 18, 19, 20, 21, 22, 23, 24, 25, 26, 27, 28, 29, 30, 31, 32, 33, 34, 35, 36, 37] [38] [1, 2, 3, 4, 5, 6, 7, 8, 9, 10, 11, 12, 13, 14, 15, 16, 17, 18, 19, 20, 21, 22, 23, 24, 25, 26, 27, 28, 29, 30, 31, 32, 33, 34, 35, 36, 37, 38, 0] rfl rfl rfl (by decide) rfl rfl (fun f9 ce q9 H locs ho9 hP hD hS hc9 hv9 hf9 => by cases ho9) (fun ov w1 ho9 H locs hPD hS => ?_)
    cases ho9
    obtain ⟨hP, hD⟩ := hPD (wSys cI cD kk.1 g r0.2 ++ wLrow cJ a o) rfl
    replace hM := Option.some.inj hM
    subst hM
    refine lv_i2l hx hb dL_pass_7 rfl ?_
    refine va_last hx hb hG.1 hP hD hS 38 2 rfl rfl (vpb_in.mp (by decide)) dL_pass_8 (fun H locs hP hD hS => ?_)
    have hP : va_P (dC, dI) vwCl (wSys cI cD kk.1 g r0.2 ++ wLrow cJ a (vp_updL o 0 (r0.1).toInt64)) H := hP
    have hD : va_D A (wSys cI cD kk.1 g r0.2 ++ wLrow cJ a (vp_updL o 0 (r0.1).toInt64)) := hD
    refine lv_goto (tgt := 18) hx hb dL_pass_9 (by decide) ?_
    refine lv_iconst (v := 0) hx hb dL_pass_18 (by decide) ?_
    exact wk_retXi hx hb hr hlocks hQ rfl rfl hP hD hS (Nat.le_of_ble_eq_true rfl) (Nat.le_of_ble_eq_true rfl) dL_pass_19
set_option maxHeartbeats 4000000 in
set_option maxRecDepth 100000 in
theorem c_L_lose (l : Launch) (hflags : l.stackTraces = false) (dC : Nat → ClassId) (dI : Nat → Nat → Nat) (cI cD cJ : ClassId) (kk : wAd) (g : Nat → Nat) (a : Nat) (x : SS) (o : Nat → Int64) (p1 : Int32) (out : Int32 × (SS × (Nat → Int64))) (hM : M_L_lose x o p1 = some out) : CL kk l yL_lose wsL_lose ({ frames := 8, cells := 1, slots := 6, locals := 124 } : Room) dC dI (wTys cI cD cJ) [.ref (g 0), .int p1, .ref a] (wSys cI cD kk.1 g x ++ wLrow cJ a o) (.inr (some (.int out.1), wSys cI cD kk.1 g out.2.1 ++ wLrow cJ a out.2.2)) 1 6 := by
  refine wk_enterL (cc := cL_lose) (maxL := 4) (ret := some .int) (hh := [(0, 9, 12, 25)]) (by decide) rfl (Nat.le_of_ble_eq_true rfl) ?_
  intro p e s m below meth c A Q ls hB htab hN hT hA hP hD hQ hl
  obtain ⟨hx, hb, hml, hr, hts, hown, hname, hlocks, hG⟩ := hB
  have hown : s.vm.findClass RL = some m.cls := hown
  have hS : va_S A s.heap s.heap [] := va_S.rf
  have hl : lv_has ls 4 [(0, .ref (g 0)), (1, .int p1), (2, .ref a)] := hl
  obtain ⟨H, hH⟩ : ∃ z, z = s.heap := ⟨_, rfl⟩
  have hP : va_P (dC, dI) vwCl (wSys cI cD kk.1 g x ++ wLrow cJ a o) H := by rw [hH]; exact hP
  have hS : va_S A s.heap H [] := by rw [hH]; exact hS
  refine wk_at hH ?_
  generalize ([] : List Loc) = locs at hS ⊢
  unfold M_L_lose at hM
  obtain ⟨r, hr9, hM⟩ := ob hM
  refine lv_aload_n hx hb dL_lose_0 rfl (lv_at hl 2 rfl) ?_
  refine lv_iconst (v := 0) hx hb dL_lose_1 (by decide) ?_
  refine lv_aload_n hx hb dL_lose_2 rfl (lv_at hl 0 rfl) ?_
  refine lv_iload_n hx hb dL_lose_3 rfl (lv_at hl 1 rfl) ?_
  rcases r with f0 | r0
  · refine wk_callX (vx_runV (As := [.int p1]) (rest := [.int 0, .ref a]) ⟨hx, hb, hml, hown, hts⟩ (c_X6_lose l hflags dC dI cI cD cJ kk g x p1 _ hr9 H) (cwV 1 hts gL_lose_X6_lose rfl rfl rfl (by decide +kernel) ⟨(Nat.le_of_ble_eq_true rfl), (Nat.le_of_ble_eq_true rfl)⟩) (wk_preVT (ci := 4) (q0 := 0) hG hP hD hT hS (fun _ h9 => h9) [0, 1, 2, 3, 4, 5, 6, 7, 8, 9, 10, 11, 12, 13, 14, 15, 16, 17, 18, 19, 20, 21, 22, 23, 24, 25, 26, 27, 28, 29, 30, 31, 32, 33, 34, 35, 36, 37] rfl rfl rfl rfl (va_free hD hS hA [0, 1, 2, 3, 4, 5, 6, 7, 8, 9, 10, 11, 12, 13, 14, 15, 16, 17, 18, 19, 20, 21, 22, 23, 24, 25, 26, 27, 28, 29, 30, 31, 32, 33, 34, 35, 36, 37] rfl)) rfl rfl hl.1 rfl (lv_room (Nat.le_of_ble_eq_true rfl)) dL_lose_4 ⟨(Nat.le_of_ble_eq_true rfl), (Nat.le_of_ble_eq_true rfl)⟩) hP hD hS hA [0, 1, 2, 3, 4, 5, 6, 7, 8, 9, 10, 11, 12, 13, 14, 15, 16, 17, 18, 19, 20, 21, 22, 23, 24, 25, 26, 27, 28, 29, 30, 31, 32, 33, 34, 35, 36, 37] [38] [1, 2, 3, 4, 5, 6, 7, 8, 9, 10, 11, 12, 13, 14, 15, 16, 17, 18, 19, 20, 21, 22, 23, 24, 25, 26, 27, 28, 29, 30, 31, 32, 33, 34, 35, 36, 37, 38, 0] rfl rfl rfl (by decide) rfl rfl (fun f9 ce q9 H locs ho9 hP hD hS hc9 hv9 hf9 => ?_) (fun ov w1 ho9 => by cases ho9)
    cases ho9
    by_cases e0 : f0 = 1
    · replace hM := (if_pos e0).symm.trans hM
      replace hM := Option.some.inj hM
      subst hM
      have hf9 : s.vm.findClass xIO = some ce.cls := by rw [e0] at hf9; exact hf9
      refine vx_catch (name := xIO) (E := xIO) (ce := ce) hown [] (ExceptionTableEntry.mk 0 9 12 25) [] htab (fun z hz => by cases hz) rfl (by decide) (hts (.classLink RL 25 xIO) (by decide +kernel)) (va_Nw.use rfl (hG.2 _ (List.mem_of_getElem? (i := 13) rfl))) hc9 hv9 hf9 ?_
      refine lv_astore_n (lv' := [(3, .ref q9), (0, .ref (g 0)), (1, .int p1), (2, .ref a)]) hx hb dL_lose_12 rfl hl (by decide) rfl (fun ls hl => ?_)
      refine lv_iconst (v := 1) hx hb dL_lose_13 (by decide) ?_
      exact wk_retXi hx hb hr hlocks hQ rfl rfl hP hD hS (Nat.le_of_ble_eq_true rfl) (Nat.le_of_ble_eq_true rfl) dL_lose_14
    replace hM := (if_neg e0).symm.trans hM
    cases hM
  · refine wk_callX (vx_runV (As := [.int p1]) (rest := [.int 0, .ref a]) ⟨hx, hb, hml, hown, hts⟩ (c_X6_lose l hflags dC dI cI cD cJ kk g x p1 _ hr9 H) (cwV 1 hts gL_lose_X6_lose rfl rfl rfl (by decide +kernel) ⟨(Nat.le_of_ble_eq_true rfl), (Nat.le_of_ble_eq_true rfl)⟩) (wk_preVT (ci := 4) (q0 := 0) hG hP hD hT hS (fun _ h9 => h9) [0, 1, 2, 3, 4, 5, 6, 7, 8, 9, 10, 11, 12, 13, 14, 15, 16, 17, 18, 19, 20, 21, 22, 23, 24, 25, 26, 27, 28, 29, 30, 31, 32, 33, 34, 35, 36, 37] rfl rfl rfl rfl (va_free hD hS hA [0, 1, 2, 3, 4, 5, 6, 7, 8, 9, 10, 11, 12, 13, 14, 15, 16, 17, 18, 19, 20, 21, 22, 23, 24, 25, 26, 27, 28, 29, 30, 31, 32, 33, 34, 35, 36, 37] rfl)) rfl rfl hl.1 rfl (lv_room (Nat.le_of_ble_eq_true rfl)) dL_lose_4 ⟨(Nat.le_of_ble_eq_true rfl), (Nat.le_of_ble_eq_true rfl)⟩) hP hD hS hA [0, 1, 2, 3, 4, 5, 6, 7, 8, 9, 10, 11, 12, 13, 14, 15, 16, 17, 18, 19, 20, 21, 22, 23, 24, 25, 26, 27, 28, 29, 30, 31, 32, 33, 34, 35, 36, 37] [38] [1, 2, 3, 4, 5, 6, 7, 8, 9, 10, 11, 12, 13, 14, 15, 16, 17, 18, 19, 20, 21, 22, 23, 24, 25, 26, 27, 28, 29, 30, 31, 32, 33, 34, 35, 36, 37, 38, 0] rfl rfl rfl (by decide) rfl rfl (fun f9 ce q9 H locs ho9 hP hD hS hc9 hv9 hf9 => by cases ho9) (fun ov w1 ho9 H locs hPD hS => ?_)
    cases ho9
    obtain ⟨hP, hD⟩ := hPD (wSys cI cD kk.1 g r0.2 ++ wLrow cJ a o) rfl
    replace hM := Option.some.inj hM
    subst hM
    refine lv_i2l hx hb dL_lose_7 rfl ?_
    refine va_last hx hb hG.1 hP hD hS 38 2 rfl rfl (vpb_in.mp (by decide)) dL_lose_8 (fun H locs hP hD hS => ?_)
    have hP : va_P (dC, dI) vwCl (wSys cI cD kk.1 g r0.2 ++ wLrow cJ a (vp_updL o 0 (r0.1).toInt64)) H := hP
    have hD : va_D A (wSys cI cD kk.1 g r0.2 ++ wLrow cJ a (vp_updL o 0 (r0.1).toInt64)) := hD
    refine lv_goto (tgt := 15) hx hb dL_lose_9 (by decide) ?_
    refine lv_iconst (v := 0) hx hb dL_lose_15 (by decide) ?_
    exact wk_retXi hx hb hr hlocks hQ rfl rfl hP hD hS (Nat.le_of_ble_eq_true rfl) (Nat.le_of_ble_eq_true rfl) dL_lose_16
set_option maxHeartbeats 4000000 in
set_option maxRecDepth 100000 in
theorem c_L_block (l : Launch) (hflags : l.stackTraces = false) (dC : Nat → ClassId) (dI : Nat → Nat → Nat) (cI cD cJ : ClassId) (kk : wAd) (g : Nat → Nat) (a : Nat) (x : SS) (o : Nat → Int64) (p1 : Int32) (out : Int32 × (SS × (Nat → Int64))) (hM : M_L_block x o p1 = some out) : CL kk l yL_block wsL_block ({ frames := 8, cells := 1, slots := 6, locals := 123 } : Room) dC dI (wTys cI cD cJ) [.ref (g 0), .int p1, .ref a] (wSys cI cD kk.1 g x ++ wLrow cJ a o) (.inr (some (.int out.1), wSys cI cD kk.1 g out.2.1 ++ wLrow cJ a out.2.2)) 1 6 := by
  refine wk_enterL (cc := cL_block) (maxL := 4) (ret := some .int) (hh := [(0, 9, 12, 25)]) (by decide) rfl (Nat.le_of_ble_eq_true rfl) ?_
  intro p e s m below meth c A Q ls hB htab hN hT hA hP hD hQ hl
  obtain ⟨hx, hb, hml, hr, hts, hown, hname, hlocks, hG⟩ := hB
  have hown : s.vm.findClass RL = some m.cls := hown
  have hS : va_S A s.heap s.heap [] := va_S.rf
  have hl : lv_has ls 4 [(0, .ref (g 0)), (1, .int p1), (2, .ref a)] := hl
  obtain ⟨H, hH⟩ : ∃ z, z = s.heap := ⟨_, rfl⟩
  have hP : va_P (dC, dI) vwCl (wSys cI cD kk.1 g x ++ wLrow cJ a o) H := by rw [hH]; exact hP
  have hS : va_S A s.heap H [] := by rw [hH]; exact hS
  refine wk_at hH ?_
  generalize ([] : List Loc) = locs at hS ⊢
  unfold M_L_block at hM
  obtain ⟨r, hr9, hM⟩ := ob hM
  refine lv_aload_n hx hb dL_block_0 rfl (lv_at hl 2 rfl) ?_
  refine lv_iconst (v := 0) hx hb dL_block_1 (by decide) ?_
  refine lv_aload_n hx hb dL_block_2 rfl (lv_at hl 0 rfl) ?_
  refine lv_iload_n hx hb dL_block_3 rfl (lv_at hl 1 rfl) ?_
  rcases r with f0 | r0
  · refine wk_callX (vx_runV (As := [.int p1]) (rest := [.int 0, .ref a]) ⟨hx, hb, hml, hown, hts⟩ (c_X6_block l hflags dC dI cI cD cJ kk g x p1 _ hr9 H) (cwV 1 hts gL_block_X6_block rfl rfl rfl (by decide +kernel) ⟨(Nat.le_of_ble_eq_true rfl), (Nat.le_of_ble_eq_true rfl)⟩) (wk_preVT (ci := 4) (q0 := 0) hG hP hD hT hS (fun _ h9 => h9) [0, 1, 2, 3, 4, 5, 6, 7, 8, 9, 10, 11, 12, 13, 14, 15, 16, 17, 18, 19, 20, 21, 22, 23, 24, 25, 26, 27, 28, 29, 30, 31, 32, 33, 34, 35, 36, 37] rfl rfl rfl rfl (va_free hD hS hA [0, 1, 2, 3, 4, 5, 6, 7, 8, 9, 10, 11, 12, 13, 14, 15, 16, 17, 18, 19, 20, 21, 22, 23, 24, 25, 26, 27, 28, 29, 30, 31, 32, 33, 34, 35, 36, 37] rfl)) rfl rfl hl.1 rfl (lv_room (Nat.le_of_ble_eq_true rfl)) dL_block_4 ⟨(Nat.le_of_ble_eq_true rfl), (Nat.le_of_ble_eq_true rfl)⟩) hP hD hS hA [0, 1, 2, 3, 4, 5, 6, 7, 8, 9, 10, 11, 12, 13, 14, 15, 16, 17, 18, 19, 20, 21, 22, 23, 24, 25, 26, 27, 28, 29, 30, 31, 32, 33, 34, 35, 36, 37] [38] [1, 2, 3, 4, 5, 6, 7, 8, 9, 10, 11, 12, 13, 14, 15, 16, 17, 18, 19, 20, 21, 22, 23, 24, 25, 26, 27, 28, 29, 30, 31, 32, 33, 34, 35, 36, 37, 38, 0] rfl rfl rfl (by decide) rfl rfl (fun f9 ce q9 H locs ho9 hP hD hS hc9 hv9 hf9 => ?_) (fun ov w1 ho9 => by cases ho9)
    cases ho9
    by_cases e0 : f0 = 1
    · replace hM := (if_pos e0).symm.trans hM
      replace hM := Option.some.inj hM
      subst hM
      have hf9 : s.vm.findClass xIO = some ce.cls := by rw [e0] at hf9; exact hf9
      refine vx_catch (name := xIO) (E := xIO) (ce := ce) hown [] (ExceptionTableEntry.mk 0 9 12 25) [] htab (fun z hz => by cases hz) rfl (by decide) (hts (.classLink RL 25 xIO) (by decide +kernel)) (va_Nw.use rfl (hG.2 _ (List.mem_of_getElem? (i := 13) rfl))) hc9 hv9 hf9 ?_
      refine lv_astore_n (lv' := [(3, .ref q9), (0, .ref (g 0)), (1, .int p1), (2, .ref a)]) hx hb dL_block_12 rfl hl (by decide) rfl (fun ls hl => ?_)
      refine lv_iconst (v := 1) hx hb dL_block_13 (by decide) ?_
      exact wk_retXi hx hb hr hlocks hQ rfl rfl hP hD hS (Nat.le_of_ble_eq_true rfl) (Nat.le_of_ble_eq_true rfl) dL_block_14
    replace hM := (if_neg e0).symm.trans hM
    cases hM
  · refine wk_callX (vx_runV (As := [.int p1]) (rest := [.int 0, .ref a]) ⟨hx, hb, hml, hown, hts⟩ (c_X6_block l hflags dC dI cI cD cJ kk g x p1 _ hr9 H) (cwV 1 hts gL_block_X6_block rfl rfl rfl (by decide +kernel) ⟨(Nat.le_of_ble_eq_true rfl), (Nat.le_of_ble_eq_true rfl)⟩) (wk_preVT (ci := 4) (q0 := 0) hG hP hD hT hS (fun _ h9 => h9) [0, 1, 2, 3, 4, 5, 6, 7, 8, 9, 10, 11, 12, 13, 14, 15, 16, 17, 18, 19, 20, 21, 22, 23, 24, 25, 26, 27, 28, 29, 30, 31, 32, 33, 34, 35, 36, 37] rfl rfl rfl rfl (va_free hD hS hA [0, 1, 2, 3, 4, 5, 6, 7, 8, 9, 10, 11, 12, 13, 14, 15, 16, 17, 18, 19, 20, 21, 22, 23, 24, 25, 26, 27, 28, 29, 30, 31, 32, 33, 34, 35, 36, 37] rfl)) rfl rfl hl.1 rfl (lv_room (Nat.le_of_ble_eq_true rfl)) dL_block_4 ⟨(Nat.le_of_ble_eq_true rfl), (Nat.le_of_ble_eq_true rfl)⟩) hP hD hS hA [0, 1, 2, 3, 4, 5, 6, 7, 8, 9, 10, 11, 12, 13, 14, 15, 16, 17, 18, 19, 20, 21, 22, 23, 24, 25, 26, 27, 28, 29, 30, 31, 32, 33, 34, 35, 36, 37] [38] [1, 2, 3, 4, 5, 6, 7, 8, 9, 10, 11, 12, 13, 14, 15, 16, 17, 18, 19, 20, 21, 22, 23, 24, 25, 26, 27, 28, 29, 30, 31, 32, 33, 34, 35, 36, 37, 38, 0] rfl rfl rfl (by decide) rfl rfl (fun f9 ce q9 H locs ho9 hP hD hS hc9 hv9 hf9 => by cases ho9) (fun ov w1 ho9 H locs hPD hS => ?_)
    cases ho9
    obtain ⟨hP, hD⟩ := hPD (wSys cI cD kk.1 g x ++ wLrow cJ a o) rfl
    replace hM := Option.some.inj hM
    subst hM
    refine lv_i2l hx hb dL_block_7 rfl ?_
    refine va_last hx hb hG.1 hP hD hS 38 2 rfl rfl (vpb_in.mp (by decide)) dL_block_8 (fun H locs hP hD hS => ?_)
    have hP : va_P (dC, dI) vwCl (wSys cI cD kk.1 g x ++ wLrow cJ a (vp_updL o 0 (r0).toInt64)) H := hP
    have hD : va_D A (wSys cI cD kk.1 g x ++ wLrow cJ a (vp_updL o 0 (r0).toInt64)) := hD
    refine lv_goto (tgt := 15) hx hb dL_block_9 (by decide) ?_
    refine lv_iconst (v := 0) hx hb dL_block_15 (by decide) ?_
    exact wk_retXi hx hb hr hlocks hQ rfl rfl hP hD hS (Nat.le_of_ble_eq_true rfl) (Nat.le_of_ble_eq_true rfl) dL_block_16
set_option maxHeartbeats 4000000 in
set_option maxRecDepth 100000 in
theorem c_L_orderOf (l : Launch) (hflags : l.stackTraces = false) (dC : Nat → ClassId) (dI : Nat → Nat → Nat) (cI cD cJ : ClassId) (kk : wAd) (g : Nat → Nat) (a : Nat) (x : SS) (o : Nat → Int64) (p1 : Int32) (p2 : Int32) (out : Int32 × (SS × (Nat → Int64))) (hM : M_L_orderOf x o p1 p2 = some out) : CL kk l yL_orderOf wsL_orderOf ({ frames := 8, cells := 2, slots := 12, locals := 124 } : Room) dC dI (wTys cI cD cJ) [.ref (g 0), .int p1, .int p2, .ref a] (wSys cI cD kk.1 g x ++ wLrow cJ a o) (.inr (some (.int out.1), wSys cI cD kk.1 g out.2.1 ++ wLrow cJ a out.2.2)) 2 12 := by
  refine wk_enterL (cc := cL_orderOf) (maxL := 5) (ret := some .int) (hh := [(0, 10, 13, 25), (0, 10, 17, 13)]) (by decide) rfl (Nat.le_of_ble_eq_true rfl) ?_
  intro p e s m below meth c A Q ls hB htab hN hT hA hP hD hQ hl
  obtain ⟨hx, hb, hml, hr, hts, hown, hname, hlocks, hG⟩ := hB
  have hown : s.vm.findClass RL = some m.cls := hown
  have hS : va_S A s.heap s.heap [] := va_S.rf
  have hl : lv_has ls 5 [(0, .ref (g 0)), (1, .int p1), (2, .int p2), (3, .ref a)] := hl
  obtain ⟨H, hH⟩ : ∃ z, z = s.heap := ⟨_, rfl⟩
  have hP : va_P (dC, dI) vwCl (wSys cI cD kk.1 g x ++ wLrow cJ a o) H := by rw [hH]; exact hP
  have hS : va_S A s.heap H [] := by rw [hH]; exact hS
  refine wk_at hH ?_
  generalize ([] : List Loc) = locs at hS ⊢
  unfold M_L_orderOf at hM
  obtain ⟨r, hr9, hM⟩ := ob hM
  refine lv_aload_n hx hb dL_orderOf_0 rfl (lv_at hl 3 rfl) ?_
  refine lv_iconst (v := 0) hx hb dL_orderOf_1 (by decide) ?_
  refine lv_aload_n hx hb dL_orderOf_2 rfl (lv_at hl 0 rfl) ?_
  refine lv_iload_n hx hb dL_orderOf_3 rfl (lv_at hl 1 rfl) ?_
  refine lv_iload_n hx hb dL_orderOf_4 rfl (lv_at hl 2 rfl) ?_
  rcases r with f0 | r0
  · refine wk_callX (vx_runV (As := [.int p1, .int p2]) (rest := [.int 0, .ref a]) ⟨hx, hb, hml, hown, hts⟩ (c_X6_orderOf l hflags dC dI cI cD cJ kk g x p1 p2 _ hr9 H) (cwV 2 hts gL_orderOf_X6_orderOf rfl rfl rfl (by decide +kernel) ⟨(Nat.le_of_ble_eq_true rfl), (Nat.le_of_ble_eq_true rfl)⟩) (wk_preVT (ci := 4) (q0 := 0) hG hP hD hT hS (fun _ h9 => h9) [0, 1, 2, 3, 4, 5, 6, 7, 8, 9, 10, 11, 12, 13, 14, 15, 16, 17, 18, 19, 20, 21, 22, 23, 24, 25, 26, 27, 28, 29, 30, 31, 32, 33, 34, 35, 36, 37] rfl rfl rfl rfl (va_free hD hS hA [0, 1, 2, 3, 4, 5, 6, 7, 8, 9, 10, 11, 12, 13, 14, 15, 16, 17, 18, 19, 20, 21, 22, 23, 24, 25, 26, 27, 28, 29, 30, 31, 32, 33, 34, 35, 36, 37] rfl)) rfl rfl hl.1 rfl (lv_room (Nat.le_of_ble_eq_true rfl)) dL_orderOf_5 ⟨(Nat.le_of_ble_eq_true rfl), (Nat.le_of_ble_eq_true rfl)⟩) hP hD hS hA [0, 1, 2, 3, 4, 5, 6, 7, 8, 9, 10, 11, 12, 13, 14, 15, 16, 17, 18, 19, 20, 21, 22, 23, 24, 25, 26, 27, 28, 29, 30, 31, 32, 33, 34, 35, 36, 37] [38] [1, 2, 3, 4, 5, 6, 7, 8, 9, 10, 11, 12, 13, 14, 15, 16, 17, 18, 19, 20, 21, 22, 23, 24, 25, 26, 27, 28, 29, 30, 31, 32, 33, 34, 35, 36, 37, 38, 0] rfl rfl rfl (by decide) rfl rfl (fun f9 ce q9 H locs ho9 hP hD hS hc9 hv9 hf9 => ?_) (fun ov w1 ho9 => by cases ho9)
    cases ho9
    by_cases e0 : f0 = 1
    · replace hM := (if_pos e0).symm.trans hM
      replace hM := Option.some.inj hM
      subst hM
      have hf9 : s.vm.findClass xIO = some ce.cls := by rw [e0] at hf9; exact hf9
      refine vx_catch (name := xIO) (E := xIO) (ce := ce) hown [] (ExceptionTableEntry.mk 0 10 13 25) [(ExceptionTableEntry.mk 0 10 17 13)] htab (fun z hz => by cases hz) rfl (by decide) (hts (.classLink RL 25 xIO) (by decide +kernel)) (va_Nw.use rfl (hG.2 _ (List.mem_of_getElem? (i := 13) rfl))) hc9 hv9 hf9 ?_
      refine lv_astore (lv' := [(4, .ref q9), (0, .ref (g 0)), (1, .int p1), (2, .int p2), (3, .ref a)]) hx hb dL_orderOf_13 hl (by decide) rfl (fun ls hl => ?_)
      refine lv_iconst (v := 1) hx hb dL_orderOf_15 (by decide) ?_
      exact wk_retXi hx hb hr hlocks hQ rfl rfl hP hD hS (Nat.le_of_ble_eq_true rfl) (Nat.le_of_ble_eq_true rfl) dL_orderOf_16
    replace hM := (if_neg e0).symm.trans hM
    by_cases e1 : f0 = 2
    · replace hM := (if_pos e1).symm.trans hM
      replace hM := Option.some.inj hM
      subst hM
      have hf9 : s.vm.findClass xIA = some ce.cls := by rw [e1] at hf9; exact hf9
      refine vx_catch (name := xIA) (E := xIA) (ce := ce) hown [(ExceptionTableEntry.mk 0 10 13 25)] (ExceptionTableEntry.mk 0 10 17 13) [] htab (fun z hz => by cases List.mem_singleton.mp hz; exact Or.inr ⟨by decide, xIO, hts (.classLink RL 25 xIO) (by decide +kernel), hN.1⟩) rfl (by decide) (hts (.classLink RL 13 xIA) (by decide +kernel)) (va_Nw.use rfl (hG.2 _ (List.mem_of_getElem? (i := 14) rfl))) hc9 hv9 hf9 ?_
      refine lv_astore (lv' := [(4, .ref q9), (0, .ref (g 0)), (1, .int p1), (2, .int p2), (3, .ref a)]) hx hb dL_orderOf_17 hl (by decide) rfl (fun ls hl => ?_)
      refine lv_iconst (v := 2) hx hb dL_orderOf_19 (by decide) ?_
      exact wk_retXi hx hb hr hlocks hQ rfl rfl hP hD hS (Nat.le_of_ble_eq_true rfl) (Nat.le_of_ble_eq_true rfl) dL_orderOf_20
    replace hM := (if_neg e1).symm.trans hM
    cases hM
  · refine wk_callX (vx_runV (As := [.int p1, .int p2]) (rest := [.int 0, .ref a]) ⟨hx, hb, hml, hown, hts⟩ (c_X6_orderOf l hflags dC dI cI cD cJ kk g x p1 p2 _ hr9 H) (cwV 2 hts gL_orderOf_X6_orderOf rfl rfl rfl (by decide +kernel) ⟨(Nat.le_of_ble_eq_true rfl), (Nat.le_of_ble_eq_true rfl)⟩) (wk_preVT (ci := 4) (q0 := 0) hG hP hD hT hS (fun _ h9 => h9) [0, 1, 2, 3, 4, 5, 6, 7, 8, 9, 10, 11, 12, 13, 14, 15, 16, 17, 18, 19, 20, 21, 22, 23, 24, 25, 26, 27, 28, 29, 30, 31, 32, 33, 34, 35, 36, 37] rfl rfl rfl rfl (va_free hD hS hA [0, 1, 2, 3, 4, 5, 6, 7, 8, 9, 10, 11, 12, 13, 14, 15, 16, 17, 18, 19, 20, 21, 22, 23, 24, 25, 26, 27, 28, 29, 30, 31, 32, 33, 34, 35, 36, 37] rfl)) rfl rfl hl.1 rfl (lv_room (Nat.le_of_ble_eq_true rfl)) dL_orderOf_5 ⟨(Nat.le_of_ble_eq_true rfl), (Nat.le_of_ble_eq_true rfl)⟩) hP hD hS hA [0, 1, 2, 3, 4, 5, 6, 7, 8, 9, 10, 11, 12, 13, 14, 15, 16, 17, 18, 19, 20, 21, 22, 23, 24, 25, 26, 27, 28, 29, 30, 31, 32, 33, 34, 35, 36, 37] [38] [1, 2, 3, 4, 5, 6, 7, 8, 9, 10, 11, 12, 13, 14, 15, 16, 17, 18, 19, 20, 21, 22, 23, 24, 25, 26, 27, 28, 29, 30, 31, 32, 33, 34, 35, 36, 37, 38, 0] rfl rfl rfl (by decide) rfl rfl (fun f9 ce q9 H locs ho9 hP hD hS hc9 hv9 hf9 => by cases ho9) (fun ov w1 ho9 H locs hPD hS => ?_)
    cases ho9
    obtain ⟨hP, hD⟩ := hPD (wSys cI cD kk.1 g x ++ wLrow cJ a o) rfl
    replace hM := Option.some.inj hM
    subst hM
    refine lv_i2l hx hb dL_orderOf_8 rfl ?_
    refine va_last hx hb hG.1 hP hD hS 38 2 rfl rfl (vpb_in.mp (by decide)) dL_orderOf_9 (fun H locs hP hD hS => ?_)
    have hP : va_P (dC, dI) vwCl (wSys cI cD kk.1 g x ++ wLrow cJ a (vp_updL o 0 (r0).toInt64)) H := hP
    have hD : va_D A (wSys cI cD kk.1 g x ++ wLrow cJ a (vp_updL o 0 (r0).toInt64)) := hD
    refine lv_goto (tgt := 21) hx hb dL_orderOf_10 (by decide) ?_
    refine lv_iconst (v := 0) hx hb dL_orderOf_21 (by decide) ?_
    exact wk_retXi hx hb hr hlocks hQ rfl rfl hP hD hS (Nat.le_of_ble_eq_true rfl) (Nat.le_of_ble_eq_true rfl) dL_orderOf_22
set_option maxHeartbeats 4000000 in
set_option maxRecDepth 100000 in
theorem c_L_orderWith (l : Launch) (hflags : l.stackTraces = false) (dC : Nat → ClassId) (dI : Nat → Nat → Nat) (cI cD cJ : ClassId) (kk : wAd) (g : Nat → Nat) (a : Nat) (x : SS) (o : Nat → Int64) (p1 : Int32) (p2 : Int32) (out : Int32 × (SS × (Nat → Int64))) (hM : M_L_orderWith x o p1 p2 = some out) : CL kk l yL_orderWith wsL_orderWith ({ frames := 8, cells := 1, slots := 6, locals := 124 } : Room) dC dI (wTys cI cD cJ) [.ref (g 0), .int p1, .int p2, .ref a] (wSys cI cD kk.1 g x ++ wLrow cJ a o) (.inr (some (.int out.1), wSys cI cD kk.1 g out.2.1 ++ wLrow cJ a out.2.2)) 1 6 := by
  refine wk_enterL (cc := cL_orderWith) (maxL := 5) (ret := some .int) (hh := [(0, 10, 13, 13)]) (by decide) rfl (Nat.le_of_ble_eq_true rfl) ?_
  intro p e s m below meth c A Q ls hB htab hN hT hA hP hD hQ hl
  obtain ⟨hx, hb, hml, hr, hts, hown, hname, hlocks, hG⟩ := hB
  have hown : s.vm.findClass RL = some m.cls := hown
  have hS : va_S A s.heap s.heap [] := va_S.rf
  have hl : lv_has ls 5 [(0, .ref (g 0)), (1, .int p1), (2, .int p2), (3, .ref a)] := hl
  obtain ⟨H, hH⟩ : ∃ z, z = s.heap := ⟨_, rfl⟩
  have hP : va_P (dC, dI) vwCl (wSys cI cD kk.1 g x ++ wLrow cJ a o) H := by rw [hH]; exact hP
  have hS : va_S A s.heap H [] := by rw [hH]; exact hS
  refine wk_at hH ?_
  generalize ([] : List Loc) = locs at hS ⊢
  unfold M_L_orderWith at hM
  obtain ⟨r, hr9, hM⟩ := ob hM
  refine lv_aload_n hx hb dL_orderWith_0 rfl (lv_at hl 3 rfl) ?_
  refine lv_iconst (v := 0) hx hb dL_orderWith_1 (by decide) ?_
  refine lv_aload_n hx hb dL_orderWith_2 rfl (lv_at hl 0 rfl) ?_
  refine lv_iload_n hx hb dL_orderWith_3 rfl (lv_at hl 1 rfl) ?_
  refine lv_iload_n hx hb dL_orderWith_4 rfl (lv_at hl 2 rfl) ?_
  rcases r with f0 | r0
  · refine wk_callX (vx_runV (As := [.int p1, .int p2]) (rest := [.int 0, .ref a]) ⟨hx, hb, hml, hown, hts⟩ (c_X6_orderWith l hflags dC dI cI cD cJ kk g x p1 p2 _ hr9 H) (cwV 2 hts gL_orderWith_X6_orderWith rfl rfl rfl (by decide +kernel) ⟨(Nat.le_of_ble_eq_true rfl), (Nat.le_of_ble_eq_true rfl)⟩) (wk_preVT (ci := 4) (q0 := 0) hG hP hD hT hS (fun _ h9 => h9) [0, 1, 2, 3, 4, 5, 6, 7, 8, 9, 10, 11, 12, 13, 14, 15, 16, 17, 18, 19, 20, 21, 22, 23, 24, 25, 26, 27, 28, 29, 30, 31, 32, 33, 34, 35, 36, 37] rfl rfl rfl rfl (va_free hD hS hA [0, 1, 2, 3, 4, 5, 6, 7, 8, 9, 10, 11, 12, 13, 14, 15, 16, 17, 18, 19, 20, 21, 22, 23, 24, 25, 26, 27, 28, 29, 30, 31, 32, 33, 34, 35, 36, 37] rfl)) rfl rfl hl.1 rfl (lv_room (Nat.le_of_ble_eq_true rfl)) dL_orderWith_5 ⟨(Nat.le_of_ble_eq_true rfl), (Nat.le_of_ble_eq_true rfl)⟩) hP hD hS hA [0, 1, 2, 3, 4, 5, 6, 7, 8, 9, 10, 11, 12, 13, 14, 15, 16, 17, 18, 19, 20, 21, 22, 23, 24, 25, 26, 27, 28, 29, 30, 31, 32, 33, 34, 35, 36, 37] [38] [1, 2, 3, 4, 5, 6, 7, 8, 9, 10, 11, 12, 13, 14, 15, 16, 17, 18, 19, 20, 21, 22, 23, 24, 25, 26, 27, 28, 29, 30, 31, 32, 33, 34, 35, 36, 37, 38, 0] rfl rfl rfl (by decide) rfl rfl (fun f9 ce q9 H locs ho9 hP hD hS hc9 hv9 hf9 => ?_) (fun ov w1 ho9 => by cases ho9)
    cases ho9
    by_cases e0 : f0 = 2
    · replace hM := (if_pos e0).symm.trans hM
      replace hM := Option.some.inj hM
      subst hM
      have hf9 : s.vm.findClass xIA = some ce.cls := by rw [e0] at hf9; exact hf9
      refine vx_catch (name := xIA) (E := xIA) (ce := ce) hown [] (ExceptionTableEntry.mk 0 10 13 13) [] htab (fun z hz => by cases hz) rfl (by decide) (hts (.classLink RL 13 xIA) (by decide +kernel)) (va_Nw.use rfl (hG.2 _ (List.mem_of_getElem? (i := 14) rfl))) hc9 hv9 hf9 ?_
      refine lv_astore (lv' := [(4, .ref q9), (0, .ref (g 0)), (1, .int p1), (2, .int p2), (3, .ref a)]) hx hb dL_orderWith_13 hl (by decide) rfl (fun ls hl => ?_)
      refine lv_iconst (v := 1) hx hb dL_orderWith_15 (by decide) ?_
      exact wk_retXi hx hb hr hlocks hQ rfl rfl hP hD hS (Nat.le_of_ble_eq_true rfl) (Nat.le_of_ble_eq_true rfl) dL_orderWith_16
    replace hM := (if_neg e0).symm.trans hM
    cases hM
  · refine wk_callX (vx_runV (As := [.int p1, .int p2]) (rest := [.int 0, .ref a]) ⟨hx, hb, hml, hown, hts⟩ (c_X6_orderWith l hflags dC dI cI cD cJ kk g x p1 p2 _ hr9 H) (cwV 2 hts gL_orderWith_X6_orderWith rfl rfl rfl (by decide +kernel) ⟨(Nat.le_of_ble_eq_true rfl), (Nat.le_of_ble_eq_true rfl)⟩) (wk_preVT (ci := 4) (q0 := 0) hG hP hD hT hS (fun _ h9 => h9) [0, 1, 2, 3, 4, 5, 6, 7, 8, 9, 10, 11, 12, 13, 14, 15, 16, 17, 18, 19, 20, 21, 22, 23, 24, 25, 26, 27, 28, 29, 30, 31, 32, 33, 34, 35, 36, 37] rfl rfl rfl rfl (va_free hD hS hA [0, 1, 2, 3, 4, 5, 6, 7, 8, 9, 10, 11, 12, 13, 14, 15, 16, 17, 18, 19, 20, 21, 22, 23, 24, 25, 26, 27, 28, 29, 30, 31, 32, 33, 34, 35, 36, 37] rfl)) rfl rfl hl.1 rfl (lv_room (Nat.le_of_ble_eq_true rfl)) dL_orderWith_5 ⟨(Nat.le_of_ble_eq_true rfl), (Nat.le_of_ble_eq_true rfl)⟩) hP hD hS hA [0, 1, 2, 3, 4, 5, 6, 7, 8, 9, 10, 11, 12, 13, 14, 15, 16, 17, 18, 19, 20, 21, 22, 23, 24, 25, 26, 27, 28, 29, 30, 31, 32, 33, 34, 35, 36, 37] [38] [1, 2, 3, 4, 5, 6, 7, 8, 9, 10, 11, 12, 13, 14, 15, 16, 17, 18, 19, 20, 21, 22, 23, 24, 25, 26, 27, 28, 29, 30, 31, 32, 33, 34, 35, 36, 37, 38, 0] rfl rfl rfl (by decide) rfl rfl (fun f9 ce q9 H locs ho9 hP hD hS hc9 hv9 hf9 => by cases ho9) (fun ov w1 ho9 H locs hPD hS => ?_)
    cases ho9
    obtain ⟨hP, hD⟩ := hPD (wSys cI cD kk.1 g x ++ wLrow cJ a o) rfl
    replace hM := Option.some.inj hM
    subst hM
    refine lv_i2l hx hb dL_orderWith_8 rfl ?_
    refine va_last hx hb hG.1 hP hD hS 38 2 rfl rfl (vpb_in.mp (by decide)) dL_orderWith_9 (fun H locs hP hD hS => ?_)
    have hP : va_P (dC, dI) vwCl (wSys cI cD kk.1 g x ++ wLrow cJ a (vp_updL o 0 (r0).toInt64)) H := hP
    have hD : va_D A (wSys cI cD kk.1 g x ++ wLrow cJ a (vp_updL o 0 (r0).toInt64)) := hD
    refine lv_goto (tgt := 17) hx hb dL_orderWith_10 (by decide) ?_
    refine lv_iconst (v := 0) hx hb dL_orderWith_17 (by decide) ?_
    exact wk_retXi hx hb hr hlocks hQ rfl rfl hP hD hS (Nat.le_of_ble_eq_true rfl) (Nat.le_of_ble_eq_true rfl) dL_orderWith_18
set_option maxHeartbeats 4000000 in
set_option maxRecDepth 100000 in
theorem c_L_controller (l : Launch) (hflags : l.stackTraces = false) (dC : Nat → ClassId) (dI : Nat → Nat → Nat) (cI cD cJ : ClassId) (kk : wAd) (g : Nat → Nat) (a : Nat) (x : SS) (o : Nat → Int64) (p1 : Int32) (p2 : Int32) (out : Int32 × (SS × (Nat → Int64))) (hM : M_L_controller x o p1 p2 = some out) : CL kk l yL_controller wsL_controller ({ frames := 8, cells := 2, slots := 12, locals := 124 } : Room) dC dI (wTys cI cD cJ) [.ref (g 0), .int p1, .int p2, .ref a] (wSys cI cD kk.1 g x ++ wLrow cJ a o) (.inr (some (.int out.1), wSys cI cD kk.1 g out.2.1 ++ wLrow cJ a out.2.2)) 2 12 := by
  refine wk_enterL (cc := cL_controller) (maxL := 5) (ret := some .int) (hh := [(0, 10, 13, 25), (0, 10, 17, 13)]) (by decide) rfl (Nat.le_of_ble_eq_true rfl) ?_
  intro p e s m below meth c A Q ls hB htab hN hT hA hP hD hQ hl
  obtain ⟨hx, hb, hml, hr, hts, hown, hname, hlocks, hG⟩ := hB
  have hown : s.vm.findClass RL = some m.cls := hown
  have hS : va_S A s.heap s.heap [] := va_S.rf
  have hl : lv_has ls 5 [(0, .ref (g 0)), (1, .int p1), (2, .int p2), (3, .ref a)] := hl
  obtain ⟨H, hH⟩ : ∃ z, z = s.heap := ⟨_, rfl⟩
  have hP : va_P (dC, dI) vwCl (wSys cI cD kk.1 g x ++ wLrow cJ a o) H := by rw [hH]; exact hP
  have hS : va_S A s.heap H [] := by rw [hH]; exact hS
  refine wk_at hH ?_
  generalize ([] : List Loc) = locs at hS ⊢
  unfold M_L_controller at hM
  obtain ⟨r, hr9, hM⟩ := ob hM
  refine lv_aload_n hx hb dL_controller_0 rfl (lv_at hl 3 rfl) ?_
  refine lv_iconst (v := 0) hx hb dL_controller_1 (by decide) ?_
  refine lv_aload_n hx hb dL_controller_2 rfl (lv_at hl 0 rfl) ?_
  refine lv_iload_n hx hb dL_controller_3 rfl (lv_at hl 1 rfl) ?_
  refine lv_iload_n hx hb dL_controller_4 rfl (lv_at hl 2 rfl) ?_
  rcases r with f0 | r0
  · refine wk_callX (vx_runV (As := [.int p1, .int p2]) (rest := [.int 0, .ref a]) ⟨hx, hb, hml, hown, hts⟩ (c_X6_controller l hflags dC dI cI cD cJ kk g x p1 p2 _ hr9 H) (cwV 2 hts gL_controller_X6_controller rfl rfl rfl (by decide +kernel) ⟨(Nat.le_of_ble_eq_true rfl), (Nat.le_of_ble_eq_true rfl)⟩) (wk_preVT (ci := 4) (q0 := 0) hG hP hD hT hS (fun _ h9 => h9) [0, 1, 2, 3, 4, 5, 6, 7, 8, 9, 10, 11, 12, 13, 14, 15, 16, 17, 18, 19, 20, 21, 22, 23, 24, 25, 26, 27, 28, 29, 30, 31, 32, 33, 34, 35, 36, 37] rfl rfl rfl rfl (va_free hD hS hA [0, 1, 2, 3, 4, 5, 6, 7, 8, 9, 10, 11, 12, 13, 14, 15, 16, 17, 18, 19, 20, 21, 22, 23, 24, 25, 26, 27, 28, 29, 30, 31, 32, 33, 34, 35, 36, 37] rfl)) rfl rfl hl.1 rfl (lv_room (Nat.le_of_ble_eq_true rfl)) dL_controller_5 ⟨(Nat.le_of_ble_eq_true rfl), (Nat.le_of_ble_eq_true rfl)⟩) hP hD hS hA [0, 1, 2, 3, 4, 5, 6, 7, 8, 9, 10, 11, 12, 13, 14, 15, 16, 17, 18, 19, 20, 21, 22, 23, 24, 25, 26, 27, 28, 29, 30, 31, 32, 33, 34, 35, 36, 37] [38] [1, 2, 3, 4, 5, 6, 7, 8, 9, 10, 11, 12, 13, 14, 15, 16, 17, 18, 19, 20, 21, 22, 23, 24, 25, 26, 27, 28, 29, 30, 31, 32, 33, 34, 35, 36, 37, 38, 0] rfl rfl rfl (by decide) rfl rfl (fun f9 ce q9 H locs ho9 hP hD hS hc9 hv9 hf9 => ?_) (fun ov w1 ho9 => by cases ho9)
    cases ho9
    by_cases e0 : f0 = 1
    · replace hM := (if_pos e0).symm.trans hM
      replace hM := Option.some.inj hM
      subst hM
      have hf9 : s.vm.findClass xIO = some ce.cls := by rw [e0] at hf9; exact hf9
      refine vx_catch (name := xIO) (E := xIO) (ce := ce) hown [] (ExceptionTableEntry.mk 0 10 13 25) [(ExceptionTableEntry.mk 0 10 17 13)] htab (fun z hz => by cases hz) rfl (by decide) (hts (.classLink RL 25 xIO) (by decide +kernel)) (va_Nw.use rfl (hG.2 _ (List.mem_of_getElem? (i := 13) rfl))) hc9 hv9 hf9 ?_
      refine lv_astore (lv' := [(4, .ref q9), (0, .ref (g 0)), (1, .int p1), (2, .int p2), (3, .ref a)]) hx hb dL_controller_13 hl (by decide) rfl (fun ls hl => ?_)
      refine lv_iconst (v := 1) hx hb dL_controller_15 (by decide) ?_
      exact wk_retXi hx hb hr hlocks hQ rfl rfl hP hD hS (Nat.le_of_ble_eq_true rfl) (Nat.le_of_ble_eq_true rfl) dL_controller_16
    replace hM := (if_neg e0).symm.trans hM
    by_cases e1 : f0 = 2
    · replace hM := (if_pos e1).symm.trans hM
      replace hM := Option.some.inj hM
      subst hM
      have hf9 : s.vm.findClass xIA = some ce.cls := by rw [e1] at hf9; exact hf9
      refine vx_catch (name := xIA) (E := xIA) (ce := ce) hown [(ExceptionTableEntry.mk 0 10 13 25)] (ExceptionTableEntry.mk 0 10 17 13) [] htab (fun z hz => by cases List.mem_singleton.mp hz; exact Or.inr ⟨by decide, xIO, hts (.classLink RL 25 xIO) (by decide +kernel), hN.1⟩) rfl (by decide) (hts (.classLink RL 13 xIA) (by decide +kernel)) (va_Nw.use rfl (hG.2 _ (List.mem_of_getElem? (i := 14) rfl))) hc9 hv9 hf9 ?_
      refine lv_astore (lv' := [(4, .ref q9), (0, .ref (g 0)), (1, .int p1), (2, .int p2), (3, .ref a)]) hx hb dL_controller_17 hl (by decide) rfl (fun ls hl => ?_)
      refine lv_iconst (v := 2) hx hb dL_controller_19 (by decide) ?_
      exact wk_retXi hx hb hr hlocks hQ rfl rfl hP hD hS (Nat.le_of_ble_eq_true rfl) (Nat.le_of_ble_eq_true rfl) dL_controller_20
    replace hM := (if_neg e1).symm.trans hM
    cases hM
  · refine wk_callX (vx_runV (As := [.int p1, .int p2]) (rest := [.int 0, .ref a]) ⟨hx, hb, hml, hown, hts⟩ (c_X6_controller l hflags dC dI cI cD cJ kk g x p1 p2 _ hr9 H) (cwV 2 hts gL_controller_X6_controller rfl rfl rfl (by decide +kernel) ⟨(Nat.le_of_ble_eq_true rfl), (Nat.le_of_ble_eq_true rfl)⟩) (wk_preVT (ci := 4) (q0 := 0) hG hP hD hT hS (fun _ h9 => h9) [0, 1, 2, 3, 4, 5, 6, 7, 8, 9, 10, 11, 12, 13, 14, 15, 16, 17, 18, 19, 20, 21, 22, 23, 24, 25, 26, 27, 28, 29, 30, 31, 32, 33, 34, 35, 36, 37] rfl rfl rfl rfl (va_free hD hS hA [0, 1, 2, 3, 4, 5, 6, 7, 8, 9, 10, 11, 12, 13, 14, 15, 16, 17, 18, 19, 20, 21, 22, 23, 24, 25, 26, 27, 28, 29, 30, 31, 32, 33, 34, 35, 36, 37] rfl)) rfl rfl hl.1 rfl (lv_room (Nat.le_of_ble_eq_true rfl)) dL_controller_5 ⟨(Nat.le_of_ble_eq_true rfl), (Nat.le_of_ble_eq_true rfl)⟩) hP hD hS hA [0, 1, 2, 3, 4, 5, 6, 7, 8, 9, 10, 11, 12, 13, 14, 15, 16, 17, 18, 19, 20, 21, 22, 23, 24, 25, 26, 27, 28, 29, 30, 31, 32, 33, 34, 35, 36, 37] [38] [1, 2, 3, 4, 5, 6, 7, 8, 9, 10, 11, 12, 13, 14, 15, 16, 17, 18, 19, 20, 21, 22, 23, 24, 25, 26, 27, 28, 29, 30, 31, 32, 33, 34, 35, 36, 37, 38, 0] rfl rfl rfl (by decide) rfl rfl (fun f9 ce q9 H locs ho9 hP hD hS hc9 hv9 hf9 => by cases ho9) (fun ov w1 ho9 H locs hPD hS => ?_)
    cases ho9
    obtain ⟨hP, hD⟩ := hPD (wSys cI cD kk.1 g x ++ wLrow cJ a o) rfl
    replace hM := Option.some.inj hM
    subst hM
    refine lv_i2l hx hb dL_controller_8 rfl ?_
    refine va_last hx hb hG.1 hP hD hS 38 2 rfl rfl (vpb_in.mp (by decide)) dL_controller_9 (fun H locs hP hD hS => ?_)
    have hP : va_P (dC, dI) vwCl (wSys cI cD kk.1 g x ++ wLrow cJ a (vp_updL o 0 (r0).toInt64)) H := hP
    have hD : va_D A (wSys cI cD kk.1 g x ++ wLrow cJ a (vp_updL o 0 (r0).toInt64)) := hD
    refine lv_goto (tgt := 21) hx hb dL_controller_10 (by decide) ?_
    refine lv_iconst (v := 0) hx hb dL_controller_21 (by decide) ?_
    exact wk_retXi hx hb hr hlocks hQ rfl rfl hP hD hS (Nat.le_of_ble_eq_true rfl) (Nat.le_of_ble_eq_true rfl) dL_controller_22
set_option maxHeartbeats 4000000 in
set_option maxRecDepth 100000 in
theorem c_L_mail (l : Launch) (hflags : l.stackTraces = false) (dC : Nat → ClassId) (dI : Nat → Nat → Nat) (cI cD cJ : ClassId) (kk : wAd) (g : Nat → Nat) (a : Nat) (x : SS) (o : Nat → Int64) (p1 : Int32) (p2 : Int32) (out : Int32 × (SS × (Nat → Int64))) (hM : M_L_mail x o p1 p2 = some out) : CL kk l yL_mail wsL_mail ({ frames := 8, cells := 2, slots := 12, locals := 124 } : Room) dC dI (wTys cI cD cJ) [.ref (g 0), .int p1, .int p2, .ref a] (wSys cI cD kk.1 g x ++ wLrow cJ a o) (.inr (some (.int out.1), wSys cI cD kk.1 g out.2.1 ++ wLrow cJ a out.2.2)) 2 12 := by
  refine wk_enterL (cc := cL_mail) (maxL := 5) (ret := some .int) (hh := [(0, 10, 13, 25), (0, 10, 17, 13)]) (by decide) rfl (Nat.le_of_ble_eq_true rfl) ?_
  intro p e s m below meth c A Q ls hB htab hN hT hA hP hD hQ hl
  obtain ⟨hx, hb, hml, hr, hts, hown, hname, hlocks, hG⟩ := hB
  have hown : s.vm.findClass RL = some m.cls := hown
  have hS : va_S A s.heap s.heap [] := va_S.rf
  have hl : lv_has ls 5 [(0, .ref (g 0)), (1, .int p1), (2, .int p2), (3, .ref a)] := hl
  obtain ⟨H, hH⟩ : ∃ z, z = s.heap := ⟨_, rfl⟩
  have hP : va_P (dC, dI) vwCl (wSys cI cD kk.1 g x ++ wLrow cJ a o) H := by rw [hH]; exact hP
  have hS : va_S A s.heap H [] := by rw [hH]; exact hS
  refine wk_at hH ?_
  generalize ([] : List Loc) = locs at hS ⊢
  unfold M_L_mail at hM
  obtain ⟨r, hr9, hM⟩ := ob hM
  refine lv_aload_n hx hb dL_mail_0 rfl (lv_at hl 3 rfl) ?_
  refine lv_iconst (v := 0) hx hb dL_mail_1 (by decide) ?_
  refine lv_aload_n hx hb dL_mail_2 rfl (lv_at hl 0 rfl) ?_
  refine lv_iload_n hx hb dL_mail_3 rfl (lv_at hl 1 rfl) ?_
  refine lv_iload_n hx hb dL_mail_4 rfl (lv_at hl 2 rfl) ?_
  rcases r with f0 | r0
  · refine wk_callX (vx_runV (As := [.int p1, .int p2]) (rest := [.int 0, .ref a]) ⟨hx, hb, hml, hown, hts⟩ (c_X6_mail l hflags dC dI cI cD cJ kk g x p1 p2 _ hr9 H) (cwV 2 hts gL_mail_X6_mail rfl rfl rfl (by decide +kernel) ⟨(Nat.le_of_ble_eq_true rfl), (Nat.le_of_ble_eq_true rfl)⟩) (wk_preVT (ci := 4) (q0 := 0) hG hP hD hT hS (fun _ h9 => h9) [0, 1, 2, 3, 4, 5, 6, 7, 8, 9, 10, 11, 12, 13, 14, 15, 16, 17, 18, 19, 20, 21, 22, 23, 24, 25, 26, 27, 28, 29, 30, 31, 32, 33, 34, 35, 36, 37] rfl rfl rfl rfl (va_free hD hS hA [0, 1, 2, 3, 4, 5, 6, 7, 8, 9, 10, 11, 12, 13, 14, 15, 16, 17, 18, 19, 20, 21, 22, 23, 24, 25, 26, 27, 28, 29, 30, 31, 32, 33, 34, 35, 36, 37] rfl)) rfl rfl hl.1 rfl (lv_room (Nat.le_of_ble_eq_true rfl)) dL_mail_5 ⟨(Nat.le_of_ble_eq_true rfl), (Nat.le_of_ble_eq_true rfl)⟩) hP hD hS hA [0, 1, 2, 3, 4, 5, 6, 7, 8, 9, 10, 11, 12, 13, 14, 15, 16, 17, 18, 19, 20, 21, 22, 23, 24, 25, 26, 27, 28, 29, 30, 31, 32, 33, 34, 35, 36, 37] [38] [1, 2, 3, 4, 5, 6, 7, 8, 9, 10, 11, 12, 13, 14, 15, 16, 17, 18, 19, 20, 21, 22, 23, 24, 25, 26, 27, 28, 29, 30, 31, 32, 33, 34, 35, 36, 37, 38, 0] rfl rfl rfl (by decide) rfl rfl (fun f9 ce q9 H locs ho9 hP hD hS hc9 hv9 hf9 => ?_) (fun ov w1 ho9 => by cases ho9)
    cases ho9
    by_cases e0 : f0 = 1
    · replace hM := (if_pos e0).symm.trans hM
      replace hM := Option.some.inj hM
      subst hM
      have hf9 : s.vm.findClass xIO = some ce.cls := by rw [e0] at hf9; exact hf9
      refine vx_catch (name := xIO) (E := xIO) (ce := ce) hown [] (ExceptionTableEntry.mk 0 10 13 25) [(ExceptionTableEntry.mk 0 10 17 13)] htab (fun z hz => by cases hz) rfl (by decide) (hts (.classLink RL 25 xIO) (by decide +kernel)) (va_Nw.use rfl (hG.2 _ (List.mem_of_getElem? (i := 13) rfl))) hc9 hv9 hf9 ?_
      refine lv_astore (lv' := [(4, .ref q9), (0, .ref (g 0)), (1, .int p1), (2, .int p2), (3, .ref a)]) hx hb dL_mail_13 hl (by decide) rfl (fun ls hl => ?_)
      refine lv_iconst (v := 1) hx hb dL_mail_15 (by decide) ?_
      exact wk_retXi hx hb hr hlocks hQ rfl rfl hP hD hS (Nat.le_of_ble_eq_true rfl) (Nat.le_of_ble_eq_true rfl) dL_mail_16
    replace hM := (if_neg e0).symm.trans hM
    by_cases e1 : f0 = 2
    · replace hM := (if_pos e1).symm.trans hM
      replace hM := Option.some.inj hM
      subst hM
      have hf9 : s.vm.findClass xIA = some ce.cls := by rw [e1] at hf9; exact hf9
      refine vx_catch (name := xIA) (E := xIA) (ce := ce) hown [(ExceptionTableEntry.mk 0 10 13 25)] (ExceptionTableEntry.mk 0 10 17 13) [] htab (fun z hz => by cases List.mem_singleton.mp hz; exact Or.inr ⟨by decide, xIO, hts (.classLink RL 25 xIO) (by decide +kernel), hN.1⟩) rfl (by decide) (hts (.classLink RL 13 xIA) (by decide +kernel)) (va_Nw.use rfl (hG.2 _ (List.mem_of_getElem? (i := 14) rfl))) hc9 hv9 hf9 ?_
      refine lv_astore (lv' := [(4, .ref q9), (0, .ref (g 0)), (1, .int p1), (2, .int p2), (3, .ref a)]) hx hb dL_mail_17 hl (by decide) rfl (fun ls hl => ?_)
      refine lv_iconst (v := 2) hx hb dL_mail_19 (by decide) ?_
      exact wk_retXi hx hb hr hlocks hQ rfl rfl hP hD hS (Nat.le_of_ble_eq_true rfl) (Nat.le_of_ble_eq_true rfl) dL_mail_20
    replace hM := (if_neg e1).symm.trans hM
    cases hM
  · refine wk_callX (vx_runV (As := [.int p1, .int p2]) (rest := [.int 0, .ref a]) ⟨hx, hb, hml, hown, hts⟩ (c_X6_mail l hflags dC dI cI cD cJ kk g x p1 p2 _ hr9 H) (cwV 2 hts gL_mail_X6_mail rfl rfl rfl (by decide +kernel) ⟨(Nat.le_of_ble_eq_true rfl), (Nat.le_of_ble_eq_true rfl)⟩) (wk_preVT (ci := 4) (q0 := 0) hG hP hD hT hS (fun _ h9 => h9) [0, 1, 2, 3, 4, 5, 6, 7, 8, 9, 10, 11, 12, 13, 14, 15, 16, 17, 18, 19, 20, 21, 22, 23, 24, 25, 26, 27, 28, 29, 30, 31, 32, 33, 34, 35, 36, 37] rfl rfl rfl rfl (va_free hD hS hA [0, 1, 2, 3, 4, 5, 6, 7, 8, 9, 10, 11, 12, 13, 14, 15, 16, 17, 18, 19, 20, 21, 22, 23, 24, 25, 26, 27, 28, 29, 30, 31, 32, 33, 34, 35, 36, 37] rfl)) rfl rfl hl.1 rfl (lv_room (Nat.le_of_ble_eq_true rfl)) dL_mail_5 ⟨(Nat.le_of_ble_eq_true rfl), (Nat.le_of_ble_eq_true rfl)⟩) hP hD hS hA [0, 1, 2, 3, 4, 5, 6, 7, 8, 9, 10, 11, 12, 13, 14, 15, 16, 17, 18, 19, 20, 21, 22, 23, 24, 25, 26, 27, 28, 29, 30, 31, 32, 33, 34, 35, 36, 37] [38] [1, 2, 3, 4, 5, 6, 7, 8, 9, 10, 11, 12, 13, 14, 15, 16, 17, 18, 19, 20, 21, 22, 23, 24, 25, 26, 27, 28, 29, 30, 31, 32, 33, 34, 35, 36, 37, 38, 0] rfl rfl rfl (by decide) rfl rfl (fun f9 ce q9 H locs ho9 hP hD hS hc9 hv9 hf9 => by cases ho9) (fun ov w1 ho9 H locs hPD hS => ?_)
    cases ho9
    obtain ⟨hP, hD⟩ := hPD (wSys cI cD kk.1 g x ++ wLrow cJ a o) rfl
    replace hM := Option.some.inj hM
    subst hM
    refine lv_i2l hx hb dL_mail_8 rfl ?_
    refine va_last hx hb hG.1 hP hD hS 38 2 rfl rfl (vpb_in.mp (by decide)) dL_mail_9 (fun H locs hP hD hS => ?_)
    have hP : va_P (dC, dI) vwCl (wSys cI cD kk.1 g x ++ wLrow cJ a (vp_updL o 0 (r0).toInt64)) H := hP
    have hD : va_D A (wSys cI cD kk.1 g x ++ wLrow cJ a (vp_updL o 0 (r0).toInt64)) := hD
    refine lv_goto (tgt := 21) hx hb dL_mail_10 (by decide) ?_
    refine lv_iconst (v := 0) hx hb dL_mail_21 (by decide) ?_
    exact wk_retXi hx hb hr hlocks hQ rfl rfl hP hD hS (Nat.le_of_ble_eq_true rfl) (Nat.le_of_ble_eq_true rfl) dL_mail_22
set_option maxHeartbeats 4000000 in
set_option maxRecDepth 100000 in
theorem c_L_whole (l : Launch) (hflags : l.stackTraces = false) (dC : Nat → ClassId) (dI : Nat → Nat → Nat) (cI cD cJ : ClassId) (kk : wAd) (g : Nat → Nat) (a : Nat) (x : SS) (o : Nat → Int64) (p1 : Int32) (out : Int32 × (SS × (Nat → Int64))) (hM : M_L_whole x o p1 = some out) : CL kk l yL_whole wsL_whole ({ frames := 8, cells := 1, slots := 6, locals := 123 } : Room) dC dI (wTys cI cD cJ) [.ref (g 0), .int p1, .ref a] (wSys cI cD kk.1 g x ++ wLrow cJ a o) (.inr (some (.int out.1), wSys cI cD kk.1 g out.2.1 ++ wLrow cJ a out.2.2)) 1 6 := by
  refine wk_enterL (cc := cL_whole) (maxL := 4) (ret := some .int) (hh := [(0, 9, 12, 13)]) (by decide) rfl (Nat.le_of_ble_eq_true rfl) ?_
  intro p e s m below meth c A Q ls hB htab hN hT hA hP hD hQ hl
  obtain ⟨hx, hb, hml, hr, hts, hown, hname, hlocks, hG⟩ := hB
  have hown : s.vm.findClass RL = some m.cls := hown
  have hS : va_S A s.heap s.heap [] := va_S.rf
  have hl : lv_has ls 4 [(0, .ref (g 0)), (1, .int p1), (2, .ref a)] := hl
  obtain ⟨H, hH⟩ : ∃ z, z = s.heap := ⟨_, rfl⟩
  have hP : va_P (dC, dI) vwCl (wSys cI cD kk.1 g x ++ wLrow cJ a o) H := by rw [hH]; exact hP
  have hS : va_S A s.heap H [] := by rw [hH]; exact hS
  refine wk_at hH ?_
  generalize ([] : List Loc) = locs at hS ⊢
  unfold M_L_whole at hM
  obtain ⟨r, hr9, hM⟩ := ob hM
  refine lv_aload_n hx hb dL_whole_0 rfl (lv_at hl 2 rfl) ?_
  refine lv_iconst (v := 0) hx hb dL_whole_1 (by decide) ?_
  refine lv_aload_n hx hb dL_whole_2 rfl (lv_at hl 0 rfl) ?_
  refine lv_iload_n hx hb dL_whole_3 rfl (lv_at hl 1 rfl) ?_
  rcases r with f0 | r0
  · refine wk_callX (vx_runV (As := [.int p1]) (rest := [.int 0, .ref a]) ⟨hx, hb, hml, hown, hts⟩ (c_X6_whole l hflags dC dI cI cD cJ kk g x p1 _ hr9 H) (cwV 1 hts gL_whole_X6_whole rfl rfl rfl (by decide +kernel) ⟨(Nat.le_of_ble_eq_true rfl), (Nat.le_of_ble_eq_true rfl)⟩) (wk_preVT (ci := 4) (q0 := 0) hG hP hD hT hS (fun _ h9 => h9) [0, 1, 2, 3, 4, 5, 6, 7, 8, 9, 10, 11, 12, 13, 14, 15, 16, 17, 18, 19, 20, 21, 22, 23, 24, 25, 26, 27, 28, 29, 30, 31, 32, 33, 34, 35, 36, 37] rfl rfl rfl rfl (va_free hD hS hA [0, 1, 2, 3, 4, 5, 6, 7, 8, 9, 10, 11, 12, 13, 14, 15, 16, 17, 18, 19, 20, 21, 22, 23, 24, 25, 26, 27, 28, 29, 30, 31, 32, 33, 34, 35, 36, 37] rfl)) rfl rfl hl.1 rfl (lv_room (Nat.le_of_ble_eq_true rfl)) dL_whole_4 ⟨(Nat.le_of_ble_eq_true rfl), (Nat.le_of_ble_eq_true rfl)⟩) hP hD hS hA [0, 1, 2, 3, 4, 5, 6, 7, 8, 9, 10, 11, 12, 13, 14, 15, 16, 17, 18, 19, 20, 21, 22, 23, 24, 25, 26, 27, 28, 29, 30, 31, 32, 33, 34, 35, 36, 37] [38] [1, 2, 3, 4, 5, 6, 7, 8, 9, 10, 11, 12, 13, 14, 15, 16, 17, 18, 19, 20, 21, 22, 23, 24, 25, 26, 27, 28, 29, 30, 31, 32, 33, 34, 35, 36, 37, 38, 0] rfl rfl rfl (by decide) rfl rfl (fun f9 ce q9 H locs ho9 hP hD hS hc9 hv9 hf9 => ?_) (fun ov w1 ho9 => by cases ho9)
    cases ho9
    by_cases e0 : f0 = 2
    · replace hM := (if_pos e0).symm.trans hM
      replace hM := Option.some.inj hM
      subst hM
      have hf9 : s.vm.findClass xIA = some ce.cls := by rw [e0] at hf9; exact hf9
      refine vx_catch (name := xIA) (E := xIA) (ce := ce) hown [] (ExceptionTableEntry.mk 0 9 12 13) [] htab (fun z hz => by cases hz) rfl (by decide) (hts (.classLink RL 13 xIA) (by decide +kernel)) (va_Nw.use rfl (hG.2 _ (List.mem_of_getElem? (i := 14) rfl))) hc9 hv9 hf9 ?_
      refine lv_astore_n (lv' := [(3, .ref q9), (0, .ref (g 0)), (1, .int p1), (2, .ref a)]) hx hb dL_whole_12 rfl hl (by decide) rfl (fun ls hl => ?_)
      refine lv_iconst (v := 1) hx hb dL_whole_13 (by decide) ?_
      exact wk_retXi hx hb hr hlocks hQ rfl rfl hP hD hS (Nat.le_of_ble_eq_true rfl) (Nat.le_of_ble_eq_true rfl) dL_whole_14
    replace hM := (if_neg e0).symm.trans hM
    cases hM
  · refine wk_callX (vx_runV (As := [.int p1]) (rest := [.int 0, .ref a]) ⟨hx, hb, hml, hown, hts⟩ (c_X6_whole l hflags dC dI cI cD cJ kk g x p1 _ hr9 H) (cwV 1 hts gL_whole_X6_whole rfl rfl rfl (by decide +kernel) ⟨(Nat.le_of_ble_eq_true rfl), (Nat.le_of_ble_eq_true rfl)⟩) (wk_preVT (ci := 4) (q0 := 0) hG hP hD hT hS (fun _ h9 => h9) [0, 1, 2, 3, 4, 5, 6, 7, 8, 9, 10, 11, 12, 13, 14, 15, 16, 17, 18, 19, 20, 21, 22, 23, 24, 25, 26, 27, 28, 29, 30, 31, 32, 33, 34, 35, 36, 37] rfl rfl rfl rfl (va_free hD hS hA [0, 1, 2, 3, 4, 5, 6, 7, 8, 9, 10, 11, 12, 13, 14, 15, 16, 17, 18, 19, 20, 21, 22, 23, 24, 25, 26, 27, 28, 29, 30, 31, 32, 33, 34, 35, 36, 37] rfl)) rfl rfl hl.1 rfl (lv_room (Nat.le_of_ble_eq_true rfl)) dL_whole_4 ⟨(Nat.le_of_ble_eq_true rfl), (Nat.le_of_ble_eq_true rfl)⟩) hP hD hS hA [0, 1, 2, 3, 4, 5, 6, 7, 8, 9, 10, 11, 12, 13, 14, 15, 16, 17, 18, 19, 20, 21, 22, 23, 24, 25, 26, 27, 28, 29, 30, 31, 32, 33, 34, 35, 36, 37] [38] [1, 2, 3, 4, 5, 6, 7, 8, 9, 10, 11, 12, 13, 14, 15, 16, 17, 18, 19, 20, 21, 22, 23, 24, 25, 26, 27, 28, 29, 30, 31, 32, 33, 34, 35, 36, 37, 38, 0] rfl rfl rfl (by decide) rfl rfl (fun f9 ce q9 H locs ho9 hP hD hS hc9 hv9 hf9 => by cases ho9) (fun ov w1 ho9 H locs hPD hS => ?_)
    cases ho9
    obtain ⟨hP, hD⟩ := hPD (wSys cI cD kk.1 g x ++ wLrow cJ a o) rfl
    replace hM := Option.some.inj hM
    subst hM
    refine lv_i2l hx hb dL_whole_7 rfl ?_
    refine va_last hx hb hG.1 hP hD hS 38 2 rfl rfl (vpb_in.mp (by decide)) dL_whole_8 (fun H locs hP hD hS => ?_)
    have hP : va_P (dC, dI) vwCl (wSys cI cD kk.1 g x ++ wLrow cJ a (vp_updL o 0 (r0).toInt64)) H := hP
    have hD : va_D A (wSys cI cD kk.1 g x ++ wLrow cJ a (vp_updL o 0 (r0).toInt64)) := hD
    refine lv_goto (tgt := 15) hx hb dL_whole_9 (by decide) ?_
    refine lv_iconst (v := 0) hx hb dL_whole_15 (by decide) ?_
    exact wk_retXi hx hb hr hlocks hQ rfl rfl hP hD hS (Nat.le_of_ble_eq_true rfl) (Nat.le_of_ble_eq_true rfl) dL_whole_16
set_option maxHeartbeats 4000000 in
set_option maxRecDepth 100000 in
theorem c_L_waitsFor (l : Launch) (hflags : l.stackTraces = false) (dC : Nat → ClassId) (dI : Nat → Nat → Nat) (cI cD cJ : ClassId) (kk : wAd) (g : Nat → Nat) (a : Nat) (x : SS) (o : Nat → Int64) (p1 : Int32) (out : Int32 × (SS × (Nat → Int64))) (hM : M_L_waitsFor x o p1 = some out) : CL kk l yL_waitsFor wsL_waitsFor ({ frames := 8, cells := 1, slots := 6, locals := 123 } : Room) dC dI (wTys cI cD cJ) [.ref (g 0), .int p1, .ref a] (wSys cI cD kk.1 g x ++ wLrow cJ a o) (.inr (some (.int out.1), wSys cI cD kk.1 g out.2.1 ++ wLrow cJ a out.2.2)) 1 6 := by
  refine wk_enterL (cc := cL_waitsFor) (maxL := 4) (ret := some .int) (hh := [(0, 9, 12, 25)]) (by decide) rfl (Nat.le_of_ble_eq_true rfl) ?_
  intro p e s m below meth c A Q ls hB htab hN hT hA hP hD hQ hl
  obtain ⟨hx, hb, hml, hr, hts, hown, hname, hlocks, hG⟩ := hB
  have hown : s.vm.findClass RL = some m.cls := hown
  have hS : va_S A s.heap s.heap [] := va_S.rf
  have hl : lv_has ls 4 [(0, .ref (g 0)), (1, .int p1), (2, .ref a)] := hl
  obtain ⟨H, hH⟩ : ∃ z, z = s.heap := ⟨_, rfl⟩
  have hP : va_P (dC, dI) vwCl (wSys cI cD kk.1 g x ++ wLrow cJ a o) H := by rw [hH]; exact hP
  have hS : va_S A s.heap H [] := by rw [hH]; exact hS
  refine wk_at hH ?_
  generalize ([] : List Loc) = locs at hS ⊢
  unfold M_L_waitsFor at hM
  obtain ⟨r, hr9, hM⟩ := ob hM
  refine lv_aload_n hx hb dL_waitsFor_0 rfl (lv_at hl 2 rfl) ?_
  refine lv_iconst (v := 0) hx hb dL_waitsFor_1 (by decide) ?_
  refine lv_aload_n hx hb dL_waitsFor_2 rfl (lv_at hl 0 rfl) ?_
  refine lv_iload_n hx hb dL_waitsFor_3 rfl (lv_at hl 1 rfl) ?_
  rcases r with f0 | r0
  · refine wk_callX (vx_runV (As := [.int p1]) (rest := [.int 0, .ref a]) ⟨hx, hb, hml, hown, hts⟩ (c_X6_waitsFor l hflags dC dI cI cD cJ kk g x p1 _ hr9 H) (cwV 1 hts gL_waitsFor_X6_waitsFor rfl rfl rfl (by decide +kernel) ⟨(Nat.le_of_ble_eq_true rfl), (Nat.le_of_ble_eq_true rfl)⟩) (wk_preVT (ci := 4) (q0 := 0) hG hP hD hT hS (fun _ h9 => h9) [0, 1, 2, 3, 4, 5, 6, 7, 8, 9, 10, 11, 12, 13, 14, 15, 16, 17, 18, 19, 20, 21, 22, 23, 24, 25, 26, 27, 28, 29, 30, 31, 32, 33, 34, 35, 36, 37] rfl rfl rfl rfl (va_free hD hS hA [0, 1, 2, 3, 4, 5, 6, 7, 8, 9, 10, 11, 12, 13, 14, 15, 16, 17, 18, 19, 20, 21, 22, 23, 24, 25, 26, 27, 28, 29, 30, 31, 32, 33, 34, 35, 36, 37] rfl)) rfl rfl hl.1 rfl (lv_room (Nat.le_of_ble_eq_true rfl)) dL_waitsFor_4 ⟨(Nat.le_of_ble_eq_true rfl), (Nat.le_of_ble_eq_true rfl)⟩) hP hD hS hA [0, 1, 2, 3, 4, 5, 6, 7, 8, 9, 10, 11, 12, 13, 14, 15, 16, 17, 18, 19, 20, 21, 22, 23, 24, 25, 26, 27, 28, 29, 30, 31, 32, 33, 34, 35, 36, 37] [38] [1, 2, 3, 4, 5, 6, 7, 8, 9, 10, 11, 12, 13, 14, 15, 16, 17, 18, 19, 20, 21, 22, 23, 24, 25, 26, 27, 28, 29, 30, 31, 32, 33, 34, 35, 36, 37, 38, 0] rfl rfl rfl (by decide) rfl rfl (fun f9 ce q9 H locs ho9 hP hD hS hc9 hv9 hf9 => ?_) (fun ov w1 ho9 => by cases ho9)
    cases ho9
    by_cases e0 : f0 = 1
    · replace hM := (if_pos e0).symm.trans hM
      replace hM := Option.some.inj hM
      subst hM
      have hf9 : s.vm.findClass xIO = some ce.cls := by rw [e0] at hf9; exact hf9
      refine vx_catch (name := xIO) (E := xIO) (ce := ce) hown [] (ExceptionTableEntry.mk 0 9 12 25) [] htab (fun z hz => by cases hz) rfl (by decide) (hts (.classLink RL 25 xIO) (by decide +kernel)) (va_Nw.use rfl (hG.2 _ (List.mem_of_getElem? (i := 13) rfl))) hc9 hv9 hf9 ?_
      refine lv_astore_n (lv' := [(3, .ref q9), (0, .ref (g 0)), (1, .int p1), (2, .ref a)]) hx hb dL_waitsFor_12 rfl hl (by decide) rfl (fun ls hl => ?_)
      refine lv_iconst (v := 1) hx hb dL_waitsFor_13 (by decide) ?_
      exact wk_retXi hx hb hr hlocks hQ rfl rfl hP hD hS (Nat.le_of_ble_eq_true rfl) (Nat.le_of_ble_eq_true rfl) dL_waitsFor_14
    replace hM := (if_neg e0).symm.trans hM
    cases hM
  · refine wk_callX (vx_runV (As := [.int p1]) (rest := [.int 0, .ref a]) ⟨hx, hb, hml, hown, hts⟩ (c_X6_waitsFor l hflags dC dI cI cD cJ kk g x p1 _ hr9 H) (cwV 1 hts gL_waitsFor_X6_waitsFor rfl rfl rfl (by decide +kernel) ⟨(Nat.le_of_ble_eq_true rfl), (Nat.le_of_ble_eq_true rfl)⟩) (wk_preVT (ci := 4) (q0 := 0) hG hP hD hT hS (fun _ h9 => h9) [0, 1, 2, 3, 4, 5, 6, 7, 8, 9, 10, 11, 12, 13, 14, 15, 16, 17, 18, 19, 20, 21, 22, 23, 24, 25, 26, 27, 28, 29, 30, 31, 32, 33, 34, 35, 36, 37] rfl rfl rfl rfl (va_free hD hS hA [0, 1, 2, 3, 4, 5, 6, 7, 8, 9, 10, 11, 12, 13, 14, 15, 16, 17, 18, 19, 20, 21, 22, 23, 24, 25, 26, 27, 28, 29, 30, 31, 32, 33, 34, 35, 36, 37] rfl)) rfl rfl hl.1 rfl (lv_room (Nat.le_of_ble_eq_true rfl)) dL_waitsFor_4 ⟨(Nat.le_of_ble_eq_true rfl), (Nat.le_of_ble_eq_true rfl)⟩) hP hD hS hA [0, 1, 2, 3, 4, 5, 6, 7, 8, 9, 10, 11, 12, 13, 14, 15, 16, 17, 18, 19, 20, 21, 22, 23, 24, 25, 26, 27, 28, 29, 30, 31, 32, 33, 34, 35, 36, 37] [38] [1, 2, 3, 4, 5, 6, 7, 8, 9, 10, 11, 12, 13, 14, 15, 16, 17, 18, 19, 20, 21, 22, 23, 24, 25, 26, 27, 28, 29, 30, 31, 32, 33, 34, 35, 36, 37, 38, 0] rfl rfl rfl (by decide) rfl rfl (fun f9 ce q9 H locs ho9 hP hD hS hc9 hv9 hf9 => by cases ho9) (fun ov w1 ho9 H locs hPD hS => ?_)
    cases ho9
    obtain ⟨hP, hD⟩ := hPD (wSys cI cD kk.1 g x ++ wLrow cJ a o) rfl
    replace hM := Option.some.inj hM
    subst hM
    refine lv_i2l hx hb dL_waitsFor_7 rfl ?_
    refine va_last hx hb hG.1 hP hD hS 38 2 rfl rfl (vpb_in.mp (by decide)) dL_waitsFor_8 (fun H locs hP hD hS => ?_)
    have hP : va_P (dC, dI) vwCl (wSys cI cD kk.1 g x ++ wLrow cJ a (vp_updL o 0 (r0).toInt64)) H := hP
    have hD : va_D A (wSys cI cD kk.1 g x ++ wLrow cJ a (vp_updL o 0 (r0).toInt64)) := hD
    refine lv_goto (tgt := 15) hx hb dL_waitsFor_9 (by decide) ?_
    refine lv_iconst (v := 0) hx hb dL_waitsFor_15 (by decide) ?_
    exact wk_retXi hx hb hr hlocks hQ rfl rfl hP hD hS (Nat.le_of_ble_eq_true rfl) (Nat.le_of_ble_eq_true rfl) dL_waitsFor_16
set_option maxHeartbeats 4000000 in
set_option maxRecDepth 100000 in
theorem c_L_depth (l : Launch) (hflags : l.stackTraces = false) (dC : Nat → ClassId) (dI : Nat → Nat → Nat) (cI cD cJ : ClassId) (kk : wAd) (g : Nat → Nat) (a : Nat) (x : SS) (o : Nat → Int64) (p1 : Int32) (out : Int32 × (SS × (Nat → Int64))) (hM : M_L_depth x o p1 = some out) : CL kk l yL_depth wsL_depth ({ frames := 8, cells := 1, slots := 6, locals := 123 } : Room) dC dI (wTys cI cD cJ) [.ref (g 0), .int p1, .ref a] (wSys cI cD kk.1 g x ++ wLrow cJ a o) (.inr (some (.int out.1), wSys cI cD kk.1 g out.2.1 ++ wLrow cJ a out.2.2)) 1 6 := by
  refine wk_enterL (cc := cL_depth) (maxL := 4) (ret := some .int) (hh := [(0, 9, 12, 25)]) (by decide) rfl (Nat.le_of_ble_eq_true rfl) ?_
  intro p e s m below meth c A Q ls hB htab hN hT hA hP hD hQ hl
  obtain ⟨hx, hb, hml, hr, hts, hown, hname, hlocks, hG⟩ := hB
  have hown : s.vm.findClass RL = some m.cls := hown
  have hS : va_S A s.heap s.heap [] := va_S.rf
  have hl : lv_has ls 4 [(0, .ref (g 0)), (1, .int p1), (2, .ref a)] := hl
  obtain ⟨H, hH⟩ : ∃ z, z = s.heap := ⟨_, rfl⟩
  have hP : va_P (dC, dI) vwCl (wSys cI cD kk.1 g x ++ wLrow cJ a o) H := by rw [hH]; exact hP
  have hS : va_S A s.heap H [] := by rw [hH]; exact hS
  refine wk_at hH ?_
  generalize ([] : List Loc) = locs at hS ⊢
  unfold M_L_depth at hM
  obtain ⟨r, hr9, hM⟩ := ob hM
  refine lv_aload_n hx hb dL_depth_0 rfl (lv_at hl 2 rfl) ?_
  refine lv_iconst (v := 0) hx hb dL_depth_1 (by decide) ?_
  refine lv_aload_n hx hb dL_depth_2 rfl (lv_at hl 0 rfl) ?_
  refine lv_iload_n hx hb dL_depth_3 rfl (lv_at hl 1 rfl) ?_
  rcases r with f0 | r0
  · refine wk_callX (vx_runV (As := [.int p1]) (rest := [.int 0, .ref a]) ⟨hx, hb, hml, hown, hts⟩ (c_X6_depth l hflags dC dI cI cD cJ kk g x p1 _ hr9 H) (cwV 1 hts gL_depth_X6_depth rfl rfl rfl (by decide +kernel) ⟨(Nat.le_of_ble_eq_true rfl), (Nat.le_of_ble_eq_true rfl)⟩) (wk_preVT (ci := 4) (q0 := 0) hG hP hD hT hS (fun _ h9 => h9) [0, 1, 2, 3, 4, 5, 6, 7, 8, 9, 10, 11, 12, 13, 14, 15, 16, 17, 18, 19, 20, 21, 22, 23, 24, 25, 26, 27, 28, 29, 30, 31, 32, 33, 34, 35, 36, 37] rfl rfl rfl rfl (va_free hD hS hA [0, 1, 2, 3, 4, 5, 6, 7, 8, 9, 10, 11, 12, 13, 14, 15, 16, 17, 18, 19, 20, 21, 22, 23, 24, 25, 26, 27, 28, 29, 30, 31, 32, 33, 34, 35, 36, 37] rfl)) rfl rfl hl.1 rfl (lv_room (Nat.le_of_ble_eq_true rfl)) dL_depth_4 ⟨(Nat.le_of_ble_eq_true rfl), (Nat.le_of_ble_eq_true rfl)⟩) hP hD hS hA [0, 1, 2, 3, 4, 5, 6, 7, 8, 9, 10, 11, 12, 13, 14, 15, 16, 17, 18, 19, 20, 21, 22, 23, 24, 25, 26, 27, 28, 29, 30, 31, 32, 33, 34, 35, 36, 37] [38] [1, 2, 3, 4, 5, 6, 7, 8, 9, 10, 11, 12, 13, 14, 15, 16, 17, 18, 19, 20, 21, 22, 23, 24, 25, 26, 27, 28, 29, 30, 31, 32, 33, 34, 35, 36, 37, 38, 0] rfl rfl rfl (by decide) rfl rfl (fun f9 ce q9 H locs ho9 hP hD hS hc9 hv9 hf9 => ?_) (fun ov w1 ho9 => by cases ho9)
    cases ho9
    by_cases e0 : f0 = 1
    · replace hM := (if_pos e0).symm.trans hM
      replace hM := Option.some.inj hM
      subst hM
      have hf9 : s.vm.findClass xIO = some ce.cls := by rw [e0] at hf9; exact hf9
      refine vx_catch (name := xIO) (E := xIO) (ce := ce) hown [] (ExceptionTableEntry.mk 0 9 12 25) [] htab (fun z hz => by cases hz) rfl (by decide) (hts (.classLink RL 25 xIO) (by decide +kernel)) (va_Nw.use rfl (hG.2 _ (List.mem_of_getElem? (i := 13) rfl))) hc9 hv9 hf9 ?_
      refine lv_astore_n (lv' := [(3, .ref q9), (0, .ref (g 0)), (1, .int p1), (2, .ref a)]) hx hb dL_depth_12 rfl hl (by decide) rfl (fun ls hl => ?_)
      refine lv_iconst (v := 1) hx hb dL_depth_13 (by decide) ?_
      exact wk_retXi hx hb hr hlocks hQ rfl rfl hP hD hS (Nat.le_of_ble_eq_true rfl) (Nat.le_of_ble_eq_true rfl) dL_depth_14
    replace hM := (if_neg e0).symm.trans hM
    cases hM
  · refine wk_callX (vx_runV (As := [.int p1]) (rest := [.int 0, .ref a]) ⟨hx, hb, hml, hown, hts⟩ (c_X6_depth l hflags dC dI cI cD cJ kk g x p1 _ hr9 H) (cwV 1 hts gL_depth_X6_depth rfl rfl rfl (by decide +kernel) ⟨(Nat.le_of_ble_eq_true rfl), (Nat.le_of_ble_eq_true rfl)⟩) (wk_preVT (ci := 4) (q0 := 0) hG hP hD hT hS (fun _ h9 => h9) [0, 1, 2, 3, 4, 5, 6, 7, 8, 9, 10, 11, 12, 13, 14, 15, 16, 17, 18, 19, 20, 21, 22, 23, 24, 25, 26, 27, 28, 29, 30, 31, 32, 33, 34, 35, 36, 37] rfl rfl rfl rfl (va_free hD hS hA [0, 1, 2, 3, 4, 5, 6, 7, 8, 9, 10, 11, 12, 13, 14, 15, 16, 17, 18, 19, 20, 21, 22, 23, 24, 25, 26, 27, 28, 29, 30, 31, 32, 33, 34, 35, 36, 37] rfl)) rfl rfl hl.1 rfl (lv_room (Nat.le_of_ble_eq_true rfl)) dL_depth_4 ⟨(Nat.le_of_ble_eq_true rfl), (Nat.le_of_ble_eq_true rfl)⟩) hP hD hS hA [0, 1, 2, 3, 4, 5, 6, 7, 8, 9, 10, 11, 12, 13, 14, 15, 16, 17, 18, 19, 20, 21, 22, 23, 24, 25, 26, 27, 28, 29, 30, 31, 32, 33, 34, 35, 36, 37] [38] [1, 2, 3, 4, 5, 6, 7, 8, 9, 10, 11, 12, 13, 14, 15, 16, 17, 18, 19, 20, 21, 22, 23, 24, 25, 26, 27, 28, 29, 30, 31, 32, 33, 34, 35, 36, 37, 38, 0] rfl rfl rfl (by decide) rfl rfl (fun f9 ce q9 H locs ho9 hP hD hS hc9 hv9 hf9 => by cases ho9) (fun ov w1 ho9 H locs hPD hS => ?_)
    cases ho9
    obtain ⟨hP, hD⟩ := hPD (wSys cI cD kk.1 g r0.2 ++ wLrow cJ a o) rfl
    replace hM := Option.some.inj hM
    subst hM
    refine lv_i2l hx hb dL_depth_7 rfl ?_
    refine va_last hx hb hG.1 hP hD hS 38 2 rfl rfl (vpb_in.mp (by decide)) dL_depth_8 (fun H locs hP hD hS => ?_)
    have hP : va_P (dC, dI) vwCl (wSys cI cD kk.1 g r0.2 ++ wLrow cJ a (vp_updL o 0 (r0.1).toInt64)) H := hP
    have hD : va_D A (wSys cI cD kk.1 g r0.2 ++ wLrow cJ a (vp_updL o 0 (r0.1).toInt64)) := hD
    refine lv_goto (tgt := 15) hx hb dL_depth_9 (by decide) ?_
    refine lv_iconst (v := 0) hx hb dL_depth_15 (by decide) ?_
    exact wk_retXi hx hb hr hlocks hQ rfl rfl hP hD hS (Nat.le_of_ble_eq_true rfl) (Nat.le_of_ble_eq_true rfl) dL_depth_16
set_option maxHeartbeats 4000000 in
set_option maxRecDepth 100000 in
theorem c_L_nextFor (l : Launch) (hflags : l.stackTraces = false) (dC : Nat → ClassId) (dI : Nat → Nat → Nat) (cI cD cJ : ClassId) (kk : wAd) (g : Nat → Nat) (a : Nat) (x : SS) (o : Nat → Int64) (p1 : Int32) (out : Int32 × (SS × (Nat → Int64))) (hM : M_L_nextFor x o p1 = some out) : CL kk l yL_nextFor wsL_nextFor ({ frames := 8, cells := 1, slots := 6, locals := 123 } : Room) dC dI (wTys cI cD cJ) [.ref (g 0), .int p1, .ref a] (wSys cI cD kk.1 g x ++ wLrow cJ a o) (.inr (some (.int out.1), wSys cI cD kk.1 g out.2.1 ++ wLrow cJ a out.2.2)) 1 6 := by
  refine wk_enterL (cc := cL_nextFor) (maxL := 4) (ret := some .int) (hh := [(0, 9, 12, 25)]) (by decide) rfl (Nat.le_of_ble_eq_true rfl) ?_
  intro p e s m below meth c A Q ls hB htab hN hT hA hP hD hQ hl
  obtain ⟨hx, hb, hml, hr, hts, hown, hname, hlocks, hG⟩ := hB
  have hown : s.vm.findClass RL = some m.cls := hown
  have hS : va_S A s.heap s.heap [] := va_S.rf
  have hl : lv_has ls 4 [(0, .ref (g 0)), (1, .int p1), (2, .ref a)] := hl
  obtain ⟨H, hH⟩ : ∃ z, z = s.heap := ⟨_, rfl⟩
  have hP : va_P (dC, dI) vwCl (wSys cI cD kk.1 g x ++ wLrow cJ a o) H := by rw [hH]; exact hP
  have hS : va_S A s.heap H [] := by rw [hH]; exact hS
  refine wk_at hH ?_
  generalize ([] : List Loc) = locs at hS ⊢
  unfold M_L_nextFor at hM
  obtain ⟨r, hr9, hM⟩ := ob hM
  refine lv_aload_n hx hb dL_nextFor_0 rfl (lv_at hl 2 rfl) ?_
  refine lv_iconst (v := 0) hx hb dL_nextFor_1 (by decide) ?_
  refine lv_aload_n hx hb dL_nextFor_2 rfl (lv_at hl 0 rfl) ?_
  refine lv_iload_n hx hb dL_nextFor_3 rfl (lv_at hl 1 rfl) ?_
  rcases r with f0 | r0
  · refine wk_callX (vx_runV (As := [.int p1]) (rest := [.int 0, .ref a]) ⟨hx, hb, hml, hown, hts⟩ (c_X6_nextFor l hflags dC dI cI cD cJ kk g x p1 _ hr9 H) (cwV 1 hts gL_nextFor_X6_nextFor rfl rfl rfl (by decide +kernel) ⟨(Nat.le_of_ble_eq_true rfl), (Nat.le_of_ble_eq_true rfl)⟩) (wk_preVT (ci := 4) (q0 := 0) hG hP hD hT hS (fun _ h9 => h9) [0, 1, 2, 3, 4, 5, 6, 7, 8, 9, 10, 11, 12, 13, 14, 15, 16, 17, 18, 19, 20, 21, 22, 23, 24, 25, 26, 27, 28, 29, 30, 31, 32, 33, 34, 35, 36, 37] rfl rfl rfl rfl (va_free hD hS hA [0, 1, 2, 3, 4, 5, 6, 7, 8, 9, 10, 11, 12, 13, 14, 15, 16, 17, 18, 19, 20, 21, 22, 23, 24, 25, 26, 27, 28, 29, 30, 31, 32, 33, 34, 35, 36, 37] rfl)) rfl rfl hl.1 rfl (lv_room (Nat.le_of_ble_eq_true rfl)) dL_nextFor_4 ⟨(Nat.le_of_ble_eq_true rfl), (Nat.le_of_ble_eq_true rfl)⟩) hP hD hS hA [0, 1, 2, 3, 4, 5, 6, 7, 8, 9, 10, 11, 12, 13, 14, 15, 16, 17, 18, 19, 20, 21, 22, 23, 24, 25, 26, 27, 28, 29, 30, 31, 32, 33, 34, 35, 36, 37] [38] [1, 2, 3, 4, 5, 6, 7, 8, 9, 10, 11, 12, 13, 14, 15, 16, 17, 18, 19, 20, 21, 22, 23, 24, 25, 26, 27, 28, 29, 30, 31, 32, 33, 34, 35, 36, 37, 38, 0] rfl rfl rfl (by decide) rfl rfl (fun f9 ce q9 H locs ho9 hP hD hS hc9 hv9 hf9 => ?_) (fun ov w1 ho9 => by cases ho9)
    cases ho9
    by_cases e0 : f0 = 1
    · replace hM := (if_pos e0).symm.trans hM
      replace hM := Option.some.inj hM
      subst hM
      have hf9 : s.vm.findClass xIO = some ce.cls := by rw [e0] at hf9; exact hf9
      refine vx_catch (name := xIO) (E := xIO) (ce := ce) hown [] (ExceptionTableEntry.mk 0 9 12 25) [] htab (fun z hz => by cases hz) rfl (by decide) (hts (.classLink RL 25 xIO) (by decide +kernel)) (va_Nw.use rfl (hG.2 _ (List.mem_of_getElem? (i := 13) rfl))) hc9 hv9 hf9 ?_
      refine lv_astore_n (lv' := [(3, .ref q9), (0, .ref (g 0)), (1, .int p1), (2, .ref a)]) hx hb dL_nextFor_12 rfl hl (by decide) rfl (fun ls hl => ?_)
      refine lv_iconst (v := 1) hx hb dL_nextFor_13 (by decide) ?_
      exact wk_retXi hx hb hr hlocks hQ rfl rfl hP hD hS (Nat.le_of_ble_eq_true rfl) (Nat.le_of_ble_eq_true rfl) dL_nextFor_14
    replace hM := (if_neg e0).symm.trans hM
    cases hM
  · refine wk_callX (vx_runV (As := [.int p1]) (rest := [.int 0, .ref a]) ⟨hx, hb, hml, hown, hts⟩ (c_X6_nextFor l hflags dC dI cI cD cJ kk g x p1 _ hr9 H) (cwV 1 hts gL_nextFor_X6_nextFor rfl rfl rfl (by decide +kernel) ⟨(Nat.le_of_ble_eq_true rfl), (Nat.le_of_ble_eq_true rfl)⟩) (wk_preVT (ci := 4) (q0 := 0) hG hP hD hT hS (fun _ h9 => h9) [0, 1, 2, 3, 4, 5, 6, 7, 8, 9, 10, 11, 12, 13, 14, 15, 16, 17, 18, 19, 20, 21, 22, 23, 24, 25, 26, 27, 28, 29, 30, 31, 32, 33, 34, 35, 36, 37] rfl rfl rfl rfl (va_free hD hS hA [0, 1, 2, 3, 4, 5, 6, 7, 8, 9, 10, 11, 12, 13, 14, 15, 16, 17, 18, 19, 20, 21, 22, 23, 24, 25, 26, 27, 28, 29, 30, 31, 32, 33, 34, 35, 36, 37] rfl)) rfl rfl hl.1 rfl (lv_room (Nat.le_of_ble_eq_true rfl)) dL_nextFor_4 ⟨(Nat.le_of_ble_eq_true rfl), (Nat.le_of_ble_eq_true rfl)⟩) hP hD hS hA [0, 1, 2, 3, 4, 5, 6, 7, 8, 9, 10, 11, 12, 13, 14, 15, 16, 17, 18, 19, 20, 21, 22, 23, 24, 25, 26, 27, 28, 29, 30, 31, 32, 33, 34, 35, 36, 37] [38] [1, 2, 3, 4, 5, 6, 7, 8, 9, 10, 11, 12, 13, 14, 15, 16, 17, 18, 19, 20, 21, 22, 23, 24, 25, 26, 27, 28, 29, 30, 31, 32, 33, 34, 35, 36, 37, 38, 0] rfl rfl rfl (by decide) rfl rfl (fun f9 ce q9 H locs ho9 hP hD hS hc9 hv9 hf9 => by cases ho9) (fun ov w1 ho9 H locs hPD hS => ?_)
    cases ho9
    obtain ⟨hP, hD⟩ := hPD (wSys cI cD kk.1 g x ++ wLrow cJ a o) rfl
    replace hM := Option.some.inj hM
    subst hM
    refine lv_i2l hx hb dL_nextFor_7 rfl ?_
    refine va_last hx hb hG.1 hP hD hS 38 2 rfl rfl (vpb_in.mp (by decide)) dL_nextFor_8 (fun H locs hP hD hS => ?_)
    have hP : va_P (dC, dI) vwCl (wSys cI cD kk.1 g x ++ wLrow cJ a (vp_updL o 0 (r0).toInt64)) H := hP
    have hD : va_D A (wSys cI cD kk.1 g x ++ wLrow cJ a (vp_updL o 0 (r0).toInt64)) := hD
    refine lv_goto (tgt := 15) hx hb dL_nextFor_9 (by decide) ?_
    refine lv_iconst (v := 0) hx hb dL_nextFor_15 (by decide) ?_
    exact wk_retXi hx hb hr hlocks hQ rfl rfl hP hD hS (Nat.le_of_ble_eq_true rfl) (Nat.le_of_ble_eq_true rfl) dL_nextFor_16
set_option maxHeartbeats 4000000 in
set_option maxRecDepth 100000 in
theorem c_L_reason (l : Launch) (hflags : l.stackTraces = false) (dC : Nat → ClassId) (dI : Nat → Nat → Nat) (cI cD cJ : ClassId) (kk : wAd) (g : Nat → Nat) (a : Nat) (x : SS) (o : Nat → Int64) (p1 : Int32) (p2 : Int32) (out : Int32 × (SS × (Nat → Int64))) (hM : M_L_reason x o p1 p2 = some out) : CL kk l yL_reason wsL_reason ({ frames := 8, cells := 2, slots := 12, locals := 135 } : Room) dC dI (wTys cI cD cJ) [.ref (g 0), .int p1, .int p2, .ref a] (wSys cI cD kk.1 g x ++ wLrow cJ a o) (.inr (some (.int out.1), wSys cI cD kk.1 g out.2.1 ++ wLrow cJ a out.2.2)) 2 12 := by
  refine wk_enterL (cc := cL_reason) (maxL := 5) (ret := some .int) (hh := [(0, 10, 13, 25)]) (by decide) rfl (Nat.le_of_ble_eq_true rfl) ?_
  intro p e s m below meth c A Q ls hB htab hN hT hA hP hD hQ hl
  obtain ⟨hx, hb, hml, hr, hts, hown, hname, hlocks, hG⟩ := hB
  have hown : s.vm.findClass RL = some m.cls := hown
  have hS : va_S A s.heap s.heap [] := va_S.rf
  have hl : lv_has ls 5 [(0, .ref (g 0)), (1, .int p1), (2, .int p2), (3, .ref a)] := hl
  obtain ⟨H, hH⟩ : ∃ z, z = s.heap := ⟨_, rfl⟩
  have hP : va_P (dC, dI) vwCl (wSys cI cD kk.1 g x ++ wLrow cJ a o) H := by rw [hH]; exact hP
  have hS : va_S A s.heap H [] := by rw [hH]; exact hS
  refine wk_at hH ?_
  generalize ([] : List Loc) = locs at hS ⊢
  unfold M_L_reason at hM
  obtain ⟨r, hr9, hM⟩ := ob hM
  refine lv_aload_n hx hb dL_reason_0 rfl (lv_at hl 3 rfl) ?_
  refine lv_iconst (v := 0) hx hb dL_reason_1 (by decide) ?_
  refine lv_aload_n hx hb dL_reason_2 rfl (lv_at hl 0 rfl) ?_
  refine lv_iload_n hx hb dL_reason_3 rfl (lv_at hl 1 rfl) ?_
  refine lv_iload_n hx hb dL_reason_4 rfl (lv_at hl 2 rfl) ?_
  rcases r with f0 | r0
  · refine wk_callX (vx_runV (As := [.int p1, .int p2]) (rest := [.int 0, .ref a]) ⟨hx, hb, hml, hown, hts⟩ (c_X6_reason l hflags dC dI cI cD cJ kk g x p1 p2 _ hr9 H) (cwV 2 hts gL_reason_X6_reason rfl rfl rfl (by decide +kernel) ⟨(Nat.le_of_ble_eq_true rfl), (Nat.le_of_ble_eq_true rfl)⟩) (wk_preVT (ci := 4) (q0 := 0) hG hP hD hT hS (fun _ h9 => h9) [0, 1, 2, 3, 4, 5, 6, 7, 8, 9, 10, 11, 12, 13, 14, 15, 16, 17, 18, 19, 20, 21, 22, 23, 24, 25, 26, 27, 28, 29, 30, 31, 32, 33, 34, 35, 36, 37] rfl rfl rfl rfl (va_free hD hS hA [0, 1, 2, 3, 4, 5, 6, 7, 8, 9, 10, 11, 12, 13, 14, 15, 16, 17, 18, 19, 20, 21, 22, 23, 24, 25, 26, 27, 28, 29, 30, 31, 32, 33, 34, 35, 36, 37] rfl)) rfl rfl hl.1 rfl (lv_room (Nat.le_of_ble_eq_true rfl)) dL_reason_5 ⟨(Nat.le_of_ble_eq_true rfl), (Nat.le_of_ble_eq_true rfl)⟩) hP hD hS hA [0, 1, 2, 3, 4, 5, 6, 7, 8, 9, 10, 11, 12, 13, 14, 15, 16, 17, 18, 19, 20, 21, 22, 23, 24, 25, 26, 27, 28, 29, 30, 31, 32, 33, 34, 35, 36, 37] [38] [1, 2, 3, 4, 5, 6, 7, 8, 9, 10, 11, 12, 13, 14, 15, 16, 17, 18, 19, 20, 21, 22, 23, 24, 25, 26, 27, 28, 29, 30, 31, 32, 33, 34, 35, 36, 37, 38, 0] rfl rfl rfl (by decide) rfl rfl (fun f9 ce q9 H locs ho9 hP hD hS hc9 hv9 hf9 => ?_) (fun ov w1 ho9 => by cases ho9)
    cases ho9
    by_cases e0 : f0 = 1
    · replace hM := (if_pos e0).symm.trans hM
      replace hM := Option.some.inj hM
      subst hM
      have hf9 : s.vm.findClass xIO = some ce.cls := by rw [e0] at hf9; exact hf9
      refine vx_catch (name := xIO) (E := xIO) (ce := ce) hown [] (ExceptionTableEntry.mk 0 10 13 25) [] htab (fun z hz => by cases hz) rfl (by decide) (hts (.classLink RL 25 xIO) (by decide +kernel)) (va_Nw.use rfl (hG.2 _ (List.mem_of_getElem? (i := 13) rfl))) hc9 hv9 hf9 ?_
      refine lv_astore (lv' := [(4, .ref q9), (0, .ref (g 0)), (1, .int p1), (2, .int p2), (3, .ref a)]) hx hb dL_reason_13 hl (by decide) rfl (fun ls hl => ?_)
      refine lv_iconst (v := 1) hx hb dL_reason_15 (by decide) ?_
      exact wk_retXi hx hb hr hlocks hQ rfl rfl hP hD hS (Nat.le_of_ble_eq_true rfl) (Nat.le_of_ble_eq_true rfl) dL_reason_16
    replace hM := (if_neg e0).symm.trans hM
    cases hM
  · refine wk_callX (vx_runV (As := [.int p1, .int p2]) (rest := [.int 0, .ref a]) ⟨hx, hb, hml, hown, hts⟩ (c_X6_reason l hflags dC dI cI cD cJ kk g x p1 p2 _ hr9 H) (cwV 2 hts gL_reason_X6_reason rfl rfl rfl (by decide +kernel) ⟨(Nat.le_of_ble_eq_true rfl), (Nat.le_of_ble_eq_true rfl)⟩) (wk_preVT (ci := 4) (q0 := 0) hG hP hD hT hS (fun _ h9 => h9) [0, 1, 2, 3, 4, 5, 6, 7, 8, 9, 10, 11, 12, 13, 14, 15, 16, 17, 18, 19, 20, 21, 22, 23, 24, 25, 26, 27, 28, 29, 30, 31, 32, 33, 34, 35, 36, 37] rfl rfl rfl rfl (va_free hD hS hA [0, 1, 2, 3, 4, 5, 6, 7, 8, 9, 10, 11, 12, 13, 14, 15, 16, 17, 18, 19, 20, 21, 22, 23, 24, 25, 26, 27, 28, 29, 30, 31, 32, 33, 34, 35, 36, 37] rfl)) rfl rfl hl.1 rfl (lv_room (Nat.le_of_ble_eq_true rfl)) dL_reason_5 ⟨(Nat.le_of_ble_eq_true rfl), (Nat.le_of_ble_eq_true rfl)⟩) hP hD hS hA [0, 1, 2, 3, 4, 5, 6, 7, 8, 9, 10, 11, 12, 13, 14, 15, 16, 17, 18, 19, 20, 21, 22, 23, 24, 25, 26, 27, 28, 29, 30, 31, 32, 33, 34, 35, 36, 37] [38] [1, 2, 3, 4, 5, 6, 7, 8, 9, 10, 11, 12, 13, 14, 15, 16, 17, 18, 19, 20, 21, 22, 23, 24, 25, 26, 27, 28, 29, 30, 31, 32, 33, 34, 35, 36, 37, 38, 0] rfl rfl rfl (by decide) rfl rfl (fun f9 ce q9 H locs ho9 hP hD hS hc9 hv9 hf9 => by cases ho9) (fun ov w1 ho9 H locs hPD hS => ?_)
    cases ho9
    obtain ⟨hP, hD⟩ := hPD (wSys cI cD kk.1 g x ++ wLrow cJ a o) rfl
    replace hM := Option.some.inj hM
    subst hM
    refine lv_i2l hx hb dL_reason_8 rfl ?_
    refine va_last hx hb hG.1 hP hD hS 38 2 rfl rfl (vpb_in.mp (by decide)) dL_reason_9 (fun H locs hP hD hS => ?_)
    have hP : va_P (dC, dI) vwCl (wSys cI cD kk.1 g x ++ wLrow cJ a (vp_updL o 0 (r0).toInt64)) H := hP
    have hD : va_D A (wSys cI cD kk.1 g x ++ wLrow cJ a (vp_updL o 0 (r0).toInt64)) := hD
    refine lv_goto (tgt := 17) hx hb dL_reason_10 (by decide) ?_
    refine lv_iconst (v := 0) hx hb dL_reason_17 (by decide) ?_
    exact wk_retXi hx hb hr hlocks hQ rfl rfl hP hD hS (Nat.le_of_ble_eq_true rfl) (Nat.le_of_ble_eq_true rfl) dL_reason_18
set_option maxHeartbeats 4000000 in
set_option maxRecDepth 100000 in
theorem c_L_finalValue (l : Launch) (hflags : l.stackTraces = false) (dC : Nat → ClassId) (dI : Nat → Nat → Nat) (cI cD cJ : ClassId) (kk : wAd) (g : Nat → Nat) (a : Nat) (x : SS) (o : Nat → Int64) (p1 : Int32) (out : Int32 × (SS × (Nat → Int64))) (hM : M_L_finalValue x o p1 = some out) : CL kk l yL_finalValue wsL_finalValue ({ frames := 8, cells := 1, slots := 6, locals := 123 } : Room) dC dI (wTys cI cD cJ) [.ref (g 0), .int p1, .ref a] (wSys cI cD kk.1 g x ++ wLrow cJ a o) (.inr (some (.int out.1), wSys cI cD kk.1 g out.2.1 ++ wLrow cJ a out.2.2)) 1 6 := by
  refine wk_enterL (cc := cL_finalValue) (maxL := 4) (ret := some .int) (hh := [(0, 9, 12, 25)]) (by decide) rfl (Nat.le_of_ble_eq_true rfl) ?_
  intro p e s m below meth c A Q ls hB htab hN hT hA hP hD hQ hl
  obtain ⟨hx, hb, hml, hr, hts, hown, hname, hlocks, hG⟩ := hB
  have hown : s.vm.findClass RL = some m.cls := hown
  have hS : va_S A s.heap s.heap [] := va_S.rf
  have hl : lv_has ls 4 [(0, .ref (g 0)), (1, .int p1), (2, .ref a)] := hl
  obtain ⟨H, hH⟩ : ∃ z, z = s.heap := ⟨_, rfl⟩
  have hP : va_P (dC, dI) vwCl (wSys cI cD kk.1 g x ++ wLrow cJ a o) H := by rw [hH]; exact hP
  have hS : va_S A s.heap H [] := by rw [hH]; exact hS
  refine wk_at hH ?_
  generalize ([] : List Loc) = locs at hS ⊢
  unfold M_L_finalValue at hM
  obtain ⟨r, hr9, hM⟩ := ob hM
  refine lv_aload_n hx hb dL_finalValue_0 rfl (lv_at hl 2 rfl) ?_
  refine lv_iconst (v := 0) hx hb dL_finalValue_1 (by decide) ?_
  refine lv_aload_n hx hb dL_finalValue_2 rfl (lv_at hl 0 rfl) ?_
  refine lv_iload_n hx hb dL_finalValue_3 rfl (lv_at hl 1 rfl) ?_
  rcases r with f0 | r0
  · refine wk_callX (vx_runV (As := [.int p1]) (rest := [.int 0, .ref a]) ⟨hx, hb, hml, hown, hts⟩ (c_X6_finalValue l hflags dC dI cI cD cJ kk g x p1 _ hr9 H) (cwV 1 hts gL_finalValue_X6_finalValue rfl rfl rfl (by decide +kernel) ⟨(Nat.le_of_ble_eq_true rfl), (Nat.le_of_ble_eq_true rfl)⟩) (wk_preVT (ci := 4) (q0 := 0) hG hP hD hT hS (fun _ h9 => h9) [0, 1, 2, 3, 4, 5, 6, 7, 8, 9, 10, 11, 12, 13, 14, 15, 16, 17, 18, 19, 20, 21, 22, 23, 24, 25, 26, 27, 28, 29, 30, 31, 32, 33, 34, 35, 36, 37] rfl rfl rfl rfl (va_free hD hS hA [0, 1, 2, 3, 4, 5, 6, 7, 8, 9, 10, 11, 12, 13, 14, 15, 16, 17, 18, 19, 20, 21, 22, 23, 24, 25, 26, 27, 28, 29, 30, 31, 32, 33, 34, 35, 36, 37] rfl)) rfl rfl hl.1 rfl (lv_room (Nat.le_of_ble_eq_true rfl)) dL_finalValue_4 ⟨(Nat.le_of_ble_eq_true rfl), (Nat.le_of_ble_eq_true rfl)⟩) hP hD hS hA [0, 1, 2, 3, 4, 5, 6, 7, 8, 9, 10, 11, 12, 13, 14, 15, 16, 17, 18, 19, 20, 21, 22, 23, 24, 25, 26, 27, 28, 29, 30, 31, 32, 33, 34, 35, 36, 37] [38] [1, 2, 3, 4, 5, 6, 7, 8, 9, 10, 11, 12, 13, 14, 15, 16, 17, 18, 19, 20, 21, 22, 23, 24, 25, 26, 27, 28, 29, 30, 31, 32, 33, 34, 35, 36, 37, 38, 0] rfl rfl rfl (by decide) rfl rfl (fun f9 ce q9 H locs ho9 hP hD hS hc9 hv9 hf9 => ?_) (fun ov w1 ho9 => by cases ho9)
    cases ho9
    by_cases e0 : f0 = 1
    · replace hM := (if_pos e0).symm.trans hM
      replace hM := Option.some.inj hM
      subst hM
      have hf9 : s.vm.findClass xIO = some ce.cls := by rw [e0] at hf9; exact hf9
      refine vx_catch (name := xIO) (E := xIO) (ce := ce) hown [] (ExceptionTableEntry.mk 0 9 12 25) [] htab (fun z hz => by cases hz) rfl (by decide) (hts (.classLink RL 25 xIO) (by decide +kernel)) (va_Nw.use rfl (hG.2 _ (List.mem_of_getElem? (i := 13) rfl))) hc9 hv9 hf9 ?_
      refine lv_astore_n (lv' := [(3, .ref q9), (0, .ref (g 0)), (1, .int p1), (2, .ref a)]) hx hb dL_finalValue_12 rfl hl (by decide) rfl (fun ls hl => ?_)
      refine lv_iconst (v := 1) hx hb dL_finalValue_13 (by decide) ?_
      exact wk_retXi hx hb hr hlocks hQ rfl rfl hP hD hS (Nat.le_of_ble_eq_true rfl) (Nat.le_of_ble_eq_true rfl) dL_finalValue_14
    replace hM := (if_neg e0).symm.trans hM
    cases hM
  · refine wk_callX (vx_runV (As := [.int p1]) (rest := [.int 0, .ref a]) ⟨hx, hb, hml, hown, hts⟩ (c_X6_finalValue l hflags dC dI cI cD cJ kk g x p1 _ hr9 H) (cwV 1 hts gL_finalValue_X6_finalValue rfl rfl rfl (by decide +kernel) ⟨(Nat.le_of_ble_eq_true rfl), (Nat.le_of_ble_eq_true rfl)⟩) (wk_preVT (ci := 4) (q0 := 0) hG hP hD hT hS (fun _ h9 => h9) [0, 1, 2, 3, 4, 5, 6, 7, 8, 9, 10, 11, 12, 13, 14, 15, 16, 17, 18, 19, 20, 21, 22, 23, 24, 25, 26, 27, 28, 29, 30, 31, 32, 33, 34, 35, 36, 37] rfl rfl rfl rfl (va_free hD hS hA [0, 1, 2, 3, 4, 5, 6, 7, 8, 9, 10, 11, 12, 13, 14, 15, 16, 17, 18, 19, 20, 21, 22, 23, 24, 25, 26, 27, 28, 29, 30, 31, 32, 33, 34, 35, 36, 37] rfl)) rfl rfl hl.1 rfl (lv_room (Nat.le_of_ble_eq_true rfl)) dL_finalValue_4 ⟨(Nat.le_of_ble_eq_true rfl), (Nat.le_of_ble_eq_true rfl)⟩) hP hD hS hA [0, 1, 2, 3, 4, 5, 6, 7, 8, 9, 10, 11, 12, 13, 14, 15, 16, 17, 18, 19, 20, 21, 22, 23, 24, 25, 26, 27, 28, 29, 30, 31, 32, 33, 34, 35, 36, 37] [38] [1, 2, 3, 4, 5, 6, 7, 8, 9, 10, 11, 12, 13, 14, 15, 16, 17, 18, 19, 20, 21, 22, 23, 24, 25, 26, 27, 28, 29, 30, 31, 32, 33, 34, 35, 36, 37, 38, 0] rfl rfl rfl (by decide) rfl rfl (fun f9 ce q9 H locs ho9 hP hD hS hc9 hv9 hf9 => by cases ho9) (fun ov w1 ho9 H locs hPD hS => ?_)
    cases ho9
    obtain ⟨hP, hD⟩ := hPD (wSys cI cD kk.1 g r0.2 ++ wLrow cJ a o) rfl
    replace hM := Option.some.inj hM
    subst hM
    refine lv_i2l hx hb dL_finalValue_7 rfl ?_
    refine va_last hx hb hG.1 hP hD hS 38 2 rfl rfl (vpb_in.mp (by decide)) dL_finalValue_8 (fun H locs hP hD hS => ?_)
    have hP : va_P (dC, dI) vwCl (wSys cI cD kk.1 g r0.2 ++ wLrow cJ a (vp_updL o 0 (r0.1).toInt64)) H := hP
    have hD : va_D A (wSys cI cD kk.1 g r0.2 ++ wLrow cJ a (vp_updL o 0 (r0.1).toInt64)) := hD
    refine lv_goto (tgt := 15) hx hb dL_finalValue_9 (by decide) ?_
    refine lv_iconst (v := 0) hx hb dL_finalValue_15 (by decide) ?_
    exact wk_retXi hx hb hr hlocks hQ rfl rfl hP hD hS (Nat.le_of_ble_eq_true rfl) (Nat.le_of_ble_eq_true rfl) dL_finalValue_16
set_option maxHeartbeats 4000000 in
set_option maxRecDepth 100000 in
theorem c_L_type (l : Launch) (hflags : l.stackTraces = false) (dC : Nat → ClassId) (dI : Nat → Nat → Nat) (cI cD cJ : ClassId) (kk : wAd) (g : Nat → Nat) (a : Nat) (x : SS) (o : Nat → Int64) (p1 : Int32) (out : Int32 × (SS × (Nat → Int64))) (hM : M_L_type x o p1 = some out) : CL kk l yL_type wsL_type ({ frames := 8, cells := 2, slots := 12, locals := 123 } : Room) dC dI (wTys cI cD cJ) [.ref (g 0), .int p1, .ref a] (wSys cI cD kk.1 g x ++ wLrow cJ a o) (.inr (some (.int out.1), wSys cI cD kk.1 g out.2.1 ++ wLrow cJ a out.2.2)) 2 12 := by
  refine wk_enterL (cc := cL_type) (maxL := 4) (ret := some .int) (hh := [(0, 9, 12, 13), (0, 9, 15, 15)]) (by decide) rfl (Nat.le_of_ble_eq_true rfl) ?_
  intro p e s m below meth c A Q ls hB htab hN hT hA hP hD hQ hl
  obtain ⟨hx, hb, hml, hr, hts, hown, hname, hlocks, hG⟩ := hB
  have hown : s.vm.findClass RL = some m.cls := hown
  have hS : va_S A s.heap s.heap [] := va_S.rf
  have hl : lv_has ls 4 [(0, .ref (g 0)), (1, .int p1), (2, .ref a)] := hl
  obtain ⟨H, hH⟩ : ∃ z, z = s.heap := ⟨_, rfl⟩
  have hP : va_P (dC, dI) vwCl (wSys cI cD kk.1 g x ++ wLrow cJ a o) H := by rw [hH]; exact hP
  have hS : va_S A s.heap H [] := by rw [hH]; exact hS
  refine wk_at hH ?_
  generalize ([] : List Loc) = locs at hS ⊢
  unfold M_L_type at hM
  obtain ⟨r, hr9, hM⟩ := ob hM
  refine lv_aload_n hx hb dL_type_0 rfl (lv_at hl 2 rfl) ?_
  refine lv_iconst (v := 0) hx hb dL_type_1 (by decide) ?_
  refine lv_aload_n hx hb dL_type_2 rfl (lv_at hl 0 rfl) ?_
  refine lv_iload_n hx hb dL_type_3 rfl (lv_at hl 1 rfl) ?_
  rcases r with f0 | r0
  · refine wk_callX (vx_runV (As := [.int p1]) (rest := [.int 0, .ref a]) ⟨hx, hb, hml, hown, hts⟩ (c_X6_type l hflags dC dI cI cD cJ kk g x p1 _ hr9 H) (cwV 1 hts gL_type_X6_type rfl rfl rfl (by decide +kernel) ⟨(Nat.le_of_ble_eq_true rfl), (Nat.le_of_ble_eq_true rfl)⟩) (wk_preVT (ci := 4) (q0 := 0) hG hP hD hT hS (fun _ h9 => h9) [0, 1, 2, 3, 4, 5, 6, 7, 8, 9, 10, 11, 12, 13, 14, 15, 16, 17, 18, 19, 20, 21, 22, 23, 24, 25, 26, 27, 28, 29, 30, 31, 32, 33, 34, 35, 36, 37] rfl rfl rfl rfl (va_free hD hS hA [0, 1, 2, 3, 4, 5, 6, 7, 8, 9, 10, 11, 12, 13, 14, 15, 16, 17, 18, 19, 20, 21, 22, 23, 24, 25, 26, 27, 28, 29, 30, 31, 32, 33, 34, 35, 36, 37] rfl)) rfl rfl hl.1 rfl (lv_room (Nat.le_of_ble_eq_true rfl)) dL_type_4 ⟨(Nat.le_of_ble_eq_true rfl), (Nat.le_of_ble_eq_true rfl)⟩) hP hD hS hA [0, 1, 2, 3, 4, 5, 6, 7, 8, 9, 10, 11, 12, 13, 14, 15, 16, 17, 18, 19, 20, 21, 22, 23, 24, 25, 26, 27, 28, 29, 30, 31, 32, 33, 34, 35, 36, 37] [38] [1, 2, 3, 4, 5, 6, 7, 8, 9, 10, 11, 12, 13, 14, 15, 16, 17, 18, 19, 20, 21, 22, 23, 24, 25, 26, 27, 28, 29, 30, 31, 32, 33, 34, 35, 36, 37, 38, 0] rfl rfl rfl (by decide) rfl rfl (fun f9 ce q9 H locs ho9 hP hD hS hc9 hv9 hf9 => ?_) (fun ov w1 ho9 => by cases ho9)
    cases ho9
    by_cases e0 : f0 = 2
    · replace hM := (if_pos e0).symm.trans hM
      replace hM := Option.some.inj hM
      subst hM
      have hf9 : s.vm.findClass xIA = some ce.cls := by rw [e0] at hf9; exact hf9
      refine vx_catch (name := xIA) (E := xIA) (ce := ce) hown [] (ExceptionTableEntry.mk 0 9 12 13) [(ExceptionTableEntry.mk 0 9 15 15)] htab (fun z hz => by cases hz) rfl (by decide) (hts (.classLink RL 13 xIA) (by decide +kernel)) (va_Nw.use rfl (hG.2 _ (List.mem_of_getElem? (i := 14) rfl))) hc9 hv9 hf9 ?_
      refine lv_astore_n (lv' := [(3, .ref q9), (0, .ref (g 0)), (1, .int p1), (2, .ref a)]) hx hb dL_type_12 rfl hl (by decide) rfl (fun ls hl => ?_)
      refine lv_iconst (v := 1) hx hb dL_type_13 (by decide) ?_
      exact wk_retXi hx hb hr hlocks hQ rfl rfl hP hD hS (Nat.le_of_ble_eq_true rfl) (Nat.le_of_ble_eq_true rfl) dL_type_14
    replace hM := (if_neg e0).symm.trans hM
    by_cases e1 : f0 = 3
    · replace hM := (if_pos e1).symm.trans hM
      replace hM := Option.some.inj hM
      subst hM
      have hf9 : s.vm.findClass xIS = some ce.cls := by rw [e1] at hf9; exact hf9
      refine vx_catch (name := xIS) (E := xIS) (ce := ce) hown [(ExceptionTableEntry.mk 0 9 12 13)] (ExceptionTableEntry.mk 0 9 15 15) [] htab (fun z hz => by cases List.mem_singleton.mp hz; exact Or.inr ⟨by decide, xIA, hts (.classLink RL 13 xIA) (by decide +kernel), hN.2.2⟩) rfl (by decide) (hts (.classLink RL 15 xIS) (by decide +kernel)) (va_Nw.use rfl (hG.2 _ (List.mem_of_getElem? (i := 15) rfl))) hc9 hv9 hf9 ?_
      refine lv_astore_n (lv' := [(3, .ref q9), (0, .ref (g 0)), (1, .int p1), (2, .ref a)]) hx hb dL_type_15 rfl hl (by decide) rfl (fun ls hl => ?_)
      refine lv_iconst (v := 2) hx hb dL_type_16 (by decide) ?_
      exact wk_retXi hx hb hr hlocks hQ rfl rfl hP hD hS (Nat.le_of_ble_eq_true rfl) (Nat.le_of_ble_eq_true rfl) dL_type_17
    replace hM := (if_neg e1).symm.trans hM
    cases hM
  · refine wk_callX (vx_runV (As := [.int p1]) (rest := [.int 0, .ref a]) ⟨hx, hb, hml, hown, hts⟩ (c_X6_type l hflags dC dI cI cD cJ kk g x p1 _ hr9 H) (cwV 1 hts gL_type_X6_type rfl rfl rfl (by decide +kernel) ⟨(Nat.le_of_ble_eq_true rfl), (Nat.le_of_ble_eq_true rfl)⟩) (wk_preVT (ci := 4) (q0 := 0) hG hP hD hT hS (fun _ h9 => h9) [0, 1, 2, 3, 4, 5, 6, 7, 8, 9, 10, 11, 12, 13, 14, 15, 16, 17, 18, 19, 20, 21, 22, 23, 24, 25, 26, 27, 28, 29, 30, 31, 32, 33, 34, 35, 36, 37] rfl rfl rfl rfl (va_free hD hS hA [0, 1, 2, 3, 4, 5, 6, 7, 8, 9, 10, 11, 12, 13, 14, 15, 16, 17, 18, 19, 20, 21, 22, 23, 24, 25, 26, 27, 28, 29, 30, 31, 32, 33, 34, 35, 36, 37] rfl)) rfl rfl hl.1 rfl (lv_room (Nat.le_of_ble_eq_true rfl)) dL_type_4 ⟨(Nat.le_of_ble_eq_true rfl), (Nat.le_of_ble_eq_true rfl)⟩) hP hD hS hA [0, 1, 2, 3, 4, 5, 6, 7, 8, 9, 10, 11, 12, 13, 14, 15, 16, 17, 18, 19, 20, 21, 22, 23, 24, 25, 26, 27, 28, 29, 30, 31, 32, 33, 34, 35, 36, 37] [38] [1, 2, 3, 4, 5, 6, 7, 8, 9, 10, 11, 12, 13, 14, 15, 16, 17, 18, 19, 20, 21, 22, 23, 24, 25, 26, 27, 28, 29, 30, 31, 32, 33, 34, 35, 36, 37, 38, 0] rfl rfl rfl (by decide) rfl rfl (fun f9 ce q9 H locs ho9 hP hD hS hc9 hv9 hf9 => by cases ho9) (fun ov w1 ho9 H locs hPD hS => ?_)
    cases ho9
    obtain ⟨hP, hD⟩ := hPD (wSys cI cD kk.1 g r0.2 ++ wLrow cJ a o) rfl
    replace hM := Option.some.inj hM
    subst hM
    refine lv_i2l hx hb dL_type_7 rfl ?_
    refine va_last hx hb hG.1 hP hD hS 38 2 rfl rfl (vpb_in.mp (by decide)) dL_type_8 (fun H locs hP hD hS => ?_)
    have hP : va_P (dC, dI) vwCl (wSys cI cD kk.1 g r0.2 ++ wLrow cJ a (vp_updL o 0 (r0.1).toInt64)) H := hP
    have hD : va_D A (wSys cI cD kk.1 g r0.2 ++ wLrow cJ a (vp_updL o 0 (r0.1).toInt64)) := hD
    refine lv_goto (tgt := 18) hx hb dL_type_9 (by decide) ?_
    refine lv_iconst (v := 0) hx hb dL_type_18 (by decide) ?_
    exact wk_retXi hx hb hr hlocks hQ rfl rfl hP hD hS (Nat.le_of_ble_eq_true rfl) (Nat.le_of_ble_eq_true rfl) dL_type_19
set_option maxHeartbeats 4000000 in
set_option maxRecDepth 100000 in
theorem c_L_undo (l : Launch) (hflags : l.stackTraces = false) (dC : Nat → ClassId) (dI : Nat → Nat → Nat) (cI cD cJ : ClassId) (kk : wAd) (g : Nat → Nat) (a : Nat) (x : SS) (o : Nat → Int64)  (out : Int32 × (SS × (Nat → Int64))) (hM : M_L_undo x o  = some out) : CL kk l yL_undo wsL_undo ({ frames := 8, cells := 1, slots := 6, locals := 123 } : Room) dC dI (wTys cI cD cJ) [.ref (g 0), .ref a] (wSys cI cD kk.1 g x ++ wLrow cJ a o) (.inr (some (.int out.1), wSys cI cD kk.1 g out.2.1 ++ wLrow cJ a out.2.2)) 1 6 := by
  refine wk_enterL (cc := cL_undo) (maxL := 3) (ret := some .int) (hh := [(0, 8, 11, 15)]) (by decide) rfl (Nat.le_of_ble_eq_true rfl) ?_
  intro p e s m below meth c A Q ls hB htab hN hT hA hP hD hQ hl
  obtain ⟨hx, hb, hml, hr, hts, hown, hname, hlocks, hG⟩ := hB
  have hown : s.vm.findClass RL = some m.cls := hown
  have hS : va_S A s.heap s.heap [] := va_S.rf
  have hl : lv_has ls 3 [(0, .ref (g 0)), (1, .ref a)] := hl
  obtain ⟨H, hH⟩ : ∃ z, z = s.heap := ⟨_, rfl⟩
  have hP : va_P (dC, dI) vwCl (wSys cI cD kk.1 g x ++ wLrow cJ a o) H := by rw [hH]; exact hP
  have hS : va_S A s.heap H [] := by rw [hH]; exact hS
  refine wk_at hH ?_
  generalize ([] : List Loc) = locs at hS ⊢
  unfold M_L_undo at hM
  obtain ⟨r, hr9, hM⟩ := ob hM
  refine lv_aload_n hx hb dL_undo_0 rfl (lv_at hl 1 rfl) ?_
  refine lv_iconst (v := 0) hx hb dL_undo_1 (by decide) ?_
  refine lv_aload_n hx hb dL_undo_2 rfl (lv_at hl 0 rfl) ?_
  rcases r with f0 | r0
  · refine wk_callX (vx_runV (As := []) (rest := [.int 0, .ref a]) ⟨hx, hb, hml, hown, hts⟩ (c_X6_undo l hflags dC dI cI cD cJ kk g x  _ hr9 H) (cwV 0 hts gL_undo_X6_undo rfl rfl rfl (by decide +kernel) ⟨(Nat.le_of_ble_eq_true rfl), (Nat.le_of_ble_eq_true rfl)⟩) (wk_preVT (ci := 4) (q0 := 0) hG hP hD hT hS (fun _ h9 => h9) [0, 1, 2, 3, 4, 5, 6, 7, 8, 9, 10, 11, 12, 13, 14, 15, 16, 17, 18, 19, 20, 21, 22, 23, 24, 25, 26, 27, 28, 29, 30, 31, 32, 33, 34, 35, 36, 37] rfl rfl rfl rfl (va_free hD hS hA [0, 1, 2, 3, 4, 5, 6, 7, 8, 9, 10, 11, 12, 13, 14, 15, 16, 17, 18, 19, 20, 21, 22, 23, 24, 25, 26, 27, 28, 29, 30, 31, 32, 33, 34, 35, 36, 37] rfl)) rfl rfl hl.1 rfl (lv_room (Nat.le_of_ble_eq_true rfl)) dL_undo_3 ⟨(Nat.le_of_ble_eq_true rfl), (Nat.le_of_ble_eq_true rfl)⟩) hP hD hS hA [0, 1, 2, 3, 4, 5, 6, 7, 8, 9, 10, 11, 12, 13, 14, 15, 16, 17, 18, 19, 20, 21, 22, 23, 24, 25, 26, 27, 28, 29, 30, 31, 32, 33, 34, 35, 36, 37] [38] [1, 2, 3, 4, 5, 6, 7, 8, 9, 10, 11, 12, 13, 14, 15, 16, 17, 18, 19, 20, 21, 22, 23, 24, 25, 26, 27, 28, 29, 30, 31, 32, 33, 34, 35, 36, 37, 38, 0] rfl rfl rfl (by decide) rfl rfl (fun f9 ce q9 H locs ho9 hP hD hS hc9 hv9 hf9 => ?_) (fun ov w1 ho9 => by cases ho9)
    cases ho9
    by_cases e0 : f0 = 3
    · replace hM := (if_pos e0).symm.trans hM
      replace hM := Option.some.inj hM
      subst hM
      have hf9 : s.vm.findClass xIS = some ce.cls := by rw [e0] at hf9; exact hf9
      refine vx_catch (name := xIS) (E := xIS) (ce := ce) hown [] (ExceptionTableEntry.mk 0 8 11 15) [] htab (fun z hz => by cases hz) rfl (by decide) (hts (.classLink RL 15 xIS) (by decide +kernel)) (va_Nw.use rfl (hG.2 _ (List.mem_of_getElem? (i := 15) rfl))) hc9 hv9 hf9 ?_
      refine lv_astore_n (lv' := [(2, .ref q9), (0, .ref (g 0)), (1, .ref a)]) hx hb dL_undo_11 rfl hl (by decide) rfl (fun ls hl => ?_)
      refine lv_iconst (v := 1) hx hb dL_undo_12 (by decide) ?_
      exact wk_retXi hx hb hr hlocks hQ rfl rfl hP hD hS (Nat.le_of_ble_eq_true rfl) (Nat.le_of_ble_eq_true rfl) dL_undo_13
    replace hM := (if_neg e0).symm.trans hM
    cases hM
  · refine wk_callX (vx_runV (As := []) (rest := [.int 0, .ref a]) ⟨hx, hb, hml, hown, hts⟩ (c_X6_undo l hflags dC dI cI cD cJ kk g x  _ hr9 H) (cwV 0 hts gL_undo_X6_undo rfl rfl rfl (by decide +kernel) ⟨(Nat.le_of_ble_eq_true rfl), (Nat.le_of_ble_eq_true rfl)⟩) (wk_preVT (ci := 4) (q0 := 0) hG hP hD hT hS (fun _ h9 => h9) [0, 1, 2, 3, 4, 5, 6, 7, 8, 9, 10, 11, 12, 13, 14, 15, 16, 17, 18, 19, 20, 21, 22, 23, 24, 25, 26, 27, 28, 29, 30, 31, 32, 33, 34, 35, 36, 37] rfl rfl rfl rfl (va_free hD hS hA [0, 1, 2, 3, 4, 5, 6, 7, 8, 9, 10, 11, 12, 13, 14, 15, 16, 17, 18, 19, 20, 21, 22, 23, 24, 25, 26, 27, 28, 29, 30, 31, 32, 33, 34, 35, 36, 37] rfl)) rfl rfl hl.1 rfl (lv_room (Nat.le_of_ble_eq_true rfl)) dL_undo_3 ⟨(Nat.le_of_ble_eq_true rfl), (Nat.le_of_ble_eq_true rfl)⟩) hP hD hS hA [0, 1, 2, 3, 4, 5, 6, 7, 8, 9, 10, 11, 12, 13, 14, 15, 16, 17, 18, 19, 20, 21, 22, 23, 24, 25, 26, 27, 28, 29, 30, 31, 32, 33, 34, 35, 36, 37] [38] [1, 2, 3, 4, 5, 6, 7, 8, 9, 10, 11, 12, 13, 14, 15, 16, 17, 18, 19, 20, 21, 22, 23, 24, 25, 26, 27, 28, 29, 30, 31, 32, 33, 34, 35, 36, 37, 38, 0] rfl rfl rfl (by decide) rfl rfl (fun f9 ce q9 H locs ho9 hP hD hS hc9 hv9 hf9 => by cases ho9) (fun ov w1 ho9 H locs hPD hS => ?_)
    cases ho9
    obtain ⟨hP, hD⟩ := hPD (wSys cI cD kk.1 g r0.2 ++ wLrow cJ a o) rfl
    replace hM := Option.some.inj hM
    subst hM
    refine lv_i2l hx hb dL_undo_6 rfl ?_
    refine va_last hx hb hG.1 hP hD hS 38 2 rfl rfl (vpb_in.mp (by decide)) dL_undo_7 (fun H locs hP hD hS => ?_)
    have hP : va_P (dC, dI) vwCl (wSys cI cD kk.1 g r0.2 ++ wLrow cJ a (vp_updL o 0 (r0.1).toInt64)) H := hP
    have hD : va_D A (wSys cI cD kk.1 g r0.2 ++ wLrow cJ a (vp_updL o 0 (r0.1).toInt64)) := hD
    refine lv_goto (tgt := 14) hx hb dL_undo_8 (by decide) ?_
    refine lv_iconst (v := 0) hx hb dL_undo_14 (by decide) ?_
    exact wk_retXi hx hb hr hlocks hQ rfl rfl hP hD hS (Nat.le_of_ble_eq_true rfl) (Nat.le_of_ble_eq_true rfl) dL_undo_15
