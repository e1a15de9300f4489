/-! PART 37: the law's mailFits -/
set_option maxHeartbeats 4000000 in
set_option maxRecDepth 100000 in
theorem c_L_mailFits (l : Launch) (dC : Nat → ClassId) (dI : Nat → Nat → Nat) (cI cD cJ : ClassId) (kk : wAd) (g : Nat → Nat) (x : SS) (p1 : Int32) (out : Bool) (hM : M_L_mailFits x p1 = some out) : CP l yL_mailFits wsL_mailFits ({ frames := 6, cells := 0, slots := 0, locals := 135 } : Room) dC dI (wTys cI cD cJ) [.ref (g 0), .int p1] (wSys cI cD kk.1 g x) (some (.int (zI out))) := by
  refine wk_enterP (cc := cL_mailFits) (maxL := 9) (ret := (some .boolean)) (by decide) rfl (Nat.le_of_ble_eq_true rfl) ?_
  intro p e s m below meth c A Q ls hB hP hD hA hQ hl
  obtain ⟨hx, hb, hml, hr, hts, hown, hname, hlocks, hG⟩ := hB
  have hown : s.vm.findClass RL = some m.cls := hown
  have hS : va_S A s.heap s.heap [] := va_S.rf
  have hl : lv_has ls 9 [(0, .ref (g 0)), (1, .int p1)] := hl
  generalize ([] : List Loc) = locs at hS ⊢
  have hB324 : ∀ (w0 : Bool) (locs : List Loc) (ls : Array Slot), M_L_mailFits_324 x p1 w0 = some out → va_S A s.heap s.heap locs → lv_has ls 9 [] → W p l e ({ frames := 6, cells := 0, slots := 0, locals := 135 } : Room) s m ([.ref (g 0), .int p1] : List Value).toArray below meth c s.heap locs 0 0 Q (F0 m 324 ls [.int (zI w0)]) := by
    intro w0 locs ls hM hS hl
    unfold M_L_mailFits_324 at hM
    replace hM := Option.some.inj hM
    subst hM
    exact wk_retPi hx hb hr hlocks hQ (zI_nar _) rfl hS dL_mailFits_324
  have hB323 : ∀  (locs : List Loc) (ls : Array Slot), M_L_mailFits_323 x p1 = some out → va_S A s.heap s.heap locs → lv_has ls 9 [] → W p l e ({ frames := 6, cells := 0, slots := 0, locals := 135 } : Room) s m ([.ref (g 0), .int p1] : List Value).toArray below meth c s.heap locs 0 0 Q (F0 m 323 ls []) := by
    intro  locs ls hM hS hl
    unfold M_L_mailFits_323 at hM
    refine lv_iconst (v := (0 : Int32)) hx hb dL_mailFits_323 (by decide) ?_
    exact hB324 false  _ _ hM hS (lv_sub hl [] rfl)
  have hB300 : ∀ (w0 : Int32) (w1 : Bool) (locs : List Loc) (ls : Array Slot), M_L_mailFits_300 x p1 w0 w1 = some out → va_S A s.heap s.heap locs → lv_has ls 9 [(0, .ref (g 0)), (1, .int p1)] → W p l e ({ frames := 6, cells := 0, slots := 0, locals := 135 } : Room) s m ([.ref (g 0), .int p1] : List Value).toArray below meth c s.heap locs 0 0 Q (F0 m 300 ls [.int (zI w1), .int w0]) := by
    intro w0 w1 locs ls hM hS hl
    unfold M_L_mailFits_300 at hM
    refine lv_icmp_ne (tgt := 323) hx hb dL_mailFits_300 (by decide) (fun c1 => ?_) (fun c1 => ?_)
    · replace hM := (if_neg c1).symm.trans hM
      exact hB323   _ _ hM hS (lv_sub hl [] rfl)
    · replace hM := (if_pos c1).symm.trans hM
      refine lv_aload_n hx hb dL_mailFits_303 rfl (lv_at hl 0 rfl) ?_
      refine lv_iload_n hx hb dL_mailFits_304 rfl (lv_at hl 1 rfl) ?_
      refine lv_bipush (v := (6 : Int32)) hx hb dL_mailFits_305 (by decide) ?_
      obtain ⟨r2, hr2, hM⟩ := ob hM
      refine wk_callP (va_runV (As := [.int p1, .int (6 : Int32)]) (rest := []) ⟨hx, hb, hml, hown, hts⟩ (c_X6_controller l dC dI cI cD cJ kk g x p1 (6 : Int32) _ hr2 s.heap) (cwV 2 hts gL_mailFits_X6_controller rfl rfl rfl (by decide +kernel) ⟨Nat.le_of_ble_eq_true rfl, Nat.le_of_ble_eq_true rfl⟩) (wk_preV (ci := 4) (q0 := 0) hG hP hD [0, 1, 2, 3, 4, 5, 6, 7, 8, 9, 10, 11, 12, 13, 14, 15, 16, 17, 18, 19, 20, 21, 22, 23, 24, 25, 26, 27, 28, 29, 30, 31, 32, 33, 34, 35, 36, 37] rfl rfl rfl rfl) rfl rfl hl.1 rfl (lv_room (Nat.le_of_ble_eq_true rfl)) dL_mailFits_307 ⟨Nat.le_of_ble_eq_true rfl, Nat.le_of_ble_eq_true rfl⟩) hS (fun locs hS => ?_)
      refine lv_aload_n hx hb dL_mailFits_310 rfl (lv_at hl 0 rfl) ?_
      refine lv_iload_n hx hb dL_mailFits_311 rfl (lv_at hl 1 rfl) ?_
      refine lv_iconst (v := (5 : Int32)) hx hb dL_mailFits_312 (by decide) ?_
      obtain ⟨r3, hr3, hM⟩ := ob hM
      refine wk_callP (va_runV (As := [.int p1, .int (5 : Int32)]) (rest := [.int r2]) ⟨hx, hb, hml, hown, hts⟩ (c_X6_controller l dC dI cI cD cJ kk g x p1 (5 : Int32) _ hr3 s.heap) (cwV 2 hts gL_mailFits_X6_controller rfl rfl rfl (by decide +kernel) ⟨Nat.le_of_ble_eq_true rfl, Nat.le_of_ble_eq_true rfl⟩) (wk_preV (ci := 4) (q0 := 0) hG hP hD [0, 1, 2, 3, 4, 5, 6, 7, 8, 9, 10, 11, 12, 13, 14, 15, 16, 17, 18, 19, 20, 21, 22, 23, 24, 25, 26, 27, 28, 29, 30, 31, 32, 33, 34, 35, 36, 37] rfl rfl rfl rfl) rfl rfl hl.1 rfl (lv_room (Nat.le_of_ble_eq_true rfl)) dL_mailFits_313 ⟨Nat.le_of_ble_eq_true rfl, Nat.le_of_ble_eq_true rfl⟩) hS (fun locs hS => ?_)
      refine lv_icmp_gt (tgt := 323) hx hb dL_mailFits_316 (by decide) (fun c4 => ?_) (fun c4 => ?_)
      · replace hM := (if_pos c4).symm.trans hM
        exact hB323   _ _ hM hS (lv_sub hl [] rfl)
      · replace hM := (if_neg c4).symm.trans hM
        refine lv_iconst (v := (1 : Int32)) hx hb dL_mailFits_319 (by decide) ?_
        refine lv_goto (tgt := 324) hx hb dL_mailFits_320 (by decide) ?_
        exact hB324 true  _ _ hM hS (lv_sub hl [] rfl)
  have hB283 : ∀ (u4 : Bool) (u5 : Int32) (u6 : Int32) (locs : List Loc) (ls : Array Slot), M_L_mailFits_283 x p1 u4 u5 u6 = some out → va_S A s.heap s.heap locs → lv_has ls 9 [(0, .ref (g 0)), (1, .int p1), (4, .int (zI u4)), (5, .int u5), (6, .int u6)] → W p l e ({ frames := 6, cells := 0, slots := 0, locals := 135 } : Room) s m ([.ref (g 0), .int p1] : List Value).toArray below meth c s.heap locs 0 0 Q (F0 m 283 ls []) := by
    intro u4 u5 u6 locs ls hM hS hl
    unfold M_L_mailFits_283 at hM
    refine lv_iload hx hb dL_mailFits_283 (lv_at hl 2 rfl) ?_
    refine lv_if_eq (tgt := 323) hx hb dL_mailFits_285 (by decide) (fun c1 => ?_) (fun c1 => ?_)
    · replace hM := (if_pos c1).symm.trans hM
      exact hB323   _ _ hM hS (lv_sub hl [] rfl)
    · replace hM := (if_neg c1).symm.trans hM
      refine lv_iload hx hb dL_mailFits_288 (lv_at hl 4 rfl) ?_
      refine lv_iload hx hb dL_mailFits_290 (lv_at hl 3 rfl) ?_
      refine lv_if_ge (tgt := 299) hx hb dL_mailFits_292 (by decide) (fun c2 => ?_) (fun c2 => ?_)
      · replace hM := (if_pos c2).symm.trans hM
        refine lv_iconst (v := (1 : Int32)) hx hb dL_mailFits_299 (by decide) ?_
        exact hB300 u6 true  _ _ hM hS (lv_sub hl [0, 1] rfl)
      · replace hM := (if_neg c2).symm.trans hM
        refine lv_iconst (v := (0 : Int32)) hx hb dL_mailFits_295 (by decide) ?_
        refine lv_goto (tgt := 300) hx hb dL_mailFits_296 (by decide) ?_
        exact hB300 u6 false  _ _ hM hS (lv_sub hl [0, 1] rfl)
  have hL136 : ∀ (n136 : Nat) (u4 : Bool) (u5 : Int32) (u6 : Int32) (u7 : Int32) (locs : List Loc) (ls : Array Slot), lpF (M_L_mailFits_136s x p1) n136 (u4, u5, u6, u7) = some out → va_S A s.heap s.heap locs → lv_has ls 9 [(0, .ref (g 0)), (1, .int p1), (4, .int (zI u4)), (5, .int u5), (6, .int u6), (7, .int u7)] → W p l e ({ frames := 6, cells := 0, slots := 0, locals := 135 } : Room) s m ([.ref (g 0), .int p1] : List Value).toArray below meth c s.heap locs 0 0 Q (F0 m 136 ls []) := by
    intro n136
    induction n136 with
    | zero => intro u4 u5 u6 u7 locs ls hM; exact lpF_0 hM
    | succ n136 ih136 =>
      have hB275 : ∀ (u5 : Int32) (u6 : Int32) (u7 : Int32) (w0 : Bool) (locs : List Loc) (ls : Array Slot), M_L_mailFits_275 x p1 (lpF (M_L_mailFits_136s x p1) n136) u5 u6 u7 w0 = some out → va_S A s.heap s.heap locs → lv_has ls 9 [(0, .ref (g 0)), (1, .int p1), (5, .int u5), (6, .int u6), (7, .int u7)] → W p l e ({ frames := 6, cells := 0, slots := 0, locals := 135 } : Room) s m ([.ref (g 0), .int p1] : List Value).toArray below meth c s.heap locs 0 0 Q (F0 m 275 ls [.int (zI w0)]) := by
        intro u5 u6 u7 w0 locs ls hM hS hl
        unfold M_L_mailFits_275 at hM
        refine lv_istore (lv' := [(4, .int (zI w0)), (0, .ref (g 0)), (1, .int p1), (5, .int u5), (6, .int u6), (7, .int u7)]) hx hb dL_mailFits_275 hl (by decide) rfl (fun ls hl => ?_)
        refine lv_iinc (v := (u7 + 1)) (lv' := [(7, .int (u7 + 1)), (4, .int (zI w0)), (0, .ref (g 0)), (1, .int p1), (5, .int u5), (6, .int u6)]) hx hb dL_mailFits_277 hl (k := 5) rfl rfl (by decide) rfl (fun ls hl => ?_)
        refine lv_goto (tgt := 136) hx hb dL_mailFits_280 (by decide) ?_
        exact ih136 w0 u5 u6 (u7 + 1)  _ _ hM hS (lv_sub hl [2, 3, 1, 4, 5, 0] rfl)
      have hB270 : ∀ (u5 : Int32) (u6 : Int32) (u7 : Int32) (locs : List Loc) (ls : Array Slot), M_L_mailFits_270 x p1 (lpF (M_L_mailFits_136s x p1) n136) u5 u6 u7 = some out → va_S A s.heap s.heap locs → lv_has ls 9 [(0, .ref (g 0)), (1, .int p1), (5, .int u5), (6, .int u6), (7, .int u7)] → W p l e ({ frames := 6, cells := 0, slots := 0, locals := 135 } : Room) s m ([.ref (g 0), .int p1] : List Value).toArray below meth c s.heap locs 0 0 Q (F0 m 270 ls []) := by
        intro u5 u6 u7 locs ls hM hS hl
        unfold M_L_mailFits_270 at hM
        refine lv_iconst (v := (1 : Int32)) hx hb dL_mailFits_270 (by decide) ?_
        refine lv_goto (tgt := 275) hx hb dL_mailFits_271 (by decide) ?_
        exact hB275 u5 u6 u7 true  _ _ hM hS (lv_sub hl [0, 1, 2, 3, 4] rfl)
      have hB274 : ∀ (u5 : Int32) (u6 : Int32) (u7 : Int32) (locs : List Loc) (ls : Array Slot), M_L_mailFits_274 x p1 (lpF (M_L_mailFits_136s x p1) n136) u5 u6 u7 = some out → va_S A s.heap s.heap locs → lv_has ls 9 [(0, .ref (g 0)), (1, .int p1), (5, .int u5), (6, .int u6), (7, .int u7)] → W p l e ({ frames := 6, cells := 0, slots := 0, locals := 135 } : Room) s m ([.ref (g 0), .int p1] : List Value).toArray below meth c s.heap locs 0 0 Q (F0 m 274 ls []) := by
        intro u5 u6 u7 locs ls hM hS hl
        unfold M_L_mailFits_274 at hM
        refine lv_iconst (v := (0 : Int32)) hx hb dL_mailFits_274 (by decide) ?_
        exact hB275 u5 u6 u7 false  _ _ hM hS (lv_sub hl [0, 1, 2, 3, 4] rfl)
      have hB255 : ∀ (u5 : Int32) (u6 : Int32) (u7 : Int32) (u8 : Int32) (locs : List Loc) (ls : Array Slot), M_L_mailFits_255 x p1 (lpF (M_L_mailFits_136s x p1) n136) u5 u6 u7 u8 = some out → va_S A s.heap s.heap locs → lv_has ls 9 [(0, .ref (g 0)), (1, .int p1), (5, .int u5), (6, .int u6), (7, .int u7), (8, .int u8)] → W p l e ({ frames := 6, cells := 0, slots := 0, locals := 135 } : Room) s m ([.ref (g 0), .int p1] : List Value).toArray below meth c s.heap locs 0 0 Q (F0 m 255 ls []) := by
        intro u5 u6 u7 u8 locs ls hM hS hl
        unfold M_L_mailFits_255 at hM
        refine lv_iload hx hb dL_mailFits_255 (lv_at hl 5 rfl) ?_
        refine lv_iconst (v := (2 : Int32)) hx hb dL_mailFits_257 (by decide) ?_
        refine lv_icmp_ne (tgt := 270) hx hb dL_mailFits_258 (by decide) (fun c1 => ?_) (fun c1 => ?_)
        · replace hM := (if_neg c1).symm.trans hM
          exact hB270 u5 u6 u7  _ _ hM hS (lv_sub hl [0, 1, 2, 3, 4] rfl)
        · replace hM := (if_pos c1).symm.trans hM
          refine lv_aload_n hx hb dL_mailFits_261 rfl (lv_at hl 0 rfl) ?_
          refine lv_iconst (v := (2 : Int32)) hx hb dL_mailFits_262 (by decide) ?_
          obtain ⟨r2, hr2, hM⟩ := ob hM
          refine wk_callP (va_runV (As := [.int (2 : Int32)]) (rest := []) ⟨hx, hb, hml, hown, hts⟩ (c_X6_whole l dC dI cI cD cJ kk g x (2 : Int32) _ hr2 s.heap) (cwV 1 hts gL_mailFits_X6_whole rfl rfl rfl (by decide +kernel) ⟨Nat.le_of_ble_eq_true rfl, Nat.le_of_ble_eq_true rfl⟩) (wk_preV (ci := 4) (q0 := 0) hG hP hD [0, 1, 2, 3, 4, 5, 6, 7, 8, 9, 10, 11, 12, 13, 14, 15, 16, 17, 18, 19, 20, 21, 22, 23, 24, 25, 26, 27, 28, 29, 30, 31, 32, 33, 34, 35, 36, 37] rfl rfl rfl rfl) rfl rfl hl.1 rfl (lv_room (Nat.le_of_ble_eq_true rfl)) dL_mailFits_263 ⟨Nat.le_of_ble_eq_true rfl, Nat.le_of_ble_eq_true rfl⟩) hS (fun locs hS => ?_)
          refine lv_iconst (v := (1 : Int32)) hx hb dL_mailFits_266 (by decide) ?_
          refine lv_icmp_ne (tgt := 274) hx hb dL_mailFits_267 (by decide) (fun c3 => ?_) (fun c3 => ?_)
          · replace hM := (if_neg c3).symm.trans hM
            exact hB274 u5 u6 u7  _ _ hM hS (lv_sub hl [0, 1, 2, 3, 4] rfl)
          · replace hM := (if_pos c3).symm.trans hM
            exact hB270 u5 u6 u7  _ _ hM hS (lv_sub hl [0, 1, 2, 3, 4] rfl)
      have hB237 : ∀ (u5 : Int32) (u6 : Int32) (u7 : Int32) (u8 : Int32) (w0 : Bool) (w1 : Bool) (locs : List Loc) (ls : Array Slot), M_L_mailFits_237 x p1 (lpF (M_L_mailFits_136s x p1) n136) u5 u6 u7 u8 w0 w1 = some out → va_S A s.heap s.heap locs → lv_has ls 9 [(0, .ref (g 0)), (1, .int p1), (5, .int u5), (6, .int u6), (7, .int u7), (8, .int u8)] → W p l e ({ frames := 6, cells := 0, slots := 0, locals := 135 } : Room) s m ([.ref (g 0), .int p1] : List Value).toArray below meth c s.heap locs 0 0 Q (F0 m 237 ls [.int (zI w1), .int (zI w0)]) := by
        intro u5 u6 u7 u8 w0 w1 locs ls hM hS hl
        unfold M_L_mailFits_237 at hM
        refine lv_icmp_ne (tgt := 274) hx hb dL_mailFits_237 (by decide) (fun c1 => ?_) (fun c1 => ?_)
        · replace hM := (if_neg c1).symm.trans hM
          exact hB274 u5 u6 u7  _ _ hM hS (lv_sub hl [0, 1, 2, 3, 4] rfl)
        · replace hM := (if_pos c1).symm.trans hM
          refine lv_iload hx hb dL_mailFits_240 (lv_at hl 5 rfl) ?_
          refine lv_iconst (v := (5 : Int32)) hx hb dL_mailFits_242 (by decide) ?_
          refine lv_icmp_ne (tgt := 255) hx hb dL_mailFits_243 (by decide) (fun c2 => ?_) (fun c2 => ?_)
          · replace hM := (if_neg c2).symm.trans hM
            exact hB255 u5 u6 u7 u8  _ _ hM hS (lv_sub hl [0, 1, 2, 3, 4, 5] rfl)
          · replace hM := (if_pos c2).symm.trans hM
            refine lv_aload_n hx hb dL_mailFits_246 rfl (lv_at hl 0 rfl) ?_
            refine lv_iload hx hb dL_mailFits_247 (lv_at hl 4 rfl) ?_
            obtain ⟨r3, hr3, hM⟩ := ob hM
            refine wk_callP (va_runV (As := [.int u7]) (rest := []) ⟨hx, hb, hml, hown, hts⟩ (c_X6_waitsFor l dC dI cI cD cJ kk g x u7 _ hr3 s.heap) (cwV 1 hts gL_mailFits_X6_waitsFor rfl rfl rfl (by decide +kernel) ⟨Nat.le_of_ble_eq_true rfl, Nat.le_of_ble_eq_true rfl⟩) (wk_preV (ci := 4) (q0 := 0) hG hP hD [0, 1, 2, 3, 4, 5, 6, 7, 8, 9, 10, 11, 12, 13, 14, 15, 16, 17, 18, 19, 20, 21, 22, 23, 24, 25, 26, 27, 28, 29, 30, 31, 32, 33, 34, 35, 36, 37] rfl rfl rfl rfl) rfl rfl hl.1 rfl (lv_room (Nat.le_of_ble_eq_true rfl)) dL_mailFits_249 ⟨Nat.le_of_ble_eq_true rfl, Nat.le_of_ble_eq_true rfl⟩) hS (fun locs hS => ?_)
            refine lv_if_lt (tgt := 274) hx hb dL_mailFits_252 (by decide) (fun c4 => ?_) (fun c4 => ?_)
            · replace hM := (if_pos c4).symm.trans hM
              exact hB274 u5 u6 u7  _ _ hM hS (lv_sub hl [0, 1, 2, 3, 4] rfl)
            · replace hM := (if_neg c4).symm.trans hM
              exact hB255 u5 u6 u7 u8  _ _ hM hS (lv_sub hl [0, 1, 2, 3, 4, 5] rfl)
      have hB223 : ∀ (u5 : Int32) (u6 : Int32) (u7 : Int32) (u8 : Int32) (w0 : Bool) (locs : List Loc) (ls : Array Slot), M_L_mailFits_223 x p1 (lpF (M_L_mailFits_136s x p1) n136) u5 u6 u7 u8 w0 = some out → va_S A s.heap s.heap locs → lv_has ls 9 [(0, .ref (g 0)), (1, .int p1), (5, .int u5), (6, .int u6), (7, .int u7), (8, .int u8)] → W p l e ({ frames := 6, cells := 0, slots := 0, locals := 135 } : Room) s m ([.ref (g 0), .int p1] : List Value).toArray below meth c s.heap locs 0 0 Q (F0 m 223 ls [.int (zI w0)]) := by
        intro u5 u6 u7 u8 w0 locs ls hM hS hl
        unfold M_L_mailFits_223 at hM
        refine lv_aload_n hx hb dL_mailFits_223 rfl (lv_at hl 0 rfl) ?_
        refine lv_iload hx hb dL_mailFits_224 (lv_at hl 4 rfl) ?_
        obtain ⟨r1, hr1, hM⟩ := ob hM
        refine wk_callP (va_runS (As := [.ref (g 0), .int u7]) (rest := [.int (zI w0)]) ⟨hx, hb, hml, hown, hts⟩ (c_L_isOpen l dC dI cI cD cJ kk g x u7 _ hr1 s.heap) (va_cwS 2 hts gL_mailFits_L_isOpen rfl rfl rfl (by decide +kernel) ⟨Nat.le_of_ble_eq_true rfl, Nat.le_of_ble_eq_true rfl⟩) (wk_preS hG hP hD [0, 1, 2, 3, 4, 5, 6, 7, 8, 9, 10, 11, 12, 13, 14, 15, 16, 17, 18, 19, 20, 21, 22, 23, 24, 25, 26, 27, 28, 29, 30, 31, 32, 33, 34, 35, 36, 37] rfl rfl) rfl rfl hl.1 rfl (lv_room (Nat.le_of_ble_eq_true rfl)) dL_mailFits_226 ⟨Nat.le_of_ble_eq_true rfl, Nat.le_of_ble_eq_true rfl⟩) hS (fun locs hS => ?_)
        refine lv_if_ne (tgt := 236) hx hb dL_mailFits_229 (by decide) (fun c2 => ?_) (fun c2 => ?_)
        · replace hM := (if_neg c2).symm.trans hM
          refine lv_iconst (v := (0 : Int32)) hx hb dL_mailFits_236 (by decide) ?_
          exact hB237 u5 u6 u7 u8 w0 false  _ _ hM hS (lv_sub hl [0, 1, 2, 3, 4, 5] rfl)
        · replace hM := (if_pos c2).symm.trans hM
          refine lv_iconst (v := (1 : Int32)) hx hb dL_mailFits_232 (by decide) ?_
          refine lv_goto (tgt := 237) hx hb dL_mailFits_233 (by decide) ?_
          exact hB237 u5 u6 u7 u8 w0 true  _ _ hM hS (lv_sub hl [0, 1, 2, 3, 4, 5] rfl)
      have hB209 : ∀ (u5 : Int32) (u6 : Int32) (u7 : Int32) (u8 : Int32) (w0 : Bool) (w1 : Bool) (locs : List Loc) (ls : Array Slot), M_L_mailFits_209 x p1 (lpF (M_L_mailFits_136s x p1) n136) u5 u6 u7 u8 w0 w1 = some out → va_S A s.heap s.heap locs → lv_has ls 9 [(0, .ref (g 0)), (1, .int p1), (5, .int u5), (6, .int u6), (7, .int u7), (8, .int u8)] → W p l e ({ frames := 6, cells := 0, slots := 0, locals := 135 } : Room) s m ([.ref (g 0), .int p1] : List Value).toArray below meth c s.heap locs 0 0 Q (F0 m 209 ls [.int (zI w1), .int (zI w0)]) := by
        intro u5 u6 u7 u8 w0 w1 locs ls hM hS hl
        unfold M_L_mailFits_209 at hM
        refine lv_icmp_ne (tgt := 274) hx hb dL_mailFits_209 (by decide) (fun c1 => ?_) (fun c1 => ?_)
        · replace hM := (if_neg c1).symm.trans hM
          exact hB274 u5 u6 u7  _ _ hM hS (lv_sub hl [0, 1, 2, 3, 4] rfl)
        · replace hM := (if_pos c1).symm.trans hM
          refine lv_iload hx hb dL_mailFits_212 (lv_at hl 5 rfl) ?_
          refine lv_iconst (v := (1 : Int32)) hx hb dL_mailFits_214 (by decide) ?_
          refine lv_icmp_ne (tgt := 222) hx hb dL_mailFits_215 (by decide) (fun c2 => ?_) (fun c2 => ?_)
          · replace hM := (if_neg c2).symm.trans hM
            refine lv_iconst (v := (0 : Int32)) hx hb dL_mailFits_222 (by decide) ?_
            exact hB223 u5 u6 u7 u8 false  _ _ hM hS (lv_sub hl [0, 1, 2, 3, 4, 5] rfl)
          · replace hM := (if_pos c2).symm.trans hM
            refine lv_iconst (v := (1 : Int32)) hx hb dL_mailFits_218 (by decide) ?_
            refine lv_goto (tgt := 223) hx hb dL_mailFits_219 (by decide) ?_
            exact hB223 u5 u6 u7 u8 true  _ _ hM hS (lv_sub hl [0, 1, 2, 3, 4, 5] rfl)
      have hB197 : ∀ (u5 : Int32) (u6 : Int32) (u7 : Int32) (u8 : Int32) (w0 : Bool) (locs : List Loc) (ls : Array Slot), M_L_mailFits_197 x p1 (lpF (M_L_mailFits_136s x p1) n136) u5 u6 u7 u8 w0 = some out → va_S A s.heap s.heap locs → lv_has ls 9 [(0, .ref (g 0)), (1, .int p1), (5, .int u5), (6, .int u6), (7, .int u7), (8, .int u8)] → W p l e ({ frames := 6, cells := 0, slots := 0, locals := 135 } : Room) s m ([.ref (g 0), .int p1] : List Value).toArray below meth c s.heap locs 0 0 Q (F0 m 197 ls [.int (zI w0)]) := by
        intro u5 u6 u7 u8 w0 locs ls hM hS hl
        unfold M_L_mailFits_197 at hM
        refine lv_iload hx hb dL_mailFits_197 (lv_at hl 2 rfl) ?_
        refine lv_iload hx hb dL_mailFits_199 (lv_at hl 4 rfl) ?_
        refine lv_icmp_ne (tgt := 208) hx hb dL_mailFits_201 (by decide) (fun c1 => ?_) (fun c1 => ?_)
        · replace hM := (if_neg c1).symm.trans hM
          refine lv_iconst (v := (0 : Int32)) hx hb dL_mailFits_208 (by decide) ?_
          exact hB209 u5 u6 u7 u8 w0 false  _ _ hM hS (lv_sub hl [0, 1, 2, 3, 4, 5] rfl)
        · replace hM := (if_pos c1).symm.trans hM
          refine lv_iconst (v := (1 : Int32)) hx hb dL_mailFits_204 (by decide) ?_
          refine lv_goto (tgt := 209) hx hb dL_mailFits_205 (by decide) ?_
          exact hB209 u5 u6 u7 u8 w0 true  _ _ hM hS (lv_sub hl [0, 1, 2, 3, 4, 5] rfl)
      have hB172 : ∀ (u5 : Int32) (u7 : Int32) (u8 : Int32) (w0 : Int32) (w1 : Bool) (locs : List Loc) (ls : Array Slot), M_L_mailFits_172 x p1 (lpF (M_L_mailFits_136s x p1) n136) u5 u7 u8 w0 w1 = some out → va_S A s.heap s.heap locs → lv_has ls 9 [(0, .ref (g 0)), (1, .int p1), (5, .int u5), (7, .int u7), (8, .int u8)] → W p l e ({ frames := 6, cells := 0, slots := 0, locals := 135 } : Room) s m ([.ref (g 0), .int p1] : List Value).toArray below meth c s.heap locs 0 0 Q (F0 m 172 ls [.int (zI w1), .int w0]) := by
        intro u5 u7 u8 w0 w1 locs ls hM hS hl
        unfold M_L_mailFits_172 at hM
        refine lv_iadd hx hb dL_mailFits_172 ?_
        refine lv_istore (lv' := [(6, .int (w0 + (zI w1))), (0, .ref (g 0)), (1, .int p1), (5, .int u5), (7, .int u7), (8, .int u8)]) hx hb dL_mailFits_173 hl (by decide) rfl (fun ls hl => ?_)
        refine lv_iload hx hb dL_mailFits_175 (lv_at hl 5 rfl) ?_
        refine lv_if_lt (tgt := 274) hx hb dL_mailFits_177 (by decide) (fun c1 => ?_) (fun c1 => ?_)
        · replace hM := (if_pos c1).symm.trans hM
          exact hB274 u5 (w0 + (zI w1)) u7  _ _ hM hS (lv_sub hl [1, 2, 3, 0, 4] rfl)
        · replace hM := (if_neg c1).symm.trans hM
          refine lv_iload hx hb dL_mailFits_180 (lv_at hl 5 rfl) ?_
          refine lv_bipush (v := (6 : Int32)) hx hb dL_mailFits_182 (by decide) ?_
          refine lv_icmp_gt (tgt := 274) hx hb dL_mailFits_184 (by decide) (fun c2 => ?_) (fun c2 => ?_)
          · replace hM := (if_pos c2).symm.trans hM
            exact hB274 u5 (w0 + (zI w1)) u7  _ _ hM hS (lv_sub hl [1, 2, 3, 0, 4] rfl)
          · replace hM := (if_neg c2).symm.trans hM
            refine lv_iload hx hb dL_mailFits_187 (lv_at hl 5 rfl) ?_
            refine lv_if_ne (tgt := 196) hx hb dL_mailFits_189 (by decide) (fun c3 => ?_) (fun c3 => ?_)
            · replace hM := (if_neg c3).symm.trans hM
              refine lv_iconst (v := (0 : Int32)) hx hb dL_mailFits_196 (by decide) ?_
              exact hB197 u5 (w0 + (zI w1)) u7 u8 false  _ _ hM hS (lv_sub hl [1, 2, 3, 0, 4, 5] rfl)
            · replace hM := (if_pos c3).symm.trans hM
              refine lv_iconst (v := (1 : Int32)) hx hb dL_mailFits_192 (by decide) ?_
              refine lv_goto (tgt := 197) hx hb dL_mailFits_193 (by decide) ?_
              exact hB197 u5 (w0 + (zI w1)) u7 u8 true  _ _ hM hS (lv_sub hl [1, 2, 3, 0, 4, 5] rfl)
      intro u4 u5 u6 u7 locs ls hM hS hl
      replace hM : M_L_mailFits_136s x p1 (lpF (M_L_mailFits_136s x p1) n136) (u4, u5, u6, u7) = some out := hM
      unfold M_L_mailFits_136s at hM
      try dsimp only at hM
      refine lv_iload hx hb dL_mailFits_136 (lv_at hl 5 rfl) ?_
      refine lv_aload_n hx hb dL_mailFits_138 rfl (lv_at hl 0 rfl) ?_
      refine lv_iconst (v := (0 : Int32)) hx hb dL_mailFits_139 (by decide) ?_
      obtain ⟨r1, hr1, hM⟩ := ob hM
      refine wk_callP (va_runV (As := [.int (0 : Int32)]) (rest := [.int u7]) ⟨hx, hb, hml, hown, hts⟩ (c_X6_whole l dC dI cI cD cJ kk g x (0 : Int32) _ hr1 s.heap) (cwV 1 hts gL_mailFits_X6_whole rfl rfl rfl (by decide +kernel) ⟨Nat.le_of_ble_eq_true rfl, Nat.le_of_ble_eq_true rfl⟩) (wk_preV (ci := 4) (q0 := 0) hG hP hD [0, 1, 2, 3, 4, 5, 6, 7, 8, 9, 10, 11, 12, 13, 14, 15, 16, 17, 18, 19, 20, 21, 22, 23, 24, 25, 26, 27, 28, 29, 30, 31, 32, 33, 34, 35, 36, 37] rfl rfl rfl rfl) rfl rfl hl.1 rfl (lv_room (Nat.le_of_ble_eq_true rfl)) dL_mailFits_140 ⟨Nat.le_of_ble_eq_true rfl, Nat.le_of_ble_eq_true rfl⟩) hS (fun locs hS => ?_)
      refine lv_icmp_ge (tgt := 283) hx hb dL_mailFits_143 (by decide) (fun c2 => ?_) (fun c2 => ?_)
      · replace hM := (if_pos c2).symm.trans hM
        exact hB283 u4 u5 u6  _ _ hM hS (lv_sub hl [0, 1, 2, 3, 4] rfl)
      · replace hM := (if_neg c2).symm.trans hM
        refine lv_iload hx hb dL_mailFits_146 (lv_at hl 2 rfl) ?_
        refine lv_if_eq (tgt := 283) hx hb dL_mailFits_148 (by decide) (fun c3 => ?_) (fun c3 => ?_)
        · replace hM := (if_pos c3).symm.trans hM
          exact hB283 u4 u5 u6  _ _ hM hS (lv_sub hl [0, 1, 2, 3, 4] rfl)
        · replace hM := (if_neg c3).symm.trans hM
          refine lv_aload_n hx hb dL_mailFits_151 rfl (lv_at hl 0 rfl) ?_
          refine lv_iload_n hx hb dL_mailFits_152 rfl (lv_at hl 1 rfl) ?_
          refine lv_iload hx hb dL_mailFits_153 (lv_at hl 5 rfl) ?_
          obtain ⟨r4, hr4, hM⟩ := ob hM
          refine wk_callP (va_runV (As := [.int p1, .int u7]) (rest := []) ⟨hx, hb, hml, hown, hts⟩ (c_X6_reason l dC dI cI cD cJ kk g x p1 u7 _ hr4 s.heap) (cwV 2 hts gL_mailFits_X6_reason rfl rfl rfl (by decide +kernel) ⟨Nat.le_of_ble_eq_true rfl, Nat.le_of_ble_eq_true rfl⟩) (wk_preV (ci := 4) (q0 := 0) hG hP hD [0, 1, 2, 3, 4, 5, 6, 7, 8, 9, 10, 11, 12, 13, 14, 15, 16, 17, 18, 19, 20, 21, 22, 23, 24, 25, 26, 27, 28, 29, 30, 31, 32, 33, 34, 35, 36, 37] rfl rfl rfl rfl) rfl rfl hl.1 rfl (lv_room (Nat.le_of_ble_eq_true rfl)) dL_mailFits_155 ⟨Nat.le_of_ble_eq_true rfl, Nat.le_of_ble_eq_true rfl⟩) hS (fun locs hS => ?_)
          refine lv_istore (lv' := [(8, .int r4), (0, .ref (g 0)), (1, .int p1), (4, .int (zI u4)), (5, .int u5), (6, .int u6), (7, .int u7)]) hx hb dL_mailFits_158 hl (by decide) rfl (fun ls hl => ?_)
          refine lv_iload hx hb dL_mailFits_160 (lv_at hl 5 rfl) ?_
          refine lv_iload hx hb dL_mailFits_162 (lv_at hl 0 rfl) ?_
          refine lv_if_ne (tgt := 171) hx hb dL_mailFits_164 (by decide) (fun c5 => ?_) (fun c5 => ?_)
          · replace hM := (if_neg c5).symm.trans hM
            refine lv_iconst (v := (0 : Int32)) hx hb dL_mailFits_171 (by decide) ?_
            exact hB172 u5 u7 r4 u6 false  _ _ hM hS (lv_sub hl [1, 2, 4, 6, 0] rfl)
          · replace hM := (if_pos c5).symm.trans hM
            refine lv_iconst (v := (1 : Int32)) hx hb dL_mailFits_167 (by decide) ?_
            refine lv_goto (tgt := 172) hx hb dL_mailFits_168 (by decide) ?_
            exact hB172 u5 u7 r4 u6 true  _ _ hM hS (lv_sub hl [1, 2, 4, 6, 0] rfl)
  have hB123 : ∀ (u4 : Bool) (locs : List Loc) (ls : Array Slot), M_L_mailFits_123 x p1 u4 = some out → va_S A s.heap s.heap locs → lv_has ls 9 [(0, .ref (g 0)), (1, .int p1), (4, .int (zI u4))] → W p l e ({ frames := 6, cells := 0, slots := 0, locals := 135 } : Room) s m ([.ref (g 0), .int p1] : List Value).toArray below meth c s.heap locs 0 0 Q (F0 m 123 ls []) := by
    intro u4 locs ls hM hS hl
    unfold M_L_mailFits_123 at hM
    refine lv_aload_n hx hb dL_mailFits_123 rfl (lv_at hl 0 rfl) ?_
    refine lv_iload_n hx hb dL_mailFits_124 rfl (lv_at hl 1 rfl) ?_
    obtain ⟨r1, hr1, hM⟩ := ob hM
    refine wk_callP (va_runV (As := [.int p1]) (rest := []) ⟨hx, hb, hml, hown, hts⟩ (c_X6_nextFor l dC dI cI cD cJ kk g x p1 _ hr1 s.heap) (cwV 1 hts gL_mailFits_X6_nextFor rfl rfl rfl (by decide +kernel) ⟨Nat.le_of_ble_eq_true rfl, Nat.le_of_ble_eq_true rfl⟩) (wk_preV (ci := 4) (q0 := 0) hG hP hD [0, 1, 2, 3, 4, 5, 6, 7, 8, 9, 10, 11, 12, 13, 14, 15, 16, 17, 18, 19, 20, 21, 22, 23, 24, 25, 26, 27, 28, 29, 30, 31, 32, 33, 34, 35, 36, 37] rfl rfl rfl rfl) rfl rfl hl.1 rfl (lv_room (Nat.le_of_ble_eq_true rfl)) dL_mailFits_125 ⟨Nat.le_of_ble_eq_true rfl, Nat.le_of_ble_eq_true rfl⟩) hS (fun locs hS => ?_)
    refine lv_istore (lv' := [(5, .int r1), (0, .ref (g 0)), (1, .int p1), (4, .int (zI u4))]) hx hb dL_mailFits_128 hl (by decide) rfl (fun ls hl => ?_)
    refine lv_iconst (v := (0 : Int32)) hx hb dL_mailFits_130 (by decide) ?_
    refine lv_istore (lv' := [(6, .int (0 : Int32)), (5, .int r1), (0, .ref (g 0)), (1, .int p1), (4, .int (zI u4))]) hx hb dL_mailFits_131 hl (by decide) rfl (fun ls hl => ?_)
    refine lv_iconst (v := (0 : Int32)) hx hb dL_mailFits_133 (by decide) ?_
    refine lv_istore (lv' := [(7, .int (0 : Int32)), (6, .int (0 : Int32)), (5, .int r1), (0, .ref (g 0)), (1, .int p1), (4, .int (zI u4))]) hx hb dL_mailFits_134 hl (by decide) rfl (fun ls hl => ?_)
    exact hL136 64 u4 r1 (0 : Int32) (0 : Int32)  _ _ hM hS (lv_sub hl [3, 4, 5, 2, 1, 0] rfl)
  have hL56 : ∀ (n56 : Nat) (u2 : Int32) (u4 : Bool) (u5 : Int32) (locs : List Loc) (ls : Array Slot), lpF (M_L_mailFits_56s x p1) n56 (u2, u4, u5) = some out → va_S A s.heap s.heap locs → lv_has ls 9 [(0, .ref (g 0)), (1, .int p1), (2, .int u2), (4, .int (zI u4)), (5, .int u5)] → W p l e ({ frames := 6, cells := 0, slots := 0, locals := 135 } : Room) s m ([.ref (g 0), .int p1] : List Value).toArray below meth c s.heap locs 0 0 Q (F0 m 56 ls []) := by
    intro n56
    induction n56 with
    | zero => intro u2 u4 u5 locs ls hM; exact lpF_0 hM
    | succ n56 ih56 =>
      have hB115 : ∀ (u2 : Int32) (u5 : Int32) (w0 : Bool) (locs : List Loc) (ls : Array Slot), M_L_mailFits_115 x p1 (lpF (M_L_mailFits_56s x p1) n56) u2 u5 w0 = some out → va_S A s.heap s.heap locs → lv_has ls 9 [(0, .ref (g 0)), (1, .int p1), (2, .int u2), (5, .int u5)] → W p l e ({ frames := 6, cells := 0, slots := 0, locals := 135 } : Room) s m ([.ref (g 0), .int p1] : List Value).toArray below meth c s.heap locs 0 0 Q (F0 m 115 ls [.int (zI w0)]) := by
        intro u2 u5 w0 locs ls hM hS hl
        unfold M_L_mailFits_115 at hM
        refine lv_istore (lv' := [(4, .int (zI w0)), (0, .ref (g 0)), (1, .int p1), (2, .int u2), (5, .int u5)]) hx hb dL_mailFits_115 hl (by decide) rfl (fun ls hl => ?_)
        refine lv_iinc (v := (u5 + 1)) (lv' := [(5, .int (u5 + 1)), (4, .int (zI w0)), (0, .ref (g 0)), (1, .int p1), (2, .int u2)]) hx hb dL_mailFits_117 hl (k := 4) rfl rfl (by decide) rfl (fun ls hl => ?_)
        refine lv_goto (tgt := 56) hx hb dL_mailFits_120 (by decide) ?_
        exact ih56 u2 w0 (u5 + 1)  _ _ hM hS (lv_sub hl [2, 3, 4, 1, 0] rfl)
      have hB110 : ∀ (u2 : Int32) (u5 : Int32) (locs : List Loc) (ls : Array Slot), M_L_mailFits_110 x p1 (lpF (M_L_mailFits_56s x p1) n56) u2 u5 = some out → va_S A s.heap s.heap locs → lv_has ls 9 [(0, .ref (g 0)), (1, .int p1), (2, .int u2), (5, .int u5)] → W p l e ({ frames := 6, cells := 0, slots := 0, locals := 135 } : Room) s m ([.ref (g 0), .int p1] : List Value).toArray below meth c s.heap locs 0 0 Q (F0 m 110 ls []) := by
        intro u2 u5 locs ls hM hS hl
        unfold M_L_mailFits_110 at hM
        refine lv_iconst (v := (1 : Int32)) hx hb dL_mailFits_110 (by decide) ?_
        refine lv_goto (tgt := 115) hx hb dL_mailFits_111 (by decide) ?_
        exact hB115 u2 u5 true  _ _ hM hS (lv_sub hl [0, 1, 2, 3] rfl)
      have hB114 : ∀ (u2 : Int32) (u5 : Int32) (locs : List Loc) (ls : Array Slot), M_L_mailFits_114 x p1 (lpF (M_L_mailFits_56s x p1) n56) u2 u5 = some out → va_S A s.heap s.heap locs → lv_has ls 9 [(0, .ref (g 0)), (1, .int p1), (2, .int u2), (5, .int u5)] → W p l e ({ frames := 6, cells := 0, slots := 0, locals := 135 } : Room) s m ([.ref (g 0), .int p1] : List Value).toArray below meth c s.heap locs 0 0 Q (F0 m 114 ls []) := by
        intro u2 u5 locs ls hM hS hl
        unfold M_L_mailFits_114 at hM
        refine lv_iconst (v := (0 : Int32)) hx hb dL_mailFits_114 (by decide) ?_
        exact hB115 u2 u5 false  _ _ hM hS (lv_sub hl [0, 1, 2, 3] rfl)
      intro u2 u4 u5 locs ls hM hS hl
      replace hM : M_L_mailFits_56s x p1 (lpF (M_L_mailFits_56s x p1) n56) (u2, u4, u5) = some out := hM
      unfold M_L_mailFits_56s at hM
      try dsimp only at hM
      refine lv_iload hx hb dL_mailFits_56 (lv_at hl 4 rfl) ?_
      refine lv_iload_n hx hb dL_mailFits_58 rfl (lv_at hl 2 rfl) ?_
      refine lv_icmp_ge (tgt := 123) hx hb dL_mailFits_59 (by decide) (fun c1 => ?_) (fun c1 => ?_)
      · replace hM := (if_pos c1).symm.trans hM
        exact hB123 u4  _ _ hM hS (lv_sub hl [0, 1, 3] rfl)
      · replace hM := (if_neg c1).symm.trans hM
        refine lv_iload hx hb dL_mailFits_62 (lv_at hl 3 rfl) ?_
        refine lv_if_eq (tgt := 123) hx hb dL_mailFits_64 (by decide) (fun c2 => ?_) (fun c2 => ?_)
        · replace hM := (if_pos c2).symm.trans hM
          exact hB123 u4  _ _ hM hS (lv_sub hl [0, 1, 3] rfl)
        · replace hM := (if_neg c2).symm.trans hM
          refine lv_aload_n hx hb dL_mailFits_67 rfl (lv_at hl 0 rfl) ?_
          refine lv_iload_n hx hb dL_mailFits_68 rfl (lv_at hl 1 rfl) ?_
          refine lv_iload hx hb dL_mailFits_69 (lv_at hl 4 rfl) ?_
          obtain ⟨r3, hr3, hM⟩ := ob hM
          refine wk_callP (va_runV (As := [.int p1, .int u5]) (rest := []) ⟨hx, hb, hml, hown, hts⟩ (c_X6_mail l dC dI cI cD cJ kk g x p1 u5 _ hr3 s.heap) (cwV 2 hts gL_mailFits_X6_mail rfl rfl rfl (by decide +kernel) ⟨Nat.le_of_ble_eq_true rfl, Nat.le_of_ble_eq_true rfl⟩) (wk_preV (ci := 4) (q0 := 0) hG hP hD [0, 1, 2, 3, 4, 5, 6, 7, 8, 9, 10, 11, 12, 13, 14, 15, 16, 17, 18, 19, 20, 21, 22, 23, 24, 25, 26, 27, 28, 29, 30, 31, 32, 33, 34, 35, 36, 37] rfl rfl rfl rfl) rfl rfl hl.1 rfl (lv_room (Nat.le_of_ble_eq_true rfl)) dL_mailFits_71 ⟨Nat.le_of_ble_eq_true rfl, Nat.le_of_ble_eq_true rfl⟩) hS (fun locs hS => ?_)
          refine lv_istore (lv' := [(6, .int r3), (0, .ref (g 0)), (1, .int p1), (2, .int u2), (4, .int (zI u4)), (5, .int u5)]) hx hb dL_mailFits_74 hl (by decide) rfl (fun ls hl => ?_)
          refine lv_iload hx hb dL_mailFits_76 (lv_at hl 0 rfl) ?_
          refine lv_if_lt (tgt := 114) hx hb dL_mailFits_78 (by decide) (fun c4 => ?_) (fun c4 => ?_)
          · replace hM := (if_pos c4).symm.trans hM
            exact hB114 u2 u5  _ _ hM hS (lv_sub hl [1, 2, 3, 5] rfl)
          · replace hM := (if_neg c4).symm.trans hM
            refine lv_iload hx hb dL_mailFits_81 (lv_at hl 0 rfl) ?_
            refine lv_aload_n hx hb dL_mailFits_83 rfl (lv_at hl 1 rfl) ?_
            refine lv_iconst (v := (0 : Int32)) hx hb dL_mailFits_84 (by decide) ?_
            obtain ⟨r5, hr5, hM⟩ := ob hM
            refine wk_callP (va_runV (As := [.int (0 : Int32)]) (rest := [.int r3]) ⟨hx, hb, hml, hown, hts⟩ (c_X6_whole l dC dI cI cD cJ kk g x (0 : Int32) _ hr5 s.heap) (cwV 1 hts gL_mailFits_X6_whole rfl rfl rfl (by decide +kernel) ⟨Nat.le_of_ble_eq_true rfl, Nat.le_of_ble_eq_true rfl⟩) (wk_preV (ci := 4) (q0 := 0) hG hP hD [0, 1, 2, 3, 4, 5, 6, 7, 8, 9, 10, 11, 12, 13, 14, 15, 16, 17, 18, 19, 20, 21, 22, 23, 24, 25, 26, 27, 28, 29, 30, 31, 32, 33, 34, 35, 36, 37] rfl rfl rfl rfl) rfl rfl hl.1 rfl (lv_room (Nat.le_of_ble_eq_true rfl)) dL_mailFits_85 ⟨Nat.le_of_ble_eq_true rfl, Nat.le_of_ble_eq_true rfl⟩) hS (fun locs hS => ?_)
            refine lv_icmp_ge (tgt := 114) hx hb dL_mailFits_88 (by decide) (fun c6 => ?_) (fun c6 => ?_)
            · replace hM := (if_pos c6).symm.trans hM
              exact hB114 u2 u5  _ _ hM hS (lv_sub hl [1, 2, 3, 5] rfl)
            · replace hM := (if_neg c6).symm.trans hM
              refine lv_iload hx hb dL_mailFits_91 (lv_at hl 5 rfl) ?_
              refine lv_if_eq (tgt := 110) hx hb dL_mailFits_93 (by decide) (fun c7 => ?_) (fun c7 => ?_)
              · replace hM := (if_pos c7).symm.trans hM
                exact hB110 u2 u5  _ _ hM hS (lv_sub hl [1, 2, 3, 5] rfl)
              · replace hM := (if_neg c7).symm.trans hM
                refine lv_aload_n hx hb dL_mailFits_96 rfl (lv_at hl 1 rfl) ?_
                refine lv_iload_n hx hb dL_mailFits_97 rfl (lv_at hl 2 rfl) ?_
                refine lv_iload hx hb dL_mailFits_98 (lv_at hl 5 rfl) ?_
                refine lv_iconst (v := (1 : Int32)) hx hb dL_mailFits_100 (by decide) ?_
                refine lv_isub hx hb dL_mailFits_101 ?_
                obtain ⟨r8, hr8, hM⟩ := ob hM
                refine wk_callP (va_runV (As := [.int p1, .int (u5 - (1 : Int32))]) (rest := []) ⟨hx, hb, hml, hown, hts⟩ (c_X6_mail l dC dI cI cD cJ kk g x p1 (u5 - (1 : Int32)) _ hr8 s.heap) (cwV 2 hts gL_mailFits_X6_mail rfl rfl rfl (by decide +kernel) ⟨Nat.le_of_ble_eq_true rfl, Nat.le_of_ble_eq_true rfl⟩) (wk_preV (ci := 4) (q0 := 0) hG hP hD [0, 1, 2, 3, 4, 5, 6, 7, 8, 9, 10, 11, 12, 13, 14, 15, 16, 17, 18, 19, 20, 21, 22, 23, 24, 25, 26, 27, 28, 29, 30, 31, 32, 33, 34, 35, 36, 37] rfl rfl rfl rfl) rfl rfl hl.1 rfl (lv_room (Nat.le_of_ble_eq_true rfl)) dL_mailFits_102 ⟨Nat.le_of_ble_eq_true rfl, Nat.le_of_ble_eq_true rfl⟩) hS (fun locs hS => ?_)
                refine lv_iload hx hb dL_mailFits_105 (lv_at hl 0 rfl) ?_
                refine lv_icmp_ge (tgt := 114) hx hb dL_mailFits_107 (by decide) (fun c9 => ?_) (fun c9 => ?_)
                · replace hM := (if_pos c9).symm.trans hM
                  exact hB114 u2 u5  _ _ hM hS (lv_sub hl [1, 2, 3, 5] rfl)
                · replace hM := (if_neg c9).symm.trans hM
                  exact hB110 u2 u5  _ _ hM hS (lv_sub hl [1, 2, 3, 5] rfl)
  have hB51 : ∀ (u2 : Int32) (w0 : Bool) (locs : List Loc) (ls : Array Slot), M_L_mailFits_51 x p1 u2 w0 = some out → va_S A s.heap s.heap locs → lv_has ls 9 [(0, .ref (g 0)), (1, .int p1), (2, .int u2)] → W p l e ({ frames := 6, cells := 0, slots := 0, locals := 135 } : Room) s m ([.ref (g 0), .int p1] : List Value).toArray below meth c s.heap locs 0 0 Q (F0 m 51 ls [.int (zI w0)]) := by
    intro u2 w0 locs ls hM hS hl
    unfold M_L_mailFits_51 at hM
    refine lv_istore (lv' := [(4, .int (zI w0)), (0, .ref (g 0)), (1, .int p1), (2, .int u2)]) hx hb dL_mailFits_51 hl (by decide) rfl (fun ls hl => ?_)
    refine lv_iconst (v := (0 : Int32)) hx hb dL_mailFits_53 (by decide) ?_
    refine lv_istore (lv' := [(5, .int (0 : Int32)), (4, .int (zI w0)), (0, .ref (g 0)), (1, .int p1), (2, .int u2)]) hx hb dL_mailFits_54 hl (by decide) rfl (fun ls hl => ?_)
    exact hL56 64 u2 w0 (0 : Int32)  _ _ hM hS (lv_sub hl [2, 3, 4, 1, 0] rfl)
  have hB50 : ∀ (u2 : Int32) (locs : List Loc) (ls : Array Slot), M_L_mailFits_50 x p1 u2 = some out → va_S A s.heap s.heap locs → lv_has ls 9 [(0, .ref (g 0)), (1, .int p1), (2, .int u2)] → W p l e ({ frames := 6, cells := 0, slots := 0, locals := 135 } : Room) s m ([.ref (g 0), .int p1] : List Value).toArray below meth c s.heap locs 0 0 Q (F0 m 50 ls []) := by
    intro u2 locs ls hM hS hl
    unfold M_L_mailFits_50 at hM
    refine lv_iconst (v := (0 : Int32)) hx hb dL_mailFits_50 (by decide) ?_
    exact hB51 u2 false  _ _ hM hS (lv_sub hl [0, 1, 2] rfl)
  unfold M_L_mailFits at hM
  refine lv_aload_n hx hb dL_mailFits_0 rfl (lv_at hl 0 rfl) ?_
  refine lv_iload_n hx hb dL_mailFits_1 rfl (lv_at hl 1 rfl) ?_
  refine lv_iconst (v := (3 : Int32)) hx hb dL_mailFits_2 (by decide) ?_
  obtain ⟨r1, hr1, hM⟩ := ob hM
  refine wk_callP (va_runV (As := [.int p1, .int (3 : Int32)]) (rest := []) ⟨hx, hb, hml, hown, hts⟩ (c_X6_controller l dC dI cI cD cJ kk g x p1 (3 : Int32) _ hr1 s.heap) (cwV 2 hts gL_mailFits_X6_controller rfl rfl rfl (by decide +kernel) ⟨Nat.le_of_ble_eq_true rfl, Nat.le_of_ble_eq_true rfl⟩) (wk_preV (ci := 4) (q0 := 0) hG hP hD [0, 1, 2, 3, 4, 5, 6, 7, 8, 9, 10, 11, 12, 13, 14, 15, 16, 17, 18, 19, 20, 21, 22, 23, 24, 25, 26, 27, 28, 29, 30, 31, 32, 33, 34, 35, 36, 37] rfl rfl rfl rfl) rfl rfl hl.1 rfl (lv_room (Nat.le_of_ble_eq_true rfl)) dL_mailFits_3 ⟨Nat.le_of_ble_eq_true rfl, Nat.le_of_ble_eq_true rfl⟩) hS (fun locs hS => ?_)
  refine lv_istore_n (lv' := [(2, .int r1), (0, .ref (g 0)), (1, .int p1)]) hx hb dL_mailFits_6 rfl hl (by decide) rfl (fun ls hl => ?_)
  refine lv_aload_n hx hb dL_mailFits_7 rfl (lv_at hl 1 rfl) ?_
  refine lv_iload_n hx hb dL_mailFits_8 rfl (lv_at hl 2 rfl) ?_
  refine lv_iconst (v := (4 : Int32)) hx hb dL_mailFits_9 (by decide) ?_
  obtain ⟨r2, hr2, hM⟩ := ob hM
  refine wk_callP (va_runV (As := [.int p1, .int (4 : Int32)]) (rest := []) ⟨hx, hb, hml, hown, hts⟩ (c_X6_controller l dC dI cI cD cJ kk g x p1 (4 : Int32) _ hr2 s.heap) (cwV 2 hts gL_mailFits_X6_controller rfl rfl rfl (by decide +kernel) ⟨Nat.le_of_ble_eq_true rfl, Nat.le_of_ble_eq_true rfl⟩) (wk_preV (ci := 4) (q0 := 0) hG hP hD [0, 1, 2, 3, 4, 5, 6, 7, 8, 9, 10, 11, 12, 13, 14, 15, 16, 17, 18, 19, 20, 21, 22, 23, 24, 25, 26, 27, 28, 29, 30, 31, 32, 33, 34, 35, 36, 37] rfl rfl rfl rfl) rfl rfl hl.1 rfl (lv_room (Nat.le_of_ble_eq_true rfl)) dL_mailFits_10 ⟨Nat.le_of_ble_eq_true rfl, Nat.le_of_ble_eq_true rfl⟩) hS (fun locs hS => ?_)
  refine lv_istore_n (lv' := [(3, .int r2), (2, .int r1), (0, .ref (g 0)), (1, .int p1)]) hx hb dL_mailFits_13 rfl hl (by decide) rfl (fun ls hl => ?_)
  refine lv_iload_n hx hb dL_mailFits_14 rfl (lv_at hl 1 rfl) ?_
  refine lv_if_lt (tgt := 50) hx hb dL_mailFits_15 (by decide) (fun c3 => ?_) (fun c3 => ?_)
  · replace hM := (if_pos c3).symm.trans hM
    exact hB50 r1  _ _ hM hS (lv_sub hl [2, 3, 1] rfl)
  · replace hM := (if_neg c3).symm.trans hM
    refine lv_iload_n hx hb dL_mailFits_18 rfl (lv_at hl 1 rfl) ?_
    refine lv_aload_n hx hb dL_mailFits_19 rfl (lv_at hl 2 rfl) ?_
    refine lv_iconst (v := (0 : Int32)) hx hb dL_mailFits_20 (by decide) ?_
    obtain ⟨r4, hr4, hM⟩ := ob hM
    refine wk_callP (va_runV (As := [.int (0 : Int32)]) (rest := [.int r1]) ⟨hx, hb, hml, hown, hts⟩ (c_X6_whole l dC dI cI cD cJ kk g x (0 : Int32) _ hr4 s.heap) (cwV 1 hts gL_mailFits_X6_whole rfl rfl rfl (by decide +kernel) ⟨Nat.le_of_ble_eq_true rfl, Nat.le_of_ble_eq_true rfl⟩) (wk_preV (ci := 4) (q0 := 0) hG hP hD [0, 1, 2, 3, 4, 5, 6, 7, 8, 9, 10, 11, 12, 13, 14, 15, 16, 17, 18, 19, 20, 21, 22, 23, 24, 25, 26, 27, 28, 29, 30, 31, 32, 33, 34, 35, 36, 37] rfl rfl rfl rfl) rfl rfl hl.1 rfl (lv_room (Nat.le_of_ble_eq_true rfl)) dL_mailFits_21 ⟨Nat.le_of_ble_eq_true rfl, Nat.le_of_ble_eq_true rfl⟩) hS (fun locs hS => ?_)
    refine lv_icmp_gt (tgt := 50) hx hb dL_mailFits_24 (by decide) (fun c5 => ?_) (fun c5 => ?_)
    · replace hM := (if_pos c5).symm.trans hM
      exact hB50 r1  _ _ hM hS (lv_sub hl [2, 3, 1] rfl)
    · replace hM := (if_neg c5).symm.trans hM
      refine lv_iload_n hx hb dL_mailFits_27 rfl (lv_at hl 0 rfl) ?_
      refine lv_if_lt (tgt := 50) hx hb dL_mailFits_28 (by decide) (fun c6 => ?_) (fun c6 => ?_)
      · replace hM := (if_pos c6).symm.trans hM
        exact hB50 r1  _ _ hM hS (lv_sub hl [2, 3, 1] rfl)
      · replace hM := (if_neg c6).symm.trans hM
        refine lv_iload_n hx hb dL_mailFits_31 rfl (lv_at hl 0 rfl) ?_
        refine lv_iload_n hx hb dL_mailFits_32 rfl (lv_at hl 1 rfl) ?_
        refine lv_icmp_gt (tgt := 50) hx hb dL_mailFits_33 (by decide) (fun c7 => ?_) (fun c7 => ?_)
        · replace hM := (if_pos c7).symm.trans hM
          exact hB50 r1  _ _ hM hS (lv_sub hl [2, 3, 1] rfl)
        · replace hM := (if_neg c7).symm.trans hM
          refine lv_aload_n hx hb dL_mailFits_36 rfl (lv_at hl 2 rfl) ?_
          refine lv_iload_n hx hb dL_mailFits_37 rfl (lv_at hl 3 rfl) ?_
          refine lv_iload_n hx hb dL_mailFits_38 rfl (lv_at hl 1 rfl) ?_
          obtain ⟨r8, hr8, hM⟩ := ob hM
          refine wk_callP (va_runV (As := [.int p1, .int r1]) (rest := []) ⟨hx, hb, hml, hown, hts⟩ (c_X6_mail l dC dI cI cD cJ kk g x p1 r1 _ hr8 s.heap) (cwV 2 hts gL_mailFits_X6_mail rfl rfl rfl (by decide +kernel) ⟨Nat.le_of_ble_eq_true rfl, Nat.le_of_ble_eq_true rfl⟩) (wk_preV (ci := 4) (q0 := 0) hG hP hD [0, 1, 2, 3, 4, 5, 6, 7, 8, 9, 10, 11, 12, 13, 14, 15, 16, 17, 18, 19, 20, 21, 22, 23, 24, 25, 26, 27, 28, 29, 30, 31, 32, 33, 34, 35, 36, 37] rfl rfl rfl rfl) rfl rfl hl.1 rfl (lv_room (Nat.le_of_ble_eq_true rfl)) dL_mailFits_39 ⟨Nat.le_of_ble_eq_true rfl, Nat.le_of_ble_eq_true rfl⟩) hS (fun locs hS => ?_)
          refine lv_iconst (v := (-1 : Int32)) hx hb dL_mailFits_42 (by decide) ?_
          refine lv_icmp_ne (tgt := 50) hx hb dL_mailFits_43 (by decide) (fun c9 => ?_) (fun c9 => ?_)
          · replace hM := (if_neg c9).symm.trans hM
            exact hB50 r1  _ _ hM hS (lv_sub hl [2, 3, 1] rfl)
          · replace hM := (if_pos c9).symm.trans hM
            refine lv_iconst (v := (1 : Int32)) hx hb dL_mailFits_46 (by decide) ?_
            refine lv_goto (tgt := 51) hx hb dL_mailFits_47 (by decide) ?_
            exact hB51 r1 true  _ _ hM hS (lv_sub hl [2, 3, 1] rfl)
