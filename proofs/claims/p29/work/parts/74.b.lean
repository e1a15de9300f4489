/-! PART 37: the law's waitsFit -/
set_option maxHeartbeats 4000000 in
set_option maxRecDepth 100000 in
theorem c_L_waitsFit (l : Launch) (dC : Nat → ClassId) (dI : Nat → Nat → Nat) (cI cD cJ : ClassId) (kk : wAd) (g : Nat → Nat) (x : SS) (p1 : Int32) (out : Bool × SS) (hM : M_L_waitsFit x p1 = some out) : CM l yL_waitsFit wsL_waitsFit ({ frames := 5, cells := 0, slots := 0, locals := 113 } : Room) dC dI (wTys cI cD cJ) [.ref (g 0), .int p1] (wSys cI cD kk.1 g x) (some (.int (zI out.1))) (wSys cI cD kk.1 g out.2) 0 0 := by
  refine wk_enterM (cc := cL_waitsFit) (maxL := 7) (ret := (some .boolean)) (by decide) rfl (Nat.le_of_ble_eq_true rfl) ?_
  intro p e s m below meth c A Q ls hB hA hP hD hQ hl
  obtain ⟨hx, hb, hml, hr, hts, hown, hname, hlocks, hG⟩ := hB
  have hown : s.vm.findClass RL = some m.cls := hown
  have hS : va_S A s.heap s.heap [] := va_S.rf
  have hl : lv_has ls 7 [(0, .ref (g 0)), (1, .int p1)] := hl
  obtain ⟨H, hH⟩ : ∃ z, z = s.heap := ⟨_, rfl⟩
  have hP : va_P (dC, dI) vwCl (wSys cI cD kk.1 g x) H := by rw [hH]; exact hP
  have hS : va_S A s.heap H [] := by rw [hH]; exact hS
  refine wk_at hH ?_
  generalize ([] : List Loc) = locs at hS ⊢
  have hB135 : ∀ (u2 : Bool) (y0 : SS) (H : Heap) (locs : List Loc) (ls : Array Slot), M_L_waitsFit_135 x p1 u2 y0 = some out → va_P (dC, dI) vwCl (wSys cI cD kk.1 g y0) H → va_D A (wSys cI cD kk.1 g y0) → va_S A s.heap H locs → lv_has ls 7 [(2, .int (zI u2))] → W p l e ({ frames := 5, cells := 0, slots := 0, locals := 113 } : Room) s m ([.ref (g 0), .int p1] : List Value).toArray below meth c H locs 0 0 Q (F0 m 135 ls []) := by
    intro u2 y0 H locs ls hM hP hD hS hl
    unfold M_L_waitsFit_135 at hM
    refine lv_iload_n hx hb dL_waitsFit_135 rfl (lv_at hl 0 rfl) ?_
    replace hM := Option.some.inj hM
    subst hM
    exact wk_retMi hx hb hr hlocks hQ (zI_nar _) rfl hP hD hS dL_waitsFit_136
  have hL4 : ∀ (n4 : Nat) (u2 : Bool) (u3 : Int32) (y0 : SS) (H : Heap) (locs : List Loc) (ls : Array Slot), lpF (M_L_waitsFit_4s x p1) n4 (u2, u3, y0) = some out → va_P (dC, dI) vwCl (wSys cI cD kk.1 g y0) H → va_D A (wSys cI cD kk.1 g y0) → va_S A s.heap H locs → lv_has ls 7 [(0, .ref (g 0)), (1, .int p1), (2, .int (zI u2)), (3, .int u3)] → W p l e ({ frames := 5, cells := 0, slots := 0, locals := 113 } : Room) s m ([.ref (g 0), .int p1] : List Value).toArray below meth c H locs 0 0 Q (F0 m 4 ls []) := by
    intro n4
    induction n4 with
    | zero => intro u2 u3 y0 H locs ls hM; exact lpF_0 hM
    | succ n4 ih4 =>
      have hB128 : ∀ (u3 : Int32) (w0 : Bool) (y0 : SS) (H : Heap) (locs : List Loc) (ls : Array Slot), M_L_waitsFit_128 x p1 (lpF (M_L_waitsFit_4s x p1) n4) u3 w0 y0 = some out → va_P (dC, dI) vwCl (wSys cI cD kk.1 g y0) H → va_D A (wSys cI cD kk.1 g y0) → va_S A s.heap H locs → lv_has ls 7 [(0, .ref (g 0)), (1, .int p1), (3, .int u3)] → W p l e ({ frames := 5, cells := 0, slots := 0, locals := 113 } : Room) s m ([.ref (g 0), .int p1] : List Value).toArray below meth c H locs 0 0 Q (F0 m 128 ls [.int (zI w0)]) := by
        intro u3 w0 y0 H locs ls hM hP hD hS hl
        unfold M_L_waitsFit_128 at hM
        refine lv_istore_n (lv' := [(2, .int (zI w0)), (0, .ref (g 0)), (1, .int p1), (3, .int u3)]) hx hb dL_waitsFit_128 rfl hl (by decide) rfl (fun ls hl => ?_)
        refine lv_iinc (v := (u3 + 1)) (lv' := [(3, .int (u3 + 1)), (2, .int (zI w0)), (0, .ref (g 0)), (1, .int p1)]) hx hb dL_waitsFit_129 hl (k := 3) rfl rfl (by decide) rfl (fun ls hl => ?_)
        refine lv_goto (tgt := 4) hx hb dL_waitsFit_132 (by decide) ?_
        exact ih4 w0 (u3 + 1) y0 H _ _ hM hP hD hS (lv_sub hl [2, 3, 1, 0] rfl)
      have hB123 : ∀ (u3 : Int32) (y0 : SS) (H : Heap) (locs : List Loc) (ls : Array Slot), M_L_waitsFit_123 x p1 (lpF (M_L_waitsFit_4s x p1) n4) u3 y0 = some out → va_P (dC, dI) vwCl (wSys cI cD kk.1 g y0) H → va_D A (wSys cI cD kk.1 g y0) → va_S A s.heap H locs → lv_has ls 7 [(0, .ref (g 0)), (1, .int p1), (3, .int u3)] → W p l e ({ frames := 5, cells := 0, slots := 0, locals := 113 } : Room) s m ([.ref (g 0), .int p1] : List Value).toArray below meth c H locs 0 0 Q (F0 m 123 ls []) := by
        intro u3 y0 H locs ls hM hP hD hS hl
        unfold M_L_waitsFit_123 at hM
        refine lv_iconst (v := (1 : Int32)) hx hb dL_waitsFit_123 (by decide) ?_
        refine lv_goto (tgt := 128) hx hb dL_waitsFit_124 (by decide) ?_
        exact hB128 u3 true y0 H _ _ hM hP hD hS (lv_sub hl [0, 1, 2] rfl)
      have hB127 : ∀ (u3 : Int32) (y0 : SS) (H : Heap) (locs : List Loc) (ls : Array Slot), M_L_waitsFit_127 x p1 (lpF (M_L_waitsFit_4s x p1) n4) u3 y0 = some out → va_P (dC, dI) vwCl (wSys cI cD kk.1 g y0) H → va_D A (wSys cI cD kk.1 g y0) → va_S A s.heap H locs → lv_has ls 7 [(0, .ref (g 0)), (1, .int p1), (3, .int u3)] → W p l e ({ frames := 5, cells := 0, slots := 0, locals := 113 } : Room) s m ([.ref (g 0), .int p1] : List Value).toArray below meth c H locs 0 0 Q (F0 m 127 ls []) := by
        intro u3 y0 H locs ls hM hP hD hS hl
        unfold M_L_waitsFit_127 at hM
        refine lv_iconst (v := (0 : Int32)) hx hb dL_waitsFit_127 (by decide) ?_
        exact hB128 u3 false y0 H _ _ hM hP hD hS (lv_sub hl [0, 1, 2] rfl)
      have hB87 : ∀ (u3 : Int32) (u4 : Int32) (u5 : Int32) (w0 : Bool) (y0 : SS) (H : Heap) (locs : List Loc) (ls : Array Slot), M_L_waitsFit_87 x p1 (lpF (M_L_waitsFit_4s x p1) n4) u3 u4 u5 w0 y0 = some out → va_P (dC, dI) vwCl (wSys cI cD kk.1 g y0) H → va_D A (wSys cI cD kk.1 g y0) → va_S A s.heap H locs → lv_has ls 7 [(0, .ref (g 0)), (1, .int p1), (3, .int u3), (4, .int u4), (5, .int u5)] → W p l e ({ frames := 5, cells := 0, slots := 0, locals := 113 } : Room) s m ([.ref (g 0), .int p1] : List Value).toArray below meth c H locs 0 0 Q (F0 m 87 ls [.int (zI w0)]) := by
        intro u3 u4 u5 w0 y0 H locs ls hM hP hD hS hl
        unfold M_L_waitsFit_87 at hM
        refine lv_istore_n (lv' := [(2, .int (zI w0)), (0, .ref (g 0)), (1, .int p1), (3, .int u3), (4, .int u4), (5, .int u5)]) hx hb dL_waitsFit_87 rfl hl (by decide) rfl (fun ls hl => ?_)
        refine lv_iload_n hx hb dL_waitsFit_88 rfl (lv_at hl 0 rfl) ?_
        refine lv_if_eq (tgt := 127) hx hb dL_waitsFit_89 (by decide) (fun c1 => ?_) (fun c1 => ?_)
        · replace hM := (if_pos c1).symm.trans hM
          exact hB127 u3 y0 H _ _ hM hP hD hS (lv_sub hl [1, 2, 3] rfl)
        · replace hM := (if_neg c1).symm.trans hM
          refine lv_iload hx hb dL_waitsFit_92 (lv_at hl 4 rfl) ?_
          refine lv_if_lt (tgt := 123) hx hb dL_waitsFit_94 (by decide) (fun c2 => ?_) (fun c2 => ?_)
          · replace hM := (if_pos c2).symm.trans hM
            exact hB123 u3 y0 H _ _ hM hP hD hS (lv_sub hl [1, 2, 3] rfl)
          · replace hM := (if_neg c2).symm.trans hM
            refine lv_iload hx hb dL_waitsFit_97 (lv_at hl 4 rfl) ?_
            refine lv_iload_n hx hb dL_waitsFit_99 rfl (lv_at hl 3 rfl) ?_
            refine lv_icmp_ge (tgt := 127) hx hb dL_waitsFit_100 (by decide) (fun c3 => ?_) (fun c3 => ?_)
            · replace hM := (if_pos c3).symm.trans hM
              exact hB127 u3 y0 H _ _ hM hP hD hS (lv_sub hl [1, 2, 3] rfl)
            · replace hM := (if_neg c3).symm.trans hM
              refine lv_aload_n hx hb dL_waitsFit_103 rfl (lv_at hl 1 rfl) ?_
              refine lv_iload hx hb dL_waitsFit_104 (lv_at hl 4 rfl) ?_
              obtain ⟨r4, hr4, hM⟩ := ob hM
              refine wk_callP (va_runS (As := [.ref (g 0), .int u4]) (rest := []) ⟨hx, hb, hml, hown, hts⟩ (c_L_isOpen l dC dI cI cD cJ kk g y0 u4 _ hr4 H) (va_cwS 2 hts gL_waitsFit_L_isOpen rfl rfl rfl (by decide +kernel) ⟨Nat.le_of_ble_eq_true rfl, Nat.le_of_ble_eq_true rfl⟩) (wk_preS hG hP hD [0, 1, 2, 3, 4, 5, 6, 7, 8, 9, 10, 11, 12, 13, 14, 15, 16, 17, 18, 19, 20, 21, 22, 23, 24, 25, 26, 27, 28, 29, 30, 31, 32, 33, 34, 35, 36, 37] rfl rfl) rfl rfl hl.1 rfl (lv_room (Nat.le_of_ble_eq_true rfl)) dL_waitsFit_106 ⟨Nat.le_of_ble_eq_true rfl, Nat.le_of_ble_eq_true rfl⟩) hS (fun locs hS => ?_)
              refine lv_if_eq (tgt := 127) hx hb dL_waitsFit_109 (by decide) (fun c5 => ?_) (fun c5 => ?_)
              · replace hM := (if_pos c5).symm.trans hM
                exact hB127 u3 y0 H _ _ hM hP hD hS (lv_sub hl [1, 2, 3] rfl)
              · replace hM := (if_neg c5).symm.trans hM
                refine lv_iload hx hb dL_waitsFit_112 (lv_at hl 5 rfl) ?_
                refine lv_aload_n hx hb dL_waitsFit_114 rfl (lv_at hl 1 rfl) ?_
                refine lv_iload hx hb dL_waitsFit_115 (lv_at hl 4 rfl) ?_
                obtain ⟨r6, hr6, hM⟩ := ob hM
                refine wk_callM (ws' := (wSys cI cD kk.1 g r6.2)) (va_runV (As := [.int u4]) (rest := [.int u5]) ⟨hx, hb, hml, hown, hts⟩ (c_X6_depth l dC dI cI cD cJ kk g y0 u4 _ hr6 H) (cwV 1 hts gL_waitsFit_X6_depth rfl rfl rfl (by decide +kernel) ⟨Nat.le_of_ble_eq_true rfl, Nat.le_of_ble_eq_true rfl⟩) (wk_preV (ci := 4) (q0 := 0) hG hP hD [0, 1, 2, 3, 4, 5, 6, 7, 8, 9, 10, 11, 12, 13, 14, 15, 16, 17, 18, 19, 20, 21, 22, 23, 24, 25, 26, 27, 28, 29, 30, 31, 32, 33, 34, 35, 36, 37] rfl rfl rfl rfl) rfl rfl hl.1 rfl (lv_room (Nat.le_of_ble_eq_true rfl)) dL_waitsFit_117 ⟨Nat.le_of_ble_eq_true rfl, Nat.le_of_ble_eq_true rfl⟩) hP hD hS hA [0, 1, 2, 3, 4, 5, 6, 7, 8, 9, 10, 11, 12, 13, 14, 15, 16, 17, 18, 19, 20, 21, 22, 23, 24, 25, 26, 27, 28, 29, 30, 31, 32, 33, 34, 35, 36, 37] [] [0, 1, 2, 3, 4, 5, 6, 7, 8, 9, 10, 11, 12, 13, 14, 15, 16, 17, 18, 19, 20, 21, 22, 23, 24, 25, 26, 27, 28, 29, 30, 31, 32, 33, 34, 35, 36, 37] rfl rfl rfl (by decide) rfl rfl (fun H locs hP hD hS => ?_)
                refine lv_icmp_le (tgt := 127) hx hb dL_waitsFit_120 (by decide) (fun c7 => ?_) (fun c7 => ?_)
                · replace hM := (if_pos c7).symm.trans hM
                  exact hB127 u3 r6.2 H _ _ hM hP hD hS (lv_sub hl [1, 2, 3] rfl)
                · replace hM := (if_neg c7).symm.trans hM
                  exact hB123 u3 r6.2 H _ _ hM hP hD hS (lv_sub hl [1, 2, 3] rfl)
      have hB59 : ∀ (u3 : Int32) (u4 : Int32) (u5 : Int32) (w0 : Bool) (w1 : Bool) (y0 : SS) (H : Heap) (locs : List Loc) (ls : Array Slot), M_L_waitsFit_59 x p1 (lpF (M_L_waitsFit_4s x p1) n4) u3 u4 u5 w0 w1 y0 = some out → va_P (dC, dI) vwCl (wSys cI cD kk.1 g y0) H → va_D A (wSys cI cD kk.1 g y0) → va_S A s.heap H locs → lv_has ls 7 [(0, .ref (g 0)), (1, .int p1), (3, .int u3), (4, .int u4), (5, .int u5)] → W p l e ({ frames := 5, cells := 0, slots := 0, locals := 113 } : Room) s m ([.ref (g 0), .int p1] : List Value).toArray below meth c H locs 0 0 Q (F0 m 59 ls [.int (zI w1), .int (zI w0)]) := by
        intro u3 u4 u5 w0 w1 y0 H locs ls hM hP hD hS hl
        unfold M_L_waitsFit_59 at hM
        refine lv_icmp_ne (tgt := 66) hx hb dL_waitsFit_59 (by decide) (fun c1 => ?_) (fun c1 => ?_)
        · replace hM := (if_neg c1).symm.trans hM
          refine lv_iconst (v := (0 : Int32)) hx hb dL_waitsFit_66 (by decide) ?_
          refine lv_goto (tgt := 87) hx hb dL_waitsFit_67 (by decide) ?_
          exact hB87 u3 u4 u5 false y0 H _ _ hM hP hD hS (lv_sub hl [0, 1, 2, 3, 4] rfl)
        · replace hM := (if_pos c1).symm.trans hM
          refine lv_iconst (v := (1 : Int32)) hx hb dL_waitsFit_62 (by decide) ?_
          refine lv_goto (tgt := 87) hx hb dL_waitsFit_63 (by decide) ?_
          exact hB87 u3 u4 u5 true y0 H _ _ hM hP hD hS (lv_sub hl [0, 1, 2, 3, 4] rfl)
      have hB49 : ∀ (u3 : Int32) (u4 : Int32) (u5 : Int32) (w0 : Bool) (y0 : SS) (H : Heap) (locs : List Loc) (ls : Array Slot), M_L_waitsFit_49 x p1 (lpF (M_L_waitsFit_4s x p1) n4) u3 u4 u5 w0 y0 = some out → va_P (dC, dI) vwCl (wSys cI cD kk.1 g y0) H → va_D A (wSys cI cD kk.1 g y0) → va_S A s.heap H locs → lv_has ls 7 [(0, .ref (g 0)), (1, .int p1), (3, .int u3), (4, .int u4), (5, .int u5)] → W p l e ({ frames := 5, cells := 0, slots := 0, locals := 113 } : Room) s m ([.ref (g 0), .int p1] : List Value).toArray below meth c H locs 0 0 Q (F0 m 49 ls [.int (zI w0)]) := by
        intro u3 u4 u5 w0 y0 H locs ls hM hP hD hS hl
        unfold M_L_waitsFit_49 at hM
        refine lv_iload hx hb dL_waitsFit_49 (lv_at hl 4 rfl) ?_
        refine lv_if_ne (tgt := 58) hx hb dL_waitsFit_51 (by decide) (fun c1 => ?_) (fun c1 => ?_)
        · replace hM := (if_neg c1).symm.trans hM
          refine lv_iconst (v := (0 : Int32)) hx hb dL_waitsFit_58 (by decide) ?_
          exact hB59 u3 u4 u5 w0 false y0 H _ _ hM hP hD hS (lv_sub hl [0, 1, 2, 3, 4] rfl)
        · replace hM := (if_pos c1).symm.trans hM
          refine lv_iconst (v := (1 : Int32)) hx hb dL_waitsFit_54 (by decide) ?_
          refine lv_goto (tgt := 59) hx hb dL_waitsFit_55 (by decide) ?_
          exact hB59 u3 u4 u5 w0 true y0 H _ _ hM hP hD hS (lv_sub hl [0, 1, 2, 3, 4] rfl)
      have hB86 : ∀ (u3 : Int32) (u4 : Int32) (u5 : Int32) (y0 : SS) (H : Heap) (locs : List Loc) (ls : Array Slot), M_L_waitsFit_86 x p1 (lpF (M_L_waitsFit_4s x p1) n4) u3 u4 u5 y0 = some out → va_P (dC, dI) vwCl (wSys cI cD kk.1 g y0) H → va_D A (wSys cI cD kk.1 g y0) → va_S A s.heap H locs → lv_has ls 7 [(0, .ref (g 0)), (1, .int p1), (3, .int u3), (4, .int u4), (5, .int u5)] → W p l e ({ frames := 5, cells := 0, slots := 0, locals := 113 } : Room) s m ([.ref (g 0), .int p1] : List Value).toArray below meth c H locs 0 0 Q (F0 m 86 ls []) := by
        intro u3 u4 u5 y0 H locs ls hM hP hD hS hl
        unfold M_L_waitsFit_86 at hM
        refine lv_iconst (v := (0 : Int32)) hx hb dL_waitsFit_86 (by decide) ?_
        exact hB87 u3 u4 u5 false y0 H _ _ hM hP hD hS (lv_sub hl [0, 1, 2, 3, 4] rfl)
      intro u2 u3 y0 H locs ls hM hP hD hS hl
      replace hM : M_L_waitsFit_4s x p1 (lpF (M_L_waitsFit_4s x p1) n4) (u2, u3, y0) = some out := hM
      unfold M_L_waitsFit_4s at hM
      try dsimp only at hM
      refine lv_iload_n hx hb dL_waitsFit_4 rfl (lv_at hl 3 rfl) ?_
      refine lv_iload_n hx hb dL_waitsFit_5 rfl (lv_at hl 1 rfl) ?_
      refine lv_icmp_ge (tgt := 135) hx hb dL_waitsFit_6 (by decide) (fun c1 => ?_) (fun c1 => ?_)
      · replace hM := (if_pos c1).symm.trans hM
        exact hB135 u2 y0 H _ _ hM hP hD hS (lv_sub hl [2] rfl)
      · replace hM := (if_neg c1).symm.trans hM
        refine lv_iload_n hx hb dL_waitsFit_9 rfl (lv_at hl 2 rfl) ?_
        refine lv_if_eq (tgt := 135) hx hb dL_waitsFit_10 (by decide) (fun c2 => ?_) (fun c2 => ?_)
        · replace hM := (if_pos c2).symm.trans hM
          exact hB135 u2 y0 H _ _ hM hP hD hS (lv_sub hl [2] rfl)
        · replace hM := (if_neg c2).symm.trans hM
          refine lv_aload_n hx hb dL_waitsFit_13 rfl (lv_at hl 0 rfl) ?_
          refine lv_iload_n hx hb dL_waitsFit_14 rfl (lv_at hl 3 rfl) ?_
          obtain ⟨r3, hr3, hM⟩ := ob hM
          refine wk_callP (va_runV (As := [.int u3]) (rest := []) ⟨hx, hb, hml, hown, hts⟩ (c_X6_waitsFor l dC dI cI cD cJ kk g y0 u3 _ hr3 H) (cwV 1 hts gL_waitsFit_X6_waitsFor rfl rfl rfl (by decide +kernel) ⟨Nat.le_of_ble_eq_true rfl, Nat.le_of_ble_eq_true rfl⟩) (wk_preV (ci := 4) (q0 := 0) hG hP hD [0, 1, 2, 3, 4, 5, 6, 7, 8, 9, 10, 11, 12, 13, 14, 15, 16, 17, 18, 19, 20, 21, 22, 23, 24, 25, 26, 27, 28, 29, 30, 31, 32, 33, 34, 35, 36, 37] rfl rfl rfl rfl) rfl rfl hl.1 rfl (lv_room (Nat.le_of_ble_eq_true rfl)) dL_waitsFit_15 ⟨Nat.le_of_ble_eq_true rfl, Nat.le_of_ble_eq_true rfl⟩) hS (fun locs hS => ?_)
          refine lv_istore (lv' := [(4, .int r3), (0, .ref (g 0)), (1, .int p1), (2, .int (zI u2)), (3, .int u3)]) hx hb dL_waitsFit_18 hl (by decide) rfl (fun ls hl => ?_)
          refine lv_aload_n hx hb dL_waitsFit_20 rfl (lv_at hl 1 rfl) ?_
          refine lv_iload_n hx hb dL_waitsFit_21 rfl (lv_at hl 4 rfl) ?_
          obtain ⟨r4, hr4, hM⟩ := ob hM
          refine wk_callM (ws' := (wSys cI cD kk.1 g r4.2)) (va_runV (As := [.int u3]) (rest := []) ⟨hx, hb, hml, hown, hts⟩ (c_X6_depth l dC dI cI cD cJ kk g y0 u3 _ hr4 H) (cwV 1 hts gL_waitsFit_X6_depth rfl rfl rfl (by decide +kernel) ⟨Nat.le_of_ble_eq_true rfl, Nat.le_of_ble_eq_true rfl⟩) (wk_preV (ci := 4) (q0 := 0) hG hP hD [0, 1, 2, 3, 4, 5, 6, 7, 8, 9, 10, 11, 12, 13, 14, 15, 16, 17, 18, 19, 20, 21, 22, 23, 24, 25, 26, 27, 28, 29, 30, 31, 32, 33, 34, 35, 36, 37] rfl rfl rfl rfl) rfl rfl hl.1 rfl (lv_room (Nat.le_of_ble_eq_true rfl)) dL_waitsFit_22 ⟨Nat.le_of_ble_eq_true rfl, Nat.le_of_ble_eq_true rfl⟩) hP hD hS hA [0, 1, 2, 3, 4, 5, 6, 7, 8, 9, 10, 11, 12, 13, 14, 15, 16, 17, 18, 19, 20, 21, 22, 23, 24, 25, 26, 27, 28, 29, 30, 31, 32, 33, 34, 35, 36, 37] [] [0, 1, 2, 3, 4, 5, 6, 7, 8, 9, 10, 11, 12, 13, 14, 15, 16, 17, 18, 19, 20, 21, 22, 23, 24, 25, 26, 27, 28, 29, 30, 31, 32, 33, 34, 35, 36, 37] rfl rfl rfl (by decide) rfl rfl (fun H locs hP hD hS => ?_)
          refine lv_istore (lv' := [(5, .int r4.1), (4, .int r3), (0, .ref (g 0)), (1, .int p1), (2, .int (zI u2)), (3, .int u3)]) hx hb dL_waitsFit_25 hl (by decide) rfl (fun ls hl => ?_)
          refine lv_aload_n hx hb dL_waitsFit_27 rfl (lv_at hl 2 rfl) ?_
          refine lv_iload_n hx hb dL_waitsFit_28 rfl (lv_at hl 5 rfl) ?_
          obtain ⟨r5, hr5, hM⟩ := ob hM
          refine wk_callP (va_runS (As := [.ref (g 0), .int u3]) (rest := []) ⟨hx, hb, hml, hown, hts⟩ (c_L_isOpen l dC dI cI cD cJ kk g r4.2 u3 _ hr5 H) (va_cwS 2 hts gL_waitsFit_L_isOpen rfl rfl rfl (by decide +kernel) ⟨Nat.le_of_ble_eq_true rfl, Nat.le_of_ble_eq_true rfl⟩) (wk_preS hG hP hD [0, 1, 2, 3, 4, 5, 6, 7, 8, 9, 10, 11, 12, 13, 14, 15, 16, 17, 18, 19, 20, 21, 22, 23, 24, 25, 26, 27, 28, 29, 30, 31, 32, 33, 34, 35, 36, 37] rfl rfl) rfl rfl hl.1 rfl (lv_room (Nat.le_of_ble_eq_true rfl)) dL_waitsFit_29 ⟨Nat.le_of_ble_eq_true rfl, Nat.le_of_ble_eq_true rfl⟩) hS (fun locs hS => ?_)
          refine lv_istore (lv' := [(6, .int (zI r5)), (5, .int r4.1), (4, .int r3), (0, .ref (g 0)), (1, .int p1), (2, .int (zI u2)), (3, .int u3)]) hx hb dL_waitsFit_32 hl (by decide) rfl (fun ls hl => ?_)
          refine lv_iload hx hb dL_waitsFit_34 (lv_at hl 0 rfl) ?_
          refine lv_if_eq (tgt := 70) hx hb dL_waitsFit_36 (by decide) (fun c6 => ?_) (fun c6 => ?_)
          · replace hM := (if_pos c6).symm.trans hM
            refine lv_iload hx hb dL_waitsFit_70 (lv_at hl 2 rfl) ?_
            refine lv_iconst (v := (-1 : Int32)) hx hb dL_waitsFit_72 (by decide) ?_
            refine lv_icmp_ne (tgt := 86) hx hb dL_waitsFit_73 (by decide) (fun c7 => ?_) (fun c7 => ?_)
            · replace hM := (if_neg c7).symm.trans hM
              exact hB86 u3 r3 r4.1 r4.2 H _ _ hM hP hD hS (lv_sub hl [3, 4, 6, 2, 1] rfl)
            · replace hM := (if_pos c7).symm.trans hM
              refine lv_iload hx hb dL_waitsFit_76 (lv_at hl 1 rfl) ?_
              refine lv_iconst (v := (-1 : Int32)) hx hb dL_waitsFit_78 (by decide) ?_
              refine lv_icmp_ne (tgt := 86) hx hb dL_waitsFit_79 (by decide) (fun c8 => ?_) (fun c8 => ?_)
              · replace hM := (if_neg c8).symm.trans hM
                exact hB86 u3 r3 r4.1 r4.2 H _ _ hM hP hD hS (lv_sub hl [3, 4, 6, 2, 1] rfl)
              · replace hM := (if_pos c8).symm.trans hM
                refine lv_iconst (v := (1 : Int32)) hx hb dL_waitsFit_82 (by decide) ?_
                refine lv_goto (tgt := 87) hx hb dL_waitsFit_83 (by decide) ?_
                exact hB87 u3 r3 r4.1 true r4.2 H _ _ hM hP hD hS (lv_sub hl [3, 4, 6, 2, 1] rfl)
          · replace hM := (if_neg c6).symm.trans hM
            refine lv_iload hx hb dL_waitsFit_39 (lv_at hl 2 rfl) ?_
            refine lv_if_ge (tgt := 48) hx hb dL_waitsFit_41 (by decide) (fun c9 => ?_) (fun c9 => ?_)
            · replace hM := (if_pos c9).symm.trans hM
              refine lv_iconst (v := (0 : Int32)) hx hb dL_waitsFit_48 (by decide) ?_
              exact hB49 u3 r3 r4.1 false r4.2 H _ _ hM hP hD hS (lv_sub hl [3, 4, 6, 2, 1] rfl)
            · replace hM := (if_neg c9).symm.trans hM
              refine lv_iconst (v := (1 : Int32)) hx hb dL_waitsFit_44 (by decide) ?_
              refine lv_goto (tgt := 49) hx hb dL_waitsFit_45 (by decide) ?_
              exact hB49 u3 r3 r4.1 true r4.2 H _ _ hM hP hD hS (lv_sub hl [3, 4, 6, 2, 1] rfl)
  unfold M_L_waitsFit at hM
  refine lv_iconst (v := (1 : Int32)) hx hb dL_waitsFit_0 (by decide) ?_
  refine lv_istore_n (lv' := [(2, .int (1 : Int32)), (0, .ref (g 0)), (1, .int p1)]) hx hb dL_waitsFit_1 rfl hl (by decide) rfl (fun ls hl => ?_)
  refine lv_iconst (v := (0 : Int32)) hx hb dL_waitsFit_2 (by decide) ?_
  refine lv_istore_n (lv' := [(3, .int (0 : Int32)), (2, .int (1 : Int32)), (0, .ref (g 0)), (1, .int p1)]) hx hb dL_waitsFit_3 rfl hl (by decide) rfl (fun ls hl => ?_)
  exact hL4 64 true (0 : Int32) x H _ _ hM hP hD hS (lv_sub hl [2, 3, 1, 0] rfl)
