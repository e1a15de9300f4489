/-! PART 37: the law's blocksFit -/
set_option maxHeartbeats 4000000 in
set_option maxRecDepth 100000 in
theorem c_L_blocksFit (l : Launch) (dC : Nat → ClassId) (dI : Nat → Nat → Nat) (cI cD cJ : ClassId) (kk : wAd) (g : Nat → Nat) (x : SS) (out : Bool × SS) (hM : M_L_blocksFit x = some out) : CM l yL_blocksFit wsL_blocksFit ({ frames := 6, cells := 0, slots := 0, locals := 139 } : Room) dC dI (wTys cI cD cJ) [.ref (g 0)] (wSys cI cD kk.1 g x) (some (.int (zI out.1))) (wSys cI cD kk.1 g out.2) 0 0 := by
  refine wk_enterM (cc := cL_blocksFit) (maxL := 5) (ret := (some .boolean)) (by decide) rfl (Nat.le_of_ble_eq_true rfl) ?_
  intro p e s m below meth c A Q ls hB hA hP hD hQ hl
  obtain ⟨hx, hb, hml, hr, hts, hown, hname, hlocks, hG⟩ := hB
  have hown : s.vm.findClass RL = some m.cls := hown
  have hS : va_S A s.heap s.heap [] := va_S.rf
  have hl : lv_has ls 5 [(0, .ref (g 0))] := hl
  obtain ⟨H, hH⟩ : ∃ z, z = s.heap := ⟨_, rfl⟩
  have hP : va_P (dC, dI) vwCl (wSys cI cD kk.1 g x) H := by rw [hH]; exact hP
  have hS : va_S A s.heap H [] := by rw [hH]; exact hS
  refine wk_at hH ?_
  generalize ([] : List Loc) = locs at hS ⊢
  have hB179 : ∀ (w0 : Bool) (y0 : SS) (H : Heap) (locs : List Loc) (ls : Array Slot), M_L_blocksFit_179 x w0 y0 = some out → va_P (dC, dI) vwCl (wSys cI cD kk.1 g y0) H → va_D A (wSys cI cD kk.1 g y0) → va_S A s.heap H locs → lv_has ls 5 [] → W p l e ({ frames := 6, cells := 0, slots := 0, locals := 139 } : Room) s m ([.ref (g 0)] : List Value).toArray below meth c H locs 0 0 Q (F0 m 179 ls [.int (zI w0)]) := by
    intro w0 y0 H locs ls hM hP hD hS hl
    unfold M_L_blocksFit_179 at hM
    replace hM := Option.some.inj hM
    subst hM
    exact wk_retMi hx hb hr hlocks hQ (zI_nar _) rfl hP hD hS dL_blocksFit_179
  have hB178 : ∀ (y0 : SS) (H : Heap) (locs : List Loc) (ls : Array Slot), M_L_blocksFit_178 x y0 = some out → va_P (dC, dI) vwCl (wSys cI cD kk.1 g y0) H → va_D A (wSys cI cD kk.1 g y0) → va_S A s.heap H locs → lv_has ls 5 [] → W p l e ({ frames := 6, cells := 0, slots := 0, locals := 139 } : Room) s m ([.ref (g 0)] : List Value).toArray below meth c H locs 0 0 Q (F0 m 178 ls []) := by
    intro y0 H locs ls hM hP hD hS hl
    unfold M_L_blocksFit_178 at hM
    refine lv_iconst (v := (0 : Int32)) hx hb dL_blocksFit_178 (by decide) ?_
    exact hB179 false y0 H _ _ hM hP hD hS (lv_sub hl [] rfl)
  have hB117 : ∀ (u4 : Int32) (w0 : Bool) (w1 : Bool) (y0 : SS) (H : Heap) (locs : List Loc) (ls : Array Slot), M_L_blocksFit_117 x u4 w0 w1 y0 = some out → va_P (dC, dI) vwCl (wSys cI cD kk.1 g y0) H → va_D A (wSys cI cD kk.1 g y0) → va_S A s.heap H locs → lv_has ls 5 [(0, .ref (g 0)), (4, .int u4)] → W p l e ({ frames := 6, cells := 0, slots := 0, locals := 139 } : Room) s m ([.ref (g 0)] : List Value).toArray below meth c H locs 0 0 Q (F0 m 117 ls [.int (zI w1), .int (zI w0)]) := by
    intro u4 w0 w1 y0 H locs ls hM hP hD hS hl
    unfold M_L_blocksFit_117 at hM
    refine lv_icmp_ne (tgt := 178) hx hb dL_blocksFit_117 (by decide) (fun c1 => ?_) (fun c1 => ?_)
    · replace hM := (if_neg c1).symm.trans hM
      exact hB178 y0 H _ _ hM hP hD hS (lv_sub hl [] rfl)
    · replace hM := (if_pos c1).symm.trans hM
      refine lv_iload hx hb dL_blocksFit_120 (lv_at hl 1 rfl) ?_
      refine lv_sipush (v := (200 : Int32)) hx hb dL_blocksFit_122 (by decide) ?_
      refine lv_icmp_gt (tgt := 178) hx hb dL_blocksFit_125 (by decide) (fun c2 => ?_) (fun c2 => ?_)
      · replace hM := (if_pos c2).symm.trans hM
        exact hB178 y0 H _ _ hM hP hD hS (lv_sub hl [] rfl)
      · replace hM := (if_neg c2).symm.trans hM
        refine lv_aload_n hx hb dL_blocksFit_128 rfl (lv_at hl 0 rfl) ?_
        refine lv_bipush (v := (8 : Int32)) hx hb dL_blocksFit_129 (by decide) ?_
        obtain ⟨r3, hr3, hM⟩ := ob hM
        refine wk_callP (va_runV (As := [.int (8 : Int32)]) (rest := []) ⟨hx, hb, hml, hown, hts⟩ (c_X6_whole l dC dI cI cD cJ kk g y0 (8 : Int32) _ hr3 H) (cwV 1 hts gL_blocksFit_X6_whole rfl rfl rfl (by decide +kernel) ⟨Nat.le_of_ble_eq_true rfl, Nat.le_of_ble_eq_true rfl⟩) (wk_preV (ci := 4) (q0 := 0) hG hP hD [0, 1, 2, 3, 4, 5, 6, 7, 8, 9, 10, 11, 12, 13, 14, 15, 16, 17, 18, 19, 20, 21, 22, 23, 24, 25, 26, 27, 28, 29, 30, 31, 32, 33, 34, 35, 36, 37] rfl rfl rfl rfl) rfl rfl hl.1 rfl (lv_room (Nat.le_of_ble_eq_true rfl)) dL_blocksFit_131 ⟨Nat.le_of_ble_eq_true rfl, Nat.le_of_ble_eq_true rfl⟩) hS (fun locs hS => ?_)
        refine lv_aload_n hx hb dL_blocksFit_134 rfl (lv_at hl 0 rfl) ?_
        refine lv_iconst (v := (0 : Int32)) hx hb dL_blocksFit_135 (by decide) ?_
        refine lv_bipush (v := (7 : Int32)) hx hb dL_blocksFit_136 (by decide) ?_
        obtain ⟨r4, hr4, hM⟩ := ob hM
        refine wk_callP (va_runV (As := [.int (0 : Int32), .int (7 : Int32)]) (rest := [.int r3]) ⟨hx, hb, hml, hown, hts⟩ (c_X6_controller l dC dI cI cD cJ kk g y0 (0 : Int32) (7 : Int32) _ hr4 H) (cwV 2 hts gL_blocksFit_X6_controller rfl rfl rfl (by decide +kernel) ⟨Nat.le_of_ble_eq_true rfl, Nat.le_of_ble_eq_true rfl⟩) (wk_preV (ci := 4) (q0 := 0) hG hP hD [0, 1, 2, 3, 4, 5, 6, 7, 8, 9, 10, 11, 12, 13, 14, 15, 16, 17, 18, 19, 20, 21, 22, 23, 24, 25, 26, 27, 28, 29, 30, 31, 32, 33, 34, 35, 36, 37] rfl rfl rfl rfl) rfl rfl hl.1 rfl (lv_room (Nat.le_of_ble_eq_true rfl)) dL_blocksFit_138 ⟨Nat.le_of_ble_eq_true rfl, Nat.le_of_ble_eq_true rfl⟩) hS (fun locs hS => ?_)
        refine lv_aload_n hx hb dL_blocksFit_141 rfl (lv_at hl 0 rfl) ?_
        refine lv_iconst (v := (1 : Int32)) hx hb dL_blocksFit_142 (by decide) ?_
        refine lv_bipush (v := (7 : Int32)) hx hb dL_blocksFit_143 (by decide) ?_
        obtain ⟨r5, hr5, hM⟩ := ob hM
        refine wk_callP (va_runV (As := [.int (1 : Int32), .int (7 : Int32)]) (rest := [.int r4, .int r3]) ⟨hx, hb, hml, hown, hts⟩ (c_X6_controller l dC dI cI cD cJ kk g y0 (1 : Int32) (7 : Int32) _ hr5 H) (cwV 2 hts gL_blocksFit_X6_controller rfl rfl rfl (by decide +kernel) ⟨Nat.le_of_ble_eq_true rfl, Nat.le_of_ble_eq_true rfl⟩) (wk_preV (ci := 4) (q0 := 0) hG hP hD [0, 1, 2, 3, 4, 5, 6, 7, 8, 9, 10, 11, 12, 13, 14, 15, 16, 17, 18, 19, 20, 21, 22, 23, 24, 25, 26, 27, 28, 29, 30, 31, 32, 33, 34, 35, 36, 37] rfl rfl rfl rfl) rfl rfl hl.1 rfl (lv_room (Nat.le_of_ble_eq_true rfl)) dL_blocksFit_145 ⟨Nat.le_of_ble_eq_true rfl, Nat.le_of_ble_eq_true rfl⟩) hS (fun locs hS => ?_)
        refine lv_iadd hx hb dL_blocksFit_148 ?_
        refine lv_icmp_ne (tgt := 178) hx hb dL_blocksFit_149 (by decide) (fun c6 => ?_) (fun c6 => ?_)
        · replace hM := (if_neg c6).symm.trans hM
          exact hB178 y0 H _ _ hM hP hD hS (lv_sub hl [] rfl)
        · replace hM := (if_pos c6).symm.trans hM
          refine lv_aload_n hx hb dL_blocksFit_152 rfl (lv_at hl 0 rfl) ?_
          refine lv_bipush (v := (9 : Int32)) hx hb dL_blocksFit_153 (by decide) ?_
          obtain ⟨r7, hr7, hM⟩ := ob hM
          refine wk_callP (va_runV (As := [.int (9 : Int32)]) (rest := []) ⟨hx, hb, hml, hown, hts⟩ (c_X6_whole l dC dI cI cD cJ kk g y0 (9 : Int32) _ hr7 H) (cwV 1 hts gL_blocksFit_X6_whole rfl rfl rfl (by decide +kernel) ⟨Nat.le_of_ble_eq_true rfl, Nat.le_of_ble_eq_true rfl⟩) (wk_preV (ci := 4) (q0 := 0) hG hP hD [0, 1, 2, 3, 4, 5, 6, 7, 8, 9, 10, 11, 12, 13, 14, 15, 16, 17, 18, 19, 20, 21, 22, 23, 24, 25, 26, 27, 28, 29, 30, 31, 32, 33, 34, 35, 36, 37] rfl rfl rfl rfl) rfl rfl hl.1 rfl (lv_room (Nat.le_of_ble_eq_true rfl)) dL_blocksFit_155 ⟨Nat.le_of_ble_eq_true rfl, Nat.le_of_ble_eq_true rfl⟩) hS (fun locs hS => ?_)
          refine lv_aload_n hx hb dL_blocksFit_158 rfl (lv_at hl 0 rfl) ?_
          refine lv_iconst (v := (0 : Int32)) hx hb dL_blocksFit_159 (by decide) ?_
          refine lv_iconst (v := (0 : Int32)) hx hb dL_blocksFit_160 (by decide) ?_
          obtain ⟨r8, hr8, hM⟩ := ob hM
          refine wk_callP (va_runV (As := [.int (0 : Int32), .int (0 : Int32)]) (rest := [.int r7]) ⟨hx, hb, hml, hown, hts⟩ (c_X6_controller l dC dI cI cD cJ kk g y0 (0 : Int32) (0 : Int32) _ hr8 H) (cwV 2 hts gL_blocksFit_X6_controller rfl rfl rfl (by decide +kernel) ⟨Nat.le_of_ble_eq_true rfl, Nat.le_of_ble_eq_true rfl⟩) (wk_preV (ci := 4) (q0 := 0) hG hP hD [0, 1, 2, 3, 4, 5, 6, 7, 8, 9, 10, 11, 12, 13, 14, 15, 16, 17, 18, 19, 20, 21, 22, 23, 24, 25, 26, 27, 28, 29, 30, 31, 32, 33, 34, 35, 36, 37] rfl rfl rfl rfl) rfl rfl hl.1 rfl (lv_room (Nat.le_of_ble_eq_true rfl)) dL_blocksFit_161 ⟨Nat.le_of_ble_eq_true rfl, Nat.le_of_ble_eq_true rfl⟩) hS (fun locs hS => ?_)
          refine lv_aload_n hx hb dL_blocksFit_164 rfl (lv_at hl 0 rfl) ?_
          refine lv_iconst (v := (1 : Int32)) hx hb dL_blocksFit_165 (by decide) ?_
          refine lv_iconst (v := (0 : Int32)) hx hb dL_blocksFit_166 (by decide) ?_
          obtain ⟨r9, hr9, hM⟩ := ob hM
          refine wk_callP (va_runV (As := [.int (1 : Int32), .int (0 : Int32)]) (rest := [.int r8, .int r7]) ⟨hx, hb, hml, hown, hts⟩ (c_X6_controller l dC dI cI cD cJ kk g y0 (1 : Int32) (0 : Int32) _ hr9 H) (cwV 2 hts gL_blocksFit_X6_controller rfl rfl rfl (by decide +kernel) ⟨Nat.le_of_ble_eq_true rfl, Nat.le_of_ble_eq_true rfl⟩) (wk_preV (ci := 4) (q0 := 0) hG hP hD [0, 1, 2, 3, 4, 5, 6, 7, 8, 9, 10, 11, 12, 13, 14, 15, 16, 17, 18, 19, 20, 21, 22, 23, 24, 25, 26, 27, 28, 29, 30, 31, 32, 33, 34, 35, 36, 37] rfl rfl rfl rfl) rfl rfl hl.1 rfl (lv_room (Nat.le_of_ble_eq_true rfl)) dL_blocksFit_167 ⟨Nat.le_of_ble_eq_true rfl, Nat.le_of_ble_eq_true rfl⟩) hS (fun locs hS => ?_)
          refine lv_iadd hx hb dL_blocksFit_170 ?_
          refine lv_icmp_ne (tgt := 178) hx hb dL_blocksFit_171 (by decide) (fun c10 => ?_) (fun c10 => ?_)
          · replace hM := (if_neg c10).symm.trans hM
            exact hB178 y0 H _ _ hM hP hD hS (lv_sub hl [] rfl)
          · replace hM := (if_pos c10).symm.trans hM
            refine lv_iconst (v := (1 : Int32)) hx hb dL_blocksFit_174 (by decide) ?_
            refine lv_goto (tgt := 179) hx hb dL_blocksFit_175 (by decide) ?_
            exact hB179 true y0 H _ _ hM hP hD hS (lv_sub hl [] rfl)
  have hB108 : ∀ (u2 : Bool) (u4 : Int32) (w0 : Bool) (y0 : SS) (H : Heap) (locs : List Loc) (ls : Array Slot), M_L_blocksFit_108 x u2 u4 w0 y0 = some out → va_P (dC, dI) vwCl (wSys cI cD kk.1 g y0) H → va_D A (wSys cI cD kk.1 g y0) → va_S A s.heap H locs → lv_has ls 5 [(0, .ref (g 0)), (2, .int (zI u2)), (4, .int u4)] → W p l e ({ frames := 6, cells := 0, slots := 0, locals := 139 } : Room) s m ([.ref (g 0)] : List Value).toArray below meth c H locs 0 0 Q (F0 m 108 ls [.int (zI w0)]) := by
    intro u2 u4 w0 y0 H locs ls hM hP hD hS hl
    unfold M_L_blocksFit_108 at hM
    refine lv_iload_n hx hb dL_blocksFit_108 rfl (lv_at hl 1 rfl) ?_
    refine lv_if_ne (tgt := 116) hx hb dL_blocksFit_109 (by decide) (fun c1 => ?_) (fun c1 => ?_)
    · replace hM := (if_neg c1).symm.trans hM
      refine lv_iconst (v := (0 : Int32)) hx hb dL_blocksFit_116 (by decide) ?_
      exact hB117 u4 w0 false y0 H _ _ hM hP hD hS (lv_sub hl [0, 2] rfl)
    · replace hM := (if_pos c1).symm.trans hM
      refine lv_iconst (v := (1 : Int32)) hx hb dL_blocksFit_112 (by decide) ?_
      refine lv_goto (tgt := 117) hx hb dL_blocksFit_113 (by decide) ?_
      exact hB117 u4 w0 true y0 H _ _ hM hP hD hS (lv_sub hl [0, 2] rfl)
  have hB78 : ∀ (u1 : Int32) (u2 : Bool) (u3 : Bool) (y0 : SS) (H : Heap) (locs : List Loc) (ls : Array Slot), M_L_blocksFit_78 x u1 u2 u3 y0 = some out → va_P (dC, dI) vwCl (wSys cI cD kk.1 g y0) H → va_D A (wSys cI cD kk.1 g y0) → va_S A s.heap H locs → lv_has ls 5 [(0, .ref (g 0)), (1, .int u1), (2, .int (zI u2)), (3, .int (zI u3))] → W p l e ({ frames := 6, cells := 0, slots := 0, locals := 139 } : Room) s m ([.ref (g 0)] : List Value).toArray below meth c H locs 0 0 Q (F0 m 78 ls []) := by
    intro u1 u2 u3 y0 H locs ls hM hP hD hS hl
    unfold M_L_blocksFit_78 at hM
    refine lv_aload_n hx hb dL_blocksFit_78 rfl (lv_at hl 0 rfl) ?_
    obtain ⟨r1, hr1, hM⟩ := ob hM
    refine wk_callM (ws' := (wSys cI cD kk.1 g r1.2)) (va_runV (As := []) (rest := []) ⟨hx, hb, hml, hown, hts⟩ (c_X6_doneIn l dC dI cI cD cJ kk g y0 _ hr1 H) (cwV 0 hts gL_blocksFit_X6_doneIn rfl rfl rfl (by decide +kernel) ⟨Nat.le_of_ble_eq_true rfl, Nat.le_of_ble_eq_true rfl⟩) (wk_preV (ci := 4) (q0 := 0) hG hP hD [0, 1, 2, 3, 4, 5, 6, 7, 8, 9, 10, 11, 12, 13, 14, 15, 16, 17, 18, 19, 20, 21, 22, 23, 24, 25, 26, 27, 28, 29, 30, 31, 32, 33, 34, 35, 36, 37] rfl rfl rfl rfl) rfl rfl hl.1 rfl (lv_room (Nat.le_of_ble_eq_true rfl)) dL_blocksFit_79 ⟨Nat.le_of_ble_eq_true rfl, Nat.le_of_ble_eq_true rfl⟩) hP hD hS hA [0, 1, 2, 3, 4, 5, 6, 7, 8, 9, 10, 11, 12, 13, 14, 15, 16, 17, 18, 19, 20, 21, 22, 23, 24, 25, 26, 27, 28, 29, 30, 31, 32, 33, 34, 35, 36, 37] [] [0, 1, 2, 3, 4, 5, 6, 7, 8, 9, 10, 11, 12, 13, 14, 15, 16, 17, 18, 19, 20, 21, 22, 23, 24, 25, 26, 27, 28, 29, 30, 31, 32, 33, 34, 35, 36, 37] rfl rfl rfl (by decide) rfl rfl (fun H locs hP hD hS => ?_)
    refine lv_istore (lv' := [(4, .int r1.1), (0, .ref (g 0)), (1, .int u1), (2, .int (zI u2)), (3, .int (zI u3))]) hx hb dL_blocksFit_82 hl (by decide) rfl (fun ls hl => ?_)
    refine lv_iload_n hx hb dL_blocksFit_84 rfl (lv_at hl 4 rfl) ?_
    refine lv_if_eq (tgt := 178) hx hb dL_blocksFit_85 (by decide) (fun c2 => ?_) (fun c2 => ?_)
    · replace hM := (if_pos c2).symm.trans hM
      exact hB178 r1.2 H _ _ hM hP hD hS (lv_sub hl [] rfl)
    · replace hM := (if_neg c2).symm.trans hM
      refine lv_iload_n hx hb dL_blocksFit_88 rfl (lv_at hl 2 rfl) ?_
      refine lv_aload_n hx hb dL_blocksFit_89 rfl (lv_at hl 1 rfl) ?_
      refine lv_bipush (v := (10 : Int32)) hx hb dL_blocksFit_90 (by decide) ?_
      obtain ⟨r3, hr3, hM⟩ := ob hM
      refine wk_callP (va_runV (As := [.int (10 : Int32)]) (rest := [.int u1]) ⟨hx, hb, hml, hown, hts⟩ (c_X6_whole l dC dI cI cD cJ kk g r1.2 (10 : Int32) _ hr3 H) (cwV 1 hts gL_blocksFit_X6_whole rfl rfl rfl (by decide +kernel) ⟨Nat.le_of_ble_eq_true rfl, Nat.le_of_ble_eq_true rfl⟩) (wk_preV (ci := 4) (q0 := 0) hG hP hD [0, 1, 2, 3, 4, 5, 6, 7, 8, 9, 10, 11, 12, 13, 14, 15, 16, 17, 18, 19, 20, 21, 22, 23, 24, 25, 26, 27, 28, 29, 30, 31, 32, 33, 34, 35, 36, 37] rfl rfl rfl rfl) rfl rfl hl.1 rfl (lv_room (Nat.le_of_ble_eq_true rfl)) dL_blocksFit_92 ⟨Nat.le_of_ble_eq_true rfl, Nat.le_of_ble_eq_true rfl⟩) hS (fun locs hS => ?_)
      refine lv_icmp_ne (tgt := 178) hx hb dL_blocksFit_95 (by decide) (fun c4 => ?_) (fun c4 => ?_)
      · replace hM := (if_neg c4).symm.trans hM
        exact hB178 r1.2 H _ _ hM hP hD hS (lv_sub hl [] rfl)
      · replace hM := (if_pos c4).symm.trans hM
        refine lv_iload hx hb dL_blocksFit_98 (lv_at hl 0 rfl) ?_
        refine lv_if_ne (tgt := 107) hx hb dL_blocksFit_100 (by decide) (fun c5 => ?_) (fun c5 => ?_)
        · replace hM := (if_neg c5).symm.trans hM
          refine lv_iconst (v := (0 : Int32)) hx hb dL_blocksFit_107 (by decide) ?_
          exact hB108 u2 r1.1 false r1.2 H _ _ hM hP hD hS (lv_sub hl [1, 3, 0] rfl)
        · replace hM := (if_pos c5).symm.trans hM
          refine lv_iconst (v := (1 : Int32)) hx hb dL_blocksFit_103 (by decide) ?_
          refine lv_goto (tgt := 108) hx hb dL_blocksFit_104 (by decide) ?_
          exact hB108 u2 r1.1 true r1.2 H _ _ hM hP hD hS (lv_sub hl [1, 3, 0] rfl)
  have hL27 : ∀ (n27 : Nat) (u1 : Int32) (u2 : Bool) (u3 : Bool) (u4 : Int32) (y0 : SS) (H : Heap) (locs : List Loc) (ls : Array Slot), lpF (M_L_blocksFit_27s x) n27 (u1, u2, u3, u4, y0) = some out → va_P (dC, dI) vwCl (wSys cI cD kk.1 g y0) H → va_D A (wSys cI cD kk.1 g y0) → va_S A s.heap H locs → lv_has ls 5 [(0, .ref (g 0)), (1, .int u1), (2, .int (zI u2)), (3, .int (zI u3)), (4, .int u4)] → W p l e ({ frames := 6, cells := 0, slots := 0, locals := 139 } : Room) s m ([.ref (g 0)] : List Value).toArray below meth c H locs 0 0 Q (F0 m 27 ls []) := by
    intro n27
    induction n27 with
    | zero => intro u1 u2 u3 u4 y0 H locs ls hM; exact lpF_0 hM
    | succ n27 ih27 =>
      have hB71 : ∀ (u1 : Int32) (u2 : Bool) (u4 : Int32) (w0 : Bool) (y0 : SS) (H : Heap) (locs : List Loc) (ls : Array Slot), M_L_blocksFit_71 x (lpF (M_L_blocksFit_27s x) n27) u1 u2 u4 w0 y0 = some out → va_P (dC, dI) vwCl (wSys cI cD kk.1 g y0) H → va_D A (wSys cI cD kk.1 g y0) → va_S A s.heap H locs → lv_has ls 5 [(0, .ref (g 0)), (1, .int u1), (2, .int (zI u2)), (4, .int u4)] → W p l e ({ frames := 6, cells := 0, slots := 0, locals := 139 } : Room) s m ([.ref (g 0)] : List Value).toArray below meth c H locs 0 0 Q (F0 m 71 ls [.int (zI w0)]) := by
        intro u1 u2 u4 w0 y0 H locs ls hM hP hD hS hl
        unfold M_L_blocksFit_71 at hM
        refine lv_istore_n (lv' := [(3, .int (zI w0)), (0, .ref (g 0)), (1, .int u1), (2, .int (zI u2)), (4, .int u4)]) hx hb dL_blocksFit_71 rfl hl (by decide) rfl (fun ls hl => ?_)
        refine lv_iinc (v := (u4 + 1)) (lv' := [(4, .int (u4 + 1)), (3, .int (zI w0)), (0, .ref (g 0)), (1, .int u1), (2, .int (zI u2))]) hx hb dL_blocksFit_72 hl (k := 4) rfl rfl (by decide) rfl (fun ls hl => ?_)
        refine lv_goto (tgt := 27) hx hb dL_blocksFit_75 (by decide) ?_
        exact ih27 u1 u2 w0 (u4 + 1) y0 H _ _ hM hP hD hS (lv_sub hl [2, 3, 4, 1, 0] rfl)
      have hB66 : ∀ (u1 : Int32) (u2 : Bool) (u4 : Int32) (y0 : SS) (H : Heap) (locs : List Loc) (ls : Array Slot), M_L_blocksFit_66 x (lpF (M_L_blocksFit_27s x) n27) u1 u2 u4 y0 = some out → va_P (dC, dI) vwCl (wSys cI cD kk.1 g y0) H → va_D A (wSys cI cD kk.1 g y0) → va_S A s.heap H locs → lv_has ls 5 [(0, .ref (g 0)), (1, .int u1), (2, .int (zI u2)), (4, .int u4)] → W p l e ({ frames := 6, cells := 0, slots := 0, locals := 139 } : Room) s m ([.ref (g 0)] : List Value).toArray below meth c H locs 0 0 Q (F0 m 66 ls []) := by
        intro u1 u2 u4 y0 H locs ls hM hP hD hS hl
        unfold M_L_blocksFit_66 at hM
        refine lv_iconst (v := (1 : Int32)) hx hb dL_blocksFit_66 (by decide) ?_
        refine lv_goto (tgt := 71) hx hb dL_blocksFit_67 (by decide) ?_
        exact hB71 u1 u2 u4 true y0 H _ _ hM hP hD hS (lv_sub hl [0, 1, 2, 3] rfl)
      intro u1 u2 u3 u4 y0 H locs ls hM hP hD hS hl
      replace hM : M_L_blocksFit_27s x (lpF (M_L_blocksFit_27s x) n27) (u1, u2, u3, u4, y0) = some out := hM
      unfold M_L_blocksFit_27s at hM
      try dsimp only at hM
      refine lv_iload hx hb dL_blocksFit_27 (lv_at hl 4 rfl) ?_
      refine lv_bipush (v := (16 : Int32)) hx hb dL_blocksFit_29 (by decide) ?_
      refine lv_icmp_ge (tgt := 78) hx hb dL_blocksFit_31 (by decide) (fun c1 => ?_) (fun c1 => ?_)
      · replace hM := (if_pos c1).symm.trans hM
        exact hB78 u1 u2 u3 y0 H _ _ hM hP hD hS (lv_sub hl [0, 1, 2, 3] rfl)
      · replace hM := (if_neg c1).symm.trans hM
        refine lv_iload_n hx hb dL_blocksFit_34 rfl (lv_at hl 3 rfl) ?_
        refine lv_if_eq (tgt := 78) hx hb dL_blocksFit_35 (by decide) (fun c2 => ?_) (fun c2 => ?_)
        · replace hM := (if_pos c2).symm.trans hM
          exact hB78 u1 u2 u3 y0 H _ _ hM hP hD hS (lv_sub hl [0, 1, 2, 3] rfl)
        · replace hM := (if_neg c2).symm.trans hM
          refine lv_iload_n hx hb dL_blocksFit_38 rfl (lv_at hl 1 rfl) ?_
          refine lv_aload_n hx hb dL_blocksFit_39 rfl (lv_at hl 0 rfl) ?_
          refine lv_iload hx hb dL_blocksFit_40 (lv_at hl 4 rfl) ?_
          obtain ⟨r3, hr3, hM⟩ := ob hM
          refine wk_callP (va_runV (As := [.int u4]) (rest := [.int u1]) ⟨hx, hb, hml, hown, hts⟩ (c_X6_block l dC dI cI cD cJ kk g y0 u4 _ hr3 H) (cwV 1 hts gL_blocksFit_X6_block rfl rfl rfl (by decide +kernel) ⟨Nat.le_of_ble_eq_true rfl, Nat.le_of_ble_eq_true rfl⟩) (wk_preV (ci := 4) (q0 := 0) hG hP hD [0, 1, 2, 3, 4, 5, 6, 7, 8, 9, 10, 11, 12, 13, 14, 15, 16, 17, 18, 19, 20, 21, 22, 23, 24, 25, 26, 27, 28, 29, 30, 31, 32, 33, 34, 35, 36, 37] rfl rfl rfl rfl) rfl rfl hl.1 rfl (lv_room (Nat.le_of_ble_eq_true rfl)) dL_blocksFit_42 ⟨Nat.le_of_ble_eq_true rfl, Nat.le_of_ble_eq_true rfl⟩) hS (fun locs hS => ?_)
          refine lv_iadd hx hb dL_blocksFit_45 ?_
          refine lv_istore_n (lv' := [(1, .int (u1 + r3)), (0, .ref (g 0)), (2, .int (zI u2)), (3, .int (zI u3)), (4, .int u4)]) hx hb dL_blocksFit_46 rfl hl (by decide) rfl (fun ls hl => ?_)
          refine lv_iload_n hx hb dL_blocksFit_47 rfl (lv_at hl 2 rfl) ?_
          refine lv_if_ne (tgt := 66) hx hb dL_blocksFit_48 (by decide) (fun c4 => ?_) (fun c4 => ?_)
          · replace hM := (if_neg c4).symm.trans hM
            exact hB66 (u1 + r3) u2 u4 y0 H _ _ hM hP hD hS (lv_sub hl [1, 0, 2, 4] rfl)
          · replace hM := (if_pos c4).symm.trans hM
            refine lv_aload_n hx hb dL_blocksFit_51 rfl (lv_at hl 1 rfl) ?_
            refine lv_iload hx hb dL_blocksFit_52 (lv_at hl 4 rfl) ?_
            obtain ⟨r5, hr5, hM⟩ := ob hM
            refine wk_callM (ws' := (wSys cI cD kk.1 g r5.2)) (va_runV (As := [.int u4]) (rest := []) ⟨hx, hb, hml, hown, hts⟩ (c_X6_finalValue l dC dI cI cD cJ kk g y0 u4 _ hr5 H) (cwV 1 hts gL_blocksFit_X6_finalValue rfl rfl rfl (by decide +kernel) ⟨Nat.le_of_ble_eq_true rfl, Nat.le_of_ble_eq_true rfl⟩) (wk_preV (ci := 4) (q0 := 0) hG hP hD [0, 1, 2, 3, 4, 5, 6, 7, 8, 9, 10, 11, 12, 13, 14, 15, 16, 17, 18, 19, 20, 21, 22, 23, 24, 25, 26, 27, 28, 29, 30, 31, 32, 33, 34, 35, 36, 37] rfl rfl rfl rfl) rfl rfl hl.1 rfl (lv_room (Nat.le_of_ble_eq_true rfl)) dL_blocksFit_54 ⟨Nat.le_of_ble_eq_true rfl, Nat.le_of_ble_eq_true rfl⟩) hP hD hS hA [0, 1, 2, 3, 4, 5, 6, 7, 8, 9, 10, 11, 12, 13, 14, 15, 16, 17, 18, 19, 20, 21, 22, 23, 24, 25, 26, 27, 28, 29, 30, 31, 32, 33, 34, 35, 36, 37] [] [0, 1, 2, 3, 4, 5, 6, 7, 8, 9, 10, 11, 12, 13, 14, 15, 16, 17, 18, 19, 20, 21, 22, 23, 24, 25, 26, 27, 28, 29, 30, 31, 32, 33, 34, 35, 36, 37] rfl rfl rfl (by decide) rfl rfl (fun H locs hP hD hS => ?_)
            refine lv_aload_n hx hb dL_blocksFit_57 rfl (lv_at hl 1 rfl) ?_
            refine lv_iload hx hb dL_blocksFit_58 (lv_at hl 4 rfl) ?_
            obtain ⟨r6, hr6, hM⟩ := ob hM
            refine wk_callP (va_runV (As := [.int u4]) (rest := [.int r5.1]) ⟨hx, hb, hml, hown, hts⟩ (c_X6_block l dC dI cI cD cJ kk g r5.2 u4 _ hr6 H) (cwV 1 hts gL_blocksFit_X6_block rfl rfl rfl (by decide +kernel) ⟨Nat.le_of_ble_eq_true rfl, Nat.le_of_ble_eq_true rfl⟩) (wk_preV (ci := 4) (q0 := 0) hG hP hD [0, 1, 2, 3, 4, 5, 6, 7, 8, 9, 10, 11, 12, 13, 14, 15, 16, 17, 18, 19, 20, 21, 22, 23, 24, 25, 26, 27, 28, 29, 30, 31, 32, 33, 34, 35, 36, 37] rfl rfl rfl rfl) rfl rfl hl.1 rfl (lv_room (Nat.le_of_ble_eq_true rfl)) dL_blocksFit_60 ⟨Nat.le_of_ble_eq_true rfl, Nat.le_of_ble_eq_true rfl⟩) hS (fun locs hS => ?_)
            refine lv_icmp_ne (tgt := 70) hx hb dL_blocksFit_63 (by decide) (fun c7 => ?_) (fun c7 => ?_)
            · replace hM := (if_neg c7).symm.trans hM
              refine lv_iconst (v := (0 : Int32)) hx hb dL_blocksFit_70 (by decide) ?_
              exact hB71 (u1 + r3) u2 u4 false r5.2 H _ _ hM hP hD hS (lv_sub hl [1, 0, 2, 4] rfl)
            · replace hM := (if_pos c7).symm.trans hM
              exact hB66 (u1 + r3) u2 u4 r5.2 H _ _ hM hP hD hS (lv_sub hl [1, 0, 2, 4] rfl)
  have hB21 : ∀ (w0 : Bool) (y0 : SS) (H : Heap) (locs : List Loc) (ls : Array Slot), M_L_blocksFit_21 x w0 y0 = some out → va_P (dC, dI) vwCl (wSys cI cD kk.1 g y0) H → va_D A (wSys cI cD kk.1 g y0) → va_S A s.heap H locs → lv_has ls 5 [(0, .ref (g 0)), (1, .int (0 : Int32))] → W p l e ({ frames := 6, cells := 0, slots := 0, locals := 139 } : Room) s m ([.ref (g 0)] : List Value).toArray below meth c H locs 0 0 Q (F0 m 21 ls [.int (zI w0)]) := by
    intro w0 y0 H locs ls hM hP hD hS hl
    unfold M_L_blocksFit_21 at hM
    refine lv_istore_n (lv' := [(2, .int (zI w0)), (0, .ref (g 0)), (1, .int (0 : Int32))]) hx hb dL_blocksFit_21 rfl hl (by decide) rfl (fun ls hl => ?_)
    refine lv_iconst (v := (1 : Int32)) hx hb dL_blocksFit_22 (by decide) ?_
    refine lv_istore_n (lv' := [(3, .int (1 : Int32)), (2, .int (zI w0)), (0, .ref (g 0)), (1, .int (0 : Int32))]) hx hb dL_blocksFit_23 rfl hl (by decide) rfl (fun ls hl => ?_)
    refine lv_iconst (v := (0 : Int32)) hx hb dL_blocksFit_24 (by decide) ?_
    refine lv_istore (lv' := [(4, .int (0 : Int32)), (3, .int (1 : Int32)), (2, .int (zI w0)), (0, .ref (g 0)), (1, .int (0 : Int32))]) hx hb dL_blocksFit_25 hl (by decide) rfl (fun ls hl => ?_)
    exact hL27 64 (0 : Int32) w0 true (0 : Int32) y0 H _ _ hM hP hD hS (lv_sub hl [3, 4, 2, 1, 0] rfl)
  unfold M_L_blocksFit at hM
  refine lv_iconst (v := (0 : Int32)) hx hb dL_blocksFit_0 (by decide) ?_
  refine lv_istore_n (lv' := [(1, .int (0 : Int32)), (0, .ref (g 0))]) hx hb dL_blocksFit_1 rfl hl (by decide) rfl (fun ls hl => ?_)
  refine lv_aload_n hx hb dL_blocksFit_2 rfl (lv_at hl 1 rfl) ?_
  refine lv_iconst (v := (1 : Int32)) hx hb dL_blocksFit_3 (by decide) ?_
  obtain ⟨r1, hr1, hM⟩ := ob hM
  refine wk_callP (va_runV (As := [.int (1 : Int32)]) (rest := []) ⟨hx, hb, hml, hown, hts⟩ (c_X6_whole l dC dI cI cD cJ kk g x (1 : Int32) _ hr1 H) (cwV 1 hts gL_blocksFit_X6_whole rfl rfl rfl (by decide +kernel) ⟨Nat.le_of_ble_eq_true rfl, Nat.le_of_ble_eq_true rfl⟩) (wk_preV (ci := 4) (q0 := 0) hG hP hD [0, 1, 2, 3, 4, 5, 6, 7, 8, 9, 10, 11, 12, 13, 14, 15, 16, 17, 18, 19, 20, 21, 22, 23, 24, 25, 26, 27, 28, 29, 30, 31, 32, 33, 34, 35, 36, 37] rfl rfl rfl rfl) rfl rfl hl.1 rfl (lv_room (Nat.le_of_ble_eq_true rfl)) dL_blocksFit_4 ⟨Nat.le_of_ble_eq_true rfl, Nat.le_of_ble_eq_true rfl⟩) hS (fun locs hS => ?_)
  refine lv_aload_n hx hb dL_blocksFit_7 rfl (lv_at hl 1 rfl) ?_
  refine lv_iconst (v := (2 : Int32)) hx hb dL_blocksFit_8 (by decide) ?_
  obtain ⟨r2, hr2, hM⟩ := ob hM
  refine wk_callP (va_runV (As := [.int (2 : Int32)]) (rest := [.int r1]) ⟨hx, hb, hml, hown, hts⟩ (c_X6_whole l dC dI cI cD cJ kk g x (2 : Int32) _ hr2 H) (cwV 1 hts gL_blocksFit_X6_whole rfl rfl rfl (by decide +kernel) ⟨Nat.le_of_ble_eq_true rfl, Nat.le_of_ble_eq_true rfl⟩) (wk_preV (ci := 4) (q0 := 0) hG hP hD [0, 1, 2, 3, 4, 5, 6, 7, 8, 9, 10, 11, 12, 13, 14, 15, 16, 17, 18, 19, 20, 21, 22, 23, 24, 25, 26, 27, 28, 29, 30, 31, 32, 33, 34, 35, 36, 37] rfl rfl rfl rfl) rfl rfl hl.1 rfl (lv_room (Nat.le_of_ble_eq_true rfl)) dL_blocksFit_9 ⟨Nat.le_of_ble_eq_true rfl, Nat.le_of_ble_eq_true rfl⟩) hS (fun locs hS => ?_)
  refine lv_iadd hx hb dL_blocksFit_12 ?_
  refine lv_if_le (tgt := 20) hx hb dL_blocksFit_13 (by decide) (fun c3 => ?_) (fun c3 => ?_)
  · replace hM := (if_pos c3).symm.trans hM
    refine lv_iconst (v := (0 : Int32)) hx hb dL_blocksFit_20 (by decide) ?_
    exact hB21 false x H _ _ hM hP hD hS (lv_sub hl [1, 0] rfl)
  · replace hM := (if_neg c3).symm.trans hM
    refine lv_iconst (v := (1 : Int32)) hx hb dL_blocksFit_16 (by decide) ?_
    refine lv_goto (tgt := 21) hx hb dL_blocksFit_17 (by decide) ?_
    exact hB21 true x H _ _ hM hP hD hS (lv_sub hl [1, 0] rfl)
