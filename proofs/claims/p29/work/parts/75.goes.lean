/-! PART 38: the law's goes -/
set_option maxHeartbeats 4000000 in
set_option maxRecDepth 100000 in
theorem c_L_goes (l : Launch) (hflags : l.stackTraces = false) (dC : Nat → ClassId) (dI : Nat → Nat → Nat) (cI cD cJ : ClassId) (kk : wAd) (g : Nat → Nat) (x : SS) (p1 : Int32) (p2 : Int32) (p3 : Int32) (out : Int32 ⊕ (Int32 × SS)) (hM : M_L_goes x p1 p2 p3 = some out) : CL kk l yL_goes wsL_goes ({ frames := 9, cells := 2, slots := 12, locals := 161 } : Room) dC dI (wTys cI cD cJ) [.ref (g 0), .int p1, .int p2, .int p3] (wSys cI cD kk.1 g x) (outX out (fun r => (some (.int r.1), (wSys cI cD kk.1 g r.2)))) 2 12 := by
  refine wk_enterG (cc := cL_goes) (maxL := 7) (ret := (some .int)) (by decide) rfl (Nat.le_of_ble_eq_true rfl) ?_
  intro p e s m below meth c A Q ls hB hno hN hT hA hP hD hQ hl
  obtain ⟨hx, hb, hml, hr, hts, hown, hname, hlocks, hG⟩ := hB
  have hown : s.vm.findClass RL = some m.cls := hown
  have hS : va_S A s.heap s.heap [] := va_S.rf
  have hl : lv_has ls 7 [(0, .ref (g 0)), (1, .int p1), (2, .int p2), (3, .int p3)] := hl
  obtain ⟨H, hH⟩ : ∃ z, z = s.heap := ⟨_, rfl⟩
  have hP : va_P (dC, dI) vwCl (wSys cI cD kk.1 g x) H := by rw [hH]; exact hP
  have hS : va_S A s.heap H [] := by rw [hH]; exact hS
  refine wk_at hH ?_
  generalize ([] : List Loc) = locs at hS ⊢
  have hB172 : ∀ (u4 : Int32) (u5 : Int32) (w0 : Int32) (y0 : SS) (H : Heap) (locs : List Loc) (ls : Array Slot), M_L_goes_172 x p1 p2 p3 u4 u5 w0 y0 = some out → va_P (dC, dI) vwCl (wSys cI cD kk.1 g y0) H → va_D A (wSys cI cD kk.1 g y0) → va_S A s.heap H locs → lv_has ls 7 [(0, .ref (g 0)), (1, .int p1), (3, .int p3), (4, .int u4), (5, .int u5)] → W p l e ({ frames := 9, cells := 2, slots := 12, locals := 161 } : Room) s m ([.ref (g 0), .int p1, .int p2, .int p3] : List Value).toArray below meth c H locs 0 0 Q (F0 m 172 ls [.int w0]) := by
    intro u4 u5 w0 y0 H locs ls hM hP hD hS hl
    unfold M_L_goes_172 at hM
    refine lv_istore (lv' := [(6, .int w0), (0, .ref (g 0)), (1, .int p1), (3, .int p3), (4, .int u4), (5, .int u5)]) hx hb dL_goes_172 hl (by decide) rfl (fun ls hl => ?_)
    refine lv_aload_n hx hb dL_goes_174 rfl (lv_at hl 1 rfl) ?_
    refine lv_iload_n hx hb dL_goes_175 rfl (lv_at hl 3 rfl) ?_
    refine lv_iconst (v := (3 : Int32)) hx hb dL_goes_176 (by decide) ?_
    refine lv_ishr hx hb dL_goes_177 ?_
    refine lv_iconst (v := (2 : Int32)) hx hb dL_goes_178 (by decide) ?_
    obtain ⟨r1, hr1, hM⟩ := ob hM
    refine wk_callP (va_runS (As := [.int (p3 >>> ((3 : Int32) &&& 31)), .int (2 : Int32)]) (rest := [.ref (g 0)]) ⟨hx, hb, hml, hown, hts⟩ (c_L_near l dC dI cI cD cJ kk  (p3 >>> ((3 : Int32) &&& 31)) (2 : Int32) _ hr1 H) (va_cwS 2 hts gL_goes_L_near rfl rfl rfl (by decide +kernel) ⟨Nat.le_of_ble_eq_true rfl, Nat.le_of_ble_eq_true rfl⟩) (wk_preS hG hP hD [] rfl rfl) rfl rfl hl.1 rfl (lv_room (Nat.le_of_ble_eq_true rfl)) dL_goes_179 ⟨Nat.le_of_ble_eq_true rfl, Nat.le_of_ble_eq_true rfl⟩) hS (fun locs hS => ?_)
    refine lv_iload_n hx hb dL_goes_182 rfl (lv_at hl 2 rfl) ?_
    refine lv_iconst (v := (5 : Int32)) hx hb dL_goes_183 (by decide) ?_
    refine lv_ishr hx hb dL_goes_184 ?_
    refine lv_bipush (v := (6 : Int32)) hx hb dL_goes_185 (by decide) ?_
    obtain ⟨r2, hr2, hM⟩ := ob hM
    refine wk_callP (va_runS (As := [.int (p1 >>> ((5 : Int32) &&& 31)), .int (6 : Int32)]) (rest := [.int r1, .ref (g 0)]) ⟨hx, hb, hml, hown, hts⟩ (c_L_near l dC dI cI cD cJ kk  (p1 >>> ((5 : Int32) &&& 31)) (6 : Int32) _ hr2 H) (va_cwS 2 hts gL_goes_L_near rfl rfl rfl (by decide +kernel) ⟨Nat.le_of_ble_eq_true rfl, Nat.le_of_ble_eq_true rfl⟩) (wk_preS hG hP hD [] rfl rfl) rfl rfl hl.1 rfl (lv_room (Nat.le_of_ble_eq_true rfl)) dL_goes_187 ⟨Nat.le_of_ble_eq_true rfl, Nat.le_of_ble_eq_true rfl⟩) hS (fun locs hS => ?_)
    refine lv_iload hx hb dL_goes_190 (lv_at hl 4 rfl) ?_
    refine lv_iload hx hb dL_goes_192 (lv_at hl 5 rfl) ?_
    refine lv_iload hx hb dL_goes_194 (lv_at hl 0 rfl) ?_
    obtain ⟨r3, hr3, hM⟩ := ob hM
    refine wk_callX (vx_runSX (As := [.ref (g 0), .int r1, .int r2, .int u4, .int u5, .int w0]) (rest := []) ⟨hx, hb, hml, hown, hts⟩ (c_L_order l hflags dC dI cI cD cJ kk g y0 r1 r2 u4 u5 w0 _ hr3 H) (vx_cwSW 6 hts gL_goes_L_order rfl rfl rfl (by decide +kernel) ⟨Nat.le_of_ble_eq_true rfl, Nat.le_of_ble_eq_true rfl⟩) (wk_preSL hG hP hD hT hN hS [0, 1, 2, 3, 4, 5, 6, 7, 8, 9, 10, 11, 12, 13, 14, 15, 16, 17, 18, 19, 20, 21, 22, 23, 24, 25, 26, 27, 28, 29, 30, 31, 32, 33, 34, 35, 36, 37] rfl rfl (va_free hD hS hA [0, 1, 2, 3, 4, 5, 6, 7, 8, 9, 10, 11, 12, 13, 14, 15, 16, 17, 18, 19, 20, 21, 22, 23, 24, 25, 26, 27, 28, 29, 30, 31, 32, 33, 34, 35, 36, 37] rfl)) rfl rfl hl.1 rfl (lv_room (Nat.le_of_ble_eq_true rfl)) dL_goes_196 ⟨Nat.le_of_ble_eq_true rfl, Nat.le_of_ble_eq_true rfl⟩) hP hD hS hA [0, 1, 2, 3, 4, 5, 6, 7, 8, 9, 10, 11, 12, 13, 14, 15, 16, 17, 18, 19, 20, 21, 22, 23, 24, 25, 26, 27, 28, 29, 30, 31, 32, 33, 34, 35, 36, 37] [] [0, 1, 2, 3, 4, 5, 6, 7, 8, 9, 10, 11, 12, 13, 14, 15, 16, 17, 18, 19, 20, 21, 22, 23, 24, 25, 26, 27, 28, 29, 30, 31, 32, 33, 34, 35, 36, 37] rfl rfl rfl (by decide) rfl rfl (fun f9 ce q9 H locs ho9 hP hD hS hc9 hv9 hf9 => by cases ho9) (fun ov w1 ho9 H locs hPD hS => ?_)
    cases ho9
    obtain ⟨hP, hD⟩ := hPD (wSys cI cD kk.1 g r3.2) rfl
    replace hM := Option.some.inj hM
    subst hM
    exact wk_retXi hx hb hr hlocks hQ rfl rfl hP hD hS (Nat.le_of_ble_eq_true rfl) (Nat.le_of_ble_eq_true rfl) dL_goes_199
  have hB134 : ∀ (u4 : Int32) (u5 : Int32) (y0 : SS) (H : Heap) (locs : List Loc) (ls : Array Slot), M_L_goes_134 x p1 p2 p3 u4 u5 y0 = some out → va_P (dC, dI) vwCl (wSys cI cD kk.1 g y0) H → va_D A (wSys cI cD kk.1 g y0) → va_S A s.heap H locs → lv_has ls 7 [(0, .ref (g 0)), (1, .int p1), (3, .int p3), (4, .int u4), (5, .int u5)] → W p l e ({ frames := 9, cells := 2, slots := 12, locals := 161 } : Room) s m ([.ref (g 0), .int p1, .int p2, .int p3] : List Value).toArray below meth c H locs 0 0 Q (F0 m 134 ls []) := by
    intro u4 u5 y0 H locs ls hM hP hD hS hl
    unfold M_L_goes_134 at hM
    refine lv_iload hx hb dL_goes_134 (lv_at hl 3 rfl) ?_
    refine lv_iconst (v := (2 : Int32)) hx hb dL_goes_136 (by decide) ?_
    refine lv_icmp_ne (tgt := 148) hx hb dL_goes_137 (by decide) (fun c1 => ?_) (fun c1 => ?_)
    · replace hM := (if_neg c1).symm.trans hM
      refine lv_iload_n hx hb dL_goes_148 rfl (lv_at hl 2 rfl) ?_
      refine lv_bipush (v := (30 : Int32)) hx hb dL_goes_149 (by decide) ?_
      obtain ⟨r2, hr2, hM⟩ := ob hM
      refine wk_callP (va_runS (As := [.int p3, .int (30 : Int32)]) (rest := []) ⟨hx, hb, hml, hown, hts⟩ (c_L_low l dC dI cI cD cJ kk  p3 (30 : Int32) _ hr2 H) (va_cwS 2 hts gL_goes_L_low rfl rfl rfl (by decide +kernel) ⟨Nat.le_of_ble_eq_true rfl, Nat.le_of_ble_eq_true rfl⟩) (wk_preS hG hP hD [] rfl rfl) rfl rfl hl.1 rfl (lv_room (Nat.le_of_ble_eq_true rfl)) dL_goes_151 ⟨Nat.le_of_ble_eq_true rfl, Nat.le_of_ble_eq_true rfl⟩) hS (fun locs hS => ?_)
      refine lv_if_ne (tgt := 161) hx hb dL_goes_154 (by decide) (fun c3 => ?_) (fun c3 => ?_)
      · replace hM := (if_neg c3).symm.trans hM
        refine lv_iload_n hx hb dL_goes_161 rfl (lv_at hl 2 rfl) ?_
        refine lv_sipush (v := (1999 : Int32)) hx hb dL_goes_162 (by decide) ?_
        obtain ⟨r4, hr4, hM⟩ := ob hM
        refine wk_callP (va_runS (As := [.int p3, .int (1999 : Int32)]) (rest := []) ⟨hx, hb, hml, hown, hts⟩ (c_L_low l dC dI cI cD cJ kk  p3 (1999 : Int32) _ hr4 H) (va_cwS 2 hts gL_goes_L_low rfl rfl rfl (by decide +kernel) ⟨Nat.le_of_ble_eq_true rfl, Nat.le_of_ble_eq_true rfl⟩) (wk_preS hG hP hD [] rfl rfl) rfl rfl hl.1 rfl (lv_room (Nat.le_of_ble_eq_true rfl)) dL_goes_165 ⟨Nat.le_of_ble_eq_true rfl, Nat.le_of_ble_eq_true rfl⟩) hS (fun locs hS => ?_)
        refine lv_sipush (v := (999 : Int32)) hx hb dL_goes_168 (by decide) ?_
        refine lv_isub hx hb dL_goes_171 ?_
        exact hB172 u4 u5 (r4 - (999 : Int32)) y0 H _ _ hM hP hD hS (lv_sub hl [0, 1, 2, 3, 4] rfl)
      · replace hM := (if_pos c3).symm.trans hM
        refine lv_iload_n hx hb dL_goes_157 rfl (lv_at hl 2 rfl) ?_
        refine lv_goto (tgt := 172) hx hb dL_goes_158 (by decide) ?_
        exact hB172 u4 u5 p3 y0 H _ _ hM hP hD hS (lv_sub hl [0, 1, 2, 3, 4] rfl)
    · replace hM := (if_pos c1).symm.trans hM
      refine lv_iload_n hx hb dL_goes_140 rfl (lv_at hl 2 rfl) ?_
      refine lv_iconst (v := (5 : Int32)) hx hb dL_goes_141 (by decide) ?_
      obtain ⟨r5, hr5, hM⟩ := ob hM
      refine wk_callP (va_runS (As := [.int p3, .int (5 : Int32)]) (rest := []) ⟨hx, hb, hml, hown, hts⟩ (c_L_near l dC dI cI cD cJ kk  p3 (5 : Int32) _ hr5 H) (va_cwS 2 hts gL_goes_L_near rfl rfl rfl (by decide +kernel) ⟨Nat.le_of_ble_eq_true rfl, Nat.le_of_ble_eq_true rfl⟩) (wk_preS hG hP hD [] rfl rfl) rfl rfl hl.1 rfl (lv_room (Nat.le_of_ble_eq_true rfl)) dL_goes_142 ⟨Nat.le_of_ble_eq_true rfl, Nat.le_of_ble_eq_true rfl⟩) hS (fun locs hS => ?_)
      refine lv_goto (tgt := 172) hx hb dL_goes_145 (by decide) ?_
      exact hB172 u4 u5 r5 y0 H _ _ hM hP hD hS (lv_sub hl [0, 1, 2, 3, 4] rfl)
  have hB113 : ∀ (u4 : Int32) (w0 : Int32) (y0 : SS) (H : Heap) (locs : List Loc) (ls : Array Slot), M_L_goes_113 x p1 p2 p3 u4 w0 y0 = some out → va_P (dC, dI) vwCl (wSys cI cD kk.1 g y0) H → va_D A (wSys cI cD kk.1 g y0) → va_S A s.heap H locs → lv_has ls 7 [(0, .ref (g 0)), (1, .int p1), (3, .int p3), (4, .int u4)] → W p l e ({ frames := 9, cells := 2, slots := 12, locals := 161 } : Room) s m ([.ref (g 0), .int p1, .int p2, .int p3] : List Value).toArray below meth c H locs 0 0 Q (F0 m 113 ls [.int w0]) := by
    intro u4 w0 y0 H locs ls hM hP hD hS hl
    unfold M_L_goes_113 at hM
    refine lv_istore (lv' := [(5, .int w0), (0, .ref (g 0)), (1, .int p1), (3, .int p3), (4, .int u4)]) hx hb dL_goes_113 hl (by decide) rfl (fun ls hl => ?_)
    refine lv_iload hx hb dL_goes_115 (lv_at hl 4 rfl) ?_
    refine lv_iconst (v := (3 : Int32)) hx hb dL_goes_117 (by decide) ?_
    refine lv_icmp_ne (tgt := 134) hx hb dL_goes_118 (by decide) (fun c1 => ?_) (fun c1 => ?_)
    · replace hM := (if_neg c1).symm.trans hM
      exact hB134 u4 w0 y0 H _ _ hM hP hD hS (lv_sub hl [1, 2, 3, 4, 0] rfl)
    · replace hM := (if_pos c1).symm.trans hM
      refine lv_iload_n hx hb dL_goes_121 rfl (lv_at hl 3 rfl) ?_
      refine lv_bipush (v := (9 : Int32)) hx hb dL_goes_122 (by decide) ?_
      obtain ⟨r2, hr2, hM⟩ := ob hM
      refine wk_callP (va_runS (As := [.int p3, .int (9 : Int32)]) (rest := []) ⟨hx, hb, hml, hown, hts⟩ (c_L_low l dC dI cI cD cJ kk  p3 (9 : Int32) _ hr2 H) (va_cwS 2 hts gL_goes_L_low rfl rfl rfl (by decide +kernel) ⟨Nat.le_of_ble_eq_true rfl, Nat.le_of_ble_eq_true rfl⟩) (wk_preS hG hP hD [] rfl rfl) rfl rfl hl.1 rfl (lv_room (Nat.le_of_ble_eq_true rfl)) dL_goes_124 ⟨Nat.le_of_ble_eq_true rfl, Nat.le_of_ble_eq_true rfl⟩) hS (fun locs hS => ?_)
      refine lv_if_le (tgt := 134) hx hb dL_goes_127 (by decide) (fun c3 => ?_) (fun c3 => ?_)
      · replace hM := (if_pos c3).symm.trans hM
        exact hB134 u4 w0 y0 H _ _ hM hP hD hS (lv_sub hl [1, 2, 3, 4, 0] rfl)
      · replace hM := (if_neg c3).symm.trans hM
        refine lv_iconst (v := (0 : Int32)) hx hb dL_goes_130 (by decide) ?_
        refine lv_goto (tgt := 172) hx hb dL_goes_131 (by decide) ?_
        exact hB172 u4 w0 (0 : Int32) y0 H _ _ hM hP hD hS (lv_sub hl [1, 2, 3, 4, 0] rfl)
  have hB106 : ∀ (u4 : Int32) (y0 : SS) (H : Heap) (locs : List Loc) (ls : Array Slot), M_L_goes_106 x p1 p2 p3 u4 y0 = some out → va_P (dC, dI) vwCl (wSys cI cD kk.1 g y0) H → va_D A (wSys cI cD kk.1 g y0) → va_S A s.heap H locs → lv_has ls 7 [(0, .ref (g 0)), (1, .int p1), (2, .int p2), (3, .int p3), (4, .int u4)] → W p l e ({ frames := 9, cells := 2, slots := 12, locals := 161 } : Room) s m ([.ref (g 0), .int p1, .int p2, .int p3] : List Value).toArray below meth c H locs 0 0 Q (F0 m 106 ls []) := by
    intro u4 y0 H locs ls hM hP hD hS hl
    unfold M_L_goes_106 at hM
    refine lv_iload_n hx hb dL_goes_106 rfl (lv_at hl 2 rfl) ?_
    refine lv_iconst (v := (5 : Int32)) hx hb dL_goes_107 (by decide) ?_
    refine lv_ishr hx hb dL_goes_108 ?_
    refine lv_iconst (v := (5 : Int32)) hx hb dL_goes_109 (by decide) ?_
    obtain ⟨r1, hr1, hM⟩ := ob hM
    refine wk_callP (va_runS (As := [.int (p2 >>> ((5 : Int32) &&& 31)), .int (5 : Int32)]) (rest := []) ⟨hx, hb, hml, hown, hts⟩ (c_L_near l dC dI cI cD cJ kk  (p2 >>> ((5 : Int32) &&& 31)) (5 : Int32) _ hr1 H) (va_cwS 2 hts gL_goes_L_near rfl rfl rfl (by decide +kernel) ⟨Nat.le_of_ble_eq_true rfl, Nat.le_of_ble_eq_true rfl⟩) (wk_preS hG hP hD [] rfl rfl) rfl rfl hl.1 rfl (lv_room (Nat.le_of_ble_eq_true rfl)) dL_goes_110 ⟨Nat.le_of_ble_eq_true rfl, Nat.le_of_ble_eq_true rfl⟩) hS (fun locs hS => ?_)
    exact hB113 u4 r1 y0 H _ _ hM hP hD hS (lv_sub hl [0, 1, 3, 4] rfl)
  have hB80 : ∀ (y0 : SS) (H : Heap) (locs : List Loc) (ls : Array Slot), M_L_goes_80 x p1 p2 p3 y0 = some out → va_P (dC, dI) vwCl (wSys cI cD kk.1 g y0) H → va_D A (wSys cI cD kk.1 g y0) → va_S A s.heap H locs → lv_has ls 7 [(0, .ref (g 0)), (1, .int p1), (2, .int p2), (3, .int p3)] → W p l e ({ frames := 9, cells := 2, slots := 12, locals := 161 } : Room) s m ([.ref (g 0), .int p1, .int p2, .int p3] : List Value).toArray below meth c H locs 0 0 Q (F0 m 80 ls []) := by
    intro y0 H locs ls hM hP hD hS hl
    unfold M_L_goes_80 at hM
    refine lv_iload_n hx hb dL_goes_80 rfl (lv_at hl 2 rfl) ?_
    refine lv_iconst (v := (4 : Int32)) hx hb dL_goes_81 (by decide) ?_
    obtain ⟨r1, hr1, hM⟩ := ob hM
    refine wk_callP (va_runS (As := [.int p2, .int (4 : Int32)]) (rest := []) ⟨hx, hb, hml, hown, hts⟩ (c_L_near l dC dI cI cD cJ kk  p2 (4 : Int32) _ hr1 H) (va_cwS 2 hts gL_goes_L_near rfl rfl rfl (by decide +kernel) ⟨Nat.le_of_ble_eq_true rfl, Nat.le_of_ble_eq_true rfl⟩) (wk_preS hG hP hD [] rfl rfl) rfl rfl hl.1 rfl (lv_room (Nat.le_of_ble_eq_true rfl)) dL_goes_82 ⟨Nat.le_of_ble_eq_true rfl, Nat.le_of_ble_eq_true rfl⟩) hS (fun locs hS => ?_)
    refine lv_istore (lv' := [(4, .int r1), (0, .ref (g 0)), (1, .int p1), (2, .int p2), (3, .int p3)]) hx hb dL_goes_85 hl (by decide) rfl (fun ls hl => ?_)
    refine lv_iload hx hb dL_goes_87 (lv_at hl 0 rfl) ?_
    refine lv_iconst (v := (3 : Int32)) hx hb dL_goes_89 (by decide) ?_
    refine lv_icmp_ne (tgt := 106) hx hb dL_goes_90 (by decide) (fun c2 => ?_) (fun c2 => ?_)
    · replace hM := (if_neg c2).symm.trans hM
      exact hB106 r1 y0 H _ _ hM hP hD hS (lv_sub hl [1, 2, 3, 4, 0] rfl)
    · replace hM := (if_pos c2).symm.trans hM
      refine lv_iload_n hx hb dL_goes_93 rfl (lv_at hl 4 rfl) ?_
      refine lv_bipush (v := (9 : Int32)) hx hb dL_goes_94 (by decide) ?_
      obtain ⟨r3, hr3, hM⟩ := ob hM
      refine wk_callP (va_runS (As := [.int p3, .int (9 : Int32)]) (rest := []) ⟨hx, hb, hml, hown, hts⟩ (c_L_low l dC dI cI cD cJ kk  p3 (9 : Int32) _ hr3 H) (va_cwS 2 hts gL_goes_L_low rfl rfl rfl (by decide +kernel) ⟨Nat.le_of_ble_eq_true rfl, Nat.le_of_ble_eq_true rfl⟩) (wk_preS hG hP hD [] rfl rfl) rfl rfl hl.1 rfl (lv_room (Nat.le_of_ble_eq_true rfl)) dL_goes_96 ⟨Nat.le_of_ble_eq_true rfl, Nat.le_of_ble_eq_true rfl⟩) hS (fun locs hS => ?_)
      refine lv_if_le (tgt := 106) hx hb dL_goes_99 (by decide) (fun c4 => ?_) (fun c4 => ?_)
      · replace hM := (if_pos c4).symm.trans hM
        exact hB106 r1 y0 H _ _ hM hP hD hS (lv_sub hl [1, 2, 3, 4, 0] rfl)
      · replace hM := (if_neg c4).symm.trans hM
        refine lv_iconst (v := (0 : Int32)) hx hb dL_goes_102 (by decide) ?_
        refine lv_goto (tgt := 113) hx hb dL_goes_103 (by decide) ?_
        exact hB113 r1 (0 : Int32) y0 H _ _ hM hP hD hS (lv_sub hl [1, 2, 4, 0] rfl)
  have hB313 : ∀ (w0 : Int32) (y0 : SS) (H : Heap) (locs : List Loc) (ls : Array Slot), M_L_goes_313 x p1 p2 p3 w0 y0 = some out → va_P (dC, dI) vwCl (wSys cI cD kk.1 g y0) H → va_D A (wSys cI cD kk.1 g y0) → va_S A s.heap H locs → lv_has ls 7 [] → W p l e ({ frames := 9, cells := 2, slots := 12, locals := 161 } : Room) s m ([.ref (g 0), .int p1, .int p2, .int p3] : List Value).toArray below meth c H locs 2 12 Q (F0 m 313 ls [.int w0]) := by
    intro w0 y0 H locs ls hM hP hD hS hl
    unfold M_L_goes_313 at hM
    replace hM := Option.some.inj hM
    subst hM
    exact wk_retXi hx hb hr hlocks hQ rfl rfl hP hD hS (Nat.le_of_ble_eq_true rfl) (Nat.le_of_ble_eq_true rfl) dL_goes_313
  have hB272 : ∀ (w1 : Int32) (w2 : Int32) (w3 : Int32) (y0 : SS) (H : Heap) (locs : List Loc) (ls : Array Slot), M_L_goes_272 x p1 p2 p3 w1 w2 w3 y0 = some out → va_P (dC, dI) vwCl (wSys cI cD kk.1 g y0) H → va_D A (wSys cI cD kk.1 g y0) → va_S A s.heap H locs → lv_has ls 7 [] → W p l e ({ frames := 9, cells := 2, slots := 12, locals := 161 } : Room) s m ([.ref (g 0), .int p1, .int p2, .int p3] : List Value).toArray below meth c H locs 0 0 Q (F0 m 272 ls [.int w3, .int w2, .int w1, .ref (g 0)]) := by
    intro w1 w2 w3 y0 H locs ls hM hP hD hS hl
    unfold M_L_goes_272 at hM
    obtain ⟨r1, hr1, hM⟩ := ob hM
    refine wk_callP (va_runS (As := [.int w2, .int w3]) (rest := [.int w1, .ref (g 0)]) ⟨hx, hb, hml, hown, hts⟩ (c_L_near l dC dI cI cD cJ kk  w2 w3 _ hr1 H) (va_cwS 2 hts gL_goes_L_near rfl rfl rfl (by decide +kernel) ⟨Nat.le_of_ble_eq_true rfl, Nat.le_of_ble_eq_true rfl⟩) (wk_preS hG hP hD [] rfl rfl) rfl rfl hl.1 rfl (lv_room (Nat.le_of_ble_eq_true rfl)) dL_goes_272 ⟨Nat.le_of_ble_eq_true rfl, Nat.le_of_ble_eq_true rfl⟩) hS (fun locs hS => ?_)
    obtain ⟨r2, hr2, hM⟩ := ob hM
    refine wk_callX (vx_runSX (As := [.ref (g 0), .int w1, .int r1]) (rest := []) ⟨hx, hb, hml, hown, hts⟩ (c_L_setDelay l hflags dC dI cI cD cJ kk g y0 w1 r1 _ hr2 H) (vx_cwSW 3 hts gL_goes_L_setDelay rfl rfl rfl (by decide +kernel) ⟨Nat.le_of_ble_eq_true rfl, Nat.le_of_ble_eq_true rfl⟩) (wk_preSL hG hP hD hT hN hS [0, 1, 2, 3, 4, 5, 6, 7, 8, 9, 10, 11, 12, 13, 14, 15, 16, 17, 18, 19, 20, 21, 22, 23, 24, 25, 26, 27, 28, 29, 30, 31, 32, 33, 34, 35, 36, 37] rfl rfl (va_free hD hS hA [0, 1, 2, 3, 4, 5, 6, 7, 8, 9, 10, 11, 12, 13, 14, 15, 16, 17, 18, 19, 20, 21, 22, 23, 24, 25, 26, 27, 28, 29, 30, 31, 32, 33, 34, 35, 36, 37] rfl)) rfl rfl hl.1 rfl (lv_room (Nat.le_of_ble_eq_true rfl)) dL_goes_275 ⟨Nat.le_of_ble_eq_true rfl, Nat.le_of_ble_eq_true rfl⟩) hP hD hS hA [0, 1, 2, 3, 4, 5, 6, 7, 8, 9, 10, 11, 12, 13, 14, 15, 16, 17, 18, 19, 20, 21, 22, 23, 24, 25, 26, 27, 28, 29, 30, 31, 32, 33, 34, 35, 36, 37] [] [0, 1, 2, 3, 4, 5, 6, 7, 8, 9, 10, 11, 12, 13, 14, 15, 16, 17, 18, 19, 20, 21, 22, 23, 24, 25, 26, 27, 28, 29, 30, 31, 32, 33, 34, 35, 36, 37] rfl rfl rfl (by decide) rfl rfl (fun f9 ce q9 H locs ho9 hP hD hS hc9 hv9 hf9 => by cases ho9) (fun ov w1 ho9 H locs hPD hS => ?_)
    cases ho9
    obtain ⟨hP, hD⟩ := hPD (wSys cI cD kk.1 g r2.2) rfl
    refine lv_goto (tgt := 313) hx hb dL_goes_278 (by decide) ?_
    exact hB313 r2.1 r2.2 H _ _ hM hP hD hS (lv_sub hl [] rfl)
  have hB307 : ∀ (w1 : Int32) (w2 : Int32) (w3 : Int32) (y0 : SS) (H : Heap) (locs : List Loc) (ls : Array Slot), M_L_goes_307 x p1 p2 p3 w1 w2 w3 y0 = some out → va_P (dC, dI) vwCl (wSys cI cD kk.1 g y0) H → va_D A (wSys cI cD kk.1 g y0) → va_S A s.heap H locs → lv_has ls 7 [] → W p l e ({ frames := 9, cells := 2, slots := 12, locals := 161 } : Room) s m ([.ref (g 0), .int p1, .int p2, .int p3] : List Value).toArray below meth c H locs 0 0 Q (F0 m 307 ls [.int w3, .int w2, .int w1, .ref (g 0)]) := by
    intro w1 w2 w3 y0 H locs ls hM hP hD hS hl
    unfold M_L_goes_307 at hM
    obtain ⟨r1, hr1, hM⟩ := ob hM
    refine wk_callP (va_runS (As := [.int w2, .int w3]) (rest := [.int w1, .ref (g 0)]) ⟨hx, hb, hml, hown, hts⟩ (c_L_near l dC dI cI cD cJ kk  w2 w3 _ hr1 H) (va_cwS 2 hts gL_goes_L_near rfl rfl rfl (by decide +kernel) ⟨Nat.le_of_ble_eq_true rfl, Nat.le_of_ble_eq_true rfl⟩) (wk_preS hG hP hD [] rfl rfl) rfl rfl hl.1 rfl (lv_room (Nat.le_of_ble_eq_true rfl)) dL_goes_307 ⟨Nat.le_of_ble_eq_true rfl, Nat.le_of_ble_eq_true rfl⟩) hS (fun locs hS => ?_)
    obtain ⟨r2, hr2, hM⟩ := ob hM
    refine wk_callX (vx_runSX (As := [.ref (g 0), .int w1, .int r1]) (rest := []) ⟨hx, hb, hml, hown, hts⟩ (c_L_setAlarm l hflags dC dI cI cD cJ kk g y0 w1 r1 _ hr2 H) (vx_cwSW 3 hts gL_goes_L_setAlarm rfl rfl rfl (by decide +kernel) ⟨Nat.le_of_ble_eq_true rfl, Nat.le_of_ble_eq_true rfl⟩) (wk_preSL hG hP hD hT hN hS [0, 1, 2, 3, 4, 5, 6, 7, 8, 9, 10, 11, 12, 13, 14, 15, 16, 17, 18, 19, 20, 21, 22, 23, 24, 25, 26, 27, 28, 29, 30, 31, 32, 33, 34, 35, 36, 37] rfl rfl (va_free hD hS hA [0, 1, 2, 3, 4, 5, 6, 7, 8, 9, 10, 11, 12, 13, 14, 15, 16, 17, 18, 19, 20, 21, 22, 23, 24, 25, 26, 27, 28, 29, 30, 31, 32, 33, 34, 35, 36, 37] rfl)) rfl rfl hl.1 rfl (lv_room (Nat.le_of_ble_eq_true rfl)) dL_goes_310 ⟨Nat.le_of_ble_eq_true rfl, Nat.le_of_ble_eq_true rfl⟩) hP hD hS hA [0, 1, 2, 3, 4, 5, 6, 7, 8, 9, 10, 11, 12, 13, 14, 15, 16, 17, 18, 19, 20, 21, 22, 23, 24, 25, 26, 27, 28, 29, 30, 31, 32, 33, 34, 35, 36, 37] [] [0, 1, 2, 3, 4, 5, 6, 7, 8, 9, 10, 11, 12, 13, 14, 15, 16, 17, 18, 19, 20, 21, 22, 23, 24, 25, 26, 27, 28, 29, 30, 31, 32, 33, 34, 35, 36, 37] rfl rfl rfl (by decide) rfl rfl (fun f9 ce q9 H locs ho9 hP hD hS hc9 hv9 hf9 => by cases ho9) (fun ov w1 ho9 H locs hPD hS => ?_)
    cases ho9
    obtain ⟨hP, hD⟩ := hPD (wSys cI cD kk.1 g r2.2) rfl
    exact hB313 r2.1 r2.2 H _ _ hM hP hD hS (lv_sub hl [] rfl)
  have hB314 : ∀ (y0 : SS) (H : Heap) (locs : List Loc) (ls : Array Slot), M_L_goes_314 x p1 p2 p3 y0 = some out → va_P (dC, dI) vwCl (wSys cI cD kk.1 g y0) H → va_D A (wSys cI cD kk.1 g y0) → va_S A s.heap H locs → lv_has ls 7 [(0, .ref (g 0)), (2, .int p2), (3, .int p3)] → W p l e ({ frames := 9, cells := 2, slots := 12, locals := 161 } : Room) s m ([.ref (g 0), .int p1, .int p2, .int p3] : List Value).toArray below meth c H locs 0 0 Q (F0 m 314 ls []) := by
    intro y0 H locs ls hM hP hD hS hl
    unfold M_L_goes_314 at hM
    refine lv_aload_n hx hb dL_goes_314 rfl (lv_at hl 0 rfl) ?_
    refine lv_iload_n hx hb dL_goes_315 rfl (lv_at hl 1 rfl) ?_
    refine lv_iconst (v := (2 : Int32)) hx hb dL_goes_316 (by decide) ?_
    obtain ⟨r1, hr1, hM⟩ := ob hM
    refine wk_callP (va_runS (As := [.int p2, .int (2 : Int32)]) (rest := [.ref (g 0)]) ⟨hx, hb, hml, hown, hts⟩ (c_L_near l dC dI cI cD cJ kk  p2 (2 : Int32) _ hr1 H) (va_cwS 2 hts gL_goes_L_near rfl rfl rfl (by decide +kernel) ⟨Nat.le_of_ble_eq_true rfl, Nat.le_of_ble_eq_true rfl⟩) (wk_preS hG hP hD [] rfl rfl) rfl rfl hl.1 rfl (lv_room (Nat.le_of_ble_eq_true rfl)) dL_goes_317 ⟨Nat.le_of_ble_eq_true rfl, Nat.le_of_ble_eq_true rfl⟩) hS (fun locs hS => ?_)
    refine lv_iconst (v := (1 : Int32)) hx hb dL_goes_320 (by decide) ?_
    refine lv_iload_n hx hb dL_goes_321 rfl (lv_at hl 2 rfl) ?_
    refine lv_iconst (v := (3 : Int32)) hx hb dL_goes_322 (by decide) ?_
    obtain ⟨r2, hr2, hM⟩ := ob hM
    refine wk_callP (va_runS (As := [.int p3, .int (3 : Int32)]) (rest := [.int (1 : Int32), .int r1, .ref (g 0)]) ⟨hx, hb, hml, hown, hts⟩ (c_L_near l dC dI cI cD cJ kk  p3 (3 : Int32) _ hr2 H) (va_cwS 2 hts gL_goes_L_near rfl rfl rfl (by decide +kernel) ⟨Nat.le_of_ble_eq_true rfl, Nat.le_of_ble_eq_true rfl⟩) (wk_preS hG hP hD [] rfl rfl) rfl rfl hl.1 rfl (lv_room (Nat.le_of_ble_eq_true rfl)) dL_goes_323 ⟨Nat.le_of_ble_eq_true rfl, Nat.le_of_ble_eq_true rfl⟩) hS (fun locs hS => ?_)
    refine lv_iadd hx hb dL_goes_326 ?_
    obtain ⟨r3, hr3, hM⟩ := ob hM
    refine wk_callX (vx_runSX (As := [.ref (g 0), .int r1, .int ((1 : Int32) + r2)]) (rest := []) ⟨hx, hb, hml, hown, hts⟩ (c_L_work l hflags dC dI cI cD cJ kk g y0 r1 ((1 : Int32) + r2) _ hr3 H) (vx_cwSW 3 hts gL_goes_L_work rfl rfl rfl (by decide +kernel) ⟨Nat.le_of_ble_eq_true rfl, Nat.le_of_ble_eq_true rfl⟩) (wk_preSL hG hP hD hT hN hS [0, 1, 2, 3, 4, 5, 6, 7, 8, 9, 10, 11, 12, 13, 14, 15, 16, 17, 18, 19, 20, 21, 22, 23, 24, 25, 26, 27, 28, 29, 30, 31, 32, 33, 34, 35, 36, 37] rfl rfl (va_free hD hS hA [0, 1, 2, 3, 4, 5, 6, 7, 8, 9, 10, 11, 12, 13, 14, 15, 16, 17, 18, 19, 20, 21, 22, 23, 24, 25, 26, 27, 28, 29, 30, 31, 32, 33, 34, 35, 36, 37] rfl)) rfl rfl hl.1 rfl (lv_room (Nat.le_of_ble_eq_true rfl)) dL_goes_327 ⟨Nat.le_of_ble_eq_true rfl, Nat.le_of_ble_eq_true rfl⟩) hP hD hS hA [0, 1, 2, 3, 4, 5, 6, 7, 8, 9, 10, 11, 12, 13, 14, 15, 16, 17, 18, 19, 20, 21, 22, 23, 24, 25, 26, 27, 28, 29, 30, 31, 32, 33, 34, 35, 36, 37] [] [0, 1, 2, 3, 4, 5, 6, 7, 8, 9, 10, 11, 12, 13, 14, 15, 16, 17, 18, 19, 20, 21, 22, 23, 24, 25, 26, 27, 28, 29, 30, 31, 32, 33, 34, 35, 36, 37] rfl rfl rfl (by decide) rfl rfl (fun f9 ce q9 H locs ho9 hP hD hS hc9 hv9 hf9 => by cases ho9) (fun ov w1 ho9 H locs hPD hS => ?_)
    cases ho9
    obtain ⟨hP, hD⟩ := hPD (wSys cI cD kk.1 g r3.2) rfl
    replace hM := Option.some.inj hM
    subst hM
    exact wk_retXi hx hb hr hlocks hQ rfl rfl hP hD hS (Nat.le_of_ble_eq_true rfl) (Nat.le_of_ble_eq_true rfl) dL_goes_330
  have hB356 : ∀ (w1 : Int32) (y0 : SS) (H : Heap) (locs : List Loc) (ls : Array Slot), M_L_goes_356 x p1 p2 p3 w1 y0 = some out → va_P (dC, dI) vwCl (wSys cI cD kk.1 g y0) H → va_D A (wSys cI cD kk.1 g y0) → va_S A s.heap H locs → lv_has ls 7 [] → W p l e ({ frames := 9, cells := 2, slots := 12, locals := 161 } : Room) s m ([.ref (g 0), .int p1, .int p2, .int p3] : List Value).toArray below meth c H locs 0 0 Q (F0 m 356 ls [.int w1, .ref (g 0)]) := by
    intro w1 y0 H locs ls hM hP hD hS hl
    unfold M_L_goes_356 at hM
    obtain ⟨r1, hr1, hM⟩ := ob hM
    refine wk_callX (vx_runSX (As := [.ref (g 0), .int w1]) (rest := []) ⟨hx, hb, hml, hown, hts⟩ (c_L_pass l hflags dC dI cI cD cJ kk g y0 w1 _ hr1 H) (vx_cwSW 2 hts gL_goes_L_pass rfl rfl rfl (by decide +kernel) ⟨Nat.le_of_ble_eq_true rfl, Nat.le_of_ble_eq_true rfl⟩) (wk_preSL hG hP hD hT hN hS [0, 1, 2, 3, 4, 5, 6, 7, 8, 9, 10, 11, 12, 13, 14, 15, 16, 17, 18, 19, 20, 21, 22, 23, 24, 25, 26, 27, 28, 29, 30, 31, 32, 33, 34, 35, 36, 37] rfl rfl (va_free hD hS hA [0, 1, 2, 3, 4, 5, 6, 7, 8, 9, 10, 11, 12, 13, 14, 15, 16, 17, 18, 19, 20, 21, 22, 23, 24, 25, 26, 27, 28, 29, 30, 31, 32, 33, 34, 35, 36, 37] rfl)) rfl rfl hl.1 rfl (lv_room (Nat.le_of_ble_eq_true rfl)) dL_goes_356 ⟨Nat.le_of_ble_eq_true rfl, Nat.le_of_ble_eq_true rfl⟩) hP hD hS hA [0, 1, 2, 3, 4, 5, 6, 7, 8, 9, 10, 11, 12, 13, 14, 15, 16, 17, 18, 19, 20, 21, 22, 23, 24, 25, 26, 27, 28, 29, 30, 31, 32, 33, 34, 35, 36, 37] [] [0, 1, 2, 3, 4, 5, 6, 7, 8, 9, 10, 11, 12, 13, 14, 15, 16, 17, 18, 19, 20, 21, 22, 23, 24, 25, 26, 27, 28, 29, 30, 31, 32, 33, 34, 35, 36, 37] rfl rfl rfl (by decide) rfl rfl (fun f9 ce q9 H locs ho9 hP hD hS hc9 hv9 hf9 => by cases ho9) (fun ov w1 ho9 H locs hPD hS => ?_)
    cases ho9
    obtain ⟨hP, hD⟩ := hPD (wSys cI cD kk.1 g r1.2) rfl
    replace hM := Option.some.inj hM
    subst hM
    exact wk_retXi hx hb hr hlocks hQ rfl rfl hP hD hS (Nat.le_of_ble_eq_true rfl) (Nat.le_of_ble_eq_true rfl) dL_goes_359
  have hB331 : ∀ (y0 : SS) (H : Heap) (locs : List Loc) (ls : Array Slot), M_L_goes_331 x p1 p2 p3 y0 = some out → va_P (dC, dI) vwCl (wSys cI cD kk.1 g y0) H → va_D A (wSys cI cD kk.1 g y0) → va_S A s.heap H locs → lv_has ls 7 [(0, .ref (g 0)), (2, .int p2), (3, .int p3)] → W p l e ({ frames := 9, cells := 2, slots := 12, locals := 161 } : Room) s m ([.ref (g 0), .int p1, .int p2, .int p3] : List Value).toArray below meth c H locs 0 0 Q (F0 m 331 ls []) := by
    intro y0 H locs ls hM hP hD hS hl
    unfold M_L_goes_331 at hM
    refine lv_aload_n hx hb dL_goes_331 rfl (lv_at hl 0 rfl) ?_
    refine lv_iload_n hx hb dL_goes_332 rfl (lv_at hl 2 rfl) ?_
    refine lv_iconst (v := (4 : Int32)) hx hb dL_goes_333 (by decide) ?_
    obtain ⟨r1, hr1, hM⟩ := ob hM
    refine wk_callP (va_runS (As := [.int p3, .int (4 : Int32)]) (rest := [.ref (g 0)]) ⟨hx, hb, hml, hown, hts⟩ (c_L_low l dC dI cI cD cJ kk  p3 (4 : Int32) _ hr1 H) (va_cwS 2 hts gL_goes_L_low rfl rfl rfl (by decide +kernel) ⟨Nat.le_of_ble_eq_true rfl, Nat.le_of_ble_eq_true rfl⟩) (wk_preS hG hP hD [] rfl rfl) rfl rfl hl.1 rfl (lv_room (Nat.le_of_ble_eq_true rfl)) dL_goes_334 ⟨Nat.le_of_ble_eq_true rfl, Nat.le_of_ble_eq_true rfl⟩) hS (fun locs hS => ?_)
    refine lv_if_ne (tgt := 349) hx hb dL_goes_337 (by decide) (fun c2 => ?_) (fun c2 => ?_)
    · replace hM := (if_neg c2).symm.trans hM
      refine lv_iconst (v := (1 : Int32)) hx hb dL_goes_349 (by decide) ?_
      refine lv_iload_n hx hb dL_goes_350 rfl (lv_at hl 1 rfl) ?_
      refine lv_iconst (v := (3 : Int32)) hx hb dL_goes_351 (by decide) ?_
      obtain ⟨r3, hr3, hM⟩ := ob hM
      refine wk_callP (va_runS (As := [.int p2, .int (3 : Int32)]) (rest := [.int (1 : Int32), .ref (g 0)]) ⟨hx, hb, hml, hown, hts⟩ (c_L_low l dC dI cI cD cJ kk  p2 (3 : Int32) _ hr3 H) (va_cwS 2 hts gL_goes_L_low rfl rfl rfl (by decide +kernel) ⟨Nat.le_of_ble_eq_true rfl, Nat.le_of_ble_eq_true rfl⟩) (wk_preS hG hP hD [] rfl rfl) rfl rfl hl.1 rfl (lv_room (Nat.le_of_ble_eq_true rfl)) dL_goes_352 ⟨Nat.le_of_ble_eq_true rfl, Nat.le_of_ble_eq_true rfl⟩) hS (fun locs hS => ?_)
      refine lv_iadd hx hb dL_goes_355 ?_
      exact hB356 ((1 : Int32) + r3) y0 H _ _ hM hP hD hS (lv_sub hl [] rfl)
    · replace hM := (if_pos c2).symm.trans hM
      refine lv_iload_n hx hb dL_goes_340 rfl (lv_at hl 1 rfl) ?_
      refine lv_bipush (v := (51 : Int32)) hx hb dL_goes_341 (by decide) ?_
      obtain ⟨r4, hr4, hM⟩ := ob hM
      refine wk_callP (va_runS (As := [.int p2, .int (51 : Int32)]) (rest := [.ref (g 0)]) ⟨hx, hb, hml, hown, hts⟩ (c_L_near l dC dI cI cD cJ kk  p2 (51 : Int32) _ hr4 H) (va_cwS 2 hts gL_goes_L_near rfl rfl rfl (by decide +kernel) ⟨Nat.le_of_ble_eq_true rfl, Nat.le_of_ble_eq_true rfl⟩) (wk_preS hG hP hD [] rfl rfl) rfl rfl hl.1 rfl (lv_room (Nat.le_of_ble_eq_true rfl)) dL_goes_343 ⟨Nat.le_of_ble_eq_true rfl, Nat.le_of_ble_eq_true rfl⟩) hS (fun locs hS => ?_)
      refine lv_goto (tgt := 356) hx hb dL_goes_346 (by decide) ?_
      exact hB356 r4 y0 H _ _ hM hP hD hS (lv_sub hl [] rfl)
  have hB385 : ∀ (w0 : Int32) (y0 : SS) (H : Heap) (locs : List Loc) (ls : Array Slot), M_L_goes_385 x p1 p2 p3 w0 y0 = some out → va_P (dC, dI) vwCl (wSys cI cD kk.1 g y0) H → va_D A (wSys cI cD kk.1 g y0) → va_S A s.heap H locs → lv_has ls 7 [] → W p l e ({ frames := 9, cells := 2, slots := 12, locals := 161 } : Room) s m ([.ref (g 0), .int p1, .int p2, .int p3] : List Value).toArray below meth c H locs 2 12 Q (F0 m 385 ls [.int w0]) := by
    intro w0 y0 H locs ls hM hP hD hS hl
    unfold M_L_goes_385 at hM
    replace hM := Option.some.inj hM
    subst hM
    exact wk_retXi hx hb hr hlocks hQ rfl rfl hP hD hS (Nat.le_of_ble_eq_true rfl) (Nat.le_of_ble_eq_true rfl) dL_goes_385
  unfold M_L_goes at hM
  refine lv_iload_n hx hb dL_goes_0 rfl (lv_at hl 1 rfl) ?_
  refine lv_bipush (v := (16 : Int32)) hx hb dL_goes_1 (by decide) ?_
  obtain ⟨r1, hr1, hM⟩ := ob hM
  refine wk_callP (va_runS (As := [.int p1, .int (16 : Int32)]) (rest := []) ⟨hx, hb, hml, hown, hts⟩ (c_L_low l dC dI cI cD cJ kk  p1 (16 : Int32) _ hr1 H) (va_cwS 2 hts gL_goes_L_low rfl rfl rfl (by decide +kernel) ⟨Nat.le_of_ble_eq_true rfl, Nat.le_of_ble_eq_true rfl⟩) (wk_preS hG hP hD [] rfl rfl) rfl rfl hl.1 rfl (lv_room (Nat.le_of_ble_eq_true rfl)) dL_goes_3 ⟨Nat.le_of_ble_eq_true rfl, Nat.le_of_ble_eq_true rfl⟩) hS (fun locs hS => ?_)
  by_cases c2 : r1 = 0
  · replace hM := (if_pos c2).symm.trans hM
    refine lv_tableIn (off := 74) (tgt := 80) hx hb dL_goes_6 (by rw [c2]; decide) (by rw [c2]; decide) (by rw [c2]; decide) (by decide) ?_
    exact hB80 x H _ _ hM hP hD hS (lv_sub hl [0, 1, 2, 3] rfl)
  replace hM := (if_neg c2).symm.trans hM
  by_cases c3 : r1 = 1
  · replace hM := (if_pos c3).symm.trans hM
    refine lv_tableIn (off := 74) (tgt := 80) hx hb dL_goes_6 (by rw [c3]; decide) (by rw [c3]; decide) (by rw [c3]; decide) (by decide) ?_
    exact hB80 x H _ _ hM hP hD hS (lv_sub hl [0, 1, 2, 3] rfl)
  replace hM := (if_neg c3).symm.trans hM
  by_cases c4 : r1 = 2
  · replace hM := (if_pos c4).symm.trans hM
    refine lv_tableIn (off := 74) (tgt := 80) hx hb dL_goes_6 (by rw [c4]; decide) (by rw [c4]; decide) (by rw [c4]; decide) (by decide) ?_
    exact hB80 x H _ _ hM hP hD hS (lv_sub hl [0, 1, 2, 3] rfl)
  replace hM := (if_neg c4).symm.trans hM
  by_cases c5 : r1 = 3
  · replace hM := (if_pos c5).symm.trans hM
    refine lv_tableIn (off := 74) (tgt := 80) hx hb dL_goes_6 (by rw [c5]; decide) (by rw [c5]; decide) (by rw [c5]; decide) (by decide) ?_
    exact hB80 x H _ _ hM hP hD hS (lv_sub hl [0, 1, 2, 3] rfl)
  replace hM := (if_neg c5).symm.trans hM
  by_cases c6 : r1 = 4
  · replace hM := (if_pos c6).symm.trans hM
    refine lv_tableIn (off := 194) (tgt := 200) hx hb dL_goes_6 (by rw [c6]; decide) (by rw [c6]; decide) (by rw [c6]; decide) (by decide) ?_
    refine lv_aload_n hx hb dL_goes_200 rfl (lv_at hl 0 rfl) ?_
    refine lv_iload_n hx hb dL_goes_201 rfl (lv_at hl 3 rfl) ?_
    refine lv_iconst (v := (3 : Int32)) hx hb dL_goes_202 (by decide) ?_
    refine lv_ishr hx hb dL_goes_203 ?_
    refine lv_iconst (v := (2 : Int32)) hx hb dL_goes_204 (by decide) ?_
    obtain ⟨r7, hr7, hM⟩ := ob hM
    refine wk_callP (va_runS (As := [.int (p3 >>> ((3 : Int32) &&& 31)), .int (2 : Int32)]) (rest := [.ref (g 0)]) ⟨hx, hb, hml, hown, hts⟩ (c_L_near l dC dI cI cD cJ kk  (p3 >>> ((3 : Int32) &&& 31)) (2 : Int32) _ hr7 H) (va_cwS 2 hts gL_goes_L_near rfl rfl rfl (by decide +kernel) ⟨Nat.le_of_ble_eq_true rfl, Nat.le_of_ble_eq_true rfl⟩) (wk_preS hG hP hD [] rfl rfl) rfl rfl hl.1 rfl (lv_room (Nat.le_of_ble_eq_true rfl)) dL_goes_205 ⟨Nat.le_of_ble_eq_true rfl, Nat.le_of_ble_eq_true rfl⟩) hS (fun locs hS => ?_)
    refine lv_iload_n hx hb dL_goes_208 rfl (lv_at hl 2 rfl) ?_
    refine lv_bipush (v := (6 : Int32)) hx hb dL_goes_209 (by decide) ?_
    obtain ⟨r8, hr8, hM⟩ := ob hM
    refine wk_callP (va_runS (As := [.int p2, .int (6 : Int32)]) (rest := [.int r7, .ref (g 0)]) ⟨hx, hb, hml, hown, hts⟩ (c_L_near l dC dI cI cD cJ kk  p2 (6 : Int32) _ hr8 H) (va_cwS 2 hts gL_goes_L_near rfl rfl rfl (by decide +kernel) ⟨Nat.le_of_ble_eq_true rfl, Nat.le_of_ble_eq_true rfl⟩) (wk_preS hG hP hD [] rfl rfl) rfl rfl hl.1 rfl (lv_room (Nat.le_of_ble_eq_true rfl)) dL_goes_211 ⟨Nat.le_of_ble_eq_true rfl, Nat.le_of_ble_eq_true rfl⟩) hS (fun locs hS => ?_)
    obtain ⟨r9, hr9, hM⟩ := ob hM
    refine wk_callX (vx_runSX (As := [.ref (g 0), .int r7, .int r8]) (rest := []) ⟨hx, hb, hml, hown, hts⟩ (c_L_cancel l hflags dC dI cI cD cJ kk g x r7 r8 _ hr9 H) (vx_cwSW 3 hts gL_goes_L_cancel rfl rfl rfl (by decide +kernel) ⟨Nat.le_of_ble_eq_true rfl, Nat.le_of_ble_eq_true rfl⟩) (wk_preSL hG hP hD hT hN hS [0, 1, 2, 3, 4, 5, 6, 7, 8, 9, 10, 11, 12, 13, 14, 15, 16, 17, 18, 19, 20, 21, 22, 23, 24, 25, 26, 27, 28, 29, 30, 31, 32, 33, 34, 35, 36, 37] rfl rfl (va_free hD hS hA [0, 1, 2, 3, 4, 5, 6, 7, 8, 9, 10, 11, 12, 13, 14, 15, 16, 17, 18, 19, 20, 21, 22, 23, 24, 25, 26, 27, 28, 29, 30, 31, 32, 33, 34, 35, 36, 37] rfl)) rfl rfl hl.1 rfl (lv_room (Nat.le_of_ble_eq_true rfl)) dL_goes_214 ⟨Nat.le_of_ble_eq_true rfl, Nat.le_of_ble_eq_true rfl⟩) hP hD hS hA [0, 1, 2, 3, 4, 5, 6, 7, 8, 9, 10, 11, 12, 13, 14, 15, 16, 17, 18, 19, 20, 21, 22, 23, 24, 25, 26, 27, 28, 29, 30, 31, 32, 33, 34, 35, 36, 37] [] [0, 1, 2, 3, 4, 5, 6, 7, 8, 9, 10, 11, 12, 13, 14, 15, 16, 17, 18, 19, 20, 21, 22, 23, 24, 25, 26, 27, 28, 29, 30, 31, 32, 33, 34, 35, 36, 37] rfl rfl rfl (by decide) rfl rfl (fun f9 ce q9 H locs ho9 hP hD hS hc9 hv9 hf9 => by cases ho9) (fun ov w1 ho9 H locs hPD hS => ?_)
    cases ho9
    obtain ⟨hP, hD⟩ := hPD (wSys cI cD kk.1 g r9.2) rfl
    replace hM := Option.some.inj hM
    subst hM
    exact wk_retXi hx hb hr hlocks hQ rfl rfl hP hD hS (Nat.le_of_ble_eq_true rfl) (Nat.le_of_ble_eq_true rfl) dL_goes_217
  replace hM := (if_neg c6).symm.trans hM
  by_cases c10 : r1 = 5
  · replace hM := (if_pos c10).symm.trans hM
    refine lv_tableIn (off := 212) (tgt := 218) hx hb dL_goes_6 (by rw [c10]; decide) (by rw [c10]; decide) (by rw [c10]; decide) (by decide) ?_
    refine lv_aload_n hx hb dL_goes_218 rfl (lv_at hl 0 rfl) ?_
    refine lv_iload_n hx hb dL_goes_219 rfl (lv_at hl 2 rfl) ?_
    refine lv_iconst (v := (2 : Int32)) hx hb dL_goes_220 (by decide) ?_
    obtain ⟨r11, hr11, hM⟩ := ob hM
    refine wk_callP (va_runS (As := [.int p2, .int (2 : Int32)]) (rest := [.ref (g 0)]) ⟨hx, hb, hml, hown, hts⟩ (c_L_near l dC dI cI cD cJ kk  p2 (2 : Int32) _ hr11 H) (va_cwS 2 hts gL_goes_L_near rfl rfl rfl (by decide +kernel) ⟨Nat.le_of_ble_eq_true rfl, Nat.le_of_ble_eq_true rfl⟩) (wk_preS hG hP hD [] rfl rfl) rfl rfl hl.1 rfl (lv_room (Nat.le_of_ble_eq_true rfl)) dL_goes_221 ⟨Nat.le_of_ble_eq_true rfl, Nat.le_of_ble_eq_true rfl⟩) hS (fun locs hS => ?_)
    obtain ⟨r12, hr12, hM⟩ := ob hM
    refine wk_callX (vx_runSX (As := [.ref (g 0), .int r11]) (rest := []) ⟨hx, hb, hml, hown, hts⟩ (c_L_wake l hflags dC dI cI cD cJ kk g x r11 _ hr12 H) (vx_cwSW 2 hts gL_goes_L_wake rfl rfl rfl (by decide +kernel) ⟨Nat.le_of_ble_eq_true rfl, Nat.le_of_ble_eq_true rfl⟩) (wk_preSL hG hP hD hT hN hS [0, 1, 2, 3, 4, 5, 6, 7, 8, 9, 10, 11, 12, 13, 14, 15, 16, 17, 18, 19, 20, 21, 22, 23, 24, 25, 26, 27, 28, 29, 30, 31, 32, 33, 34, 35, 36, 37] rfl rfl (va_free hD hS hA [0, 1, 2, 3, 4, 5, 6, 7, 8, 9, 10, 11, 12, 13, 14, 15, 16, 17, 18, 19, 20, 21, 22, 23, 24, 25, 26, 27, 28, 29, 30, 31, 32, 33, 34, 35, 36, 37] rfl)) rfl rfl hl.1 rfl (lv_room (Nat.le_of_ble_eq_true rfl)) dL_goes_224 ⟨Nat.le_of_ble_eq_true rfl, Nat.le_of_ble_eq_true rfl⟩) hP hD hS hA [0, 1, 2, 3, 4, 5, 6, 7, 8, 9, 10, 11, 12, 13, 14, 15, 16, 17, 18, 19, 20, 21, 22, 23, 24, 25, 26, 27, 28, 29, 30, 31, 32, 33, 34, 35, 36, 37] [] [0, 1, 2, 3, 4, 5, 6, 7, 8, 9, 10, 11, 12, 13, 14, 15, 16, 17, 18, 19, 20, 21, 22, 23, 24, 25, 26, 27, 28, 29, 30, 31, 32, 33, 34, 35, 36, 37] rfl rfl rfl (by decide) rfl rfl (fun f9 ce q9 H locs ho9 hP hD hS hc9 hv9 hf9 => by cases ho9) (fun ov w1 ho9 H locs hPD hS => ?_)
    cases ho9
    obtain ⟨hP, hD⟩ := hPD (wSys cI cD kk.1 g r12.2) rfl
    replace hM := Option.some.inj hM
    subst hM
    exact wk_retXi hx hb hr hlocks hQ rfl rfl hP hD hS (Nat.le_of_ble_eq_true rfl) (Nat.le_of_ble_eq_true rfl) dL_goes_227
  replace hM := (if_neg c10).symm.trans hM
  by_cases c13 : r1 = 6
  · replace hM := (if_pos c13).symm.trans hM
    refine lv_tableIn (off := 222) (tgt := 228) hx hb dL_goes_6 (by rw [c13]; decide) (by rw [c13]; decide) (by rw [c13]; decide) (by decide) ?_
    refine lv_aload_n hx hb dL_goes_228 rfl (lv_at hl 0 rfl) ?_
    refine lv_iload_n hx hb dL_goes_229 rfl (lv_at hl 2 rfl) ?_
    refine lv_iconst (v := (2 : Int32)) hx hb dL_goes_230 (by decide) ?_
    obtain ⟨r14, hr14, hM⟩ := ob hM
    refine wk_callP (va_runS (As := [.int p2, .int (2 : Int32)]) (rest := [.ref (g 0)]) ⟨hx, hb, hml, hown, hts⟩ (c_L_near l dC dI cI cD cJ kk  p2 (2 : Int32) _ hr14 H) (va_cwS 2 hts gL_goes_L_near rfl rfl rfl (by decide +kernel) ⟨Nat.le_of_ble_eq_true rfl, Nat.le_of_ble_eq_true rfl⟩) (wk_preS hG hP hD [] rfl rfl) rfl rfl hl.1 rfl (lv_room (Nat.le_of_ble_eq_true rfl)) dL_goes_231 ⟨Nat.le_of_ble_eq_true rfl, Nat.le_of_ble_eq_true rfl⟩) hS (fun locs hS => ?_)
    obtain ⟨r15, hr15, hM⟩ := ob hM
    refine wk_callX (vx_runSX (As := [.ref (g 0), .int r14]) (rest := []) ⟨hx, hb, hml, hown, hts⟩ (c_L_sleep l hflags dC dI cI cD cJ kk g x r14 _ hr15 H) (vx_cwSW 2 hts gL_goes_L_sleep rfl rfl rfl (by decide +kernel) ⟨Nat.le_of_ble_eq_true rfl, Nat.le_of_ble_eq_true rfl⟩) (wk_preSL hG hP hD hT hN hS [0, 1, 2, 3, 4, 5, 6, 7, 8, 9, 10, 11, 12, 13, 14, 15, 16, 17, 18, 19, 20, 21, 22, 23, 24, 25, 26, 27, 28, 29, 30, 31, 32, 33, 34, 35, 36, 37] rfl rfl (va_free hD hS hA [0, 1, 2, 3, 4, 5, 6, 7, 8, 9, 10, 11, 12, 13, 14, 15, 16, 17, 18, 19, 20, 21, 22, 23, 24, 25, 26, 27, 28, 29, 30, 31, 32, 33, 34, 35, 36, 37] rfl)) rfl rfl hl.1 rfl (lv_room (Nat.le_of_ble_eq_true rfl)) dL_goes_234 ⟨Nat.le_of_ble_eq_true rfl, Nat.le_of_ble_eq_true rfl⟩) hP hD hS hA [0, 1, 2, 3, 4, 5, 6, 7, 8, 9, 10, 11, 12, 13, 14, 15, 16, 17, 18, 19, 20, 21, 22, 23, 24, 25, 26, 27, 28, 29, 30, 31, 32, 33, 34, 35, 36, 37] [] [0, 1, 2, 3, 4, 5, 6, 7, 8, 9, 10, 11, 12, 13, 14, 15, 16, 17, 18, 19, 20, 21, 22, 23, 24, 25, 26, 27, 28, 29, 30, 31, 32, 33, 34, 35, 36, 37] rfl rfl rfl (by decide) rfl rfl (fun f9 ce q9 H locs ho9 hP hD hS hc9 hv9 hf9 => by cases ho9) (fun ov w1 ho9 H locs hPD hS => ?_)
    cases ho9
    obtain ⟨hP, hD⟩ := hPD (wSys cI cD kk.1 g r15.2) rfl
    replace hM := Option.some.inj hM
    subst hM
    exact wk_retXi hx hb hr hlocks hQ rfl rfl hP hD hS (Nat.le_of_ble_eq_true rfl) (Nat.le_of_ble_eq_true rfl) dL_goes_237
  replace hM := (if_neg c13).symm.trans hM
  by_cases c16 : r1 = 7
  · replace hM := (if_pos c16).symm.trans hM
    refine lv_tableIn (off := 232) (tgt := 238) hx hb dL_goes_6 (by rw [c16]; decide) (by rw [c16]; decide) (by rw [c16]; decide) (by decide) ?_
    refine lv_iload_n hx hb dL_goes_238 rfl (lv_at hl 3 rfl) ?_
    refine lv_iconst (v := (2 : Int32)) hx hb dL_goes_239 (by decide) ?_
    obtain ⟨r17, hr17, hM⟩ := ob hM
    refine wk_callP (va_runS (As := [.int p3, .int (2 : Int32)]) (rest := []) ⟨hx, hb, hml, hown, hts⟩ (c_L_low l dC dI cI cD cJ kk  p3 (2 : Int32) _ hr17 H) (va_cwS 2 hts gL_goes_L_low rfl rfl rfl (by decide +kernel) ⟨Nat.le_of_ble_eq_true rfl, Nat.le_of_ble_eq_true rfl⟩) (wk_preS hG hP hD [] rfl rfl) rfl rfl hl.1 rfl (lv_room (Nat.le_of_ble_eq_true rfl)) dL_goes_240 ⟨Nat.le_of_ble_eq_true rfl, Nat.le_of_ble_eq_true rfl⟩) hS (fun locs hS => ?_)
    refine lv_if_ne (tgt := 281) hx hb dL_goes_243 (by decide) (fun c18 => ?_) (fun c18 => ?_)
    · replace hM := (if_neg c18).symm.trans hM
      refine lv_aload_n hx hb dL_goes_281 rfl (lv_at hl 0 rfl) ?_
      refine lv_iload_n hx hb dL_goes_282 rfl (lv_at hl 2 rfl) ?_
      refine lv_iconst (v := (2 : Int32)) hx hb dL_goes_283 (by decide) ?_
      obtain ⟨r19, hr19, hM⟩ := ob hM
      refine wk_callP (va_runS (As := [.int p2, .int (2 : Int32)]) (rest := [.ref (g 0)]) ⟨hx, hb, hml, hown, hts⟩ (c_L_near l dC dI cI cD cJ kk  p2 (2 : Int32) _ hr19 H) (va_cwS 2 hts gL_goes_L_near rfl rfl rfl (by decide +kernel) ⟨Nat.le_of_ble_eq_true rfl, Nat.le_of_ble_eq_true rfl⟩) (wk_preS hG hP hD [] rfl rfl) rfl rfl hl.1 rfl (lv_room (Nat.le_of_ble_eq_true rfl)) dL_goes_284 ⟨Nat.le_of_ble_eq_true rfl, Nat.le_of_ble_eq_true rfl⟩) hS (fun locs hS => ?_)
      refine lv_iload_n hx hb dL_goes_287 rfl (lv_at hl 3 rfl) ?_
      refine lv_iconst (v := (2 : Int32)) hx hb dL_goes_288 (by decide) ?_
      refine lv_ishr hx hb dL_goes_289 ?_
      refine lv_iload_n hx hb dL_goes_290 rfl (lv_at hl 3 rfl) ?_
      refine lv_bipush (v := (7 : Int32)) hx hb dL_goes_291 (by decide) ?_
      refine lv_ishr hx hb dL_goes_293 ?_
      refine lv_iconst (v := (3 : Int32)) hx hb dL_goes_294 (by decide) ?_
      obtain ⟨r20, hr20, hM⟩ := ob hM
      refine wk_callP (va_runS (As := [.int (p3 >>> ((7 : Int32) &&& 31)), .int (3 : Int32)]) (rest := [.int (p3 >>> ((2 : Int32) &&& 31)), .int r19, .ref (g 0)]) ⟨hx, hb, hml, hown, hts⟩ (c_L_low l dC dI cI cD cJ kk  (p3 >>> ((7 : Int32) &&& 31)) (3 : Int32) _ hr20 H) (va_cwS 2 hts gL_goes_L_low rfl rfl rfl (by decide +kernel) ⟨Nat.le_of_ble_eq_true rfl, Nat.le_of_ble_eq_true rfl⟩) (wk_preS hG hP hD [] rfl rfl) rfl rfl hl.1 rfl (lv_room (Nat.le_of_ble_eq_true rfl)) dL_goes_295 ⟨Nat.le_of_ble_eq_true rfl, Nat.le_of_ble_eq_true rfl⟩) hS (fun locs hS => ?_)
      refine lv_if_ne (tgt := 306) hx hb dL_goes_298 (by decide) (fun c21 => ?_) (fun c21 => ?_)
      · replace hM := (if_neg c21).symm.trans hM
        refine lv_iconst (v := (4 : Int32)) hx hb dL_goes_306 (by decide) ?_
        exact hB307 r19 (p3 >>> ((2 : Int32) &&& 31)) (4 : Int32) x H _ _ hM hP hD hS (lv_sub hl [] rfl)
      · replace hM := (if_pos c21).symm.trans hM
        refine lv_bipush (v := (21 : Int32)) hx hb dL_goes_301 (by decide) ?_
        refine lv_goto (tgt := 307) hx hb dL_goes_303 (by decide) ?_
        exact hB307 r19 (p3 >>> ((2 : Int32) &&& 31)) (21 : Int32) x H _ _ hM hP hD hS (lv_sub hl [] rfl)
    · replace hM := (if_pos c18).symm.trans hM
      refine lv_aload_n hx hb dL_goes_246 rfl (lv_at hl 0 rfl) ?_
      refine lv_iload_n hx hb dL_goes_247 rfl (lv_at hl 2 rfl) ?_
      refine lv_iconst (v := (2 : Int32)) hx hb dL_goes_248 (by decide) ?_
      obtain ⟨r22, hr22, hM⟩ := ob hM
      refine wk_callP (va_runS (As := [.int p2, .int (2 : Int32)]) (rest := [.ref (g 0)]) ⟨hx, hb, hml, hown, hts⟩ (c_L_near l dC dI cI cD cJ kk  p2 (2 : Int32) _ hr22 H) (va_cwS 2 hts gL_goes_L_near rfl rfl rfl (by decide +kernel) ⟨Nat.le_of_ble_eq_true rfl, Nat.le_of_ble_eq_true rfl⟩) (wk_preS hG hP hD [] rfl rfl) rfl rfl hl.1 rfl (lv_room (Nat.le_of_ble_eq_true rfl)) dL_goes_249 ⟨Nat.le_of_ble_eq_true rfl, Nat.le_of_ble_eq_true rfl⟩) hS (fun locs hS => ?_)
      refine lv_iload_n hx hb dL_goes_252 rfl (lv_at hl 3 rfl) ?_
      refine lv_iconst (v := (2 : Int32)) hx hb dL_goes_253 (by decide) ?_
      refine lv_ishr hx hb dL_goes_254 ?_
      refine lv_iload_n hx hb dL_goes_255 rfl (lv_at hl 3 rfl) ?_
      refine lv_bipush (v := (7 : Int32)) hx hb dL_goes_256 (by decide) ?_
      refine lv_ishr hx hb dL_goes_258 ?_
      refine lv_iconst (v := (3 : Int32)) hx hb dL_goes_259 (by decide) ?_
      obtain ⟨r23, hr23, hM⟩ := ob hM
      refine wk_callP (va_runS (As := [.int (p3 >>> ((7 : Int32) &&& 31)), .int (3 : Int32)]) (rest := [.int (p3 >>> ((2 : Int32) &&& 31)), .int r22, .ref (g 0)]) ⟨hx, hb, hml, hown, hts⟩ (c_L_low l dC dI cI cD cJ kk  (p3 >>> ((7 : Int32) &&& 31)) (3 : Int32) _ hr23 H) (va_cwS 2 hts gL_goes_L_low rfl rfl rfl (by decide +kernel) ⟨Nat.le_of_ble_eq_true rfl, Nat.le_of_ble_eq_true rfl⟩) (wk_preS hG hP hD [] rfl rfl) rfl rfl hl.1 rfl (lv_room (Nat.le_of_ble_eq_true rfl)) dL_goes_260 ⟨Nat.le_of_ble_eq_true rfl, Nat.le_of_ble_eq_true rfl⟩) hS (fun locs hS => ?_)
      refine lv_if_ne (tgt := 271) hx hb dL_goes_263 (by decide) (fun c24 => ?_) (fun c24 => ?_)
      · replace hM := (if_neg c24).symm.trans hM
        refine lv_iconst (v := (3 : Int32)) hx hb dL_goes_271 (by decide) ?_
        exact hB272 r22 (p3 >>> ((2 : Int32) &&& 31)) (3 : Int32) x H _ _ hM hP hD hS (lv_sub hl [] rfl)
      · replace hM := (if_pos c24).symm.trans hM
        refine lv_bipush (v := (21 : Int32)) hx hb dL_goes_266 (by decide) ?_
        refine lv_goto (tgt := 272) hx hb dL_goes_268 (by decide) ?_
        exact hB272 r22 (p3 >>> ((2 : Int32) &&& 31)) (21 : Int32) x H _ _ hM hP hD hS (lv_sub hl [] rfl)
  replace hM := (if_neg c16).symm.trans hM
  by_cases c25 : r1 = 8
  · replace hM := (if_pos c25).symm.trans hM
    refine lv_tableIn (off := 308) (tgt := 314) hx hb dL_goes_6 (by rw [c25]; decide) (by rw [c25]; decide) (by rw [c25]; decide) (by decide) ?_
    exact hB314 x H _ _ hM hP hD hS (lv_sub hl [0, 2, 3] rfl)
  replace hM := (if_neg c25).symm.trans hM
  by_cases c26 : r1 = 9
  · replace hM := (if_pos c26).symm.trans hM
    refine lv_tableIn (off := 308) (tgt := 314) hx hb dL_goes_6 (by rw [c26]; decide) (by rw [c26]; decide) (by rw [c26]; decide) (by decide) ?_
    exact hB314 x H _ _ hM hP hD hS (lv_sub hl [0, 2, 3] rfl)
  replace hM := (if_neg c26).symm.trans hM
  by_cases c27 : r1 = 10
  · replace hM := (if_pos c27).symm.trans hM
    refine lv_tableIn (off := 308) (tgt := 314) hx hb dL_goes_6 (by rw [c27]; decide) (by rw [c27]; decide) (by rw [c27]; decide) (by decide) ?_
    exact hB314 x H _ _ hM hP hD hS (lv_sub hl [0, 2, 3] rfl)
  replace hM := (if_neg c27).symm.trans hM
  by_cases c28 : r1 = 11
  · replace hM := (if_pos c28).symm.trans hM
    refine lv_tableIn (off := 308) (tgt := 314) hx hb dL_goes_6 (by rw [c28]; decide) (by rw [c28]; decide) (by rw [c28]; decide) (by decide) ?_
    exact hB314 x H _ _ hM hP hD hS (lv_sub hl [0, 2, 3] rfl)
  replace hM := (if_neg c28).symm.trans hM
  by_cases c29 : r1 = 12
  · replace hM := (if_pos c29).symm.trans hM
    refine lv_tableIn (off := 325) (tgt := 331) hx hb dL_goes_6 (by rw [c29]; decide) (by rw [c29]; decide) (by rw [c29]; decide) (by decide) ?_
    exact hB331 x H _ _ hM hP hD hS (lv_sub hl [0, 2, 3] rfl)
  replace hM := (if_neg c29).symm.trans hM
  by_cases c30 : r1 = 13
  · replace hM := (if_pos c30).symm.trans hM
    refine lv_tableIn (off := 325) (tgt := 331) hx hb dL_goes_6 (by rw [c30]; decide) (by rw [c30]; decide) (by rw [c30]; decide) (by decide) ?_
    exact hB331 x H _ _ hM hP hD hS (lv_sub hl [0, 2, 3] rfl)
  replace hM := (if_neg c30).symm.trans hM
  by_cases c31 : r1 = 14
  · replace hM := (if_pos c31).symm.trans hM
    refine lv_tableIn (off := 354) (tgt := 360) hx hb dL_goes_6 (by rw [c31]; decide) (by rw [c31]; decide) (by rw [c31]; decide) (by decide) ?_
    refine lv_iload_n hx hb dL_goes_360 rfl (lv_at hl 3 rfl) ?_
    refine lv_bipush (v := (6 : Int32)) hx hb dL_goes_361 (by decide) ?_
    obtain ⟨r32, hr32, hM⟩ := ob hM
    refine wk_callP (va_runS (As := [.int p3, .int (6 : Int32)]) (rest := []) ⟨hx, hb, hml, hown, hts⟩ (c_L_low l dC dI cI cD cJ kk  p3 (6 : Int32) _ hr32 H) (va_cwS 2 hts gL_goes_L_low rfl rfl rfl (by decide +kernel) ⟨Nat.le_of_ble_eq_true rfl, Nat.le_of_ble_eq_true rfl⟩) (wk_preS hG hP hD [] rfl rfl) rfl rfl hl.1 rfl (lv_room (Nat.le_of_ble_eq_true rfl)) dL_goes_363 ⟨Nat.le_of_ble_eq_true rfl, Nat.le_of_ble_eq_true rfl⟩) hS (fun locs hS => ?_)
    refine lv_if_ne (tgt := 381) hx hb dL_goes_366 (by decide) (fun c33 => ?_) (fun c33 => ?_)
    · replace hM := (if_neg c33).symm.trans hM
      refine lv_aload_n hx hb dL_goes_381 rfl (lv_at hl 0 rfl) ?_
      obtain ⟨r34, hr34, hM⟩ := ob hM
      refine wk_callX (vx_runSX (As := [.ref (g 0)]) (rest := []) ⟨hx, hb, hml, hown, hts⟩ (c_L_undo l hflags dC dI cI cD cJ kk g x  _ hr34 H) (vx_cwSW 1 hts gL_goes_L_undo rfl rfl rfl (by decide +kernel) ⟨Nat.le_of_ble_eq_true rfl, Nat.le_of_ble_eq_true rfl⟩) (wk_preSL hG hP hD hT hN hS [0, 1, 2, 3, 4, 5, 6, 7, 8, 9, 10, 11, 12, 13, 14, 15, 16, 17, 18, 19, 20, 21, 22, 23, 24, 25, 26, 27, 28, 29, 30, 31, 32, 33, 34, 35, 36, 37] rfl rfl (va_free hD hS hA [0, 1, 2, 3, 4, 5, 6, 7, 8, 9, 10, 11, 12, 13, 14, 15, 16, 17, 18, 19, 20, 21, 22, 23, 24, 25, 26, 27, 28, 29, 30, 31, 32, 33, 34, 35, 36, 37] rfl)) rfl rfl hl.1 rfl (lv_room (Nat.le_of_ble_eq_true rfl)) dL_goes_382 ⟨Nat.le_of_ble_eq_true rfl, Nat.le_of_ble_eq_true rfl⟩) hP hD hS hA [0, 1, 2, 3, 4, 5, 6, 7, 8, 9, 10, 11, 12, 13, 14, 15, 16, 17, 18, 19, 20, 21, 22, 23, 24, 25, 26, 27, 28, 29, 30, 31, 32, 33, 34, 35, 36, 37] [] [0, 1, 2, 3, 4, 5, 6, 7, 8, 9, 10, 11, 12, 13, 14, 15, 16, 17, 18, 19, 20, 21, 22, 23, 24, 25, 26, 27, 28, 29, 30, 31, 32, 33, 34, 35, 36, 37] rfl rfl rfl (by decide) rfl rfl (fun f9 ce q9 H locs ho9 hP hD hS hc9 hv9 hf9 => by cases ho9) (fun ov w1 ho9 H locs hPD hS => ?_)
      cases ho9
      obtain ⟨hP, hD⟩ := hPD (wSys cI cD kk.1 g r34.2) rfl
      exact hB385 r34.1 r34.2 H _ _ hM hP hD hS (lv_sub hl [] rfl)
    · replace hM := (if_pos c33).symm.trans hM
      refine lv_aload_n hx hb dL_goes_369 rfl (lv_at hl 0 rfl) ?_
      refine lv_iload_n hx hb dL_goes_370 rfl (lv_at hl 2 rfl) ?_
      refine lv_iconst (v := (2 : Int32)) hx hb dL_goes_371 (by decide) ?_
      obtain ⟨r35, hr35, hM⟩ := ob hM
      refine wk_callP (va_runS (As := [.int p2, .int (2 : Int32)]) (rest := [.ref (g 0)]) ⟨hx, hb, hml, hown, hts⟩ (c_L_near l dC dI cI cD cJ kk  p2 (2 : Int32) _ hr35 H) (va_cwS 2 hts gL_goes_L_near rfl rfl rfl (by decide +kernel) ⟨Nat.le_of_ble_eq_true rfl, Nat.le_of_ble_eq_true rfl⟩) (wk_preS hG hP hD [] rfl rfl) rfl rfl hl.1 rfl (lv_room (Nat.le_of_ble_eq_true rfl)) dL_goes_372 ⟨Nat.le_of_ble_eq_true rfl, Nat.le_of_ble_eq_true rfl⟩) hS (fun locs hS => ?_)
      obtain ⟨r36, hr36, hM⟩ := ob hM
      refine wk_callX (vx_runSX (As := [.ref (g 0), .int r35]) (rest := []) ⟨hx, hb, hml, hown, hts⟩ (c_L_lose l hflags dC dI cI cD cJ kk g x r35 _ hr36 H) (vx_cwSW 2 hts gL_goes_L_lose rfl rfl rfl (by decide +kernel) ⟨Nat.le_of_ble_eq_true rfl, Nat.le_of_ble_eq_true rfl⟩) (wk_preSL hG hP hD hT hN hS [0, 1, 2, 3, 4, 5, 6, 7, 8, 9, 10, 11, 12, 13, 14, 15, 16, 17, 18, 19, 20, 21, 22, 23, 24, 25, 26, 27, 28, 29, 30, 31, 32, 33, 34, 35, 36, 37] rfl rfl (va_free hD hS hA [0, 1, 2, 3, 4, 5, 6, 7, 8, 9, 10, 11, 12, 13, 14, 15, 16, 17, 18, 19, 20, 21, 22, 23, 24, 25, 26, 27, 28, 29, 30, 31, 32, 33, 34, 35, 36, 37] rfl)) rfl rfl hl.1 rfl (lv_room (Nat.le_of_ble_eq_true rfl)) dL_goes_375 ⟨Nat.le_of_ble_eq_true rfl, Nat.le_of_ble_eq_true rfl⟩) hP hD hS hA [0, 1, 2, 3, 4, 5, 6, 7, 8, 9, 10, 11, 12, 13, 14, 15, 16, 17, 18, 19, 20, 21, 22, 23, 24, 25, 26, 27, 28, 29, 30, 31, 32, 33, 34, 35, 36, 37] [] [0, 1, 2, 3, 4, 5, 6, 7, 8, 9, 10, 11, 12, 13, 14, 15, 16, 17, 18, 19, 20, 21, 22, 23, 24, 25, 26, 27, 28, 29, 30, 31, 32, 33, 34, 35, 36, 37] rfl rfl rfl (by decide) rfl rfl (fun f9 ce q9 H locs ho9 hP hD hS hc9 hv9 hf9 => by cases ho9) (fun ov w1 ho9 H locs hPD hS => ?_)
      cases ho9
      obtain ⟨hP, hD⟩ := hPD (wSys cI cD kk.1 g r36.2) rfl
      refine lv_goto (tgt := 385) hx hb dL_goes_378 (by decide) ?_
      exact hB385 r36.1 r36.2 H _ _ hM hP hD hS (lv_sub hl [] rfl)
  replace hM := (if_neg c31).symm.trans hM
  have ec2 : (r1).toInt ≠ 0 := fun q => c2 (Int32.toInt_inj.mp (q.trans (by decide)))
  have ec3 : (r1).toInt ≠ 1 := fun q => c3 (Int32.toInt_inj.mp (q.trans (by decide)))
  have ec4 : (r1).toInt ≠ 2 := fun q => c4 (Int32.toInt_inj.mp (q.trans (by decide)))
  have ec5 : (r1).toInt ≠ 3 := fun q => c5 (Int32.toInt_inj.mp (q.trans (by decide)))
  have ec6 : (r1).toInt ≠ 4 := fun q => c6 (Int32.toInt_inj.mp (q.trans (by decide)))
  have ec10 : (r1).toInt ≠ 5 := fun q => c10 (Int32.toInt_inj.mp (q.trans (by decide)))
  have ec13 : (r1).toInt ≠ 6 := fun q => c13 (Int32.toInt_inj.mp (q.trans (by decide)))
  have ec16 : (r1).toInt ≠ 7 := fun q => c16 (Int32.toInt_inj.mp (q.trans (by decide)))
  have ec25 : (r1).toInt ≠ 8 := fun q => c25 (Int32.toInt_inj.mp (q.trans (by decide)))
  have ec26 : (r1).toInt ≠ 9 := fun q => c26 (Int32.toInt_inj.mp (q.trans (by decide)))
  have ec27 : (r1).toInt ≠ 10 := fun q => c27 (Int32.toInt_inj.mp (q.trans (by decide)))
  have ec28 : (r1).toInt ≠ 11 := fun q => c28 (Int32.toInt_inj.mp (q.trans (by decide)))
  have ec29 : (r1).toInt ≠ 12 := fun q => c29 (Int32.toInt_inj.mp (q.trans (by decide)))
  have ec30 : (r1).toInt ≠ 13 := fun q => c30 (Int32.toInt_inj.mp (q.trans (by decide)))
  have ec31 : (r1).toInt ≠ 14 := fun q => c31 (Int32.toInt_inj.mp (q.trans (by decide)))
  refine lv_tableOut (tgt := 386) hx hb dL_goes_6 (by omega) (by decide) ?_
  refine lv_aload_n hx hb dL_goes_386 rfl (lv_at hl 0 rfl) ?_
  refine lv_iload_n hx hb dL_goes_387 rfl (lv_at hl 2 rfl) ?_
  refine lv_sipush (v := (128 : Int32)) hx hb dL_goes_388 (by decide) ?_
  obtain ⟨r37, hr37, hM⟩ := ob hM
  refine wk_callP (va_runS (As := [.int p2, .int (128 : Int32)]) (rest := [.ref (g 0)]) ⟨hx, hb, hml, hown, hts⟩ (c_L_near l dC dI cI cD cJ kk  p2 (128 : Int32) _ hr37 H) (va_cwS 2 hts gL_goes_L_near rfl rfl rfl (by decide +kernel) ⟨Nat.le_of_ble_eq_true rfl, Nat.le_of_ble_eq_true rfl⟩) (wk_preS hG hP hD [] rfl rfl) rfl rfl hl.1 rfl (lv_room (Nat.le_of_ble_eq_true rfl)) dL_goes_391 ⟨Nat.le_of_ble_eq_true rfl, Nat.le_of_ble_eq_true rfl⟩) hS (fun locs hS => ?_)
  obtain ⟨r38, hr38, hM⟩ := ob hM
  refine wk_callX (vx_runSX (As := [.ref (g 0), .int r37]) (rest := []) ⟨hx, hb, hml, hown, hts⟩ (c_L_type l hflags dC dI cI cD cJ kk g x r37 _ hr38 H) (vx_cwSW 2 hts gL_goes_L_type rfl rfl rfl (by decide +kernel) ⟨Nat.le_of_ble_eq_true rfl, Nat.le_of_ble_eq_true rfl⟩) (wk_preSL hG hP hD hT hN hS [0, 1, 2, 3, 4, 5, 6, 7, 8, 9, 10, 11, 12, 13, 14, 15, 16, 17, 18, 19, 20, 21, 22, 23, 24, 25, 26, 27, 28, 29, 30, 31, 32, 33, 34, 35, 36, 37] rfl rfl (va_free hD hS hA [0, 1, 2, 3, 4, 5, 6, 7, 8, 9, 10, 11, 12, 13, 14, 15, 16, 17, 18, 19, 20, 21, 22, 23, 24, 25, 26, 27, 28, 29, 30, 31, 32, 33, 34, 35, 36, 37] rfl)) rfl rfl hl.1 rfl (lv_room (Nat.le_of_ble_eq_true rfl)) dL_goes_394 ⟨Nat.le_of_ble_eq_true rfl, Nat.le_of_ble_eq_true rfl⟩) hP hD hS hA [0, 1, 2, 3, 4, 5, 6, 7, 8, 9, 10, 11, 12, 13, 14, 15, 16, 17, 18, 19, 20, 21, 22, 23, 24, 25, 26, 27, 28, 29, 30, 31, 32, 33, 34, 35, 36, 37] [] [0, 1, 2, 3, 4, 5, 6, 7, 8, 9, 10, 11, 12, 13, 14, 15, 16, 17, 18, 19, 20, 21, 22, 23, 24, 25, 26, 27, 28, 29, 30, 31, 32, 33, 34, 35, 36, 37] rfl rfl rfl (by decide) rfl rfl (fun f9 ce q9 H locs ho9 hP hD hS hc9 hv9 hf9 => by cases ho9) (fun ov w1 ho9 H locs hPD hS => ?_)
  cases ho9
  obtain ⟨hP, hD⟩ := hPD (wSys cI cD kk.1 g r38.2) rfl
  replace hM := Option.some.inj hM
  subst hM
  exact wk_retXi hx hb hr hlocks hQ rfl rfl hP hD hS (Nat.le_of_ble_eq_true rfl) (Nat.le_of_ble_eq_true rfl) dL_goes_397
