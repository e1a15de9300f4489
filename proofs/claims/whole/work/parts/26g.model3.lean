/-! PART 33: the reference, third part -/
set_option maxHeartbeats 4000000 in
set_option maxRecDepth 100000 in
theorem c_X7_here (l : Launch) (dC : Nat → ClassId) (dI : Nat → Nat → Nat) (cI cD cJ : ClassId) (kk : wAd) (g : Nat → Nat) (x : MS) (out : Int32) (hM : M_X7_here x = some out) : CP l yX7_here wsX7_here ({ frames := 0, cells := 0, slots := 0, locals := 0 } : Room) dC dI (wTys cI cD cJ) [.ref (g 0)] (wMod cI g x) (some (.int out)) := by
  refine wk_enterP (cc := cX7_here) (maxL := 1) (ret := (some .int)) (by decide) rfl (Nat.le_of_ble_eq_true rfl) ?_
  intro p e s m below meth c A Q ls hB hP hD hA hQ hl
  obtain ⟨hx, hb, hml, hr, hts, hown, hname, hlocks, hG⟩ := hB
  have hown : s.vm.findClass RX7 = some m.cls := hown
  have hS : va_S A s.heap s.heap [] := va_S.rf
  have hl : lv_has ls 1 [(0, .ref (g 0))] := hl
  have inX7 : ∀ w ∈ wsX70, w ∈ wsX7_here := fun _ h => List.mem_cons_of_mem _ (List.mem_append_right _ h)
  generalize ([] : List Loc) = locs at hS ⊢
  have hB24 : ∀ (w0 : Int32) (locs : List Loc) (ls : Array Slot), M_X7_here_24 x w0 = some out → va_S A s.heap s.heap locs → lv_has ls 1 [] → W p l e ({ frames := 0, cells := 0, slots := 0, locals := 0 } : Room) s m ([.ref (g 0)] : List Value).toArray below meth c s.heap locs 0 0 Q (F0 m 24 ls [.int w0]) := by
    intro w0 locs ls hM hS hl
    unfold M_X7_here_24 at hM
    replace hM := Option.some.inj hM
    subst hM
    exact wk_retPi hx hb hr hlocks hQ rfl rfl hS dX7_here_24
  unfold M_X7_here at hM
  refine lv_aload_n hx hb dX7_here_0 rfl (lv_at hl 0 rfl) ?_
  refine va_get (D := (dC, dI)) (ci := 5) (v := .int (ms_at x)) (C := RX7) (T := TX7) (N := 14) hx hb hts inX7 hown hG.1 hP 0 rfl rfl 11 (by decide) (hts (.fieldLink RX7 161 "WokenDriveModel" "at" "I") (List.mem_of_getElem? (i := 1) rfl)) (fun _ h9 => h9) rfl dX7_here_1 ?_
  refine lv_aload_n hx hb dX7_here_4 rfl (lv_at hl 0 rfl) ?_
  refine va_get (D := (dC, dI)) (ci := 5) (v := .int (ms_length x)) (C := RX7) (T := TX7) (N := 14) hx hb hts inX7 hown hG.1 hP 0 rfl rfl 7 (by decide) (hts (.fieldLink RX7 149 "WokenDriveModel" "length" "I") (List.mem_of_getElem? (i := 2) rfl)) (fun _ h9 => h9) rfl dX7_here_5 ?_
  refine lv_icmp_ge (tgt := 23) hx hb dX7_here_8 (by decide) (fun c1 => ?_) (fun c1 => ?_)
  · replace hM := (if_pos c1).symm.trans hM
    refine lv_iconst (v := (-1 : Int32)) hx hb dX7_here_23 (by decide) ?_
    exact hB24 (-1 : Int32)  _ _ hM hS (lv_sub hl [] rfl)
  · replace hM := (if_neg c1).symm.trans hM
    refine lv_aload_n hx hb dX7_here_11 rfl (lv_at hl 0 rfl) ?_
    refine va_get (D := (dC, dI)) (ci := 5) (v := .ref (g 6)) (C := RX7) (T := TX7) (N := 14) hx hb hts inX7 hown hG.1 hP 0 rfl rfl 5 (by decide) (hts (.fieldLink RX7 25 "WokenDriveModel" "text" "[I") (List.mem_of_getElem? (i := 3) rfl)) (fun _ h9 => h9) rfl dX7_here_12 ?_
    refine lv_aload_n hx hb dX7_here_15 rfl (lv_at hl 0 rfl) ?_
    refine va_get (D := (dC, dI)) (ci := 5) (v := .int (ms_at x)) (C := RX7) (T := TX7) (N := 14) hx hb hts inX7 hown hG.1 hP 0 rfl rfl 11 (by decide) (hts (.fieldLink RX7 161 "WokenDriveModel" "at" "I") (List.mem_of_getElem? (i := 1) rfl)) (fun _ h9 => h9) rfl dX7_here_16 ?_
    obtain ⟨v2, hv2, hM⟩ := ob hM
    refine wk_iald hx hb hG hP 6 0 rfl rfl hv2 dX7_here_19 ?_
    refine lv_goto (tgt := 24) hx hb dX7_here_20 (by decide) ?_
    exact hB24 v2  _ _ hM hS (lv_sub hl [] rfl)
set_option maxHeartbeats 4000000 in
set_option maxRecDepth 100000 in
theorem c_X7_skips (l : Launch) (dC : Nat → ClassId) (dI : Nat → Nat → Nat) (cI cD cJ : ClassId) (kk : wAd) (g : Nat → Nat) (x : MS) (out : MS) (hM : M_X7_skips x = some out) : CM l yX7_skips wsX7_skips ({ frames := 1, cells := 0, slots := 0, locals := 20 } : Room) dC dI (wTys cI cD cJ) [.ref (g 0)] (wMod cI g x) none (wMod cI g out) 0 0 := by
  refine wk_enterM (cc := cX7_skips) (maxL := 1) (ret := none) (by decide) rfl (Nat.le_of_ble_eq_true rfl) ?_
  intro p e s m below meth c A Q ls hB hA hP hD hQ hl
  obtain ⟨hx, hb, hml, hr, hts, hown, hname, hlocks, hG⟩ := hB
  have hown : s.vm.findClass RX7 = some m.cls := hown
  have hS : va_S A s.heap s.heap [] := va_S.rf
  have hl : lv_has ls 1 [(0, .ref (g 0))] := hl
  have inX7 : ∀ w ∈ wsX70, w ∈ wsX7_skips := fun _ h => List.mem_cons_of_mem _ (List.mem_append_right _ h)
  obtain ⟨H, hH⟩ : ∃ z, z = s.heap := ⟨_, rfl⟩
  have hP : va_P (dC, dI) vwCl (wMod cI g x) H := by rw [hH]; exact hP
  have hS : va_S A s.heap H [] := by rw [hH]; exact hS
  refine wk_at hH ?_
  generalize ([] : List Loc) = locs at hS ⊢
  have hL0 : ∀ (n0 : Nat) (y0 : MS) (H : Heap) (locs : List Loc) (ls : Array Slot), lpF (M_X7_skips_0s x) n0 (y0) = some out → va_P (dC, dI) vwCl (wMod cI g y0) H → va_D A (wMod cI g y0) → va_S A s.heap H locs → lv_has ls 1 [(0, .ref (g 0))] → W p l e ({ frames := 1, cells := 0, slots := 0, locals := 20 } : Room) s m ([.ref (g 0)] : List Value).toArray below meth c H locs 0 0 Q (F0 m 0 ls []) := by
    intro n0
    induction n0 with
    | zero => intro y0 H locs ls hM; exact lpF_0 hM
    | succ n0 ih0 =>
      intro y0 H locs ls hM hP hD hS hl
      replace hM : M_X7_skips_0s x (lpF (M_X7_skips_0s x) n0) (y0) = some out := hM
      unfold M_X7_skips_0s at hM
      try dsimp only at hM
      refine lv_aload_n hx hb dX7_skips_0 rfl (lv_at hl 0 rfl) ?_
      obtain ⟨r1, hr1, hM⟩ := ob hM
      refine wk_callP (va_runV (As := []) (rest := []) ⟨hx, hb, hml, hown, hts⟩ (c_X7_here l dC dI cI cD cJ kk g y0 _ hr1 H) (cwV 0 hts gX7_skips_X7_here rfl rfl rfl (by decide +kernel) ⟨Nat.le_of_ble_eq_true rfl, Nat.le_of_ble_eq_true rfl⟩) (wk_preV (ci := 5) (q0 := 0) hG hP hD [0, 1, 2, 3, 4, 5, 6, 7] rfl rfl rfl rfl) rfl rfl hl.1 rfl (lv_room (Nat.le_of_ble_eq_true rfl)) dX7_skips_1 ⟨Nat.le_of_ble_eq_true rfl, Nat.le_of_ble_eq_true rfl⟩) hS (fun locs hS => ?_)
      refine lv_bipush (v := (32 : Int32)) hx hb dX7_skips_4 (by decide) ?_
      refine lv_icmp_ne (tgt := 22) hx hb dX7_skips_6 (by decide) (fun c2 => ?_) (fun c2 => ?_)
      · replace hM := (if_neg c2).symm.trans hM
        replace hM := Option.some.inj hM
        subst hM
        exact wk_retMv hx hb hr hlocks hQ rfl hP hD hS dX7_skips_22
      · replace hM := (if_pos c2).symm.trans hM
        refine lv_aload_n hx hb dX7_skips_9 rfl (lv_at hl 0 rfl) ?_
        refine lv_dup hx hb dX7_skips_10 rfl ?_
        refine va_get (D := (dC, dI)) (ci := 5) (v := .int (ms_at y0)) (C := RX7) (T := TX7) (N := 14) hx hb hts inX7 hown hG.1 hP 0 rfl rfl 11 (by decide) (hts (.fieldLink RX7 161 "WokenDriveModel" "at" "I") (List.mem_of_getElem? (i := 1) rfl)) (fun _ h9 => h9) rfl dX7_skips_11 ?_
        refine lv_iconst (v := (1 : Int32)) hx hb dX7_skips_14 (by decide) ?_
        refine lv_iadd hx hb dX7_skips_15 ?_
        obtain ⟨y_3, hy_3, hM⟩ := tbE hM
        refine va_put (D := (dC, dI)) (ci := 5) (v := .int ((ms_at y0) + (1 : Int32))) (ty := .int) (C := RX7) (T := TX7) (N := 14) hx hb hts inX7 tyX7 tyX7_ok nmX7 hown hG.1 hP hD hS 0 rfl rfl 11 (by decide) (hts (.fieldLink RX7 161 "WokenDriveModel" "at" "I") (List.mem_of_getElem? (i := 1) rfl)) (fun _ h9 => h9) rfl (by decide +kernel) rfl rfl (Nat.le_of_ble_eq_true rfl) dX7_skips_16 (fun H locs hP hD hS => ?_)
        have hP : va_P (dC, dI) vwCl (wMod cI g y_3) H := by rw [hy_3]; exact hP
        have hD : va_D A (wMod cI g y_3) := by rw [hy_3]; exact hD
        refine lv_goto (tgt := 0) hx hb dX7_skips_19 (by decide) ?_
        exact ih0 y_3 H _ _ hM hP hD hS (lv_sub hl [0] rfl)
  unfold M_X7_skips at hM
  exact hL0 400 x H _ _ hM hP hD hS (lv_sub hl [0] rfl)
set_option maxHeartbeats 4000000 in
set_option maxRecDepth 100000 in
theorem c_X7_fails (l : Launch) (dC : Nat → ClassId) (dI : Nat → Nat → Nat) (cI cD cJ : ClassId) (kk : wAd) (g : Nat → Nat) (x : MS) (p1 : Int32) (out : Bool × MS) (hM : M_X7_fails x p1 = out) : CM l yX7_fails wsX7_fails ({ frames := 0, cells := 0, slots := 0, locals := 0 } : Room) dC dI (wTys cI cD cJ) [.ref (g 0), .int p1] (wMod cI g x) (some (.int (zI out.1))) (wMod cI g out.2) 0 0 := by
  refine wk_enterM (cc := cX7_fails) (maxL := 2) (ret := (some .boolean)) (by decide) rfl (Nat.le_of_ble_eq_true rfl) ?_
  intro p e s m below meth c A Q ls hB hA hP hD hQ hl
  obtain ⟨hx, hb, hml, hr, hts, hown, hname, hlocks, hG⟩ := hB
  have hown : s.vm.findClass RX7 = some m.cls := hown
  have hS : va_S A s.heap s.heap [] := va_S.rf
  have hl : lv_has ls 2 [(0, .ref (g 0)), (1, .int p1)] := hl
  have inX7 : ∀ w ∈ wsX70, w ∈ wsX7_fails := fun _ h => List.mem_cons_of_mem _ (List.mem_append_right _ h)
  obtain ⟨H, hH⟩ : ∃ z, z = s.heap := ⟨_, rfl⟩
  have hP : va_P (dC, dI) vwCl (wMod cI g x) H := by rw [hH]; exact hP
  have hS : va_S A s.heap H [] := by rw [hH]; exact hS
  refine wk_at hH ?_
  generalize ([] : List Loc) = locs at hS ⊢
  unfold M_X7_fails at hM
  refine lv_aload_n hx hb dX7_fails_0 rfl (lv_at hl 0 rfl) ?_
  refine lv_iload_n hx hb dX7_fails_1 rfl (lv_at hl 1 rfl) ?_
  obtain ⟨y_1, hy_1, hM⟩ := tbE hM
  refine va_put (D := (dC, dI)) (ci := 5) (v := .int p1) (ty := .int) (C := RX7) (T := TX7) (N := 14) hx hb hts inX7 tyX7 tyX7_ok nmX7 hown hG.1 hP hD hS 0 rfl rfl 13 (by decide) (hts (.fieldLink RX7 167 "WokenDriveModel" "fault" "I") (List.mem_of_getElem? (i := 1) rfl)) (fun _ h9 => h9) rfl (by decide +kernel) rfl rfl (Nat.le_of_ble_eq_true rfl) dX7_fails_2 (fun H locs hP hD hS => ?_)
  have hP : va_P (dC, dI) vwCl (wMod cI g y_1) H := by rw [hy_1]; exact hP
  have hD : va_D A (wMod cI g y_1) := by rw [hy_1]; exact hD
  refine lv_iconst (v := (0 : Int32)) hx hb dX7_fails_5 (by decide) ?_
  subst hM
  exact wk_retMi hx hb hr hlocks hQ rfl rfl hP hD hS dX7_fails_6
set_option maxHeartbeats 4000000 in
set_option maxRecDepth 100000 in
theorem c_X7_reads (l : Launch) (dC : Nat → ClassId) (dI : Nat → Nat → Nat) (cI cD cJ : ClassId) (kk : wAd) (g : Nat → Nat) (x : MS) (p1 : Int32) (p2 : Int32) (p3 : Int32) (p4 : Int32) (p5 : Int32) (p6 : Int32) (out : Bool) (hM : M_X7_reads x p1 p2 p3 p4 p5 p6 = some out) : CP l yX7_reads wsX7_reads ({ frames := 0, cells := 0, slots := 0, locals := 0 } : Room) dC dI (wTys cI cD cJ) [.ref (g 0), .int p1, .int p2, .int p3, .int p4, .int p5, .int p6] (wMod cI g x) (some (.int (zI out))) := by
  refine wk_enterP (cc := cX7_reads) (maxL := 9) (ret := (some .boolean)) (by decide) rfl (Nat.le_of_ble_eq_true rfl) ?_
  intro p e s m below meth c A Q ls hB hP hD hA hQ hl
  obtain ⟨hx, hb, hml, hr, hts, hown, hname, hlocks, hG⟩ := hB
  have hown : s.vm.findClass RX7 = some m.cls := hown
  have hS : va_S A s.heap s.heap [] := va_S.rf
  have hl : lv_has ls 9 [(0, .ref (g 0)), (1, .int p1), (2, .int p2), (3, .int p3), (4, .int p4), (5, .int p5), (6, .int p6)] := hl
  have inX7 : ∀ w ∈ wsX70, w ∈ wsX7_reads := fun _ h => List.mem_cons_of_mem _ (List.mem_append_right _ h)
  generalize ([] : List Loc) = locs at hS ⊢
  have hB132 : ∀ (w0 : Bool) (locs : List Loc) (ls : Array Slot), M_X7_reads_132 x p1 p2 p3 p4 p5 p6 w0 = some out → va_S A s.heap s.heap locs → lv_has ls 9 [] → W p l e ({ frames := 0, cells := 0, slots := 0, locals := 0 } : Room) s m ([.ref (g 0), .int p1, .int p2, .int p3, .int p4, .int p5, .int p6] : List Value).toArray below meth c s.heap locs 0 0 Q (F0 m 132 ls [.int (zI w0)]) := by
    intro w0 locs ls hM hS hl
    unfold M_X7_reads_132 at hM
    replace hM := Option.some.inj hM
    subst hM
    exact wk_retPi hx hb hr hlocks hQ (zI_nar _) rfl hS dX7_reads_132
  have hB127 : ∀  (locs : List Loc) (ls : Array Slot), M_X7_reads_127 x p1 p2 p3 p4 p5 p6 = some out → va_S A s.heap s.heap locs → lv_has ls 9 [] → W p l e ({ frames := 0, cells := 0, slots := 0, locals := 0 } : Room) s m ([.ref (g 0), .int p1, .int p2, .int p3, .int p4, .int p5, .int p6] : List Value).toArray below meth c s.heap locs 0 0 Q (F0 m 127 ls []) := by
    intro  locs ls hM hS hl
    unfold M_X7_reads_127 at hM
    refine lv_iconst (v := (1 : Int32)) hx hb dX7_reads_127 (by decide) ?_
    refine lv_goto (tgt := 132) hx hb dX7_reads_128 (by decide) ?_
    exact hB132 true  _ _ hM hS (lv_sub hl [] rfl)
  have hB131 : ∀  (locs : List Loc) (ls : Array Slot), M_X7_reads_131 x p1 p2 p3 p4 p5 p6 = some out → va_S A s.heap s.heap locs → lv_has ls 9 [] → W p l e ({ frames := 0, cells := 0, slots := 0, locals := 0 } : Room) s m ([.ref (g 0), .int p1, .int p2, .int p3, .int p4, .int p5, .int p6] : List Value).toArray below meth c s.heap locs 0 0 Q (F0 m 131 ls []) := by
    intro  locs ls hM hS hl
    unfold M_X7_reads_131 at hM
    refine lv_iconst (v := (0 : Int32)) hx hb dX7_reads_131 (by decide) ?_
    exact hB132 false  _ _ hM hS (lv_sub hl [] rfl)
  have hB102 : ∀ (w0 : Bool) (locs : List Loc) (ls : Array Slot), M_X7_reads_102 x p1 p2 p3 p4 p5 p6 w0 = some out → va_S A s.heap s.heap locs → lv_has ls 9 [(0, .ref (g 0)), (1, .int p1), (6, .int p6)] → W p l e ({ frames := 0, cells := 0, slots := 0, locals := 0 } : Room) s m ([.ref (g 0), .int p1, .int p2, .int p3, .int p4, .int p5, .int p6] : List Value).toArray below meth c s.heap locs 0 0 Q (F0 m 102 ls [.int (zI w0)]) := by
    intro w0 locs ls hM hS hl
    unfold M_X7_reads_102 at hM
    refine lv_istore (lv' := [(8, .int (zI w0)), (0, .ref (g 0)), (1, .int p1), (6, .int p6)]) hx hb dX7_reads_102 hl (by decide) rfl (fun ls hl => ?_)
    refine lv_iload hx hb dX7_reads_104 (lv_at hl 0 rfl) ?_
    refine lv_if_eq (tgt := 131) hx hb dX7_reads_106 (by decide) (fun c1 => ?_) (fun c1 => ?_)
    · replace hM := (if_pos c1).symm.trans hM
      exact hB131   _ _ hM hS (lv_sub hl [] rfl)
    · replace hM := (if_neg c1).symm.trans hM
      refine lv_iload hx hb dX7_reads_109 (lv_at hl 3 rfl) ?_
      refine lv_if_eq (tgt := 127) hx hb dX7_reads_111 (by decide) (fun c2 => ?_) (fun c2 => ?_)
      · replace hM := (if_pos c2).symm.trans hM
        exact hB127   _ _ hM hS (lv_sub hl [] rfl)
      · replace hM := (if_neg c2).symm.trans hM
        refine lv_aload_n hx hb dX7_reads_114 rfl (lv_at hl 1 rfl) ?_
        refine va_get (D := (dC, dI)) (ci := 5) (v := .ref (g 6)) (C := RX7) (T := TX7) (N := 14) hx hb hts inX7 hown hG.1 hP 0 rfl rfl 5 (by decide) (hts (.fieldLink RX7 25 "WokenDriveModel" "text" "[I") (List.mem_of_getElem? (i := 2) rfl)) (fun _ h9 => h9) rfl dX7_reads_115 ?_
        refine lv_iload_n hx hb dX7_reads_118 rfl (lv_at hl 2 rfl) ?_
        refine lv_iconst (v := (4 : Int32)) hx hb dX7_reads_119 (by decide) ?_
        refine lv_iadd hx hb dX7_reads_120 ?_
        obtain ⟨v3, hv3, hM⟩ := ob hM
        refine wk_iald hx hb hG hP 6 0 rfl rfl hv3 dX7_reads_121 ?_
        refine lv_iload hx hb dX7_reads_122 (lv_at hl 3 rfl) ?_
        refine lv_icmp_ne (tgt := 131) hx hb dX7_reads_124 (by decide) (fun c4 => ?_) (fun c4 => ?_)
        · replace hM := (if_neg c4).symm.trans hM
          exact hB131   _ _ hM hS (lv_sub hl [] rfl)
        · replace hM := (if_pos c4).symm.trans hM
          exact hB127   _ _ hM hS (lv_sub hl [] rfl)
  have hB97 : ∀  (locs : List Loc) (ls : Array Slot), M_X7_reads_97 x p1 p2 p3 p4 p5 p6 = some out → va_S A s.heap s.heap locs → lv_has ls 9 [(0, .ref (g 0)), (1, .int p1), (6, .int p6)] → W p l e ({ frames := 0, cells := 0, slots := 0, locals := 0 } : Room) s m ([.ref (g 0), .int p1, .int p2, .int p3, .int p4, .int p5, .int p6] : List Value).toArray below meth c s.heap locs 0 0 Q (F0 m 97 ls []) := by
    intro  locs ls hM hS hl
    unfold M_X7_reads_97 at hM
    refine lv_iconst (v := (1 : Int32)) hx hb dX7_reads_97 (by decide) ?_
    refine lv_goto (tgt := 102) hx hb dX7_reads_98 (by decide) ?_
    exact hB102 true  _ _ hM hS (lv_sub hl [0, 1, 2] rfl)
  have hB101 : ∀  (locs : List Loc) (ls : Array Slot), M_X7_reads_101 x p1 p2 p3 p4 p5 p6 = some out → va_S A s.heap s.heap locs → lv_has ls 9 [(0, .ref (g 0)), (1, .int p1), (6, .int p6)] → W p l e ({ frames := 0, cells := 0, slots := 0, locals := 0 } : Room) s m ([.ref (g 0), .int p1, .int p2, .int p3, .int p4, .int p5, .int p6] : List Value).toArray below meth c s.heap locs 0 0 Q (F0 m 101 ls []) := by
    intro  locs ls hM hS hl
    unfold M_X7_reads_101 at hM
    refine lv_iconst (v := (0 : Int32)) hx hb dX7_reads_101 (by decide) ?_
    exact hB102 false  _ _ hM hS (lv_sub hl [0, 1, 2] rfl)
  have hB72 : ∀ (w0 : Bool) (locs : List Loc) (ls : Array Slot), M_X7_reads_72 x p1 p2 p3 p4 p5 p6 w0 = some out → va_S A s.heap s.heap locs → lv_has ls 9 [(0, .ref (g 0)), (1, .int p1), (5, .int p5), (6, .int p6)] → W p l e ({ frames := 0, cells := 0, slots := 0, locals := 0 } : Room) s m ([.ref (g 0), .int p1, .int p2, .int p3, .int p4, .int p5, .int p6] : List Value).toArray below meth c s.heap locs 0 0 Q (F0 m 72 ls [.int (zI w0)]) := by
    intro w0 locs ls hM hS hl
    unfold M_X7_reads_72 at hM
    refine lv_istore (lv' := [(8, .int (zI w0)), (0, .ref (g 0)), (1, .int p1), (5, .int p5), (6, .int p6)]) hx hb dX7_reads_72 hl (by decide) rfl (fun ls hl => ?_)
    refine lv_iload hx hb dX7_reads_74 (lv_at hl 0 rfl) ?_
    refine lv_if_eq (tgt := 101) hx hb dX7_reads_76 (by decide) (fun c1 => ?_) (fun c1 => ?_)
    · replace hM := (if_pos c1).symm.trans hM
      exact hB101   _ _ hM hS (lv_sub hl [1, 2, 4] rfl)
    · replace hM := (if_neg c1).symm.trans hM
      refine lv_iload hx hb dX7_reads_79 (lv_at hl 3 rfl) ?_
      refine lv_if_eq (tgt := 97) hx hb dX7_reads_81 (by decide) (fun c2 => ?_) (fun c2 => ?_)
      · replace hM := (if_pos c2).symm.trans hM
        exact hB97   _ _ hM hS (lv_sub hl [1, 2, 4] rfl)
      · replace hM := (if_neg c2).symm.trans hM
        refine lv_aload_n hx hb dX7_reads_84 rfl (lv_at hl 1 rfl) ?_
        refine va_get (D := (dC, dI)) (ci := 5) (v := .ref (g 6)) (C := RX7) (T := TX7) (N := 14) hx hb hts inX7 hown hG.1 hP 0 rfl rfl 5 (by decide) (hts (.fieldLink RX7 25 "WokenDriveModel" "text" "[I") (List.mem_of_getElem? (i := 2) rfl)) (fun _ h9 => h9) rfl dX7_reads_85 ?_
        refine lv_iload_n hx hb dX7_reads_88 rfl (lv_at hl 2 rfl) ?_
        refine lv_iconst (v := (3 : Int32)) hx hb dX7_reads_89 (by decide) ?_
        refine lv_iadd hx hb dX7_reads_90 ?_
        obtain ⟨v3, hv3, hM⟩ := ob hM
        refine wk_iald hx hb hG hP 6 0 rfl rfl hv3 dX7_reads_91 ?_
        refine lv_iload hx hb dX7_reads_92 (lv_at hl 3 rfl) ?_
        refine lv_icmp_ne (tgt := 101) hx hb dX7_reads_94 (by decide) (fun c4 => ?_) (fun c4 => ?_)
        · replace hM := (if_neg c4).symm.trans hM
          exact hB101   _ _ hM hS (lv_sub hl [1, 2, 4] rfl)
        · replace hM := (if_pos c4).symm.trans hM
          exact hB97   _ _ hM hS (lv_sub hl [1, 2, 4] rfl)
  have hB71 : ∀  (locs : List Loc) (ls : Array Slot), M_X7_reads_71 x p1 p2 p3 p4 p5 p6 = some out → va_S A s.heap s.heap locs → lv_has ls 9 [(0, .ref (g 0)), (1, .int p1), (5, .int p5), (6, .int p6)] → W p l e ({ frames := 0, cells := 0, slots := 0, locals := 0 } : Room) s m ([.ref (g 0), .int p1, .int p2, .int p3, .int p4, .int p5, .int p6] : List Value).toArray below meth c s.heap locs 0 0 Q (F0 m 71 ls []) := by
    intro  locs ls hM hS hl
    unfold M_X7_reads_71 at hM
    refine lv_iconst (v := (0 : Int32)) hx hb dX7_reads_71 (by decide) ?_
    exact hB72 false  _ _ hM hS (lv_sub hl [0, 1, 2, 3] rfl)
  have hB29 : ∀ (w0 : Int32) (w1 : Int32) (locs : List Loc) (ls : Array Slot), M_X7_reads_29 x p1 p2 p3 p4 p5 p6 w0 w1 = some out → va_S A s.heap s.heap locs → lv_has ls 9 [(0, .ref (g 0)), (1, .int p1), (2, .int p2), (3, .int p3), (4, .int p4), (5, .int p5), (6, .int p6)] → W p l e ({ frames := 0, cells := 0, slots := 0, locals := 0 } : Room) s m ([.ref (g 0), .int p1, .int p2, .int p3, .int p4, .int p5, .int p6] : List Value).toArray below meth c s.heap locs 0 0 Q (F0 m 29 ls [.int w1, .int w0]) := by
    intro w0 w1 locs ls hM hS hl
    unfold M_X7_reads_29 at hM
    refine lv_icmp_ne (tgt := 71) hx hb dX7_reads_29 (by decide) (fun c1 => ?_) (fun c1 => ?_)
    · replace hM := (if_neg c1).symm.trans hM
      exact hB71   _ _ hM hS (lv_sub hl [0, 1, 5, 6] rfl)
    · replace hM := (if_pos c1).symm.trans hM
      refine lv_aload_n hx hb dX7_reads_32 rfl (lv_at hl 0 rfl) ?_
      refine va_get (D := (dC, dI)) (ci := 5) (v := .ref (g 6)) (C := RX7) (T := TX7) (N := 14) hx hb hts inX7 hown hG.1 hP 0 rfl rfl 5 (by decide) (hts (.fieldLink RX7 25 "WokenDriveModel" "text" "[I") (List.mem_of_getElem? (i := 2) rfl)) (fun _ h9 => h9) rfl dX7_reads_33 ?_
      refine lv_iload_n hx hb dX7_reads_36 rfl (lv_at hl 1 rfl) ?_
      obtain ⟨v2, hv2, hM⟩ := ob hM
      refine wk_iald hx hb hG hP 6 0 rfl rfl hv2 dX7_reads_37 ?_
      refine lv_iload_n hx hb dX7_reads_38 rfl (lv_at hl 2 rfl) ?_
      refine lv_icmp_ne (tgt := 71) hx hb dX7_reads_39 (by decide) (fun c3 => ?_) (fun c3 => ?_)
      · replace hM := (if_neg c3).symm.trans hM
        exact hB71   _ _ hM hS (lv_sub hl [0, 1, 5, 6] rfl)
      · replace hM := (if_pos c3).symm.trans hM
        refine lv_aload_n hx hb dX7_reads_42 rfl (lv_at hl 0 rfl) ?_
        refine va_get (D := (dC, dI)) (ci := 5) (v := .ref (g 6)) (C := RX7) (T := TX7) (N := 14) hx hb hts inX7 hown hG.1 hP 0 rfl rfl 5 (by decide) (hts (.fieldLink RX7 25 "WokenDriveModel" "text" "[I") (List.mem_of_getElem? (i := 2) rfl)) (fun _ h9 => h9) rfl dX7_reads_43 ?_
        refine lv_iload_n hx hb dX7_reads_46 rfl (lv_at hl 1 rfl) ?_
        refine lv_iconst (v := (1 : Int32)) hx hb dX7_reads_47 (by decide) ?_
        refine lv_iadd hx hb dX7_reads_48 ?_
        obtain ⟨v4, hv4, hM⟩ := ob hM
        refine wk_iald hx hb hG hP 6 0 rfl rfl hv4 dX7_reads_49 ?_
        refine lv_iload_n hx hb dX7_reads_50 rfl (lv_at hl 3 rfl) ?_
        refine lv_icmp_ne (tgt := 71) hx hb dX7_reads_51 (by decide) (fun c5 => ?_) (fun c5 => ?_)
        · replace hM := (if_neg c5).symm.trans hM
          exact hB71   _ _ hM hS (lv_sub hl [0, 1, 5, 6] rfl)
        · replace hM := (if_pos c5).symm.trans hM
          refine lv_aload_n hx hb dX7_reads_54 rfl (lv_at hl 0 rfl) ?_
          refine va_get (D := (dC, dI)) (ci := 5) (v := .ref (g 6)) (C := RX7) (T := TX7) (N := 14) hx hb hts inX7 hown hG.1 hP 0 rfl rfl 5 (by decide) (hts (.fieldLink RX7 25 "WokenDriveModel" "text" "[I") (List.mem_of_getElem? (i := 2) rfl)) (fun _ h9 => h9) rfl dX7_reads_55 ?_
          refine lv_iload_n hx hb dX7_reads_58 rfl (lv_at hl 1 rfl) ?_
          refine lv_iconst (v := (2 : Int32)) hx hb dX7_reads_59 (by decide) ?_
          refine lv_iadd hx hb dX7_reads_60 ?_
          obtain ⟨v6, hv6, hM⟩ := ob hM
          refine wk_iald hx hb hG hP 6 0 rfl rfl hv6 dX7_reads_61 ?_
          refine lv_iload hx hb dX7_reads_62 (lv_at hl 4 rfl) ?_
          refine lv_icmp_ne (tgt := 71) hx hb dX7_reads_64 (by decide) (fun c7 => ?_) (fun c7 => ?_)
          · replace hM := (if_neg c7).symm.trans hM
            exact hB71   _ _ hM hS (lv_sub hl [0, 1, 5, 6] rfl)
          · replace hM := (if_pos c7).symm.trans hM
            refine lv_iconst (v := (1 : Int32)) hx hb dX7_reads_67 (by decide) ?_
            refine lv_goto (tgt := 72) hx hb dX7_reads_68 (by decide) ?_
            exact hB72 true  _ _ hM hS (lv_sub hl [0, 1, 5, 6] rfl)
  unfold M_X7_reads at hM
  refine lv_aload_n hx hb dX7_reads_0 rfl (lv_at hl 0 rfl) ?_
  refine va_get (D := (dC, dI)) (ci := 5) (v := .int (ms_at x)) (C := RX7) (T := TX7) (N := 14) hx hb hts inX7 hown hG.1 hP 0 rfl rfl 11 (by decide) (hts (.fieldLink RX7 161 "WokenDriveModel" "at" "I") (List.mem_of_getElem? (i := 1) rfl)) (fun _ h9 => h9) rfl dX7_reads_1 ?_
  refine lv_iload_n hx hb dX7_reads_4 rfl (lv_at hl 1 rfl) ?_
  refine lv_isub hx hb dX7_reads_5 ?_
  refine lv_istore (lv' := [(7, .int ((ms_at x) - p1)), (0, .ref (g 0)), (1, .int p1), (2, .int p2), (3, .int p3), (4, .int p4), (5, .int p5), (6, .int p6)]) hx hb dX7_reads_6 hl (by decide) rfl (fun ls hl => ?_)
  refine lv_iload hx hb dX7_reads_8 (lv_at hl 0 rfl) ?_
  refine lv_iload hx hb dX7_reads_10 (lv_at hl 6 rfl) ?_
  refine lv_if_ne (tgt := 19) hx hb dX7_reads_12 (by decide) (fun c1 => ?_) (fun c1 => ?_)
  · replace hM := (if_neg c1).symm.trans hM
    refine lv_iload hx hb dX7_reads_19 (lv_at hl 7 rfl) ?_
    refine lv_if_ne (tgt := 28) hx hb dX7_reads_21 (by decide) (fun c2 => ?_) (fun c2 => ?_)
    · replace hM := (if_neg c2).symm.trans hM
      refine lv_iconst (v := (5 : Int32)) hx hb dX7_reads_28 (by decide) ?_
      exact hB29 ((ms_at x) - p1) (5 : Int32)  _ _ hM hS (lv_sub hl [1, 2, 3, 4, 5, 6, 7] rfl)
    · replace hM := (if_pos c2).symm.trans hM
      refine lv_iconst (v := (4 : Int32)) hx hb dX7_reads_24 (by decide) ?_
      refine lv_goto (tgt := 29) hx hb dX7_reads_25 (by decide) ?_
      exact hB29 ((ms_at x) - p1) (4 : Int32)  _ _ hM hS (lv_sub hl [1, 2, 3, 4, 5, 6, 7] rfl)
  · replace hM := (if_pos c1).symm.trans hM
    refine lv_iconst (v := (3 : Int32)) hx hb dX7_reads_15 (by decide) ?_
    refine lv_goto (tgt := 29) hx hb dX7_reads_16 (by decide) ?_
    exact hB29 ((ms_at x) - p1) (3 : Int32)  _ _ hM hS (lv_sub hl [1, 2, 3, 4, 5, 6, 7] rfl)
set_option maxHeartbeats 4000000 in
set_option maxRecDepth 100000 in
theorem c_X7_word (l : Launch) (dC : Nat → ClassId) (dI : Nat → Nat → Nat) (cI cD cJ : ClassId) (kk : wAd) (g : Nat → Nat) (x : MS) (p1 : Int32) (out : Int32) (hM : M_X7_word x p1 = some out) : CP l yX7_word wsX7_word ({ frames := 1, cells := 0, slots := 0, locals := 28 } : Room) dC dI (wTys cI cD cJ) [.ref (g 0), .int p1] (wMod cI g x) (some (.int out)) := by
  refine wk_enterP (cc := cX7_word) (maxL := 3) (ret := (some .int)) (by decide) rfl (Nat.le_of_ble_eq_true rfl) ?_
  intro p e s m below meth c A Q ls hB hP hD hA hQ hl
  obtain ⟨hx, hb, hml, hr, hts, hown, hname, hlocks, hG⟩ := hB
  have hown : s.vm.findClass RX7 = some m.cls := hown
  have hS : va_S A s.heap s.heap [] := va_S.rf
  have hl : lv_has ls 3 [(0, .ref (g 0)), (1, .int p1)] := hl
  have inX7 : ∀ w ∈ wsX70, w ∈ wsX7_word := fun _ h => List.mem_cons_of_mem _ (List.mem_append_right _ h)
  generalize ([] : List Loc) = locs at hS ⊢
  have hB102 : ∀ (w0 : Int32) (locs : List Loc) (ls : Array Slot), M_X7_word_102 x p1 w0 = some out → va_S A s.heap s.heap locs → lv_has ls 3 [] → W p l e ({ frames := 1, cells := 0, slots := 0, locals := 28 } : Room) s m ([.ref (g 0), .int p1] : List Value).toArray below meth c s.heap locs 0 0 Q (F0 m 102 ls [.int w0]) := by
    intro w0 locs ls hM hS hl
    unfold M_X7_word_102 at hM
    replace hM := Option.some.inj hM
    subst hM
    exact wk_retPi hx hb hr hlocks hQ rfl rfl hS dX7_word_102
  have hB101 : ∀  (locs : List Loc) (ls : Array Slot), M_X7_word_101 x p1 = some out → va_S A s.heap s.heap locs → lv_has ls 3 [] → W p l e ({ frames := 1, cells := 0, slots := 0, locals := 28 } : Room) s m ([.ref (g 0), .int p1] : List Value).toArray below meth c s.heap locs 0 0 Q (F0 m 101 ls []) := by
    intro  locs ls hM hS hl
    unfold M_X7_word_101 at hM
    refine lv_iconst (v := (-1 : Int32)) hx hb dX7_word_101 (by decide) ?_
    exact hB102 (-1 : Int32)  _ _ hM hS (lv_sub hl [] rfl)
  have hB66 : ∀ (w0 : Bool) (locs : List Loc) (ls : Array Slot), M_X7_word_66 x p1 w0 = some out → va_S A s.heap s.heap locs → lv_has ls 3 [(0, .ref (g 0)), (1, .int p1)] → W p l e ({ frames := 1, cells := 0, slots := 0, locals := 28 } : Room) s m ([.ref (g 0), .int p1] : List Value).toArray below meth c s.heap locs 0 0 Q (F0 m 66 ls [.int (zI w0)]) := by
    intro w0 locs ls hM hS hl
    unfold M_X7_word_66 at hM
    refine lv_istore_n (lv' := [(2, .int (zI w0)), (0, .ref (g 0)), (1, .int p1)]) hx hb dX7_word_66 rfl hl (by decide) rfl (fun ls hl => ?_)
    refine lv_iload_n hx hb dX7_word_67 rfl (lv_at hl 0 rfl) ?_
    refine lv_if_eq (tgt := 101) hx hb dX7_word_68 (by decide) (fun c1 => ?_) (fun c1 => ?_)
    · replace hM := (if_pos c1).symm.trans hM
      exact hB101   _ _ hM hS (lv_sub hl [] rfl)
    · replace hM := (if_neg c1).symm.trans hM
      refine lv_aload_n hx hb dX7_word_71 rfl (lv_at hl 1 rfl) ?_
      refine va_get (D := (dC, dI)) (ci := 5) (v := .ref (g 6)) (C := RX7) (T := TX7) (N := 14) hx hb hts inX7 hown hG.1 hP 0 rfl rfl 5 (by decide) (hts (.fieldLink RX7 25 "WokenDriveModel" "text" "[I") (List.mem_of_getElem? (i := 2) rfl)) (fun _ h9 => h9) rfl dX7_word_72 ?_
      refine lv_iload_n hx hb dX7_word_75 rfl (lv_at hl 2 rfl) ?_
      refine lv_iconst (v := (4 : Int32)) hx hb dX7_word_76 (by decide) ?_
      refine lv_iadd hx hb dX7_word_77 ?_
      obtain ⟨v2, hv2, hM⟩ := ob hM
      refine wk_iald hx hb hG hP 6 0 rfl rfl hv2 dX7_word_78 ?_
      refine lv_bipush (v := (101 : Int32)) hx hb dX7_word_79 (by decide) ?_
      refine lv_icmp_ne (tgt := 101) hx hb dX7_word_81 (by decide) (fun c3 => ?_) (fun c3 => ?_)
      · replace hM := (if_neg c3).symm.trans hM
        exact hB101   _ _ hM hS (lv_sub hl [] rfl)
      · replace hM := (if_pos c3).symm.trans hM
        refine lv_aload_n hx hb dX7_word_84 rfl (lv_at hl 1 rfl) ?_
        refine va_get (D := (dC, dI)) (ci := 5) (v := .ref (g 6)) (C := RX7) (T := TX7) (N := 14) hx hb hts inX7 hown hG.1 hP 0 rfl rfl 5 (by decide) (hts (.fieldLink RX7 25 "WokenDriveModel" "text" "[I") (List.mem_of_getElem? (i := 2) rfl)) (fun _ h9 => h9) rfl dX7_word_85 ?_
        refine lv_iload_n hx hb dX7_word_88 rfl (lv_at hl 2 rfl) ?_
        refine lv_iconst (v := (5 : Int32)) hx hb dX7_word_89 (by decide) ?_
        refine lv_iadd hx hb dX7_word_90 ?_
        obtain ⟨v4, hv4, hM⟩ := ob hM
        refine wk_iald hx hb hG hP 6 0 rfl rfl hv4 dX7_word_91 ?_
        refine lv_bipush (v := (108 : Int32)) hx hb dX7_word_92 (by decide) ?_
        refine lv_icmp_ne (tgt := 101) hx hb dX7_word_94 (by decide) (fun c5 => ?_) (fun c5 => ?_)
        · replace hM := (if_neg c5).symm.trans hM
          exact hB101   _ _ hM hS (lv_sub hl [] rfl)
        · replace hM := (if_pos c5).symm.trans hM
          refine lv_iconst (v := (4 : Int32)) hx hb dX7_word_97 (by decide) ?_
          refine lv_goto (tgt := 102) hx hb dX7_word_98 (by decide) ?_
          exact hB102 (4 : Int32)  _ _ hM hS (lv_sub hl [] rfl)
  have hB65 : ∀  (locs : List Loc) (ls : Array Slot), M_X7_word_65 x p1 = some out → va_S A s.heap s.heap locs → lv_has ls 3 [(0, .ref (g 0)), (1, .int p1)] → W p l e ({ frames := 1, cells := 0, slots := 0, locals := 28 } : Room) s m ([.ref (g 0), .int p1] : List Value).toArray below meth c s.heap locs 0 0 Q (F0 m 65 ls []) := by
    intro  locs ls hM hS hl
    unfold M_X7_word_65 at hM
    refine lv_iconst (v := (0 : Int32)) hx hb dX7_word_65 (by decide) ?_
    exact hB66 false  _ _ hM hS (lv_sub hl [0, 1] rfl)
  have hB299 : ∀ (w0 : Int32) (locs : List Loc) (ls : Array Slot), M_X7_word_299 x p1 w0 = some out → va_S A s.heap s.heap locs → lv_has ls 3 [] → W p l e ({ frames := 1, cells := 0, slots := 0, locals := 28 } : Room) s m ([.ref (g 0), .int p1] : List Value).toArray below meth c s.heap locs 0 0 Q (F0 m 299 ls [.int w0]) := by
    intro w0 locs ls hM hS hl
    unfold M_X7_word_299 at hM
    replace hM := Option.some.inj hM
    subst hM
    exact wk_retPi hx hb hr hlocks hQ rfl rfl hS dX7_word_299
  unfold M_X7_word at hM
  refine lv_aload_n hx hb dX7_word_0 rfl (lv_at hl 0 rfl) ?_
  refine va_get (D := (dC, dI)) (ci := 5) (v := .int (ms_at x)) (C := RX7) (T := TX7) (N := 14) hx hb hts inX7 hown hG.1 hP 0 rfl rfl 11 (by decide) (hts (.fieldLink RX7 161 "WokenDriveModel" "at" "I") (List.mem_of_getElem? (i := 1) rfl)) (fun _ h9 => h9) rfl dX7_word_1 ?_
  refine lv_iload_n hx hb dX7_word_4 rfl (lv_at hl 1 rfl) ?_
  refine lv_isub hx hb dX7_word_5 ?_
  refine lv_bipush (v := (6 : Int32)) hx hb dX7_word_6 (by decide) ?_
  refine lv_icmp_ne (tgt := 103) hx hb dX7_word_8 (by decide) (fun c1 => ?_) (fun c1 => ?_)
  · replace hM := (if_neg c1).symm.trans hM
    refine lv_aload_n hx hb dX7_word_103 rfl (lv_at hl 0 rfl) ?_
    refine lv_iload_n hx hb dX7_word_104 rfl (lv_at hl 1 rfl) ?_
    refine lv_bipush (v := (112 : Int32)) hx hb dX7_word_105 (by decide) ?_
    refine lv_bipush (v := (117 : Int32)) hx hb dX7_word_107 (by decide) ?_
    refine lv_bipush (v := (116 : Int32)) hx hb dX7_word_109 (by decide) ?_
    refine lv_iconst (v := (0 : Int32)) hx hb dX7_word_111 (by decide) ?_
    refine lv_iconst (v := (0 : Int32)) hx hb dX7_word_112 (by decide) ?_
    obtain ⟨r2, hr2, hM⟩ := ob hM
    refine wk_callP (va_runV (As := [.int p1, .int (112 : Int32), .int (117 : Int32), .int (116 : Int32), .int (0 : Int32), .int (0 : Int32)]) (rest := []) ⟨hx, hb, hml, hown, hts⟩ (c_X7_reads l dC dI cI cD cJ kk g x p1 (112 : Int32) (117 : Int32) (116 : Int32) (0 : Int32) (0 : Int32) _ hr2 s.heap) (cwV 6 hts gX7_word_X7_reads rfl rfl rfl (by decide +kernel) ⟨Nat.le_of_ble_eq_true rfl, Nat.le_of_ble_eq_true rfl⟩) (wk_preV (ci := 5) (q0 := 0) hG hP hD [0, 1, 2, 3, 4, 5, 6, 7] rfl rfl rfl rfl) rfl rfl hl.1 rfl (lv_room (Nat.le_of_ble_eq_true rfl)) dX7_word_113 ⟨Nat.le_of_ble_eq_true rfl, Nat.le_of_ble_eq_true rfl⟩) hS (fun locs hS => ?_)
    refine lv_if_eq (tgt := 123) hx hb dX7_word_116 (by decide) (fun c3 => ?_) (fun c3 => ?_)
    · replace hM := (if_pos c3).symm.trans hM
      refine lv_aload_n hx hb dX7_word_123 rfl (lv_at hl 0 rfl) ?_
      refine lv_iload_n hx hb dX7_word_124 rfl (lv_at hl 1 rfl) ?_
      refine lv_bipush (v := (97 : Int32)) hx hb dX7_word_125 (by decide) ?_
      refine lv_bipush (v := (100 : Int32)) hx hb dX7_word_127 (by decide) ?_
      refine lv_bipush (v := (100 : Int32)) hx hb dX7_word_129 (by decide) ?_
      refine lv_iconst (v := (0 : Int32)) hx hb dX7_word_131 (by decide) ?_
      refine lv_iconst (v := (0 : Int32)) hx hb dX7_word_132 (by decide) ?_
      obtain ⟨r4, hr4, hM⟩ := ob hM
      refine wk_callP (va_runV (As := [.int p1, .int (97 : Int32), .int (100 : Int32), .int (100 : Int32), .int (0 : Int32), .int (0 : Int32)]) (rest := []) ⟨hx, hb, hml, hown, hts⟩ (c_X7_reads l dC dI cI cD cJ kk g x p1 (97 : Int32) (100 : Int32) (100 : Int32) (0 : Int32) (0 : Int32) _ hr4 s.heap) (cwV 6 hts gX7_word_X7_reads rfl rfl rfl (by decide +kernel) ⟨Nat.le_of_ble_eq_true rfl, Nat.le_of_ble_eq_true rfl⟩) (wk_preV (ci := 5) (q0 := 0) hG hP hD [0, 1, 2, 3, 4, 5, 6, 7] rfl rfl rfl rfl) rfl rfl hl.1 rfl (lv_room (Nat.le_of_ble_eq_true rfl)) dX7_word_133 ⟨Nat.le_of_ble_eq_true rfl, Nat.le_of_ble_eq_true rfl⟩) hS (fun locs hS => ?_)
      refine lv_if_eq (tgt := 143) hx hb dX7_word_136 (by decide) (fun c5 => ?_) (fun c5 => ?_)
      · replace hM := (if_pos c5).symm.trans hM
        refine lv_aload_n hx hb dX7_word_143 rfl (lv_at hl 0 rfl) ?_
        refine lv_iload_n hx hb dX7_word_144 rfl (lv_at hl 1 rfl) ?_
        refine lv_bipush (v := (99 : Int32)) hx hb dX7_word_145 (by decide) ?_
        refine lv_bipush (v := (111 : Int32)) hx hb dX7_word_147 (by decide) ?_
        refine lv_bipush (v := (112 : Int32)) hx hb dX7_word_149 (by decide) ?_
        refine lv_bipush (v := (121 : Int32)) hx hb dX7_word_151 (by decide) ?_
        refine lv_iconst (v := (0 : Int32)) hx hb dX7_word_153 (by decide) ?_
        obtain ⟨r6, hr6, hM⟩ := ob hM
        refine wk_callP (va_runV (As := [.int p1, .int (99 : Int32), .int (111 : Int32), .int (112 : Int32), .int (121 : Int32), .int (0 : Int32)]) (rest := []) ⟨hx, hb, hml, hown, hts⟩ (c_X7_reads l dC dI cI cD cJ kk g x p1 (99 : Int32) (111 : Int32) (112 : Int32) (121 : Int32) (0 : Int32) _ hr6 s.heap) (cwV 6 hts gX7_word_X7_reads rfl rfl rfl (by decide +kernel) ⟨Nat.le_of_ble_eq_true rfl, Nat.le_of_ble_eq_true rfl⟩) (wk_preV (ci := 5) (q0 := 0) hG hP hD [0, 1, 2, 3, 4, 5, 6, 7] rfl rfl rfl rfl) rfl rfl hl.1 rfl (lv_room (Nat.le_of_ble_eq_true rfl)) dX7_word_154 ⟨Nat.le_of_ble_eq_true rfl, Nat.le_of_ble_eq_true rfl⟩) hS (fun locs hS => ?_)
        refine lv_if_eq (tgt := 164) hx hb dX7_word_157 (by decide) (fun c7 => ?_) (fun c7 => ?_)
        · replace hM := (if_pos c7).symm.trans hM
          refine lv_aload_n hx hb dX7_word_164 rfl (lv_at hl 0 rfl) ?_
          refine lv_iload_n hx hb dX7_word_165 rfl (lv_at hl 1 rfl) ?_
          refine lv_bipush (v := (102 : Int32)) hx hb dX7_word_166 (by decide) ?_
          refine lv_bipush (v := (101 : Int32)) hx hb dX7_word_168 (by decide) ?_
          refine lv_bipush (v := (110 : Int32)) hx hb dX7_word_170 (by decide) ?_
          refine lv_bipush (v := (99 : Int32)) hx hb dX7_word_172 (by decide) ?_
          refine lv_bipush (v := (101 : Int32)) hx hb dX7_word_174 (by decide) ?_
          obtain ⟨r8, hr8, hM⟩ := ob hM
          refine wk_callP (va_runV (As := [.int p1, .int (102 : Int32), .int (101 : Int32), .int (110 : Int32), .int (99 : Int32), .int (101 : Int32)]) (rest := []) ⟨hx, hb, hml, hown, hts⟩ (c_X7_reads l dC dI cI cD cJ kk g x p1 (102 : Int32) (101 : Int32) (110 : Int32) (99 : Int32) (101 : Int32) _ hr8 s.heap) (cwV 6 hts gX7_word_X7_reads rfl rfl rfl (by decide +kernel) ⟨Nat.le_of_ble_eq_true rfl, Nat.le_of_ble_eq_true rfl⟩) (wk_preV (ci := 5) (q0 := 0) hG hP hD [0, 1, 2, 3, 4, 5, 6, 7] rfl rfl rfl rfl) rfl rfl hl.1 rfl (lv_room (Nat.le_of_ble_eq_true rfl)) dX7_word_176 ⟨Nat.le_of_ble_eq_true rfl, Nat.le_of_ble_eq_true rfl⟩) hS (fun locs hS => ?_)
          refine lv_if_eq (tgt := 186) hx hb dX7_word_179 (by decide) (fun c9 => ?_) (fun c9 => ?_)
          · replace hM := (if_pos c9).symm.trans hM
            refine lv_aload_n hx hb dX7_word_186 rfl (lv_at hl 0 rfl) ?_
            refine lv_iload_n hx hb dX7_word_187 rfl (lv_at hl 1 rfl) ?_
            refine lv_bipush (v := (119 : Int32)) hx hb dX7_word_188 (by decide) ?_
            refine lv_bipush (v := (97 : Int32)) hx hb dX7_word_190 (by decide) ?_
            refine lv_bipush (v := (107 : Int32)) hx hb dX7_word_192 (by decide) ?_
            refine lv_bipush (v := (101 : Int32)) hx hb dX7_word_194 (by decide) ?_
            refine lv_iconst (v := (0 : Int32)) hx hb dX7_word_196 (by decide) ?_
            obtain ⟨r10, hr10, hM⟩ := ob hM
            refine wk_callP (va_runV (As := [.int p1, .int (119 : Int32), .int (97 : Int32), .int (107 : Int32), .int (101 : Int32), .int (0 : Int32)]) (rest := []) ⟨hx, hb, hml, hown, hts⟩ (c_X7_reads l dC dI cI cD cJ kk g x p1 (119 : Int32) (97 : Int32) (107 : Int32) (101 : Int32) (0 : Int32) _ hr10 s.heap) (cwV 6 hts gX7_word_X7_reads rfl rfl rfl (by decide +kernel) ⟨Nat.le_of_ble_eq_true rfl, Nat.le_of_ble_eq_true rfl⟩) (wk_preV (ci := 5) (q0 := 0) hG hP hD [0, 1, 2, 3, 4, 5, 6, 7] rfl rfl rfl rfl) rfl rfl hl.1 rfl (lv_room (Nat.le_of_ble_eq_true rfl)) dX7_word_197 ⟨Nat.le_of_ble_eq_true rfl, Nat.le_of_ble_eq_true rfl⟩) hS (fun locs hS => ?_)
            refine lv_if_eq (tgt := 207) hx hb dX7_word_200 (by decide) (fun c11 => ?_) (fun c11 => ?_)
            · replace hM := (if_pos c11).symm.trans hM
              refine lv_aload_n hx hb dX7_word_207 rfl (lv_at hl 0 rfl) ?_
              refine lv_iload_n hx hb dX7_word_208 rfl (lv_at hl 1 rfl) ?_
              refine lv_bipush (v := (115 : Int32)) hx hb dX7_word_209 (by decide) ?_
              refine lv_bipush (v := (108 : Int32)) hx hb dX7_word_211 (by decide) ?_
              refine lv_bipush (v := (101 : Int32)) hx hb dX7_word_213 (by decide) ?_
              refine lv_bipush (v := (101 : Int32)) hx hb dX7_word_215 (by decide) ?_
              refine lv_bipush (v := (112 : Int32)) hx hb dX7_word_217 (by decide) ?_
              obtain ⟨r12, hr12, hM⟩ := ob hM
              refine wk_callP (va_runV (As := [.int p1, .int (115 : Int32), .int (108 : Int32), .int (101 : Int32), .int (101 : Int32), .int (112 : Int32)]) (rest := []) ⟨hx, hb, hml, hown, hts⟩ (c_X7_reads l dC dI cI cD cJ kk g x p1 (115 : Int32) (108 : Int32) (101 : Int32) (101 : Int32) (112 : Int32) _ hr12 s.heap) (cwV 6 hts gX7_word_X7_reads rfl rfl rfl (by decide +kernel) ⟨Nat.le_of_ble_eq_true rfl, Nat.le_of_ble_eq_true rfl⟩) (wk_preV (ci := 5) (q0 := 0) hG hP hD [0, 1, 2, 3, 4, 5, 6, 7] rfl rfl rfl rfl) rfl rfl hl.1 rfl (lv_room (Nat.le_of_ble_eq_true rfl)) dX7_word_219 ⟨Nat.le_of_ble_eq_true rfl, Nat.le_of_ble_eq_true rfl⟩) hS (fun locs hS => ?_)
              refine lv_if_eq (tgt := 230) hx hb dX7_word_222 (by decide) (fun c13 => ?_) (fun c13 => ?_)
              · replace hM := (if_pos c13).symm.trans hM
                refine lv_aload_n hx hb dX7_word_230 rfl (lv_at hl 0 rfl) ?_
                refine lv_iload_n hx hb dX7_word_231 rfl (lv_at hl 1 rfl) ?_
                refine lv_bipush (v := (119 : Int32)) hx hb dX7_word_232 (by decide) ?_
                refine lv_bipush (v := (111 : Int32)) hx hb dX7_word_234 (by decide) ?_
                refine lv_bipush (v := (114 : Int32)) hx hb dX7_word_236 (by decide) ?_
                refine lv_bipush (v := (107 : Int32)) hx hb dX7_word_238 (by decide) ?_
                refine lv_iconst (v := (0 : Int32)) hx hb dX7_word_240 (by decide) ?_
                obtain ⟨r14, hr14, hM⟩ := ob hM
                refine wk_callP (va_runV (As := [.int p1, .int (119 : Int32), .int (111 : Int32), .int (114 : Int32), .int (107 : Int32), .int (0 : Int32)]) (rest := []) ⟨hx, hb, hml, hown, hts⟩ (c_X7_reads l dC dI cI cD cJ kk g x p1 (119 : Int32) (111 : Int32) (114 : Int32) (107 : Int32) (0 : Int32) _ hr14 s.heap) (cwV 6 hts gX7_word_X7_reads rfl rfl rfl (by decide +kernel) ⟨Nat.le_of_ble_eq_true rfl, Nat.le_of_ble_eq_true rfl⟩) (wk_preV (ci := 5) (q0 := 0) hG hP hD [0, 1, 2, 3, 4, 5, 6, 7] rfl rfl rfl rfl) rfl rfl hl.1 rfl (lv_room (Nat.le_of_ble_eq_true rfl)) dX7_word_241 ⟨Nat.le_of_ble_eq_true rfl, Nat.le_of_ble_eq_true rfl⟩) hS (fun locs hS => ?_)
                refine lv_if_eq (tgt := 252) hx hb dX7_word_244 (by decide) (fun c15 => ?_) (fun c15 => ?_)
                · replace hM := (if_pos c15).symm.trans hM
                  refine lv_aload_n hx hb dX7_word_252 rfl (lv_at hl 0 rfl) ?_
                  refine lv_iload_n hx hb dX7_word_253 rfl (lv_at hl 1 rfl) ?_
                  refine lv_bipush (v := (100 : Int32)) hx hb dX7_word_254 (by decide) ?_
                  refine lv_bipush (v := (101 : Int32)) hx hb dX7_word_256 (by decide) ?_
                  refine lv_bipush (v := (108 : Int32)) hx hb dX7_word_258 (by decide) ?_
                  refine lv_bipush (v := (97 : Int32)) hx hb dX7_word_260 (by decide) ?_
                  refine lv_bipush (v := (121 : Int32)) hx hb dX7_word_262 (by decide) ?_
                  obtain ⟨r16, hr16, hM⟩ := ob hM
                  refine wk_callP (va_runV (As := [.int p1, .int (100 : Int32), .int (101 : Int32), .int (108 : Int32), .int (97 : Int32), .int (121 : Int32)]) (rest := []) ⟨hx, hb, hml, hown, hts⟩ (c_X7_reads l dC dI cI cD cJ kk g x p1 (100 : Int32) (101 : Int32) (108 : Int32) (97 : Int32) (121 : Int32) _ hr16 s.heap) (cwV 6 hts gX7_word_X7_reads rfl rfl rfl (by decide +kernel) ⟨Nat.le_of_ble_eq_true rfl, Nat.le_of_ble_eq_true rfl⟩) (wk_preV (ci := 5) (q0 := 0) hG hP hD [0, 1, 2, 3, 4, 5, 6, 7] rfl rfl rfl rfl) rfl rfl hl.1 rfl (lv_room (Nat.le_of_ble_eq_true rfl)) dX7_word_264 ⟨Nat.le_of_ble_eq_true rfl, Nat.le_of_ble_eq_true rfl⟩) hS (fun locs hS => ?_)
                  refine lv_if_eq (tgt := 275) hx hb dX7_word_267 (by decide) (fun c17 => ?_) (fun c17 => ?_)
                  · replace hM := (if_pos c17).symm.trans hM
                    refine lv_aload_n hx hb dX7_word_275 rfl (lv_at hl 0 rfl) ?_
                    refine lv_iload_n hx hb dX7_word_276 rfl (lv_at hl 1 rfl) ?_
                    refine lv_bipush (v := (116 : Int32)) hx hb dX7_word_277 (by decide) ?_
                    refine lv_bipush (v := (105 : Int32)) hx hb dX7_word_279 (by decide) ?_
                    refine lv_bipush (v := (99 : Int32)) hx hb dX7_word_281 (by decide) ?_
                    refine lv_bipush (v := (107 : Int32)) hx hb dX7_word_283 (by decide) ?_
                    refine lv_bipush (v := (115 : Int32)) hx hb dX7_word_285 (by decide) ?_
                    obtain ⟨r18, hr18, hM⟩ := ob hM
                    refine wk_callP (va_runV (As := [.int p1, .int (116 : Int32), .int (105 : Int32), .int (99 : Int32), .int (107 : Int32), .int (115 : Int32)]) (rest := []) ⟨hx, hb, hml, hown, hts⟩ (c_X7_reads l dC dI cI cD cJ kk g x p1 (116 : Int32) (105 : Int32) (99 : Int32) (107 : Int32) (115 : Int32) _ hr18 s.heap) (cwV 6 hts gX7_word_X7_reads rfl rfl rfl (by decide +kernel) ⟨Nat.le_of_ble_eq_true rfl, Nat.le_of_ble_eq_true rfl⟩) (wk_preV (ci := 5) (q0 := 0) hG hP hD [0, 1, 2, 3, 4, 5, 6, 7] rfl rfl rfl rfl) rfl rfl hl.1 rfl (lv_room (Nat.le_of_ble_eq_true rfl)) dX7_word_287 ⟨Nat.le_of_ble_eq_true rfl, Nat.le_of_ble_eq_true rfl⟩) hS (fun locs hS => ?_)
                    refine lv_if_eq (tgt := 298) hx hb dX7_word_290 (by decide) (fun c19 => ?_) (fun c19 => ?_)
                    · replace hM := (if_pos c19).symm.trans hM
                      refine lv_iconst (v := (-1 : Int32)) hx hb dX7_word_298 (by decide) ?_
                      exact hB299 (-1 : Int32)  _ _ hM hS (lv_sub hl [] rfl)
                    · replace hM := (if_neg c19).symm.trans hM
                      refine lv_bipush (v := (9 : Int32)) hx hb dX7_word_293 (by decide) ?_
                      refine lv_goto (tgt := 299) hx hb dX7_word_295 (by decide) ?_
                      exact hB299 (9 : Int32)  _ _ hM hS (lv_sub hl [] rfl)
                  · replace hM := (if_neg c17).symm.trans hM
                    refine lv_bipush (v := (8 : Int32)) hx hb dX7_word_270 (by decide) ?_
                    refine lv_goto (tgt := 299) hx hb dX7_word_272 (by decide) ?_
                    exact hB299 (8 : Int32)  _ _ hM hS (lv_sub hl [] rfl)
                · replace hM := (if_neg c15).symm.trans hM
                  refine lv_bipush (v := (7 : Int32)) hx hb dX7_word_247 (by decide) ?_
                  refine lv_goto (tgt := 299) hx hb dX7_word_249 (by decide) ?_
                  exact hB299 (7 : Int32)  _ _ hM hS (lv_sub hl [] rfl)
              · replace hM := (if_neg c13).symm.trans hM
                refine lv_bipush (v := (6 : Int32)) hx hb dX7_word_225 (by decide) ?_
                refine lv_goto (tgt := 299) hx hb dX7_word_227 (by decide) ?_
                exact hB299 (6 : Int32)  _ _ hM hS (lv_sub hl [] rfl)
            · replace hM := (if_neg c11).symm.trans hM
              refine lv_iconst (v := (5 : Int32)) hx hb dX7_word_203 (by decide) ?_
              refine lv_goto (tgt := 299) hx hb dX7_word_204 (by decide) ?_
              exact hB299 (5 : Int32)  _ _ hM hS (lv_sub hl [] rfl)
          · replace hM := (if_neg c9).symm.trans hM
            refine lv_iconst (v := (3 : Int32)) hx hb dX7_word_182 (by decide) ?_
            refine lv_goto (tgt := 299) hx hb dX7_word_183 (by decide) ?_
            exact hB299 (3 : Int32)  _ _ hM hS (lv_sub hl [] rfl)
        · replace hM := (if_neg c7).symm.trans hM
          refine lv_iconst (v := (2 : Int32)) hx hb dX7_word_160 (by decide) ?_
          refine lv_goto (tgt := 299) hx hb dX7_word_161 (by decide) ?_
          exact hB299 (2 : Int32)  _ _ hM hS (lv_sub hl [] rfl)
      · replace hM := (if_neg c5).symm.trans hM
        refine lv_iconst (v := (1 : Int32)) hx hb dX7_word_139 (by decide) ?_
        refine lv_goto (tgt := 299) hx hb dX7_word_140 (by decide) ?_
        exact hB299 (1 : Int32)  _ _ hM hS (lv_sub hl [] rfl)
    · replace hM := (if_neg c3).symm.trans hM
      refine lv_iconst (v := (0 : Int32)) hx hb dX7_word_119 (by decide) ?_
      refine lv_goto (tgt := 299) hx hb dX7_word_120 (by decide) ?_
      exact hB299 (0 : Int32)  _ _ hM hS (lv_sub hl [] rfl)
  · replace hM := (if_pos c1).symm.trans hM
    refine lv_aload_n hx hb dX7_word_11 rfl (lv_at hl 0 rfl) ?_
    refine va_get (D := (dC, dI)) (ci := 5) (v := .ref (g 6)) (C := RX7) (T := TX7) (N := 14) hx hb hts inX7 hown hG.1 hP 0 rfl rfl 5 (by decide) (hts (.fieldLink RX7 25 "WokenDriveModel" "text" "[I") (List.mem_of_getElem? (i := 2) rfl)) (fun _ h9 => h9) rfl dX7_word_12 ?_
    refine lv_iload_n hx hb dX7_word_15 rfl (lv_at hl 1 rfl) ?_
    obtain ⟨v20, hv20, hM⟩ := ob hM
    refine wk_iald hx hb hG hP 6 0 rfl rfl hv20 dX7_word_16 ?_
    refine lv_bipush (v := (99 : Int32)) hx hb dX7_word_17 (by decide) ?_
    refine lv_icmp_ne (tgt := 65) hx hb dX7_word_19 (by decide) (fun c21 => ?_) (fun c21 => ?_)
    · replace hM := (if_neg c21).symm.trans hM
      exact hB65   _ _ hM hS (lv_sub hl [0, 1] rfl)
    · replace hM := (if_pos c21).symm.trans hM
      refine lv_aload_n hx hb dX7_word_22 rfl (lv_at hl 0 rfl) ?_
      refine va_get (D := (dC, dI)) (ci := 5) (v := .ref (g 6)) (C := RX7) (T := TX7) (N := 14) hx hb hts inX7 hown hG.1 hP 0 rfl rfl 5 (by decide) (hts (.fieldLink RX7 25 "WokenDriveModel" "text" "[I") (List.mem_of_getElem? (i := 2) rfl)) (fun _ h9 => h9) rfl dX7_word_23 ?_
      refine lv_iload_n hx hb dX7_word_26 rfl (lv_at hl 1 rfl) ?_
      refine lv_iconst (v := (1 : Int32)) hx hb dX7_word_27 (by decide) ?_
      refine lv_iadd hx hb dX7_word_28 ?_
      obtain ⟨v22, hv22, hM⟩ := ob hM
      refine wk_iald hx hb hG hP 6 0 rfl rfl hv22 dX7_word_29 ?_
      refine lv_bipush (v := (97 : Int32)) hx hb dX7_word_30 (by decide) ?_
      refine lv_icmp_ne (tgt := 65) hx hb dX7_word_32 (by decide) (fun c23 => ?_) (fun c23 => ?_)
      · replace hM := (if_neg c23).symm.trans hM
        exact hB65   _ _ hM hS (lv_sub hl [0, 1] rfl)
      · replace hM := (if_pos c23).symm.trans hM
        refine lv_aload_n hx hb dX7_word_35 rfl (lv_at hl 0 rfl) ?_
        refine va_get (D := (dC, dI)) (ci := 5) (v := .ref (g 6)) (C := RX7) (T := TX7) (N := 14) hx hb hts inX7 hown hG.1 hP 0 rfl rfl 5 (by decide) (hts (.fieldLink RX7 25 "WokenDriveModel" "text" "[I") (List.mem_of_getElem? (i := 2) rfl)) (fun _ h9 => h9) rfl dX7_word_36 ?_
        refine lv_iload_n hx hb dX7_word_39 rfl (lv_at hl 1 rfl) ?_
        refine lv_iconst (v := (2 : Int32)) hx hb dX7_word_40 (by decide) ?_
        refine lv_iadd hx hb dX7_word_41 ?_
        obtain ⟨v24, hv24, hM⟩ := ob hM
        refine wk_iald hx hb hG hP 6 0 rfl rfl hv24 dX7_word_42 ?_
        refine lv_bipush (v := (110 : Int32)) hx hb dX7_word_43 (by decide) ?_
        refine lv_icmp_ne (tgt := 65) hx hb dX7_word_45 (by decide) (fun c25 => ?_) (fun c25 => ?_)
        · replace hM := (if_neg c25).symm.trans hM
          exact hB65   _ _ hM hS (lv_sub hl [0, 1] rfl)
        · replace hM := (if_pos c25).symm.trans hM
          refine lv_aload_n hx hb dX7_word_48 rfl (lv_at hl 0 rfl) ?_
          refine va_get (D := (dC, dI)) (ci := 5) (v := .ref (g 6)) (C := RX7) (T := TX7) (N := 14) hx hb hts inX7 hown hG.1 hP 0 rfl rfl 5 (by decide) (hts (.fieldLink RX7 25 "WokenDriveModel" "text" "[I") (List.mem_of_getElem? (i := 2) rfl)) (fun _ h9 => h9) rfl dX7_word_49 ?_
          refine lv_iload_n hx hb dX7_word_52 rfl (lv_at hl 1 rfl) ?_
          refine lv_iconst (v := (3 : Int32)) hx hb dX7_word_53 (by decide) ?_
          refine lv_iadd hx hb dX7_word_54 ?_
          obtain ⟨v26, hv26, hM⟩ := ob hM
          refine wk_iald hx hb hG hP 6 0 rfl rfl hv26 dX7_word_55 ?_
          refine lv_bipush (v := (99 : Int32)) hx hb dX7_word_56 (by decide) ?_
          refine lv_icmp_ne (tgt := 65) hx hb dX7_word_58 (by decide) (fun c27 => ?_) (fun c27 => ?_)
          · replace hM := (if_neg c27).symm.trans hM
            exact hB65   _ _ hM hS (lv_sub hl [0, 1] rfl)
          · replace hM := (if_pos c27).symm.trans hM
            refine lv_iconst (v := (1 : Int32)) hx hb dX7_word_61 (by decide) ?_
            refine lv_goto (tgt := 66) hx hb dX7_word_62 (by decide) ?_
            exact hB66 true  _ _ hM hS (lv_sub hl [0, 1] rfl)
set_option maxHeartbeats 4000000 in
set_option maxRecDepth 100000 in
theorem c_X7_numbersOf (l : Launch) (dC : Nat → ClassId) (dI : Nat → Nat → Nat) (cI cD cJ : ClassId) (kk : wAd)  (p0 : Int32) (out : Int32) (hM : M_X7_numbersOf p0 = out) : CP l yX7_numbersOf wsX7_numbersOf ({ frames := 0, cells := 0, slots := 0, locals := 0 } : Room) dC dI (wTys cI cD cJ) [.int p0] ([] : va_W) (some (.int out)) := by
  refine wk_enterP (cc := cX7_numbersOf) (maxL := 1) (ret := (some .int)) (by decide) rfl (Nat.le_of_ble_eq_true rfl) ?_
  intro p e s m below meth c A Q ls hB hP hD hA hQ hl
  obtain ⟨hx, hb, hml, hr, hts, hown, hname, hlocks, hG⟩ := hB
  have hown : s.vm.findClass RX7 = some m.cls := hown
  have hS : va_S A s.heap s.heap [] := va_S.rf
  have hl : lv_has ls 1 [(0, .int p0)] := hl
  generalize ([] : List Loc) = locs at hS ⊢
  have hB31 : ∀ (w0 : Int32) (locs : List Loc) (ls : Array Slot), M_X7_numbersOf_31 p0 w0 = out → va_S A s.heap s.heap locs → lv_has ls 1 [] → W p l e ({ frames := 0, cells := 0, slots := 0, locals := 0 } : Room) s m ([.int p0] : List Value).toArray below meth c s.heap locs 0 0 Q (F0 m 31 ls [.int w0]) := by
    intro w0 locs ls hM hS hl
    unfold M_X7_numbersOf_31 at hM
    subst hM
    exact wk_retPi hx hb hr hlocks hQ rfl rfl hS dX7_numbersOf_31
  have hB26 : ∀  (locs : List Loc) (ls : Array Slot), M_X7_numbersOf_26 p0 = out → va_S A s.heap s.heap locs → lv_has ls 1 [] → W p l e ({ frames := 0, cells := 0, slots := 0, locals := 0 } : Room) s m ([.int p0] : List Value).toArray below meth c s.heap locs 0 0 Q (F0 m 26 ls []) := by
    intro  locs ls hM hS hl
    unfold M_X7_numbersOf_26 at hM
    refine lv_iconst (v := (1 : Int32)) hx hb dX7_numbersOf_26 (by decide) ?_
    refine lv_goto (tgt := 31) hx hb dX7_numbersOf_27 (by decide) ?_
    exact hB31 (1 : Int32)  _ _ hM hS (lv_sub hl [] rfl)
  unfold M_X7_numbersOf at hM
  refine lv_iload_n hx hb dX7_numbersOf_0 rfl (lv_at hl 0 rfl) ?_
  refine lv_iconst (v := (3 : Int32)) hx hb dX7_numbersOf_1 (by decide) ?_
  refine lv_icmp_ge (tgt := 9) hx hb dX7_numbersOf_2 (by decide) (fun c1 => ?_) (fun c1 => ?_)
  · replace hM := (if_pos c1).symm.trans hM
    refine lv_iload_n hx hb dX7_numbersOf_9 rfl (lv_at hl 0 rfl) ?_
    refine lv_iconst (v := (5 : Int32)) hx hb dX7_numbersOf_10 (by decide) ?_
    refine lv_icmp_eq (tgt := 26) hx hb dX7_numbersOf_11 (by decide) (fun c2 => ?_) (fun c2 => ?_)
    · replace hM := (if_pos c2).symm.trans hM
      exact hB26   _ _ hM hS (lv_sub hl [] rfl)
    · replace hM := (if_neg c2).symm.trans hM
      refine lv_iload_n hx hb dX7_numbersOf_14 rfl (lv_at hl 0 rfl) ?_
      refine lv_bipush (v := (6 : Int32)) hx hb dX7_numbersOf_15 (by decide) ?_
      refine lv_icmp_eq (tgt := 26) hx hb dX7_numbersOf_17 (by decide) (fun c3 => ?_) (fun c3 => ?_)
      · replace hM := (if_pos c3).symm.trans hM
        exact hB26   _ _ hM hS (lv_sub hl [] rfl)
      · replace hM := (if_neg c3).symm.trans hM
        refine lv_iload_n hx hb dX7_numbersOf_20 rfl (lv_at hl 0 rfl) ?_
        refine lv_bipush (v := (9 : Int32)) hx hb dX7_numbersOf_21 (by decide) ?_
        refine lv_icmp_ne (tgt := 30) hx hb dX7_numbersOf_23 (by decide) (fun c4 => ?_) (fun c4 => ?_)
        · replace hM := (if_neg c4).symm.trans hM
          refine lv_iconst (v := (2 : Int32)) hx hb dX7_numbersOf_30 (by decide) ?_
          exact hB31 (2 : Int32)  _ _ hM hS (lv_sub hl [] rfl)
        · replace hM := (if_pos c4).symm.trans hM
          exact hB26   _ _ hM hS (lv_sub hl [] rfl)
  · replace hM := (if_neg c1).symm.trans hM
    refine lv_iconst (v := (4 : Int32)) hx hb dX7_numbersOf_5 (by decide) ?_
    refine lv_goto (tgt := 31) hx hb dX7_numbersOf_6 (by decide) ?_
    exact hB31 (4 : Int32)  _ _ hM hS (lv_sub hl [] rfl)
set_option maxHeartbeats 4000000 in
set_option maxRecDepth 100000 in
theorem c_X7_number (l : Launch) (dC : Nat → ClassId) (dI : Nat → Nat → Nat) (cI cD cJ : ClassId) (kk : wAd) (g : Nat → Nat) (x : MS) (p1 : Int32) (out : Bool × MS) (hM : M_X7_number x p1 = some out) : CM l yX7_number wsX7_number ({ frames := 2, cells := 0, slots := 0, locals := 40 } : Room) dC dI (wTys cI cD cJ) [.ref (g 0), .int p1] (wMod cI g x) (some (.int (zI out.1))) (wMod cI g out.2) 0 0 := by
  refine wk_enterM (cc := cX7_number) (maxL := 3) (ret := (some .boolean)) (by decide) rfl (Nat.le_of_ble_eq_true rfl) ?_
  intro p e s m below meth c A Q ls hB hA hP hD hQ hl
  obtain ⟨hx, hb, hml, hr, hts, hown, hname, hlocks, hG⟩ := hB
  have hown : s.vm.findClass RX7 = some m.cls := hown
  have hS : va_S A s.heap s.heap [] := va_S.rf
  have hl : lv_has ls 3 [(0, .ref (g 0)), (1, .int p1)] := hl
  have inX7 : ∀ w ∈ wsX70, w ∈ wsX7_number := fun _ h => List.mem_cons_of_mem _ (List.mem_append_right _ h)
  obtain ⟨H, hH⟩ : ∃ z, z = s.heap := ⟨_, rfl⟩
  have hP : va_P (dC, dI) vwCl (wMod cI g x) H := by rw [hH]; exact hP
  have hS : va_S A s.heap H [] := by rw [hH]; exact hS
  refine wk_at hH ?_
  generalize ([] : List Loc) = locs at hS ⊢
  have hB127 : ∀ (w0 : Bool) (y0 : MS) (H : Heap) (locs : List Loc) (ls : Array Slot), M_X7_number_127 x p1 w0 y0 = some out → va_P (dC, dI) vwCl (wMod cI g y0) H → va_D A (wMod cI g y0) → va_S A s.heap H locs → lv_has ls 3 [] → W p l e ({ frames := 2, cells := 0, slots := 0, locals := 40 } : Room) s m ([.ref (g 0), .int p1] : List Value).toArray below meth c H locs 0 0 Q (F0 m 127 ls [.int (zI w0)]) := by
    intro w0 y0 H locs ls hM hP hD hS hl
    unfold M_X7_number_127 at hM
    replace hM := Option.some.inj hM
    subst hM
    exact wk_retMi hx hb hr hlocks hQ (zI_nar _) rfl hP hD hS dX7_number_127
  have hB122 : ∀ (y0 : MS) (H : Heap) (locs : List Loc) (ls : Array Slot), M_X7_number_122 x p1 y0 = some out → va_P (dC, dI) vwCl (wMod cI g y0) H → va_D A (wMod cI g y0) → va_S A s.heap H locs → lv_has ls 3 [] → W p l e ({ frames := 2, cells := 0, slots := 0, locals := 40 } : Room) s m ([.ref (g 0), .int p1] : List Value).toArray below meth c H locs 0 0 Q (F0 m 122 ls []) := by
    intro y0 H locs ls hM hP hD hS hl
    unfold M_X7_number_122 at hM
    refine lv_iconst (v := (1 : Int32)) hx hb dX7_number_122 (by decide) ?_
    refine lv_goto (tgt := 127) hx hb dX7_number_123 (by decide) ?_
    exact hB127 true y0 H _ _ hM hP hD hS (lv_sub hl [] rfl)
  have hL34 : ∀ (n34 : Nat) (u2 : Int32) (y0 : MS) (H : Heap) (locs : List Loc) (ls : Array Slot), lpF (M_X7_number_34s x p1) n34 (u2, y0) = some out → va_P (dC, dI) vwCl (wMod cI g y0) H → va_D A (wMod cI g y0) → va_S A s.heap H locs → lv_has ls 3 [(0, .ref (g 0)), (1, .int p1), (2, .int u2)] → W p l e ({ frames := 2, cells := 0, slots := 0, locals := 40 } : Room) s m ([.ref (g 0), .int p1] : List Value).toArray below meth c H locs 0 0 Q (F0 m 34 ls []) := by
    intro n34
    induction n34 with
    | zero => intro u2 y0 H locs ls hM; exact lpF_0 hM
    | succ n34 ih34 =>
      intro u2 y0 H locs ls hM hP hD hS hl
      replace hM : M_X7_number_34s x p1 (lpF (M_X7_number_34s x p1) n34) (u2, y0) = some out := hM
      unfold M_X7_number_34s at hM
      try dsimp only at hM
      refine lv_aload_n hx hb dX7_number_34 rfl (lv_at hl 0 rfl) ?_
      obtain ⟨r1, hr1, hM⟩ := ob hM
      refine wk_callP (va_runV (As := []) (rest := []) ⟨hx, hb, hml, hown, hts⟩ (c_X7_here l dC dI cI cD cJ kk g y0 _ hr1 H) (cwV 0 hts gX7_number_X7_here rfl rfl rfl (by decide +kernel) ⟨Nat.le_of_ble_eq_true rfl, Nat.le_of_ble_eq_true rfl⟩) (wk_preV (ci := 5) (q0 := 0) hG hP hD [0, 1, 2, 3, 4, 5, 6, 7] rfl rfl rfl rfl) rfl rfl hl.1 rfl (lv_room (Nat.le_of_ble_eq_true rfl)) dX7_number_35 ⟨Nat.le_of_ble_eq_true rfl, Nat.le_of_ble_eq_true rfl⟩) hS (fun locs hS => ?_)
      refine lv_bipush (v := (48 : Int32)) hx hb dX7_number_38 (by decide) ?_
      refine lv_bipush (v := (57 : Int32)) hx hb dX7_number_40 (by decide) ?_
      refine wk_callP (va_runS (As := [.int r1, .int (48 : Int32), .int (57 : Int32)]) (rest := []) ⟨hx, hb, hml, hown, hts⟩ (c_X7_within l dC dI cI cD cJ kk  r1 (48 : Int32) (57 : Int32) _ rfl H) (va_cwS 3 hts gX7_number_X7_within rfl rfl rfl (by decide +kernel) ⟨Nat.le_of_ble_eq_true rfl, Nat.le_of_ble_eq_true rfl⟩) (wk_preS hG hP hD [] rfl rfl) rfl rfl hl.1 rfl (lv_room (Nat.le_of_ble_eq_true rfl)) dX7_number_42 ⟨Nat.le_of_ble_eq_true rfl, Nat.le_of_ble_eq_true rfl⟩) hS (fun locs hS => ?_)
      refine lv_if_eq (tgt := 103) hx hb dX7_number_45 (by decide) (fun c2 => ?_) (fun c2 => ?_)
      · replace hM := (if_pos c2).symm.trans hM
        refine lv_aload_n hx hb dX7_number_103 rfl (lv_at hl 0 rfl) ?_
        refine va_get (D := (dC, dI)) (ci := 5) (v := .int (ms_at y0)) (C := RX7) (T := TX7) (N := 14) hx hb hts inX7 hown hG.1 hP 0 rfl rfl 11 (by decide) (hts (.fieldLink RX7 161 "WokenDriveModel" "at" "I") (List.mem_of_getElem? (i := 1) rfl)) (fun _ h9 => h9) rfl dX7_number_104 ?_
        refine lv_iload_n hx hb dX7_number_107 rfl (lv_at hl 2 rfl) ?_
        refine lv_icmp_gt (tgt := 122) hx hb dX7_number_108 (by decide) (fun c3 => ?_) (fun c3 => ?_)
        · replace hM := (if_pos c3).symm.trans hM
          exact hB122 y0 H _ _ hM hP hD hS (lv_sub hl [] rfl)
        · replace hM := (if_neg c3).symm.trans hM
          refine lv_aload_n hx hb dX7_number_111 rfl (lv_at hl 0 rfl) ?_
          refine lv_aload_n hx hb dX7_number_112 rfl (lv_at hl 0 rfl) ?_
          refine va_get (D := (dC, dI)) (ci := 5) (v := .int (ms_at y0)) (C := RX7) (T := TX7) (N := 14) hx hb hts inX7 hown hG.1 hP 0 rfl rfl 11 (by decide) (hts (.fieldLink RX7 161 "WokenDriveModel" "at" "I") (List.mem_of_getElem? (i := 1) rfl)) (fun _ h9 => h9) rfl dX7_number_113 ?_
          obtain ⟨r4, hr4, hM⟩ := tbE hM
          refine wk_callM (ws' := (wMod cI g r4.2)) (va_runV (As := [.int (ms_at y0)]) (rest := []) ⟨hx, hb, hml, hown, hts⟩ (c_X7_fails l dC dI cI cD cJ kk g y0 (ms_at y0) _ hr4.symm H) (cwV 1 hts gX7_number_X7_fails rfl rfl rfl (by decide +kernel) ⟨Nat.le_of_ble_eq_true rfl, Nat.le_of_ble_eq_true rfl⟩) (wk_preV (ci := 5) (q0 := 0) hG hP hD [0, 1, 2, 3, 4, 5, 6, 7] rfl rfl rfl rfl) rfl rfl hl.1 rfl (lv_room (Nat.le_of_ble_eq_true rfl)) dX7_number_116 ⟨Nat.le_of_ble_eq_true rfl, Nat.le_of_ble_eq_true rfl⟩) hP hD hS hA [0, 1, 2, 3, 4, 5, 6, 7] [] [0, 1, 2, 3, 4, 5, 6, 7] rfl rfl rfl (by decide) rfl rfl (fun H locs hP hD hS => ?_)
          refine lv_if_eq (tgt := 126) hx hb dX7_number_119 (by decide) (fun c5 => ?_) (fun c5 => ?_)
          · replace hM := (if_pos c5).symm.trans hM
            refine lv_iconst (v := (0 : Int32)) hx hb dX7_number_126 (by decide) ?_
            exact hB127 false r4.2 H _ _ hM hP hD hS (lv_sub hl [] rfl)
          · replace hM := (if_neg c5).symm.trans hM
            exact hB122 r4.2 H _ _ hM hP hD hS (lv_sub hl [] rfl)
      · replace hM := (if_neg c2).symm.trans hM
        refine lv_aload_n hx hb dX7_number_48 rfl (lv_at hl 0 rfl) ?_
        refine va_get (D := (dC, dI)) (ci := 5) (v := .int (ms_at y0)) (C := RX7) (T := TX7) (N := 14) hx hb hts inX7 hown hG.1 hP 0 rfl rfl 11 (by decide) (hts (.fieldLink RX7 161 "WokenDriveModel" "at" "I") (List.mem_of_getElem? (i := 1) rfl)) (fun _ h9 => h9) rfl dX7_number_49 ?_
        refine lv_iload_n hx hb dX7_number_52 rfl (lv_at hl 2 rfl) ?_
        refine lv_isub hx hb dX7_number_53 ?_
        refine lv_iconst (v := (3 : Int32)) hx hb dX7_number_54 (by decide) ?_
        refine lv_icmp_ne (tgt := 67) hx hb dX7_number_55 (by decide) (fun c6 => ?_) (fun c6 => ?_)
        · replace hM := (if_neg c6).symm.trans hM
          refine lv_aload_n hx hb dX7_number_67 rfl (lv_at hl 0 rfl) ?_
          refine va_get (D := (dC, dI)) (ci := 5) (v := .ref (g 7)) (C := RX7) (T := TX7) (N := 14) hx hb hts inX7 hown hG.1 hP 0 rfl rfl 6 (by decide) (hts (.fieldLink RX7 28 "WokenDriveModel" "numbers" "[I") (List.mem_of_getElem? (i := 2) rfl)) (fun _ h9 => h9) rfl dX7_number_68 ?_
          refine lv_iload_n hx hb dX7_number_71 rfl (lv_at hl 1 rfl) ?_
          refine lv_bipush (v := (10 : Int32)) hx hb dX7_number_72 (by decide) ?_
          refine lv_aload_n hx hb dX7_number_74 rfl (lv_at hl 0 rfl) ?_
          refine va_get (D := (dC, dI)) (ci := 5) (v := .ref (g 7)) (C := RX7) (T := TX7) (N := 14) hx hb hts inX7 hown hG.1 hP 0 rfl rfl 6 (by decide) (hts (.fieldLink RX7 28 "WokenDriveModel" "numbers" "[I") (List.mem_of_getElem? (i := 2) rfl)) (fun _ h9 => h9) rfl dX7_number_75 ?_
          refine lv_iload_n hx hb dX7_number_78 rfl (lv_at hl 1 rfl) ?_
          obtain ⟨v7, hv7, hM⟩ := ob hM
          refine wk_iald hx hb hG hP 7 0 rfl rfl hv7 dX7_number_79 ?_
          refine lv_imul hx hb dX7_number_80 ?_
          refine lv_aload_n hx hb dX7_number_81 rfl (lv_at hl 0 rfl) ?_
          obtain ⟨r8, hr8, hM⟩ := ob hM
          refine wk_callP (va_runV (As := []) (rest := [.int ((10 : Int32) * v7), .int p1, .ref (g 7)]) ⟨hx, hb, hml, hown, hts⟩ (c_X7_here l dC dI cI cD cJ kk g y0 _ hr8 H) (cwV 0 hts gX7_number_X7_here rfl rfl rfl (by decide +kernel) ⟨Nat.le_of_ble_eq_true rfl, Nat.le_of_ble_eq_true rfl⟩) (wk_preV (ci := 5) (q0 := 0) hG hP hD [0, 1, 2, 3, 4, 5, 6, 7] rfl rfl rfl rfl) rfl rfl hl.1 rfl (lv_room (Nat.le_of_ble_eq_true rfl)) dX7_number_82 ⟨Nat.le_of_ble_eq_true rfl, Nat.le_of_ble_eq_true rfl⟩) hS (fun locs hS => ?_)
          refine lv_iadd hx hb dX7_number_85 ?_
          refine lv_bipush (v := (48 : Int32)) hx hb dX7_number_86 (by decide) ?_
          refine lv_isub hx hb dX7_number_88 ?_
          obtain ⟨f9, hf9, hM⟩ := ob hM
          refine wk_iast hx hb hG hP hD hS 7 0 rfl rfl hf9 dX7_number_89 (fun H locs hP hD hS => ?_)
          obtain ⟨y_10, hy_10, hM⟩ := tbE hM
          have hP : va_P (dC, dI) vwCl (wMod cI g y_10) H := by rw [hy_10]; exact hP
          have hD : va_D A (wMod cI g y_10) := by rw [hy_10]; exact hD
          refine lv_aload_n hx hb dX7_number_90 rfl (lv_at hl 0 rfl) ?_
          refine lv_dup hx hb dX7_number_91 rfl ?_
          refine va_get (D := (dC, dI)) (ci := 5) (v := .int (ms_at y_10)) (C := RX7) (T := TX7) (N := 14) hx hb hts inX7 hown hG.1 hP 0 rfl rfl 11 (by decide) (hts (.fieldLink RX7 161 "WokenDriveModel" "at" "I") (List.mem_of_getElem? (i := 1) rfl)) (fun _ h9 => h9) rfl dX7_number_92 ?_
          refine lv_iconst (v := (1 : Int32)) hx hb dX7_number_95 (by decide) ?_
          refine lv_iadd hx hb dX7_number_96 ?_
          obtain ⟨y_11, hy_11, hM⟩ := tbE hM
          refine va_put (D := (dC, dI)) (ci := 5) (v := .int ((ms_at y_10) + (1 : Int32))) (ty := .int) (C := RX7) (T := TX7) (N := 14) hx hb hts inX7 tyX7 tyX7_ok nmX7 hown hG.1 hP hD hS 0 rfl rfl 11 (by decide) (hts (.fieldLink RX7 161 "WokenDriveModel" "at" "I") (List.mem_of_getElem? (i := 1) rfl)) (fun _ h9 => h9) rfl (by decide +kernel) rfl rfl (Nat.le_of_ble_eq_true rfl) dX7_number_97 (fun H locs hP hD hS => ?_)
          have hP : va_P (dC, dI) vwCl (wMod cI g y_11) H := by rw [hy_11]; exact hP
          have hD : va_D A (wMod cI g y_11) := by rw [hy_11]; exact hD
          refine lv_goto (tgt := 34) hx hb dX7_number_100 (by decide) ?_
          exact ih34 u2 y_11 H _ _ hM hP hD hS (lv_sub hl [0, 1, 2] rfl)
        · replace hM := (if_pos c6).symm.trans hM
          refine lv_aload_n hx hb dX7_number_58 rfl (lv_at hl 0 rfl) ?_
          refine lv_aload_n hx hb dX7_number_59 rfl (lv_at hl 0 rfl) ?_
          refine va_get (D := (dC, dI)) (ci := 5) (v := .int (ms_at y0)) (C := RX7) (T := TX7) (N := 14) hx hb hts inX7 hown hG.1 hP 0 rfl rfl 11 (by decide) (hts (.fieldLink RX7 161 "WokenDriveModel" "at" "I") (List.mem_of_getElem? (i := 1) rfl)) (fun _ h9 => h9) rfl dX7_number_60 ?_
          obtain ⟨r12, hr12, hM⟩ := tbE hM
          refine wk_callM (ws' := (wMod cI g r12.2)) (va_runV (As := [.int (ms_at y0)]) (rest := []) ⟨hx, hb, hml, hown, hts⟩ (c_X7_fails l dC dI cI cD cJ kk g y0 (ms_at y0) _ hr12.symm H) (cwV 1 hts gX7_number_X7_fails rfl rfl rfl (by decide +kernel) ⟨Nat.le_of_ble_eq_true rfl, Nat.le_of_ble_eq_true rfl⟩) (wk_preV (ci := 5) (q0 := 0) hG hP hD [0, 1, 2, 3, 4, 5, 6, 7] rfl rfl rfl rfl) rfl rfl hl.1 rfl (lv_room (Nat.le_of_ble_eq_true rfl)) dX7_number_63 ⟨Nat.le_of_ble_eq_true rfl, Nat.le_of_ble_eq_true rfl⟩) hP hD hS hA [0, 1, 2, 3, 4, 5, 6, 7] [] [0, 1, 2, 3, 4, 5, 6, 7] rfl rfl rfl (by decide) rfl rfl (fun H locs hP hD hS => ?_)
          replace hM := Option.some.inj hM
          subst hM
          exact wk_retMi hx hb hr hlocks hQ (zI_nar _) rfl hP hD hS dX7_number_66
  unfold M_X7_number at hM
  refine lv_aload_n hx hb dX7_number_0 rfl (lv_at hl 0 rfl) ?_
  obtain ⟨r1, hr1, hM⟩ := ob hM
  refine wk_callP (va_runV (As := []) (rest := []) ⟨hx, hb, hml, hown, hts⟩ (c_X7_here l dC dI cI cD cJ kk g x _ hr1 H) (cwV 0 hts gX7_number_X7_here rfl rfl rfl (by decide +kernel) ⟨Nat.le_of_ble_eq_true rfl, Nat.le_of_ble_eq_true rfl⟩) (wk_preV (ci := 5) (q0 := 0) hG hP hD [0, 1, 2, 3, 4, 5, 6, 7] rfl rfl rfl rfl) rfl rfl hl.1 rfl (lv_room (Nat.le_of_ble_eq_true rfl)) dX7_number_1 ⟨Nat.le_of_ble_eq_true rfl, Nat.le_of_ble_eq_true rfl⟩) hS (fun locs hS => ?_)
  refine lv_bipush (v := (32 : Int32)) hx hb dX7_number_4 (by decide) ?_
  refine lv_icmp_eq (tgt := 18) hx hb dX7_number_6 (by decide) (fun c2 => ?_) (fun c2 => ?_)
  · replace hM := (if_pos c2).symm.trans hM
    refine lv_aload_n hx hb dX7_number_18 rfl (lv_at hl 0 rfl) ?_
    obtain ⟨r3, hr3, hM⟩ := ob hM
    refine wk_callM (ws' := (wMod cI g r3)) (va_runV (As := []) (rest := []) ⟨hx, hb, hml, hown, hts⟩ (c_X7_skips l dC dI cI cD cJ kk g x _ hr3 H) (cwV 0 hts gX7_number_X7_skips rfl rfl rfl (by decide +kernel) ⟨Nat.le_of_ble_eq_true rfl, Nat.le_of_ble_eq_true rfl⟩) (wk_preV (ci := 5) (q0 := 0) hG hP hD [0, 1, 2, 3, 4, 5, 6, 7] rfl rfl rfl rfl) rfl rfl hl.1 rfl (lv_room (Nat.le_of_ble_eq_true rfl)) dX7_number_19 ⟨Nat.le_of_ble_eq_true rfl, Nat.le_of_ble_eq_true rfl⟩) hP hD hS hA [0, 1, 2, 3, 4, 5, 6, 7] [] [0, 1, 2, 3, 4, 5, 6, 7] rfl rfl rfl (by decide) rfl rfl (fun H locs hP hD hS => ?_)
    refine lv_aload_n hx hb dX7_number_22 rfl (lv_at hl 0 rfl) ?_
    refine va_get (D := (dC, dI)) (ci := 5) (v := .int (ms_at r3)) (C := RX7) (T := TX7) (N := 14) hx hb hts inX7 hown hG.1 hP 0 rfl rfl 11 (by decide) (hts (.fieldLink RX7 161 "WokenDriveModel" "at" "I") (List.mem_of_getElem? (i := 1) rfl)) (fun _ h9 => h9) rfl dX7_number_23 ?_
    refine lv_istore_n (lv' := [(2, .int (ms_at r3)), (0, .ref (g 0)), (1, .int p1)]) hx hb dX7_number_26 rfl hl (by decide) rfl (fun ls hl => ?_)
    refine lv_aload_n hx hb dX7_number_27 rfl (lv_at hl 1 rfl) ?_
    refine va_get (D := (dC, dI)) (ci := 5) (v := .ref (g 7)) (C := RX7) (T := TX7) (N := 14) hx hb hts inX7 hown hG.1 hP 0 rfl rfl 6 (by decide) (hts (.fieldLink RX7 28 "WokenDriveModel" "numbers" "[I") (List.mem_of_getElem? (i := 2) rfl)) (fun _ h9 => h9) rfl dX7_number_28 ?_
    refine lv_iload_n hx hb dX7_number_31 rfl (lv_at hl 2 rfl) ?_
    refine lv_iconst (v := (0 : Int32)) hx hb dX7_number_32 (by decide) ?_
    obtain ⟨f4, hf4, hM⟩ := ob hM
    refine wk_iast hx hb hG hP hD hS 7 0 rfl rfl hf4 dX7_number_33 (fun H locs hP hD hS => ?_)
    have hP : va_P (dC, dI) vwCl (wMod cI g (ms_numbers_s r3 f4)) H := hP
    have hD : va_D A (wMod cI g (ms_numbers_s r3 f4)) := hD
    exact hL34 64 (ms_at r3) (ms_numbers_s r3 f4) H _ _ hM hP hD hS (lv_sub hl [1, 2, 0] rfl)
  · replace hM := (if_neg c2).symm.trans hM
    refine lv_aload_n hx hb dX7_number_9 rfl (lv_at hl 0 rfl) ?_
    refine lv_aload_n hx hb dX7_number_10 rfl (lv_at hl 0 rfl) ?_
    refine va_get (D := (dC, dI)) (ci := 5) (v := .int (ms_at x)) (C := RX7) (T := TX7) (N := 14) hx hb hts inX7 hown hG.1 hP 0 rfl rfl 11 (by decide) (hts (.fieldLink RX7 161 "WokenDriveModel" "at" "I") (List.mem_of_getElem? (i := 1) rfl)) (fun _ h9 => h9) rfl dX7_number_11 ?_
    obtain ⟨r5, hr5, hM⟩ := tbE hM
    refine wk_callM (ws' := (wMod cI g r5.2)) (va_runV (As := [.int (ms_at x)]) (rest := []) ⟨hx, hb, hml, hown, hts⟩ (c_X7_fails l dC dI cI cD cJ kk g x (ms_at x) _ hr5.symm H) (cwV 1 hts gX7_number_X7_fails rfl rfl rfl (by decide +kernel) ⟨Nat.le_of_ble_eq_true rfl, Nat.le_of_ble_eq_true rfl⟩) (wk_preV (ci := 5) (q0 := 0) hG hP hD [0, 1, 2, 3, 4, 5, 6, 7] rfl rfl rfl rfl) rfl rfl hl.1 rfl (lv_room (Nat.le_of_ble_eq_true rfl)) dX7_number_14 ⟨Nat.le_of_ble_eq_true rfl, Nat.le_of_ble_eq_true rfl⟩) hP hD hS hA [0, 1, 2, 3, 4, 5, 6, 7] [] [0, 1, 2, 3, 4, 5, 6, 7] rfl rfl rfl (by decide) rfl rfl (fun H locs hP hD hS => ?_)
    replace hM := Option.some.inj hM
    subst hM
    exact wk_retMi hx hb hr hlocks hQ (zI_nar _) rfl hP hD hS dX7_number_17
set_option maxHeartbeats 4000000 in
set_option maxRecDepth 100000 in
theorem c_X7_readsCommand (l : Launch) (dC : Nat → ClassId) (dI : Nat → Nat → Nat) (cI cD cJ : ClassId) (kk : wAd) (g : Nat → Nat) (x : MS) (out : Bool × MS) (hM : M_X7_readsCommand x = some out) : CM l yX7_readsCommand wsX7_readsCommand ({ frames := 3, cells := 0, slots := 0, locals := 62 } : Room) dC dI (wTys cI cD cJ) [.ref (g 0)] (wMod cI g x) (some (.int (zI out.1))) (wMod cI g out.2) 0 0 := by
  refine wk_enterM (cc := cX7_readsCommand) (maxL := 3) (ret := (some .boolean)) (by decide) rfl (Nat.le_of_ble_eq_true rfl) ?_
  intro p e s m below meth c A Q ls hB hA hP hD hQ hl
  obtain ⟨hx, hb, hml, hr, hts, hown, hname, hlocks, hG⟩ := hB
  have hown : s.vm.findClass RX7 = some m.cls := hown
  have hS : va_S A s.heap s.heap [] := va_S.rf
  have hl : lv_has ls 3 [(0, .ref (g 0))] := hl
  have inX7 : ∀ w ∈ wsX70, w ∈ wsX7_readsCommand := fun _ h => List.mem_cons_of_mem _ (List.mem_append_right _ h)
  obtain ⟨H, hH⟩ : ∃ z, z = s.heap := ⟨_, rfl⟩
  have hP : va_P (dC, dI) vwCl (wMod cI g x) H := by rw [hH]; exact hP
  have hS : va_S A s.heap H [] := by rw [hH]; exact hS
  refine wk_at hH ?_
  generalize ([] : List Loc) = locs at hS ⊢
  have hL57 : ∀ (n57 : Nat) (u2 : Int32) (y0 : MS) (H : Heap) (locs : List Loc) (ls : Array Slot), lpF (M_X7_readsCommand_57s x) n57 (u2, y0) = some out → va_P (dC, dI) vwCl (wMod cI g y0) H → va_D A (wMod cI g y0) → va_S A s.heap H locs → lv_has ls 3 [(0, .ref (g 0)), (2, .int u2)] → W p l e ({ frames := 3, cells := 0, slots := 0, locals := 62 } : Room) s m ([.ref (g 0)] : List Value).toArray below meth c H locs 0 0 Q (F0 m 57 ls []) := by
    intro n57
    induction n57 with
    | zero => intro u2 y0 H locs ls hM; exact lpF_0 hM
    | succ n57 ih57 =>
      intro u2 y0 H locs ls hM hP hD hS hl
      replace hM : M_X7_readsCommand_57s x (lpF (M_X7_readsCommand_57s x) n57) (u2, y0) = some out := hM
      unfold M_X7_readsCommand_57s at hM
      try dsimp only at hM
      refine lv_iload_n hx hb dX7_readsCommand_57 rfl (lv_at hl 1 rfl) ?_
      refine lv_aload_n hx hb dX7_readsCommand_58 rfl (lv_at hl 0 rfl) ?_
      refine va_get (D := (dC, dI)) (ci := 5) (v := .int (ms_command y0)) (C := RX7) (T := TX7) (N := 14) hx hb hts inX7 hown hG.1 hP 0 rfl rfl 12 (by decide) (hts (.fieldLink RX7 183 "WokenDriveModel" "command" "I") (List.mem_of_getElem? (i := 2) rfl)) (fun _ h9 => h9) rfl dX7_readsCommand_59 ?_
      refine wk_callP (va_runS (As := [.int (ms_command y0)]) (rest := [.int u2]) ⟨hx, hb, hml, hown, hts⟩ (c_X7_numbersOf l dC dI cI cD cJ kk  (ms_command y0) _ rfl H) (va_cwS 1 hts gX7_readsCommand_X7_numbersOf rfl rfl rfl (by decide +kernel) ⟨Nat.le_of_ble_eq_true rfl, Nat.le_of_ble_eq_true rfl⟩) (wk_preS hG hP hD [] rfl rfl) rfl rfl hl.1 rfl (lv_room (Nat.le_of_ble_eq_true rfl)) dX7_readsCommand_62 ⟨Nat.le_of_ble_eq_true rfl, Nat.le_of_ble_eq_true rfl⟩) hS (fun locs hS => ?_)
      refine lv_icmp_ge (tgt := 84) hx hb dX7_readsCommand_65 (by decide) (fun c1 => ?_) (fun c1 => ?_)
      · replace hM := (if_pos c1).symm.trans hM
        refine lv_aload_n hx hb dX7_readsCommand_84 rfl (lv_at hl 0 rfl) ?_
        obtain ⟨r2, hr2, hM⟩ := ob hM
        refine wk_callM (ws' := (wMod cI g r2)) (va_runV (As := []) (rest := []) ⟨hx, hb, hml, hown, hts⟩ (c_X7_skips l dC dI cI cD cJ kk g y0 _ hr2 H) (cwV 0 hts gX7_readsCommand_X7_skips rfl rfl rfl (by decide +kernel) ⟨Nat.le_of_ble_eq_true rfl, Nat.le_of_ble_eq_true rfl⟩) (wk_preV (ci := 5) (q0 := 0) hG hP hD [0, 1, 2, 3, 4, 5, 6, 7] rfl rfl rfl rfl) rfl rfl hl.1 rfl (lv_room (Nat.le_of_ble_eq_true rfl)) dX7_readsCommand_85 ⟨Nat.le_of_ble_eq_true rfl, Nat.le_of_ble_eq_true rfl⟩) hP hD hS hA [0, 1, 2, 3, 4, 5, 6, 7] [] [0, 1, 2, 3, 4, 5, 6, 7] rfl rfl rfl (by decide) rfl rfl (fun H locs hP hD hS => ?_)
        refine lv_aload_n hx hb dX7_readsCommand_88 rfl (lv_at hl 0 rfl) ?_
        obtain ⟨r3, hr3, hM⟩ := ob hM
        refine wk_callP (va_runV (As := []) (rest := []) ⟨hx, hb, hml, hown, hts⟩ (c_X7_here l dC dI cI cD cJ kk g r2 _ hr3 H) (cwV 0 hts gX7_readsCommand_X7_here rfl rfl rfl (by decide +kernel) ⟨Nat.le_of_ble_eq_true rfl, Nat.le_of_ble_eq_true rfl⟩) (wk_preV (ci := 5) (q0 := 0) hG hP hD [0, 1, 2, 3, 4, 5, 6, 7] rfl rfl rfl rfl) rfl rfl hl.1 rfl (lv_room (Nat.le_of_ble_eq_true rfl)) dX7_readsCommand_89 ⟨Nat.le_of_ble_eq_true rfl, Nat.le_of_ble_eq_true rfl⟩) hS (fun locs hS => ?_)
        refine lv_bipush (v := (59 : Int32)) hx hb dX7_readsCommand_92 (by decide) ?_
        refine lv_icmp_eq (tgt := 106) hx hb dX7_readsCommand_94 (by decide) (fun c4 => ?_) (fun c4 => ?_)
        · replace hM := (if_pos c4).symm.trans hM
          refine lv_aload_n hx hb dX7_readsCommand_106 rfl (lv_at hl 0 rfl) ?_
          refine lv_dup hx hb dX7_readsCommand_107 rfl ?_
          refine va_get (D := (dC, dI)) (ci := 5) (v := .int (ms_at r2)) (C := RX7) (T := TX7) (N := 14) hx hb hts inX7 hown hG.1 hP 0 rfl rfl 11 (by decide) (hts (.fieldLink RX7 161 "WokenDriveModel" "at" "I") (List.mem_of_getElem? (i := 1) rfl)) (fun _ h9 => h9) rfl dX7_readsCommand_108 ?_
          refine lv_iconst (v := (1 : Int32)) hx hb dX7_readsCommand_111 (by decide) ?_
          refine lv_iadd hx hb dX7_readsCommand_112 ?_
          obtain ⟨y_5, hy_5, hM⟩ := tbE hM
          refine va_put (D := (dC, dI)) (ci := 5) (v := .int ((ms_at r2) + (1 : Int32))) (ty := .int) (C := RX7) (T := TX7) (N := 14) hx hb hts inX7 tyX7 tyX7_ok nmX7 hown hG.1 hP hD hS 0 rfl rfl 11 (by decide) (hts (.fieldLink RX7 161 "WokenDriveModel" "at" "I") (List.mem_of_getElem? (i := 1) rfl)) (fun _ h9 => h9) rfl (by decide +kernel) rfl rfl (Nat.le_of_ble_eq_true rfl) dX7_readsCommand_113 (fun H locs hP hD hS => ?_)
          have hP : va_P (dC, dI) vwCl (wMod cI g y_5) H := by rw [hy_5]; exact hP
          have hD : va_D A (wMod cI g y_5) := by rw [hy_5]; exact hD
          refine lv_iconst (v := (1 : Int32)) hx hb dX7_readsCommand_116 (by decide) ?_
          replace hM := Option.some.inj hM
          subst hM
          exact wk_retMi hx hb hr hlocks hQ rfl rfl hP hD hS dX7_readsCommand_117
        · replace hM := (if_neg c4).symm.trans hM
          refine lv_aload_n hx hb dX7_readsCommand_97 rfl (lv_at hl 0 rfl) ?_
          refine lv_aload_n hx hb dX7_readsCommand_98 rfl (lv_at hl 0 rfl) ?_
          refine va_get (D := (dC, dI)) (ci := 5) (v := .int (ms_at r2)) (C := RX7) (T := TX7) (N := 14) hx hb hts inX7 hown hG.1 hP 0 rfl rfl 11 (by decide) (hts (.fieldLink RX7 161 "WokenDriveModel" "at" "I") (List.mem_of_getElem? (i := 1) rfl)) (fun _ h9 => h9) rfl dX7_readsCommand_99 ?_
          obtain ⟨r6, hr6, hM⟩ := tbE hM
          refine wk_callM (ws' := (wMod cI g r6.2)) (va_runV (As := [.int (ms_at r2)]) (rest := []) ⟨hx, hb, hml, hown, hts⟩ (c_X7_fails l dC dI cI cD cJ kk g r2 (ms_at r2) _ hr6.symm H) (cwV 1 hts gX7_readsCommand_X7_fails rfl rfl rfl (by decide +kernel) ⟨Nat.le_of_ble_eq_true rfl, Nat.le_of_ble_eq_true rfl⟩) (wk_preV (ci := 5) (q0 := 0) hG hP hD [0, 1, 2, 3, 4, 5, 6, 7] rfl rfl rfl rfl) rfl rfl hl.1 rfl (lv_room (Nat.le_of_ble_eq_true rfl)) dX7_readsCommand_102 ⟨Nat.le_of_ble_eq_true rfl, Nat.le_of_ble_eq_true rfl⟩) hP hD hS hA [0, 1, 2, 3, 4, 5, 6, 7] [] [0, 1, 2, 3, 4, 5, 6, 7] rfl rfl rfl (by decide) rfl rfl (fun H locs hP hD hS => ?_)
          replace hM := Option.some.inj hM
          subst hM
          exact wk_retMi hx hb hr hlocks hQ (zI_nar _) rfl hP hD hS dX7_readsCommand_105
      · replace hM := (if_neg c1).symm.trans hM
        refine lv_aload_n hx hb dX7_readsCommand_68 rfl (lv_at hl 0 rfl) ?_
        refine lv_iload_n hx hb dX7_readsCommand_69 rfl (lv_at hl 1 rfl) ?_
        obtain ⟨r7, hr7, hM⟩ := ob hM
        refine wk_callM (ws' := (wMod cI g r7.2)) (va_runV (As := [.int u2]) (rest := []) ⟨hx, hb, hml, hown, hts⟩ (c_X7_number l dC dI cI cD cJ kk g y0 u2 _ hr7 H) (cwV 1 hts gX7_readsCommand_X7_number rfl rfl rfl (by decide +kernel) ⟨Nat.le_of_ble_eq_true rfl, Nat.le_of_ble_eq_true rfl⟩) (wk_preV (ci := 5) (q0 := 0) hG hP hD [0, 1, 2, 3, 4, 5, 6, 7] rfl rfl rfl rfl) rfl rfl hl.1 rfl (lv_room (Nat.le_of_ble_eq_true rfl)) dX7_readsCommand_70 ⟨Nat.le_of_ble_eq_true rfl, Nat.le_of_ble_eq_true rfl⟩) hP hD hS hA [0, 1, 2, 3, 4, 5, 6, 7] [] [0, 1, 2, 3, 4, 5, 6, 7] rfl rfl rfl (by decide) rfl rfl (fun H locs hP hD hS => ?_)
        refine lv_if_ne (tgt := 78) hx hb dX7_readsCommand_73 (by decide) (fun c8 => ?_) (fun c8 => ?_)
        · replace hM := (if_neg c8).symm.trans hM
          refine lv_iinc (v := (u2 + 1)) (lv' := [(2, .int (u2 + 1)), (0, .ref (g 0))]) hx hb dX7_readsCommand_78 hl (k := 1) rfl rfl (by decide) rfl (fun ls hl => ?_)
          refine lv_goto (tgt := 57) hx hb dX7_readsCommand_81 (by decide) ?_
          exact ih57 (u2 + 1) r7.2 H _ _ hM hP hD hS (lv_sub hl [1, 0] rfl)
        · replace hM := (if_pos c8).symm.trans hM
          refine lv_iconst (v := (0 : Int32)) hx hb dX7_readsCommand_76 (by decide) ?_
          replace hM := Option.some.inj hM
          subst hM
          exact wk_retMi hx hb hr hlocks hQ rfl rfl hP hD hS dX7_readsCommand_77
  have hL5 : ∀ (n5 : Nat) (u1 : Int32) (y0 : MS) (H : Heap) (locs : List Loc) (ls : Array Slot), lpF (M_X7_readsCommand_5s x) n5 (u1, y0) = some out → va_P (dC, dI) vwCl (wMod cI g y0) H → va_D A (wMod cI g y0) → va_S A s.heap H locs → lv_has ls 3 [(0, .ref (g 0)), (1, .int u1)] → W p l e ({ frames := 3, cells := 0, slots := 0, locals := 62 } : Room) s m ([.ref (g 0)] : List Value).toArray below meth c H locs 0 0 Q (F0 m 5 ls []) := by
    intro n5
    induction n5 with
    | zero => intro u1 y0 H locs ls hM; exact lpF_0 hM
    | succ n5 ih5 =>
      intro u1 y0 H locs ls hM hP hD hS hl
      replace hM : M_X7_readsCommand_5s x (lpF (M_X7_readsCommand_5s x) n5) (u1, y0) = some out := hM
      unfold M_X7_readsCommand_5s at hM
      try dsimp only at hM
      refine lv_aload_n hx hb dX7_readsCommand_5 rfl (lv_at hl 0 rfl) ?_
      obtain ⟨r1, hr1, hM⟩ := ob hM
      refine wk_callP (va_runV (As := []) (rest := []) ⟨hx, hb, hml, hown, hts⟩ (c_X7_here l dC dI cI cD cJ kk g y0 _ hr1 H) (cwV 0 hts gX7_readsCommand_X7_here rfl rfl rfl (by decide +kernel) ⟨Nat.le_of_ble_eq_true rfl, Nat.le_of_ble_eq_true rfl⟩) (wk_preV (ci := 5) (q0 := 0) hG hP hD [0, 1, 2, 3, 4, 5, 6, 7] rfl rfl rfl rfl) rfl rfl hl.1 rfl (lv_room (Nat.le_of_ble_eq_true rfl)) dX7_readsCommand_6 ⟨Nat.le_of_ble_eq_true rfl, Nat.le_of_ble_eq_true rfl⟩) hS (fun locs hS => ?_)
      refine lv_bipush (v := (97 : Int32)) hx hb dX7_readsCommand_9 (by decide) ?_
      refine lv_bipush (v := (122 : Int32)) hx hb dX7_readsCommand_11 (by decide) ?_
      refine wk_callP (va_runS (As := [.int r1, .int (97 : Int32), .int (122 : Int32)]) (rest := []) ⟨hx, hb, hml, hown, hts⟩ (c_X7_within l dC dI cI cD cJ kk  r1 (97 : Int32) (122 : Int32) _ rfl H) (va_cwS 3 hts gX7_readsCommand_X7_within rfl rfl rfl (by decide +kernel) ⟨Nat.le_of_ble_eq_true rfl, Nat.le_of_ble_eq_true rfl⟩) (wk_preS hG hP hD [] rfl rfl) rfl rfl hl.1 rfl (lv_room (Nat.le_of_ble_eq_true rfl)) dX7_readsCommand_13 ⟨Nat.le_of_ble_eq_true rfl, Nat.le_of_ble_eq_true rfl⟩) hS (fun locs hS => ?_)
      refine lv_if_eq (tgt := 32) hx hb dX7_readsCommand_16 (by decide) (fun c2 => ?_) (fun c2 => ?_)
      · replace hM := (if_pos c2).symm.trans hM
        refine lv_aload_n hx hb dX7_readsCommand_32 rfl (lv_at hl 0 rfl) ?_
        refine lv_aload_n hx hb dX7_readsCommand_33 rfl (lv_at hl 0 rfl) ?_
        refine lv_iload_n hx hb dX7_readsCommand_34 rfl (lv_at hl 1 rfl) ?_
        obtain ⟨r3, hr3, hM⟩ := ob hM
        refine wk_callP (va_runV (As := [.int u1]) (rest := [.ref (g 0)]) ⟨hx, hb, hml, hown, hts⟩ (c_X7_word l dC dI cI cD cJ kk g y0 u1 _ hr3 H) (cwV 1 hts gX7_readsCommand_X7_word rfl rfl rfl (by decide +kernel) ⟨Nat.le_of_ble_eq_true rfl, Nat.le_of_ble_eq_true rfl⟩) (wk_preV (ci := 5) (q0 := 0) hG hP hD [0, 1, 2, 3, 4, 5, 6, 7] rfl rfl rfl rfl) rfl rfl hl.1 rfl (lv_room (Nat.le_of_ble_eq_true rfl)) dX7_readsCommand_35 ⟨Nat.le_of_ble_eq_true rfl, Nat.le_of_ble_eq_true rfl⟩) hS (fun locs hS => ?_)
        obtain ⟨y_4, hy_4, hM⟩ := tbE hM
        refine va_put (D := (dC, dI)) (ci := 5) (v := .int r3) (ty := .int) (C := RX7) (T := TX7) (N := 14) hx hb hts inX7 tyX7 tyX7_ok nmX7 hown hG.1 hP hD hS 0 rfl rfl 12 (by decide) (hts (.fieldLink RX7 183 "WokenDriveModel" "command" "I") (List.mem_of_getElem? (i := 2) rfl)) (fun _ h9 => h9) rfl (by decide +kernel) rfl rfl (Nat.le_of_ble_eq_true rfl) dX7_readsCommand_38 (fun H locs hP hD hS => ?_)
        have hP : va_P (dC, dI) vwCl (wMod cI g y_4) H := by rw [hy_4]; exact hP
        have hD : va_D A (wMod cI g y_4) := by rw [hy_4]; exact hD
        refine lv_aload_n hx hb dX7_readsCommand_41 rfl (lv_at hl 0 rfl) ?_
        refine va_get (D := (dC, dI)) (ci := 5) (v := .int (ms_command y_4)) (C := RX7) (T := TX7) (N := 14) hx hb hts inX7 hown hG.1 hP 0 rfl rfl 12 (by decide) (hts (.fieldLink RX7 183 "WokenDriveModel" "command" "I") (List.mem_of_getElem? (i := 2) rfl)) (fun _ h9 => h9) rfl dX7_readsCommand_42 ?_
        refine lv_iconst (v := (-1 : Int32)) hx hb dX7_readsCommand_45 (by decide) ?_
        refine lv_icmp_ne (tgt := 55) hx hb dX7_readsCommand_46 (by decide) (fun c5 => ?_) (fun c5 => ?_)
        · replace hM := (if_neg c5).symm.trans hM
          refine lv_iconst (v := (0 : Int32)) hx hb dX7_readsCommand_55 (by decide) ?_
          refine lv_istore_n (lv' := [(2, .int (0 : Int32)), (0, .ref (g 0)), (1, .int u1)]) hx hb dX7_readsCommand_56 rfl hl (by decide) rfl (fun ls hl => ?_)
          exact hL57 400 (0 : Int32) y_4 H _ _ hM hP hD hS (lv_sub hl [1, 0] rfl)
        · replace hM := (if_pos c5).symm.trans hM
          refine lv_aload_n hx hb dX7_readsCommand_49 rfl (lv_at hl 0 rfl) ?_
          refine lv_iload_n hx hb dX7_readsCommand_50 rfl (lv_at hl 1 rfl) ?_
          obtain ⟨r6, hr6, hM⟩ := tbE hM
          refine wk_callM (ws' := (wMod cI g r6.2)) (va_runV (As := [.int u1]) (rest := []) ⟨hx, hb, hml, hown, hts⟩ (c_X7_fails l dC dI cI cD cJ kk g y_4 u1 _ hr6.symm H) (cwV 1 hts gX7_readsCommand_X7_fails rfl rfl rfl (by decide +kernel) ⟨Nat.le_of_ble_eq_true rfl, Nat.le_of_ble_eq_true rfl⟩) (wk_preV (ci := 5) (q0 := 0) hG hP hD [0, 1, 2, 3, 4, 5, 6, 7] rfl rfl rfl rfl) rfl rfl hl.1 rfl (lv_room (Nat.le_of_ble_eq_true rfl)) dX7_readsCommand_51 ⟨Nat.le_of_ble_eq_true rfl, Nat.le_of_ble_eq_true rfl⟩) hP hD hS hA [0, 1, 2, 3, 4, 5, 6, 7] [] [0, 1, 2, 3, 4, 5, 6, 7] rfl rfl rfl (by decide) rfl rfl (fun H locs hP hD hS => ?_)
          replace hM := Option.some.inj hM
          subst hM
          exact wk_retMi hx hb hr hlocks hQ (zI_nar _) rfl hP hD hS dX7_readsCommand_54
      · replace hM := (if_neg c2).symm.trans hM
        refine lv_aload_n hx hb dX7_readsCommand_19 rfl (lv_at hl 0 rfl) ?_
        refine lv_dup hx hb dX7_readsCommand_20 rfl ?_
        refine va_get (D := (dC, dI)) (ci := 5) (v := .int (ms_at y0)) (C := RX7) (T := TX7) (N := 14) hx hb hts inX7 hown hG.1 hP 0 rfl rfl 11 (by decide) (hts (.fieldLink RX7 161 "WokenDriveModel" "at" "I") (List.mem_of_getElem? (i := 1) rfl)) (fun _ h9 => h9) rfl dX7_readsCommand_21 ?_
        refine lv_iconst (v := (1 : Int32)) hx hb dX7_readsCommand_24 (by decide) ?_
        refine lv_iadd hx hb dX7_readsCommand_25 ?_
        obtain ⟨y_7, hy_7, hM⟩ := tbE hM
        refine va_put (D := (dC, dI)) (ci := 5) (v := .int ((ms_at y0) + (1 : Int32))) (ty := .int) (C := RX7) (T := TX7) (N := 14) hx hb hts inX7 tyX7 tyX7_ok nmX7 hown hG.1 hP hD hS 0 rfl rfl 11 (by decide) (hts (.fieldLink RX7 161 "WokenDriveModel" "at" "I") (List.mem_of_getElem? (i := 1) rfl)) (fun _ h9 => h9) rfl (by decide +kernel) rfl rfl (Nat.le_of_ble_eq_true rfl) dX7_readsCommand_26 (fun H locs hP hD hS => ?_)
        have hP : va_P (dC, dI) vwCl (wMod cI g y_7) H := by rw [hy_7]; exact hP
        have hD : va_D A (wMod cI g y_7) := by rw [hy_7]; exact hD
        refine lv_goto (tgt := 5) hx hb dX7_readsCommand_29 (by decide) ?_
        exact ih5 u1 y_7 H _ _ hM hP hD hS (lv_sub hl [0, 1] rfl)
  unfold M_X7_readsCommand at hM
  refine lv_aload_n hx hb dX7_readsCommand_0 rfl (lv_at hl 0 rfl) ?_
  refine va_get (D := (dC, dI)) (ci := 5) (v := .int (ms_at x)) (C := RX7) (T := TX7) (N := 14) hx hb hts inX7 hown hG.1 hP 0 rfl rfl 11 (by decide) (hts (.fieldLink RX7 161 "WokenDriveModel" "at" "I") (List.mem_of_getElem? (i := 1) rfl)) (fun _ h9 => h9) rfl dX7_readsCommand_1 ?_
  refine lv_istore_n (lv' := [(1, .int (ms_at x)), (0, .ref (g 0))]) hx hb dX7_readsCommand_4 rfl hl (by decide) rfl (fun ls hl => ?_)
  exact hL5 400 (ms_at x) x H _ _ hM hP hD hS (lv_sub hl [1, 0] rfl)
set_option maxHeartbeats 4000000 in
set_option maxRecDepth 100000 in
theorem c_X7_findsFault (l : Launch) (dC : Nat → ClassId) (dI : Nat → Nat → Nat) (cI cD cJ : ClassId) (kk : wAd) (g : Nat → Nat) (x : MS) (out : Int32 × MS) (hM : M_X7_findsFault x = some out) : CM l yX7_findsFault wsX7_findsFault ({ frames := 4, cells := 0, slots := 0, locals := 84 } : Room) dC dI (wTys cI cD cJ) [.ref (g 0)] (wMod cI g x) (some (.int out.1)) (wMod cI g out.2) 0 0 := by
  refine wk_enterM (cc := cX7_findsFault) (maxL := 1) (ret := (some .int)) (by decide) rfl (Nat.le_of_ble_eq_true rfl) ?_
  intro p e s m below meth c A Q ls hB hA hP hD hQ hl
  obtain ⟨hx, hb, hml, hr, hts, hown, hname, hlocks, hG⟩ := hB
  have hown : s.vm.findClass RX7 = some m.cls := hown
  have hS : va_S A s.heap s.heap [] := va_S.rf
  have hl : lv_has ls 1 [(0, .ref (g 0))] := hl
  have inX7 : ∀ w ∈ wsX70, w ∈ wsX7_findsFault := fun _ h => List.mem_cons_of_mem _ (List.mem_append_right _ h)
  obtain ⟨H, hH⟩ : ∃ z, z = s.heap := ⟨_, rfl⟩
  have hP : va_P (dC, dI) vwCl (wMod cI g x) H := by rw [hH]; exact hP
  have hS : va_S A s.heap H [] := by rw [hH]; exact hS
  refine wk_at hH ?_
  generalize ([] : List Loc) = locs at hS ⊢
  have hB39 : ∀ (y0 : MS) (H : Heap) (locs : List Loc) (ls : Array Slot), M_X7_findsFault_39 x y0 = some out → va_P (dC, dI) vwCl (wMod cI g y0) H → va_D A (wMod cI g y0) → va_S A s.heap H locs → lv_has ls 1 [(0, .ref (g 0))] → W p l e ({ frames := 4, cells := 0, slots := 0, locals := 84 } : Room) s m ([.ref (g 0)] : List Value).toArray below meth c H locs 0 0 Q (F0 m 39 ls []) := by
    intro y0 H locs ls hM hP hD hS hl
    unfold M_X7_findsFault_39 at hM
    refine lv_aload_n hx hb dX7_findsFault_39 rfl (lv_at hl 0 rfl) ?_
    refine va_get (D := (dC, dI)) (ci := 5) (v := .int (ms_fault y0)) (C := RX7) (T := TX7) (N := 14) hx hb hts inX7 hown hG.1 hP 0 rfl rfl 13 (by decide) (hts (.fieldLink RX7 167 "WokenDriveModel" "fault" "I") (List.mem_of_getElem? (i := 2) rfl)) (fun _ h9 => h9) rfl dX7_findsFault_40 ?_
    replace hM := Option.some.inj hM
    subst hM
    exact wk_retMi hx hb hr hlocks hQ rfl rfl hP hD hS dX7_findsFault_43
  have hL14 : ∀ (n14 : Nat) (y0 : MS) (H : Heap) (locs : List Loc) (ls : Array Slot), lpF (M_X7_findsFault_14s x) n14 (y0) = some out → va_P (dC, dI) vwCl (wMod cI g y0) H → va_D A (wMod cI g y0) → va_S A s.heap H locs → lv_has ls 1 [(0, .ref (g 0))] → W p l e ({ frames := 4, cells := 0, slots := 0, locals := 84 } : Room) s m ([.ref (g 0)] : List Value).toArray below meth c H locs 0 0 Q (F0 m 14 ls []) := by
    intro n14
    induction n14 with
    | zero => intro y0 H locs ls hM; exact lpF_0 hM
    | succ n14 ih14 =>
      intro y0 H locs ls hM hP hD hS hl
      replace hM : M_X7_findsFault_14s x (lpF (M_X7_findsFault_14s x) n14) (y0) = some out := hM
      unfold M_X7_findsFault_14s at hM
      try dsimp only at hM
      refine lv_aload_n hx hb dX7_findsFault_14 rfl (lv_at hl 0 rfl) ?_
      refine va_get (D := (dC, dI)) (ci := 5) (v := .int (ms_at y0)) (C := RX7) (T := TX7) (N := 14) hx hb hts inX7 hown hG.1 hP 0 rfl rfl 11 (by decide) (hts (.fieldLink RX7 161 "WokenDriveModel" "at" "I") (List.mem_of_getElem? (i := 1) rfl)) (fun _ h9 => h9) rfl dX7_findsFault_15 ?_
      refine lv_aload_n hx hb dX7_findsFault_18 rfl (lv_at hl 0 rfl) ?_
      refine va_get (D := (dC, dI)) (ci := 5) (v := .int (ms_length y0)) (C := RX7) (T := TX7) (N := 14) hx hb hts inX7 hown hG.1 hP 0 rfl rfl 7 (by decide) (hts (.fieldLink RX7 149 "WokenDriveModel" "length" "I") (List.mem_of_getElem? (i := 3) rfl)) (fun _ h9 => h9) rfl dX7_findsFault_19 ?_
      refine lv_icmp_ge (tgt := 39) hx hb dX7_findsFault_22 (by decide) (fun c1 => ?_) (fun c1 => ?_)
      · replace hM := (if_pos c1).symm.trans hM
        exact hB39 y0 H _ _ hM hP hD hS (lv_sub hl [0] rfl)
      · replace hM := (if_neg c1).symm.trans hM
        refine lv_aload_n hx hb dX7_findsFault_25 rfl (lv_at hl 0 rfl) ?_
        obtain ⟨r2, hr2, hM⟩ := ob hM
        refine wk_callM (ws' := (wMod cI g r2.2)) (va_runV (As := []) (rest := []) ⟨hx, hb, hml, hown, hts⟩ (c_X7_readsCommand l dC dI cI cD cJ kk g y0 _ hr2 H) (cwV 0 hts gX7_findsFault_X7_readsCommand rfl rfl rfl (by decide +kernel) ⟨Nat.le_of_ble_eq_true rfl, Nat.le_of_ble_eq_true rfl⟩) (wk_preV (ci := 5) (q0 := 0) hG hP hD [0, 1, 2, 3, 4, 5, 6, 7] rfl rfl rfl rfl) rfl rfl hl.1 rfl (lv_room (Nat.le_of_ble_eq_true rfl)) dX7_findsFault_26 ⟨Nat.le_of_ble_eq_true rfl, Nat.le_of_ble_eq_true rfl⟩) hP hD hS hA [0, 1, 2, 3, 4, 5, 6, 7] [] [0, 1, 2, 3, 4, 5, 6, 7] rfl rfl rfl (by decide) rfl rfl (fun H locs hP hD hS => ?_)
        refine lv_if_eq (tgt := 39) hx hb dX7_findsFault_29 (by decide) (fun c3 => ?_) (fun c3 => ?_)
        · replace hM := (if_pos c3).symm.trans hM
          exact hB39 r2.2 H _ _ hM hP hD hS (lv_sub hl [0] rfl)
        · replace hM := (if_neg c3).symm.trans hM
          refine lv_aload_n hx hb dX7_findsFault_32 rfl (lv_at hl 0 rfl) ?_
          obtain ⟨r4, hr4, hM⟩ := ob hM
          refine wk_callM (ws' := (wMod cI g r4)) (va_runV (As := []) (rest := []) ⟨hx, hb, hml, hown, hts⟩ (c_X7_skips l dC dI cI cD cJ kk g r2.2 _ hr4 H) (cwV 0 hts gX7_findsFault_X7_skips rfl rfl rfl (by decide +kernel) ⟨Nat.le_of_ble_eq_true rfl, Nat.le_of_ble_eq_true rfl⟩) (wk_preV (ci := 5) (q0 := 0) hG hP hD [0, 1, 2, 3, 4, 5, 6, 7] rfl rfl rfl rfl) rfl rfl hl.1 rfl (lv_room (Nat.le_of_ble_eq_true rfl)) dX7_findsFault_33 ⟨Nat.le_of_ble_eq_true rfl, Nat.le_of_ble_eq_true rfl⟩) hP hD hS hA [0, 1, 2, 3, 4, 5, 6, 7] [] [0, 1, 2, 3, 4, 5, 6, 7] rfl rfl rfl (by decide) rfl rfl (fun H locs hP hD hS => ?_)
          refine lv_goto (tgt := 14) hx hb dX7_findsFault_36 (by decide) ?_
          exact ih14 r4 H _ _ hM hP hD hS (lv_sub hl [0] rfl)
  unfold M_X7_findsFault at hM
  refine lv_aload_n hx hb dX7_findsFault_0 rfl (lv_at hl 0 rfl) ?_
  refine lv_iconst (v := (0 : Int32)) hx hb dX7_findsFault_1 (by decide) ?_
  obtain ⟨y_1, hy_1, hM⟩ := tbE hM
  refine va_put (D := (dC, dI)) (ci := 5) (v := .int (0 : Int32)) (ty := .int) (C := RX7) (T := TX7) (N := 14) hx hb hts inX7 tyX7 tyX7_ok nmX7 hown hG.1 hP hD hS 0 rfl rfl 11 (by decide) (hts (.fieldLink RX7 161 "WokenDriveModel" "at" "I") (List.mem_of_getElem? (i := 1) rfl)) (fun _ h9 => h9) rfl (by decide +kernel) rfl rfl (Nat.le_of_ble_eq_true rfl) dX7_findsFault_2 (fun H locs hP hD hS => ?_)
  have hP : va_P (dC, dI) vwCl (wMod cI g y_1) H := by rw [hy_1]; exact hP
  have hD : va_D A (wMod cI g y_1) := by rw [hy_1]; exact hD
  refine lv_aload_n hx hb dX7_findsFault_5 rfl (lv_at hl 0 rfl) ?_
  refine lv_iconst (v := (-1 : Int32)) hx hb dX7_findsFault_6 (by decide) ?_
  obtain ⟨y_2, hy_2, hM⟩ := tbE hM
  refine va_put (D := (dC, dI)) (ci := 5) (v := .int (-1 : Int32)) (ty := .int) (C := RX7) (T := TX7) (N := 14) hx hb hts inX7 tyX7 tyX7_ok nmX7 hown hG.1 hP hD hS 0 rfl rfl 13 (by decide) (hts (.fieldLink RX7 167 "WokenDriveModel" "fault" "I") (List.mem_of_getElem? (i := 2) rfl)) (fun _ h9 => h9) rfl (by decide +kernel) rfl rfl (Nat.le_of_ble_eq_true rfl) dX7_findsFault_7 (fun H locs hP hD hS => ?_)
  have hP : va_P (dC, dI) vwCl (wMod cI g y_2) H := by rw [hy_2]; exact hP
  have hD : va_D A (wMod cI g y_2) := by rw [hy_2]; exact hD
  refine lv_aload_n hx hb dX7_findsFault_10 rfl (lv_at hl 0 rfl) ?_
  obtain ⟨r3, hr3, hM⟩ := ob hM
  refine wk_callM (ws' := (wMod cI g r3)) (va_runV (As := []) (rest := []) ⟨hx, hb, hml, hown, hts⟩ (c_X7_skips l dC dI cI cD cJ kk g y_2 _ hr3 H) (cwV 0 hts gX7_findsFault_X7_skips rfl rfl rfl (by decide +kernel) ⟨Nat.le_of_ble_eq_true rfl, Nat.le_of_ble_eq_true rfl⟩) (wk_preV (ci := 5) (q0 := 0) hG hP hD [0, 1, 2, 3, 4, 5, 6, 7] rfl rfl rfl rfl) rfl rfl hl.1 rfl (lv_room (Nat.le_of_ble_eq_true rfl)) dX7_findsFault_11 ⟨Nat.le_of_ble_eq_true rfl, Nat.le_of_ble_eq_true rfl⟩) hP hD hS hA [0, 1, 2, 3, 4, 5, 6, 7] [] [0, 1, 2, 3, 4, 5, 6, 7] rfl rfl rfl (by decide) rfl rfl (fun H locs hP hD hS => ?_)
  exact hL14 400 r3 H _ _ hM hP hD hS (lv_sub hl [0] rfl)
set_option maxHeartbeats 4000000 in
set_option maxRecDepth 100000 in
theorem c_X7_does (l : Launch) (dC : Nat → ClassId) (dI : Nat → Nat → Nat) (cI cD cJ : ClassId) (kk : wAd) (g : Nat → Nat) (x : MS) (out : Bool × MS) (hM : M_X7_does x = some out) : CM l yX7_does wsX7_does ({ frames := 7, cells := 0, slots := 0, locals := 160 } : Room) dC dI (wTys cI cD cJ) [.ref (g 0)] (wMod cI g x) (some (.int (zI out.1))) (wMod cI g out.2) 0 0 := by
  refine wk_enterM (cc := cX7_does) (maxL := 1) (ret := (some .boolean)) (by decide) rfl (Nat.le_of_ble_eq_true rfl) ?_
  intro p e s m below meth c A Q ls hB hA hP hD hQ hl
  obtain ⟨hx, hb, hml, hr, hts, hown, hname, hlocks, hG⟩ := hB
  have hown : s.vm.findClass RX7 = some m.cls := hown
  have hS : va_S A s.heap s.heap [] := va_S.rf
  have hl : lv_has ls 1 [(0, .ref (g 0))] := hl
  have inX7 : ∀ w ∈ wsX70, w ∈ wsX7_does := fun _ h => List.mem_cons_of_mem _ (List.mem_append_right _ h)
  obtain ⟨H, hH⟩ : ∃ z, z = s.heap := ⟨_, rfl⟩
  have hP : va_P (dC, dI) vwCl (wMod cI g x) H := by rw [hH]; exact hP
  have hS : va_S A s.heap H [] := by rw [hH]; exact hS
  refine wk_at hH ?_
  generalize ([] : List Loc) = locs at hS ⊢
  have hB226 : ∀ (w0 : Bool) (y0 : MS) (H : Heap) (locs : List Loc) (ls : Array Slot), M_X7_does_226 x w0 y0 = some out → va_P (dC, dI) vwCl (wMod cI g y0) H → va_D A (wMod cI g y0) → va_S A s.heap H locs → lv_has ls 1 [] → W p l e ({ frames := 7, cells := 0, slots := 0, locals := 160 } : Room) s m ([.ref (g 0)] : List Value).toArray below meth c H locs 0 0 Q (F0 m 226 ls [.int (zI w0)]) := by
    intro w0 y0 H locs ls hM hP hD hS hl
    unfold M_X7_does_226 at hM
    replace hM := Option.some.inj hM
    subst hM
    exact wk_retMi hx hb hr hlocks hQ (zI_nar _) rfl hP hD hS dX7_does_226
  have hB214 : ∀ (y0 : MS) (H : Heap) (locs : List Loc) (ls : Array Slot), M_X7_does_214 x y0 = some out → va_P (dC, dI) vwCl (wMod cI g y0) H → va_D A (wMod cI g y0) → va_S A s.heap H locs → lv_has ls 1 [(0, .ref (g 0))] → W p l e ({ frames := 7, cells := 0, slots := 0, locals := 160 } : Room) s m ([.ref (g 0)] : List Value).toArray below meth c H locs 0 0 Q (F0 m 214 ls []) := by
    intro y0 H locs ls hM hP hD hS hl
    unfold M_X7_does_214 at hM
    refine lv_aload_n hx hb dX7_does_214 rfl (lv_at hl 0 rfl) ?_
    refine va_get (D := (dC, dI)) (ci := 5) (v := .int (ms_refusal y0)) (C := RX7) (T := TX7) (N := 14) hx hb hts inX7 hown hG.1 hP 0 rfl rfl 9 (by decide) (hts (.fieldLink RX7 31 "WokenDriveModel" "refusal" "I") (List.mem_of_getElem? (i := 3) rfl)) (fun _ h9 => h9) rfl dX7_does_215 ?_
    refine lv_if_ne (tgt := 225) hx hb dX7_does_218 (by decide) (fun c1 => ?_) (fun c1 => ?_)
    · replace hM := (if_neg c1).symm.trans hM
      refine lv_iconst (v := (0 : Int32)) hx hb dX7_does_225 (by decide) ?_
      exact hB226 false y0 H _ _ hM hP hD hS (lv_sub hl [] rfl)
    · replace hM := (if_pos c1).symm.trans hM
      refine lv_iconst (v := (1 : Int32)) hx hb dX7_does_221 (by decide) ?_
      refine lv_goto (tgt := 226) hx hb dX7_does_222 (by decide) ?_
      exact hB226 true y0 H _ _ hM hP hD hS (lv_sub hl [] rfl)
  have hB56 : ∀ (y0 : MS) (H : Heap) (locs : List Loc) (ls : Array Slot), M_X7_does_56 x y0 = some out → va_P (dC, dI) vwCl (wMod cI g y0) H → va_D A (wMod cI g y0) → va_S A s.heap H locs → lv_has ls 1 [(0, .ref (g 0))] → W p l e ({ frames := 7, cells := 0, slots := 0, locals := 160 } : Room) s m ([.ref (g 0)] : List Value).toArray below meth c H locs 0 0 Q (F0 m 56 ls []) := by
    intro y0 H locs ls hM hP hD hS hl
    unfold M_X7_does_56 at hM
    refine lv_aload_n hx hb dX7_does_56 rfl (lv_at hl 0 rfl) ?_
    refine lv_aload_n hx hb dX7_does_57 rfl (lv_at hl 0 rfl) ?_
    refine va_get (D := (dC, dI)) (ci := 5) (v := .ref (g 7)) (C := RX7) (T := TX7) (N := 14) hx hb hts inX7 hown hG.1 hP 0 rfl rfl 6 (by decide) (hts (.fieldLink RX7 28 "WokenDriveModel" "numbers" "[I") (List.mem_of_getElem? (i := 2) rfl)) (fun _ h9 => h9) rfl dX7_does_58 ?_
    refine lv_iconst (v := (0 : Int32)) hx hb dX7_does_61 (by decide) ?_
    obtain ⟨v1, hv1, hM⟩ := ob hM
    refine wk_iald hx hb hG hP 7 0 rfl rfl hv1 dX7_does_62 ?_
    refine lv_aload_n hx hb dX7_does_63 rfl (lv_at hl 0 rfl) ?_
    refine va_get (D := (dC, dI)) (ci := 5) (v := .ref (g 7)) (C := RX7) (T := TX7) (N := 14) hx hb hts inX7 hown hG.1 hP 0 rfl rfl 6 (by decide) (hts (.fieldLink RX7 28 "WokenDriveModel" "numbers" "[I") (List.mem_of_getElem? (i := 2) rfl)) (fun _ h9 => h9) rfl dX7_does_64 ?_
    refine lv_iconst (v := (1 : Int32)) hx hb dX7_does_67 (by decide) ?_
    obtain ⟨v2, hv2, hM⟩ := ob hM
    refine wk_iald hx hb hG hP 7 0 rfl rfl hv2 dX7_does_68 ?_
    refine lv_aload_n hx hb dX7_does_69 rfl (lv_at hl 0 rfl) ?_
    refine va_get (D := (dC, dI)) (ci := 5) (v := .int (ms_command y0)) (C := RX7) (T := TX7) (N := 14) hx hb hts inX7 hown hG.1 hP 0 rfl rfl 12 (by decide) (hts (.fieldLink RX7 183 "WokenDriveModel" "command" "I") (List.mem_of_getElem? (i := 1) rfl)) (fun _ h9 => h9) rfl dX7_does_70 ?_
    refine lv_aload_n hx hb dX7_does_73 rfl (lv_at hl 0 rfl) ?_
    refine va_get (D := (dC, dI)) (ci := 5) (v := .ref (g 7)) (C := RX7) (T := TX7) (N := 14) hx hb hts inX7 hown hG.1 hP 0 rfl rfl 6 (by decide) (hts (.fieldLink RX7 28 "WokenDriveModel" "numbers" "[I") (List.mem_of_getElem? (i := 2) rfl)) (fun _ h9 => h9) rfl dX7_does_74 ?_
    refine lv_iconst (v := (2 : Int32)) hx hb dX7_does_77 (by decide) ?_
    obtain ⟨v3, hv3, hM⟩ := ob hM
    refine wk_iald hx hb hG hP 7 0 rfl rfl hv3 dX7_does_78 ?_
    refine lv_aload_n hx hb dX7_does_79 rfl (lv_at hl 0 rfl) ?_
    refine va_get (D := (dC, dI)) (ci := 5) (v := .ref (g 7)) (C := RX7) (T := TX7) (N := 14) hx hb hts inX7 hown hG.1 hP 0 rfl rfl 6 (by decide) (hts (.fieldLink RX7 28 "WokenDriveModel" "numbers" "[I") (List.mem_of_getElem? (i := 2) rfl)) (fun _ h9 => h9) rfl dX7_does_80 ?_
    refine lv_iconst (v := (3 : Int32)) hx hb dX7_does_83 (by decide) ?_
    obtain ⟨v4, hv4, hM⟩ := ob hM
    refine wk_iald hx hb hG hP 7 0 rfl rfl hv4 dX7_does_84 ?_
    obtain ⟨r5, hr5, hM⟩ := ob hM
    refine wk_callM (ws' := (wMod cI g r5.2)) (va_runV (As := [.int v1, .int v2, .int (ms_command y0), .int v3, .int v4]) (rest := []) ⟨hx, hb, hml, hown, hts⟩ (c_X7_order l dC dI cI cD cJ kk g y0 v1 v2 (ms_command y0) v3 v4 _ hr5 H) (cwV 5 hts gX7_does_X7_order rfl rfl rfl (by decide +kernel) ⟨Nat.le_of_ble_eq_true rfl, Nat.le_of_ble_eq_true rfl⟩) (wk_preV (ci := 5) (q0 := 0) hG hP hD [0, 1, 2, 3, 4, 5, 6, 7] rfl rfl rfl rfl) rfl rfl hl.1 rfl (lv_room (Nat.le_of_ble_eq_true rfl)) dX7_does_85 ⟨Nat.le_of_ble_eq_true rfl, Nat.le_of_ble_eq_true rfl⟩) hP hD hS hA [0, 1, 2, 3, 4, 5, 6, 7] [] [0, 1, 2, 3, 4, 5, 6, 7] rfl rfl rfl (by decide) rfl rfl (fun H locs hP hD hS => ?_)
    refine lv_pop hx hb dX7_does_88 rfl ?_
    refine lv_goto (tgt := 214) hx hb dX7_does_89 (by decide) ?_
    exact hB214 r5.2 H _ _ hM hP hD hS (lv_sub hl [0] rfl)
  unfold M_X7_does at hM
  refine lv_aload_n hx hb dX7_does_0 rfl (lv_at hl 0 rfl) ?_
  refine va_get (D := (dC, dI)) (ci := 5) (v := .int (ms_command x)) (C := RX7) (T := TX7) (N := 14) hx hb hts inX7 hown hG.1 hP 0 rfl rfl 12 (by decide) (hts (.fieldLink RX7 183 "WokenDriveModel" "command" "I") (List.mem_of_getElem? (i := 1) rfl)) (fun _ h9 => h9) rfl dX7_does_1 ?_
  by_cases c1 : (ms_command x) = 0
  · replace hM := (if_pos c1).symm.trans hM
    refine lv_tableIn (off := 52) (tgt := 56) hx hb dX7_does_4 (by rw [c1]; decide) (by rw [c1]; decide) (by rw [c1]; decide) (by decide) ?_
    exact hB56 x H _ _ hM hP hD hS (lv_sub hl [0] rfl)
  replace hM := (if_neg c1).symm.trans hM
  by_cases c2 : (ms_command x) = 1
  · replace hM := (if_pos c2).symm.trans hM
    refine lv_tableIn (off := 52) (tgt := 56) hx hb dX7_does_4 (by rw [c2]; decide) (by rw [c2]; decide) (by rw [c2]; decide) (by decide) ?_
    exact hB56 x H _ _ hM hP hD hS (lv_sub hl [0] rfl)
  replace hM := (if_neg c2).symm.trans hM
  by_cases c3 : (ms_command x) = 2
  · replace hM := (if_pos c3).symm.trans hM
    refine lv_tableIn (off := 52) (tgt := 56) hx hb dX7_does_4 (by rw [c3]; decide) (by rw [c3]; decide) (by rw [c3]; decide) (by decide) ?_
    exact hB56 x H _ _ hM hP hD hS (lv_sub hl [0] rfl)
  replace hM := (if_neg c3).symm.trans hM
  by_cases c4 : (ms_command x) = 3
  · replace hM := (if_pos c4).symm.trans hM
    refine lv_tableIn (off := 88) (tgt := 92) hx hb dX7_does_4 (by rw [c4]; decide) (by rw [c4]; decide) (by rw [c4]; decide) (by decide) ?_
    refine lv_aload_n hx hb dX7_does_92 rfl (lv_at hl 0 rfl) ?_
    refine lv_aload_n hx hb dX7_does_93 rfl (lv_at hl 0 rfl) ?_
    refine va_get (D := (dC, dI)) (ci := 5) (v := .ref (g 7)) (C := RX7) (T := TX7) (N := 14) hx hb hts inX7 hown hG.1 hP 0 rfl rfl 6 (by decide) (hts (.fieldLink RX7 28 "WokenDriveModel" "numbers" "[I") (List.mem_of_getElem? (i := 2) rfl)) (fun _ h9 => h9) rfl dX7_does_94 ?_
    refine lv_iconst (v := (0 : Int32)) hx hb dX7_does_97 (by decide) ?_
    obtain ⟨v5, hv5, hM⟩ := ob hM
    refine wk_iald hx hb hG hP 7 0 rfl rfl hv5 dX7_does_98 ?_
    refine lv_aload_n hx hb dX7_does_99 rfl (lv_at hl 0 rfl) ?_
    refine va_get (D := (dC, dI)) (ci := 5) (v := .ref (g 7)) (C := RX7) (T := TX7) (N := 14) hx hb hts inX7 hown hG.1 hP 0 rfl rfl 6 (by decide) (hts (.fieldLink RX7 28 "WokenDriveModel" "numbers" "[I") (List.mem_of_getElem? (i := 2) rfl)) (fun _ h9 => h9) rfl dX7_does_100 ?_
    refine lv_iconst (v := (1 : Int32)) hx hb dX7_does_103 (by decide) ?_
    obtain ⟨v6, hv6, hM⟩ := ob hM
    refine wk_iald hx hb hG hP 7 0 rfl rfl hv6 dX7_does_104 ?_
    refine lv_iconst (v := (3 : Int32)) hx hb dX7_does_105 (by decide) ?_
    refine lv_iconst (v := (0 : Int32)) hx hb dX7_does_106 (by decide) ?_
    refine lv_iconst (v := (0 : Int32)) hx hb dX7_does_107 (by decide) ?_
    obtain ⟨r7, hr7, hM⟩ := ob hM
    refine wk_callM (ws' := (wMod cI g r7.2)) (va_runV (As := [.int v5, .int v6, .int (3 : Int32), .int (0 : Int32), .int (0 : Int32)]) (rest := []) ⟨hx, hb, hml, hown, hts⟩ (c_X7_order l dC dI cI cD cJ kk g x v5 v6 (3 : Int32) (0 : Int32) (0 : Int32) _ hr7 H) (cwV 5 hts gX7_does_X7_order rfl rfl rfl (by decide +kernel) ⟨Nat.le_of_ble_eq_true rfl, Nat.le_of_ble_eq_true rfl⟩) (wk_preV (ci := 5) (q0 := 0) hG hP hD [0, 1, 2, 3, 4, 5, 6, 7] rfl rfl rfl rfl) rfl rfl hl.1 rfl (lv_room (Nat.le_of_ble_eq_true rfl)) dX7_does_108 ⟨Nat.le_of_ble_eq_true rfl, Nat.le_of_ble_eq_true rfl⟩) hP hD hS hA [0, 1, 2, 3, 4, 5, 6, 7] [] [0, 1, 2, 3, 4, 5, 6, 7] rfl rfl rfl (by decide) rfl rfl (fun H locs hP hD hS => ?_)
    refine lv_pop hx hb dX7_does_111 rfl ?_
    refine lv_goto (tgt := 214) hx hb dX7_does_112 (by decide) ?_
    exact hB214 r7.2 H _ _ hM hP hD hS (lv_sub hl [0] rfl)
  replace hM := (if_neg c4).symm.trans hM
  by_cases c8 : (ms_command x) = 4
  · replace hM := (if_pos c8).symm.trans hM
    refine lv_tableIn (off := 111) (tgt := 115) hx hb dX7_does_4 (by rw [c8]; decide) (by rw [c8]; decide) (by rw [c8]; decide) (by decide) ?_
    refine lv_aload_n hx hb dX7_does_115 rfl (lv_at hl 0 rfl) ?_
    refine lv_aload_n hx hb dX7_does_116 rfl (lv_at hl 0 rfl) ?_
    refine va_get (D := (dC, dI)) (ci := 5) (v := .ref (g 7)) (C := RX7) (T := TX7) (N := 14) hx hb hts inX7 hown hG.1 hP 0 rfl rfl 6 (by decide) (hts (.fieldLink RX7 28 "WokenDriveModel" "numbers" "[I") (List.mem_of_getElem? (i := 2) rfl)) (fun _ h9 => h9) rfl dX7_does_117 ?_
    refine lv_iconst (v := (0 : Int32)) hx hb dX7_does_120 (by decide) ?_
    obtain ⟨v9, hv9, hM⟩ := ob hM
    refine wk_iald hx hb hG hP 7 0 rfl rfl hv9 dX7_does_121 ?_
    refine lv_aload_n hx hb dX7_does_122 rfl (lv_at hl 0 rfl) ?_
    refine va_get (D := (dC, dI)) (ci := 5) (v := .ref (g 7)) (C := RX7) (T := TX7) (N := 14) hx hb hts inX7 hown hG.1 hP 0 rfl rfl 6 (by decide) (hts (.fieldLink RX7 28 "WokenDriveModel" "numbers" "[I") (List.mem_of_getElem? (i := 2) rfl)) (fun _ h9 => h9) rfl dX7_does_123 ?_
    refine lv_iconst (v := (1 : Int32)) hx hb dX7_does_126 (by decide) ?_
    obtain ⟨v10, hv10, hM⟩ := ob hM
    refine wk_iald hx hb hG hP 7 0 rfl rfl hv10 dX7_does_127 ?_
    obtain ⟨r11, hr11, hM⟩ := ob hM
    refine wk_callM (ws' := (wMod cI g r11.2)) (va_runV (As := [.int v9, .int v10]) (rest := []) ⟨hx, hb, hml, hown, hts⟩ (c_X7_cancel l dC dI cI cD cJ kk g x v9 v10 _ hr11 H) (cwV 2 hts gX7_does_X7_cancel rfl rfl rfl (by decide +kernel) ⟨Nat.le_of_ble_eq_true rfl, Nat.le_of_ble_eq_true rfl⟩) (wk_preV (ci := 5) (q0 := 0) hG hP hD [0, 1, 2, 3, 4, 5, 6, 7] rfl rfl rfl rfl) rfl rfl hl.1 rfl (lv_room (Nat.le_of_ble_eq_true rfl)) dX7_does_128 ⟨Nat.le_of_ble_eq_true rfl, Nat.le_of_ble_eq_true rfl⟩) hP hD hS hA [0, 1, 2, 3, 4, 5, 6, 7] [] [0, 1, 2, 3, 4, 5, 6, 7] rfl rfl rfl (by decide) rfl rfl (fun H locs hP hD hS => ?_)
    refine lv_pop hx hb dX7_does_131 rfl ?_
    refine lv_goto (tgt := 214) hx hb dX7_does_132 (by decide) ?_
    exact hB214 r11.2 H _ _ hM hP hD hS (lv_sub hl [0] rfl)
  replace hM := (if_neg c8).symm.trans hM
  by_cases c12 : (ms_command x) = 5
  · replace hM := (if_pos c12).symm.trans hM
    refine lv_tableIn (off := 131) (tgt := 135) hx hb dX7_does_4 (by rw [c12]; decide) (by rw [c12]; decide) (by rw [c12]; decide) (by decide) ?_
    refine lv_aload_n hx hb dX7_does_135 rfl (lv_at hl 0 rfl) ?_
    refine lv_aload_n hx hb dX7_does_136 rfl (lv_at hl 0 rfl) ?_
    refine va_get (D := (dC, dI)) (ci := 5) (v := .ref (g 7)) (C := RX7) (T := TX7) (N := 14) hx hb hts inX7 hown hG.1 hP 0 rfl rfl 6 (by decide) (hts (.fieldLink RX7 28 "WokenDriveModel" "numbers" "[I") (List.mem_of_getElem? (i := 2) rfl)) (fun _ h9 => h9) rfl dX7_does_137 ?_
    refine lv_iconst (v := (0 : Int32)) hx hb dX7_does_140 (by decide) ?_
    obtain ⟨v13, hv13, hM⟩ := ob hM
    refine wk_iald hx hb hG hP 7 0 rfl rfl hv13 dX7_does_141 ?_
    obtain ⟨r14, hr14, hM⟩ := ob hM
    refine wk_callM (ws' := (wMod cI g r14.2)) (va_runV (As := [.int v13]) (rest := []) ⟨hx, hb, hml, hown, hts⟩ (c_X7_wake l dC dI cI cD cJ kk g x v13 _ hr14 H) (cwV 1 hts gX7_does_X7_wake rfl rfl rfl (by decide +kernel) ⟨Nat.le_of_ble_eq_true rfl, Nat.le_of_ble_eq_true rfl⟩) (wk_preV (ci := 5) (q0 := 0) hG hP hD [0, 1, 2, 3, 4, 5, 6, 7] rfl rfl rfl rfl) rfl rfl hl.1 rfl (lv_room (Nat.le_of_ble_eq_true rfl)) dX7_does_142 ⟨Nat.le_of_ble_eq_true rfl, Nat.le_of_ble_eq_true rfl⟩) hP hD hS hA [0, 1, 2, 3, 4, 5, 6, 7] [] [0, 1, 2, 3, 4, 5, 6, 7] rfl rfl rfl (by decide) rfl rfl (fun H locs hP hD hS => ?_)
    refine lv_pop hx hb dX7_does_145 rfl ?_
    refine lv_goto (tgt := 214) hx hb dX7_does_146 (by decide) ?_
    exact hB214 r14.2 H _ _ hM hP hD hS (lv_sub hl [0] rfl)
  replace hM := (if_neg c12).symm.trans hM
  by_cases c15 : (ms_command x) = 6
  · replace hM := (if_pos c15).symm.trans hM
    refine lv_tableIn (off := 145) (tgt := 149) hx hb dX7_does_4 (by rw [c15]; decide) (by rw [c15]; decide) (by rw [c15]; decide) (by decide) ?_
    refine lv_aload_n hx hb dX7_does_149 rfl (lv_at hl 0 rfl) ?_
    refine lv_aload_n hx hb dX7_does_150 rfl (lv_at hl 0 rfl) ?_
    refine va_get (D := (dC, dI)) (ci := 5) (v := .ref (g 7)) (C := RX7) (T := TX7) (N := 14) hx hb hts inX7 hown hG.1 hP 0 rfl rfl 6 (by decide) (hts (.fieldLink RX7 28 "WokenDriveModel" "numbers" "[I") (List.mem_of_getElem? (i := 2) rfl)) (fun _ h9 => h9) rfl dX7_does_151 ?_
    refine lv_iconst (v := (0 : Int32)) hx hb dX7_does_154 (by decide) ?_
    obtain ⟨v16, hv16, hM⟩ := ob hM
    refine wk_iald hx hb hG hP 7 0 rfl rfl hv16 dX7_does_155 ?_
    obtain ⟨r17, hr17, hM⟩ := ob hM
    refine wk_callM (ws' := (wMod cI g r17.2)) (va_runV (As := [.int v16]) (rest := []) ⟨hx, hb, hml, hown, hts⟩ (c_X7_sleep l dC dI cI cD cJ kk g x v16 _ hr17 H) (cwV 1 hts gX7_does_X7_sleep rfl rfl rfl (by decide +kernel) ⟨Nat.le_of_ble_eq_true rfl, Nat.le_of_ble_eq_true rfl⟩) (wk_preV (ci := 5) (q0 := 0) hG hP hD [0, 1, 2, 3, 4, 5, 6, 7] rfl rfl rfl rfl) rfl rfl hl.1 rfl (lv_room (Nat.le_of_ble_eq_true rfl)) dX7_does_156 ⟨Nat.le_of_ble_eq_true rfl, Nat.le_of_ble_eq_true rfl⟩) hP hD hS hA [0, 1, 2, 3, 4, 5, 6, 7] [] [0, 1, 2, 3, 4, 5, 6, 7] rfl rfl rfl (by decide) rfl rfl (fun H locs hP hD hS => ?_)
    refine lv_pop hx hb dX7_does_159 rfl ?_
    refine lv_goto (tgt := 214) hx hb dX7_does_160 (by decide) ?_
    exact hB214 r17.2 H _ _ hM hP hD hS (lv_sub hl [0] rfl)
  replace hM := (if_neg c15).symm.trans hM
  by_cases c18 : (ms_command x) = 7
  · replace hM := (if_pos c18).symm.trans hM
    refine lv_tableIn (off := 159) (tgt := 163) hx hb dX7_does_4 (by rw [c18]; decide) (by rw [c18]; decide) (by rw [c18]; decide) (by decide) ?_
    refine lv_aload_n hx hb dX7_does_163 rfl (lv_at hl 0 rfl) ?_
    refine lv_aload_n hx hb dX7_does_164 rfl (lv_at hl 0 rfl) ?_
    refine va_get (D := (dC, dI)) (ci := 5) (v := .ref (g 7)) (C := RX7) (T := TX7) (N := 14) hx hb hts inX7 hown hG.1 hP 0 rfl rfl 6 (by decide) (hts (.fieldLink RX7 28 "WokenDriveModel" "numbers" "[I") (List.mem_of_getElem? (i := 2) rfl)) (fun _ h9 => h9) rfl dX7_does_165 ?_
    refine lv_iconst (v := (0 : Int32)) hx hb dX7_does_168 (by decide) ?_
    obtain ⟨v19, hv19, hM⟩ := ob hM
    refine wk_iald hx hb hG hP 7 0 rfl rfl hv19 dX7_does_169 ?_
    refine lv_aload_n hx hb dX7_does_170 rfl (lv_at hl 0 rfl) ?_
    refine va_get (D := (dC, dI)) (ci := 5) (v := .ref (g 7)) (C := RX7) (T := TX7) (N := 14) hx hb hts inX7 hown hG.1 hP 0 rfl rfl 6 (by decide) (hts (.fieldLink RX7 28 "WokenDriveModel" "numbers" "[I") (List.mem_of_getElem? (i := 2) rfl)) (fun _ h9 => h9) rfl dX7_does_171 ?_
    refine lv_iconst (v := (1 : Int32)) hx hb dX7_does_174 (by decide) ?_
    obtain ⟨v20, hv20, hM⟩ := ob hM
    refine wk_iald hx hb hG hP 7 0 rfl rfl hv20 dX7_does_175 ?_
    obtain ⟨r21, hr21, hM⟩ := ob hM
    refine wk_callM (ws' := (wMod cI g r21.2)) (va_runV (As := [.int v19, .int v20]) (rest := []) ⟨hx, hb, hml, hown, hts⟩ (c_X7_work l dC dI cI cD cJ kk g x v19 v20 _ hr21 H) (cwV 2 hts gX7_does_X7_work rfl rfl rfl (by decide +kernel) ⟨Nat.le_of_ble_eq_true rfl, Nat.le_of_ble_eq_true rfl⟩) (wk_preV (ci := 5) (q0 := 0) hG hP hD [0, 1, 2, 3, 4, 5, 6, 7] rfl rfl rfl rfl) rfl rfl hl.1 rfl (lv_room (Nat.le_of_ble_eq_true rfl)) dX7_does_176 ⟨Nat.le_of_ble_eq_true rfl, Nat.le_of_ble_eq_true rfl⟩) hP hD hS hA [0, 1, 2, 3, 4, 5, 6, 7] [] [0, 1, 2, 3, 4, 5, 6, 7] rfl rfl rfl (by decide) rfl rfl (fun H locs hP hD hS => ?_)
    refine lv_pop hx hb dX7_does_179 rfl ?_
    refine lv_goto (tgt := 214) hx hb dX7_does_180 (by decide) ?_
    exact hB214 r21.2 H _ _ hM hP hD hS (lv_sub hl [0] rfl)
  replace hM := (if_neg c18).symm.trans hM
  by_cases c22 : (ms_command x) = 8
  · replace hM := (if_pos c22).symm.trans hM
    refine lv_tableIn (off := 179) (tgt := 183) hx hb dX7_does_4 (by rw [c22]; decide) (by rw [c22]; decide) (by rw [c22]; decide) (by decide) ?_
    refine lv_aload_n hx hb dX7_does_183 rfl (lv_at hl 0 rfl) ?_
    refine lv_aload_n hx hb dX7_does_184 rfl (lv_at hl 0 rfl) ?_
    refine va_get (D := (dC, dI)) (ci := 5) (v := .ref (g 7)) (C := RX7) (T := TX7) (N := 14) hx hb hts inX7 hown hG.1 hP 0 rfl rfl 6 (by decide) (hts (.fieldLink RX7 28 "WokenDriveModel" "numbers" "[I") (List.mem_of_getElem? (i := 2) rfl)) (fun _ h9 => h9) rfl dX7_does_185 ?_
    refine lv_iconst (v := (0 : Int32)) hx hb dX7_does_188 (by decide) ?_
    obtain ⟨v23, hv23, hM⟩ := ob hM
    refine wk_iald hx hb hG hP 7 0 rfl rfl hv23 dX7_does_189 ?_
    refine lv_aload_n hx hb dX7_does_190 rfl (lv_at hl 0 rfl) ?_
    refine va_get (D := (dC, dI)) (ci := 5) (v := .ref (g 7)) (C := RX7) (T := TX7) (N := 14) hx hb hts inX7 hown hG.1 hP 0 rfl rfl 6 (by decide) (hts (.fieldLink RX7 28 "WokenDriveModel" "numbers" "[I") (List.mem_of_getElem? (i := 2) rfl)) (fun _ h9 => h9) rfl dX7_does_191 ?_
    refine lv_iconst (v := (1 : Int32)) hx hb dX7_does_194 (by decide) ?_
    obtain ⟨v24, hv24, hM⟩ := ob hM
    refine wk_iald hx hb hG hP 7 0 rfl rfl hv24 dX7_does_195 ?_
    obtain ⟨r25, hr25, hM⟩ := ob hM
    refine wk_callM (ws' := (wMod cI g r25.2)) (va_runV (As := [.int v23, .int v24]) (rest := []) ⟨hx, hb, hml, hown, hts⟩ (c_X7_setDelay l dC dI cI cD cJ kk g x v23 v24 _ hr25 H) (cwV 2 hts gX7_does_X7_setDelay rfl rfl rfl (by decide +kernel) ⟨Nat.le_of_ble_eq_true rfl, Nat.le_of_ble_eq_true rfl⟩) (wk_preV (ci := 5) (q0 := 0) hG hP hD [0, 1, 2, 3, 4, 5, 6, 7] rfl rfl rfl rfl) rfl rfl hl.1 rfl (lv_room (Nat.le_of_ble_eq_true rfl)) dX7_does_196 ⟨Nat.le_of_ble_eq_true rfl, Nat.le_of_ble_eq_true rfl⟩) hP hD hS hA [0, 1, 2, 3, 4, 5, 6, 7] [] [0, 1, 2, 3, 4, 5, 6, 7] rfl rfl rfl (by decide) rfl rfl (fun H locs hP hD hS => ?_)
    refine lv_pop hx hb dX7_does_199 rfl ?_
    refine lv_goto (tgt := 214) hx hb dX7_does_200 (by decide) ?_
    exact hB214 r25.2 H _ _ hM hP hD hS (lv_sub hl [0] rfl)
  replace hM := (if_neg c22).symm.trans hM
  have ec1 : ((ms_command x)).toInt ≠ 0 := fun q => c1 (Int32.toInt_inj.mp (q.trans (by decide)))
  have ec2 : ((ms_command x)).toInt ≠ 1 := fun q => c2 (Int32.toInt_inj.mp (q.trans (by decide)))
  have ec3 : ((ms_command x)).toInt ≠ 2 := fun q => c3 (Int32.toInt_inj.mp (q.trans (by decide)))
  have ec4 : ((ms_command x)).toInt ≠ 3 := fun q => c4 (Int32.toInt_inj.mp (q.trans (by decide)))
  have ec8 : ((ms_command x)).toInt ≠ 4 := fun q => c8 (Int32.toInt_inj.mp (q.trans (by decide)))
  have ec12 : ((ms_command x)).toInt ≠ 5 := fun q => c12 (Int32.toInt_inj.mp (q.trans (by decide)))
  have ec15 : ((ms_command x)).toInt ≠ 6 := fun q => c15 (Int32.toInt_inj.mp (q.trans (by decide)))
  have ec18 : ((ms_command x)).toInt ≠ 7 := fun q => c18 (Int32.toInt_inj.mp (q.trans (by decide)))
  have ec22 : ((ms_command x)).toInt ≠ 8 := fun q => c22 (Int32.toInt_inj.mp (q.trans (by decide)))
  refine lv_tableOut (tgt := 203) hx hb dX7_does_4 (by omega) (by decide) ?_
  refine lv_aload_n hx hb dX7_does_203 rfl (lv_at hl 0 rfl) ?_
  refine lv_aload_n hx hb dX7_does_204 rfl (lv_at hl 0 rfl) ?_
  refine va_get (D := (dC, dI)) (ci := 5) (v := .ref (g 7)) (C := RX7) (T := TX7) (N := 14) hx hb hts inX7 hown hG.1 hP 0 rfl rfl 6 (by decide) (hts (.fieldLink RX7 28 "WokenDriveModel" "numbers" "[I") (List.mem_of_getElem? (i := 2) rfl)) (fun _ h9 => h9) rfl dX7_does_205 ?_
  refine lv_iconst (v := (0 : Int32)) hx hb dX7_does_208 (by decide) ?_
  obtain ⟨v26, hv26, hM⟩ := ob hM
  refine wk_iald hx hb hG hP 7 0 rfl rfl hv26 dX7_does_209 ?_
  obtain ⟨r27, hr27, hM⟩ := ob hM
  refine wk_callM (ws' := (wMod cI g r27.2)) (va_runV (As := [.int v26]) (rest := []) ⟨hx, hb, hml, hown, hts⟩ (c_X7_pass l dC dI cI cD cJ kk g x v26 _ hr27 H) (cwV 1 hts gX7_does_X7_pass rfl rfl rfl (by decide +kernel) ⟨Nat.le_of_ble_eq_true rfl, Nat.le_of_ble_eq_true rfl⟩) (wk_preV (ci := 5) (q0 := 0) hG hP hD [0, 1, 2, 3, 4, 5, 6, 7] rfl rfl rfl rfl) rfl rfl hl.1 rfl (lv_room (Nat.le_of_ble_eq_true rfl)) dX7_does_210 ⟨Nat.le_of_ble_eq_true rfl, Nat.le_of_ble_eq_true rfl⟩) hP hD hS hA [0, 1, 2, 3, 4, 5, 6, 7] [] [0, 1, 2, 3, 4, 5, 6, 7] rfl rfl rfl (by decide) rfl rfl (fun H locs hP hD hS => ?_)
  refine lv_pop hx hb dX7_does_213 rfl ?_
  exact hB214 r27.2 H _ _ hM hP hD hS (lv_sub hl [0] rfl)
set_option maxHeartbeats 4000000 in
set_option maxRecDepth 100000 in
theorem c_X7_runCommands (l : Launch) (dC : Nat → ClassId) (dI : Nat → Nat → Nat) (cI cD cJ : ClassId) (kk : wAd) (g : Nat → Nat) (x : MS) (out : Int32 × MS) (hM : M_X7_runCommands x = some out) : CM l yX7_runCommands wsX7_runCommands ({ frames := 8, cells := 0, slots := 0, locals := 180 } : Room) dC dI (wTys cI cD cJ) [.ref (g 0)] (wMod cI g x) (some (.int out.1)) (wMod cI g out.2) 0 0 := by
  refine wk_enterM (cc := cX7_runCommands) (maxL := 3) (ret := (some .int)) (by decide) rfl (Nat.le_of_ble_eq_true rfl) ?_
  intro p e s m below meth c A Q ls hB hA hP hD hQ hl
  obtain ⟨hx, hb, hml, hr, hts, hown, hname, hlocks, hG⟩ := hB
  have hown : s.vm.findClass RX7 = some m.cls := hown
  have hS : va_S A s.heap s.heap [] := va_S.rf
  have hl : lv_has ls 3 [(0, .ref (g 0))] := hl
  have inX7 : ∀ w ∈ wsX70, w ∈ wsX7_runCommands := fun _ h => List.mem_cons_of_mem _ (List.mem_append_right _ h)
  obtain ⟨H, hH⟩ : ∃ z, z = s.heap := ⟨_, rfl⟩
  have hP : va_P (dC, dI) vwCl (wMod cI g x) H := by rw [hH]; exact hP
  have hS : va_S A s.heap H [] := by rw [hH]; exact hS
  refine wk_at hH ?_
  generalize ([] : List Loc) = locs at hS ⊢
  have hB87 : ∀ (u1 : Int32) (y0 : MS) (H : Heap) (locs : List Loc) (ls : Array Slot), M_X7_runCommands_87 x u1 y0 = some out → va_P (dC, dI) vwCl (wMod cI g y0) H → va_D A (wMod cI g y0) → va_S A s.heap H locs → lv_has ls 3 [(0, .ref (g 0)), (1, .int u1)] → W p l e ({ frames := 8, cells := 0, slots := 0, locals := 180 } : Room) s m ([.ref (g 0)] : List Value).toArray below meth c H locs 0 0 Q (F0 m 87 ls []) := by
    intro u1 y0 H locs ls hM hP hD hS hl
    unfold M_X7_runCommands_87 at hM
    refine lv_aload_n hx hb dX7_runCommands_87 rfl (lv_at hl 0 rfl) ?_
    refine lv_iconst (v := (0 : Int32)) hx hb dX7_runCommands_88 (by decide) ?_
    obtain ⟨y_1, hy_1, hM⟩ := tbE hM
    refine va_put (D := (dC, dI)) (ci := 5) (v := .int (0 : Int32)) (ty := .boolean) (C := RX7) (T := TX7) (N := 14) hx hb hts inX7 tyX7 tyX7_ok nmX7 hown hG.1 hP hD hS 0 rfl rfl 10 (by decide) (hts (.fieldLink RX7 35 "WokenDriveModel" "isRun" "Z") (List.mem_of_getElem? (i := 3) rfl)) (fun _ h9 => h9) rfl (by decide +kernel) rfl rfl (Nat.le_of_ble_eq_true rfl) dX7_runCommands_89 (fun H locs hP hD hS => ?_)
    have hP : va_P (dC, dI) vwCl (wMod cI g y_1) H := by rw [hy_1]; exact hP
    have hD : va_D A (wMod cI g y_1) := by rw [hy_1]; exact hD
    refine lv_aload_n hx hb dX7_runCommands_92 rfl (lv_at hl 0 rfl) ?_
    refine lv_iconst (v := (0 : Int32)) hx hb dX7_runCommands_93 (by decide) ?_
    obtain ⟨y_2, hy_2, hM⟩ := tbE hM
    refine va_put (D := (dC, dI)) (ci := 5) (v := .int (0 : Int32)) (ty := .int) (C := RX7) (T := TX7) (N := 14) hx hb hts inX7 tyX7 tyX7_ok nmX7 hown hG.1 hP hD hS 0 rfl rfl 9 (by decide) (hts (.fieldLink RX7 31 "WokenDriveModel" "refusal" "I") (List.mem_of_getElem? (i := 1) rfl)) (fun _ h9 => h9) rfl (by decide +kernel) rfl rfl (Nat.le_of_ble_eq_true rfl) dX7_runCommands_94 (fun H locs hP hD hS => ?_)
    have hP : va_P (dC, dI) vwCl (wMod cI g y_2) H := by rw [hy_2]; exact hP
    have hD : va_D A (wMod cI g y_2) := by rw [hy_2]; exact hD
    refine lv_iload_n hx hb dX7_runCommands_97 rfl (lv_at hl 1 rfl) ?_
    replace hM := Option.some.inj hM
    subst hM
    exact wk_retMi hx hb hr hlocks hQ rfl rfl hP hD hS dX7_runCommands_98
  have hL43 : ∀ (n43 : Nat) (u1 : Int32) (u2 : Bool) (y0 : MS) (H : Heap) (locs : List Loc) (ls : Array Slot), lpF (M_X7_runCommands_43s x) n43 (u1, u2, y0) = some out → va_P (dC, dI) vwCl (wMod cI g y0) H → va_D A (wMod cI g y0) → va_S A s.heap H locs → lv_has ls 3 [(0, .ref (g 0)), (1, .int u1), (2, .int (zI u2))] → W p l e ({ frames := 8, cells := 0, slots := 0, locals := 180 } : Room) s m ([.ref (g 0)] : List Value).toArray below meth c H locs 0 0 Q (F0 m 43 ls []) := by
    intro n43
    induction n43 with
    | zero => intro u1 u2 y0 H locs ls hM; exact lpF_0 hM
    | succ n43 ih43 =>
      have hB78 : ∀ (u2 : Bool) (w0 : Int32) (w1 : Bool) (y0 : MS) (H : Heap) (locs : List Loc) (ls : Array Slot), M_X7_runCommands_78 x (lpF (M_X7_runCommands_43s x) n43) u2 w0 w1 y0 = some out → va_P (dC, dI) vwCl (wMod cI g y0) H → va_D A (wMod cI g y0) → va_S A s.heap H locs → lv_has ls 3 [(0, .ref (g 0)), (2, .int (zI u2))] → W p l e ({ frames := 8, cells := 0, slots := 0, locals := 180 } : Room) s m ([.ref (g 0)] : List Value).toArray below meth c H locs 0 0 Q (F0 m 78 ls [.int (zI w1), .int w0]) := by
        intro u2 w0 w1 y0 H locs ls hM hP hD hS hl
        unfold M_X7_runCommands_78 at hM
        refine lv_iadd hx hb dX7_runCommands_78 ?_
        refine lv_istore_n (lv' := [(1, .int (w0 + (zI w1))), (0, .ref (g 0)), (2, .int (zI u2))]) hx hb dX7_runCommands_79 rfl hl (by decide) rfl (fun ls hl => ?_)
        refine lv_aload_n hx hb dX7_runCommands_80 rfl (lv_at hl 1 rfl) ?_
        obtain ⟨r1, hr1, hM⟩ := ob hM
        refine wk_callM (ws' := (wMod cI g r1)) (va_runV (As := []) (rest := []) ⟨hx, hb, hml, hown, hts⟩ (c_X7_skips l dC dI cI cD cJ kk g y0 _ hr1 H) (cwV 0 hts gX7_runCommands_X7_skips rfl rfl rfl (by decide +kernel) ⟨Nat.le_of_ble_eq_true rfl, Nat.le_of_ble_eq_true rfl⟩) (wk_preV (ci := 5) (q0 := 0) hG hP hD [0, 1, 2, 3, 4, 5, 6, 7] rfl rfl rfl rfl) rfl rfl hl.1 rfl (lv_room (Nat.le_of_ble_eq_true rfl)) dX7_runCommands_81 ⟨Nat.le_of_ble_eq_true rfl, Nat.le_of_ble_eq_true rfl⟩) hP hD hS hA [0, 1, 2, 3, 4, 5, 6, 7] [] [0, 1, 2, 3, 4, 5, 6, 7] rfl rfl rfl (by decide) rfl rfl (fun H locs hP hD hS => ?_)
        refine lv_goto (tgt := 43) hx hb dX7_runCommands_84 (by decide) ?_
        exact ih43 (w0 + (zI w1)) u2 r1 H _ _ hM hP hD hS (lv_sub hl [1, 0, 2] rfl)
      intro u1 u2 y0 H locs ls hM hP hD hS hl
      replace hM : M_X7_runCommands_43s x (lpF (M_X7_runCommands_43s x) n43) (u1, u2, y0) = some out := hM
      unfold M_X7_runCommands_43s at hM
      try dsimp only at hM
      refine lv_aload_n hx hb dX7_runCommands_43 rfl (lv_at hl 0 rfl) ?_
      refine va_get (D := (dC, dI)) (ci := 5) (v := .int (ms_at y0)) (C := RX7) (T := TX7) (N := 14) hx hb hts inX7 hown hG.1 hP 0 rfl rfl 11 (by decide) (hts (.fieldLink RX7 161 "WokenDriveModel" "at" "I") (List.mem_of_getElem? (i := 4) rfl)) (fun _ h9 => h9) rfl dX7_runCommands_44 ?_
      refine lv_aload_n hx hb dX7_runCommands_47 rfl (lv_at hl 0 rfl) ?_
      refine va_get (D := (dC, dI)) (ci := 5) (v := .int (ms_length y0)) (C := RX7) (T := TX7) (N := 14) hx hb hts inX7 hown hG.1 hP 0 rfl rfl 7 (by decide) (hts (.fieldLink RX7 149 "WokenDriveModel" "length" "I") (List.mem_of_getElem? (i := 5) rfl)) (fun _ h9 => h9) rfl dX7_runCommands_48 ?_
      refine lv_icmp_ge (tgt := 87) hx hb dX7_runCommands_51 (by decide) (fun c1 => ?_) (fun c1 => ?_)
      · replace hM := (if_pos c1).symm.trans hM
        exact hB87 u1 y0 H _ _ hM hP hD hS (lv_sub hl [0, 1] rfl)
      · replace hM := (if_neg c1).symm.trans hM
        refine lv_iload_n hx hb dX7_runCommands_54 rfl (lv_at hl 2 rfl) ?_
        refine lv_if_eq (tgt := 87) hx hb dX7_runCommands_55 (by decide) (fun c2 => ?_) (fun c2 => ?_)
        · replace hM := (if_pos c2).symm.trans hM
          exact hB87 u1 y0 H _ _ hM hP hD hS (lv_sub hl [0, 1] rfl)
        · replace hM := (if_neg c2).symm.trans hM
          refine lv_aload_n hx hb dX7_runCommands_58 rfl (lv_at hl 0 rfl) ?_
          obtain ⟨r3, hr3, hM⟩ := ob hM
          refine wk_callM (ws' := (wMod cI g r3.2)) (va_runV (As := []) (rest := []) ⟨hx, hb, hml, hown, hts⟩ (c_X7_readsCommand l dC dI cI cD cJ kk g y0 _ hr3 H) (cwV 0 hts gX7_runCommands_X7_readsCommand rfl rfl rfl (by decide +kernel) ⟨Nat.le_of_ble_eq_true rfl, Nat.le_of_ble_eq_true rfl⟩) (wk_preV (ci := 5) (q0 := 0) hG hP hD [0, 1, 2, 3, 4, 5, 6, 7] rfl rfl rfl rfl) rfl rfl hl.1 rfl (lv_room (Nat.le_of_ble_eq_true rfl)) dX7_runCommands_59 ⟨Nat.le_of_ble_eq_true rfl, Nat.le_of_ble_eq_true rfl⟩) hP hD hS hA [0, 1, 2, 3, 4, 5, 6, 7] [] [0, 1, 2, 3, 4, 5, 6, 7] rfl rfl rfl (by decide) rfl rfl (fun H locs hP hD hS => ?_)
          refine lv_pop hx hb dX7_runCommands_62 rfl ?_
          refine lv_aload_n hx hb dX7_runCommands_63 rfl (lv_at hl 0 rfl) ?_
          obtain ⟨r4, hr4, hM⟩ := ob hM
          refine wk_callM (ws' := (wMod cI g r4.2)) (va_runV (As := []) (rest := []) ⟨hx, hb, hml, hown, hts⟩ (c_X7_does l dC dI cI cD cJ kk g r3.2 _ hr4 H) (cwV 0 hts gX7_runCommands_X7_does rfl rfl rfl (by decide +kernel) ⟨Nat.le_of_ble_eq_true rfl, Nat.le_of_ble_eq_true rfl⟩) (wk_preV (ci := 5) (q0 := 0) hG hP hD [0, 1, 2, 3, 4, 5, 6, 7] rfl rfl rfl rfl) rfl rfl hl.1 rfl (lv_room (Nat.le_of_ble_eq_true rfl)) dX7_runCommands_64 ⟨Nat.le_of_ble_eq_true rfl, Nat.le_of_ble_eq_true rfl⟩) hP hD hS hA [0, 1, 2, 3, 4, 5, 6, 7] [] [0, 1, 2, 3, 4, 5, 6, 7] rfl rfl rfl (by decide) rfl rfl (fun H locs hP hD hS => ?_)
          refine lv_istore_n (lv' := [(2, .int (zI r4.1)), (0, .ref (g 0)), (1, .int u1)]) hx hb dX7_runCommands_67 rfl hl (by decide) rfl (fun ls hl => ?_)
          refine lv_iload_n hx hb dX7_runCommands_68 rfl (lv_at hl 2 rfl) ?_
          refine lv_iload_n hx hb dX7_runCommands_69 rfl (lv_at hl 0 rfl) ?_
          refine lv_if_eq (tgt := 77) hx hb dX7_runCommands_70 (by decide) (fun c5 => ?_) (fun c5 => ?_)
          · replace hM := (if_pos c5).symm.trans hM
            refine lv_iconst (v := (0 : Int32)) hx hb dX7_runCommands_77 (by decide) ?_
            exact hB78 r4.1 u1 false r4.2 H _ _ hM hP hD hS (lv_sub hl [1, 0] rfl)
          · replace hM := (if_neg c5).symm.trans hM
            refine lv_iconst (v := (1 : Int32)) hx hb dX7_runCommands_73 (by decide) ?_
            refine lv_goto (tgt := 78) hx hb dX7_runCommands_74 (by decide) ?_
            exact hB78 r4.1 u1 true r4.2 H _ _ hM hP hD hS (lv_sub hl [1, 0] rfl)
  unfold M_X7_runCommands at hM
  refine lv_aload_n hx hb dX7_runCommands_0 rfl (lv_at hl 0 rfl) ?_
  refine lv_iconst (v := (0 : Int32)) hx hb dX7_runCommands_1 (by decide) ?_
  obtain ⟨y_1, hy_1, hM⟩ := tbE hM
  refine va_put (D := (dC, dI)) (ci := 5) (v := .int (0 : Int32)) (ty := .int) (C := RX7) (T := TX7) (N := 14) hx hb hts inX7 tyX7 tyX7_ok nmX7 hown hG.1 hP hD hS 0 rfl rfl 9 (by decide) (hts (.fieldLink RX7 31 "WokenDriveModel" "refusal" "I") (List.mem_of_getElem? (i := 1) rfl)) (fun _ h9 => h9) rfl (by decide +kernel) rfl rfl (Nat.le_of_ble_eq_true rfl) dX7_runCommands_2 (fun H locs hP hD hS => ?_)
  have hP : va_P (dC, dI) vwCl (wMod cI g y_1) H := by rw [hy_1]; exact hP
  have hD : va_D A (wMod cI g y_1) := by rw [hy_1]; exact hD
  refine lv_aload_n hx hb dX7_runCommands_5 rfl (lv_at hl 0 rfl) ?_
  obtain ⟨r2, hr2, hM⟩ := ob hM
  refine wk_callM (ws' := (wMod cI g r2.2)) (va_runV (As := []) (rest := []) ⟨hx, hb, hml, hown, hts⟩ (c_X7_findsFault l dC dI cI cD cJ kk g y_1 _ hr2 H) (cwV 0 hts gX7_runCommands_X7_findsFault rfl rfl rfl (by decide +kernel) ⟨Nat.le_of_ble_eq_true rfl, Nat.le_of_ble_eq_true rfl⟩) (wk_preV (ci := 5) (q0 := 0) hG hP hD [0, 1, 2, 3, 4, 5, 6, 7] rfl rfl rfl rfl) rfl rfl hl.1 rfl (lv_room (Nat.le_of_ble_eq_true rfl)) dX7_runCommands_6 ⟨Nat.le_of_ble_eq_true rfl, Nat.le_of_ble_eq_true rfl⟩) hP hD hS hA [0, 1, 2, 3, 4, 5, 6, 7] [] [0, 1, 2, 3, 4, 5, 6, 7] rfl rfl rfl (by decide) rfl rfl (fun H locs hP hD hS => ?_)
  refine lv_iconst (v := (-1 : Int32)) hx hb dX7_runCommands_9 (by decide) ?_
  refine lv_icmp_eq (tgt := 21) hx hb dX7_runCommands_10 (by decide) (fun c3 => ?_) (fun c3 => ?_)
  · replace hM := (if_pos c3).symm.trans hM
    refine lv_aload_n hx hb dX7_runCommands_21 rfl (lv_at hl 0 rfl) ?_
    obtain ⟨r4, hr4, hM⟩ := ob hM
    refine wk_callM (ws' := (wMod cI g r4)) (va_runV (As := []) (rest := []) ⟨hx, hb, hml, hown, hts⟩ (c_X7_saves l dC dI cI cD cJ kk g r2.2 _ hr4 H) (cwV 0 hts gX7_runCommands_X7_saves rfl rfl rfl (by decide +kernel) ⟨Nat.le_of_ble_eq_true rfl, Nat.le_of_ble_eq_true rfl⟩) (wk_preV (ci := 5) (q0 := 0) hG hP hD [0, 1, 2, 3, 4, 5, 6, 7] rfl rfl rfl rfl) rfl rfl hl.1 rfl (lv_room (Nat.le_of_ble_eq_true rfl)) dX7_runCommands_22 ⟨Nat.le_of_ble_eq_true rfl, Nat.le_of_ble_eq_true rfl⟩) hP hD hS hA [0, 1, 2, 3, 4, 5, 6, 7] [] [0, 1, 2, 3, 4, 5, 6, 7] rfl rfl rfl (by decide) rfl rfl (fun H locs hP hD hS => ?_)
    refine lv_aload_n hx hb dX7_runCommands_25 rfl (lv_at hl 0 rfl) ?_
    refine lv_iconst (v := (1 : Int32)) hx hb dX7_runCommands_26 (by decide) ?_
    obtain ⟨y_5, hy_5, hM⟩ := tbE hM
    refine va_put (D := (dC, dI)) (ci := 5) (v := .int (1 : Int32)) (ty := .boolean) (C := RX7) (T := TX7) (N := 14) hx hb hts inX7 tyX7 tyX7_ok nmX7 hown hG.1 hP hD hS 0 rfl rfl 10 (by decide) (hts (.fieldLink RX7 35 "WokenDriveModel" "isRun" "Z") (List.mem_of_getElem? (i := 3) rfl)) (fun _ h9 => h9) rfl (by decide +kernel) rfl rfl (Nat.le_of_ble_eq_true rfl) dX7_runCommands_27 (fun H locs hP hD hS => ?_)
    have hP : va_P (dC, dI) vwCl (wMod cI g y_5) H := by rw [hy_5]; exact hP
    have hD : va_D A (wMod cI g y_5) := by rw [hy_5]; exact hD
    refine lv_aload_n hx hb dX7_runCommands_30 rfl (lv_at hl 0 rfl) ?_
    refine lv_iconst (v := (0 : Int32)) hx hb dX7_runCommands_31 (by decide) ?_
    obtain ⟨y_6, hy_6, hM⟩ := tbE hM
    refine va_put (D := (dC, dI)) (ci := 5) (v := .int (0 : Int32)) (ty := .int) (C := RX7) (T := TX7) (N := 14) hx hb hts inX7 tyX7 tyX7_ok nmX7 hown hG.1 hP hD hS 0 rfl rfl 11 (by decide) (hts (.fieldLink RX7 161 "WokenDriveModel" "at" "I") (List.mem_of_getElem? (i := 4) rfl)) (fun _ h9 => h9) rfl (by decide +kernel) rfl rfl (Nat.le_of_ble_eq_true rfl) dX7_runCommands_32 (fun H locs hP hD hS => ?_)
    have hP : va_P (dC, dI) vwCl (wMod cI g y_6) H := by rw [hy_6]; exact hP
    have hD : va_D A (wMod cI g y_6) := by rw [hy_6]; exact hD
    refine lv_iconst (v := (0 : Int32)) hx hb dX7_runCommands_35 (by decide) ?_
    refine lv_istore_n (lv' := [(1, .int (0 : Int32)), (0, .ref (g 0))]) hx hb dX7_runCommands_36 rfl hl (by decide) rfl (fun ls hl => ?_)
    refine lv_iconst (v := (1 : Int32)) hx hb dX7_runCommands_37 (by decide) ?_
    refine lv_istore_n (lv' := [(2, .int (1 : Int32)), (1, .int (0 : Int32)), (0, .ref (g 0))]) hx hb dX7_runCommands_38 rfl hl (by decide) rfl (fun ls hl => ?_)
    refine lv_aload_n hx hb dX7_runCommands_39 rfl (lv_at hl 2 rfl) ?_
    obtain ⟨r7, hr7, hM⟩ := ob hM
    refine wk_callM (ws' := (wMod cI g r7)) (va_runV (As := []) (rest := []) ⟨hx, hb, hml, hown, hts⟩ (c_X7_skips l dC dI cI cD cJ kk g y_6 _ hr7 H) (cwV 0 hts gX7_runCommands_X7_skips rfl rfl rfl (by decide +kernel) ⟨Nat.le_of_ble_eq_true rfl, Nat.le_of_ble_eq_true rfl⟩) (wk_preV (ci := 5) (q0 := 0) hG hP hD [0, 1, 2, 3, 4, 5, 6, 7] rfl rfl rfl rfl) rfl rfl hl.1 rfl (lv_room (Nat.le_of_ble_eq_true rfl)) dX7_runCommands_40 ⟨Nat.le_of_ble_eq_true rfl, Nat.le_of_ble_eq_true rfl⟩) hP hD hS hA [0, 1, 2, 3, 4, 5, 6, 7] [] [0, 1, 2, 3, 4, 5, 6, 7] rfl rfl rfl (by decide) rfl rfl (fun H locs hP hD hS => ?_)
    exact hL43 400 (0 : Int32) true r7 H _ _ hM hP hD hS (lv_sub hl [2, 1, 0] rfl)
  · replace hM := (if_neg c3).symm.trans hM
    refine lv_bipush (v := (-10 : Int32)) hx hb dX7_runCommands_13 (by decide) ?_
    refine lv_aload_n hx hb dX7_runCommands_15 rfl (lv_at hl 0 rfl) ?_
    refine va_get (D := (dC, dI)) (ci := 5) (v := .int (ms_fault r2.2)) (C := RX7) (T := TX7) (N := 14) hx hb hts inX7 hown hG.1 hP 0 rfl rfl 13 (by decide) (hts (.fieldLink RX7 167 "WokenDriveModel" "fault" "I") (List.mem_of_getElem? (i := 2) rfl)) (fun _ h9 => h9) rfl dX7_runCommands_16 ?_
    refine lv_isub hx hb dX7_runCommands_19 ?_
    replace hM := Option.some.inj hM
    subst hM
    exact wk_retMi hx hb hr hlocks hQ rfl rfl hP hD hS dX7_runCommands_20
set_option maxHeartbeats 4000000 in
set_option maxRecDepth 100000 in
theorem c_X7_digest (l : Launch) (dC : Nat → ClassId) (dI : Nat → Nat → Nat) (cI cD cJ : ClassId) (kk : wAd) (g : Nat → Nat) (x : MS) (out : Int64 × MS) (hM : M_X7_digest x = some out) : CM l yX7_digest wsX7_digest ({ frames := 5, cells := 0, slots := 0, locals := 114 } : Room) dC dI (wTys cI cD cJ) [.ref (g 0)] (wMod cI g x) (some (.long out.1)) (wMod cI g out.2) 0 0 := by
  refine wk_enterM (cc := cX7_digest) (maxL := 5) (ret := (some .long)) (by decide) rfl (Nat.le_of_ble_eq_true rfl) ?_
  intro p e s m below meth c A Q ls hB hA hP hD hQ hl
  obtain ⟨hx, hb, hml, hr, hts, hown, hname, hlocks, hG⟩ := hB
  have hown : s.vm.findClass RX7 = some m.cls := hown
  have hS : va_S A s.heap s.heap [] := va_S.rf
  have hl : lv_has ls 5 [(0, .ref (g 0))] := hl
  have inX7 : ∀ w ∈ wsX70, w ∈ wsX7_digest := fun _ h => List.mem_cons_of_mem _ (List.mem_append_right _ h)
  obtain ⟨H, hH⟩ : ∃ z, z = s.heap := ⟨_, rfl⟩
  have hP : va_P (dC, dI) vwCl (wMod cI g x) H := by rw [hH]; exact hP
  have hS : va_S A s.heap H [] := by rw [hH]; exact hS
  refine wk_at hH ?_
  generalize ([] : List Loc) = locs at hS ⊢
  have hL154 : ∀ (n154 : Nat) (u1 : Int64) (u3 : Int32) (y0 : MS) (H : Heap) (locs : List Loc) (ls : Array Slot), lpF (M_X7_digest_154s x) n154 (u1, u3, y0) = some out → va_P (dC, dI) vwCl (wMod cI g y0) H → va_D A (wMod cI g y0) → va_S A s.heap H locs → lv_has ls 5 [(0, .ref (g 0)), (1, .long u1), (3, .int u3)] → W p l e ({ frames := 5, cells := 0, slots := 0, locals := 114 } : Room) s m ([.ref (g 0)] : List Value).toArray below meth c H locs 0 0 Q (F0 m 154 ls []) := by
    intro n154
    induction n154 with
    | zero => intro u1 u3 y0 H locs ls hM; exact lpF_0 hM
    | succ n154 ih154 =>
      have hL193 : ∀ (n193 : Nat) (u1 : Int64) (u3 : Int32) (u4 : Int32) (y0 : MS) (H : Heap) (locs : List Loc) (ls : Array Slot), lpF (M_X7_digest_193s x (lpF (M_X7_digest_154s x) n154)) n193 (u1, u3, u4, y0) = some out → va_P (dC, dI) vwCl (wMod cI g y0) H → va_D A (wMod cI g y0) → va_S A s.heap H locs → lv_has ls 5 [(0, .ref (g 0)), (1, .long u1), (3, .int u3), (4, .int u4)] → W p l e ({ frames := 5, cells := 0, slots := 0, locals := 114 } : Room) s m ([.ref (g 0)] : List Value).toArray below meth c H locs 0 0 Q (F0 m 193 ls []) := by
        intro n193
        induction n193 with
        | zero => intro u1 u3 u4 y0 H locs ls hM; exact lpF_0 hM
        | succ n193 ih193 =>
          intro u1 u3 u4 y0 H locs ls hM hP hD hS hl
          replace hM : M_X7_digest_193s x (lpF (M_X7_digest_154s x) n154) (lpF (M_X7_digest_193s x (lpF (M_X7_digest_154s x) n154)) n193) (u1, u3, u4, y0) = some out := hM
          unfold M_X7_digest_193s at hM
          try dsimp only at hM
          refine lv_iload hx hb dX7_digest_193 (lv_at hl 3 rfl) ?_
          refine lv_aload_n hx hb dX7_digest_195 rfl (lv_at hl 0 rfl) ?_
          refine lv_iload_n hx hb dX7_digest_196 rfl (lv_at hl 2 rfl) ?_
          refine lv_iconst (v := (3 : Int32)) hx hb dX7_digest_197 (by decide) ?_
          obtain ⟨r1, hr1, hM⟩ := ob hM
          refine wk_callP (va_runV (As := [.int u3, .int (3 : Int32)]) (rest := [.int u4]) ⟨hx, hb, hml, hown, hts⟩ (c_X7_control l dC dI cI cD cJ kk g y0 u3 (3 : Int32) _ hr1 H) (cwV 2 hts gX7_digest_X7_control rfl rfl rfl (by decide +kernel) ⟨Nat.le_of_ble_eq_true rfl, Nat.le_of_ble_eq_true rfl⟩) (wk_preV (ci := 5) (q0 := 0) hG hP hD [0, 1, 2, 3, 4, 5, 6, 7] rfl rfl rfl rfl) rfl rfl hl.1 rfl (lv_room (Nat.le_of_ble_eq_true rfl)) dX7_digest_198 ⟨Nat.le_of_ble_eq_true rfl, Nat.le_of_ble_eq_true rfl⟩) hS (fun locs hS => ?_)
          refine lv_icmp_ge (tgt := 225) hx hb dX7_digest_201 (by decide) (fun c2 => ?_) (fun c2 => ?_)
          · replace hM := (if_pos c2).symm.trans hM
            refine lv_ldc2 (v := 31) hx hb hown (hts (.constantLong RX7 225 (31)) (List.mem_of_getElem? (i := 3) rfl)) dX7_digest_225 ?_
            refine lv_lload_n hx hb dX7_digest_228 rfl (lv_at hl 1 rfl) ?_
            refine lv_lmul hx hb dX7_digest_229 ?_
            refine lv_aload_n hx hb dX7_digest_230 rfl (lv_at hl 0 rfl) ?_
            refine lv_iload_n hx hb dX7_digest_231 rfl (lv_at hl 2 rfl) ?_
            obtain ⟨r3, hr3, hM⟩ := ob hM
            refine wk_callP (va_runV (As := [.int u3]) (rest := [.long ((31 : Int64) * u1)]) ⟨hx, hb, hml, hown, hts⟩ (c_X7_next l dC dI cI cD cJ kk g y0 u3 _ hr3 H) (cwV 1 hts gX7_digest_X7_next rfl rfl rfl (by decide +kernel) ⟨Nat.le_of_ble_eq_true rfl, Nat.le_of_ble_eq_true rfl⟩) (wk_preV (ci := 5) (q0 := 0) hG hP hD [0, 1, 2, 3, 4, 5, 6, 7] rfl rfl rfl rfl) rfl rfl hl.1 rfl (lv_room (Nat.le_of_ble_eq_true rfl)) dX7_digest_232 ⟨Nat.le_of_ble_eq_true rfl, Nat.le_of_ble_eq_true rfl⟩) hS (fun locs hS => ?_)
            refine lv_i2l hx hb dX7_digest_235 rfl ?_
            refine lv_ladd hx hb dX7_digest_236 ?_
            refine lv_lstore_n (lv' := [(1, .long (((31 : Int64) * u1) + (r3).toInt64)), (0, .ref (g 0)), (3, .int u3), (4, .int u4)]) hx hb dX7_digest_237 rfl hl (by decide) rfl (fun ls hl => ?_)
            refine lv_iinc (v := (u3 + 1)) (lv' := [(3, .int (u3 + 1)), (1, .long (((31 : Int64) * u1) + (r3).toInt64)), (0, .ref (g 0)), (4, .int u4)]) hx hb dX7_digest_238 hl (k := 2) rfl rfl (by decide) rfl (fun ls hl => ?_)
            refine lv_goto (tgt := 154) hx hb dX7_digest_241 (by decide) ?_
            exact ih154 (((31 : Int64) * u1) + (r3).toInt64) (u3 + 1) y0 H _ _ hM hP hD hS (lv_sub hl [2, 1, 0] rfl)
          · replace hM := (if_neg c2).symm.trans hM
            refine lv_ldc2 (v := 31) hx hb hown (hts (.constantLong RX7 225 (31)) (List.mem_of_getElem? (i := 3) rfl)) dX7_digest_204 ?_
            refine lv_lload_n hx hb dX7_digest_207 rfl (lv_at hl 1 rfl) ?_
            refine lv_lmul hx hb dX7_digest_208 ?_
            refine lv_aload_n hx hb dX7_digest_209 rfl (lv_at hl 0 rfl) ?_
            refine lv_iload_n hx hb dX7_digest_210 rfl (lv_at hl 2 rfl) ?_
            refine lv_iload hx hb dX7_digest_211 (lv_at hl 3 rfl) ?_
            obtain ⟨r4, hr4, hM⟩ := ob hM
            refine wk_callP (va_runV (As := [.int u3, .int u4]) (rest := [.long ((31 : Int64) * u1)]) ⟨hx, hb, hml, hown, hts⟩ (c_X7_mailed l dC dI cI cD cJ kk g y0 u3 u4 _ hr4 H) (cwV 2 hts gX7_digest_X7_mailed rfl rfl rfl (by decide +kernel) ⟨Nat.le_of_ble_eq_true rfl, Nat.le_of_ble_eq_true rfl⟩) (wk_preV (ci := 5) (q0 := 0) hG hP hD [0, 1, 2, 3, 4, 5, 6, 7] rfl rfl rfl rfl) rfl rfl hl.1 rfl (lv_room (Nat.le_of_ble_eq_true rfl)) dX7_digest_213 ⟨Nat.le_of_ble_eq_true rfl, Nat.le_of_ble_eq_true rfl⟩) hS (fun locs hS => ?_)
            refine lv_i2l hx hb dX7_digest_216 rfl ?_
            refine lv_ladd hx hb dX7_digest_217 ?_
            refine lv_lstore_n (lv' := [(1, .long (((31 : Int64) * u1) + (r4).toInt64)), (0, .ref (g 0)), (3, .int u3), (4, .int u4)]) hx hb dX7_digest_218 rfl hl (by decide) rfl (fun ls hl => ?_)
            refine lv_iinc (v := (u4 + 1)) (lv' := [(4, .int (u4 + 1)), (1, .long (((31 : Int64) * u1) + (r4).toInt64)), (0, .ref (g 0)), (3, .int u3)]) hx hb dX7_digest_219 hl (k := 3) rfl rfl (by decide) rfl (fun ls hl => ?_)
            refine lv_goto (tgt := 193) hx hb dX7_digest_222 (by decide) ?_
            exact ih193 (((31 : Int64) * u1) + (r4).toInt64) u3 (u4 + 1) y0 H _ _ hM hP hD hS (lv_sub hl [2, 1, 3, 0] rfl)
      have hL162 : ∀ (n162 : Nat) (u1 : Int64) (u3 : Int32) (u4 : Int32) (y0 : MS) (H : Heap) (locs : List Loc) (ls : Array Slot), lpF (M_X7_digest_162s x (lpF (M_X7_digest_154s x) n154)) n162 (u1, u3, u4, y0) = some out → va_P (dC, dI) vwCl (wMod cI g y0) H → va_D A (wMod cI g y0) → va_S A s.heap H locs → lv_has ls 5 [(0, .ref (g 0)), (1, .long u1), (3, .int u3), (4, .int u4)] → W p l e ({ frames := 5, cells := 0, slots := 0, locals := 114 } : Room) s m ([.ref (g 0)] : List Value).toArray below meth c H locs 0 0 Q (F0 m 162 ls []) := by
        intro n162
        induction n162 with
        | zero => intro u1 u3 u4 y0 H locs ls hM; exact lpF_0 hM
        | succ n162 ih162 =>
          intro u1 u3 u4 y0 H locs ls hM hP hD hS hl
          replace hM : M_X7_digest_162s x (lpF (M_X7_digest_154s x) n154) (lpF (M_X7_digest_162s x (lpF (M_X7_digest_154s x) n154)) n162) (u1, u3, u4, y0) = some out := hM
          unfold M_X7_digest_162s at hM
          try dsimp only at hM
          refine lv_iload hx hb dX7_digest_162 (lv_at hl 3 rfl) ?_
          refine lv_bipush (v := (8 : Int32)) hx hb dX7_digest_164 (by decide) ?_
          refine lv_icmp_gt (tgt := 190) hx hb dX7_digest_166 (by decide) (fun c1 => ?_) (fun c1 => ?_)
          · replace hM := (if_pos c1).symm.trans hM
            refine lv_iconst (v := (0 : Int32)) hx hb dX7_digest_190 (by decide) ?_
            refine lv_istore (lv' := [(4, .int (0 : Int32)), (0, .ref (g 0)), (1, .long u1), (3, .int u3)]) hx hb dX7_digest_191 hl (by decide) rfl (fun ls hl => ?_)
            exact hL193 64 u1 u3 (0 : Int32) y0 H _ _ hM hP hD hS (lv_sub hl [1, 2, 3, 0] rfl)
          · replace hM := (if_neg c1).symm.trans hM
            refine lv_ldc2 (v := 31) hx hb hown (hts (.constantLong RX7 225 (31)) (List.mem_of_getElem? (i := 3) rfl)) dX7_digest_169 ?_
            refine lv_lload_n hx hb dX7_digest_172 rfl (lv_at hl 1 rfl) ?_
            refine lv_lmul hx hb dX7_digest_173 ?_
            refine lv_aload_n hx hb dX7_digest_174 rfl (lv_at hl 0 rfl) ?_
            refine lv_iload_n hx hb dX7_digest_175 rfl (lv_at hl 2 rfl) ?_
            refine lv_iload hx hb dX7_digest_176 (lv_at hl 3 rfl) ?_
            obtain ⟨r2, hr2, hM⟩ := ob hM
            refine wk_callM (ws' := (wMod cI g r2.2)) (va_runV (As := [.int u3, .int u4]) (rest := [.long ((31 : Int64) * u1)]) ⟨hx, hb, hml, hown, hts⟩ (c_X7_controller l dC dI cI cD cJ kk g y0 u3 u4 _ hr2 H) (cwV 2 hts gX7_digest_X7_controller rfl rfl rfl (by decide +kernel) ⟨Nat.le_of_ble_eq_true rfl, Nat.le_of_ble_eq_true rfl⟩) (wk_preV (ci := 5) (q0 := 0) hG hP hD [0, 1, 2, 3, 4, 5, 6, 7] rfl rfl rfl rfl) rfl rfl hl.1 rfl (lv_room (Nat.le_of_ble_eq_true rfl)) dX7_digest_178 ⟨Nat.le_of_ble_eq_true rfl, Nat.le_of_ble_eq_true rfl⟩) hP hD hS hA [0, 1, 2, 3, 4, 5, 6, 7] [] [0, 1, 2, 3, 4, 5, 6, 7] rfl rfl rfl (by decide) rfl rfl (fun H locs hP hD hS => ?_)
            refine lv_i2l hx hb dX7_digest_181 rfl ?_
            refine lv_ladd hx hb dX7_digest_182 ?_
            refine lv_lstore_n (lv' := [(1, .long (((31 : Int64) * u1) + (r2.1).toInt64)), (0, .ref (g 0)), (3, .int u3), (4, .int u4)]) hx hb dX7_digest_183 rfl hl (by decide) rfl (fun ls hl => ?_)
            refine lv_iinc (v := (u4 + 1)) (lv' := [(4, .int (u4 + 1)), (1, .long (((31 : Int64) * u1) + (r2.1).toInt64)), (0, .ref (g 0)), (3, .int u3)]) hx hb dX7_digest_184 hl (k := 3) rfl rfl (by decide) rfl (fun ls hl => ?_)
            refine lv_goto (tgt := 162) hx hb dX7_digest_187 (by decide) ?_
            exact ih162 (((31 : Int64) * u1) + (r2.1).toInt64) u3 (u4 + 1) r2.2 H _ _ hM hP hD hS (lv_sub hl [2, 1, 3, 0] rfl)
      intro u1 u3 y0 H locs ls hM hP hD hS hl
      replace hM : M_X7_digest_154s x (lpF (M_X7_digest_154s x) n154) (u1, u3, y0) = some out := hM
      unfold M_X7_digest_154s at hM
      try dsimp only at hM
      refine lv_iload_n hx hb dX7_digest_154 rfl (lv_at hl 2 rfl) ?_
      refine lv_iconst (v := (2 : Int32)) hx hb dX7_digest_155 (by decide) ?_
      refine lv_icmp_ge (tgt := 244) hx hb dX7_digest_156 (by decide) (fun c1 => ?_) (fun c1 => ?_)
      · replace hM := (if_pos c1).symm.trans hM
        refine lv_aload_n hx hb dX7_digest_244 rfl (lv_at hl 0 rfl) ?_
        refine lv_iconst (v := (0 : Int32)) hx hb dX7_digest_245 (by decide) ?_
        obtain ⟨y_2, hy_2, hM⟩ := tbE hM
        refine va_put (D := (dC, dI)) (ci := 5) (v := .int (0 : Int32)) (ty := .int) (C := RX7) (T := TX7) (N := 14) hx hb hts inX7 tyX7 tyX7_ok nmX7 hown hG.1 hP hD hS 0 rfl rfl 9 (by decide) (hts (.fieldLink RX7 31 "WokenDriveModel" "refusal" "I") (List.mem_of_getElem? (i := 5) rfl)) (fun _ h9 => h9) rfl (by decide +kernel) rfl rfl (Nat.le_of_ble_eq_true rfl) dX7_digest_246 (fun H locs hP hD hS => ?_)
        have hP : va_P (dC, dI) vwCl (wMod cI g y_2) H := by rw [hy_2]; exact hP
        have hD : va_D A (wMod cI g y_2) := by rw [hy_2]; exact hD
        refine lv_lload_n hx hb dX7_digest_249 rfl (lv_at hl 1 rfl) ?_
        replace hM := Option.some.inj hM
        subst hM
        exact wk_retMl hx hb hr hlocks hQ rfl hP hD hS dX7_digest_250
      · replace hM := (if_neg c1).symm.trans hM
        refine lv_iconst (v := (0 : Int32)) hx hb dX7_digest_159 (by decide) ?_
        refine lv_istore (lv' := [(4, .int (0 : Int32)), (0, .ref (g 0)), (1, .long u1), (3, .int u3)]) hx hb dX7_digest_160 hl (by decide) rfl (fun ls hl => ?_)
        exact hL162 64 u1 u3 (0 : Int32) y0 H _ _ hM hP hD hS (lv_sub hl [1, 2, 3, 0] rfl)
  have hL79 : ∀ (n79 : Nat) (u1 : Int64) (u3 : Int32) (y0 : MS) (H : Heap) (locs : List Loc) (ls : Array Slot), lpF (M_X7_digest_79s x) n79 (u1, u3, y0) = some out → va_P (dC, dI) vwCl (wMod cI g y0) H → va_D A (wMod cI g y0) → va_S A s.heap H locs → lv_has ls 5 [(0, .ref (g 0)), (1, .long u1), (3, .int u3)] → W p l e ({ frames := 5, cells := 0, slots := 0, locals := 114 } : Room) s m ([.ref (g 0)] : List Value).toArray below meth c H locs 0 0 Q (F0 m 79 ls []) := by
    intro n79
    induction n79 with
    | zero => intro u1 u3 y0 H locs ls hM; exact lpF_0 hM
    | succ n79 ih79 =>
      have hL92 : ∀ (n92 : Nat) (u1 : Int64) (u3 : Int32) (u4 : Int32) (y0 : MS) (H : Heap) (locs : List Loc) (ls : Array Slot), lpF (M_X7_digest_92s x (lpF (M_X7_digest_79s x) n79)) n92 (u1, u3, u4, y0) = some out → va_P (dC, dI) vwCl (wMod cI g y0) H → va_D A (wMod cI g y0) → va_S A s.heap H locs → lv_has ls 5 [(0, .ref (g 0)), (1, .long u1), (3, .int u3), (4, .int u4)] → W p l e ({ frames := 5, cells := 0, slots := 0, locals := 114 } : Room) s m ([.ref (g 0)] : List Value).toArray below meth c H locs 0 0 Q (F0 m 92 ls []) := by
        intro n92
        induction n92 with
        | zero => intro u1 u3 u4 y0 H locs ls hM; exact lpF_0 hM
        | succ n92 ih92 =>
          intro u1 u3 u4 y0 H locs ls hM hP hD hS hl
          replace hM : M_X7_digest_92s x (lpF (M_X7_digest_79s x) n79) (lpF (M_X7_digest_92s x (lpF (M_X7_digest_79s x) n79)) n92) (u1, u3, u4, y0) = some out := hM
          unfold M_X7_digest_92s at hM
          try dsimp only at hM
          refine lv_iload hx hb dX7_digest_92 (lv_at hl 3 rfl) ?_
          refine lv_bipush (v := (9 : Int32)) hx hb dX7_digest_94 (by decide) ?_
          refine lv_icmp_gt (tgt := 120) hx hb dX7_digest_96 (by decide) (fun c1 => ?_) (fun c1 => ?_)
          · replace hM := (if_pos c1).symm.trans hM
            refine lv_ldc2 (v := 31) hx hb hown (hts (.constantLong RX7 225 (31)) (List.mem_of_getElem? (i := 3) rfl)) dX7_digest_120 ?_
            refine lv_lload_n hx hb dX7_digest_123 rfl (lv_at hl 1 rfl) ?_
            refine lv_lmul hx hb dX7_digest_124 ?_
            refine lv_aload_n hx hb dX7_digest_125 rfl (lv_at hl 0 rfl) ?_
            refine lv_iload_n hx hb dX7_digest_126 rfl (lv_at hl 2 rfl) ?_
            obtain ⟨r2, hr2, hM⟩ := ob hM
            refine wk_callM (ws' := (wMod cI g r2.2)) (va_runV (As := [.int u3]) (rest := [.long ((31 : Int64) * u1)]) ⟨hx, hb, hml, hown, hts⟩ (c_X7_waitsFor l dC dI cI cD cJ kk g y0 u3 _ hr2 H) (cwV 1 hts gX7_digest_X7_waitsFor rfl rfl rfl (by decide +kernel) ⟨Nat.le_of_ble_eq_true rfl, Nat.le_of_ble_eq_true rfl⟩) (wk_preV (ci := 5) (q0 := 0) hG hP hD [0, 1, 2, 3, 4, 5, 6, 7] rfl rfl rfl rfl) rfl rfl hl.1 rfl (lv_room (Nat.le_of_ble_eq_true rfl)) dX7_digest_127 ⟨Nat.le_of_ble_eq_true rfl, Nat.le_of_ble_eq_true rfl⟩) hP hD hS hA [0, 1, 2, 3, 4, 5, 6, 7] [] [0, 1, 2, 3, 4, 5, 6, 7] rfl rfl rfl (by decide) rfl rfl (fun H locs hP hD hS => ?_)
            refine lv_i2l hx hb dX7_digest_130 rfl ?_
            refine lv_ladd hx hb dX7_digest_131 ?_
            refine lv_lstore_n (lv' := [(1, .long (((31 : Int64) * u1) + (r2.1).toInt64)), (0, .ref (g 0)), (3, .int u3), (4, .int u4)]) hx hb dX7_digest_132 rfl hl (by decide) rfl (fun ls hl => ?_)
            refine lv_ldc2 (v := 31) hx hb hown (hts (.constantLong RX7 225 (31)) (List.mem_of_getElem? (i := 3) rfl)) dX7_digest_133 ?_
            refine lv_lload_n hx hb dX7_digest_136 rfl (lv_at hl 0 rfl) ?_
            refine lv_lmul hx hb dX7_digest_137 ?_
            refine lv_aload_n hx hb dX7_digest_138 rfl (lv_at hl 1 rfl) ?_
            refine lv_iload_n hx hb dX7_digest_139 rfl (lv_at hl 2 rfl) ?_
            obtain ⟨r3, hr3, hM⟩ := ob hM
            refine wk_callM (ws' := (wMod cI g r3.2)) (va_runV (As := [.int u3]) (rest := [.long ((31 : Int64) * (((31 : Int64) * u1) + (r2.1).toInt64))]) ⟨hx, hb, hml, hown, hts⟩ (c_X7_depth l dC dI cI cD cJ kk g r2.2 u3 _ hr3 H) (cwV 1 hts gX7_digest_X7_depth rfl rfl rfl (by decide +kernel) ⟨Nat.le_of_ble_eq_true rfl, Nat.le_of_ble_eq_true rfl⟩) (wk_preV (ci := 5) (q0 := 0) hG hP hD [0, 1, 2, 3, 4, 5, 6, 7] rfl rfl rfl rfl) rfl rfl hl.1 rfl (lv_room (Nat.le_of_ble_eq_true rfl)) dX7_digest_140 ⟨Nat.le_of_ble_eq_true rfl, Nat.le_of_ble_eq_true rfl⟩) hP hD hS hA [0, 1, 2, 3, 4, 5, 6, 7] [] [0, 1, 2, 3, 4, 5, 6, 7] rfl rfl rfl (by decide) rfl rfl (fun H locs hP hD hS => ?_)
            refine lv_i2l hx hb dX7_digest_143 rfl ?_
            refine lv_ladd hx hb dX7_digest_144 ?_
            refine lv_lstore_n (lv' := [(1, .long (((31 : Int64) * (((31 : Int64) * u1) + (r2.1).toInt64)) + (r3.1).toInt64)), (0, .ref (g 0)), (3, .int u3), (4, .int u4)]) hx hb dX7_digest_145 rfl hl (by decide) rfl (fun ls hl => ?_)
            refine lv_iinc (v := (u3 + 1)) (lv' := [(3, .int (u3 + 1)), (1, .long (((31 : Int64) * (((31 : Int64) * u1) + (r2.1).toInt64)) + (r3.1).toInt64)), (0, .ref (g 0)), (4, .int u4)]) hx hb dX7_digest_146 hl (k := 2) rfl rfl (by decide) rfl (fun ls hl => ?_)
            refine lv_goto (tgt := 79) hx hb dX7_digest_149 (by decide) ?_
            exact ih79 (((31 : Int64) * (((31 : Int64) * u1) + (r2.1).toInt64)) + (r3.1).toInt64) (u3 + 1) r3.2 H _ _ hM hP hD hS (lv_sub hl [2, 1, 0] rfl)
          · replace hM := (if_neg c1).symm.trans hM
            refine lv_ldc2 (v := 31) hx hb hown (hts (.constantLong RX7 225 (31)) (List.mem_of_getElem? (i := 3) rfl)) dX7_digest_99 ?_
            refine lv_lload_n hx hb dX7_digest_102 rfl (lv_at hl 1 rfl) ?_
            refine lv_lmul hx hb dX7_digest_103 ?_
            refine lv_aload_n hx hb dX7_digest_104 rfl (lv_at hl 0 rfl) ?_
            refine lv_iload_n hx hb dX7_digest_105 rfl (lv_at hl 2 rfl) ?_
            refine lv_iload hx hb dX7_digest_106 (lv_at hl 3 rfl) ?_
            obtain ⟨r4, hr4, hM⟩ := ob hM
            refine wk_callP (va_runV (As := [.int u3, .int u4]) (rest := [.long ((31 : Int64) * u1)]) ⟨hx, hb, hml, hown, hts⟩ (c_X7_of l dC dI cI cD cJ kk g y0 u3 u4 _ hr4 H) (cwV 2 hts gX7_digest_X7_of rfl rfl rfl (by decide +kernel) ⟨Nat.le_of_ble_eq_true rfl, Nat.le_of_ble_eq_true rfl⟩) (wk_preV (ci := 5) (q0 := 0) hG hP hD [0, 1, 2, 3, 4, 5, 6, 7] rfl rfl rfl rfl) rfl rfl hl.1 rfl (lv_room (Nat.le_of_ble_eq_true rfl)) dX7_digest_108 ⟨Nat.le_of_ble_eq_true rfl, Nat.le_of_ble_eq_true rfl⟩) hS (fun locs hS => ?_)
            refine lv_i2l hx hb dX7_digest_111 rfl ?_
            refine lv_ladd hx hb dX7_digest_112 ?_
            refine lv_lstore_n (lv' := [(1, .long (((31 : Int64) * u1) + (r4).toInt64)), (0, .ref (g 0)), (3, .int u3), (4, .int u4)]) hx hb dX7_digest_113 rfl hl (by decide) rfl (fun ls hl => ?_)
            refine lv_iinc (v := (u4 + 1)) (lv' := [(4, .int (u4 + 1)), (1, .long (((31 : Int64) * u1) + (r4).toInt64)), (0, .ref (g 0)), (3, .int u3)]) hx hb dX7_digest_114 hl (k := 3) rfl rfl (by decide) rfl (fun ls hl => ?_)
            refine lv_goto (tgt := 92) hx hb dX7_digest_117 (by decide) ?_
            exact ih92 (((31 : Int64) * u1) + (r4).toInt64) u3 (u4 + 1) y0 H _ _ hM hP hD hS (lv_sub hl [2, 1, 3, 0] rfl)
      intro u1 u3 y0 H locs ls hM hP hD hS hl
      replace hM : M_X7_digest_79s x (lpF (M_X7_digest_79s x) n79) (u1, u3, y0) = some out := hM
      unfold M_X7_digest_79s at hM
      try dsimp only at hM
      refine lv_iload_n hx hb dX7_digest_79 rfl (lv_at hl 2 rfl) ?_
      refine lv_aload_n hx hb dX7_digest_80 rfl (lv_at hl 0 rfl) ?_
      refine va_get (D := (dC, dI)) (ci := 5) (v := .ref (g 1)) (C := RX7) (T := TX7) (N := 14) hx hb hts inX7 hown hG.1 hP 0 rfl rfl 0 (by decide) (hts (.fieldLink RX7 7 "WokenDriveModel" "now" "[I") (List.mem_of_getElem? (i := 4) rfl)) (fun _ h9 => h9) rfl dX7_digest_81 ?_
      refine lv_iconst (v := (1 : Int32)) hx hb dX7_digest_84 (by decide) ?_
      obtain ⟨v1, hv1, hM⟩ := ob hM
      refine wk_iald hx hb hG hP 1 0 rfl rfl hv1 dX7_digest_85 ?_
      refine lv_icmp_ge (tgt := 152) hx hb dX7_digest_86 (by decide) (fun c2 => ?_) (fun c2 => ?_)
      · replace hM := (if_pos c2).symm.trans hM
        refine lv_iconst (v := (0 : Int32)) hx hb dX7_digest_152 (by decide) ?_
        refine lv_istore_n (lv' := [(3, .int (0 : Int32)), (0, .ref (g 0)), (1, .long u1)]) hx hb dX7_digest_153 rfl hl (by decide) rfl (fun ls hl => ?_)
        exact hL154 64 u1 (0 : Int32) y0 H _ _ hM hP hD hS (lv_sub hl [1, 2, 0] rfl)
      · replace hM := (if_neg c2).symm.trans hM
        refine lv_iconst (v := (0 : Int32)) hx hb dX7_digest_89 (by decide) ?_
        refine lv_istore (lv' := [(4, .int (0 : Int32)), (0, .ref (g 0)), (1, .long u1), (3, .int u3)]) hx hb dX7_digest_90 hl (by decide) rfl (fun ls hl => ?_)
        exact hL92 64 u1 u3 (0 : Int32) y0 H _ _ hM hP hD hS (lv_sub hl [1, 2, 3, 0] rfl)
  have hL39 : ∀ (n39 : Nat) (u1 : Int64) (u3 : Int32) (y0 : MS) (H : Heap) (locs : List Loc) (ls : Array Slot), lpF (M_X7_digest_39s x) n39 (u1, u3, y0) = some out → va_P (dC, dI) vwCl (wMod cI g y0) H → va_D A (wMod cI g y0) → va_S A s.heap H locs → lv_has ls 5 [(0, .ref (g 0)), (1, .long u1), (3, .int u3)] → W p l e ({ frames := 5, cells := 0, slots := 0, locals := 114 } : Room) s m ([.ref (g 0)] : List Value).toArray below meth c H locs 0 0 Q (F0 m 39 ls []) := by
    intro n39
    induction n39 with
    | zero => intro u1 u3 y0 H locs ls hM; exact lpF_0 hM
    | succ n39 ih39 =>
      intro u1 u3 y0 H locs ls hM hP hD hS hl
      replace hM : M_X7_digest_39s x (lpF (M_X7_digest_39s x) n39) (u1, u3, y0) = some out := hM
      unfold M_X7_digest_39s at hM
      try dsimp only at hM
      refine lv_iload_n hx hb dX7_digest_39 rfl (lv_at hl 2 rfl) ?_
      refine lv_bipush (v := (16 : Int32)) hx hb dX7_digest_40 (by decide) ?_
      refine lv_icmp_ge (tgt := 77) hx hb dX7_digest_42 (by decide) (fun c1 => ?_) (fun c1 => ?_)
      · replace hM := (if_pos c1).symm.trans hM
        refine lv_iconst (v := (0 : Int32)) hx hb dX7_digest_77 (by decide) ?_
        refine lv_istore_n (lv' := [(3, .int (0 : Int32)), (0, .ref (g 0)), (1, .long u1)]) hx hb dX7_digest_78 rfl hl (by decide) rfl (fun ls hl => ?_)
        exact hL79 64 u1 (0 : Int32) y0 H _ _ hM hP hD hS (lv_sub hl [1, 2, 0] rfl)
      · replace hM := (if_neg c1).symm.trans hM
        refine lv_ldc2 (v := 31) hx hb hown (hts (.constantLong RX7 225 (31)) (List.mem_of_getElem? (i := 3) rfl)) dX7_digest_45 ?_
        refine lv_lload_n hx hb dX7_digest_48 rfl (lv_at hl 1 rfl) ?_
        refine lv_lmul hx hb dX7_digest_49 ?_
        refine lv_aload_n hx hb dX7_digest_50 rfl (lv_at hl 0 rfl) ?_
        refine lv_iload_n hx hb dX7_digest_51 rfl (lv_at hl 2 rfl) ?_
        obtain ⟨r2, hr2, hM⟩ := ob hM
        refine wk_callM (ws' := (wMod cI g r2.2)) (va_runV (As := [.int u3]) (rest := [.long ((31 : Int64) * u1)]) ⟨hx, hb, hml, hown, hts⟩ (c_X7_block l dC dI cI cD cJ kk g y0 u3 _ hr2 H) (cwV 1 hts gX7_digest_X7_block rfl rfl rfl (by decide +kernel) ⟨Nat.le_of_ble_eq_true rfl, Nat.le_of_ble_eq_true rfl⟩) (wk_preV (ci := 5) (q0 := 0) hG hP hD [0, 1, 2, 3, 4, 5, 6, 7] rfl rfl rfl rfl) rfl rfl hl.1 rfl (lv_room (Nat.le_of_ble_eq_true rfl)) dX7_digest_52 ⟨Nat.le_of_ble_eq_true rfl, Nat.le_of_ble_eq_true rfl⟩) hP hD hS hA [0, 1, 2, 3, 4, 5, 6, 7] [] [0, 1, 2, 3, 4, 5, 6, 7] rfl rfl rfl (by decide) rfl rfl (fun H locs hP hD hS => ?_)
        refine lv_i2l hx hb dX7_digest_55 rfl ?_
        refine lv_ladd hx hb dX7_digest_56 ?_
        refine lv_lstore_n (lv' := [(1, .long (((31 : Int64) * u1) + (r2.1).toInt64)), (0, .ref (g 0)), (3, .int u3)]) hx hb dX7_digest_57 rfl hl (by decide) rfl (fun ls hl => ?_)
        refine lv_ldc2 (v := 31) hx hb hown (hts (.constantLong RX7 225 (31)) (List.mem_of_getElem? (i := 3) rfl)) dX7_digest_58 ?_
        refine lv_lload_n hx hb dX7_digest_61 rfl (lv_at hl 0 rfl) ?_
        refine lv_lmul hx hb dX7_digest_62 ?_
        refine lv_aload_n hx hb dX7_digest_63 rfl (lv_at hl 1 rfl) ?_
        refine lv_iload_n hx hb dX7_digest_64 rfl (lv_at hl 2 rfl) ?_
        obtain ⟨r3, hr3, hM⟩ := ob hM
        refine wk_callM (ws' := (wMod cI g r3.2)) (va_runV (As := [.int u3]) (rest := [.long ((31 : Int64) * (((31 : Int64) * u1) + (r2.1).toInt64))]) ⟨hx, hb, hml, hown, hts⟩ (c_X7_finalValue l dC dI cI cD cJ kk g r2.2 u3 _ hr3 H) (cwV 1 hts gX7_digest_X7_finalValue rfl rfl rfl (by decide +kernel) ⟨Nat.le_of_ble_eq_true rfl, Nat.le_of_ble_eq_true rfl⟩) (wk_preV (ci := 5) (q0 := 0) hG hP hD [0, 1, 2, 3, 4, 5, 6, 7] rfl rfl rfl rfl) rfl rfl hl.1 rfl (lv_room (Nat.le_of_ble_eq_true rfl)) dX7_digest_65 ⟨Nat.le_of_ble_eq_true rfl, Nat.le_of_ble_eq_true rfl⟩) hP hD hS hA [0, 1, 2, 3, 4, 5, 6, 7] [] [0, 1, 2, 3, 4, 5, 6, 7] rfl rfl rfl (by decide) rfl rfl (fun H locs hP hD hS => ?_)
        refine lv_i2l hx hb dX7_digest_68 rfl ?_
        refine lv_ladd hx hb dX7_digest_69 ?_
        refine lv_lstore_n (lv' := [(1, .long (((31 : Int64) * (((31 : Int64) * u1) + (r2.1).toInt64)) + (r3.1).toInt64)), (0, .ref (g 0)), (3, .int u3)]) hx hb dX7_digest_70 rfl hl (by decide) rfl (fun ls hl => ?_)
        refine lv_iinc (v := (u3 + 1)) (lv' := [(3, .int (u3 + 1)), (1, .long (((31 : Int64) * (((31 : Int64) * u1) + (r2.1).toInt64)) + (r3.1).toInt64)), (0, .ref (g 0))]) hx hb dX7_digest_71 hl (k := 2) rfl rfl (by decide) rfl (fun ls hl => ?_)
        refine lv_goto (tgt := 39) hx hb dX7_digest_74 (by decide) ?_
        exact ih39 (((31 : Int64) * (((31 : Int64) * u1) + (r2.1).toInt64)) + (r3.1).toInt64) (u3 + 1) r3.2 H _ _ hM hP hD hS (lv_sub hl [2, 1, 0] rfl)
  have hL12 : ∀ (n12 : Nat) (u1 : Int64) (u3 : Int32) (y0 : MS) (H : Heap) (locs : List Loc) (ls : Array Slot), lpF (M_X7_digest_12s x) n12 (u1, u3, y0) = some out → va_P (dC, dI) vwCl (wMod cI g y0) H → va_D A (wMod cI g y0) → va_S A s.heap H locs → lv_has ls 5 [(0, .ref (g 0)), (1, .long u1), (3, .int u3)] → W p l e ({ frames := 5, cells := 0, slots := 0, locals := 114 } : Room) s m ([.ref (g 0)] : List Value).toArray below meth c H locs 0 0 Q (F0 m 12 ls []) := by
    intro n12
    induction n12 with
    | zero => intro u1 u3 y0 H locs ls hM; exact lpF_0 hM
    | succ n12 ih12 =>
      intro u1 u3 y0 H locs ls hM hP hD hS hl
      replace hM : M_X7_digest_12s x (lpF (M_X7_digest_12s x) n12) (u1, u3, y0) = some out := hM
      unfold M_X7_digest_12s at hM
      try dsimp only at hM
      refine lv_iload_n hx hb dX7_digest_12 rfl (lv_at hl 2 rfl) ?_
      refine lv_bipush (v := (11 : Int32)) hx hb dX7_digest_13 (by decide) ?_
      refine lv_icmp_gt (tgt := 37) hx hb dX7_digest_15 (by decide) (fun c1 => ?_) (fun c1 => ?_)
      · replace hM := (if_pos c1).symm.trans hM
        refine lv_iconst (v := (0 : Int32)) hx hb dX7_digest_37 (by decide) ?_
        refine lv_istore_n (lv' := [(3, .int (0 : Int32)), (0, .ref (g 0)), (1, .long u1)]) hx hb dX7_digest_38 rfl hl (by decide) rfl (fun ls hl => ?_)
        exact hL39 64 u1 (0 : Int32) y0 H _ _ hM hP hD hS (lv_sub hl [1, 2, 0] rfl)
      · replace hM := (if_neg c1).symm.trans hM
        refine lv_ldc2 (v := 31) hx hb hown (hts (.constantLong RX7 225 (31)) (List.mem_of_getElem? (i := 3) rfl)) dX7_digest_18 ?_
        refine lv_lload_n hx hb dX7_digest_21 rfl (lv_at hl 1 rfl) ?_
        refine lv_lmul hx hb dX7_digest_22 ?_
        refine lv_aload_n hx hb dX7_digest_23 rfl (lv_at hl 0 rfl) ?_
        refine lv_iload_n hx hb dX7_digest_24 rfl (lv_at hl 2 rfl) ?_
        obtain ⟨r2, hr2, hM⟩ := ob hM
        refine wk_callM (ws' := (wMod cI g r2.2)) (va_runV (As := [.int u3]) (rest := [.long ((31 : Int64) * u1)]) ⟨hx, hb, hml, hown, hts⟩ (c_X7_whole l dC dI cI cD cJ kk g y0 u3 _ hr2 H) (cwV 1 hts gX7_digest_X7_whole rfl rfl rfl (by decide +kernel) ⟨Nat.le_of_ble_eq_true rfl, Nat.le_of_ble_eq_true rfl⟩) (wk_preV (ci := 5) (q0 := 0) hG hP hD [0, 1, 2, 3, 4, 5, 6, 7] rfl rfl rfl rfl) rfl rfl hl.1 rfl (lv_room (Nat.le_of_ble_eq_true rfl)) dX7_digest_25 ⟨Nat.le_of_ble_eq_true rfl, Nat.le_of_ble_eq_true rfl⟩) hP hD hS hA [0, 1, 2, 3, 4, 5, 6, 7] [] [0, 1, 2, 3, 4, 5, 6, 7] rfl rfl rfl (by decide) rfl rfl (fun H locs hP hD hS => ?_)
        refine lv_i2l hx hb dX7_digest_28 rfl ?_
        refine lv_ladd hx hb dX7_digest_29 ?_
        refine lv_lstore_n (lv' := [(1, .long (((31 : Int64) * u1) + (r2.1).toInt64)), (0, .ref (g 0)), (3, .int u3)]) hx hb dX7_digest_30 rfl hl (by decide) rfl (fun ls hl => ?_)
        refine lv_iinc (v := (u3 + 1)) (lv' := [(3, .int (u3 + 1)), (1, .long (((31 : Int64) * u1) + (r2.1).toInt64)), (0, .ref (g 0))]) hx hb dX7_digest_31 hl (k := 2) rfl rfl (by decide) rfl (fun ls hl => ?_)
        refine lv_goto (tgt := 12) hx hb dX7_digest_34 (by decide) ?_
        exact ih12 (((31 : Int64) * u1) + (r2.1).toInt64) (u3 + 1) r2.2 H _ _ hM hP hD hS (lv_sub hl [2, 1, 0] rfl)
  unfold M_X7_digest at hM
  refine lv_ldc2 (v := 1348190) hx hb hown (hts (.constantLong RX7 223 (1348190)) (List.mem_of_getElem? (i := 1) rfl)) dX7_digest_0 ?_
  refine lv_aload_n hx hb dX7_digest_3 rfl (lv_at hl 0 rfl) ?_
  refine va_get (D := (dC, dI)) (ci := 5) (v := .int (ms_saved x)) (C := RX7) (T := TX7) (N := 14) hx hb hts inX7 hown hG.1 hP 0 rfl rfl 8 (by decide) (hts (.fieldLink RX7 39 "WokenDriveModel" "saved" "I") (List.mem_of_getElem? (i := 2) rfl)) (fun _ h9 => h9) rfl dX7_digest_4 ?_
  refine lv_i2l hx hb dX7_digest_7 rfl ?_
  refine lv_ladd hx hb dX7_digest_8 ?_
  refine lv_lstore_n (lv' := [(1, .long ((1348190 : Int64) + ((ms_saved x)).toInt64)), (0, .ref (g 0))]) hx hb dX7_digest_9 rfl hl (by decide) rfl (fun ls hl => ?_)
  refine lv_iconst (v := (0 : Int32)) hx hb dX7_digest_10 (by decide) ?_
  refine lv_istore_n (lv' := [(3, .int (0 : Int32)), (1, .long ((1348190 : Int64) + ((ms_saved x)).toInt64)), (0, .ref (g 0))]) hx hb dX7_digest_11 rfl hl (by decide) rfl (fun ls hl => ?_)
  exact hL12 64 ((1348190 : Int64) + ((ms_saved x)).toInt64) (0 : Int32) x H _ _ hM hP hD hS (lv_sub hl [2, 1, 0] rfl)
