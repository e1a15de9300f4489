/-! PART 26: the drive, what throws nothing -/
set_option maxHeartbeats 4000000 in
set_option maxRecDepth 100000 in
theorem c_X6_doneIn (l : Launch) (dC : Nat → ClassId) (dI : Nat → Nat → Nat) (cI cD cJ : ClassId) (kk : wAd) (g : Nat → Nat) (x : SS) (out : Int32 × SS) (hM : M_X6_doneIn x = some out) : CM l yX6_doneIn wsX6_doneIn ({ frames := 5, cells := 0, slots := 0, locals := 118 } : Room) dC dI (wTys cI cD cJ) [.ref (g 0)] (wSys cI cD kk.1 g x) (some (.int out.1)) (wSys cI cD kk.1 g out.2) 0 0 := by
  refine wk_enterM (cc := cX6_doneIn) (maxL := 2) (ret := (some .int)) (by decide) rfl (Nat.le_of_ble_eq_true rfl) ?_
  intro p e s m below meth c A Q ls hB hA hP hD hQ hl
  obtain ⟨hx, hb, hml, hr, hts, hown, hname, hlocks, hG⟩ := hB
  have hown : s.vm.findClass RX6 = some m.cls := hown
  have hS : va_S A s.heap s.heap [] := va_S.rf
  have hl : lv_has ls 2 [(0, .ref (g 0))] := hl
  have inX6 : ∀ w ∈ wsX60, w ∈ wsX6_doneIn := fun _ h => List.mem_cons_of_mem _ (List.mem_append_left _ (List.mem_append_left _ (List.mem_append_right _ h)))
  obtain ⟨H, hH⟩ : ∃ z, z = s.heap := ⟨_, rfl⟩
  have hP : va_P (dC, dI) vwCl (wSys cI cD kk.1 g x) H := by rw [hH]; exact hP
  have hS : va_S A s.heap H [] := by rw [hH]; exact hS
  refine wk_at hH ?_
  generalize ([] : List Loc) = locs at hS ⊢
  have hL13 : ∀ (n13 : Nat) (u1 : Int32) (y0 : SS) (H : Heap) (locs : List Loc) (ls : Array Slot), lpF (M_X6_doneIn_13s x) n13 (u1, y0) = some out → va_P (dC, dI) vwCl (wSys cI cD kk.1 g y0) H → va_D A (wSys cI cD kk.1 g y0) → va_S A s.heap H locs → lv_has ls 2 [(0, .ref (g 0)), (1, .int u1)] → W p l e ({ frames := 5, cells := 0, slots := 0, locals := 118 } : Room) s m ([.ref (g 0)] : List Value).toArray below meth c H locs 0 0 Q (F0 m 13 ls []) := by
    intro n13
    induction n13 with
    | zero => intro u1 y0 H locs ls hM; exact lpF_0 hM
    | succ n13 ih13 =>
      intro u1 y0 H locs ls hM hP hD hS hl
      replace hM : M_X6_doneIn_13s x (lpF (M_X6_doneIn_13s x) n13) (u1, y0) = some out := hM
      unfold M_X6_doneIn_13s at hM
      try dsimp only at hM
      refine lv_iload_n hx hb dX6_doneIn_13 rfl (lv_at hl 1 rfl) ?_
      refine lv_sipush (v := (200 : Int32)) hx hb dX6_doneIn_14 (by decide) ?_
      refine lv_icmp_gt (tgt := 47) hx hb dX6_doneIn_17 (by decide) (fun c1 => ?_) (fun c1 => ?_)
      · replace hM := (if_pos c1).symm.trans hM
        refine lv_iconst (v := (-1 : Int32)) hx hb dX6_doneIn_47 (by decide) ?_
        replace hM := Option.some.inj hM
        subst hM
        exact wk_retMi hx hb hr hlocks hQ rfl rfl hP hD hS dX6_doneIn_48
      · replace hM := (if_neg c1).symm.trans hM
        refine lv_aload_n hx hb dX6_doneIn_20 rfl (lv_at hl 0 rfl) ?_
        refine va_get (D := (dC, dI)) (ci := 4) (v := .ref ((fun i => g (6 + i)) 0)) (C := RX6) (T := TX6) (N := 6) hx hb hts inX6 hown hG.1 hP 0 rfl rfl 1 (by decide) (hts (.fieldLink RX6 16 "WokenDrive" "imagined" "LWokenDrive$Drive;") (List.mem_of_getElem? (i := 1) rfl)) (fun _ h9 => h9) rfl dX6_doneIn_21 ?_
        obtain ⟨r2, hr2, hM⟩ := ob hM
        refine wk_callP (va_runV (As := []) (rest := []) ⟨hx, hb, hml, hown, hts⟩ (c_X3_hasOpenOrder l dC dI cI cD cJ kk (fun i => g (6 + i)) (ss_img y0) _ hr2 H) (cwV 0 hts gX6_doneIn_X3_hasOpenOrder rfl rfl rfl (by decide +kernel) ⟨Nat.le_of_ble_eq_true rfl, Nat.le_of_ble_eq_true rfl⟩) (wk_preV (ci := 2) (q0 := 6) hG hP hD [6, 7, 8, 9, 10] rfl rfl rfl rfl) rfl rfl hl.1 rfl (lv_room (Nat.le_of_ble_eq_true rfl)) dX6_doneIn_24 ⟨Nat.le_of_ble_eq_true rfl, Nat.le_of_ble_eq_true rfl⟩) hS (fun locs hS => ?_)
        refine lv_if_ne (tgt := 32) hx hb dX6_doneIn_27 (by decide) (fun c3 => ?_) (fun c3 => ?_)
        · replace hM := (if_neg c3).symm.trans hM
          refine lv_aload_n hx hb dX6_doneIn_32 rfl (lv_at hl 0 rfl) ?_
          refine va_get (D := (dC, dI)) (ci := 4) (v := .ref ((fun i => g (6 + i)) 0)) (C := RX6) (T := TX6) (N := 6) hx hb hts inX6 hown hG.1 hP 0 rfl rfl 1 (by decide) (hts (.fieldLink RX6 16 "WokenDrive" "imagined" "LWokenDrive$Drive;") (List.mem_of_getElem? (i := 1) rfl)) (fun _ h9 => h9) rfl dX6_doneIn_33 ?_
          refine lv_iconst (v := (1 : Int32)) hx hb dX6_doneIn_36 (by decide) ?_
          obtain ⟨r4, hr4, hM⟩ := ob hM
          obtain ⟨y_5, hy_5, hM⟩ := tbE hM
          refine wk_callM (ws' := (wSys cI cD kk.1 g (ss_img_s y0 r4.2))) (va_runV (As := [.int (1 : Int32)]) (rest := []) ⟨hx, hb, hml, hown, hts⟩ (c_X3_letPass l dC dI cI cD cJ kk (fun i => g (6 + i)) (ss_img y0) (1 : Int32) _ hr4 H) (cwV 1 hts gX6_doneIn_X3_letPass rfl rfl rfl (by decide +kernel) ⟨Nat.le_of_ble_eq_true rfl, Nat.le_of_ble_eq_true rfl⟩) (wk_preV (ci := 2) (q0 := 6) hG hP hD [6, 7, 8, 9, 10] rfl rfl rfl rfl) rfl rfl hl.1 rfl (lv_room (Nat.le_of_ble_eq_true rfl)) dX6_doneIn_37 ⟨Nat.le_of_ble_eq_true rfl, Nat.le_of_ble_eq_true rfl⟩) hP hD hS hA [6, 7, 8, 9, 10] [0, 1, 2, 3, 4, 5, 11, 12, 13, 14, 15, 16, 17, 18, 19, 20, 21, 22, 23, 24, 25, 26, 27, 28, 29, 30, 31, 32, 33, 34, 35, 36, 37] [0, 1, 2, 3, 4, 5, 33, 34, 35, 36, 37, 6, 7, 8, 9, 10, 11, 12, 13, 14, 15, 16, 17, 18, 19, 20, 21, 22, 23, 24, 25, 26, 27, 28, 29, 30, 31, 32] rfl rfl rfl (by decide) rfl rfl (fun H locs hP hD hS => ?_)
          have hP : va_P (dC, dI) vwCl (wSys cI cD kk.1 g y_5) H := by rw [hy_5]; exact hP
          have hD : va_D A (wSys cI cD kk.1 g y_5) := by rw [hy_5]; exact hD
          refine lv_pop hx hb dX6_doneIn_40 rfl ?_
          refine lv_iinc (v := (u1 + 1)) (lv' := [(1, .int (u1 + 1)), (0, .ref (g 0))]) hx hb dX6_doneIn_41 hl (k := 1) rfl rfl (by decide) rfl (fun ls hl => ?_)
          refine lv_goto (tgt := 13) hx hb dX6_doneIn_44 (by decide) ?_
          exact ih13 (u1 + 1) y_5 H _ _ hM hP hD hS (lv_sub hl [1, 0] rfl)
        · replace hM := (if_pos c3).symm.trans hM
          refine lv_iload_n hx hb dX6_doneIn_30 rfl (lv_at hl 1 rfl) ?_
          replace hM := Option.some.inj hM
          subst hM
          exact wk_retMi hx hb hr hlocks hQ rfl rfl hP hD hS dX6_doneIn_31
  unfold M_X6_doneIn at hM
  refine lv_aload_n hx hb dX6_doneIn_0 rfl (lv_at hl 0 rfl) ?_
  refine va_get (D := (dC, dI)) (ci := 4) (v := .ref ((fun i => g (6 + i)) 0)) (C := RX6) (T := TX6) (N := 6) hx hb hts inX6 hown hG.1 hP 0 rfl rfl 1 (by decide) (hts (.fieldLink RX6 16 "WokenDrive" "imagined" "LWokenDrive$Drive;") (List.mem_of_getElem? (i := 1) rfl)) (fun _ h9 => h9) rfl dX6_doneIn_1 ?_
  refine lv_aload_n hx hb dX6_doneIn_4 rfl (lv_at hl 0 rfl) ?_
  refine va_get (D := (dC, dI)) (ci := 4) (v := .ref ((fun i => g (1 + i)) 0)) (C := RX6) (T := TX6) (N := 6) hx hb hts inX6 hown hG.1 hP 0 rfl rfl 0 (by decide) (hts (.fieldLink RX6 10 "WokenDrive" "drive" "LWokenDrive$Drive;") (List.mem_of_getElem? (i := 2) rfl)) (fun _ h9 => h9) rfl dX6_doneIn_5 ?_
  obtain ⟨r1, hr1, hM⟩ := tbE hM
  obtain ⟨y_2, hy_2, hM⟩ := tbE hM
  refine wk_callM (ws' := (wSys cI cD kk.1 g (ss_img_s x r1))) (va_runV (As := [.ref ((fun i => g (1 + i)) 0)]) (rest := []) ⟨hx, hb, hml, hown, hts⟩ (c_X3_become l dC dI cI cD cJ kk (fun i => g (6 + i)) (fun i => g (1 + i)) (ss_img x) (ss_drv x) _ hr1.symm H) (cwV 1 hts gX6_doneIn_X3_become rfl rfl rfl (by decide +kernel) ⟨Nat.le_of_ble_eq_true rfl, Nat.le_of_ble_eq_true rfl⟩) (wk_preV (ci := 2) (q0 := 6) hG hP hD [6, 7, 8, 9, 10, 1, 2, 3, 4, 5] rfl rfl rfl rfl) rfl rfl hl.1 rfl (lv_room (Nat.le_of_ble_eq_true rfl)) dX6_doneIn_8 ⟨Nat.le_of_ble_eq_true rfl, Nat.le_of_ble_eq_true rfl⟩) hP hD hS hA [6, 7, 8, 9, 10, 1, 2, 3, 4, 5] [0, 11, 12, 13, 14, 15, 16, 17, 18, 19, 20, 21, 22, 23, 24, 25, 26, 27, 28, 29, 30, 31, 32, 33, 34, 35, 36, 37] [0, 33, 34, 35, 36, 37, 28, 29, 30, 31, 32, 1, 2, 3, 4, 5, 6, 7, 8, 9, 10, 11, 12, 13, 14, 15, 16, 17, 18, 19, 20, 21, 22, 23, 24, 25, 26, 27] rfl rfl rfl (by decide) rfl rfl (fun H locs hP hD hS => ?_)
  have hP : va_P (dC, dI) vwCl (wSys cI cD kk.1 g y_2) H := by rw [hy_2]; exact hP
  have hD : va_D A (wSys cI cD kk.1 g y_2) := by rw [hy_2]; exact hD
  refine lv_iconst (v := (0 : Int32)) hx hb dX6_doneIn_11 (by decide) ?_
  refine lv_istore_n (lv' := [(1, .int (0 : Int32)), (0, .ref (g 0))]) hx hb dX6_doneIn_12 rfl hl (by decide) rfl (fun ls hl => ?_)
  exact hL13 400 (0 : Int32) y_2 H _ _ hM hP hD hS (lv_sub hl [1, 0] rfl)
set_option maxHeartbeats 4000000 in
set_option maxRecDepth 100000 in
theorem c_X6_wholeFact (l : Launch) (dC : Nat → ClassId) (dI : Nat → Nat → Nat) (cI cD cJ : ClassId) (kk : wAd) (g : Nat → Nat) (x : SS) (p1 : Int32) (out : Int32) (hM : M_X6_wholeFact x p1 = some out) : CP l yX6_wholeFact wsX6_wholeFact ({ frames := 3, cells := 0, slots := 0, locals := 67 } : Room) dC dI (wTys cI cD cJ) [.ref (g 0), .int p1] (wSys cI cD kk.1 g x) (some (.int out)) := by
  refine wk_enterP (cc := cX6_wholeFact) (maxL := 2) (ret := (some .int)) (by decide) rfl (Nat.le_of_ble_eq_true rfl) ?_
  intro p e s m below meth c A Q ls hB hP hD hA hQ hl
  obtain ⟨hx, hb, hml, hr, hts, hown, hname, hlocks, hG⟩ := hB
  have hown : s.vm.findClass RX6 = some m.cls := hown
  have hS : va_S A s.heap s.heap [] := va_S.rf
  have hl : lv_has ls 2 [(0, .ref (g 0)), (1, .int p1)] := hl
  have inX1 : ∀ w ∈ wsX10, w ∈ wsX6_wholeFact := fun _ h => List.mem_cons_of_mem _ (List.mem_append_left _ (List.mem_append_left _ (List.mem_append_right _ h)))
  have inX6 : ∀ w ∈ wsX60, w ∈ wsX6_wholeFact := fun _ h => List.mem_cons_of_mem _ (List.mem_append_left _ (List.mem_append_left _ (List.mem_append_left _ (List.mem_append_right _ h))))
  generalize ([] : List Loc) = locs at hS ⊢
  have hB24 : ∀ (w0 : Int32) (locs : List Loc) (ls : Array Slot), M_X6_wholeFact_24 x p1 w0 = some out → va_S A s.heap s.heap locs → lv_has ls 2 [] → W p l e ({ frames := 3, cells := 0, slots := 0, locals := 67 } : Room) s m ([.ref (g 0), .int p1] : List Value).toArray below meth c s.heap locs 0 0 Q (F0 m 24 ls [.int w0]) := by
    intro w0 locs ls hM hS hl
    unfold M_X6_wholeFact_24 at hM
    replace hM := Option.some.inj hM
    subst hM
    exact wk_retPi hx hb hr hlocks hQ rfl rfl hS dX6_wholeFact_24
  unfold M_X6_wholeFact at hM
  refine lv_iload_n hx hb dX6_wholeFact_0 rfl (lv_at hl 1 rfl) ?_
  refine lv_bipush (v := (11 : Int32)) hx hb dX6_wholeFact_1 (by decide) ?_
  refine lv_icmp_ne (tgt := 16) hx hb dX6_wholeFact_3 (by decide) (fun c1 => ?_) (fun c1 => ?_)
  · replace hM := (if_neg c1).symm.trans hM
    refine lv_aload_n hx hb dX6_wholeFact_16 rfl (lv_at hl 0 rfl) ?_
    refine va_get (D := (dC, dI)) (ci := 4) (v := .ref ((fun i => g (1 + i)) 0)) (C := RX6) (T := TX6) (N := 6) hx hb hts inX6 hown hG.1 hP 0 rfl rfl 0 (by decide) (hts (.fieldLink RX6 10 "WokenDrive" "drive" "LWokenDrive$Drive;") (List.mem_of_getElem? (i := 3) rfl)) (fun _ h9 => h9) rfl dX6_wholeFact_17 ?_
    refine lv_iload_n hx hb dX6_wholeFact_20 rfl (lv_at hl 1 rfl) ?_
    obtain ⟨r2, hr2, hM⟩ := ob hM
    refine wk_callP (va_runV (As := [.int p1]) (rest := []) ⟨hx, hb, hml, hown, hts⟩ (c_X3_wholeFact l dC dI cI cD cJ kk (fun i => g (1 + i)) (ss_drv x) p1 _ hr2 s.heap) (cwV 1 hts gX6_wholeFact_X3_wholeFact rfl rfl rfl (by decide +kernel) ⟨Nat.le_of_ble_eq_true rfl, Nat.le_of_ble_eq_true rfl⟩) (wk_preV (ci := 2) (q0 := 1) hG hP hD [1, 2, 3, 4, 5] rfl rfl rfl rfl) rfl rfl hl.1 rfl (lv_room (Nat.le_of_ble_eq_true rfl)) dX6_wholeFact_21 ⟨Nat.le_of_ble_eq_true rfl, Nat.le_of_ble_eq_true rfl⟩) hS (fun locs hS => ?_)
    exact hB24 r2  _ _ hM hS (lv_sub hl [] rfl)
  · replace hM := (if_pos c1).symm.trans hM
    refine lv_aload_n hx hb dX6_wholeFact_6 rfl (lv_at hl 0 rfl) ?_
    refine va_get (D := (dC, dI)) (ci := 4) (v := .ref ((fun i => g (33 + i)) 0)) (C := RX6) (T := TX6) (N := 6) hx hb hts inX6 hown hG.1 hP 0 rfl rfl 3 (by decide) (hts (.fieldLink RX6 29 "WokenDrive" "text" "LWokenDrive$CommandText;") (List.mem_of_getElem? (i := 1) rfl)) (fun _ h9 => h9) rfl dX6_wholeFact_7 ?_
    refine va_get (D := (dC, dI)) (ci := 0) (v := .int (ts_len (ss_txt x))) (C := RX1) (T := TX1) (N := 5) hx hb hts inX1 hown hG.1 hP 33 rfl rfl 2 (by decide) (hts (.fieldLink RX6 228 "WokenDrive$CommandText" "length" "I") (List.mem_of_getElem? (i := 2) rfl)) (fun _ h9 => h9) rfl dX6_wholeFact_10 ?_
    refine lv_goto (tgt := 24) hx hb dX6_wholeFact_13 (by decide) ?_
    exact hB24 (ts_len (ss_txt x))  _ _ hM hS (lv_sub hl [] rfl)
set_option maxHeartbeats 4000000 in
set_option maxRecDepth 100000 in
theorem c_X6_mixBlocks (l : Launch) (dC : Nat → ClassId) (dI : Nat → Nat → Nat) (cI cD cJ : ClassId) (kk : wAd) (g : Nat → Nat) (x : SS) (p1 : Int64) (out : Int64 × SS) (hM : M_X6_mixBlocks x p1 = some out) : CM l yX6_mixBlocks wsX6_mixBlocks ({ frames := 3, cells := 0, slots := 0, locals := 69 } : Room) dC dI (wTys cI cD cJ) [.ref (g 0), .long p1] (wSys cI cD kk.1 g x) (some (.long out.1)) (wSys cI cD kk.1 g out.2) 0 0 := by
  refine wk_enterM (cc := cX6_mixBlocks) (maxL := 6) (ret := (some .long)) (by decide) rfl (Nat.le_of_ble_eq_true rfl) ?_
  intro p e s m below meth c A Q ls hB hA hP hD hQ hl
  obtain ⟨hx, hb, hml, hr, hts, hown, hname, hlocks, hG⟩ := hB
  have hown : s.vm.findClass RX6 = some m.cls := hown
  have hS : va_S A s.heap s.heap [] := va_S.rf
  have hl : lv_has ls 6 [(0, .ref (g 0)), (1, .long p1)] := hl
  have inX3 : ∀ w ∈ wsX30, w ∈ wsX6_mixBlocks := fun _ h => List.mem_cons_of_mem _ (List.mem_append_right _ h)
  have inX6 : ∀ w ∈ wsX60, w ∈ wsX6_mixBlocks := fun _ h => List.mem_cons_of_mem _ (List.mem_append_left _ (List.mem_append_right _ h))
  obtain ⟨H, hH⟩ : ∃ z, z = s.heap := ⟨_, rfl⟩
  have hP : va_P (dC, dI) vwCl (wSys cI cD kk.1 g x) H := by rw [hH]; exact hP
  have hS : va_S A s.heap H [] := by rw [hH]; exact hS
  refine wk_at hH ?_
  generalize ([] : List Loc) = locs at hS ⊢
  have hL16 : ∀ (n16 : Nat) (u3 : Int64) (u5 : Int32) (y0 : SS) (H : Heap) (locs : List Loc) (ls : Array Slot), lpF (M_X6_mixBlocks_16s x p1) n16 (u3, u5, y0) = some out → va_P (dC, dI) vwCl (wSys cI cD kk.1 g y0) H → va_D A (wSys cI cD kk.1 g y0) → va_S A s.heap H locs → lv_has ls 6 [(0, .ref (g 0)), (3, .long u3), (5, .int u5)] → W p l e ({ frames := 3, cells := 0, slots := 0, locals := 69 } : Room) s m ([.ref (g 0), .long p1] : List Value).toArray below meth c H locs 0 0 Q (F0 m 16 ls []) := by
    intro n16
    induction n16 with
    | zero => intro u3 u5 y0 H locs ls hM; exact lpF_0 hM
    | succ n16 ih16 =>
      intro u3 u5 y0 H locs ls hM hP hD hS hl
      replace hM : M_X6_mixBlocks_16s x p1 (lpF (M_X6_mixBlocks_16s x p1) n16) (u3, u5, y0) = some out := hM
      unfold M_X6_mixBlocks_16s at hM
      try dsimp only at hM
      refine lv_iload hx hb dX6_mixBlocks_16 (lv_at hl 2 rfl) ?_
      refine lv_bipush (v := (16 : Int32)) hx hb dX6_mixBlocks_18 (by decide) ?_
      refine lv_icmp_ge (tgt := 62) hx hb dX6_mixBlocks_20 (by decide) (fun c1 => ?_) (fun c1 => ?_)
      · replace hM := (if_pos c1).symm.trans hM
        refine lv_lload_n hx hb dX6_mixBlocks_62 rfl (lv_at hl 1 rfl) ?_
        replace hM := Option.some.inj hM
        subst hM
        exact wk_retMl hx hb hr hlocks hQ rfl hP hD hS dX6_mixBlocks_63
      · replace hM := (if_neg c1).symm.trans hM
        refine lv_lload_n hx hb dX6_mixBlocks_23 rfl (lv_at hl 1 rfl) ?_
        refine lv_aload_n hx hb dX6_mixBlocks_24 rfl (lv_at hl 0 rfl) ?_
        refine va_get (D := (dC, dI)) (ci := 4) (v := .ref ((fun i => g (1 + i)) 0)) (C := RX6) (T := TX6) (N := 6) hx hb hts inX6 hown hG.1 hP 0 rfl rfl 0 (by decide) (hts (.fieldLink RX6 10 "WokenDrive" "drive" "LWokenDrive$Drive;") (List.mem_of_getElem? (i := 1) rfl)) (fun _ h9 => h9) rfl dX6_mixBlocks_25 ?_
        refine va_get (D := (dC, dI)) (ci := 2) (v := .ref ((fun i => g (1 + i)) 1)) (C := RX3) (T := TX3) (N := 8) hx hb hts inX3 hown hG.1 hP 1 rfl rfl 0 (by decide) (hts (.fieldLink RX6 108 "WokenDrive$Drive" "values" "[I") (List.mem_of_getElem? (i := 3) rfl)) (fun _ h9 => h9) rfl dX6_mixBlocks_28 ?_
        refine lv_iload hx hb dX6_mixBlocks_31 (lv_at hl 2 rfl) ?_
        refine wk_callP (va_runS (As := [.ref ((fun i => g (1 + i)) 1), .int u5]) (rest := [.long u3]) ⟨hx, hb, hml, hown, hts⟩ (c_X6_at l dC dI cI cD cJ kk ((fun i => g (1 + i)) 1) 16 (ds_val (ss_drv y0)) u5 (by decide) _ rfl H) (va_cwS 2 hts gX6_mixBlocks_X6_at rfl rfl rfl (by decide +kernel) ⟨Nat.le_of_ble_eq_true rfl, Nat.le_of_ble_eq_true rfl⟩) (wk_preS hG hP hD [2] rfl rfl) rfl rfl hl.1 rfl (lv_room (Nat.le_of_ble_eq_true rfl)) dX6_mixBlocks_33 ⟨Nat.le_of_ble_eq_true rfl, Nat.le_of_ble_eq_true rfl⟩) hS (fun locs hS => ?_)
        refine lv_i2l hx hb dX6_mixBlocks_36 rfl ?_
        refine wk_callP (va_runS (As := [.long u3, .long ((M_X6_at 16 (ds_val (ss_drv y0)) u5)).toInt64]) (rest := []) ⟨hx, hb, hml, hown, hts⟩ (c_X6_mix l dC dI cI cD cJ kk  u3 (((M_X6_at 16 (ds_val (ss_drv y0)) u5)).toInt64) _ rfl H) (va_cwS 2 hts gX6_mixBlocks_X6_mix rfl rfl rfl (by decide +kernel) ⟨Nat.le_of_ble_eq_true rfl, Nat.le_of_ble_eq_true rfl⟩) (wk_preS hG hP hD [] rfl rfl) rfl rfl hl.1 rfl (lv_room (Nat.le_of_ble_eq_true rfl)) dX6_mixBlocks_37 ⟨Nat.le_of_ble_eq_true rfl, Nat.le_of_ble_eq_true rfl⟩) hS (fun locs hS => ?_)
        refine lv_lstore_n (lv' := [(3, .long (M_X6_mix u3 (((M_X6_at 16 (ds_val (ss_drv y0)) u5)).toInt64))), (0, .ref (g 0)), (5, .int u5)]) hx hb dX6_mixBlocks_40 rfl hl (by decide) rfl (fun ls hl => ?_)
        refine lv_lload_n hx hb dX6_mixBlocks_41 rfl (lv_at hl 0 rfl) ?_
        refine lv_aload_n hx hb dX6_mixBlocks_42 rfl (lv_at hl 1 rfl) ?_
        refine va_get (D := (dC, dI)) (ci := 4) (v := .ref (g 36)) (C := RX6) (T := TX6) (N := 6) hx hb hts inX6 hown hG.1 hP 0 rfl rfl 4 (by decide) (hts (.fieldLink RX6 33 "WokenDrive" "finals" "[I") (List.mem_of_getElem? (i := 2) rfl)) (fun _ h9 => h9) rfl dX6_mixBlocks_43 ?_
        refine lv_iload hx hb dX6_mixBlocks_46 (lv_at hl 2 rfl) ?_
        refine wk_callP (va_runS (As := [.ref (g 36), .int u5]) (rest := [.long (M_X6_mix u3 (((M_X6_at 16 (ds_val (ss_drv y0)) u5)).toInt64))]) ⟨hx, hb, hml, hown, hts⟩ (c_X6_at l dC dI cI cD cJ kk (g 36) 16 (ss_fin y0) u5 (by decide) _ rfl H) (va_cwS 2 hts gX6_mixBlocks_X6_at rfl rfl rfl (by decide +kernel) ⟨Nat.le_of_ble_eq_true rfl, Nat.le_of_ble_eq_true rfl⟩) (wk_preS hG hP hD [36] rfl rfl) rfl rfl hl.1 rfl (lv_room (Nat.le_of_ble_eq_true rfl)) dX6_mixBlocks_48 ⟨Nat.le_of_ble_eq_true rfl, Nat.le_of_ble_eq_true rfl⟩) hS (fun locs hS => ?_)
        refine lv_i2l hx hb dX6_mixBlocks_51 rfl ?_
        refine wk_callP (va_runS (As := [.long (M_X6_mix u3 (((M_X6_at 16 (ds_val (ss_drv y0)) u5)).toInt64)), .long ((M_X6_at 16 (ss_fin y0) u5)).toInt64]) (rest := []) ⟨hx, hb, hml, hown, hts⟩ (c_X6_mix l dC dI cI cD cJ kk  (M_X6_mix u3 (((M_X6_at 16 (ds_val (ss_drv y0)) u5)).toInt64)) (((M_X6_at 16 (ss_fin y0) u5)).toInt64) _ rfl H) (va_cwS 2 hts gX6_mixBlocks_X6_mix rfl rfl rfl (by decide +kernel) ⟨Nat.le_of_ble_eq_true rfl, Nat.le_of_ble_eq_true rfl⟩) (wk_preS hG hP hD [] rfl rfl) rfl rfl hl.1 rfl (lv_room (Nat.le_of_ble_eq_true rfl)) dX6_mixBlocks_52 ⟨Nat.le_of_ble_eq_true rfl, Nat.le_of_ble_eq_true rfl⟩) hS (fun locs hS => ?_)
        refine lv_lstore_n (lv' := [(3, .long (M_X6_mix (M_X6_mix u3 (((M_X6_at 16 (ds_val (ss_drv y0)) u5)).toInt64)) (((M_X6_at 16 (ss_fin y0) u5)).toInt64))), (0, .ref (g 0)), (5, .int u5)]) hx hb dX6_mixBlocks_55 rfl hl (by decide) rfl (fun ls hl => ?_)
        refine lv_iinc (v := (u5 + 1)) (lv' := [(5, .int (u5 + 1)), (3, .long (M_X6_mix (M_X6_mix u3 (((M_X6_at 16 (ds_val (ss_drv y0)) u5)).toInt64)) (((M_X6_at 16 (ss_fin y0) u5)).toInt64))), (0, .ref (g 0))]) hx hb dX6_mixBlocks_56 hl (k := 2) rfl rfl (by decide) rfl (fun ls hl => ?_)
        refine lv_goto (tgt := 16) hx hb dX6_mixBlocks_59 (by decide) ?_
        exact ih16 (M_X6_mix (M_X6_mix u3 (((M_X6_at 16 (ds_val (ss_drv y0)) u5)).toInt64)) (((M_X6_at 16 (ss_fin y0) u5)).toInt64)) (u5 + 1) y0 H _ _ hM hP hD hS (lv_sub hl [2, 1, 0] rfl)
  unfold M_X6_mixBlocks at hM
  refine lv_lload_n hx hb dX6_mixBlocks_0 rfl (lv_at hl 1 rfl) ?_
  refine lv_lstore_n (lv' := [(3, .long p1), (0, .ref (g 0)), (1, .long p1)]) hx hb dX6_mixBlocks_1 rfl hl (by decide) rfl (fun ls hl => ?_)
  refine lv_aload_n hx hb dX6_mixBlocks_2 rfl (lv_at hl 1 rfl) ?_
  refine va_get (D := (dC, dI)) (ci := 4) (v := .ref ((fun i => g (1 + i)) 0)) (C := RX6) (T := TX6) (N := 6) hx hb hts inX6 hown hG.1 hP 0 rfl rfl 0 (by decide) (hts (.fieldLink RX6 10 "WokenDrive" "drive" "LWokenDrive$Drive;") (List.mem_of_getElem? (i := 1) rfl)) (fun _ h9 => h9) rfl dX6_mixBlocks_3 ?_
  refine lv_aload_n hx hb dX6_mixBlocks_6 rfl (lv_at hl 1 rfl) ?_
  refine va_get (D := (dC, dI)) (ci := 4) (v := .ref (g 36)) (C := RX6) (T := TX6) (N := 6) hx hb hts inX6 hown hG.1 hP 0 rfl rfl 4 (by decide) (hts (.fieldLink RX6 33 "WokenDrive" "finals" "[I") (List.mem_of_getElem? (i := 2) rfl)) (fun _ h9 => h9) rfl dX6_mixBlocks_7 ?_
  obtain ⟨r1, hr1, hM⟩ := ob hM
  obtain ⟨y_2, hy_2, hM⟩ := tbE hM
  refine wk_callM (ws' := (wSys cI cD kk.1 g (ss_fin_s x r1))) (va_runV (As := [.ref (g 36)]) (rest := []) ⟨hx, hb, hml, hown, hts⟩ (c_X3_reckonFinals l dC dI cI cD cJ kk (fun i => g (1 + i)) (g 36) (ss_drv x) (ss_fin x) _ hr1 H) (cwV 1 hts gX6_mixBlocks_X3_reckonFinals rfl rfl rfl (by decide +kernel) ⟨Nat.le_of_ble_eq_true rfl, Nat.le_of_ble_eq_true rfl⟩) (wk_preV (ci := 2) (q0 := 1) hG hP hD [1, 2, 3, 4, 5, 36] rfl rfl rfl rfl) rfl rfl hl.1 rfl (lv_room (Nat.le_of_ble_eq_true rfl)) dX6_mixBlocks_10 ⟨Nat.le_of_ble_eq_true rfl, Nat.le_of_ble_eq_true rfl⟩) hP hD hS hA [1, 2, 3, 4, 5, 36] [0, 6, 7, 8, 9, 10, 11, 12, 13, 14, 15, 16, 17, 18, 19, 20, 21, 22, 23, 24, 25, 26, 27, 28, 29, 30, 31, 32, 33, 34, 35, 37] [0, 32, 33, 34, 35, 36, 1, 2, 3, 4, 5, 6, 7, 8, 9, 10, 11, 12, 13, 14, 15, 16, 17, 18, 19, 20, 21, 22, 23, 24, 25, 26, 27, 28, 29, 30, 37, 31] rfl rfl rfl (by decide) rfl rfl (fun H locs hP hD hS => ?_)
  have hP : va_P (dC, dI) vwCl (wSys cI cD kk.1 g y_2) H := by rw [hy_2]; exact hP
  have hD : va_D A (wSys cI cD kk.1 g y_2) := by rw [hy_2]; exact hD
  refine lv_iconst (v := (0 : Int32)) hx hb dX6_mixBlocks_13 (by decide) ?_
  refine lv_istore (lv' := [(5, .int (0 : Int32)), (3, .long p1), (0, .ref (g 0)), (1, .long p1)]) hx hb dX6_mixBlocks_14 hl (by decide) rfl (fun ls hl => ?_)
  exact hL16 64 p1 (0 : Int32) y_2 H _ _ hM hP hD hS (lv_sub hl [2, 1, 0] rfl)
set_option maxHeartbeats 4000000 in
set_option maxRecDepth 100000 in
theorem c_X6_mixOrders (l : Launch) (dC : Nat → ClassId) (dI : Nat → Nat → Nat) (cI cD cJ : ClassId) (kk : wAd) (g : Nat → Nat) (x : SS) (p1 : Int64) (out : Int64 × SS) (hM : M_X6_mixOrders x p1 = some out) : CM l yX6_mixOrders wsX6_mixOrders ({ frames := 4, cells := 0, slots := 0, locals := 92 } : Room) dC dI (wTys cI cD cJ) [.ref (g 0), .long p1] (wSys cI cD kk.1 g x) (some (.long out.1)) (wSys cI cD kk.1 g out.2) 0 0 := by
  refine wk_enterM (cc := cX6_mixOrders) (maxL := 7) (ret := (some .long)) (by decide) rfl (Nat.le_of_ble_eq_true rfl) ?_
  intro p e s m below meth c A Q ls hB hA hP hD hQ hl
  obtain ⟨hx, hb, hml, hr, hts, hown, hname, hlocks, hG⟩ := hB
  have hown : s.vm.findClass RX6 = some m.cls := hown
  have hS : va_S A s.heap s.heap [] := va_S.rf
  have hl : lv_has ls 7 [(0, .ref (g 0)), (1, .long p1)] := hl
  have inX3 : ∀ w ∈ wsX30, w ∈ wsX6_mixOrders := fun _ h => List.mem_cons_of_mem _ (List.mem_append_right _ h)
  have inX6 : ∀ w ∈ wsX60, w ∈ wsX6_mixOrders := fun _ h => List.mem_cons_of_mem _ (List.mem_append_left _ (List.mem_append_right _ h))
  obtain ⟨H, hH⟩ : ∃ z, z = s.heap := ⟨_, rfl⟩
  have hP : va_P (dC, dI) vwCl (wSys cI cD kk.1 g x) H := by rw [hH]; exact hP
  have hS : va_S A s.heap H [] := by rw [hH]; exact hS
  refine wk_at hH ?_
  generalize ([] : List Loc) = locs at hS ⊢
  have hL16 : ∀ (n16 : Nat) (u3 : Int64) (u5 : Int32) (y0 : SS) (H : Heap) (locs : List Loc) (ls : Array Slot), lpF (M_X6_mixOrders_16s x p1) n16 (u3, u5, y0) = some out → va_P (dC, dI) vwCl (wSys cI cD kk.1 g y0) H → va_D A (wSys cI cD kk.1 g y0) → va_S A s.heap H locs → lv_has ls 7 [(0, .ref (g 0)), (3, .long u3), (5, .int u5)] → W p l e ({ frames := 4, cells := 0, slots := 0, locals := 92 } : Room) s m ([.ref (g 0), .long p1] : List Value).toArray below meth c H locs 0 0 Q (F0 m 16 ls []) := by
    intro n16
    induction n16 with
    | zero => intro u3 u5 y0 H locs ls hM; exact lpF_0 hM
    | succ n16 ih16 =>
      have hL31 : ∀ (n31 : Nat) (u3 : Int64) (u5 : Int32) (u6 : Int32) (y0 : SS) (H : Heap) (locs : List Loc) (ls : Array Slot), lpF (M_X6_mixOrders_31s x p1 (lpF (M_X6_mixOrders_16s x p1) n16)) n31 (u3, u5, u6, y0) = some out → va_P (dC, dI) vwCl (wSys cI cD kk.1 g y0) H → va_D A (wSys cI cD kk.1 g y0) → va_S A s.heap H locs → lv_has ls 7 [(0, .ref (g 0)), (3, .long u3), (5, .int u5), (6, .int u6)] → W p l e ({ frames := 4, cells := 0, slots := 0, locals := 92 } : Room) s m ([.ref (g 0), .long p1] : List Value).toArray below meth c H locs 0 0 Q (F0 m 31 ls []) := by
        intro n31
        induction n31 with
        | zero => intro u3 u5 u6 y0 H locs ls hM; exact lpF_0 hM
        | succ n31 ih31 =>
          intro u3 u5 u6 y0 H locs ls hM hP hD hS hl
          replace hM : M_X6_mixOrders_31s x p1 (lpF (M_X6_mixOrders_16s x p1) n16) (lpF (M_X6_mixOrders_31s x p1 (lpF (M_X6_mixOrders_16s x p1) n16)) n31) (u3, u5, u6, y0) = some out := hM
          unfold M_X6_mixOrders_31s at hM
          try dsimp only at hM
          refine lv_iload hx hb dX6_mixOrders_31 (lv_at hl 3 rfl) ?_
          refine lv_bipush (v := (10 : Int32)) hx hb dX6_mixOrders_33 (by decide) ?_
          refine lv_icmp_ge (tgt := 61) hx hb dX6_mixOrders_35 (by decide) (fun c1 => ?_) (fun c1 => ?_)
          · replace hM := (if_pos c1).symm.trans hM
            refine lv_lload_n hx hb dX6_mixOrders_61 rfl (lv_at hl 1 rfl) ?_
            refine lv_aload_n hx hb dX6_mixOrders_62 rfl (lv_at hl 0 rfl) ?_
            refine va_get (D := (dC, dI)) (ci := 4) (v := .ref ((fun i => g (1 + i)) 0)) (C := RX6) (T := TX6) (N := 6) hx hb hts inX6 hown hG.1 hP 0 rfl rfl 0 (by decide) (hts (.fieldLink RX6 10 "WokenDrive" "drive" "LWokenDrive$Drive;") (List.mem_of_getElem? (i := 1) rfl)) (fun _ h9 => h9) rfl dX6_mixOrders_63 ?_
            refine lv_iload hx hb dX6_mixOrders_66 (lv_at hl 2 rfl) ?_
            obtain ⟨r2, hr2, hM⟩ := ob hM
            refine wk_callP (va_runV (As := [.int u5]) (rest := [.long u3]) ⟨hx, hb, hml, hown, hts⟩ (c_X3_firstAwaited l dC dI cI cD cJ kk (fun i => g (1 + i)) (ss_drv y0) u5 _ hr2 H) (cwV 1 hts gX6_mixOrders_X3_firstAwaited rfl rfl rfl (by decide +kernel) ⟨Nat.le_of_ble_eq_true rfl, Nat.le_of_ble_eq_true rfl⟩) (wk_preV (ci := 2) (q0 := 1) hG hP hD [1, 2, 3, 4, 5] rfl rfl rfl rfl) rfl rfl hl.1 rfl (lv_room (Nat.le_of_ble_eq_true rfl)) dX6_mixOrders_68 ⟨Nat.le_of_ble_eq_true rfl, Nat.le_of_ble_eq_true rfl⟩) hS (fun locs hS => ?_)
            refine lv_i2l hx hb dX6_mixOrders_71 rfl ?_
            refine wk_callP (va_runS (As := [.long u3, .long (r2).toInt64]) (rest := []) ⟨hx, hb, hml, hown, hts⟩ (c_X6_mix l dC dI cI cD cJ kk  u3 ((r2).toInt64) _ rfl H) (va_cwS 2 hts gX6_mixOrders_X6_mix rfl rfl rfl (by decide +kernel) ⟨Nat.le_of_ble_eq_true rfl, Nat.le_of_ble_eq_true rfl⟩) (wk_preS hG hP hD [] rfl rfl) rfl rfl hl.1 rfl (lv_room (Nat.le_of_ble_eq_true rfl)) dX6_mixOrders_72 ⟨Nat.le_of_ble_eq_true rfl, Nat.le_of_ble_eq_true rfl⟩) hS (fun locs hS => ?_)
            refine lv_lstore_n (lv' := [(3, .long (M_X6_mix u3 ((r2).toInt64))), (0, .ref (g 0)), (5, .int u5), (6, .int u6)]) hx hb dX6_mixOrders_75 rfl hl (by decide) rfl (fun ls hl => ?_)
            refine lv_lload_n hx hb dX6_mixOrders_76 rfl (lv_at hl 0 rfl) ?_
            refine lv_aload_n hx hb dX6_mixOrders_77 rfl (lv_at hl 1 rfl) ?_
            refine va_get (D := (dC, dI)) (ci := 4) (v := .ref (g 37)) (C := RX6) (T := TX6) (N := 6) hx hb hts inX6 hown hG.1 hP 0 rfl rfl 5 (by decide) (hts (.fieldLink RX6 37 "WokenDrive" "depths" "[I") (List.mem_of_getElem? (i := 2) rfl)) (fun _ h9 => h9) rfl dX6_mixOrders_78 ?_
            refine lv_iload hx hb dX6_mixOrders_81 (lv_at hl 2 rfl) ?_
            refine wk_callP (va_runS (As := [.ref (g 37), .int u5]) (rest := [.long (M_X6_mix u3 ((r2).toInt64))]) ⟨hx, hb, hml, hown, hts⟩ (c_X6_at l dC dI cI cD cJ kk (g 37) 40 (ss_dep y0) u5 (by decide) _ rfl H) (va_cwS 2 hts gX6_mixOrders_X6_at rfl rfl rfl (by decide +kernel) ⟨Nat.le_of_ble_eq_true rfl, Nat.le_of_ble_eq_true rfl⟩) (wk_preS hG hP hD [37] rfl rfl) rfl rfl hl.1 rfl (lv_room (Nat.le_of_ble_eq_true rfl)) dX6_mixOrders_83 ⟨Nat.le_of_ble_eq_true rfl, Nat.le_of_ble_eq_true rfl⟩) hS (fun locs hS => ?_)
            refine lv_i2l hx hb dX6_mixOrders_86 rfl ?_
            refine wk_callP (va_runS (As := [.long (M_X6_mix u3 ((r2).toInt64)), .long ((M_X6_at 40 (ss_dep y0) u5)).toInt64]) (rest := []) ⟨hx, hb, hml, hown, hts⟩ (c_X6_mix l dC dI cI cD cJ kk  (M_X6_mix u3 ((r2).toInt64)) (((M_X6_at 40 (ss_dep y0) u5)).toInt64) _ rfl H) (va_cwS 2 hts gX6_mixOrders_X6_mix rfl rfl rfl (by decide +kernel) ⟨Nat.le_of_ble_eq_true rfl, Nat.le_of_ble_eq_true rfl⟩) (wk_preS hG hP hD [] rfl rfl) rfl rfl hl.1 rfl (lv_room (Nat.le_of_ble_eq_true rfl)) dX6_mixOrders_87 ⟨Nat.le_of_ble_eq_true rfl, Nat.le_of_ble_eq_true rfl⟩) hS (fun locs hS => ?_)
            refine lv_lstore_n (lv' := [(3, .long (M_X6_mix (M_X6_mix u3 ((r2).toInt64)) (((M_X6_at 40 (ss_dep y0) u5)).toInt64))), (0, .ref (g 0)), (5, .int u5), (6, .int u6)]) hx hb dX6_mixOrders_90 rfl hl (by decide) rfl (fun ls hl => ?_)
            refine lv_iinc (v := (u5 + 1)) (lv' := [(5, .int (u5 + 1)), (3, .long (M_X6_mix (M_X6_mix u3 ((r2).toInt64)) (((M_X6_at 40 (ss_dep y0) u5)).toInt64))), (0, .ref (g 0)), (6, .int u6)]) hx hb dX6_mixOrders_91 hl (k := 2) rfl rfl (by decide) rfl (fun ls hl => ?_)
            refine lv_goto (tgt := 16) hx hb dX6_mixOrders_94 (by decide) ?_
            exact ih16 (M_X6_mix (M_X6_mix u3 ((r2).toInt64)) (((M_X6_at 40 (ss_dep y0) u5)).toInt64)) (u5 + 1) y0 H _ _ hM hP hD hS (lv_sub hl [2, 1, 0] rfl)
          · replace hM := (if_neg c1).symm.trans hM
            refine lv_lload_n hx hb dX6_mixOrders_38 rfl (lv_at hl 1 rfl) ?_
            refine lv_aload_n hx hb dX6_mixOrders_39 rfl (lv_at hl 0 rfl) ?_
            refine va_get (D := (dC, dI)) (ci := 4) (v := .ref ((fun i => g (1 + i)) 0)) (C := RX6) (T := TX6) (N := 6) hx hb hts inX6 hown hG.1 hP 0 rfl rfl 0 (by decide) (hts (.fieldLink RX6 10 "WokenDrive" "drive" "LWokenDrive$Drive;") (List.mem_of_getElem? (i := 1) rfl)) (fun _ h9 => h9) rfl dX6_mixOrders_40 ?_
            refine lv_iload hx hb dX6_mixOrders_43 (lv_at hl 2 rfl) ?_
            refine lv_iload hx hb dX6_mixOrders_45 (lv_at hl 3 rfl) ?_
            refine wk_callP (va_runV (As := [.int u5, .int u6]) (rest := [.long u3]) ⟨hx, hb, hml, hown, hts⟩ (c_X3_fact l dC dI cI cD cJ kk (fun i => g (1 + i)) (ss_drv y0) u5 u6 _ rfl H) (cwV 2 hts gX6_mixOrders_X3_fact rfl rfl rfl (by decide +kernel) ⟨Nat.le_of_ble_eq_true rfl, Nat.le_of_ble_eq_true rfl⟩) (wk_preV (ci := 2) (q0 := 1) hG hP hD [1, 2, 3, 4, 5] rfl rfl rfl rfl) rfl rfl hl.1 rfl (lv_room (Nat.le_of_ble_eq_true rfl)) dX6_mixOrders_47 ⟨Nat.le_of_ble_eq_true rfl, Nat.le_of_ble_eq_true rfl⟩) hS (fun locs hS => ?_)
            refine lv_i2l hx hb dX6_mixOrders_50 rfl ?_
            refine wk_callP (va_runS (As := [.long u3, .long ((M_X3_fact (ss_drv y0) u5 u6)).toInt64]) (rest := []) ⟨hx, hb, hml, hown, hts⟩ (c_X6_mix l dC dI cI cD cJ kk  u3 (((M_X3_fact (ss_drv y0) u5 u6)).toInt64) _ rfl H) (va_cwS 2 hts gX6_mixOrders_X6_mix rfl rfl rfl (by decide +kernel) ⟨Nat.le_of_ble_eq_true rfl, Nat.le_of_ble_eq_true rfl⟩) (wk_preS hG hP hD [] rfl rfl) rfl rfl hl.1 rfl (lv_room (Nat.le_of_ble_eq_true rfl)) dX6_mixOrders_51 ⟨Nat.le_of_ble_eq_true rfl, Nat.le_of_ble_eq_true rfl⟩) hS (fun locs hS => ?_)
            refine lv_lstore_n (lv' := [(3, .long (M_X6_mix u3 (((M_X3_fact (ss_drv y0) u5 u6)).toInt64))), (0, .ref (g 0)), (5, .int u5), (6, .int u6)]) hx hb dX6_mixOrders_54 rfl hl (by decide) rfl (fun ls hl => ?_)
            refine lv_iinc (v := (u6 + 1)) (lv' := [(6, .int (u6 + 1)), (3, .long (M_X6_mix u3 (((M_X3_fact (ss_drv y0) u5 u6)).toInt64))), (0, .ref (g 0)), (5, .int u5)]) hx hb dX6_mixOrders_55 hl (k := 3) rfl rfl (by decide) rfl (fun ls hl => ?_)
            refine lv_goto (tgt := 31) hx hb dX6_mixOrders_58 (by decide) ?_
            exact ih31 (M_X6_mix u3 (((M_X3_fact (ss_drv y0) u5 u6)).toInt64)) u5 (u6 + 1) y0 H _ _ hM hP hD hS (lv_sub hl [2, 1, 3, 0] rfl)
      intro u3 u5 y0 H locs ls hM hP hD hS hl
      replace hM : M_X6_mixOrders_16s x p1 (lpF (M_X6_mixOrders_16s x p1) n16) (u3, u5, y0) = some out := hM
      unfold M_X6_mixOrders_16s at hM
      try dsimp only at hM
      refine lv_iload hx hb dX6_mixOrders_16 (lv_at hl 2 rfl) ?_
      refine lv_aload_n hx hb dX6_mixOrders_18 rfl (lv_at hl 0 rfl) ?_
      refine va_get (D := (dC, dI)) (ci := 4) (v := .ref ((fun i => g (1 + i)) 0)) (C := RX6) (T := TX6) (N := 6) hx hb hts inX6 hown hG.1 hP 0 rfl rfl 0 (by decide) (hts (.fieldLink RX6 10 "WokenDrive" "drive" "LWokenDrive$Drive;") (List.mem_of_getElem? (i := 1) rfl)) (fun _ h9 => h9) rfl dX6_mixOrders_19 ?_
      refine va_get (D := (dC, dI)) (ci := 2) (v := .int (ds_ord (ss_drv y0))) (C := RX3) (T := TX3) (N := 8) hx hb hts inX3 hown hG.1 hP 1 rfl rfl 4 (by decide) (hts (.fieldLink RX6 213 "WokenDrive$Drive" "orders" "I") (List.mem_of_getElem? (i := 3) rfl)) (fun _ h9 => h9) rfl dX6_mixOrders_22 ?_
      refine lv_icmp_ge (tgt := 97) hx hb dX6_mixOrders_25 (by decide) (fun c1 => ?_) (fun c1 => ?_)
      · replace hM := (if_pos c1).symm.trans hM
        refine lv_lload_n hx hb dX6_mixOrders_97 rfl (lv_at hl 1 rfl) ?_
        replace hM := Option.some.inj hM
        subst hM
        exact wk_retMl hx hb hr hlocks hQ rfl hP hD hS dX6_mixOrders_98
      · replace hM := (if_neg c1).symm.trans hM
        refine lv_iconst (v := (0 : Int32)) hx hb dX6_mixOrders_28 (by decide) ?_
        refine lv_istore (lv' := [(6, .int (0 : Int32)), (0, .ref (g 0)), (3, .long u3), (5, .int u5)]) hx hb dX6_mixOrders_29 hl (by decide) rfl (fun ls hl => ?_)
        exact hL31 64 u3 u5 (0 : Int32) y0 H _ _ hM hP hD hS (lv_sub hl [1, 2, 3, 0] rfl)
  unfold M_X6_mixOrders at hM
  refine lv_lload_n hx hb dX6_mixOrders_0 rfl (lv_at hl 1 rfl) ?_
  refine lv_lstore_n (lv' := [(3, .long p1), (0, .ref (g 0)), (1, .long p1)]) hx hb dX6_mixOrders_1 rfl hl (by decide) rfl (fun ls hl => ?_)
  refine lv_aload_n hx hb dX6_mixOrders_2 rfl (lv_at hl 1 rfl) ?_
  refine va_get (D := (dC, dI)) (ci := 4) (v := .ref ((fun i => g (1 + i)) 0)) (C := RX6) (T := TX6) (N := 6) hx hb hts inX6 hown hG.1 hP 0 rfl rfl 0 (by decide) (hts (.fieldLink RX6 10 "WokenDrive" "drive" "LWokenDrive$Drive;") (List.mem_of_getElem? (i := 1) rfl)) (fun _ h9 => h9) rfl dX6_mixOrders_3 ?_
  refine lv_aload_n hx hb dX6_mixOrders_6 rfl (lv_at hl 1 rfl) ?_
  refine va_get (D := (dC, dI)) (ci := 4) (v := .ref (g 37)) (C := RX6) (T := TX6) (N := 6) hx hb hts inX6 hown hG.1 hP 0 rfl rfl 5 (by decide) (hts (.fieldLink RX6 37 "WokenDrive" "depths" "[I") (List.mem_of_getElem? (i := 2) rfl)) (fun _ h9 => h9) rfl dX6_mixOrders_7 ?_
  obtain ⟨r1, hr1, hM⟩ := ob hM
  obtain ⟨y_2, hy_2, hM⟩ := tbE hM
  refine wk_callM (ws' := (wSys cI cD kk.1 g (ss_dep_s x r1))) (va_runV (As := [.ref (g 37)]) (rest := []) ⟨hx, hb, hml, hown, hts⟩ (c_X3_reckonDepths l dC dI cI cD cJ kk (fun i => g (1 + i)) (g 37) (ss_drv x) (ss_dep x) _ hr1 H) (cwV 1 hts gX6_mixOrders_X3_reckonDepths rfl rfl rfl (by decide +kernel) ⟨Nat.le_of_ble_eq_true rfl, Nat.le_of_ble_eq_true rfl⟩) (wk_preV (ci := 2) (q0 := 1) hG hP hD [1, 2, 3, 4, 5, 37] rfl rfl rfl rfl) rfl rfl hl.1 rfl (lv_room (Nat.le_of_ble_eq_true rfl)) dX6_mixOrders_10 ⟨Nat.le_of_ble_eq_true rfl, Nat.le_of_ble_eq_true rfl⟩) hP hD hS hA [1, 2, 3, 4, 5, 37] [0, 6, 7, 8, 9, 10, 11, 12, 13, 14, 15, 16, 17, 18, 19, 20, 21, 22, 23, 24, 25, 26, 27, 28, 29, 30, 31, 32, 33, 34, 35, 36] [0, 32, 33, 34, 35, 36, 1, 2, 3, 4, 5, 6, 7, 8, 9, 10, 11, 12, 13, 14, 15, 16, 17, 18, 19, 20, 21, 22, 23, 24, 25, 26, 27, 28, 29, 30, 31, 37] rfl rfl rfl (by decide) rfl rfl (fun H locs hP hD hS => ?_)
  have hP : va_P (dC, dI) vwCl (wSys cI cD kk.1 g y_2) H := by rw [hy_2]; exact hP
  have hD : va_D A (wSys cI cD kk.1 g y_2) := by rw [hy_2]; exact hD
  refine lv_iconst (v := (0 : Int32)) hx hb dX6_mixOrders_13 (by decide) ?_
  refine lv_istore (lv' := [(5, .int (0 : Int32)), (3, .long p1), (0, .ref (g 0)), (1, .long p1)]) hx hb dX6_mixOrders_14 hl (by decide) rfl (fun ls hl => ?_)
  exact hL16 64 p1 (0 : Int32) y_2 H _ _ hM hP hD hS (lv_sub hl [2, 1, 0] rfl)
set_option maxHeartbeats 4000000 in
set_option maxRecDepth 100000 in
theorem c_X6_mixController (l : Launch) (dC : Nat → ClassId) (dI : Nat → Nat → Nat) (cI cD cJ : ClassId) (kk : wAd) (g : Nat → Nat) (x : SS) (p1 : Int64) (p2 : Int32) (out : Int64) (hM : M_X6_mixController x p1 p2 = some out) : CP l yX6_mixController wsX6_mixController ({ frames := 4, cells := 0, slots := 0, locals := 91 } : Room) dC dI (wTys cI cD cJ) [.ref (g 0), .long p1, .int p2] (wSys cI cD kk.1 g x) (some (.long out)) := by
  refine wk_enterP (cc := cX6_mixController) (maxL := 7) (ret := (some .long)) (by decide) rfl (Nat.le_of_ble_eq_true rfl) ?_
  intro p e s m below meth c A Q ls hB hP hD hA hQ hl
  obtain ⟨hx, hb, hml, hr, hts, hown, hname, hlocks, hG⟩ := hB
  have hown : s.vm.findClass RX6 = some m.cls := hown
  have hS : va_S A s.heap s.heap [] := va_S.rf
  have hl : lv_has ls 7 [(0, .ref (g 0)), (1, .long p1), (3, .int p2)] := hl
  have inX3 : ∀ w ∈ wsX30, w ∈ wsX6_mixController := fun _ h => List.mem_cons_of_mem _ (List.mem_append_left _ (List.mem_append_right _ h))
  have inX6 : ∀ w ∈ wsX60, w ∈ wsX6_mixController := fun _ h => List.mem_cons_of_mem _ (List.mem_append_left _ (List.mem_append_left _ (List.mem_append_right _ h)))
  generalize ([] : List Loc) = locs at hS ⊢
  have hL40 : ∀ (n40 : Nat) (u4 : Int64) (u6 : Int32) (locs : List Loc) (ls : Array Slot), lpF (M_X6_mixController_40s x p1 p2) n40 (u4, u6) = some out → va_S A s.heap s.heap locs → lv_has ls 7 [(0, .ref (g 0)), (3, .int p2), (4, .long u4), (6, .int u6)] → W p l e ({ frames := 4, cells := 0, slots := 0, locals := 91 } : Room) s m ([.ref (g 0), .long p1, .int p2] : List Value).toArray below meth c s.heap locs 0 0 Q (F0 m 40 ls []) := by
    intro n40
    induction n40 with
    | zero => intro u4 u6 locs ls hM; exact lpF_0 hM
    | succ n40 ih40 =>
      have hB78 : ∀ (u4 : Int64) (u6 : Int32) (locs : List Loc) (ls : Array Slot), M_X6_mixController_78 x p1 p2 (lpF (M_X6_mixController_40s x p1 p2) n40) u4 u6 = some out → va_S A s.heap s.heap locs → lv_has ls 7 [(0, .ref (g 0)), (3, .int p2), (4, .long u4), (6, .int u6)] → W p l e ({ frames := 4, cells := 0, slots := 0, locals := 91 } : Room) s m ([.ref (g 0), .long p1, .int p2] : List Value).toArray below meth c s.heap locs 0 0 Q (F0 m 78 ls []) := by
        intro u4 u6 locs ls hM hS hl
        unfold M_X6_mixController_78 at hM
        refine lv_iinc (v := (u6 + 1)) (lv' := [(6, .int (u6 + 1)), (0, .ref (g 0)), (3, .int p2), (4, .long u4)]) hx hb dX6_mixController_78 hl (k := 3) rfl rfl (by decide) rfl (fun ls hl => ?_)
        refine lv_goto (tgt := 40) hx hb dX6_mixController_81 (by decide) ?_
        exact ih40 u4 (u6 + 1)  _ _ hM hS (lv_sub hl [1, 2, 3, 0] rfl)
      intro u4 u6 locs ls hM hS hl
      replace hM : M_X6_mixController_40s x p1 p2 (lpF (M_X6_mixController_40s x p1 p2) n40) (u4, u6) = some out := hM
      unfold M_X6_mixController_40s at hM
      try dsimp only at hM
      refine lv_iload hx hb dX6_mixController_40 (lv_at hl 3 rfl) ?_
      refine lv_aload_n hx hb dX6_mixController_42 rfl (lv_at hl 0 rfl) ?_
      refine va_get (D := (dC, dI)) (ci := 4) (v := .ref ((fun i => g (1 + i)) 0)) (C := RX6) (T := TX6) (N := 6) hx hb hts inX6 hown hG.1 hP 0 rfl rfl 0 (by decide) (hts (.fieldLink RX6 10 "WokenDrive" "drive" "LWokenDrive$Drive;") (List.mem_of_getElem? (i := 1) rfl)) (fun _ h9 => h9) rfl dX6_mixController_43 ?_
      refine va_get (D := (dC, dI)) (ci := 2) (v := .int (ds_ord (ss_drv x))) (C := RX3) (T := TX3) (N := 8) hx hb hts inX3 hown hG.1 hP 1 rfl rfl 4 (by decide) (hts (.fieldLink RX6 213 "WokenDrive$Drive" "orders" "I") (List.mem_of_getElem? (i := 2) rfl)) (fun _ h9 => h9) rfl dX6_mixController_46 ?_
      refine lv_icmp_ge (tgt := 84) hx hb dX6_mixController_49 (by decide) (fun c1 => ?_) (fun c1 => ?_)
      · replace hM := (if_pos c1).symm.trans hM
        refine lv_lload hx hb dX6_mixController_84 (lv_at hl 2 rfl) ?_
        refine lv_aload_n hx hb dX6_mixController_86 rfl (lv_at hl 0 rfl) ?_
        refine va_get (D := (dC, dI)) (ci := 4) (v := .ref ((fun i => g (1 + i)) 0)) (C := RX6) (T := TX6) (N := 6) hx hb hts inX6 hown hG.1 hP 0 rfl rfl 0 (by decide) (hts (.fieldLink RX6 10 "WokenDrive" "drive" "LWokenDrive$Drive;") (List.mem_of_getElem? (i := 1) rfl)) (fun _ h9 => h9) rfl dX6_mixController_87 ?_
        refine lv_iload_n hx hb dX6_mixController_90 rfl (lv_at hl 1 rfl) ?_
        obtain ⟨r2, hr2, hM⟩ := ob hM
        refine wk_callP (va_runV (As := [.int p2]) (rest := [.long u4]) ⟨hx, hb, hml, hown, hts⟩ (c_X3_nextOf l dC dI cI cD cJ kk (fun i => g (1 + i)) (ss_drv x) p2 _ hr2 s.heap) (cwV 1 hts gX6_mixController_X3_nextOf rfl rfl rfl (by decide +kernel) ⟨Nat.le_of_ble_eq_true rfl, Nat.le_of_ble_eq_true rfl⟩) (wk_preV (ci := 2) (q0 := 1) hG hP hD [1, 2, 3, 4, 5] rfl rfl rfl rfl) rfl rfl hl.1 rfl (lv_room (Nat.le_of_ble_eq_true rfl)) dX6_mixController_91 ⟨Nat.le_of_ble_eq_true rfl, Nat.le_of_ble_eq_true rfl⟩) hS (fun locs hS => ?_)
        refine lv_i2l hx hb dX6_mixController_94 rfl ?_
        refine wk_callP (va_runS (As := [.long u4, .long (r2).toInt64]) (rest := []) ⟨hx, hb, hml, hown, hts⟩ (c_X6_mix l dC dI cI cD cJ kk  u4 ((r2).toInt64) _ rfl s.heap) (va_cwS 2 hts gX6_mixController_X6_mix rfl rfl rfl (by decide +kernel) ⟨Nat.le_of_ble_eq_true rfl, Nat.le_of_ble_eq_true rfl⟩) (wk_preS hG hP hD [] rfl rfl) rfl rfl hl.1 rfl (lv_room (Nat.le_of_ble_eq_true rfl)) dX6_mixController_95 ⟨Nat.le_of_ble_eq_true rfl, Nat.le_of_ble_eq_true rfl⟩) hS (fun locs hS => ?_)
        replace hM := Option.some.inj hM
        subst hM
        exact wk_retPl hx hb hr hlocks hQ rfl hS dX6_mixController_98
      · replace hM := (if_neg c1).symm.trans hM
        refine lv_aload_n hx hb dX6_mixController_52 rfl (lv_at hl 0 rfl) ?_
        refine va_get (D := (dC, dI)) (ci := 4) (v := .ref ((fun i => g (1 + i)) 0)) (C := RX6) (T := TX6) (N := 6) hx hb hts inX6 hown hG.1 hP 0 rfl rfl 0 (by decide) (hts (.fieldLink RX6 10 "WokenDrive" "drive" "LWokenDrive$Drive;") (List.mem_of_getElem? (i := 1) rfl)) (fun _ h9 => h9) rfl dX6_mixController_53 ?_
        refine lv_iload_n hx hb dX6_mixController_56 rfl (lv_at hl 1 rfl) ?_
        refine wk_callP (va_runV (As := [.int p2]) (rest := []) ⟨hx, hb, hml, hown, hts⟩ (c_X3_controllerAt l dC dI cI cD cJ kk (fun i => g (1 + i)) (ss_drv x) p2 s.heap) (cwV 1 hts gX6_mixController_X3_controllerAt rfl rfl rfl (by decide +kernel) ⟨Nat.le_of_ble_eq_true rfl, Nat.le_of_ble_eq_true rfl⟩) (wk_preV (ci := 2) (q0 := 1) hG hP hD [1, 2, 3, 4, 5] rfl rfl rfl rfl) rfl rfl hl.1 rfl (lv_room (Nat.le_of_ble_eq_true rfl)) dX6_mixController_57 ⟨Nat.le_of_ble_eq_true rfl, Nat.le_of_ble_eq_true rfl⟩) hS (fun locs hS => ?_)
        refine lv_iload hx hb dX6_mixController_60 (lv_at hl 3 rfl) ?_
        refine wk_callP (va_runV (As := [.int u6]) (rest := []) ⟨hx, hb, hml, hown, hts⟩ (c_X2_holds l dC dI cI cD cJ kk (ctlA (fun i => g (1 + i)) p2) (dCtl (ss_drv x) p2) u6 _ rfl s.heap) (cwV 1 hts gX6_mixController_X2_holds rfl rfl rfl (by decide +kernel) ⟨Nat.le_of_ble_eq_true rfl, Nat.le_of_ble_eq_true rfl⟩) (wk_preVC hG hP hD 4 5 rfl rfl (by decide)) rfl rfl hl.1 rfl (lv_room (Nat.le_of_ble_eq_true rfl)) dX6_mixController_62 ⟨Nat.le_of_ble_eq_true rfl, Nat.le_of_ble_eq_true rfl⟩) hS (fun locs hS => ?_)
        refine lv_if_eq (tgt := 78) hx hb dX6_mixController_65 (by decide) (fun c3 => ?_) (fun c3 => ?_)
        · replace hM := (if_pos c3).symm.trans hM
          exact hB78 u4 u6  _ _ hM hS (lv_sub hl [0, 1, 2, 3] rfl)
        · replace hM := (if_neg c3).symm.trans hM
          refine lv_lload hx hb dX6_mixController_68 (lv_at hl 2 rfl) ?_
          refine lv_iload hx hb dX6_mixController_70 (lv_at hl 3 rfl) ?_
          refine lv_i2l hx hb dX6_mixController_72 rfl ?_
          refine wk_callP (va_runS (As := [.long u4, .long (u6).toInt64]) (rest := []) ⟨hx, hb, hml, hown, hts⟩ (c_X6_mix l dC dI cI cD cJ kk  u4 ((u6).toInt64) _ rfl s.heap) (va_cwS 2 hts gX6_mixController_X6_mix rfl rfl rfl (by decide +kernel) ⟨Nat.le_of_ble_eq_true rfl, Nat.le_of_ble_eq_true rfl⟩) (wk_preS hG hP hD [] rfl rfl) rfl rfl hl.1 rfl (lv_room (Nat.le_of_ble_eq_true rfl)) dX6_mixController_73 ⟨Nat.le_of_ble_eq_true rfl, Nat.le_of_ble_eq_true rfl⟩) hS (fun locs hS => ?_)
          refine lv_lstore (lv' := [(4, .long (M_X6_mix u4 ((u6).toInt64))), (0, .ref (g 0)), (3, .int p2), (6, .int u6)]) hx hb dX6_mixController_76 hl (by decide) rfl (fun ls hl => ?_)
          exact hB78 (M_X6_mix u4 ((u6).toInt64)) u6  _ _ hM hS (lv_sub hl [1, 2, 0, 3] rfl)
  have hL6 : ∀ (n6 : Nat) (u4 : Int64) (u6 : Int32) (locs : List Loc) (ls : Array Slot), lpF (M_X6_mixController_6s x p1 p2) n6 (u4, u6) = some out → va_S A s.heap s.heap locs → lv_has ls 7 [(0, .ref (g 0)), (3, .int p2), (4, .long u4), (6, .int u6)] → W p l e ({ frames := 4, cells := 0, slots := 0, locals := 91 } : Room) s m ([.ref (g 0), .long p1, .int p2] : List Value).toArray below meth c s.heap locs 0 0 Q (F0 m 6 ls []) := by
    intro n6
    induction n6 with
    | zero => intro u4 u6 locs ls hM; exact lpF_0 hM
    | succ n6 ih6 =>
      intro u4 u6 locs ls hM hS hl
      replace hM : M_X6_mixController_6s x p1 p2 (lpF (M_X6_mixController_6s x p1 p2) n6) (u4, u6) = some out := hM
      unfold M_X6_mixController_6s at hM
      try dsimp only at hM
      refine lv_iload hx hb dX6_mixController_6 (lv_at hl 3 rfl) ?_
      refine lv_bipush (v := (9 : Int32)) hx hb dX6_mixController_8 (by decide) ?_
      refine lv_icmp_ge (tgt := 37) hx hb dX6_mixController_10 (by decide) (fun c1 => ?_) (fun c1 => ?_)
      · replace hM := (if_pos c1).symm.trans hM
        refine lv_iconst (v := (0 : Int32)) hx hb dX6_mixController_37 (by decide) ?_
        refine lv_istore (lv' := [(6, .int (0 : Int32)), (0, .ref (g 0)), (3, .int p2), (4, .long u4)]) hx hb dX6_mixController_38 hl (by decide) rfl (fun ls hl => ?_)
        exact hL40 64 u4 (0 : Int32)  _ _ hM hS (lv_sub hl [1, 2, 3, 0] rfl)
      · replace hM := (if_neg c1).symm.trans hM
        refine lv_lload hx hb dX6_mixController_13 (lv_at hl 2 rfl) ?_
        refine lv_aload_n hx hb dX6_mixController_15 rfl (lv_at hl 0 rfl) ?_
        refine va_get (D := (dC, dI)) (ci := 4) (v := .ref ((fun i => g (1 + i)) 0)) (C := RX6) (T := TX6) (N := 6) hx hb hts inX6 hown hG.1 hP 0 rfl rfl 0 (by decide) (hts (.fieldLink RX6 10 "WokenDrive" "drive" "LWokenDrive$Drive;") (List.mem_of_getElem? (i := 1) rfl)) (fun _ h9 => h9) rfl dX6_mixController_16 ?_
        refine lv_iload_n hx hb dX6_mixController_19 rfl (lv_at hl 1 rfl) ?_
        refine lv_iload hx hb dX6_mixController_20 (lv_at hl 3 rfl) ?_
        obtain ⟨r2, hr2, hM⟩ := ob hM
        refine wk_callP (va_runV (As := [.int p2, .int u6]) (rest := [.long u4]) ⟨hx, hb, hml, hown, hts⟩ (c_X3_controllerFact l dC dI cI cD cJ kk (fun i => g (1 + i)) (ss_drv x) p2 u6 _ hr2 s.heap) (cwV 2 hts gX6_mixController_X3_controllerFact rfl rfl rfl (by decide +kernel) ⟨Nat.le_of_ble_eq_true rfl, Nat.le_of_ble_eq_true rfl⟩) (wk_preV (ci := 2) (q0 := 1) hG hP hD [1, 2, 3, 4, 5] rfl rfl rfl rfl) rfl rfl hl.1 rfl (lv_room (Nat.le_of_ble_eq_true rfl)) dX6_mixController_22 ⟨Nat.le_of_ble_eq_true rfl, Nat.le_of_ble_eq_true rfl⟩) hS (fun locs hS => ?_)
        refine lv_i2l hx hb dX6_mixController_25 rfl ?_
        refine wk_callP (va_runS (As := [.long u4, .long (r2).toInt64]) (rest := []) ⟨hx, hb, hml, hown, hts⟩ (c_X6_mix l dC dI cI cD cJ kk  u4 ((r2).toInt64) _ rfl s.heap) (va_cwS 2 hts gX6_mixController_X6_mix rfl rfl rfl (by decide +kernel) ⟨Nat.le_of_ble_eq_true rfl, Nat.le_of_ble_eq_true rfl⟩) (wk_preS hG hP hD [] rfl rfl) rfl rfl hl.1 rfl (lv_room (Nat.le_of_ble_eq_true rfl)) dX6_mixController_26 ⟨Nat.le_of_ble_eq_true rfl, Nat.le_of_ble_eq_true rfl⟩) hS (fun locs hS => ?_)
        refine lv_lstore (lv' := [(4, .long (M_X6_mix u4 ((r2).toInt64))), (0, .ref (g 0)), (3, .int p2), (6, .int u6)]) hx hb dX6_mixController_29 hl (by decide) rfl (fun ls hl => ?_)
        refine lv_iinc (v := (u6 + 1)) (lv' := [(6, .int (u6 + 1)), (4, .long (M_X6_mix u4 ((r2).toInt64))), (0, .ref (g 0)), (3, .int p2)]) hx hb dX6_mixController_31 hl (k := 3) rfl rfl (by decide) rfl (fun ls hl => ?_)
        refine lv_goto (tgt := 6) hx hb dX6_mixController_34 (by decide) ?_
        exact ih6 (M_X6_mix u4 ((r2).toInt64)) (u6 + 1)  _ _ hM hS (lv_sub hl [2, 3, 1, 0] rfl)
  unfold M_X6_mixController at hM
  refine lv_lload_n hx hb dX6_mixController_0 rfl (lv_at hl 1 rfl) ?_
  refine lv_lstore (lv' := [(4, .long p1), (0, .ref (g 0)), (1, .long p1), (3, .int p2)]) hx hb dX6_mixController_1 hl (by decide) rfl (fun ls hl => ?_)
  refine lv_iconst (v := (0 : Int32)) hx hb dX6_mixController_3 (by decide) ?_
  refine lv_istore (lv' := [(6, .int (0 : Int32)), (4, .long p1), (0, .ref (g 0)), (1, .long p1), (3, .int p2)]) hx hb dX6_mixController_4 hl (by decide) rfl (fun ls hl => ?_)
  exact hL6 64 p1 (0 : Int32)  _ _ hM hS (lv_sub hl [2, 4, 1, 0] rfl)
set_option maxHeartbeats 4000000 in
set_option maxRecDepth 100000 in
theorem c_X6_digest (l : Launch) (dC : Nat → ClassId) (dI : Nat → Nat → Nat) (cI cD cJ : ClassId) (kk : wAd) (g : Nat → Nat) (x : SS) (out : Int64 × SS) (hM : M_X6_digest x = some out) : CM l yX6_digest wsX6_digest ({ frames := 5, cells := 0, slots := 0, locals := 118 } : Room) dC dI (wTys cI cD cJ) [.ref (g 0)] (wSys cI cD kk.1 g x) (some (.long out.1)) (wSys cI cD kk.1 g out.2) 0 0 := by
  refine wk_enterM (cc := cX6_digest) (maxL := 4) (ret := (some .long)) (by decide) rfl (Nat.le_of_ble_eq_true rfl) ?_
  intro p e s m below meth c A Q ls hB hA hP hD hQ hl
  obtain ⟨hx, hb, hml, hr, hts, hown, hname, hlocks, hG⟩ := hB
  have hown : s.vm.findClass RX6 = some m.cls := hown
  have hS : va_S A s.heap s.heap [] := va_S.rf
  have hl : lv_has ls 4 [(0, .ref (g 0))] := hl
  have inX4 : ∀ w ∈ wsX40, w ∈ wsX6_digest := fun _ h => List.mem_cons_of_mem _ (List.mem_append_left _ (List.mem_append_left _ (List.mem_append_left _ (List.mem_append_right _ h))))
  have inX6 : ∀ w ∈ wsX60, w ∈ wsX6_digest := fun _ h => List.mem_cons_of_mem _ (List.mem_append_left _ (List.mem_append_left _ (List.mem_append_left _ (List.mem_append_left _ (List.mem_append_right _ h)))))
  obtain ⟨H, hH⟩ : ∃ z, z = s.heap := ⟨_, rfl⟩
  have hP : va_P (dC, dI) vwCl (wSys cI cD kk.1 g x) H := by rw [hH]; exact hP
  have hS : va_S A s.heap H [] := by rw [hH]; exact hS
  refine wk_at hH ?_
  generalize ([] : List Loc) = locs at hS ⊢
  have hL54 : ∀ (n54 : Nat) (u1 : Int64) (u3 : Int32) (y0 : SS) (H : Heap) (locs : List Loc) (ls : Array Slot), lpF (M_X6_digest_54s x) n54 (u1, u3, y0) = some out → va_P (dC, dI) vwCl (wSys cI cD kk.1 g y0) H → va_D A (wSys cI cD kk.1 g y0) → va_S A s.heap H locs → lv_has ls 4 [(0, .ref (g 0)), (1, .long u1), (3, .int u3)] → W p l e ({ frames := 5, cells := 0, slots := 0, locals := 118 } : Room) s m ([.ref (g 0)] : List Value).toArray below meth c H locs 0 0 Q (F0 m 54 ls []) := by
    intro n54
    induction n54 with
    | zero => intro u1 u3 y0 H locs ls hM; exact lpF_0 hM
    | succ n54 ih54 =>
      intro u1 u3 y0 H locs ls hM hP hD hS hl
      replace hM : M_X6_digest_54s x (lpF (M_X6_digest_54s x) n54) (u1, u3, y0) = some out := hM
      unfold M_X6_digest_54s at hM
      try dsimp only at hM
      refine lv_iload_n hx hb dX6_digest_54 rfl (lv_at hl 2 rfl) ?_
      refine lv_iconst (v := (2 : Int32)) hx hb dX6_digest_55 (by decide) ?_
      refine lv_icmp_ge (tgt := 72) hx hb dX6_digest_56 (by decide) (fun c1 => ?_) (fun c1 => ?_)
      · replace hM := (if_pos c1).symm.trans hM
        refine lv_lload_n hx hb dX6_digest_72 rfl (lv_at hl 1 rfl) ?_
        replace hM := Option.some.inj hM
        subst hM
        exact wk_retMl hx hb hr hlocks hQ rfl hP hD hS dX6_digest_73
      · replace hM := (if_neg c1).symm.trans hM
        refine lv_aload_n hx hb dX6_digest_59 rfl (lv_at hl 0 rfl) ?_
        refine lv_lload_n hx hb dX6_digest_60 rfl (lv_at hl 1 rfl) ?_
        refine lv_iload_n hx hb dX6_digest_61 rfl (lv_at hl 2 rfl) ?_
        obtain ⟨r2, hr2, hM⟩ := ob hM
        refine wk_callP (va_runV (As := [.long u1, .int u3]) (rest := []) ⟨hx, hb, hml, hown, hts⟩ (c_X6_mixController l dC dI cI cD cJ kk g y0 u1 u3 _ hr2 H) (cwV 2 hts gX6_digest_X6_mixController rfl rfl rfl (by decide +kernel) ⟨Nat.le_of_ble_eq_true rfl, Nat.le_of_ble_eq_true rfl⟩) (wk_preV (ci := 4) (q0 := 0) hG hP hD [0, 1, 2, 3, 4, 5, 6, 7, 8, 9, 10, 11, 12, 13, 14, 15, 16, 17, 18, 19, 20, 21, 22, 23, 24, 25, 26, 27, 28, 29, 30, 31, 32, 33, 34, 35, 36, 37] rfl rfl rfl rfl) rfl rfl hl.1 rfl (lv_room (Nat.le_of_ble_eq_true rfl)) dX6_digest_62 ⟨Nat.le_of_ble_eq_true rfl, Nat.le_of_ble_eq_true rfl⟩) hS (fun locs hS => ?_)
        refine lv_lstore_n (lv' := [(1, .long r2), (0, .ref (g 0)), (3, .int u3)]) hx hb dX6_digest_65 rfl hl (by decide) rfl (fun ls hl => ?_)
        refine lv_iinc (v := (u3 + 1)) (lv' := [(3, .int (u3 + 1)), (1, .long r2), (0, .ref (g 0))]) hx hb dX6_digest_66 hl (k := 2) rfl rfl (by decide) rfl (fun ls hl => ?_)
        refine lv_goto (tgt := 54) hx hb dX6_digest_69 (by decide) ?_
        exact ih54 r2 (u3 + 1) y0 H _ _ hM hP hD hS (lv_sub hl [2, 1, 0] rfl)
  have hL17 : ∀ (n17 : Nat) (u1 : Int64) (u3 : Int32) (y0 : SS) (H : Heap) (locs : List Loc) (ls : Array Slot), lpF (M_X6_digest_17s x) n17 (u1, u3, y0) = some out → va_P (dC, dI) vwCl (wSys cI cD kk.1 g y0) H → va_D A (wSys cI cD kk.1 g y0) → va_S A s.heap H locs → lv_has ls 4 [(0, .ref (g 0)), (1, .long u1), (3, .int u3)] → W p l e ({ frames := 5, cells := 0, slots := 0, locals := 118 } : Room) s m ([.ref (g 0)] : List Value).toArray below meth c H locs 0 0 Q (F0 m 17 ls []) := by
    intro n17
    induction n17 with
    | zero => intro u1 u3 y0 H locs ls hM; exact lpF_0 hM
    | succ n17 ih17 =>
      intro u1 u3 y0 H locs ls hM hP hD hS hl
      replace hM : M_X6_digest_17s x (lpF (M_X6_digest_17s x) n17) (u1, u3, y0) = some out := hM
      unfold M_X6_digest_17s at hM
      try dsimp only at hM
      refine lv_iload_n hx hb dX6_digest_17 rfl (lv_at hl 2 rfl) ?_
      refine lv_bipush (v := (12 : Int32)) hx hb dX6_digest_18 (by decide) ?_
      refine lv_icmp_ge (tgt := 40) hx hb dX6_digest_20 (by decide) (fun c1 => ?_) (fun c1 => ?_)
      · replace hM := (if_pos c1).symm.trans hM
        refine lv_aload_n hx hb dX6_digest_40 rfl (lv_at hl 0 rfl) ?_
        refine lv_lload_n hx hb dX6_digest_41 rfl (lv_at hl 1 rfl) ?_
        obtain ⟨r2, hr2, hM⟩ := ob hM
        refine wk_callM (ws' := (wSys cI cD kk.1 g r2.2)) (va_runV (As := [.long u1]) (rest := []) ⟨hx, hb, hml, hown, hts⟩ (c_X6_mixBlocks l dC dI cI cD cJ kk g y0 u1 _ hr2 H) (cwV 1 hts gX6_digest_X6_mixBlocks rfl rfl rfl (by decide +kernel) ⟨Nat.le_of_ble_eq_true rfl, Nat.le_of_ble_eq_true rfl⟩) (wk_preV (ci := 4) (q0 := 0) hG hP hD [0, 1, 2, 3, 4, 5, 6, 7, 8, 9, 10, 11, 12, 13, 14, 15, 16, 17, 18, 19, 20, 21, 22, 23, 24, 25, 26, 27, 28, 29, 30, 31, 32, 33, 34, 35, 36, 37] rfl rfl rfl rfl) rfl rfl hl.1 rfl (lv_room (Nat.le_of_ble_eq_true rfl)) dX6_digest_42 ⟨Nat.le_of_ble_eq_true rfl, Nat.le_of_ble_eq_true rfl⟩) hP hD hS hA [0, 1, 2, 3, 4, 5, 6, 7, 8, 9, 10, 11, 12, 13, 14, 15, 16, 17, 18, 19, 20, 21, 22, 23, 24, 25, 26, 27, 28, 29, 30, 31, 32, 33, 34, 35, 36, 37] [] [0, 1, 2, 3, 4, 5, 6, 7, 8, 9, 10, 11, 12, 13, 14, 15, 16, 17, 18, 19, 20, 21, 22, 23, 24, 25, 26, 27, 28, 29, 30, 31, 32, 33, 34, 35, 36, 37] rfl rfl rfl (by decide) rfl rfl (fun H locs hP hD hS => ?_)
        refine lv_lstore_n (lv' := [(1, .long r2.1), (0, .ref (g 0)), (3, .int u3)]) hx hb dX6_digest_45 rfl hl (by decide) rfl (fun ls hl => ?_)
        refine lv_aload_n hx hb dX6_digest_46 rfl (lv_at hl 1 rfl) ?_
        refine lv_lload_n hx hb dX6_digest_47 rfl (lv_at hl 0 rfl) ?_
        obtain ⟨r3, hr3, hM⟩ := ob hM
        refine wk_callM (ws' := (wSys cI cD kk.1 g r3.2)) (va_runV (As := [.long r2.1]) (rest := []) ⟨hx, hb, hml, hown, hts⟩ (c_X6_mixOrders l dC dI cI cD cJ kk g r2.2 r2.1 _ hr3 H) (cwV 1 hts gX6_digest_X6_mixOrders rfl rfl rfl (by decide +kernel) ⟨Nat.le_of_ble_eq_true rfl, Nat.le_of_ble_eq_true rfl⟩) (wk_preV (ci := 4) (q0 := 0) hG hP hD [0, 1, 2, 3, 4, 5, 6, 7, 8, 9, 10, 11, 12, 13, 14, 15, 16, 17, 18, 19, 20, 21, 22, 23, 24, 25, 26, 27, 28, 29, 30, 31, 32, 33, 34, 35, 36, 37] rfl rfl rfl rfl) rfl rfl hl.1 rfl (lv_room (Nat.le_of_ble_eq_true rfl)) dX6_digest_48 ⟨Nat.le_of_ble_eq_true rfl, Nat.le_of_ble_eq_true rfl⟩) hP hD hS hA [0, 1, 2, 3, 4, 5, 6, 7, 8, 9, 10, 11, 12, 13, 14, 15, 16, 17, 18, 19, 20, 21, 22, 23, 24, 25, 26, 27, 28, 29, 30, 31, 32, 33, 34, 35, 36, 37] [] [0, 1, 2, 3, 4, 5, 6, 7, 8, 9, 10, 11, 12, 13, 14, 15, 16, 17, 18, 19, 20, 21, 22, 23, 24, 25, 26, 27, 28, 29, 30, 31, 32, 33, 34, 35, 36, 37] rfl rfl rfl (by decide) rfl rfl (fun H locs hP hD hS => ?_)
        refine lv_lstore_n (lv' := [(1, .long r3.1), (0, .ref (g 0)), (3, .int u3)]) hx hb dX6_digest_51 rfl hl (by decide) rfl (fun ls hl => ?_)
        refine lv_iconst (v := (0 : Int32)) hx hb dX6_digest_52 (by decide) ?_
        refine lv_istore_n (lv' := [(3, .int (0 : Int32)), (1, .long r3.1), (0, .ref (g 0))]) hx hb dX6_digest_53 rfl hl (by decide) rfl (fun ls hl => ?_)
        exact hL54 64 r3.1 (0 : Int32) r3.2 H _ _ hM hP hD hS (lv_sub hl [2, 1, 0] rfl)
      · replace hM := (if_neg c1).symm.trans hM
        refine lv_lload_n hx hb dX6_digest_23 rfl (lv_at hl 1 rfl) ?_
        refine lv_aload_n hx hb dX6_digest_24 rfl (lv_at hl 0 rfl) ?_
        refine lv_iload_n hx hb dX6_digest_25 rfl (lv_at hl 2 rfl) ?_
        obtain ⟨r4, hr4, hM⟩ := ob hM
        refine wk_callP (va_runV (As := [.int u3]) (rest := [.long u1]) ⟨hx, hb, hml, hown, hts⟩ (c_X6_wholeFact l dC dI cI cD cJ kk g y0 u3 _ hr4 H) (cwV 1 hts gX6_digest_X6_wholeFact rfl rfl rfl (by decide +kernel) ⟨Nat.le_of_ble_eq_true rfl, Nat.le_of_ble_eq_true rfl⟩) (wk_preV (ci := 4) (q0 := 0) hG hP hD [0, 1, 2, 3, 4, 5, 6, 7, 8, 9, 10, 11, 12, 13, 14, 15, 16, 17, 18, 19, 20, 21, 22, 23, 24, 25, 26, 27, 28, 29, 30, 31, 32, 33, 34, 35, 36, 37] rfl rfl rfl rfl) rfl rfl hl.1 rfl (lv_room (Nat.le_of_ble_eq_true rfl)) dX6_digest_26 ⟨Nat.le_of_ble_eq_true rfl, Nat.le_of_ble_eq_true rfl⟩) hS (fun locs hS => ?_)
        refine lv_i2l hx hb dX6_digest_29 rfl ?_
        refine wk_callP (va_runS (As := [.long u1, .long (r4).toInt64]) (rest := []) ⟨hx, hb, hml, hown, hts⟩ (c_X6_mix l dC dI cI cD cJ kk  u1 ((r4).toInt64) _ rfl H) (va_cwS 2 hts gX6_digest_X6_mix rfl rfl rfl (by decide +kernel) ⟨Nat.le_of_ble_eq_true rfl, Nat.le_of_ble_eq_true rfl⟩) (wk_preS hG hP hD [] rfl rfl) rfl rfl hl.1 rfl (lv_room (Nat.le_of_ble_eq_true rfl)) dX6_digest_30 ⟨Nat.le_of_ble_eq_true rfl, Nat.le_of_ble_eq_true rfl⟩) hS (fun locs hS => ?_)
        refine lv_lstore_n (lv' := [(1, .long (M_X6_mix u1 ((r4).toInt64))), (0, .ref (g 0)), (3, .int u3)]) hx hb dX6_digest_33 rfl hl (by decide) rfl (fun ls hl => ?_)
        refine lv_iinc (v := (u3 + 1)) (lv' := [(3, .int (u3 + 1)), (1, .long (M_X6_mix u1 ((r4).toInt64))), (0, .ref (g 0))]) hx hb dX6_digest_34 hl (k := 2) rfl rfl (by decide) rfl (fun ls hl => ?_)
        refine lv_goto (tgt := 17) hx hb dX6_digest_37 (by decide) ?_
        exact ih17 (M_X6_mix u1 ((r4).toInt64)) (u3 + 1) y0 H _ _ hM hP hD hS (lv_sub hl [2, 1, 0] rfl)
  unfold M_X6_digest at hM
  refine lv_ldc2 (v := 43490) hx hb hown (hts (.constantLong RX6 196 (43490)) (List.mem_of_getElem? (i := 1) rfl)) dX6_digest_0 ?_
  refine lv_aload_n hx hb dX6_digest_3 rfl (lv_at hl 0 rfl) ?_
  refine va_get (D := (dC, dI)) (ci := 4) (v := .ref ((fun i => g (11 + i)) 0)) (C := RX6) (T := TX6) (N := 6) hx hb hts inX6 hown hG.1 hP 0 rfl rfl 2 (by decide) (hts (.fieldLink RX6 22 "WokenDrive" "history" "LWokenDrive$History;") (List.mem_of_getElem? (i := 2) rfl)) (fun _ h9 => h9) rfl dX6_digest_4 ?_
  refine va_get (D := (dC, dI)) (ci := 3) (v := .int (hs_size (ss_his x))) (C := RX4) (T := TX4) (N := 3) hx hb hts inX4 hown hG.1 hP 11 rfl rfl 1 (by decide) (hts (.fieldLink RX6 188 "WokenDrive$History" "size" "I") (List.mem_of_getElem? (i := 3) rfl)) (fun _ h9 => h9) rfl dX6_digest_7 ?_
  refine lv_i2l hx hb dX6_digest_10 rfl ?_
  refine wk_callP (va_runS (As := [.long (43490 : Int64), .long ((hs_size (ss_his x))).toInt64]) (rest := []) ⟨hx, hb, hml, hown, hts⟩ (c_X6_mix l dC dI cI cD cJ kk  (43490 : Int64) (((hs_size (ss_his x))).toInt64) _ rfl H) (va_cwS 2 hts gX6_digest_X6_mix rfl rfl rfl (by decide +kernel) ⟨Nat.le_of_ble_eq_true rfl, Nat.le_of_ble_eq_true rfl⟩) (wk_preS hG hP hD [] rfl rfl) rfl rfl hl.1 rfl (lv_room (Nat.le_of_ble_eq_true rfl)) dX6_digest_11 ⟨Nat.le_of_ble_eq_true rfl, Nat.le_of_ble_eq_true rfl⟩) hS (fun locs hS => ?_)
  refine lv_lstore_n (lv' := [(1, .long (M_X6_mix (43490 : Int64) (((hs_size (ss_his x))).toInt64))), (0, .ref (g 0))]) hx hb dX6_digest_14 rfl hl (by decide) rfl (fun ls hl => ?_)
  refine lv_iconst (v := (0 : Int32)) hx hb dX6_digest_15 (by decide) ?_
  refine lv_istore_n (lv' := [(3, .int (0 : Int32)), (1, .long (M_X6_mix (43490 : Int64) (((hs_size (ss_his x))).toInt64))), (0, .ref (g 0))]) hx hb dX6_digest_16 rfl hl (by decide) rfl (fun ls hl => ?_)
  exact hL17 64 (M_X6_mix (43490 : Int64) (((hs_size (ss_his x))).toInt64)) (0 : Int32) x H _ _ hM hP hD hS (lv_sub hl [2, 1, 0] rfl)
