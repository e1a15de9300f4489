/-! PART 32: the reference, second part -/
set_option maxHeartbeats 4000000 in
set_option maxRecDepth 100000 in
theorem c_X7_ordersIn (l : Launch) (dC : Nat → ClassId) (dI : Nat → Nat → Nat) (cI cD cJ : ClassId) (kk : wAd) (g : Nat → Nat) (x : MS) (p1 : Int32) (out : Int32) (hM : M_X7_ordersIn x p1 = some out) : CP l yX7_ordersIn wsX7_ordersIn ({ frames := 1, cells := 0, slots := 0, locals := 22 } : Room) dC dI (wTys cI cD cJ) [.ref (g 0), .int p1] (wMod cI g x) (some (.int out)) := by
  refine wk_enterP (cc := cX7_ordersIn) (maxL := 4) (ret := (some .int)) (by decide) rfl (Nat.le_of_ble_eq_true rfl) ?_
  intro p e s m below meth c A Q ls hB hP hD hA hQ hl
  obtain ⟨hx, hb, hml, hr, hts, hown, hname, hlocks, hG⟩ := hB
  have hown : s.vm.findClass RX7 = some m.cls := hown
  have hS : va_S A s.heap s.heap [] := va_S.rf
  have hl : lv_has ls 4 [(0, .ref (g 0)), (1, .int p1)] := hl
  have inX7 : ∀ w ∈ wsX70, w ∈ wsX7_ordersIn := fun _ h => List.mem_cons_of_mem _ (List.mem_append_right _ h)
  generalize ([] : List Loc) = locs at hS ⊢
  have hL4 : ∀ (n4 : Nat) (u2 : Int32) (u3 : Int32) (locs : List Loc) (ls : Array Slot), lpF (M_X7_ordersIn_4s x p1) n4 (u2, u3) = some out → va_S A s.heap s.heap locs → lv_has ls 4 [(0, .ref (g 0)), (1, .int p1), (2, .int u2), (3, .int u3)] → W p l e ({ frames := 1, cells := 0, slots := 0, locals := 22 } : Room) s m ([.ref (g 0), .int p1] : List Value).toArray below meth c s.heap locs 0 0 Q (F0 m 4 ls []) := by
    intro n4
    induction n4 with
    | zero => intro u2 u3 locs ls hM; exact lpF_0 hM
    | succ n4 ih4 =>
      have hB30 : ∀ (u3 : Int32) (w0 : Int32) (w1 : Bool) (locs : List Loc) (ls : Array Slot), M_X7_ordersIn_30 x p1 (lpF (M_X7_ordersIn_4s x p1) n4) u3 w0 w1 = some out → va_S A s.heap s.heap locs → lv_has ls 4 [(0, .ref (g 0)), (1, .int p1), (3, .int u3)] → W p l e ({ frames := 1, cells := 0, slots := 0, locals := 22 } : Room) s m ([.ref (g 0), .int p1] : List Value).toArray below meth c s.heap locs 0 0 Q (F0 m 30 ls [.int (zI w1), .int w0]) := by
        intro u3 w0 w1 locs ls hM hS hl
        unfold M_X7_ordersIn_30 at hM
        refine lv_iadd hx hb dX7_ordersIn_30 ?_
        refine lv_istore_n (lv' := [(2, .int (w0 + (zI w1))), (0, .ref (g 0)), (1, .int p1), (3, .int u3)]) hx hb dX7_ordersIn_31 rfl hl (by decide) rfl (fun ls hl => ?_)
        refine lv_iinc (v := (u3 + 1)) (lv' := [(3, .int (u3 + 1)), (2, .int (w0 + (zI w1))), (0, .ref (g 0)), (1, .int p1)]) hx hb dX7_ordersIn_32 hl (k := 3) rfl rfl (by decide) rfl (fun ls hl => ?_)
        refine lv_goto (tgt := 4) hx hb dX7_ordersIn_35 (by decide) ?_
        exact ih4 (w0 + (zI w1)) (u3 + 1)  _ _ hM hS (lv_sub hl [2, 3, 1, 0] rfl)
      intro u2 u3 locs ls hM hS hl
      replace hM : M_X7_ordersIn_4s x p1 (lpF (M_X7_ordersIn_4s x p1) n4) (u2, u3) = some out := hM
      unfold M_X7_ordersIn_4s at hM
      try dsimp only at hM
      refine lv_iload_n hx hb dX7_ordersIn_4 rfl (lv_at hl 3 rfl) ?_
      refine lv_aload_n hx hb dX7_ordersIn_5 rfl (lv_at hl 0 rfl) ?_
      refine va_get (D := (dC, dI)) (ci := 5) (v := .ref (g 1)) (C := RX7) (T := TX7) (N := 14) hx hb hts inX7 hown hG.1 hP 0 rfl rfl 0 (by decide) (hts (.fieldLink RX7 7 "WokenDriveModel" "now" "[I") (List.mem_of_getElem? (i := 1) rfl)) (fun _ h9 => h9) rfl dX7_ordersIn_6 ?_
      refine lv_iconst (v := (1 : Int32)) hx hb dX7_ordersIn_9 (by decide) ?_
      obtain ⟨v1, hv1, hM⟩ := ob hM
      refine wk_iald hx hb hG hP 1 0 rfl rfl hv1 dX7_ordersIn_10 ?_
      refine lv_icmp_ge (tgt := 38) hx hb dX7_ordersIn_11 (by decide) (fun c2 => ?_) (fun c2 => ?_)
      · replace hM := (if_pos c2).symm.trans hM
        refine lv_iload_n hx hb dX7_ordersIn_38 rfl (lv_at hl 2 rfl) ?_
        replace hM := Option.some.inj hM
        subst hM
        exact wk_retPi hx hb hr hlocks hQ rfl rfl hS dX7_ordersIn_39
      · replace hM := (if_neg c2).symm.trans hM
        refine lv_iload_n hx hb dX7_ordersIn_14 rfl (lv_at hl 2 rfl) ?_
        refine lv_aload_n hx hb dX7_ordersIn_15 rfl (lv_at hl 0 rfl) ?_
        refine lv_iload_n hx hb dX7_ordersIn_16 rfl (lv_at hl 3 rfl) ?_
        refine lv_iconst (v := (5 : Int32)) hx hb dX7_ordersIn_17 (by decide) ?_
        obtain ⟨r3, hr3, hM⟩ := ob hM
        refine wk_callP (va_runV (As := [.int u3, .int (5 : Int32)]) (rest := [.int u2]) ⟨hx, hb, hml, hown, hts⟩ (c_X7_of l dC dI cI cD cJ kk g x u3 (5 : Int32) _ hr3 s.heap) (cwV 2 hts gX7_ordersIn_X7_of rfl rfl rfl (by decide +kernel) ⟨Nat.le_of_ble_eq_true rfl, Nat.le_of_ble_eq_true rfl⟩) (wk_preV (ci := 5) (q0 := 0) hG hP hD [0, 1, 2, 3, 4, 5, 6, 7] rfl rfl rfl rfl) rfl rfl hl.1 rfl (lv_room (Nat.le_of_ble_eq_true rfl)) dX7_ordersIn_18 ⟨Nat.le_of_ble_eq_true rfl, Nat.le_of_ble_eq_true rfl⟩) hS (fun locs hS => ?_)
        refine lv_iload_n hx hb dX7_ordersIn_21 rfl (lv_at hl 1 rfl) ?_
        refine lv_icmp_ne (tgt := 29) hx hb dX7_ordersIn_22 (by decide) (fun c4 => ?_) (fun c4 => ?_)
        · replace hM := (if_neg c4).symm.trans hM
          refine lv_iconst (v := (0 : Int32)) hx hb dX7_ordersIn_29 (by decide) ?_
          exact hB30 u3 u2 false  _ _ hM hS (lv_sub hl [0, 1, 3] rfl)
        · replace hM := (if_pos c4).symm.trans hM
          refine lv_iconst (v := (1 : Int32)) hx hb dX7_ordersIn_25 (by decide) ?_
          refine lv_goto (tgt := 30) hx hb dX7_ordersIn_26 (by decide) ?_
          exact hB30 u3 u2 true  _ _ hM hS (lv_sub hl [0, 1, 3] rfl)
  unfold M_X7_ordersIn at hM
  refine lv_iconst (v := (0 : Int32)) hx hb dX7_ordersIn_0 (by decide) ?_
  refine lv_istore_n (lv' := [(2, .int (0 : Int32)), (0, .ref (g 0)), (1, .int p1)]) hx hb dX7_ordersIn_1 rfl hl (by decide) rfl (fun ls hl => ?_)
  refine lv_iconst (v := (0 : Int32)) hx hb dX7_ordersIn_2 (by decide) ?_
  refine lv_istore_n (lv' := [(3, .int (0 : Int32)), (2, .int (0 : Int32)), (0, .ref (g 0)), (1, .int p1)]) hx hb dX7_ordersIn_3 rfl hl (by decide) rfl (fun ls hl => ?_)
  exact hL4 64 (0 : Int32) (0 : Int32)  _ _ hM hS (lv_sub hl [2, 3, 1, 0] rfl)
set_option maxHeartbeats 4000000 in
set_option maxRecDepth 100000 in
theorem c_X7_passes (l : Launch) (dC : Nat → ClassId) (dI : Nat → Nat → Nat) (cI cD cJ : ClassId) (kk : wAd) (g : Nat → Nat) (x : MS) (out : MS) (hM : M_X7_passes x = some out) : CM l yX7_passes wsX7_passes ({ frames := 5, cells := 0, slots := 0, locals := 115 } : Room) dC dI (wTys cI cD cJ) [.ref (g 0)] (wMod cI g x) none (wMod cI g out) 0 0 := by
  refine wk_enterM (cc := cX7_passes) (maxL := 3) (ret := none) (by decide) rfl (Nat.le_of_ble_eq_true rfl) ?_
  intro p e s m below meth c A Q ls hB hA hP hD hQ hl
  obtain ⟨hx, hb, hml, hr, hts, hown, hname, hlocks, hG⟩ := hB
  have hown : s.vm.findClass RX7 = some m.cls := hown
  have hS : va_S A s.heap s.heap [] := va_S.rf
  have hl : lv_has ls 3 [(0, .ref (g 0))] := hl
  have inX7 : ∀ w ∈ wsX70, w ∈ wsX7_passes := fun _ h => List.mem_cons_of_mem _ (List.mem_append_right _ h)
  obtain ⟨H, hH⟩ : ∃ z, z = s.heap := ⟨_, rfl⟩
  have hP : va_P (dC, dI) vwCl (wMod cI g x) H := by rw [hH]; exact hP
  have hS : va_S A s.heap H [] := by rw [hH]; exact hS
  refine wk_at hH ?_
  generalize ([] : List Loc) = locs at hS ⊢
  have hB97 : ∀ (y0 : MS) (H : Heap) (locs : List Loc) (ls : Array Slot), M_X7_passes_97 x y0 = some out → va_P (dC, dI) vwCl (wMod cI g y0) H → va_D A (wMod cI g y0) → va_S A s.heap H locs → lv_has ls 3 [(0, .ref (g 0))] → W p l e ({ frames := 5, cells := 0, slots := 0, locals := 115 } : Room) s m ([.ref (g 0)] : List Value).toArray below meth c H locs 0 0 Q (F0 m 97 ls []) := by
    intro y0 H locs ls hM hP hD hS hl
    unfold M_X7_passes_97 at hM
    refine lv_aload_n hx hb dX7_passes_97 rfl (lv_at hl 0 rfl) ?_
    refine va_get (D := (dC, dI)) (ci := 5) (v := .ref (g 1)) (C := RX7) (T := TX7) (N := 14) hx hb hts inX7 hown hG.1 hP 0 rfl rfl 0 (by decide) (hts (.fieldLink RX7 7 "WokenDriveModel" "now" "[I") (List.mem_of_getElem? (i := 1) rfl)) (fun _ h9 => h9) rfl dX7_passes_98 ?_
    refine lv_iconst (v := (0 : Int32)) hx hb dX7_passes_101 (by decide) ?_
    refine lv_dup2_11 hx hb dX7_passes_102 rfl rfl ?_
    obtain ⟨v1, hv1, hM⟩ := ob hM
    refine wk_iald hx hb hG hP 1 0 rfl rfl hv1 dX7_passes_103 ?_
    refine lv_iconst (v := (1 : Int32)) hx hb dX7_passes_104 (by decide) ?_
    refine lv_iadd hx hb dX7_passes_105 ?_
    obtain ⟨f2, hf2, hM⟩ := ob hM
    refine wk_iast hx hb hG hP hD hS 1 0 rfl rfl hf2 dX7_passes_106 (fun H locs hP hD hS => ?_)
    have hP : va_P (dC, dI) vwCl (wMod cI g (ms_now_s y0 f2)) H := hP
    have hD : va_D A (wMod cI g (ms_now_s y0 f2)) := hD
    replace hM := Option.some.inj hM
    subst hM
    exact wk_retMv hx hb hr hlocks hQ rfl hP hD hS dX7_passes_107
  have hB76 : ∀ (u1 : Int32) (y0 : MS) (H : Heap) (locs : List Loc) (ls : Array Slot), M_X7_passes_76 x u1 y0 = some out → va_P (dC, dI) vwCl (wMod cI g y0) H → va_D A (wMod cI g y0) → va_S A s.heap H locs → lv_has ls 3 [(0, .ref (g 0)), (1, .int u1)] → W p l e ({ frames := 5, cells := 0, slots := 0, locals := 115 } : Room) s m ([.ref (g 0)] : List Value).toArray below meth c H locs 0 0 Q (F0 m 76 ls []) := by
    intro u1 y0 H locs ls hM hP hD hS hl
    unfold M_X7_passes_76 at hM
    refine lv_aload_n hx hb dX7_passes_76 rfl (lv_at hl 0 rfl) ?_
    refine lv_iconst (v := (1 : Int32)) hx hb dX7_passes_77 (by decide) ?_
    refine lv_iload_n hx hb dX7_passes_78 rfl (lv_at hl 1 rfl) ?_
    refine lv_isub hx hb dX7_passes_79 ?_
    refine lv_iconst (v := (0 : Int32)) hx hb dX7_passes_80 (by decide) ?_
    obtain ⟨r1, hr1, hM⟩ := ob hM
    refine wk_callP (va_runV (As := [.int ((1 : Int32) - u1), .int (0 : Int32)]) (rest := []) ⟨hx, hb, hml, hown, hts⟩ (c_X7_control l dC dI cI cD cJ kk g y0 ((1 : Int32) - u1) (0 : Int32) _ hr1 H) (cwV 2 hts gX7_passes_X7_control rfl rfl rfl (by decide +kernel) ⟨Nat.le_of_ble_eq_true rfl, Nat.le_of_ble_eq_true rfl⟩) (wk_preV (ci := 5) (q0 := 0) hG hP hD [0, 1, 2, 3, 4, 5, 6, 7] rfl rfl rfl rfl) rfl rfl hl.1 rfl (lv_room (Nat.le_of_ble_eq_true rfl)) dX7_passes_81 ⟨Nat.le_of_ble_eq_true rfl, Nat.le_of_ble_eq_true rfl⟩) hS (fun locs hS => ?_)
    refine lv_iconst (v := (1 : Int32)) hx hb dX7_passes_84 (by decide) ?_
    refine lv_icmp_ne (tgt := 97) hx hb dX7_passes_85 (by decide) (fun c2 => ?_) (fun c2 => ?_)
    · replace hM := (if_neg c2).symm.trans hM
      exact hB97 y0 H _ _ hM hP hD hS (lv_sub hl [0] rfl)
    · replace hM := (if_pos c2).symm.trans hM
      refine lv_aload_n hx hb dX7_passes_88 rfl (lv_at hl 0 rfl) ?_
      refine lv_iconst (v := (1 : Int32)) hx hb dX7_passes_89 (by decide) ?_
      refine lv_iload_n hx hb dX7_passes_90 rfl (lv_at hl 1 rfl) ?_
      refine lv_isub hx hb dX7_passes_91 ?_
      refine lv_iconst (v := (3 : Int32)) hx hb dX7_passes_92 (by decide) ?_
      obtain ⟨r3, hr3, hM⟩ := ob hM
      refine wk_callM (ws' := (wMod cI g r3.2)) (va_runV (As := [.int ((1 : Int32) - u1), .int (3 : Int32)]) (rest := []) ⟨hx, hb, hml, hown, hts⟩ (c_X7_works l dC dI cI cD cJ kk g y0 ((1 : Int32) - u1) (3 : Int32) _ hr3 H) (cwV 2 hts gX7_passes_X7_works rfl rfl rfl (by decide +kernel) ⟨Nat.le_of_ble_eq_true rfl, Nat.le_of_ble_eq_true rfl⟩) (wk_preV (ci := 5) (q0 := 0) hG hP hD [0, 1, 2, 3, 4, 5, 6, 7] rfl rfl rfl rfl) rfl rfl hl.1 rfl (lv_room (Nat.le_of_ble_eq_true rfl)) dX7_passes_93 ⟨Nat.le_of_ble_eq_true rfl, Nat.le_of_ble_eq_true rfl⟩) hP hD hS hA [0, 1, 2, 3, 4, 5, 6, 7] [] [0, 1, 2, 3, 4, 5, 6, 7] rfl rfl rfl (by decide) rfl rfl (fun H locs hP hD hS => ?_)
      refine lv_pop hx hb dX7_passes_96 rfl ?_
      exact hB97 r3.2 H _ _ hM hP hD hS (lv_sub hl [0] rfl)
  have hL2 : ∀ (n2 : Nat) (u1 : Int32) (y0 : MS) (H : Heap) (locs : List Loc) (ls : Array Slot), lpF (M_X7_passes_2s x) n2 (u1, y0) = some out → va_P (dC, dI) vwCl (wMod cI g y0) H → va_D A (wMod cI g y0) → va_S A s.heap H locs → lv_has ls 3 [(0, .ref (g 0)), (1, .int u1)] → W p l e ({ frames := 5, cells := 0, slots := 0, locals := 115 } : Room) s m ([.ref (g 0)] : List Value).toArray below meth c H locs 0 0 Q (F0 m 2 ls []) := by
    intro n2
    induction n2 with
    | zero => intro u1 y0 H locs ls hM; exact lpF_0 hM
    | succ n2 ih2 =>
      have hB44 : ∀ (u1 : Int32) (y0 : MS) (H : Heap) (locs : List Loc) (ls : Array Slot), M_X7_passes_44 x (lpF (M_X7_passes_2s x) n2) u1 y0 = some out → va_P (dC, dI) vwCl (wMod cI g y0) H → va_D A (wMod cI g y0) → va_S A s.heap H locs → lv_has ls 3 [(0, .ref (g 0)), (1, .int u1)] → W p l e ({ frames := 5, cells := 0, slots := 0, locals := 115 } : Room) s m ([.ref (g 0)] : List Value).toArray below meth c H locs 0 0 Q (F0 m 44 ls []) := by
        intro u1 y0 H locs ls hM hP hD hS hl
        unfold M_X7_passes_44 at hM
        refine lv_iinc (v := (u1 + 1)) (lv' := [(1, .int (u1 + 1)), (0, .ref (g 0))]) hx hb dX7_passes_44 hl (k := 1) rfl rfl (by decide) rfl (fun ls hl => ?_)
        refine lv_goto (tgt := 2) hx hb dX7_passes_47 (by decide) ?_
        exact ih2 (u1 + 1) y0 H _ _ hM hP hD hS (lv_sub hl [1, 0] rfl)
      intro u1 y0 H locs ls hM hP hD hS hl
      replace hM : M_X7_passes_2s x (lpF (M_X7_passes_2s x) n2) (u1, y0) = some out := hM
      unfold M_X7_passes_2s at hM
      try dsimp only at hM
      refine lv_iload_n hx hb dX7_passes_2 rfl (lv_at hl 1 rfl) ?_
      refine lv_iconst (v := (2 : Int32)) hx hb dX7_passes_3 (by decide) ?_
      refine lv_icmp_ge (tgt := 50) hx hb dX7_passes_4 (by decide) (fun c1 => ?_) (fun c1 => ?_)
      · replace hM := (if_pos c1).symm.trans hM
        refine lv_aload_n hx hb dX7_passes_50 rfl (lv_at hl 0 rfl) ?_
        refine va_get (D := (dC, dI)) (ci := 5) (v := .ref (g 1)) (C := RX7) (T := TX7) (N := 14) hx hb hts inX7 hown hG.1 hP 0 rfl rfl 0 (by decide) (hts (.fieldLink RX7 7 "WokenDriveModel" "now" "[I") (List.mem_of_getElem? (i := 1) rfl)) (fun _ h9 => h9) rfl dX7_passes_51 ?_
        refine lv_iconst (v := (0 : Int32)) hx hb dX7_passes_54 (by decide) ?_
        obtain ⟨v2, hv2, hM⟩ := ob hM
        refine wk_iald hx hb hG hP 1 0 rfl rfl hv2 dX7_passes_55 ?_
        refine lv_iconst (v := (2 : Int32)) hx hb dX7_passes_56 (by decide) ?_
        refine lv_irem hx hb dX7_passes_57 (by decide) ?_
        refine lv_istore_n (lv' := [(1, .int (v2 - v2 / (2 : Int32) * (2 : Int32))), (0, .ref (g 0))]) hx hb dX7_passes_58 rfl hl (by decide) rfl (fun ls hl => ?_)
        refine lv_aload_n hx hb dX7_passes_59 rfl (lv_at hl 1 rfl) ?_
        refine lv_iload_n hx hb dX7_passes_60 rfl (lv_at hl 0 rfl) ?_
        refine lv_iconst (v := (0 : Int32)) hx hb dX7_passes_61 (by decide) ?_
        obtain ⟨r3, hr3, hM⟩ := ob hM
        refine wk_callP (va_runV (As := [.int (v2 - v2 / (2 : Int32) * (2 : Int32)), .int (0 : Int32)]) (rest := []) ⟨hx, hb, hml, hown, hts⟩ (c_X7_control l dC dI cI cD cJ kk g y0 (v2 - v2 / (2 : Int32) * (2 : Int32)) (0 : Int32) _ hr3 H) (cwV 2 hts gX7_passes_X7_control rfl rfl rfl (by decide +kernel) ⟨Nat.le_of_ble_eq_true rfl, Nat.le_of_ble_eq_true rfl⟩) (wk_preV (ci := 5) (q0 := 0) hG hP hD [0, 1, 2, 3, 4, 5, 6, 7] rfl rfl rfl rfl) rfl rfl hl.1 rfl (lv_room (Nat.le_of_ble_eq_true rfl)) dX7_passes_62 ⟨Nat.le_of_ble_eq_true rfl, Nat.le_of_ble_eq_true rfl⟩) hS (fun locs hS => ?_)
        refine lv_iconst (v := (1 : Int32)) hx hb dX7_passes_65 (by decide) ?_
        refine lv_icmp_ne (tgt := 76) hx hb dX7_passes_66 (by decide) (fun c4 => ?_) (fun c4 => ?_)
        · replace hM := (if_neg c4).symm.trans hM
          exact hB76 (v2 - v2 / (2 : Int32) * (2 : Int32)) y0 H _ _ hM hP hD hS (lv_sub hl [1, 0] rfl)
        · replace hM := (if_pos c4).symm.trans hM
          refine lv_aload_n hx hb dX7_passes_69 rfl (lv_at hl 1 rfl) ?_
          refine lv_iload_n hx hb dX7_passes_70 rfl (lv_at hl 0 rfl) ?_
          refine lv_iconst (v := (3 : Int32)) hx hb dX7_passes_71 (by decide) ?_
          obtain ⟨r5, hr5, hM⟩ := ob hM
          refine wk_callM (ws' := (wMod cI g r5.2)) (va_runV (As := [.int (v2 - v2 / (2 : Int32) * (2 : Int32)), .int (3 : Int32)]) (rest := []) ⟨hx, hb, hml, hown, hts⟩ (c_X7_works l dC dI cI cD cJ kk g y0 (v2 - v2 / (2 : Int32) * (2 : Int32)) (3 : Int32) _ hr5 H) (cwV 2 hts gX7_passes_X7_works rfl rfl rfl (by decide +kernel) ⟨Nat.le_of_ble_eq_true rfl, Nat.le_of_ble_eq_true rfl⟩) (wk_preV (ci := 5) (q0 := 0) hG hP hD [0, 1, 2, 3, 4, 5, 6, 7] rfl rfl rfl rfl) rfl rfl hl.1 rfl (lv_room (Nat.le_of_ble_eq_true rfl)) dX7_passes_72 ⟨Nat.le_of_ble_eq_true rfl, Nat.le_of_ble_eq_true rfl⟩) hP hD hS hA [0, 1, 2, 3, 4, 5, 6, 7] [] [0, 1, 2, 3, 4, 5, 6, 7] rfl rfl rfl (by decide) rfl rfl (fun H locs hP hD hS => ?_)
          refine lv_pop hx hb dX7_passes_75 rfl ?_
          exact hB76 (v2 - v2 / (2 : Int32) * (2 : Int32)) r5.2 H _ _ hM hP hD hS (lv_sub hl [1, 0] rfl)
      · replace hM := (if_neg c1).symm.trans hM
        refine lv_aload_n hx hb dX7_passes_7 rfl (lv_at hl 0 rfl) ?_
        refine lv_iload_n hx hb dX7_passes_8 rfl (lv_at hl 1 rfl) ?_
        refine lv_iconst (v := (2 : Int32)) hx hb dX7_passes_9 (by decide) ?_
        obtain ⟨r6, hr6, hM⟩ := ob hM
        refine wk_callP (va_runV (As := [.int u1, .int (2 : Int32)]) (rest := []) ⟨hx, hb, hml, hown, hts⟩ (c_X7_control l dC dI cI cD cJ kk g y0 u1 (2 : Int32) _ hr6 H) (cwV 2 hts gX7_passes_X7_control rfl rfl rfl (by decide +kernel) ⟨Nat.le_of_ble_eq_true rfl, Nat.le_of_ble_eq_true rfl⟩) (wk_preV (ci := 5) (q0 := 0) hG hP hD [0, 1, 2, 3, 4, 5, 6, 7] rfl rfl rfl rfl) rfl rfl hl.1 rfl (lv_room (Nat.le_of_ble_eq_true rfl)) dX7_passes_10 ⟨Nat.le_of_ble_eq_true rfl, Nat.le_of_ble_eq_true rfl⟩) hS (fun locs hS => ?_)
        refine lv_istore_n (lv' := [(2, .int r6), (0, .ref (g 0)), (1, .int u1)]) hx hb dX7_passes_13 rfl hl (by decide) rfl (fun ls hl => ?_)
        refine lv_iload_n hx hb dX7_passes_14 rfl (lv_at hl 0 rfl) ?_
        refine lv_if_eq (tgt := 44) hx hb dX7_passes_15 (by decide) (fun c7 => ?_) (fun c7 => ?_)
        · replace hM := (if_pos c7).symm.trans hM
          exact hB44 u1 y0 H _ _ hM hP hD hS (lv_sub hl [1, 2] rfl)
        · replace hM := (if_neg c7).symm.trans hM
          refine lv_aload_n hx hb dX7_passes_18 rfl (lv_at hl 1 rfl) ?_
          refine va_get (D := (dC, dI)) (ci := 5) (v := .ref (g 1)) (C := RX7) (T := TX7) (N := 14) hx hb hts inX7 hown hG.1 hP 0 rfl rfl 0 (by decide) (hts (.fieldLink RX7 7 "WokenDriveModel" "now" "[I") (List.mem_of_getElem? (i := 1) rfl)) (fun _ h9 => h9) rfl dX7_passes_19 ?_
          refine lv_iconst (v := (0 : Int32)) hx hb dX7_passes_22 (by decide) ?_
          obtain ⟨v8, hv8, hM⟩ := ob hM
          refine wk_iald hx hb hG hP 1 0 rfl rfl hv8 dX7_passes_23 ?_
          refine lv_iload_n hx hb dX7_passes_24 rfl (lv_at hl 0 rfl) ?_
          refine lv_irem hx hb dX7_passes_25 c7 ?_
          refine lv_if_ne (tgt := 44) hx hb dX7_passes_26 (by decide) (fun c9 => ?_) (fun c9 => ?_)
          · replace hM := (if_neg c9).symm.trans hM
            exact hB44 u1 y0 H _ _ hM hP hD hS (lv_sub hl [1, 2] rfl)
          · replace hM := (if_pos c9).symm.trans hM
            refine lv_aload_n hx hb dX7_passes_29 rfl (lv_at hl 1 rfl) ?_
            refine va_get (D := (dC, dI)) (ci := 5) (v := .ref (g 1)) (C := RX7) (T := TX7) (N := 14) hx hb hts inX7 hown hG.1 hP 0 rfl rfl 0 (by decide) (hts (.fieldLink RX7 7 "WokenDriveModel" "now" "[I") (List.mem_of_getElem? (i := 1) rfl)) (fun _ h9 => h9) rfl dX7_passes_30 ?_
            refine lv_bipush (v := (20 : Int32)) hx hb dX7_passes_33 (by decide) ?_
            refine lv_bipush (v := (8 : Int32)) hx hb dX7_passes_35 (by decide) ?_
            refine lv_iload_n hx hb dX7_passes_37 rfl (lv_at hl 2 rfl) ?_
            refine lv_imul hx hb dX7_passes_38 ?_
            refine lv_iadd hx hb dX7_passes_39 ?_
            refine lv_iconst (v := (0 : Int32)) hx hb dX7_passes_40 (by decide) ?_
            refine lv_iadd hx hb dX7_passes_41 ?_
            refine lv_iconst (v := (1 : Int32)) hx hb dX7_passes_42 (by decide) ?_
            obtain ⟨f10, hf10, hM⟩ := ob hM
            refine wk_iast hx hb hG hP hD hS 1 0 rfl rfl hf10 dX7_passes_43 (fun H locs hP hD hS => ?_)
            have hP : va_P (dC, dI) vwCl (wMod cI g (ms_now_s y0 f10)) H := hP
            have hD : va_D A (wMod cI g (ms_now_s y0 f10)) := hD
            exact hB44 u1 (ms_now_s y0 f10) H _ _ hM hP hD hS (lv_sub hl [1, 2] rfl)
  unfold M_X7_passes at hM
  refine lv_iconst (v := (0 : Int32)) hx hb dX7_passes_0 (by decide) ?_
  refine lv_istore_n (lv' := [(1, .int (0 : Int32)), (0, .ref (g 0))]) hx hb dX7_passes_1 rfl hl (by decide) rfl (fun ls hl => ?_)
  exact hL2 64 (0 : Int32) x H _ _ hM hP hD hS (lv_sub hl [1, 0] rfl)
set_option maxHeartbeats 4000000 in
set_option maxRecDepth 100000 in
theorem c_X7_pass (l : Launch) (dC : Nat → ClassId) (dI : Nat → Nat → Nat) (cI cD cJ : ClassId) (kk : wAd) (g : Nat → Nat) (x : MS) (p1 : Int32) (out : Int32 × MS) (hM : M_X7_pass x p1 = some out) : CM l yX7_pass wsX7_pass ({ frames := 6, cells := 0, slots := 0, locals := 137 } : Room) dC dI (wTys cI cD cJ) [.ref (g 0), .int p1] (wMod cI g x) (some (.int out.1)) (wMod cI g out.2) 0 0 := by
  refine wk_enterM (cc := cX7_pass) (maxL := 4) (ret := (some .int)) (by decide) rfl (Nat.le_of_ble_eq_true rfl) ?_
  intro p e s m below meth c A Q ls hB hA hP hD hQ hl
  obtain ⟨hx, hb, hml, hr, hts, hown, hname, hlocks, hG⟩ := hB
  have hown : s.vm.findClass RX7 = some m.cls := hown
  have hS : va_S A s.heap s.heap [] := va_S.rf
  have hl : lv_has ls 4 [(0, .ref (g 0)), (1, .int p1)] := hl
  have inX7 : ∀ w ∈ wsX70, w ∈ wsX7_pass := fun _ h => List.mem_cons_of_mem _ (List.mem_append_right _ h)
  obtain ⟨H, hH⟩ : ∃ z, z = s.heap := ⟨_, rfl⟩
  have hP : va_P (dC, dI) vwCl (wMod cI g x) H := by rw [hH]; exact hP
  have hS : va_S A s.heap H [] := by rw [hH]; exact hS
  refine wk_at hH ?_
  generalize ([] : List Loc) = locs at hS ⊢
  have hL54 : ∀ (n54 : Nat) (u2 : Int32) (u3 : Int32) (y0 : MS) (H : Heap) (locs : List Loc) (ls : Array Slot), lpF (M_X7_pass_54s x p1) n54 (u2, u3, y0) = some out → va_P (dC, dI) vwCl (wMod cI g y0) H → va_D A (wMod cI g y0) → va_S A s.heap H locs → lv_has ls 4 [(0, .ref (g 0)), (1, .int p1), (2, .int u2), (3, .int u3)] → W p l e ({ frames := 6, cells := 0, slots := 0, locals := 137 } : Room) s m ([.ref (g 0), .int p1] : List Value).toArray below meth c H locs 0 0 Q (F0 m 54 ls []) := by
    intro n54
    induction n54 with
    | zero => intro u2 u3 y0 H locs ls hM; exact lpF_0 hM
    | succ n54 ih54 =>
      intro u2 u3 y0 H locs ls hM hP hD hS hl
      replace hM : M_X7_pass_54s x p1 (lpF (M_X7_pass_54s x p1) n54) (u2, u3, y0) = some out := hM
      unfold M_X7_pass_54s at hM
      try dsimp only at hM
      refine lv_iload_n hx hb dX7_pass_54 rfl (lv_at hl 3 rfl) ?_
      refine lv_iload_n hx hb dX7_pass_55 rfl (lv_at hl 1 rfl) ?_
      refine lv_icmp_ge (tgt := 69) hx hb dX7_pass_56 (by decide) (fun c1 => ?_) (fun c1 => ?_)
      · replace hM := (if_pos c1).symm.trans hM
        refine lv_aload_n hx hb dX7_pass_69 rfl (lv_at hl 0 rfl) ?_
        refine lv_iconst (v := (2 : Int32)) hx hb dX7_pass_70 (by decide) ?_
        obtain ⟨r2, hr2, hM⟩ := ob hM
        refine wk_callP (va_runV (As := [.int (2 : Int32)]) (rest := []) ⟨hx, hb, hml, hown, hts⟩ (c_X7_ordersIn l dC dI cI cD cJ kk g y0 (2 : Int32) _ hr2 H) (cwV 1 hts gX7_pass_X7_ordersIn rfl rfl rfl (by decide +kernel) ⟨Nat.le_of_ble_eq_true rfl, Nat.le_of_ble_eq_true rfl⟩) (wk_preV (ci := 5) (q0 := 0) hG hP hD [0, 1, 2, 3, 4, 5, 6, 7] rfl rfl rfl rfl) rfl rfl hl.1 rfl (lv_room (Nat.le_of_ble_eq_true rfl)) dX7_pass_71 ⟨Nat.le_of_ble_eq_true rfl, Nat.le_of_ble_eq_true rfl⟩) hS (fun locs hS => ?_)
        refine lv_iload_n hx hb dX7_pass_74 rfl (lv_at hl 2 rfl) ?_
        refine lv_isub hx hb dX7_pass_75 ?_
        replace hM := Option.some.inj hM
        subst hM
        exact wk_retMi hx hb hr hlocks hQ rfl rfl hP hD hS dX7_pass_76
      · replace hM := (if_neg c1).symm.trans hM
        refine lv_aload_n hx hb dX7_pass_59 rfl (lv_at hl 0 rfl) ?_
        obtain ⟨r3, hr3, hM⟩ := ob hM
        refine wk_callM (ws' := (wMod cI g r3)) (va_runV (As := []) (rest := []) ⟨hx, hb, hml, hown, hts⟩ (c_X7_passes l dC dI cI cD cJ kk g y0 _ hr3 H) (cwV 0 hts gX7_pass_X7_passes rfl rfl rfl (by decide +kernel) ⟨Nat.le_of_ble_eq_true rfl, Nat.le_of_ble_eq_true rfl⟩) (wk_preV (ci := 5) (q0 := 0) hG hP hD [0, 1, 2, 3, 4, 5, 6, 7] rfl rfl rfl rfl) rfl rfl hl.1 rfl (lv_room (Nat.le_of_ble_eq_true rfl)) dX7_pass_60 ⟨Nat.le_of_ble_eq_true rfl, Nat.le_of_ble_eq_true rfl⟩) hP hD hS hA [0, 1, 2, 3, 4, 5, 6, 7] [] [0, 1, 2, 3, 4, 5, 6, 7] rfl rfl rfl (by decide) rfl rfl (fun H locs hP hD hS => ?_)
        refine lv_iinc (v := (u3 + 1)) (lv' := [(3, .int (u3 + 1)), (0, .ref (g 0)), (1, .int p1), (2, .int u2)]) hx hb dX7_pass_63 hl (k := 3) rfl rfl (by decide) rfl (fun ls hl => ?_)
        refine lv_goto (tgt := 54) hx hb dX7_pass_66 (by decide) ?_
        exact ih54 u2 (u3 + 1) r3 H _ _ hM hP hD hS (lv_sub hl [1, 2, 3, 0] rfl)
  have hB34 : ∀ (w1 : Int32) (y0 : MS) (H : Heap) (locs : List Loc) (ls : Array Slot), M_X7_pass_34 x p1 w1 y0 = some out → va_P (dC, dI) vwCl (wMod cI g y0) H → va_D A (wMod cI g y0) → va_S A s.heap H locs → lv_has ls 4 [(0, .ref (g 0)), (1, .int p1)] → W p l e ({ frames := 6, cells := 0, slots := 0, locals := 137 } : Room) s m ([.ref (g 0), .int p1] : List Value).toArray below meth c H locs 0 0 Q (F0 m 34 ls [.int w1, .ref (g 0)]) := by
    intro w1 y0 H locs ls hM hP hD hS hl
    unfold M_X7_pass_34 at hM
    obtain ⟨r1, hr1, hM⟩ := tbE hM
    refine wk_callM (ws' := (wMod cI g r1.2)) (va_runV (As := [.int w1]) (rest := []) ⟨hx, hb, hml, hown, hts⟩ (c_X7_refused l dC dI cI cD cJ kk g y0 w1 _ hr1.symm H) (cwV 1 hts gX7_pass_X7_refused rfl rfl rfl (by decide +kernel) ⟨Nat.le_of_ble_eq_true rfl, Nat.le_of_ble_eq_true rfl⟩) (wk_preV (ci := 5) (q0 := 0) hG hP hD [0, 1, 2, 3, 4, 5, 6, 7] rfl rfl rfl rfl) rfl rfl hl.1 rfl (lv_room (Nat.le_of_ble_eq_true rfl)) dX7_pass_34 ⟨Nat.le_of_ble_eq_true rfl, Nat.le_of_ble_eq_true rfl⟩) hP hD hS hA [0, 1, 2, 3, 4, 5, 6, 7] [] [0, 1, 2, 3, 4, 5, 6, 7] rfl rfl rfl (by decide) rfl rfl (fun H locs hP hD hS => ?_)
    refine lv_if_eq (tgt := 42) hx hb dX7_pass_37 (by decide) (fun c2 => ?_) (fun c2 => ?_)
    · replace hM := (if_pos c2).symm.trans hM
      refine lv_aload_n hx hb dX7_pass_42 rfl (lv_at hl 0 rfl) ?_
      obtain ⟨r3, hr3, hM⟩ := ob hM
      refine wk_callM (ws' := (wMod cI g r3)) (va_runV (As := []) (rest := []) ⟨hx, hb, hml, hown, hts⟩ (c_X7_saves l dC dI cI cD cJ kk g r1.2 _ hr3 H) (cwV 0 hts gX7_pass_X7_saves rfl rfl rfl (by decide +kernel) ⟨Nat.le_of_ble_eq_true rfl, Nat.le_of_ble_eq_true rfl⟩) (wk_preV (ci := 5) (q0 := 0) hG hP hD [0, 1, 2, 3, 4, 5, 6, 7] rfl rfl rfl rfl) rfl rfl hl.1 rfl (lv_room (Nat.le_of_ble_eq_true rfl)) dX7_pass_43 ⟨Nat.le_of_ble_eq_true rfl, Nat.le_of_ble_eq_true rfl⟩) hP hD hS hA [0, 1, 2, 3, 4, 5, 6, 7] [] [0, 1, 2, 3, 4, 5, 6, 7] rfl rfl rfl (by decide) rfl rfl (fun H locs hP hD hS => ?_)
      refine lv_aload_n hx hb dX7_pass_46 rfl (lv_at hl 0 rfl) ?_
      refine lv_iconst (v := (2 : Int32)) hx hb dX7_pass_47 (by decide) ?_
      obtain ⟨r4, hr4, hM⟩ := ob hM
      refine wk_callP (va_runV (As := [.int (2 : Int32)]) (rest := []) ⟨hx, hb, hml, hown, hts⟩ (c_X7_ordersIn l dC dI cI cD cJ kk g r3 (2 : Int32) _ hr4 H) (cwV 1 hts gX7_pass_X7_ordersIn rfl rfl rfl (by decide +kernel) ⟨Nat.le_of_ble_eq_true rfl, Nat.le_of_ble_eq_true rfl⟩) (wk_preV (ci := 5) (q0 := 0) hG hP hD [0, 1, 2, 3, 4, 5, 6, 7] rfl rfl rfl rfl) rfl rfl hl.1 rfl (lv_room (Nat.le_of_ble_eq_true rfl)) dX7_pass_48 ⟨Nat.le_of_ble_eq_true rfl, Nat.le_of_ble_eq_true rfl⟩) hS (fun locs hS => ?_)
      refine lv_istore_n (lv' := [(2, .int r4), (0, .ref (g 0)), (1, .int p1)]) hx hb dX7_pass_51 rfl hl (by decide) rfl (fun ls hl => ?_)
      refine lv_iconst (v := (0 : Int32)) hx hb dX7_pass_52 (by decide) ?_
      refine lv_istore_n (lv' := [(3, .int (0 : Int32)), (2, .int r4), (0, .ref (g 0)), (1, .int p1)]) hx hb dX7_pass_53 rfl hl (by decide) rfl (fun ls hl => ?_)
      exact hL54 64 r4 (0 : Int32) r3 H _ _ hM hP hD hS (lv_sub hl [2, 3, 1, 0] rfl)
    · replace hM := (if_neg c2).symm.trans hM
      refine lv_iconst (v := (0 : Int32)) hx hb dX7_pass_40 (by decide) ?_
      replace hM := Option.some.inj hM
      subst hM
      exact wk_retMi hx hb hr hlocks hQ rfl rfl hP hD hS dX7_pass_41
  unfold M_X7_pass at hM
  refine lv_aload_n hx hb dX7_pass_0 rfl (lv_at hl 0 rfl) ?_
  refine lv_iload_n hx hb dX7_pass_1 rfl (lv_at hl 1 rfl) ?_
  refine lv_iconst (v := (1 : Int32)) hx hb dX7_pass_2 (by decide) ?_
  refine lv_bipush (v := (50 : Int32)) hx hb dX7_pass_3 (by decide) ?_
  refine wk_callP (va_runS (As := [.int p1, .int (1 : Int32), .int (50 : Int32)]) (rest := [.ref (g 0)]) ⟨hx, hb, hml, hown, hts⟩ (c_X7_within l dC dI cI cD cJ kk  p1 (1 : Int32) (50 : Int32) _ rfl H) (va_cwS 3 hts gX7_pass_X7_within rfl rfl rfl (by decide +kernel) ⟨Nat.le_of_ble_eq_true rfl, Nat.le_of_ble_eq_true rfl⟩) (wk_preS hG hP hD [] rfl rfl) rfl rfl hl.1 rfl (lv_room (Nat.le_of_ble_eq_true rfl)) dX7_pass_5 ⟨Nat.le_of_ble_eq_true rfl, Nat.le_of_ble_eq_true rfl⟩) hS (fun locs hS => ?_)
  refine lv_if_ne (tgt := 15) hx hb dX7_pass_8 (by decide) (fun c1 => ?_) (fun c1 => ?_)
  · replace hM := (if_neg c1).symm.trans hM
    refine lv_aload_n hx hb dX7_pass_15 rfl (lv_at hl 0 rfl) ?_
    refine va_get (D := (dC, dI)) (ci := 5) (v := .ref (g 1)) (C := RX7) (T := TX7) (N := 14) hx hb hts inX7 hown hG.1 hP 0 rfl rfl 0 (by decide) (hts (.fieldLink RX7 7 "WokenDriveModel" "now" "[I") (List.mem_of_getElem? (i := 1) rfl)) (fun _ h9 => h9) rfl dX7_pass_16 ?_
    refine lv_iconst (v := (0 : Int32)) hx hb dX7_pass_19 (by decide) ?_
    obtain ⟨v2, hv2, hM⟩ := ob hM
    refine wk_iald hx hb hG hP 1 0 rfl rfl hv2 dX7_pass_20 ?_
    refine lv_iload_n hx hb dX7_pass_21 rfl (lv_at hl 1 rfl) ?_
    refine lv_iadd hx hb dX7_pass_22 ?_
    refine lv_sipush (v := (9999 : Int32)) hx hb dX7_pass_23 (by decide) ?_
    refine lv_icmp_le (tgt := 33) hx hb dX7_pass_26 (by decide) (fun c3 => ?_) (fun c3 => ?_)
    · replace hM := (if_pos c3).symm.trans hM
      refine lv_iconst (v := (0 : Int32)) hx hb dX7_pass_33 (by decide) ?_
      exact hB34 (0 : Int32) x H _ _ hM hP hD hS (lv_sub hl [0, 1] rfl)
    · replace hM := (if_neg c3).symm.trans hM
      refine lv_iconst (v := (2 : Int32)) hx hb dX7_pass_29 (by decide) ?_
      refine lv_goto (tgt := 34) hx hb dX7_pass_30 (by decide) ?_
      exact hB34 (2 : Int32) x H _ _ hM hP hD hS (lv_sub hl [0, 1] rfl)
  · replace hM := (if_pos c1).symm.trans hM
    refine lv_iconst (v := (1 : Int32)) hx hb dX7_pass_11 (by decide) ?_
    refine lv_goto (tgt := 34) hx hb dX7_pass_12 (by decide) ?_
    exact hB34 (1 : Int32) x H _ _ hM hP hD hS (lv_sub hl [0, 1] rfl)
set_option maxHeartbeats 4000000 in
set_option maxRecDepth 100000 in
theorem c_X7_lose (l : Launch) (dC : Nat → ClassId) (dI : Nat → Nat → Nat) (cI cD cJ : ClassId) (kk : wAd) (g : Nat → Nat) (x : MS) (p1 : Int32) (out : Int32 × MS) (hM : M_X7_lose x p1 = some out) : CM l yX7_lose wsX7_lose ({ frames := 2, cells := 0, slots := 0, locals := 42 } : Room) dC dI (wTys cI cD cJ) [.ref (g 0), .int p1] (wMod cI g x) (some (.int out.1)) (wMod cI g out.2) 0 0 := by
  refine wk_enterM (cc := cX7_lose) (maxL := 3) (ret := (some .int)) (by decide) rfl (Nat.le_of_ble_eq_true rfl) ?_
  intro p e s m below meth c A Q ls hB hA hP hD hQ hl
  obtain ⟨hx, hb, hml, hr, hts, hown, hname, hlocks, hG⟩ := hB
  have hown : s.vm.findClass RX7 = some m.cls := hown
  have hS : va_S A s.heap s.heap [] := va_S.rf
  have hl : lv_has ls 3 [(0, .ref (g 0)), (1, .int p1)] := hl
  have inX7 : ∀ w ∈ wsX70, w ∈ wsX7_lose := fun _ h => List.mem_cons_of_mem _ (List.mem_append_right _ h)
  obtain ⟨H, hH⟩ : ∃ z, z = s.heap := ⟨_, rfl⟩
  have hP : va_P (dC, dI) vwCl (wMod cI g x) H := by rw [hH]; exact hP
  have hS : va_S A s.heap H [] := by rw [hH]; exact hS
  refine wk_at hH ?_
  generalize ([] : List Loc) = locs at hS ⊢
  have hB13 : ∀ (w1 : Bool) (y0 : MS) (H : Heap) (locs : List Loc) (ls : Array Slot), M_X7_lose_13 x p1 w1 y0 = some out → va_P (dC, dI) vwCl (wMod cI g y0) H → va_D A (wMod cI g y0) → va_S A s.heap H locs → lv_has ls 3 [(0, .ref (g 0)), (1, .int p1)] → W p l e ({ frames := 2, cells := 0, slots := 0, locals := 42 } : Room) s m ([.ref (g 0), .int p1] : List Value).toArray below meth c H locs 0 0 Q (F0 m 13 ls [.int (zI w1), .ref (g 0)]) := by
    intro w1 y0 H locs ls hM hP hD hS hl
    unfold M_X7_lose_13 at hM
    obtain ⟨r1, hr1, hM⟩ := tbE hM
    refine wk_callM (ws' := (wMod cI g r1.2)) (va_runV (As := [.int (zI w1)]) (rest := []) ⟨hx, hb, hml, hown, hts⟩ (c_X7_refused l dC dI cI cD cJ kk g y0 (zI w1) _ hr1.symm H) (cwV 1 hts gX7_lose_X7_refused rfl rfl rfl (by decide +kernel) ⟨Nat.le_of_ble_eq_true rfl, Nat.le_of_ble_eq_true rfl⟩) (wk_preV (ci := 5) (q0 := 0) hG hP hD [0, 1, 2, 3, 4, 5, 6, 7] rfl rfl rfl rfl) rfl rfl hl.1 rfl (lv_room (Nat.le_of_ble_eq_true rfl)) dX7_lose_13 ⟨Nat.le_of_ble_eq_true rfl, Nat.le_of_ble_eq_true rfl⟩) hP hD hS hA [0, 1, 2, 3, 4, 5, 6, 7] [] [0, 1, 2, 3, 4, 5, 6, 7] rfl rfl rfl (by decide) rfl rfl (fun H locs hP hD hS => ?_)
    refine lv_if_eq (tgt := 21) hx hb dX7_lose_16 (by decide) (fun c2 => ?_) (fun c2 => ?_)
    · replace hM := (if_pos c2).symm.trans hM
      refine lv_aload_n hx hb dX7_lose_21 rfl (lv_at hl 0 rfl) ?_
      obtain ⟨r3, hr3, hM⟩ := ob hM
      refine wk_callM (ws' := (wMod cI g r3)) (va_runV (As := []) (rest := []) ⟨hx, hb, hml, hown, hts⟩ (c_X7_saves l dC dI cI cD cJ kk g r1.2 _ hr3 H) (cwV 0 hts gX7_lose_X7_saves rfl rfl rfl (by decide +kernel) ⟨Nat.le_of_ble_eq_true rfl, Nat.le_of_ble_eq_true rfl⟩) (wk_preV (ci := 5) (q0 := 0) hG hP hD [0, 1, 2, 3, 4, 5, 6, 7] rfl rfl rfl rfl) rfl rfl hl.1 rfl (lv_room (Nat.le_of_ble_eq_true rfl)) dX7_lose_22 ⟨Nat.le_of_ble_eq_true rfl, Nat.le_of_ble_eq_true rfl⟩) hP hD hS hA [0, 1, 2, 3, 4, 5, 6, 7] [] [0, 1, 2, 3, 4, 5, 6, 7] rfl rfl rfl (by decide) rfl rfl (fun H locs hP hD hS => ?_)
      refine lv_aload_n hx hb dX7_lose_25 rfl (lv_at hl 0 rfl) ?_
      refine lv_iload_n hx hb dX7_lose_26 rfl (lv_at hl 1 rfl) ?_
      refine lv_iconst (v := (3 : Int32)) hx hb dX7_lose_27 (by decide) ?_
      obtain ⟨r4, hr4, hM⟩ := ob hM
      refine wk_callP (va_runV (As := [.int p1, .int (3 : Int32)]) (rest := []) ⟨hx, hb, hml, hown, hts⟩ (c_X7_control l dC dI cI cD cJ kk g r3 p1 (3 : Int32) _ hr4 H) (cwV 2 hts gX7_lose_X7_control rfl rfl rfl (by decide +kernel) ⟨Nat.le_of_ble_eq_true rfl, Nat.le_of_ble_eq_true rfl⟩) (wk_preV (ci := 5) (q0 := 0) hG hP hD [0, 1, 2, 3, 4, 5, 6, 7] rfl rfl rfl rfl) rfl rfl hl.1 rfl (lv_room (Nat.le_of_ble_eq_true rfl)) dX7_lose_28 ⟨Nat.le_of_ble_eq_true rfl, Nat.le_of_ble_eq_true rfl⟩) hS (fun locs hS => ?_)
      refine lv_istore_n (lv' := [(2, .int r4), (0, .ref (g 0)), (1, .int p1)]) hx hb dX7_lose_31 rfl hl (by decide) rfl (fun ls hl => ?_)
      refine lv_aload_n hx hb dX7_lose_32 rfl (lv_at hl 1 rfl) ?_
      refine va_get (D := (dC, dI)) (ci := 5) (v := .ref (g 1)) (C := RX7) (T := TX7) (N := 14) hx hb hts inX7 hown hG.1 hP 0 rfl rfl 0 (by decide) (hts (.fieldLink RX7 7 "WokenDriveModel" "now" "[I") (List.mem_of_getElem? (i := 1) rfl)) (fun _ h9 => h9) rfl dX7_lose_33 ?_
      refine lv_bipush (v := (20 : Int32)) hx hb dX7_lose_36 (by decide) ?_
      refine lv_bipush (v := (8 : Int32)) hx hb dX7_lose_38 (by decide) ?_
      refine lv_iload_n hx hb dX7_lose_40 rfl (lv_at hl 2 rfl) ?_
      refine lv_imul hx hb dX7_lose_41 ?_
      refine lv_iadd hx hb dX7_lose_42 ?_
      refine lv_iconst (v := (3 : Int32)) hx hb dX7_lose_43 (by decide) ?_
      refine lv_iadd hx hb dX7_lose_44 ?_
      refine lv_iconst (v := (0 : Int32)) hx hb dX7_lose_45 (by decide) ?_
      obtain ⟨f5, hf5, hM⟩ := ob hM
      refine wk_iast hx hb hG hP hD hS 1 0 rfl rfl hf5 dX7_lose_46 (fun H locs hP hD hS => ?_)
      obtain ⟨y_6, hy_6, hM⟩ := tbE hM
      have hP : va_P (dC, dI) vwCl (wMod cI g y_6) H := by rw [hy_6]; exact hP
      have hD : va_D A (wMod cI g y_6) := by rw [hy_6]; exact hD
      refine lv_iload_n hx hb dX7_lose_47 rfl (lv_at hl 0 rfl) ?_
      replace hM := Option.some.inj hM
      subst hM
      exact wk_retMi hx hb hr hlocks hQ rfl rfl hP hD hS dX7_lose_48
    · replace hM := (if_neg c2).symm.trans hM
      refine lv_iconst (v := (0 : Int32)) hx hb dX7_lose_19 (by decide) ?_
      replace hM := Option.some.inj hM
      subst hM
      exact wk_retMi hx hb hr hlocks hQ rfl rfl hP hD hS dX7_lose_20
  unfold M_X7_lose at hM
  refine lv_aload_n hx hb dX7_lose_0 rfl (lv_at hl 0 rfl) ?_
  refine lv_iload_n hx hb dX7_lose_1 rfl (lv_at hl 1 rfl) ?_
  refine wk_callP (va_runS (As := [.int p1]) (rest := [.ref (g 0)]) ⟨hx, hb, hml, hown, hts⟩ (c_X7_isController l dC dI cI cD cJ kk  p1 _ rfl H) (va_cwS 1 hts gX7_lose_X7_isController rfl rfl rfl (by decide +kernel) ⟨Nat.le_of_ble_eq_true rfl, Nat.le_of_ble_eq_true rfl⟩) (wk_preS hG hP hD [] rfl rfl) rfl rfl hl.1 rfl (lv_room (Nat.le_of_ble_eq_true rfl)) dX7_lose_2 ⟨Nat.le_of_ble_eq_true rfl, Nat.le_of_ble_eq_true rfl⟩) hS (fun locs hS => ?_)
  refine lv_if_ne (tgt := 12) hx hb dX7_lose_5 (by decide) (fun c1 => ?_) (fun c1 => ?_)
  · replace hM := (if_neg c1).symm.trans hM
    refine lv_iconst (v := (0 : Int32)) hx hb dX7_lose_12 (by decide) ?_
    exact hB13 false x H _ _ hM hP hD hS (lv_sub hl [0, 1] rfl)
  · replace hM := (if_pos c1).symm.trans hM
    refine lv_iconst (v := (1 : Int32)) hx hb dX7_lose_8 (by decide) ?_
    refine lv_goto (tgt := 13) hx hb dX7_lose_9 (by decide) ?_
    exact hB13 true x H _ _ hM hP hD hS (lv_sub hl [0, 1] rfl)
set_option maxHeartbeats 4000000 in
set_option maxRecDepth 100000 in
theorem c_X7_block (l : Launch) (dC : Nat → ClassId) (dI : Nat → Nat → Nat) (cI cD cJ : ClassId) (kk : wAd) (g : Nat → Nat) (x : MS) (p1 : Int32) (out : Int32 × MS) (hM : M_X7_block x p1 = some out) : CM l yX7_block wsX7_block ({ frames := 2, cells := 0, slots := 0, locals := 42 } : Room) dC dI (wTys cI cD cJ) [.ref (g 0), .int p1] (wMod cI g x) (some (.int out.1)) (wMod cI g out.2) 0 0 := by
  refine wk_enterM (cc := cX7_block) (maxL := 2) (ret := (some .int)) (by decide) rfl (Nat.le_of_ble_eq_true rfl) ?_
  intro p e s m below meth c A Q ls hB hA hP hD hQ hl
  obtain ⟨hx, hb, hml, hr, hts, hown, hname, hlocks, hG⟩ := hB
  have hown : s.vm.findClass RX7 = some m.cls := hown
  have hS : va_S A s.heap s.heap [] := va_S.rf
  have hl : lv_has ls 2 [(0, .ref (g 0)), (1, .int p1)] := hl
  have inX7 : ∀ w ∈ wsX70, w ∈ wsX7_block := fun _ h => List.mem_cons_of_mem _ (List.mem_append_right _ h)
  obtain ⟨H, hH⟩ : ∃ z, z = s.heap := ⟨_, rfl⟩
  have hP : va_P (dC, dI) vwCl (wMod cI g x) H := by rw [hH]; exact hP
  have hS : va_S A s.heap H [] := by rw [hH]; exact hS
  refine wk_at hH ?_
  generalize ([] : List Loc) = locs at hS ⊢
  have hB31 : ∀ (w0 : Int32) (y0 : MS) (H : Heap) (locs : List Loc) (ls : Array Slot), M_X7_block_31 x p1 w0 y0 = some out → va_P (dC, dI) vwCl (wMod cI g y0) H → va_D A (wMod cI g y0) → va_S A s.heap H locs → lv_has ls 2 [] → W p l e ({ frames := 2, cells := 0, slots := 0, locals := 42 } : Room) s m ([.ref (g 0), .int p1] : List Value).toArray below meth c H locs 0 0 Q (F0 m 31 ls [.int w0]) := by
    intro w0 y0 H locs ls hM hP hD hS hl
    unfold M_X7_block_31 at hM
    replace hM := Option.some.inj hM
    subst hM
    exact wk_retMi hx hb hr hlocks hQ rfl rfl hP hD hS dX7_block_31
  have hB13 : ∀ (w1 : Bool) (y0 : MS) (H : Heap) (locs : List Loc) (ls : Array Slot), M_X7_block_13 x p1 w1 y0 = some out → va_P (dC, dI) vwCl (wMod cI g y0) H → va_D A (wMod cI g y0) → va_S A s.heap H locs → lv_has ls 2 [(0, .ref (g 0)), (1, .int p1)] → W p l e ({ frames := 2, cells := 0, slots := 0, locals := 42 } : Room) s m ([.ref (g 0), .int p1] : List Value).toArray below meth c H locs 0 0 Q (F0 m 13 ls [.int (zI w1), .ref (g 0)]) := by
    intro w1 y0 H locs ls hM hP hD hS hl
    unfold M_X7_block_13 at hM
    obtain ⟨r1, hr1, hM⟩ := tbE hM
    refine wk_callM (ws' := (wMod cI g r1.2)) (va_runV (As := [.int (zI w1)]) (rest := []) ⟨hx, hb, hml, hown, hts⟩ (c_X7_refused l dC dI cI cD cJ kk g y0 (zI w1) _ hr1.symm H) (cwV 1 hts gX7_block_X7_refused rfl rfl rfl (by decide +kernel) ⟨Nat.le_of_ble_eq_true rfl, Nat.le_of_ble_eq_true rfl⟩) (wk_preV (ci := 5) (q0 := 0) hG hP hD [0, 1, 2, 3, 4, 5, 6, 7] rfl rfl rfl rfl) rfl rfl hl.1 rfl (lv_room (Nat.le_of_ble_eq_true rfl)) dX7_block_13 ⟨Nat.le_of_ble_eq_true rfl, Nat.le_of_ble_eq_true rfl⟩) hP hD hS hA [0, 1, 2, 3, 4, 5, 6, 7] [] [0, 1, 2, 3, 4, 5, 6, 7] rfl rfl rfl (by decide) rfl rfl (fun H locs hP hD hS => ?_)
    refine lv_if_eq (tgt := 23) hx hb dX7_block_16 (by decide) (fun c2 => ?_) (fun c2 => ?_)
    · replace hM := (if_pos c2).symm.trans hM
      refine lv_aload_n hx hb dX7_block_23 rfl (lv_at hl 0 rfl) ?_
      refine va_get (D := (dC, dI)) (ci := 5) (v := .ref (g 1)) (C := RX7) (T := TX7) (N := 14) hx hb hts inX7 hown hG.1 hP 0 rfl rfl 0 (by decide) (hts (.fieldLink RX7 7 "WokenDriveModel" "now" "[I") (List.mem_of_getElem? (i := 1) rfl)) (fun _ h9 => h9) rfl dX7_block_24 ?_
      refine lv_iconst (v := (4 : Int32)) hx hb dX7_block_27 (by decide) ?_
      refine lv_iload_n hx hb dX7_block_28 rfl (lv_at hl 1 rfl) ?_
      refine lv_iadd hx hb dX7_block_29 ?_
      obtain ⟨v3, hv3, hM⟩ := ob hM
      refine wk_iald hx hb hG hP 1 0 rfl rfl hv3 dX7_block_30 ?_
      exact hB31 v3 r1.2 H _ _ hM hP hD hS (lv_sub hl [] rfl)
    · replace hM := (if_neg c2).symm.trans hM
      refine lv_iconst (v := (0 : Int32)) hx hb dX7_block_19 (by decide) ?_
      refine lv_goto (tgt := 31) hx hb dX7_block_20 (by decide) ?_
      exact hB31 (0 : Int32) r1.2 H _ _ hM hP hD hS (lv_sub hl [] rfl)
  unfold M_X7_block at hM
  refine lv_aload_n hx hb dX7_block_0 rfl (lv_at hl 0 rfl) ?_
  refine lv_iload_n hx hb dX7_block_1 rfl (lv_at hl 1 rfl) ?_
  refine wk_callP (va_runS (As := [.int p1]) (rest := [.ref (g 0)]) ⟨hx, hb, hml, hown, hts⟩ (c_X7_isBlock l dC dI cI cD cJ kk  p1 _ rfl H) (va_cwS 1 hts gX7_block_X7_isBlock rfl rfl rfl (by decide +kernel) ⟨Nat.le_of_ble_eq_true rfl, Nat.le_of_ble_eq_true rfl⟩) (wk_preS hG hP hD [] rfl rfl) rfl rfl hl.1 rfl (lv_room (Nat.le_of_ble_eq_true rfl)) dX7_block_2 ⟨Nat.le_of_ble_eq_true rfl, Nat.le_of_ble_eq_true rfl⟩) hS (fun locs hS => ?_)
  refine lv_if_ne (tgt := 12) hx hb dX7_block_5 (by decide) (fun c1 => ?_) (fun c1 => ?_)
  · replace hM := (if_neg c1).symm.trans hM
    refine lv_iconst (v := (0 : Int32)) hx hb dX7_block_12 (by decide) ?_
    exact hB13 false x H _ _ hM hP hD hS (lv_sub hl [0, 1] rfl)
  · replace hM := (if_pos c1).symm.trans hM
    refine lv_iconst (v := (1 : Int32)) hx hb dX7_block_8 (by decide) ?_
    refine lv_goto (tgt := 13) hx hb dX7_block_9 (by decide) ?_
    exact hB13 true x H _ _ hM hP hD hS (lv_sub hl [0, 1] rfl)
set_option maxHeartbeats 4000000 in
set_option maxRecDepth 100000 in
theorem c_X7_orderOf (l : Launch) (dC : Nat → ClassId) (dI : Nat → Nat → Nat) (cI cD cJ : ClassId) (kk : wAd) (g : Nat → Nat) (x : MS) (p1 : Int32) (p2 : Int32) (out : Int32 × MS) (hM : M_X7_orderOf x p1 p2 = some out) : CM l yX7_orderOf wsX7_orderOf ({ frames := 2, cells := 0, slots := 0, locals := 43 } : Room) dC dI (wTys cI cD cJ) [.ref (g 0), .int p1, .int p2] (wMod cI g x) (some (.int out.1)) (wMod cI g out.2) 0 0 := by
  refine wk_enterM (cc := cX7_orderOf) (maxL := 3) (ret := (some .int)) (by decide) rfl (Nat.le_of_ble_eq_true rfl) ?_
  intro p e s m below meth c A Q ls hB hA hP hD hQ hl
  obtain ⟨hx, hb, hml, hr, hts, hown, hname, hlocks, hG⟩ := hB
  have hown : s.vm.findClass RX7 = some m.cls := hown
  have hS : va_S A s.heap s.heap [] := va_S.rf
  have hl : lv_has ls 3 [(0, .ref (g 0)), (1, .int p1), (2, .int p2)] := hl
  obtain ⟨H, hH⟩ : ∃ z, z = s.heap := ⟨_, rfl⟩
  have hP : va_P (dC, dI) vwCl (wMod cI g x) H := by rw [hH]; exact hP
  have hS : va_S A s.heap H [] := by rw [hH]; exact hS
  refine wk_at hH ?_
  generalize ([] : List Loc) = locs at hS ⊢
  have hB44 : ∀ (w0 : Int32) (y0 : MS) (H : Heap) (locs : List Loc) (ls : Array Slot), M_X7_orderOf_44 x p1 p2 w0 y0 = some out → va_P (dC, dI) vwCl (wMod cI g y0) H → va_D A (wMod cI g y0) → va_S A s.heap H locs → lv_has ls 3 [] → W p l e ({ frames := 2, cells := 0, slots := 0, locals := 43 } : Room) s m ([.ref (g 0), .int p1, .int p2] : List Value).toArray below meth c H locs 0 0 Q (F0 m 44 ls [.int w0]) := by
    intro w0 y0 H locs ls hM hP hD hS hl
    unfold M_X7_orderOf_44 at hM
    replace hM := Option.some.inj hM
    subst hM
    exact wk_retMi hx hb hr hlocks hQ rfl rfl hP hD hS dX7_orderOf_44
  have hB28 : ∀ (w1 : Int32) (y0 : MS) (H : Heap) (locs : List Loc) (ls : Array Slot), M_X7_orderOf_28 x p1 p2 w1 y0 = some out → va_P (dC, dI) vwCl (wMod cI g y0) H → va_D A (wMod cI g y0) → va_S A s.heap H locs → lv_has ls 3 [(0, .ref (g 0)), (1, .int p1), (2, .int p2)] → W p l e ({ frames := 2, cells := 0, slots := 0, locals := 43 } : Room) s m ([.ref (g 0), .int p1, .int p2] : List Value).toArray below meth c H locs 0 0 Q (F0 m 28 ls [.int w1, .ref (g 0)]) := by
    intro w1 y0 H locs ls hM hP hD hS hl
    unfold M_X7_orderOf_28 at hM
    obtain ⟨r1, hr1, hM⟩ := tbE hM
    refine wk_callM (ws' := (wMod cI g r1.2)) (va_runV (As := [.int w1]) (rest := []) ⟨hx, hb, hml, hown, hts⟩ (c_X7_refused l dC dI cI cD cJ kk g y0 w1 _ hr1.symm H) (cwV 1 hts gX7_orderOf_X7_refused rfl rfl rfl (by decide +kernel) ⟨Nat.le_of_ble_eq_true rfl, Nat.le_of_ble_eq_true rfl⟩) (wk_preV (ci := 5) (q0 := 0) hG hP hD [0, 1, 2, 3, 4, 5, 6, 7] rfl rfl rfl rfl) rfl rfl hl.1 rfl (lv_room (Nat.le_of_ble_eq_true rfl)) dX7_orderOf_28 ⟨Nat.le_of_ble_eq_true rfl, Nat.le_of_ble_eq_true rfl⟩) hP hD hS hA [0, 1, 2, 3, 4, 5, 6, 7] [] [0, 1, 2, 3, 4, 5, 6, 7] rfl rfl rfl (by decide) rfl rfl (fun H locs hP hD hS => ?_)
    refine lv_if_eq (tgt := 38) hx hb dX7_orderOf_31 (by decide) (fun c2 => ?_) (fun c2 => ?_)
    · replace hM := (if_pos c2).symm.trans hM
      refine lv_aload_n hx hb dX7_orderOf_38 rfl (lv_at hl 0 rfl) ?_
      refine lv_iload_n hx hb dX7_orderOf_39 rfl (lv_at hl 1 rfl) ?_
      refine lv_iload_n hx hb dX7_orderOf_40 rfl (lv_at hl 2 rfl) ?_
      obtain ⟨r3, hr3, hM⟩ := ob hM
      refine wk_callP (va_runV (As := [.int p1, .int p2]) (rest := []) ⟨hx, hb, hml, hown, hts⟩ (c_X7_of l dC dI cI cD cJ kk g r1.2 p1 p2 _ hr3 H) (cwV 2 hts gX7_orderOf_X7_of rfl rfl rfl (by decide +kernel) ⟨Nat.le_of_ble_eq_true rfl, Nat.le_of_ble_eq_true rfl⟩) (wk_preV (ci := 5) (q0 := 0) hG hP hD [0, 1, 2, 3, 4, 5, 6, 7] rfl rfl rfl rfl) rfl rfl hl.1 rfl (lv_room (Nat.le_of_ble_eq_true rfl)) dX7_orderOf_41 ⟨Nat.le_of_ble_eq_true rfl, Nat.le_of_ble_eq_true rfl⟩) hS (fun locs hS => ?_)
      exact hB44 r3 r1.2 H _ _ hM hP hD hS (lv_sub hl [] rfl)
    · replace hM := (if_neg c2).symm.trans hM
      refine lv_iconst (v := (0 : Int32)) hx hb dX7_orderOf_34 (by decide) ?_
      refine lv_goto (tgt := 44) hx hb dX7_orderOf_35 (by decide) ?_
      exact hB44 (0 : Int32) r1.2 H _ _ hM hP hD hS (lv_sub hl [] rfl)
  unfold M_X7_orderOf at hM
  refine lv_aload_n hx hb dX7_orderOf_0 rfl (lv_at hl 0 rfl) ?_
  refine lv_aload_n hx hb dX7_orderOf_1 rfl (lv_at hl 0 rfl) ?_
  refine lv_iload_n hx hb dX7_orderOf_2 rfl (lv_at hl 1 rfl) ?_
  obtain ⟨r1, hr1, hM⟩ := ob hM
  refine wk_callP (va_runV (As := [.int p1]) (rest := [.ref (g 0)]) ⟨hx, hb, hml, hown, hts⟩ (c_X7_isOrder l dC dI cI cD cJ kk g x p1 _ hr1 H) (cwV 1 hts gX7_orderOf_X7_isOrder rfl rfl rfl (by decide +kernel) ⟨Nat.le_of_ble_eq_true rfl, Nat.le_of_ble_eq_true rfl⟩) (wk_preV (ci := 5) (q0 := 0) hG hP hD [0, 1, 2, 3, 4, 5, 6, 7] rfl rfl rfl rfl) rfl rfl hl.1 rfl (lv_room (Nat.le_of_ble_eq_true rfl)) dX7_orderOf_3 ⟨Nat.le_of_ble_eq_true rfl, Nat.le_of_ble_eq_true rfl⟩) hS (fun locs hS => ?_)
  refine lv_if_ne (tgt := 13) hx hb dX7_orderOf_6 (by decide) (fun c2 => ?_) (fun c2 => ?_)
  · replace hM := (if_neg c2).symm.trans hM
    refine lv_iload_n hx hb dX7_orderOf_13 rfl (lv_at hl 2 rfl) ?_
    refine lv_iconst (v := (0 : Int32)) hx hb dX7_orderOf_14 (by decide) ?_
    refine lv_bipush (v := (9 : Int32)) hx hb dX7_orderOf_15 (by decide) ?_
    refine wk_callP (va_runS (As := [.int p2, .int (0 : Int32), .int (9 : Int32)]) (rest := [.ref (g 0)]) ⟨hx, hb, hml, hown, hts⟩ (c_X7_within l dC dI cI cD cJ kk  p2 (0 : Int32) (9 : Int32) _ rfl H) (va_cwS 3 hts gX7_orderOf_X7_within rfl rfl rfl (by decide +kernel) ⟨Nat.le_of_ble_eq_true rfl, Nat.le_of_ble_eq_true rfl⟩) (wk_preS hG hP hD [] rfl rfl) rfl rfl hl.1 rfl (lv_room (Nat.le_of_ble_eq_true rfl)) dX7_orderOf_17 ⟨Nat.le_of_ble_eq_true rfl, Nat.le_of_ble_eq_true rfl⟩) hS (fun locs hS => ?_)
    refine lv_if_ne (tgt := 27) hx hb dX7_orderOf_20 (by decide) (fun c3 => ?_) (fun c3 => ?_)
    · replace hM := (if_neg c3).symm.trans hM
      refine lv_iconst (v := (0 : Int32)) hx hb dX7_orderOf_27 (by decide) ?_
      exact hB28 (0 : Int32) x H _ _ hM hP hD hS (lv_sub hl [0, 1, 2] rfl)
    · replace hM := (if_pos c3).symm.trans hM
      refine lv_iconst (v := (2 : Int32)) hx hb dX7_orderOf_23 (by decide) ?_
      refine lv_goto (tgt := 28) hx hb dX7_orderOf_24 (by decide) ?_
      exact hB28 (2 : Int32) x H _ _ hM hP hD hS (lv_sub hl [0, 1, 2] rfl)
  · replace hM := (if_pos c2).symm.trans hM
    refine lv_iconst (v := (1 : Int32)) hx hb dX7_orderOf_9 (by decide) ?_
    refine lv_goto (tgt := 28) hx hb dX7_orderOf_10 (by decide) ?_
    exact hB28 (1 : Int32) x H _ _ hM hP hD hS (lv_sub hl [0, 1, 2] rfl)
set_option maxHeartbeats 4000000 in
set_option maxRecDepth 100000 in
theorem c_X7_orderWith (l : Launch) (dC : Nat → ClassId) (dI : Nat → Nat → Nat) (cI cD cJ : ClassId) (kk : wAd) (g : Nat → Nat) (x : MS) (p1 : Int32) (p2 : Int32) (out : Int32 × MS) (hM : M_X7_orderWith x p1 p2 = some out) : CM l yX7_orderWith wsX7_orderWith ({ frames := 2, cells := 0, slots := 0, locals := 46 } : Room) dC dI (wTys cI cD cJ) [.ref (g 0), .int p1, .int p2] (wMod cI g x) (some (.int out.1)) (wMod cI g out.2) 0 0 := by
  refine wk_enterM (cc := cX7_orderWith) (maxL := 3) (ret := (some .int)) (by decide) rfl (Nat.le_of_ble_eq_true rfl) ?_
  intro p e s m below meth c A Q ls hB hA hP hD hQ hl
  obtain ⟨hx, hb, hml, hr, hts, hown, hname, hlocks, hG⟩ := hB
  have hown : s.vm.findClass RX7 = some m.cls := hown
  have hS : va_S A s.heap s.heap [] := va_S.rf
  have hl : lv_has ls 3 [(0, .ref (g 0)), (1, .int p1), (2, .int p2)] := hl
  obtain ⟨H, hH⟩ : ∃ z, z = s.heap := ⟨_, rfl⟩
  have hP : va_P (dC, dI) vwCl (wMod cI g x) H := by rw [hH]; exact hP
  have hS : va_S A s.heap H [] := by rw [hH]; exact hS
  refine wk_at hH ?_
  generalize ([] : List Loc) = locs at hS ⊢
  have hB30 : ∀ (w0 : Int32) (y0 : MS) (H : Heap) (locs : List Loc) (ls : Array Slot), M_X7_orderWith_30 x p1 p2 w0 y0 = some out → va_P (dC, dI) vwCl (wMod cI g y0) H → va_D A (wMod cI g y0) → va_S A s.heap H locs → lv_has ls 3 [] → W p l e ({ frames := 2, cells := 0, slots := 0, locals := 46 } : Room) s m ([.ref (g 0), .int p1, .int p2] : List Value).toArray below meth c H locs 0 0 Q (F0 m 30 ls [.int w0]) := by
    intro w0 y0 H locs ls hM hP hD hS hl
    unfold M_X7_orderWith_30 at hM
    replace hM := Option.some.inj hM
    subst hM
    exact wk_retMi hx hb hr hlocks hQ rfl rfl hP hD hS dX7_orderWith_30
  have hB14 : ∀ (w1 : Bool) (y0 : MS) (H : Heap) (locs : List Loc) (ls : Array Slot), M_X7_orderWith_14 x p1 p2 w1 y0 = some out → va_P (dC, dI) vwCl (wMod cI g y0) H → va_D A (wMod cI g y0) → va_S A s.heap H locs → lv_has ls 3 [(0, .ref (g 0)), (1, .int p1), (2, .int p2)] → W p l e ({ frames := 2, cells := 0, slots := 0, locals := 46 } : Room) s m ([.ref (g 0), .int p1, .int p2] : List Value).toArray below meth c H locs 0 0 Q (F0 m 14 ls [.int (zI w1), .ref (g 0)]) := by
    intro w1 y0 H locs ls hM hP hD hS hl
    unfold M_X7_orderWith_14 at hM
    obtain ⟨r1, hr1, hM⟩ := tbE hM
    refine wk_callM (ws' := (wMod cI g r1.2)) (va_runV (As := [.int (zI w1)]) (rest := []) ⟨hx, hb, hml, hown, hts⟩ (c_X7_refused l dC dI cI cD cJ kk g y0 (zI w1) _ hr1.symm H) (cwV 1 hts gX7_orderWith_X7_refused rfl rfl rfl (by decide +kernel) ⟨Nat.le_of_ble_eq_true rfl, Nat.le_of_ble_eq_true rfl⟩) (wk_preV (ci := 5) (q0 := 0) hG hP hD [0, 1, 2, 3, 4, 5, 6, 7] rfl rfl rfl rfl) rfl rfl hl.1 rfl (lv_room (Nat.le_of_ble_eq_true rfl)) dX7_orderWith_14 ⟨Nat.le_of_ble_eq_true rfl, Nat.le_of_ble_eq_true rfl⟩) hP hD hS hA [0, 1, 2, 3, 4, 5, 6, 7] [] [0, 1, 2, 3, 4, 5, 6, 7] rfl rfl rfl (by decide) rfl rfl (fun H locs hP hD hS => ?_)
    refine lv_if_eq (tgt := 24) hx hb dX7_orderWith_17 (by decide) (fun c2 => ?_) (fun c2 => ?_)
    · replace hM := (if_pos c2).symm.trans hM
      refine lv_aload_n hx hb dX7_orderWith_24 rfl (lv_at hl 0 rfl) ?_
      refine lv_iload_n hx hb dX7_orderWith_25 rfl (lv_at hl 1 rfl) ?_
      refine lv_iload_n hx hb dX7_orderWith_26 rfl (lv_at hl 2 rfl) ?_
      obtain ⟨r3, hr3, hM⟩ := ob hM
      refine wk_callP (va_runV (As := [.int p1, .int p2]) (rest := []) ⟨hx, hb, hml, hown, hts⟩ (c_X7_latest l dC dI cI cD cJ kk g r1.2 p1 p2 _ hr3 H) (cwV 2 hts gX7_orderWith_X7_latest rfl rfl rfl (by decide +kernel) ⟨Nat.le_of_ble_eq_true rfl, Nat.le_of_ble_eq_true rfl⟩) (wk_preV (ci := 5) (q0 := 0) hG hP hD [0, 1, 2, 3, 4, 5, 6, 7] rfl rfl rfl rfl) rfl rfl hl.1 rfl (lv_room (Nat.le_of_ble_eq_true rfl)) dX7_orderWith_27 ⟨Nat.le_of_ble_eq_true rfl, Nat.le_of_ble_eq_true rfl⟩) hS (fun locs hS => ?_)
      exact hB30 r3 r1.2 H _ _ hM hP hD hS (lv_sub hl [] rfl)
    · replace hM := (if_neg c2).symm.trans hM
      refine lv_iconst (v := (0 : Int32)) hx hb dX7_orderWith_20 (by decide) ?_
      refine lv_goto (tgt := 30) hx hb dX7_orderWith_21 (by decide) ?_
      exact hB30 (0 : Int32) r1.2 H _ _ hM hP hD hS (lv_sub hl [] rfl)
  unfold M_X7_orderWith at hM
  refine lv_aload_n hx hb dX7_orderWith_0 rfl (lv_at hl 0 rfl) ?_
  refine lv_iload_n hx hb dX7_orderWith_1 rfl (lv_at hl 1 rfl) ?_
  refine lv_iload_n hx hb dX7_orderWith_2 rfl (lv_at hl 2 rfl) ?_
  refine wk_callP (va_runS (As := [.int p1, .int p2]) (rest := [.ref (g 0)]) ⟨hx, hb, hml, hown, hts⟩ (c_X7_isTag l dC dI cI cD cJ kk  p1 p2 _ rfl H) (va_cwS 2 hts gX7_orderWith_X7_isTag rfl rfl rfl (by decide +kernel) ⟨Nat.le_of_ble_eq_true rfl, Nat.le_of_ble_eq_true rfl⟩) (wk_preS hG hP hD [] rfl rfl) rfl rfl hl.1 rfl (lv_room (Nat.le_of_ble_eq_true rfl)) dX7_orderWith_3 ⟨Nat.le_of_ble_eq_true rfl, Nat.le_of_ble_eq_true rfl⟩) hS (fun locs hS => ?_)
  refine lv_if_ne (tgt := 13) hx hb dX7_orderWith_6 (by decide) (fun c1 => ?_) (fun c1 => ?_)
  · replace hM := (if_neg c1).symm.trans hM
    refine lv_iconst (v := (0 : Int32)) hx hb dX7_orderWith_13 (by decide) ?_
    exact hB14 false x H _ _ hM hP hD hS (lv_sub hl [0, 1, 2] rfl)
  · replace hM := (if_pos c1).symm.trans hM
    refine lv_iconst (v := (1 : Int32)) hx hb dX7_orderWith_9 (by decide) ?_
    refine lv_goto (tgt := 14) hx hb dX7_orderWith_10 (by decide) ?_
    exact hB14 true x H _ _ hM hP hD hS (lv_sub hl [0, 1, 2] rfl)
set_option maxHeartbeats 4000000 in
set_option maxRecDepth 100000 in
theorem c_X7_controller (l : Launch) (dC : Nat → ClassId) (dI : Nat → Nat → Nat) (cI cD cJ : ClassId) (kk : wAd) (g : Nat → Nat) (x : MS) (p1 : Int32) (p2 : Int32) (out : Int32 × MS) (hM : M_X7_controller x p1 p2 = some out) : CM l yX7_controller wsX7_controller ({ frames := 3, cells := 0, slots := 0, locals := 67 } : Room) dC dI (wTys cI cD cJ) [.ref (g 0), .int p1, .int p2] (wMod cI g x) (some (.int out.1)) (wMod cI g out.2) 0 0 := by
  refine wk_enterM (cc := cX7_controller) (maxL := 3) (ret := (some .int)) (by decide) rfl (Nat.le_of_ble_eq_true rfl) ?_
  intro p e s m below meth c A Q ls hB hA hP hD hQ hl
  obtain ⟨hx, hb, hml, hr, hts, hown, hname, hlocks, hG⟩ := hB
  have hown : s.vm.findClass RX7 = some m.cls := hown
  have hS : va_S A s.heap s.heap [] := va_S.rf
  have hl : lv_has ls 3 [(0, .ref (g 0)), (1, .int p1), (2, .int p2)] := hl
  obtain ⟨H, hH⟩ : ∃ z, z = s.heap := ⟨_, rfl⟩
  have hP : va_P (dC, dI) vwCl (wMod cI g x) H := by rw [hH]; exact hP
  have hS : va_S A s.heap H [] := by rw [hH]; exact hS
  refine wk_at hH ?_
  generalize ([] : List Loc) = locs at hS ⊢
  have hB70 : ∀ (w0 : Int32) (y0 : MS) (H : Heap) (locs : List Loc) (ls : Array Slot), M_X7_controller_70 x p1 p2 w0 y0 = some out → va_P (dC, dI) vwCl (wMod cI g y0) H → va_D A (wMod cI g y0) → va_S A s.heap H locs → lv_has ls 3 [] → W p l e ({ frames := 3, cells := 0, slots := 0, locals := 67 } : Room) s m ([.ref (g 0), .int p1, .int p2] : List Value).toArray below meth c H locs 0 0 Q (F0 m 70 ls [.int w0]) := by
    intro w0 y0 H locs ls hM hP hD hS hl
    unfold M_X7_controller_70 at hM
    replace hM := Option.some.inj hM
    subst hM
    exact wk_retMi hx hb hr hlocks hQ rfl rfl hP hD hS dX7_controller_70
  have hB27 : ∀ (w1 : Int32) (y0 : MS) (H : Heap) (locs : List Loc) (ls : Array Slot), M_X7_controller_27 x p1 p2 w1 y0 = some out → va_P (dC, dI) vwCl (wMod cI g y0) H → va_D A (wMod cI g y0) → va_S A s.heap H locs → lv_has ls 3 [(0, .ref (g 0)), (1, .int p1), (2, .int p2)] → W p l e ({ frames := 3, cells := 0, slots := 0, locals := 67 } : Room) s m ([.ref (g 0), .int p1, .int p2] : List Value).toArray below meth c H locs 0 0 Q (F0 m 27 ls [.int w1, .ref (g 0)]) := by
    intro w1 y0 H locs ls hM hP hD hS hl
    unfold M_X7_controller_27 at hM
    obtain ⟨r1, hr1, hM⟩ := tbE hM
    refine wk_callM (ws' := (wMod cI g r1.2)) (va_runV (As := [.int w1]) (rest := []) ⟨hx, hb, hml, hown, hts⟩ (c_X7_refused l dC dI cI cD cJ kk g y0 w1 _ hr1.symm H) (cwV 1 hts gX7_controller_X7_refused rfl rfl rfl (by decide +kernel) ⟨Nat.le_of_ble_eq_true rfl, Nat.le_of_ble_eq_true rfl⟩) (wk_preV (ci := 5) (q0 := 0) hG hP hD [0, 1, 2, 3, 4, 5, 6, 7] rfl rfl rfl rfl) rfl rfl hl.1 rfl (lv_room (Nat.le_of_ble_eq_true rfl)) dX7_controller_27 ⟨Nat.le_of_ble_eq_true rfl, Nat.le_of_ble_eq_true rfl⟩) hP hD hS hA [0, 1, 2, 3, 4, 5, 6, 7] [] [0, 1, 2, 3, 4, 5, 6, 7] rfl rfl rfl (by decide) rfl rfl (fun H locs hP hD hS => ?_)
    refine lv_if_eq (tgt := 35) hx hb dX7_controller_30 (by decide) (fun c2 => ?_) (fun c2 => ?_)
    · replace hM := (if_pos c2).symm.trans hM
      refine lv_iload_n hx hb dX7_controller_35 rfl (lv_at hl 2 rfl) ?_
      refine lv_iconst (v := (4 : Int32)) hx hb dX7_controller_36 (by decide) ?_
      refine lv_icmp_ge (tgt := 49) hx hb dX7_controller_37 (by decide) (fun c3 => ?_) (fun c3 => ?_)
      · replace hM := (if_pos c3).symm.trans hM
        refine lv_iload_n hx hb dX7_controller_49 rfl (lv_at hl 2 rfl) ?_
        refine lv_iconst (v := (4 : Int32)) hx hb dX7_controller_50 (by decide) ?_
        refine lv_icmp_ne (tgt := 62) hx hb dX7_controller_51 (by decide) (fun c4 => ?_) (fun c4 => ?_)
        · replace hM := (if_neg c4).symm.trans hM
          refine lv_aload_n hx hb dX7_controller_62 rfl (lv_at hl 0 rfl) ?_
          refine lv_iload_n hx hb dX7_controller_63 rfl (lv_at hl 1 rfl) ?_
          refine lv_iload_n hx hb dX7_controller_64 rfl (lv_at hl 2 rfl) ?_
          refine lv_iconst (v := (1 : Int32)) hx hb dX7_controller_65 (by decide) ?_
          refine lv_isub hx hb dX7_controller_66 ?_
          obtain ⟨r5, hr5, hM⟩ := ob hM
          refine wk_callP (va_runV (As := [.int p1, .int (p2 - (1 : Int32))]) (rest := []) ⟨hx, hb, hml, hown, hts⟩ (c_X7_control l dC dI cI cD cJ kk g r1.2 p1 (p2 - (1 : Int32)) _ hr5 H) (cwV 2 hts gX7_controller_X7_control rfl rfl rfl (by decide +kernel) ⟨Nat.le_of_ble_eq_true rfl, Nat.le_of_ble_eq_true rfl⟩) (wk_preV (ci := 5) (q0 := 0) hG hP hD [0, 1, 2, 3, 4, 5, 6, 7] rfl rfl rfl rfl) rfl rfl hl.1 rfl (lv_room (Nat.le_of_ble_eq_true rfl)) dX7_controller_67 ⟨Nat.le_of_ble_eq_true rfl, Nat.le_of_ble_eq_true rfl⟩) hS (fun locs hS => ?_)
          exact hB70 r5 r1.2 H _ _ hM hP hD hS (lv_sub hl [] rfl)
        · replace hM := (if_pos c4).symm.trans hM
          refine lv_aload_n hx hb dX7_controller_54 rfl (lv_at hl 0 rfl) ?_
          refine lv_iload_n hx hb dX7_controller_55 rfl (lv_at hl 1 rfl) ?_
          obtain ⟨r6, hr6, hM⟩ := ob hM
          refine wk_callP (va_runV (As := [.int p1]) (rest := []) ⟨hx, hb, hml, hown, hts⟩ (c_X7_arrived l dC dI cI cD cJ kk g r1.2 p1 _ hr6 H) (cwV 1 hts gX7_controller_X7_arrived rfl rfl rfl (by decide +kernel) ⟨Nat.le_of_ble_eq_true rfl, Nat.le_of_ble_eq_true rfl⟩) (wk_preV (ci := 5) (q0 := 0) hG hP hD [0, 1, 2, 3, 4, 5, 6, 7] rfl rfl rfl rfl) rfl rfl hl.1 rfl (lv_room (Nat.le_of_ble_eq_true rfl)) dX7_controller_56 ⟨Nat.le_of_ble_eq_true rfl, Nat.le_of_ble_eq_true rfl⟩) hS (fun locs hS => ?_)
          refine lv_goto (tgt := 70) hx hb dX7_controller_59 (by decide) ?_
          exact hB70 r6 r1.2 H _ _ hM hP hD hS (lv_sub hl [] rfl)
      · replace hM := (if_neg c3).symm.trans hM
        refine lv_aload_n hx hb dX7_controller_40 rfl (lv_at hl 0 rfl) ?_
        refine lv_iload_n hx hb dX7_controller_41 rfl (lv_at hl 1 rfl) ?_
        refine lv_iload_n hx hb dX7_controller_42 rfl (lv_at hl 2 rfl) ?_
        obtain ⟨r7, hr7, hM⟩ := ob hM
        refine wk_callP (va_runV (As := [.int p1, .int p2]) (rest := []) ⟨hx, hb, hml, hown, hts⟩ (c_X7_control l dC dI cI cD cJ kk g r1.2 p1 p2 _ hr7 H) (cwV 2 hts gX7_controller_X7_control rfl rfl rfl (by decide +kernel) ⟨Nat.le_of_ble_eq_true rfl, Nat.le_of_ble_eq_true rfl⟩) (wk_preV (ci := 5) (q0 := 0) hG hP hD [0, 1, 2, 3, 4, 5, 6, 7] rfl rfl rfl rfl) rfl rfl hl.1 rfl (lv_room (Nat.le_of_ble_eq_true rfl)) dX7_controller_43 ⟨Nat.le_of_ble_eq_true rfl, Nat.le_of_ble_eq_true rfl⟩) hS (fun locs hS => ?_)
        refine lv_goto (tgt := 70) hx hb dX7_controller_46 (by decide) ?_
        exact hB70 r7 r1.2 H _ _ hM hP hD hS (lv_sub hl [] rfl)
    · replace hM := (if_neg c2).symm.trans hM
      refine lv_iconst (v := (0 : Int32)) hx hb dX7_controller_33 (by decide) ?_
      replace hM := Option.some.inj hM
      subst hM
      exact wk_retMi hx hb hr hlocks hQ rfl rfl hP hD hS dX7_controller_34
  unfold M_X7_controller at hM
  refine lv_aload_n hx hb dX7_controller_0 rfl (lv_at hl 0 rfl) ?_
  refine lv_iload_n hx hb dX7_controller_1 rfl (lv_at hl 1 rfl) ?_
  refine wk_callP (va_runS (As := [.int p1]) (rest := [.ref (g 0)]) ⟨hx, hb, hml, hown, hts⟩ (c_X7_isController l dC dI cI cD cJ kk  p1 _ rfl H) (va_cwS 1 hts gX7_controller_X7_isController rfl rfl rfl (by decide +kernel) ⟨Nat.le_of_ble_eq_true rfl, Nat.le_of_ble_eq_true rfl⟩) (wk_preS hG hP hD [] rfl rfl) rfl rfl hl.1 rfl (lv_room (Nat.le_of_ble_eq_true rfl)) dX7_controller_2 ⟨Nat.le_of_ble_eq_true rfl, Nat.le_of_ble_eq_true rfl⟩) hS (fun locs hS => ?_)
  refine lv_if_ne (tgt := 12) hx hb dX7_controller_5 (by decide) (fun c1 => ?_) (fun c1 => ?_)
  · replace hM := (if_neg c1).symm.trans hM
    refine lv_iload_n hx hb dX7_controller_12 rfl (lv_at hl 2 rfl) ?_
    refine lv_iconst (v := (0 : Int32)) hx hb dX7_controller_13 (by decide) ?_
    refine lv_bipush (v := (8 : Int32)) hx hb dX7_controller_14 (by decide) ?_
    refine wk_callP (va_runS (As := [.int p2, .int (0 : Int32), .int (8 : Int32)]) (rest := [.ref (g 0)]) ⟨hx, hb, hml, hown, hts⟩ (c_X7_within l dC dI cI cD cJ kk  p2 (0 : Int32) (8 : Int32) _ rfl H) (va_cwS 3 hts gX7_controller_X7_within rfl rfl rfl (by decide +kernel) ⟨Nat.le_of_ble_eq_true rfl, Nat.le_of_ble_eq_true rfl⟩) (wk_preS hG hP hD [] rfl rfl) rfl rfl hl.1 rfl (lv_room (Nat.le_of_ble_eq_true rfl)) dX7_controller_16 ⟨Nat.le_of_ble_eq_true rfl, Nat.le_of_ble_eq_true rfl⟩) hS (fun locs hS => ?_)
    refine lv_if_ne (tgt := 26) hx hb dX7_controller_19 (by decide) (fun c2 => ?_) (fun c2 => ?_)
    · replace hM := (if_neg c2).symm.trans hM
      refine lv_iconst (v := (0 : Int32)) hx hb dX7_controller_26 (by decide) ?_
      exact hB27 (0 : Int32) x H _ _ hM hP hD hS (lv_sub hl [0, 1, 2] rfl)
    · replace hM := (if_pos c2).symm.trans hM
      refine lv_iconst (v := (2 : Int32)) hx hb dX7_controller_22 (by decide) ?_
      refine lv_goto (tgt := 27) hx hb dX7_controller_23 (by decide) ?_
      exact hB27 (2 : Int32) x H _ _ hM hP hD hS (lv_sub hl [0, 1, 2] rfl)
  · replace hM := (if_pos c1).symm.trans hM
    refine lv_iconst (v := (1 : Int32)) hx hb dX7_controller_8 (by decide) ?_
    refine lv_goto (tgt := 27) hx hb dX7_controller_9 (by decide) ?_
    exact hB27 (1 : Int32) x H _ _ hM hP hD hS (lv_sub hl [0, 1, 2] rfl)
set_option maxHeartbeats 4000000 in
set_option maxRecDepth 100000 in
theorem c_X7_mail (l : Launch) (dC : Nat → ClassId) (dI : Nat → Nat → Nat) (cI cD cJ : ClassId) (kk : wAd) (g : Nat → Nat) (x : MS) (p1 : Int32) (p2 : Int32) (out : Int32 × MS) (hM : M_X7_mail x p1 p2 = some out) : CM l yX7_mail wsX7_mail ({ frames := 2, cells := 0, slots := 0, locals := 42 } : Room) dC dI (wTys cI cD cJ) [.ref (g 0), .int p1, .int p2] (wMod cI g x) (some (.int out.1)) (wMod cI g out.2) 0 0 := by
  refine wk_enterM (cc := cX7_mail) (maxL := 3) (ret := (some .int)) (by decide) rfl (Nat.le_of_ble_eq_true rfl) ?_
  intro p e s m below meth c A Q ls hB hA hP hD hQ hl
  obtain ⟨hx, hb, hml, hr, hts, hown, hname, hlocks, hG⟩ := hB
  have hown : s.vm.findClass RX7 = some m.cls := hown
  have hS : va_S A s.heap s.heap [] := va_S.rf
  have hl : lv_has ls 3 [(0, .ref (g 0)), (1, .int p1), (2, .int p2)] := hl
  obtain ⟨H, hH⟩ : ∃ z, z = s.heap := ⟨_, rfl⟩
  have hP : va_P (dC, dI) vwCl (wMod cI g x) H := by rw [hH]; exact hP
  have hS : va_S A s.heap H [] := by rw [hH]; exact hS
  refine wk_at hH ?_
  generalize ([] : List Loc) = locs at hS ⊢
  have hB49 : ∀ (w0 : Int32) (y0 : MS) (H : Heap) (locs : List Loc) (ls : Array Slot), M_X7_mail_49 x p1 p2 w0 y0 = some out → va_P (dC, dI) vwCl (wMod cI g y0) H → va_D A (wMod cI g y0) → va_S A s.heap H locs → lv_has ls 3 [] → W p l e ({ frames := 2, cells := 0, slots := 0, locals := 42 } : Room) s m ([.ref (g 0), .int p1, .int p2] : List Value).toArray below meth c H locs 0 0 Q (F0 m 49 ls [.int w0]) := by
    intro w0 y0 H locs ls hM hP hD hS hl
    unfold M_X7_mail_49 at hM
    replace hM := Option.some.inj hM
    subst hM
    exact wk_retMi hx hb hr hlocks hQ rfl rfl hP hD hS dX7_mail_49
  have hB21 : ∀ (w1 : Int32) (y0 : MS) (H : Heap) (locs : List Loc) (ls : Array Slot), M_X7_mail_21 x p1 p2 w1 y0 = some out → va_P (dC, dI) vwCl (wMod cI g y0) H → va_D A (wMod cI g y0) → va_S A s.heap H locs → lv_has ls 3 [(0, .ref (g 0)), (1, .int p1), (2, .int p2)] → W p l e ({ frames := 2, cells := 0, slots := 0, locals := 42 } : Room) s m ([.ref (g 0), .int p1, .int p2] : List Value).toArray below meth c H locs 0 0 Q (F0 m 21 ls [.int w1, .ref (g 0)]) := by
    intro w1 y0 H locs ls hM hP hD hS hl
    unfold M_X7_mail_21 at hM
    obtain ⟨r1, hr1, hM⟩ := tbE hM
    refine wk_callM (ws' := (wMod cI g r1.2)) (va_runV (As := [.int w1]) (rest := []) ⟨hx, hb, hml, hown, hts⟩ (c_X7_refused l dC dI cI cD cJ kk g y0 w1 _ hr1.symm H) (cwV 1 hts gX7_mail_X7_refused rfl rfl rfl (by decide +kernel) ⟨Nat.le_of_ble_eq_true rfl, Nat.le_of_ble_eq_true rfl⟩) (wk_preV (ci := 5) (q0 := 0) hG hP hD [0, 1, 2, 3, 4, 5, 6, 7] rfl rfl rfl rfl) rfl rfl hl.1 rfl (lv_room (Nat.le_of_ble_eq_true rfl)) dX7_mail_21 ⟨Nat.le_of_ble_eq_true rfl, Nat.le_of_ble_eq_true rfl⟩) hP hD hS hA [0, 1, 2, 3, 4, 5, 6, 7] [] [0, 1, 2, 3, 4, 5, 6, 7] rfl rfl rfl (by decide) rfl rfl (fun H locs hP hD hS => ?_)
    refine lv_if_eq (tgt := 29) hx hb dX7_mail_24 (by decide) (fun c2 => ?_) (fun c2 => ?_)
    · replace hM := (if_pos c2).symm.trans hM
      refine lv_iload_n hx hb dX7_mail_29 rfl (lv_at hl 2 rfl) ?_
      refine lv_aload_n hx hb dX7_mail_30 rfl (lv_at hl 0 rfl) ?_
      refine lv_iload_n hx hb dX7_mail_31 rfl (lv_at hl 1 rfl) ?_
      refine lv_iconst (v := (3 : Int32)) hx hb dX7_mail_32 (by decide) ?_
      obtain ⟨r3, hr3, hM⟩ := ob hM
      refine wk_callP (va_runV (As := [.int p1, .int (3 : Int32)]) (rest := [.int p2]) ⟨hx, hb, hml, hown, hts⟩ (c_X7_control l dC dI cI cD cJ kk g r1.2 p1 (3 : Int32) _ hr3 H) (cwV 2 hts gX7_mail_X7_control rfl rfl rfl (by decide +kernel) ⟨Nat.le_of_ble_eq_true rfl, Nat.le_of_ble_eq_true rfl⟩) (wk_preV (ci := 5) (q0 := 0) hG hP hD [0, 1, 2, 3, 4, 5, 6, 7] rfl rfl rfl rfl) rfl rfl hl.1 rfl (lv_room (Nat.le_of_ble_eq_true rfl)) dX7_mail_33 ⟨Nat.le_of_ble_eq_true rfl, Nat.le_of_ble_eq_true rfl⟩) hS (fun locs hS => ?_)
      refine lv_icmp_ge (tgt := 48) hx hb dX7_mail_36 (by decide) (fun c4 => ?_) (fun c4 => ?_)
      · replace hM := (if_pos c4).symm.trans hM
        refine lv_iconst (v := (-1 : Int32)) hx hb dX7_mail_48 (by decide) ?_
        exact hB49 (-1 : Int32) r1.2 H _ _ hM hP hD hS (lv_sub hl [] rfl)
      · replace hM := (if_neg c4).symm.trans hM
        refine lv_aload_n hx hb dX7_mail_39 rfl (lv_at hl 0 rfl) ?_
        refine lv_iload_n hx hb dX7_mail_40 rfl (lv_at hl 1 rfl) ?_
        refine lv_iload_n hx hb dX7_mail_41 rfl (lv_at hl 2 rfl) ?_
        obtain ⟨r5, hr5, hM⟩ := ob hM
        refine wk_callP (va_runV (As := [.int p1, .int p2]) (rest := []) ⟨hx, hb, hml, hown, hts⟩ (c_X7_mailed l dC dI cI cD cJ kk g r1.2 p1 p2 _ hr5 H) (cwV 2 hts gX7_mail_X7_mailed rfl rfl rfl (by decide +kernel) ⟨Nat.le_of_ble_eq_true rfl, Nat.le_of_ble_eq_true rfl⟩) (wk_preV (ci := 5) (q0 := 0) hG hP hD [0, 1, 2, 3, 4, 5, 6, 7] rfl rfl rfl rfl) rfl rfl hl.1 rfl (lv_room (Nat.le_of_ble_eq_true rfl)) dX7_mail_42 ⟨Nat.le_of_ble_eq_true rfl, Nat.le_of_ble_eq_true rfl⟩) hS (fun locs hS => ?_)
        refine lv_goto (tgt := 49) hx hb dX7_mail_45 (by decide) ?_
        exact hB49 r5 r1.2 H _ _ hM hP hD hS (lv_sub hl [] rfl)
    · replace hM := (if_neg c2).symm.trans hM
      refine lv_iconst (v := (0 : Int32)) hx hb dX7_mail_27 (by decide) ?_
      replace hM := Option.some.inj hM
      subst hM
      exact wk_retMi hx hb hr hlocks hQ rfl rfl hP hD hS dX7_mail_28
  unfold M_X7_mail at hM
  refine lv_aload_n hx hb dX7_mail_0 rfl (lv_at hl 0 rfl) ?_
  refine lv_iload_n hx hb dX7_mail_1 rfl (lv_at hl 1 rfl) ?_
  refine wk_callP (va_runS (As := [.int p1]) (rest := [.ref (g 0)]) ⟨hx, hb, hml, hown, hts⟩ (c_X7_isController l dC dI cI cD cJ kk  p1 _ rfl H) (va_cwS 1 hts gX7_mail_X7_isController rfl rfl rfl (by decide +kernel) ⟨Nat.le_of_ble_eq_true rfl, Nat.le_of_ble_eq_true rfl⟩) (wk_preS hG hP hD [] rfl rfl) rfl rfl hl.1 rfl (lv_room (Nat.le_of_ble_eq_true rfl)) dX7_mail_2 ⟨Nat.le_of_ble_eq_true rfl, Nat.le_of_ble_eq_true rfl⟩) hS (fun locs hS => ?_)
  refine lv_if_ne (tgt := 12) hx hb dX7_mail_5 (by decide) (fun c1 => ?_) (fun c1 => ?_)
  · replace hM := (if_neg c1).symm.trans hM
    refine lv_iload_n hx hb dX7_mail_12 rfl (lv_at hl 2 rfl) ?_
    refine lv_if_ge (tgt := 20) hx hb dX7_mail_13 (by decide) (fun c2 => ?_) (fun c2 => ?_)
    · replace hM := (if_pos c2).symm.trans hM
      refine lv_iconst (v := (0 : Int32)) hx hb dX7_mail_20 (by decide) ?_
      exact hB21 (0 : Int32) x H _ _ hM hP hD hS (lv_sub hl [0, 1, 2] rfl)
    · replace hM := (if_neg c2).symm.trans hM
      refine lv_iconst (v := (2 : Int32)) hx hb dX7_mail_16 (by decide) ?_
      refine lv_goto (tgt := 21) hx hb dX7_mail_17 (by decide) ?_
      exact hB21 (2 : Int32) x H _ _ hM hP hD hS (lv_sub hl [0, 1, 2] rfl)
  · replace hM := (if_pos c1).symm.trans hM
    refine lv_iconst (v := (1 : Int32)) hx hb dX7_mail_8 (by decide) ?_
    refine lv_goto (tgt := 21) hx hb dX7_mail_9 (by decide) ?_
    exact hB21 (1 : Int32) x H _ _ hM hP hD hS (lv_sub hl [0, 1, 2] rfl)
set_option maxHeartbeats 4000000 in
set_option maxRecDepth 100000 in
theorem c_X7_sum (l : Launch) (dC : Nat → ClassId) (dI : Nat → Nat → Nat) (cI cD cJ : ClassId) (kk : wAd) (g : Nat → Nat) (x : MS) (out : Int32) (hM : M_X7_sum x = some out) : CP l yX7_sum wsX7_sum ({ frames := 0, cells := 0, slots := 0, locals := 0 } : Room) dC dI (wTys cI cD cJ) [.ref (g 0)] (wMod cI g x) (some (.int out)) := by
  refine wk_enterP (cc := cX7_sum) (maxL := 3) (ret := (some .int)) (by decide) rfl (Nat.le_of_ble_eq_true rfl) ?_
  intro p e s m below meth c A Q ls hB hP hD hA hQ hl
  obtain ⟨hx, hb, hml, hr, hts, hown, hname, hlocks, hG⟩ := hB
  have hown : s.vm.findClass RX7 = some m.cls := hown
  have hS : va_S A s.heap s.heap [] := va_S.rf
  have hl : lv_has ls 3 [(0, .ref (g 0))] := hl
  have inX7 : ∀ w ∈ wsX70, w ∈ wsX7_sum := fun _ h => List.mem_cons_of_mem _ (List.mem_append_right _ h)
  generalize ([] : List Loc) = locs at hS ⊢
  have hL4 : ∀ (n4 : Nat) (u1 : Int32) (u2 : Int32) (locs : List Loc) (ls : Array Slot), lpF (M_X7_sum_4s x) n4 (u1, u2) = some out → va_S A s.heap s.heap locs → lv_has ls 3 [(0, .ref (g 0)), (1, .int u1), (2, .int u2)] → W p l e ({ frames := 0, cells := 0, slots := 0, locals := 0 } : Room) s m ([.ref (g 0)] : List Value).toArray below meth c s.heap locs 0 0 Q (F0 m 4 ls []) := by
    intro n4
    induction n4 with
    | zero => intro u1 u2 locs ls hM; exact lpF_0 hM
    | succ n4 ih4 =>
      intro u1 u2 locs ls hM hS hl
      replace hM : M_X7_sum_4s x (lpF (M_X7_sum_4s x) n4) (u1, u2) = some out := hM
      unfold M_X7_sum_4s at hM
      try dsimp only at hM
      refine lv_iload_n hx hb dX7_sum_4 rfl (lv_at hl 2 rfl) ?_
      refine lv_bipush (v := (16 : Int32)) hx hb dX7_sum_5 (by decide) ?_
      refine lv_icmp_ge (tgt := 27) hx hb dX7_sum_7 (by decide) (fun c1 => ?_) (fun c1 => ?_)
      · replace hM := (if_pos c1).symm.trans hM
        refine lv_iload_n hx hb dX7_sum_27 rfl (lv_at hl 1 rfl) ?_
        replace hM := Option.some.inj hM
        subst hM
        exact wk_retPi hx hb hr hlocks hQ rfl rfl hS dX7_sum_28
      · replace hM := (if_neg c1).symm.trans hM
        refine lv_iload_n hx hb dX7_sum_10 rfl (lv_at hl 1 rfl) ?_
        refine lv_aload_n hx hb dX7_sum_11 rfl (lv_at hl 0 rfl) ?_
        refine va_get (D := (dC, dI)) (ci := 5) (v := .ref (g 1)) (C := RX7) (T := TX7) (N := 14) hx hb hts inX7 hown hG.1 hP 0 rfl rfl 0 (by decide) (hts (.fieldLink RX7 7 "WokenDriveModel" "now" "[I") (List.mem_of_getElem? (i := 1) rfl)) (fun _ h9 => h9) rfl dX7_sum_12 ?_
        refine lv_iconst (v := (4 : Int32)) hx hb dX7_sum_15 (by decide) ?_
        refine lv_iload_n hx hb dX7_sum_16 rfl (lv_at hl 2 rfl) ?_
        refine lv_iadd hx hb dX7_sum_17 ?_
        obtain ⟨v2, hv2, hM⟩ := ob hM
        refine wk_iald hx hb hG hP 1 0 rfl rfl hv2 dX7_sum_18 ?_
        refine lv_iadd hx hb dX7_sum_19 ?_
        refine lv_istore_n (lv' := [(1, .int (u1 + v2)), (0, .ref (g 0)), (2, .int u2)]) hx hb dX7_sum_20 rfl hl (by decide) rfl (fun ls hl => ?_)
        refine lv_iinc (v := (u2 + 1)) (lv' := [(2, .int (u2 + 1)), (1, .int (u1 + v2)), (0, .ref (g 0))]) hx hb dX7_sum_21 hl (k := 2) rfl rfl (by decide) rfl (fun ls hl => ?_)
        refine lv_goto (tgt := 4) hx hb dX7_sum_24 (by decide) ?_
        exact ih4 (u1 + v2) (u2 + 1)  _ _ hM hS (lv_sub hl [2, 1, 0] rfl)
  unfold M_X7_sum at hM
  refine lv_iconst (v := (0 : Int32)) hx hb dX7_sum_0 (by decide) ?_
  refine lv_istore_n (lv' := [(1, .int (0 : Int32)), (0, .ref (g 0))]) hx hb dX7_sum_1 rfl hl (by decide) rfl (fun ls hl => ?_)
  refine lv_iconst (v := (0 : Int32)) hx hb dX7_sum_2 (by decide) ?_
  refine lv_istore_n (lv' := [(2, .int (0 : Int32)), (1, .int (0 : Int32)), (0, .ref (g 0))]) hx hb dX7_sum_3 rfl hl (by decide) rfl (fun ls hl => ?_)
  exact hL4 64 (0 : Int32) (0 : Int32)  _ _ hM hS (lv_sub hl [2, 1, 0] rfl)
set_option maxHeartbeats 4000000 in
set_option maxRecDepth 100000 in
theorem c_X7_whole (l : Launch) (dC : Nat → ClassId) (dI : Nat → Nat → Nat) (cI cD cJ : ClassId) (kk : wAd) (g : Nat → Nat) (x : MS) (p1 : Int32) (out : Int32 × MS) (hM : M_X7_whole x p1 = some out) : CM l yX7_whole wsX7_whole ({ frames := 2, cells := 0, slots := 0, locals := 45 } : Room) dC dI (wTys cI cD cJ) [.ref (g 0), .int p1] (wMod cI g x) (some (.int out.1)) (wMod cI g out.2) 0 0 := by
  refine wk_enterM (cc := cX7_whole) (maxL := 2) (ret := (some .int)) (by decide) rfl (Nat.le_of_ble_eq_true rfl) ?_
  intro p e s m below meth c A Q ls hB hA hP hD hQ hl
  obtain ⟨hx, hb, hml, hr, hts, hown, hname, hlocks, hG⟩ := hB
  have hown : s.vm.findClass RX7 = some m.cls := hown
  have hS : va_S A s.heap s.heap [] := va_S.rf
  have hl : lv_has ls 2 [(0, .ref (g 0)), (1, .int p1)] := hl
  have inX7 : ∀ w ∈ wsX70, w ∈ wsX7_whole := fun _ h => List.mem_cons_of_mem _ (List.mem_append_right _ h)
  obtain ⟨H, hH⟩ : ∃ z, z = s.heap := ⟨_, rfl⟩
  have hP : va_P (dC, dI) vwCl (wMod cI g x) H := by rw [hH]; exact hP
  have hS : va_S A s.heap H [] := by rw [hH]; exact hS
  refine wk_at hH ?_
  generalize ([] : List Loc) = locs at hS ⊢
  have hB156 : ∀ (y0 : MS) (H : Heap) (locs : List Loc) (ls : Array Slot), M_X7_whole_156 x p1 y0 = some out → va_P (dC, dI) vwCl (wMod cI g y0) H → va_D A (wMod cI g y0) → va_S A s.heap H locs → lv_has ls 2 [(0, .ref (g 0)), (1, .int p1)] → W p l e ({ frames := 2, cells := 0, slots := 0, locals := 45 } : Room) s m ([.ref (g 0), .int p1] : List Value).toArray below meth c H locs 0 0 Q (F0 m 156 ls []) := by
    intro y0 H locs ls hM hP hD hS hl
    unfold M_X7_whole_156 at hM
    refine lv_aload_n hx hb dX7_whole_156 rfl (lv_at hl 0 rfl) ?_
    refine lv_iload_n hx hb dX7_whole_157 rfl (lv_at hl 1 rfl) ?_
    refine lv_iconst (v := (1 : Int32)) hx hb dX7_whole_158 (by decide) ?_
    refine lv_isub hx hb dX7_whole_159 ?_
    obtain ⟨r1, hr1, hM⟩ := ob hM
    refine wk_callP (va_runV (As := [.int (p1 - (1 : Int32))]) (rest := []) ⟨hx, hb, hml, hown, hts⟩ (c_X7_ordersIn l dC dI cI cD cJ kk g y0 (p1 - (1 : Int32)) _ hr1 H) (cwV 1 hts gX7_whole_X7_ordersIn rfl rfl rfl (by decide +kernel) ⟨Nat.le_of_ble_eq_true rfl, Nat.le_of_ble_eq_true rfl⟩) (wk_preV (ci := 5) (q0 := 0) hG hP hD [0, 1, 2, 3, 4, 5, 6, 7] rfl rfl rfl rfl) rfl rfl hl.1 rfl (lv_room (Nat.le_of_ble_eq_true rfl)) dX7_whole_160 ⟨Nat.le_of_ble_eq_true rfl, Nat.le_of_ble_eq_true rfl⟩) hS (fun locs hS => ?_)
    replace hM := Option.some.inj hM
    subst hM
    exact wk_retMi hx hb hr hlocks hQ rfl rfl hP hD hS dX7_whole_163
  have hB16 : ∀ (w1 : Bool) (y0 : MS) (H : Heap) (locs : List Loc) (ls : Array Slot), M_X7_whole_16 x p1 w1 y0 = some out → va_P (dC, dI) vwCl (wMod cI g y0) H → va_D A (wMod cI g y0) → va_S A s.heap H locs → lv_has ls 2 [(0, .ref (g 0)), (1, .int p1)] → W p l e ({ frames := 2, cells := 0, slots := 0, locals := 45 } : Room) s m ([.ref (g 0), .int p1] : List Value).toArray below meth c H locs 0 0 Q (F0 m 16 ls [.int (zI w1), .ref (g 0)]) := by
    intro w1 y0 H locs ls hM hP hD hS hl
    unfold M_X7_whole_16 at hM
    obtain ⟨r1, hr1, hM⟩ := tbE hM
    refine wk_callM (ws' := (wMod cI g r1.2)) (va_runV (As := [.int (zI w1)]) (rest := []) ⟨hx, hb, hml, hown, hts⟩ (c_X7_refused l dC dI cI cD cJ kk g y0 (zI w1) _ hr1.symm H) (cwV 1 hts gX7_whole_X7_refused rfl rfl rfl (by decide +kernel) ⟨Nat.le_of_ble_eq_true rfl, Nat.le_of_ble_eq_true rfl⟩) (wk_preV (ci := 5) (q0 := 0) hG hP hD [0, 1, 2, 3, 4, 5, 6, 7] rfl rfl rfl rfl) rfl rfl hl.1 rfl (lv_room (Nat.le_of_ble_eq_true rfl)) dX7_whole_16 ⟨Nat.le_of_ble_eq_true rfl, Nat.le_of_ble_eq_true rfl⟩) hP hD hS hA [0, 1, 2, 3, 4, 5, 6, 7] [] [0, 1, 2, 3, 4, 5, 6, 7] rfl rfl rfl (by decide) rfl rfl (fun H locs hP hD hS => ?_)
    refine lv_if_eq (tgt := 24) hx hb dX7_whole_19 (by decide) (fun c2 => ?_) (fun c2 => ?_)
    · replace hM := (if_pos c2).symm.trans hM
      refine lv_iload_n hx hb dX7_whole_24 rfl (lv_at hl 1 rfl) ?_
      by_cases c3 : p1 = 0
      · replace hM := (if_pos c3).symm.trans hM
        refine lv_tableIn (off := 63) (tgt := 88) hx hb dX7_whole_25 (by rw [c3]; decide) (by rw [c3]; decide) (by rw [c3]; decide) (by decide) ?_
        refine lv_aload_n hx hb dX7_whole_88 rfl (lv_at hl 0 rfl) ?_
        refine va_get (D := (dC, dI)) (ci := 5) (v := .ref (g 1)) (C := RX7) (T := TX7) (N := 14) hx hb hts inX7 hown hG.1 hP 0 rfl rfl 0 (by decide) (hts (.fieldLink RX7 7 "WokenDriveModel" "now" "[I") (List.mem_of_getElem? (i := 1) rfl)) (fun _ h9 => h9) rfl dX7_whole_89 ?_
        refine lv_iconst (v := (1 : Int32)) hx hb dX7_whole_92 (by decide) ?_
        obtain ⟨v4, hv4, hM⟩ := ob hM
        refine wk_iald hx hb hG hP 1 0 rfl rfl hv4 dX7_whole_93 ?_
        replace hM := Option.some.inj hM
        subst hM
        exact wk_retMi hx hb hr hlocks hQ rfl rfl hP hD hS dX7_whole_94
      replace hM := (if_neg c3).symm.trans hM
      by_cases c5 : p1 = 1
      · replace hM := (if_pos c5).symm.trans hM
        refine lv_tableIn (off := 131) (tgt := 156) hx hb dX7_whole_25 (by rw [c5]; decide) (by rw [c5]; decide) (by rw [c5]; decide) (by decide) ?_
        exact hB156 r1.2 H _ _ hM hP hD hS (lv_sub hl [0, 1] rfl)
      replace hM := (if_neg c5).symm.trans hM
      by_cases c6 : p1 = 2
      · replace hM := (if_pos c6).symm.trans hM
        refine lv_tableIn (off := 131) (tgt := 156) hx hb dX7_whole_25 (by rw [c6]; decide) (by rw [c6]; decide) (by rw [c6]; decide) (by decide) ?_
        exact hB156 r1.2 H _ _ hM hP hD hS (lv_sub hl [0, 1] rfl)
      replace hM := (if_neg c6).symm.trans hM
      by_cases c7 : p1 = 3
      · replace hM := (if_pos c7).symm.trans hM
        refine lv_tableIn (off := 131) (tgt := 156) hx hb dX7_whole_25 (by rw [c7]; decide) (by rw [c7]; decide) (by rw [c7]; decide) (by decide) ?_
        exact hB156 r1.2 H _ _ hM hP hD hS (lv_sub hl [0, 1] rfl)
      replace hM := (if_neg c7).symm.trans hM
      by_cases c8 : p1 = 4
      · replace hM := (if_pos c8).symm.trans hM
        refine lv_tableIn (off := 131) (tgt := 156) hx hb dX7_whole_25 (by rw [c8]; decide) (by rw [c8]; decide) (by rw [c8]; decide) (by decide) ?_
        exact hB156 r1.2 H _ _ hM hP hD hS (lv_sub hl [0, 1] rfl)
      replace hM := (if_neg c8).symm.trans hM
      by_cases c9 : p1 = 5
      · replace hM := (if_pos c9).symm.trans hM
        refine lv_tableIn (off := 70) (tgt := 95) hx hb dX7_whole_25 (by rw [c9]; decide) (by rw [c9]; decide) (by rw [c9]; decide) (by decide) ?_
        refine lv_aload_n hx hb dX7_whole_95 rfl (lv_at hl 0 rfl) ?_
        refine va_get (D := (dC, dI)) (ci := 5) (v := .ref (g 1)) (C := RX7) (T := TX7) (N := 14) hx hb hts inX7 hown hG.1 hP 0 rfl rfl 0 (by decide) (hts (.fieldLink RX7 7 "WokenDriveModel" "now" "[I") (List.mem_of_getElem? (i := 1) rfl)) (fun _ h9 => h9) rfl dX7_whole_96 ?_
        refine lv_iconst (v := (0 : Int32)) hx hb dX7_whole_99 (by decide) ?_
        obtain ⟨v10, hv10, hM⟩ := ob hM
        refine wk_iald hx hb hG hP 1 0 rfl rfl hv10 dX7_whole_100 ?_
        replace hM := Option.some.inj hM
        subst hM
        exact wk_retMi hx hb hr hlocks hQ rfl rfl hP hD hS dX7_whole_101
      replace hM := (if_neg c9).symm.trans hM
      by_cases c11 : p1 = 6
      · replace hM := (if_pos c11).symm.trans hM
        refine lv_tableIn (off := 77) (tgt := 102) hx hb dX7_whole_25 (by rw [c11]; decide) (by rw [c11]; decide) (by rw [c11]; decide) (by decide) ?_
        refine lv_aload_n hx hb dX7_whole_102 rfl (lv_at hl 0 rfl) ?_
        refine va_get (D := (dC, dI)) (ci := 5) (v := .ref (g 1)) (C := RX7) (T := TX7) (N := 14) hx hb hts inX7 hown hG.1 hP 0 rfl rfl 0 (by decide) (hts (.fieldLink RX7 7 "WokenDriveModel" "now" "[I") (List.mem_of_getElem? (i := 1) rfl)) (fun _ h9 => h9) rfl dX7_whole_103 ?_
        refine lv_iconst (v := (2 : Int32)) hx hb dX7_whole_106 (by decide) ?_
        obtain ⟨v12, hv12, hM⟩ := ob hM
        refine wk_iald hx hb hG hP 1 0 rfl rfl hv12 dX7_whole_107 ?_
        replace hM := Option.some.inj hM
        subst hM
        exact wk_retMi hx hb hr hlocks hQ rfl rfl hP hD hS dX7_whole_108
      replace hM := (if_neg c11).symm.trans hM
      by_cases c13 : p1 = 7
      · replace hM := (if_pos c13).symm.trans hM
        refine lv_tableIn (off := 84) (tgt := 109) hx hb dX7_whole_25 (by rw [c13]; decide) (by rw [c13]; decide) (by rw [c13]; decide) (by decide) ?_
        refine lv_aload_n hx hb dX7_whole_109 rfl (lv_at hl 0 rfl) ?_
        refine va_get (D := (dC, dI)) (ci := 5) (v := .ref (g 1)) (C := RX7) (T := TX7) (N := 14) hx hb hts inX7 hown hG.1 hP 0 rfl rfl 0 (by decide) (hts (.fieldLink RX7 7 "WokenDriveModel" "now" "[I") (List.mem_of_getElem? (i := 1) rfl)) (fun _ h9 => h9) rfl dX7_whole_110 ?_
        refine lv_iconst (v := (3 : Int32)) hx hb dX7_whole_113 (by decide) ?_
        obtain ⟨v14, hv14, hM⟩ := ob hM
        refine wk_iald hx hb hG hP 1 0 rfl rfl hv14 dX7_whole_114 ?_
        replace hM := Option.some.inj hM
        subst hM
        exact wk_retMi hx hb hr hlocks hQ rfl rfl hP hD hS dX7_whole_115
      replace hM := (if_neg c13).symm.trans hM
      by_cases c15 : p1 = 8
      · replace hM := (if_pos c15).symm.trans hM
        refine lv_tableIn (off := 91) (tgt := 116) hx hb dX7_whole_25 (by rw [c15]; decide) (by rw [c15]; decide) (by rw [c15]; decide) (by decide) ?_
        refine lv_aload_n hx hb dX7_whole_116 rfl (lv_at hl 0 rfl) ?_
        refine lv_iconst (v := (0 : Int32)) hx hb dX7_whole_117 (by decide) ?_
        refine lv_bipush (v := (6 : Int32)) hx hb dX7_whole_118 (by decide) ?_
        obtain ⟨r16, hr16, hM⟩ := ob hM
        refine wk_callP (va_runV (As := [.int (0 : Int32), .int (6 : Int32)]) (rest := []) ⟨hx, hb, hml, hown, hts⟩ (c_X7_control l dC dI cI cD cJ kk g r1.2 (0 : Int32) (6 : Int32) _ hr16 H) (cwV 2 hts gX7_whole_X7_control rfl rfl rfl (by decide +kernel) ⟨Nat.le_of_ble_eq_true rfl, Nat.le_of_ble_eq_true rfl⟩) (wk_preV (ci := 5) (q0 := 0) hG hP hD [0, 1, 2, 3, 4, 5, 6, 7] rfl rfl rfl rfl) rfl rfl hl.1 rfl (lv_room (Nat.le_of_ble_eq_true rfl)) dX7_whole_120 ⟨Nat.le_of_ble_eq_true rfl, Nat.le_of_ble_eq_true rfl⟩) hS (fun locs hS => ?_)
        refine lv_aload_n hx hb dX7_whole_123 rfl (lv_at hl 0 rfl) ?_
        refine lv_iconst (v := (1 : Int32)) hx hb dX7_whole_124 (by decide) ?_
        refine lv_bipush (v := (6 : Int32)) hx hb dX7_whole_125 (by decide) ?_
        obtain ⟨r17, hr17, hM⟩ := ob hM
        refine wk_callP (va_runV (As := [.int (1 : Int32), .int (6 : Int32)]) (rest := [.int r16]) ⟨hx, hb, hml, hown, hts⟩ (c_X7_control l dC dI cI cD cJ kk g r1.2 (1 : Int32) (6 : Int32) _ hr17 H) (cwV 2 hts gX7_whole_X7_control rfl rfl rfl (by decide +kernel) ⟨Nat.le_of_ble_eq_true rfl, Nat.le_of_ble_eq_true rfl⟩) (wk_preV (ci := 5) (q0 := 0) hG hP hD [0, 1, 2, 3, 4, 5, 6, 7] rfl rfl rfl rfl) rfl rfl hl.1 rfl (lv_room (Nat.le_of_ble_eq_true rfl)) dX7_whole_127 ⟨Nat.le_of_ble_eq_true rfl, Nat.le_of_ble_eq_true rfl⟩) hS (fun locs hS => ?_)
        refine lv_iadd hx hb dX7_whole_130 ?_
        replace hM := Option.some.inj hM
        subst hM
        exact wk_retMi hx hb hr hlocks hQ rfl rfl hP hD hS dX7_whole_131
      replace hM := (if_neg c15).symm.trans hM
      by_cases c18 : p1 = 9
      · replace hM := (if_pos c18).symm.trans hM
        refine lv_tableIn (off := 107) (tgt := 132) hx hb dX7_whole_25 (by rw [c18]; decide) (by rw [c18]; decide) (by rw [c18]; decide) (by decide) ?_
        refine lv_aload_n hx hb dX7_whole_132 rfl (lv_at hl 0 rfl) ?_
        refine lv_iconst (v := (0 : Int32)) hx hb dX7_whole_133 (by decide) ?_
        refine lv_iconst (v := (0 : Int32)) hx hb dX7_whole_134 (by decide) ?_
        obtain ⟨r19, hr19, hM⟩ := ob hM
        refine wk_callP (va_runV (As := [.int (0 : Int32), .int (0 : Int32)]) (rest := []) ⟨hx, hb, hml, hown, hts⟩ (c_X7_control l dC dI cI cD cJ kk g r1.2 (0 : Int32) (0 : Int32) _ hr19 H) (cwV 2 hts gX7_whole_X7_control rfl rfl rfl (by decide +kernel) ⟨Nat.le_of_ble_eq_true rfl, Nat.le_of_ble_eq_true rfl⟩) (wk_preV (ci := 5) (q0 := 0) hG hP hD [0, 1, 2, 3, 4, 5, 6, 7] rfl rfl rfl rfl) rfl rfl hl.1 rfl (lv_room (Nat.le_of_ble_eq_true rfl)) dX7_whole_135 ⟨Nat.le_of_ble_eq_true rfl, Nat.le_of_ble_eq_true rfl⟩) hS (fun locs hS => ?_)
        refine lv_aload_n hx hb dX7_whole_138 rfl (lv_at hl 0 rfl) ?_
        refine lv_iconst (v := (1 : Int32)) hx hb dX7_whole_139 (by decide) ?_
        refine lv_iconst (v := (0 : Int32)) hx hb dX7_whole_140 (by decide) ?_
        obtain ⟨r20, hr20, hM⟩ := ob hM
        refine wk_callP (va_runV (As := [.int (1 : Int32), .int (0 : Int32)]) (rest := [.int r19]) ⟨hx, hb, hml, hown, hts⟩ (c_X7_control l dC dI cI cD cJ kk g r1.2 (1 : Int32) (0 : Int32) _ hr20 H) (cwV 2 hts gX7_whole_X7_control rfl rfl rfl (by decide +kernel) ⟨Nat.le_of_ble_eq_true rfl, Nat.le_of_ble_eq_true rfl⟩) (wk_preV (ci := 5) (q0 := 0) hG hP hD [0, 1, 2, 3, 4, 5, 6, 7] rfl rfl rfl rfl) rfl rfl hl.1 rfl (lv_room (Nat.le_of_ble_eq_true rfl)) dX7_whole_141 ⟨Nat.le_of_ble_eq_true rfl, Nat.le_of_ble_eq_true rfl⟩) hS (fun locs hS => ?_)
        refine lv_iadd hx hb dX7_whole_144 ?_
        replace hM := Option.some.inj hM
        subst hM
        exact wk_retMi hx hb hr hlocks hQ rfl rfl hP hD hS dX7_whole_145
      replace hM := (if_neg c18).symm.trans hM
      by_cases c21 : p1 = 10
      · replace hM := (if_pos c21).symm.trans hM
        refine lv_tableIn (off := 121) (tgt := 146) hx hb dX7_whole_25 (by rw [c21]; decide) (by rw [c21]; decide) (by rw [c21]; decide) (by decide) ?_
        refine lv_aload_n hx hb dX7_whole_146 rfl (lv_at hl 0 rfl) ?_
        obtain ⟨r22, hr22, hM⟩ := ob hM
        refine wk_callP (va_runV (As := []) (rest := []) ⟨hx, hb, hml, hown, hts⟩ (c_X7_sum l dC dI cI cD cJ kk g r1.2 _ hr22 H) (cwV 0 hts gX7_whole_X7_sum rfl rfl rfl (by decide +kernel) ⟨Nat.le_of_ble_eq_true rfl, Nat.le_of_ble_eq_true rfl⟩) (wk_preV (ci := 5) (q0 := 0) hG hP hD [0, 1, 2, 3, 4, 5, 6, 7] rfl rfl rfl rfl) rfl rfl hl.1 rfl (lv_room (Nat.le_of_ble_eq_true rfl)) dX7_whole_147 ⟨Nat.le_of_ble_eq_true rfl, Nat.le_of_ble_eq_true rfl⟩) hS (fun locs hS => ?_)
        replace hM := Option.some.inj hM
        subst hM
        exact wk_retMi hx hb hr hlocks hQ rfl rfl hP hD hS dX7_whole_150
      replace hM := (if_neg c21).symm.trans hM
      by_cases c23 : p1 = 11
      · replace hM := (if_pos c23).symm.trans hM
        refine lv_tableIn (off := 126) (tgt := 151) hx hb dX7_whole_25 (by rw [c23]; decide) (by rw [c23]; decide) (by rw [c23]; decide) (by decide) ?_
        refine lv_aload_n hx hb dX7_whole_151 rfl (lv_at hl 0 rfl) ?_
        refine va_get (D := (dC, dI)) (ci := 5) (v := .int (ms_length r1.2)) (C := RX7) (T := TX7) (N := 14) hx hb hts inX7 hown hG.1 hP 0 rfl rfl 7 (by decide) (hts (.fieldLink RX7 149 "WokenDriveModel" "length" "I") (List.mem_of_getElem? (i := 2) rfl)) (fun _ h9 => h9) rfl dX7_whole_152 ?_
        replace hM := Option.some.inj hM
        subst hM
        exact wk_retMi hx hb hr hlocks hQ rfl rfl hP hD hS dX7_whole_155
      replace hM := (if_neg c23).symm.trans hM
      have ec3 : (p1).toInt ≠ 0 := fun q => c3 (Int32.toInt_inj.mp (q.trans (by decide)))
      have ec5 : (p1).toInt ≠ 1 := fun q => c5 (Int32.toInt_inj.mp (q.trans (by decide)))
      have ec6 : (p1).toInt ≠ 2 := fun q => c6 (Int32.toInt_inj.mp (q.trans (by decide)))
      have ec7 : (p1).toInt ≠ 3 := fun q => c7 (Int32.toInt_inj.mp (q.trans (by decide)))
      have ec8 : (p1).toInt ≠ 4 := fun q => c8 (Int32.toInt_inj.mp (q.trans (by decide)))
      have ec9 : (p1).toInt ≠ 5 := fun q => c9 (Int32.toInt_inj.mp (q.trans (by decide)))
      have ec11 : (p1).toInt ≠ 6 := fun q => c11 (Int32.toInt_inj.mp (q.trans (by decide)))
      have ec13 : (p1).toInt ≠ 7 := fun q => c13 (Int32.toInt_inj.mp (q.trans (by decide)))
      have ec15 : (p1).toInt ≠ 8 := fun q => c15 (Int32.toInt_inj.mp (q.trans (by decide)))
      have ec18 : (p1).toInt ≠ 9 := fun q => c18 (Int32.toInt_inj.mp (q.trans (by decide)))
      have ec21 : (p1).toInt ≠ 10 := fun q => c21 (Int32.toInt_inj.mp (q.trans (by decide)))
      have ec23 : (p1).toInt ≠ 11 := fun q => c23 (Int32.toInt_inj.mp (q.trans (by decide)))
      refine lv_tableOut (tgt := 156) hx hb dX7_whole_25 (by omega) (by decide) ?_
      exact hB156 r1.2 H _ _ hM hP hD hS (lv_sub hl [0, 1] rfl)
    · replace hM := (if_neg c2).symm.trans hM
      refine lv_iconst (v := (0 : Int32)) hx hb dX7_whole_22 (by decide) ?_
      replace hM := Option.some.inj hM
      subst hM
      exact wk_retMi hx hb hr hlocks hQ rfl rfl hP hD hS dX7_whole_23
  unfold M_X7_whole at hM
  refine lv_aload_n hx hb dX7_whole_0 rfl (lv_at hl 0 rfl) ?_
  refine lv_iload_n hx hb dX7_whole_1 rfl (lv_at hl 1 rfl) ?_
  refine lv_iconst (v := (0 : Int32)) hx hb dX7_whole_2 (by decide) ?_
  refine lv_bipush (v := (11 : Int32)) hx hb dX7_whole_3 (by decide) ?_
  refine wk_callP (va_runS (As := [.int p1, .int (0 : Int32), .int (11 : Int32)]) (rest := [.ref (g 0)]) ⟨hx, hb, hml, hown, hts⟩ (c_X7_within l dC dI cI cD cJ kk  p1 (0 : Int32) (11 : Int32) _ rfl H) (va_cwS 3 hts gX7_whole_X7_within rfl rfl rfl (by decide +kernel) ⟨Nat.le_of_ble_eq_true rfl, Nat.le_of_ble_eq_true rfl⟩) (wk_preS hG hP hD [] rfl rfl) rfl rfl hl.1 rfl (lv_room (Nat.le_of_ble_eq_true rfl)) dX7_whole_5 ⟨Nat.le_of_ble_eq_true rfl, Nat.le_of_ble_eq_true rfl⟩) hS (fun locs hS => ?_)
  refine lv_if_ne (tgt := 15) hx hb dX7_whole_8 (by decide) (fun c1 => ?_) (fun c1 => ?_)
  · replace hM := (if_neg c1).symm.trans hM
    refine lv_iconst (v := (0 : Int32)) hx hb dX7_whole_15 (by decide) ?_
    exact hB16 false x H _ _ hM hP hD hS (lv_sub hl [0, 1] rfl)
  · replace hM := (if_pos c1).symm.trans hM
    refine lv_iconst (v := (1 : Int32)) hx hb dX7_whole_11 (by decide) ?_
    refine lv_goto (tgt := 16) hx hb dX7_whole_12 (by decide) ?_
    exact hB16 true x H _ _ hM hP hD hS (lv_sub hl [0, 1] rfl)
set_option maxHeartbeats 4000000 in
set_option maxRecDepth 100000 in
theorem c_X7_waitsFor (l : Launch) (dC : Nat → ClassId) (dI : Nat → Nat → Nat) (cI cD cJ : ClassId) (kk : wAd) (g : Nat → Nat) (x : MS) (p1 : Int32) (out : Int32 × MS) (hM : M_X7_waitsFor x p1 = some out) : CM l yX7_waitsFor wsX7_waitsFor ({ frames := 4, cells := 0, slots := 0, locals := 91 } : Room) dC dI (wTys cI cD cJ) [.ref (g 0), .int p1] (wMod cI g x) (some (.int out.1)) (wMod cI g out.2) 0 0 := by
  refine wk_enterM (cc := cX7_waitsFor) (maxL := 2) (ret := (some .int)) (by decide) rfl (Nat.le_of_ble_eq_true rfl) ?_
  intro p e s m below meth c A Q ls hB hA hP hD hQ hl
  obtain ⟨hx, hb, hml, hr, hts, hown, hname, hlocks, hG⟩ := hB
  have hown : s.vm.findClass RX7 = some m.cls := hown
  have hS : va_S A s.heap s.heap [] := va_S.rf
  have hl : lv_has ls 2 [(0, .ref (g 0)), (1, .int p1)] := hl
  obtain ⟨H, hH⟩ : ∃ z, z = s.heap := ⟨_, rfl⟩
  have hP : va_P (dC, dI) vwCl (wMod cI g x) H := by rw [hH]; exact hP
  have hS : va_S A s.heap H [] := by rw [hH]; exact hS
  refine wk_at hH ?_
  generalize ([] : List Loc) = locs at hS ⊢
  have hB39 : ∀ (w0 : Int32) (y0 : MS) (H : Heap) (locs : List Loc) (ls : Array Slot), M_X7_waitsFor_39 x p1 w0 y0 = some out → va_P (dC, dI) vwCl (wMod cI g y0) H → va_D A (wMod cI g y0) → va_S A s.heap H locs → lv_has ls 2 [] → W p l e ({ frames := 4, cells := 0, slots := 0, locals := 91 } : Room) s m ([.ref (g 0), .int p1] : List Value).toArray below meth c H locs 0 0 Q (F0 m 39 ls [.int w0]) := by
    intro w0 y0 H locs ls hM hP hD hS hl
    unfold M_X7_waitsFor_39 at hM
    replace hM := Option.some.inj hM
    subst hM
    exact wk_retMi hx hb hr hlocks hQ rfl rfl hP hD hS dX7_waitsFor_39
  have hB14 : ∀ (w1 : Bool) (y0 : MS) (H : Heap) (locs : List Loc) (ls : Array Slot), M_X7_waitsFor_14 x p1 w1 y0 = some out → va_P (dC, dI) vwCl (wMod cI g y0) H → va_D A (wMod cI g y0) → va_S A s.heap H locs → lv_has ls 2 [(0, .ref (g 0)), (1, .int p1)] → W p l e ({ frames := 4, cells := 0, slots := 0, locals := 91 } : Room) s m ([.ref (g 0), .int p1] : List Value).toArray below meth c H locs 0 0 Q (F0 m 14 ls [.int (zI w1), .ref (g 0)]) := by
    intro w1 y0 H locs ls hM hP hD hS hl
    unfold M_X7_waitsFor_14 at hM
    obtain ⟨r1, hr1, hM⟩ := tbE hM
    refine wk_callM (ws' := (wMod cI g r1.2)) (va_runV (As := [.int (zI w1)]) (rest := []) ⟨hx, hb, hml, hown, hts⟩ (c_X7_refused l dC dI cI cD cJ kk g y0 (zI w1) _ hr1.symm H) (cwV 1 hts gX7_waitsFor_X7_refused rfl rfl rfl (by decide +kernel) ⟨Nat.le_of_ble_eq_true rfl, Nat.le_of_ble_eq_true rfl⟩) (wk_preV (ci := 5) (q0 := 0) hG hP hD [0, 1, 2, 3, 4, 5, 6, 7] rfl rfl rfl rfl) rfl rfl hl.1 rfl (lv_room (Nat.le_of_ble_eq_true rfl)) dX7_waitsFor_14 ⟨Nat.le_of_ble_eq_true rfl, Nat.le_of_ble_eq_true rfl⟩) hP hD hS hA [0, 1, 2, 3, 4, 5, 6, 7] [] [0, 1, 2, 3, 4, 5, 6, 7] rfl rfl rfl (by decide) rfl rfl (fun H locs hP hD hS => ?_)
    refine lv_if_eq (tgt := 22) hx hb dX7_waitsFor_17 (by decide) (fun c2 => ?_) (fun c2 => ?_)
    · replace hM := (if_pos c2).symm.trans hM
      refine lv_aload_n hx hb dX7_waitsFor_22 rfl (lv_at hl 0 rfl) ?_
      refine lv_iload_n hx hb dX7_waitsFor_23 rfl (lv_at hl 1 rfl) ?_
      obtain ⟨r3, hr3, hM⟩ := ob hM
      refine wk_callP (va_runV (As := [.int p1]) (rest := []) ⟨hx, hb, hml, hown, hts⟩ (c_X7_isOpen l dC dI cI cD cJ kk g r1.2 p1 _ hr3 H) (cwV 1 hts gX7_waitsFor_X7_isOpen rfl rfl rfl (by decide +kernel) ⟨Nat.le_of_ble_eq_true rfl, Nat.le_of_ble_eq_true rfl⟩) (wk_preV (ci := 5) (q0 := 0) hG hP hD [0, 1, 2, 3, 4, 5, 6, 7] rfl rfl rfl rfl) rfl rfl hl.1 rfl (lv_room (Nat.le_of_ble_eq_true rfl)) dX7_waitsFor_24 ⟨Nat.le_of_ble_eq_true rfl, Nat.le_of_ble_eq_true rfl⟩) hS (fun locs hS => ?_)
      refine lv_if_eq (tgt := 38) hx hb dX7_waitsFor_27 (by decide) (fun c4 => ?_) (fun c4 => ?_)
      · replace hM := (if_pos c4).symm.trans hM
        refine lv_iconst (v := (-1 : Int32)) hx hb dX7_waitsFor_38 (by decide) ?_
        exact hB39 (-1 : Int32) r1.2 H _ _ hM hP hD hS (lv_sub hl [] rfl)
      · replace hM := (if_neg c4).symm.trans hM
        refine lv_aload_n hx hb dX7_waitsFor_30 rfl (lv_at hl 0 rfl) ?_
        refine lv_iload_n hx hb dX7_waitsFor_31 rfl (lv_at hl 1 rfl) ?_
        obtain ⟨r5, hr5, hM⟩ := ob hM
        refine wk_callP (va_runV (As := [.int p1]) (rest := []) ⟨hx, hb, hml, hown, hts⟩ (c_X7_firstWaited l dC dI cI cD cJ kk g r1.2 p1 _ hr5 H) (cwV 1 hts gX7_waitsFor_X7_firstWaited rfl rfl rfl (by decide +kernel) ⟨Nat.le_of_ble_eq_true rfl, Nat.le_of_ble_eq_true rfl⟩) (wk_preV (ci := 5) (q0 := 0) hG hP hD [0, 1, 2, 3, 4, 5, 6, 7] rfl rfl rfl rfl) rfl rfl hl.1 rfl (lv_room (Nat.le_of_ble_eq_true rfl)) dX7_waitsFor_32 ⟨Nat.le_of_ble_eq_true rfl, Nat.le_of_ble_eq_true rfl⟩) hS (fun locs hS => ?_)
        refine lv_goto (tgt := 39) hx hb dX7_waitsFor_35 (by decide) ?_
        exact hB39 r5 r1.2 H _ _ hM hP hD hS (lv_sub hl [] rfl)
    · replace hM := (if_neg c2).symm.trans hM
      refine lv_iconst (v := (0 : Int32)) hx hb dX7_waitsFor_20 (by decide) ?_
      replace hM := Option.some.inj hM
      subst hM
      exact wk_retMi hx hb hr hlocks hQ rfl rfl hP hD hS dX7_waitsFor_21
  unfold M_X7_waitsFor at hM
  refine lv_aload_n hx hb dX7_waitsFor_0 rfl (lv_at hl 0 rfl) ?_
  refine lv_aload_n hx hb dX7_waitsFor_1 rfl (lv_at hl 0 rfl) ?_
  refine lv_iload_n hx hb dX7_waitsFor_2 rfl (lv_at hl 1 rfl) ?_
  obtain ⟨r1, hr1, hM⟩ := ob hM
  refine wk_callP (va_runV (As := [.int p1]) (rest := [.ref (g 0)]) ⟨hx, hb, hml, hown, hts⟩ (c_X7_isOrder l dC dI cI cD cJ kk g x p1 _ hr1 H) (cwV 1 hts gX7_waitsFor_X7_isOrder rfl rfl rfl (by decide +kernel) ⟨Nat.le_of_ble_eq_true rfl, Nat.le_of_ble_eq_true rfl⟩) (wk_preV (ci := 5) (q0 := 0) hG hP hD [0, 1, 2, 3, 4, 5, 6, 7] rfl rfl rfl rfl) rfl rfl hl.1 rfl (lv_room (Nat.le_of_ble_eq_true rfl)) dX7_waitsFor_3 ⟨Nat.le_of_ble_eq_true rfl, Nat.le_of_ble_eq_true rfl⟩) hS (fun locs hS => ?_)
  refine lv_if_ne (tgt := 13) hx hb dX7_waitsFor_6 (by decide) (fun c2 => ?_) (fun c2 => ?_)
  · replace hM := (if_neg c2).symm.trans hM
    refine lv_iconst (v := (0 : Int32)) hx hb dX7_waitsFor_13 (by decide) ?_
    exact hB14 false x H _ _ hM hP hD hS (lv_sub hl [0, 1] rfl)
  · replace hM := (if_pos c2).symm.trans hM
    refine lv_iconst (v := (1 : Int32)) hx hb dX7_waitsFor_9 (by decide) ?_
    refine lv_goto (tgt := 14) hx hb dX7_waitsFor_10 (by decide) ?_
    exact hB14 true x H _ _ hM hP hD hS (lv_sub hl [0, 1] rfl)
set_option maxHeartbeats 4000000 in
set_option maxRecDepth 100000 in
theorem c_X7_depth (l : Launch) (dC : Nat → ClassId) (dI : Nat → Nat → Nat) (cI cD cJ : ClassId) (kk : wAd) (g : Nat → Nat) (x : MS) (p1 : Int32) (out : Int32 × MS) (hM : M_X7_depth x p1 = some out) : CM l yX7_depth wsX7_depth ({ frames := 3, cells := 0, slots := 0, locals := 69 } : Room) dC dI (wTys cI cD cJ) [.ref (g 0), .int p1] (wMod cI g x) (some (.int out.1)) (wMod cI g out.2) 0 0 := by
  refine wk_enterM (cc := cX7_depth) (maxL := 4) (ret := (some .int)) (by decide) rfl (Nat.le_of_ble_eq_true rfl) ?_
  intro p e s m below meth c A Q ls hB hA hP hD hQ hl
  obtain ⟨hx, hb, hml, hr, hts, hown, hname, hlocks, hG⟩ := hB
  have hown : s.vm.findClass RX7 = some m.cls := hown
  have hS : va_S A s.heap s.heap [] := va_S.rf
  have hl : lv_has ls 4 [(0, .ref (g 0)), (1, .int p1)] := hl
  have inX7 : ∀ w ∈ wsX70, w ∈ wsX7_depth := fun _ h => List.mem_cons_of_mem _ (List.mem_append_right _ h)
  obtain ⟨H, hH⟩ : ∃ z, z = s.heap := ⟨_, rfl⟩
  have hP : va_P (dC, dI) vwCl (wMod cI g x) H := by rw [hH]; exact hP
  have hS : va_S A s.heap H [] := by rw [hH]; exact hS
  refine wk_at hH ?_
  generalize ([] : List Loc) = locs at hS ⊢
  have hB120 : ∀ (w0 : Int32) (y0 : MS) (H : Heap) (locs : List Loc) (ls : Array Slot), M_X7_depth_120 x p1 w0 y0 = some out → va_P (dC, dI) vwCl (wMod cI g y0) H → va_D A (wMod cI g y0) → va_S A s.heap H locs → lv_has ls 4 [] → W p l e ({ frames := 3, cells := 0, slots := 0, locals := 69 } : Room) s m ([.ref (g 0), .int p1] : List Value).toArray below meth c H locs 0 0 Q (F0 m 120 ls [.int w0]) := by
    intro w0 y0 H locs ls hM hP hD hS hl
    unfold M_X7_depth_120 at hM
    replace hM := Option.some.inj hM
    subst hM
    exact wk_retMi hx hb hr hlocks hQ rfl rfl hP hD hS dX7_depth_120
  have hL24 : ∀ (n24 : Nat) (u2 : Int32) (y0 : MS) (H : Heap) (locs : List Loc) (ls : Array Slot), lpF (M_X7_depth_24s x p1) n24 (u2, y0) = some out → va_P (dC, dI) vwCl (wMod cI g y0) H → va_D A (wMod cI g y0) → va_S A s.heap H locs → lv_has ls 4 [(0, .ref (g 0)), (1, .int p1), (2, .int u2)] → W p l e ({ frames := 3, cells := 0, slots := 0, locals := 69 } : Room) s m ([.ref (g 0), .int p1] : List Value).toArray below meth c H locs 0 0 Q (F0 m 24 ls []) := by
    intro n24
    induction n24 with
    | zero => intro u2 y0 H locs ls hM; exact lpF_0 hM
    | succ n24 ih24 =>
      have hL38 : ∀ (n38 : Nat) (u2 : Int32) (u3 : Int32) (y0 : MS) (H : Heap) (locs : List Loc) (ls : Array Slot), lpF (M_X7_depth_38s x p1 (lpF (M_X7_depth_24s x p1) n24)) n38 (u2, u3, y0) = some out → va_P (dC, dI) vwCl (wMod cI g y0) H → va_D A (wMod cI g y0) → va_S A s.heap H locs → lv_has ls 4 [(0, .ref (g 0)), (1, .int p1), (2, .int u2), (3, .int u3)] → W p l e ({ frames := 3, cells := 0, slots := 0, locals := 69 } : Room) s m ([.ref (g 0), .int p1] : List Value).toArray below meth c H locs 0 0 Q (F0 m 38 ls []) := by
        intro n38
        induction n38 with
        | zero => intro u2 u3 y0 H locs ls hM; exact lpF_0 hM
        | succ n38 ih38 =>
          have hB89 : ∀ (u2 : Int32) (u3 : Int32) (w1 : Int32) (w2 : Int32) (y0 : MS) (H : Heap) (locs : List Loc) (ls : Array Slot), M_X7_depth_89 x p1 (lpF (M_X7_depth_24s x p1) n24) (lpF (M_X7_depth_38s x p1 (lpF (M_X7_depth_24s x p1) n24)) n38) u2 u3 w1 w2 y0 = some out → va_P (dC, dI) vwCl (wMod cI g y0) H → va_D A (wMod cI g y0) → va_S A s.heap H locs → lv_has ls 4 [(0, .ref (g 0)), (1, .int p1), (2, .int u2), (3, .int u3)] → W p l e ({ frames := 3, cells := 0, slots := 0, locals := 69 } : Room) s m ([.ref (g 0), .int p1] : List Value).toArray below meth c H locs 0 0 Q (F0 m 89 ls [.int w2, .int w1, .ref (g 4)]) := by
            intro u2 u3 w1 w2 y0 H locs ls hM hP hD hS hl
            unfold M_X7_depth_89 at hM
            obtain ⟨f1, hf1, hM⟩ := ob hM
            refine wk_iast hx hb hG hP hD hS 4 0 rfl rfl hf1 dX7_depth_89 (fun H locs hP hD hS => ?_)
            obtain ⟨y_2, hy_2, hM⟩ := tbE hM
            have hP : va_P (dC, dI) vwCl (wMod cI g y_2) H := by rw [hy_2]; exact hP
            have hD : va_D A (wMod cI g y_2) := by rw [hy_2]; exact hD
            refine lv_iinc (v := (u3 + 1)) (lv' := [(3, .int (u3 + 1)), (0, .ref (g 0)), (1, .int p1), (2, .int u2)]) hx hb dX7_depth_90 hl (k := 3) rfl rfl (by decide) rfl (fun ls hl => ?_)
            refine lv_goto (tgt := 38) hx hb dX7_depth_93 (by decide) ?_
            exact ih38 u2 (u3 + 1) y_2 H _ _ hM hP hD hS (lv_sub hl [1, 2, 3, 0] rfl)
          have hB83 : ∀ (u2 : Int32) (u3 : Int32) (w1 : Int32) (y0 : MS) (H : Heap) (locs : List Loc) (ls : Array Slot), M_X7_depth_83 x p1 (lpF (M_X7_depth_24s x p1) n24) (lpF (M_X7_depth_38s x p1 (lpF (M_X7_depth_24s x p1) n24)) n38) u2 u3 w1 y0 = some out → va_P (dC, dI) vwCl (wMod cI g y0) H → va_D A (wMod cI g y0) → va_S A s.heap H locs → lv_has ls 4 [(0, .ref (g 0)), (1, .int p1), (2, .int u2), (3, .int u3)] → W p l e ({ frames := 3, cells := 0, slots := 0, locals := 69 } : Room) s m ([.ref (g 0), .int p1] : List Value).toArray below meth c H locs 0 0 Q (F0 m 83 ls [.int w1, .ref (g 4)]) := by
            intro u2 u3 w1 y0 H locs ls hM hP hD hS hl
            unfold M_X7_depth_83 at hM
            refine lv_aload_n hx hb dX7_depth_83 rfl (lv_at hl 0 rfl) ?_
            refine va_get (D := (dC, dI)) (ci := 5) (v := .ref (g 4)) (C := RX7) (T := TX7) (N := 14) hx hb hts inX7 hown hG.1 hP 0 rfl rfl 3 (by decide) (hts (.fieldLink RX7 19 "WokenDriveModel" "depths" "[I") (List.mem_of_getElem? (i := 1) rfl)) (fun _ h9 => h9) rfl dX7_depth_84 ?_
            refine lv_iload_n hx hb dX7_depth_87 rfl (lv_at hl 2 rfl) ?_
            obtain ⟨v1, hv1, hM⟩ := ob hM
            refine wk_iald hx hb hG hP 4 0 rfl rfl hv1 dX7_depth_88 ?_
            exact hB89 u2 u3 w1 v1 y0 H _ _ hM hP hD hS (lv_sub hl [0, 1, 2, 3] rfl)
          intro u2 u3 y0 H locs ls hM hP hD hS hl
          replace hM : M_X7_depth_38s x p1 (lpF (M_X7_depth_24s x p1) n24) (lpF (M_X7_depth_38s x p1 (lpF (M_X7_depth_24s x p1) n24)) n38) (u2, u3, y0) = some out := hM
          unfold M_X7_depth_38s at hM
          try dsimp only at hM
          refine lv_iload_n hx hb dX7_depth_38 rfl (lv_at hl 3 rfl) ?_
          refine lv_iload_n hx hb dX7_depth_39 rfl (lv_at hl 2 rfl) ?_
          refine lv_icmp_ge (tgt := 96) hx hb dX7_depth_40 (by decide) (fun c1 => ?_) (fun c1 => ?_)
          · replace hM := (if_pos c1).symm.trans hM
            refine lv_iinc (v := (u2 + 1)) (lv' := [(2, .int (u2 + 1)), (0, .ref (g 0)), (1, .int p1), (3, .int u3)]) hx hb dX7_depth_96 hl (k := 2) rfl rfl (by decide) rfl (fun ls hl => ?_)
            refine lv_goto (tgt := 24) hx hb dX7_depth_99 (by decide) ?_
            exact ih24 (u2 + 1) y0 H _ _ hM hP hD hS (lv_sub hl [1, 2, 0] rfl)
          · replace hM := (if_neg c1).symm.trans hM
            refine lv_aload_n hx hb dX7_depth_43 rfl (lv_at hl 0 rfl) ?_
            refine va_get (D := (dC, dI)) (ci := 5) (v := .ref (g 4)) (C := RX7) (T := TX7) (N := 14) hx hb hts inX7 hown hG.1 hP 0 rfl rfl 3 (by decide) (hts (.fieldLink RX7 19 "WokenDriveModel" "depths" "[I") (List.mem_of_getElem? (i := 1) rfl)) (fun _ h9 => h9) rfl dX7_depth_44 ?_
            refine lv_iload_n hx hb dX7_depth_47 rfl (lv_at hl 2 rfl) ?_
            refine lv_aload_n hx hb dX7_depth_48 rfl (lv_at hl 0 rfl) ?_
            refine lv_iload_n hx hb dX7_depth_49 rfl (lv_at hl 2 rfl) ?_
            refine lv_iload_n hx hb dX7_depth_50 rfl (lv_at hl 3 rfl) ?_
            obtain ⟨r2, hr2, hM⟩ := ob hM
            refine wk_callP (va_runV (As := [.int u2, .int u3]) (rest := [.int u2, .ref (g 4)]) ⟨hx, hb, hml, hown, hts⟩ (c_X7_waits l dC dI cI cD cJ kk g y0 u2 u3 _ hr2 H) (cwV 2 hts gX7_depth_X7_waits rfl rfl rfl (by decide +kernel) ⟨Nat.le_of_ble_eq_true rfl, Nat.le_of_ble_eq_true rfl⟩) (wk_preV (ci := 5) (q0 := 0) hG hP hD [0, 1, 2, 3, 4, 5, 6, 7] rfl rfl rfl rfl) rfl rfl hl.1 rfl (lv_room (Nat.le_of_ble_eq_true rfl)) dX7_depth_51 ⟨Nat.le_of_ble_eq_true rfl, Nat.le_of_ble_eq_true rfl⟩) hS (fun locs hS => ?_)
            refine lv_if_eq (tgt := 83) hx hb dX7_depth_54 (by decide) (fun c3 => ?_) (fun c3 => ?_)
            · replace hM := (if_pos c3).symm.trans hM
              exact hB83 u2 u3 u2 y0 H _ _ hM hP hD hS (lv_sub hl [0, 1, 2, 3] rfl)
            · replace hM := (if_neg c3).symm.trans hM
              refine lv_aload_n hx hb dX7_depth_57 rfl (lv_at hl 0 rfl) ?_
              refine va_get (D := (dC, dI)) (ci := 5) (v := .ref (g 4)) (C := RX7) (T := TX7) (N := 14) hx hb hts inX7 hown hG.1 hP 0 rfl rfl 3 (by decide) (hts (.fieldLink RX7 19 "WokenDriveModel" "depths" "[I") (List.mem_of_getElem? (i := 1) rfl)) (fun _ h9 => h9) rfl dX7_depth_58 ?_
              refine lv_iload_n hx hb dX7_depth_61 rfl (lv_at hl 3 rfl) ?_
              obtain ⟨v4, hv4, hM⟩ := ob hM
              refine wk_iald hx hb hG hP 4 0 rfl rfl hv4 dX7_depth_62 ?_
              refine lv_aload_n hx hb dX7_depth_63 rfl (lv_at hl 0 rfl) ?_
              refine va_get (D := (dC, dI)) (ci := 5) (v := .ref (g 4)) (C := RX7) (T := TX7) (N := 14) hx hb hts inX7 hown hG.1 hP 0 rfl rfl 3 (by decide) (hts (.fieldLink RX7 19 "WokenDriveModel" "depths" "[I") (List.mem_of_getElem? (i := 1) rfl)) (fun _ h9 => h9) rfl dX7_depth_64 ?_
              refine lv_iload_n hx hb dX7_depth_67 rfl (lv_at hl 2 rfl) ?_
              obtain ⟨v5, hv5, hM⟩ := ob hM
              refine wk_iald hx hb hG hP 4 0 rfl rfl hv5 dX7_depth_68 ?_
              refine lv_icmp_lt (tgt := 83) hx hb dX7_depth_69 (by decide) (fun c6 => ?_) (fun c6 => ?_)
              · replace hM := (if_pos c6).symm.trans hM
                exact hB83 u2 u3 u2 y0 H _ _ hM hP hD hS (lv_sub hl [0, 1, 2, 3] rfl)
              · replace hM := (if_neg c6).symm.trans hM
                refine lv_aload_n hx hb dX7_depth_72 rfl (lv_at hl 0 rfl) ?_
                refine va_get (D := (dC, dI)) (ci := 5) (v := .ref (g 4)) (C := RX7) (T := TX7) (N := 14) hx hb hts inX7 hown hG.1 hP 0 rfl rfl 3 (by decide) (hts (.fieldLink RX7 19 "WokenDriveModel" "depths" "[I") (List.mem_of_getElem? (i := 1) rfl)) (fun _ h9 => h9) rfl dX7_depth_73 ?_
                refine lv_iload_n hx hb dX7_depth_76 rfl (lv_at hl 3 rfl) ?_
                obtain ⟨v7, hv7, hM⟩ := ob hM
                refine wk_iald hx hb hG hP 4 0 rfl rfl hv7 dX7_depth_77 ?_
                refine lv_iconst (v := (1 : Int32)) hx hb dX7_depth_78 (by decide) ?_
                refine lv_iadd hx hb dX7_depth_79 ?_
                refine lv_goto (tgt := 89) hx hb dX7_depth_80 (by decide) ?_
                exact hB89 u2 u3 u2 (v7 + (1 : Int32)) y0 H _ _ hM hP hD hS (lv_sub hl [0, 1, 2, 3] rfl)
      intro u2 y0 H locs ls hM hP hD hS hl
      replace hM : M_X7_depth_24s x p1 (lpF (M_X7_depth_24s x p1) n24) (u2, y0) = some out := hM
      unfold M_X7_depth_24s at hM
      try dsimp only at hM
      refine lv_iload_n hx hb dX7_depth_24 rfl (lv_at hl 2 rfl) ?_
      refine lv_iload_n hx hb dX7_depth_25 rfl (lv_at hl 1 rfl) ?_
      refine lv_icmp_gt (tgt := 102) hx hb dX7_depth_26 (by decide) (fun c1 => ?_) (fun c1 => ?_)
      · replace hM := (if_pos c1).symm.trans hM
        refine lv_aload_n hx hb dX7_depth_102 rfl (lv_at hl 0 rfl) ?_
        refine lv_iload_n hx hb dX7_depth_103 rfl (lv_at hl 1 rfl) ?_
        obtain ⟨r2, hr2, hM⟩ := ob hM
        refine wk_callP (va_runV (As := [.int p1]) (rest := []) ⟨hx, hb, hml, hown, hts⟩ (c_X7_isOpen l dC dI cI cD cJ kk g y0 p1 _ hr2 H) (cwV 1 hts gX7_depth_X7_isOpen rfl rfl rfl (by decide +kernel) ⟨Nat.le_of_ble_eq_true rfl, Nat.le_of_ble_eq_true rfl⟩) (wk_preV (ci := 5) (q0 := 0) hG hP hD [0, 1, 2, 3, 4, 5, 6, 7] rfl rfl rfl rfl) rfl rfl hl.1 rfl (lv_room (Nat.le_of_ble_eq_true rfl)) dX7_depth_104 ⟨Nat.le_of_ble_eq_true rfl, Nat.le_of_ble_eq_true rfl⟩) hS (fun locs hS => ?_)
        refine lv_if_eq (tgt := 119) hx hb dX7_depth_107 (by decide) (fun c3 => ?_) (fun c3 => ?_)
        · replace hM := (if_pos c3).symm.trans hM
          refine lv_iconst (v := (-1 : Int32)) hx hb dX7_depth_119 (by decide) ?_
          exact hB120 (-1 : Int32) y0 H _ _ hM hP hD hS (lv_sub hl [] rfl)
        · replace hM := (if_neg c3).symm.trans hM
          refine lv_aload_n hx hb dX7_depth_110 rfl (lv_at hl 0 rfl) ?_
          refine va_get (D := (dC, dI)) (ci := 5) (v := .ref (g 4)) (C := RX7) (T := TX7) (N := 14) hx hb hts inX7 hown hG.1 hP 0 rfl rfl 3 (by decide) (hts (.fieldLink RX7 19 "WokenDriveModel" "depths" "[I") (List.mem_of_getElem? (i := 1) rfl)) (fun _ h9 => h9) rfl dX7_depth_111 ?_
          refine lv_iload_n hx hb dX7_depth_114 rfl (lv_at hl 1 rfl) ?_
          obtain ⟨v4, hv4, hM⟩ := ob hM
          refine wk_iald hx hb hG hP 4 0 rfl rfl hv4 dX7_depth_115 ?_
          refine lv_goto (tgt := 120) hx hb dX7_depth_116 (by decide) ?_
          exact hB120 v4 y0 H _ _ hM hP hD hS (lv_sub hl [] rfl)
      · replace hM := (if_neg c1).symm.trans hM
        refine lv_aload_n hx hb dX7_depth_29 rfl (lv_at hl 0 rfl) ?_
        refine va_get (D := (dC, dI)) (ci := 5) (v := .ref (g 4)) (C := RX7) (T := TX7) (N := 14) hx hb hts inX7 hown hG.1 hP 0 rfl rfl 3 (by decide) (hts (.fieldLink RX7 19 "WokenDriveModel" "depths" "[I") (List.mem_of_getElem? (i := 1) rfl)) (fun _ h9 => h9) rfl dX7_depth_30 ?_
        refine lv_iload_n hx hb dX7_depth_33 rfl (lv_at hl 2 rfl) ?_
        refine lv_iconst (v := (0 : Int32)) hx hb dX7_depth_34 (by decide) ?_
        obtain ⟨f5, hf5, hM⟩ := ob hM
        refine wk_iast hx hb hG hP hD hS 4 0 rfl rfl hf5 dX7_depth_35 (fun H locs hP hD hS => ?_)
        obtain ⟨y_6, hy_6, hM⟩ := tbE hM
        have hP : va_P (dC, dI) vwCl (wMod cI g y_6) H := by rw [hy_6]; exact hP
        have hD : va_D A (wMod cI g y_6) := by rw [hy_6]; exact hD
        refine lv_iconst (v := (0 : Int32)) hx hb dX7_depth_36 (by decide) ?_
        refine lv_istore_n (lv' := [(3, .int (0 : Int32)), (0, .ref (g 0)), (1, .int p1), (2, .int u2)]) hx hb dX7_depth_37 rfl hl (by decide) rfl (fun ls hl => ?_)
        exact hL38 64 u2 (0 : Int32) y_6 H _ _ hM hP hD hS (lv_sub hl [1, 2, 3, 0] rfl)
  have hB14 : ∀ (w1 : Bool) (y0 : MS) (H : Heap) (locs : List Loc) (ls : Array Slot), M_X7_depth_14 x p1 w1 y0 = some out → va_P (dC, dI) vwCl (wMod cI g y0) H → va_D A (wMod cI g y0) → va_S A s.heap H locs → lv_has ls 4 [(0, .ref (g 0)), (1, .int p1)] → W p l e ({ frames := 3, cells := 0, slots := 0, locals := 69 } : Room) s m ([.ref (g 0), .int p1] : List Value).toArray below meth c H locs 0 0 Q (F0 m 14 ls [.int (zI w1), .ref (g 0)]) := by
    intro w1 y0 H locs ls hM hP hD hS hl
    unfold M_X7_depth_14 at hM
    obtain ⟨r1, hr1, hM⟩ := tbE hM
    refine wk_callM (ws' := (wMod cI g r1.2)) (va_runV (As := [.int (zI w1)]) (rest := []) ⟨hx, hb, hml, hown, hts⟩ (c_X7_refused l dC dI cI cD cJ kk g y0 (zI w1) _ hr1.symm H) (cwV 1 hts gX7_depth_X7_refused rfl rfl rfl (by decide +kernel) ⟨Nat.le_of_ble_eq_true rfl, Nat.le_of_ble_eq_true rfl⟩) (wk_preV (ci := 5) (q0 := 0) hG hP hD [0, 1, 2, 3, 4, 5, 6, 7] rfl rfl rfl rfl) rfl rfl hl.1 rfl (lv_room (Nat.le_of_ble_eq_true rfl)) dX7_depth_14 ⟨Nat.le_of_ble_eq_true rfl, Nat.le_of_ble_eq_true rfl⟩) hP hD hS hA [0, 1, 2, 3, 4, 5, 6, 7] [] [0, 1, 2, 3, 4, 5, 6, 7] rfl rfl rfl (by decide) rfl rfl (fun H locs hP hD hS => ?_)
    refine lv_if_eq (tgt := 22) hx hb dX7_depth_17 (by decide) (fun c2 => ?_) (fun c2 => ?_)
    · replace hM := (if_pos c2).symm.trans hM
      refine lv_iconst (v := (0 : Int32)) hx hb dX7_depth_22 (by decide) ?_
      refine lv_istore_n (lv' := [(2, .int (0 : Int32)), (0, .ref (g 0)), (1, .int p1)]) hx hb dX7_depth_23 rfl hl (by decide) rfl (fun ls hl => ?_)
      exact hL24 64 (0 : Int32) r1.2 H _ _ hM hP hD hS (lv_sub hl [1, 2, 0] rfl)
    · replace hM := (if_neg c2).symm.trans hM
      refine lv_iconst (v := (0 : Int32)) hx hb dX7_depth_20 (by decide) ?_
      replace hM := Option.some.inj hM
      subst hM
      exact wk_retMi hx hb hr hlocks hQ rfl rfl hP hD hS dX7_depth_21
  unfold M_X7_depth at hM
  refine lv_aload_n hx hb dX7_depth_0 rfl (lv_at hl 0 rfl) ?_
  refine lv_aload_n hx hb dX7_depth_1 rfl (lv_at hl 0 rfl) ?_
  refine lv_iload_n hx hb dX7_depth_2 rfl (lv_at hl 1 rfl) ?_
  obtain ⟨r1, hr1, hM⟩ := ob hM
  refine wk_callP (va_runV (As := [.int p1]) (rest := [.ref (g 0)]) ⟨hx, hb, hml, hown, hts⟩ (c_X7_isOrder l dC dI cI cD cJ kk g x p1 _ hr1 H) (cwV 1 hts gX7_depth_X7_isOrder rfl rfl rfl (by decide +kernel) ⟨Nat.le_of_ble_eq_true rfl, Nat.le_of_ble_eq_true rfl⟩) (wk_preV (ci := 5) (q0 := 0) hG hP hD [0, 1, 2, 3, 4, 5, 6, 7] rfl rfl rfl rfl) rfl rfl hl.1 rfl (lv_room (Nat.le_of_ble_eq_true rfl)) dX7_depth_3 ⟨Nat.le_of_ble_eq_true rfl, Nat.le_of_ble_eq_true rfl⟩) hS (fun locs hS => ?_)
  refine lv_if_ne (tgt := 13) hx hb dX7_depth_6 (by decide) (fun c2 => ?_) (fun c2 => ?_)
  · replace hM := (if_neg c2).symm.trans hM
    refine lv_iconst (v := (0 : Int32)) hx hb dX7_depth_13 (by decide) ?_
    exact hB14 false x H _ _ hM hP hD hS (lv_sub hl [0, 1] rfl)
  · replace hM := (if_pos c2).symm.trans hM
    refine lv_iconst (v := (1 : Int32)) hx hb dX7_depth_9 (by decide) ?_
    refine lv_goto (tgt := 14) hx hb dX7_depth_10 (by decide) ?_
    exact hB14 true x H _ _ hM hP hD hS (lv_sub hl [0, 1] rfl)
set_option maxHeartbeats 4000000 in
set_option maxRecDepth 100000 in
theorem c_X7_next (l : Launch) (dC : Nat → ClassId) (dI : Nat → Nat → Nat) (cI cD cJ : ClassId) (kk : wAd) (g : Nat → Nat) (x : MS) (p1 : Int32) (out : Int32) (hM : M_X7_next x p1 = some out) : CP l yX7_next wsX7_next ({ frames := 4, cells := 0, slots := 0, locals := 91 } : Room) dC dI (wTys cI cD cJ) [.ref (g 0), .int p1] (wMod cI g x) (some (.int out)) := by
  refine wk_enterP (cc := cX7_next) (maxL := 4) (ret := (some .int)) (by decide) rfl (Nat.le_of_ble_eq_true rfl) ?_
  intro p e s m below meth c A Q ls hB hP hD hA hQ hl
  obtain ⟨hx, hb, hml, hr, hts, hown, hname, hlocks, hG⟩ := hB
  have hown : s.vm.findClass RX7 = some m.cls := hown
  have hS : va_S A s.heap s.heap [] := va_S.rf
  have hl : lv_has ls 4 [(0, .ref (g 0)), (1, .int p1)] := hl
  have inX7 : ∀ w ∈ wsX70, w ∈ wsX7_next := fun _ h => List.mem_cons_of_mem _ (List.mem_append_right _ h)
  generalize ([] : List Loc) = locs at hS ⊢
  have hL16 : ∀ (n16 : Nat) (u2 : Int32) (locs : List Loc) (ls : Array Slot), lpF (M_X7_next_16s x p1) n16 (u2) = some out → va_S A s.heap s.heap locs → lv_has ls 4 [(0, .ref (g 0)), (1, .int p1), (2, .int u2)] → W p l e ({ frames := 4, cells := 0, slots := 0, locals := 91 } : Room) s m ([.ref (g 0), .int p1] : List Value).toArray below meth c s.heap locs 0 0 Q (F0 m 16 ls []) := by
    intro n16
    induction n16 with
    | zero => intro u2 locs ls hM; exact lpF_0 hM
    | succ n16 ih16 =>
      have hB61 : ∀ (u2 : Int32) (locs : List Loc) (ls : Array Slot), M_X7_next_61 x p1 (lpF (M_X7_next_16s x p1) n16) u2 = some out → va_S A s.heap s.heap locs → lv_has ls 4 [(0, .ref (g 0)), (1, .int p1), (2, .int u2)] → W p l e ({ frames := 4, cells := 0, slots := 0, locals := 91 } : Room) s m ([.ref (g 0), .int p1] : List Value).toArray below meth c s.heap locs 0 0 Q (F0 m 61 ls []) := by
        intro u2 locs ls hM hS hl
        unfold M_X7_next_61 at hM
        refine lv_iinc (v := (u2 + 1)) (lv' := [(2, .int (u2 + 1)), (0, .ref (g 0)), (1, .int p1)]) hx hb dX7_next_61 hl (k := 2) rfl rfl (by decide) rfl (fun ls hl => ?_)
        refine lv_goto (tgt := 16) hx hb dX7_next_64 (by decide) ?_
        exact ih16 (u2 + 1)  _ _ hM hS (lv_sub hl [1, 2, 0] rfl)
      intro u2 locs ls hM hS hl
      replace hM : M_X7_next_16s x p1 (lpF (M_X7_next_16s x p1) n16) (u2) = some out := hM
      unfold M_X7_next_16s at hM
      try dsimp only at hM
      refine lv_iload_n hx hb dX7_next_16 rfl (lv_at hl 2 rfl) ?_
      refine lv_aload_n hx hb dX7_next_17 rfl (lv_at hl 0 rfl) ?_
      refine lv_iload_n hx hb dX7_next_18 rfl (lv_at hl 1 rfl) ?_
      refine lv_iconst (v := (3 : Int32)) hx hb dX7_next_19 (by decide) ?_
      obtain ⟨r1, hr1, hM⟩ := ob hM
      refine wk_callP (va_runV (As := [.int p1, .int (3 : Int32)]) (rest := [.int u2]) ⟨hx, hb, hml, hown, hts⟩ (c_X7_control l dC dI cI cD cJ kk g x p1 (3 : Int32) _ hr1 s.heap) (cwV 2 hts gX7_next_X7_control rfl rfl rfl (by decide +kernel) ⟨Nat.le_of_ble_eq_true rfl, Nat.le_of_ble_eq_true rfl⟩) (wk_preV (ci := 5) (q0 := 0) hG hP hD [0, 1, 2, 3, 4, 5, 6, 7] rfl rfl rfl rfl) rfl rfl hl.1 rfl (lv_room (Nat.le_of_ble_eq_true rfl)) dX7_next_20 ⟨Nat.le_of_ble_eq_true rfl, Nat.le_of_ble_eq_true rfl⟩) hS (fun locs hS => ?_)
      refine lv_icmp_ge (tgt := 67) hx hb dX7_next_23 (by decide) (fun c2 => ?_) (fun c2 => ?_)
      · replace hM := (if_pos c2).symm.trans hM
        refine lv_iconst (v := (-1 : Int32)) hx hb dX7_next_67 (by decide) ?_
        replace hM := Option.some.inj hM
        subst hM
        exact wk_retPi hx hb hr hlocks hQ rfl rfl hS dX7_next_68
      · replace hM := (if_neg c2).symm.trans hM
        refine lv_aload_n hx hb dX7_next_26 rfl (lv_at hl 0 rfl) ?_
        refine lv_iload_n hx hb dX7_next_27 rfl (lv_at hl 1 rfl) ?_
        refine lv_iload_n hx hb dX7_next_28 rfl (lv_at hl 2 rfl) ?_
        obtain ⟨r3, hr3, hM⟩ := ob hM
        refine wk_callP (va_runV (As := [.int p1, .int u2]) (rest := []) ⟨hx, hb, hml, hown, hts⟩ (c_X7_mailed l dC dI cI cD cJ kk g x p1 u2 _ hr3 s.heap) (cwV 2 hts gX7_next_X7_mailed rfl rfl rfl (by decide +kernel) ⟨Nat.le_of_ble_eq_true rfl, Nat.le_of_ble_eq_true rfl⟩) (wk_preV (ci := 5) (q0 := 0) hG hP hD [0, 1, 2, 3, 4, 5, 6, 7] rfl rfl rfl rfl) rfl rfl hl.1 rfl (lv_room (Nat.le_of_ble_eq_true rfl)) dX7_next_29 ⟨Nat.le_of_ble_eq_true rfl, Nat.le_of_ble_eq_true rfl⟩) hS (fun locs hS => ?_)
        refine lv_istore_n (lv' := [(3, .int r3), (0, .ref (g 0)), (1, .int p1), (2, .int u2)]) hx hb dX7_next_32 rfl hl (by decide) rfl (fun ls hl => ?_)
        refine lv_aload_n hx hb dX7_next_33 rfl (lv_at hl 1 rfl) ?_
        refine lv_iload_n hx hb dX7_next_34 rfl (lv_at hl 0 rfl) ?_
        refine lv_iload_n hx hb dX7_next_35 rfl (lv_at hl 2 rfl) ?_
        obtain ⟨r4, hr4, hM⟩ := ob hM
        refine wk_callP (va_runV (As := [.int r3, .int p1]) (rest := []) ⟨hx, hb, hml, hown, hts⟩ (c_X7_hasArrived l dC dI cI cD cJ kk g x r3 p1 _ hr4 s.heap) (cwV 2 hts gX7_next_X7_hasArrived rfl rfl rfl (by decide +kernel) ⟨Nat.le_of_ble_eq_true rfl, Nat.le_of_ble_eq_true rfl⟩) (wk_preV (ci := 5) (q0 := 0) hG hP hD [0, 1, 2, 3, 4, 5, 6, 7] rfl rfl rfl rfl) rfl rfl hl.1 rfl (lv_room (Nat.le_of_ble_eq_true rfl)) dX7_next_36 ⟨Nat.le_of_ble_eq_true rfl, Nat.le_of_ble_eq_true rfl⟩) hS (fun locs hS => ?_)
        refine lv_if_eq (tgt := 61) hx hb dX7_next_39 (by decide) (fun c5 => ?_) (fun c5 => ?_)
        · replace hM := (if_pos c5).symm.trans hM
          exact hB61 u2  _ _ hM hS (lv_sub hl [1, 2, 3] rfl)
        · replace hM := (if_neg c5).symm.trans hM
          refine lv_aload_n hx hb dX7_next_42 rfl (lv_at hl 1 rfl) ?_
          refine lv_iload_n hx hb dX7_next_43 rfl (lv_at hl 0 rfl) ?_
          obtain ⟨r6, hr6, hM⟩ := ob hM
          refine wk_callP (va_runV (As := [.int r3]) (rest := []) ⟨hx, hb, hml, hown, hts⟩ (c_X7_isOpen l dC dI cI cD cJ kk g x r3 _ hr6 s.heap) (cwV 1 hts gX7_next_X7_isOpen rfl rfl rfl (by decide +kernel) ⟨Nat.le_of_ble_eq_true rfl, Nat.le_of_ble_eq_true rfl⟩) (wk_preV (ci := 5) (q0 := 0) hG hP hD [0, 1, 2, 3, 4, 5, 6, 7] rfl rfl rfl rfl) rfl rfl hl.1 rfl (lv_room (Nat.le_of_ble_eq_true rfl)) dX7_next_44 ⟨Nat.le_of_ble_eq_true rfl, Nat.le_of_ble_eq_true rfl⟩) hS (fun locs hS => ?_)
          refine lv_if_eq (tgt := 61) hx hb dX7_next_47 (by decide) (fun c7 => ?_) (fun c7 => ?_)
          · replace hM := (if_pos c7).symm.trans hM
            exact hB61 u2  _ _ hM hS (lv_sub hl [1, 2, 3] rfl)
          · replace hM := (if_neg c7).symm.trans hM
            refine lv_aload_n hx hb dX7_next_50 rfl (lv_at hl 1 rfl) ?_
            refine lv_iload_n hx hb dX7_next_51 rfl (lv_at hl 0 rfl) ?_
            obtain ⟨r8, hr8, hM⟩ := ob hM
            refine wk_callP (va_runV (As := [.int r3]) (rest := []) ⟨hx, hb, hml, hown, hts⟩ (c_X7_firstWaited l dC dI cI cD cJ kk g x r3 _ hr8 s.heap) (cwV 1 hts gX7_next_X7_firstWaited rfl rfl rfl (by decide +kernel) ⟨Nat.le_of_ble_eq_true rfl, Nat.le_of_ble_eq_true rfl⟩) (wk_preV (ci := 5) (q0 := 0) hG hP hD [0, 1, 2, 3, 4, 5, 6, 7] rfl rfl rfl rfl) rfl rfl hl.1 rfl (lv_room (Nat.le_of_ble_eq_true rfl)) dX7_next_52 ⟨Nat.le_of_ble_eq_true rfl, Nat.le_of_ble_eq_true rfl⟩) hS (fun locs hS => ?_)
            refine lv_iconst (v := (-1 : Int32)) hx hb dX7_next_55 (by decide) ?_
            refine lv_icmp_ne (tgt := 61) hx hb dX7_next_56 (by decide) (fun c9 => ?_) (fun c9 => ?_)
            · replace hM := (if_neg c9).symm.trans hM
              exact hB61 u2  _ _ hM hS (lv_sub hl [1, 2, 3] rfl)
            · replace hM := (if_pos c9).symm.trans hM
              refine lv_iload_n hx hb dX7_next_59 rfl (lv_at hl 0 rfl) ?_
              replace hM := Option.some.inj hM
              subst hM
              exact wk_retPi hx hb hr hlocks hQ rfl rfl hS dX7_next_60
  unfold M_X7_next at hM
  refine lv_aload_n hx hb dX7_next_0 rfl (lv_at hl 0 rfl) ?_
  obtain ⟨r1, hr1, hM⟩ := ob hM
  refine wk_callP (va_runV (As := []) (rest := []) ⟨hx, hb, hml, hown, hts⟩ (c_X7_isTorn l dC dI cI cD cJ kk g x _ hr1 s.heap) (cwV 0 hts gX7_next_X7_isTorn rfl rfl rfl (by decide +kernel) ⟨Nat.le_of_ble_eq_true rfl, Nat.le_of_ble_eq_true rfl⟩) (wk_preV (ci := 5) (q0 := 0) hG hP hD [0, 1, 2, 3, 4, 5, 6, 7] rfl rfl rfl rfl) rfl rfl hl.1 rfl (lv_room (Nat.le_of_ble_eq_true rfl)) dX7_next_1 ⟨Nat.le_of_ble_eq_true rfl, Nat.le_of_ble_eq_true rfl⟩) hS (fun locs hS => ?_)
  refine lv_if_eq (tgt := 14) hx hb dX7_next_4 (by decide) (fun c2 => ?_) (fun c2 => ?_)
  · replace hM := (if_pos c2).symm.trans hM
    refine lv_iconst (v := (0 : Int32)) hx hb dX7_next_14 (by decide) ?_
    refine lv_istore_n (lv' := [(2, .int (0 : Int32)), (0, .ref (g 0)), (1, .int p1)]) hx hb dX7_next_15 rfl hl (by decide) rfl (fun ls hl => ?_)
    exact hL16 64 (0 : Int32)  _ _ hM hS (lv_sub hl [1, 2, 0] rfl)
  · replace hM := (if_neg c2).symm.trans hM
    refine lv_aload_n hx hb dX7_next_7 rfl (lv_at hl 0 rfl) ?_
    refine va_get (D := (dC, dI)) (ci := 5) (v := .ref (g 1)) (C := RX7) (T := TX7) (N := 14) hx hb hts inX7 hown hG.1 hP 0 rfl rfl 0 (by decide) (hts (.fieldLink RX7 7 "WokenDriveModel" "now" "[I") (List.mem_of_getElem? (i := 1) rfl)) (fun _ h9 => h9) rfl dX7_next_8 ?_
    refine lv_iconst (v := (2 : Int32)) hx hb dX7_next_11 (by decide) ?_
    obtain ⟨v3, hv3, hM⟩ := ob hM
    refine wk_iald hx hb hG hP 1 0 rfl rfl hv3 dX7_next_12 ?_
    replace hM := Option.some.inj hM
    subst hM
    exact wk_retPi hx hb hr hlocks hQ rfl rfl hS dX7_next_13
set_option maxHeartbeats 4000000 in
set_option maxRecDepth 100000 in
theorem c_X7_nextFor (l : Launch) (dC : Nat → ClassId) (dI : Nat → Nat → Nat) (cI cD cJ : ClassId) (kk : wAd) (g : Nat → Nat) (x : MS) (p1 : Int32) (out : Int32 × MS) (hM : M_X7_nextFor x p1 = some out) : CM l yX7_nextFor wsX7_nextFor ({ frames := 5, cells := 0, slots := 0, locals := 114 } : Room) dC dI (wTys cI cD cJ) [.ref (g 0), .int p1] (wMod cI g x) (some (.int out.1)) (wMod cI g out.2) 0 0 := by
  refine wk_enterM (cc := cX7_nextFor) (maxL := 2) (ret := (some .int)) (by decide) rfl (Nat.le_of_ble_eq_true rfl) ?_
  intro p e s m below meth c A Q ls hB hA hP hD hQ hl
  obtain ⟨hx, hb, hml, hr, hts, hown, hname, hlocks, hG⟩ := hB
  have hown : s.vm.findClass RX7 = some m.cls := hown
  have hS : va_S A s.heap s.heap [] := va_S.rf
  have hl : lv_has ls 2 [(0, .ref (g 0)), (1, .int p1)] := hl
  obtain ⟨H, hH⟩ : ∃ z, z = s.heap := ⟨_, rfl⟩
  have hP : va_P (dC, dI) vwCl (wMod cI g x) H := by rw [hH]; exact hP
  have hS : va_S A s.heap H [] := by rw [hH]; exact hS
  refine wk_at hH ?_
  generalize ([] : List Loc) = locs at hS ⊢
  have hB28 : ∀ (w0 : Int32) (y0 : MS) (H : Heap) (locs : List Loc) (ls : Array Slot), M_X7_nextFor_28 x p1 w0 y0 = some out → va_P (dC, dI) vwCl (wMod cI g y0) H → va_D A (wMod cI g y0) → va_S A s.heap H locs → lv_has ls 2 [] → W p l e ({ frames := 5, cells := 0, slots := 0, locals := 114 } : Room) s m ([.ref (g 0), .int p1] : List Value).toArray below meth c H locs 0 0 Q (F0 m 28 ls [.int w0]) := by
    intro w0 y0 H locs ls hM hP hD hS hl
    unfold M_X7_nextFor_28 at hM
    replace hM := Option.some.inj hM
    subst hM
    exact wk_retMi hx hb hr hlocks hQ rfl rfl hP hD hS dX7_nextFor_28
  have hB13 : ∀ (w1 : Bool) (y0 : MS) (H : Heap) (locs : List Loc) (ls : Array Slot), M_X7_nextFor_13 x p1 w1 y0 = some out → va_P (dC, dI) vwCl (wMod cI g y0) H → va_D A (wMod cI g y0) → va_S A s.heap H locs → lv_has ls 2 [(0, .ref (g 0)), (1, .int p1)] → W p l e ({ frames := 5, cells := 0, slots := 0, locals := 114 } : Room) s m ([.ref (g 0), .int p1] : List Value).toArray below meth c H locs 0 0 Q (F0 m 13 ls [.int (zI w1), .ref (g 0)]) := by
    intro w1 y0 H locs ls hM hP hD hS hl
    unfold M_X7_nextFor_13 at hM
    obtain ⟨r1, hr1, hM⟩ := tbE hM
    refine wk_callM (ws' := (wMod cI g r1.2)) (va_runV (As := [.int (zI w1)]) (rest := []) ⟨hx, hb, hml, hown, hts⟩ (c_X7_refused l dC dI cI cD cJ kk g y0 (zI w1) _ hr1.symm H) (cwV 1 hts gX7_nextFor_X7_refused rfl rfl rfl (by decide +kernel) ⟨Nat.le_of_ble_eq_true rfl, Nat.le_of_ble_eq_true rfl⟩) (wk_preV (ci := 5) (q0 := 0) hG hP hD [0, 1, 2, 3, 4, 5, 6, 7] rfl rfl rfl rfl) rfl rfl hl.1 rfl (lv_room (Nat.le_of_ble_eq_true rfl)) dX7_nextFor_13 ⟨Nat.le_of_ble_eq_true rfl, Nat.le_of_ble_eq_true rfl⟩) hP hD hS hA [0, 1, 2, 3, 4, 5, 6, 7] [] [0, 1, 2, 3, 4, 5, 6, 7] rfl rfl rfl (by decide) rfl rfl (fun H locs hP hD hS => ?_)
    refine lv_if_eq (tgt := 23) hx hb dX7_nextFor_16 (by decide) (fun c2 => ?_) (fun c2 => ?_)
    · replace hM := (if_pos c2).symm.trans hM
      refine lv_aload_n hx hb dX7_nextFor_23 rfl (lv_at hl 0 rfl) ?_
      refine lv_iload_n hx hb dX7_nextFor_24 rfl (lv_at hl 1 rfl) ?_
      obtain ⟨r3, hr3, hM⟩ := ob hM
      refine wk_callP (va_runV (As := [.int p1]) (rest := []) ⟨hx, hb, hml, hown, hts⟩ (c_X7_next l dC dI cI cD cJ kk g r1.2 p1 _ hr3 H) (cwV 1 hts gX7_nextFor_X7_next rfl rfl rfl (by decide +kernel) ⟨Nat.le_of_ble_eq_true rfl, Nat.le_of_ble_eq_true rfl⟩) (wk_preV (ci := 5) (q0 := 0) hG hP hD [0, 1, 2, 3, 4, 5, 6, 7] rfl rfl rfl rfl) rfl rfl hl.1 rfl (lv_room (Nat.le_of_ble_eq_true rfl)) dX7_nextFor_25 ⟨Nat.le_of_ble_eq_true rfl, Nat.le_of_ble_eq_true rfl⟩) hS (fun locs hS => ?_)
      exact hB28 r3 r1.2 H _ _ hM hP hD hS (lv_sub hl [] rfl)
    · replace hM := (if_neg c2).symm.trans hM
      refine lv_iconst (v := (0 : Int32)) hx hb dX7_nextFor_19 (by decide) ?_
      refine lv_goto (tgt := 28) hx hb dX7_nextFor_20 (by decide) ?_
      exact hB28 (0 : Int32) r1.2 H _ _ hM hP hD hS (lv_sub hl [] rfl)
  unfold M_X7_nextFor at hM
  refine lv_aload_n hx hb dX7_nextFor_0 rfl (lv_at hl 0 rfl) ?_
  refine lv_iload_n hx hb dX7_nextFor_1 rfl (lv_at hl 1 rfl) ?_
  refine wk_callP (va_runS (As := [.int p1]) (rest := [.ref (g 0)]) ⟨hx, hb, hml, hown, hts⟩ (c_X7_isController l dC dI cI cD cJ kk  p1 _ rfl H) (va_cwS 1 hts gX7_nextFor_X7_isController rfl rfl rfl (by decide +kernel) ⟨Nat.le_of_ble_eq_true rfl, Nat.le_of_ble_eq_true rfl⟩) (wk_preS hG hP hD [] rfl rfl) rfl rfl hl.1 rfl (lv_room (Nat.le_of_ble_eq_true rfl)) dX7_nextFor_2 ⟨Nat.le_of_ble_eq_true rfl, Nat.le_of_ble_eq_true rfl⟩) hS (fun locs hS => ?_)
  refine lv_if_ne (tgt := 12) hx hb dX7_nextFor_5 (by decide) (fun c1 => ?_) (fun c1 => ?_)
  · replace hM := (if_neg c1).symm.trans hM
    refine lv_iconst (v := (0 : Int32)) hx hb dX7_nextFor_12 (by decide) ?_
    exact hB13 false x H _ _ hM hP hD hS (lv_sub hl [0, 1] rfl)
  · replace hM := (if_pos c1).symm.trans hM
    refine lv_iconst (v := (1 : Int32)) hx hb dX7_nextFor_8 (by decide) ?_
    refine lv_goto (tgt := 13) hx hb dX7_nextFor_9 (by decide) ?_
    exact hB13 true x H _ _ hM hP hD hS (lv_sub hl [0, 1] rfl)
set_option maxHeartbeats 4000000 in
set_option maxRecDepth 100000 in
theorem c_X7_isMailed (l : Launch) (dC : Nat → ClassId) (dI : Nat → Nat → Nat) (cI cD cJ : ClassId) (kk : wAd) (g : Nat → Nat) (x : MS) (p1 : Int32) (p2 : Int32) (out : Bool) (hM : M_X7_isMailed x p1 p2 = some out) : CP l yX7_isMailed wsX7_isMailed ({ frames := 1, cells := 0, slots := 0, locals := 22 } : Room) dC dI (wTys cI cD cJ) [.ref (g 0), .int p1, .int p2] (wMod cI g x) (some (.int (zI out))) := by
  refine wk_enterP (cc := cX7_isMailed) (maxL := 4) (ret := (some .boolean)) (by decide) rfl (Nat.le_of_ble_eq_true rfl) ?_
  intro p e s m below meth c A Q ls hB hP hD hA hQ hl
  obtain ⟨hx, hb, hml, hr, hts, hown, hname, hlocks, hG⟩ := hB
  have hown : s.vm.findClass RX7 = some m.cls := hown
  have hS : va_S A s.heap s.heap [] := va_S.rf
  have hl : lv_has ls 4 [(0, .ref (g 0)), (1, .int p1), (2, .int p2)] := hl
  generalize ([] : List Loc) = locs at hS ⊢
  have hL2 : ∀ (n2 : Nat) (u3 : Int32) (locs : List Loc) (ls : Array Slot), lpF (M_X7_isMailed_2s x p1 p2) n2 (u3) = some out → va_S A s.heap s.heap locs → lv_has ls 4 [(0, .ref (g 0)), (1, .int p1), (2, .int p2), (3, .int u3)] → W p l e ({ frames := 1, cells := 0, slots := 0, locals := 22 } : Room) s m ([.ref (g 0), .int p1, .int p2] : List Value).toArray below meth c s.heap locs 0 0 Q (F0 m 2 ls []) := by
    intro n2
    induction n2 with
    | zero => intro u3 locs ls hM; exact lpF_0 hM
    | succ n2 ih2 =>
      intro u3 locs ls hM hS hl
      replace hM : M_X7_isMailed_2s x p1 p2 (lpF (M_X7_isMailed_2s x p1 p2) n2) (u3) = some out := hM
      unfold M_X7_isMailed_2s at hM
      try dsimp only at hM
      refine lv_iload_n hx hb dX7_isMailed_2 rfl (lv_at hl 3 rfl) ?_
      refine lv_aload_n hx hb dX7_isMailed_3 rfl (lv_at hl 0 rfl) ?_
      refine lv_iload_n hx hb dX7_isMailed_4 rfl (lv_at hl 1 rfl) ?_
      refine lv_iconst (v := (3 : Int32)) hx hb dX7_isMailed_5 (by decide) ?_
      obtain ⟨r1, hr1, hM⟩ := ob hM
      refine wk_callP (va_runV (As := [.int p1, .int (3 : Int32)]) (rest := [.int u3]) ⟨hx, hb, hml, hown, hts⟩ (c_X7_control l dC dI cI cD cJ kk g x p1 (3 : Int32) _ hr1 s.heap) (cwV 2 hts gX7_isMailed_X7_control rfl rfl rfl (by decide +kernel) ⟨Nat.le_of_ble_eq_true rfl, Nat.le_of_ble_eq_true rfl⟩) (wk_preV (ci := 5) (q0 := 0) hG hP hD [0, 1, 2, 3, 4, 5, 6, 7] rfl rfl rfl rfl) rfl rfl hl.1 rfl (lv_room (Nat.le_of_ble_eq_true rfl)) dX7_isMailed_6 ⟨Nat.le_of_ble_eq_true rfl, Nat.le_of_ble_eq_true rfl⟩) hS (fun locs hS => ?_)
      refine lv_icmp_ge (tgt := 30) hx hb dX7_isMailed_9 (by decide) (fun c2 => ?_) (fun c2 => ?_)
      · replace hM := (if_pos c2).symm.trans hM
        refine lv_iconst (v := (0 : Int32)) hx hb dX7_isMailed_30 (by decide) ?_
        replace hM := Option.some.inj hM
        subst hM
        exact wk_retPi hx hb hr hlocks hQ rfl rfl hS dX7_isMailed_31
      · replace hM := (if_neg c2).symm.trans hM
        refine lv_aload_n hx hb dX7_isMailed_12 rfl (lv_at hl 0 rfl) ?_
        refine lv_iload_n hx hb dX7_isMailed_13 rfl (lv_at hl 1 rfl) ?_
        refine lv_iload_n hx hb dX7_isMailed_14 rfl (lv_at hl 3 rfl) ?_
        obtain ⟨r3, hr3, hM⟩ := ob hM
        refine wk_callP (va_runV (As := [.int p1, .int u3]) (rest := []) ⟨hx, hb, hml, hown, hts⟩ (c_X7_mailed l dC dI cI cD cJ kk g x p1 u3 _ hr3 s.heap) (cwV 2 hts gX7_isMailed_X7_mailed rfl rfl rfl (by decide +kernel) ⟨Nat.le_of_ble_eq_true rfl, Nat.le_of_ble_eq_true rfl⟩) (wk_preV (ci := 5) (q0 := 0) hG hP hD [0, 1, 2, 3, 4, 5, 6, 7] rfl rfl rfl rfl) rfl rfl hl.1 rfl (lv_room (Nat.le_of_ble_eq_true rfl)) dX7_isMailed_15 ⟨Nat.le_of_ble_eq_true rfl, Nat.le_of_ble_eq_true rfl⟩) hS (fun locs hS => ?_)
        refine lv_iload_n hx hb dX7_isMailed_18 rfl (lv_at hl 2 rfl) ?_
        refine lv_icmp_ne (tgt := 24) hx hb dX7_isMailed_19 (by decide) (fun c4 => ?_) (fun c4 => ?_)
        · replace hM := (if_neg c4).symm.trans hM
          refine lv_iinc (v := (u3 + 1)) (lv' := [(3, .int (u3 + 1)), (0, .ref (g 0)), (1, .int p1), (2, .int p2)]) hx hb dX7_isMailed_24 hl (k := 3) rfl rfl (by decide) rfl (fun ls hl => ?_)
          refine lv_goto (tgt := 2) hx hb dX7_isMailed_27 (by decide) ?_
          exact ih2 (u3 + 1)  _ _ hM hS (lv_sub hl [1, 2, 3, 0] rfl)
        · replace hM := (if_pos c4).symm.trans hM
          refine lv_iconst (v := (1 : Int32)) hx hb dX7_isMailed_22 (by decide) ?_
          replace hM := Option.some.inj hM
          subst hM
          exact wk_retPi hx hb hr hlocks hQ rfl rfl hS dX7_isMailed_23
  unfold M_X7_isMailed at hM
  refine lv_iconst (v := (0 : Int32)) hx hb dX7_isMailed_0 (by decide) ?_
  refine lv_istore_n (lv' := [(3, .int (0 : Int32)), (0, .ref (g 0)), (1, .int p1), (2, .int p2)]) hx hb dX7_isMailed_1 rfl hl (by decide) rfl (fun ls hl => ?_)
  exact hL2 64 (0 : Int32)  _ _ hM hS (lv_sub hl [1, 2, 3, 0] rfl)
set_option maxHeartbeats 4000000 in
set_option maxRecDepth 100000 in
theorem c_X7_reason (l : Launch) (dC : Nat → ClassId) (dI : Nat → Nat → Nat) (cI cD cJ : ClassId) (kk : wAd) (g : Nat → Nat) (x : MS) (p1 : Int32) (p2 : Int32) (out : Int32 × MS) (hM : M_X7_reason x p1 p2 = some out) : CM l yX7_reason wsX7_reason ({ frames := 5, cells := 0, slots := 0, locals := 114 } : Room) dC dI (wTys cI cD cJ) [.ref (g 0), .int p1, .int p2] (wMod cI g x) (some (.int out.1)) (wMod cI g out.2) 0 0 := by
  refine wk_enterM (cc := cX7_reason) (maxL := 3) (ret := (some .int)) (by decide) rfl (Nat.le_of_ble_eq_true rfl) ?_
  intro p e s m below meth c A Q ls hB hA hP hD hQ hl
  obtain ⟨hx, hb, hml, hr, hts, hown, hname, hlocks, hG⟩ := hB
  have hown : s.vm.findClass RX7 = some m.cls := hown
  have hS : va_S A s.heap s.heap [] := va_S.rf
  have hl : lv_has ls 3 [(0, .ref (g 0)), (1, .int p1), (2, .int p2)] := hl
  obtain ⟨H, hH⟩ : ∃ z, z = s.heap := ⟨_, rfl⟩
  have hP : va_P (dC, dI) vwCl (wMod cI g x) H := by rw [hH]; exact hP
  have hS : va_S A s.heap H [] := by rw [hH]; exact hS
  refine wk_at hH ?_
  generalize ([] : List Loc) = locs at hS ⊢
  have hB98 : ∀ (w0 : Int32) (y0 : MS) (H : Heap) (locs : List Loc) (ls : Array Slot), M_X7_reason_98 x p1 p2 w0 y0 = some out → va_P (dC, dI) vwCl (wMod cI g y0) H → va_D A (wMod cI g y0) → va_S A s.heap H locs → lv_has ls 3 [] → W p l e ({ frames := 5, cells := 0, slots := 0, locals := 114 } : Room) s m ([.ref (g 0), .int p1, .int p2] : List Value).toArray below meth c H locs 0 0 Q (F0 m 98 ls [.int w0]) := by
    intro w0 y0 H locs ls hM hP hD hS hl
    unfold M_X7_reason_98 at hM
    replace hM := Option.some.inj hM
    subst hM
    exact wk_retMi hx hb hr hlocks hQ rfl rfl hP hD hS dX7_reason_98
  have hB21 : ∀ (w1 : Bool) (y0 : MS) (H : Heap) (locs : List Loc) (ls : Array Slot), M_X7_reason_21 x p1 p2 w1 y0 = some out → va_P (dC, dI) vwCl (wMod cI g y0) H → va_D A (wMod cI g y0) → va_S A s.heap H locs → lv_has ls 3 [(0, .ref (g 0)), (1, .int p1), (2, .int p2)] → W p l e ({ frames := 5, cells := 0, slots := 0, locals := 114 } : Room) s m ([.ref (g 0), .int p1, .int p2] : List Value).toArray below meth c H locs 0 0 Q (F0 m 21 ls [.int (zI w1), .ref (g 0)]) := by
    intro w1 y0 H locs ls hM hP hD hS hl
    unfold M_X7_reason_21 at hM
    obtain ⟨r1, hr1, hM⟩ := tbE hM
    refine wk_callM (ws' := (wMod cI g r1.2)) (va_runV (As := [.int (zI w1)]) (rest := []) ⟨hx, hb, hml, hown, hts⟩ (c_X7_refused l dC dI cI cD cJ kk g y0 (zI w1) _ hr1.symm H) (cwV 1 hts gX7_reason_X7_refused rfl rfl rfl (by decide +kernel) ⟨Nat.le_of_ble_eq_true rfl, Nat.le_of_ble_eq_true rfl⟩) (wk_preV (ci := 5) (q0 := 0) hG hP hD [0, 1, 2, 3, 4, 5, 6, 7] rfl rfl rfl rfl) rfl rfl hl.1 rfl (lv_room (Nat.le_of_ble_eq_true rfl)) dX7_reason_21 ⟨Nat.le_of_ble_eq_true rfl, Nat.le_of_ble_eq_true rfl⟩) hP hD hS hA [0, 1, 2, 3, 4, 5, 6, 7] [] [0, 1, 2, 3, 4, 5, 6, 7] rfl rfl rfl (by decide) rfl rfl (fun H locs hP hD hS => ?_)
    refine lv_if_eq (tgt := 29) hx hb dX7_reason_24 (by decide) (fun c2 => ?_) (fun c2 => ?_)
    · replace hM := (if_pos c2).symm.trans hM
      refine lv_aload_n hx hb dX7_reason_29 rfl (lv_at hl 0 rfl) ?_
      refine lv_iload_n hx hb dX7_reason_30 rfl (lv_at hl 1 rfl) ?_
      obtain ⟨r3, hr3, hM⟩ := ob hM
      refine wk_callP (va_runV (As := [.int p1]) (rest := []) ⟨hx, hb, hml, hown, hts⟩ (c_X7_next l dC dI cI cD cJ kk g r1.2 p1 _ hr3 H) (cwV 1 hts gX7_reason_X7_next rfl rfl rfl (by decide +kernel) ⟨Nat.le_of_ble_eq_true rfl, Nat.le_of_ble_eq_true rfl⟩) (wk_preV (ci := 5) (q0 := 0) hG hP hD [0, 1, 2, 3, 4, 5, 6, 7] rfl rfl rfl rfl) rfl rfl hl.1 rfl (lv_room (Nat.le_of_ble_eq_true rfl)) dX7_reason_31 ⟨Nat.le_of_ble_eq_true rfl, Nat.le_of_ble_eq_true rfl⟩) hS (fun locs hS => ?_)
      refine lv_iload_n hx hb dX7_reason_34 rfl (lv_at hl 2 rfl) ?_
      refine lv_icmp_ne (tgt := 40) hx hb dX7_reason_35 (by decide) (fun c4 => ?_) (fun c4 => ?_)
      · replace hM := (if_neg c4).symm.trans hM
        refine lv_aload_n hx hb dX7_reason_40 rfl (lv_at hl 0 rfl) ?_
        refine lv_iload_n hx hb dX7_reason_41 rfl (lv_at hl 2 rfl) ?_
        obtain ⟨r5, hr5, hM⟩ := ob hM
        refine wk_callP (va_runV (As := [.int p2]) (rest := []) ⟨hx, hb, hml, hown, hts⟩ (c_X7_isOpen l dC dI cI cD cJ kk g r1.2 p2 _ hr5 H) (cwV 1 hts gX7_reason_X7_isOpen rfl rfl rfl (by decide +kernel) ⟨Nat.le_of_ble_eq_true rfl, Nat.le_of_ble_eq_true rfl⟩) (wk_preV (ci := 5) (q0 := 0) hG hP hD [0, 1, 2, 3, 4, 5, 6, 7] rfl rfl rfl rfl) rfl rfl hl.1 rfl (lv_room (Nat.le_of_ble_eq_true rfl)) dX7_reason_42 ⟨Nat.le_of_ble_eq_true rfl, Nat.le_of_ble_eq_true rfl⟩) hS (fun locs hS => ?_)
        refine lv_if_ne (tgt := 50) hx hb dX7_reason_45 (by decide) (fun c6 => ?_) (fun c6 => ?_)
        · replace hM := (if_neg c6).symm.trans hM
          refine lv_aload_n hx hb dX7_reason_50 rfl (lv_at hl 0 rfl) ?_
          obtain ⟨r7, hr7, hM⟩ := ob hM
          refine wk_callP (va_runV (As := []) (rest := []) ⟨hx, hb, hml, hown, hts⟩ (c_X7_isTorn l dC dI cI cD cJ kk g r1.2 _ hr7 H) (cwV 0 hts gX7_reason_X7_isTorn rfl rfl rfl (by decide +kernel) ⟨Nat.le_of_ble_eq_true rfl, Nat.le_of_ble_eq_true rfl⟩) (wk_preV (ci := 5) (q0 := 0) hG hP hD [0, 1, 2, 3, 4, 5, 6, 7] rfl rfl rfl rfl) rfl rfl hl.1 rfl (lv_room (Nat.le_of_ble_eq_true rfl)) dX7_reason_51 ⟨Nat.le_of_ble_eq_true rfl, Nat.le_of_ble_eq_true rfl⟩) hS (fun locs hS => ?_)
          refine lv_if_eq (tgt := 59) hx hb dX7_reason_54 (by decide) (fun c8 => ?_) (fun c8 => ?_)
          · replace hM := (if_pos c8).symm.trans hM
            refine lv_aload_n hx hb dX7_reason_59 rfl (lv_at hl 0 rfl) ?_
            refine lv_iload_n hx hb dX7_reason_60 rfl (lv_at hl 1 rfl) ?_
            refine lv_iload_n hx hb dX7_reason_61 rfl (lv_at hl 2 rfl) ?_
            obtain ⟨r9, hr9, hM⟩ := ob hM
            refine wk_callP (va_runV (As := [.int p1, .int p2]) (rest := []) ⟨hx, hb, hml, hown, hts⟩ (c_X7_isMailed l dC dI cI cD cJ kk g r1.2 p1 p2 _ hr9 H) (cwV 2 hts gX7_reason_X7_isMailed rfl rfl rfl (by decide +kernel) ⟨Nat.le_of_ble_eq_true rfl, Nat.le_of_ble_eq_true rfl⟩) (wk_preV (ci := 5) (q0 := 0) hG hP hD [0, 1, 2, 3, 4, 5, 6, 7] rfl rfl rfl rfl) rfl rfl hl.1 rfl (lv_room (Nat.le_of_ble_eq_true rfl)) dX7_reason_62 ⟨Nat.le_of_ble_eq_true rfl, Nat.le_of_ble_eq_true rfl⟩) hS (fun locs hS => ?_)
            refine lv_if_ne (tgt := 70) hx hb dX7_reason_65 (by decide) (fun c10 => ?_) (fun c10 => ?_)
            · replace hM := (if_neg c10).symm.trans hM
              refine lv_aload_n hx hb dX7_reason_70 rfl (lv_at hl 0 rfl) ?_
              refine lv_iload_n hx hb dX7_reason_71 rfl (lv_at hl 2 rfl) ?_
              refine lv_iload_n hx hb dX7_reason_72 rfl (lv_at hl 1 rfl) ?_
              obtain ⟨r11, hr11, hM⟩ := ob hM
              refine wk_callP (va_runV (As := [.int p2, .int p1]) (rest := []) ⟨hx, hb, hml, hown, hts⟩ (c_X7_hasArrived l dC dI cI cD cJ kk g r1.2 p2 p1 _ hr11 H) (cwV 2 hts gX7_reason_X7_hasArrived rfl rfl rfl (by decide +kernel) ⟨Nat.le_of_ble_eq_true rfl, Nat.le_of_ble_eq_true rfl⟩) (wk_preV (ci := 5) (q0 := 0) hG hP hD [0, 1, 2, 3, 4, 5, 6, 7] rfl rfl rfl rfl) rfl rfl hl.1 rfl (lv_room (Nat.le_of_ble_eq_true rfl)) dX7_reason_73 ⟨Nat.le_of_ble_eq_true rfl, Nat.le_of_ble_eq_true rfl⟩) hS (fun locs hS => ?_)
              refine lv_if_ne (tgt := 83) hx hb dX7_reason_76 (by decide) (fun c12 => ?_) (fun c12 => ?_)
              · replace hM := (if_neg c12).symm.trans hM
                refine lv_aload_n hx hb dX7_reason_83 rfl (lv_at hl 0 rfl) ?_
                refine lv_iload_n hx hb dX7_reason_84 rfl (lv_at hl 2 rfl) ?_
                obtain ⟨r13, hr13, hM⟩ := ob hM
                refine wk_callP (va_runV (As := [.int p2]) (rest := []) ⟨hx, hb, hml, hown, hts⟩ (c_X7_firstWaited l dC dI cI cD cJ kk g r1.2 p2 _ hr13 H) (cwV 1 hts gX7_reason_X7_firstWaited rfl rfl rfl (by decide +kernel) ⟨Nat.le_of_ble_eq_true rfl, Nat.le_of_ble_eq_true rfl⟩) (wk_preV (ci := 5) (q0 := 0) hG hP hD [0, 1, 2, 3, 4, 5, 6, 7] rfl rfl rfl rfl) rfl rfl hl.1 rfl (lv_room (Nat.le_of_ble_eq_true rfl)) dX7_reason_85 ⟨Nat.le_of_ble_eq_true rfl, Nat.le_of_ble_eq_true rfl⟩) hS (fun locs hS => ?_)
                refine lv_iconst (v := (-1 : Int32)) hx hb dX7_reason_88 (by decide) ?_
                refine lv_icmp_eq (tgt := 96) hx hb dX7_reason_89 (by decide) (fun c14 => ?_) (fun c14 => ?_)
                · replace hM := (if_pos c14).symm.trans hM
                  refine lv_bipush (v := (6 : Int32)) hx hb dX7_reason_96 (by decide) ?_
                  exact hB98 (6 : Int32) r1.2 H _ _ hM hP hD hS (lv_sub hl [] rfl)
                · replace hM := (if_neg c14).symm.trans hM
                  refine lv_iconst (v := (5 : Int32)) hx hb dX7_reason_92 (by decide) ?_
                  refine lv_goto (tgt := 98) hx hb dX7_reason_93 (by decide) ?_
                  exact hB98 (5 : Int32) r1.2 H _ _ hM hP hD hS (lv_sub hl [] rfl)
              · replace hM := (if_pos c12).symm.trans hM
                refine lv_iconst (v := (4 : Int32)) hx hb dX7_reason_79 (by decide) ?_
                refine lv_goto (tgt := 98) hx hb dX7_reason_80 (by decide) ?_
                exact hB98 (4 : Int32) r1.2 H _ _ hM hP hD hS (lv_sub hl [] rfl)
            · replace hM := (if_pos c10).symm.trans hM
              refine lv_iconst (v := (3 : Int32)) hx hb dX7_reason_68 (by decide) ?_
              replace hM := Option.some.inj hM
              subst hM
              exact wk_retMi hx hb hr hlocks hQ rfl rfl hP hD hS dX7_reason_69
          · replace hM := (if_neg c8).symm.trans hM
            refine lv_iconst (v := (2 : Int32)) hx hb dX7_reason_57 (by decide) ?_
            replace hM := Option.some.inj hM
            subst hM
            exact wk_retMi hx hb hr hlocks hQ rfl rfl hP hD hS dX7_reason_58
        · replace hM := (if_pos c6).symm.trans hM
          refine lv_iconst (v := (1 : Int32)) hx hb dX7_reason_48 (by decide) ?_
          replace hM := Option.some.inj hM
          subst hM
          exact wk_retMi hx hb hr hlocks hQ rfl rfl hP hD hS dX7_reason_49
      · replace hM := (if_pos c4).symm.trans hM
        refine lv_iconst (v := (0 : Int32)) hx hb dX7_reason_38 (by decide) ?_
        replace hM := Option.some.inj hM
        subst hM
        exact wk_retMi hx hb hr hlocks hQ rfl rfl hP hD hS dX7_reason_39
    · replace hM := (if_neg c2).symm.trans hM
      refine lv_iconst (v := (0 : Int32)) hx hb dX7_reason_27 (by decide) ?_
      replace hM := Option.some.inj hM
      subst hM
      exact wk_retMi hx hb hr hlocks hQ rfl rfl hP hD hS dX7_reason_28
  have hB16 : ∀ (y0 : MS) (H : Heap) (locs : List Loc) (ls : Array Slot), M_X7_reason_16 x p1 p2 y0 = some out → va_P (dC, dI) vwCl (wMod cI g y0) H → va_D A (wMod cI g y0) → va_S A s.heap H locs → lv_has ls 3 [(0, .ref (g 0)), (1, .int p1), (2, .int p2)] → W p l e ({ frames := 5, cells := 0, slots := 0, locals := 114 } : Room) s m ([.ref (g 0), .int p1, .int p2] : List Value).toArray below meth c H locs 0 0 Q (F0 m 16 ls [.ref (g 0)]) := by
    intro y0 H locs ls hM hP hD hS hl
    unfold M_X7_reason_16 at hM
    refine lv_iconst (v := (1 : Int32)) hx hb dX7_reason_16 (by decide) ?_
    refine lv_goto (tgt := 21) hx hb dX7_reason_17 (by decide) ?_
    exact hB21 true y0 H _ _ hM hP hD hS (lv_sub hl [0, 1, 2] rfl)
  unfold M_X7_reason at hM
  refine lv_aload_n hx hb dX7_reason_0 rfl (lv_at hl 0 rfl) ?_
  refine lv_iload_n hx hb dX7_reason_1 rfl (lv_at hl 1 rfl) ?_
  refine wk_callP (va_runS (As := [.int p1]) (rest := [.ref (g 0)]) ⟨hx, hb, hml, hown, hts⟩ (c_X7_isController l dC dI cI cD cJ kk  p1 _ rfl H) (va_cwS 1 hts gX7_reason_X7_isController rfl rfl rfl (by decide +kernel) ⟨Nat.le_of_ble_eq_true rfl, Nat.le_of_ble_eq_true rfl⟩) (wk_preS hG hP hD [] rfl rfl) rfl rfl hl.1 rfl (lv_room (Nat.le_of_ble_eq_true rfl)) dX7_reason_2 ⟨Nat.le_of_ble_eq_true rfl, Nat.le_of_ble_eq_true rfl⟩) hS (fun locs hS => ?_)
  refine lv_if_eq (tgt := 16) hx hb dX7_reason_5 (by decide) (fun c1 => ?_) (fun c1 => ?_)
  · replace hM := (if_pos c1).symm.trans hM
    exact hB16 x H _ _ hM hP hD hS (lv_sub hl [0, 1, 2] rfl)
  · replace hM := (if_neg c1).symm.trans hM
    refine lv_aload_n hx hb dX7_reason_8 rfl (lv_at hl 0 rfl) ?_
    refine lv_iload_n hx hb dX7_reason_9 rfl (lv_at hl 2 rfl) ?_
    obtain ⟨r2, hr2, hM⟩ := ob hM
    refine wk_callP (va_runV (As := [.int p2]) (rest := [.ref (g 0)]) ⟨hx, hb, hml, hown, hts⟩ (c_X7_isOrder l dC dI cI cD cJ kk g x p2 _ hr2 H) (cwV 1 hts gX7_reason_X7_isOrder rfl rfl rfl (by decide +kernel) ⟨Nat.le_of_ble_eq_true rfl, Nat.le_of_ble_eq_true rfl⟩) (wk_preV (ci := 5) (q0 := 0) hG hP hD [0, 1, 2, 3, 4, 5, 6, 7] rfl rfl rfl rfl) rfl rfl hl.1 rfl (lv_room (Nat.le_of_ble_eq_true rfl)) dX7_reason_10 ⟨Nat.le_of_ble_eq_true rfl, Nat.le_of_ble_eq_true rfl⟩) hS (fun locs hS => ?_)
    refine lv_if_ne (tgt := 20) hx hb dX7_reason_13 (by decide) (fun c3 => ?_) (fun c3 => ?_)
    · replace hM := (if_neg c3).symm.trans hM
      refine lv_iconst (v := (0 : Int32)) hx hb dX7_reason_20 (by decide) ?_
      exact hB21 false x H _ _ hM hP hD hS (lv_sub hl [0, 1, 2] rfl)
    · replace hM := (if_pos c3).symm.trans hM
      exact hB16 x H _ _ hM hP hD hS (lv_sub hl [0, 1, 2] rfl)
set_option maxHeartbeats 4000000 in
set_option maxRecDepth 100000 in
theorem c_X7_openOrders (l : Launch) (dC : Nat → ClassId) (dI : Nat → Nat → Nat) (cI cD cJ : ClassId) (kk : wAd) (g : Nat → Nat) (x : MS) (out : Int32) (hM : M_X7_openOrders x = some out) : CP l yX7_openOrders wsX7_openOrders ({ frames := 2, cells := 0, slots := 0, locals := 45 } : Room) dC dI (wTys cI cD cJ) [.ref (g 0)] (wMod cI g x) (some (.int out)) := by
  refine wk_enterP (cc := cX7_openOrders) (maxL := 1) (ret := (some .int)) (by decide) rfl (Nat.le_of_ble_eq_true rfl) ?_
  intro p e s m below meth c A Q ls hB hP hD hA hQ hl
  obtain ⟨hx, hb, hml, hr, hts, hown, hname, hlocks, hG⟩ := hB
  have hown : s.vm.findClass RX7 = some m.cls := hown
  have hS : va_S A s.heap s.heap [] := va_S.rf
  have hl : lv_has ls 1 [(0, .ref (g 0))] := hl
  generalize ([] : List Loc) = locs at hS ⊢
  unfold M_X7_openOrders at hM
  refine lv_aload_n hx hb dX7_openOrders_0 rfl (lv_at hl 0 rfl) ?_
  refine lv_iconst (v := (0 : Int32)) hx hb dX7_openOrders_1 (by decide) ?_
  obtain ⟨r1, hr1, hM⟩ := ob hM
  refine wk_callP (va_runV (As := [.int (0 : Int32)]) (rest := []) ⟨hx, hb, hml, hown, hts⟩ (c_X7_ordersIn l dC dI cI cD cJ kk g x (0 : Int32) _ hr1 s.heap) (cwV 1 hts gX7_openOrders_X7_ordersIn rfl rfl rfl (by decide +kernel) ⟨Nat.le_of_ble_eq_true rfl, Nat.le_of_ble_eq_true rfl⟩) (wk_preV (ci := 5) (q0 := 0) hG hP hD [0, 1, 2, 3, 4, 5, 6, 7] rfl rfl rfl rfl) rfl rfl hl.1 rfl (lv_room (Nat.le_of_ble_eq_true rfl)) dX7_openOrders_2 ⟨Nat.le_of_ble_eq_true rfl, Nat.le_of_ble_eq_true rfl⟩) hS (fun locs hS => ?_)
  refine lv_aload_n hx hb dX7_openOrders_5 rfl (lv_at hl 0 rfl) ?_
  refine lv_iconst (v := (1 : Int32)) hx hb dX7_openOrders_6 (by decide) ?_
  obtain ⟨r2, hr2, hM⟩ := ob hM
  refine wk_callP (va_runV (As := [.int (1 : Int32)]) (rest := [.int r1]) ⟨hx, hb, hml, hown, hts⟩ (c_X7_ordersIn l dC dI cI cD cJ kk g x (1 : Int32) _ hr2 s.heap) (cwV 1 hts gX7_openOrders_X7_ordersIn rfl rfl rfl (by decide +kernel) ⟨Nat.le_of_ble_eq_true rfl, Nat.le_of_ble_eq_true rfl⟩) (wk_preV (ci := 5) (q0 := 0) hG hP hD [0, 1, 2, 3, 4, 5, 6, 7] rfl rfl rfl rfl) rfl rfl hl.1 rfl (lv_room (Nat.le_of_ble_eq_true rfl)) dX7_openOrders_7 ⟨Nat.le_of_ble_eq_true rfl, Nat.le_of_ble_eq_true rfl⟩) hS (fun locs hS => ?_)
  refine lv_iadd hx hb dX7_openOrders_10 ?_
  replace hM := Option.some.inj hM
  subst hM
  exact wk_retPi hx hb hr hlocks hQ rfl rfl hS dX7_openOrders_11
set_option maxHeartbeats 4000000 in
set_option maxRecDepth 100000 in
theorem c_X7_doneIn (l : Launch) (dC : Nat → ClassId) (dI : Nat → Nat → Nat) (cI cD cJ : ClassId) (kk : wAd) (g : Nat → Nat) (x : MS) (out : Int32 × MS) (hM : M_X7_doneIn x = some out) : CM l yX7_doneIn wsX7_doneIn ({ frames := 6, cells := 0, slots := 0, locals := 137 } : Room) dC dI (wTys cI cD cJ) [.ref (g 0)] (wMod cI g x) (some (.int out.1)) (wMod cI g out.2) 0 0 := by
  refine wk_enterM (cc := cX7_doneIn) (maxL := 3) (ret := (some .int)) (by decide) rfl (Nat.le_of_ble_eq_true rfl) ?_
  intro p e s m below meth c A Q ls hB hA hP hD hQ hl
  obtain ⟨hx, hb, hml, hr, hts, hown, hname, hlocks, hG⟩ := hB
  have hown : s.vm.findClass RX7 = some m.cls := hown
  have hS : va_S A s.heap s.heap [] := va_S.rf
  have hl : lv_has ls 3 [(0, .ref (g 0))] := hl
  have inX7 : ∀ w ∈ wsX70, w ∈ wsX7_doneIn := fun _ h => List.mem_cons_of_mem _ (List.mem_append_right _ h)
  obtain ⟨H, hH⟩ : ∃ z, z = s.heap := ⟨_, rfl⟩
  have hP : va_P (dC, dI) vwCl (wMod cI g x) H := by rw [hH]; exact hP
  have hS : va_S A s.heap H [] := by rw [hH]; exact hS
  refine wk_at hH ?_
  generalize ([] : List Loc) = locs at hS ⊢
  have hB97 : ∀ (w0 : Int32) (y0 : MS) (H : Heap) (locs : List Loc) (ls : Array Slot), M_X7_doneIn_97 x w0 y0 = some out → va_P (dC, dI) vwCl (wMod cI g y0) H → va_D A (wMod cI g y0) → va_S A s.heap H locs → lv_has ls 3 [] → W p l e ({ frames := 6, cells := 0, slots := 0, locals := 137 } : Room) s m ([.ref (g 0)] : List Value).toArray below meth c H locs 0 0 Q (F0 m 97 ls [.int w0]) := by
    intro w0 y0 H locs ls hM hP hD hS hl
    unfold M_X7_doneIn_97 at hM
    replace hM := Option.some.inj hM
    subst hM
    exact wk_retMi hx hb hr hlocks hQ rfl rfl hP hD hS dX7_doneIn_97
  have hL60 : ∀ (n60 : Nat) (u1 : Int32) (u2 : Int32) (y0 : MS) (H : Heap) (locs : List Loc) (ls : Array Slot), lpF (M_X7_doneIn_60s x) n60 (u1, u2, y0) = some out → va_P (dC, dI) vwCl (wMod cI g y0) H → va_D A (wMod cI g y0) → va_S A s.heap H locs → lv_has ls 3 [(0, .ref (g 0)), (1, .int u1), (2, .int u2)] → W p l e ({ frames := 6, cells := 0, slots := 0, locals := 137 } : Room) s m ([.ref (g 0)] : List Value).toArray below meth c H locs 0 0 Q (F0 m 60 ls []) := by
    intro n60
    induction n60 with
    | zero => intro u1 u2 y0 H locs ls hM; exact lpF_0 hM
    | succ n60 ih60 =>
      intro u1 u2 y0 H locs ls hM hP hD hS hl
      replace hM : M_X7_doneIn_60s x (lpF (M_X7_doneIn_60s x) n60) (u1, u2, y0) = some out := hM
      unfold M_X7_doneIn_60s at hM
      try dsimp only at hM
      refine lv_iload_n hx hb dX7_doneIn_60 rfl (lv_at hl 2 rfl) ?_
      refine lv_sipush (v := (596 : Int32)) hx hb dX7_doneIn_61 (by decide) ?_
      refine lv_icmp_ge (tgt := 85) hx hb dX7_doneIn_64 (by decide) (fun c1 => ?_) (fun c1 => ?_)
      · replace hM := (if_pos c1).symm.trans hM
        refine lv_iload_n hx hb dX7_doneIn_85 rfl (lv_at hl 1 rfl) ?_
        refine lv_sipush (v := (200 : Int32)) hx hb dX7_doneIn_86 (by decide) ?_
        refine lv_icmp_le (tgt := 96) hx hb dX7_doneIn_89 (by decide) (fun c2 => ?_) (fun c2 => ?_)
        · replace hM := (if_pos c2).symm.trans hM
          refine lv_iload_n hx hb dX7_doneIn_96 rfl (lv_at hl 1 rfl) ?_
          exact hB97 u1 y0 H _ _ hM hP hD hS (lv_sub hl [] rfl)
        · replace hM := (if_neg c2).symm.trans hM
          refine lv_iconst (v := (-1 : Int32)) hx hb dX7_doneIn_92 (by decide) ?_
          refine lv_goto (tgt := 97) hx hb dX7_doneIn_93 (by decide) ?_
          exact hB97 (-1 : Int32) y0 H _ _ hM hP hD hS (lv_sub hl [] rfl)
      · replace hM := (if_neg c1).symm.trans hM
        refine lv_aload_n hx hb dX7_doneIn_67 rfl (lv_at hl 0 rfl) ?_
        refine va_get (D := (dC, dI)) (ci := 5) (v := .ref (g 1)) (C := RX7) (T := TX7) (N := 14) hx hb hts inX7 hown hG.1 hP 0 rfl rfl 0 (by decide) (hts (.fieldLink RX7 7 "WokenDriveModel" "now" "[I") (List.mem_of_getElem? (i := 3) rfl)) (fun _ h9 => h9) rfl dX7_doneIn_68 ?_
        refine lv_iload_n hx hb dX7_doneIn_71 rfl (lv_at hl 2 rfl) ?_
        refine lv_aload_n hx hb dX7_doneIn_72 rfl (lv_at hl 0 rfl) ?_
        refine va_get (D := (dC, dI)) (ci := 5) (v := .ref (g 3)) (C := RX7) (T := TX7) (N := 14) hx hb hts inX7 hown hG.1 hP 0 rfl rfl 2 (by decide) (hts (.fieldLink RX7 16 "WokenDriveModel" "aside" "[I") (List.mem_of_getElem? (i := 2) rfl)) (fun _ h9 => h9) rfl dX7_doneIn_73 ?_
        refine lv_iload_n hx hb dX7_doneIn_76 rfl (lv_at hl 2 rfl) ?_
        obtain ⟨v3, hv3, hM⟩ := ob hM
        refine wk_iald hx hb hG hP 3 0 rfl rfl hv3 dX7_doneIn_77 ?_
        obtain ⟨f4, hf4, hM⟩ := ob hM
        refine wk_iast hx hb hG hP hD hS 1 0 rfl rfl hf4 dX7_doneIn_78 (fun H locs hP hD hS => ?_)
        obtain ⟨y_5, hy_5, hM⟩ := tbE hM
        have hP : va_P (dC, dI) vwCl (wMod cI g y_5) H := by rw [hy_5]; exact hP
        have hD : va_D A (wMod cI g y_5) := by rw [hy_5]; exact hD
        refine lv_iinc (v := (u2 + 1)) (lv' := [(2, .int (u2 + 1)), (0, .ref (g 0)), (1, .int u1)]) hx hb dX7_doneIn_79 hl (k := 2) rfl rfl (by decide) rfl (fun ls hl => ?_)
        refine lv_goto (tgt := 60) hx hb dX7_doneIn_82 (by decide) ?_
        exact ih60 u1 (u2 + 1) y_5 H _ _ hM hP hD hS (lv_sub hl [1, 2, 0] rfl)
  have hB58 : ∀ (u1 : Int32) (y0 : MS) (H : Heap) (locs : List Loc) (ls : Array Slot), M_X7_doneIn_58 x u1 y0 = some out → va_P (dC, dI) vwCl (wMod cI g y0) H → va_D A (wMod cI g y0) → va_S A s.heap H locs → lv_has ls 3 [(0, .ref (g 0)), (1, .int u1)] → W p l e ({ frames := 6, cells := 0, slots := 0, locals := 137 } : Room) s m ([.ref (g 0)] : List Value).toArray below meth c H locs 0 0 Q (F0 m 58 ls []) := by
    intro u1 y0 H locs ls hM hP hD hS hl
    unfold M_X7_doneIn_58 at hM
    refine lv_iconst (v := (0 : Int32)) hx hb dX7_doneIn_58 (by decide) ?_
    refine lv_istore_n (lv' := [(2, .int (0 : Int32)), (0, .ref (g 0)), (1, .int u1)]) hx hb dX7_doneIn_59 rfl hl (by decide) rfl (fun ls hl => ?_)
    exact hL60 4000 u1 (0 : Int32) y0 H _ _ hM hP hD hS (lv_sub hl [1, 2, 0] rfl)
  have hL34 : ∀ (n34 : Nat) (u1 : Int32) (y0 : MS) (H : Heap) (locs : List Loc) (ls : Array Slot), lpF (M_X7_doneIn_34s x) n34 (u1, y0) = some out → va_P (dC, dI) vwCl (wMod cI g y0) H → va_D A (wMod cI g y0) → va_S A s.heap H locs → lv_has ls 3 [(0, .ref (g 0)), (1, .int u1)] → W p l e ({ frames := 6, cells := 0, slots := 0, locals := 137 } : Room) s m ([.ref (g 0)] : List Value).toArray below meth c H locs 0 0 Q (F0 m 34 ls []) := by
    intro n34
    induction n34 with
    | zero => intro u1 y0 H locs ls hM; exact lpF_0 hM
    | succ n34 ih34 =>
      intro u1 y0 H locs ls hM hP hD hS hl
      replace hM : M_X7_doneIn_34s x (lpF (M_X7_doneIn_34s x) n34) (u1, y0) = some out := hM
      unfold M_X7_doneIn_34s at hM
      try dsimp only at hM
      refine lv_iload_n hx hb dX7_doneIn_34 rfl (lv_at hl 1 rfl) ?_
      refine lv_sipush (v := (200 : Int32)) hx hb dX7_doneIn_35 (by decide) ?_
      refine lv_icmp_gt (tgt := 58) hx hb dX7_doneIn_38 (by decide) (fun c1 => ?_) (fun c1 => ?_)
      · replace hM := (if_pos c1).symm.trans hM
        exact hB58 u1 y0 H _ _ hM hP hD hS (lv_sub hl [0, 1] rfl)
      · replace hM := (if_neg c1).symm.trans hM
        refine lv_aload_n hx hb dX7_doneIn_41 rfl (lv_at hl 0 rfl) ?_
        obtain ⟨r2, hr2, hM⟩ := ob hM
        refine wk_callP (va_runV (As := []) (rest := []) ⟨hx, hb, hml, hown, hts⟩ (c_X7_openOrders l dC dI cI cD cJ kk g y0 _ hr2 H) (cwV 0 hts gX7_doneIn_X7_openOrders rfl rfl rfl (by decide +kernel) ⟨Nat.le_of_ble_eq_true rfl, Nat.le_of_ble_eq_true rfl⟩) (wk_preV (ci := 5) (q0 := 0) hG hP hD [0, 1, 2, 3, 4, 5, 6, 7] rfl rfl rfl rfl) rfl rfl hl.1 rfl (lv_room (Nat.le_of_ble_eq_true rfl)) dX7_doneIn_42 ⟨Nat.le_of_ble_eq_true rfl, Nat.le_of_ble_eq_true rfl⟩) hS (fun locs hS => ?_)
        refine lv_if_le (tgt := 58) hx hb dX7_doneIn_45 (by decide) (fun c3 => ?_) (fun c3 => ?_)
        · replace hM := (if_pos c3).symm.trans hM
          exact hB58 u1 y0 H _ _ hM hP hD hS (lv_sub hl [0, 1] rfl)
        · replace hM := (if_neg c3).symm.trans hM
          refine lv_aload_n hx hb dX7_doneIn_48 rfl (lv_at hl 0 rfl) ?_
          obtain ⟨r4, hr4, hM⟩ := ob hM
          refine wk_callM (ws' := (wMod cI g r4)) (va_runV (As := []) (rest := []) ⟨hx, hb, hml, hown, hts⟩ (c_X7_passes l dC dI cI cD cJ kk g y0 _ hr4 H) (cwV 0 hts gX7_doneIn_X7_passes rfl rfl rfl (by decide +kernel) ⟨Nat.le_of_ble_eq_true rfl, Nat.le_of_ble_eq_true rfl⟩) (wk_preV (ci := 5) (q0 := 0) hG hP hD [0, 1, 2, 3, 4, 5, 6, 7] rfl rfl rfl rfl) rfl rfl hl.1 rfl (lv_room (Nat.le_of_ble_eq_true rfl)) dX7_doneIn_49 ⟨Nat.le_of_ble_eq_true rfl, Nat.le_of_ble_eq_true rfl⟩) hP hD hS hA [0, 1, 2, 3, 4, 5, 6, 7] [] [0, 1, 2, 3, 4, 5, 6, 7] rfl rfl rfl (by decide) rfl rfl (fun H locs hP hD hS => ?_)
          refine lv_iinc (v := (u1 + 1)) (lv' := [(1, .int (u1 + 1)), (0, .ref (g 0))]) hx hb dX7_doneIn_52 hl (k := 1) rfl rfl (by decide) rfl (fun ls hl => ?_)
          refine lv_goto (tgt := 34) hx hb dX7_doneIn_55 (by decide) ?_
          exact ih34 (u1 + 1) r4 H _ _ hM hP hD hS (lv_sub hl [1, 0] rfl)
  have hL7 : ∀ (n7 : Nat) (u1 : Int32) (y0 : MS) (H : Heap) (locs : List Loc) (ls : Array Slot), lpF (M_X7_doneIn_7s x) n7 (u1, y0) = some out → va_P (dC, dI) vwCl (wMod cI g y0) H → va_D A (wMod cI g y0) → va_S A s.heap H locs → lv_has ls 3 [(0, .ref (g 0)), (1, .int u1)] → W p l e ({ frames := 6, cells := 0, slots := 0, locals := 137 } : Room) s m ([.ref (g 0)] : List Value).toArray below meth c H locs 0 0 Q (F0 m 7 ls []) := by
    intro n7
    induction n7 with
    | zero => intro u1 y0 H locs ls hM; exact lpF_0 hM
    | succ n7 ih7 =>
      intro u1 y0 H locs ls hM hP hD hS hl
      replace hM : M_X7_doneIn_7s x (lpF (M_X7_doneIn_7s x) n7) (u1, y0) = some out := hM
      unfold M_X7_doneIn_7s at hM
      try dsimp only at hM
      refine lv_iload_n hx hb dX7_doneIn_7 rfl (lv_at hl 1 rfl) ?_
      refine lv_sipush (v := (596 : Int32)) hx hb dX7_doneIn_8 (by decide) ?_
      refine lv_icmp_ge (tgt := 32) hx hb dX7_doneIn_11 (by decide) (fun c1 => ?_) (fun c1 => ?_)
      · replace hM := (if_pos c1).symm.trans hM
        refine lv_iconst (v := (0 : Int32)) hx hb dX7_doneIn_32 (by decide) ?_
        refine lv_istore_n (lv' := [(1, .int (0 : Int32)), (0, .ref (g 0))]) hx hb dX7_doneIn_33 rfl hl (by decide) rfl (fun ls hl => ?_)
        exact hL34 4000 (0 : Int32) y0 H _ _ hM hP hD hS (lv_sub hl [1, 0] rfl)
      · replace hM := (if_neg c1).symm.trans hM
        refine lv_aload_n hx hb dX7_doneIn_14 rfl (lv_at hl 0 rfl) ?_
        refine va_get (D := (dC, dI)) (ci := 5) (v := .ref (g 3)) (C := RX7) (T := TX7) (N := 14) hx hb hts inX7 hown hG.1 hP 0 rfl rfl 2 (by decide) (hts (.fieldLink RX7 16 "WokenDriveModel" "aside" "[I") (List.mem_of_getElem? (i := 2) rfl)) (fun _ h9 => h9) rfl dX7_doneIn_15 ?_
        refine lv_iload_n hx hb dX7_doneIn_18 rfl (lv_at hl 1 rfl) ?_
        refine lv_aload_n hx hb dX7_doneIn_19 rfl (lv_at hl 0 rfl) ?_
        refine va_get (D := (dC, dI)) (ci := 5) (v := .ref (g 1)) (C := RX7) (T := TX7) (N := 14) hx hb hts inX7 hown hG.1 hP 0 rfl rfl 0 (by decide) (hts (.fieldLink RX7 7 "WokenDriveModel" "now" "[I") (List.mem_of_getElem? (i := 3) rfl)) (fun _ h9 => h9) rfl dX7_doneIn_20 ?_
        refine lv_iload_n hx hb dX7_doneIn_23 rfl (lv_at hl 1 rfl) ?_
        obtain ⟨v2, hv2, hM⟩ := ob hM
        refine wk_iald hx hb hG hP 1 0 rfl rfl hv2 dX7_doneIn_24 ?_
        obtain ⟨f3, hf3, hM⟩ := ob hM
        refine wk_iast hx hb hG hP hD hS 3 0 rfl rfl hf3 dX7_doneIn_25 (fun H locs hP hD hS => ?_)
        obtain ⟨y_4, hy_4, hM⟩ := tbE hM
        have hP : va_P (dC, dI) vwCl (wMod cI g y_4) H := by rw [hy_4]; exact hP
        have hD : va_D A (wMod cI g y_4) := by rw [hy_4]; exact hD
        refine lv_iinc (v := (u1 + 1)) (lv' := [(1, .int (u1 + 1)), (0, .ref (g 0))]) hx hb dX7_doneIn_26 hl (k := 1) rfl rfl (by decide) rfl (fun ls hl => ?_)
        refine lv_goto (tgt := 7) hx hb dX7_doneIn_29 (by decide) ?_
        exact ih7 (u1 + 1) y_4 H _ _ hM hP hD hS (lv_sub hl [1, 0] rfl)
  unfold M_X7_doneIn at hM
  refine lv_aload_n hx hb dX7_doneIn_0 rfl (lv_at hl 0 rfl) ?_
  refine lv_iconst (v := (0 : Int32)) hx hb dX7_doneIn_1 (by decide) ?_
  obtain ⟨y_1, hy_1, hM⟩ := tbE hM
  refine va_put (D := (dC, dI)) (ci := 5) (v := .int (0 : Int32)) (ty := .int) (C := RX7) (T := TX7) (N := 14) hx hb hts inX7 tyX7 tyX7_ok nmX7 hown hG.1 hP hD hS 0 rfl rfl 9 (by decide) (hts (.fieldLink RX7 31 "WokenDriveModel" "refusal" "I") (List.mem_of_getElem? (i := 1) rfl)) (fun _ h9 => h9) rfl (by decide +kernel) rfl rfl (Nat.le_of_ble_eq_true rfl) dX7_doneIn_2 (fun H locs hP hD hS => ?_)
  have hP : va_P (dC, dI) vwCl (wMod cI g y_1) H := by rw [hy_1]; exact hP
  have hD : va_D A (wMod cI g y_1) := by rw [hy_1]; exact hD
  refine lv_iconst (v := (0 : Int32)) hx hb dX7_doneIn_5 (by decide) ?_
  refine lv_istore_n (lv' := [(1, .int (0 : Int32)), (0, .ref (g 0))]) hx hb dX7_doneIn_6 rfl hl (by decide) rfl (fun ls hl => ?_)
  exact hL7 4000 (0 : Int32) y_1 H _ _ hM hP hD hS (lv_sub hl [1, 0] rfl)
set_option maxHeartbeats 4000000 in
set_option maxRecDepth 100000 in
theorem c_X7_finalValue (l : Launch) (dC : Nat → ClassId) (dI : Nat → Nat → Nat) (cI cD cJ : ClassId) (kk : wAd) (g : Nat → Nat) (x : MS) (p1 : Int32) (out : Int32 × MS) (hM : M_X7_finalValue x p1 = some out) : CM l yX7_finalValue wsX7_finalValue ({ frames := 2, cells := 0, slots := 0, locals := 43 } : Room) dC dI (wTys cI cD cJ) [.ref (g 0), .int p1] (wMod cI g x) (some (.int out.1)) (wMod cI g out.2) 0 0 := by
  refine wk_enterM (cc := cX7_finalValue) (maxL := 5) (ret := (some .int)) (by decide) rfl (Nat.le_of_ble_eq_true rfl) ?_
  intro p e s m below meth c A Q ls hB hA hP hD hQ hl
  obtain ⟨hx, hb, hml, hr, hts, hown, hname, hlocks, hG⟩ := hB
  have hown : s.vm.findClass RX7 = some m.cls := hown
  have hS : va_S A s.heap s.heap [] := va_S.rf
  have hl : lv_has ls 5 [(0, .ref (g 0)), (1, .int p1)] := hl
  have inX7 : ∀ w ∈ wsX70, w ∈ wsX7_finalValue := fun _ h => List.mem_cons_of_mem _ (List.mem_append_right _ h)
  obtain ⟨H, hH⟩ : ∃ z, z = s.heap := ⟨_, rfl⟩
  have hP : va_P (dC, dI) vwCl (wMod cI g x) H := by rw [hH]; exact hP
  have hS : va_S A s.heap H [] := by rw [hH]; exact hS
  refine wk_at hH ?_
  generalize ([] : List Loc) = locs at hS ⊢
  have hL51 : ∀ (n51 : Nat) (u2 : Int32) (y0 : MS) (H : Heap) (locs : List Loc) (ls : Array Slot), lpF (M_X7_finalValue_51s x p1) n51 (u2, y0) = some out → va_P (dC, dI) vwCl (wMod cI g y0) H → va_D A (wMod cI g y0) → va_S A s.heap H locs → lv_has ls 5 [(0, .ref (g 0)), (1, .int p1), (2, .int u2)] → W p l e ({ frames := 2, cells := 0, slots := 0, locals := 43 } : Room) s m ([.ref (g 0), .int p1] : List Value).toArray below meth c H locs 0 0 Q (F0 m 51 ls []) := by
    intro n51
    induction n51 with
    | zero => intro u2 y0 H locs ls hM; exact lpF_0 hM
    | succ n51 ih51 =>
      have hB190 : ∀ (u2 : Int32) (y0 : MS) (H : Heap) (locs : List Loc) (ls : Array Slot), M_X7_finalValue_190 x p1 (lpF (M_X7_finalValue_51s x p1) n51) u2 y0 = some out → va_P (dC, dI) vwCl (wMod cI g y0) H → va_D A (wMod cI g y0) → va_S A s.heap H locs → lv_has ls 5 [(0, .ref (g 0)), (1, .int p1), (2, .int u2)] → W p l e ({ frames := 2, cells := 0, slots := 0, locals := 43 } : Room) s m ([.ref (g 0), .int p1] : List Value).toArray below meth c H locs 0 0 Q (F0 m 190 ls []) := by
        intro u2 y0 H locs ls hM hP hD hS hl
        unfold M_X7_finalValue_190 at hM
        refine lv_iinc (v := (u2 + 1)) (lv' := [(2, .int (u2 + 1)), (0, .ref (g 0)), (1, .int p1)]) hx hb dX7_finalValue_190 hl (k := 2) rfl rfl (by decide) rfl (fun ls hl => ?_)
        refine lv_goto (tgt := 51) hx hb dX7_finalValue_193 (by decide) ?_
        exact ih51 (u2 + 1) y0 H _ _ hM hP hD hS (lv_sub hl [1, 2, 0] rfl)
      have hB152 : ∀ (u2 : Int32) (u4 : Int32) (w1 : Int32) (w2 : Int32) (y0 : MS) (H : Heap) (locs : List Loc) (ls : Array Slot), M_X7_finalValue_152 x p1 (lpF (M_X7_finalValue_51s x p1) n51) u2 u4 w1 w2 y0 = some out → va_P (dC, dI) vwCl (wMod cI g y0) H → va_D A (wMod cI g y0) → va_S A s.heap H locs → lv_has ls 5 [(0, .ref (g 0)), (1, .int p1), (2, .int u2), (4, .int u4)] → W p l e ({ frames := 2, cells := 0, slots := 0, locals := 43 } : Room) s m ([.ref (g 0), .int p1] : List Value).toArray below meth c H locs 0 0 Q (F0 m 152 ls [.int w2, .int w1, .ref (g 5)]) := by
        intro u2 u4 w1 w2 y0 H locs ls hM hP hD hS hl
        unfold M_X7_finalValue_152 at hM
        refine lv_iload hx hb dX7_finalValue_152 (lv_at hl 3 rfl) ?_
        refine lv_iadd hx hb dX7_finalValue_154 ?_
        obtain ⟨f1, hf1, hM⟩ := ob hM
        refine wk_iast hx hb hG hP hD hS 5 0 rfl rfl hf1 dX7_finalValue_155 (fun H locs hP hD hS => ?_)
        obtain ⟨y_2, hy_2, hM⟩ := tbE hM
        have hP : va_P (dC, dI) vwCl (wMod cI g y_2) H := by rw [hy_2]; exact hP
        have hD : va_D A (wMod cI g y_2) := by rw [hy_2]; exact hD
        refine lv_goto (tgt := 190) hx hb dX7_finalValue_156 (by decide) ?_
        exact hB190 u2 y_2 H _ _ hM hP hD hS (lv_sub hl [0, 1, 2] rfl)
      have hB159 : ∀ (u2 : Int32) (u3 : Int32) (u4 : Int32) (y0 : MS) (H : Heap) (locs : List Loc) (ls : Array Slot), M_X7_finalValue_159 x p1 (lpF (M_X7_finalValue_51s x p1) n51) u2 u3 u4 y0 = some out → va_P (dC, dI) vwCl (wMod cI g y0) H → va_D A (wMod cI g y0) → va_S A s.heap H locs → lv_has ls 5 [(0, .ref (g 0)), (1, .int p1), (2, .int u2), (3, .int u3), (4, .int u4)] → W p l e ({ frames := 2, cells := 0, slots := 0, locals := 43 } : Room) s m ([.ref (g 0), .int p1] : List Value).toArray below meth c H locs 0 0 Q (F0 m 159 ls []) := by
        intro u2 u3 u4 y0 H locs ls hM hP hD hS hl
        unfold M_X7_finalValue_159 at hM
        refine lv_aload_n hx hb dX7_finalValue_159 rfl (lv_at hl 0 rfl) ?_
        refine lv_iload_n hx hb dX7_finalValue_160 rfl (lv_at hl 2 rfl) ?_
        obtain ⟨r1, hr1, hM⟩ := ob hM
        refine wk_callP (va_runV (As := [.int u2]) (rest := []) ⟨hx, hb, hml, hown, hts⟩ (c_X7_isOpen l dC dI cI cD cJ kk g y0 u2 _ hr1 H) (cwV 1 hts gX7_finalValue_X7_isOpen rfl rfl rfl (by decide +kernel) ⟨Nat.le_of_ble_eq_true rfl, Nat.le_of_ble_eq_true rfl⟩) (wk_preV (ci := 5) (q0 := 0) hG hP hD [0, 1, 2, 3, 4, 5, 6, 7] rfl rfl rfl rfl) rfl rfl hl.1 rfl (lv_room (Nat.le_of_ble_eq_true rfl)) dX7_finalValue_161 ⟨Nat.le_of_ble_eq_true rfl, Nat.le_of_ble_eq_true rfl⟩) hS (fun locs hS => ?_)
        refine lv_if_eq (tgt := 190) hx hb dX7_finalValue_164 (by decide) (fun c2 => ?_) (fun c2 => ?_)
        · replace hM := (if_pos c2).symm.trans hM
          exact hB190 u2 y0 H _ _ hM hP hD hS (lv_sub hl [0, 1, 2] rfl)
        · replace hM := (if_neg c2).symm.trans hM
          refine lv_aload_n hx hb dX7_finalValue_167 rfl (lv_at hl 0 rfl) ?_
          refine lv_iload_n hx hb dX7_finalValue_168 rfl (lv_at hl 2 rfl) ?_
          refine lv_iconst (v := (2 : Int32)) hx hb dX7_finalValue_169 (by decide) ?_
          obtain ⟨r3, hr3, hM⟩ := ob hM
          refine wk_callP (va_runV (As := [.int u2, .int (2 : Int32)]) (rest := []) ⟨hx, hb, hml, hown, hts⟩ (c_X7_of l dC dI cI cD cJ kk g y0 u2 (2 : Int32) _ hr3 H) (cwV 2 hts gX7_finalValue_X7_of rfl rfl rfl (by decide +kernel) ⟨Nat.le_of_ble_eq_true rfl, Nat.le_of_ble_eq_true rfl⟩) (wk_preV (ci := 5) (q0 := 0) hG hP hD [0, 1, 2, 3, 4, 5, 6, 7] rfl rfl rfl rfl) rfl rfl hl.1 rfl (lv_room (Nat.le_of_ble_eq_true rfl)) dX7_finalValue_170 ⟨Nat.le_of_ble_eq_true rfl, Nat.le_of_ble_eq_true rfl⟩) hS (fun locs hS => ?_)
          refine lv_iconst (v := (2 : Int32)) hx hb dX7_finalValue_173 (by decide) ?_
          refine lv_icmp_ne (tgt := 190) hx hb dX7_finalValue_174 (by decide) (fun c4 => ?_) (fun c4 => ?_)
          · replace hM := (if_neg c4).symm.trans hM
            exact hB190 u2 y0 H _ _ hM hP hD hS (lv_sub hl [0, 1, 2] rfl)
          · replace hM := (if_pos c4).symm.trans hM
            refine lv_aload_n hx hb dX7_finalValue_177 rfl (lv_at hl 0 rfl) ?_
            refine va_get (D := (dC, dI)) (ci := 5) (v := .ref (g 5)) (C := RX7) (T := TX7) (N := 14) hx hb hts inX7 hown hG.1 hP 0 rfl rfl 4 (by decide) (hts (.fieldLink RX7 22 "WokenDriveModel" "values" "[I") (List.mem_of_getElem? (i := 1) rfl)) (fun _ h9 => h9) rfl dX7_finalValue_178 ?_
            refine lv_iload_n hx hb dX7_finalValue_181 rfl (lv_at hl 3 rfl) ?_
            refine lv_aload_n hx hb dX7_finalValue_182 rfl (lv_at hl 0 rfl) ?_
            refine va_get (D := (dC, dI)) (ci := 5) (v := .ref (g 5)) (C := RX7) (T := TX7) (N := 14) hx hb hts inX7 hown hG.1 hP 0 rfl rfl 4 (by decide) (hts (.fieldLink RX7 22 "WokenDriveModel" "values" "[I") (List.mem_of_getElem? (i := 1) rfl)) (fun _ h9 => h9) rfl dX7_finalValue_183 ?_
            refine lv_iload hx hb dX7_finalValue_186 (lv_at hl 4 rfl) ?_
            obtain ⟨v5, hv5, hM⟩ := ob hM
            refine wk_iald hx hb hG hP 5 0 rfl rfl hv5 dX7_finalValue_188 ?_
            obtain ⟨f6, hf6, hM⟩ := ob hM
            refine wk_iast hx hb hG hP hD hS 5 0 rfl rfl hf6 dX7_finalValue_189 (fun H locs hP hD hS => ?_)
            have hP : va_P (dC, dI) vwCl (wMod cI g (ms_values_s y0 f6)) H := hP
            have hD : va_D A (wMod cI g (ms_values_s y0 f6)) := hD
            exact hB190 u2 (ms_values_s y0 f6) H _ _ hM hP hD hS (lv_sub hl [0, 1, 2] rfl)
      have hB104 : ∀ (u2 : Int32) (u3 : Int32) (u4 : Int32) (y0 : MS) (H : Heap) (locs : List Loc) (ls : Array Slot), M_X7_finalValue_104 x p1 (lpF (M_X7_finalValue_51s x p1) n51) u2 u3 u4 y0 = some out → va_P (dC, dI) vwCl (wMod cI g y0) H → va_D A (wMod cI g y0) → va_S A s.heap H locs → lv_has ls 5 [(0, .ref (g 0)), (1, .int p1), (2, .int u2), (3, .int u3), (4, .int u4)] → W p l e ({ frames := 2, cells := 0, slots := 0, locals := 43 } : Room) s m ([.ref (g 0), .int p1] : List Value).toArray below meth c H locs 0 0 Q (F0 m 104 ls []) := by
        intro u2 u3 u4 y0 H locs ls hM hP hD hS hl
        unfold M_X7_finalValue_104 at hM
        refine lv_aload_n hx hb dX7_finalValue_104 rfl (lv_at hl 0 rfl) ?_
        refine lv_iload_n hx hb dX7_finalValue_105 rfl (lv_at hl 2 rfl) ?_
        obtain ⟨r1, hr1, hM⟩ := ob hM
        refine wk_callP (va_runV (As := [.int u2]) (rest := []) ⟨hx, hb, hml, hown, hts⟩ (c_X7_isOpen l dC dI cI cD cJ kk g y0 u2 _ hr1 H) (cwV 1 hts gX7_finalValue_X7_isOpen rfl rfl rfl (by decide +kernel) ⟨Nat.le_of_ble_eq_true rfl, Nat.le_of_ble_eq_true rfl⟩) (wk_preV (ci := 5) (q0 := 0) hG hP hD [0, 1, 2, 3, 4, 5, 6, 7] rfl rfl rfl rfl) rfl rfl hl.1 rfl (lv_room (Nat.le_of_ble_eq_true rfl)) dX7_finalValue_106 ⟨Nat.le_of_ble_eq_true rfl, Nat.le_of_ble_eq_true rfl⟩) hS (fun locs hS => ?_)
        refine lv_if_eq (tgt := 159) hx hb dX7_finalValue_109 (by decide) (fun c2 => ?_) (fun c2 => ?_)
        · replace hM := (if_pos c2).symm.trans hM
          exact hB159 u2 u3 u4 y0 H _ _ hM hP hD hS (lv_sub hl [0, 1, 2, 3, 4] rfl)
        · replace hM := (if_neg c2).symm.trans hM
          refine lv_aload_n hx hb dX7_finalValue_112 rfl (lv_at hl 0 rfl) ?_
          refine lv_iload_n hx hb dX7_finalValue_113 rfl (lv_at hl 2 rfl) ?_
          refine lv_iconst (v := (2 : Int32)) hx hb dX7_finalValue_114 (by decide) ?_
          obtain ⟨r3, hr3, hM⟩ := ob hM
          refine wk_callP (va_runV (As := [.int u2, .int (2 : Int32)]) (rest := []) ⟨hx, hb, hml, hown, hts⟩ (c_X7_of l dC dI cI cD cJ kk g y0 u2 (2 : Int32) _ hr3 H) (cwV 2 hts gX7_finalValue_X7_of rfl rfl rfl (by decide +kernel) ⟨Nat.le_of_ble_eq_true rfl, Nat.le_of_ble_eq_true rfl⟩) (wk_preV (ci := 5) (q0 := 0) hG hP hD [0, 1, 2, 3, 4, 5, 6, 7] rfl rfl rfl rfl) rfl rfl hl.1 rfl (lv_room (Nat.le_of_ble_eq_true rfl)) dX7_finalValue_115 ⟨Nat.le_of_ble_eq_true rfl, Nat.le_of_ble_eq_true rfl⟩) hS (fun locs hS => ?_)
          refine lv_iconst (v := (1 : Int32)) hx hb dX7_finalValue_118 (by decide) ?_
          refine lv_icmp_ne (tgt := 159) hx hb dX7_finalValue_119 (by decide) (fun c4 => ?_) (fun c4 => ?_)
          · replace hM := (if_neg c4).symm.trans hM
            exact hB159 u2 u3 u4 y0 H _ _ hM hP hD hS (lv_sub hl [0, 1, 2, 3, 4] rfl)
          · replace hM := (if_pos c4).symm.trans hM
            refine lv_aload_n hx hb dX7_finalValue_122 rfl (lv_at hl 0 rfl) ?_
            refine va_get (D := (dC, dI)) (ci := 5) (v := .ref (g 5)) (C := RX7) (T := TX7) (N := 14) hx hb hts inX7 hown hG.1 hP 0 rfl rfl 4 (by decide) (hts (.fieldLink RX7 22 "WokenDriveModel" "values" "[I") (List.mem_of_getElem? (i := 1) rfl)) (fun _ h9 => h9) rfl dX7_finalValue_123 ?_
            refine lv_iload_n hx hb dX7_finalValue_126 rfl (lv_at hl 3 rfl) ?_
            refine lv_aload_n hx hb dX7_finalValue_127 rfl (lv_at hl 0 rfl) ?_
            refine lv_iload_n hx hb dX7_finalValue_128 rfl (lv_at hl 2 rfl) ?_
            refine lv_iconst (v := (5 : Int32)) hx hb dX7_finalValue_129 (by decide) ?_
            obtain ⟨r5, hr5, hM⟩ := ob hM
            refine wk_callP (va_runV (As := [.int u2, .int (5 : Int32)]) (rest := [.int u3, .ref (g 5)]) ⟨hx, hb, hml, hown, hts⟩ (c_X7_of l dC dI cI cD cJ kk g y0 u2 (5 : Int32) _ hr5 H) (cwV 2 hts gX7_finalValue_X7_of rfl rfl rfl (by decide +kernel) ⟨Nat.le_of_ble_eq_true rfl, Nat.le_of_ble_eq_true rfl⟩) (wk_preV (ci := 5) (q0 := 0) hG hP hD [0, 1, 2, 3, 4, 5, 6, 7] rfl rfl rfl rfl) rfl rfl hl.1 rfl (lv_room (Nat.le_of_ble_eq_true rfl)) dX7_finalValue_130 ⟨Nat.le_of_ble_eq_true rfl, Nat.le_of_ble_eq_true rfl⟩) hS (fun locs hS => ?_)
            refine lv_iconst (v := (1 : Int32)) hx hb dX7_finalValue_133 (by decide) ?_
            refine lv_icmp_ne (tgt := 146) hx hb dX7_finalValue_134 (by decide) (fun c6 => ?_) (fun c6 => ?_)
            · replace hM := (if_neg c6).symm.trans hM
              refine lv_aload_n hx hb dX7_finalValue_146 rfl (lv_at hl 0 rfl) ?_
              refine va_get (D := (dC, dI)) (ci := 5) (v := .ref (g 5)) (C := RX7) (T := TX7) (N := 14) hx hb hts inX7 hown hG.1 hP 0 rfl rfl 4 (by decide) (hts (.fieldLink RX7 22 "WokenDriveModel" "values" "[I") (List.mem_of_getElem? (i := 1) rfl)) (fun _ h9 => h9) rfl dX7_finalValue_147 ?_
              refine lv_iload_n hx hb dX7_finalValue_150 rfl (lv_at hl 3 rfl) ?_
              obtain ⟨v7, hv7, hM⟩ := ob hM
              refine wk_iald hx hb hG hP 5 0 rfl rfl hv7 dX7_finalValue_151 ?_
              exact hB152 u2 u4 u3 v7 y0 H _ _ hM hP hD hS (lv_sub hl [0, 1, 2, 4] rfl)
            · replace hM := (if_pos c6).symm.trans hM
              refine lv_aload_n hx hb dX7_finalValue_137 rfl (lv_at hl 0 rfl) ?_
              refine va_get (D := (dC, dI)) (ci := 5) (v := .ref (g 1)) (C := RX7) (T := TX7) (N := 14) hx hb hts inX7 hown hG.1 hP 0 rfl rfl 0 (by decide) (hts (.fieldLink RX7 7 "WokenDriveModel" "now" "[I") (List.mem_of_getElem? (i := 2) rfl)) (fun _ h9 => h9) rfl dX7_finalValue_138 ?_
              refine lv_iconst (v := (3 : Int32)) hx hb dX7_finalValue_141 (by decide) ?_
              obtain ⟨v8, hv8, hM⟩ := ob hM
              refine wk_iald hx hb hG hP 1 0 rfl rfl hv8 dX7_finalValue_142 ?_
              refine lv_goto (tgt := 152) hx hb dX7_finalValue_143 (by decide) ?_
              exact hB152 u2 u4 u3 v8 y0 H _ _ hM hP hD hS (lv_sub hl [0, 1, 2, 4] rfl)
      intro u2 y0 H locs ls hM hP hD hS hl
      replace hM : M_X7_finalValue_51s x p1 (lpF (M_X7_finalValue_51s x p1) n51) (u2, y0) = some out := hM
      unfold M_X7_finalValue_51s at hM
      try dsimp only at hM
      refine lv_iload_n hx hb dX7_finalValue_51 rfl (lv_at hl 2 rfl) ?_
      refine lv_aload_n hx hb dX7_finalValue_52 rfl (lv_at hl 0 rfl) ?_
      refine va_get (D := (dC, dI)) (ci := 5) (v := .ref (g 1)) (C := RX7) (T := TX7) (N := 14) hx hb hts inX7 hown hG.1 hP 0 rfl rfl 0 (by decide) (hts (.fieldLink RX7 7 "WokenDriveModel" "now" "[I") (List.mem_of_getElem? (i := 2) rfl)) (fun _ h9 => h9) rfl dX7_finalValue_53 ?_
      refine lv_iconst (v := (1 : Int32)) hx hb dX7_finalValue_56 (by decide) ?_
      obtain ⟨v1, hv1, hM⟩ := ob hM
      refine wk_iald hx hb hG hP 1 0 rfl rfl hv1 dX7_finalValue_57 ?_
      refine lv_icmp_ge (tgt := 196) hx hb dX7_finalValue_58 (by decide) (fun c2 => ?_) (fun c2 => ?_)
      · replace hM := (if_pos c2).symm.trans hM
        refine lv_aload_n hx hb dX7_finalValue_196 rfl (lv_at hl 0 rfl) ?_
        refine va_get (D := (dC, dI)) (ci := 5) (v := .ref (g 5)) (C := RX7) (T := TX7) (N := 14) hx hb hts inX7 hown hG.1 hP 0 rfl rfl 4 (by decide) (hts (.fieldLink RX7 22 "WokenDriveModel" "values" "[I") (List.mem_of_getElem? (i := 1) rfl)) (fun _ h9 => h9) rfl dX7_finalValue_197 ?_
        refine lv_iload_n hx hb dX7_finalValue_200 rfl (lv_at hl 1 rfl) ?_
        obtain ⟨v3, hv3, hM⟩ := ob hM
        refine wk_iald hx hb hG hP 5 0 rfl rfl hv3 dX7_finalValue_201 ?_
        replace hM := Option.some.inj hM
        subst hM
        exact wk_retMi hx hb hr hlocks hQ rfl rfl hP hD hS dX7_finalValue_202
      · replace hM := (if_neg c2).symm.trans hM
        refine lv_aload_n hx hb dX7_finalValue_61 rfl (lv_at hl 0 rfl) ?_
        refine lv_iload_n hx hb dX7_finalValue_62 rfl (lv_at hl 2 rfl) ?_
        refine lv_iconst (v := (3 : Int32)) hx hb dX7_finalValue_63 (by decide) ?_
        obtain ⟨r4, hr4, hM⟩ := ob hM
        refine wk_callP (va_runV (As := [.int u2, .int (3 : Int32)]) (rest := []) ⟨hx, hb, hml, hown, hts⟩ (c_X7_of l dC dI cI cD cJ kk g y0 u2 (3 : Int32) _ hr4 H) (cwV 2 hts gX7_finalValue_X7_of rfl rfl rfl (by decide +kernel) ⟨Nat.le_of_ble_eq_true rfl, Nat.le_of_ble_eq_true rfl⟩) (wk_preV (ci := 5) (q0 := 0) hG hP hD [0, 1, 2, 3, 4, 5, 6, 7] rfl rfl rfl rfl) rfl rfl hl.1 rfl (lv_room (Nat.le_of_ble_eq_true rfl)) dX7_finalValue_64 ⟨Nat.le_of_ble_eq_true rfl, Nat.le_of_ble_eq_true rfl⟩) hS (fun locs hS => ?_)
        refine lv_istore_n (lv' := [(3, .int r4), (0, .ref (g 0)), (1, .int p1), (2, .int u2)]) hx hb dX7_finalValue_67 rfl hl (by decide) rfl (fun ls hl => ?_)
        refine lv_aload_n hx hb dX7_finalValue_68 rfl (lv_at hl 1 rfl) ?_
        refine lv_iload_n hx hb dX7_finalValue_69 rfl (lv_at hl 3 rfl) ?_
        refine lv_iconst (v := (4 : Int32)) hx hb dX7_finalValue_70 (by decide) ?_
        obtain ⟨r5, hr5, hM⟩ := ob hM
        refine wk_callP (va_runV (As := [.int u2, .int (4 : Int32)]) (rest := []) ⟨hx, hb, hml, hown, hts⟩ (c_X7_of l dC dI cI cD cJ kk g y0 u2 (4 : Int32) _ hr5 H) (cwV 2 hts gX7_finalValue_X7_of rfl rfl rfl (by decide +kernel) ⟨Nat.le_of_ble_eq_true rfl, Nat.le_of_ble_eq_true rfl⟩) (wk_preV (ci := 5) (q0 := 0) hG hP hD [0, 1, 2, 3, 4, 5, 6, 7] rfl rfl rfl rfl) rfl rfl hl.1 rfl (lv_room (Nat.le_of_ble_eq_true rfl)) dX7_finalValue_71 ⟨Nat.le_of_ble_eq_true rfl, Nat.le_of_ble_eq_true rfl⟩) hS (fun locs hS => ?_)
        refine lv_istore (lv' := [(4, .int r5), (3, .int r4), (0, .ref (g 0)), (1, .int p1), (2, .int u2)]) hx hb dX7_finalValue_74 hl (by decide) rfl (fun ls hl => ?_)
        refine lv_aload_n hx hb dX7_finalValue_76 rfl (lv_at hl 2 rfl) ?_
        refine lv_iload_n hx hb dX7_finalValue_77 rfl (lv_at hl 4 rfl) ?_
        obtain ⟨r6, hr6, hM⟩ := ob hM
        refine wk_callP (va_runV (As := [.int u2]) (rest := []) ⟨hx, hb, hml, hown, hts⟩ (c_X7_isOpen l dC dI cI cD cJ kk g y0 u2 _ hr6 H) (cwV 1 hts gX7_finalValue_X7_isOpen rfl rfl rfl (by decide +kernel) ⟨Nat.le_of_ble_eq_true rfl, Nat.le_of_ble_eq_true rfl⟩) (wk_preV (ci := 5) (q0 := 0) hG hP hD [0, 1, 2, 3, 4, 5, 6, 7] rfl rfl rfl rfl) rfl rfl hl.1 rfl (lv_room (Nat.le_of_ble_eq_true rfl)) dX7_finalValue_78 ⟨Nat.le_of_ble_eq_true rfl, Nat.le_of_ble_eq_true rfl⟩) hS (fun locs hS => ?_)
        refine lv_if_eq (tgt := 104) hx hb dX7_finalValue_81 (by decide) (fun c7 => ?_) (fun c7 => ?_)
        · replace hM := (if_pos c7).symm.trans hM
          exact hB104 u2 r4 r5 y0 H _ _ hM hP hD hS (lv_sub hl [2, 3, 4, 1, 0] rfl)
        · replace hM := (if_neg c7).symm.trans hM
          refine lv_aload_n hx hb dX7_finalValue_84 rfl (lv_at hl 2 rfl) ?_
          refine lv_iload_n hx hb dX7_finalValue_85 rfl (lv_at hl 4 rfl) ?_
          refine lv_iconst (v := (2 : Int32)) hx hb dX7_finalValue_86 (by decide) ?_
          obtain ⟨r8, hr8, hM⟩ := ob hM
          refine wk_callP (va_runV (As := [.int u2, .int (2 : Int32)]) (rest := []) ⟨hx, hb, hml, hown, hts⟩ (c_X7_of l dC dI cI cD cJ kk g y0 u2 (2 : Int32) _ hr8 H) (cwV 2 hts gX7_finalValue_X7_of rfl rfl rfl (by decide +kernel) ⟨Nat.le_of_ble_eq_true rfl, Nat.le_of_ble_eq_true rfl⟩) (wk_preV (ci := 5) (q0 := 0) hG hP hD [0, 1, 2, 3, 4, 5, 6, 7] rfl rfl rfl rfl) rfl rfl hl.1 rfl (lv_room (Nat.le_of_ble_eq_true rfl)) dX7_finalValue_87 ⟨Nat.le_of_ble_eq_true rfl, Nat.le_of_ble_eq_true rfl⟩) hS (fun locs hS => ?_)
          refine lv_if_ne (tgt := 104) hx hb dX7_finalValue_90 (by decide) (fun c9 => ?_) (fun c9 => ?_)
          · replace hM := (if_neg c9).symm.trans hM
            exact hB104 u2 r4 r5 y0 H _ _ hM hP hD hS (lv_sub hl [2, 3, 4, 1, 0] rfl)
          · replace hM := (if_pos c9).symm.trans hM
            refine lv_aload_n hx hb dX7_finalValue_93 rfl (lv_at hl 2 rfl) ?_
            refine va_get (D := (dC, dI)) (ci := 5) (v := .ref (g 5)) (C := RX7) (T := TX7) (N := 14) hx hb hts inX7 hown hG.1 hP 0 rfl rfl 4 (by decide) (hts (.fieldLink RX7 22 "WokenDriveModel" "values" "[I") (List.mem_of_getElem? (i := 1) rfl)) (fun _ h9 => h9) rfl dX7_finalValue_94 ?_
            refine lv_iload_n hx hb dX7_finalValue_97 rfl (lv_at hl 1 rfl) ?_
            refine lv_iload hx hb dX7_finalValue_98 (lv_at hl 0 rfl) ?_
            obtain ⟨f10, hf10, hM⟩ := ob hM
            refine wk_iast hx hb hG hP hD hS 5 0 rfl rfl hf10 dX7_finalValue_100 (fun H locs hP hD hS => ?_)
            obtain ⟨y_11, hy_11, hM⟩ := tbE hM
            have hP : va_P (dC, dI) vwCl (wMod cI g y_11) H := by rw [hy_11]; exact hP
            have hD : va_D A (wMod cI g y_11) := by rw [hy_11]; exact hD
            refine lv_goto (tgt := 190) hx hb dX7_finalValue_101 (by decide) ?_
            exact hB190 u2 y_11 H _ _ hM hP hD hS (lv_sub hl [2, 3, 4] rfl)
  have hL23 : ∀ (n23 : Nat) (u2 : Int32) (y0 : MS) (H : Heap) (locs : List Loc) (ls : Array Slot), lpF (M_X7_finalValue_23s x p1) n23 (u2, y0) = some out → va_P (dC, dI) vwCl (wMod cI g y0) H → va_D A (wMod cI g y0) → va_S A s.heap H locs → lv_has ls 5 [(0, .ref (g 0)), (1, .int p1), (2, .int u2)] → W p l e ({ frames := 2, cells := 0, slots := 0, locals := 43 } : Room) s m ([.ref (g 0), .int p1] : List Value).toArray below meth c H locs 0 0 Q (F0 m 23 ls []) := by
    intro n23
    induction n23 with
    | zero => intro u2 y0 H locs ls hM; exact lpF_0 hM
    | succ n23 ih23 =>
      intro u2 y0 H locs ls hM hP hD hS hl
      replace hM : M_X7_finalValue_23s x p1 (lpF (M_X7_finalValue_23s x p1) n23) (u2, y0) = some out := hM
      unfold M_X7_finalValue_23s at hM
      try dsimp only at hM
      refine lv_iload_n hx hb dX7_finalValue_23 rfl (lv_at hl 2 rfl) ?_
      refine lv_bipush (v := (16 : Int32)) hx hb dX7_finalValue_24 (by decide) ?_
      refine lv_icmp_ge (tgt := 49) hx hb dX7_finalValue_26 (by decide) (fun c1 => ?_) (fun c1 => ?_)
      · replace hM := (if_pos c1).symm.trans hM
        refine lv_iconst (v := (0 : Int32)) hx hb dX7_finalValue_49 (by decide) ?_
        refine lv_istore_n (lv' := [(2, .int (0 : Int32)), (0, .ref (g 0)), (1, .int p1)]) hx hb dX7_finalValue_50 rfl hl (by decide) rfl (fun ls hl => ?_)
        exact hL51 64 (0 : Int32) y0 H _ _ hM hP hD hS (lv_sub hl [1, 2, 0] rfl)
      · replace hM := (if_neg c1).symm.trans hM
        refine lv_aload_n hx hb dX7_finalValue_29 rfl (lv_at hl 0 rfl) ?_
        refine va_get (D := (dC, dI)) (ci := 5) (v := .ref (g 5)) (C := RX7) (T := TX7) (N := 14) hx hb hts inX7 hown hG.1 hP 0 rfl rfl 4 (by decide) (hts (.fieldLink RX7 22 "WokenDriveModel" "values" "[I") (List.mem_of_getElem? (i := 1) rfl)) (fun _ h9 => h9) rfl dX7_finalValue_30 ?_
        refine lv_iload_n hx hb dX7_finalValue_33 rfl (lv_at hl 2 rfl) ?_
        refine lv_aload_n hx hb dX7_finalValue_34 rfl (lv_at hl 0 rfl) ?_
        refine va_get (D := (dC, dI)) (ci := 5) (v := .ref (g 1)) (C := RX7) (T := TX7) (N := 14) hx hb hts inX7 hown hG.1 hP 0 rfl rfl 0 (by decide) (hts (.fieldLink RX7 7 "WokenDriveModel" "now" "[I") (List.mem_of_getElem? (i := 2) rfl)) (fun _ h9 => h9) rfl dX7_finalValue_35 ?_
        refine lv_iconst (v := (4 : Int32)) hx hb dX7_finalValue_38 (by decide) ?_
        refine lv_iload_n hx hb dX7_finalValue_39 rfl (lv_at hl 2 rfl) ?_
        refine lv_iadd hx hb dX7_finalValue_40 ?_
        obtain ⟨v2, hv2, hM⟩ := ob hM
        refine wk_iald hx hb hG hP 1 0 rfl rfl hv2 dX7_finalValue_41 ?_
        obtain ⟨f3, hf3, hM⟩ := ob hM
        refine wk_iast hx hb hG hP hD hS 5 0 rfl rfl hf3 dX7_finalValue_42 (fun H locs hP hD hS => ?_)
        obtain ⟨y_4, hy_4, hM⟩ := tbE hM
        have hP : va_P (dC, dI) vwCl (wMod cI g y_4) H := by rw [hy_4]; exact hP
        have hD : va_D A (wMod cI g y_4) := by rw [hy_4]; exact hD
        refine lv_iinc (v := (u2 + 1)) (lv' := [(2, .int (u2 + 1)), (0, .ref (g 0)), (1, .int p1)]) hx hb dX7_finalValue_43 hl (k := 2) rfl rfl (by decide) rfl (fun ls hl => ?_)
        refine lv_goto (tgt := 23) hx hb dX7_finalValue_46 (by decide) ?_
        exact ih23 (u2 + 1) y_4 H _ _ hM hP hD hS (lv_sub hl [1, 2, 0] rfl)
  have hB13 : ∀ (w1 : Bool) (y0 : MS) (H : Heap) (locs : List Loc) (ls : Array Slot), M_X7_finalValue_13 x p1 w1 y0 = some out → va_P (dC, dI) vwCl (wMod cI g y0) H → va_D A (wMod cI g y0) → va_S A s.heap H locs → lv_has ls 5 [(0, .ref (g 0)), (1, .int p1)] → W p l e ({ frames := 2, cells := 0, slots := 0, locals := 43 } : Room) s m ([.ref (g 0), .int p1] : List Value).toArray below meth c H locs 0 0 Q (F0 m 13 ls [.int (zI w1), .ref (g 0)]) := by
    intro w1 y0 H locs ls hM hP hD hS hl
    unfold M_X7_finalValue_13 at hM
    obtain ⟨r1, hr1, hM⟩ := tbE hM
    refine wk_callM (ws' := (wMod cI g r1.2)) (va_runV (As := [.int (zI w1)]) (rest := []) ⟨hx, hb, hml, hown, hts⟩ (c_X7_refused l dC dI cI cD cJ kk g y0 (zI w1) _ hr1.symm H) (cwV 1 hts gX7_finalValue_X7_refused rfl rfl rfl (by decide +kernel) ⟨Nat.le_of_ble_eq_true rfl, Nat.le_of_ble_eq_true rfl⟩) (wk_preV (ci := 5) (q0 := 0) hG hP hD [0, 1, 2, 3, 4, 5, 6, 7] rfl rfl rfl rfl) rfl rfl hl.1 rfl (lv_room (Nat.le_of_ble_eq_true rfl)) dX7_finalValue_13 ⟨Nat.le_of_ble_eq_true rfl, Nat.le_of_ble_eq_true rfl⟩) hP hD hS hA [0, 1, 2, 3, 4, 5, 6, 7] [] [0, 1, 2, 3, 4, 5, 6, 7] rfl rfl rfl (by decide) rfl rfl (fun H locs hP hD hS => ?_)
    refine lv_if_eq (tgt := 21) hx hb dX7_finalValue_16 (by decide) (fun c2 => ?_) (fun c2 => ?_)
    · replace hM := (if_pos c2).symm.trans hM
      refine lv_iconst (v := (0 : Int32)) hx hb dX7_finalValue_21 (by decide) ?_
      refine lv_istore_n (lv' := [(2, .int (0 : Int32)), (0, .ref (g 0)), (1, .int p1)]) hx hb dX7_finalValue_22 rfl hl (by decide) rfl (fun ls hl => ?_)
      exact hL23 64 (0 : Int32) r1.2 H _ _ hM hP hD hS (lv_sub hl [1, 2, 0] rfl)
    · replace hM := (if_neg c2).symm.trans hM
      refine lv_iconst (v := (0 : Int32)) hx hb dX7_finalValue_19 (by decide) ?_
      replace hM := Option.some.inj hM
      subst hM
      exact wk_retMi hx hb hr hlocks hQ rfl rfl hP hD hS dX7_finalValue_20
  unfold M_X7_finalValue at hM
  refine lv_aload_n hx hb dX7_finalValue_0 rfl (lv_at hl 0 rfl) ?_
  refine lv_iload_n hx hb dX7_finalValue_1 rfl (lv_at hl 1 rfl) ?_
  refine wk_callP (va_runS (As := [.int p1]) (rest := [.ref (g 0)]) ⟨hx, hb, hml, hown, hts⟩ (c_X7_isBlock l dC dI cI cD cJ kk  p1 _ rfl H) (va_cwS 1 hts gX7_finalValue_X7_isBlock rfl rfl rfl (by decide +kernel) ⟨Nat.le_of_ble_eq_true rfl, Nat.le_of_ble_eq_true rfl⟩) (wk_preS hG hP hD [] rfl rfl) rfl rfl hl.1 rfl (lv_room (Nat.le_of_ble_eq_true rfl)) dX7_finalValue_2 ⟨Nat.le_of_ble_eq_true rfl, Nat.le_of_ble_eq_true rfl⟩) hS (fun locs hS => ?_)
  refine lv_if_ne (tgt := 12) hx hb dX7_finalValue_5 (by decide) (fun c1 => ?_) (fun c1 => ?_)
  · replace hM := (if_neg c1).symm.trans hM
    refine lv_iconst (v := (0 : Int32)) hx hb dX7_finalValue_12 (by decide) ?_
    exact hB13 false x H _ _ hM hP hD hS (lv_sub hl [0, 1] rfl)
  · replace hM := (if_pos c1).symm.trans hM
    refine lv_iconst (v := (1 : Int32)) hx hb dX7_finalValue_8 (by decide) ?_
    refine lv_goto (tgt := 13) hx hb dX7_finalValue_9 (by decide) ?_
    exact hB13 true x H _ _ hM hP hD hS (lv_sub hl [0, 1] rfl)
set_option maxHeartbeats 4000000 in
set_option maxRecDepth 100000 in
theorem c_X7_type (l : Launch) (dC : Nat → ClassId) (dI : Nat → Nat → Nat) (cI cD cJ : ClassId) (kk : wAd) (g : Nat → Nat) (x : MS) (p1 : Int32) (out : Int32 × MS) (hM : M_X7_type x p1 = some out) : CM l yX7_type wsX7_type ({ frames := 1, cells := 0, slots := 0, locals := 22 } : Room) dC dI (wTys cI cD cJ) [.ref (g 0), .int p1] (wMod cI g x) (some (.int out.1)) (wMod cI g out.2) 0 0 := by
  refine wk_enterM (cc := cX7_type) (maxL := 2) (ret := (some .int)) (by decide) rfl (Nat.le_of_ble_eq_true rfl) ?_
  intro p e s m below meth c A Q ls hB hA hP hD hQ hl
  obtain ⟨hx, hb, hml, hr, hts, hown, hname, hlocks, hG⟩ := hB
  have hown : s.vm.findClass RX7 = some m.cls := hown
  have hS : va_S A s.heap s.heap [] := va_S.rf
  have hl : lv_has ls 2 [(0, .ref (g 0)), (1, .int p1)] := hl
  have inX7 : ∀ w ∈ wsX70, w ∈ wsX7_type := fun _ h => List.mem_cons_of_mem _ (List.mem_append_right _ h)
  obtain ⟨H, hH⟩ : ∃ z, z = s.heap := ⟨_, rfl⟩
  have hP : va_P (dC, dI) vwCl (wMod cI g x) H := by rw [hH]; exact hP
  have hS : va_S A s.heap H [] := by rw [hH]; exact hS
  refine wk_at hH ?_
  generalize ([] : List Loc) = locs at hS ⊢
  have hB30 : ∀ (w1 : Int32) (y0 : MS) (H : Heap) (locs : List Loc) (ls : Array Slot), M_X7_type_30 x p1 w1 y0 = some out → va_P (dC, dI) vwCl (wMod cI g y0) H → va_D A (wMod cI g y0) → va_S A s.heap H locs → lv_has ls 2 [(0, .ref (g 0)), (1, .int p1)] → W p l e ({ frames := 1, cells := 0, slots := 0, locals := 22 } : Room) s m ([.ref (g 0), .int p1] : List Value).toArray below meth c H locs 0 0 Q (F0 m 30 ls [.int w1, .ref (g 0)]) := by
    intro w1 y0 H locs ls hM hP hD hS hl
    unfold M_X7_type_30 at hM
    obtain ⟨r1, hr1, hM⟩ := tbE hM
    refine wk_callM (ws' := (wMod cI g r1.2)) (va_runV (As := [.int w1]) (rest := []) ⟨hx, hb, hml, hown, hts⟩ (c_X7_refused l dC dI cI cD cJ kk g y0 w1 _ hr1.symm H) (cwV 1 hts gX7_type_X7_refused rfl rfl rfl (by decide +kernel) ⟨Nat.le_of_ble_eq_true rfl, Nat.le_of_ble_eq_true rfl⟩) (wk_preV (ci := 5) (q0 := 0) hG hP hD [0, 1, 2, 3, 4, 5, 6, 7] rfl rfl rfl rfl) rfl rfl hl.1 rfl (lv_room (Nat.le_of_ble_eq_true rfl)) dX7_type_30 ⟨Nat.le_of_ble_eq_true rfl, Nat.le_of_ble_eq_true rfl⟩) hP hD hS hA [0, 1, 2, 3, 4, 5, 6, 7] [] [0, 1, 2, 3, 4, 5, 6, 7] rfl rfl rfl (by decide) rfl rfl (fun H locs hP hD hS => ?_)
    refine lv_if_eq (tgt := 38) hx hb dX7_type_33 (by decide) (fun c2 => ?_) (fun c2 => ?_)
    · replace hM := (if_pos c2).symm.trans hM
      refine lv_aload_n hx hb dX7_type_38 rfl (lv_at hl 0 rfl) ?_
      refine va_get (D := (dC, dI)) (ci := 5) (v := .ref (g 6)) (C := RX7) (T := TX7) (N := 14) hx hb hts inX7 hown hG.1 hP 0 rfl rfl 5 (by decide) (hts (.fieldLink RX7 25 "WokenDriveModel" "text" "[I") (List.mem_of_getElem? (i := 2) rfl)) (fun _ h9 => h9) rfl dX7_type_39 ?_
      refine lv_aload_n hx hb dX7_type_42 rfl (lv_at hl 0 rfl) ?_
      refine va_get (D := (dC, dI)) (ci := 5) (v := .int (ms_length r1.2)) (C := RX7) (T := TX7) (N := 14) hx hb hts inX7 hown hG.1 hP 0 rfl rfl 7 (by decide) (hts (.fieldLink RX7 149 "WokenDriveModel" "length" "I") (List.mem_of_getElem? (i := 1) rfl)) (fun _ h9 => h9) rfl dX7_type_43 ?_
      refine lv_iload_n hx hb dX7_type_46 rfl (lv_at hl 1 rfl) ?_
      obtain ⟨f3, hf3, hM⟩ := ob hM
      refine wk_iast hx hb hG hP hD hS 6 0 rfl rfl hf3 dX7_type_47 (fun H locs hP hD hS => ?_)
      obtain ⟨y_4, hy_4, hM⟩ := tbE hM
      have hP : va_P (dC, dI) vwCl (wMod cI g y_4) H := by rw [hy_4]; exact hP
      have hD : va_D A (wMod cI g y_4) := by rw [hy_4]; exact hD
      refine lv_aload_n hx hb dX7_type_48 rfl (lv_at hl 0 rfl) ?_
      refine lv_dup hx hb dX7_type_49 rfl ?_
      refine va_get (D := (dC, dI)) (ci := 5) (v := .int (ms_length y_4)) (C := RX7) (T := TX7) (N := 14) hx hb hts inX7 hown hG.1 hP 0 rfl rfl 7 (by decide) (hts (.fieldLink RX7 149 "WokenDriveModel" "length" "I") (List.mem_of_getElem? (i := 1) rfl)) (fun _ h9 => h9) rfl dX7_type_50 ?_
      refine lv_iconst (v := (1 : Int32)) hx hb dX7_type_53 (by decide) ?_
      refine lv_iadd hx hb dX7_type_54 ?_
      obtain ⟨y_5, hy_5, hM⟩ := tbE hM
      refine va_put (D := (dC, dI)) (ci := 5) (v := .int ((ms_length y_4) + (1 : Int32))) (ty := .int) (C := RX7) (T := TX7) (N := 14) hx hb hts inX7 tyX7 tyX7_ok nmX7 hown hG.1 hP hD hS 0 rfl rfl 7 (by decide) (hts (.fieldLink RX7 149 "WokenDriveModel" "length" "I") (List.mem_of_getElem? (i := 1) rfl)) (fun _ h9 => h9) rfl (by decide +kernel) rfl rfl (Nat.le_of_ble_eq_true rfl) dX7_type_55 (fun H locs hP hD hS => ?_)
      have hP : va_P (dC, dI) vwCl (wMod cI g y_5) H := by rw [hy_5]; exact hP
      have hD : va_D A (wMod cI g y_5) := by rw [hy_5]; exact hD
      refine lv_aload_n hx hb dX7_type_58 rfl (lv_at hl 0 rfl) ?_
      refine va_get (D := (dC, dI)) (ci := 5) (v := .int (ms_length y_5)) (C := RX7) (T := TX7) (N := 14) hx hb hts inX7 hown hG.1 hP 0 rfl rfl 7 (by decide) (hts (.fieldLink RX7 149 "WokenDriveModel" "length" "I") (List.mem_of_getElem? (i := 1) rfl)) (fun _ h9 => h9) rfl dX7_type_59 ?_
      replace hM := Option.some.inj hM
      subst hM
      exact wk_retMi hx hb hr hlocks hQ rfl rfl hP hD hS dX7_type_62
    · replace hM := (if_neg c2).symm.trans hM
      refine lv_iconst (v := (0 : Int32)) hx hb dX7_type_36 (by decide) ?_
      replace hM := Option.some.inj hM
      subst hM
      exact wk_retMi hx hb hr hlocks hQ rfl rfl hP hD hS dX7_type_37
  unfold M_X7_type at hM
  refine lv_aload_n hx hb dX7_type_0 rfl (lv_at hl 0 rfl) ?_
  refine lv_iload_n hx hb dX7_type_1 rfl (lv_at hl 1 rfl) ?_
  refine lv_iconst (v := (0 : Int32)) hx hb dX7_type_2 (by decide) ?_
  refine lv_bipush (v := (127 : Int32)) hx hb dX7_type_3 (by decide) ?_
  refine wk_callP (va_runS (As := [.int p1, .int (0 : Int32), .int (127 : Int32)]) (rest := [.ref (g 0)]) ⟨hx, hb, hml, hown, hts⟩ (c_X7_within l dC dI cI cD cJ kk  p1 (0 : Int32) (127 : Int32) _ rfl H) (va_cwS 3 hts gX7_type_X7_within rfl rfl rfl (by decide +kernel) ⟨Nat.le_of_ble_eq_true rfl, Nat.le_of_ble_eq_true rfl⟩) (wk_preS hG hP hD [] rfl rfl) rfl rfl hl.1 rfl (lv_room (Nat.le_of_ble_eq_true rfl)) dX7_type_5 ⟨Nat.le_of_ble_eq_true rfl, Nat.le_of_ble_eq_true rfl⟩) hS (fun locs hS => ?_)
  refine lv_if_ne (tgt := 15) hx hb dX7_type_8 (by decide) (fun c1 => ?_) (fun c1 => ?_)
  · replace hM := (if_neg c1).symm.trans hM
    refine lv_aload_n hx hb dX7_type_15 rfl (lv_at hl 0 rfl) ?_
    refine va_get (D := (dC, dI)) (ci := 5) (v := .int (ms_length x)) (C := RX7) (T := TX7) (N := 14) hx hb hts inX7 hown hG.1 hP 0 rfl rfl 7 (by decide) (hts (.fieldLink RX7 149 "WokenDriveModel" "length" "I") (List.mem_of_getElem? (i := 1) rfl)) (fun _ h9 => h9) rfl dX7_type_16 ?_
    refine lv_sipush (v := (150 : Int32)) hx hb dX7_type_19 (by decide) ?_
    refine lv_icmp_ne (tgt := 29) hx hb dX7_type_22 (by decide) (fun c2 => ?_) (fun c2 => ?_)
    · replace hM := (if_neg c2).symm.trans hM
      refine lv_iconst (v := (0 : Int32)) hx hb dX7_type_29 (by decide) ?_
      exact hB30 (0 : Int32) x H _ _ hM hP hD hS (lv_sub hl [0, 1] rfl)
    · replace hM := (if_pos c2).symm.trans hM
      refine lv_iconst (v := (2 : Int32)) hx hb dX7_type_25 (by decide) ?_
      refine lv_goto (tgt := 30) hx hb dX7_type_26 (by decide) ?_
      exact hB30 (2 : Int32) x H _ _ hM hP hD hS (lv_sub hl [0, 1] rfl)
  · replace hM := (if_pos c1).symm.trans hM
    refine lv_iconst (v := (1 : Int32)) hx hb dX7_type_11 (by decide) ?_
    refine lv_goto (tgt := 30) hx hb dX7_type_12 (by decide) ?_
    exact hB30 (1 : Int32) x H _ _ hM hP hD hS (lv_sub hl [0, 1] rfl)
set_option maxHeartbeats 4000000 in
set_option maxRecDepth 100000 in
theorem c_X7_clearCommands (l : Launch) (dC : Nat → ClassId) (dI : Nat → Nat → Nat) (cI cD cJ : ClassId) (kk : wAd) (g : Nat → Nat) (x : MS) (out : Int32 × MS) (hM : M_X7_clearCommands x = out) : CM l yX7_clearCommands wsX7_clearCommands ({ frames := 0, cells := 0, slots := 0, locals := 0 } : Room) dC dI (wTys cI cD cJ) [.ref (g 0)] (wMod cI g x) (some (.int out.1)) (wMod cI g out.2) 0 0 := by
  refine wk_enterM (cc := cX7_clearCommands) (maxL := 2) (ret := (some .int)) (by decide) rfl (Nat.le_of_ble_eq_true rfl) ?_
  intro p e s m below meth c A Q ls hB hA hP hD hQ hl
  obtain ⟨hx, hb, hml, hr, hts, hown, hname, hlocks, hG⟩ := hB
  have hown : s.vm.findClass RX7 = some m.cls := hown
  have hS : va_S A s.heap s.heap [] := va_S.rf
  have hl : lv_has ls 2 [(0, .ref (g 0))] := hl
  have inX7 : ∀ w ∈ wsX70, w ∈ wsX7_clearCommands := fun _ h => List.mem_cons_of_mem _ (List.mem_append_right _ h)
  obtain ⟨H, hH⟩ : ∃ z, z = s.heap := ⟨_, rfl⟩
  have hP : va_P (dC, dI) vwCl (wMod cI g x) H := by rw [hH]; exact hP
  have hS : va_S A s.heap H [] := by rw [hH]; exact hS
  refine wk_at hH ?_
  generalize ([] : List Loc) = locs at hS ⊢
  unfold M_X7_clearCommands at hM
  refine lv_aload_n hx hb dX7_clearCommands_0 rfl (lv_at hl 0 rfl) ?_
  refine lv_iconst (v := (0 : Int32)) hx hb dX7_clearCommands_1 (by decide) ?_
  obtain ⟨y_1, hy_1, hM⟩ := tbE hM
  refine va_put (D := (dC, dI)) (ci := 5) (v := .int (0 : Int32)) (ty := .int) (C := RX7) (T := TX7) (N := 14) hx hb hts inX7 tyX7 tyX7_ok nmX7 hown hG.1 hP hD hS 0 rfl rfl 9 (by decide) (hts (.fieldLink RX7 31 "WokenDriveModel" "refusal" "I") (List.mem_of_getElem? (i := 1) rfl)) (fun _ h9 => h9) rfl (by decide +kernel) rfl rfl (Nat.le_of_ble_eq_true rfl) dX7_clearCommands_2 (fun H locs hP hD hS => ?_)
  have hP : va_P (dC, dI) vwCl (wMod cI g y_1) H := by rw [hy_1]; exact hP
  have hD : va_D A (wMod cI g y_1) := by rw [hy_1]; exact hD
  refine lv_aload_n hx hb dX7_clearCommands_5 rfl (lv_at hl 0 rfl) ?_
  refine va_get (D := (dC, dI)) (ci := 5) (v := .int (ms_length y_1)) (C := RX7) (T := TX7) (N := 14) hx hb hts inX7 hown hG.1 hP 0 rfl rfl 7 (by decide) (hts (.fieldLink RX7 149 "WokenDriveModel" "length" "I") (List.mem_of_getElem? (i := 2) rfl)) (fun _ h9 => h9) rfl dX7_clearCommands_6 ?_
  refine lv_istore_n (lv' := [(1, .int (ms_length y_1)), (0, .ref (g 0))]) hx hb dX7_clearCommands_9 rfl hl (by decide) rfl (fun ls hl => ?_)
  refine lv_aload_n hx hb dX7_clearCommands_10 rfl (lv_at hl 1 rfl) ?_
  refine lv_iconst (v := (0 : Int32)) hx hb dX7_clearCommands_11 (by decide) ?_
  obtain ⟨y_2, hy_2, hM⟩ := tbE hM
  refine va_put (D := (dC, dI)) (ci := 5) (v := .int (0 : Int32)) (ty := .int) (C := RX7) (T := TX7) (N := 14) hx hb hts inX7 tyX7 tyX7_ok nmX7 hown hG.1 hP hD hS 0 rfl rfl 7 (by decide) (hts (.fieldLink RX7 149 "WokenDriveModel" "length" "I") (List.mem_of_getElem? (i := 2) rfl)) (fun _ h9 => h9) rfl (by decide +kernel) rfl rfl (Nat.le_of_ble_eq_true rfl) dX7_clearCommands_12 (fun H locs hP hD hS => ?_)
  have hP : va_P (dC, dI) vwCl (wMod cI g y_2) H := by rw [hy_2]; exact hP
  have hD : va_D A (wMod cI g y_2) := by rw [hy_2]; exact hD
  refine lv_iload_n hx hb dX7_clearCommands_15 rfl (lv_at hl 0 rfl) ?_
  subst hM
  exact wk_retMi hx hb hr hlocks hQ rfl rfl hP hD hS dX7_clearCommands_16
