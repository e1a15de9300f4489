/-! PART 31: the reference, first part -/
set_option maxHeartbeats 4000000 in
set_option maxRecDepth 100000 in
theorem c_X7_thrown (l : Launch) (dC : Nat → ClassId) (dI : Nat → Nat → Nat) (cI cD cJ : ClassId) (kk : wAd) (g : Nat → Nat) (x : MS) (out : Int32) (hM : M_X7_thrown x = out) : CP l yX7_thrown wsX7_thrown ({ frames := 0, cells := 0, slots := 0, locals := 0 } : Room) dC dI (wTys cI cD cJ) [.ref (g 0)] (wMod cI g x) (some (.int out)) := by
  refine wk_enterP (cc := cX7_thrown) (maxL := 1) (ret := (some .int)) (by decide) rfl (Nat.le_of_ble_eq_true rfl) ?_
  intro p e s m below meth c A Q ls hB hP hD hA hQ hl
  obtain ⟨hx, hb, hml, hr, hts, hown, hname, hlocks, hG⟩ := hB
  have hown : s.vm.findClass RX7 = some m.cls := hown
  have hS : va_S A s.heap s.heap [] := va_S.rf
  have hl : lv_has ls 1 [(0, .ref (g 0))] := hl
  have inX7 : ∀ w ∈ wsX70, w ∈ wsX7_thrown := fun _ h => List.mem_cons_of_mem _ (List.mem_append_right _ h)
  generalize ([] : List Loc) = locs at hS ⊢
  unfold M_X7_thrown at hM
  refine lv_aload_n hx hb dX7_thrown_0 rfl (lv_at hl 0 rfl) ?_
  refine va_get (D := (dC, dI)) (ci := 5) (v := .int (ms_refusal x)) (C := RX7) (T := TX7) (N := 14) hx hb hts inX7 hown hG.1 hP 0 rfl rfl 9 (by decide) (hts (.fieldLink RX7 31 "WokenDriveModel" "refusal" "I") (List.mem_of_getElem? (i := 1) rfl)) (fun _ h9 => h9) rfl dX7_thrown_1 ?_
  subst hM
  exact wk_retPi hx hb hr hlocks hQ rfl rfl hS dX7_thrown_4
set_option maxHeartbeats 4000000 in
set_option maxRecDepth 100000 in
theorem c_X7_refused (l : Launch) (dC : Nat → ClassId) (dI : Nat → Nat → Nat) (cI cD cJ : ClassId) (kk : wAd) (g : Nat → Nat) (x : MS) (p1 : Int32) (out : Bool × MS) (hM : M_X7_refused x p1 = out) : CM l yX7_refused wsX7_refused ({ frames := 0, cells := 0, slots := 0, locals := 0 } : Room) dC dI (wTys cI cD cJ) [.ref (g 0), .int p1] (wMod cI g x) (some (.int (zI out.1))) (wMod cI g out.2) 0 0 := by
  refine wk_enterM (cc := cX7_refused) (maxL := 2) (ret := (some .boolean)) (by decide) rfl (Nat.le_of_ble_eq_true rfl) ?_
  intro p e s m below meth c A Q ls hB hA hP hD hQ hl
  obtain ⟨hx, hb, hml, hr, hts, hown, hname, hlocks, hG⟩ := hB
  have hown : s.vm.findClass RX7 = some m.cls := hown
  have hS : va_S A s.heap s.heap [] := va_S.rf
  have hl : lv_has ls 2 [(0, .ref (g 0)), (1, .int p1)] := hl
  have inX7 : ∀ w ∈ wsX70, w ∈ wsX7_refused := fun _ h => List.mem_cons_of_mem _ (List.mem_append_right _ h)
  obtain ⟨H, hH⟩ : ∃ z, z = s.heap := ⟨_, rfl⟩
  have hP : va_P (dC, dI) vwCl (wMod cI g x) H := by rw [hH]; exact hP
  have hS : va_S A s.heap H [] := by rw [hH]; exact hS
  refine wk_at hH ?_
  generalize ([] : List Loc) = locs at hS ⊢
  have hB14 : ∀ (w0 : Bool) (y0 : MS) (H : Heap) (locs : List Loc) (ls : Array Slot), M_X7_refused_14 x p1 w0 y0 = out → va_P (dC, dI) vwCl (wMod cI g y0) H → va_D A (wMod cI g y0) → va_S A s.heap H locs → lv_has ls 2 [] → W p l e ({ frames := 0, cells := 0, slots := 0, locals := 0 } : Room) s m ([.ref (g 0), .int p1] : List Value).toArray below meth c H locs 0 0 Q (F0 m 14 ls [.int (zI w0)]) := by
    intro w0 y0 H locs ls hM hP hD hS hl
    unfold M_X7_refused_14 at hM
    subst hM
    exact wk_retMi hx hb hr hlocks hQ (zI_nar _) rfl hP hD hS dX7_refused_14
  unfold M_X7_refused at hM
  refine lv_aload_n hx hb dX7_refused_0 rfl (lv_at hl 0 rfl) ?_
  refine lv_iload_n hx hb dX7_refused_1 rfl (lv_at hl 1 rfl) ?_
  obtain ⟨y_1, hy_1, hM⟩ := tbE hM
  refine va_put (D := (dC, dI)) (ci := 5) (v := .int p1) (ty := .int) (C := RX7) (T := TX7) (N := 14) hx hb hts inX7 tyX7 tyX7_ok nmX7 hown hG.1 hP hD hS 0 rfl rfl 9 (by decide) (hts (.fieldLink RX7 31 "WokenDriveModel" "refusal" "I") (List.mem_of_getElem? (i := 1) rfl)) (fun _ h9 => h9) rfl (by decide +kernel) rfl rfl (Nat.le_of_ble_eq_true rfl) dX7_refused_2 (fun H locs hP hD hS => ?_)
  have hP : va_P (dC, dI) vwCl (wMod cI g y_1) H := by rw [hy_1]; exact hP
  have hD : va_D A (wMod cI g y_1) := by rw [hy_1]; exact hD
  refine lv_iload_n hx hb dX7_refused_5 rfl (lv_at hl 1 rfl) ?_
  refine lv_if_le (tgt := 13) hx hb dX7_refused_6 (by decide) (fun c2 => ?_) (fun c2 => ?_)
  · replace hM := (if_pos c2).symm.trans hM
    refine lv_iconst (v := (0 : Int32)) hx hb dX7_refused_13 (by decide) ?_
    exact hB14 false y_1 H _ _ hM hP hD hS (lv_sub hl [] rfl)
  · replace hM := (if_neg c2).symm.trans hM
    refine lv_iconst (v := (1 : Int32)) hx hb dX7_refused_9 (by decide) ?_
    refine lv_goto (tgt := 14) hx hb dX7_refused_10 (by decide) ?_
    exact hB14 true y_1 H _ _ hM hP hD hS (lv_sub hl [] rfl)
set_option maxHeartbeats 4000000 in
set_option maxRecDepth 100000 in
theorem c_X7_within (l : Launch) (dC : Nat → ClassId) (dI : Nat → Nat → Nat) (cI cD cJ : ClassId) (kk : wAd)  (p0 : Int32) (p1 : Int32) (p2 : Int32) (out : Bool) (hM : M_X7_within p0 p1 p2 = out) : CP l yX7_within wsX7_within ({ frames := 0, cells := 0, slots := 0, locals := 0 } : Room) dC dI (wTys cI cD cJ) [.int p0, .int p1, .int p2] ([] : va_W) (some (.int (zI out))) := by
  refine wk_enterP (cc := cX7_within) (maxL := 3) (ret := (some .boolean)) (by decide) rfl (Nat.le_of_ble_eq_true rfl) ?_
  intro p e s m below meth c A Q ls hB hP hD hA hQ hl
  obtain ⟨hx, hb, hml, hr, hts, hown, hname, hlocks, hG⟩ := hB
  have hown : s.vm.findClass RX7 = some m.cls := hown
  have hS : va_S A s.heap s.heap [] := va_S.rf
  have hl : lv_has ls 3 [(0, .int p0), (1, .int p1), (2, .int p2)] := hl
  generalize ([] : List Loc) = locs at hS ⊢
  have hB15 : ∀ (w0 : Bool) (locs : List Loc) (ls : Array Slot), M_X7_within_15 p0 p1 p2 w0 = out → va_S A s.heap s.heap locs → lv_has ls 3 [] → W p l e ({ frames := 0, cells := 0, slots := 0, locals := 0 } : Room) s m ([.int p0, .int p1, .int p2] : List Value).toArray below meth c s.heap locs 0 0 Q (F0 m 15 ls [.int (zI w0)]) := by
    intro w0 locs ls hM hS hl
    unfold M_X7_within_15 at hM
    subst hM
    exact wk_retPi hx hb hr hlocks hQ (zI_nar _) rfl hS dX7_within_15
  have hB14 : ∀  (locs : List Loc) (ls : Array Slot), M_X7_within_14 p0 p1 p2 = out → va_S A s.heap s.heap locs → lv_has ls 3 [] → W p l e ({ frames := 0, cells := 0, slots := 0, locals := 0 } : Room) s m ([.int p0, .int p1, .int p2] : List Value).toArray below meth c s.heap locs 0 0 Q (F0 m 14 ls []) := by
    intro  locs ls hM hS hl
    unfold M_X7_within_14 at hM
    refine lv_iconst (v := (0 : Int32)) hx hb dX7_within_14 (by decide) ?_
    exact hB15 false  _ _ hM hS (lv_sub hl [] rfl)
  unfold M_X7_within at hM
  refine lv_iload_n hx hb dX7_within_0 rfl (lv_at hl 0 rfl) ?_
  refine lv_iload_n hx hb dX7_within_1 rfl (lv_at hl 1 rfl) ?_
  refine lv_icmp_lt (tgt := 14) hx hb dX7_within_2 (by decide) (fun c1 => ?_) (fun c1 => ?_)
  · replace hM := (if_pos c1).symm.trans hM
    exact hB14   _ _ hM hS (lv_sub hl [] rfl)
  · replace hM := (if_neg c1).symm.trans hM
    refine lv_iload_n hx hb dX7_within_5 rfl (lv_at hl 0 rfl) ?_
    refine lv_iload_n hx hb dX7_within_6 rfl (lv_at hl 2 rfl) ?_
    refine lv_icmp_gt (tgt := 14) hx hb dX7_within_7 (by decide) (fun c2 => ?_) (fun c2 => ?_)
    · replace hM := (if_pos c2).symm.trans hM
      exact hB14   _ _ hM hS (lv_sub hl [] rfl)
    · replace hM := (if_neg c2).symm.trans hM
      refine lv_iconst (v := (1 : Int32)) hx hb dX7_within_10 (by decide) ?_
      refine lv_goto (tgt := 15) hx hb dX7_within_11 (by decide) ?_
      exact hB15 true  _ _ hM hS (lv_sub hl [] rfl)
set_option maxHeartbeats 4000000 in
set_option maxRecDepth 100000 in
theorem c_X7_saves (l : Launch) (dC : Nat → ClassId) (dI : Nat → Nat → Nat) (cI cD cJ : ClassId) (kk : wAd) (g : Nat → Nat) (x : MS) (out : MS) (hM : M_X7_saves x = some out) : CM l yX7_saves wsX7_saves ({ frames := 0, cells := 0, slots := 0, locals := 0 } : Room) dC dI (wTys cI cD cJ) [.ref (g 0)] (wMod cI g x) none (wMod cI g out) 0 0 := by
  refine wk_enterM (cc := cX7_saves) (maxL := 2) (ret := none) (by decide) rfl (Nat.le_of_ble_eq_true rfl) ?_
  intro p e s m below meth c A Q ls hB hA hP hD hQ hl
  obtain ⟨hx, hb, hml, hr, hts, hown, hname, hlocks, hG⟩ := hB
  have hown : s.vm.findClass RX7 = some m.cls := hown
  have hS : va_S A s.heap s.heap [] := va_S.rf
  have hl : lv_has ls 2 [(0, .ref (g 0))] := hl
  have inX7 : ∀ w ∈ wsX70, w ∈ wsX7_saves := fun _ h => List.mem_cons_of_mem _ (List.mem_append_right _ h)
  obtain ⟨H, hH⟩ : ∃ z, z = s.heap := ⟨_, rfl⟩
  have hP : va_P (dC, dI) vwCl (wMod cI g x) H := by rw [hH]; exact hP
  have hS : va_S A s.heap H [] := by rw [hH]; exact hS
  refine wk_at hH ?_
  generalize ([] : List Loc) = locs at hS ⊢
  have hL59 : ∀ (n59 : Nat) (u1 : Int32) (y0 : MS) (H : Heap) (locs : List Loc) (ls : Array Slot), lpF (M_X7_saves_59s x) n59 (u1, y0) = some out → va_P (dC, dI) vwCl (wMod cI g y0) H → va_D A (wMod cI g y0) → va_S A s.heap H locs → lv_has ls 2 [(0, .ref (g 0)), (1, .int u1)] → W p l e ({ frames := 0, cells := 0, slots := 0, locals := 0 } : Room) s m ([.ref (g 0)] : List Value).toArray below meth c H locs 0 0 Q (F0 m 59 ls []) := by
    intro n59
    induction n59 with
    | zero => intro u1 y0 H locs ls hM; exact lpF_0 hM
    | succ n59 ih59 =>
      intro u1 y0 H locs ls hM hP hD hS hl
      replace hM : M_X7_saves_59s x (lpF (M_X7_saves_59s x) n59) (u1, y0) = some out := hM
      unfold M_X7_saves_59s at hM
      try dsimp only at hM
      refine lv_iload_n hx hb dX7_saves_59 rfl (lv_at hl 1 rfl) ?_
      refine lv_sipush (v := (596 : Int32)) hx hb dX7_saves_60 (by decide) ?_
      refine lv_icmp_ge (tgt := 93) hx hb dX7_saves_63 (by decide) (fun c1 => ?_) (fun c1 => ?_)
      · replace hM := (if_pos c1).symm.trans hM
        refine lv_aload_n hx hb dX7_saves_93 rfl (lv_at hl 0 rfl) ?_
        refine lv_dup hx hb dX7_saves_94 rfl ?_
        refine va_get (D := (dC, dI)) (ci := 5) (v := .int (ms_saved y0)) (C := RX7) (T := TX7) (N := 14) hx hb hts inX7 hown hG.1 hP 0 rfl rfl 8 (by decide) (hts (.fieldLink RX7 39 "WokenDriveModel" "saved" "I") (List.mem_of_getElem? (i := 2) rfl)) (fun _ h9 => h9) rfl dX7_saves_95 ?_
        refine lv_iconst (v := (1 : Int32)) hx hb dX7_saves_98 (by decide) ?_
        refine lv_iadd hx hb dX7_saves_99 ?_
        refine va_put (D := (dC, dI)) (ci := 5) (v := .int ((ms_saved y0) + (1 : Int32))) (ty := .int) (C := RX7) (T := TX7) (N := 14) hx hb hts inX7 tyX7 tyX7_ok nmX7 hown hG.1 hP hD hS 0 rfl rfl 8 (by decide) (hts (.fieldLink RX7 39 "WokenDriveModel" "saved" "I") (List.mem_of_getElem? (i := 2) rfl)) (fun _ h9 => h9) rfl (by decide +kernel) rfl rfl (Nat.le_of_ble_eq_true rfl) dX7_saves_100 (fun H locs hP hD hS => ?_)
        have hP : va_P (dC, dI) vwCl (wMod cI g (ms_saved_s y0 ((ms_saved y0) + (1 : Int32)))) H := hP
        have hD : va_D A (wMod cI g (ms_saved_s y0 ((ms_saved y0) + (1 : Int32)))) := hD
        replace hM := Option.some.inj hM
        subst hM
        exact wk_retMv hx hb hr hlocks hQ rfl hP hD hS dX7_saves_103
      · replace hM := (if_neg c1).symm.trans hM
        refine lv_aload_n hx hb dX7_saves_66 rfl (lv_at hl 0 rfl) ?_
        refine va_get (D := (dC, dI)) (ci := 5) (v := .ref (g 2)) (C := RX7) (T := TX7) (N := 14) hx hb hts inX7 hown hG.1 hP 0 rfl rfl 1 (by decide) (hts (.fieldLink RX7 13 "WokenDriveModel" "past" "[I") (List.mem_of_getElem? (i := 3) rfl)) (fun _ h9 => h9) rfl dX7_saves_67 ?_
        refine lv_sipush (v := (596 : Int32)) hx hb dX7_saves_70 (by decide) ?_
        refine lv_aload_n hx hb dX7_saves_73 rfl (lv_at hl 0 rfl) ?_
        refine va_get (D := (dC, dI)) (ci := 5) (v := .int (ms_saved y0)) (C := RX7) (T := TX7) (N := 14) hx hb hts inX7 hown hG.1 hP 0 rfl rfl 8 (by decide) (hts (.fieldLink RX7 39 "WokenDriveModel" "saved" "I") (List.mem_of_getElem? (i := 2) rfl)) (fun _ h9 => h9) rfl dX7_saves_74 ?_
        refine lv_imul hx hb dX7_saves_77 ?_
        refine lv_iload_n hx hb dX7_saves_78 rfl (lv_at hl 1 rfl) ?_
        refine lv_iadd hx hb dX7_saves_79 ?_
        refine lv_aload_n hx hb dX7_saves_80 rfl (lv_at hl 0 rfl) ?_
        refine va_get (D := (dC, dI)) (ci := 5) (v := .ref (g 1)) (C := RX7) (T := TX7) (N := 14) hx hb hts inX7 hown hG.1 hP 0 rfl rfl 0 (by decide) (hts (.fieldLink RX7 7 "WokenDriveModel" "now" "[I") (List.mem_of_getElem? (i := 4) rfl)) (fun _ h9 => h9) rfl dX7_saves_81 ?_
        refine lv_iload_n hx hb dX7_saves_84 rfl (lv_at hl 1 rfl) ?_
        obtain ⟨v2, hv2, hM⟩ := ob hM
        refine wk_iald hx hb hG hP 1 0 rfl rfl hv2 dX7_saves_85 ?_
        obtain ⟨f3, hf3, hM⟩ := ob hM
        refine wk_iast hx hb hG hP hD hS 2 0 rfl rfl hf3 dX7_saves_86 (fun H locs hP hD hS => ?_)
        obtain ⟨y_4, hy_4, hM⟩ := tbE hM
        have hP : va_P (dC, dI) vwCl (wMod cI g y_4) H := by rw [hy_4]; exact hP
        have hD : va_D A (wMod cI g y_4) := by rw [hy_4]; exact hD
        refine lv_iinc (v := (u1 + 1)) (lv' := [(1, .int (u1 + 1)), (0, .ref (g 0))]) hx hb dX7_saves_87 hl (k := 1) rfl rfl (by decide) rfl (fun ls hl => ?_)
        refine lv_goto (tgt := 59) hx hb dX7_saves_90 (by decide) ?_
        exact ih59 (u1 + 1) y_4 H _ _ hM hP hD hS (lv_sub hl [1, 0] rfl)
  have hB57 : ∀ (y0 : MS) (H : Heap) (locs : List Loc) (ls : Array Slot), M_X7_saves_57 x y0 = some out → va_P (dC, dI) vwCl (wMod cI g y0) H → va_D A (wMod cI g y0) → va_S A s.heap H locs → lv_has ls 2 [(0, .ref (g 0))] → W p l e ({ frames := 0, cells := 0, slots := 0, locals := 0 } : Room) s m ([.ref (g 0)] : List Value).toArray below meth c H locs 0 0 Q (F0 m 57 ls []) := by
    intro y0 H locs ls hM hP hD hS hl
    unfold M_X7_saves_57 at hM
    refine lv_iconst (v := (0 : Int32)) hx hb dX7_saves_57 (by decide) ?_
    refine lv_istore_n (lv' := [(1, .int (0 : Int32)), (0, .ref (g 0))]) hx hb dX7_saves_58 rfl hl (by decide) rfl (fun ls hl => ?_)
    exact hL59 4000 (0 : Int32) y0 H _ _ hM hP hD hS (lv_sub hl [1, 0] rfl)
  have hL18 : ∀ (n18 : Nat) (u1 : Int32) (y0 : MS) (H : Heap) (locs : List Loc) (ls : Array Slot), lpF (M_X7_saves_18s x) n18 (u1, y0) = some out → va_P (dC, dI) vwCl (wMod cI g y0) H → va_D A (wMod cI g y0) → va_S A s.heap H locs → lv_has ls 2 [(0, .ref (g 0)), (1, .int u1)] → W p l e ({ frames := 0, cells := 0, slots := 0, locals := 0 } : Room) s m ([.ref (g 0)] : List Value).toArray below meth c H locs 0 0 Q (F0 m 18 ls []) := by
    intro n18
    induction n18 with
    | zero => intro u1 y0 H locs ls hM; exact lpF_0 hM
    | succ n18 ih18 =>
      intro u1 y0 H locs ls hM hP hD hS hl
      replace hM : M_X7_saves_18s x (lpF (M_X7_saves_18s x) n18) (u1, y0) = some out := hM
      unfold M_X7_saves_18s at hM
      try dsimp only at hM
      refine lv_iload_n hx hb dX7_saves_18 rfl (lv_at hl 1 rfl) ?_
      refine lv_sipush (v := (1788 : Int32)) hx hb dX7_saves_19 (by decide) ?_
      refine lv_icmp_ge (tgt := 47) hx hb dX7_saves_22 (by decide) (fun c1 => ?_) (fun c1 => ?_)
      · replace hM := (if_pos c1).symm.trans hM
        refine lv_aload_n hx hb dX7_saves_47 rfl (lv_at hl 0 rfl) ?_
        refine lv_dup hx hb dX7_saves_48 rfl ?_
        refine va_get (D := (dC, dI)) (ci := 5) (v := .int (ms_saved y0)) (C := RX7) (T := TX7) (N := 14) hx hb hts inX7 hown hG.1 hP 0 rfl rfl 8 (by decide) (hts (.fieldLink RX7 39 "WokenDriveModel" "saved" "I") (List.mem_of_getElem? (i := 2) rfl)) (fun _ h9 => h9) rfl dX7_saves_49 ?_
        refine lv_iconst (v := (1 : Int32)) hx hb dX7_saves_52 (by decide) ?_
        refine lv_isub hx hb dX7_saves_53 ?_
        refine va_put (D := (dC, dI)) (ci := 5) (v := .int ((ms_saved y0) - (1 : Int32))) (ty := .int) (C := RX7) (T := TX7) (N := 14) hx hb hts inX7 tyX7 tyX7_ok nmX7 hown hG.1 hP hD hS 0 rfl rfl 8 (by decide) (hts (.fieldLink RX7 39 "WokenDriveModel" "saved" "I") (List.mem_of_getElem? (i := 2) rfl)) (fun _ h9 => h9) rfl (by decide +kernel) rfl rfl (Nat.le_of_ble_eq_true rfl) dX7_saves_54 (fun H locs hP hD hS => ?_)
        have hP : va_P (dC, dI) vwCl (wMod cI g (ms_saved_s y0 ((ms_saved y0) - (1 : Int32)))) H := hP
        have hD : va_D A (wMod cI g (ms_saved_s y0 ((ms_saved y0) - (1 : Int32)))) := hD
        exact hB57 (ms_saved_s y0 ((ms_saved y0) - (1 : Int32))) H _ _ hM hP hD hS (lv_sub hl [0] rfl)
      · replace hM := (if_neg c1).symm.trans hM
        refine lv_aload_n hx hb dX7_saves_25 rfl (lv_at hl 0 rfl) ?_
        refine va_get (D := (dC, dI)) (ci := 5) (v := .ref (g 2)) (C := RX7) (T := TX7) (N := 14) hx hb hts inX7 hown hG.1 hP 0 rfl rfl 1 (by decide) (hts (.fieldLink RX7 13 "WokenDriveModel" "past" "[I") (List.mem_of_getElem? (i := 3) rfl)) (fun _ h9 => h9) rfl dX7_saves_26 ?_
        refine lv_iload_n hx hb dX7_saves_29 rfl (lv_at hl 1 rfl) ?_
        refine lv_aload_n hx hb dX7_saves_30 rfl (lv_at hl 0 rfl) ?_
        refine va_get (D := (dC, dI)) (ci := 5) (v := .ref (g 2)) (C := RX7) (T := TX7) (N := 14) hx hb hts inX7 hown hG.1 hP 0 rfl rfl 1 (by decide) (hts (.fieldLink RX7 13 "WokenDriveModel" "past" "[I") (List.mem_of_getElem? (i := 3) rfl)) (fun _ h9 => h9) rfl dX7_saves_31 ?_
        refine lv_iload_n hx hb dX7_saves_34 rfl (lv_at hl 1 rfl) ?_
        refine lv_sipush (v := (596 : Int32)) hx hb dX7_saves_35 (by decide) ?_
        refine lv_iadd hx hb dX7_saves_38 ?_
        obtain ⟨v2, hv2, hM⟩ := ob hM
        refine wk_iald hx hb hG hP 2 0 rfl rfl hv2 dX7_saves_39 ?_
        obtain ⟨f3, hf3, hM⟩ := ob hM
        refine wk_iast hx hb hG hP hD hS 2 0 rfl rfl hf3 dX7_saves_40 (fun H locs hP hD hS => ?_)
        obtain ⟨y_4, hy_4, hM⟩ := tbE hM
        have hP : va_P (dC, dI) vwCl (wMod cI g y_4) H := by rw [hy_4]; exact hP
        have hD : va_D A (wMod cI g y_4) := by rw [hy_4]; exact hD
        refine lv_iinc (v := (u1 + 1)) (lv' := [(1, .int (u1 + 1)), (0, .ref (g 0))]) hx hb dX7_saves_41 hl (k := 1) rfl rfl (by decide) rfl (fun ls hl => ?_)
        refine lv_goto (tgt := 18) hx hb dX7_saves_44 (by decide) ?_
        exact ih18 (u1 + 1) y_4 H _ _ hM hP hD hS (lv_sub hl [1, 0] rfl)
  unfold M_X7_saves at hM
  refine lv_aload_n hx hb dX7_saves_0 rfl (lv_at hl 0 rfl) ?_
  refine va_get (D := (dC, dI)) (ci := 5) (v := .int (zI (ms_isRun x))) (C := RX7) (T := TX7) (N := 14) hx hb hts inX7 hown hG.1 hP 0 rfl rfl 10 (by decide) (hts (.fieldLink RX7 35 "WokenDriveModel" "isRun" "Z") (List.mem_of_getElem? (i := 1) rfl)) (fun _ h9 => h9) rfl dX7_saves_1 ?_
  refine lv_if_eq (tgt := 8) hx hb dX7_saves_4 (by decide) (fun c1 => ?_) (fun c1 => ?_)
  · replace hM := (if_pos c1).symm.trans hM
    refine lv_aload_n hx hb dX7_saves_8 rfl (lv_at hl 0 rfl) ?_
    refine va_get (D := (dC, dI)) (ci := 5) (v := .int (ms_saved x)) (C := RX7) (T := TX7) (N := 14) hx hb hts inX7 hown hG.1 hP 0 rfl rfl 8 (by decide) (hts (.fieldLink RX7 39 "WokenDriveModel" "saved" "I") (List.mem_of_getElem? (i := 2) rfl)) (fun _ h9 => h9) rfl dX7_saves_9 ?_
    refine lv_iconst (v := (4 : Int32)) hx hb dX7_saves_12 (by decide) ?_
    refine lv_icmp_ne (tgt := 57) hx hb dX7_saves_13 (by decide) (fun c2 => ?_) (fun c2 => ?_)
    · replace hM := (if_neg c2).symm.trans hM
      exact hB57 x H _ _ hM hP hD hS (lv_sub hl [0] rfl)
    · replace hM := (if_pos c2).symm.trans hM
      refine lv_iconst (v := (0 : Int32)) hx hb dX7_saves_16 (by decide) ?_
      refine lv_istore_n (lv' := [(1, .int (0 : Int32)), (0, .ref (g 0))]) hx hb dX7_saves_17 rfl hl (by decide) rfl (fun ls hl => ?_)
      exact hL18 4000 (0 : Int32) x H _ _ hM hP hD hS (lv_sub hl [1, 0] rfl)
  · replace hM := (if_neg c1).symm.trans hM
    replace hM := Option.some.inj hM
    subst hM
    exact wk_retMv hx hb hr hlocks hQ rfl hP hD hS dX7_saves_7
set_option maxHeartbeats 4000000 in
set_option maxRecDepth 100000 in
theorem c_X7_undo (l : Launch) (dC : Nat → ClassId) (dI : Nat → Nat → Nat) (cI cD cJ : ClassId) (kk : wAd) (g : Nat → Nat) (x : MS) (out : Int32 × MS) (hM : M_X7_undo x = some out) : CM l yX7_undo wsX7_undo ({ frames := 1, cells := 0, slots := 0, locals := 21 } : Room) dC dI (wTys cI cD cJ) [.ref (g 0)] (wMod cI g x) (some (.int out.1)) (wMod cI g out.2) 0 0 := by
  refine wk_enterM (cc := cX7_undo) (maxL := 2) (ret := (some .int)) (by decide) rfl (Nat.le_of_ble_eq_true rfl) ?_
  intro p e s m below meth c A Q ls hB hA hP hD hQ hl
  obtain ⟨hx, hb, hml, hr, hts, hown, hname, hlocks, hG⟩ := hB
  have hown : s.vm.findClass RX7 = some m.cls := hown
  have hS : va_S A s.heap s.heap [] := va_S.rf
  have hl : lv_has ls 2 [(0, .ref (g 0))] := hl
  have inX7 : ∀ w ∈ wsX70, w ∈ wsX7_undo := fun _ h => List.mem_cons_of_mem _ (List.mem_append_right _ h)
  obtain ⟨H, hH⟩ : ∃ z, z = s.heap := ⟨_, rfl⟩
  have hP : va_P (dC, dI) vwCl (wMod cI g x) H := by rw [hH]; exact hP
  have hS : va_S A s.heap H [] := by rw [hH]; exact hS
  refine wk_at hH ?_
  generalize ([] : List Loc) = locs at hS ⊢
  have hL33 : ∀ (n33 : Nat) (u1 : Int32) (y0 : MS) (H : Heap) (locs : List Loc) (ls : Array Slot), lpF (M_X7_undo_33s x) n33 (u1, y0) = some out → va_P (dC, dI) vwCl (wMod cI g y0) H → va_D A (wMod cI g y0) → va_S A s.heap H locs → lv_has ls 2 [(0, .ref (g 0)), (1, .int u1)] → W p l e ({ frames := 1, cells := 0, slots := 0, locals := 21 } : Room) s m ([.ref (g 0)] : List Value).toArray below meth c H locs 0 0 Q (F0 m 33 ls []) := by
    intro n33
    induction n33 with
    | zero => intro u1 y0 H locs ls hM; exact lpF_0 hM
    | succ n33 ih33 =>
      intro u1 y0 H locs ls hM hP hD hS hl
      replace hM : M_X7_undo_33s x (lpF (M_X7_undo_33s x) n33) (u1, y0) = some out := hM
      unfold M_X7_undo_33s at hM
      try dsimp only at hM
      refine lv_iload_n hx hb dX7_undo_33 rfl (lv_at hl 1 rfl) ?_
      refine lv_sipush (v := (596 : Int32)) hx hb dX7_undo_34 (by decide) ?_
      refine lv_icmp_ge (tgt := 67) hx hb dX7_undo_37 (by decide) (fun c1 => ?_) (fun c1 => ?_)
      · replace hM := (if_pos c1).symm.trans hM
        refine lv_aload_n hx hb dX7_undo_67 rfl (lv_at hl 0 rfl) ?_
        refine va_get (D := (dC, dI)) (ci := 5) (v := .int (ms_saved y0)) (C := RX7) (T := TX7) (N := 14) hx hb hts inX7 hown hG.1 hP 0 rfl rfl 8 (by decide) (hts (.fieldLink RX7 39 "WokenDriveModel" "saved" "I") (List.mem_of_getElem? (i := 1) rfl)) (fun _ h9 => h9) rfl dX7_undo_68 ?_
        replace hM := Option.some.inj hM
        subst hM
        exact wk_retMi hx hb hr hlocks hQ rfl rfl hP hD hS dX7_undo_71
      · replace hM := (if_neg c1).symm.trans hM
        refine lv_aload_n hx hb dX7_undo_40 rfl (lv_at hl 0 rfl) ?_
        refine va_get (D := (dC, dI)) (ci := 5) (v := .ref (g 1)) (C := RX7) (T := TX7) (N := 14) hx hb hts inX7 hown hG.1 hP 0 rfl rfl 0 (by decide) (hts (.fieldLink RX7 7 "WokenDriveModel" "now" "[I") (List.mem_of_getElem? (i := 2) rfl)) (fun _ h9 => h9) rfl dX7_undo_41 ?_
        refine lv_iload_n hx hb dX7_undo_44 rfl (lv_at hl 1 rfl) ?_
        refine lv_aload_n hx hb dX7_undo_45 rfl (lv_at hl 0 rfl) ?_
        refine va_get (D := (dC, dI)) (ci := 5) (v := .ref (g 2)) (C := RX7) (T := TX7) (N := 14) hx hb hts inX7 hown hG.1 hP 0 rfl rfl 1 (by decide) (hts (.fieldLink RX7 13 "WokenDriveModel" "past" "[I") (List.mem_of_getElem? (i := 3) rfl)) (fun _ h9 => h9) rfl dX7_undo_46 ?_
        refine lv_sipush (v := (596 : Int32)) hx hb dX7_undo_49 (by decide) ?_
        refine lv_aload_n hx hb dX7_undo_52 rfl (lv_at hl 0 rfl) ?_
        refine va_get (D := (dC, dI)) (ci := 5) (v := .int (ms_saved y0)) (C := RX7) (T := TX7) (N := 14) hx hb hts inX7 hown hG.1 hP 0 rfl rfl 8 (by decide) (hts (.fieldLink RX7 39 "WokenDriveModel" "saved" "I") (List.mem_of_getElem? (i := 1) rfl)) (fun _ h9 => h9) rfl dX7_undo_53 ?_
        refine lv_imul hx hb dX7_undo_56 ?_
        refine lv_iload_n hx hb dX7_undo_57 rfl (lv_at hl 1 rfl) ?_
        refine lv_iadd hx hb dX7_undo_58 ?_
        obtain ⟨v2, hv2, hM⟩ := ob hM
        refine wk_iald hx hb hG hP 2 0 rfl rfl hv2 dX7_undo_59 ?_
        obtain ⟨f3, hf3, hM⟩ := ob hM
        refine wk_iast hx hb hG hP hD hS 1 0 rfl rfl hf3 dX7_undo_60 (fun H locs hP hD hS => ?_)
        obtain ⟨y_4, hy_4, hM⟩ := tbE hM
        have hP : va_P (dC, dI) vwCl (wMod cI g y_4) H := by rw [hy_4]; exact hP
        have hD : va_D A (wMod cI g y_4) := by rw [hy_4]; exact hD
        refine lv_iinc (v := (u1 + 1)) (lv' := [(1, .int (u1 + 1)), (0, .ref (g 0))]) hx hb dX7_undo_61 hl (k := 1) rfl rfl (by decide) rfl (fun ls hl => ?_)
        refine lv_goto (tgt := 33) hx hb dX7_undo_64 (by decide) ?_
        exact ih33 (u1 + 1) y_4 H _ _ hM hP hD hS (lv_sub hl [1, 0] rfl)
  have hB13 : ∀ (w1 : Bool) (y0 : MS) (H : Heap) (locs : List Loc) (ls : Array Slot), M_X7_undo_13 x w1 y0 = some out → va_P (dC, dI) vwCl (wMod cI g y0) H → va_D A (wMod cI g y0) → va_S A s.heap H locs → lv_has ls 2 [(0, .ref (g 0))] → W p l e ({ frames := 1, cells := 0, slots := 0, locals := 21 } : Room) s m ([.ref (g 0)] : List Value).toArray below meth c H locs 0 0 Q (F0 m 13 ls [.int (zI w1), .ref (g 0)]) := by
    intro w1 y0 H locs ls hM hP hD hS hl
    unfold M_X7_undo_13 at hM
    obtain ⟨r1, hr1, hM⟩ := tbE hM
    refine wk_callM (ws' := (wMod cI g r1.2)) (va_runV (As := [.int (zI w1)]) (rest := []) ⟨hx, hb, hml, hown, hts⟩ (c_X7_refused l dC dI cI cD cJ kk g y0 (zI w1) _ hr1.symm H) (cwV 1 hts gX7_undo_X7_refused rfl rfl rfl (by decide +kernel) ⟨Nat.le_of_ble_eq_true rfl, Nat.le_of_ble_eq_true rfl⟩) (wk_preV (ci := 5) (q0 := 0) hG hP hD [0, 1, 2, 3, 4, 5, 6, 7] rfl rfl rfl rfl) rfl rfl hl.1 rfl (lv_room (Nat.le_of_ble_eq_true rfl)) dX7_undo_13 ⟨Nat.le_of_ble_eq_true rfl, Nat.le_of_ble_eq_true rfl⟩) hP hD hS hA [0, 1, 2, 3, 4, 5, 6, 7] [] [0, 1, 2, 3, 4, 5, 6, 7] rfl rfl rfl (by decide) rfl rfl (fun H locs hP hD hS => ?_)
    refine lv_if_eq (tgt := 21) hx hb dX7_undo_16 (by decide) (fun c2 => ?_) (fun c2 => ?_)
    · replace hM := (if_pos c2).symm.trans hM
      refine lv_aload_n hx hb dX7_undo_21 rfl (lv_at hl 0 rfl) ?_
      refine lv_dup hx hb dX7_undo_22 rfl ?_
      refine va_get (D := (dC, dI)) (ci := 5) (v := .int (ms_saved r1.2)) (C := RX7) (T := TX7) (N := 14) hx hb hts inX7 hown hG.1 hP 0 rfl rfl 8 (by decide) (hts (.fieldLink RX7 39 "WokenDriveModel" "saved" "I") (List.mem_of_getElem? (i := 1) rfl)) (fun _ h9 => h9) rfl dX7_undo_23 ?_
      refine lv_iconst (v := (1 : Int32)) hx hb dX7_undo_26 (by decide) ?_
      refine lv_isub hx hb dX7_undo_27 ?_
      obtain ⟨y_3, hy_3, hM⟩ := tbE hM
      refine va_put (D := (dC, dI)) (ci := 5) (v := .int ((ms_saved r1.2) - (1 : Int32))) (ty := .int) (C := RX7) (T := TX7) (N := 14) hx hb hts inX7 tyX7 tyX7_ok nmX7 hown hG.1 hP hD hS 0 rfl rfl 8 (by decide) (hts (.fieldLink RX7 39 "WokenDriveModel" "saved" "I") (List.mem_of_getElem? (i := 1) rfl)) (fun _ h9 => h9) rfl (by decide +kernel) rfl rfl (Nat.le_of_ble_eq_true rfl) dX7_undo_28 (fun H locs hP hD hS => ?_)
      have hP : va_P (dC, dI) vwCl (wMod cI g y_3) H := by rw [hy_3]; exact hP
      have hD : va_D A (wMod cI g y_3) := by rw [hy_3]; exact hD
      refine lv_iconst (v := (0 : Int32)) hx hb dX7_undo_31 (by decide) ?_
      refine lv_istore_n (lv' := [(1, .int (0 : Int32)), (0, .ref (g 0))]) hx hb dX7_undo_32 rfl hl (by decide) rfl (fun ls hl => ?_)
      exact hL33 4000 (0 : Int32) y_3 H _ _ hM hP hD hS (lv_sub hl [1, 0] rfl)
    · replace hM := (if_neg c2).symm.trans hM
      refine lv_iconst (v := (0 : Int32)) hx hb dX7_undo_19 (by decide) ?_
      replace hM := Option.some.inj hM
      subst hM
      exact wk_retMi hx hb hr hlocks hQ rfl rfl hP hD hS dX7_undo_20
  unfold M_X7_undo at hM
  refine lv_aload_n hx hb dX7_undo_0 rfl (lv_at hl 0 rfl) ?_
  refine lv_aload_n hx hb dX7_undo_1 rfl (lv_at hl 0 rfl) ?_
  refine va_get (D := (dC, dI)) (ci := 5) (v := .int (ms_saved x)) (C := RX7) (T := TX7) (N := 14) hx hb hts inX7 hown hG.1 hP 0 rfl rfl 8 (by decide) (hts (.fieldLink RX7 39 "WokenDriveModel" "saved" "I") (List.mem_of_getElem? (i := 1) rfl)) (fun _ h9 => h9) rfl dX7_undo_2 ?_
  refine lv_if_ne (tgt := 12) hx hb dX7_undo_5 (by decide) (fun c1 => ?_) (fun c1 => ?_)
  · replace hM := (if_neg c1).symm.trans hM
    refine lv_iconst (v := (0 : Int32)) hx hb dX7_undo_12 (by decide) ?_
    exact hB13 false x H _ _ hM hP hD hS (lv_sub hl [0] rfl)
  · replace hM := (if_pos c1).symm.trans hM
    refine lv_iconst (v := (1 : Int32)) hx hb dX7_undo_8 (by decide) ?_
    refine lv_goto (tgt := 13) hx hb dX7_undo_9 (by decide) ?_
    exact hB13 true x H _ _ hM hP hD hS (lv_sub hl [0] rfl)
set_option maxHeartbeats 4000000 in
set_option maxRecDepth 100000 in
theorem c_X7_of (l : Launch) (dC : Nat → ClassId) (dI : Nat → Nat → Nat) (cI cD cJ : ClassId) (kk : wAd) (g : Nat → Nat) (x : MS) (p1 : Int32) (p2 : Int32) (out : Int32) (hM : M_X7_of x p1 p2 = some out) : CP l yX7_of wsX7_of ({ frames := 0, cells := 0, slots := 0, locals := 0 } : Room) dC dI (wTys cI cD cJ) [.ref (g 0), .int p1, .int p2] (wMod cI g x) (some (.int out)) := by
  refine wk_enterP (cc := cX7_of) (maxL := 3) (ret := (some .int)) (by decide) rfl (Nat.le_of_ble_eq_true rfl) ?_
  intro p e s m below meth c A Q ls hB hP hD hA hQ hl
  obtain ⟨hx, hb, hml, hr, hts, hown, hname, hlocks, hG⟩ := hB
  have hown : s.vm.findClass RX7 = some m.cls := hown
  have hS : va_S A s.heap s.heap [] := va_S.rf
  have hl : lv_has ls 3 [(0, .ref (g 0)), (1, .int p1), (2, .int p2)] := hl
  have inX7 : ∀ w ∈ wsX70, w ∈ wsX7_of := fun _ h => List.mem_cons_of_mem _ (List.mem_append_right _ h)
  generalize ([] : List Loc) = locs at hS ⊢
  unfold M_X7_of at hM
  refine lv_aload_n hx hb dX7_of_0 rfl (lv_at hl 0 rfl) ?_
  refine va_get (D := (dC, dI)) (ci := 5) (v := .ref (g 1)) (C := RX7) (T := TX7) (N := 14) hx hb hts inX7 hown hG.1 hP 0 rfl rfl 0 (by decide) (hts (.fieldLink RX7 7 "WokenDriveModel" "now" "[I") (List.mem_of_getElem? (i := 1) rfl)) (fun _ h9 => h9) rfl dX7_of_1 ?_
  refine lv_bipush (v := (116 : Int32)) hx hb dX7_of_4 (by decide) ?_
  refine lv_bipush (v := (12 : Int32)) hx hb dX7_of_6 (by decide) ?_
  refine lv_iload_n hx hb dX7_of_8 rfl (lv_at hl 1 rfl) ?_
  refine lv_imul hx hb dX7_of_9 ?_
  refine lv_iadd hx hb dX7_of_10 ?_
  refine lv_iload_n hx hb dX7_of_11 rfl (lv_at hl 2 rfl) ?_
  refine lv_iadd hx hb dX7_of_12 ?_
  obtain ⟨v1, hv1, hM⟩ := ob hM
  refine wk_iald hx hb hG hP 1 0 rfl rfl hv1 dX7_of_13 ?_
  replace hM := Option.some.inj hM
  subst hM
  exact wk_retPi hx hb hr hlocks hQ rfl rfl hS dX7_of_14
set_option maxHeartbeats 4000000 in
set_option maxRecDepth 100000 in
theorem c_X7_put (l : Launch) (dC : Nat → ClassId) (dI : Nat → Nat → Nat) (cI cD cJ : ClassId) (kk : wAd) (g : Nat → Nat) (x : MS) (p1 : Int32) (p2 : Int32) (p3 : Int32) (out : MS) (hM : M_X7_put x p1 p2 p3 = some out) : CM l yX7_put wsX7_put ({ frames := 0, cells := 0, slots := 0, locals := 0 } : Room) dC dI (wTys cI cD cJ) [.ref (g 0), .int p1, .int p2, .int p3] (wMod cI g x) none (wMod cI g out) 0 0 := by
  refine wk_enterM (cc := cX7_put) (maxL := 4) (ret := none) (by decide) rfl (Nat.le_of_ble_eq_true rfl) ?_
  intro p e s m below meth c A Q ls hB hA hP hD hQ hl
  obtain ⟨hx, hb, hml, hr, hts, hown, hname, hlocks, hG⟩ := hB
  have hown : s.vm.findClass RX7 = some m.cls := hown
  have hS : va_S A s.heap s.heap [] := va_S.rf
  have hl : lv_has ls 4 [(0, .ref (g 0)), (1, .int p1), (2, .int p2), (3, .int p3)] := hl
  have inX7 : ∀ w ∈ wsX70, w ∈ wsX7_put := fun _ h => List.mem_cons_of_mem _ (List.mem_append_right _ h)
  obtain ⟨H, hH⟩ : ∃ z, z = s.heap := ⟨_, rfl⟩
  have hP : va_P (dC, dI) vwCl (wMod cI g x) H := by rw [hH]; exact hP
  have hS : va_S A s.heap H [] := by rw [hH]; exact hS
  refine wk_at hH ?_
  generalize ([] : List Loc) = locs at hS ⊢
  unfold M_X7_put at hM
  refine lv_aload_n hx hb dX7_put_0 rfl (lv_at hl 0 rfl) ?_
  refine va_get (D := (dC, dI)) (ci := 5) (v := .ref (g 1)) (C := RX7) (T := TX7) (N := 14) hx hb hts inX7 hown hG.1 hP 0 rfl rfl 0 (by decide) (hts (.fieldLink RX7 7 "WokenDriveModel" "now" "[I") (List.mem_of_getElem? (i := 1) rfl)) (fun _ h9 => h9) rfl dX7_put_1 ?_
  refine lv_bipush (v := (116 : Int32)) hx hb dX7_put_4 (by decide) ?_
  refine lv_bipush (v := (12 : Int32)) hx hb dX7_put_6 (by decide) ?_
  refine lv_iload_n hx hb dX7_put_8 rfl (lv_at hl 1 rfl) ?_
  refine lv_imul hx hb dX7_put_9 ?_
  refine lv_iadd hx hb dX7_put_10 ?_
  refine lv_iload_n hx hb dX7_put_11 rfl (lv_at hl 2 rfl) ?_
  refine lv_iadd hx hb dX7_put_12 ?_
  refine lv_iload_n hx hb dX7_put_13 rfl (lv_at hl 3 rfl) ?_
  obtain ⟨f1, hf1, hM⟩ := ob hM
  refine wk_iast hx hb hG hP hD hS 1 0 rfl rfl hf1 dX7_put_14 (fun H locs hP hD hS => ?_)
  have hP : va_P (dC, dI) vwCl (wMod cI g (ms_now_s x f1)) H := hP
  have hD : va_D A (wMod cI g (ms_now_s x f1)) := hD
  replace hM := Option.some.inj hM
  subst hM
  exact wk_retMv hx hb hr hlocks hQ rfl hP hD hS dX7_put_15
set_option maxHeartbeats 4000000 in
set_option maxRecDepth 100000 in
theorem c_X7_control (l : Launch) (dC : Nat → ClassId) (dI : Nat → Nat → Nat) (cI cD cJ : ClassId) (kk : wAd) (g : Nat → Nat) (x : MS) (p1 : Int32) (p2 : Int32) (out : Int32) (hM : M_X7_control x p1 p2 = some out) : CP l yX7_control wsX7_control ({ frames := 0, cells := 0, slots := 0, locals := 0 } : Room) dC dI (wTys cI cD cJ) [.ref (g 0), .int p1, .int p2] (wMod cI g x) (some (.int out)) := by
  refine wk_enterP (cc := cX7_control) (maxL := 3) (ret := (some .int)) (by decide) rfl (Nat.le_of_ble_eq_true rfl) ?_
  intro p e s m below meth c A Q ls hB hP hD hA hQ hl
  obtain ⟨hx, hb, hml, hr, hts, hown, hname, hlocks, hG⟩ := hB
  have hown : s.vm.findClass RX7 = some m.cls := hown
  have hS : va_S A s.heap s.heap [] := va_S.rf
  have hl : lv_has ls 3 [(0, .ref (g 0)), (1, .int p1), (2, .int p2)] := hl
  have inX7 : ∀ w ∈ wsX70, w ∈ wsX7_control := fun _ h => List.mem_cons_of_mem _ (List.mem_append_right _ h)
  generalize ([] : List Loc) = locs at hS ⊢
  unfold M_X7_control at hM
  refine lv_aload_n hx hb dX7_control_0 rfl (lv_at hl 0 rfl) ?_
  refine va_get (D := (dC, dI)) (ci := 5) (v := .ref (g 1)) (C := RX7) (T := TX7) (N := 14) hx hb hts inX7 hown hG.1 hP 0 rfl rfl 0 (by decide) (hts (.fieldLink RX7 7 "WokenDriveModel" "now" "[I") (List.mem_of_getElem? (i := 1) rfl)) (fun _ h9 => h9) rfl dX7_control_1 ?_
  refine lv_bipush (v := (20 : Int32)) hx hb dX7_control_4 (by decide) ?_
  refine lv_bipush (v := (8 : Int32)) hx hb dX7_control_6 (by decide) ?_
  refine lv_iload_n hx hb dX7_control_8 rfl (lv_at hl 1 rfl) ?_
  refine lv_imul hx hb dX7_control_9 ?_
  refine lv_iadd hx hb dX7_control_10 ?_
  refine lv_iload_n hx hb dX7_control_11 rfl (lv_at hl 2 rfl) ?_
  refine lv_iadd hx hb dX7_control_12 ?_
  obtain ⟨v1, hv1, hM⟩ := ob hM
  refine wk_iald hx hb hG hP 1 0 rfl rfl hv1 dX7_control_13 ?_
  replace hM := Option.some.inj hM
  subst hM
  exact wk_retPi hx hb hr hlocks hQ rfl rfl hS dX7_control_14
set_option maxHeartbeats 4000000 in
set_option maxRecDepth 100000 in
theorem c_X7_more (l : Launch) (dC : Nat → ClassId) (dI : Nat → Nat → Nat) (cI cD cJ : ClassId) (kk : wAd) (g : Nat → Nat) (x : MS) (p1 : Int32) (p2 : Int32) (out : MS) (hM : M_X7_more x p1 p2 = some out) : CM l yX7_more wsX7_more ({ frames := 0, cells := 0, slots := 0, locals := 0 } : Room) dC dI (wTys cI cD cJ) [.ref (g 0), .int p1, .int p2] (wMod cI g x) none (wMod cI g out) 0 0 := by
  refine wk_enterM (cc := cX7_more) (maxL := 3) (ret := none) (by decide) rfl (Nat.le_of_ble_eq_true rfl) ?_
  intro p e s m below meth c A Q ls hB hA hP hD hQ hl
  obtain ⟨hx, hb, hml, hr, hts, hown, hname, hlocks, hG⟩ := hB
  have hown : s.vm.findClass RX7 = some m.cls := hown
  have hS : va_S A s.heap s.heap [] := va_S.rf
  have hl : lv_has ls 3 [(0, .ref (g 0)), (1, .int p1), (2, .int p2)] := hl
  have inX7 : ∀ w ∈ wsX70, w ∈ wsX7_more := fun _ h => List.mem_cons_of_mem _ (List.mem_append_right _ h)
  obtain ⟨H, hH⟩ : ∃ z, z = s.heap := ⟨_, rfl⟩
  have hP : va_P (dC, dI) vwCl (wMod cI g x) H := by rw [hH]; exact hP
  have hS : va_S A s.heap H [] := by rw [hH]; exact hS
  refine wk_at hH ?_
  generalize ([] : List Loc) = locs at hS ⊢
  unfold M_X7_more at hM
  refine lv_aload_n hx hb dX7_more_0 rfl (lv_at hl 0 rfl) ?_
  refine va_get (D := (dC, dI)) (ci := 5) (v := .ref (g 1)) (C := RX7) (T := TX7) (N := 14) hx hb hts inX7 hown hG.1 hP 0 rfl rfl 0 (by decide) (hts (.fieldLink RX7 7 "WokenDriveModel" "now" "[I") (List.mem_of_getElem? (i := 1) rfl)) (fun _ h9 => h9) rfl dX7_more_1 ?_
  refine lv_bipush (v := (20 : Int32)) hx hb dX7_more_4 (by decide) ?_
  refine lv_bipush (v := (8 : Int32)) hx hb dX7_more_6 (by decide) ?_
  refine lv_iload_n hx hb dX7_more_8 rfl (lv_at hl 1 rfl) ?_
  refine lv_imul hx hb dX7_more_9 ?_
  refine lv_iadd hx hb dX7_more_10 ?_
  refine lv_iload_n hx hb dX7_more_11 rfl (lv_at hl 2 rfl) ?_
  refine lv_iadd hx hb dX7_more_12 ?_
  refine lv_dup2_11 hx hb dX7_more_13 rfl rfl ?_
  obtain ⟨v1, hv1, hM⟩ := ob hM
  refine wk_iald hx hb hG hP 1 0 rfl rfl hv1 dX7_more_14 ?_
  refine lv_iconst (v := (1 : Int32)) hx hb dX7_more_15 (by decide) ?_
  refine lv_iadd hx hb dX7_more_16 ?_
  obtain ⟨f2, hf2, hM⟩ := ob hM
  refine wk_iast hx hb hG hP hD hS 1 0 rfl rfl hf2 dX7_more_17 (fun H locs hP hD hS => ?_)
  have hP : va_P (dC, dI) vwCl (wMod cI g (ms_now_s x f2)) H := hP
  have hD : va_D A (wMod cI g (ms_now_s x f2)) := hD
  replace hM := Option.some.inj hM
  subst hM
  exact wk_retMv hx hb hr hlocks hQ rfl hP hD hS dX7_more_18
set_option maxHeartbeats 4000000 in
set_option maxRecDepth 100000 in
theorem c_X7_isController (l : Launch) (dC : Nat → ClassId) (dI : Nat → Nat → Nat) (cI cD cJ : ClassId) (kk : wAd)  (p0 : Int32) (out : Bool) (hM : M_X7_isController p0 = out) : CP l yX7_isController wsX7_isController ({ frames := 1, cells := 0, slots := 0, locals := 22 } : Room) dC dI (wTys cI cD cJ) [.int p0] ([] : va_W) (some (.int (zI out))) := by
  refine wk_enterP (cc := cX7_isController) (maxL := 1) (ret := (some .boolean)) (by decide) rfl (Nat.le_of_ble_eq_true rfl) ?_
  intro p e s m below meth c A Q ls hB hP hD hA hQ hl
  obtain ⟨hx, hb, hml, hr, hts, hown, hname, hlocks, hG⟩ := hB
  have hown : s.vm.findClass RX7 = some m.cls := hown
  have hS : va_S A s.heap s.heap [] := va_S.rf
  have hl : lv_has ls 1 [(0, .int p0)] := hl
  generalize ([] : List Loc) = locs at hS ⊢
  unfold M_X7_isController at hM
  refine lv_iload_n hx hb dX7_isController_0 rfl (lv_at hl 0 rfl) ?_
  refine lv_iconst (v := (0 : Int32)) hx hb dX7_isController_1 (by decide) ?_
  refine lv_iconst (v := (1 : Int32)) hx hb dX7_isController_2 (by decide) ?_
  refine wk_callP (va_runS (As := [.int p0, .int (0 : Int32), .int (1 : Int32)]) (rest := []) ⟨hx, hb, hml, hown, hts⟩ (c_X7_within l dC dI cI cD cJ kk  p0 (0 : Int32) (1 : Int32) _ rfl s.heap) (va_cwS 3 hts gX7_isController_X7_within rfl rfl rfl (by decide +kernel) ⟨Nat.le_of_ble_eq_true rfl, Nat.le_of_ble_eq_true rfl⟩) (wk_preS hG hP hD [] rfl rfl) rfl rfl hl.1 rfl (lv_room (Nat.le_of_ble_eq_true rfl)) dX7_isController_3 ⟨Nat.le_of_ble_eq_true rfl, Nat.le_of_ble_eq_true rfl⟩) hS (fun locs hS => ?_)
  subst hM
  exact wk_retPi hx hb hr hlocks hQ (zI_nar _) rfl hS dX7_isController_6
set_option maxHeartbeats 4000000 in
set_option maxRecDepth 100000 in
theorem c_X7_isBlock (l : Launch) (dC : Nat → ClassId) (dI : Nat → Nat → Nat) (cI cD cJ : ClassId) (kk : wAd)  (p0 : Int32) (out : Bool) (hM : M_X7_isBlock p0 = out) : CP l yX7_isBlock wsX7_isBlock ({ frames := 1, cells := 0, slots := 0, locals := 22 } : Room) dC dI (wTys cI cD cJ) [.int p0] ([] : va_W) (some (.int (zI out))) := by
  refine wk_enterP (cc := cX7_isBlock) (maxL := 1) (ret := (some .boolean)) (by decide) rfl (Nat.le_of_ble_eq_true rfl) ?_
  intro p e s m below meth c A Q ls hB hP hD hA hQ hl
  obtain ⟨hx, hb, hml, hr, hts, hown, hname, hlocks, hG⟩ := hB
  have hown : s.vm.findClass RX7 = some m.cls := hown
  have hS : va_S A s.heap s.heap [] := va_S.rf
  have hl : lv_has ls 1 [(0, .int p0)] := hl
  generalize ([] : List Loc) = locs at hS ⊢
  unfold M_X7_isBlock at hM
  refine lv_iload_n hx hb dX7_isBlock_0 rfl (lv_at hl 0 rfl) ?_
  refine lv_iconst (v := (0 : Int32)) hx hb dX7_isBlock_1 (by decide) ?_
  refine lv_bipush (v := (15 : Int32)) hx hb dX7_isBlock_2 (by decide) ?_
  refine wk_callP (va_runS (As := [.int p0, .int (0 : Int32), .int (15 : Int32)]) (rest := []) ⟨hx, hb, hml, hown, hts⟩ (c_X7_within l dC dI cI cD cJ kk  p0 (0 : Int32) (15 : Int32) _ rfl s.heap) (va_cwS 3 hts gX7_isBlock_X7_within rfl rfl rfl (by decide +kernel) ⟨Nat.le_of_ble_eq_true rfl, Nat.le_of_ble_eq_true rfl⟩) (wk_preS hG hP hD [] rfl rfl) rfl rfl hl.1 rfl (lv_room (Nat.le_of_ble_eq_true rfl)) dX7_isBlock_4 ⟨Nat.le_of_ble_eq_true rfl, Nat.le_of_ble_eq_true rfl⟩) hS (fun locs hS => ?_)
  subst hM
  exact wk_retPi hx hb hr hlocks hQ (zI_nar _) rfl hS dX7_isBlock_7
set_option maxHeartbeats 4000000 in
set_option maxRecDepth 100000 in
theorem c_X7_isOrder (l : Launch) (dC : Nat → ClassId) (dI : Nat → Nat → Nat) (cI cD cJ : ClassId) (kk : wAd) (g : Nat → Nat) (x : MS) (p1 : Int32) (out : Bool) (hM : M_X7_isOrder x p1 = some out) : CP l yX7_isOrder wsX7_isOrder ({ frames := 1, cells := 0, slots := 0, locals := 22 } : Room) dC dI (wTys cI cD cJ) [.ref (g 0), .int p1] (wMod cI g x) (some (.int (zI out))) := by
  refine wk_enterP (cc := cX7_isOrder) (maxL := 2) (ret := (some .boolean)) (by decide) rfl (Nat.le_of_ble_eq_true rfl) ?_
  intro p e s m below meth c A Q ls hB hP hD hA hQ hl
  obtain ⟨hx, hb, hml, hr, hts, hown, hname, hlocks, hG⟩ := hB
  have hown : s.vm.findClass RX7 = some m.cls := hown
  have hS : va_S A s.heap s.heap [] := va_S.rf
  have hl : lv_has ls 2 [(0, .ref (g 0)), (1, .int p1)] := hl
  have inX7 : ∀ w ∈ wsX70, w ∈ wsX7_isOrder := fun _ h => List.mem_cons_of_mem _ (List.mem_append_right _ h)
  generalize ([] : List Loc) = locs at hS ⊢
  unfold M_X7_isOrder at hM
  refine lv_iload_n hx hb dX7_isOrder_0 rfl (lv_at hl 1 rfl) ?_
  refine lv_iconst (v := (0 : Int32)) hx hb dX7_isOrder_1 (by decide) ?_
  refine lv_aload_n hx hb dX7_isOrder_2 rfl (lv_at hl 0 rfl) ?_
  refine va_get (D := (dC, dI)) (ci := 5) (v := .ref (g 1)) (C := RX7) (T := TX7) (N := 14) hx hb hts inX7 hown hG.1 hP 0 rfl rfl 0 (by decide) (hts (.fieldLink RX7 7 "WokenDriveModel" "now" "[I") (List.mem_of_getElem? (i := 1) rfl)) (fun _ h9 => h9) rfl dX7_isOrder_3 ?_
  refine lv_iconst (v := (1 : Int32)) hx hb dX7_isOrder_6 (by decide) ?_
  obtain ⟨v1, hv1, hM⟩ := ob hM
  refine wk_iald hx hb hG hP 1 0 rfl rfl hv1 dX7_isOrder_7 ?_
  refine lv_iconst (v := (1 : Int32)) hx hb dX7_isOrder_8 (by decide) ?_
  refine lv_isub hx hb dX7_isOrder_9 ?_
  refine wk_callP (va_runS (As := [.int p1, .int (0 : Int32), .int (v1 - (1 : Int32))]) (rest := []) ⟨hx, hb, hml, hown, hts⟩ (c_X7_within l dC dI cI cD cJ kk  p1 (0 : Int32) (v1 - (1 : Int32)) _ rfl s.heap) (va_cwS 3 hts gX7_isOrder_X7_within rfl rfl rfl (by decide +kernel) ⟨Nat.le_of_ble_eq_true rfl, Nat.le_of_ble_eq_true rfl⟩) (wk_preS hG hP hD [] rfl rfl) rfl rfl hl.1 rfl (lv_room (Nat.le_of_ble_eq_true rfl)) dX7_isOrder_10 ⟨Nat.le_of_ble_eq_true rfl, Nat.le_of_ble_eq_true rfl⟩) hS (fun locs hS => ?_)
  replace hM := Option.some.inj hM
  subst hM
  exact wk_retPi hx hb hr hlocks hQ (zI_nar _) rfl hS dX7_isOrder_13
set_option maxHeartbeats 4000000 in
set_option maxRecDepth 100000 in
theorem c_X7_isOpen (l : Launch) (dC : Nat → ClassId) (dI : Nat → Nat → Nat) (cI cD cJ : ClassId) (kk : wAd) (g : Nat → Nat) (x : MS) (p1 : Int32) (out : Bool) (hM : M_X7_isOpen x p1 = some out) : CP l yX7_isOpen wsX7_isOpen ({ frames := 1, cells := 0, slots := 0, locals := 22 } : Room) dC dI (wTys cI cD cJ) [.ref (g 0), .int p1] (wMod cI g x) (some (.int (zI out))) := by
  refine wk_enterP (cc := cX7_isOpen) (maxL := 2) (ret := (some .boolean)) (by decide) rfl (Nat.le_of_ble_eq_true rfl) ?_
  intro p e s m below meth c A Q ls hB hP hD hA hQ hl
  obtain ⟨hx, hb, hml, hr, hts, hown, hname, hlocks, hG⟩ := hB
  have hown : s.vm.findClass RX7 = some m.cls := hown
  have hS : va_S A s.heap s.heap [] := va_S.rf
  have hl : lv_has ls 2 [(0, .ref (g 0)), (1, .int p1)] := hl
  generalize ([] : List Loc) = locs at hS ⊢
  have hB24 : ∀ (w0 : Bool) (locs : List Loc) (ls : Array Slot), M_X7_isOpen_24 x p1 w0 = some out → va_S A s.heap s.heap locs → lv_has ls 2 [] → W p l e ({ frames := 1, cells := 0, slots := 0, locals := 22 } : Room) s m ([.ref (g 0), .int p1] : List Value).toArray below meth c s.heap locs 0 0 Q (F0 m 24 ls [.int (zI w0)]) := by
    intro w0 locs ls hM hS hl
    unfold M_X7_isOpen_24 at hM
    replace hM := Option.some.inj hM
    subst hM
    exact wk_retPi hx hb hr hlocks hQ (zI_nar _) rfl hS dX7_isOpen_24
  have hB19 : ∀  (locs : List Loc) (ls : Array Slot), M_X7_isOpen_19 x p1 = some out → va_S A s.heap s.heap locs → lv_has ls 2 [] → W p l e ({ frames := 1, cells := 0, slots := 0, locals := 22 } : Room) s m ([.ref (g 0), .int p1] : List Value).toArray below meth c s.heap locs 0 0 Q (F0 m 19 ls []) := by
    intro  locs ls hM hS hl
    unfold M_X7_isOpen_19 at hM
    refine lv_iconst (v := (1 : Int32)) hx hb dX7_isOpen_19 (by decide) ?_
    refine lv_goto (tgt := 24) hx hb dX7_isOpen_20 (by decide) ?_
    exact hB24 true  _ _ hM hS (lv_sub hl [] rfl)
  unfold M_X7_isOpen at hM
  refine lv_aload_n hx hb dX7_isOpen_0 rfl (lv_at hl 0 rfl) ?_
  refine lv_iload_n hx hb dX7_isOpen_1 rfl (lv_at hl 1 rfl) ?_
  refine lv_iconst (v := (5 : Int32)) hx hb dX7_isOpen_2 (by decide) ?_
  obtain ⟨r1, hr1, hM⟩ := ob hM
  refine wk_callP (va_runV (As := [.int p1, .int (5 : Int32)]) (rest := []) ⟨hx, hb, hml, hown, hts⟩ (c_X7_of l dC dI cI cD cJ kk g x p1 (5 : Int32) _ hr1 s.heap) (cwV 2 hts gX7_isOpen_X7_of rfl rfl rfl (by decide +kernel) ⟨Nat.le_of_ble_eq_true rfl, Nat.le_of_ble_eq_true rfl⟩) (wk_preV (ci := 5) (q0 := 0) hG hP hD [0, 1, 2, 3, 4, 5, 6, 7] rfl rfl rfl rfl) rfl rfl hl.1 rfl (lv_room (Nat.le_of_ble_eq_true rfl)) dX7_isOpen_3 ⟨Nat.le_of_ble_eq_true rfl, Nat.le_of_ble_eq_true rfl⟩) hS (fun locs hS => ?_)
  refine lv_if_eq (tgt := 19) hx hb dX7_isOpen_6 (by decide) (fun c2 => ?_) (fun c2 => ?_)
  · replace hM := (if_pos c2).symm.trans hM
    exact hB19   _ _ hM hS (lv_sub hl [] rfl)
  · replace hM := (if_neg c2).symm.trans hM
    refine lv_aload_n hx hb dX7_isOpen_9 rfl (lv_at hl 0 rfl) ?_
    refine lv_iload_n hx hb dX7_isOpen_10 rfl (lv_at hl 1 rfl) ?_
    refine lv_iconst (v := (5 : Int32)) hx hb dX7_isOpen_11 (by decide) ?_
    obtain ⟨r3, hr3, hM⟩ := ob hM
    refine wk_callP (va_runV (As := [.int p1, .int (5 : Int32)]) (rest := []) ⟨hx, hb, hml, hown, hts⟩ (c_X7_of l dC dI cI cD cJ kk g x p1 (5 : Int32) _ hr3 s.heap) (cwV 2 hts gX7_isOpen_X7_of rfl rfl rfl (by decide +kernel) ⟨Nat.le_of_ble_eq_true rfl, Nat.le_of_ble_eq_true rfl⟩) (wk_preV (ci := 5) (q0 := 0) hG hP hD [0, 1, 2, 3, 4, 5, 6, 7] rfl rfl rfl rfl) rfl rfl hl.1 rfl (lv_room (Nat.le_of_ble_eq_true rfl)) dX7_isOpen_12 ⟨Nat.le_of_ble_eq_true rfl, Nat.le_of_ble_eq_true rfl⟩) hS (fun locs hS => ?_)
    refine lv_iconst (v := (1 : Int32)) hx hb dX7_isOpen_15 (by decide) ?_
    refine lv_icmp_ne (tgt := 23) hx hb dX7_isOpen_16 (by decide) (fun c4 => ?_) (fun c4 => ?_)
    · replace hM := (if_neg c4).symm.trans hM
      refine lv_iconst (v := (0 : Int32)) hx hb dX7_isOpen_23 (by decide) ?_
      exact hB24 false  _ _ hM hS (lv_sub hl [] rfl)
    · replace hM := (if_pos c4).symm.trans hM
      exact hB19   _ _ hM hS (lv_sub hl [] rfl)
set_option maxHeartbeats 4000000 in
set_option maxRecDepth 100000 in
theorem c_X7_isTag (l : Launch) (dC : Nat → ClassId) (dI : Nat → Nat → Nat) (cI cD cJ : ClassId) (kk : wAd)  (p0 : Int32) (p1 : Int32) (out : Bool) (hM : M_X7_isTag p0 p1 = out) : CP l yX7_isTag wsX7_isTag ({ frames := 1, cells := 0, slots := 0, locals := 22 } : Room) dC dI (wTys cI cD cJ) [.int p0, .int p1] ([] : va_W) (some (.int (zI out))) := by
  refine wk_enterP (cc := cX7_isTag) (maxL := 2) (ret := (some .boolean)) (by decide) rfl (Nat.le_of_ble_eq_true rfl) ?_
  intro p e s m below meth c A Q ls hB hP hD hA hQ hl
  obtain ⟨hx, hb, hml, hr, hts, hown, hname, hlocks, hG⟩ := hB
  have hown : s.vm.findClass RX7 = some m.cls := hown
  have hS : va_S A s.heap s.heap [] := va_S.rf
  have hl : lv_has ls 2 [(0, .int p0), (1, .int p1)] := hl
  generalize ([] : List Loc) = locs at hS ⊢
  have hB24 : ∀ (w0 : Bool) (locs : List Loc) (ls : Array Slot), M_X7_isTag_24 p0 p1 w0 = out → va_S A s.heap s.heap locs → lv_has ls 2 [] → W p l e ({ frames := 1, cells := 0, slots := 0, locals := 22 } : Room) s m ([.int p0, .int p1] : List Value).toArray below meth c s.heap locs 0 0 Q (F0 m 24 ls [.int (zI w0)]) := by
    intro w0 locs ls hM hS hl
    unfold M_X7_isTag_24 at hM
    subst hM
    exact wk_retPi hx hb hr hlocks hQ (zI_nar _) rfl hS dX7_isTag_24
  have hB23 : ∀  (locs : List Loc) (ls : Array Slot), M_X7_isTag_23 p0 p1 = out → va_S A s.heap s.heap locs → lv_has ls 2 [] → W p l e ({ frames := 1, cells := 0, slots := 0, locals := 22 } : Room) s m ([.int p0, .int p1] : List Value).toArray below meth c s.heap locs 0 0 Q (F0 m 23 ls []) := by
    intro  locs ls hM hS hl
    unfold M_X7_isTag_23 at hM
    refine lv_iconst (v := (0 : Int32)) hx hb dX7_isTag_23 (by decide) ?_
    exact hB24 false  _ _ hM hS (lv_sub hl [] rfl)
  unfold M_X7_isTag at hM
  refine lv_iload_n hx hb dX7_isTag_0 rfl (lv_at hl 0 rfl) ?_
  refine lv_iconst (v := (0 : Int32)) hx hb dX7_isTag_1 (by decide) ?_
  refine lv_iconst (v := (3 : Int32)) hx hb dX7_isTag_2 (by decide) ?_
  refine wk_callP (va_runS (As := [.int p0, .int (0 : Int32), .int (3 : Int32)]) (rest := []) ⟨hx, hb, hml, hown, hts⟩ (c_X7_within l dC dI cI cD cJ kk  p0 (0 : Int32) (3 : Int32) _ rfl s.heap) (va_cwS 3 hts gX7_isTag_X7_within rfl rfl rfl (by decide +kernel) ⟨Nat.le_of_ble_eq_true rfl, Nat.le_of_ble_eq_true rfl⟩) (wk_preS hG hP hD [] rfl rfl) rfl rfl hl.1 rfl (lv_room (Nat.le_of_ble_eq_true rfl)) dX7_isTag_3 ⟨Nat.le_of_ble_eq_true rfl, Nat.le_of_ble_eq_true rfl⟩) hS (fun locs hS => ?_)
  refine lv_if_eq (tgt := 23) hx hb dX7_isTag_6 (by decide) (fun c1 => ?_) (fun c1 => ?_)
  · replace hM := (if_pos c1).symm.trans hM
    exact hB23   _ _ hM hS (lv_sub hl [] rfl)
  · replace hM := (if_neg c1).symm.trans hM
    refine lv_iload_n hx hb dX7_isTag_9 rfl (lv_at hl 1 rfl) ?_
    refine lv_iconst (v := (0 : Int32)) hx hb dX7_isTag_10 (by decide) ?_
    refine lv_bipush (v := (31 : Int32)) hx hb dX7_isTag_11 (by decide) ?_
    refine wk_callP (va_runS (As := [.int p1, .int (0 : Int32), .int (31 : Int32)]) (rest := []) ⟨hx, hb, hml, hown, hts⟩ (c_X7_within l dC dI cI cD cJ kk  p1 (0 : Int32) (31 : Int32) _ rfl s.heap) (va_cwS 3 hts gX7_isTag_X7_within rfl rfl rfl (by decide +kernel) ⟨Nat.le_of_ble_eq_true rfl, Nat.le_of_ble_eq_true rfl⟩) (wk_preS hG hP hD [] rfl rfl) rfl rfl hl.1 rfl (lv_room (Nat.le_of_ble_eq_true rfl)) dX7_isTag_13 ⟨Nat.le_of_ble_eq_true rfl, Nat.le_of_ble_eq_true rfl⟩) hS (fun locs hS => ?_)
    refine lv_if_eq (tgt := 23) hx hb dX7_isTag_16 (by decide) (fun c2 => ?_) (fun c2 => ?_)
    · replace hM := (if_pos c2).symm.trans hM
      exact hB23   _ _ hM hS (lv_sub hl [] rfl)
    · replace hM := (if_neg c2).symm.trans hM
      refine lv_iconst (v := (1 : Int32)) hx hb dX7_isTag_19 (by decide) ?_
      refine lv_goto (tgt := 24) hx hb dX7_isTag_20 (by decide) ?_
      exact hB24 true  _ _ hM hS (lv_sub hl [] rfl)
set_option maxHeartbeats 4000000 in
set_option maxRecDepth 100000 in
theorem c_X7_latest (l : Launch) (dC : Nat → ClassId) (dI : Nat → Nat → Nat) (cI cD cJ : ClassId) (kk : wAd) (g : Nat → Nat) (x : MS) (p1 : Int32) (p2 : Int32) (out : Int32) (hM : M_X7_latest x p1 p2 = some out) : CP l yX7_latest wsX7_latest ({ frames := 1, cells := 0, slots := 0, locals := 22 } : Room) dC dI (wTys cI cD cJ) [.ref (g 0), .int p1, .int p2] (wMod cI g x) (some (.int out)) := by
  refine wk_enterP (cc := cX7_latest) (maxL := 5) (ret := (some .int)) (by decide) rfl (Nat.le_of_ble_eq_true rfl) ?_
  intro p e s m below meth c A Q ls hB hP hD hA hQ hl
  obtain ⟨hx, hb, hml, hr, hts, hown, hname, hlocks, hG⟩ := hB
  have hown : s.vm.findClass RX7 = some m.cls := hown
  have hS : va_S A s.heap s.heap [] := va_S.rf
  have hl : lv_has ls 5 [(0, .ref (g 0)), (1, .int p1), (2, .int p2)] := hl
  have inX7 : ∀ w ∈ wsX70, w ∈ wsX7_latest := fun _ h => List.mem_cons_of_mem _ (List.mem_append_right _ h)
  generalize ([] : List Loc) = locs at hS ⊢
  have hL5 : ∀ (n5 : Nat) (u3 : Int32) (u4 : Int32) (locs : List Loc) (ls : Array Slot), lpF (M_X7_latest_5s x p1 p2) n5 (u3, u4) = some out → va_S A s.heap s.heap locs → lv_has ls 5 [(0, .ref (g 0)), (1, .int p1), (2, .int p2), (3, .int u3), (4, .int u4)] → W p l e ({ frames := 1, cells := 0, slots := 0, locals := 22 } : Room) s m ([.ref (g 0), .int p1, .int p2] : List Value).toArray below meth c s.heap locs 0 0 Q (F0 m 5 ls []) := by
    intro n5
    induction n5 with
    | zero => intro u3 u4 locs ls hM; exact lpF_0 hM
    | succ n5 ih5 =>
      have hB44 : ∀ (u4 : Int32) (w0 : Int32) (locs : List Loc) (ls : Array Slot), M_X7_latest_44 x p1 p2 (lpF (M_X7_latest_5s x p1 p2) n5) u4 w0 = some out → va_S A s.heap s.heap locs → lv_has ls 5 [(0, .ref (g 0)), (1, .int p1), (2, .int p2), (4, .int u4)] → W p l e ({ frames := 1, cells := 0, slots := 0, locals := 22 } : Room) s m ([.ref (g 0), .int p1, .int p2] : List Value).toArray below meth c s.heap locs 0 0 Q (F0 m 44 ls [.int w0]) := by
        intro u4 w0 locs ls hM hS hl
        unfold M_X7_latest_44 at hM
        refine lv_istore_n (lv' := [(3, .int w0), (0, .ref (g 0)), (1, .int p1), (2, .int p2), (4, .int u4)]) hx hb dX7_latest_44 rfl hl (by decide) rfl (fun ls hl => ?_)
        refine lv_iinc (v := (u4 + 1)) (lv' := [(4, .int (u4 + 1)), (3, .int w0), (0, .ref (g 0)), (1, .int p1), (2, .int p2)]) hx hb dX7_latest_45 hl (k := 4) rfl rfl (by decide) rfl (fun ls hl => ?_)
        refine lv_goto (tgt := 5) hx hb dX7_latest_48 (by decide) ?_
        exact ih5 w0 (u4 + 1)  _ _ hM hS (lv_sub hl [2, 3, 4, 1, 0] rfl)
      have hB43 : ∀ (u3 : Int32) (u4 : Int32) (locs : List Loc) (ls : Array Slot), M_X7_latest_43 x p1 p2 (lpF (M_X7_latest_5s x p1 p2) n5) u3 u4 = some out → va_S A s.heap s.heap locs → lv_has ls 5 [(0, .ref (g 0)), (1, .int p1), (2, .int p2), (3, .int u3), (4, .int u4)] → W p l e ({ frames := 1, cells := 0, slots := 0, locals := 22 } : Room) s m ([.ref (g 0), .int p1, .int p2] : List Value).toArray below meth c s.heap locs 0 0 Q (F0 m 43 ls []) := by
        intro u3 u4 locs ls hM hS hl
        unfold M_X7_latest_43 at hM
        refine lv_iload_n hx hb dX7_latest_43 rfl (lv_at hl 3 rfl) ?_
        exact hB44 u4 u3  _ _ hM hS (lv_sub hl [0, 1, 2, 4] rfl)
      intro u3 u4 locs ls hM hS hl
      replace hM : M_X7_latest_5s x p1 p2 (lpF (M_X7_latest_5s x p1 p2) n5) (u3, u4) = some out := hM
      unfold M_X7_latest_5s at hM
      try dsimp only at hM
      refine lv_iload hx hb dX7_latest_5 (lv_at hl 4 rfl) ?_
      refine lv_aload_n hx hb dX7_latest_7 rfl (lv_at hl 0 rfl) ?_
      refine va_get (D := (dC, dI)) (ci := 5) (v := .ref (g 1)) (C := RX7) (T := TX7) (N := 14) hx hb hts inX7 hown hG.1 hP 0 rfl rfl 0 (by decide) (hts (.fieldLink RX7 7 "WokenDriveModel" "now" "[I") (List.mem_of_getElem? (i := 1) rfl)) (fun _ h9 => h9) rfl dX7_latest_8 ?_
      refine lv_iconst (v := (1 : Int32)) hx hb dX7_latest_11 (by decide) ?_
      obtain ⟨v1, hv1, hM⟩ := ob hM
      refine wk_iald hx hb hG hP 1 0 rfl rfl hv1 dX7_latest_12 ?_
      refine lv_icmp_ge (tgt := 51) hx hb dX7_latest_13 (by decide) (fun c2 => ?_) (fun c2 => ?_)
      · replace hM := (if_pos c2).symm.trans hM
        refine lv_iload_n hx hb dX7_latest_51 rfl (lv_at hl 3 rfl) ?_
        replace hM := Option.some.inj hM
        subst hM
        exact wk_retPi hx hb hr hlocks hQ rfl rfl hS dX7_latest_52
      · replace hM := (if_neg c2).symm.trans hM
        refine lv_aload_n hx hb dX7_latest_16 rfl (lv_at hl 0 rfl) ?_
        refine lv_iload hx hb dX7_latest_17 (lv_at hl 4 rfl) ?_
        refine lv_iconst (v := (0 : Int32)) hx hb dX7_latest_19 (by decide) ?_
        obtain ⟨r3, hr3, hM⟩ := ob hM
        refine wk_callP (va_runV (As := [.int u4, .int (0 : Int32)]) (rest := []) ⟨hx, hb, hml, hown, hts⟩ (c_X7_of l dC dI cI cD cJ kk g x u4 (0 : Int32) _ hr3 s.heap) (cwV 2 hts gX7_latest_X7_of rfl rfl rfl (by decide +kernel) ⟨Nat.le_of_ble_eq_true rfl, Nat.le_of_ble_eq_true rfl⟩) (wk_preV (ci := 5) (q0 := 0) hG hP hD [0, 1, 2, 3, 4, 5, 6, 7] rfl rfl rfl rfl) rfl rfl hl.1 rfl (lv_room (Nat.le_of_ble_eq_true rfl)) dX7_latest_20 ⟨Nat.le_of_ble_eq_true rfl, Nat.le_of_ble_eq_true rfl⟩) hS (fun locs hS => ?_)
        refine lv_iload_n hx hb dX7_latest_23 rfl (lv_at hl 1 rfl) ?_
        refine lv_icmp_ne (tgt := 43) hx hb dX7_latest_24 (by decide) (fun c4 => ?_) (fun c4 => ?_)
        · replace hM := (if_neg c4).symm.trans hM
          exact hB43 u3 u4  _ _ hM hS (lv_sub hl [0, 1, 2, 3, 4] rfl)
        · replace hM := (if_pos c4).symm.trans hM
          refine lv_aload_n hx hb dX7_latest_27 rfl (lv_at hl 0 rfl) ?_
          refine lv_iload hx hb dX7_latest_28 (lv_at hl 4 rfl) ?_
          refine lv_iconst (v := (1 : Int32)) hx hb dX7_latest_30 (by decide) ?_
          obtain ⟨r5, hr5, hM⟩ := ob hM
          refine wk_callP (va_runV (As := [.int u4, .int (1 : Int32)]) (rest := []) ⟨hx, hb, hml, hown, hts⟩ (c_X7_of l dC dI cI cD cJ kk g x u4 (1 : Int32) _ hr5 s.heap) (cwV 2 hts gX7_latest_X7_of rfl rfl rfl (by decide +kernel) ⟨Nat.le_of_ble_eq_true rfl, Nat.le_of_ble_eq_true rfl⟩) (wk_preV (ci := 5) (q0 := 0) hG hP hD [0, 1, 2, 3, 4, 5, 6, 7] rfl rfl rfl rfl) rfl rfl hl.1 rfl (lv_room (Nat.le_of_ble_eq_true rfl)) dX7_latest_31 ⟨Nat.le_of_ble_eq_true rfl, Nat.le_of_ble_eq_true rfl⟩) hS (fun locs hS => ?_)
          refine lv_iload_n hx hb dX7_latest_34 rfl (lv_at hl 2 rfl) ?_
          refine lv_icmp_ne (tgt := 43) hx hb dX7_latest_35 (by decide) (fun c6 => ?_) (fun c6 => ?_)
          · replace hM := (if_neg c6).symm.trans hM
            exact hB43 u3 u4  _ _ hM hS (lv_sub hl [0, 1, 2, 3, 4] rfl)
          · replace hM := (if_pos c6).symm.trans hM
            refine lv_iload hx hb dX7_latest_38 (lv_at hl 4 rfl) ?_
            refine lv_goto (tgt := 44) hx hb dX7_latest_40 (by decide) ?_
            exact hB44 u4 u4  _ _ hM hS (lv_sub hl [0, 1, 2, 4] rfl)
  unfold M_X7_latest at hM
  refine lv_iconst (v := (-1 : Int32)) hx hb dX7_latest_0 (by decide) ?_
  refine lv_istore_n (lv' := [(3, .int (-1 : Int32)), (0, .ref (g 0)), (1, .int p1), (2, .int p2)]) hx hb dX7_latest_1 rfl hl (by decide) rfl (fun ls hl => ?_)
  refine lv_iconst (v := (0 : Int32)) hx hb dX7_latest_2 (by decide) ?_
  refine lv_istore (lv' := [(4, .int (0 : Int32)), (3, .int (-1 : Int32)), (0, .ref (g 0)), (1, .int p1), (2, .int p2)]) hx hb dX7_latest_3 hl (by decide) rfl (fun ls hl => ?_)
  exact hL5 64 (-1 : Int32) (0 : Int32)  _ _ hM hS (lv_sub hl [2, 3, 4, 1, 0] rfl)
set_option maxHeartbeats 4000000 in
set_option maxRecDepth 100000 in
theorem c_X7_canBe (l : Launch) (dC : Nat → ClassId) (dI : Nat → Nat → Nat) (cI cD cJ : ClassId) (kk : wAd)  (p0 : Int32) (p1 : Int32) (p2 : Int32) (out : Bool) (hM : M_X7_canBe p0 p1 p2 = out) : CP l yX7_canBe wsX7_canBe ({ frames := 2, cells := 0, slots := 0, locals := 42 } : Room) dC dI (wTys cI cD cJ) [.int p0, .int p1, .int p2] ([] : va_W) (some (.int (zI out))) := by
  refine wk_enterP (cc := cX7_canBe) (maxL := 3) (ret := (some .boolean)) (by decide) rfl (Nat.le_of_ble_eq_true rfl) ?_
  intro p e s m below meth c A Q ls hB hP hD hA hQ hl
  obtain ⟨hx, hb, hml, hr, hts, hown, hname, hlocks, hG⟩ := hB
  have hown : s.vm.findClass RX7 = some m.cls := hown
  have hS : va_S A s.heap s.heap [] := va_S.rf
  have hl : lv_has ls 3 [(0, .int p0), (1, .int p1), (2, .int p2)] := hl
  generalize ([] : List Loc) = locs at hS ⊢
  have hB57 : ∀ (w0 : Bool) (locs : List Loc) (ls : Array Slot), M_X7_canBe_57 p0 p1 p2 w0 = out → va_S A s.heap s.heap locs → lv_has ls 3 [] → W p l e ({ frames := 2, cells := 0, slots := 0, locals := 42 } : Room) s m ([.int p0, .int p1, .int p2] : List Value).toArray below meth c s.heap locs 0 0 Q (F0 m 57 ls [.int (zI w0)]) := by
    intro w0 locs ls hM hS hl
    unfold M_X7_canBe_57 at hM
    subst hM
    exact wk_retPi hx hb hr hlocks hQ (zI_nar _) rfl hS dX7_canBe_57
  have hB56 : ∀  (locs : List Loc) (ls : Array Slot), M_X7_canBe_56 p0 p1 p2 = out → va_S A s.heap s.heap locs → lv_has ls 3 [] → W p l e ({ frames := 2, cells := 0, slots := 0, locals := 42 } : Room) s m ([.int p0, .int p1, .int p2] : List Value).toArray below meth c s.heap locs 0 0 Q (F0 m 56 ls []) := by
    intro  locs ls hM hS hl
    unfold M_X7_canBe_56 at hM
    refine lv_iconst (v := (0 : Int32)) hx hb dX7_canBe_56 (by decide) ?_
    exact hB57 false  _ _ hM hS (lv_sub hl [] rfl)
  have hB32 : ∀  (locs : List Loc) (ls : Array Slot), M_X7_canBe_32 p0 p1 p2 = out → va_S A s.heap s.heap locs → lv_has ls 3 [(1, .int p1), (2, .int p2)] → W p l e ({ frames := 2, cells := 0, slots := 0, locals := 42 } : Room) s m ([.int p0, .int p1, .int p2] : List Value).toArray below meth c s.heap locs 0 0 Q (F0 m 32 ls []) := by
    intro  locs ls hM hS hl
    unfold M_X7_canBe_32 at hM
    refine lv_iload_n hx hb dX7_canBe_32 rfl (lv_at hl 0 rfl) ?_
    refine wk_callP (va_runS (As := [.int p1]) (rest := []) ⟨hx, hb, hml, hown, hts⟩ (c_X7_isBlock l dC dI cI cD cJ kk  p1 _ rfl s.heap) (va_cwS 1 hts gX7_canBe_X7_isBlock rfl rfl rfl (by decide +kernel) ⟨Nat.le_of_ble_eq_true rfl, Nat.le_of_ble_eq_true rfl⟩) (wk_preS hG hP hD [] rfl rfl) rfl rfl hl.1 rfl (lv_room (Nat.le_of_ble_eq_true rfl)) dX7_canBe_33 ⟨Nat.le_of_ble_eq_true rfl, Nat.le_of_ble_eq_true rfl⟩) hS (fun locs hS => ?_)
    refine lv_if_eq (tgt := 56) hx hb dX7_canBe_36 (by decide) (fun c1 => ?_) (fun c1 => ?_)
    · replace hM := (if_pos c1).symm.trans hM
      exact hB56   _ _ hM hS (lv_sub hl [] rfl)
    · replace hM := (if_neg c1).symm.trans hM
      refine lv_iload_n hx hb dX7_canBe_39 rfl (lv_at hl 1 rfl) ?_
      refine lv_sipush (v := (-999 : Int32)) hx hb dX7_canBe_40 (by decide) ?_
      refine lv_sipush (v := (999 : Int32)) hx hb dX7_canBe_43 (by decide) ?_
      refine wk_callP (va_runS (As := [.int p2, .int (-999 : Int32), .int (999 : Int32)]) (rest := []) ⟨hx, hb, hml, hown, hts⟩ (c_X7_within l dC dI cI cD cJ kk  p2 (-999 : Int32) (999 : Int32) _ rfl s.heap) (va_cwS 3 hts gX7_canBe_X7_within rfl rfl rfl (by decide +kernel) ⟨Nat.le_of_ble_eq_true rfl, Nat.le_of_ble_eq_true rfl⟩) (wk_preS hG hP hD [] rfl rfl) rfl rfl hl.1 rfl (lv_room (Nat.le_of_ble_eq_true rfl)) dX7_canBe_46 ⟨Nat.le_of_ble_eq_true rfl, Nat.le_of_ble_eq_true rfl⟩) hS (fun locs hS => ?_)
      refine lv_if_eq (tgt := 56) hx hb dX7_canBe_49 (by decide) (fun c2 => ?_) (fun c2 => ?_)
      · replace hM := (if_pos c2).symm.trans hM
        exact hB56   _ _ hM hS (lv_sub hl [] rfl)
      · replace hM := (if_neg c2).symm.trans hM
        refine lv_iconst (v := (1 : Int32)) hx hb dX7_canBe_52 (by decide) ?_
        refine lv_goto (tgt := 57) hx hb dX7_canBe_53 (by decide) ?_
        exact hB57 true  _ _ hM hS (lv_sub hl [] rfl)
  have hB77 : ∀ (w0 : Bool) (locs : List Loc) (ls : Array Slot), M_X7_canBe_77 p0 p1 p2 w0 = out → va_S A s.heap s.heap locs → lv_has ls 3 [] → W p l e ({ frames := 2, cells := 0, slots := 0, locals := 42 } : Room) s m ([.int p0, .int p1, .int p2] : List Value).toArray below meth c s.heap locs 0 0 Q (F0 m 77 ls [.int (zI w0)]) := by
    intro w0 locs ls hM hS hl
    unfold M_X7_canBe_77 at hM
    subst hM
    exact wk_retPi hx hb hr hlocks hQ (zI_nar _) rfl hS dX7_canBe_77
  have hB76 : ∀  (locs : List Loc) (ls : Array Slot), M_X7_canBe_76 p0 p1 p2 = out → va_S A s.heap s.heap locs → lv_has ls 3 [] → W p l e ({ frames := 2, cells := 0, slots := 0, locals := 42 } : Room) s m ([.int p0, .int p1, .int p2] : List Value).toArray below meth c s.heap locs 0 0 Q (F0 m 76 ls []) := by
    intro  locs ls hM hS hl
    unfold M_X7_canBe_76 at hM
    refine lv_iconst (v := (0 : Int32)) hx hb dX7_canBe_76 (by decide) ?_
    exact hB77 false  _ _ hM hS (lv_sub hl [] rfl)
  have hB91 : ∀ (w0 : Bool) (locs : List Loc) (ls : Array Slot), M_X7_canBe_91 p0 p1 p2 w0 = out → va_S A s.heap s.heap locs → lv_has ls 3 [] → W p l e ({ frames := 2, cells := 0, slots := 0, locals := 42 } : Room) s m ([.int p0, .int p1, .int p2] : List Value).toArray below meth c s.heap locs 0 0 Q (F0 m 91 ls [.int (zI w0)]) := by
    intro w0 locs ls hM hS hl
    unfold M_X7_canBe_91 at hM
    subst hM
    exact wk_retPi hx hb hr hlocks hQ (zI_nar _) rfl hS dX7_canBe_91
  have hB90 : ∀  (locs : List Loc) (ls : Array Slot), M_X7_canBe_90 p0 p1 p2 = out → va_S A s.heap s.heap locs → lv_has ls 3 [] → W p l e ({ frames := 2, cells := 0, slots := 0, locals := 42 } : Room) s m ([.int p0, .int p1, .int p2] : List Value).toArray below meth c s.heap locs 0 0 Q (F0 m 90 ls []) := by
    intro  locs ls hM hS hl
    unfold M_X7_canBe_90 at hM
    refine lv_iconst (v := (0 : Int32)) hx hb dX7_canBe_90 (by decide) ?_
    exact hB91 false  _ _ hM hS (lv_sub hl [] rfl)
  unfold M_X7_canBe at hM
  refine lv_iload_n hx hb dX7_canBe_0 rfl (lv_at hl 0 rfl) ?_
  by_cases c1 : p0 = 0
  · replace hM := (if_pos c1).symm.trans hM
    refine lv_tableIn (off := 31) (tgt := 32) hx hb dX7_canBe_1 (by rw [c1]; decide) (by rw [c1]; decide) (by rw [c1]; decide) (by decide) ?_
    exact hB32   _ _ hM hS (lv_sub hl [1, 2] rfl)
  replace hM := (if_neg c1).symm.trans hM
  by_cases c2 : p0 = 1
  · replace hM := (if_pos c2).symm.trans hM
    refine lv_tableIn (off := 31) (tgt := 32) hx hb dX7_canBe_1 (by rw [c2]; decide) (by rw [c2]; decide) (by rw [c2]; decide) (by decide) ?_
    exact hB32   _ _ hM hS (lv_sub hl [1, 2] rfl)
  replace hM := (if_neg c2).symm.trans hM
  by_cases c3 : p0 = 2
  · replace hM := (if_pos c3).symm.trans hM
    refine lv_tableIn (off := 57) (tgt := 58) hx hb dX7_canBe_1 (by rw [c3]; decide) (by rw [c3]; decide) (by rw [c3]; decide) (by decide) ?_
    refine lv_iload_n hx hb dX7_canBe_58 rfl (lv_at hl 1 rfl) ?_
    refine wk_callP (va_runS (As := [.int p1]) (rest := []) ⟨hx, hb, hml, hown, hts⟩ (c_X7_isBlock l dC dI cI cD cJ kk  p1 _ rfl s.heap) (va_cwS 1 hts gX7_canBe_X7_isBlock rfl rfl rfl (by decide +kernel) ⟨Nat.le_of_ble_eq_true rfl, Nat.le_of_ble_eq_true rfl⟩) (wk_preS hG hP hD [] rfl rfl) rfl rfl hl.1 rfl (lv_room (Nat.le_of_ble_eq_true rfl)) dX7_canBe_59 ⟨Nat.le_of_ble_eq_true rfl, Nat.le_of_ble_eq_true rfl⟩) hS (fun locs hS => ?_)
    refine lv_if_eq (tgt := 76) hx hb dX7_canBe_62 (by decide) (fun c4 => ?_) (fun c4 => ?_)
    · replace hM := (if_pos c4).symm.trans hM
      exact hB76   _ _ hM hS (lv_sub hl [] rfl)
    · replace hM := (if_neg c4).symm.trans hM
      refine lv_iload_n hx hb dX7_canBe_65 rfl (lv_at hl 2 rfl) ?_
      refine wk_callP (va_runS (As := [.int p2]) (rest := []) ⟨hx, hb, hml, hown, hts⟩ (c_X7_isBlock l dC dI cI cD cJ kk  p2 _ rfl s.heap) (va_cwS 1 hts gX7_canBe_X7_isBlock rfl rfl rfl (by decide +kernel) ⟨Nat.le_of_ble_eq_true rfl, Nat.le_of_ble_eq_true rfl⟩) (wk_preS hG hP hD [] rfl rfl) rfl rfl hl.1 rfl (lv_room (Nat.le_of_ble_eq_true rfl)) dX7_canBe_66 ⟨Nat.le_of_ble_eq_true rfl, Nat.le_of_ble_eq_true rfl⟩) hS (fun locs hS => ?_)
      refine lv_if_eq (tgt := 76) hx hb dX7_canBe_69 (by decide) (fun c5 => ?_) (fun c5 => ?_)
      · replace hM := (if_pos c5).symm.trans hM
        exact hB76   _ _ hM hS (lv_sub hl [] rfl)
      · replace hM := (if_neg c5).symm.trans hM
        refine lv_iconst (v := (1 : Int32)) hx hb dX7_canBe_72 (by decide) ?_
        refine lv_goto (tgt := 77) hx hb dX7_canBe_73 (by decide) ?_
        exact hB77 true  _ _ hM hS (lv_sub hl [] rfl)
  replace hM := (if_neg c3).symm.trans hM
  by_cases c6 : p0 = 3
  · replace hM := (if_pos c6).symm.trans hM
    refine lv_tableIn (off := 77) (tgt := 78) hx hb dX7_canBe_1 (by rw [c6]; decide) (by rw [c6]; decide) (by rw [c6]; decide) (by decide) ?_
    refine lv_iload_n hx hb dX7_canBe_78 rfl (lv_at hl 1 rfl) ?_
    refine lv_if_ne (tgt := 90) hx hb dX7_canBe_79 (by decide) (fun c7 => ?_) (fun c7 => ?_)
    · replace hM := (if_neg c7).symm.trans hM
      exact hB90   _ _ hM hS (lv_sub hl [] rfl)
    · replace hM := (if_pos c7).symm.trans hM
      refine lv_iload_n hx hb dX7_canBe_82 rfl (lv_at hl 2 rfl) ?_
      refine lv_if_ne (tgt := 90) hx hb dX7_canBe_83 (by decide) (fun c8 => ?_) (fun c8 => ?_)
      · replace hM := (if_neg c8).symm.trans hM
        exact hB90   _ _ hM hS (lv_sub hl [] rfl)
      · replace hM := (if_pos c8).symm.trans hM
        refine lv_iconst (v := (1 : Int32)) hx hb dX7_canBe_86 (by decide) ?_
        refine lv_goto (tgt := 91) hx hb dX7_canBe_87 (by decide) ?_
        exact hB91 true  _ _ hM hS (lv_sub hl [] rfl)
  replace hM := (if_neg c6).symm.trans hM
  have ec1 : (p0).toInt ≠ 0 := fun q => c1 (Int32.toInt_inj.mp (q.trans (by decide)))
  have ec2 : (p0).toInt ≠ 1 := fun q => c2 (Int32.toInt_inj.mp (q.trans (by decide)))
  have ec3 : (p0).toInt ≠ 2 := fun q => c3 (Int32.toInt_inj.mp (q.trans (by decide)))
  have ec6 : (p0).toInt ≠ 3 := fun q => c6 (Int32.toInt_inj.mp (q.trans (by decide)))
  refine lv_tableOut (tgt := 92) hx hb dX7_canBe_1 (by omega) (by decide) ?_
  refine lv_iconst (v := (0 : Int32)) hx hb dX7_canBe_92 (by decide) ?_
  subst hM
  exact wk_retPi hx hb hr hlocks hQ rfl rfl hS dX7_canBe_93
set_option maxHeartbeats 4000000 in
set_option maxRecDepth 100000 in
theorem c_X7_order (l : Launch) (dC : Nat → ClassId) (dI : Nat → Nat → Nat) (cI cD cJ : ClassId) (kk : wAd) (g : Nat → Nat) (x : MS) (p1 : Int32) (p2 : Int32) (p3 : Int32) (p4 : Int32) (p5 : Int32) (out : Int32 × MS) (hM : M_X7_order x p1 p2 p3 p4 p5 = some out) : CM l yX7_order wsX7_order ({ frames := 3, cells := 0, slots := 0, locals := 64 } : Room) dC dI (wTys cI cD cJ) [.ref (g 0), .int p1, .int p2, .int p3, .int p4, .int p5] (wMod cI g x) (some (.int out.1)) (wMod cI g out.2) 0 0 := by
  refine wk_enterM (cc := cX7_order) (maxL := 11) (ret := (some .int)) (by decide) rfl (Nat.le_of_ble_eq_true rfl) ?_
  intro p e s m below meth c A Q ls hB hA hP hD hQ hl
  obtain ⟨hx, hb, hml, hr, hts, hown, hname, hlocks, hG⟩ := hB
  have hown : s.vm.findClass RX7 = some m.cls := hown
  have hS : va_S A s.heap s.heap [] := va_S.rf
  have hl : lv_has ls 11 [(0, .ref (g 0)), (1, .int p1), (2, .int p2), (3, .int p3), (4, .int p4), (5, .int p5)] := hl
  have inX7 : ∀ w ∈ wsX70, w ∈ wsX7_order := fun _ h => List.mem_cons_of_mem _ (List.mem_append_right _ h)
  obtain ⟨H, hH⟩ : ∃ z, z = s.heap := ⟨_, rfl⟩
  have hP : va_P (dC, dI) vwCl (wMod cI g x) H := by rw [hH]; exact hP
  have hS : va_S A s.heap H [] := by rw [hH]; exact hS
  refine wk_at hH ?_
  generalize ([] : List Loc) = locs at hS ⊢
  have hL220 : ∀ (n220 : Nat) (u9 : Int32) (u10 : Int32) (y0 : MS) (H : Heap) (locs : List Loc) (ls : Array Slot), lpF (M_X7_order_220s x p1 p2 p3 p4 p5) n220 (u9, u10, y0) = some out → va_P (dC, dI) vwCl (wMod cI g y0) H → va_D A (wMod cI g y0) → va_S A s.heap H locs → lv_has ls 11 [(0, .ref (g 0)), (9, .int u9), (10, .int u10)] → W p l e ({ frames := 3, cells := 0, slots := 0, locals := 64 } : Room) s m ([.ref (g 0), .int p1, .int p2, .int p3, .int p4, .int p5] : List Value).toArray below meth c H locs 0 0 Q (F0 m 220 ls []) := by
    intro n220
    induction n220 with
    | zero => intro u9 u10 y0 H locs ls hM; exact lpF_0 hM
    | succ n220 ih220 =>
      intro u9 u10 y0 H locs ls hM hP hD hS hl
      replace hM : M_X7_order_220s x p1 p2 p3 p4 p5 (lpF (M_X7_order_220s x p1 p2 p3 p4 p5) n220) (u9, u10, y0) = some out := hM
      unfold M_X7_order_220s at hM
      try dsimp only at hM
      refine lv_iload hx hb dX7_order_220 (lv_at hl 2 rfl) ?_
      refine lv_iconst (v := (2 : Int32)) hx hb dX7_order_222 (by decide) ?_
      refine lv_icmp_ge (tgt := 287) hx hb dX7_order_223 (by decide) (fun c1 => ?_) (fun c1 => ?_)
      · replace hM := (if_pos c1).symm.trans hM
        refine lv_iload hx hb dX7_order_287 (lv_at hl 1 rfl) ?_
        replace hM := Option.some.inj hM
        subst hM
        exact wk_retMi hx hb hr hlocks hQ rfl rfl hP hD hS dX7_order_289
      · replace hM := (if_neg c1).symm.trans hM
        refine lv_aload_n hx hb dX7_order_226 rfl (lv_at hl 0 rfl) ?_
        refine lv_iload hx hb dX7_order_227 (lv_at hl 1 rfl) ?_
        refine lv_bipush (v := (10 : Int32)) hx hb dX7_order_229 (by decide) ?_
        refine lv_iload hx hb dX7_order_231 (lv_at hl 2 rfl) ?_
        refine lv_iadd hx hb dX7_order_233 ?_
        refine lv_aload_n hx hb dX7_order_234 rfl (lv_at hl 0 rfl) ?_
        refine va_get (D := (dC, dI)) (ci := 5) (v := .ref (g 1)) (C := RX7) (T := TX7) (N := 14) hx hb hts inX7 hown hG.1 hP 0 rfl rfl 0 (by decide) (hts (.fieldLink RX7 7 "WokenDriveModel" "now" "[I") (List.mem_of_getElem? (i := 1) rfl)) (fun _ h9 => h9) rfl dX7_order_235 ?_
        refine lv_iconst (v := (0 : Int32)) hx hb dX7_order_238 (by decide) ?_
        obtain ⟨v2, hv2, hM⟩ := ob hM
        refine wk_iald hx hb hG hP 1 0 rfl rfl hv2 dX7_order_239 ?_
        refine lv_aload_n hx hb dX7_order_240 rfl (lv_at hl 0 rfl) ?_
        refine lv_iload hx hb dX7_order_241 (lv_at hl 2 rfl) ?_
        refine lv_iconst (v := (1 : Int32)) hx hb dX7_order_243 (by decide) ?_
        obtain ⟨r3, hr3, hM⟩ := ob hM
        refine wk_callP (va_runV (As := [.int u10, .int (1 : Int32)]) (rest := [.int v2, .int ((10 : Int32) + u10), .int u9, .ref (g 0)]) ⟨hx, hb, hml, hown, hts⟩ (c_X7_control l dC dI cI cD cJ kk g y0 u10 (1 : Int32) _ hr3 H) (cwV 2 hts gX7_order_X7_control rfl rfl rfl (by decide +kernel) ⟨Nat.le_of_ble_eq_true rfl, Nat.le_of_ble_eq_true rfl⟩) (wk_preV (ci := 5) (q0 := 0) hG hP hD [0, 1, 2, 3, 4, 5, 6, 7] rfl rfl rfl rfl) rfl rfl hl.1 rfl (lv_room (Nat.le_of_ble_eq_true rfl)) dX7_order_244 ⟨Nat.le_of_ble_eq_true rfl, Nat.le_of_ble_eq_true rfl⟩) hS (fun locs hS => ?_)
        refine lv_iadd hx hb dX7_order_247 ?_
        obtain ⟨r4, hr4, hM⟩ := ob hM
        refine wk_callM (ws' := (wMod cI g r4)) (va_runV (As := [.int u9, .int ((10 : Int32) + u10), .int (v2 + r3)]) (rest := []) ⟨hx, hb, hml, hown, hts⟩ (c_X7_put l dC dI cI cD cJ kk g y0 u9 ((10 : Int32) + u10) (v2 + r3) _ hr4 H) (cwV 3 hts gX7_order_X7_put rfl rfl rfl (by decide +kernel) ⟨Nat.le_of_ble_eq_true rfl, Nat.le_of_ble_eq_true rfl⟩) (wk_preV (ci := 5) (q0 := 0) hG hP hD [0, 1, 2, 3, 4, 5, 6, 7] rfl rfl rfl rfl) rfl rfl hl.1 rfl (lv_room (Nat.le_of_ble_eq_true rfl)) dX7_order_248 ⟨Nat.le_of_ble_eq_true rfl, Nat.le_of_ble_eq_true rfl⟩) hP hD hS hA [0, 1, 2, 3, 4, 5, 6, 7] [] [0, 1, 2, 3, 4, 5, 6, 7] rfl rfl rfl (by decide) rfl rfl (fun H locs hP hD hS => ?_)
        refine lv_aload_n hx hb dX7_order_251 rfl (lv_at hl 0 rfl) ?_
        refine va_get (D := (dC, dI)) (ci := 5) (v := .ref (g 1)) (C := RX7) (T := TX7) (N := 14) hx hb hts inX7 hown hG.1 hP 0 rfl rfl 0 (by decide) (hts (.fieldLink RX7 7 "WokenDriveModel" "now" "[I") (List.mem_of_getElem? (i := 1) rfl)) (fun _ h9 => h9) rfl dX7_order_252 ?_
        refine lv_bipush (v := (36 : Int32)) hx hb dX7_order_255 (by decide) ?_
        refine lv_bipush (v := (40 : Int32)) hx hb dX7_order_257 (by decide) ?_
        refine lv_iload hx hb dX7_order_259 (lv_at hl 2 rfl) ?_
        refine lv_imul hx hb dX7_order_261 ?_
        refine lv_iadd hx hb dX7_order_262 ?_
        refine lv_aload_n hx hb dX7_order_263 rfl (lv_at hl 0 rfl) ?_
        refine lv_iload hx hb dX7_order_264 (lv_at hl 2 rfl) ?_
        refine lv_iconst (v := (3 : Int32)) hx hb dX7_order_266 (by decide) ?_
        obtain ⟨r5, hr5, hM⟩ := ob hM
        refine wk_callP (va_runV (As := [.int u10, .int (3 : Int32)]) (rest := [.int ((36 : Int32) + ((40 : Int32) * u10)), .ref (g 1)]) ⟨hx, hb, hml, hown, hts⟩ (c_X7_control l dC dI cI cD cJ kk g r4 u10 (3 : Int32) _ hr5 H) (cwV 2 hts gX7_order_X7_control rfl rfl rfl (by decide +kernel) ⟨Nat.le_of_ble_eq_true rfl, Nat.le_of_ble_eq_true rfl⟩) (wk_preV (ci := 5) (q0 := 0) hG hP hD [0, 1, 2, 3, 4, 5, 6, 7] rfl rfl rfl rfl) rfl rfl hl.1 rfl (lv_room (Nat.le_of_ble_eq_true rfl)) dX7_order_267 ⟨Nat.le_of_ble_eq_true rfl, Nat.le_of_ble_eq_true rfl⟩) hS (fun locs hS => ?_)
        refine lv_iadd hx hb dX7_order_270 ?_
        refine lv_iload hx hb dX7_order_271 (lv_at hl 1 rfl) ?_
        obtain ⟨f6, hf6, hM⟩ := ob hM
        refine wk_iast hx hb hG hP hD hS 1 0 rfl rfl hf6 dX7_order_273 (fun H locs hP hD hS => ?_)
        obtain ⟨y_7, hy_7, hM⟩ := tbE hM
        have hP : va_P (dC, dI) vwCl (wMod cI g y_7) H := by rw [hy_7]; exact hP
        have hD : va_D A (wMod cI g y_7) := by rw [hy_7]; exact hD
        refine lv_aload_n hx hb dX7_order_274 rfl (lv_at hl 0 rfl) ?_
        refine lv_iload hx hb dX7_order_275 (lv_at hl 2 rfl) ?_
        refine lv_iconst (v := (3 : Int32)) hx hb dX7_order_277 (by decide) ?_
        obtain ⟨r8, hr8, hM⟩ := ob hM
        refine wk_callM (ws' := (wMod cI g r8)) (va_runV (As := [.int u10, .int (3 : Int32)]) (rest := []) ⟨hx, hb, hml, hown, hts⟩ (c_X7_more l dC dI cI cD cJ kk g y_7 u10 (3 : Int32) _ hr8 H) (cwV 2 hts gX7_order_X7_more rfl rfl rfl (by decide +kernel) ⟨Nat.le_of_ble_eq_true rfl, Nat.le_of_ble_eq_true rfl⟩) (wk_preV (ci := 5) (q0 := 0) hG hP hD [0, 1, 2, 3, 4, 5, 6, 7] rfl rfl rfl rfl) rfl rfl hl.1 rfl (lv_room (Nat.le_of_ble_eq_true rfl)) dX7_order_278 ⟨Nat.le_of_ble_eq_true rfl, Nat.le_of_ble_eq_true rfl⟩) hP hD hS hA [0, 1, 2, 3, 4, 5, 6, 7] [] [0, 1, 2, 3, 4, 5, 6, 7] rfl rfl rfl (by decide) rfl rfl (fun H locs hP hD hS => ?_)
        refine lv_iinc (v := (u10 + 1)) (lv' := [(10, .int (u10 + 1)), (0, .ref (g 0)), (9, .int u9)]) hx hb dX7_order_281 hl (k := 2) rfl rfl (by decide) rfl (fun ls hl => ?_)
        refine lv_goto (tgt := 220) hx hb dX7_order_284 (by decide) ?_
        exact ih220 u9 (u10 + 1) r8 H _ _ hM hP hD hS (lv_sub hl [1, 2, 0] rfl)
  have hB96 : ∀ (w1 : Int32) (y0 : MS) (H : Heap) (locs : List Loc) (ls : Array Slot), M_X7_order_96 x p1 p2 p3 p4 p5 w1 y0 = some out → va_P (dC, dI) vwCl (wMod cI g y0) H → va_D A (wMod cI g y0) → va_S A s.heap H locs → lv_has ls 11 [(0, .ref (g 0)), (1, .int p1), (2, .int p2), (3, .int p3), (4, .int p4), (5, .int p5)] → W p l e ({ frames := 3, cells := 0, slots := 0, locals := 64 } : Room) s m ([.ref (g 0), .int p1, .int p2, .int p3, .int p4, .int p5] : List Value).toArray below meth c H locs 0 0 Q (F0 m 96 ls [.int w1, .ref (g 0)]) := by
    intro w1 y0 H locs ls hM hP hD hS hl
    unfold M_X7_order_96 at hM
    obtain ⟨r1, hr1, hM⟩ := tbE hM
    refine wk_callM (ws' := (wMod cI g r1.2)) (va_runV (As := [.int w1]) (rest := []) ⟨hx, hb, hml, hown, hts⟩ (c_X7_refused l dC dI cI cD cJ kk g y0 w1 _ hr1.symm H) (cwV 1 hts gX7_order_X7_refused rfl rfl rfl (by decide +kernel) ⟨Nat.le_of_ble_eq_true rfl, Nat.le_of_ble_eq_true rfl⟩) (wk_preV (ci := 5) (q0 := 0) hG hP hD [0, 1, 2, 3, 4, 5, 6, 7] rfl rfl rfl rfl) rfl rfl hl.1 rfl (lv_room (Nat.le_of_ble_eq_true rfl)) dX7_order_96 ⟨Nat.le_of_ble_eq_true rfl, Nat.le_of_ble_eq_true rfl⟩) hP hD hS hA [0, 1, 2, 3, 4, 5, 6, 7] [] [0, 1, 2, 3, 4, 5, 6, 7] rfl rfl rfl (by decide) rfl rfl (fun H locs hP hD hS => ?_)
    refine lv_if_eq (tgt := 104) hx hb dX7_order_99 (by decide) (fun c2 => ?_) (fun c2 => ?_)
    · replace hM := (if_pos c2).symm.trans hM
      refine lv_aload_n hx hb dX7_order_104 rfl (lv_at hl 0 rfl) ?_
      obtain ⟨r3, hr3, hM⟩ := ob hM
      refine wk_callM (ws' := (wMod cI g r3)) (va_runV (As := []) (rest := []) ⟨hx, hb, hml, hown, hts⟩ (c_X7_saves l dC dI cI cD cJ kk g r1.2 _ hr3 H) (cwV 0 hts gX7_order_X7_saves rfl rfl rfl (by decide +kernel) ⟨Nat.le_of_ble_eq_true rfl, Nat.le_of_ble_eq_true rfl⟩) (wk_preV (ci := 5) (q0 := 0) hG hP hD [0, 1, 2, 3, 4, 5, 6, 7] rfl rfl rfl rfl) rfl rfl hl.1 rfl (lv_room (Nat.le_of_ble_eq_true rfl)) dX7_order_105 ⟨Nat.le_of_ble_eq_true rfl, Nat.le_of_ble_eq_true rfl⟩) hP hD hS hA [0, 1, 2, 3, 4, 5, 6, 7] [] [0, 1, 2, 3, 4, 5, 6, 7] rfl rfl rfl (by decide) rfl rfl (fun H locs hP hD hS => ?_)
      refine lv_aload_n hx hb dX7_order_108 rfl (lv_at hl 0 rfl) ?_
      refine va_get (D := (dC, dI)) (ci := 5) (v := .ref (g 1)) (C := RX7) (T := TX7) (N := 14) hx hb hts inX7 hown hG.1 hP 0 rfl rfl 0 (by decide) (hts (.fieldLink RX7 7 "WokenDriveModel" "now" "[I") (List.mem_of_getElem? (i := 1) rfl)) (fun _ h9 => h9) rfl dX7_order_109 ?_
      refine lv_iconst (v := (1 : Int32)) hx hb dX7_order_112 (by decide) ?_
      obtain ⟨v4, hv4, hM⟩ := ob hM
      refine wk_iald hx hb hG hP 1 0 rfl rfl hv4 dX7_order_113 ?_
      refine lv_istore (lv' := [(9, .int v4), (0, .ref (g 0)), (1, .int p1), (2, .int p2), (3, .int p3), (4, .int p4), (5, .int p5)]) hx hb dX7_order_114 hl (by decide) rfl (fun ls hl => ?_)
      refine lv_aload_n hx hb dX7_order_116 rfl (lv_at hl 1 rfl) ?_
      refine va_get (D := (dC, dI)) (ci := 5) (v := .ref (g 1)) (C := RX7) (T := TX7) (N := 14) hx hb hts inX7 hown hG.1 hP 0 rfl rfl 0 (by decide) (hts (.fieldLink RX7 7 "WokenDriveModel" "now" "[I") (List.mem_of_getElem? (i := 1) rfl)) (fun _ h9 => h9) rfl dX7_order_117 ?_
      refine lv_iconst (v := (1 : Int32)) hx hb dX7_order_120 (by decide) ?_
      refine lv_dup2_11 hx hb dX7_order_121 rfl rfl ?_
      obtain ⟨v5, hv5, hM⟩ := ob hM
      refine wk_iald hx hb hG hP 1 0 rfl rfl hv5 dX7_order_122 ?_
      refine lv_iconst (v := (1 : Int32)) hx hb dX7_order_123 (by decide) ?_
      refine lv_iadd hx hb dX7_order_124 ?_
      obtain ⟨f6, hf6, hM⟩ := ob hM
      refine wk_iast hx hb hG hP hD hS 1 0 rfl rfl hf6 dX7_order_125 (fun H locs hP hD hS => ?_)
      obtain ⟨y_7, hy_7, hM⟩ := tbE hM
      have hP : va_P (dC, dI) vwCl (wMod cI g y_7) H := by rw [hy_7]; exact hP
      have hD : va_D A (wMod cI g y_7) := by rw [hy_7]; exact hD
      refine lv_aload_n hx hb dX7_order_126 rfl (lv_at hl 1 rfl) ?_
      refine lv_iload hx hb dX7_order_127 (lv_at hl 0 rfl) ?_
      refine lv_iconst (v := (0 : Int32)) hx hb dX7_order_129 (by decide) ?_
      refine lv_iload_n hx hb dX7_order_130 rfl (lv_at hl 2 rfl) ?_
      obtain ⟨r8, hr8, hM⟩ := ob hM
      refine wk_callM (ws' := (wMod cI g r8)) (va_runV (As := [.int v4, .int (0 : Int32), .int p1]) (rest := []) ⟨hx, hb, hml, hown, hts⟩ (c_X7_put l dC dI cI cD cJ kk g y_7 v4 (0 : Int32) p1 _ hr8 H) (cwV 3 hts gX7_order_X7_put rfl rfl rfl (by decide +kernel) ⟨Nat.le_of_ble_eq_true rfl, Nat.le_of_ble_eq_true rfl⟩) (wk_preV (ci := 5) (q0 := 0) hG hP hD [0, 1, 2, 3, 4, 5, 6, 7] rfl rfl rfl rfl) rfl rfl hl.1 rfl (lv_room (Nat.le_of_ble_eq_true rfl)) dX7_order_131 ⟨Nat.le_of_ble_eq_true rfl, Nat.le_of_ble_eq_true rfl⟩) hP hD hS hA [0, 1, 2, 3, 4, 5, 6, 7] [] [0, 1, 2, 3, 4, 5, 6, 7] rfl rfl rfl (by decide) rfl rfl (fun H locs hP hD hS => ?_)
      refine lv_aload_n hx hb dX7_order_134 rfl (lv_at hl 1 rfl) ?_
      refine lv_iload hx hb dX7_order_135 (lv_at hl 0 rfl) ?_
      refine lv_iconst (v := (1 : Int32)) hx hb dX7_order_137 (by decide) ?_
      refine lv_iload_n hx hb dX7_order_138 rfl (lv_at hl 3 rfl) ?_
      obtain ⟨r9, hr9, hM⟩ := ob hM
      refine wk_callM (ws' := (wMod cI g r9)) (va_runV (As := [.int v4, .int (1 : Int32), .int p2]) (rest := []) ⟨hx, hb, hml, hown, hts⟩ (c_X7_put l dC dI cI cD cJ kk g r8 v4 (1 : Int32) p2 _ hr9 H) (cwV 3 hts gX7_order_X7_put rfl rfl rfl (by decide +kernel) ⟨Nat.le_of_ble_eq_true rfl, Nat.le_of_ble_eq_true rfl⟩) (wk_preV (ci := 5) (q0 := 0) hG hP hD [0, 1, 2, 3, 4, 5, 6, 7] rfl rfl rfl rfl) rfl rfl hl.1 rfl (lv_room (Nat.le_of_ble_eq_true rfl)) dX7_order_139 ⟨Nat.le_of_ble_eq_true rfl, Nat.le_of_ble_eq_true rfl⟩) hP hD hS hA [0, 1, 2, 3, 4, 5, 6, 7] [] [0, 1, 2, 3, 4, 5, 6, 7] rfl rfl rfl (by decide) rfl rfl (fun H locs hP hD hS => ?_)
      refine lv_aload_n hx hb dX7_order_142 rfl (lv_at hl 1 rfl) ?_
      refine lv_iload hx hb dX7_order_143 (lv_at hl 0 rfl) ?_
      refine lv_iconst (v := (2 : Int32)) hx hb dX7_order_145 (by decide) ?_
      refine lv_iload_n hx hb dX7_order_146 rfl (lv_at hl 4 rfl) ?_
      obtain ⟨r10, hr10, hM⟩ := ob hM
      refine wk_callM (ws' := (wMod cI g r10)) (va_runV (As := [.int v4, .int (2 : Int32), .int p3]) (rest := []) ⟨hx, hb, hml, hown, hts⟩ (c_X7_put l dC dI cI cD cJ kk g r9 v4 (2 : Int32) p3 _ hr10 H) (cwV 3 hts gX7_order_X7_put rfl rfl rfl (by decide +kernel) ⟨Nat.le_of_ble_eq_true rfl, Nat.le_of_ble_eq_true rfl⟩) (wk_preV (ci := 5) (q0 := 0) hG hP hD [0, 1, 2, 3, 4, 5, 6, 7] rfl rfl rfl rfl) rfl rfl hl.1 rfl (lv_room (Nat.le_of_ble_eq_true rfl)) dX7_order_147 ⟨Nat.le_of_ble_eq_true rfl, Nat.le_of_ble_eq_true rfl⟩) hP hD hS hA [0, 1, 2, 3, 4, 5, 6, 7] [] [0, 1, 2, 3, 4, 5, 6, 7] rfl rfl rfl (by decide) rfl rfl (fun H locs hP hD hS => ?_)
      refine lv_aload_n hx hb dX7_order_150 rfl (lv_at hl 1 rfl) ?_
      refine lv_iload hx hb dX7_order_151 (lv_at hl 0 rfl) ?_
      refine lv_iconst (v := (3 : Int32)) hx hb dX7_order_153 (by decide) ?_
      refine lv_iload hx hb dX7_order_154 (lv_at hl 5 rfl) ?_
      obtain ⟨r11, hr11, hM⟩ := ob hM
      refine wk_callM (ws' := (wMod cI g r11)) (va_runV (As := [.int v4, .int (3 : Int32), .int p4]) (rest := []) ⟨hx, hb, hml, hown, hts⟩ (c_X7_put l dC dI cI cD cJ kk g r10 v4 (3 : Int32) p4 _ hr11 H) (cwV 3 hts gX7_order_X7_put rfl rfl rfl (by decide +kernel) ⟨Nat.le_of_ble_eq_true rfl, Nat.le_of_ble_eq_true rfl⟩) (wk_preV (ci := 5) (q0 := 0) hG hP hD [0, 1, 2, 3, 4, 5, 6, 7] rfl rfl rfl rfl) rfl rfl hl.1 rfl (lv_room (Nat.le_of_ble_eq_true rfl)) dX7_order_156 ⟨Nat.le_of_ble_eq_true rfl, Nat.le_of_ble_eq_true rfl⟩) hP hD hS hA [0, 1, 2, 3, 4, 5, 6, 7] [] [0, 1, 2, 3, 4, 5, 6, 7] rfl rfl rfl (by decide) rfl rfl (fun H locs hP hD hS => ?_)
      refine lv_aload_n hx hb dX7_order_159 rfl (lv_at hl 1 rfl) ?_
      refine lv_iload hx hb dX7_order_160 (lv_at hl 0 rfl) ?_
      refine lv_iconst (v := (4 : Int32)) hx hb dX7_order_162 (by decide) ?_
      refine lv_iload hx hb dX7_order_163 (lv_at hl 6 rfl) ?_
      obtain ⟨r12, hr12, hM⟩ := ob hM
      refine wk_callM (ws' := (wMod cI g r12)) (va_runV (As := [.int v4, .int (4 : Int32), .int p5]) (rest := []) ⟨hx, hb, hml, hown, hts⟩ (c_X7_put l dC dI cI cD cJ kk g r11 v4 (4 : Int32) p5 _ hr12 H) (cwV 3 hts gX7_order_X7_put rfl rfl rfl (by decide +kernel) ⟨Nat.le_of_ble_eq_true rfl, Nat.le_of_ble_eq_true rfl⟩) (wk_preV (ci := 5) (q0 := 0) hG hP hD [0, 1, 2, 3, 4, 5, 6, 7] rfl rfl rfl rfl) rfl rfl hl.1 rfl (lv_room (Nat.le_of_ble_eq_true rfl)) dX7_order_165 ⟨Nat.le_of_ble_eq_true rfl, Nat.le_of_ble_eq_true rfl⟩) hP hD hS hA [0, 1, 2, 3, 4, 5, 6, 7] [] [0, 1, 2, 3, 4, 5, 6, 7] rfl rfl rfl (by decide) rfl rfl (fun H locs hP hD hS => ?_)
      refine lv_aload_n hx hb dX7_order_168 rfl (lv_at hl 1 rfl) ?_
      refine lv_iload hx hb dX7_order_169 (lv_at hl 0 rfl) ?_
      refine lv_iconst (v := (5 : Int32)) hx hb dX7_order_171 (by decide) ?_
      refine lv_iconst (v := (0 : Int32)) hx hb dX7_order_172 (by decide) ?_
      obtain ⟨r13, hr13, hM⟩ := ob hM
      refine wk_callM (ws' := (wMod cI g r13)) (va_runV (As := [.int v4, .int (5 : Int32), .int (0 : Int32)]) (rest := []) ⟨hx, hb, hml, hown, hts⟩ (c_X7_put l dC dI cI cD cJ kk g r12 v4 (5 : Int32) (0 : Int32) _ hr13 H) (cwV 3 hts gX7_order_X7_put rfl rfl rfl (by decide +kernel) ⟨Nat.le_of_ble_eq_true rfl, Nat.le_of_ble_eq_true rfl⟩) (wk_preV (ci := 5) (q0 := 0) hG hP hD [0, 1, 2, 3, 4, 5, 6, 7] rfl rfl rfl rfl) rfl rfl hl.1 rfl (lv_room (Nat.le_of_ble_eq_true rfl)) dX7_order_173 ⟨Nat.le_of_ble_eq_true rfl, Nat.le_of_ble_eq_true rfl⟩) hP hD hS hA [0, 1, 2, 3, 4, 5, 6, 7] [] [0, 1, 2, 3, 4, 5, 6, 7] rfl rfl rfl (by decide) rfl rfl (fun H locs hP hD hS => ?_)
      refine lv_aload_n hx hb dX7_order_176 rfl (lv_at hl 1 rfl) ?_
      refine lv_iload hx hb dX7_order_177 (lv_at hl 0 rfl) ?_
      refine lv_bipush (v := (6 : Int32)) hx hb dX7_order_179 (by decide) ?_
      refine lv_iconst (v := (-1 : Int32)) hx hb dX7_order_181 (by decide) ?_
      obtain ⟨r14, hr14, hM⟩ := ob hM
      refine wk_callM (ws' := (wMod cI g r14)) (va_runV (As := [.int v4, .int (6 : Int32), .int (-1 : Int32)]) (rest := []) ⟨hx, hb, hml, hown, hts⟩ (c_X7_put l dC dI cI cD cJ kk g r13 v4 (6 : Int32) (-1 : Int32) _ hr14 H) (cwV 3 hts gX7_order_X7_put rfl rfl rfl (by decide +kernel) ⟨Nat.le_of_ble_eq_true rfl, Nat.le_of_ble_eq_true rfl⟩) (wk_preV (ci := 5) (q0 := 0) hG hP hD [0, 1, 2, 3, 4, 5, 6, 7] rfl rfl rfl rfl) rfl rfl hl.1 rfl (lv_room (Nat.le_of_ble_eq_true rfl)) dX7_order_182 ⟨Nat.le_of_ble_eq_true rfl, Nat.le_of_ble_eq_true rfl⟩) hP hD hS hA [0, 1, 2, 3, 4, 5, 6, 7] [] [0, 1, 2, 3, 4, 5, 6, 7] rfl rfl rfl (by decide) rfl rfl (fun H locs hP hD hS => ?_)
      refine lv_aload_n hx hb dX7_order_185 rfl (lv_at hl 1 rfl) ?_
      refine lv_iload hx hb dX7_order_186 (lv_at hl 0 rfl) ?_
      refine lv_bipush (v := (7 : Int32)) hx hb dX7_order_188 (by decide) ?_
      refine lv_aload_n hx hb dX7_order_190 rfl (lv_at hl 1 rfl) ?_
      refine va_get (D := (dC, dI)) (ci := 5) (v := .ref (g 1)) (C := RX7) (T := TX7) (N := 14) hx hb hts inX7 hown hG.1 hP 0 rfl rfl 0 (by decide) (hts (.fieldLink RX7 7 "WokenDriveModel" "now" "[I") (List.mem_of_getElem? (i := 1) rfl)) (fun _ h9 => h9) rfl dX7_order_191 ?_
      refine lv_iconst (v := (0 : Int32)) hx hb dX7_order_194 (by decide) ?_
      obtain ⟨v15, hv15, hM⟩ := ob hM
      refine wk_iald hx hb hG hP 1 0 rfl rfl hv15 dX7_order_195 ?_
      obtain ⟨r16, hr16, hM⟩ := ob hM
      refine wk_callM (ws' := (wMod cI g r16)) (va_runV (As := [.int v4, .int (7 : Int32), .int v15]) (rest := []) ⟨hx, hb, hml, hown, hts⟩ (c_X7_put l dC dI cI cD cJ kk g r14 v4 (7 : Int32) v15 _ hr16 H) (cwV 3 hts gX7_order_X7_put rfl rfl rfl (by decide +kernel) ⟨Nat.le_of_ble_eq_true rfl, Nat.le_of_ble_eq_true rfl⟩) (wk_preV (ci := 5) (q0 := 0) hG hP hD [0, 1, 2, 3, 4, 5, 6, 7] rfl rfl rfl rfl) rfl rfl hl.1 rfl (lv_room (Nat.le_of_ble_eq_true rfl)) dX7_order_196 ⟨Nat.le_of_ble_eq_true rfl, Nat.le_of_ble_eq_true rfl⟩) hP hD hS hA [0, 1, 2, 3, 4, 5, 6, 7] [] [0, 1, 2, 3, 4, 5, 6, 7] rfl rfl rfl (by decide) rfl rfl (fun H locs hP hD hS => ?_)
      refine lv_aload_n hx hb dX7_order_199 rfl (lv_at hl 1 rfl) ?_
      refine lv_iload hx hb dX7_order_200 (lv_at hl 0 rfl) ?_
      refine lv_bipush (v := (8 : Int32)) hx hb dX7_order_202 (by decide) ?_
      refine lv_iconst (v := (-1 : Int32)) hx hb dX7_order_204 (by decide) ?_
      obtain ⟨r17, hr17, hM⟩ := ob hM
      refine wk_callM (ws' := (wMod cI g r17)) (va_runV (As := [.int v4, .int (8 : Int32), .int (-1 : Int32)]) (rest := []) ⟨hx, hb, hml, hown, hts⟩ (c_X7_put l dC dI cI cD cJ kk g r16 v4 (8 : Int32) (-1 : Int32) _ hr17 H) (cwV 3 hts gX7_order_X7_put rfl rfl rfl (by decide +kernel) ⟨Nat.le_of_ble_eq_true rfl, Nat.le_of_ble_eq_true rfl⟩) (wk_preV (ci := 5) (q0 := 0) hG hP hD [0, 1, 2, 3, 4, 5, 6, 7] rfl rfl rfl rfl) rfl rfl hl.1 rfl (lv_room (Nat.le_of_ble_eq_true rfl)) dX7_order_205 ⟨Nat.le_of_ble_eq_true rfl, Nat.le_of_ble_eq_true rfl⟩) hP hD hS hA [0, 1, 2, 3, 4, 5, 6, 7] [] [0, 1, 2, 3, 4, 5, 6, 7] rfl rfl rfl (by decide) rfl rfl (fun H locs hP hD hS => ?_)
      refine lv_aload_n hx hb dX7_order_208 rfl (lv_at hl 1 rfl) ?_
      refine lv_iload hx hb dX7_order_209 (lv_at hl 0 rfl) ?_
      refine lv_bipush (v := (9 : Int32)) hx hb dX7_order_211 (by decide) ?_
      refine lv_iconst (v := (0 : Int32)) hx hb dX7_order_213 (by decide) ?_
      obtain ⟨r18, hr18, hM⟩ := ob hM
      refine wk_callM (ws' := (wMod cI g r18)) (va_runV (As := [.int v4, .int (9 : Int32), .int (0 : Int32)]) (rest := []) ⟨hx, hb, hml, hown, hts⟩ (c_X7_put l dC dI cI cD cJ kk g r17 v4 (9 : Int32) (0 : Int32) _ hr18 H) (cwV 3 hts gX7_order_X7_put rfl rfl rfl (by decide +kernel) ⟨Nat.le_of_ble_eq_true rfl, Nat.le_of_ble_eq_true rfl⟩) (wk_preV (ci := 5) (q0 := 0) hG hP hD [0, 1, 2, 3, 4, 5, 6, 7] rfl rfl rfl rfl) rfl rfl hl.1 rfl (lv_room (Nat.le_of_ble_eq_true rfl)) dX7_order_214 ⟨Nat.le_of_ble_eq_true rfl, Nat.le_of_ble_eq_true rfl⟩) hP hD hS hA [0, 1, 2, 3, 4, 5, 6, 7] [] [0, 1, 2, 3, 4, 5, 6, 7] rfl rfl rfl (by decide) rfl rfl (fun H locs hP hD hS => ?_)
      refine lv_iconst (v := (0 : Int32)) hx hb dX7_order_217 (by decide) ?_
      refine lv_istore (lv' := [(10, .int (0 : Int32)), (9, .int v4), (0, .ref (g 0)), (1, .int p1), (2, .int p2), (3, .int p3), (4, .int p4), (5, .int p5)]) hx hb dX7_order_218 hl (by decide) rfl (fun ls hl => ?_)
      exact hL220 64 v4 (0 : Int32) r18 H _ _ hM hP hD hS (lv_sub hl [2, 1, 0] rfl)
    · replace hM := (if_neg c2).symm.trans hM
      refine lv_iconst (v := (0 : Int32)) hx hb dX7_order_102 (by decide) ?_
      replace hM := Option.some.inj hM
      subst hM
      exact wk_retMi hx hb hr hlocks hQ rfl rfl hP hD hS dX7_order_103
  have hB91 : ∀ (y0 : MS) (H : Heap) (locs : List Loc) (ls : Array Slot), M_X7_order_91 x p1 p2 p3 p4 p5 y0 = some out → va_P (dC, dI) vwCl (wMod cI g y0) H → va_D A (wMod cI g y0) → va_S A s.heap H locs → lv_has ls 11 [(0, .ref (g 0)), (1, .int p1), (2, .int p2), (3, .int p3), (4, .int p4), (5, .int p5)] → W p l e ({ frames := 3, cells := 0, slots := 0, locals := 64 } : Room) s m ([.ref (g 0), .int p1, .int p2, .int p3, .int p4, .int p5] : List Value).toArray below meth c H locs 0 0 Q (F0 m 91 ls [.ref (g 0)]) := by
    intro y0 H locs ls hM hP hD hS hl
    unfold M_X7_order_91 at hM
    refine lv_iconst (v := (2 : Int32)) hx hb dX7_order_91 (by decide) ?_
    refine lv_goto (tgt := 96) hx hb dX7_order_92 (by decide) ?_
    exact hB96 (2 : Int32) y0 H _ _ hM hP hD hS (lv_sub hl [0, 1, 2, 3, 4, 5] rfl)
  have hB63 : ∀ (u6 : Bool) (w0 : Bool) (y0 : MS) (H : Heap) (locs : List Loc) (ls : Array Slot), M_X7_order_63 x p1 p2 p3 p4 p5 u6 w0 y0 = some out → va_P (dC, dI) vwCl (wMod cI g y0) H → va_D A (wMod cI g y0) → va_S A s.heap H locs → lv_has ls 11 [(0, .ref (g 0)), (1, .int p1), (2, .int p2), (3, .int p3), (4, .int p4), (5, .int p5), (6, .int (zI u6))] → W p l e ({ frames := 3, cells := 0, slots := 0, locals := 64 } : Room) s m ([.ref (g 0), .int p1, .int p2, .int p3, .int p4, .int p5] : List Value).toArray below meth c H locs 0 0 Q (F0 m 63 ls [.int (zI w0)]) := by
    intro u6 w0 y0 H locs ls hM hP hD hS hl
    unfold M_X7_order_63 at hM
    refine lv_istore (lv' := [(8, .int (zI w0)), (0, .ref (g 0)), (1, .int p1), (2, .int p2), (3, .int p3), (4, .int p4), (5, .int p5), (6, .int (zI u6))]) hx hb dX7_order_63 hl (by decide) rfl (fun ls hl => ?_)
    refine lv_aload_n hx hb dX7_order_65 rfl (lv_at hl 1 rfl) ?_
    refine lv_iload hx hb dX7_order_66 (lv_at hl 7 rfl) ?_
    refine lv_if_ne (tgt := 75) hx hb dX7_order_68 (by decide) (fun c1 => ?_) (fun c1 => ?_)
    · replace hM := (if_neg c1).symm.trans hM
      refine lv_aload_n hx hb dX7_order_75 rfl (lv_at hl 1 rfl) ?_
      refine va_get (D := (dC, dI)) (ci := 5) (v := .ref (g 1)) (C := RX7) (T := TX7) (N := 14) hx hb hts inX7 hown hG.1 hP 0 rfl rfl 0 (by decide) (hts (.fieldLink RX7 7 "WokenDriveModel" "now" "[I") (List.mem_of_getElem? (i := 1) rfl)) (fun _ h9 => h9) rfl dX7_order_76 ?_
      refine lv_iconst (v := (1 : Int32)) hx hb dX7_order_79 (by decide) ?_
      obtain ⟨v2, hv2, hM⟩ := ob hM
      refine wk_iald hx hb hG hP 1 0 rfl rfl hv2 dX7_order_80 ?_
      refine lv_bipush (v := (40 : Int32)) hx hb dX7_order_81 (by decide) ?_
      refine lv_icmp_eq (tgt := 91) hx hb dX7_order_83 (by decide) (fun c3 => ?_) (fun c3 => ?_)
      · replace hM := (if_pos c3).symm.trans hM
        exact hB91 y0 H _ _ hM hP hD hS (lv_sub hl [1, 2, 3, 4, 5, 6] rfl)
      · replace hM := (if_neg c3).symm.trans hM
        refine lv_iload hx hb dX7_order_86 (lv_at hl 0 rfl) ?_
        refine lv_if_ne (tgt := 95) hx hb dX7_order_88 (by decide) (fun c4 => ?_) (fun c4 => ?_)
        · replace hM := (if_neg c4).symm.trans hM
          refine lv_iconst (v := (0 : Int32)) hx hb dX7_order_95 (by decide) ?_
          exact hB96 (0 : Int32) y0 H _ _ hM hP hD hS (lv_sub hl [1, 2, 3, 4, 5, 6] rfl)
        · replace hM := (if_pos c4).symm.trans hM
          exact hB91 y0 H _ _ hM hP hD hS (lv_sub hl [1, 2, 3, 4, 5, 6] rfl)
    · replace hM := (if_pos c1).symm.trans hM
      refine lv_iconst (v := (1 : Int32)) hx hb dX7_order_71 (by decide) ?_
      refine lv_goto (tgt := 96) hx hb dX7_order_72 (by decide) ?_
      exact hB96 (1 : Int32) y0 H _ _ hM hP hD hS (lv_sub hl [1, 2, 3, 4, 5, 6] rfl)
  have hB58 : ∀ (u6 : Bool) (y0 : MS) (H : Heap) (locs : List Loc) (ls : Array Slot), M_X7_order_58 x p1 p2 p3 p4 p5 u6 y0 = some out → va_P (dC, dI) vwCl (wMod cI g y0) H → va_D A (wMod cI g y0) → va_S A s.heap H locs → lv_has ls 11 [(0, .ref (g 0)), (1, .int p1), (2, .int p2), (3, .int p3), (4, .int p4), (5, .int p5), (6, .int (zI u6))] → W p l e ({ frames := 3, cells := 0, slots := 0, locals := 64 } : Room) s m ([.ref (g 0), .int p1, .int p2, .int p3, .int p4, .int p5] : List Value).toArray below meth c H locs 0 0 Q (F0 m 58 ls []) := by
    intro u6 y0 H locs ls hM hP hD hS hl
    unfold M_X7_order_58 at hM
    refine lv_iconst (v := (1 : Int32)) hx hb dX7_order_58 (by decide) ?_
    refine lv_goto (tgt := 63) hx hb dX7_order_59 (by decide) ?_
    exact hB63 u6 true y0 H _ _ hM hP hD hS (lv_sub hl [0, 1, 2, 3, 4, 5, 6] rfl)
  have hB41 : ∀ (u6 : Bool) (w0 : Int32) (y0 : MS) (H : Heap) (locs : List Loc) (ls : Array Slot), M_X7_order_41 x p1 p2 p3 p4 p5 u6 w0 y0 = some out → va_P (dC, dI) vwCl (wMod cI g y0) H → va_D A (wMod cI g y0) → va_S A s.heap H locs → lv_has ls 11 [(0, .ref (g 0)), (1, .int p1), (2, .int p2), (3, .int p3), (4, .int p4), (5, .int p5), (6, .int (zI u6))] → W p l e ({ frames := 3, cells := 0, slots := 0, locals := 64 } : Room) s m ([.ref (g 0), .int p1, .int p2, .int p3, .int p4, .int p5] : List Value).toArray below meth c H locs 0 0 Q (F0 m 41 ls [.int w0]) := by
    intro u6 w0 y0 H locs ls hM hP hD hS hl
    unfold M_X7_order_41 at hM
    refine lv_istore (lv' := [(7, .int w0), (0, .ref (g 0)), (1, .int p1), (2, .int p2), (3, .int p3), (4, .int p4), (5, .int p5), (6, .int (zI u6))]) hx hb dX7_order_41 hl (by decide) rfl (fun ls hl => ?_)
    refine lv_iload hx hb dX7_order_43 (lv_at hl 0 rfl) ?_
    refine lv_iconst (v := (-1 : Int32)) hx hb dX7_order_45 (by decide) ?_
    refine lv_icmp_eq (tgt := 58) hx hb dX7_order_46 (by decide) (fun c1 => ?_) (fun c1 => ?_)
    · replace hM := (if_pos c1).symm.trans hM
      exact hB58 u6 y0 H _ _ hM hP hD hS (lv_sub hl [1, 2, 3, 4, 5, 6, 7] rfl)
    · replace hM := (if_neg c1).symm.trans hM
      refine lv_aload_n hx hb dX7_order_49 rfl (lv_at hl 1 rfl) ?_
      refine lv_iload hx hb dX7_order_50 (lv_at hl 0 rfl) ?_
      obtain ⟨r2, hr2, hM⟩ := ob hM
      refine wk_callP (va_runV (As := [.int w0]) (rest := []) ⟨hx, hb, hml, hown, hts⟩ (c_X7_isOpen l dC dI cI cD cJ kk g y0 w0 _ hr2 H) (cwV 1 hts gX7_order_X7_isOpen rfl rfl rfl (by decide +kernel) ⟨Nat.le_of_ble_eq_true rfl, Nat.le_of_ble_eq_true rfl⟩) (wk_preV (ci := 5) (q0 := 0) hG hP hD [0, 1, 2, 3, 4, 5, 6, 7] rfl rfl rfl rfl) rfl rfl hl.1 rfl (lv_room (Nat.le_of_ble_eq_true rfl)) dX7_order_52 ⟨Nat.le_of_ble_eq_true rfl, Nat.le_of_ble_eq_true rfl⟩) hS (fun locs hS => ?_)
      refine lv_if_ne (tgt := 62) hx hb dX7_order_55 (by decide) (fun c3 => ?_) (fun c3 => ?_)
      · replace hM := (if_neg c3).symm.trans hM
        refine lv_iconst (v := (0 : Int32)) hx hb dX7_order_62 (by decide) ?_
        exact hB63 u6 false y0 H _ _ hM hP hD hS (lv_sub hl [1, 2, 3, 4, 5, 6, 7] rfl)
      · replace hM := (if_pos c3).symm.trans hM
        exact hB58 u6 y0 H _ _ hM hP hD hS (lv_sub hl [1, 2, 3, 4, 5, 6, 7] rfl)
  have hB24 : ∀ (w0 : Bool) (y0 : MS) (H : Heap) (locs : List Loc) (ls : Array Slot), M_X7_order_24 x p1 p2 p3 p4 p5 w0 y0 = some out → va_P (dC, dI) vwCl (wMod cI g y0) H → va_D A (wMod cI g y0) → va_S A s.heap H locs → lv_has ls 11 [(0, .ref (g 0)), (1, .int p1), (2, .int p2), (3, .int p3), (4, .int p4), (5, .int p5)] → W p l e ({ frames := 3, cells := 0, slots := 0, locals := 64 } : Room) s m ([.ref (g 0), .int p1, .int p2, .int p3, .int p4, .int p5] : List Value).toArray below meth c H locs 0 0 Q (F0 m 24 ls [.int (zI w0)]) := by
    intro w0 y0 H locs ls hM hP hD hS hl
    unfold M_X7_order_24 at hM
    refine lv_istore (lv' := [(6, .int (zI w0)), (0, .ref (g 0)), (1, .int p1), (2, .int p2), (3, .int p3), (4, .int p4), (5, .int p5)]) hx hb dX7_order_24 hl (by decide) rfl (fun ls hl => ?_)
    refine lv_iload hx hb dX7_order_26 (lv_at hl 0 rfl) ?_
    refine lv_if_eq (tgt := 40) hx hb dX7_order_28 (by decide) (fun c1 => ?_) (fun c1 => ?_)
    · replace hM := (if_pos c1).symm.trans hM
      refine lv_iconst (v := (-1 : Int32)) hx hb dX7_order_40 (by decide) ?_
      exact hB41 w0 (-1 : Int32) y0 H _ _ hM hP hD hS (lv_sub hl [1, 2, 3, 4, 5, 6, 0] rfl)
    · replace hM := (if_neg c1).symm.trans hM
      refine lv_aload_n hx hb dX7_order_31 rfl (lv_at hl 1 rfl) ?_
      refine lv_iload_n hx hb dX7_order_32 rfl (lv_at hl 2 rfl) ?_
      refine lv_iload_n hx hb dX7_order_33 rfl (lv_at hl 3 rfl) ?_
      obtain ⟨r2, hr2, hM⟩ := ob hM
      refine wk_callP (va_runV (As := [.int p1, .int p2]) (rest := []) ⟨hx, hb, hml, hown, hts⟩ (c_X7_latest l dC dI cI cD cJ kk g y0 p1 p2 _ hr2 H) (cwV 2 hts gX7_order_X7_latest rfl rfl rfl (by decide +kernel) ⟨Nat.le_of_ble_eq_true rfl, Nat.le_of_ble_eq_true rfl⟩) (wk_preV (ci := 5) (q0 := 0) hG hP hD [0, 1, 2, 3, 4, 5, 6, 7] rfl rfl rfl rfl) rfl rfl hl.1 rfl (lv_room (Nat.le_of_ble_eq_true rfl)) dX7_order_34 ⟨Nat.le_of_ble_eq_true rfl, Nat.le_of_ble_eq_true rfl⟩) hS (fun locs hS => ?_)
      refine lv_goto (tgt := 41) hx hb dX7_order_37 (by decide) ?_
      exact hB41 w0 r2 y0 H _ _ hM hP hD hS (lv_sub hl [1, 2, 3, 4, 5, 6, 0] rfl)
  have hB23 : ∀ (y0 : MS) (H : Heap) (locs : List Loc) (ls : Array Slot), M_X7_order_23 x p1 p2 p3 p4 p5 y0 = some out → va_P (dC, dI) vwCl (wMod cI g y0) H → va_D A (wMod cI g y0) → va_S A s.heap H locs → lv_has ls 11 [(0, .ref (g 0)), (1, .int p1), (2, .int p2), (3, .int p3), (4, .int p4), (5, .int p5)] → W p l e ({ frames := 3, cells := 0, slots := 0, locals := 64 } : Room) s m ([.ref (g 0), .int p1, .int p2, .int p3, .int p4, .int p5] : List Value).toArray below meth c H locs 0 0 Q (F0 m 23 ls []) := by
    intro y0 H locs ls hM hP hD hS hl
    unfold M_X7_order_23 at hM
    refine lv_iconst (v := (0 : Int32)) hx hb dX7_order_23 (by decide) ?_
    exact hB24 false y0 H _ _ hM hP hD hS (lv_sub hl [0, 1, 2, 3, 4, 5] rfl)
  unfold M_X7_order at hM
  refine lv_iload_n hx hb dX7_order_0 rfl (lv_at hl 1 rfl) ?_
  refine lv_iload_n hx hb dX7_order_1 rfl (lv_at hl 2 rfl) ?_
  refine wk_callP (va_runS (As := [.int p1, .int p2]) (rest := []) ⟨hx, hb, hml, hown, hts⟩ (c_X7_isTag l dC dI cI cD cJ kk  p1 p2 _ rfl H) (va_cwS 2 hts gX7_order_X7_isTag rfl rfl rfl (by decide +kernel) ⟨Nat.le_of_ble_eq_true rfl, Nat.le_of_ble_eq_true rfl⟩) (wk_preS hG hP hD [] rfl rfl) rfl rfl hl.1 rfl (lv_room (Nat.le_of_ble_eq_true rfl)) dX7_order_2 ⟨Nat.le_of_ble_eq_true rfl, Nat.le_of_ble_eq_true rfl⟩) hS (fun locs hS => ?_)
  refine lv_if_eq (tgt := 23) hx hb dX7_order_5 (by decide) (fun c1 => ?_) (fun c1 => ?_)
  · replace hM := (if_pos c1).symm.trans hM
    exact hB23 x H _ _ hM hP hD hS (lv_sub hl [0, 1, 2, 3, 4, 5] rfl)
  · replace hM := (if_neg c1).symm.trans hM
    refine lv_iload_n hx hb dX7_order_8 rfl (lv_at hl 3 rfl) ?_
    refine lv_iload hx hb dX7_order_9 (lv_at hl 4 rfl) ?_
    refine lv_iload hx hb dX7_order_11 (lv_at hl 5 rfl) ?_
    refine wk_callP (va_runS (As := [.int p3, .int p4, .int p5]) (rest := []) ⟨hx, hb, hml, hown, hts⟩ (c_X7_canBe l dC dI cI cD cJ kk  p3 p4 p5 _ rfl H) (va_cwS 3 hts gX7_order_X7_canBe rfl rfl rfl (by decide +kernel) ⟨Nat.le_of_ble_eq_true rfl, Nat.le_of_ble_eq_true rfl⟩) (wk_preS hG hP hD [] rfl rfl) rfl rfl hl.1 rfl (lv_room (Nat.le_of_ble_eq_true rfl)) dX7_order_13 ⟨Nat.le_of_ble_eq_true rfl, Nat.le_of_ble_eq_true rfl⟩) hS (fun locs hS => ?_)
    refine lv_if_eq (tgt := 23) hx hb dX7_order_16 (by decide) (fun c2 => ?_) (fun c2 => ?_)
    · replace hM := (if_pos c2).symm.trans hM
      exact hB23 x H _ _ hM hP hD hS (lv_sub hl [0, 1, 2, 3, 4, 5] rfl)
    · replace hM := (if_neg c2).symm.trans hM
      refine lv_iconst (v := (1 : Int32)) hx hb dX7_order_19 (by decide) ?_
      refine lv_goto (tgt := 24) hx hb dX7_order_20 (by decide) ?_
      exact hB24 true x H _ _ hM hP hD hS (lv_sub hl [0, 1, 2, 3, 4, 5] rfl)
set_option maxHeartbeats 4000000 in
set_option maxRecDepth 100000 in
theorem c_X7_cancel (l : Launch) (dC : Nat → ClassId) (dI : Nat → Nat → Nat) (cI cD cJ : ClassId) (kk : wAd) (g : Nat → Nat) (x : MS) (p1 : Int32) (p2 : Int32) (out : Int32 × MS) (hM : M_X7_cancel x p1 p2 = some out) : CM l yX7_cancel wsX7_cancel ({ frames := 2, cells := 0, slots := 0, locals := 46 } : Room) dC dI (wTys cI cD cJ) [.ref (g 0), .int p1, .int p2] (wMod cI g x) (some (.int out.1)) (wMod cI g out.2) 0 0 := by
  refine wk_enterM (cc := cX7_cancel) (maxL := 6) (ret := (some .int)) (by decide) rfl (Nat.le_of_ble_eq_true rfl) ?_
  intro p e s m below meth c A Q ls hB hA hP hD hQ hl
  obtain ⟨hx, hb, hml, hr, hts, hown, hname, hlocks, hG⟩ := hB
  have hown : s.vm.findClass RX7 = some m.cls := hown
  have hS : va_S A s.heap s.heap [] := va_S.rf
  have hl : lv_has ls 6 [(0, .ref (g 0)), (1, .int p1), (2, .int p2)] := hl
  obtain ⟨H, hH⟩ : ∃ z, z = s.heap := ⟨_, rfl⟩
  have hP : va_P (dC, dI) vwCl (wMod cI g x) H := by rw [hH]; exact hP
  have hS : va_S A s.heap H [] := by rw [hH]; exact hS
  refine wk_at hH ?_
  generalize ([] : List Loc) = locs at hS ⊢
  have hB64 : ∀ (u4 : Int32) (w1 : Int32) (y0 : MS) (H : Heap) (locs : List Loc) (ls : Array Slot), M_X7_cancel_64 x p1 p2 u4 w1 y0 = some out → va_P (dC, dI) vwCl (wMod cI g y0) H → va_D A (wMod cI g y0) → va_S A s.heap H locs → lv_has ls 6 [(0, .ref (g 0)), (4, .int u4)] → W p l e ({ frames := 2, cells := 0, slots := 0, locals := 46 } : Room) s m ([.ref (g 0), .int p1, .int p2] : List Value).toArray below meth c H locs 0 0 Q (F0 m 64 ls [.int w1, .ref (g 0)]) := by
    intro u4 w1 y0 H locs ls hM hP hD hS hl
    unfold M_X7_cancel_64 at hM
    obtain ⟨r1, hr1, hM⟩ := tbE hM
    refine wk_callM (ws' := (wMod cI g r1.2)) (va_runV (As := [.int w1]) (rest := []) ⟨hx, hb, hml, hown, hts⟩ (c_X7_refused l dC dI cI cD cJ kk g y0 w1 _ hr1.symm H) (cwV 1 hts gX7_cancel_X7_refused rfl rfl rfl (by decide +kernel) ⟨Nat.le_of_ble_eq_true rfl, Nat.le_of_ble_eq_true rfl⟩) (wk_preV (ci := 5) (q0 := 0) hG hP hD [0, 1, 2, 3, 4, 5, 6, 7] rfl rfl rfl rfl) rfl rfl hl.1 rfl (lv_room (Nat.le_of_ble_eq_true rfl)) dX7_cancel_64 ⟨Nat.le_of_ble_eq_true rfl, Nat.le_of_ble_eq_true rfl⟩) hP hD hS hA [0, 1, 2, 3, 4, 5, 6, 7] [] [0, 1, 2, 3, 4, 5, 6, 7] rfl rfl rfl (by decide) rfl rfl (fun H locs hP hD hS => ?_)
    refine lv_if_eq (tgt := 72) hx hb dX7_cancel_67 (by decide) (fun c2 => ?_) (fun c2 => ?_)
    · replace hM := (if_pos c2).symm.trans hM
      refine lv_aload_n hx hb dX7_cancel_72 rfl (lv_at hl 0 rfl) ?_
      obtain ⟨r3, hr3, hM⟩ := ob hM
      refine wk_callM (ws' := (wMod cI g r3)) (va_runV (As := []) (rest := []) ⟨hx, hb, hml, hown, hts⟩ (c_X7_saves l dC dI cI cD cJ kk g r1.2 _ hr3 H) (cwV 0 hts gX7_cancel_X7_saves rfl rfl rfl (by decide +kernel) ⟨Nat.le_of_ble_eq_true rfl, Nat.le_of_ble_eq_true rfl⟩) (wk_preV (ci := 5) (q0 := 0) hG hP hD [0, 1, 2, 3, 4, 5, 6, 7] rfl rfl rfl rfl) rfl rfl hl.1 rfl (lv_room (Nat.le_of_ble_eq_true rfl)) dX7_cancel_73 ⟨Nat.le_of_ble_eq_true rfl, Nat.le_of_ble_eq_true rfl⟩) hP hD hS hA [0, 1, 2, 3, 4, 5, 6, 7] [] [0, 1, 2, 3, 4, 5, 6, 7] rfl rfl rfl (by decide) rfl rfl (fun H locs hP hD hS => ?_)
      refine lv_aload_n hx hb dX7_cancel_76 rfl (lv_at hl 0 rfl) ?_
      refine lv_iload hx hb dX7_cancel_77 (lv_at hl 1 rfl) ?_
      refine lv_iconst (v := (5 : Int32)) hx hb dX7_cancel_79 (by decide) ?_
      refine lv_iconst (v := (3 : Int32)) hx hb dX7_cancel_80 (by decide) ?_
      obtain ⟨r4, hr4, hM⟩ := ob hM
      refine wk_callM (ws' := (wMod cI g r4)) (va_runV (As := [.int u4, .int (5 : Int32), .int (3 : Int32)]) (rest := []) ⟨hx, hb, hml, hown, hts⟩ (c_X7_put l dC dI cI cD cJ kk g r3 u4 (5 : Int32) (3 : Int32) _ hr4 H) (cwV 3 hts gX7_cancel_X7_put rfl rfl rfl (by decide +kernel) ⟨Nat.le_of_ble_eq_true rfl, Nat.le_of_ble_eq_true rfl⟩) (wk_preV (ci := 5) (q0 := 0) hG hP hD [0, 1, 2, 3, 4, 5, 6, 7] rfl rfl rfl rfl) rfl rfl hl.1 rfl (lv_room (Nat.le_of_ble_eq_true rfl)) dX7_cancel_81 ⟨Nat.le_of_ble_eq_true rfl, Nat.le_of_ble_eq_true rfl⟩) hP hD hS hA [0, 1, 2, 3, 4, 5, 6, 7] [] [0, 1, 2, 3, 4, 5, 6, 7] rfl rfl rfl (by decide) rfl rfl (fun H locs hP hD hS => ?_)
      refine lv_iload hx hb dX7_cancel_84 (lv_at hl 1 rfl) ?_
      replace hM := Option.some.inj hM
      subst hM
      exact wk_retMi hx hb hr hlocks hQ rfl rfl hP hD hS dX7_cancel_86
    · replace hM := (if_neg c2).symm.trans hM
      refine lv_iconst (v := (0 : Int32)) hx hb dX7_cancel_70 (by decide) ?_
      replace hM := Option.some.inj hM
      subst hM
      exact wk_retMi hx hb hr hlocks hQ rfl rfl hP hD hS dX7_cancel_71
  have hB43 : ∀ (u3 : Bool) (u4 : Int32) (w0 : Bool) (y0 : MS) (H : Heap) (locs : List Loc) (ls : Array Slot), M_X7_cancel_43 x p1 p2 u3 u4 w0 y0 = some out → va_P (dC, dI) vwCl (wMod cI g y0) H → va_D A (wMod cI g y0) → va_S A s.heap H locs → lv_has ls 6 [(0, .ref (g 0)), (3, .int (zI u3)), (4, .int u4)] → W p l e ({ frames := 2, cells := 0, slots := 0, locals := 46 } : Room) s m ([.ref (g 0), .int p1, .int p2] : List Value).toArray below meth c H locs 0 0 Q (F0 m 43 ls [.int (zI w0)]) := by
    intro u3 u4 w0 y0 H locs ls hM hP hD hS hl
    unfold M_X7_cancel_43 at hM
    refine lv_istore (lv' := [(5, .int (zI w0)), (0, .ref (g 0)), (3, .int (zI u3)), (4, .int u4)]) hx hb dX7_cancel_43 hl (by decide) rfl (fun ls hl => ?_)
    refine lv_aload_n hx hb dX7_cancel_45 rfl (lv_at hl 1 rfl) ?_
    refine lv_iload_n hx hb dX7_cancel_46 rfl (lv_at hl 2 rfl) ?_
    refine lv_if_ne (tgt := 54) hx hb dX7_cancel_47 (by decide) (fun c1 => ?_) (fun c1 => ?_)
    · replace hM := (if_neg c1).symm.trans hM
      refine lv_iload hx hb dX7_cancel_54 (lv_at hl 0 rfl) ?_
      refine lv_if_ne (tgt := 63) hx hb dX7_cancel_56 (by decide) (fun c2 => ?_) (fun c2 => ?_)
      · replace hM := (if_neg c2).symm.trans hM
        refine lv_iconst (v := (0 : Int32)) hx hb dX7_cancel_63 (by decide) ?_
        exact hB64 u4 (0 : Int32) y0 H _ _ hM hP hD hS (lv_sub hl [1, 3] rfl)
      · replace hM := (if_pos c2).symm.trans hM
        refine lv_iconst (v := (2 : Int32)) hx hb dX7_cancel_59 (by decide) ?_
        refine lv_goto (tgt := 64) hx hb dX7_cancel_60 (by decide) ?_
        exact hB64 u4 (2 : Int32) y0 H _ _ hM hP hD hS (lv_sub hl [1, 3] rfl)
    · replace hM := (if_pos c1).symm.trans hM
      refine lv_iconst (v := (1 : Int32)) hx hb dX7_cancel_50 (by decide) ?_
      refine lv_goto (tgt := 64) hx hb dX7_cancel_51 (by decide) ?_
      exact hB64 u4 (1 : Int32) y0 H _ _ hM hP hD hS (lv_sub hl [1, 3] rfl)
  have hB42 : ∀ (u3 : Bool) (u4 : Int32) (y0 : MS) (H : Heap) (locs : List Loc) (ls : Array Slot), M_X7_cancel_42 x p1 p2 u3 u4 y0 = some out → va_P (dC, dI) vwCl (wMod cI g y0) H → va_D A (wMod cI g y0) → va_S A s.heap H locs → lv_has ls 6 [(0, .ref (g 0)), (3, .int (zI u3)), (4, .int u4)] → W p l e ({ frames := 2, cells := 0, slots := 0, locals := 46 } : Room) s m ([.ref (g 0), .int p1, .int p2] : List Value).toArray below meth c H locs 0 0 Q (F0 m 42 ls []) := by
    intro u3 u4 y0 H locs ls hM hP hD hS hl
    unfold M_X7_cancel_42 at hM
    refine lv_iconst (v := (0 : Int32)) hx hb dX7_cancel_42 (by decide) ?_
    exact hB43 u3 u4 false y0 H _ _ hM hP hD hS (lv_sub hl [0, 1, 2] rfl)
  have hB20 : ∀ (u3 : Bool) (w0 : Int32) (y0 : MS) (H : Heap) (locs : List Loc) (ls : Array Slot), M_X7_cancel_20 x p1 p2 u3 w0 y0 = some out → va_P (dC, dI) vwCl (wMod cI g y0) H → va_D A (wMod cI g y0) → va_S A s.heap H locs → lv_has ls 6 [(0, .ref (g 0)), (3, .int (zI u3))] → W p l e ({ frames := 2, cells := 0, slots := 0, locals := 46 } : Room) s m ([.ref (g 0), .int p1, .int p2] : List Value).toArray below meth c H locs 0 0 Q (F0 m 20 ls [.int w0]) := by
    intro u3 w0 y0 H locs ls hM hP hD hS hl
    unfold M_X7_cancel_20 at hM
    refine lv_istore (lv' := [(4, .int w0), (0, .ref (g 0)), (3, .int (zI u3))]) hx hb dX7_cancel_20 hl (by decide) rfl (fun ls hl => ?_)
    refine lv_iload hx hb dX7_cancel_22 (lv_at hl 0 rfl) ?_
    refine lv_iconst (v := (-1 : Int32)) hx hb dX7_cancel_24 (by decide) ?_
    refine lv_icmp_eq (tgt := 42) hx hb dX7_cancel_25 (by decide) (fun c1 => ?_) (fun c1 => ?_)
    · replace hM := (if_pos c1).symm.trans hM
      exact hB42 u3 w0 y0 H _ _ hM hP hD hS (lv_sub hl [1, 2, 0] rfl)
    · replace hM := (if_neg c1).symm.trans hM
      refine lv_aload_n hx hb dX7_cancel_28 rfl (lv_at hl 1 rfl) ?_
      refine lv_iload hx hb dX7_cancel_29 (lv_at hl 0 rfl) ?_
      refine lv_iconst (v := (5 : Int32)) hx hb dX7_cancel_31 (by decide) ?_
      obtain ⟨r2, hr2, hM⟩ := ob hM
      refine wk_callP (va_runV (As := [.int w0, .int (5 : Int32)]) (rest := []) ⟨hx, hb, hml, hown, hts⟩ (c_X7_of l dC dI cI cD cJ kk g y0 w0 (5 : Int32) _ hr2 H) (cwV 2 hts gX7_cancel_X7_of rfl rfl rfl (by decide +kernel) ⟨Nat.le_of_ble_eq_true rfl, Nat.le_of_ble_eq_true rfl⟩) (wk_preV (ci := 5) (q0 := 0) hG hP hD [0, 1, 2, 3, 4, 5, 6, 7] rfl rfl rfl rfl) rfl rfl hl.1 rfl (lv_room (Nat.le_of_ble_eq_true rfl)) dX7_cancel_32 ⟨Nat.le_of_ble_eq_true rfl, Nat.le_of_ble_eq_true rfl⟩) hS (fun locs hS => ?_)
      refine lv_if_ne (tgt := 42) hx hb dX7_cancel_35 (by decide) (fun c3 => ?_) (fun c3 => ?_)
      · replace hM := (if_neg c3).symm.trans hM
        exact hB42 u3 w0 y0 H _ _ hM hP hD hS (lv_sub hl [1, 2, 0] rfl)
      · replace hM := (if_pos c3).symm.trans hM
        refine lv_iconst (v := (1 : Int32)) hx hb dX7_cancel_38 (by decide) ?_
        refine lv_goto (tgt := 43) hx hb dX7_cancel_39 (by decide) ?_
        exact hB43 u3 w0 true y0 H _ _ hM hP hD hS (lv_sub hl [1, 2, 0] rfl)
  unfold M_X7_cancel at hM
  refine lv_iload_n hx hb dX7_cancel_0 rfl (lv_at hl 1 rfl) ?_
  refine lv_iload_n hx hb dX7_cancel_1 rfl (lv_at hl 2 rfl) ?_
  refine wk_callP (va_runS (As := [.int p1, .int p2]) (rest := []) ⟨hx, hb, hml, hown, hts⟩ (c_X7_isTag l dC dI cI cD cJ kk  p1 p2 _ rfl H) (va_cwS 2 hts gX7_cancel_X7_isTag rfl rfl rfl (by decide +kernel) ⟨Nat.le_of_ble_eq_true rfl, Nat.le_of_ble_eq_true rfl⟩) (wk_preS hG hP hD [] rfl rfl) rfl rfl hl.1 rfl (lv_room (Nat.le_of_ble_eq_true rfl)) dX7_cancel_2 ⟨Nat.le_of_ble_eq_true rfl, Nat.le_of_ble_eq_true rfl⟩) hS (fun locs hS => ?_)
  refine lv_istore_n (lv' := [(3, .int (zI (M_X7_isTag p1 p2))), (0, .ref (g 0)), (1, .int p1), (2, .int p2)]) hx hb dX7_cancel_5 rfl hl (by decide) rfl (fun ls hl => ?_)
  refine lv_iload_n hx hb dX7_cancel_6 rfl (lv_at hl 0 rfl) ?_
  refine lv_if_eq (tgt := 19) hx hb dX7_cancel_7 (by decide) (fun c1 => ?_) (fun c1 => ?_)
  · replace hM := (if_pos c1).symm.trans hM
    refine lv_iconst (v := (-1 : Int32)) hx hb dX7_cancel_19 (by decide) ?_
    exact hB20 (M_X7_isTag p1 p2) (-1 : Int32) x H _ _ hM hP hD hS (lv_sub hl [1, 0] rfl)
  · replace hM := (if_neg c1).symm.trans hM
    refine lv_aload_n hx hb dX7_cancel_10 rfl (lv_at hl 1 rfl) ?_
    refine lv_iload_n hx hb dX7_cancel_11 rfl (lv_at hl 2 rfl) ?_
    refine lv_iload_n hx hb dX7_cancel_12 rfl (lv_at hl 3 rfl) ?_
    obtain ⟨r2, hr2, hM⟩ := ob hM
    refine wk_callP (va_runV (As := [.int p1, .int p2]) (rest := []) ⟨hx, hb, hml, hown, hts⟩ (c_X7_latest l dC dI cI cD cJ kk g x p1 p2 _ hr2 H) (cwV 2 hts gX7_cancel_X7_latest rfl rfl rfl (by decide +kernel) ⟨Nat.le_of_ble_eq_true rfl, Nat.le_of_ble_eq_true rfl⟩) (wk_preV (ci := 5) (q0 := 0) hG hP hD [0, 1, 2, 3, 4, 5, 6, 7] rfl rfl rfl rfl) rfl rfl hl.1 rfl (lv_room (Nat.le_of_ble_eq_true rfl)) dX7_cancel_13 ⟨Nat.le_of_ble_eq_true rfl, Nat.le_of_ble_eq_true rfl⟩) hS (fun locs hS => ?_)
    refine lv_goto (tgt := 20) hx hb dX7_cancel_16 (by decide) ?_
    exact hB20 (M_X7_isTag p1 p2) r2 x H _ _ hM hP hD hS (lv_sub hl [1, 0] rfl)
set_option maxHeartbeats 4000000 in
set_option maxRecDepth 100000 in
theorem c_X7_touches (l : Launch) (dC : Nat → ClassId) (dI : Nat → Nat → Nat) (cI cD cJ : ClassId) (kk : wAd) (g : Nat → Nat) (x : MS) (p1 : Int32) (p2 : Int32) (out : Bool) (hM : M_X7_touches x p1 p2 = some out) : CP l yX7_touches wsX7_touches ({ frames := 1, cells := 0, slots := 0, locals := 22 } : Room) dC dI (wTys cI cD cJ) [.ref (g 0), .int p1, .int p2] (wMod cI g x) (some (.int (zI out))) := by
  refine wk_enterP (cc := cX7_touches) (maxL := 4) (ret := (some .boolean)) (by decide) rfl (Nat.le_of_ble_eq_true rfl) ?_
  intro p e s m below meth c A Q ls hB hP hD hA hQ hl
  obtain ⟨hx, hb, hml, hr, hts, hown, hname, hlocks, hG⟩ := hB
  have hown : s.vm.findClass RX7 = some m.cls := hown
  have hS : va_S A s.heap s.heap [] := va_S.rf
  have hl : lv_has ls 4 [(0, .ref (g 0)), (1, .int p1), (2, .int p2)] := hl
  generalize ([] : List Loc) = locs at hS ⊢
  have hB55 : ∀ (w0 : Bool) (locs : List Loc) (ls : Array Slot), M_X7_touches_55 x p1 p2 w0 = some out → va_S A s.heap s.heap locs → lv_has ls 4 [] → W p l e ({ frames := 1, cells := 0, slots := 0, locals := 22 } : Room) s m ([.ref (g 0), .int p1, .int p2] : List Value).toArray below meth c s.heap locs 0 0 Q (F0 m 55 ls [.int (zI w0)]) := by
    intro w0 locs ls hM hS hl
    unfold M_X7_touches_55 at hM
    replace hM := Option.some.inj hM
    subst hM
    exact wk_retPi hx hb hr hlocks hQ (zI_nar _) rfl hS dX7_touches_55
  have hB50 : ∀  (locs : List Loc) (ls : Array Slot), M_X7_touches_50 x p1 p2 = some out → va_S A s.heap s.heap locs → lv_has ls 4 [] → W p l e ({ frames := 1, cells := 0, slots := 0, locals := 22 } : Room) s m ([.ref (g 0), .int p1, .int p2] : List Value).toArray below meth c s.heap locs 0 0 Q (F0 m 50 ls []) := by
    intro  locs ls hM hS hl
    unfold M_X7_touches_50 at hM
    refine lv_iconst (v := (1 : Int32)) hx hb dX7_touches_50 (by decide) ?_
    refine lv_goto (tgt := 55) hx hb dX7_touches_51 (by decide) ?_
    exact hB55 true  _ _ hM hS (lv_sub hl [] rfl)
  have hB54 : ∀  (locs : List Loc) (ls : Array Slot), M_X7_touches_54 x p1 p2 = some out → va_S A s.heap s.heap locs → lv_has ls 4 [] → W p l e ({ frames := 1, cells := 0, slots := 0, locals := 22 } : Room) s m ([.ref (g 0), .int p1, .int p2] : List Value).toArray below meth c s.heap locs 0 0 Q (F0 m 54 ls []) := by
    intro  locs ls hM hS hl
    unfold M_X7_touches_54 at hM
    refine lv_iconst (v := (0 : Int32)) hx hb dX7_touches_54 (by decide) ?_
    exact hB55 false  _ _ hM hS (lv_sub hl [] rfl)
  have hB25 : ∀ (w0 : Bool) (locs : List Loc) (ls : Array Slot), M_X7_touches_25 x p1 p2 w0 = some out → va_S A s.heap s.heap locs → lv_has ls 4 [(0, .ref (g 0)), (1, .int p1), (2, .int p2)] → W p l e ({ frames := 1, cells := 0, slots := 0, locals := 22 } : Room) s m ([.ref (g 0), .int p1, .int p2] : List Value).toArray below meth c s.heap locs 0 0 Q (F0 m 25 ls [.int (zI w0)]) := by
    intro w0 locs ls hM hS hl
    unfold M_X7_touches_25 at hM
    refine lv_istore_n (lv' := [(3, .int (zI w0)), (0, .ref (g 0)), (1, .int p1), (2, .int p2)]) hx hb dX7_touches_25 rfl hl (by decide) rfl (fun ls hl => ?_)
    refine lv_iload_n hx hb dX7_touches_26 rfl (lv_at hl 0 rfl) ?_
    refine lv_if_ne (tgt := 50) hx hb dX7_touches_27 (by decide) (fun c1 => ?_) (fun c1 => ?_)
    · replace hM := (if_neg c1).symm.trans hM
      exact hB50   _ _ hM hS (lv_sub hl [] rfl)
    · replace hM := (if_pos c1).symm.trans hM
      refine lv_aload_n hx hb dX7_touches_30 rfl (lv_at hl 1 rfl) ?_
      refine lv_iload_n hx hb dX7_touches_31 rfl (lv_at hl 2 rfl) ?_
      refine lv_iconst (v := (2 : Int32)) hx hb dX7_touches_32 (by decide) ?_
      obtain ⟨r2, hr2, hM⟩ := ob hM
      refine wk_callP (va_runV (As := [.int p1, .int (2 : Int32)]) (rest := []) ⟨hx, hb, hml, hown, hts⟩ (c_X7_of l dC dI cI cD cJ kk g x p1 (2 : Int32) _ hr2 s.heap) (cwV 2 hts gX7_touches_X7_of rfl rfl rfl (by decide +kernel) ⟨Nat.le_of_ble_eq_true rfl, Nat.le_of_ble_eq_true rfl⟩) (wk_preV (ci := 5) (q0 := 0) hG hP hD [0, 1, 2, 3, 4, 5, 6, 7] rfl rfl rfl rfl) rfl rfl hl.1 rfl (lv_room (Nat.le_of_ble_eq_true rfl)) dX7_touches_33 ⟨Nat.le_of_ble_eq_true rfl, Nat.le_of_ble_eq_true rfl⟩) hS (fun locs hS => ?_)
      refine lv_iconst (v := (2 : Int32)) hx hb dX7_touches_36 (by decide) ?_
      refine lv_icmp_ne (tgt := 54) hx hb dX7_touches_37 (by decide) (fun c3 => ?_) (fun c3 => ?_)
      · replace hM := (if_neg c3).symm.trans hM
        exact hB54   _ _ hM hS (lv_sub hl [] rfl)
      · replace hM := (if_pos c3).symm.trans hM
        refine lv_aload_n hx hb dX7_touches_40 rfl (lv_at hl 1 rfl) ?_
        refine lv_iload_n hx hb dX7_touches_41 rfl (lv_at hl 2 rfl) ?_
        refine lv_iconst (v := (4 : Int32)) hx hb dX7_touches_42 (by decide) ?_
        obtain ⟨r4, hr4, hM⟩ := ob hM
        refine wk_callP (va_runV (As := [.int p1, .int (4 : Int32)]) (rest := []) ⟨hx, hb, hml, hown, hts⟩ (c_X7_of l dC dI cI cD cJ kk g x p1 (4 : Int32) _ hr4 s.heap) (cwV 2 hts gX7_touches_X7_of rfl rfl rfl (by decide +kernel) ⟨Nat.le_of_ble_eq_true rfl, Nat.le_of_ble_eq_true rfl⟩) (wk_preV (ci := 5) (q0 := 0) hG hP hD [0, 1, 2, 3, 4, 5, 6, 7] rfl rfl rfl rfl) rfl rfl hl.1 rfl (lv_room (Nat.le_of_ble_eq_true rfl)) dX7_touches_43 ⟨Nat.le_of_ble_eq_true rfl, Nat.le_of_ble_eq_true rfl⟩) hS (fun locs hS => ?_)
        refine lv_iload_n hx hb dX7_touches_46 rfl (lv_at hl 3 rfl) ?_
        refine lv_icmp_ne (tgt := 54) hx hb dX7_touches_47 (by decide) (fun c5 => ?_) (fun c5 => ?_)
        · replace hM := (if_neg c5).symm.trans hM
          exact hB54   _ _ hM hS (lv_sub hl [] rfl)
        · replace hM := (if_pos c5).symm.trans hM
          exact hB50   _ _ hM hS (lv_sub hl [] rfl)
  have hB24 : ∀  (locs : List Loc) (ls : Array Slot), M_X7_touches_24 x p1 p2 = some out → va_S A s.heap s.heap locs → lv_has ls 4 [(0, .ref (g 0)), (1, .int p1), (2, .int p2)] → W p l e ({ frames := 1, cells := 0, slots := 0, locals := 22 } : Room) s m ([.ref (g 0), .int p1, .int p2] : List Value).toArray below meth c s.heap locs 0 0 Q (F0 m 24 ls []) := by
    intro  locs ls hM hS hl
    unfold M_X7_touches_24 at hM
    refine lv_iconst (v := (0 : Int32)) hx hb dX7_touches_24 (by decide) ?_
    exact hB25 false  _ _ hM hS (lv_sub hl [0, 1, 2] rfl)
  unfold M_X7_touches at hM
  refine lv_aload_n hx hb dX7_touches_0 rfl (lv_at hl 0 rfl) ?_
  refine lv_iload_n hx hb dX7_touches_1 rfl (lv_at hl 1 rfl) ?_
  refine lv_iconst (v := (2 : Int32)) hx hb dX7_touches_2 (by decide) ?_
  obtain ⟨r1, hr1, hM⟩ := ob hM
  refine wk_callP (va_runV (As := [.int p1, .int (2 : Int32)]) (rest := []) ⟨hx, hb, hml, hown, hts⟩ (c_X7_of l dC dI cI cD cJ kk g x p1 (2 : Int32) _ hr1 s.heap) (cwV 2 hts gX7_touches_X7_of rfl rfl rfl (by decide +kernel) ⟨Nat.le_of_ble_eq_true rfl, Nat.le_of_ble_eq_true rfl⟩) (wk_preV (ci := 5) (q0 := 0) hG hP hD [0, 1, 2, 3, 4, 5, 6, 7] rfl rfl rfl rfl) rfl rfl hl.1 rfl (lv_room (Nat.le_of_ble_eq_true rfl)) dX7_touches_3 ⟨Nat.le_of_ble_eq_true rfl, Nat.le_of_ble_eq_true rfl⟩) hS (fun locs hS => ?_)
  refine lv_iconst (v := (3 : Int32)) hx hb dX7_touches_6 (by decide) ?_
  refine lv_icmp_eq (tgt := 24) hx hb dX7_touches_7 (by decide) (fun c2 => ?_) (fun c2 => ?_)
  · replace hM := (if_pos c2).symm.trans hM
    exact hB24   _ _ hM hS (lv_sub hl [0, 1, 2] rfl)
  · replace hM := (if_neg c2).symm.trans hM
    refine lv_aload_n hx hb dX7_touches_10 rfl (lv_at hl 0 rfl) ?_
    refine lv_iload_n hx hb dX7_touches_11 rfl (lv_at hl 1 rfl) ?_
    refine lv_iconst (v := (3 : Int32)) hx hb dX7_touches_12 (by decide) ?_
    obtain ⟨r3, hr3, hM⟩ := ob hM
    refine wk_callP (va_runV (As := [.int p1, .int (3 : Int32)]) (rest := []) ⟨hx, hb, hml, hown, hts⟩ (c_X7_of l dC dI cI cD cJ kk g x p1 (3 : Int32) _ hr3 s.heap) (cwV 2 hts gX7_touches_X7_of rfl rfl rfl (by decide +kernel) ⟨Nat.le_of_ble_eq_true rfl, Nat.le_of_ble_eq_true rfl⟩) (wk_preV (ci := 5) (q0 := 0) hG hP hD [0, 1, 2, 3, 4, 5, 6, 7] rfl rfl rfl rfl) rfl rfl hl.1 rfl (lv_room (Nat.le_of_ble_eq_true rfl)) dX7_touches_13 ⟨Nat.le_of_ble_eq_true rfl, Nat.le_of_ble_eq_true rfl⟩) hS (fun locs hS => ?_)
    refine lv_iload_n hx hb dX7_touches_16 rfl (lv_at hl 2 rfl) ?_
    refine lv_icmp_ne (tgt := 24) hx hb dX7_touches_17 (by decide) (fun c4 => ?_) (fun c4 => ?_)
    · replace hM := (if_neg c4).symm.trans hM
      exact hB24   _ _ hM hS (lv_sub hl [0, 1, 2] rfl)
    · replace hM := (if_pos c4).symm.trans hM
      refine lv_iconst (v := (1 : Int32)) hx hb dX7_touches_20 (by decide) ?_
      refine lv_goto (tgt := 25) hx hb dX7_touches_21 (by decide) ?_
      exact hB25 true  _ _ hM hS (lv_sub hl [0, 1, 2] rfl)
set_option maxHeartbeats 4000000 in
set_option maxRecDepth 100000 in
theorem c_X7_waits (l : Launch) (dC : Nat → ClassId) (dI : Nat → Nat → Nat) (cI cD cJ : ClassId) (kk : wAd) (g : Nat → Nat) (x : MS) (p1 : Int32) (p2 : Int32) (out : Bool) (hM : M_X7_waits x p1 p2 = some out) : CP l yX7_waits wsX7_waits ({ frames := 2, cells := 0, slots := 0, locals := 45 } : Room) dC dI (wTys cI cD cJ) [.ref (g 0), .int p1, .int p2] (wMod cI g x) (some (.int (zI out))) := by
  refine wk_enterP (cc := cX7_waits) (maxL := 5) (ret := (some .boolean)) (by decide) rfl (Nat.le_of_ble_eq_true rfl) ?_
  intro p e s m below meth c A Q ls hB hP hD hA hQ hl
  obtain ⟨hx, hb, hml, hr, hts, hown, hname, hlocks, hG⟩ := hB
  have hown : s.vm.findClass RX7 = some m.cls := hown
  have hS : va_S A s.heap s.heap [] := va_S.rf
  have hl : lv_has ls 5 [(0, .ref (g 0)), (1, .int p1), (2, .int p2)] := hl
  generalize ([] : List Loc) = locs at hS ⊢
  have hL39 : ∀ (n39 : Nat) (u3 : Bool) (u4 : Int32) (locs : List Loc) (ls : Array Slot), lpF (M_X7_waits_39s x p1 p2) n39 (u3, u4) = some out → va_S A s.heap s.heap locs → lv_has ls 5 [(0, .ref (g 0)), (1, .int p1), (2, .int p2), (3, .int (zI u3)), (4, .int u4)] → W p l e ({ frames := 2, cells := 0, slots := 0, locals := 45 } : Room) s m ([.ref (g 0), .int p1, .int p2] : List Value).toArray below meth c s.heap locs 0 0 Q (F0 m 39 ls []) := by
    intro n39
    induction n39 with
    | zero => intro u3 u4 locs ls hM; exact lpF_0 hM
    | succ n39 ih39 =>
      have hB75 : ∀ (u4 : Int32) (w0 : Bool) (locs : List Loc) (ls : Array Slot), M_X7_waits_75 x p1 p2 (lpF (M_X7_waits_39s x p1 p2) n39) u4 w0 = some out → va_S A s.heap s.heap locs → lv_has ls 5 [(0, .ref (g 0)), (1, .int p1), (2, .int p2), (4, .int u4)] → W p l e ({ frames := 2, cells := 0, slots := 0, locals := 45 } : Room) s m ([.ref (g 0), .int p1, .int p2] : List Value).toArray below meth c s.heap locs 0 0 Q (F0 m 75 ls [.int (zI w0)]) := by
        intro u4 w0 locs ls hM hS hl
        unfold M_X7_waits_75 at hM
        refine lv_istore_n (lv' := [(3, .int (zI w0)), (0, .ref (g 0)), (1, .int p1), (2, .int p2), (4, .int u4)]) hx hb dX7_waits_75 rfl hl (by decide) rfl (fun ls hl => ?_)
        refine lv_iinc (v := (u4 + 1)) (lv' := [(4, .int (u4 + 1)), (3, .int (zI w0)), (0, .ref (g 0)), (1, .int p1), (2, .int p2)]) hx hb dX7_waits_76 hl (k := 4) rfl rfl (by decide) rfl (fun ls hl => ?_)
        refine lv_goto (tgt := 39) hx hb dX7_waits_79 (by decide) ?_
        exact ih39 w0 (u4 + 1)  _ _ hM hS (lv_sub hl [2, 3, 4, 1, 0] rfl)
      have hB70 : ∀ (u4 : Int32) (locs : List Loc) (ls : Array Slot), M_X7_waits_70 x p1 p2 (lpF (M_X7_waits_39s x p1 p2) n39) u4 = some out → va_S A s.heap s.heap locs → lv_has ls 5 [(0, .ref (g 0)), (1, .int p1), (2, .int p2), (4, .int u4)] → W p l e ({ frames := 2, cells := 0, slots := 0, locals := 45 } : Room) s m ([.ref (g 0), .int p1, .int p2] : List Value).toArray below meth c s.heap locs 0 0 Q (F0 m 70 ls []) := by
        intro u4 locs ls hM hS hl
        unfold M_X7_waits_70 at hM
        refine lv_iconst (v := (1 : Int32)) hx hb dX7_waits_70 (by decide) ?_
        refine lv_goto (tgt := 75) hx hb dX7_waits_71 (by decide) ?_
        exact hB75 u4 true  _ _ hM hS (lv_sub hl [0, 1, 2, 3] rfl)
      have hB74 : ∀ (u4 : Int32) (locs : List Loc) (ls : Array Slot), M_X7_waits_74 x p1 p2 (lpF (M_X7_waits_39s x p1 p2) n39) u4 = some out → va_S A s.heap s.heap locs → lv_has ls 5 [(0, .ref (g 0)), (1, .int p1), (2, .int p2), (4, .int u4)] → W p l e ({ frames := 2, cells := 0, slots := 0, locals := 45 } : Room) s m ([.ref (g 0), .int p1, .int p2] : List Value).toArray below meth c s.heap locs 0 0 Q (F0 m 74 ls []) := by
        intro u4 locs ls hM hS hl
        unfold M_X7_waits_74 at hM
        refine lv_iconst (v := (0 : Int32)) hx hb dX7_waits_74 (by decide) ?_
        exact hB75 u4 false  _ _ hM hS (lv_sub hl [0, 1, 2, 3] rfl)
      intro u3 u4 locs ls hM hS hl
      replace hM : M_X7_waits_39s x p1 p2 (lpF (M_X7_waits_39s x p1 p2) n39) (u3, u4) = some out := hM
      unfold M_X7_waits_39s at hM
      try dsimp only at hM
      refine lv_iload hx hb dX7_waits_39 (lv_at hl 4 rfl) ?_
      refine lv_bipush (v := (16 : Int32)) hx hb dX7_waits_41 (by decide) ?_
      refine lv_icmp_ge (tgt := 82) hx hb dX7_waits_43 (by decide) (fun c1 => ?_) (fun c1 => ?_)
      · replace hM := (if_pos c1).symm.trans hM
        refine lv_iload_n hx hb dX7_waits_82 rfl (lv_at hl 3 rfl) ?_
        replace hM := Option.some.inj hM
        subst hM
        exact wk_retPi hx hb hr hlocks hQ (zI_nar _) rfl hS dX7_waits_83
      · replace hM := (if_neg c1).symm.trans hM
        refine lv_iload_n hx hb dX7_waits_46 rfl (lv_at hl 3 rfl) ?_
        refine lv_if_ne (tgt := 70) hx hb dX7_waits_47 (by decide) (fun c2 => ?_) (fun c2 => ?_)
        · replace hM := (if_neg c2).symm.trans hM
          exact hB70 u4  _ _ hM hS (lv_sub hl [0, 1, 2, 4] rfl)
        · replace hM := (if_pos c2).symm.trans hM
          refine lv_aload_n hx hb dX7_waits_50 rfl (lv_at hl 0 rfl) ?_
          refine lv_iload_n hx hb dX7_waits_51 rfl (lv_at hl 1 rfl) ?_
          refine lv_iload hx hb dX7_waits_52 (lv_at hl 4 rfl) ?_
          obtain ⟨r3, hr3, hM⟩ := ob hM
          refine wk_callP (va_runV (As := [.int p1, .int u4]) (rest := []) ⟨hx, hb, hml, hown, hts⟩ (c_X7_touches l dC dI cI cD cJ kk g x p1 u4 _ hr3 s.heap) (cwV 2 hts gX7_waits_X7_touches rfl rfl rfl (by decide +kernel) ⟨Nat.le_of_ble_eq_true rfl, Nat.le_of_ble_eq_true rfl⟩) (wk_preV (ci := 5) (q0 := 0) hG hP hD [0, 1, 2, 3, 4, 5, 6, 7] rfl rfl rfl rfl) rfl rfl hl.1 rfl (lv_room (Nat.le_of_ble_eq_true rfl)) dX7_waits_54 ⟨Nat.le_of_ble_eq_true rfl, Nat.le_of_ble_eq_true rfl⟩) hS (fun locs hS => ?_)
          refine lv_if_eq (tgt := 74) hx hb dX7_waits_57 (by decide) (fun c4 => ?_) (fun c4 => ?_)
          · replace hM := (if_pos c4).symm.trans hM
            exact hB74 u4  _ _ hM hS (lv_sub hl [0, 1, 2, 4] rfl)
          · replace hM := (if_neg c4).symm.trans hM
            refine lv_aload_n hx hb dX7_waits_60 rfl (lv_at hl 0 rfl) ?_
            refine lv_iload_n hx hb dX7_waits_61 rfl (lv_at hl 2 rfl) ?_
            refine lv_iload hx hb dX7_waits_62 (lv_at hl 4 rfl) ?_
            obtain ⟨r5, hr5, hM⟩ := ob hM
            refine wk_callP (va_runV (As := [.int p2, .int u4]) (rest := []) ⟨hx, hb, hml, hown, hts⟩ (c_X7_touches l dC dI cI cD cJ kk g x p2 u4 _ hr5 s.heap) (cwV 2 hts gX7_waits_X7_touches rfl rfl rfl (by decide +kernel) ⟨Nat.le_of_ble_eq_true rfl, Nat.le_of_ble_eq_true rfl⟩) (wk_preV (ci := 5) (q0 := 0) hG hP hD [0, 1, 2, 3, 4, 5, 6, 7] rfl rfl rfl rfl) rfl rfl hl.1 rfl (lv_room (Nat.le_of_ble_eq_true rfl)) dX7_waits_64 ⟨Nat.le_of_ble_eq_true rfl, Nat.le_of_ble_eq_true rfl⟩) hS (fun locs hS => ?_)
            refine lv_if_eq (tgt := 74) hx hb dX7_waits_67 (by decide) (fun c6 => ?_) (fun c6 => ?_)
            · replace hM := (if_pos c6).symm.trans hM
              exact hB74 u4  _ _ hM hS (lv_sub hl [0, 1, 2, 4] rfl)
            · replace hM := (if_neg c6).symm.trans hM
              exact hB70 u4  _ _ hM hS (lv_sub hl [0, 1, 2, 4] rfl)
  have hB35 : ∀ (w0 : Bool) (locs : List Loc) (ls : Array Slot), M_X7_waits_35 x p1 p2 w0 = some out → va_S A s.heap s.heap locs → lv_has ls 5 [(0, .ref (g 0)), (1, .int p1), (2, .int p2)] → W p l e ({ frames := 2, cells := 0, slots := 0, locals := 45 } : Room) s m ([.ref (g 0), .int p1, .int p2] : List Value).toArray below meth c s.heap locs 0 0 Q (F0 m 35 ls [.int (zI w0)]) := by
    intro w0 locs ls hM hS hl
    unfold M_X7_waits_35 at hM
    refine lv_istore_n (lv' := [(3, .int (zI w0)), (0, .ref (g 0)), (1, .int p1), (2, .int p2)]) hx hb dX7_waits_35 rfl hl (by decide) rfl (fun ls hl => ?_)
    refine lv_iconst (v := (0 : Int32)) hx hb dX7_waits_36 (by decide) ?_
    refine lv_istore (lv' := [(4, .int (0 : Int32)), (3, .int (zI w0)), (0, .ref (g 0)), (1, .int p1), (2, .int p2)]) hx hb dX7_waits_37 hl (by decide) rfl (fun ls hl => ?_)
    exact hL39 64 w0 (0 : Int32)  _ _ hM hS (lv_sub hl [2, 3, 4, 1, 0] rfl)
  have hB30 : ∀  (locs : List Loc) (ls : Array Slot), M_X7_waits_30 x p1 p2 = some out → va_S A s.heap s.heap locs → lv_has ls 5 [(0, .ref (g 0)), (1, .int p1), (2, .int p2)] → W p l e ({ frames := 2, cells := 0, slots := 0, locals := 45 } : Room) s m ([.ref (g 0), .int p1, .int p2] : List Value).toArray below meth c s.heap locs 0 0 Q (F0 m 30 ls []) := by
    intro  locs ls hM hS hl
    unfold M_X7_waits_30 at hM
    refine lv_iconst (v := (1 : Int32)) hx hb dX7_waits_30 (by decide) ?_
    refine lv_goto (tgt := 35) hx hb dX7_waits_31 (by decide) ?_
    exact hB35 true  _ _ hM hS (lv_sub hl [0, 1, 2] rfl)
  unfold M_X7_waits at hM
  refine lv_aload_n hx hb dX7_waits_0 rfl (lv_at hl 0 rfl) ?_
  refine lv_iload_n hx hb dX7_waits_1 rfl (lv_at hl 2 rfl) ?_
  obtain ⟨r1, hr1, hM⟩ := ob hM
  refine wk_callP (va_runV (As := [.int p2]) (rest := []) ⟨hx, hb, hml, hown, hts⟩ (c_X7_isOpen l dC dI cI cD cJ kk g x p2 _ hr1 s.heap) (cwV 1 hts gX7_waits_X7_isOpen rfl rfl rfl (by decide +kernel) ⟨Nat.le_of_ble_eq_true rfl, Nat.le_of_ble_eq_true rfl⟩) (wk_preV (ci := 5) (q0 := 0) hG hP hD [0, 1, 2, 3, 4, 5, 6, 7] rfl rfl rfl rfl) rfl rfl hl.1 rfl (lv_room (Nat.le_of_ble_eq_true rfl)) dX7_waits_2 ⟨Nat.le_of_ble_eq_true rfl, Nat.le_of_ble_eq_true rfl⟩) hS (fun locs hS => ?_)
  refine lv_if_ne (tgt := 10) hx hb dX7_waits_5 (by decide) (fun c2 => ?_) (fun c2 => ?_)
  · replace hM := (if_neg c2).symm.trans hM
    refine lv_aload_n hx hb dX7_waits_10 rfl (lv_at hl 0 rfl) ?_
    refine lv_iload_n hx hb dX7_waits_11 rfl (lv_at hl 1 rfl) ?_
    refine lv_iconst (v := (2 : Int32)) hx hb dX7_waits_12 (by decide) ?_
    obtain ⟨r3, hr3, hM⟩ := ob hM
    refine wk_callP (va_runV (As := [.int p1, .int (2 : Int32)]) (rest := []) ⟨hx, hb, hml, hown, hts⟩ (c_X7_of l dC dI cI cD cJ kk g x p1 (2 : Int32) _ hr3 s.heap) (cwV 2 hts gX7_waits_X7_of rfl rfl rfl (by decide +kernel) ⟨Nat.le_of_ble_eq_true rfl, Nat.le_of_ble_eq_true rfl⟩) (wk_preV (ci := 5) (q0 := 0) hG hP hD [0, 1, 2, 3, 4, 5, 6, 7] rfl rfl rfl rfl) rfl rfl hl.1 rfl (lv_room (Nat.le_of_ble_eq_true rfl)) dX7_waits_13 ⟨Nat.le_of_ble_eq_true rfl, Nat.le_of_ble_eq_true rfl⟩) hS (fun locs hS => ?_)
    refine lv_iconst (v := (3 : Int32)) hx hb dX7_waits_16 (by decide) ?_
    refine lv_icmp_eq (tgt := 30) hx hb dX7_waits_17 (by decide) (fun c4 => ?_) (fun c4 => ?_)
    · replace hM := (if_pos c4).symm.trans hM
      exact hB30   _ _ hM hS (lv_sub hl [0, 1, 2] rfl)
    · replace hM := (if_neg c4).symm.trans hM
      refine lv_aload_n hx hb dX7_waits_20 rfl (lv_at hl 0 rfl) ?_
      refine lv_iload_n hx hb dX7_waits_21 rfl (lv_at hl 2 rfl) ?_
      refine lv_iconst (v := (2 : Int32)) hx hb dX7_waits_22 (by decide) ?_
      obtain ⟨r5, hr5, hM⟩ := ob hM
      refine wk_callP (va_runV (As := [.int p2, .int (2 : Int32)]) (rest := []) ⟨hx, hb, hml, hown, hts⟩ (c_X7_of l dC dI cI cD cJ kk g x p2 (2 : Int32) _ hr5 s.heap) (cwV 2 hts gX7_waits_X7_of rfl rfl rfl (by decide +kernel) ⟨Nat.le_of_ble_eq_true rfl, Nat.le_of_ble_eq_true rfl⟩) (wk_preV (ci := 5) (q0 := 0) hG hP hD [0, 1, 2, 3, 4, 5, 6, 7] rfl rfl rfl rfl) rfl rfl hl.1 rfl (lv_room (Nat.le_of_ble_eq_true rfl)) dX7_waits_23 ⟨Nat.le_of_ble_eq_true rfl, Nat.le_of_ble_eq_true rfl⟩) hS (fun locs hS => ?_)
      refine lv_iconst (v := (3 : Int32)) hx hb dX7_waits_26 (by decide) ?_
      refine lv_icmp_ne (tgt := 34) hx hb dX7_waits_27 (by decide) (fun c6 => ?_) (fun c6 => ?_)
      · replace hM := (if_neg c6).symm.trans hM
        refine lv_iconst (v := (0 : Int32)) hx hb dX7_waits_34 (by decide) ?_
        exact hB35 false  _ _ hM hS (lv_sub hl [0, 1, 2] rfl)
      · replace hM := (if_pos c6).symm.trans hM
        exact hB30   _ _ hM hS (lv_sub hl [0, 1, 2] rfl)
  · replace hM := (if_pos c2).symm.trans hM
    refine lv_iconst (v := (0 : Int32)) hx hb dX7_waits_8 (by decide) ?_
    replace hM := Option.some.inj hM
    subst hM
    exact wk_retPi hx hb hr hlocks hQ rfl rfl hS dX7_waits_9
set_option maxHeartbeats 4000000 in
set_option maxRecDepth 100000 in
theorem c_X7_firstWaited (l : Launch) (dC : Nat → ClassId) (dI : Nat → Nat → Nat) (cI cD cJ : ClassId) (kk : wAd) (g : Nat → Nat) (x : MS) (p1 : Int32) (out : Int32) (hM : M_X7_firstWaited x p1 = some out) : CP l yX7_firstWaited wsX7_firstWaited ({ frames := 3, cells := 0, slots := 0, locals := 69 } : Room) dC dI (wTys cI cD cJ) [.ref (g 0), .int p1] (wMod cI g x) (some (.int out)) := by
  refine wk_enterP (cc := cX7_firstWaited) (maxL := 3) (ret := (some .int)) (by decide) rfl (Nat.le_of_ble_eq_true rfl) ?_
  intro p e s m below meth c A Q ls hB hP hD hA hQ hl
  obtain ⟨hx, hb, hml, hr, hts, hown, hname, hlocks, hG⟩ := hB
  have hown : s.vm.findClass RX7 = some m.cls := hown
  have hS : va_S A s.heap s.heap [] := va_S.rf
  have hl : lv_has ls 3 [(0, .ref (g 0)), (1, .int p1)] := hl
  generalize ([] : List Loc) = locs at hS ⊢
  have hL2 : ∀ (n2 : Nat) (u2 : Int32) (locs : List Loc) (ls : Array Slot), lpF (M_X7_firstWaited_2s x p1) n2 (u2) = some out → va_S A s.heap s.heap locs → lv_has ls 3 [(0, .ref (g 0)), (1, .int p1), (2, .int u2)] → W p l e ({ frames := 3, cells := 0, slots := 0, locals := 69 } : Room) s m ([.ref (g 0), .int p1] : List Value).toArray below meth c s.heap locs 0 0 Q (F0 m 2 ls []) := by
    intro n2
    induction n2 with
    | zero => intro u2 locs ls hM; exact lpF_0 hM
    | succ n2 ih2 =>
      intro u2 locs ls hM hS hl
      replace hM : M_X7_firstWaited_2s x p1 (lpF (M_X7_firstWaited_2s x p1) n2) (u2) = some out := hM
      unfold M_X7_firstWaited_2s at hM
      try dsimp only at hM
      refine lv_iload_n hx hb dX7_firstWaited_2 rfl (lv_at hl 2 rfl) ?_
      refine lv_iload_n hx hb dX7_firstWaited_3 rfl (lv_at hl 1 rfl) ?_
      refine lv_icmp_ge (tgt := 24) hx hb dX7_firstWaited_4 (by decide) (fun c1 => ?_) (fun c1 => ?_)
      · replace hM := (if_pos c1).symm.trans hM
        refine lv_iconst (v := (-1 : Int32)) hx hb dX7_firstWaited_24 (by decide) ?_
        replace hM := Option.some.inj hM
        subst hM
        exact wk_retPi hx hb hr hlocks hQ rfl rfl hS dX7_firstWaited_25
      · replace hM := (if_neg c1).symm.trans hM
        refine lv_aload_n hx hb dX7_firstWaited_7 rfl (lv_at hl 0 rfl) ?_
        refine lv_iload_n hx hb dX7_firstWaited_8 rfl (lv_at hl 1 rfl) ?_
        refine lv_iload_n hx hb dX7_firstWaited_9 rfl (lv_at hl 2 rfl) ?_
        obtain ⟨r2, hr2, hM⟩ := ob hM
        refine wk_callP (va_runV (As := [.int p1, .int u2]) (rest := []) ⟨hx, hb, hml, hown, hts⟩ (c_X7_waits l dC dI cI cD cJ kk g x p1 u2 _ hr2 s.heap) (cwV 2 hts gX7_firstWaited_X7_waits rfl rfl rfl (by decide +kernel) ⟨Nat.le_of_ble_eq_true rfl, Nat.le_of_ble_eq_true rfl⟩) (wk_preV (ci := 5) (q0 := 0) hG hP hD [0, 1, 2, 3, 4, 5, 6, 7] rfl rfl rfl rfl) rfl rfl hl.1 rfl (lv_room (Nat.le_of_ble_eq_true rfl)) dX7_firstWaited_10 ⟨Nat.le_of_ble_eq_true rfl, Nat.le_of_ble_eq_true rfl⟩) hS (fun locs hS => ?_)
        refine lv_if_eq (tgt := 18) hx hb dX7_firstWaited_13 (by decide) (fun c3 => ?_) (fun c3 => ?_)
        · replace hM := (if_pos c3).symm.trans hM
          refine lv_iinc (v := (u2 + 1)) (lv' := [(2, .int (u2 + 1)), (0, .ref (g 0)), (1, .int p1)]) hx hb dX7_firstWaited_18 hl (k := 2) rfl rfl (by decide) rfl (fun ls hl => ?_)
          refine lv_goto (tgt := 2) hx hb dX7_firstWaited_21 (by decide) ?_
          exact ih2 (u2 + 1)  _ _ hM hS (lv_sub hl [1, 2, 0] rfl)
        · replace hM := (if_neg c3).symm.trans hM
          refine lv_iload_n hx hb dX7_firstWaited_16 rfl (lv_at hl 2 rfl) ?_
          replace hM := Option.some.inj hM
          subst hM
          exact wk_retPi hx hb hr hlocks hQ rfl rfl hS dX7_firstWaited_17
  unfold M_X7_firstWaited at hM
  refine lv_iconst (v := (0 : Int32)) hx hb dX7_firstWaited_0 (by decide) ?_
  refine lv_istore_n (lv' := [(2, .int (0 : Int32)), (0, .ref (g 0)), (1, .int p1)]) hx hb dX7_firstWaited_1 rfl hl (by decide) rfl (fun ls hl => ?_)
  exact hL2 64 (0 : Int32)  _ _ hM hS (lv_sub hl [1, 2, 0] rfl)
set_option maxHeartbeats 4000000 in
set_option maxRecDepth 100000 in
theorem c_X7_hasArrived (l : Launch) (dC : Nat → ClassId) (dI : Nat → Nat → Nat) (cI cD cJ : ClassId) (kk : wAd) (g : Nat → Nat) (x : MS) (p1 : Int32) (p2 : Int32) (out : Bool) (hM : M_X7_hasArrived x p1 p2 = some out) : CP l yX7_hasArrived wsX7_hasArrived ({ frames := 1, cells := 0, slots := 0, locals := 22 } : Room) dC dI (wTys cI cD cJ) [.ref (g 0), .int p1, .int p2] (wMod cI g x) (some (.int (zI out))) := by
  refine wk_enterP (cc := cX7_hasArrived) (maxL := 3) (ret := (some .boolean)) (by decide) rfl (Nat.le_of_ble_eq_true rfl) ?_
  intro p e s m below meth c A Q ls hB hP hD hA hQ hl
  obtain ⟨hx, hb, hml, hr, hts, hown, hname, hlocks, hG⟩ := hB
  have hown : s.vm.findClass RX7 = some m.cls := hown
  have hS : va_S A s.heap s.heap [] := va_S.rf
  have hl : lv_has ls 3 [(0, .ref (g 0)), (1, .int p1), (2, .int p2)] := hl
  have inX7 : ∀ w ∈ wsX70, w ∈ wsX7_hasArrived := fun _ h => List.mem_cons_of_mem _ (List.mem_append_right _ h)
  generalize ([] : List Loc) = locs at hS ⊢
  have hB23 : ∀ (w0 : Bool) (locs : List Loc) (ls : Array Slot), M_X7_hasArrived_23 x p1 p2 w0 = some out → va_S A s.heap s.heap locs → lv_has ls 3 [] → W p l e ({ frames := 1, cells := 0, slots := 0, locals := 22 } : Room) s m ([.ref (g 0), .int p1, .int p2] : List Value).toArray below meth c s.heap locs 0 0 Q (F0 m 23 ls [.int (zI w0)]) := by
    intro w0 locs ls hM hS hl
    unfold M_X7_hasArrived_23 at hM
    replace hM := Option.some.inj hM
    subst hM
    exact wk_retPi hx hb hr hlocks hQ (zI_nar _) rfl hS dX7_hasArrived_23
  unfold M_X7_hasArrived at hM
  refine lv_aload_n hx hb dX7_hasArrived_0 rfl (lv_at hl 0 rfl) ?_
  refine lv_iload_n hx hb dX7_hasArrived_1 rfl (lv_at hl 1 rfl) ?_
  refine lv_bipush (v := (10 : Int32)) hx hb dX7_hasArrived_2 (by decide) ?_
  refine lv_iload_n hx hb dX7_hasArrived_4 rfl (lv_at hl 2 rfl) ?_
  refine lv_iadd hx hb dX7_hasArrived_5 ?_
  obtain ⟨r1, hr1, hM⟩ := ob hM
  refine wk_callP (va_runV (As := [.int p1, .int ((10 : Int32) + p2)]) (rest := []) ⟨hx, hb, hml, hown, hts⟩ (c_X7_of l dC dI cI cD cJ kk g x p1 ((10 : Int32) + p2) _ hr1 s.heap) (cwV 2 hts gX7_hasArrived_X7_of rfl rfl rfl (by decide +kernel) ⟨Nat.le_of_ble_eq_true rfl, Nat.le_of_ble_eq_true rfl⟩) (wk_preV (ci := 5) (q0 := 0) hG hP hD [0, 1, 2, 3, 4, 5, 6, 7] rfl rfl rfl rfl) rfl rfl hl.1 rfl (lv_room (Nat.le_of_ble_eq_true rfl)) dX7_hasArrived_6 ⟨Nat.le_of_ble_eq_true rfl, Nat.le_of_ble_eq_true rfl⟩) hS (fun locs hS => ?_)
  refine lv_aload_n hx hb dX7_hasArrived_9 rfl (lv_at hl 0 rfl) ?_
  refine va_get (D := (dC, dI)) (ci := 5) (v := .ref (g 1)) (C := RX7) (T := TX7) (N := 14) hx hb hts inX7 hown hG.1 hP 0 rfl rfl 0 (by decide) (hts (.fieldLink RX7 7 "WokenDriveModel" "now" "[I") (List.mem_of_getElem? (i := 1) rfl)) (fun _ h9 => h9) rfl dX7_hasArrived_10 ?_
  refine lv_iconst (v := (0 : Int32)) hx hb dX7_hasArrived_13 (by decide) ?_
  obtain ⟨v2, hv2, hM⟩ := ob hM
  refine wk_iald hx hb hG hP 1 0 rfl rfl hv2 dX7_hasArrived_14 ?_
  refine lv_icmp_gt (tgt := 22) hx hb dX7_hasArrived_15 (by decide) (fun c3 => ?_) (fun c3 => ?_)
  · replace hM := (if_pos c3).symm.trans hM
    refine lv_iconst (v := (0 : Int32)) hx hb dX7_hasArrived_22 (by decide) ?_
    exact hB23 false  _ _ hM hS (lv_sub hl [] rfl)
  · replace hM := (if_neg c3).symm.trans hM
    refine lv_iconst (v := (1 : Int32)) hx hb dX7_hasArrived_18 (by decide) ?_
    refine lv_goto (tgt := 23) hx hb dX7_hasArrived_19 (by decide) ?_
    exact hB23 true  _ _ hM hS (lv_sub hl [] rfl)
set_option maxHeartbeats 4000000 in
set_option maxRecDepth 100000 in
theorem c_X7_mailed (l : Launch) (dC : Nat → ClassId) (dI : Nat → Nat → Nat) (cI cD cJ : ClassId) (kk : wAd) (g : Nat → Nat) (x : MS) (p1 : Int32) (p2 : Int32) (out : Int32) (hM : M_X7_mailed x p1 p2 = some out) : CP l yX7_mailed wsX7_mailed ({ frames := 0, cells := 0, slots := 0, locals := 0 } : Room) dC dI (wTys cI cD cJ) [.ref (g 0), .int p1, .int p2] (wMod cI g x) (some (.int out)) := by
  refine wk_enterP (cc := cX7_mailed) (maxL := 3) (ret := (some .int)) (by decide) rfl (Nat.le_of_ble_eq_true rfl) ?_
  intro p e s m below meth c A Q ls hB hP hD hA hQ hl
  obtain ⟨hx, hb, hml, hr, hts, hown, hname, hlocks, hG⟩ := hB
  have hown : s.vm.findClass RX7 = some m.cls := hown
  have hS : va_S A s.heap s.heap [] := va_S.rf
  have hl : lv_has ls 3 [(0, .ref (g 0)), (1, .int p1), (2, .int p2)] := hl
  have inX7 : ∀ w ∈ wsX70, w ∈ wsX7_mailed := fun _ h => List.mem_cons_of_mem _ (List.mem_append_right _ h)
  generalize ([] : List Loc) = locs at hS ⊢
  unfold M_X7_mailed at hM
  refine lv_aload_n hx hb dX7_mailed_0 rfl (lv_at hl 0 rfl) ?_
  refine va_get (D := (dC, dI)) (ci := 5) (v := .ref (g 1)) (C := RX7) (T := TX7) (N := 14) hx hb hts inX7 hown hG.1 hP 0 rfl rfl 0 (by decide) (hts (.fieldLink RX7 7 "WokenDriveModel" "now" "[I") (List.mem_of_getElem? (i := 1) rfl)) (fun _ h9 => h9) rfl dX7_mailed_1 ?_
  refine lv_bipush (v := (36 : Int32)) hx hb dX7_mailed_4 (by decide) ?_
  refine lv_bipush (v := (40 : Int32)) hx hb dX7_mailed_6 (by decide) ?_
  refine lv_iload_n hx hb dX7_mailed_8 rfl (lv_at hl 1 rfl) ?_
  refine lv_imul hx hb dX7_mailed_9 ?_
  refine lv_iadd hx hb dX7_mailed_10 ?_
  refine lv_iload_n hx hb dX7_mailed_11 rfl (lv_at hl 2 rfl) ?_
  refine lv_iadd hx hb dX7_mailed_12 ?_
  obtain ⟨v1, hv1, hM⟩ := ob hM
  refine wk_iald hx hb hG hP 1 0 rfl rfl hv1 dX7_mailed_13 ?_
  replace hM := Option.some.inj hM
  subst hM
  exact wk_retPi hx hb hr hlocks hQ rfl rfl hS dX7_mailed_14
set_option maxHeartbeats 4000000 in
set_option maxRecDepth 100000 in
theorem c_X7_arrived (l : Launch) (dC : Nat → ClassId) (dI : Nat → Nat → Nat) (cI cD cJ : ClassId) (kk : wAd) (g : Nat → Nat) (x : MS) (p1 : Int32) (out : Int32) (hM : M_X7_arrived x p1 = some out) : CP l yX7_arrived wsX7_arrived ({ frames := 2, cells := 0, slots := 0, locals := 44 } : Room) dC dI (wTys cI cD cJ) [.ref (g 0), .int p1] (wMod cI g x) (some (.int out)) := by
  refine wk_enterP (cc := cX7_arrived) (maxL := 4) (ret := (some .int)) (by decide) rfl (Nat.le_of_ble_eq_true rfl) ?_
  intro p e s m below meth c A Q ls hB hP hD hA hQ hl
  obtain ⟨hx, hb, hml, hr, hts, hown, hname, hlocks, hG⟩ := hB
  have hown : s.vm.findClass RX7 = some m.cls := hown
  have hS : va_S A s.heap s.heap [] := va_S.rf
  have hl : lv_has ls 4 [(0, .ref (g 0)), (1, .int p1)] := hl
  generalize ([] : List Loc) = locs at hS ⊢
  have hL4 : ∀ (n4 : Nat) (u2 : Int32) (u3 : Int32) (locs : List Loc) (ls : Array Slot), lpF (M_X7_arrived_4s x p1) n4 (u2, u3) = some out → va_S A s.heap s.heap locs → lv_has ls 4 [(0, .ref (g 0)), (1, .int p1), (2, .int u2), (3, .int u3)] → W p l e ({ frames := 2, cells := 0, slots := 0, locals := 44 } : Room) s m ([.ref (g 0), .int p1] : List Value).toArray below meth c s.heap locs 0 0 Q (F0 m 4 ls []) := by
    intro n4
    induction n4 with
    | zero => intro u2 u3 locs ls hM; exact lpF_0 hM
    | succ n4 ih4 =>
      have hB34 : ∀ (u3 : Int32) (w0 : Int32) (w1 : Bool) (locs : List Loc) (ls : Array Slot), M_X7_arrived_34 x p1 (lpF (M_X7_arrived_4s x p1) n4) u3 w0 w1 = some out → va_S A s.heap s.heap locs → lv_has ls 4 [(0, .ref (g 0)), (1, .int p1), (3, .int u3)] → W p l e ({ frames := 2, cells := 0, slots := 0, locals := 44 } : Room) s m ([.ref (g 0), .int p1] : List Value).toArray below meth c s.heap locs 0 0 Q (F0 m 34 ls [.int (zI w1), .int w0]) := by
        intro u3 w0 w1 locs ls hM hS hl
        unfold M_X7_arrived_34 at hM
        refine lv_iadd hx hb dX7_arrived_34 ?_
        refine lv_istore_n (lv' := [(2, .int (w0 + (zI w1))), (0, .ref (g 0)), (1, .int p1), (3, .int u3)]) hx hb dX7_arrived_35 rfl hl (by decide) rfl (fun ls hl => ?_)
        refine lv_iinc (v := (u3 + 1)) (lv' := [(3, .int (u3 + 1)), (2, .int (w0 + (zI w1))), (0, .ref (g 0)), (1, .int p1)]) hx hb dX7_arrived_36 hl (k := 3) rfl rfl (by decide) rfl (fun ls hl => ?_)
        refine lv_goto (tgt := 4) hx hb dX7_arrived_39 (by decide) ?_
        exact ih4 (w0 + (zI w1)) (u3 + 1)  _ _ hM hS (lv_sub hl [2, 3, 1, 0] rfl)
      intro u2 u3 locs ls hM hS hl
      replace hM : M_X7_arrived_4s x p1 (lpF (M_X7_arrived_4s x p1) n4) (u2, u3) = some out := hM
      unfold M_X7_arrived_4s at hM
      try dsimp only at hM
      refine lv_iload_n hx hb dX7_arrived_4 rfl (lv_at hl 3 rfl) ?_
      refine lv_aload_n hx hb dX7_arrived_5 rfl (lv_at hl 0 rfl) ?_
      refine lv_iload_n hx hb dX7_arrived_6 rfl (lv_at hl 1 rfl) ?_
      refine lv_iconst (v := (3 : Int32)) hx hb dX7_arrived_7 (by decide) ?_
      obtain ⟨r1, hr1, hM⟩ := ob hM
      refine wk_callP (va_runV (As := [.int p1, .int (3 : Int32)]) (rest := [.int u3]) ⟨hx, hb, hml, hown, hts⟩ (c_X7_control l dC dI cI cD cJ kk g x p1 (3 : Int32) _ hr1 s.heap) (cwV 2 hts gX7_arrived_X7_control rfl rfl rfl (by decide +kernel) ⟨Nat.le_of_ble_eq_true rfl, Nat.le_of_ble_eq_true rfl⟩) (wk_preV (ci := 5) (q0 := 0) hG hP hD [0, 1, 2, 3, 4, 5, 6, 7] rfl rfl rfl rfl) rfl rfl hl.1 rfl (lv_room (Nat.le_of_ble_eq_true rfl)) dX7_arrived_8 ⟨Nat.le_of_ble_eq_true rfl, Nat.le_of_ble_eq_true rfl⟩) hS (fun locs hS => ?_)
      refine lv_icmp_ge (tgt := 42) hx hb dX7_arrived_11 (by decide) (fun c2 => ?_) (fun c2 => ?_)
      · replace hM := (if_pos c2).symm.trans hM
        refine lv_iload_n hx hb dX7_arrived_42 rfl (lv_at hl 2 rfl) ?_
        replace hM := Option.some.inj hM
        subst hM
        exact wk_retPi hx hb hr hlocks hQ rfl rfl hS dX7_arrived_43
      · replace hM := (if_neg c2).symm.trans hM
        refine lv_iload_n hx hb dX7_arrived_14 rfl (lv_at hl 2 rfl) ?_
        refine lv_aload_n hx hb dX7_arrived_15 rfl (lv_at hl 0 rfl) ?_
        refine lv_aload_n hx hb dX7_arrived_16 rfl (lv_at hl 0 rfl) ?_
        refine lv_iload_n hx hb dX7_arrived_17 rfl (lv_at hl 1 rfl) ?_
        refine lv_iload_n hx hb dX7_arrived_18 rfl (lv_at hl 3 rfl) ?_
        obtain ⟨r3, hr3, hM⟩ := ob hM
        refine wk_callP (va_runV (As := [.int p1, .int u3]) (rest := [.ref (g 0), .int u2]) ⟨hx, hb, hml, hown, hts⟩ (c_X7_mailed l dC dI cI cD cJ kk g x p1 u3 _ hr3 s.heap) (cwV 2 hts gX7_arrived_X7_mailed rfl rfl rfl (by decide +kernel) ⟨Nat.le_of_ble_eq_true rfl, Nat.le_of_ble_eq_true rfl⟩) (wk_preV (ci := 5) (q0 := 0) hG hP hD [0, 1, 2, 3, 4, 5, 6, 7] rfl rfl rfl rfl) rfl rfl hl.1 rfl (lv_room (Nat.le_of_ble_eq_true rfl)) dX7_arrived_19 ⟨Nat.le_of_ble_eq_true rfl, Nat.le_of_ble_eq_true rfl⟩) hS (fun locs hS => ?_)
        refine lv_iload_n hx hb dX7_arrived_22 rfl (lv_at hl 1 rfl) ?_
        obtain ⟨r4, hr4, hM⟩ := ob hM
        refine wk_callP (va_runV (As := [.int r3, .int p1]) (rest := [.int u2]) ⟨hx, hb, hml, hown, hts⟩ (c_X7_hasArrived l dC dI cI cD cJ kk g x r3 p1 _ hr4 s.heap) (cwV 2 hts gX7_arrived_X7_hasArrived rfl rfl rfl (by decide +kernel) ⟨Nat.le_of_ble_eq_true rfl, Nat.le_of_ble_eq_true rfl⟩) (wk_preV (ci := 5) (q0 := 0) hG hP hD [0, 1, 2, 3, 4, 5, 6, 7] rfl rfl rfl rfl) rfl rfl hl.1 rfl (lv_room (Nat.le_of_ble_eq_true rfl)) dX7_arrived_23 ⟨Nat.le_of_ble_eq_true rfl, Nat.le_of_ble_eq_true rfl⟩) hS (fun locs hS => ?_)
        refine lv_if_eq (tgt := 33) hx hb dX7_arrived_26 (by decide) (fun c5 => ?_) (fun c5 => ?_)
        · replace hM := (if_pos c5).symm.trans hM
          refine lv_iconst (v := (0 : Int32)) hx hb dX7_arrived_33 (by decide) ?_
          exact hB34 u3 u2 false  _ _ hM hS (lv_sub hl [0, 1, 3] rfl)
        · replace hM := (if_neg c5).symm.trans hM
          refine lv_iconst (v := (1 : Int32)) hx hb dX7_arrived_29 (by decide) ?_
          refine lv_goto (tgt := 34) hx hb dX7_arrived_30 (by decide) ?_
          exact hB34 u3 u2 true  _ _ hM hS (lv_sub hl [0, 1, 3] rfl)
  unfold M_X7_arrived at hM
  refine lv_iconst (v := (0 : Int32)) hx hb dX7_arrived_0 (by decide) ?_
  refine lv_istore_n (lv' := [(2, .int (0 : Int32)), (0, .ref (g 0)), (1, .int p1)]) hx hb dX7_arrived_1 rfl hl (by decide) rfl (fun ls hl => ?_)
  refine lv_iconst (v := (0 : Int32)) hx hb dX7_arrived_2 (by decide) ?_
  refine lv_istore_n (lv' := [(3, .int (0 : Int32)), (2, .int (0 : Int32)), (0, .ref (g 0)), (1, .int p1)]) hx hb dX7_arrived_3 rfl hl (by decide) rfl (fun ls hl => ?_)
  exact hL4 64 (0 : Int32) (0 : Int32)  _ _ hM hS (lv_sub hl [2, 3, 1, 0] rfl)
set_option maxHeartbeats 4000000 in
set_option maxRecDepth 100000 in
theorem c_X7_leaves (l : Launch) (dC : Nat → ClassId) (dI : Nat → Nat → Nat) (cI cD cJ : ClassId) (kk : wAd) (g : Nat → Nat) (x : MS) (p1 : Int32) (p2 : Int32) (out : MS) (hM : M_X7_leaves x p1 p2 = some out) : CM l yX7_leaves wsX7_leaves ({ frames := 1, cells := 0, slots := 0, locals := 22 } : Room) dC dI (wTys cI cD cJ) [.ref (g 0), .int p1, .int p2] (wMod cI g x) none (wMod cI g out) 0 0 := by
  refine wk_enterM (cc := cX7_leaves) (maxL := 4) (ret := none) (by decide) rfl (Nat.le_of_ble_eq_true rfl) ?_
  intro p e s m below meth c A Q ls hB hA hP hD hQ hl
  obtain ⟨hx, hb, hml, hr, hts, hown, hname, hlocks, hG⟩ := hB
  have hown : s.vm.findClass RX7 = some m.cls := hown
  have hS : va_S A s.heap s.heap [] := va_S.rf
  have hl : lv_has ls 4 [(0, .ref (g 0)), (1, .int p1), (2, .int p2)] := hl
  have inX7 : ∀ w ∈ wsX70, w ∈ wsX7_leaves := fun _ h => List.mem_cons_of_mem _ (List.mem_append_right _ h)
  obtain ⟨H, hH⟩ : ∃ z, z = s.heap := ⟨_, rfl⟩
  have hP : va_P (dC, dI) vwCl (wMod cI g x) H := by rw [hH]; exact hP
  have hS : va_S A s.heap H [] := by rw [hH]; exact hS
  refine wk_at hH ?_
  generalize ([] : List Loc) = locs at hS ⊢
  have hL20 : ∀ (n20 : Nat) (u3 : Int32) (y0 : MS) (H : Heap) (locs : List Loc) (ls : Array Slot), lpF (M_X7_leaves_20s x p1 p2) n20 (u3, y0) = some out → va_P (dC, dI) vwCl (wMod cI g y0) H → va_D A (wMod cI g y0) → va_S A s.heap H locs → lv_has ls 4 [(0, .ref (g 0)), (1, .int p1), (3, .int u3)] → W p l e ({ frames := 1, cells := 0, slots := 0, locals := 22 } : Room) s m ([.ref (g 0), .int p1, .int p2] : List Value).toArray below meth c H locs 0 0 Q (F0 m 20 ls []) := by
    intro n20
    induction n20 with
    | zero => intro u3 y0 H locs ls hM; exact lpF_0 hM
    | succ n20 ih20 =>
      intro u3 y0 H locs ls hM hP hD hS hl
      replace hM : M_X7_leaves_20s x p1 p2 (lpF (M_X7_leaves_20s x p1 p2) n20) (u3, y0) = some out := hM
      unfold M_X7_leaves_20s at hM
      try dsimp only at hM
      refine lv_iload_n hx hb dX7_leaves_20 rfl (lv_at hl 2 rfl) ?_
      refine lv_aload_n hx hb dX7_leaves_21 rfl (lv_at hl 0 rfl) ?_
      refine lv_iload_n hx hb dX7_leaves_22 rfl (lv_at hl 1 rfl) ?_
      refine lv_iconst (v := (3 : Int32)) hx hb dX7_leaves_23 (by decide) ?_
      obtain ⟨r1, hr1, hM⟩ := ob hM
      refine wk_callP (va_runV (As := [.int p1, .int (3 : Int32)]) (rest := [.int u3]) ⟨hx, hb, hml, hown, hts⟩ (c_X7_control l dC dI cI cD cJ kk g y0 p1 (3 : Int32) _ hr1 H) (cwV 2 hts gX7_leaves_X7_control rfl rfl rfl (by decide +kernel) ⟨Nat.le_of_ble_eq_true rfl, Nat.le_of_ble_eq_true rfl⟩) (wk_preV (ci := 5) (q0 := 0) hG hP hD [0, 1, 2, 3, 4, 5, 6, 7] rfl rfl rfl rfl) rfl rfl hl.1 rfl (lv_room (Nat.le_of_ble_eq_true rfl)) dX7_leaves_24 ⟨Nat.le_of_ble_eq_true rfl, Nat.le_of_ble_eq_true rfl⟩) hS (fun locs hS => ?_)
      refine lv_icmp_ge (tgt := 66) hx hb dX7_leaves_27 (by decide) (fun c2 => ?_) (fun c2 => ?_)
      · replace hM := (if_pos c2).symm.trans hM
        replace hM := Option.some.inj hM
        subst hM
        exact wk_retMv hx hb hr hlocks hQ rfl hP hD hS dX7_leaves_66
      · replace hM := (if_neg c2).symm.trans hM
        refine lv_aload_n hx hb dX7_leaves_30 rfl (lv_at hl 0 rfl) ?_
        refine va_get (D := (dC, dI)) (ci := 5) (v := .ref (g 1)) (C := RX7) (T := TX7) (N := 14) hx hb hts inX7 hown hG.1 hP 0 rfl rfl 0 (by decide) (hts (.fieldLink RX7 7 "WokenDriveModel" "now" "[I") (List.mem_of_getElem? (i := 1) rfl)) (fun _ h9 => h9) rfl dX7_leaves_31 ?_
        refine lv_bipush (v := (36 : Int32)) hx hb dX7_leaves_34 (by decide) ?_
        refine lv_bipush (v := (40 : Int32)) hx hb dX7_leaves_36 (by decide) ?_
        refine lv_iload_n hx hb dX7_leaves_38 rfl (lv_at hl 1 rfl) ?_
        refine lv_imul hx hb dX7_leaves_39 ?_
        refine lv_iadd hx hb dX7_leaves_40 ?_
        refine lv_iload_n hx hb dX7_leaves_41 rfl (lv_at hl 2 rfl) ?_
        refine lv_iadd hx hb dX7_leaves_42 ?_
        refine lv_aload_n hx hb dX7_leaves_43 rfl (lv_at hl 0 rfl) ?_
        refine va_get (D := (dC, dI)) (ci := 5) (v := .ref (g 1)) (C := RX7) (T := TX7) (N := 14) hx hb hts inX7 hown hG.1 hP 0 rfl rfl 0 (by decide) (hts (.fieldLink RX7 7 "WokenDriveModel" "now" "[I") (List.mem_of_getElem? (i := 1) rfl)) (fun _ h9 => h9) rfl dX7_leaves_44 ?_
        refine lv_bipush (v := (36 : Int32)) hx hb dX7_leaves_47 (by decide) ?_
        refine lv_bipush (v := (40 : Int32)) hx hb dX7_leaves_49 (by decide) ?_
        refine lv_iload_n hx hb dX7_leaves_51 rfl (lv_at hl 1 rfl) ?_
        refine lv_imul hx hb dX7_leaves_52 ?_
        refine lv_iadd hx hb dX7_leaves_53 ?_
        refine lv_iload_n hx hb dX7_leaves_54 rfl (lv_at hl 2 rfl) ?_
        refine lv_iadd hx hb dX7_leaves_55 ?_
        refine lv_iconst (v := (1 : Int32)) hx hb dX7_leaves_56 (by decide) ?_
        refine lv_iadd hx hb dX7_leaves_57 ?_
        obtain ⟨v3, hv3, hM⟩ := ob hM
        refine wk_iald hx hb hG hP 1 0 rfl rfl hv3 dX7_leaves_58 ?_
        obtain ⟨f4, hf4, hM⟩ := ob hM
        refine wk_iast hx hb hG hP hD hS 1 0 rfl rfl hf4 dX7_leaves_59 (fun H locs hP hD hS => ?_)
        obtain ⟨y_5, hy_5, hM⟩ := tbE hM
        have hP : va_P (dC, dI) vwCl (wMod cI g y_5) H := by rw [hy_5]; exact hP
        have hD : va_D A (wMod cI g y_5) := by rw [hy_5]; exact hD
        refine lv_iinc (v := (u3 + 1)) (lv' := [(3, .int (u3 + 1)), (0, .ref (g 0)), (1, .int p1)]) hx hb dX7_leaves_60 hl (k := 2) rfl rfl (by decide) rfl (fun ls hl => ?_)
        refine lv_goto (tgt := 20) hx hb dX7_leaves_63 (by decide) ?_
        exact ih20 (u3 + 1) y_5 H _ _ hM hP hD hS (lv_sub hl [1, 2, 0] rfl)
  unfold M_X7_leaves at hM
  refine lv_aload_n hx hb dX7_leaves_0 rfl (lv_at hl 0 rfl) ?_
  refine va_get (D := (dC, dI)) (ci := 5) (v := .ref (g 1)) (C := RX7) (T := TX7) (N := 14) hx hb hts inX7 hown hG.1 hP 0 rfl rfl 0 (by decide) (hts (.fieldLink RX7 7 "WokenDriveModel" "now" "[I") (List.mem_of_getElem? (i := 1) rfl)) (fun _ h9 => h9) rfl dX7_leaves_1 ?_
  refine lv_bipush (v := (20 : Int32)) hx hb dX7_leaves_4 (by decide) ?_
  refine lv_bipush (v := (8 : Int32)) hx hb dX7_leaves_6 (by decide) ?_
  refine lv_iload_n hx hb dX7_leaves_8 rfl (lv_at hl 1 rfl) ?_
  refine lv_imul hx hb dX7_leaves_9 ?_
  refine lv_iadd hx hb dX7_leaves_10 ?_
  refine lv_iconst (v := (3 : Int32)) hx hb dX7_leaves_11 (by decide) ?_
  refine lv_iadd hx hb dX7_leaves_12 ?_
  refine lv_dup2_11 hx hb dX7_leaves_13 rfl rfl ?_
  obtain ⟨v1, hv1, hM⟩ := ob hM
  refine wk_iald hx hb hG hP 1 0 rfl rfl hv1 dX7_leaves_14 ?_
  refine lv_iconst (v := (1 : Int32)) hx hb dX7_leaves_15 (by decide) ?_
  refine lv_isub hx hb dX7_leaves_16 ?_
  obtain ⟨f2, hf2, hM⟩ := ob hM
  refine wk_iast hx hb hG hP hD hS 1 0 rfl rfl hf2 dX7_leaves_17 (fun H locs hP hD hS => ?_)
  obtain ⟨y_3, hy_3, hM⟩ := tbE hM
  have hP : va_P (dC, dI) vwCl (wMod cI g y_3) H := by rw [hy_3]; exact hP
  have hD : va_D A (wMod cI g y_3) := by rw [hy_3]; exact hD
  refine lv_iload_n hx hb dX7_leaves_18 rfl (lv_at hl 2 rfl) ?_
  refine lv_istore_n (lv' := [(3, .int p2), (0, .ref (g 0)), (1, .int p1), (2, .int p2)]) hx hb dX7_leaves_19 rfl hl (by decide) rfl (fun ls hl => ?_)
  exact hL20 64 p2 y_3 H _ _ hM hP hD hS (lv_sub hl [1, 2, 0] rfl)
set_option maxHeartbeats 4000000 in
set_option maxRecDepth 100000 in
theorem c_X7_turns (l : Launch) (dC : Nat → ClassId) (dI : Nat → Nat → Nat) (cI cD cJ : ClassId) (kk : wAd) (g : Nat → Nat) (x : MS) (p1 : Int32) (p2 : Int32) (out : Int32 × MS) (hM : M_X7_turns x p1 p2 = some out) : CM l yX7_turns wsX7_turns ({ frames := 3, cells := 0, slots := 0, locals := 67 } : Room) dC dI (wTys cI cD cJ) [.ref (g 0), .int p1, .int p2] (wMod cI g x) (some (.int out.1)) (wMod cI g out.2) 0 0 := by
  refine wk_enterM (cc := cX7_turns) (maxL := 3) (ret := (some .int)) (by decide) rfl (Nat.le_of_ble_eq_true rfl) ?_
  intro p e s m below meth c A Q ls hB hA hP hD hQ hl
  obtain ⟨hx, hb, hml, hr, hts, hown, hname, hlocks, hG⟩ := hB
  have hown : s.vm.findClass RX7 = some m.cls := hown
  have hS : va_S A s.heap s.heap [] := va_S.rf
  have hl : lv_has ls 3 [(0, .ref (g 0)), (1, .int p1), (2, .int p2)] := hl
  have inX7 : ∀ w ∈ wsX70, w ∈ wsX7_turns := fun _ h => List.mem_cons_of_mem _ (List.mem_append_right _ h)
  obtain ⟨H, hH⟩ : ∃ z, z = s.heap := ⟨_, rfl⟩
  have hP : va_P (dC, dI) vwCl (wMod cI g x) H := by rw [hH]; exact hP
  have hS : va_S A s.heap H [] := by rw [hH]; exact hS
  refine wk_at hH ?_
  generalize ([] : List Loc) = locs at hS ⊢
  have hB27 : ∀ (w1 : Int32) (y0 : MS) (H : Heap) (locs : List Loc) (ls : Array Slot), M_X7_turns_27 x p1 p2 w1 y0 = some out → va_P (dC, dI) vwCl (wMod cI g y0) H → va_D A (wMod cI g y0) → va_S A s.heap H locs → lv_has ls 3 [(0, .ref (g 0)), (1, .int p1), (2, .int p2)] → W p l e ({ frames := 3, cells := 0, slots := 0, locals := 67 } : Room) s m ([.ref (g 0), .int p1, .int p2] : List Value).toArray below meth c H locs 0 0 Q (F0 m 27 ls [.int w1, .ref (g 0)]) := by
    intro w1 y0 H locs ls hM hP hD hS hl
    unfold M_X7_turns_27 at hM
    obtain ⟨r1, hr1, hM⟩ := tbE hM
    refine wk_callM (ws' := (wMod cI g r1.2)) (va_runV (As := [.int w1]) (rest := []) ⟨hx, hb, hml, hown, hts⟩ (c_X7_refused l dC dI cI cD cJ kk g y0 w1 _ hr1.symm H) (cwV 1 hts gX7_turns_X7_refused rfl rfl rfl (by decide +kernel) ⟨Nat.le_of_ble_eq_true rfl, Nat.le_of_ble_eq_true rfl⟩) (wk_preV (ci := 5) (q0 := 0) hG hP hD [0, 1, 2, 3, 4, 5, 6, 7] rfl rfl rfl rfl) rfl rfl hl.1 rfl (lv_room (Nat.le_of_ble_eq_true rfl)) dX7_turns_27 ⟨Nat.le_of_ble_eq_true rfl, Nat.le_of_ble_eq_true rfl⟩) hP hD hS hA [0, 1, 2, 3, 4, 5, 6, 7] [] [0, 1, 2, 3, 4, 5, 6, 7] rfl rfl rfl (by decide) rfl rfl (fun H locs hP hD hS => ?_)
    refine lv_if_eq (tgt := 35) hx hb dX7_turns_30 (by decide) (fun c2 => ?_) (fun c2 => ?_)
    · replace hM := (if_pos c2).symm.trans hM
      refine lv_aload_n hx hb dX7_turns_35 rfl (lv_at hl 0 rfl) ?_
      obtain ⟨r3, hr3, hM⟩ := ob hM
      refine wk_callM (ws' := (wMod cI g r3)) (va_runV (As := []) (rest := []) ⟨hx, hb, hml, hown, hts⟩ (c_X7_saves l dC dI cI cD cJ kk g r1.2 _ hr3 H) (cwV 0 hts gX7_turns_X7_saves rfl rfl rfl (by decide +kernel) ⟨Nat.le_of_ble_eq_true rfl, Nat.le_of_ble_eq_true rfl⟩) (wk_preV (ci := 5) (q0 := 0) hG hP hD [0, 1, 2, 3, 4, 5, 6, 7] rfl rfl rfl rfl) rfl rfl hl.1 rfl (lv_room (Nat.le_of_ble_eq_true rfl)) dX7_turns_36 ⟨Nat.le_of_ble_eq_true rfl, Nat.le_of_ble_eq_true rfl⟩) hP hD hS hA [0, 1, 2, 3, 4, 5, 6, 7] [] [0, 1, 2, 3, 4, 5, 6, 7] rfl rfl rfl (by decide) rfl rfl (fun H locs hP hD hS => ?_)
      refine lv_aload_n hx hb dX7_turns_39 rfl (lv_at hl 0 rfl) ?_
      refine va_get (D := (dC, dI)) (ci := 5) (v := .ref (g 1)) (C := RX7) (T := TX7) (N := 14) hx hb hts inX7 hown hG.1 hP 0 rfl rfl 0 (by decide) (hts (.fieldLink RX7 7 "WokenDriveModel" "now" "[I") (List.mem_of_getElem? (i := 1) rfl)) (fun _ h9 => h9) rfl dX7_turns_40 ?_
      refine lv_bipush (v := (20 : Int32)) hx hb dX7_turns_43 (by decide) ?_
      refine lv_bipush (v := (8 : Int32)) hx hb dX7_turns_45 (by decide) ?_
      refine lv_iload_n hx hb dX7_turns_47 rfl (lv_at hl 1 rfl) ?_
      refine lv_imul hx hb dX7_turns_48 ?_
      refine lv_iadd hx hb dX7_turns_49 ?_
      refine lv_iconst (v := (0 : Int32)) hx hb dX7_turns_50 (by decide) ?_
      refine lv_iadd hx hb dX7_turns_51 ?_
      refine lv_iload_n hx hb dX7_turns_52 rfl (lv_at hl 2 rfl) ?_
      obtain ⟨f4, hf4, hM⟩ := ob hM
      refine wk_iast hx hb hG hP hD hS 1 0 rfl rfl hf4 dX7_turns_53 (fun H locs hP hD hS => ?_)
      obtain ⟨y_5, hy_5, hM⟩ := tbE hM
      have hP : va_P (dC, dI) vwCl (wMod cI g y_5) H := by rw [hy_5]; exact hP
      have hD : va_D A (wMod cI g y_5) := by rw [hy_5]; exact hD
      refine lv_aload_n hx hb dX7_turns_54 rfl (lv_at hl 0 rfl) ?_
      refine lv_iload_n hx hb dX7_turns_55 rfl (lv_at hl 1 rfl) ?_
      obtain ⟨r6, hr6, hM⟩ := ob hM
      refine wk_callP (va_runV (As := [.int p1]) (rest := []) ⟨hx, hb, hml, hown, hts⟩ (c_X7_arrived l dC dI cI cD cJ kk g y_5 p1 _ hr6 H) (cwV 1 hts gX7_turns_X7_arrived rfl rfl rfl (by decide +kernel) ⟨Nat.le_of_ble_eq_true rfl, Nat.le_of_ble_eq_true rfl⟩) (wk_preV (ci := 5) (q0 := 0) hG hP hD [0, 1, 2, 3, 4, 5, 6, 7] rfl rfl rfl rfl) rfl rfl hl.1 rfl (lv_room (Nat.le_of_ble_eq_true rfl)) dX7_turns_56 ⟨Nat.le_of_ble_eq_true rfl, Nat.le_of_ble_eq_true rfl⟩) hS (fun locs hS => ?_)
      replace hM := Option.some.inj hM
      subst hM
      exact wk_retMi hx hb hr hlocks hQ rfl rfl hP hD hS dX7_turns_59
    · replace hM := (if_neg c2).symm.trans hM
      refine lv_iconst (v := (0 : Int32)) hx hb dX7_turns_33 (by decide) ?_
      replace hM := Option.some.inj hM
      subst hM
      exact wk_retMi hx hb hr hlocks hQ rfl rfl hP hD hS dX7_turns_34
  unfold M_X7_turns at hM
  refine lv_aload_n hx hb dX7_turns_0 rfl (lv_at hl 0 rfl) ?_
  refine lv_iload_n hx hb dX7_turns_1 rfl (lv_at hl 1 rfl) ?_
  refine wk_callP (va_runS (As := [.int p1]) (rest := [.ref (g 0)]) ⟨hx, hb, hml, hown, hts⟩ (c_X7_isController l dC dI cI cD cJ kk  p1 _ rfl H) (va_cwS 1 hts gX7_turns_X7_isController rfl rfl rfl (by decide +kernel) ⟨Nat.le_of_ble_eq_true rfl, Nat.le_of_ble_eq_true rfl⟩) (wk_preS hG hP hD [] rfl rfl) rfl rfl hl.1 rfl (lv_room (Nat.le_of_ble_eq_true rfl)) dX7_turns_2 ⟨Nat.le_of_ble_eq_true rfl, Nat.le_of_ble_eq_true rfl⟩) hS (fun locs hS => ?_)
  refine lv_if_ne (tgt := 12) hx hb dX7_turns_5 (by decide) (fun c1 => ?_) (fun c1 => ?_)
  · replace hM := (if_neg c1).symm.trans hM
    refine lv_aload_n hx hb dX7_turns_12 rfl (lv_at hl 0 rfl) ?_
    refine lv_iload_n hx hb dX7_turns_13 rfl (lv_at hl 1 rfl) ?_
    refine lv_iconst (v := (0 : Int32)) hx hb dX7_turns_14 (by decide) ?_
    obtain ⟨r2, hr2, hM⟩ := ob hM
    refine wk_callP (va_runV (As := [.int p1, .int (0 : Int32)]) (rest := [.ref (g 0)]) ⟨hx, hb, hml, hown, hts⟩ (c_X7_control l dC dI cI cD cJ kk g x p1 (0 : Int32) _ hr2 H) (cwV 2 hts gX7_turns_X7_control rfl rfl rfl (by decide +kernel) ⟨Nat.le_of_ble_eq_true rfl, Nat.le_of_ble_eq_true rfl⟩) (wk_preV (ci := 5) (q0 := 0) hG hP hD [0, 1, 2, 3, 4, 5, 6, 7] rfl rfl rfl rfl) rfl rfl hl.1 rfl (lv_room (Nat.le_of_ble_eq_true rfl)) dX7_turns_15 ⟨Nat.le_of_ble_eq_true rfl, Nat.le_of_ble_eq_true rfl⟩) hS (fun locs hS => ?_)
    refine lv_iload_n hx hb dX7_turns_18 rfl (lv_at hl 2 rfl) ?_
    refine lv_icmp_ne (tgt := 26) hx hb dX7_turns_19 (by decide) (fun c3 => ?_) (fun c3 => ?_)
    · replace hM := (if_neg c3).symm.trans hM
      refine lv_iconst (v := (0 : Int32)) hx hb dX7_turns_26 (by decide) ?_
      exact hB27 (0 : Int32) x H _ _ hM hP hD hS (lv_sub hl [0, 1, 2] rfl)
    · replace hM := (if_pos c3).symm.trans hM
      refine lv_iconst (v := (2 : Int32)) hx hb dX7_turns_22 (by decide) ?_
      refine lv_goto (tgt := 27) hx hb dX7_turns_23 (by decide) ?_
      exact hB27 (2 : Int32) x H _ _ hM hP hD hS (lv_sub hl [0, 1, 2] rfl)
  · replace hM := (if_pos c1).symm.trans hM
    refine lv_iconst (v := (1 : Int32)) hx hb dX7_turns_8 (by decide) ?_
    refine lv_goto (tgt := 27) hx hb dX7_turns_9 (by decide) ?_
    exact hB27 (1 : Int32) x H _ _ hM hP hD hS (lv_sub hl [0, 1, 2] rfl)
set_option maxHeartbeats 4000000 in
set_option maxRecDepth 100000 in
theorem c_X7_wake (l : Launch) (dC : Nat → ClassId) (dI : Nat → Nat → Nat) (cI cD cJ : ClassId) (kk : wAd) (g : Nat → Nat) (x : MS) (p1 : Int32) (out : Int32 × MS) (hM : M_X7_wake x p1 = some out) : CM l yX7_wake wsX7_wake ({ frames := 4, cells := 0, slots := 0, locals := 89 } : Room) dC dI (wTys cI cD cJ) [.ref (g 0), .int p1] (wMod cI g x) (some (.int out.1)) (wMod cI g out.2) 0 0 := by
  refine wk_enterM (cc := cX7_wake) (maxL := 2) (ret := (some .int)) (by decide) rfl (Nat.le_of_ble_eq_true rfl) ?_
  intro p e s m below meth c A Q ls hB hA hP hD hQ hl
  obtain ⟨hx, hb, hml, hr, hts, hown, hname, hlocks, hG⟩ := hB
  have hown : s.vm.findClass RX7 = some m.cls := hown
  have hS : va_S A s.heap s.heap [] := va_S.rf
  have hl : lv_has ls 2 [(0, .ref (g 0)), (1, .int p1)] := hl
  obtain ⟨H, hH⟩ : ∃ z, z = s.heap := ⟨_, rfl⟩
  have hP : va_P (dC, dI) vwCl (wMod cI g x) H := by rw [hH]; exact hP
  have hS : va_S A s.heap H [] := by rw [hH]; exact hS
  refine wk_at hH ?_
  generalize ([] : List Loc) = locs at hS ⊢
  unfold M_X7_wake at hM
  refine lv_aload_n hx hb dX7_wake_0 rfl (lv_at hl 0 rfl) ?_
  refine lv_iload_n hx hb dX7_wake_1 rfl (lv_at hl 1 rfl) ?_
  refine lv_iconst (v := (1 : Int32)) hx hb dX7_wake_2 (by decide) ?_
  obtain ⟨r1, hr1, hM⟩ := ob hM
  refine wk_callM (ws' := (wMod cI g r1.2)) (va_runV (As := [.int p1, .int (1 : Int32)]) (rest := []) ⟨hx, hb, hml, hown, hts⟩ (c_X7_turns l dC dI cI cD cJ kk g x p1 (1 : Int32) _ hr1 H) (cwV 2 hts gX7_wake_X7_turns rfl rfl rfl (by decide +kernel) ⟨Nat.le_of_ble_eq_true rfl, Nat.le_of_ble_eq_true rfl⟩) (wk_preV (ci := 5) (q0 := 0) hG hP hD [0, 1, 2, 3, 4, 5, 6, 7] rfl rfl rfl rfl) rfl rfl hl.1 rfl (lv_room (Nat.le_of_ble_eq_true rfl)) dX7_wake_3 ⟨Nat.le_of_ble_eq_true rfl, Nat.le_of_ble_eq_true rfl⟩) hP hD hS hA [0, 1, 2, 3, 4, 5, 6, 7] [] [0, 1, 2, 3, 4, 5, 6, 7] rfl rfl rfl (by decide) rfl rfl (fun H locs hP hD hS => ?_)
  replace hM := Option.some.inj hM
  subst hM
  exact wk_retMi hx hb hr hlocks hQ rfl rfl hP hD hS dX7_wake_6
set_option maxHeartbeats 4000000 in
set_option maxRecDepth 100000 in
theorem c_X7_sleep (l : Launch) (dC : Nat → ClassId) (dI : Nat → Nat → Nat) (cI cD cJ : ClassId) (kk : wAd) (g : Nat → Nat) (x : MS) (p1 : Int32) (out : Int32 × MS) (hM : M_X7_sleep x p1 = some out) : CM l yX7_sleep wsX7_sleep ({ frames := 4, cells := 0, slots := 0, locals := 89 } : Room) dC dI (wTys cI cD cJ) [.ref (g 0), .int p1] (wMod cI g x) (some (.int out.1)) (wMod cI g out.2) 0 0 := by
  refine wk_enterM (cc := cX7_sleep) (maxL := 2) (ret := (some .int)) (by decide) rfl (Nat.le_of_ble_eq_true rfl) ?_
  intro p e s m below meth c A Q ls hB hA hP hD hQ hl
  obtain ⟨hx, hb, hml, hr, hts, hown, hname, hlocks, hG⟩ := hB
  have hown : s.vm.findClass RX7 = some m.cls := hown
  have hS : va_S A s.heap s.heap [] := va_S.rf
  have hl : lv_has ls 2 [(0, .ref (g 0)), (1, .int p1)] := hl
  obtain ⟨H, hH⟩ : ∃ z, z = s.heap := ⟨_, rfl⟩
  have hP : va_P (dC, dI) vwCl (wMod cI g x) H := by rw [hH]; exact hP
  have hS : va_S A s.heap H [] := by rw [hH]; exact hS
  refine wk_at hH ?_
  generalize ([] : List Loc) = locs at hS ⊢
  unfold M_X7_sleep at hM
  refine lv_aload_n hx hb dX7_sleep_0 rfl (lv_at hl 0 rfl) ?_
  refine lv_iload_n hx hb dX7_sleep_1 rfl (lv_at hl 1 rfl) ?_
  refine lv_iconst (v := (0 : Int32)) hx hb dX7_sleep_2 (by decide) ?_
  obtain ⟨r1, hr1, hM⟩ := ob hM
  refine wk_callM (ws' := (wMod cI g r1.2)) (va_runV (As := [.int p1, .int (0 : Int32)]) (rest := []) ⟨hx, hb, hml, hown, hts⟩ (c_X7_turns l dC dI cI cD cJ kk g x p1 (0 : Int32) _ hr1 H) (cwV 2 hts gX7_sleep_X7_turns rfl rfl rfl (by decide +kernel) ⟨Nat.le_of_ble_eq_true rfl, Nat.le_of_ble_eq_true rfl⟩) (wk_preV (ci := 5) (q0 := 0) hG hP hD [0, 1, 2, 3, 4, 5, 6, 7] rfl rfl rfl rfl) rfl rfl hl.1 rfl (lv_room (Nat.le_of_ble_eq_true rfl)) dX7_sleep_3 ⟨Nat.le_of_ble_eq_true rfl, Nat.le_of_ble_eq_true rfl⟩) hP hD hS hA [0, 1, 2, 3, 4, 5, 6, 7] [] [0, 1, 2, 3, 4, 5, 6, 7] rfl rfl rfl (by decide) rfl rfl (fun H locs hP hD hS => ?_)
  replace hM := Option.some.inj hM
  subst hM
  exact wk_retMi hx hb hr hlocks hQ rfl rfl hP hD hS dX7_sleep_6
set_option maxHeartbeats 4000000 in
set_option maxRecDepth 100000 in
theorem c_X7_sets (l : Launch) (dC : Nat → ClassId) (dI : Nat → Nat → Nat) (cI cD cJ : ClassId) (kk : wAd) (g : Nat → Nat) (x : MS) (p1 : Int32) (p2 : Int32) (p3 : Int32) (out : Int32 × MS) (hM : M_X7_sets x p1 p2 p3 = some out) : CM l yX7_sets wsX7_sets ({ frames := 2, cells := 0, slots := 0, locals := 42 } : Room) dC dI (wTys cI cD cJ) [.ref (g 0), .int p1, .int p2, .int p3] (wMod cI g x) (some (.int out.1)) (wMod cI g out.2) 0 0 := by
  refine wk_enterM (cc := cX7_sets) (maxL := 5) (ret := (some .int)) (by decide) rfl (Nat.le_of_ble_eq_true rfl) ?_
  intro p e s m below meth c A Q ls hB hA hP hD hQ hl
  obtain ⟨hx, hb, hml, hr, hts, hown, hname, hlocks, hG⟩ := hB
  have hown : s.vm.findClass RX7 = some m.cls := hown
  have hS : va_S A s.heap s.heap [] := va_S.rf
  have hl : lv_has ls 5 [(0, .ref (g 0)), (1, .int p1), (2, .int p2), (3, .int p3)] := hl
  have inX7 : ∀ w ∈ wsX70, w ∈ wsX7_sets := fun _ h => List.mem_cons_of_mem _ (List.mem_append_right _ h)
  obtain ⟨H, hH⟩ : ∃ z, z = s.heap := ⟨_, rfl⟩
  have hP : va_P (dC, dI) vwCl (wMod cI g x) H := by rw [hH]; exact hP
  have hS : va_S A s.heap H [] := by rw [hH]; exact hS
  refine wk_at hH ?_
  generalize ([] : List Loc) = locs at hS ⊢
  have hB27 : ∀ (w1 : Int32) (y0 : MS) (H : Heap) (locs : List Loc) (ls : Array Slot), M_X7_sets_27 x p1 p2 p3 w1 y0 = some out → va_P (dC, dI) vwCl (wMod cI g y0) H → va_D A (wMod cI g y0) → va_S A s.heap H locs → lv_has ls 5 [(0, .ref (g 0)), (1, .int p1), (2, .int p2), (3, .int p3)] → W p l e ({ frames := 2, cells := 0, slots := 0, locals := 42 } : Room) s m ([.ref (g 0), .int p1, .int p2, .int p3] : List Value).toArray below meth c H locs 0 0 Q (F0 m 27 ls [.int w1, .ref (g 0)]) := by
    intro w1 y0 H locs ls hM hP hD hS hl
    unfold M_X7_sets_27 at hM
    obtain ⟨r1, hr1, hM⟩ := tbE hM
    refine wk_callM (ws' := (wMod cI g r1.2)) (va_runV (As := [.int w1]) (rest := []) ⟨hx, hb, hml, hown, hts⟩ (c_X7_refused l dC dI cI cD cJ kk g y0 w1 _ hr1.symm H) (cwV 1 hts gX7_sets_X7_refused rfl rfl rfl (by decide +kernel) ⟨Nat.le_of_ble_eq_true rfl, Nat.le_of_ble_eq_true rfl⟩) (wk_preV (ci := 5) (q0 := 0) hG hP hD [0, 1, 2, 3, 4, 5, 6, 7] rfl rfl rfl rfl) rfl rfl hl.1 rfl (lv_room (Nat.le_of_ble_eq_true rfl)) dX7_sets_27 ⟨Nat.le_of_ble_eq_true rfl, Nat.le_of_ble_eq_true rfl⟩) hP hD hS hA [0, 1, 2, 3, 4, 5, 6, 7] [] [0, 1, 2, 3, 4, 5, 6, 7] rfl rfl rfl (by decide) rfl rfl (fun H locs hP hD hS => ?_)
    refine lv_if_eq (tgt := 35) hx hb dX7_sets_30 (by decide) (fun c2 => ?_) (fun c2 => ?_)
    · replace hM := (if_pos c2).symm.trans hM
      refine lv_aload_n hx hb dX7_sets_35 rfl (lv_at hl 0 rfl) ?_
      obtain ⟨r3, hr3, hM⟩ := ob hM
      refine wk_callM (ws' := (wMod cI g r3)) (va_runV (As := []) (rest := []) ⟨hx, hb, hml, hown, hts⟩ (c_X7_saves l dC dI cI cD cJ kk g r1.2 _ hr3 H) (cwV 0 hts gX7_sets_X7_saves rfl rfl rfl (by decide +kernel) ⟨Nat.le_of_ble_eq_true rfl, Nat.le_of_ble_eq_true rfl⟩) (wk_preV (ci := 5) (q0 := 0) hG hP hD [0, 1, 2, 3, 4, 5, 6, 7] rfl rfl rfl rfl) rfl rfl hl.1 rfl (lv_room (Nat.le_of_ble_eq_true rfl)) dX7_sets_36 ⟨Nat.le_of_ble_eq_true rfl, Nat.le_of_ble_eq_true rfl⟩) hP hD hS hA [0, 1, 2, 3, 4, 5, 6, 7] [] [0, 1, 2, 3, 4, 5, 6, 7] rfl rfl rfl (by decide) rfl rfl (fun H locs hP hD hS => ?_)
      refine lv_aload_n hx hb dX7_sets_39 rfl (lv_at hl 0 rfl) ?_
      refine lv_iload_n hx hb dX7_sets_40 rfl (lv_at hl 1 rfl) ?_
      refine lv_iload_n hx hb dX7_sets_41 rfl (lv_at hl 2 rfl) ?_
      obtain ⟨r4, hr4, hM⟩ := ob hM
      refine wk_callP (va_runV (As := [.int p1, .int p2]) (rest := []) ⟨hx, hb, hml, hown, hts⟩ (c_X7_control l dC dI cI cD cJ kk g r3 p1 p2 _ hr4 H) (cwV 2 hts gX7_sets_X7_control rfl rfl rfl (by decide +kernel) ⟨Nat.le_of_ble_eq_true rfl, Nat.le_of_ble_eq_true rfl⟩) (wk_preV (ci := 5) (q0 := 0) hG hP hD [0, 1, 2, 3, 4, 5, 6, 7] rfl rfl rfl rfl) rfl rfl hl.1 rfl (lv_room (Nat.le_of_ble_eq_true rfl)) dX7_sets_42 ⟨Nat.le_of_ble_eq_true rfl, Nat.le_of_ble_eq_true rfl⟩) hS (fun locs hS => ?_)
      refine lv_istore (lv' := [(4, .int r4), (0, .ref (g 0)), (1, .int p1), (2, .int p2), (3, .int p3)]) hx hb dX7_sets_45 hl (by decide) rfl (fun ls hl => ?_)
      refine lv_aload_n hx hb dX7_sets_47 rfl (lv_at hl 1 rfl) ?_
      refine va_get (D := (dC, dI)) (ci := 5) (v := .ref (g 1)) (C := RX7) (T := TX7) (N := 14) hx hb hts inX7 hown hG.1 hP 0 rfl rfl 0 (by decide) (hts (.fieldLink RX7 7 "WokenDriveModel" "now" "[I") (List.mem_of_getElem? (i := 1) rfl)) (fun _ h9 => h9) rfl dX7_sets_48 ?_
      refine lv_bipush (v := (20 : Int32)) hx hb dX7_sets_51 (by decide) ?_
      refine lv_bipush (v := (8 : Int32)) hx hb dX7_sets_53 (by decide) ?_
      refine lv_iload_n hx hb dX7_sets_55 rfl (lv_at hl 2 rfl) ?_
      refine lv_imul hx hb dX7_sets_56 ?_
      refine lv_iadd hx hb dX7_sets_57 ?_
      refine lv_iload_n hx hb dX7_sets_58 rfl (lv_at hl 3 rfl) ?_
      refine lv_iadd hx hb dX7_sets_59 ?_
      refine lv_iload_n hx hb dX7_sets_60 rfl (lv_at hl 4 rfl) ?_
      obtain ⟨f5, hf5, hM⟩ := ob hM
      refine wk_iast hx hb hG hP hD hS 1 0 rfl rfl hf5 dX7_sets_61 (fun H locs hP hD hS => ?_)
      obtain ⟨y_6, hy_6, hM⟩ := tbE hM
      have hP : va_P (dC, dI) vwCl (wMod cI g y_6) H := by rw [hy_6]; exact hP
      have hD : va_D A (wMod cI g y_6) := by rw [hy_6]; exact hD
      refine lv_iload hx hb dX7_sets_62 (lv_at hl 0 rfl) ?_
      replace hM := Option.some.inj hM
      subst hM
      exact wk_retMi hx hb hr hlocks hQ rfl rfl hP hD hS dX7_sets_64
    · replace hM := (if_neg c2).symm.trans hM
      refine lv_iconst (v := (0 : Int32)) hx hb dX7_sets_33 (by decide) ?_
      replace hM := Option.some.inj hM
      subst hM
      exact wk_retMi hx hb hr hlocks hQ rfl rfl hP hD hS dX7_sets_34
  unfold M_X7_sets at hM
  refine lv_aload_n hx hb dX7_sets_0 rfl (lv_at hl 0 rfl) ?_
  refine lv_iload_n hx hb dX7_sets_1 rfl (lv_at hl 1 rfl) ?_
  refine wk_callP (va_runS (As := [.int p1]) (rest := [.ref (g 0)]) ⟨hx, hb, hml, hown, hts⟩ (c_X7_isController l dC dI cI cD cJ kk  p1 _ rfl H) (va_cwS 1 hts gX7_sets_X7_isController rfl rfl rfl (by decide +kernel) ⟨Nat.le_of_ble_eq_true rfl, Nat.le_of_ble_eq_true rfl⟩) (wk_preS hG hP hD [] rfl rfl) rfl rfl hl.1 rfl (lv_room (Nat.le_of_ble_eq_true rfl)) dX7_sets_2 ⟨Nat.le_of_ble_eq_true rfl, Nat.le_of_ble_eq_true rfl⟩) hS (fun locs hS => ?_)
  refine lv_if_ne (tgt := 12) hx hb dX7_sets_5 (by decide) (fun c1 => ?_) (fun c1 => ?_)
  · replace hM := (if_neg c1).symm.trans hM
    refine lv_iload_n hx hb dX7_sets_12 rfl (lv_at hl 3 rfl) ?_
    refine lv_iconst (v := (0 : Int32)) hx hb dX7_sets_13 (by decide) ?_
    refine lv_bipush (v := (20 : Int32)) hx hb dX7_sets_14 (by decide) ?_
    refine wk_callP (va_runS (As := [.int p3, .int (0 : Int32), .int (20 : Int32)]) (rest := [.ref (g 0)]) ⟨hx, hb, hml, hown, hts⟩ (c_X7_within l dC dI cI cD cJ kk  p3 (0 : Int32) (20 : Int32) _ rfl H) (va_cwS 3 hts gX7_sets_X7_within rfl rfl rfl (by decide +kernel) ⟨Nat.le_of_ble_eq_true rfl, Nat.le_of_ble_eq_true rfl⟩) (wk_preS hG hP hD [] rfl rfl) rfl rfl hl.1 rfl (lv_room (Nat.le_of_ble_eq_true rfl)) dX7_sets_16 ⟨Nat.le_of_ble_eq_true rfl, Nat.le_of_ble_eq_true rfl⟩) hS (fun locs hS => ?_)
    refine lv_if_ne (tgt := 26) hx hb dX7_sets_19 (by decide) (fun c2 => ?_) (fun c2 => ?_)
    · replace hM := (if_neg c2).symm.trans hM
      refine lv_iconst (v := (0 : Int32)) hx hb dX7_sets_26 (by decide) ?_
      exact hB27 (0 : Int32) x H _ _ hM hP hD hS (lv_sub hl [0, 1, 2, 3] rfl)
    · replace hM := (if_pos c2).symm.trans hM
      refine lv_iconst (v := (2 : Int32)) hx hb dX7_sets_22 (by decide) ?_
      refine lv_goto (tgt := 27) hx hb dX7_sets_23 (by decide) ?_
      exact hB27 (2 : Int32) x H _ _ hM hP hD hS (lv_sub hl [0, 1, 2, 3] rfl)
  · replace hM := (if_pos c1).symm.trans hM
    refine lv_iconst (v := (1 : Int32)) hx hb dX7_sets_8 (by decide) ?_
    refine lv_goto (tgt := 27) hx hb dX7_sets_9 (by decide) ?_
    exact hB27 (1 : Int32) x H _ _ hM hP hD hS (lv_sub hl [0, 1, 2, 3] rfl)
set_option maxHeartbeats 4000000 in
set_option maxRecDepth 100000 in
theorem c_X7_setDelay (l : Launch) (dC : Nat → ClassId) (dI : Nat → Nat → Nat) (cI cD cJ : ClassId) (kk : wAd) (g : Nat → Nat) (x : MS) (p1 : Int32) (p2 : Int32) (out : Int32 × MS) (hM : M_X7_setDelay x p1 p2 = some out) : CM l yX7_setDelay wsX7_setDelay ({ frames := 3, cells := 0, slots := 0, locals := 66 } : Room) dC dI (wTys cI cD cJ) [.ref (g 0), .int p1, .int p2] (wMod cI g x) (some (.int out.1)) (wMod cI g out.2) 0 0 := by
  refine wk_enterM (cc := cX7_setDelay) (maxL := 3) (ret := (some .int)) (by decide) rfl (Nat.le_of_ble_eq_true rfl) ?_
  intro p e s m below meth c A Q ls hB hA hP hD hQ hl
  obtain ⟨hx, hb, hml, hr, hts, hown, hname, hlocks, hG⟩ := hB
  have hown : s.vm.findClass RX7 = some m.cls := hown
  have hS : va_S A s.heap s.heap [] := va_S.rf
  have hl : lv_has ls 3 [(0, .ref (g 0)), (1, .int p1), (2, .int p2)] := hl
  obtain ⟨H, hH⟩ : ∃ z, z = s.heap := ⟨_, rfl⟩
  have hP : va_P (dC, dI) vwCl (wMod cI g x) H := by rw [hH]; exact hP
  have hS : va_S A s.heap H [] := by rw [hH]; exact hS
  refine wk_at hH ?_
  generalize ([] : List Loc) = locs at hS ⊢
  unfold M_X7_setDelay at hM
  refine lv_aload_n hx hb dX7_setDelay_0 rfl (lv_at hl 0 rfl) ?_
  refine lv_iload_n hx hb dX7_setDelay_1 rfl (lv_at hl 1 rfl) ?_
  refine lv_iconst (v := (1 : Int32)) hx hb dX7_setDelay_2 (by decide) ?_
  refine lv_iload_n hx hb dX7_setDelay_3 rfl (lv_at hl 2 rfl) ?_
  obtain ⟨r1, hr1, hM⟩ := ob hM
  refine wk_callM (ws' := (wMod cI g r1.2)) (va_runV (As := [.int p1, .int (1 : Int32), .int p2]) (rest := []) ⟨hx, hb, hml, hown, hts⟩ (c_X7_sets l dC dI cI cD cJ kk g x p1 (1 : Int32) p2 _ hr1 H) (cwV 3 hts gX7_setDelay_X7_sets rfl rfl rfl (by decide +kernel) ⟨Nat.le_of_ble_eq_true rfl, Nat.le_of_ble_eq_true rfl⟩) (wk_preV (ci := 5) (q0 := 0) hG hP hD [0, 1, 2, 3, 4, 5, 6, 7] rfl rfl rfl rfl) rfl rfl hl.1 rfl (lv_room (Nat.le_of_ble_eq_true rfl)) dX7_setDelay_4 ⟨Nat.le_of_ble_eq_true rfl, Nat.le_of_ble_eq_true rfl⟩) hP hD hS hA [0, 1, 2, 3, 4, 5, 6, 7] [] [0, 1, 2, 3, 4, 5, 6, 7] rfl rfl rfl (by decide) rfl rfl (fun H locs hP hD hS => ?_)
  replace hM := Option.some.inj hM
  subst hM
  exact wk_retMi hx hb hr hlocks hQ rfl rfl hP hD hS dX7_setDelay_7
set_option maxHeartbeats 4000000 in
set_option maxRecDepth 100000 in
theorem c_X7_setAlarm (l : Launch) (dC : Nat → ClassId) (dI : Nat → Nat → Nat) (cI cD cJ : ClassId) (kk : wAd) (g : Nat → Nat) (x : MS) (p1 : Int32) (p2 : Int32) (out : Int32 × MS) (hM : M_X7_setAlarm x p1 p2 = some out) : CM l yX7_setAlarm wsX7_setAlarm ({ frames := 3, cells := 0, slots := 0, locals := 66 } : Room) dC dI (wTys cI cD cJ) [.ref (g 0), .int p1, .int p2] (wMod cI g x) (some (.int out.1)) (wMod cI g out.2) 0 0 := by
  refine wk_enterM (cc := cX7_setAlarm) (maxL := 3) (ret := (some .int)) (by decide) rfl (Nat.le_of_ble_eq_true rfl) ?_
  intro p e s m below meth c A Q ls hB hA hP hD hQ hl
  obtain ⟨hx, hb, hml, hr, hts, hown, hname, hlocks, hG⟩ := hB
  have hown : s.vm.findClass RX7 = some m.cls := hown
  have hS : va_S A s.heap s.heap [] := va_S.rf
  have hl : lv_has ls 3 [(0, .ref (g 0)), (1, .int p1), (2, .int p2)] := hl
  obtain ⟨H, hH⟩ : ∃ z, z = s.heap := ⟨_, rfl⟩
  have hP : va_P (dC, dI) vwCl (wMod cI g x) H := by rw [hH]; exact hP
  have hS : va_S A s.heap H [] := by rw [hH]; exact hS
  refine wk_at hH ?_
  generalize ([] : List Loc) = locs at hS ⊢
  unfold M_X7_setAlarm at hM
  refine lv_aload_n hx hb dX7_setAlarm_0 rfl (lv_at hl 0 rfl) ?_
  refine lv_iload_n hx hb dX7_setAlarm_1 rfl (lv_at hl 1 rfl) ?_
  refine lv_iconst (v := (2 : Int32)) hx hb dX7_setAlarm_2 (by decide) ?_
  refine lv_iload_n hx hb dX7_setAlarm_3 rfl (lv_at hl 2 rfl) ?_
  obtain ⟨r1, hr1, hM⟩ := ob hM
  refine wk_callM (ws' := (wMod cI g r1.2)) (va_runV (As := [.int p1, .int (2 : Int32), .int p2]) (rest := []) ⟨hx, hb, hml, hown, hts⟩ (c_X7_sets l dC dI cI cD cJ kk g x p1 (2 : Int32) p2 _ hr1 H) (cwV 3 hts gX7_setAlarm_X7_sets rfl rfl rfl (by decide +kernel) ⟨Nat.le_of_ble_eq_true rfl, Nat.le_of_ble_eq_true rfl⟩) (wk_preV (ci := 5) (q0 := 0) hG hP hD [0, 1, 2, 3, 4, 5, 6, 7] rfl rfl rfl rfl) rfl rfl hl.1 rfl (lv_room (Nat.le_of_ble_eq_true rfl)) dX7_setAlarm_4 ⟨Nat.le_of_ble_eq_true rfl, Nat.le_of_ble_eq_true rfl⟩) hP hD hS hA [0, 1, 2, 3, 4, 5, 6, 7] [] [0, 1, 2, 3, 4, 5, 6, 7] rfl rfl rfl (by decide) rfl rfl (fun H locs hP hD hS => ?_)
  replace hM := Option.some.inj hM
  subst hM
  exact wk_retMi hx hb hr hlocks hQ rfl rfl hP hD hS dX7_setAlarm_7
set_option maxHeartbeats 4000000 in
set_option maxRecDepth 100000 in
theorem c_X7_begins (l : Launch) (dC : Nat → ClassId) (dI : Nat → Nat → Nat) (cI cD cJ : ClassId) (kk : wAd) (g : Nat → Nat) (x : MS) (p1 : Int32) (out : MS) (hM : M_X7_begins x p1 = some out) : CM l yX7_begins wsX7_begins ({ frames := 1, cells := 0, slots := 0, locals := 23 } : Room) dC dI (wTys cI cD cJ) [.ref (g 0), .int p1] (wMod cI g x) none (wMod cI g out) 0 0 := by
  refine wk_enterM (cc := cX7_begins) (maxL := 2) (ret := none) (by decide) rfl (Nat.le_of_ble_eq_true rfl) ?_
  intro p e s m below meth c A Q ls hB hA hP hD hQ hl
  obtain ⟨hx, hb, hml, hr, hts, hown, hname, hlocks, hG⟩ := hB
  have hown : s.vm.findClass RX7 = some m.cls := hown
  have hS : va_S A s.heap s.heap [] := va_S.rf
  have hl : lv_has ls 2 [(0, .ref (g 0)), (1, .int p1)] := hl
  have inX7 : ∀ w ∈ wsX70, w ∈ wsX7_begins := fun _ h => List.mem_cons_of_mem _ (List.mem_append_right _ h)
  obtain ⟨H, hH⟩ : ∃ z, z = s.heap := ⟨_, rfl⟩
  have hP : va_P (dC, dI) vwCl (wMod cI g x) H := by rw [hH]; exact hP
  have hS : va_S A s.heap H [] := by rw [hH]; exact hS
  refine wk_at hH ?_
  generalize ([] : List Loc) = locs at hS ⊢
  unfold M_X7_begins at hM
  refine lv_aload_n hx hb dX7_begins_0 rfl (lv_at hl 0 rfl) ?_
  refine va_get (D := (dC, dI)) (ci := 5) (v := .ref (g 1)) (C := RX7) (T := TX7) (N := 14) hx hb hts inX7 hown hG.1 hP 0 rfl rfl 0 (by decide) (hts (.fieldLink RX7 7 "WokenDriveModel" "now" "[I") (List.mem_of_getElem? (i := 1) rfl)) (fun _ h9 => h9) rfl dX7_begins_1 ?_
  refine lv_iconst (v := (2 : Int32)) hx hb dX7_begins_4 (by decide) ?_
  refine lv_iload_n hx hb dX7_begins_5 rfl (lv_at hl 1 rfl) ?_
  obtain ⟨f1, hf1, hM⟩ := ob hM
  refine wk_iast hx hb hG hP hD hS 1 0 rfl rfl hf1 dX7_begins_6 (fun H locs hP hD hS => ?_)
  obtain ⟨y_2, hy_2, hM⟩ := tbE hM
  have hP : va_P (dC, dI) vwCl (wMod cI g y_2) H := by rw [hy_2]; exact hP
  have hD : va_D A (wMod cI g y_2) := by rw [hy_2]; exact hD
  refine lv_aload_n hx hb dX7_begins_7 rfl (lv_at hl 0 rfl) ?_
  refine va_get (D := (dC, dI)) (ci := 5) (v := .ref (g 1)) (C := RX7) (T := TX7) (N := 14) hx hb hts inX7 hown hG.1 hP 0 rfl rfl 0 (by decide) (hts (.fieldLink RX7 7 "WokenDriveModel" "now" "[I") (List.mem_of_getElem? (i := 1) rfl)) (fun _ h9 => h9) rfl dX7_begins_8 ?_
  refine lv_iconst (v := (3 : Int32)) hx hb dX7_begins_11 (by decide) ?_
  refine lv_aload_n hx hb dX7_begins_12 rfl (lv_at hl 0 rfl) ?_
  refine va_get (D := (dC, dI)) (ci := 5) (v := .ref (g 1)) (C := RX7) (T := TX7) (N := 14) hx hb hts inX7 hown hG.1 hP 0 rfl rfl 0 (by decide) (hts (.fieldLink RX7 7 "WokenDriveModel" "now" "[I") (List.mem_of_getElem? (i := 1) rfl)) (fun _ h9 => h9) rfl dX7_begins_13 ?_
  refine lv_iconst (v := (4 : Int32)) hx hb dX7_begins_16 (by decide) ?_
  refine lv_aload_n hx hb dX7_begins_17 rfl (lv_at hl 0 rfl) ?_
  refine lv_iload_n hx hb dX7_begins_18 rfl (lv_at hl 1 rfl) ?_
  refine lv_iconst (v := (3 : Int32)) hx hb dX7_begins_19 (by decide) ?_
  obtain ⟨r3, hr3, hM⟩ := ob hM
  refine wk_callP (va_runV (As := [.int p1, .int (3 : Int32)]) (rest := [.int (4 : Int32), .ref (g 1), .int (3 : Int32), .ref (g 1)]) ⟨hx, hb, hml, hown, hts⟩ (c_X7_of l dC dI cI cD cJ kk g y_2 p1 (3 : Int32) _ hr3 H) (cwV 2 hts gX7_begins_X7_of rfl rfl rfl (by decide +kernel) ⟨Nat.le_of_ble_eq_true rfl, Nat.le_of_ble_eq_true rfl⟩) (wk_preV (ci := 5) (q0 := 0) hG hP hD [0, 1, 2, 3, 4, 5, 6, 7] rfl rfl rfl rfl) rfl rfl hl.1 rfl (lv_room (Nat.le_of_ble_eq_true rfl)) dX7_begins_20 ⟨Nat.le_of_ble_eq_true rfl, Nat.le_of_ble_eq_true rfl⟩) hS (fun locs hS => ?_)
  refine lv_iadd hx hb dX7_begins_23 ?_
  obtain ⟨v4, hv4, hM⟩ := ob hM
  refine wk_iald hx hb hG hP 1 0 rfl rfl hv4 dX7_begins_24 ?_
  obtain ⟨f5, hf5, hM⟩ := ob hM
  refine wk_iast hx hb hG hP hD hS 1 0 rfl rfl hf5 dX7_begins_25 (fun H locs hP hD hS => ?_)
  obtain ⟨y_6, hy_6, hM⟩ := tbE hM
  have hP : va_P (dC, dI) vwCl (wMod cI g y_6) H := by rw [hy_6]; exact hP
  have hD : va_D A (wMod cI g y_6) := by rw [hy_6]; exact hD
  refine lv_aload_n hx hb dX7_begins_26 rfl (lv_at hl 0 rfl) ?_
  refine lv_iload_n hx hb dX7_begins_27 rfl (lv_at hl 1 rfl) ?_
  refine lv_iconst (v := (5 : Int32)) hx hb dX7_begins_28 (by decide) ?_
  refine lv_iconst (v := (1 : Int32)) hx hb dX7_begins_29 (by decide) ?_
  obtain ⟨r7, hr7, hM⟩ := ob hM
  refine wk_callM (ws' := (wMod cI g r7)) (va_runV (As := [.int p1, .int (5 : Int32), .int (1 : Int32)]) (rest := []) ⟨hx, hb, hml, hown, hts⟩ (c_X7_put l dC dI cI cD cJ kk g y_6 p1 (5 : Int32) (1 : Int32) _ hr7 H) (cwV 3 hts gX7_begins_X7_put rfl rfl rfl (by decide +kernel) ⟨Nat.le_of_ble_eq_true rfl, Nat.le_of_ble_eq_true rfl⟩) (wk_preV (ci := 5) (q0 := 0) hG hP hD [0, 1, 2, 3, 4, 5, 6, 7] rfl rfl rfl rfl) rfl rfl hl.1 rfl (lv_room (Nat.le_of_ble_eq_true rfl)) dX7_begins_30 ⟨Nat.le_of_ble_eq_true rfl, Nat.le_of_ble_eq_true rfl⟩) hP hD hS hA [0, 1, 2, 3, 4, 5, 6, 7] [] [0, 1, 2, 3, 4, 5, 6, 7] rfl rfl rfl (by decide) rfl rfl (fun H locs hP hD hS => ?_)
  replace hM := Option.some.inj hM
  subst hM
  exact wk_retMv hx hb hr hlocks hQ rfl hP hD hS dX7_begins_33
set_option maxHeartbeats 4000000 in
set_option maxRecDepth 100000 in
theorem c_X7_writes (l : Launch) (dC : Nat → ClassId) (dI : Nat → Nat → Nat) (cI cD cJ : ClassId) (kk : wAd) (g : Nat → Nat) (x : MS) (p1 : Int32) (out : MS) (hM : M_X7_writes x p1 = some out) : CM l yX7_writes wsX7_writes ({ frames := 1, cells := 0, slots := 0, locals := 22 } : Room) dC dI (wTys cI cD cJ) [.ref (g 0), .int p1] (wMod cI g x) none (wMod cI g out) 0 0 := by
  refine wk_enterM (cc := cX7_writes) (maxL := 3) (ret := none) (by decide) rfl (Nat.le_of_ble_eq_true rfl) ?_
  intro p e s m below meth c A Q ls hB hA hP hD hQ hl
  obtain ⟨hx, hb, hml, hr, hts, hown, hname, hlocks, hG⟩ := hB
  have hown : s.vm.findClass RX7 = some m.cls := hown
  have hS : va_S A s.heap s.heap [] := va_S.rf
  have hl : lv_has ls 3 [(0, .ref (g 0)), (1, .int p1)] := hl
  have inX7 : ∀ w ∈ wsX70, w ∈ wsX7_writes := fun _ h => List.mem_cons_of_mem _ (List.mem_append_right _ h)
  obtain ⟨H, hH⟩ : ∃ z, z = s.heap := ⟨_, rfl⟩
  have hP : va_P (dC, dI) vwCl (wMod cI g x) H := by rw [hH]; exact hP
  have hS : va_S A s.heap H [] := by rw [hH]; exact hS
  refine wk_at hH ?_
  generalize ([] : List Loc) = locs at hS ⊢
  have hB99 : ∀ (y0 : MS) (H : Heap) (locs : List Loc) (ls : Array Slot), M_X7_writes_99 x p1 y0 = some out → va_P (dC, dI) vwCl (wMod cI g y0) H → va_D A (wMod cI g y0) → va_S A s.heap H locs → lv_has ls 3 [] → W p l e ({ frames := 1, cells := 0, slots := 0, locals := 22 } : Room) s m ([.ref (g 0), .int p1] : List Value).toArray below meth c H locs 0 0 Q (F0 m 99 ls []) := by
    intro y0 H locs ls hM hP hD hS hl
    unfold M_X7_writes_99 at hM
    replace hM := Option.some.inj hM
    subst hM
    exact wk_retMv hx hb hr hlocks hQ rfl hP hD hS dX7_writes_99
  unfold M_X7_writes at hM
  refine lv_iconst (v := (4 : Int32)) hx hb dX7_writes_0 (by decide) ?_
  refine lv_aload_n hx hb dX7_writes_1 rfl (lv_at hl 0 rfl) ?_
  refine lv_iload_n hx hb dX7_writes_2 rfl (lv_at hl 1 rfl) ?_
  refine lv_iconst (v := (3 : Int32)) hx hb dX7_writes_3 (by decide) ?_
  obtain ⟨r1, hr1, hM⟩ := ob hM
  refine wk_callP (va_runV (As := [.int p1, .int (3 : Int32)]) (rest := [.int (4 : Int32)]) ⟨hx, hb, hml, hown, hts⟩ (c_X7_of l dC dI cI cD cJ kk g x p1 (3 : Int32) _ hr1 H) (cwV 2 hts gX7_writes_X7_of rfl rfl rfl (by decide +kernel) ⟨Nat.le_of_ble_eq_true rfl, Nat.le_of_ble_eq_true rfl⟩) (wk_preV (ci := 5) (q0 := 0) hG hP hD [0, 1, 2, 3, 4, 5, 6, 7] rfl rfl rfl rfl) rfl rfl hl.1 rfl (lv_room (Nat.le_of_ble_eq_true rfl)) dX7_writes_4 ⟨Nat.le_of_ble_eq_true rfl, Nat.le_of_ble_eq_true rfl⟩) hS (fun locs hS => ?_)
  refine lv_iadd hx hb dX7_writes_7 ?_
  refine lv_istore_n (lv' := [(2, .int ((4 : Int32) + r1)), (0, .ref (g 0)), (1, .int p1)]) hx hb dX7_writes_8 rfl hl (by decide) rfl (fun ls hl => ?_)
  refine lv_aload_n hx hb dX7_writes_9 rfl (lv_at hl 1 rfl) ?_
  refine lv_iload_n hx hb dX7_writes_10 rfl (lv_at hl 2 rfl) ?_
  refine lv_iconst (v := (2 : Int32)) hx hb dX7_writes_11 (by decide) ?_
  obtain ⟨r2, hr2, hM⟩ := ob hM
  refine wk_callP (va_runV (As := [.int p1, .int (2 : Int32)]) (rest := []) ⟨hx, hb, hml, hown, hts⟩ (c_X7_of l dC dI cI cD cJ kk g x p1 (2 : Int32) _ hr2 H) (cwV 2 hts gX7_writes_X7_of rfl rfl rfl (by decide +kernel) ⟨Nat.le_of_ble_eq_true rfl, Nat.le_of_ble_eq_true rfl⟩) (wk_preV (ci := 5) (q0 := 0) hG hP hD [0, 1, 2, 3, 4, 5, 6, 7] rfl rfl rfl rfl) rfl rfl hl.1 rfl (lv_room (Nat.le_of_ble_eq_true rfl)) dX7_writes_12 ⟨Nat.le_of_ble_eq_true rfl, Nat.le_of_ble_eq_true rfl⟩) hS (fun locs hS => ?_)
  by_cases c3 : r2 = 0
  · replace hM := (if_pos c3).symm.trans hM
    refine lv_tableIn (off := 25) (tgt := 40) hx hb dX7_writes_15 (by rw [c3]; decide) (by rw [c3]; decide) (by rw [c3]; decide) (by decide) ?_
    refine lv_aload_n hx hb dX7_writes_40 rfl (lv_at hl 1 rfl) ?_
    refine va_get (D := (dC, dI)) (ci := 5) (v := .ref (g 1)) (C := RX7) (T := TX7) (N := 14) hx hb hts inX7 hown hG.1 hP 0 rfl rfl 0 (by decide) (hts (.fieldLink RX7 7 "WokenDriveModel" "now" "[I") (List.mem_of_getElem? (i := 1) rfl)) (fun _ h9 => h9) rfl dX7_writes_41 ?_
    refine lv_iload_n hx hb dX7_writes_44 rfl (lv_at hl 0 rfl) ?_
    refine lv_aload_n hx hb dX7_writes_45 rfl (lv_at hl 1 rfl) ?_
    refine lv_iload_n hx hb dX7_writes_46 rfl (lv_at hl 2 rfl) ?_
    refine lv_iconst (v := (4 : Int32)) hx hb dX7_writes_47 (by decide) ?_
    obtain ⟨r4, hr4, hM⟩ := ob hM
    refine wk_callP (va_runV (As := [.int p1, .int (4 : Int32)]) (rest := [.int ((4 : Int32) + r1), .ref (g 1)]) ⟨hx, hb, hml, hown, hts⟩ (c_X7_of l dC dI cI cD cJ kk g x p1 (4 : Int32) _ hr4 H) (cwV 2 hts gX7_writes_X7_of rfl rfl rfl (by decide +kernel) ⟨Nat.le_of_ble_eq_true rfl, Nat.le_of_ble_eq_true rfl⟩) (wk_preV (ci := 5) (q0 := 0) hG hP hD [0, 1, 2, 3, 4, 5, 6, 7] rfl rfl rfl rfl) rfl rfl hl.1 rfl (lv_room (Nat.le_of_ble_eq_true rfl)) dX7_writes_48 ⟨Nat.le_of_ble_eq_true rfl, Nat.le_of_ble_eq_true rfl⟩) hS (fun locs hS => ?_)
    obtain ⟨f5, hf5, hM⟩ := ob hM
    refine wk_iast hx hb hG hP hD hS 1 0 rfl rfl hf5 dX7_writes_51 (fun H locs hP hD hS => ?_)
    obtain ⟨y_6, hy_6, hM⟩ := tbE hM
    have hP : va_P (dC, dI) vwCl (wMod cI g y_6) H := by rw [hy_6]; exact hP
    have hD : va_D A (wMod cI g y_6) := by rw [hy_6]; exact hD
    refine lv_goto (tgt := 99) hx hb dX7_writes_52 (by decide) ?_
    exact hB99 y_6 H _ _ hM hP hD hS (lv_sub hl [] rfl)
  replace hM := (if_neg c3).symm.trans hM
  by_cases c7 : r2 = 1
  · replace hM := (if_pos c7).symm.trans hM
    refine lv_tableIn (off := 40) (tgt := 55) hx hb dX7_writes_15 (by rw [c7]; decide) (by rw [c7]; decide) (by rw [c7]; decide) (by decide) ?_
    refine lv_aload_n hx hb dX7_writes_55 rfl (lv_at hl 1 rfl) ?_
    refine va_get (D := (dC, dI)) (ci := 5) (v := .ref (g 1)) (C := RX7) (T := TX7) (N := 14) hx hb hts inX7 hown hG.1 hP 0 rfl rfl 0 (by decide) (hts (.fieldLink RX7 7 "WokenDriveModel" "now" "[I") (List.mem_of_getElem? (i := 1) rfl)) (fun _ h9 => h9) rfl dX7_writes_56 ?_
    refine lv_iload_n hx hb dX7_writes_59 rfl (lv_at hl 0 rfl) ?_
    refine lv_aload_n hx hb dX7_writes_60 rfl (lv_at hl 1 rfl) ?_
    refine va_get (D := (dC, dI)) (ci := 5) (v := .ref (g 1)) (C := RX7) (T := TX7) (N := 14) hx hb hts inX7 hown hG.1 hP 0 rfl rfl 0 (by decide) (hts (.fieldLink RX7 7 "WokenDriveModel" "now" "[I") (List.mem_of_getElem? (i := 1) rfl)) (fun _ h9 => h9) rfl dX7_writes_61 ?_
    refine lv_iconst (v := (3 : Int32)) hx hb dX7_writes_64 (by decide) ?_
    obtain ⟨v8, hv8, hM⟩ := ob hM
    refine wk_iald hx hb hG hP 1 0 rfl rfl hv8 dX7_writes_65 ?_
    refine lv_aload_n hx hb dX7_writes_66 rfl (lv_at hl 1 rfl) ?_
    refine lv_iload_n hx hb dX7_writes_67 rfl (lv_at hl 2 rfl) ?_
    refine lv_iconst (v := (4 : Int32)) hx hb dX7_writes_68 (by decide) ?_
    obtain ⟨r9, hr9, hM⟩ := ob hM
    refine wk_callP (va_runV (As := [.int p1, .int (4 : Int32)]) (rest := [.int v8, .int ((4 : Int32) + r1), .ref (g 1)]) ⟨hx, hb, hml, hown, hts⟩ (c_X7_of l dC dI cI cD cJ kk g x p1 (4 : Int32) _ hr9 H) (cwV 2 hts gX7_writes_X7_of rfl rfl rfl (by decide +kernel) ⟨Nat.le_of_ble_eq_true rfl, Nat.le_of_ble_eq_true rfl⟩) (wk_preV (ci := 5) (q0 := 0) hG hP hD [0, 1, 2, 3, 4, 5, 6, 7] rfl rfl rfl rfl) rfl rfl hl.1 rfl (lv_room (Nat.le_of_ble_eq_true rfl)) dX7_writes_69 ⟨Nat.le_of_ble_eq_true rfl, Nat.le_of_ble_eq_true rfl⟩) hS (fun locs hS => ?_)
    refine lv_iadd hx hb dX7_writes_72 ?_
    obtain ⟨f10, hf10, hM⟩ := ob hM
    refine wk_iast hx hb hG hP hD hS 1 0 rfl rfl hf10 dX7_writes_73 (fun H locs hP hD hS => ?_)
    obtain ⟨y_11, hy_11, hM⟩ := tbE hM
    have hP : va_P (dC, dI) vwCl (wMod cI g y_11) H := by rw [hy_11]; exact hP
    have hD : va_D A (wMod cI g y_11) := by rw [hy_11]; exact hD
    refine lv_goto (tgt := 99) hx hb dX7_writes_74 (by decide) ?_
    exact hB99 y_11 H _ _ hM hP hD hS (lv_sub hl [] rfl)
  replace hM := (if_neg c7).symm.trans hM
  by_cases c12 : r2 = 2
  · replace hM := (if_pos c12).symm.trans hM
    refine lv_tableIn (off := 62) (tgt := 77) hx hb dX7_writes_15 (by rw [c12]; decide) (by rw [c12]; decide) (by rw [c12]; decide) (by decide) ?_
    refine lv_aload_n hx hb dX7_writes_77 rfl (lv_at hl 1 rfl) ?_
    refine va_get (D := (dC, dI)) (ci := 5) (v := .ref (g 1)) (C := RX7) (T := TX7) (N := 14) hx hb hts inX7 hown hG.1 hP 0 rfl rfl 0 (by decide) (hts (.fieldLink RX7 7 "WokenDriveModel" "now" "[I") (List.mem_of_getElem? (i := 1) rfl)) (fun _ h9 => h9) rfl dX7_writes_78 ?_
    refine lv_iload_n hx hb dX7_writes_81 rfl (lv_at hl 0 rfl) ?_
    refine lv_aload_n hx hb dX7_writes_82 rfl (lv_at hl 1 rfl) ?_
    refine va_get (D := (dC, dI)) (ci := 5) (v := .ref (g 1)) (C := RX7) (T := TX7) (N := 14) hx hb hts inX7 hown hG.1 hP 0 rfl rfl 0 (by decide) (hts (.fieldLink RX7 7 "WokenDriveModel" "now" "[I") (List.mem_of_getElem? (i := 1) rfl)) (fun _ h9 => h9) rfl dX7_writes_83 ?_
    refine lv_iconst (v := (4 : Int32)) hx hb dX7_writes_86 (by decide) ?_
    refine lv_aload_n hx hb dX7_writes_87 rfl (lv_at hl 1 rfl) ?_
    refine lv_iload_n hx hb dX7_writes_88 rfl (lv_at hl 2 rfl) ?_
    refine lv_iconst (v := (4 : Int32)) hx hb dX7_writes_89 (by decide) ?_
    obtain ⟨r13, hr13, hM⟩ := ob hM
    refine wk_callP (va_runV (As := [.int p1, .int (4 : Int32)]) (rest := [.int (4 : Int32), .ref (g 1), .int ((4 : Int32) + r1), .ref (g 1)]) ⟨hx, hb, hml, hown, hts⟩ (c_X7_of l dC dI cI cD cJ kk g x p1 (4 : Int32) _ hr13 H) (cwV 2 hts gX7_writes_X7_of rfl rfl rfl (by decide +kernel) ⟨Nat.le_of_ble_eq_true rfl, Nat.le_of_ble_eq_true rfl⟩) (wk_preV (ci := 5) (q0 := 0) hG hP hD [0, 1, 2, 3, 4, 5, 6, 7] rfl rfl rfl rfl) rfl rfl hl.1 rfl (lv_room (Nat.le_of_ble_eq_true rfl)) dX7_writes_90 ⟨Nat.le_of_ble_eq_true rfl, Nat.le_of_ble_eq_true rfl⟩) hS (fun locs hS => ?_)
    refine lv_iadd hx hb dX7_writes_93 ?_
    obtain ⟨v14, hv14, hM⟩ := ob hM
    refine wk_iald hx hb hG hP 1 0 rfl rfl hv14 dX7_writes_94 ?_
    obtain ⟨f15, hf15, hM⟩ := ob hM
    refine wk_iast hx hb hG hP hD hS 1 0 rfl rfl hf15 dX7_writes_95 (fun H locs hP hD hS => ?_)
    obtain ⟨y_16, hy_16, hM⟩ := tbE hM
    have hP : va_P (dC, dI) vwCl (wMod cI g y_16) H := by rw [hy_16]; exact hP
    have hD : va_D A (wMod cI g y_16) := by rw [hy_16]; exact hD
    refine lv_goto (tgt := 99) hx hb dX7_writes_96 (by decide) ?_
    exact hB99 y_16 H _ _ hM hP hD hS (lv_sub hl [] rfl)
  replace hM := (if_neg c12).symm.trans hM
  have ec3 : (r2).toInt ≠ 0 := fun q => c3 (Int32.toInt_inj.mp (q.trans (by decide)))
  have ec7 : (r2).toInt ≠ 1 := fun q => c7 (Int32.toInt_inj.mp (q.trans (by decide)))
  have ec12 : (r2).toInt ≠ 2 := fun q => c12 (Int32.toInt_inj.mp (q.trans (by decide)))
  refine lv_tableOut (tgt := 99) hx hb dX7_writes_15 (by omega) (by decide) ?_
  exact hB99 x H _ _ hM hP hD hS (lv_sub hl [] rfl)
set_option maxHeartbeats 4000000 in
set_option maxRecDepth 100000 in
theorem c_X7_ends (l : Launch) (dC : Nat → ClassId) (dI : Nat → Nat → Nat) (cI cD cJ : ClassId) (kk : wAd) (g : Nat → Nat) (x : MS) (p1 : Int32) (p2 : Int32) (out : MS) (hM : M_X7_ends x p1 p2 = some out) : CM l yX7_ends wsX7_ends ({ frames := 1, cells := 0, slots := 0, locals := 23 } : Room) dC dI (wTys cI cD cJ) [.ref (g 0), .int p1, .int p2] (wMod cI g x) none (wMod cI g out) 0 0 := by
  refine wk_enterM (cc := cX7_ends) (maxL := 3) (ret := none) (by decide) rfl (Nat.le_of_ble_eq_true rfl) ?_
  intro p e s m below meth c A Q ls hB hA hP hD hQ hl
  obtain ⟨hx, hb, hml, hr, hts, hown, hname, hlocks, hG⟩ := hB
  have hown : s.vm.findClass RX7 = some m.cls := hown
  have hS : va_S A s.heap s.heap [] := va_S.rf
  have hl : lv_has ls 3 [(0, .ref (g 0)), (1, .int p1), (2, .int p2)] := hl
  have inX7 : ∀ w ∈ wsX70, w ∈ wsX7_ends := fun _ h => List.mem_cons_of_mem _ (List.mem_append_right _ h)
  obtain ⟨H, hH⟩ : ∃ z, z = s.heap := ⟨_, rfl⟩
  have hP : va_P (dC, dI) vwCl (wMod cI g x) H := by rw [hH]; exact hP
  have hS : va_S A s.heap H [] := by rw [hH]; exact hS
  refine wk_at hH ?_
  generalize ([] : List Loc) = locs at hS ⊢
  unfold M_X7_ends at hM
  refine lv_aload_n hx hb dX7_ends_0 rfl (lv_at hl 0 rfl) ?_
  refine lv_iload_n hx hb dX7_ends_1 rfl (lv_at hl 1 rfl) ?_
  refine lv_iconst (v := (5 : Int32)) hx hb dX7_ends_2 (by decide) ?_
  refine lv_iconst (v := (2 : Int32)) hx hb dX7_ends_3 (by decide) ?_
  obtain ⟨r1, hr1, hM⟩ := ob hM
  refine wk_callM (ws' := (wMod cI g r1)) (va_runV (As := [.int p1, .int (5 : Int32), .int (2 : Int32)]) (rest := []) ⟨hx, hb, hml, hown, hts⟩ (c_X7_put l dC dI cI cD cJ kk g x p1 (5 : Int32) (2 : Int32) _ hr1 H) (cwV 3 hts gX7_ends_X7_put rfl rfl rfl (by decide +kernel) ⟨Nat.le_of_ble_eq_true rfl, Nat.le_of_ble_eq_true rfl⟩) (wk_preV (ci := 5) (q0 := 0) hG hP hD [0, 1, 2, 3, 4, 5, 6, 7] rfl rfl rfl rfl) rfl rfl hl.1 rfl (lv_room (Nat.le_of_ble_eq_true rfl)) dX7_ends_4 ⟨Nat.le_of_ble_eq_true rfl, Nat.le_of_ble_eq_true rfl⟩) hP hD hS hA [0, 1, 2, 3, 4, 5, 6, 7] [] [0, 1, 2, 3, 4, 5, 6, 7] rfl rfl rfl (by decide) rfl rfl (fun H locs hP hD hS => ?_)
  refine lv_aload_n hx hb dX7_ends_7 rfl (lv_at hl 0 rfl) ?_
  refine lv_iload_n hx hb dX7_ends_8 rfl (lv_at hl 1 rfl) ?_
  refine lv_bipush (v := (6 : Int32)) hx hb dX7_ends_9 (by decide) ?_
  refine lv_iload_n hx hb dX7_ends_11 rfl (lv_at hl 2 rfl) ?_
  obtain ⟨r2, hr2, hM⟩ := ob hM
  refine wk_callM (ws' := (wMod cI g r2)) (va_runV (As := [.int p1, .int (6 : Int32), .int p2]) (rest := []) ⟨hx, hb, hml, hown, hts⟩ (c_X7_put l dC dI cI cD cJ kk g r1 p1 (6 : Int32) p2 _ hr2 H) (cwV 3 hts gX7_ends_X7_put rfl rfl rfl (by decide +kernel) ⟨Nat.le_of_ble_eq_true rfl, Nat.le_of_ble_eq_true rfl⟩) (wk_preV (ci := 5) (q0 := 0) hG hP hD [0, 1, 2, 3, 4, 5, 6, 7] rfl rfl rfl rfl) rfl rfl hl.1 rfl (lv_room (Nat.le_of_ble_eq_true rfl)) dX7_ends_12 ⟨Nat.le_of_ble_eq_true rfl, Nat.le_of_ble_eq_true rfl⟩) hP hD hS hA [0, 1, 2, 3, 4, 5, 6, 7] [] [0, 1, 2, 3, 4, 5, 6, 7] rfl rfl rfl (by decide) rfl rfl (fun H locs hP hD hS => ?_)
  refine lv_aload_n hx hb dX7_ends_15 rfl (lv_at hl 0 rfl) ?_
  refine lv_iload_n hx hb dX7_ends_16 rfl (lv_at hl 1 rfl) ?_
  refine lv_bipush (v := (8 : Int32)) hx hb dX7_ends_17 (by decide) ?_
  refine lv_aload_n hx hb dX7_ends_19 rfl (lv_at hl 0 rfl) ?_
  refine va_get (D := (dC, dI)) (ci := 5) (v := .ref (g 1)) (C := RX7) (T := TX7) (N := 14) hx hb hts inX7 hown hG.1 hP 0 rfl rfl 0 (by decide) (hts (.fieldLink RX7 7 "WokenDriveModel" "now" "[I") (List.mem_of_getElem? (i := 1) rfl)) (fun _ h9 => h9) rfl dX7_ends_20 ?_
  refine lv_iconst (v := (0 : Int32)) hx hb dX7_ends_23 (by decide) ?_
  obtain ⟨v3, hv3, hM⟩ := ob hM
  refine wk_iald hx hb hG hP 1 0 rfl rfl hv3 dX7_ends_24 ?_
  obtain ⟨r4, hr4, hM⟩ := ob hM
  refine wk_callM (ws' := (wMod cI g r4)) (va_runV (As := [.int p1, .int (8 : Int32), .int v3]) (rest := []) ⟨hx, hb, hml, hown, hts⟩ (c_X7_put l dC dI cI cD cJ kk g r2 p1 (8 : Int32) v3 _ hr4 H) (cwV 3 hts gX7_ends_X7_put rfl rfl rfl (by decide +kernel) ⟨Nat.le_of_ble_eq_true rfl, Nat.le_of_ble_eq_true rfl⟩) (wk_preV (ci := 5) (q0 := 0) hG hP hD [0, 1, 2, 3, 4, 5, 6, 7] rfl rfl rfl rfl) rfl rfl hl.1 rfl (lv_room (Nat.le_of_ble_eq_true rfl)) dX7_ends_25 ⟨Nat.le_of_ble_eq_true rfl, Nat.le_of_ble_eq_true rfl⟩) hP hD hS hA [0, 1, 2, 3, 4, 5, 6, 7] [] [0, 1, 2, 3, 4, 5, 6, 7] rfl rfl rfl (by decide) rfl rfl (fun H locs hP hD hS => ?_)
  refine lv_aload_n hx hb dX7_ends_28 rfl (lv_at hl 0 rfl) ?_
  refine lv_iload_n hx hb dX7_ends_29 rfl (lv_at hl 2 rfl) ?_
  refine lv_iconst (v := (4 : Int32)) hx hb dX7_ends_30 (by decide) ?_
  obtain ⟨r5, hr5, hM⟩ := ob hM
  refine wk_callM (ws' := (wMod cI g r5)) (va_runV (As := [.int p2, .int (4 : Int32)]) (rest := []) ⟨hx, hb, hml, hown, hts⟩ (c_X7_more l dC dI cI cD cJ kk g r4 p2 (4 : Int32) _ hr5 H) (cwV 2 hts gX7_ends_X7_more rfl rfl rfl (by decide +kernel) ⟨Nat.le_of_ble_eq_true rfl, Nat.le_of_ble_eq_true rfl⟩) (wk_preV (ci := 5) (q0 := 0) hG hP hD [0, 1, 2, 3, 4, 5, 6, 7] rfl rfl rfl rfl) rfl rfl hl.1 rfl (lv_room (Nat.le_of_ble_eq_true rfl)) dX7_ends_31 ⟨Nat.le_of_ble_eq_true rfl, Nat.le_of_ble_eq_true rfl⟩) hP hD hS hA [0, 1, 2, 3, 4, 5, 6, 7] [] [0, 1, 2, 3, 4, 5, 6, 7] rfl rfl rfl (by decide) rfl rfl (fun H locs hP hD hS => ?_)
  replace hM := Option.some.inj hM
  subst hM
  exact wk_retMv hx hb hr hlocks hQ rfl hP hD hS dX7_ends_34
set_option maxHeartbeats 4000000 in
set_option maxRecDepth 100000 in
theorem c_X7_isTorn (l : Launch) (dC : Nat → ClassId) (dI : Nat → Nat → Nat) (cI cD cJ : ClassId) (kk : wAd) (g : Nat → Nat) (x : MS) (out : Bool) (hM : M_X7_isTorn x = some out) : CP l yX7_isTorn wsX7_isTorn ({ frames := 1, cells := 0, slots := 0, locals := 22 } : Room) dC dI (wTys cI cD cJ) [.ref (g 0)] (wMod cI g x) (some (.int (zI out))) := by
  refine wk_enterP (cc := cX7_isTorn) (maxL := 1) (ret := (some .boolean)) (by decide) rfl (Nat.le_of_ble_eq_true rfl) ?_
  intro p e s m below meth c A Q ls hB hP hD hA hQ hl
  obtain ⟨hx, hb, hml, hr, hts, hown, hname, hlocks, hG⟩ := hB
  have hown : s.vm.findClass RX7 = some m.cls := hown
  have hS : va_S A s.heap s.heap [] := va_S.rf
  have hl : lv_has ls 1 [(0, .ref (g 0))] := hl
  have inX7 : ∀ w ∈ wsX70, w ∈ wsX7_isTorn := fun _ h => List.mem_cons_of_mem _ (List.mem_append_right _ h)
  generalize ([] : List Loc) = locs at hS ⊢
  have hB30 : ∀ (w0 : Bool) (locs : List Loc) (ls : Array Slot), M_X7_isTorn_30 x w0 = some out → va_S A s.heap s.heap locs → lv_has ls 1 [] → W p l e ({ frames := 1, cells := 0, slots := 0, locals := 22 } : Room) s m ([.ref (g 0)] : List Value).toArray below meth c s.heap locs 0 0 Q (F0 m 30 ls [.int (zI w0)]) := by
    intro w0 locs ls hM hS hl
    unfold M_X7_isTorn_30 at hM
    replace hM := Option.some.inj hM
    subst hM
    exact wk_retPi hx hb hr hlocks hQ (zI_nar _) rfl hS dX7_isTorn_30
  have hB29 : ∀  (locs : List Loc) (ls : Array Slot), M_X7_isTorn_29 x = some out → va_S A s.heap s.heap locs → lv_has ls 1 [] → W p l e ({ frames := 1, cells := 0, slots := 0, locals := 22 } : Room) s m ([.ref (g 0)] : List Value).toArray below meth c s.heap locs 0 0 Q (F0 m 29 ls []) := by
    intro  locs ls hM hS hl
    unfold M_X7_isTorn_29 at hM
    refine lv_iconst (v := (0 : Int32)) hx hb dX7_isTorn_29 (by decide) ?_
    exact hB30 false  _ _ hM hS (lv_sub hl [] rfl)
  unfold M_X7_isTorn at hM
  refine lv_aload_n hx hb dX7_isTorn_0 rfl (lv_at hl 0 rfl) ?_
  refine va_get (D := (dC, dI)) (ci := 5) (v := .ref (g 1)) (C := RX7) (T := TX7) (N := 14) hx hb hts inX7 hown hG.1 hP 0 rfl rfl 0 (by decide) (hts (.fieldLink RX7 7 "WokenDriveModel" "now" "[I") (List.mem_of_getElem? (i := 1) rfl)) (fun _ h9 => h9) rfl dX7_isTorn_1 ?_
  refine lv_iconst (v := (2 : Int32)) hx hb dX7_isTorn_4 (by decide) ?_
  obtain ⟨v1, hv1, hM⟩ := ob hM
  refine wk_iald hx hb hG hP 1 0 rfl rfl hv1 dX7_isTorn_5 ?_
  refine lv_iconst (v := (-1 : Int32)) hx hb dX7_isTorn_6 (by decide) ?_
  refine lv_icmp_eq (tgt := 29) hx hb dX7_isTorn_7 (by decide) (fun c2 => ?_) (fun c2 => ?_)
  · replace hM := (if_pos c2).symm.trans hM
    exact hB29   _ _ hM hS (lv_sub hl [] rfl)
  · replace hM := (if_neg c2).symm.trans hM
    refine lv_aload_n hx hb dX7_isTorn_10 rfl (lv_at hl 0 rfl) ?_
    refine lv_aload_n hx hb dX7_isTorn_11 rfl (lv_at hl 0 rfl) ?_
    refine va_get (D := (dC, dI)) (ci := 5) (v := .ref (g 1)) (C := RX7) (T := TX7) (N := 14) hx hb hts inX7 hown hG.1 hP 0 rfl rfl 0 (by decide) (hts (.fieldLink RX7 7 "WokenDriveModel" "now" "[I") (List.mem_of_getElem? (i := 1) rfl)) (fun _ h9 => h9) rfl dX7_isTorn_12 ?_
    refine lv_iconst (v := (2 : Int32)) hx hb dX7_isTorn_15 (by decide) ?_
    obtain ⟨v3, hv3, hM⟩ := ob hM
    refine wk_iald hx hb hG hP 1 0 rfl rfl hv3 dX7_isTorn_16 ?_
    refine lv_iconst (v := (5 : Int32)) hx hb dX7_isTorn_17 (by decide) ?_
    obtain ⟨r4, hr4, hM⟩ := ob hM
    refine wk_callP (va_runV (As := [.int v3, .int (5 : Int32)]) (rest := []) ⟨hx, hb, hml, hown, hts⟩ (c_X7_of l dC dI cI cD cJ kk g x v3 (5 : Int32) _ hr4 s.heap) (cwV 2 hts gX7_isTorn_X7_of rfl rfl rfl (by decide +kernel) ⟨Nat.le_of_ble_eq_true rfl, Nat.le_of_ble_eq_true rfl⟩) (wk_preV (ci := 5) (q0 := 0) hG hP hD [0, 1, 2, 3, 4, 5, 6, 7] rfl rfl rfl rfl) rfl rfl hl.1 rfl (lv_room (Nat.le_of_ble_eq_true rfl)) dX7_isTorn_18 ⟨Nat.le_of_ble_eq_true rfl, Nat.le_of_ble_eq_true rfl⟩) hS (fun locs hS => ?_)
    refine lv_iconst (v := (1 : Int32)) hx hb dX7_isTorn_21 (by decide) ?_
    refine lv_icmp_ne (tgt := 29) hx hb dX7_isTorn_22 (by decide) (fun c5 => ?_) (fun c5 => ?_)
    · replace hM := (if_neg c5).symm.trans hM
      exact hB29   _ _ hM hS (lv_sub hl [] rfl)
    · replace hM := (if_pos c5).symm.trans hM
      refine lv_iconst (v := (1 : Int32)) hx hb dX7_isTorn_25 (by decide) ?_
      refine lv_goto (tgt := 30) hx hb dX7_isTorn_26 (by decide) ?_
      exact hB30 true  _ _ hM hS (lv_sub hl [] rfl)
set_option maxHeartbeats 4000000 in
set_option maxRecDepth 100000 in
theorem c_X7_takes (l : Launch) (dC : Nat → ClassId) (dI : Nat → Nat → Nat) (cI cD cJ : ClassId) (kk : wAd) (g : Nat → Nat) (x : MS) (p1 : Int32) (p2 : Int32) (p3 : Int32) (out : Int32 × MS) (hM : M_X7_takes x p1 p2 p3 = some out) : CM l yX7_takes wsX7_takes ({ frames := 2, cells := 0, slots := 0, locals := 45 } : Room) dC dI (wTys cI cD cJ) [.ref (g 0), .int p1, .int p2, .int p3] (wMod cI g x) (some (.int out.1)) (wMod cI g out.2) 0 0 := by
  refine wk_enterM (cc := cX7_takes) (maxL := 5) (ret := (some .int)) (by decide) rfl (Nat.le_of_ble_eq_true rfl) ?_
  intro p e s m below meth c A Q ls hB hA hP hD hQ hl
  obtain ⟨hx, hb, hml, hr, hts, hown, hname, hlocks, hG⟩ := hB
  have hown : s.vm.findClass RX7 = some m.cls := hown
  have hS : va_S A s.heap s.heap [] := va_S.rf
  have hl : lv_has ls 5 [(0, .ref (g 0)), (1, .int p1), (2, .int p2), (3, .int p3)] := hl
  have inX7 : ∀ w ∈ wsX70, w ∈ wsX7_takes := fun _ h => List.mem_cons_of_mem _ (List.mem_append_right _ h)
  obtain ⟨H, hH⟩ : ∃ z, z = s.heap := ⟨_, rfl⟩
  have hP : va_P (dC, dI) vwCl (wMod cI g x) H := by rw [hH]; exact hP
  have hS : va_S A s.heap H [] := by rw [hH]; exact hS
  refine wk_at hH ?_
  generalize ([] : List Loc) = locs at hS ⊢
  have hB25 : ∀ (u4 : Int32) (y0 : MS) (H : Heap) (locs : List Loc) (ls : Array Slot), M_X7_takes_25 x p1 p2 p3 u4 y0 = some out → va_P (dC, dI) vwCl (wMod cI g y0) H → va_D A (wMod cI g y0) → va_S A s.heap H locs → lv_has ls 5 [(0, .ref (g 0)), (1, .int p1), (2, .int p2), (3, .int p3), (4, .int u4)] → W p l e ({ frames := 2, cells := 0, slots := 0, locals := 45 } : Room) s m ([.ref (g 0), .int p1, .int p2, .int p3] : List Value).toArray below meth c H locs 0 0 Q (F0 m 25 ls []) := by
    intro u4 y0 H locs ls hM hP hD hS hl
    unfold M_X7_takes_25 at hM
    refine lv_iload_n hx hb dX7_takes_25 rfl (lv_at hl 3 rfl) ?_
    refine lv_iconst (v := (2 : Int32)) hx hb dX7_takes_26 (by decide) ?_
    refine lv_icmp_le (tgt := 45) hx hb dX7_takes_27 (by decide) (fun c1 => ?_) (fun c1 => ?_)
    · replace hM := (if_pos c1).symm.trans hM
      refine lv_aload_n hx hb dX7_takes_45 rfl (lv_at hl 0 rfl) ?_
      refine va_get (D := (dC, dI)) (ci := 5) (v := .ref (g 1)) (C := RX7) (T := TX7) (N := 14) hx hb hts inX7 hown hG.1 hP 0 rfl rfl 0 (by decide) (hts (.fieldLink RX7 7 "WokenDriveModel" "now" "[I") (List.mem_of_getElem? (i := 1) rfl)) (fun _ h9 => h9) rfl dX7_takes_46 ?_
      refine lv_bipush (v := (20 : Int32)) hx hb dX7_takes_49 (by decide) ?_
      refine lv_bipush (v := (8 : Int32)) hx hb dX7_takes_51 (by decide) ?_
      refine lv_iload_n hx hb dX7_takes_53 rfl (lv_at hl 1 rfl) ?_
      refine lv_imul hx hb dX7_takes_54 ?_
      refine lv_iadd hx hb dX7_takes_55 ?_
      refine lv_iconst (v := (0 : Int32)) hx hb dX7_takes_56 (by decide) ?_
      refine lv_iadd hx hb dX7_takes_57 ?_
      refine lv_iconst (v := (0 : Int32)) hx hb dX7_takes_58 (by decide) ?_
      obtain ⟨f2, hf2, hM⟩ := ob hM
      refine wk_iast hx hb hG hP hD hS 1 0 rfl rfl hf2 dX7_takes_59 (fun H locs hP hD hS => ?_)
      obtain ⟨y_3, hy_3, hM⟩ := tbE hM
      have hP : va_P (dC, dI) vwCl (wMod cI g y_3) H := by rw [hy_3]; exact hP
      have hD : va_D A (wMod cI g y_3) := by rw [hy_3]; exact hD
      refine lv_aload_n hx hb dX7_takes_60 rfl (lv_at hl 0 rfl) ?_
      refine lv_iload_n hx hb dX7_takes_61 rfl (lv_at hl 1 rfl) ?_
      refine lv_bipush (v := (7 : Int32)) hx hb dX7_takes_62 (by decide) ?_
      obtain ⟨r4, hr4, hM⟩ := ob hM
      refine wk_callM (ws' := (wMod cI g r4)) (va_runV (As := [.int p1, .int (7 : Int32)]) (rest := []) ⟨hx, hb, hml, hown, hts⟩ (c_X7_more l dC dI cI cD cJ kk g y_3 p1 (7 : Int32) _ hr4 H) (cwV 2 hts gX7_takes_X7_more rfl rfl rfl (by decide +kernel) ⟨Nat.le_of_ble_eq_true rfl, Nat.le_of_ble_eq_true rfl⟩) (wk_preV (ci := 5) (q0 := 0) hG hP hD [0, 1, 2, 3, 4, 5, 6, 7] rfl rfl rfl rfl) rfl rfl hl.1 rfl (lv_room (Nat.le_of_ble_eq_true rfl)) dX7_takes_64 ⟨Nat.le_of_ble_eq_true rfl, Nat.le_of_ble_eq_true rfl⟩) hP hD hS hA [0, 1, 2, 3, 4, 5, 6, 7] [] [0, 1, 2, 3, 4, 5, 6, 7] rfl rfl rfl (by decide) rfl rfl (fun H locs hP hD hS => ?_)
      refine lv_iconst (v := (3 : Int32)) hx hb dX7_takes_67 (by decide) ?_
      replace hM := Option.some.inj hM
      subst hM
      exact wk_retMi hx hb hr hlocks hQ rfl rfl hP hD hS dX7_takes_68
    · replace hM := (if_neg c1).symm.trans hM
      refine lv_aload_n hx hb dX7_takes_30 rfl (lv_at hl 0 rfl) ?_
      refine lv_iload hx hb dX7_takes_31 (lv_at hl 4 rfl) ?_
      refine lv_iload_n hx hb dX7_takes_33 rfl (lv_at hl 1 rfl) ?_
      obtain ⟨r5, hr5, hM⟩ := ob hM
      refine wk_callM (ws' := (wMod cI g r5)) (va_runV (As := [.int u4, .int p1]) (rest := []) ⟨hx, hb, hml, hown, hts⟩ (c_X7_ends l dC dI cI cD cJ kk g y0 u4 p1 _ hr5 H) (cwV 2 hts gX7_takes_X7_ends rfl rfl rfl (by decide +kernel) ⟨Nat.le_of_ble_eq_true rfl, Nat.le_of_ble_eq_true rfl⟩) (wk_preV (ci := 5) (q0 := 0) hG hP hD [0, 1, 2, 3, 4, 5, 6, 7] rfl rfl rfl rfl) rfl rfl hl.1 rfl (lv_room (Nat.le_of_ble_eq_true rfl)) dX7_takes_34 ⟨Nat.le_of_ble_eq_true rfl, Nat.le_of_ble_eq_true rfl⟩) hP hD hS hA [0, 1, 2, 3, 4, 5, 6, 7] [] [0, 1, 2, 3, 4, 5, 6, 7] rfl rfl rfl (by decide) rfl rfl (fun H locs hP hD hS => ?_)
      refine lv_aload_n hx hb dX7_takes_37 rfl (lv_at hl 0 rfl) ?_
      refine lv_iload_n hx hb dX7_takes_38 rfl (lv_at hl 1 rfl) ?_
      refine lv_iload_n hx hb dX7_takes_39 rfl (lv_at hl 2 rfl) ?_
      obtain ⟨r6, hr6, hM⟩ := ob hM
      refine wk_callM (ws' := (wMod cI g r6)) (va_runV (As := [.int p1, .int p2]) (rest := []) ⟨hx, hb, hml, hown, hts⟩ (c_X7_leaves l dC dI cI cD cJ kk g r5 p1 p2 _ hr6 H) (cwV 2 hts gX7_takes_X7_leaves rfl rfl rfl (by decide +kernel) ⟨Nat.le_of_ble_eq_true rfl, Nat.le_of_ble_eq_true rfl⟩) (wk_preV (ci := 5) (q0 := 0) hG hP hD [0, 1, 2, 3, 4, 5, 6, 7] rfl rfl rfl rfl) rfl rfl hl.1 rfl (lv_room (Nat.le_of_ble_eq_true rfl)) dX7_takes_40 ⟨Nat.le_of_ble_eq_true rfl, Nat.le_of_ble_eq_true rfl⟩) hP hD hS hA [0, 1, 2, 3, 4, 5, 6, 7] [] [0, 1, 2, 3, 4, 5, 6, 7] rfl rfl rfl (by decide) rfl rfl (fun H locs hP hD hS => ?_)
      refine lv_iconst (v := (2 : Int32)) hx hb dX7_takes_43 (by decide) ?_
      replace hM := Option.some.inj hM
      subst hM
      exact wk_retMi hx hb hr hlocks hQ rfl rfl hP hD hS dX7_takes_44
  unfold M_X7_takes at hM
  refine lv_aload_n hx hb dX7_takes_0 rfl (lv_at hl 0 rfl) ?_
  refine lv_iload_n hx hb dX7_takes_1 rfl (lv_at hl 1 rfl) ?_
  refine lv_iload_n hx hb dX7_takes_2 rfl (lv_at hl 2 rfl) ?_
  obtain ⟨r1, hr1, hM⟩ := ob hM
  refine wk_callP (va_runV (As := [.int p1, .int p2]) (rest := []) ⟨hx, hb, hml, hown, hts⟩ (c_X7_mailed l dC dI cI cD cJ kk g x p1 p2 _ hr1 H) (cwV 2 hts gX7_takes_X7_mailed rfl rfl rfl (by decide +kernel) ⟨Nat.le_of_ble_eq_true rfl, Nat.le_of_ble_eq_true rfl⟩) (wk_preV (ci := 5) (q0 := 0) hG hP hD [0, 1, 2, 3, 4, 5, 6, 7] rfl rfl rfl rfl) rfl rfl hl.1 rfl (lv_room (Nat.le_of_ble_eq_true rfl)) dX7_takes_3 ⟨Nat.le_of_ble_eq_true rfl, Nat.le_of_ble_eq_true rfl⟩) hS (fun locs hS => ?_)
  refine lv_istore (lv' := [(4, .int r1), (0, .ref (g 0)), (1, .int p1), (2, .int p2), (3, .int p3)]) hx hb dX7_takes_6 hl (by decide) rfl (fun ls hl => ?_)
  refine lv_aload_n hx hb dX7_takes_8 rfl (lv_at hl 1 rfl) ?_
  refine lv_iload hx hb dX7_takes_9 (lv_at hl 0 rfl) ?_
  obtain ⟨r2, hr2, hM⟩ := ob hM
  refine wk_callM (ws' := (wMod cI g r2)) (va_runV (As := [.int r1]) (rest := []) ⟨hx, hb, hml, hown, hts⟩ (c_X7_begins l dC dI cI cD cJ kk g x r1 _ hr2 H) (cwV 1 hts gX7_takes_X7_begins rfl rfl rfl (by decide +kernel) ⟨Nat.le_of_ble_eq_true rfl, Nat.le_of_ble_eq_true rfl⟩) (wk_preV (ci := 5) (q0 := 0) hG hP hD [0, 1, 2, 3, 4, 5, 6, 7] rfl rfl rfl rfl) rfl rfl hl.1 rfl (lv_room (Nat.le_of_ble_eq_true rfl)) dX7_takes_11 ⟨Nat.le_of_ble_eq_true rfl, Nat.le_of_ble_eq_true rfl⟩) hP hD hS hA [0, 1, 2, 3, 4, 5, 6, 7] [] [0, 1, 2, 3, 4, 5, 6, 7] rfl rfl rfl (by decide) rfl rfl (fun H locs hP hD hS => ?_)
  refine lv_iload_n hx hb dX7_takes_14 rfl (lv_at hl 4 rfl) ?_
  refine lv_iconst (v := (1 : Int32)) hx hb dX7_takes_15 (by decide) ?_
  refine lv_icmp_le (tgt := 25) hx hb dX7_takes_16 (by decide) (fun c3 => ?_) (fun c3 => ?_)
  · replace hM := (if_pos c3).symm.trans hM
    exact hB25 r1 r2 H _ _ hM hP hD hS (lv_sub hl [1, 2, 3, 4, 0] rfl)
  · replace hM := (if_neg c3).symm.trans hM
    refine lv_aload_n hx hb dX7_takes_19 rfl (lv_at hl 1 rfl) ?_
    refine lv_iload hx hb dX7_takes_20 (lv_at hl 0 rfl) ?_
    obtain ⟨r4, hr4, hM⟩ := ob hM
    refine wk_callM (ws' := (wMod cI g r4)) (va_runV (As := [.int r1]) (rest := []) ⟨hx, hb, hml, hown, hts⟩ (c_X7_writes l dC dI cI cD cJ kk g r2 r1 _ hr4 H) (cwV 1 hts gX7_takes_X7_writes rfl rfl rfl (by decide +kernel) ⟨Nat.le_of_ble_eq_true rfl, Nat.le_of_ble_eq_true rfl⟩) (wk_preV (ci := 5) (q0 := 0) hG hP hD [0, 1, 2, 3, 4, 5, 6, 7] rfl rfl rfl rfl) rfl rfl hl.1 rfl (lv_room (Nat.le_of_ble_eq_true rfl)) dX7_takes_22 ⟨Nat.le_of_ble_eq_true rfl, Nat.le_of_ble_eq_true rfl⟩) hP hD hS hA [0, 1, 2, 3, 4, 5, 6, 7] [] [0, 1, 2, 3, 4, 5, 6, 7] rfl rfl rfl (by decide) rfl rfl (fun H locs hP hD hS => ?_)
    exact hB25 r1 r4 H _ _ hM hP hD hS (lv_sub hl [1, 2, 3, 4, 0] rfl)
set_option maxHeartbeats 4000000 in
set_option maxRecDepth 100000 in
theorem c_X7_works (l : Launch) (dC : Nat → ClassId) (dI : Nat → Nat → Nat) (cI cD cJ : ClassId) (kk : wAd) (g : Nat → Nat) (x : MS) (p1 : Int32) (p2 : Int32) (out : Int32 × MS) (hM : M_X7_works x p1 p2 = some out) : CM l yX7_works wsX7_works ({ frames := 4, cells := 0, slots := 0, locals := 91 } : Room) dC dI (wTys cI cD cJ) [.ref (g 0), .int p1, .int p2] (wMod cI g x) (some (.int out.1)) (wMod cI g out.2) 0 0 := by
  refine wk_enterM (cc := cX7_works) (maxL := 5) (ret := (some .int)) (by decide) rfl (Nat.le_of_ble_eq_true rfl) ?_
  intro p e s m below meth c A Q ls hB hA hP hD hQ hl
  obtain ⟨hx, hb, hml, hr, hts, hown, hname, hlocks, hG⟩ := hB
  have hown : s.vm.findClass RX7 = some m.cls := hown
  have hS : va_S A s.heap s.heap [] := va_S.rf
  have hl : lv_has ls 5 [(0, .ref (g 0)), (1, .int p1), (2, .int p2)] := hl
  have inX7 : ∀ w ∈ wsX70, w ∈ wsX7_works := fun _ h => List.mem_cons_of_mem _ (List.mem_append_right _ h)
  obtain ⟨H, hH⟩ : ∃ z, z = s.heap := ⟨_, rfl⟩
  have hP : va_P (dC, dI) vwCl (wMod cI g x) H := by rw [hH]; exact hP
  have hS : va_S A s.heap H [] := by rw [hH]; exact hS
  refine wk_at hH ?_
  generalize ([] : List Loc) = locs at hS ⊢
  have hL43 : ∀ (n43 : Nat) (u3 : Int32) (y0 : MS) (H : Heap) (locs : List Loc) (ls : Array Slot), lpF (M_X7_works_43s x p1 p2) n43 (u3, y0) = some out → va_P (dC, dI) vwCl (wMod cI g y0) H → va_D A (wMod cI g y0) → va_S A s.heap H locs → lv_has ls 5 [(0, .ref (g 0)), (1, .int p1), (2, .int p2), (3, .int u3)] → W p l e ({ frames := 4, cells := 0, slots := 0, locals := 91 } : Room) s m ([.ref (g 0), .int p1, .int p2] : List Value).toArray below meth c H locs 0 0 Q (F0 m 43 ls []) := by
    intro n43
    induction n43 with
    | zero => intro u3 y0 H locs ls hM; exact lpF_0 hM
    | succ n43 ih43 =>
      have hB165 : ∀ (u3 : Int32) (y0 : MS) (H : Heap) (locs : List Loc) (ls : Array Slot), M_X7_works_165 x p1 p2 (lpF (M_X7_works_43s x p1 p2) n43) u3 y0 = some out → va_P (dC, dI) vwCl (wMod cI g y0) H → va_D A (wMod cI g y0) → va_S A s.heap H locs → lv_has ls 5 [(0, .ref (g 0)), (1, .int p1), (2, .int p2), (3, .int u3)] → W p l e ({ frames := 4, cells := 0, slots := 0, locals := 91 } : Room) s m ([.ref (g 0), .int p1, .int p2] : List Value).toArray below meth c H locs 0 0 Q (F0 m 165 ls []) := by
        intro u3 y0 H locs ls hM hP hD hS hl
        unfold M_X7_works_165 at hM
        refine lv_goto (tgt := 43) hx hb dX7_works_165 (by decide) ?_
        exact ih43 u3 y0 H _ _ hM hP hD hS (lv_sub hl [0, 1, 2, 3] rfl)
      have hB130 : ∀ (u3 : Int32) (w1 : Int32) (w2 : Int32) (w3 : Bool) (y0 : MS) (H : Heap) (locs : List Loc) (ls : Array Slot), M_X7_works_130 x p1 p2 (lpF (M_X7_works_43s x p1 p2) n43) u3 w1 w2 w3 y0 = some out → va_P (dC, dI) vwCl (wMod cI g y0) H → va_D A (wMod cI g y0) → va_S A s.heap H locs → lv_has ls 5 [(0, .ref (g 0)), (1, .int p1), (2, .int p2), (3, .int u3)] → W p l e ({ frames := 4, cells := 0, slots := 0, locals := 91 } : Room) s m ([.ref (g 0), .int p1, .int p2] : List Value).toArray below meth c H locs 0 0 Q (F0 m 130 ls [.int (zI w3), .int w2, .int w1, .ref (g 1)]) := by
        intro u3 w1 w2 w3 y0 H locs ls hM hP hD hS hl
        unfold M_X7_works_130 at hM
        refine lv_iadd hx hb dX7_works_130 ?_
        obtain ⟨f1, hf1, hM⟩ := ob hM
        refine wk_iast hx hb hG hP hD hS 1 0 rfl rfl hf1 dX7_works_131 (fun H locs hP hD hS => ?_)
        obtain ⟨y_2, hy_2, hM⟩ := tbE hM
        have hP : va_P (dC, dI) vwCl (wMod cI g y_2) H := by rw [hy_2]; exact hP
        have hD : va_D A (wMod cI g y_2) := by rw [hy_2]; exact hD
        refine lv_aload_n hx hb dX7_works_132 rfl (lv_at hl 0 rfl) ?_
        refine lv_iload_n hx hb dX7_works_133 rfl (lv_at hl 1 rfl) ?_
        refine lv_iload_n hx hb dX7_works_134 rfl (lv_at hl 3 rfl) ?_
        obtain ⟨r3, hr3, hM⟩ := ob hM
        refine wk_callM (ws' := (wMod cI g r3)) (va_runV (As := [.int p1, .int u3]) (rest := []) ⟨hx, hb, hml, hown, hts⟩ (c_X7_leaves l dC dI cI cD cJ kk g y_2 p1 u3 _ hr3 H) (cwV 2 hts gX7_works_X7_leaves rfl rfl rfl (by decide +kernel) ⟨Nat.le_of_ble_eq_true rfl, Nat.le_of_ble_eq_true rfl⟩) (wk_preV (ci := 5) (q0 := 0) hG hP hD [0, 1, 2, 3, 4, 5, 6, 7] rfl rfl rfl rfl) rfl rfl hl.1 rfl (lv_room (Nat.le_of_ble_eq_true rfl)) dX7_works_135 ⟨Nat.le_of_ble_eq_true rfl, Nat.le_of_ble_eq_true rfl⟩) hP hD hS hA [0, 1, 2, 3, 4, 5, 6, 7] [] [0, 1, 2, 3, 4, 5, 6, 7] rfl rfl rfl (by decide) rfl rfl (fun H locs hP hD hS => ?_)
        refine lv_goto (tgt := 165) hx hb dX7_works_138 (by decide) ?_
        exact hB165 u3 r3 H _ _ hM hP hD hS (lv_sub hl [0, 1, 2, 3] rfl)
      have hB129 : ∀ (u3 : Int32) (w1 : Int32) (w2 : Int32) (y0 : MS) (H : Heap) (locs : List Loc) (ls : Array Slot), M_X7_works_129 x p1 p2 (lpF (M_X7_works_43s x p1 p2) n43) u3 w1 w2 y0 = some out → va_P (dC, dI) vwCl (wMod cI g y0) H → va_D A (wMod cI g y0) → va_S A s.heap H locs → lv_has ls 5 [(0, .ref (g 0)), (1, .int p1), (2, .int p2), (3, .int u3)] → W p l e ({ frames := 4, cells := 0, slots := 0, locals := 91 } : Room) s m ([.ref (g 0), .int p1, .int p2] : List Value).toArray below meth c H locs 0 0 Q (F0 m 129 ls [.int w2, .int w1, .ref (g 1)]) := by
        intro u3 w1 w2 y0 H locs ls hM hP hD hS hl
        unfold M_X7_works_129 at hM
        refine lv_iconst (v := (0 : Int32)) hx hb dX7_works_129 (by decide) ?_
        exact hB130 u3 w1 w2 false y0 H _ _ hM hP hD hS (lv_sub hl [0, 1, 2, 3] rfl)
      intro u3 y0 H locs ls hM hP hD hS hl
      replace hM : M_X7_works_43s x p1 p2 (lpF (M_X7_works_43s x p1 p2) n43) (u3, y0) = some out := hM
      unfold M_X7_works_43s at hM
      try dsimp only at hM
      refine lv_iload_n hx hb dX7_works_43 rfl (lv_at hl 3 rfl) ?_
      refine lv_aload_n hx hb dX7_works_44 rfl (lv_at hl 0 rfl) ?_
      refine lv_iload_n hx hb dX7_works_45 rfl (lv_at hl 1 rfl) ?_
      refine lv_iconst (v := (3 : Int32)) hx hb dX7_works_46 (by decide) ?_
      obtain ⟨r1, hr1, hM⟩ := ob hM
      refine wk_callP (va_runV (As := [.int p1, .int (3 : Int32)]) (rest := [.int u3]) ⟨hx, hb, hml, hown, hts⟩ (c_X7_control l dC dI cI cD cJ kk g y0 p1 (3 : Int32) _ hr1 H) (cwV 2 hts gX7_works_X7_control rfl rfl rfl (by decide +kernel) ⟨Nat.le_of_ble_eq_true rfl, Nat.le_of_ble_eq_true rfl⟩) (wk_preV (ci := 5) (q0 := 0) hG hP hD [0, 1, 2, 3, 4, 5, 6, 7] rfl rfl rfl rfl) rfl rfl hl.1 rfl (lv_room (Nat.le_of_ble_eq_true rfl)) dX7_works_47 ⟨Nat.le_of_ble_eq_true rfl, Nat.le_of_ble_eq_true rfl⟩) hS (fun locs hS => ?_)
      refine lv_icmp_ge (tgt := 168) hx hb dX7_works_50 (by decide) (fun c2 => ?_) (fun c2 => ?_)
      · replace hM := (if_pos c2).symm.trans hM
        refine lv_iconst (v := (0 : Int32)) hx hb dX7_works_168 (by decide) ?_
        replace hM := Option.some.inj hM
        subst hM
        exact wk_retMi hx hb hr hlocks hQ rfl rfl hP hD hS dX7_works_169
      · replace hM := (if_neg c2).symm.trans hM
        refine lv_aload_n hx hb dX7_works_53 rfl (lv_at hl 0 rfl) ?_
        refine lv_iload_n hx hb dX7_works_54 rfl (lv_at hl 1 rfl) ?_
        refine lv_iload_n hx hb dX7_works_55 rfl (lv_at hl 3 rfl) ?_
        obtain ⟨r3, hr3, hM⟩ := ob hM
        refine wk_callP (va_runV (As := [.int p1, .int u3]) (rest := []) ⟨hx, hb, hml, hown, hts⟩ (c_X7_mailed l dC dI cI cD cJ kk g y0 p1 u3 _ hr3 H) (cwV 2 hts gX7_works_X7_mailed rfl rfl rfl (by decide +kernel) ⟨Nat.le_of_ble_eq_true rfl, Nat.le_of_ble_eq_true rfl⟩) (wk_preV (ci := 5) (q0 := 0) hG hP hD [0, 1, 2, 3, 4, 5, 6, 7] rfl rfl rfl rfl) rfl rfl hl.1 rfl (lv_room (Nat.le_of_ble_eq_true rfl)) dX7_works_56 ⟨Nat.le_of_ble_eq_true rfl, Nat.le_of_ble_eq_true rfl⟩) hS (fun locs hS => ?_)
        refine lv_istore (lv' := [(4, .int r3), (0, .ref (g 0)), (1, .int p1), (2, .int p2), (3, .int u3)]) hx hb dX7_works_59 hl (by decide) rfl (fun ls hl => ?_)
        refine lv_aload_n hx hb dX7_works_61 rfl (lv_at hl 1 rfl) ?_
        refine lv_iload hx hb dX7_works_62 (lv_at hl 0 rfl) ?_
        refine lv_iload_n hx hb dX7_works_64 rfl (lv_at hl 2 rfl) ?_
        obtain ⟨r4, hr4, hM⟩ := ob hM
        refine wk_callP (va_runV (As := [.int r3, .int p1]) (rest := []) ⟨hx, hb, hml, hown, hts⟩ (c_X7_hasArrived l dC dI cI cD cJ kk g y0 r3 p1 _ hr4 H) (cwV 2 hts gX7_works_X7_hasArrived rfl rfl rfl (by decide +kernel) ⟨Nat.le_of_ble_eq_true rfl, Nat.le_of_ble_eq_true rfl⟩) (wk_preV (ci := 5) (q0 := 0) hG hP hD [0, 1, 2, 3, 4, 5, 6, 7] rfl rfl rfl rfl) rfl rfl hl.1 rfl (lv_room (Nat.le_of_ble_eq_true rfl)) dX7_works_65 ⟨Nat.le_of_ble_eq_true rfl, Nat.le_of_ble_eq_true rfl⟩) hS (fun locs hS => ?_)
        refine lv_if_ne (tgt := 77) hx hb dX7_works_68 (by decide) (fun c5 => ?_) (fun c5 => ?_)
        · replace hM := (if_neg c5).symm.trans hM
          refine lv_aload_n hx hb dX7_works_77 rfl (lv_at hl 1 rfl) ?_
          refine lv_iload hx hb dX7_works_78 (lv_at hl 0 rfl) ?_
          obtain ⟨r6, hr6, hM⟩ := ob hM
          refine wk_callP (va_runV (As := [.int r3]) (rest := []) ⟨hx, hb, hml, hown, hts⟩ (c_X7_isOpen l dC dI cI cD cJ kk g y0 r3 _ hr6 H) (cwV 1 hts gX7_works_X7_isOpen rfl rfl rfl (by decide +kernel) ⟨Nat.le_of_ble_eq_true rfl, Nat.le_of_ble_eq_true rfl⟩) (wk_preV (ci := 5) (q0 := 0) hG hP hD [0, 1, 2, 3, 4, 5, 6, 7] rfl rfl rfl rfl) rfl rfl hl.1 rfl (lv_room (Nat.le_of_ble_eq_true rfl)) dX7_works_80 ⟨Nat.le_of_ble_eq_true rfl, Nat.le_of_ble_eq_true rfl⟩) hS (fun locs hS => ?_)
          refine lv_if_ne (tgt := 141) hx hb dX7_works_83 (by decide) (fun c7 => ?_) (fun c7 => ?_)
          · replace hM := (if_neg c7).symm.trans hM
            refine lv_aload_n hx hb dX7_works_141 rfl (lv_at hl 1 rfl) ?_
            refine lv_iload hx hb dX7_works_142 (lv_at hl 0 rfl) ?_
            obtain ⟨r8, hr8, hM⟩ := ob hM
            refine wk_callP (va_runV (As := [.int r3]) (rest := []) ⟨hx, hb, hml, hown, hts⟩ (c_X7_firstWaited l dC dI cI cD cJ kk g y0 r3 _ hr8 H) (cwV 1 hts gX7_works_X7_firstWaited rfl rfl rfl (by decide +kernel) ⟨Nat.le_of_ble_eq_true rfl, Nat.le_of_ble_eq_true rfl⟩) (wk_preV (ci := 5) (q0 := 0) hG hP hD [0, 1, 2, 3, 4, 5, 6, 7] rfl rfl rfl rfl) rfl rfl hl.1 rfl (lv_room (Nat.le_of_ble_eq_true rfl)) dX7_works_144 ⟨Nat.le_of_ble_eq_true rfl, Nat.le_of_ble_eq_true rfl⟩) hS (fun locs hS => ?_)
            refine lv_iconst (v := (-1 : Int32)) hx hb dX7_works_147 (by decide) ?_
            refine lv_icmp_eq (tgt := 157) hx hb dX7_works_148 (by decide) (fun c9 => ?_) (fun c9 => ?_)
            · replace hM := (if_pos c9).symm.trans hM
              refine lv_aload_n hx hb dX7_works_157 rfl (lv_at hl 1 rfl) ?_
              refine lv_iload_n hx hb dX7_works_158 rfl (lv_at hl 2 rfl) ?_
              refine lv_iload_n hx hb dX7_works_159 rfl (lv_at hl 4 rfl) ?_
              refine lv_iload_n hx hb dX7_works_160 rfl (lv_at hl 3 rfl) ?_
              obtain ⟨r10, hr10, hM⟩ := ob hM
              refine wk_callM (ws' := (wMod cI g r10.2)) (va_runV (As := [.int p1, .int u3, .int p2]) (rest := []) ⟨hx, hb, hml, hown, hts⟩ (c_X7_takes l dC dI cI cD cJ kk g y0 p1 u3 p2 _ hr10 H) (cwV 3 hts gX7_works_X7_takes rfl rfl rfl (by decide +kernel) ⟨Nat.le_of_ble_eq_true rfl, Nat.le_of_ble_eq_true rfl⟩) (wk_preV (ci := 5) (q0 := 0) hG hP hD [0, 1, 2, 3, 4, 5, 6, 7] rfl rfl rfl rfl) rfl rfl hl.1 rfl (lv_room (Nat.le_of_ble_eq_true rfl)) dX7_works_161 ⟨Nat.le_of_ble_eq_true rfl, Nat.le_of_ble_eq_true rfl⟩) hP hD hS hA [0, 1, 2, 3, 4, 5, 6, 7] [] [0, 1, 2, 3, 4, 5, 6, 7] rfl rfl rfl (by decide) rfl rfl (fun H locs hP hD hS => ?_)
              replace hM := Option.some.inj hM
              subst hM
              exact wk_retMi hx hb hr hlocks hQ rfl rfl hP hD hS dX7_works_164
            · replace hM := (if_neg c9).symm.trans hM
              refine lv_iinc (v := (u3 + 1)) (lv' := [(3, .int (u3 + 1)), (4, .int r3), (0, .ref (g 0)), (1, .int p1), (2, .int p2)]) hx hb dX7_works_151 hl (k := 4) rfl rfl (by decide) rfl (fun ls hl => ?_)
              refine lv_goto (tgt := 165) hx hb dX7_works_154 (by decide) ?_
              exact hB165 (u3 + 1) y0 H _ _ hM hP hD hS (lv_sub hl [2, 3, 4, 0] rfl)
          · replace hM := (if_pos c7).symm.trans hM
            refine lv_aload_n hx hb dX7_works_86 rfl (lv_at hl 1 rfl) ?_
            refine va_get (D := (dC, dI)) (ci := 5) (v := .ref (g 1)) (C := RX7) (T := TX7) (N := 14) hx hb hts inX7 hown hG.1 hP 0 rfl rfl 0 (by decide) (hts (.fieldLink RX7 7 "WokenDriveModel" "now" "[I") (List.mem_of_getElem? (i := 1) rfl)) (fun _ h9 => h9) rfl dX7_works_87 ?_
            refine lv_bipush (v := (20 : Int32)) hx hb dX7_works_90 (by decide) ?_
            refine lv_bipush (v := (8 : Int32)) hx hb dX7_works_92 (by decide) ?_
            refine lv_iload_n hx hb dX7_works_94 rfl (lv_at hl 2 rfl) ?_
            refine lv_imul hx hb dX7_works_95 ?_
            refine lv_iadd hx hb dX7_works_96 ?_
            refine lv_bipush (v := (6 : Int32)) hx hb dX7_works_97 (by decide) ?_
            refine lv_iadd hx hb dX7_works_99 ?_
            refine lv_dup2_11 hx hb dX7_works_100 rfl rfl ?_
            obtain ⟨v11, hv11, hM⟩ := ob hM
            refine wk_iald hx hb hG hP 1 0 rfl rfl hv11 dX7_works_101 ?_
            refine lv_aload_n hx hb dX7_works_102 rfl (lv_at hl 1 rfl) ?_
            refine lv_iload hx hb dX7_works_103 (lv_at hl 0 rfl) ?_
            refine lv_iconst (v := (5 : Int32)) hx hb dX7_works_105 (by decide) ?_
            obtain ⟨r12, hr12, hM⟩ := ob hM
            refine wk_callP (va_runV (As := [.int r3, .int (5 : Int32)]) (rest := [.int v11, .int (((20 : Int32) + ((8 : Int32) * p1)) + (6 : Int32)), .ref (g 1)]) ⟨hx, hb, hml, hown, hts⟩ (c_X7_of l dC dI cI cD cJ kk g y0 r3 (5 : Int32) _ hr12 H) (cwV 2 hts gX7_works_X7_of rfl rfl rfl (by decide +kernel) ⟨Nat.le_of_ble_eq_true rfl, Nat.le_of_ble_eq_true rfl⟩) (wk_preV (ci := 5) (q0 := 0) hG hP hD [0, 1, 2, 3, 4, 5, 6, 7] rfl rfl rfl rfl) rfl rfl hl.1 rfl (lv_room (Nat.le_of_ble_eq_true rfl)) dX7_works_106 ⟨Nat.le_of_ble_eq_true rfl, Nat.le_of_ble_eq_true rfl⟩) hS (fun locs hS => ?_)
            refine lv_iconst (v := (2 : Int32)) hx hb dX7_works_109 (by decide) ?_
            refine lv_icmp_ne (tgt := 129) hx hb dX7_works_110 (by decide) (fun c13 => ?_) (fun c13 => ?_)
            · replace hM := (if_neg c13).symm.trans hM
              exact hB129 u3 (((20 : Int32) + ((8 : Int32) * p1)) + (6 : Int32)) v11 y0 H _ _ hM hP hD hS (lv_sub hl [1, 2, 3, 4] rfl)
            · replace hM := (if_pos c13).symm.trans hM
              refine lv_aload_n hx hb dX7_works_113 rfl (lv_at hl 1 rfl) ?_
              refine lv_iload hx hb dX7_works_114 (lv_at hl 0 rfl) ?_
              refine lv_bipush (v := (6 : Int32)) hx hb dX7_works_116 (by decide) ?_
              obtain ⟨r14, hr14, hM⟩ := ob hM
              refine wk_callP (va_runV (As := [.int r3, .int (6 : Int32)]) (rest := [.int v11, .int (((20 : Int32) + ((8 : Int32) * p1)) + (6 : Int32)), .ref (g 1)]) ⟨hx, hb, hml, hown, hts⟩ (c_X7_of l dC dI cI cD cJ kk g y0 r3 (6 : Int32) _ hr14 H) (cwV 2 hts gX7_works_X7_of rfl rfl rfl (by decide +kernel) ⟨Nat.le_of_ble_eq_true rfl, Nat.le_of_ble_eq_true rfl⟩) (wk_preV (ci := 5) (q0 := 0) hG hP hD [0, 1, 2, 3, 4, 5, 6, 7] rfl rfl rfl rfl) rfl rfl hl.1 rfl (lv_room (Nat.le_of_ble_eq_true rfl)) dX7_works_118 ⟨Nat.le_of_ble_eq_true rfl, Nat.le_of_ble_eq_true rfl⟩) hS (fun locs hS => ?_)
              refine lv_iload_n hx hb dX7_works_121 rfl (lv_at hl 2 rfl) ?_
              refine lv_icmp_eq (tgt := 129) hx hb dX7_works_122 (by decide) (fun c15 => ?_) (fun c15 => ?_)
              · replace hM := (if_pos c15).symm.trans hM
                exact hB129 u3 (((20 : Int32) + ((8 : Int32) * p1)) + (6 : Int32)) v11 y0 H _ _ hM hP hD hS (lv_sub hl [1, 2, 3, 4] rfl)
              · replace hM := (if_neg c15).symm.trans hM
                refine lv_iconst (v := (1 : Int32)) hx hb dX7_works_125 (by decide) ?_
                refine lv_goto (tgt := 130) hx hb dX7_works_126 (by decide) ?_
                exact hB130 u3 (((20 : Int32) + ((8 : Int32) * p1)) + (6 : Int32)) v11 true y0 H _ _ hM hP hD hS (lv_sub hl [1, 2, 3, 4] rfl)
        · replace hM := (if_pos c5).symm.trans hM
          refine lv_iinc (v := (u3 + 1)) (lv' := [(3, .int (u3 + 1)), (4, .int r3), (0, .ref (g 0)), (1, .int p1), (2, .int p2)]) hx hb dX7_works_71 hl (k := 4) rfl rfl (by decide) rfl (fun ls hl => ?_)
          refine lv_goto (tgt := 165) hx hb dX7_works_74 (by decide) ?_
          exact hB165 (u3 + 1) y0 H _ _ hM hP hD hS (lv_sub hl [2, 3, 4, 0] rfl)
  unfold M_X7_works at hM
  refine lv_aload_n hx hb dX7_works_0 rfl (lv_at hl 0 rfl) ?_
  obtain ⟨r1, hr1, hM⟩ := ob hM
  refine wk_callP (va_runV (As := []) (rest := []) ⟨hx, hb, hml, hown, hts⟩ (c_X7_isTorn l dC dI cI cD cJ kk g x _ hr1 H) (cwV 0 hts gX7_works_X7_isTorn rfl rfl rfl (by decide +kernel) ⟨Nat.le_of_ble_eq_true rfl, Nat.le_of_ble_eq_true rfl⟩) (wk_preV (ci := 5) (q0 := 0) hG hP hD [0, 1, 2, 3, 4, 5, 6, 7] rfl rfl rfl rfl) rfl rfl hl.1 rfl (lv_room (Nat.le_of_ble_eq_true rfl)) dX7_works_1 ⟨Nat.le_of_ble_eq_true rfl, Nat.le_of_ble_eq_true rfl⟩) hS (fun locs hS => ?_)
  refine lv_if_eq (tgt := 41) hx hb dX7_works_4 (by decide) (fun c2 => ?_) (fun c2 => ?_)
  · replace hM := (if_pos c2).symm.trans hM
    refine lv_iconst (v := (0 : Int32)) hx hb dX7_works_41 (by decide) ?_
    refine lv_istore_n (lv' := [(3, .int (0 : Int32)), (0, .ref (g 0)), (1, .int p1), (2, .int p2)]) hx hb dX7_works_42 rfl hl (by decide) rfl (fun ls hl => ?_)
    exact hL43 64 (0 : Int32) x H _ _ hM hP hD hS (lv_sub hl [1, 2, 3, 0] rfl)
  · replace hM := (if_neg c2).symm.trans hM
    refine lv_aload_n hx hb dX7_works_7 rfl (lv_at hl 0 rfl) ?_
    refine va_get (D := (dC, dI)) (ci := 5) (v := .ref (g 1)) (C := RX7) (T := TX7) (N := 14) hx hb hts inX7 hown hG.1 hP 0 rfl rfl 0 (by decide) (hts (.fieldLink RX7 7 "WokenDriveModel" "now" "[I") (List.mem_of_getElem? (i := 1) rfl)) (fun _ h9 => h9) rfl dX7_works_8 ?_
    refine lv_iconst (v := (2 : Int32)) hx hb dX7_works_11 (by decide) ?_
    obtain ⟨v3, hv3, hM⟩ := ob hM
    refine wk_iald hx hb hG hP 1 0 rfl rfl hv3 dX7_works_12 ?_
    refine lv_istore_n (lv' := [(3, .int v3), (0, .ref (g 0)), (1, .int p1), (2, .int p2)]) hx hb dX7_works_13 rfl hl (by decide) rfl (fun ls hl => ?_)
    refine lv_aload_n hx hb dX7_works_14 rfl (lv_at hl 1 rfl) ?_
    refine lv_iload_n hx hb dX7_works_15 rfl (lv_at hl 0 rfl) ?_
    obtain ⟨r4, hr4, hM⟩ := ob hM
    refine wk_callM (ws' := (wMod cI g r4)) (va_runV (As := [.int v3]) (rest := []) ⟨hx, hb, hml, hown, hts⟩ (c_X7_writes l dC dI cI cD cJ kk g x v3 _ hr4 H) (cwV 1 hts gX7_works_X7_writes rfl rfl rfl (by decide +kernel) ⟨Nat.le_of_ble_eq_true rfl, Nat.le_of_ble_eq_true rfl⟩) (wk_preV (ci := 5) (q0 := 0) hG hP hD [0, 1, 2, 3, 4, 5, 6, 7] rfl rfl rfl rfl) rfl rfl hl.1 rfl (lv_room (Nat.le_of_ble_eq_true rfl)) dX7_works_16 ⟨Nat.le_of_ble_eq_true rfl, Nat.le_of_ble_eq_true rfl⟩) hP hD hS hA [0, 1, 2, 3, 4, 5, 6, 7] [] [0, 1, 2, 3, 4, 5, 6, 7] rfl rfl rfl (by decide) rfl rfl (fun H locs hP hD hS => ?_)
    refine lv_aload_n hx hb dX7_works_19 rfl (lv_at hl 1 rfl) ?_
    refine lv_iload_n hx hb dX7_works_20 rfl (lv_at hl 0 rfl) ?_
    refine lv_iload_n hx hb dX7_works_21 rfl (lv_at hl 2 rfl) ?_
    obtain ⟨r5, hr5, hM⟩ := ob hM
    refine wk_callM (ws' := (wMod cI g r5)) (va_runV (As := [.int v3, .int p1]) (rest := []) ⟨hx, hb, hml, hown, hts⟩ (c_X7_ends l dC dI cI cD cJ kk g r4 v3 p1 _ hr5 H) (cwV 2 hts gX7_works_X7_ends rfl rfl rfl (by decide +kernel) ⟨Nat.le_of_ble_eq_true rfl, Nat.le_of_ble_eq_true rfl⟩) (wk_preV (ci := 5) (q0 := 0) hG hP hD [0, 1, 2, 3, 4, 5, 6, 7] rfl rfl rfl rfl) rfl rfl hl.1 rfl (lv_room (Nat.le_of_ble_eq_true rfl)) dX7_works_22 ⟨Nat.le_of_ble_eq_true rfl, Nat.le_of_ble_eq_true rfl⟩) hP hD hS hA [0, 1, 2, 3, 4, 5, 6, 7] [] [0, 1, 2, 3, 4, 5, 6, 7] rfl rfl rfl (by decide) rfl rfl (fun H locs hP hD hS => ?_)
    refine lv_aload_n hx hb dX7_works_25 rfl (lv_at hl 1 rfl) ?_
    refine lv_iload_n hx hb dX7_works_26 rfl (lv_at hl 0 rfl) ?_
    refine lv_bipush (v := (9 : Int32)) hx hb dX7_works_27 (by decide) ?_
    refine lv_iconst (v := (1 : Int32)) hx hb dX7_works_29 (by decide) ?_
    obtain ⟨r6, hr6, hM⟩ := ob hM
    refine wk_callM (ws' := (wMod cI g r6)) (va_runV (As := [.int v3, .int (9 : Int32), .int (1 : Int32)]) (rest := []) ⟨hx, hb, hml, hown, hts⟩ (c_X7_put l dC dI cI cD cJ kk g r5 v3 (9 : Int32) (1 : Int32) _ hr6 H) (cwV 3 hts gX7_works_X7_put rfl rfl rfl (by decide +kernel) ⟨Nat.le_of_ble_eq_true rfl, Nat.le_of_ble_eq_true rfl⟩) (wk_preV (ci := 5) (q0 := 0) hG hP hD [0, 1, 2, 3, 4, 5, 6, 7] rfl rfl rfl rfl) rfl rfl hl.1 rfl (lv_room (Nat.le_of_ble_eq_true rfl)) dX7_works_30 ⟨Nat.le_of_ble_eq_true rfl, Nat.le_of_ble_eq_true rfl⟩) hP hD hS hA [0, 1, 2, 3, 4, 5, 6, 7] [] [0, 1, 2, 3, 4, 5, 6, 7] rfl rfl rfl (by decide) rfl rfl (fun H locs hP hD hS => ?_)
    refine lv_aload_n hx hb dX7_works_33 rfl (lv_at hl 1 rfl) ?_
    refine lv_iload_n hx hb dX7_works_34 rfl (lv_at hl 2 rfl) ?_
    refine lv_iconst (v := (5 : Int32)) hx hb dX7_works_35 (by decide) ?_
    obtain ⟨r7, hr7, hM⟩ := ob hM
    refine wk_callM (ws' := (wMod cI g r7)) (va_runV (As := [.int p1, .int (5 : Int32)]) (rest := []) ⟨hx, hb, hml, hown, hts⟩ (c_X7_more l dC dI cI cD cJ kk g r6 p1 (5 : Int32) _ hr7 H) (cwV 2 hts gX7_works_X7_more rfl rfl rfl (by decide +kernel) ⟨Nat.le_of_ble_eq_true rfl, Nat.le_of_ble_eq_true rfl⟩) (wk_preV (ci := 5) (q0 := 0) hG hP hD [0, 1, 2, 3, 4, 5, 6, 7] rfl rfl rfl rfl) rfl rfl hl.1 rfl (lv_room (Nat.le_of_ble_eq_true rfl)) dX7_works_36 ⟨Nat.le_of_ble_eq_true rfl, Nat.le_of_ble_eq_true rfl⟩) hP hD hS hA [0, 1, 2, 3, 4, 5, 6, 7] [] [0, 1, 2, 3, 4, 5, 6, 7] rfl rfl rfl (by decide) rfl rfl (fun H locs hP hD hS => ?_)
    refine lv_iconst (v := (1 : Int32)) hx hb dX7_works_39 (by decide) ?_
    replace hM := Option.some.inj hM
    subst hM
    exact wk_retMi hx hb hr hlocks hQ rfl rfl hP hD hS dX7_works_40
set_option maxHeartbeats 4000000 in
set_option maxRecDepth 100000 in
theorem c_X7_work (l : Launch) (dC : Nat → ClassId) (dI : Nat → Nat → Nat) (cI cD cJ : ClassId) (kk : wAd) (g : Nat → Nat) (x : MS) (p1 : Int32) (p2 : Int32) (out : Int32 × MS) (hM : M_X7_work x p1 p2 = some out) : CM l yX7_work wsX7_work ({ frames := 5, cells := 0, slots := 0, locals := 115 } : Room) dC dI (wTys cI cD cJ) [.ref (g 0), .int p1, .int p2] (wMod cI g x) (some (.int out.1)) (wMod cI g out.2) 0 0 := by
  refine wk_enterM (cc := cX7_work) (maxL := 3) (ret := (some .int)) (by decide) rfl (Nat.le_of_ble_eq_true rfl) ?_
  intro p e s m below meth c A Q ls hB hA hP hD hQ hl
  obtain ⟨hx, hb, hml, hr, hts, hown, hname, hlocks, hG⟩ := hB
  have hown : s.vm.findClass RX7 = some m.cls := hown
  have hS : va_S A s.heap s.heap [] := va_S.rf
  have hl : lv_has ls 3 [(0, .ref (g 0)), (1, .int p1), (2, .int p2)] := hl
  obtain ⟨H, hH⟩ : ∃ z, z = s.heap := ⟨_, rfl⟩
  have hP : va_P (dC, dI) vwCl (wMod cI g x) H := by rw [hH]; exact hP
  have hS : va_S A s.heap H [] := by rw [hH]; exact hS
  refine wk_at hH ?_
  generalize ([] : List Loc) = locs at hS ⊢
  have hB39 : ∀ (w1 : Int32) (y0 : MS) (H : Heap) (locs : List Loc) (ls : Array Slot), M_X7_work_39 x p1 p2 w1 y0 = some out → va_P (dC, dI) vwCl (wMod cI g y0) H → va_D A (wMod cI g y0) → va_S A s.heap H locs → lv_has ls 3 [(0, .ref (g 0)), (1, .int p1), (2, .int p2)] → W p l e ({ frames := 5, cells := 0, slots := 0, locals := 115 } : Room) s m ([.ref (g 0), .int p1, .int p2] : List Value).toArray below meth c H locs 0 0 Q (F0 m 39 ls [.int w1, .ref (g 0)]) := by
    intro w1 y0 H locs ls hM hP hD hS hl
    unfold M_X7_work_39 at hM
    obtain ⟨r1, hr1, hM⟩ := tbE hM
    refine wk_callM (ws' := (wMod cI g r1.2)) (va_runV (As := [.int w1]) (rest := []) ⟨hx, hb, hml, hown, hts⟩ (c_X7_refused l dC dI cI cD cJ kk g y0 w1 _ hr1.symm H) (cwV 1 hts gX7_work_X7_refused rfl rfl rfl (by decide +kernel) ⟨Nat.le_of_ble_eq_true rfl, Nat.le_of_ble_eq_true rfl⟩) (wk_preV (ci := 5) (q0 := 0) hG hP hD [0, 1, 2, 3, 4, 5, 6, 7] rfl rfl rfl rfl) rfl rfl hl.1 rfl (lv_room (Nat.le_of_ble_eq_true rfl)) dX7_work_39 ⟨Nat.le_of_ble_eq_true rfl, Nat.le_of_ble_eq_true rfl⟩) hP hD hS hA [0, 1, 2, 3, 4, 5, 6, 7] [] [0, 1, 2, 3, 4, 5, 6, 7] rfl rfl rfl (by decide) rfl rfl (fun H locs hP hD hS => ?_)
    refine lv_if_eq (tgt := 47) hx hb dX7_work_42 (by decide) (fun c2 => ?_) (fun c2 => ?_)
    · replace hM := (if_pos c2).symm.trans hM
      refine lv_aload_n hx hb dX7_work_47 rfl (lv_at hl 0 rfl) ?_
      obtain ⟨r3, hr3, hM⟩ := ob hM
      refine wk_callM (ws' := (wMod cI g r3)) (va_runV (As := []) (rest := []) ⟨hx, hb, hml, hown, hts⟩ (c_X7_saves l dC dI cI cD cJ kk g r1.2 _ hr3 H) (cwV 0 hts gX7_work_X7_saves rfl rfl rfl (by decide +kernel) ⟨Nat.le_of_ble_eq_true rfl, Nat.le_of_ble_eq_true rfl⟩) (wk_preV (ci := 5) (q0 := 0) hG hP hD [0, 1, 2, 3, 4, 5, 6, 7] rfl rfl rfl rfl) rfl rfl hl.1 rfl (lv_room (Nat.le_of_ble_eq_true rfl)) dX7_work_48 ⟨Nat.le_of_ble_eq_true rfl, Nat.le_of_ble_eq_true rfl⟩) hP hD hS hA [0, 1, 2, 3, 4, 5, 6, 7] [] [0, 1, 2, 3, 4, 5, 6, 7] rfl rfl rfl (by decide) rfl rfl (fun H locs hP hD hS => ?_)
      refine lv_aload_n hx hb dX7_work_51 rfl (lv_at hl 0 rfl) ?_
      refine lv_iload_n hx hb dX7_work_52 rfl (lv_at hl 1 rfl) ?_
      refine lv_iload_n hx hb dX7_work_53 rfl (lv_at hl 2 rfl) ?_
      obtain ⟨r4, hr4, hM⟩ := ob hM
      refine wk_callM (ws' := (wMod cI g r4.2)) (va_runV (As := [.int p1, .int p2]) (rest := []) ⟨hx, hb, hml, hown, hts⟩ (c_X7_works l dC dI cI cD cJ kk g r3 p1 p2 _ hr4 H) (cwV 2 hts gX7_work_X7_works rfl rfl rfl (by decide +kernel) ⟨Nat.le_of_ble_eq_true rfl, Nat.le_of_ble_eq_true rfl⟩) (wk_preV (ci := 5) (q0 := 0) hG hP hD [0, 1, 2, 3, 4, 5, 6, 7] rfl rfl rfl rfl) rfl rfl hl.1 rfl (lv_room (Nat.le_of_ble_eq_true rfl)) dX7_work_54 ⟨Nat.le_of_ble_eq_true rfl, Nat.le_of_ble_eq_true rfl⟩) hP hD hS hA [0, 1, 2, 3, 4, 5, 6, 7] [] [0, 1, 2, 3, 4, 5, 6, 7] rfl rfl rfl (by decide) rfl rfl (fun H locs hP hD hS => ?_)
      replace hM := Option.some.inj hM
      subst hM
      exact wk_retMi hx hb hr hlocks hQ rfl rfl hP hD hS dX7_work_57
    · replace hM := (if_neg c2).symm.trans hM
      refine lv_iconst (v := (0 : Int32)) hx hb dX7_work_45 (by decide) ?_
      replace hM := Option.some.inj hM
      subst hM
      exact wk_retMi hx hb hr hlocks hQ rfl rfl hP hD hS dX7_work_46
  unfold M_X7_work at hM
  refine lv_aload_n hx hb dX7_work_0 rfl (lv_at hl 0 rfl) ?_
  refine lv_iload_n hx hb dX7_work_1 rfl (lv_at hl 1 rfl) ?_
  refine wk_callP (va_runS (As := [.int p1]) (rest := [.ref (g 0)]) ⟨hx, hb, hml, hown, hts⟩ (c_X7_isController l dC dI cI cD cJ kk  p1 _ rfl H) (va_cwS 1 hts gX7_work_X7_isController rfl rfl rfl (by decide +kernel) ⟨Nat.le_of_ble_eq_true rfl, Nat.le_of_ble_eq_true rfl⟩) (wk_preS hG hP hD [] rfl rfl) rfl rfl hl.1 rfl (lv_room (Nat.le_of_ble_eq_true rfl)) dX7_work_2 ⟨Nat.le_of_ble_eq_true rfl, Nat.le_of_ble_eq_true rfl⟩) hS (fun locs hS => ?_)
  refine lv_if_ne (tgt := 12) hx hb dX7_work_5 (by decide) (fun c1 => ?_) (fun c1 => ?_)
  · replace hM := (if_neg c1).symm.trans hM
    refine lv_iload_n hx hb dX7_work_12 rfl (lv_at hl 2 rfl) ?_
    refine lv_iconst (v := (1 : Int32)) hx hb dX7_work_13 (by decide) ?_
    refine lv_iconst (v := (3 : Int32)) hx hb dX7_work_14 (by decide) ?_
    refine wk_callP (va_runS (As := [.int p2, .int (1 : Int32), .int (3 : Int32)]) (rest := [.ref (g 0)]) ⟨hx, hb, hml, hown, hts⟩ (c_X7_within l dC dI cI cD cJ kk  p2 (1 : Int32) (3 : Int32) _ rfl H) (va_cwS 3 hts gX7_work_X7_within rfl rfl rfl (by decide +kernel) ⟨Nat.le_of_ble_eq_true rfl, Nat.le_of_ble_eq_true rfl⟩) (wk_preS hG hP hD [] rfl rfl) rfl rfl hl.1 rfl (lv_room (Nat.le_of_ble_eq_true rfl)) dX7_work_15 ⟨Nat.le_of_ble_eq_true rfl, Nat.le_of_ble_eq_true rfl⟩) hS (fun locs hS => ?_)
    refine lv_if_ne (tgt := 25) hx hb dX7_work_18 (by decide) (fun c2 => ?_) (fun c2 => ?_)
    · replace hM := (if_neg c2).symm.trans hM
      refine lv_aload_n hx hb dX7_work_25 rfl (lv_at hl 0 rfl) ?_
      refine lv_iload_n hx hb dX7_work_26 rfl (lv_at hl 1 rfl) ?_
      refine lv_iconst (v := (0 : Int32)) hx hb dX7_work_27 (by decide) ?_
      obtain ⟨r3, hr3, hM⟩ := ob hM
      refine wk_callP (va_runV (As := [.int p1, .int (0 : Int32)]) (rest := [.ref (g 0)]) ⟨hx, hb, hml, hown, hts⟩ (c_X7_control l dC dI cI cD cJ kk g x p1 (0 : Int32) _ hr3 H) (cwV 2 hts gX7_work_X7_control rfl rfl rfl (by decide +kernel) ⟨Nat.le_of_ble_eq_true rfl, Nat.le_of_ble_eq_true rfl⟩) (wk_preV (ci := 5) (q0 := 0) hG hP hD [0, 1, 2, 3, 4, 5, 6, 7] rfl rfl rfl rfl) rfl rfl hl.1 rfl (lv_room (Nat.le_of_ble_eq_true rfl)) dX7_work_28 ⟨Nat.le_of_ble_eq_true rfl, Nat.le_of_ble_eq_true rfl⟩) hS (fun locs hS => ?_)
      refine lv_if_ne (tgt := 38) hx hb dX7_work_31 (by decide) (fun c4 => ?_) (fun c4 => ?_)
      · replace hM := (if_neg c4).symm.trans hM
        refine lv_iconst (v := (0 : Int32)) hx hb dX7_work_38 (by decide) ?_
        exact hB39 (0 : Int32) x H _ _ hM hP hD hS (lv_sub hl [0, 1, 2] rfl)
      · replace hM := (if_pos c4).symm.trans hM
        refine lv_iconst (v := (3 : Int32)) hx hb dX7_work_34 (by decide) ?_
        refine lv_goto (tgt := 39) hx hb dX7_work_35 (by decide) ?_
        exact hB39 (3 : Int32) x H _ _ hM hP hD hS (lv_sub hl [0, 1, 2] rfl)
    · replace hM := (if_pos c2).symm.trans hM
      refine lv_iconst (v := (2 : Int32)) hx hb dX7_work_21 (by decide) ?_
      refine lv_goto (tgt := 39) hx hb dX7_work_22 (by decide) ?_
      exact hB39 (2 : Int32) x H _ _ hM hP hD hS (lv_sub hl [0, 1, 2] rfl)
  · replace hM := (if_pos c1).symm.trans hM
    refine lv_iconst (v := (1 : Int32)) hx hb dX7_work_8 (by decide) ?_
    refine lv_goto (tgt := 39) hx hb dX7_work_9 (by decide) ?_
    exact hB39 (1 : Int32) x H _ _ hM hP hD hS (lv_sub hl [0, 1, 2] rfl)
