/-! PART 14: controllerAt, by hand -/
set_option maxHeartbeats 4000000 in
set_option maxRecDepth 100000 in
theorem c_X3_controllerAt (l : Launch) (dC : Nat → ClassId) (dI : Nat → Nat → Nat) (cI cD cJ : ClassId) (_kk : wAd) (g : Nat → Nat) (x : DS) (p1 : Int32) : CP l yX3_controllerAt wsX3_controllerAt ({ frames := 0, cells := 0, slots := 0, locals := 0 } : Room) dC dI (wTys cI cD cJ) [.ref (g 0), .int p1] (wDrv cI g x) (some (.ref (ctlA g p1))) := by
  refine wk_enterP (cc := cX3_controllerAt) (maxL := 2) (ret := some (.object "WokenDrive$Controller")) (by decide) rfl (Nat.le_of_ble_eq_true rfl) ?_
  intro p e s m below meth c A Q ls hB hP hD hA hQ hl
  obtain ⟨hx, hb, hml, hr, hts, hown, hname, hlocks, hG⟩ := hB
  have hown : s.vm.findClass RX3 = some m.cls := hown
  have hS : va_S A s.heap s.heap [] := va_S.rf
  have hl : lv_has ls 2 [(0, .ref (g 0)), (1, .int p1)] := hl
  have inX3 : ∀ w ∈ wsX30, w ∈ wsX3_controllerAt := fun _ h => List.mem_cons_of_mem _ (List.mem_append_right _ h)
  have hend : ∀ a : Nat, a = ctlA g p1 → W p l e ({ frames := 0, cells := 0, slots := 0, locals := 0 } : Room) s m ([.ref (g 0), .int p1] : List Value).toArray below meth c s.heap [] 0 0 Q (F0 m 15 ls [.ref a]) := by
    intro a ha
    exact wk_retPa hx hb hr hlocks hQ (Or.inl ⟨_, rfl⟩) (Or.inr ⟨_, rfl⟩) (by rw [ha]) hS dX3_controllerAt_15
  refine lv_iload_n hx hb dX3_controllerAt_0 rfl (lv_at hl 1 rfl) ?_
  refine lv_if_ne (tgt := 11) hx hb dX3_controllerAt_1 (by decide) (fun c1 => ?_) (fun c1 => ?_)
  · refine lv_aload_n hx hb dX3_controllerAt_11 rfl (lv_at hl 0 rfl) ?_
    refine va_get (D := (dC, dI)) (ci := 2) (v := .ref (g 4)) (C := RX3) (T := TX3) (N := 8) hx hb hts inX3 hown hG.1 hP 0 rfl rfl 3 (by decide) (hts (.fieldLink RX3 25 "WokenDrive$Drive" "one" "LWokenDrive$Controller;") (by decide +kernel)) (fun _ h9 => h9) rfl dX3_controllerAt_12 ?_
    exact hend _ (by simp [ctlA, c1])
  · refine lv_aload_n hx hb dX3_controllerAt_4 rfl (lv_at hl 0 rfl) ?_
    refine va_get (D := (dC, dI)) (ci := 2) (v := .ref (g 3)) (C := RX3) (T := TX3) (N := 8) hx hb hts inX3 hown hG.1 hP 0 rfl rfl 2 (by decide) (hts (.fieldLink RX3 21 "WokenDrive$Drive" "zero" "LWokenDrive$Controller;") (by decide +kernel)) (fun _ h9 => h9) rfl dX3_controllerAt_5 ?_
    refine lv_goto (tgt := 15) hx hb dX3_controllerAt_8 (by decide) ?_
    exact hend _ (by simp [ctlA, c1])
