/-! PART 21: savedAt, by hand; what a caller makes of its answer -/
def svV (g : Nat → Nat) (i : Int32) : Value := if i = 0 then .ref (g 2) else if i = 1 then .ref (g 7) else if i = 2 then .ref (g 12) else if i = 3 then .ref (g 17) else .null
theorem svV_in {g : Nat → Nat} {i : Int32} (h : vp_in i 4) : va_rf (some (g (2 + 5 * i.toNatClampNeg))) = svV g i := by
  obtain ⟨j, hj, rfl⟩ := vp_in_of h (by decide)
  rw [nI_clamp (by omega)]
  rcases (show j = 0 ∨ j = 1 ∨ j = 2 ∨ j = 3 by omega) with rfl | rfl | rfl | rfl <;> rfl
theorem svV_out {g : Nat → Nat} {i : Int32} (h : i < 0 ∨ (4 : Int32) ≤ i) : Value.null = svV g i := by
  have h0 : ¬ i = 0 := by rintro rfl; revert h; decide
  have h1 : ¬ i = 1 := by rintro rfl; revert h; decide
  have h2 : ¬ i = 2 := by rintro rfl; revert h; decide
  have h3 : ¬ i = 3 := by rintro rfl; revert h; decide
  simp only [svV, if_neg h0, if_neg h1, if_neg h2, if_neg h3]
theorem svV_or (g : Nat → Nat) (i : Int32) : svV g i = .null ∨ ∃ a, svV g i = .ref a := by
  unfold svV
  repeat' split
  all_goals first | exact Or.inl rfl | exact Or.inr ⟨_, rfl⟩
set_option maxHeartbeats 4000000 in
set_option maxRecDepth 100000 in
theorem c_X4_savedAt (l : Launch) (dC : Nat → ClassId) (dI : Nat → Nat → Nat) (cI cD cJ : ClassId) (_kk : wAd) (g : Nat → Nat) (x : HS) (p1 : Int32) : CP l yX4_savedAt wsX4_savedAt ({ frames := 0, cells := 0, slots := 0, locals := 0 } : Room) dC dI (wTys cI cD cJ) [.ref (g 0), .int p1] (wHis cI cD g x) (some (svV g p1)) := by
  refine wk_enterP (cc := cX4_savedAt) (maxL := 2) (ret := some (.object "WokenDrive$Drive")) (by decide) rfl (Nat.le_of_ble_eq_true rfl) ?_
  intro p e s m below meth c A Q ls hB hP hD hA hQ hl
  obtain ⟨hx, hb, hml, hr, hts, hown, hname, hlocks, hG⟩ := hB
  have hown : s.vm.findClass RX4 = some m.cls := hown
  have hS : va_S A s.heap s.heap [] := va_S.rf
  have hl : lv_has ls 2 [(0, .ref (g 0)), (1, .int p1)] := hl
  have inX4 : ∀ w ∈ wsX40, w ∈ wsX4_savedAt := fun _ h => List.mem_cons_of_mem _ (List.mem_append_right _ h)
  have hend : ∀ v : Value, v = svV g p1 → W p l e ({ frames := 0, cells := 0, slots := 0, locals := 0 } : Room) s m ([.ref (g 0), .int p1] : List Value).toArray below meth c s.heap [] 0 0 Q (F0 m 23 ls [v]) := by
    intro v hv
    exact wk_retPa hx hb hr hlocks hQ (Or.inl ⟨_, rfl⟩) (by rw [hv]; exact svV_or g p1) (by rw [hv]) hS dX4_savedAt_23
  have hnull : (p1 < 0 ∨ (4 : Int32) ≤ p1) → W p l e ({ frames := 0, cells := 0, slots := 0, locals := 0 } : Room) s m ([.ref (g 0), .int p1] : List Value).toArray below meth c s.heap [] 0 0 Q (F0 m 22 ls []) := by
    intro h
    refine lv_null hx hb dX4_savedAt_22 ?_
    exact hend _ (svV_out h)
  refine lv_iload_n hx hb dX4_savedAt_0 rfl (lv_at hl 1 rfl) ?_
  refine lv_if_lt (tgt := 22) hx hb dX4_savedAt_1 (by decide) (fun c1 => hnull (Or.inl c1)) (fun c1 => ?_)
  refine lv_iload_n hx hb dX4_savedAt_4 rfl (lv_at hl 1 rfl) ?_
  refine lv_aload_n hx hb dX4_savedAt_5 rfl (lv_at hl 0 rfl) ?_
  refine va_get (D := (dC, dI)) (ci := 3) (v := .ref (g 1)) (C := RX4) (T := TX4) (N := 3) hx hb hts inX4 hown hG.1 hP 0 rfl rfl 0 (by decide) (hts (.fieldLink RX4 11 "WokenDrive$History" "saved" "[LWokenDrive$Drive;") (by decide +kernel)) (fun _ h9 => h9) rfl dX4_savedAt_6 ?_
  refine va_alen hx hb hG.1 hP 1 1 rfl rfl (v := (4 : Int32)) rfl dX4_savedAt_9 ?_
  refine lv_icmp_ge (tgt := 22) hx hb dX4_savedAt_10 (by decide) (fun c2 => hnull (Or.inr c2)) (fun c2 => ?_)
  refine lv_aload_n hx hb dX4_savedAt_13 rfl (lv_at hl 0 rfl) ?_
  refine va_get (D := (dC, dI)) (ci := 3) (v := .ref (g 1)) (C := RX4) (T := TX4) (N := 3) hx hb hts inX4 hown hG.1 hP 0 rfl rfl 0 (by decide) (hts (.fieldLink RX4 11 "WokenDrive$History" "saved" "[LWokenDrive$Drive;") (by decide +kernel)) (fun _ h9 => h9) rfl dX4_savedAt_14 ?_
  refine lv_iload_n hx hb dX4_savedAt_17 rfl (lv_at hl 1 rfl) ?_
  have hin : vp_in p1 4 := vp_path (n := 4) c1 c2 (by decide)
  refine va_aldq hx hb hG.1 hP 1 1 rfl rfl hin dX4_savedAt_18 ?_
  refine lv_goto (tgt := 23) hx hb dX4_savedAt_19 (by decide) ?_
  exact hend _ (svV_in hin)
section WSV
variable {p : Program} {l : Launch} {e : Env} {R : Room} {s : State} {m : MethodId} {args : Array Value} {below : List Frame} {meth : Method} {c : Code} {H H0 : Heap} {locs : List Loc} {Q : State → Prop} {A0 : Nat → Prop} {a : Array Value} {pc : Nat} {ls : Array Slot} {rest st0 : List Value} {g : Nat → Nat} {i : Int32} {cells slots : Nat}
theorem wk_callSv (hr : va_Run p l e R s m args below meth c H locs cells slots 0 0 (F0 m pc ls st0) rest (wkQ (some (svV g i)) (fun t => t.heap = H) (fun _ => False) a) (fun _ => False)) (hS : va_S A0 H0 H locs)
    (k0 : i = 0 → ∀ locs1 : List Loc, va_S A0 H0 H locs1 → W p l e R s m args below meth c H locs1 cells slots Q (F0 m (pc + 3) ls (.ref (g 2) :: rest)))
    (k1 : ¬ i = 0 → i = 1 → ∀ locs1 : List Loc, va_S A0 H0 H locs1 → W p l e R s m args below meth c H locs1 cells slots Q (F0 m (pc + 3) ls (.ref (g 7) :: rest)))
    (k2 : ¬ i = 0 → ¬ i = 1 → i = 2 → ∀ locs1 : List Loc, va_S A0 H0 H locs1 → W p l e R s m args below meth c H locs1 cells slots Q (F0 m (pc + 3) ls (.ref (g 12) :: rest)))
    (k3 : ¬ i = 0 → ¬ i = 1 → ¬ i = 2 → i = 3 → ∀ locs1 : List Loc, va_S A0 H0 H locs1 → W p l e R s m args below meth c H locs1 cells slots Q (F0 m (pc + 3) ls (.ref (g 17) :: rest)))
    (k4 : ¬ i = 0 → ¬ i = 1 → ¬ i = 2 → ¬ i = 3 → ∀ locs1 : List Loc, va_S A0 H0 H locs1 → W p l e R s m args below meth c H locs1 cells slots Q (F0 m (pc + 3) ls (.null :: rest))) : W p l e R s m args below meth c H locs cells slots Q (F0 m pc ls st0) := by
  refine wk_callP hr hS (fun locs1 hS1 => ?_)
  show W p l e R s m args below meth c H locs1 cells slots Q (F0 m (pc + 3) ls (svV g i :: rest))
  unfold svV
  split
  · next h0 => exact k0 h0 locs1 hS1
  · next h0 =>
    split
    · next h1 => exact k1 h0 h1 locs1 hS1
    · next h1 =>
      split
      · next h2 => exact k2 h0 h1 h2 locs1 hS1
      · next h2 =>
        split
        · next h3 => exact k3 h0 h1 h2 h3 locs1 hS1
        · next h3 => exact k4 h0 h1 h2 h3 locs1 hS1
end WSV
