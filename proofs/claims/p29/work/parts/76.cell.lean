/-! PART 76: a cell of the script -/
def cellV (xs : Nat → Int32) (L k : Nat) : Int32 := if k < L then xs k else 461845907 * (nI k + 1)
def wkPc (b L : Nat) (xs : Nat → Int32) (av : List Value) (H0 : Heap) : Array Value → State → Prop := va_Pc av (fun U => U.heap = H0 ∧ va_X b L xs U H0 ∧ b < H0.size)
theorem wkPc.blind {b L : Nat} {xs : Nat → Int32} {av : List Value} {H0 : Heap} : FrameBlind (wkPc b L xs av H0) :=
  fun a U g mk h => ⟨h.1, h.2.1, va_X.moved (u := U) (U := U.calling g mk a) (Vm.Alike.refl U.vm) h.2.2.1, h.2.2.2⟩
theorem wk_preX {b L : Nat} {xs : Nat → Int32} {As : List Value} {s : State} {H : Heap} {A : Nat → Prop} {locs : List Loc} (hX : va_X b L xs s s.heap) (hbl : b < s.heap.size) (hbA : ¬ A b) (hS : va_S A s.heap H locs) : PreS s H (wkPc b L xs As H) As :=
  ⟨wkPc.blind, fun _ hU hW => ⟨rfl, hU, (hX.moved hW.alike).kept (hS.2.1 b hbl hbA), Nat.lt_of_lt_of_le hbl hS.1⟩⟩
set_option maxHeartbeats 4000000 in
set_option maxRecDepth 100000 in
theorem c_L_cell (l : Launch) (b L : Nat) (xs : Nat → Int32) (hL : L ≤ 260) (k : Nat) (hk : k < 1000) : ∀ H0, Met l yL_cell wsL_cell ({ frames := 0, cells := 0, slots := 0, locals := 0 } : Room) (wkPc b L xs [.ref b, .int (nI k)] H0) (wkQ (some (.int (cellV xs L k))) (fun t => t.heap = H0) (fun _ => False)) 0 0 (fun _ => False) := by
  intro H0
  refine Met.ofW (cc := cL_cell) (maxL := 2) (ret := some .int) (by decide) rfl ?_
  intro p e s m args below meth c s₁ B hml hv
  obtain ⟨rfl, hsz, hX, hbl⟩ := hv
  subst hsz
  have hl := lv_entry ([.ref b, .int (nI k)] : List Value) (n := 2) (Nat.le_of_ble_eq_true rfl)
  rw [lg_entry_eq]
  have hx := B.exec
  have hb := B.bytes
  have hr := B.returns
  have hlocks := B.notSynchronized
  have hts := atoms_spec (ws := wsL_cell) B.pre
  have hown : s.vm.findClass RL = some m.cls := findClass_of_methodNamed B.named
  have hS : va_S (fun _ => False) s.heap s.heap [] := va_S.rf
  have hl : lv_has _ 2 [(0, .ref b), (1, .int (nI k))] := hl
  have hbA : ¬ (fun _ : Nat => False) b := fun q => q
  refine lv_iload_n hx hb dL_cell_0 rfl (lv_at hl 1 rfl) ?_
  refine lv_aload_n hx hb dL_cell_1 rfl (lv_at hl 0 rfl) ?_
  refine va_slen hx hb hX hbl hbA hS dL_cell_2 ?_
  by_cases hkL : k < L
  · have e : cellV xs L k = xs k := if_pos hkL
    rw [e]
    refine lv_icmp_ge (tgt := 12) hx hb dL_cell_3 (by decide) (fun c1 => absurd c1 (nI_ge hkL (by omega))) (fun c1 => ?_)
    refine lv_aload_n hx hb dL_cell_6 rfl (lv_at hl 0 rfl) ?_
    refine lv_iload_n hx hb dL_cell_7 rfl (lv_at hl 1 rfl) ?_
    refine va_sld hx hb hX hbl hbA hS (vp_in_nI hkL (by omega)) dL_cell_8 ?_
    rw [nI_clamp (show k < 2 ^ 31 by omega)]
    refine lv_goto (tgt := 18) hx hb dL_cell_9 (by decide) ?_
    exact wk_retPi hx hb hr hlocks rfl rfl rfl hS dL_cell_18
  · have e : cellV xs L k = 461845907 * (nI k + 1) := if_neg hkL
    rw [e]
    refine lv_icmp_ge (tgt := 12) hx hb dL_cell_3 (by decide) (fun c1 => ?_) (fun c1 => absurd (nI_le (show L ≤ k by omega) (by omega)) c1)
    refine lv_ldc (v := (461845907 : Int32)) hx hb hown (hts (.constant RL 7 (461845907)) (List.mem_of_getElem? (i := 1) rfl)) dL_cell_12 ?_
    refine lv_iload_n hx hb dL_cell_14 rfl (lv_at hl 1 rfl) ?_
    refine lv_iconst (v := 1) hx hb dL_cell_15 (by decide) ?_
    refine lv_iadd hx hb dL_cell_16 ?_
    refine lv_imul hx hb dL_cell_17 ?_
    exact wk_retPi hx hb hr hlocks rfl rfl rfl hS dL_cell_18
