/-! PART 78: the law, from its entry to its end -/
set_option maxHeartbeats 4000000 in
set_option maxRecDepth 100000 in
theorem law_tail {p : Program} {e : Env} {s : State} {m : MethodId} {below : List Frame} {meth : Method} {c : Code} (l : Launch) (hflags : l.stackTraces = false) {b L : Nat} {xs : Nat → Int32} (hL : L ≤ 260) (C0 : lw_At p s m meth c b L xs) {dC : Nat → ClassId} {dI : Nat → Nat → Nat} {cI cD cJ : ClassId} {kk : wAd} {g : Nat → Nat} (hG : wk_G dC dI (wTys cI cD cJ) s) (hT : wkT kk (fun q : Nat => s.heap.size ≤ q) s s.heap) (hN : wkN s) {i : Nat} (hi : i < 30) {x x3 : SS} (e3 : M_L_fits x = some (true, x3)) {t : Int32} {D : Int64} {H : Heap} {locs : List Loc} {cells slots : Nat} (hc : cells + 2 ≤ room_1.cells) (hs : slots + 12 ≤ room_1.slots) {ls : Array Slot} (hP : va_P (dC, dI) vwCl (wSys cI cD kk.1 g x) H) (hD : va_D (fun q : Nat => s.heap.size ≤ q) (wSys cI cD kk.1 g x)) (hS : va_S (fun q : Nat => s.heap.size ≤ q) s.heap H locs) (hl : lv_has ls 7 [(6, .int t), (4, .long D), (0, .ref b), (1, .ref (g 0)), (2, .int 1), (3, .int (nI i))])
    (hnext : ∀ (H : Heap) (locs : List Loc) (ls : Array Slot), va_P (dC, dI) vwCl (wSys cI cD kk.1 g x3) H → va_D (fun q : Nat => s.heap.size ≤ q) (wSys cI cD kk.1 g x3) → va_S (fun q : Nat => s.heap.size ≤ q) s.heap H locs → lv_has ls 7 [(0, .ref b), (1, .ref (g 0)), (2, .int 1), (3, .int (nI (i + 1)))] → W p l e room_1 s m #[Value.ref b] below meth c H locs (cells + 2) (slots + 12) (lw_Z below #[Value.ref b] s) (F0 m 15 ls [])) : W p l e room_1 s m #[Value.ref b] below meth c H locs (cells + 2) (slots + 12) (lw_Z below #[Value.ref b] s) (F0 m 77 ls []) := by
  obtain ⟨hx, hb, hr, hml, hown, hts0, hX, hbl, hlocks, hgv⟩ := C0
  have hown : s.vm.findClass RL = some m.cls := hown
  have hts : ∀ w ∈ wsL_law, w.before #[Value.ref b] s = true := fun w h => hts0 w (wsL_law_in w h)
  have hA : ∀ q : Nat, s.heap.size ≤ q → (fun q : Nat => s.heap.size ≤ q) q := fun _ h => h
  refine lv_aload_n hx hb dL_law_77 rfl (lv_at hl 3 rfl) ?_
  refine wk_callM (ws' := (wSys cI cD kk.1 g x3)) (va_runS (As := [.ref (g 0)]) (rest := []) ⟨hx, hb, hml, hown, hts⟩ (c_L_fits l dC dI cI cD cJ kk g x (true, x3) e3 H) (va_cwS 1 hts gL_law_L_fits rfl rfl rfl (by decide +kernel) ⟨(Nat.le_of_ble_eq_true rfl), (Nat.le_of_ble_eq_true rfl)⟩) (wk_preS hG hP hD [0, 1, 2, 3, 4, 5, 6, 7, 8, 9, 10, 11, 12, 13, 14, 15, 16, 17, 18, 19, 20, 21, 22, 23, 24, 25, 26, 27, 28, 29, 30, 31, 32, 33, 34, 35, 36, 37] rfl rfl) rfl rfl hl.1 rfl (lv_room (Nat.le_of_ble_eq_true rfl)) dL_law_78 ⟨hc, hs⟩) hP hD hS hA [0, 1, 2, 3, 4, 5, 6, 7, 8, 9, 10, 11, 12, 13, 14, 15, 16, 17, 18, 19, 20, 21, 22, 23, 24, 25, 26, 27, 28, 29, 30, 31, 32, 33, 34, 35, 36, 37] [] [0, 1, 2, 3, 4, 5, 6, 7, 8, 9, 10, 11, 12, 13, 14, 15, 16, 17, 18, 19, 20, 21, 22, 23, 24, 25, 26, 27, 28, 29, 30, 31, 32, 33, 34, 35, 36, 37] rfl rfl rfl (by decide) rfl rfl (fun H locs hP hD hS => ?_)
  refine lv_if_eq (tgt := 88) hx hb dL_law_81 (by decide) (fun q => absurd q (show ¬ zI true = 0 by decide)) (fun _ => ?_)
  refine lv_iconst (v := 1) hx hb dL_law_84 (by decide) ?_
  refine lv_goto (tgt := 89) hx hb dL_law_85 (by decide) ?_
  refine lv_istore_n (lv' := [(2, .int 1), (6, .int t), (4, .long D), (0, .ref b), (1, .ref (g 0)), (3, .int (nI i))]) hx hb dL_law_89 rfl hl (by decide) rfl (fun ls hl => ?_)
  refine lv_iinc (v := nI (i + 1)) (lv' := [(3, .int (nI (i + 1))), (2, .int 1), (6, .int t), (4, .long D), (0, .ref b), (1, .ref (g 0))]) hx hb dL_law_90 hl (k := 5) rfl (nI_1 i) (by decide) rfl (fun ls hl => ?_)
  refine lv_goto (tgt := 15) hx hb dL_law_93 (by decide) ?_
  exact hnext H locs ls hP hD hS (lv_sub hl [4, 5, 1, 0] rfl)
theorem mul3 (i : Nat) : (3 : Int32) * nI i = nI (3 * i) := pk_mul 3 i
theorem mul31 (i : Nat) : (3 : Int32) * nI i + 1 = nI (3 * i + 1) := by rw [mul3, nI_1]
theorem mul32 (i : Nat) : (3 : Int32) * nI i + 2 = nI (3 * i + 2) := by rw [mul3]; exact nI_add (3 * i) 2
set_option maxHeartbeats 4000000 in
set_option maxRecDepth 100000 in
theorem law_turn {p : Program} {e : Env} {s : State} {m : MethodId} {below : List Frame} {meth : Method} {c : Code} (l : Launch) (hflags : l.stackTraces = false) {b L : Nat} {xs : Nat → Int32} (hL : L ≤ 260) (C0 : lw_At p s m meth c b L xs) {dC : Nat → ClassId} {dI : Nat → Nat → Nat} {cI cD cJ : ClassId} {kk : wAd} {g : Nat → Nat} (hG : wk_G dC dI (wTys cI cD cJ) s) (hT : wkT kk (fun q : Nat => s.heap.size ≤ q) s s.heap) (hN : wkN s) {i : Nat} (hi : i < 30) {x x1 x2 : SS} {D : Int64} {t : Int32} (e1 : M_X6_digest x = some (D, x1)) (e2 : M_L_goes x1 (cellV xs L (3 * i)) (cellV xs L (3 * i + 1)) (cellV xs L (3 * i + 2)) = some (.inr (t, x2))) {H : Heap} {locs : List Loc} {cells slots : Nat} (hc : cells + 2 ≤ room_1.cells) (hs : slots + 12 ≤ room_1.slots) {ls : Array Slot} (hP : va_P (dC, dI) vwCl (wSys cI cD kk.1 g x) H) (hD : va_D (fun q : Nat => s.heap.size ≤ q) (wSys cI cD kk.1 g x)) (hS : va_S (fun q : Nat => s.heap.size ≤ q) s.heap H locs) (hl : lv_has ls 7 [(0, .ref b), (1, .ref (g 0)), (2, .int 1), (3, .int (nI i))])
    (hnext : ∀ (H : Heap) (locs : List Loc) (ls : Array Slot), va_P (dC, dI) vwCl (wSys cI cD kk.1 g x2) H → va_D (fun q : Nat => s.heap.size ≤ q) (wSys cI cD kk.1 g x2) → va_S (fun q : Nat => s.heap.size ≤ q) s.heap H locs → lv_has ls 7 [(6, .int t), (4, .long D), (0, .ref b), (1, .ref (g 0)), (2, .int 1), (3, .int (nI i))] → W p l e room_1 s m #[Value.ref b] below meth c H locs (cells + 2) (slots + 12) (lw_Z below #[Value.ref b] s) (F0 m 62 ls [])) : W p l e room_1 s m #[Value.ref b] below meth c H locs cells slots (lw_Z below #[Value.ref b] s) (F0 m 15 ls []) := by
  obtain ⟨hx, hb, hr, hml, hown, hts0, hX, hbl, hlocks, hgv⟩ := C0
  have hown : s.vm.findClass RL = some m.cls := hown
  have hts : ∀ w ∈ wsL_law, w.before #[Value.ref b] s = true := fun w h => hts0 w (wsL_law_in w h)
  have hA : ∀ q : Nat, s.heap.size ≤ q → (fun q : Nat => s.heap.size ≤ q) q := fun _ h => h
  have hbA : ¬ (fun q : Nat => s.heap.size ≤ q) b := Nat.not_le.mpr hbl
  refine lv_iload_n hx hb dL_law_15 rfl (lv_at hl 3 rfl) ?_
  refine lv_bipush (v := 30) hx hb dL_law_16 (by decide) ?_
  refine lv_icmp_ge (tgt := 96) hx hb dL_law_18 (by decide) (fun q => absurd q (nI_ge (a := i) (b := 30) hi (by omega))) (fun _ => ?_)
  refine lv_iload_n hx hb dL_law_21 rfl (lv_at hl 2 rfl) ?_
  refine lv_if_eq (tgt := 96) hx hb dL_law_22 (by decide) (fun q => absurd q (by decide)) (fun _ => ?_)
  refine lv_aload_n hx hb dL_law_25 rfl (lv_at hl 1 rfl) ?_
  refine wk_callM (ws' := (wSys cI cD kk.1 g x1)) (va_runV (As := []) (rest := []) ⟨hx, hb, hml, hown, hts⟩ (c_X6_digest l dC dI cI cD cJ kk g x (D, x1) e1 H) (cwV 0 hts gL_law_X6_digest rfl rfl rfl (by decide +kernel) ⟨(Nat.le_of_ble_eq_true rfl), (Nat.le_of_ble_eq_true rfl)⟩) (wk_preV (ci := 4) (q0 := 0) hG hP hD [0, 1, 2, 3, 4, 5, 6, 7, 8, 9, 10, 11, 12, 13, 14, 15, 16, 17, 18, 19, 20, 21, 22, 23, 24, 25, 26, 27, 28, 29, 30, 31, 32, 33, 34, 35, 36, 37] rfl rfl rfl rfl) rfl rfl hl.1 rfl (lv_room (Nat.le_of_ble_eq_true rfl)) dL_law_26 ⟨Nat.le_trans (show cells + 0 ≤ cells + 2 by omega) hc, Nat.le_trans (show slots + 0 ≤ slots + 12 by omega) hs⟩) hP hD hS hA [0, 1, 2, 3, 4, 5, 6, 7, 8, 9, 10, 11, 12, 13, 14, 15, 16, 17, 18, 19, 20, 21, 22, 23, 24, 25, 26, 27, 28, 29, 30, 31, 32, 33, 34, 35, 36, 37] [] [0, 1, 2, 3, 4, 5, 6, 7, 8, 9, 10, 11, 12, 13, 14, 15, 16, 17, 18, 19, 20, 21, 22, 23, 24, 25, 26, 27, 28, 29, 30, 31, 32, 33, 34, 35, 36, 37] rfl rfl rfl (by decide) rfl rfl (fun H locs hP hD hS => ?_)
  refine lv_lstore (lv' := [(4, .long D), (0, .ref b), (1, .ref (g 0)), (2, .int 1), (3, .int (nI i))]) hx hb dL_law_29 hl (by decide) rfl (fun ls hl => ?_)
  refine lv_aload_n hx hb dL_law_31 rfl (lv_at hl 2 rfl) ?_
  refine lv_aload_n hx hb dL_law_32 rfl (lv_at hl 1 rfl) ?_
  refine lv_iconst (v := 3) hx hb dL_law_33 (by decide) ?_
  refine lv_iload_n hx hb dL_law_34 rfl (lv_at hl 4 rfl) ?_
  refine lv_imul hx hb dL_law_35 ?_
  rw [mul3]
  refine wk_callP (va_runS (As := [.ref b, .int (nI (3 * i))]) (rest := [.ref (g 0)]) ⟨hx, hb, hml, hown, hts⟩ (c_L_cell l b L xs hL (3 * i) (by omega) H) (va_cwS 2 hts gL_law_L_cell rfl rfl rfl (by decide +kernel) ⟨(Nat.le_of_ble_eq_true rfl), (Nat.le_of_ble_eq_true rfl)⟩) (wk_preX hX hbl hbA hS) rfl rfl hl.1 rfl (lv_room (Nat.le_of_ble_eq_true rfl)) dL_law_36 ⟨Nat.le_trans (show cells + 0 ≤ cells + 2 by omega) hc, Nat.le_trans (show slots + 0 ≤ slots + 12 by omega) hs⟩) hS (fun locs hS => ?_)
  refine lv_aload_n hx hb dL_law_39 rfl (lv_at hl 1 rfl) ?_
  refine lv_iconst (v := 3) hx hb dL_law_40 (by decide) ?_
  refine lv_iload_n hx hb dL_law_41 rfl (lv_at hl 4 rfl) ?_
  refine lv_imul hx hb dL_law_42 ?_
  refine lv_iconst (v := 1) hx hb dL_law_43 (by decide) ?_
  refine lv_iadd hx hb dL_law_44 ?_
  rw [mul31]
  refine wk_callP (va_runS (As := [.ref b, .int (nI (3 * i + 1))]) (rest := [.int (cellV xs L (3 * i)), .ref (g 0)]) ⟨hx, hb, hml, hown, hts⟩ (c_L_cell l b L xs hL (3 * i + 1) (by omega) H) (va_cwS 2 hts gL_law_L_cell rfl rfl rfl (by decide +kernel) ⟨(Nat.le_of_ble_eq_true rfl), (Nat.le_of_ble_eq_true rfl)⟩) (wk_preX hX hbl hbA hS) rfl rfl hl.1 rfl (lv_room (Nat.le_of_ble_eq_true rfl)) dL_law_45 ⟨Nat.le_trans (show cells + 0 ≤ cells + 2 by omega) hc, Nat.le_trans (show slots + 0 ≤ slots + 12 by omega) hs⟩) hS (fun locs hS => ?_)
  refine lv_aload_n hx hb dL_law_48 rfl (lv_at hl 1 rfl) ?_
  refine lv_iconst (v := 3) hx hb dL_law_49 (by decide) ?_
  refine lv_iload_n hx hb dL_law_50 rfl (lv_at hl 4 rfl) ?_
  refine lv_imul hx hb dL_law_51 ?_
  refine lv_iconst (v := 2) hx hb dL_law_52 (by decide) ?_
  refine lv_iadd hx hb dL_law_53 ?_
  rw [mul32]
  refine wk_callP (va_runS (As := [.ref b, .int (nI (3 * i + 2))]) (rest := [.int (cellV xs L (3 * i + 1)), .int (cellV xs L (3 * i)), .ref (g 0)]) ⟨hx, hb, hml, hown, hts⟩ (c_L_cell l b L xs hL (3 * i + 2) (by omega) H) (va_cwS 2 hts gL_law_L_cell rfl rfl rfl (by decide +kernel) ⟨(Nat.le_of_ble_eq_true rfl), (Nat.le_of_ble_eq_true rfl)⟩) (wk_preX hX hbl hbA hS) rfl rfl hl.1 rfl (lv_room (Nat.le_of_ble_eq_true rfl)) dL_law_54 ⟨Nat.le_trans (show cells + 0 ≤ cells + 2 by omega) hc, Nat.le_trans (show slots + 0 ≤ slots + 12 by omega) hs⟩) hS (fun locs hS => ?_)
  refine wk_callX (vx_runS (As := [.ref (g 0), .int (cellV xs L (3 * i)), .int (cellV xs L (3 * i + 1)), .int (cellV xs L (3 * i + 2))]) (rest := []) ⟨hx, hb, hml, hown, hts⟩ (c_L_goes l hflags dC dI cI cD cJ kk g x1 (cellV xs L (3 * i)) (cellV xs L (3 * i + 1)) (cellV xs L (3 * i + 2)) _ e2 H) (va_cwS 4 hts gL_law_L_goes rfl rfl rfl (by decide +kernel) ⟨(Nat.le_of_ble_eq_true rfl), (Nat.le_of_ble_eq_true rfl)⟩) (wk_preSL hG hP hD hT hN hS [0, 1, 2, 3, 4, 5, 6, 7, 8, 9, 10, 11, 12, 13, 14, 15, 16, 17, 18, 19, 20, 21, 22, 23, 24, 25, 26, 27, 28, 29, 30, 31, 32, 33, 34, 35, 36, 37] rfl rfl (va_free hD hS hA [0, 1, 2, 3, 4, 5, 6, 7, 8, 9, 10, 11, 12, 13, 14, 15, 16, 17, 18, 19, 20, 21, 22, 23, 24, 25, 26, 27, 28, 29, 30, 31, 32, 33, 34, 35, 36, 37] rfl)) rfl rfl hl.1 rfl (lv_room (Nat.le_of_ble_eq_true rfl)) dL_law_57 ⟨hc, hs⟩) hP hD hS hA [0, 1, 2, 3, 4, 5, 6, 7, 8, 9, 10, 11, 12, 13, 14, 15, 16, 17, 18, 19, 20, 21, 22, 23, 24, 25, 26, 27, 28, 29, 30, 31, 32, 33, 34, 35, 36, 37] [] [0, 1, 2, 3, 4, 5, 6, 7, 8, 9, 10, 11, 12, 13, 14, 15, 16, 17, 18, 19, 20, 21, 22, 23, 24, 25, 26, 27, 28, 29, 30, 31, 32, 33, 34, 35, 36, 37] rfl rfl rfl (by decide) rfl rfl (fun f9 ce q9 H locs ho9 hP hD hS hc9 hv9 hf9 => by cases ho9) (fun ov w1 ho9 H locs hPD hS => ?_)
  cases ho9
  obtain ⟨hP, hD⟩ := hPD (wSys cI cD kk.1 g x2) rfl
  refine lv_istore (lv' := [(6, .int t), (4, .long D), (0, .ref b), (1, .ref (g 0)), (2, .int 1), (3, .int (nI i))]) hx hb dL_law_60 hl (by decide) rfl (fun ls hl => ?_)
  exact hnext H locs ls hP hD hS hl
set_option maxHeartbeats 4000000 in
set_option maxRecDepth 100000 in
theorem law_loop {p : Program} {e : Env} {s : State} {m : MethodId} {below : List Frame} {meth : Method} {c : Code} (l : Launch) (hflags : l.stackTraces = false) {b L : Nat} {xs : Nat → Int32} (hL : L ≤ 260) (C0 : lw_At p s m meth c b L xs) {dC : Nat → ClassId} {dI : Nat → Nat → Nat} {cI cD cJ : ClassId} {kk : wAd} {g : Nat → Nat} (hG : wk_G dC dI (wTys cI cD cJ) s) (hT : wkT kk (fun q : Nat => s.heap.size ≤ q) s s.heap) (hN : wkN s) : ∀ (n i : Nat) (x : SS) (H : Heap) (locs : List Loc) (cells slots : Nat) (ls : Array Slot), i + n = 30 → IV x → cells + 2 * n ≤ 600086 → slots + 12 * n ≤ 7301442 → va_P (dC, dI) vwCl (wSys cI cD kk.1 g x) H → va_D (fun q : Nat => s.heap.size ≤ q) (wSys cI cD kk.1 g x) → va_S (fun q : Nat => s.heap.size ≤ q) s.heap H locs → lv_has ls 7 [(0, .ref b), (1, .ref (g 0)), (2, .int 1), (3, .int (nI i))] → W p l e room_1 s m #[Value.ref b] below meth c H locs cells slots (lw_Z below #[Value.ref b] s) (F0 m 15 ls []) := by
  have C1 := C0
  obtain ⟨hx, hb, hr, hml, hown, hts0, hX, hbl, hlocks, hgv⟩ := C1
  have hown : s.vm.findClass RL = some m.cls := hown
  have hts : ∀ w ∈ wsL_law, w.before #[Value.ref b] s = true := fun w h => hts0 w (wsL_law_in w h)
  have hA : ∀ q : Nat, s.heap.size ≤ q → (fun q : Nat => s.heap.size ≤ q) q := fun _ h => h
  intro n
  induction n with
  | zero =>
    intro i x H locs cells slots ls h1 hI h3 h4 hP hD hS hl
    refine lv_iload_n hx hb dL_law_15 rfl (lv_at hl 3 rfl) ?_
    refine lv_bipush (v := 30) hx hb dL_law_16 (by decide) ?_
    refine lv_icmp_ge (tgt := 96) hx hb dL_law_18 (by decide) (fun _ => ?_) (fun q => absurd (nI_le (a := 30) (b := i) (by omega) (by omega)) q)
    refine lv_iload_n hx hb dL_law_96 rfl (lv_at hl 2 rfl) ?_
    refine va_forget hS.2.2 ?_
    refine W.widen (k := 600086) (n := 7301442) (by omega) (by omega) ?_
    exact lw_ret hx hb hr hlocks dL_law_97
  | succ n ih =>
    intro i x H locs cells slots ls h1 hI h3 h4 hP hD hS hl
    have hc : cells + 2 ≤ room_1.cells := show cells + 2 ≤ 600086 by omega
    have hs : slots + 12 ≤ room_1.slots := show slots + 12 ≤ 7301442 by omega
    have hi : i < 30 := by omega
    obtain ⟨D, x1, t, x2, e1, e2, h⟩ := turn_ok hI (cellV xs L (3 * i)) (cellV xs L (3 * i + 1)) (cellV xs L (3 * i + 2))
    refine law_turn l hflags hL C0 hG hT hN hi e1 e2 hc hs hP hD hS hl (fun H locs ls hP hD hS hl => ?_)
    refine lv_iload hx hb dL_law_62 (lv_at hl 0 rfl) ?_
    rcases h with ⟨q, x3, e3, hI3⟩ | ⟨q, x3, x4, e3, e4, hI4⟩
    · refine lv_if_eq (tgt := 77) hx hb dL_law_64 (by decide) (fun _ => ?_) (fun q2 => absurd q q2)
      exact law_tail l hflags hL C0 hG hT hN hi e3 hc hs hP hD hS hl (fun H locs ls hP hD hS hl => ih (i + 1) x3 H locs (cells + 2) (slots + 12) ls (by omega) hI3 (by omega) (by omega) hP hD hS hl)
    · refine lv_if_eq (tgt := 77) hx hb dL_law_64 (by decide) (fun q2 => absurd q2 q) (fun _ => ?_)
      refine lv_aload_n hx hb dL_law_67 rfl (lv_at hl 3 rfl) ?_
      refine wk_callM (ws' := (wSys cI cD kk.1 g x3)) (va_runV (As := []) (rest := []) ⟨hx, hb, hml, hown, hts⟩ (c_X6_digest l dC dI cI cD cJ kk g x2 (D, x3) e3 H) (cwV 0 hts gL_law_X6_digest rfl rfl rfl (by decide +kernel) ⟨(Nat.le_of_ble_eq_true rfl), (Nat.le_of_ble_eq_true rfl)⟩) (wk_preV (ci := 4) (q0 := 0) hG hP hD [0, 1, 2, 3, 4, 5, 6, 7, 8, 9, 10, 11, 12, 13, 14, 15, 16, 17, 18, 19, 20, 21, 22, 23, 24, 25, 26, 27, 28, 29, 30, 31, 32, 33, 34, 35, 36, 37] rfl rfl rfl rfl) rfl rfl hl.1 rfl (lv_room (Nat.le_of_ble_eq_true rfl)) dL_law_68 ⟨hc, hs⟩) hP hD hS hA [0, 1, 2, 3, 4, 5, 6, 7, 8, 9, 10, 11, 12, 13, 14, 15, 16, 17, 18, 19, 20, 21, 22, 23, 24, 25, 26, 27, 28, 29, 30, 31, 32, 33, 34, 35, 36, 37] [] [0, 1, 2, 3, 4, 5, 6, 7, 8, 9, 10, 11, 12, 13, 14, 15, 16, 17, 18, 19, 20, 21, 22, 23, 24, 25, 26, 27, 28, 29, 30, 31, 32, 33, 34, 35, 36, 37] rfl rfl rfl (by decide) rfl rfl (fun H locs hP hD hS => ?_)
      refine lv_lload hx hb dL_law_71 (lv_at hl 1 rfl) ?_
      refine W.lcmp hx hb dL_law_73 ?_
      refine lv_if_ne (tgt := 88) hx hb dL_law_74 (by decide) (fun q2 => absurd (lg_self D) q2) (fun _ => ?_)
      exact law_tail l hflags hL C0 hG hT hN hi e4 hc hs hP hD hS hl (fun H locs ls hP hD hS hl => ih (i + 1) x4 H locs (cells + 2) (slots + 12) ls (by omega) hI4 (by omega) (by omega) hP hD hS hl)
set_option maxHeartbeats 4000000 in
set_option maxRecDepth 100000 in
/-- from the entry, for every script of at most 260 ints, the law comes to its end with true -/
theorem whole_start {p : Program} {e : Env} {s : State} {m : MethodId} {below : List Frame} {meth : Method} {c : Code} (l : Launch) (hflags : l.flags = flags0) {b L : Nat} {xs : Nat → Int32} (hL : L ≤ 260) (C0 : lw_At p s m meth c b L xs) : W p l e room_1 s m #[Value.ref b] below meth c s.heap [] 0 0 (lw_Z below #[Value.ref b] s) (entryFrame m ([Value.ref b] : List Value).toArray 7) := by
  have hst : l.stackTraces = false := by
    unfold Launch.stackTraces
    rw [hflags]
    decide
  have C1 := C0
  obtain ⟨hx, hb, hr, hml, hown, hts0, hX, hbl, hlocks, hgv⟩ := C1
  have hown : s.vm.findClass RL = some m.cls := hown
  have hts : ∀ w ∈ wsL_law, w.before #[Value.ref b] s = true := fun w h => hts0 w (wsL_law_in w h)
  obtain ⟨dC, dI, cI, cD, hG⟩ := start_G hts0
  obtain ⟨kk, hT⟩ := start_T hts0 hgv
  have hN := start_N hts0 hgv
  have hA : ∀ q : Nat, s.heap.size ≤ q → (fun q : Nat => s.heap.size ≤ q) q := fun _ h => h
  have hP : va_P (dC, dI) vwCl ([] : va_W) s.heap := fun k q hq => by simp at hq
  have hD : va_D (fun q : Nat => s.heap.size ≤ q) ([] : va_W) := ⟨fun i j p q hi => by simp at hi, fun k q hq => by simp at hq⟩
  have hS : va_S (fun q : Nat => s.heap.size ≤ q) s.heap s.heap [] := va_S.rf
  have hl := lv_entry ([Value.ref b]) (n := 7) (Nat.le_of_ble_eq_true rfl)
  rw [lg_entry_eq]
  have hl : lv_has _ 7 [(0, .ref b)] := hl
  refine va_new (ci := 4) (fs := [.null, .null, .null, .null, .null, .null]) (C := RX6) (T := TX6) (N := 6) hx hb hts inlX6 tyX6 tyX6_ok hown (hts (.classLink RL 16 RX6) (List.mem_of_getElem? (i := 0) rfl)) (hts (.instantiable RX6 6) (List.mem_of_getElem? (i := 1) rfl)) (hts (.initialized RX6) (List.mem_of_getElem? (i := 2) rfl)) hG.1 hP hD hS hA rfl (fun j hj => by rcases (show j = 0 ∨ j = 1 ∨ j = 2 ∨ j = 3 ∨ j = 4 ∨ j = 5 by omega) with rfl | rfl | rfl | rfl | rfl | rfl <;> rfl) (Nat.le_of_ble_eq_true rfl) (Nat.le_of_ble_eq_true rfl) dL_law_0 (fun q0 H hP hD hS => ?_)
  have hP : va_P (dC, dI) vwCl ([(q0, .inr (4, [.null, .null, .null, .null, .null, .null]))] : va_W) H := hP
  have hD : va_D (fun q : Nat => s.heap.size ≤ q) ([(q0, .inr (4, [.null, .null, .null, .null, .null, .null]))] : va_W) := hD
  refine lv_dup hx hb dL_law_3 rfl ?_
  refine wk_callI (wr := ([] : va_W)) (va_runI (As := []) (rest := [.ref q0]) ⟨hx, hb, hml, hown, hts⟩ (c_X6_init l dC dI cI cD cI kk q0 H) (cwI 0 hts gL_law_X6_init rfl rfl rfl (hts (.initialized RX6) (List.mem_of_getElem? (i := 2) rfl)) (hts (.methodLink RL 145 yX6_init) (List.mem_of_getElem? (i := 3) rfl)) (hts (.instanceMethod yX6_init) (List.mem_of_getElem? (i := 4) rfl)) rfl (by decide +kernel) ⟨(Nat.le_of_ble_eq_true rfl), (Nat.le_of_ble_eq_true rfl)⟩) (wk_preS hG hP hD [0] rfl rfl) rfl rfl hl.1 rfl (lv_room (Nat.le_of_ble_eq_true rfl)) dL_law_4 ⟨(Nat.le_of_ble_eq_true rfl), (Nat.le_of_ble_eq_true rfl)⟩) hP hD hS hA [0] [] rfl rfl rfl (by decide) (fun g H locs hg hP2 hD2 hS2 => ?_)
  subst hg
  have hP : va_P (dC, dI) vwCl (wSys cI cD kk.1 g ss0) H := hP2
  have hD : va_D (fun q : Nat => s.heap.size ≤ q) (wSys cI cD kk.1 g ss0) := hD2
  have hS := hS2
  refine lv_astore_n (lv' := [(1, .ref (g 0)), (0, .ref b)]) hx hb dL_law_7 rfl hl (by decide) rfl (fun ls hl => ?_)
  refine lv_aload_n hx hb dL_law_8 rfl (lv_at hl 0 rfl) ?_
  obtain ⟨x1, e1, hI⟩ := start_ok
  refine wk_callM (ws' := (wSys cI cD kk.1 g x1)) (va_runS (As := [.ref (g 0)]) (rest := []) ⟨hx, hb, hml, hown, hts⟩ (c_L_fits l dC dI cI cD cI kk g ss0 (true, x1) e1 H) (va_cwS 1 hts gL_law_L_fits rfl rfl rfl (by decide +kernel) ⟨(Nat.le_of_ble_eq_true rfl), (Nat.le_of_ble_eq_true rfl)⟩) (wk_preS hG hP hD [0, 1, 2, 3, 4, 5, 6, 7, 8, 9, 10, 11, 12, 13, 14, 15, 16, 17, 18, 19, 20, 21, 22, 23, 24, 25, 26, 27, 28, 29, 30, 31, 32, 33, 34, 35, 36, 37] rfl rfl) rfl rfl hl.1 rfl (lv_room (Nat.le_of_ble_eq_true rfl)) dL_law_9 ⟨(Nat.le_of_ble_eq_true rfl), (Nat.le_of_ble_eq_true rfl)⟩) hP hD hS hA [0, 1, 2, 3, 4, 5, 6, 7, 8, 9, 10, 11, 12, 13, 14, 15, 16, 17, 18, 19, 20, 21, 22, 23, 24, 25, 26, 27, 28, 29, 30, 31, 32, 33, 34, 35, 36, 37] [] [0, 1, 2, 3, 4, 5, 6, 7, 8, 9, 10, 11, 12, 13, 14, 15, 16, 17, 18, 19, 20, 21, 22, 23, 24, 25, 26, 27, 28, 29, 30, 31, 32, 33, 34, 35, 36, 37] rfl rfl rfl (by decide) rfl rfl (fun H locs hP hD hS => ?_)
  refine lv_istore_n (lv' := [(2, .int 1), (1, .ref (g 0)), (0, .ref b)]) hx hb dL_law_12 rfl hl (by decide) rfl (fun ls hl => ?_)
  refine lv_iconst (v := 0) hx hb dL_law_13 (by decide) ?_
  refine lv_istore_n (lv' := [(3, .int (nI 0)), (2, .int 1), (1, .ref (g 0)), (0, .ref b)]) hx hb dL_law_14 rfl hl (by decide) rfl (fun ls hl => ?_)
  exact law_loop l hst hL C0 hG hT hN 30 0 x1 H _ _ _ ls (by omega) hI (Nat.le_of_ble_eq_true rfl) (Nat.le_of_ble_eq_true rfl) hP hD hS (lv_sub hl [3, 2, 1, 0] rfl)
