/-! PART 23: the JDK's own text methods over the words' texts, and an enum's ordinal, by hand -/
theorem wlen_lt (i : Nat) : wLen.getD i 0 < 2 ^ 31 := by
  by_cases h : i < 10
  · have : ∀ k, k < 10 → wLen.getD k 0 < 2 ^ 31 := by decide +kernel
    exact this i h
  · have : wLen.getD i 0 = 0 := by
      rw [List.getD_eq_getElem?_getD, List.getElem?_eq_none (by simpa using Nat.le_of_not_lt h)]; rfl
    omega
/-- a byte of a word's text is its char -/
theorem wchr_eq : ∀ i, i < 10 → ∀ k, k < wLen.getD i 0 → ((((wByt.getD i []).getD k 0) &&& 255).toUInt32 % 65536).toInt32 = (wByt.getD i []).getD k 0 ∧ narrow .char (.int ((wByt.getD i []).getD k 0)) = .int ((wByt.getD i []).getD k 0) := by decide +kernel
section WPK
variable {s : State} {H : Heap} {locs : List Loc} {dC : Nat → ClassId} {dI : Nat → Nat → Nat} {tys : List (ClassId × FieldType)} {A A0 B : Nat → Prop} {ws : va_W} {k : wAd} {As : List Value}
theorem wk_preVK {E : String} {b : Nat} (hG : wk_G dC dI tys s) (hP : va_P (dC, dI) vwCl ws H) (hD : va_D A0 ws) (hT : wkT k A s s.heap) (hS : va_S A s.heap H locs) (hO : va_O E b A s s.heap) (hB : ∀ q, B q → A q) :
    PreV s H E b (wkPT k B dC dI tys (.ref b :: As) H []) As := by
  obtain ⟨cell, h1, h2, h3, -⟩ := hO.kept hS.2.1
  exact ⟨wkPT.blind, ⟨cell, h1, h2, h3⟩, fun U hU hW => ⟨(wk_pre hG hP hD [] rfl rfl).2 U hU hW, ((hT.kept hS.2.1).narrow hB).warm hW⟩⟩
theorem wk_preVTP {b ci q0 : Nat} {q : vw_C} {fs : List Value} {wc : va_W} (hG : wk_G dC dI tys s) (hP : va_P (dC, dI) vwCl ws H) (hD : va_D A0 ws) (hT : wkT k A s s.heap) (hS : va_S A s.heap H locs) (isC : List Nat) (hn : va_nd isC = true) (hC : isC.map (fun i => ws[i]?) = wc.map some) (hc : vwCl[ci]? = some q) (he : ws[q0]? = some (b, .inr (ci, fs))) (hB : ∀ q, B q → A q) :
    PreV s H q.1 b (wkPT k B dC dI tys (.ref b :: As) H wc) As :=
  ⟨wkPT.blind, va_recv hG.1 hP hc he, fun U hU hW => ⟨(wk_pre hG hP hD isC hn hC).2 U hU hW, ((hT.kept hS.2.1).narrow hB).warm hW⟩⟩
end WPK
section JDK
variable (l : Launch) (dC : Nat → ClassId) (dI : Nat → Nat → Nat) (cI cD cJ : ClassId) (kk : wAd)
set_option maxHeartbeats 4000000 in
set_option maxRecDepth 100000 in
theorem c_jord (i : Nat) (hi : i < 10) : CPT kk l yJx29ce0_ordinal_8abf5 wsJx29ce0_ordinal_8abf5 ({ frames := 0, cells := 0, slots := 0, locals := 0 } : Room) dC dI (wTys cI cD cJ) [.ref (kk.1 i)] [] (some (.int (nI i))) := by
  refine wk_enterPT (cc := cJx29ce0_ordinal_8abf5) (maxL := 1) (ret := some .int) (by decide) rfl (Nat.le_of_ble_eq_true rfl) ?_
  intro p e s m below meth c A Q ls hB hT hP hD hA hQ hl
  obtain ⟨hx, hb, hml, hr, hts, hown, hname, hlocks, hG⟩ := hB
  have hown : s.vm.findClass RJx29ce0 = some m.cls := hown
  have hS : va_S A s.heap s.heap [] := va_S.rf
  have hl : lv_has ls 1 [(0, .ref (kk.1 i))] := hl
  refine lv_aload_n hx hb dJx29ce0_ordinal_8abf5_0 rfl (lv_at hl 0 rfl) ?_
  refine vk_getf (v := .int (nI i)) hx hb (hT.2.1 i hi).2.2.2.2 hS hown (hts (.fieldLink RJx29ce0 7 "java/lang/Enum" "ordinal" "I") (by decide +kernel)) (fun _ h9 => h9) dJx29ce0_ordinal_8abf5_1 ?_
  exact wk_retPi hx hb hr hlocks hQ rfl rfl hS dJx29ce0_ordinal_8abf5_4
set_option maxHeartbeats 4000000 in
set_option maxRecDepth 100000 in
theorem c_jcoder (i : Nat) (hi : i < 10) : CPT kk l yJ0_coder_7d493 wsJ0_coder_7d493 ({ frames := 0, cells := 0, slots := 0, locals := 0 } : Room) dC dI (wTys cI cD cJ) [.ref (kk.2.1 i)] [] (some (.int 0)) := by
  refine wk_enterPT (cc := cJ0_coder_7d493) (maxL := 1) (ret := some .byte) (by decide) rfl (Nat.le_of_ble_eq_true rfl) ?_
  intro p e s m below meth c A Q ls hB hT hP hD hA hQ hl
  obtain ⟨hx, hb, hml, hr, hts, hown, hname, hlocks, hG⟩ := hB
  have hown : s.vm.findClass RJ0 = some m.cls := hown
  have hS : va_S A s.heap s.heap [] := va_S.rf
  have hl : lv_has ls 1 [(0, .ref (kk.2.1 i))] := hl
  refine va_gets hx hb hT.2.2.2.2.1.1 hS hown (hts (.fieldLink RJ0 38 "java/lang/String" "COMPACT_STRINGS" "Z") (by decide +kernel)) (fun _ h9 => h9) dJ0_coder_7d493_0 ?_
  refine lv_if_eq (tgt := 13) hx hb dJ0_coder_7d493_3 (by decide) (fun c1 => absurd c1 (by decide)) (fun c1 => ?_)
  refine lv_aload_n hx hb dJ0_coder_7d493_6 rfl (lv_at hl 0 rfl) ?_
  refine vk_getf (v := .int 0) hx hb (hT.2.2.1.1 i hi).2.1 hS hown (hts (.fieldLink RJ0 15 "java/lang/String" "coder" "B") (by decide +kernel)) (fun _ h9 => h9) dJ0_coder_7d493_7 ?_
  refine lv_goto (tgt := 14) hx hb dJ0_coder_7d493_10 (by decide) ?_
  exact wk_retPi hx hb hr hlocks hQ rfl rfl hS dJ0_coder_7d493_14
set_option maxHeartbeats 4000000 in
set_option maxRecDepth 100000 in
theorem c_jlen (i : Nat) (hi : i < 10) : CPT kk l yJ0_length_8abf5 wsJ0_length_8abf5 ({ frames := 1, cells := 0, slots := 0, locals := 20 } : Room) dC dI (wTys cI cD cJ) [.ref (kk.2.1 i)] [] (some (.int (nI (wLen.getD i 0)))) := by
  refine wk_enterPT (cc := cJ0_length_8abf5) (maxL := 1) (ret := some .int) (by decide) rfl (Nat.le_of_ble_eq_true rfl) ?_
  intro p e s m below meth c A Q ls hB hT hP hD hA hQ hl
  obtain ⟨hx, hb, hml, hr, hts, hown, hname, hlocks, hG⟩ := hB
  have hown : s.vm.findClass RJ0 = some m.cls := hown
  have hS : va_S A s.heap s.heap [] := va_S.rf
  have hl : lv_has ls 1 [(0, .ref (kk.2.1 i))] := hl
  refine lv_aload_n hx hb dJ0_length_8abf5_0 rfl (lv_at hl 0 rfl) ?_
  refine vk_getf (v := .ref (kk.2.2.1 i)) hx hb (hT.2.2.1.1 i hi).2.2.1 hS hown (hts (.fieldLink RJ0 9 "java/lang/String" "value" "[B") (by decide +kernel)) (fun _ h9 => h9) dJ0_length_8abf5_1 ?_
  refine va_tlen hx hb (hT.2.2.1.1 i hi).2.2.2 hS (v := nI (wLen.getD i 0)) rfl dJ0_length_8abf5_4 ?_
  refine lv_aload_n hx hb dJ0_length_8abf5_5 rfl (lv_at hl 0 rfl) ?_
  refine wk_callP (va_runV (As := []) (rest := [.int (nI (wLen.getD i 0))]) ⟨hx, hb, hml, hown, hts⟩ (c_jcoder l dC dI cI cD cJ kk i hi s.heap) (cwV 0 hts gJ0_length_8abf5_J0_coder_7d493 rfl rfl rfl (by decide +kernel) ⟨Nat.le_of_ble_eq_true rfl, Nat.le_of_ble_eq_true rfl⟩) (wk_preVK hG hP hD hT hS (hT.2.2.1.1 i hi).1 (fun _ h9 => h9.elim)) rfl rfl hl.1 rfl (lv_room (Nat.le_of_ble_eq_true rfl)) dJ0_length_8abf5_6 ⟨Nat.le_of_ble_eq_true rfl, Nat.le_of_ble_eq_true rfl⟩) hS (fun locs hS => ?_)
  refine lv_ishr hx hb dJ0_length_8abf5_9 ?_
  have e0 : nI (wLen.getD i 0) >>> ((0 : Int32) &&& 31) = nI (wLen.getD i 0) := by
    rw [pk_shrN (wlen_lt i) _ 0 (by decide)]
    simp
  rw [e0]
  exact wk_retPi hx hb hr hlocks hQ rfl rfl hS dJ0_length_8abf5_10
set_option maxHeartbeats 4000000 in
set_option maxRecDepth 100000 in
theorem c_jlat (i : Nat) (hi : i < 10) : CPT kk l yJ0_isLatin1_aae02 wsJ0_isLatin1_aae02 ({ frames := 0, cells := 0, slots := 0, locals := 0 } : Room) dC dI (wTys cI cD cJ) [.ref (kk.2.1 i)] [] (some (.int 1)) := by
  refine wk_enterPT (cc := cJ0_isLatin1_aae02) (maxL := 1) (ret := some .boolean) (by decide) rfl (Nat.le_of_ble_eq_true rfl) ?_
  intro p e s m below meth c A Q ls hB hT hP hD hA hQ hl
  obtain ⟨hx, hb, hml, hr, hts, hown, hname, hlocks, hG⟩ := hB
  have hown : s.vm.findClass RJ0 = some m.cls := hown
  have hS : va_S A s.heap s.heap [] := va_S.rf
  have hl : lv_has ls 1 [(0, .ref (kk.2.1 i))] := hl
  refine va_gets hx hb hT.2.2.2.2.1.1 hS hown (hts (.fieldLink RJ0 38 "java/lang/String" "COMPACT_STRINGS" "Z") (by decide +kernel)) (fun _ h9 => h9) dJ0_isLatin1_aae02_0 ?_
  refine lv_if_eq (tgt := 17) hx hb dJ0_isLatin1_aae02_3 (by decide) (fun c1 => absurd c1 (by decide)) (fun c1 => ?_)
  refine lv_aload_n hx hb dJ0_isLatin1_aae02_6 rfl (lv_at hl 0 rfl) ?_
  refine vk_getf (v := .int 0) hx hb (hT.2.2.1.1 i hi).2.1 hS hown (hts (.fieldLink RJ0 15 "java/lang/String" "coder" "B") (by decide +kernel)) (fun _ h9 => h9) dJ0_isLatin1_aae02_7 ?_
  refine lv_if_ne (tgt := 17) hx hb dJ0_isLatin1_aae02_10 (by decide) (fun c1 => absurd rfl c1) (fun c1 => ?_)
  refine lv_iconst (v := 1) hx hb dJ0_isLatin1_aae02_13 (by decide) ?_
  refine lv_goto (tgt := 18) hx hb dJ0_isLatin1_aae02_14 (by decide) ?_
  exact wk_retPi hx hb hr hlocks hQ rfl rfl hS dJ0_isLatin1_aae02_18
set_option maxHeartbeats 4000000 in
set_option maxRecDepth 100000 in
theorem c_jpre (i n : Int32) (bf : Value) (hbf : bf = .null ∨ ∃ a, bf = .ref a) (h0 : ¬ i < 0) (h1 : i < n) : CP l yJ3_checkIndex_8e157 wsJ3_checkIndex_8e157 ({ frames := 0, cells := 0, slots := 0, locals := 0 } : Room) dC dI (wTys cI cD cJ) [.int i, .int n, bf] [] (some (.int i)) := by
  refine wk_enterP (cc := cJ3_checkIndex_8e157) (maxL := 3) (ret := some .int) (by decide) rfl (by rcases hbf with rfl | ⟨a, rfl⟩ <;> exact Nat.le_of_ble_eq_true rfl) ?_
  intro p e s m below meth c A Q ls hB hP hD hA hQ hl
  obtain ⟨hx, hb, hml, hr, hts, hown, hname, hlocks, hG⟩ := hB
  have hown : s.vm.findClass RJ3 = some m.cls := hown
  have hS : va_S A s.heap s.heap [] := va_S.rf
  have hl : lv_has ls 3 [(0, .int i), (1, .int n)] := lv_sub hl [0, 1] (by rcases hbf with rfl | ⟨a, rfl⟩ <;> rfl)
  refine lv_iload_n hx hb dJ3_checkIndex_8e157_0 rfl (lv_at hl 0 rfl) ?_
  refine lv_if_lt (tgt := 9) hx hb dJ3_checkIndex_8e157_1 (by decide) (fun c1 => absurd c1 h0) (fun c1 => ?_)
  refine lv_iload_n hx hb dJ3_checkIndex_8e157_4 rfl (lv_at hl 0 rfl) ?_
  refine lv_iload_n hx hb dJ3_checkIndex_8e157_5 rfl (lv_at hl 1 rfl) ?_
  refine lv_icmp_lt (tgt := 16) hx hb dJ3_checkIndex_8e157_6 (by decide) (fun c2 => ?_) (fun c2 => absurd h1 c2)
  refine lv_iload_n hx hb dJ3_checkIndex_8e157_16 rfl (lv_at hl 0 rfl) ?_
  exact wk_retPi hx hb hr hlocks hQ rfl rfl hS dJ3_checkIndex_8e157_17
set_option maxHeartbeats 4000000 in
set_option maxRecDepth 100000 in
theorem c_jchk (i n : Int32) (h0 : ¬ i < 0) (h1 : i < n) : CPT kk l yJ0_checkIndex_df160 wsJ0_checkIndex_df160 ({ frames := 1, cells := 0, slots := 0, locals := 22 } : Room) dC dI (wTys cI cD cJ) [.int i, .int n] [] none := by
  refine wk_enterPT (cc := cJ0_checkIndex_df160) (maxL := 2) (ret := none) (by decide) rfl (Nat.le_of_ble_eq_true rfl) ?_
  intro p e s m below meth c A Q ls hB hT hP hD hA hQ hl
  obtain ⟨hx, hb, hml, hr, hts, hown, hname, hlocks, hG⟩ := hB
  have hown : s.vm.findClass RJ0 = some m.cls := hown
  have hS : va_S A s.heap s.heap [] := va_S.rf
  have hl : lv_has ls 2 [(0, .int i), (1, .int n)] := hl
  have hend : ∀ bf : Value, (bf = .null ∨ ∃ a, bf = .ref a) → W p l e ({ frames := 1, cells := 0, slots := 0, locals := 22 } : Room) s m ([.int i, .int n] : List Value).toArray below meth c s.heap [] 0 0 Q (F0 m 5 ls [bf, .int n, .int i]) := by
    intro bf hbf
    refine wk_callP (va_runS (As := [.int i, .int n, bf]) (rest := []) ⟨hx, hb, hml, hown, hts⟩ (c_jpre l dC dI cI cD cJ i n bf hbf h0 h1 s.heap) (va_cwS 3 hts gJ0_checkIndex_df160_J3_checkIndex_8e157 rfl rfl rfl (by decide +kernel) ⟨Nat.le_of_ble_eq_true rfl, Nat.le_of_ble_eq_true rfl⟩) (wk_preS hG hP hD [] rfl rfl) rfl rfl hl.1 rfl (lv_room (Nat.le_of_ble_eq_true rfl)) dJ0_checkIndex_df160_5 ⟨Nat.le_of_ble_eq_true rfl, Nat.le_of_ble_eq_true rfl⟩) hS (fun locs hS => ?_)
    refine lv_pop hx hb dJ0_checkIndex_df160_8 rfl ?_
    exact wk_retPv hx hb hr hlocks hQ rfl hS dJ0_checkIndex_df160_9
  refine lv_iload_n hx hb dJ0_checkIndex_df160_0 rfl (lv_at hl 0 rfl) ?_
  refine lv_iload_n hx hb dJ0_checkIndex_df160_1 rfl (lv_at hl 1 rfl) ?_
  rcases hT.2.2.2.2.1.2 with hz | ⟨t, hz⟩
  · refine va_gets hx hb hz hS hown (hts (.fieldLink RJ0 1053 "jdk/internal/util/Preconditions" "SIOOBE_FORMATTER" "Ljava/util/function/BiFunction;") (by decide +kernel)) (fun _ h9 => h9) dJ0_checkIndex_df160_2 ?_
    exact hend _ (Or.inl rfl)
  · refine va_gets hx hb hz hS hown (hts (.fieldLink RJ0 1053 "jdk/internal/util/Preconditions" "SIOOBE_FORMATTER" "Ljava/util/function/BiFunction;") (by decide +kernel)) (fun _ h9 => h9) dJ0_checkIndex_df160_2 ?_
    exact hend _ (Or.inr ⟨_, rfl⟩)
set_option maxHeartbeats 4000000 in
set_option maxRecDepth 100000 in
theorem c_jch1 (i : Nat) (hi : i < 10) (k v : Int32) (hv : chA i k = some v) : CPT kk l yJ1_charAt_3b067 wsJ1_charAt_3b067 ({ frames := 2, cells := 0, slots := 0, locals := 43 } : Room) dC dI (wTys cI cD cJ) [.ref (kk.2.2.1 i), .int k] [] (some (.int v)) := by
  refine wk_enterPT (cc := cJ1_charAt_3b067) (maxL := 2) (ret := some .char) (by decide) rfl (Nat.le_of_ble_eq_true rfl) ?_
  intro p e s m below meth c A Q ls hB hT hP hD hA hQ hl
  obtain ⟨hx, hb, hml, hr, hts, hown, hname, hlocks, hG⟩ := hB
  have hown : s.vm.findClass RJ1 = some m.cls := hown
  have hS : va_S A s.heap s.heap [] := va_S.rf
  have hl : lv_has ls 2 [(0, .ref (kk.2.2.1 i)), (1, .int k)] := hl
  obtain ⟨hin, hv⟩ := chA_some hv
  obtain ⟨j, hj, rfl⟩ := vp_in_of hin (wlen_lt i)
  have hjs : j < 2 ^ 31 := Nat.lt_trans hj (wlen_lt i)
  rw [nI_clamp hjs] at hv
  refine lv_iload_n hx hb dJ1_charAt_3b067_0 rfl (lv_at hl 1 rfl) ?_
  refine lv_aload_n hx hb dJ1_charAt_3b067_1 rfl (lv_at hl 0 rfl) ?_
  refine va_tlen hx hb (hT.2.2.1.1 i hi).2.2.2 hS (v := nI (wLen.getD i 0)) rfl dJ1_charAt_3b067_2 ?_
  refine wk_callP (va_runS (As := [.int (nI j), .int (nI (wLen.getD i 0))]) (rest := []) ⟨hx, hb, hml, hown, hts⟩ (c_jchk l dC dI cI cD cJ kk (nI j) (nI (wLen.getD i 0)) (nI_pos hjs) (nI_lt hj (wlen_lt i)) s.heap) (va_cwS 2 hts gJ1_charAt_3b067_J0_checkIndex_df160 rfl rfl rfl (by decide +kernel) ⟨Nat.le_of_ble_eq_true rfl, Nat.le_of_ble_eq_true rfl⟩) (wk_preST hG hP hD hT hS [] rfl rfl (fun _ h9 => h9.elim)) rfl rfl hl.1 rfl (lv_room (Nat.le_of_ble_eq_true rfl)) dJ1_charAt_3b067_3 ⟨Nat.le_of_ble_eq_true rfl, Nat.le_of_ble_eq_true rfl⟩) hS (fun locs hS => ?_)
  refine lv_aload_n hx hb dJ1_charAt_3b067_6 rfl (lv_at hl 0 rfl) ?_
  refine lv_iload_n hx hb dJ1_charAt_3b067_7 rfl (lv_at hl 1 rfl) ?_
  refine va_tb hx hb (hT.2.2.1.1 i hi).2.2.2 hS hin (v := .int ((wByt.getD i []).getD j 0)) (by rw [nI_clamp hjs]) dJ1_charAt_3b067_8 ?_
  refine lv_sipush (v := 255) hx hb dJ1_charAt_3b067_9 (by decide) ?_
  refine lv_iand hx hb dJ1_charAt_3b067_12 ?_
  refine lv_i2c (v := v) hx hb dJ1_charAt_3b067_13 (by rw [← hv]; exact (wchr_eq i hi j hj).1) ?_
  exact wk_retPi hx hb hr hlocks hQ (by rw [← hv]; exact (wchr_eq i hi j hj).2) rfl hS dJ1_charAt_3b067_14
set_option maxHeartbeats 4000000 in
set_option maxRecDepth 100000 in
theorem c_jchr (i : Nat) (hi : i < 10) (k v : Int32) (hv : chA i k = some v) : CPT kk l yJ0_charAt_5068e wsJ0_charAt_5068e ({ frames := 3, cells := 0, slots := 0, locals := 64 } : Room) dC dI (wTys cI cD cJ) [.ref (kk.2.1 i), .int k] [] (some (.int v)) := by
  refine wk_enterPT (cc := cJ0_charAt_5068e) (maxL := 2) (ret := some .char) (by decide) rfl (Nat.le_of_ble_eq_true rfl) ?_
  intro p e s m below meth c A Q ls hB hT hP hD hA hQ hl
  obtain ⟨hx, hb, hml, hr, hts, hown, hname, hlocks, hG⟩ := hB
  have hown : s.vm.findClass RJ0 = some m.cls := hown
  have hS : va_S A s.heap s.heap [] := va_S.rf
  have hl : lv_has ls 2 [(0, .ref (kk.2.1 i)), (1, .int k)] := hl
  refine lv_aload_n hx hb dJ0_charAt_5068e_0 rfl (lv_at hl 0 rfl) ?_
  refine wk_callP (va_runV (As := []) (rest := []) ⟨hx, hb, hml, hown, hts⟩ (c_jlat l dC dI cI cD cJ kk i hi s.heap) (cwV 0 hts gJ0_charAt_5068e_J0_isLatin1_aae02 rfl rfl rfl (by decide +kernel) ⟨Nat.le_of_ble_eq_true rfl, Nat.le_of_ble_eq_true rfl⟩) (wk_preVK hG hP hD hT hS (hT.2.2.1.1 i hi).1 (fun _ h9 => h9.elim)) rfl rfl hl.1 rfl (lv_room (Nat.le_of_ble_eq_true rfl)) dJ0_charAt_5068e_1 ⟨Nat.le_of_ble_eq_true rfl, Nat.le_of_ble_eq_true rfl⟩) hS (fun locs hS => ?_)
  refine lv_if_eq (tgt := 16) hx hb dJ0_charAt_5068e_4 (by decide) (fun c1 => absurd c1 (by decide)) (fun c1 => ?_)
  refine lv_aload_n hx hb dJ0_charAt_5068e_7 rfl (lv_at hl 0 rfl) ?_
  refine vk_getf (v := .ref (kk.2.2.1 i)) hx hb (hT.2.2.1.1 i hi).2.2.1 hS hown (hts (.fieldLink RJ0 9 "java/lang/String" "value" "[B") (by decide +kernel)) (fun _ h9 => h9) dJ0_charAt_5068e_8 ?_
  refine lv_iload_n hx hb dJ0_charAt_5068e_11 rfl (lv_at hl 1 rfl) ?_
  refine wk_callP (va_runS (As := [.ref (kk.2.2.1 i), .int k]) (rest := []) ⟨hx, hb, hml, hown, hts⟩ (c_jch1 l dC dI cI cD cJ kk i hi k v hv s.heap) (va_cwS 2 hts gJ0_charAt_5068e_J1_charAt_3b067 rfl rfl rfl (by decide +kernel) ⟨Nat.le_of_ble_eq_true rfl, Nat.le_of_ble_eq_true rfl⟩) (wk_preST hG hP hD hT hS [] rfl rfl (fun _ h9 => h9.elim)) rfl rfl hl.1 rfl (lv_room (Nat.le_of_ble_eq_true rfl)) dJ0_charAt_5068e_12 ⟨Nat.le_of_ble_eq_true rfl, Nat.le_of_ble_eq_true rfl⟩) hS (fun locs hS => ?_)
  obtain ⟨hin, hv⟩ := chA_some hv
  obtain ⟨j, hj, rfl⟩ := vp_in_of hin (wlen_lt i)
  have hjs : j < 2 ^ 31 := Nat.lt_trans hj (wlen_lt i)
  rw [nI_clamp hjs] at hv
  exact wk_retPi hx hb hr hlocks hQ (by rw [← hv]; exact (wchr_eq i hi j hj).2) rfl hS dJ0_charAt_5068e_15
end JDK
