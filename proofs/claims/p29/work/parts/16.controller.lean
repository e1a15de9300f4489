/-! PART 16: Controller -/
set_option maxHeartbeats 4000000 in
set_option maxRecDepth 100000 in
theorem c_J13_bitCount_95d88 (l : Launch) (dC : Nat → ClassId) (dI : Nat → Nat → Nat) (cI cD cJ : ClassId) (kk : wAd)  (p0 : Int64) (out : Int32) (hM : M_J13_bitCount_95d88 p0 = out) : CP l yJ13_bitCount_95d88 wsJ13_bitCount_95d88 ({ frames := 0, cells := 0, slots := 0, locals := 0 } : Room) dC dI (wTys cI cD cJ) [.long p0] ([] : va_W) (some (.int out)) := by
  refine wk_enterP (cc := cJ13_bitCount_95d88) (maxL := 2) (ret := (some .int)) (by decide) rfl (Nat.le_of_ble_eq_true rfl) ?_
  intro p e s m below meth c A Q ls hB hP hD hA hQ hl
  obtain ⟨hx, hb, hml, hr, hts, hown, hname, hlocks, hG⟩ := hB
  have hown : s.vm.findClass RJ13 = some m.cls := hown
  have hS : va_S A s.heap s.heap [] := va_S.rf
  have hl : lv_has ls 2 [(0, .long p0)] := hl
  generalize ([] : List Loc) = locs at hS ⊢
  unfold M_J13_bitCount_95d88 at hM
  refine lv_lload_n hx hb dJ13_bitCount_95d88_0 rfl (lv_at hl 0 rfl) ?_
  refine lv_lload_n hx hb dJ13_bitCount_95d88_1 rfl (lv_at hl 0 rfl) ?_
  refine lv_iconst (v := (1 : Int32)) hx hb dJ13_bitCount_95d88_2 (by decide) ?_
  refine lv_lushr hx hb dJ13_bitCount_95d88_3 rfl ?_
  refine lv_ldc2 (v := 6148914691236517205) hx hb hown (hts (.constantLong RJ13 314 (6148914691236517205)) (List.mem_of_getElem? (i := 1) rfl)) dJ13_bitCount_95d88_4 ?_
  refine lv_land hx hb dJ13_bitCount_95d88_7 ?_
  refine lv_lsub hx hb dJ13_bitCount_95d88_8 ?_
  refine lv_lstore_n (lv' := [(0, .long (p0 - ((((p0).toUInt64 >>> (((1 : Int32)).toInt64.toUInt64 &&& Int64.toUInt64 63)).toInt64) &&& (6148914691236517205 : Int64))))]) hx hb dJ13_bitCount_95d88_9 rfl hl (by decide) rfl (fun ls hl => ?_)
  refine lv_lload_n hx hb dJ13_bitCount_95d88_10 rfl (lv_at hl 0 rfl) ?_
  refine lv_ldc2 (v := 3689348814741910323) hx hb hown (hts (.constantLong RJ13 316 (3689348814741910323)) (List.mem_of_getElem? (i := 2) rfl)) dJ13_bitCount_95d88_11 ?_
  refine lv_land hx hb dJ13_bitCount_95d88_14 ?_
  refine lv_lload_n hx hb dJ13_bitCount_95d88_15 rfl (lv_at hl 0 rfl) ?_
  refine lv_iconst (v := (2 : Int32)) hx hb dJ13_bitCount_95d88_16 (by decide) ?_
  refine lv_lushr hx hb dJ13_bitCount_95d88_17 rfl ?_
  refine lv_ldc2 (v := 3689348814741910323) hx hb hown (hts (.constantLong RJ13 316 (3689348814741910323)) (List.mem_of_getElem? (i := 2) rfl)) dJ13_bitCount_95d88_18 ?_
  refine lv_land hx hb dJ13_bitCount_95d88_21 ?_
  refine lv_ladd hx hb dJ13_bitCount_95d88_22 ?_
  refine lv_lstore_n (lv' := [(0, .long (((p0 - ((((p0).toUInt64 >>> (((1 : Int32)).toInt64.toUInt64 &&& Int64.toUInt64 63)).toInt64) &&& (6148914691236517205 : Int64))) &&& (3689348814741910323 : Int64)) + (((((p0 - ((((p0).toUInt64 >>> (((1 : Int32)).toInt64.toUInt64 &&& Int64.toUInt64 63)).toInt64) &&& (6148914691236517205 : Int64)))).toUInt64 >>> (((2 : Int32)).toInt64.toUInt64 &&& Int64.toUInt64 63)).toInt64) &&& (3689348814741910323 : Int64))))]) hx hb dJ13_bitCount_95d88_23 rfl hl (by decide) rfl (fun ls hl => ?_)
  refine lv_lload_n hx hb dJ13_bitCount_95d88_24 rfl (lv_at hl 0 rfl) ?_
  refine lv_lload_n hx hb dJ13_bitCount_95d88_25 rfl (lv_at hl 0 rfl) ?_
  refine lv_iconst (v := (4 : Int32)) hx hb dJ13_bitCount_95d88_26 (by decide) ?_
  refine lv_lushr hx hb dJ13_bitCount_95d88_27 rfl ?_
  refine lv_ladd hx hb dJ13_bitCount_95d88_28 ?_
  refine lv_ldc2 (v := 1085102592571150095) hx hb hown (hts (.constantLong RJ13 318 (1085102592571150095)) (List.mem_of_getElem? (i := 3) rfl)) dJ13_bitCount_95d88_29 ?_
  refine lv_land hx hb dJ13_bitCount_95d88_32 ?_
  refine lv_lstore_n (lv' := [(0, .long (((((p0 - ((((p0).toUInt64 >>> (((1 : Int32)).toInt64.toUInt64 &&& Int64.toUInt64 63)).toInt64) &&& (6148914691236517205 : Int64))) &&& (3689348814741910323 : Int64)) + (((((p0 - ((((p0).toUInt64 >>> (((1 : Int32)).toInt64.toUInt64 &&& Int64.toUInt64 63)).toInt64) &&& (6148914691236517205 : Int64)))).toUInt64 >>> (((2 : Int32)).toInt64.toUInt64 &&& Int64.toUInt64 63)).toInt64) &&& (3689348814741910323 : Int64))) + ((((((p0 - ((((p0).toUInt64 >>> (((1 : Int32)).toInt64.toUInt64 &&& Int64.toUInt64 63)).toInt64) &&& (6148914691236517205 : Int64))) &&& (3689348814741910323 : Int64)) + (((((p0 - ((((p0).toUInt64 >>> (((1 : Int32)).toInt64.toUInt64 &&& Int64.toUInt64 63)).toInt64) &&& (6148914691236517205 : Int64)))).toUInt64 >>> (((2 : Int32)).toInt64.toUInt64 &&& Int64.toUInt64 63)).toInt64) &&& (3689348814741910323 : Int64)))).toUInt64 >>> (((4 : Int32)).toInt64.toUInt64 &&& Int64.toUInt64 63)).toInt64)) &&& (1085102592571150095 : Int64)))]) hx hb dJ13_bitCount_95d88_33 rfl hl (by decide) rfl (fun ls hl => ?_)
  refine lv_lload_n hx hb dJ13_bitCount_95d88_34 rfl (lv_at hl 0 rfl) ?_
  refine lv_lload_n hx hb dJ13_bitCount_95d88_35 rfl (lv_at hl 0 rfl) ?_
  refine lv_bipush (v := (8 : Int32)) hx hb dJ13_bitCount_95d88_36 (by decide) ?_
  refine lv_lushr hx hb dJ13_bitCount_95d88_38 rfl ?_
  refine lv_ladd hx hb dJ13_bitCount_95d88_39 ?_
  refine lv_lstore_n (lv' := [(0, .long ((((((p0 - ((((p0).toUInt64 >>> (((1 : Int32)).toInt64.toUInt64 &&& Int64.toUInt64 63)).toInt64) &&& (6148914691236517205 : Int64))) &&& (3689348814741910323 : Int64)) + (((((p0 - ((((p0).toUInt64 >>> (((1 : Int32)).toInt64.toUInt64 &&& Int64.toUInt64 63)).toInt64) &&& (6148914691236517205 : Int64)))).toUInt64 >>> (((2 : Int32)).toInt64.toUInt64 &&& Int64.toUInt64 63)).toInt64) &&& (3689348814741910323 : Int64))) + ((((((p0 - ((((p0).toUInt64 >>> (((1 : Int32)).toInt64.toUInt64 &&& Int64.toUInt64 63)).toInt64) &&& (6148914691236517205 : Int64))) &&& (3689348814741910323 : Int64)) + (((((p0 - ((((p0).toUInt64 >>> (((1 : Int32)).toInt64.toUInt64 &&& Int64.toUInt64 63)).toInt64) &&& (6148914691236517205 : Int64)))).toUInt64 >>> (((2 : Int32)).toInt64.toUInt64 &&& Int64.toUInt64 63)).toInt64) &&& (3689348814741910323 : Int64)))).toUInt64 >>> (((4 : Int32)).toInt64.toUInt64 &&& Int64.toUInt64 63)).toInt64)) &&& (1085102592571150095 : Int64)) + ((((((((p0 - ((((p0).toUInt64 >>> (((1 : Int32)).toInt64.toUInt64 &&& Int64.toUInt64 63)).toInt64) &&& (6148914691236517205 : Int64))) &&& (3689348814741910323 : Int64)) + (((((p0 - ((((p0).toUInt64 >>> (((1 : Int32)).toInt64.toUInt64 &&& Int64.toUInt64 63)).toInt64) &&& (6148914691236517205 : Int64)))).toUInt64 >>> (((2 : Int32)).toInt64.toUInt64 &&& Int64.toUInt64 63)).toInt64) &&& (3689348814741910323 : Int64))) + ((((((p0 - ((((p0).toUInt64 >>> (((1 : Int32)).toInt64.toUInt64 &&& Int64.toUInt64 63)).toInt64) &&& (6148914691236517205 : Int64))) &&& (3689348814741910323 : Int64)) + (((((p0 - ((((p0).toUInt64 >>> (((1 : Int32)).toInt64.toUInt64 &&& Int64.toUInt64 63)).toInt64) &&& (6148914691236517205 : Int64)))).toUInt64 >>> (((2 : Int32)).toInt64.toUInt64 &&& Int64.toUInt64 63)).toInt64) &&& (3689348814741910323 : Int64)))).toUInt64 >>> (((4 : Int32)).toInt64.toUInt64 &&& Int64.toUInt64 63)).toInt64)) &&& (1085102592571150095 : Int64))).toUInt64 >>> (((8 : Int32)).toInt64.toUInt64 &&& Int64.toUInt64 63)).toInt64)))]) hx hb dJ13_bitCount_95d88_40 rfl hl (by decide) rfl (fun ls hl => ?_)
  refine lv_lload_n hx hb dJ13_bitCount_95d88_41 rfl (lv_at hl 0 rfl) ?_
  refine lv_lload_n hx hb dJ13_bitCount_95d88_42 rfl (lv_at hl 0 rfl) ?_
  refine lv_bipush (v := (16 : Int32)) hx hb dJ13_bitCount_95d88_43 (by decide) ?_
  refine lv_lushr hx hb dJ13_bitCount_95d88_45 rfl ?_
  refine lv_ladd hx hb dJ13_bitCount_95d88_46 ?_
  refine lv_lstore_n (lv' := [(0, .long (((((((p0 - ((((p0).toUInt64 >>> (((1 : Int32)).toInt64.toUInt64 &&& Int64.toUInt64 63)).toInt64) &&& (6148914691236517205 : Int64))) &&& (3689348814741910323 : Int64)) + (((((p0 - ((((p0).toUInt64 >>> (((1 : Int32)).toInt64.toUInt64 &&& Int64.toUInt64 63)).toInt64) &&& (6148914691236517205 : Int64)))).toUInt64 >>> (((2 : Int32)).toInt64.toUInt64 &&& Int64.toUInt64 63)).toInt64) &&& (3689348814741910323 : Int64))) + ((((((p0 - ((((p0).toUInt64 >>> (((1 : Int32)).toInt64.toUInt64 &&& Int64.toUInt64 63)).toInt64) &&& (6148914691236517205 : Int64))) &&& (3689348814741910323 : Int64)) + (((((p0 - ((((p0).toUInt64 >>> (((1 : Int32)).toInt64.toUInt64 &&& Int64.toUInt64 63)).toInt64) &&& (6148914691236517205 : Int64)))).toUInt64 >>> (((2 : Int32)).toInt64.toUInt64 &&& Int64.toUInt64 63)).toInt64) &&& (3689348814741910323 : Int64)))).toUInt64 >>> (((4 : Int32)).toInt64.toUInt64 &&& Int64.toUInt64 63)).toInt64)) &&& (1085102592571150095 : Int64)) + ((((((((p0 - ((((p0).toUInt64 >>> (((1 : Int32)).toInt64.toUInt64 &&& Int64.toUInt64 63)).toInt64) &&& (6148914691236517205 : Int64))) &&& (3689348814741910323 : Int64)) + (((((p0 - ((((p0).toUInt64 >>> (((1 : Int32)).toInt64.toUInt64 &&& Int64.toUInt64 63)).toInt64) &&& (6148914691236517205 : Int64)))).toUInt64 >>> (((2 : Int32)).toInt64.toUInt64 &&& Int64.toUInt64 63)).toInt64) &&& (3689348814741910323 : Int64))) + ((((((p0 - ((((p0).toUInt64 >>> (((1 : Int32)).toInt64.toUInt64 &&& Int64.toUInt64 63)).toInt64) &&& (6148914691236517205 : Int64))) &&& (3689348814741910323 : Int64)) + (((((p0 - ((((p0).toUInt64 >>> (((1 : Int32)).toInt64.toUInt64 &&& Int64.toUInt64 63)).toInt64) &&& (6148914691236517205 : Int64)))).toUInt64 >>> (((2 : Int32)).toInt64.toUInt64 &&& Int64.toUInt64 63)).toInt64) &&& (3689348814741910323 : Int64)))).toUInt64 >>> (((4 : Int32)).toInt64.toUInt64 &&& Int64.toUInt64 63)).toInt64)) &&& (1085102592571150095 : Int64))).toUInt64 >>> (((8 : Int32)).toInt64.toUInt64 &&& Int64.toUInt64 63)).toInt64)) + (((((((((p0 - ((((p0).toUInt64 >>> (((1 : Int32)).toInt64.toUInt64 &&& Int64.toUInt64 63)).toInt64) &&& (6148914691236517205 : Int64))) &&& (3689348814741910323 : Int64)) + (((((p0 - ((((p0).toUInt64 >>> (((1 : Int32)).toInt64.toUInt64 &&& Int64.toUInt64 63)).toInt64) &&& (6148914691236517205 : Int64)))).toUInt64 >>> (((2 : Int32)).toInt64.toUInt64 &&& Int64.toUInt64 63)).toInt64) &&& (3689348814741910323 : Int64))) + ((((((p0 - ((((p0).toUInt64 >>> (((1 : Int32)).toInt64.toUInt64 &&& Int64.toUInt64 63)).toInt64) &&& (6148914691236517205 : Int64))) &&& (3689348814741910323 : Int64)) + (((((p0 - ((((p0).toUInt64 >>> (((1 : Int32)).toInt64.toUInt64 &&& Int64.toUInt64 63)).toInt64) &&& (6148914691236517205 : Int64)))).toUInt64 >>> (((2 : Int32)).toInt64.toUInt64 &&& Int64.toUInt64 63)).toInt64) &&& (3689348814741910323 : Int64)))).toUInt64 >>> (((4 : Int32)).toInt64.toUInt64 &&& Int64.toUInt64 63)).toInt64)) &&& (1085102592571150095 : Int64)) + ((((((((p0 - ((((p0).toUInt64 >>> (((1 : Int32)).toInt64.toUInt64 &&& Int64.toUInt64 63)).toInt64) &&& (6148914691236517205 : Int64))) &&& (3689348814741910323 : Int64)) + (((((p0 - ((((p0).toUInt64 >>> (((1 : Int32)).toInt64.toUInt64 &&& Int64.toUInt64 63)).toInt64) &&& (6148914691236517205 : Int64)))).toUInt64 >>> (((2 : Int32)).toInt64.toUInt64 &&& Int64.toUInt64 63)).toInt64) &&& (3689348814741910323 : Int64))) + ((((((p0 - ((((p0).toUInt64 >>> (((1 : Int32)).toInt64.toUInt64 &&& Int64.toUInt64 63)).toInt64) &&& (6148914691236517205 : Int64))) &&& (3689348814741910323 : Int64)) + (((((p0 - ((((p0).toUInt64 >>> (((1 : Int32)).toInt64.toUInt64 &&& Int64.toUInt64 63)).toInt64) &&& (6148914691236517205 : Int64)))).toUInt64 >>> (((2 : Int32)).toInt64.toUInt64 &&& Int64.toUInt64 63)).toInt64) &&& (3689348814741910323 : Int64)))).toUInt64 >>> (((4 : Int32)).toInt64.toUInt64 &&& Int64.toUInt64 63)).toInt64)) &&& (1085102592571150095 : Int64))).toUInt64 >>> (((8 : Int32)).toInt64.toUInt64 &&& Int64.toUInt64 63)).toInt64))).toUInt64 >>> (((16 : Int32)).toInt64.toUInt64 &&& Int64.toUInt64 63)).toInt64)))]) hx hb dJ13_bitCount_95d88_47 rfl hl (by decide) rfl (fun ls hl => ?_)
  refine lv_lload_n hx hb dJ13_bitCount_95d88_48 rfl (lv_at hl 0 rfl) ?_
  refine lv_lload_n hx hb dJ13_bitCount_95d88_49 rfl (lv_at hl 0 rfl) ?_
  refine lv_bipush (v := (32 : Int32)) hx hb dJ13_bitCount_95d88_50 (by decide) ?_
  refine lv_lushr hx hb dJ13_bitCount_95d88_52 rfl ?_
  refine lv_ladd hx hb dJ13_bitCount_95d88_53 ?_
  refine lv_lstore_n (lv' := [(0, .long ((((((((p0 - ((((p0).toUInt64 >>> (((1 : Int32)).toInt64.toUInt64 &&& Int64.toUInt64 63)).toInt64) &&& (6148914691236517205 : Int64))) &&& (3689348814741910323 : Int64)) + (((((p0 - ((((p0).toUInt64 >>> (((1 : Int32)).toInt64.toUInt64 &&& Int64.toUInt64 63)).toInt64) &&& (6148914691236517205 : Int64)))).toUInt64 >>> (((2 : Int32)).toInt64.toUInt64 &&& Int64.toUInt64 63)).toInt64) &&& (3689348814741910323 : Int64))) + ((((((p0 - ((((p0).toUInt64 >>> (((1 : Int32)).toInt64.toUInt64 &&& Int64.toUInt64 63)).toInt64) &&& (6148914691236517205 : Int64))) &&& (3689348814741910323 : Int64)) + (((((p0 - ((((p0).toUInt64 >>> (((1 : Int32)).toInt64.toUInt64 &&& Int64.toUInt64 63)).toInt64) &&& (6148914691236517205 : Int64)))).toUInt64 >>> (((2 : Int32)).toInt64.toUInt64 &&& Int64.toUInt64 63)).toInt64) &&& (3689348814741910323 : Int64)))).toUInt64 >>> (((4 : Int32)).toInt64.toUInt64 &&& Int64.toUInt64 63)).toInt64)) &&& (1085102592571150095 : Int64)) + ((((((((p0 - ((((p0).toUInt64 >>> (((1 : Int32)).toInt64.toUInt64 &&& Int64.toUInt64 63)).toInt64) &&& (6148914691236517205 : Int64))) &&& (3689348814741910323 : Int64)) + (((((p0 - ((((p0).toUInt64 >>> (((1 : Int32)).toInt64.toUInt64 &&& Int64.toUInt64 63)).toInt64) &&& (6148914691236517205 : Int64)))).toUInt64 >>> (((2 : Int32)).toInt64.toUInt64 &&& Int64.toUInt64 63)).toInt64) &&& (3689348814741910323 : Int64))) + ((((((p0 - ((((p0).toUInt64 >>> (((1 : Int32)).toInt64.toUInt64 &&& Int64.toUInt64 63)).toInt64) &&& (6148914691236517205 : Int64))) &&& (3689348814741910323 : Int64)) + (((((p0 - ((((p0).toUInt64 >>> (((1 : Int32)).toInt64.toUInt64 &&& Int64.toUInt64 63)).toInt64) &&& (6148914691236517205 : Int64)))).toUInt64 >>> (((2 : Int32)).toInt64.toUInt64 &&& Int64.toUInt64 63)).toInt64) &&& (3689348814741910323 : Int64)))).toUInt64 >>> (((4 : Int32)).toInt64.toUInt64 &&& Int64.toUInt64 63)).toInt64)) &&& (1085102592571150095 : Int64))).toUInt64 >>> (((8 : Int32)).toInt64.toUInt64 &&& Int64.toUInt64 63)).toInt64)) + (((((((((p0 - ((((p0).toUInt64 >>> (((1 : Int32)).toInt64.toUInt64 &&& Int64.toUInt64 63)).toInt64) &&& (6148914691236517205 : Int64))) &&& (3689348814741910323 : Int64)) + (((((p0 - ((((p0).toUInt64 >>> (((1 : Int32)).toInt64.toUInt64 &&& Int64.toUInt64 63)).toInt64) &&& (6148914691236517205 : Int64)))).toUInt64 >>> (((2 : Int32)).toInt64.toUInt64 &&& Int64.toUInt64 63)).toInt64) &&& (3689348814741910323 : Int64))) + ((((((p0 - ((((p0).toUInt64 >>> (((1 : Int32)).toInt64.toUInt64 &&& Int64.toUInt64 63)).toInt64) &&& (6148914691236517205 : Int64))) &&& (3689348814741910323 : Int64)) + (((((p0 - ((((p0).toUInt64 >>> (((1 : Int32)).toInt64.toUInt64 &&& Int64.toUInt64 63)).toInt64) &&& (6148914691236517205 : Int64)))).toUInt64 >>> (((2 : Int32)).toInt64.toUInt64 &&& Int64.toUInt64 63)).toInt64) &&& (3689348814741910323 : Int64)))).toUInt64 >>> (((4 : Int32)).toInt64.toUInt64 &&& Int64.toUInt64 63)).toInt64)) &&& (1085102592571150095 : Int64)) + ((((((((p0 - ((((p0).toUInt64 >>> (((1 : Int32)).toInt64.toUInt64 &&& Int64.toUInt64 63)).toInt64) &&& (6148914691236517205 : Int64))) &&& (3689348814741910323 : Int64)) + (((((p0 - ((((p0).toUInt64 >>> (((1 : Int32)).toInt64.toUInt64 &&& Int64.toUInt64 63)).toInt64) &&& (6148914691236517205 : Int64)))).toUInt64 >>> (((2 : Int32)).toInt64.toUInt64 &&& Int64.toUInt64 63)).toInt64) &&& (3689348814741910323 : Int64))) + ((((((p0 - ((((p0).toUInt64 >>> (((1 : Int32)).toInt64.toUInt64 &&& Int64.toUInt64 63)).toInt64) &&& (6148914691236517205 : Int64))) &&& (3689348814741910323 : Int64)) + (((((p0 - ((((p0).toUInt64 >>> (((1 : Int32)).toInt64.toUInt64 &&& Int64.toUInt64 63)).toInt64) &&& (6148914691236517205 : Int64)))).toUInt64 >>> (((2 : Int32)).toInt64.toUInt64 &&& Int64.toUInt64 63)).toInt64) &&& (3689348814741910323 : Int64)))).toUInt64 >>> (((4 : Int32)).toInt64.toUInt64 &&& Int64.toUInt64 63)).toInt64)) &&& (1085102592571150095 : Int64))).toUInt64 >>> (((8 : Int32)).toInt64.toUInt64 &&& Int64.toUInt64 63)).toInt64))).toUInt64 >>> (((16 : Int32)).toInt64.toUInt64 &&& Int64.toUInt64 63)).toInt64)) + ((((((((((p0 - ((((p0).toUInt64 >>> (((1 : Int32)).toInt64.toUInt64 &&& Int64.toUInt64 63)).toInt64) &&& (6148914691236517205 : Int64))) &&& (3689348814741910323 : Int64)) + (((((p0 - ((((p0).toUInt64 >>> (((1 : Int32)).toInt64.toUInt64 &&& Int64.toUInt64 63)).toInt64) &&& (6148914691236517205 : Int64)))).toUInt64 >>> (((2 : Int32)).toInt64.toUInt64 &&& Int64.toUInt64 63)).toInt64) &&& (3689348814741910323 : Int64))) + ((((((p0 - ((((p0).toUInt64 >>> (((1 : Int32)).toInt64.toUInt64 &&& Int64.toUInt64 63)).toInt64) &&& (6148914691236517205 : Int64))) &&& (3689348814741910323 : Int64)) + (((((p0 - ((((p0).toUInt64 >>> (((1 : Int32)).toInt64.toUInt64 &&& Int64.toUInt64 63)).toInt64) &&& (6148914691236517205 : Int64)))).toUInt64 >>> (((2 : Int32)).toInt64.toUInt64 &&& Int64.toUInt64 63)).toInt64) &&& (3689348814741910323 : Int64)))).toUInt64 >>> (((4 : Int32)).toInt64.toUInt64 &&& Int64.toUInt64 63)).toInt64)) &&& (1085102592571150095 : Int64)) + ((((((((p0 - ((((p0).toUInt64 >>> (((1 : Int32)).toInt64.toUInt64 &&& Int64.toUInt64 63)).toInt64) &&& (6148914691236517205 : Int64))) &&& (3689348814741910323 : Int64)) + (((((p0 - ((((p0).toUInt64 >>> (((1 : Int32)).toInt64.toUInt64 &&& Int64.toUInt64 63)).toInt64) &&& (6148914691236517205 : Int64)))).toUInt64 >>> (((2 : Int32)).toInt64.toUInt64 &&& Int64.toUInt64 63)).toInt64) &&& (3689348814741910323 : Int64))) + ((((((p0 - ((((p0).toUInt64 >>> (((1 : Int32)).toInt64.toUInt64 &&& Int64.toUInt64 63)).toInt64) &&& (6148914691236517205 : Int64))) &&& (3689348814741910323 : Int64)) + (((((p0 - ((((p0).toUInt64 >>> (((1 : Int32)).toInt64.toUInt64 &&& Int64.toUInt64 63)).toInt64) &&& (6148914691236517205 : Int64)))).toUInt64 >>> (((2 : Int32)).toInt64.toUInt64 &&& Int64.toUInt64 63)).toInt64) &&& (3689348814741910323 : Int64)))).toUInt64 >>> (((4 : Int32)).toInt64.toUInt64 &&& Int64.toUInt64 63)).toInt64)) &&& (1085102592571150095 : Int64))).toUInt64 >>> (((8 : Int32)).toInt64.toUInt64 &&& Int64.toUInt64 63)).toInt64)) + (((((((((p0 - ((((p0).toUInt64 >>> (((1 : Int32)).toInt64.toUInt64 &&& Int64.toUInt64 63)).toInt64) &&& (6148914691236517205 : Int64))) &&& (3689348814741910323 : Int64)) + (((((p0 - ((((p0).toUInt64 >>> (((1 : Int32)).toInt64.toUInt64 &&& Int64.toUInt64 63)).toInt64) &&& (6148914691236517205 : Int64)))).toUInt64 >>> (((2 : Int32)).toInt64.toUInt64 &&& Int64.toUInt64 63)).toInt64) &&& (3689348814741910323 : Int64))) + ((((((p0 - ((((p0).toUInt64 >>> (((1 : Int32)).toInt64.toUInt64 &&& Int64.toUInt64 63)).toInt64) &&& (6148914691236517205 : Int64))) &&& (3689348814741910323 : Int64)) + (((((p0 - ((((p0).toUInt64 >>> (((1 : Int32)).toInt64.toUInt64 &&& Int64.toUInt64 63)).toInt64) &&& (6148914691236517205 : Int64)))).toUInt64 >>> (((2 : Int32)).toInt64.toUInt64 &&& Int64.toUInt64 63)).toInt64) &&& (3689348814741910323 : Int64)))).toUInt64 >>> (((4 : Int32)).toInt64.toUInt64 &&& Int64.toUInt64 63)).toInt64)) &&& (1085102592571150095 : Int64)) + ((((((((p0 - ((((p0).toUInt64 >>> (((1 : Int32)).toInt64.toUInt64 &&& Int64.toUInt64 63)).toInt64) &&& (6148914691236517205 : Int64))) &&& (3689348814741910323 : Int64)) + (((((p0 - ((((p0).toUInt64 >>> (((1 : Int32)).toInt64.toUInt64 &&& Int64.toUInt64 63)).toInt64) &&& (6148914691236517205 : Int64)))).toUInt64 >>> (((2 : Int32)).toInt64.toUInt64 &&& Int64.toUInt64 63)).toInt64) &&& (3689348814741910323 : Int64))) + ((((((p0 - ((((p0).toUInt64 >>> (((1 : Int32)).toInt64.toUInt64 &&& Int64.toUInt64 63)).toInt64) &&& (6148914691236517205 : Int64))) &&& (3689348814741910323 : Int64)) + (((((p0 - ((((p0).toUInt64 >>> (((1 : Int32)).toInt64.toUInt64 &&& Int64.toUInt64 63)).toInt64) &&& (6148914691236517205 : Int64)))).toUInt64 >>> (((2 : Int32)).toInt64.toUInt64 &&& Int64.toUInt64 63)).toInt64) &&& (3689348814741910323 : Int64)))).toUInt64 >>> (((4 : Int32)).toInt64.toUInt64 &&& Int64.toUInt64 63)).toInt64)) &&& (1085102592571150095 : Int64))).toUInt64 >>> (((8 : Int32)).toInt64.toUInt64 &&& Int64.toUInt64 63)).toInt64))).toUInt64 >>> (((16 : Int32)).toInt64.toUInt64 &&& Int64.toUInt64 63)).toInt64))).toUInt64 >>> (((32 : Int32)).toInt64.toUInt64 &&& Int64.toUInt64 63)).toInt64)))]) hx hb dJ13_bitCount_95d88_54 rfl hl (by decide) rfl (fun ls hl => ?_)
  refine lv_lload_n hx hb dJ13_bitCount_95d88_55 rfl (lv_at hl 0 rfl) ?_
  refine lv_l2i hx hb dJ13_bitCount_95d88_56 rfl ?_
  refine lv_bipush (v := (127 : Int32)) hx hb dJ13_bitCount_95d88_57 (by decide) ?_
  refine lv_iand hx hb dJ13_bitCount_95d88_59 ?_
  subst hM
  exact wk_retPi hx hb hr hlocks hQ rfl rfl hS dJ13_bitCount_95d88_60
set_option maxHeartbeats 4000000 in
set_option maxRecDepth 100000 in
theorem c_X2_become (l : Launch) (dC : Nat → ClassId) (dI : Nat → Nat → Nat) (cI cD cJ : ClassId) (kk : wAd) (a : Nat) (a1 : Nat) (x : CS) (x1 : CS) (out : CS) (hM : M_X2_become x x1 = out) : CM l yX2_become wsX2_become ({ frames := 0, cells := 0, slots := 0, locals := 0 } : Room) dC dI (wTys cI cD cJ) [.ref a, .ref a1] (wCtl a x ++ wCtl a1 x1) none (wCtl a out ++ wCtl a1 x1) 0 0 := by
  refine wk_enterM (cc := cX2_become) (maxL := 2) (ret := none) (by decide) rfl (Nat.le_of_ble_eq_true rfl) ?_
  intro p e s m below meth c A Q ls hB hA hP hD hQ hl
  obtain ⟨hx, hb, hml, hr, hts, hown, hname, hlocks, hG⟩ := hB
  have hown : s.vm.findClass RX2 = some m.cls := hown
  have hS : va_S A s.heap s.heap [] := va_S.rf
  have hl : lv_has ls 2 [(0, .ref a), (1, .ref a1)] := hl
  have inX2 : ∀ w ∈ wsX20, w ∈ wsX2_become := fun _ h => List.mem_cons_of_mem _ (List.mem_append_right _ h)
  obtain ⟨H, hH⟩ : ∃ z, z = s.heap := ⟨_, rfl⟩
  have hP : va_P (dC, dI) vwCl (wCtl a x ++ wCtl a1 x1) H := by rw [hH]; exact hP
  have hS : va_S A s.heap H [] := by rw [hH]; exact hS
  refine wk_at hH ?_
  generalize ([] : List Loc) = locs at hS ⊢
  unfold M_X2_become at hM
  refine lv_aload_n hx hb dX2_become_0 rfl (lv_at hl 0 rfl) ?_
  refine lv_aload_n hx hb dX2_become_1 rfl (lv_at hl 1 rfl) ?_
  refine va_get (D := (dC, dI)) (ci := 1) (v := .int (zI (cs_aw x1))) (C := RX2) (T := TX2) (N := 8) hx hb hts inX2 hown hG.1 hP 1 rfl rfl 0 (by decide) (hts (.fieldLink RX2 7 "WokenDrive$Controller" "awake" "Z") (List.mem_of_getElem? (i := 1) rfl)) (fun _ h9 => h9) rfl dX2_become_2 ?_
  obtain ⟨y_1, hy_1, hM⟩ := tbE hM
  refine va_put (D := (dC, dI)) (ci := 1) (v := .int (zI (cs_aw x1))) (ty := .boolean) (C := RX2) (T := TX2) (N := 8) hx hb hts inX2 tyX2 tyX2_ok nmX2 hown hG.1 hP hD hS 0 rfl rfl 0 (by decide) (hts (.fieldLink RX2 7 "WokenDrive$Controller" "awake" "Z") (List.mem_of_getElem? (i := 1) rfl)) (fun _ h9 => h9) rfl (by decide +kernel) (zI_nar _) (zI_fit _) (Nat.le_of_ble_eq_true rfl) dX2_become_5 (fun H locs hP hD hS => ?_)
  have hP : va_P (dC, dI) vwCl (wCtl a y_1 ++ wCtl a1 x1) H := by rw [hy_1]; exact hP
  have hD : va_D A (wCtl a y_1 ++ wCtl a1 x1) := by rw [hy_1]; exact hD
  refine lv_aload_n hx hb dX2_become_8 rfl (lv_at hl 0 rfl) ?_
  refine lv_aload_n hx hb dX2_become_9 rfl (lv_at hl 1 rfl) ?_
  refine va_get (D := (dC, dI)) (ci := 1) (v := .int (cs_delay x1)) (C := RX2) (T := TX2) (N := 8) hx hb hts inX2 hown hG.1 hP 1 rfl rfl 1 (by decide) (hts (.fieldLink RX2 13 "WokenDrive$Controller" "delay" "I") (List.mem_of_getElem? (i := 2) rfl)) (fun _ h9 => h9) rfl dX2_become_10 ?_
  obtain ⟨y_2, hy_2, hM⟩ := tbE hM
  refine va_put (D := (dC, dI)) (ci := 1) (v := .int (cs_delay x1)) (ty := .int) (C := RX2) (T := TX2) (N := 8) hx hb hts inX2 tyX2 tyX2_ok nmX2 hown hG.1 hP hD hS 0 rfl rfl 1 (by decide) (hts (.fieldLink RX2 13 "WokenDrive$Controller" "delay" "I") (List.mem_of_getElem? (i := 2) rfl)) (fun _ h9 => h9) rfl (by decide +kernel) rfl rfl (Nat.le_of_ble_eq_true rfl) dX2_become_13 (fun H locs hP hD hS => ?_)
  have hP : va_P (dC, dI) vwCl (wCtl a y_2 ++ wCtl a1 x1) H := by rw [hy_2]; exact hP
  have hD : va_D A (wCtl a y_2 ++ wCtl a1 x1) := by rw [hy_2]; exact hD
  refine lv_aload_n hx hb dX2_become_16 rfl (lv_at hl 0 rfl) ?_
  refine lv_aload_n hx hb dX2_become_17 rfl (lv_at hl 1 rfl) ?_
  refine va_get (D := (dC, dI)) (ci := 1) (v := .int (cs_alarm x1)) (C := RX2) (T := TX2) (N := 8) hx hb hts inX2 hown hG.1 hP 1 rfl rfl 2 (by decide) (hts (.fieldLink RX2 17 "WokenDrive$Controller" "alarm" "I") (List.mem_of_getElem? (i := 3) rfl)) (fun _ h9 => h9) rfl dX2_become_18 ?_
  obtain ⟨y_3, hy_3, hM⟩ := tbE hM
  refine va_put (D := (dC, dI)) (ci := 1) (v := .int (cs_alarm x1)) (ty := .int) (C := RX2) (T := TX2) (N := 8) hx hb hts inX2 tyX2 tyX2_ok nmX2 hown hG.1 hP hD hS 0 rfl rfl 2 (by decide) (hts (.fieldLink RX2 17 "WokenDrive$Controller" "alarm" "I") (List.mem_of_getElem? (i := 3) rfl)) (fun _ h9 => h9) rfl (by decide +kernel) rfl rfl (Nat.le_of_ble_eq_true rfl) dX2_become_21 (fun H locs hP hD hS => ?_)
  have hP : va_P (dC, dI) vwCl (wCtl a y_3 ++ wCtl a1 x1) H := by rw [hy_3]; exact hP
  have hD : va_D A (wCtl a y_3 ++ wCtl a1 x1) := by rw [hy_3]; exact hD
  refine lv_aload_n hx hb dX2_become_24 rfl (lv_at hl 0 rfl) ?_
  refine lv_aload_n hx hb dX2_become_25 rfl (lv_at hl 1 rfl) ?_
  refine va_get (D := (dC, dI)) (ci := 1) (v := .long (cs_mail x1)) (C := RX2) (T := TX2) (N := 8) hx hb hts inX2 hown hG.1 hP 1 rfl rfl 3 (by decide) (hts (.fieldLink RX2 20 "WokenDrive$Controller" "mailbox" "J") (List.mem_of_getElem? (i := 4) rfl)) (fun _ h9 => h9) rfl dX2_become_26 ?_
  obtain ⟨y_4, hy_4, hM⟩ := tbE hM
  refine va_put (D := (dC, dI)) (ci := 1) (v := .long (cs_mail x1)) (ty := .long) (C := RX2) (T := TX2) (N := 8) hx hb hts inX2 tyX2 tyX2_ok nmX2 hown hG.1 hP hD hS 0 rfl rfl 3 (by decide) (hts (.fieldLink RX2 20 "WokenDrive$Controller" "mailbox" "J") (List.mem_of_getElem? (i := 4) rfl)) (fun _ h9 => h9) rfl (by decide +kernel) rfl rfl (Nat.le_of_ble_eq_true rfl) dX2_become_29 (fun H locs hP hD hS => ?_)
  have hP : va_P (dC, dI) vwCl (wCtl a y_4 ++ wCtl a1 x1) H := by rw [hy_4]; exact hP
  have hD : va_D A (wCtl a y_4 ++ wCtl a1 x1) := by rw [hy_4]; exact hD
  refine lv_aload_n hx hb dX2_become_32 rfl (lv_at hl 0 rfl) ?_
  refine lv_aload_n hx hb dX2_become_33 rfl (lv_at hl 1 rfl) ?_
  refine va_get (D := (dC, dI)) (ci := 1) (v := .int (cs_done x1)) (C := RX2) (T := TX2) (N := 8) hx hb hts inX2 hown hG.1 hP 1 rfl rfl 4 (by decide) (hts (.fieldLink RX2 24 "WokenDrive$Controller" "done" "I") (List.mem_of_getElem? (i := 5) rfl)) (fun _ h9 => h9) rfl dX2_become_34 ?_
  obtain ⟨y_5, hy_5, hM⟩ := tbE hM
  refine va_put (D := (dC, dI)) (ci := 1) (v := .int (cs_done x1)) (ty := .int) (C := RX2) (T := TX2) (N := 8) hx hb hts inX2 tyX2 tyX2_ok nmX2 hown hG.1 hP hD hS 0 rfl rfl 4 (by decide) (hts (.fieldLink RX2 24 "WokenDrive$Controller" "done" "I") (List.mem_of_getElem? (i := 5) rfl)) (fun _ h9 => h9) rfl (by decide +kernel) rfl rfl (Nat.le_of_ble_eq_true rfl) dX2_become_37 (fun H locs hP hD hS => ?_)
  have hP : va_P (dC, dI) vwCl (wCtl a y_5 ++ wCtl a1 x1) H := by rw [hy_5]; exact hP
  have hD : va_D A (wCtl a y_5 ++ wCtl a1 x1) := by rw [hy_5]; exact hD
  refine lv_aload_n hx hb dX2_become_40 rfl (lv_at hl 0 rfl) ?_
  refine lv_aload_n hx hb dX2_become_41 rfl (lv_at hl 1 rfl) ?_
  refine va_get (D := (dC, dI)) (ci := 1) (v := .int (cs_fin x1)) (C := RX2) (T := TX2) (N := 8) hx hb hts inX2 hown hG.1 hP 1 rfl rfl 5 (by decide) (hts (.fieldLink RX2 27 "WokenDrive$Controller" "finished" "I") (List.mem_of_getElem? (i := 6) rfl)) (fun _ h9 => h9) rfl dX2_become_42 ?_
  obtain ⟨y_6, hy_6, hM⟩ := tbE hM
  refine va_put (D := (dC, dI)) (ci := 1) (v := .int (cs_fin x1)) (ty := .int) (C := RX2) (T := TX2) (N := 8) hx hb hts inX2 tyX2 tyX2_ok nmX2 hown hG.1 hP hD hS 0 rfl rfl 5 (by decide) (hts (.fieldLink RX2 27 "WokenDrive$Controller" "finished" "I") (List.mem_of_getElem? (i := 6) rfl)) (fun _ h9 => h9) rfl (by decide +kernel) rfl rfl (Nat.le_of_ble_eq_true rfl) dX2_become_45 (fun H locs hP hD hS => ?_)
  have hP : va_P (dC, dI) vwCl (wCtl a y_6 ++ wCtl a1 x1) H := by rw [hy_6]; exact hP
  have hD : va_D A (wCtl a y_6 ++ wCtl a1 x1) := by rw [hy_6]; exact hD
  refine lv_aload_n hx hb dX2_become_48 rfl (lv_at hl 0 rfl) ?_
  refine lv_aload_n hx hb dX2_become_49 rfl (lv_at hl 1 rfl) ?_
  refine va_get (D := (dC, dI)) (ci := 1) (v := .int (cs_qua x1)) (C := RX2) (T := TX2) (N := 8) hx hb hts inX2 hown hG.1 hP 1 rfl rfl 6 (by decide) (hts (.fieldLink RX2 30 "WokenDrive$Controller" "quarrels" "I") (List.mem_of_getElem? (i := 7) rfl)) (fun _ h9 => h9) rfl dX2_become_50 ?_
  obtain ⟨y_7, hy_7, hM⟩ := tbE hM
  refine va_put (D := (dC, dI)) (ci := 1) (v := .int (cs_qua x1)) (ty := .int) (C := RX2) (T := TX2) (N := 8) hx hb hts inX2 tyX2 tyX2_ok nmX2 hown hG.1 hP hD hS 0 rfl rfl 6 (by decide) (hts (.fieldLink RX2 30 "WokenDrive$Controller" "quarrels" "I") (List.mem_of_getElem? (i := 7) rfl)) (fun _ h9 => h9) rfl (by decide +kernel) rfl rfl (Nat.le_of_ble_eq_true rfl) dX2_become_53 (fun H locs hP hD hS => ?_)
  have hP : va_P (dC, dI) vwCl (wCtl a y_7 ++ wCtl a1 x1) H := by rw [hy_7]; exact hP
  have hD : va_D A (wCtl a y_7 ++ wCtl a1 x1) := by rw [hy_7]; exact hD
  refine lv_aload_n hx hb dX2_become_56 rfl (lv_at hl 0 rfl) ?_
  refine lv_aload_n hx hb dX2_become_57 rfl (lv_at hl 1 rfl) ?_
  refine va_get (D := (dC, dI)) (ci := 1) (v := .int (cs_fell x1)) (C := RX2) (T := TX2) (N := 8) hx hb hts inX2 hown hG.1 hP 1 rfl rfl 7 (by decide) (hts (.fieldLink RX2 33 "WokenDrive$Controller" "fallenAsleep" "I") (List.mem_of_getElem? (i := 8) rfl)) (fun _ h9 => h9) rfl dX2_become_58 ?_
  refine va_put (D := (dC, dI)) (ci := 1) (v := .int (cs_fell x1)) (ty := .int) (C := RX2) (T := TX2) (N := 8) hx hb hts inX2 tyX2 tyX2_ok nmX2 hown hG.1 hP hD hS 0 rfl rfl 7 (by decide) (hts (.fieldLink RX2 33 "WokenDrive$Controller" "fallenAsleep" "I") (List.mem_of_getElem? (i := 8) rfl)) (fun _ h9 => h9) rfl (by decide +kernel) rfl rfl (Nat.le_of_ble_eq_true rfl) dX2_become_61 (fun H locs hP hD hS => ?_)
  have hP : va_P (dC, dI) vwCl (wCtl a (cs_fell_s y_7 (cs_fell x1)) ++ wCtl a1 x1) H := hP
  have hD : va_D A (wCtl a (cs_fell_s y_7 (cs_fell x1)) ++ wCtl a1 x1) := hD
  subst hM
  exact wk_retMv hx hb hr hlocks hQ rfl hP hD hS dX2_become_64
set_option maxHeartbeats 4000000 in
set_option maxRecDepth 100000 in
theorem c_X2_receive (l : Launch) (dC : Nat → ClassId) (dI : Nat → Nat → Nat) (cI cD cJ : ClassId) (kk : wAd) (a : Nat) (x : CS) (p1 : Int32) (out : CS) (hM : M_X2_receive x p1 = out) : CM l yX2_receive wsX2_receive ({ frames := 0, cells := 0, slots := 0, locals := 0 } : Room) dC dI (wTys cI cD cJ) [.ref a, .int p1] (wCtl a x) none (wCtl a out) 0 0 := by
  refine wk_enterM (cc := cX2_receive) (maxL := 2) (ret := none) (by decide) rfl (Nat.le_of_ble_eq_true rfl) ?_
  intro p e s m below meth c A Q ls hB hA hP hD hQ hl
  obtain ⟨hx, hb, hml, hr, hts, hown, hname, hlocks, hG⟩ := hB
  have hown : s.vm.findClass RX2 = some m.cls := hown
  have hS : va_S A s.heap s.heap [] := va_S.rf
  have hl : lv_has ls 2 [(0, .ref a), (1, .int p1)] := hl
  have inX2 : ∀ w ∈ wsX20, w ∈ wsX2_receive := fun _ h => List.mem_cons_of_mem _ (List.mem_append_right _ h)
  obtain ⟨H, hH⟩ : ∃ z, z = s.heap := ⟨_, rfl⟩
  have hP : va_P (dC, dI) vwCl (wCtl a x) H := by rw [hH]; exact hP
  have hS : va_S A s.heap H [] := by rw [hH]; exact hS
  refine wk_at hH ?_
  generalize ([] : List Loc) = locs at hS ⊢
  unfold M_X2_receive at hM
  refine lv_aload_n hx hb dX2_receive_0 rfl (lv_at hl 0 rfl) ?_
  refine lv_dup hx hb dX2_receive_1 rfl ?_
  refine va_get (D := (dC, dI)) (ci := 1) (v := .long (cs_mail x)) (C := RX2) (T := TX2) (N := 8) hx hb hts inX2 hown hG.1 hP 0 rfl rfl 3 (by decide) (hts (.fieldLink RX2 20 "WokenDrive$Controller" "mailbox" "J") (List.mem_of_getElem? (i := 1) rfl)) (fun _ h9 => h9) rfl dX2_receive_2 ?_
  refine lv_lconst (v := 1) hx hb dX2_receive_5 (by decide) ?_
  refine lv_iload_n hx hb dX2_receive_6 rfl (lv_at hl 1 rfl) ?_
  refine lv_lshl hx hb dX2_receive_7 rfl ?_
  refine lv_lor hx hb dX2_receive_8 ?_
  refine va_put (D := (dC, dI)) (ci := 1) (v := .long ((cs_mail x) ||| ((1 : Int64) <<< (p1.toInt64 &&& 63)))) (ty := .long) (C := RX2) (T := TX2) (N := 8) hx hb hts inX2 tyX2 tyX2_ok nmX2 hown hG.1 hP hD hS 0 rfl rfl 3 (by decide) (hts (.fieldLink RX2 20 "WokenDrive$Controller" "mailbox" "J") (List.mem_of_getElem? (i := 1) rfl)) (fun _ h9 => h9) rfl (by decide +kernel) rfl rfl (Nat.le_of_ble_eq_true rfl) dX2_receive_9 (fun H locs hP hD hS => ?_)
  have hP : va_P (dC, dI) vwCl (wCtl a (cs_mail_s x ((cs_mail x) ||| ((1 : Int64) <<< (p1.toInt64 &&& 63))))) H := hP
  have hD : va_D A (wCtl a (cs_mail_s x ((cs_mail x) ||| ((1 : Int64) <<< (p1.toInt64 &&& 63))))) := hD
  subst hM
  exact wk_retMv hx hb hr hlocks hQ rfl hP hD hS dX2_receive_12
set_option maxHeartbeats 4000000 in
set_option maxRecDepth 100000 in
theorem c_X2_drop (l : Launch) (dC : Nat → ClassId) (dI : Nat → Nat → Nat) (cI cD cJ : ClassId) (kk : wAd) (a : Nat) (x : CS) (p1 : Int32) (out : CS) (hM : M_X2_drop x p1 = out) : CM l yX2_drop wsX2_drop ({ frames := 0, cells := 0, slots := 0, locals := 0 } : Room) dC dI (wTys cI cD cJ) [.ref a, .int p1] (wCtl a x) none (wCtl a out) 0 0 := by
  refine wk_enterM (cc := cX2_drop) (maxL := 2) (ret := none) (by decide) rfl (Nat.le_of_ble_eq_true rfl) ?_
  intro p e s m below meth c A Q ls hB hA hP hD hQ hl
  obtain ⟨hx, hb, hml, hr, hts, hown, hname, hlocks, hG⟩ := hB
  have hown : s.vm.findClass RX2 = some m.cls := hown
  have hS : va_S A s.heap s.heap [] := va_S.rf
  have hl : lv_has ls 2 [(0, .ref a), (1, .int p1)] := hl
  have inX2 : ∀ w ∈ wsX20, w ∈ wsX2_drop := fun _ h => List.mem_cons_of_mem _ (List.mem_append_right _ h)
  obtain ⟨H, hH⟩ : ∃ z, z = s.heap := ⟨_, rfl⟩
  have hP : va_P (dC, dI) vwCl (wCtl a x) H := by rw [hH]; exact hP
  have hS : va_S A s.heap H [] := by rw [hH]; exact hS
  refine wk_at hH ?_
  generalize ([] : List Loc) = locs at hS ⊢
  unfold M_X2_drop at hM
  refine lv_aload_n hx hb dX2_drop_0 rfl (lv_at hl 0 rfl) ?_
  refine lv_dup hx hb dX2_drop_1 rfl ?_
  refine va_get (D := (dC, dI)) (ci := 1) (v := .long (cs_mail x)) (C := RX2) (T := TX2) (N := 8) hx hb hts inX2 hown hG.1 hP 0 rfl rfl 3 (by decide) (hts (.fieldLink RX2 20 "WokenDrive$Controller" "mailbox" "J") (List.mem_of_getElem? (i := 1) rfl)) (fun _ h9 => h9) rfl dX2_drop_2 ?_
  refine lv_lconst (v := 1) hx hb dX2_drop_5 (by decide) ?_
  refine lv_iload_n hx hb dX2_drop_6 rfl (lv_at hl 1 rfl) ?_
  refine lv_lshl hx hb dX2_drop_7 rfl ?_
  refine lv_ldc2 (v := -1) hx hb hown (hts (.constantLong RX2 36 (-1)) (List.mem_of_getElem? (i := 2) rfl)) dX2_drop_8 ?_
  refine lv_lxor hx hb dX2_drop_11 ?_
  refine lv_land hx hb dX2_drop_12 ?_
  refine va_put (D := (dC, dI)) (ci := 1) (v := .long ((cs_mail x) &&& (((1 : Int64) <<< (p1.toInt64 &&& 63)) ^^^ (-1 : Int64)))) (ty := .long) (C := RX2) (T := TX2) (N := 8) hx hb hts inX2 tyX2 tyX2_ok nmX2 hown hG.1 hP hD hS 0 rfl rfl 3 (by decide) (hts (.fieldLink RX2 20 "WokenDrive$Controller" "mailbox" "J") (List.mem_of_getElem? (i := 1) rfl)) (fun _ h9 => h9) rfl (by decide +kernel) rfl rfl (Nat.le_of_ble_eq_true rfl) dX2_drop_13 (fun H locs hP hD hS => ?_)
  have hP : va_P (dC, dI) vwCl (wCtl a (cs_mail_s x ((cs_mail x) &&& (((1 : Int64) <<< (p1.toInt64 &&& 63)) ^^^ (-1 : Int64))))) H := hP
  have hD : va_D A (wCtl a (cs_mail_s x ((cs_mail x) &&& (((1 : Int64) <<< (p1.toInt64 &&& 63)) ^^^ (-1 : Int64))))) := hD
  subst hM
  exact wk_retMv hx hb hr hlocks hQ rfl hP hD hS dX2_drop_16
set_option maxHeartbeats 4000000 in
set_option maxRecDepth 100000 in
theorem c_X2_holds (l : Launch) (dC : Nat → ClassId) (dI : Nat → Nat → Nat) (cI cD cJ : ClassId) (kk : wAd) (a : Nat) (x : CS) (p1 : Int32) (out : Bool) (hM : M_X2_holds x p1 = out) : CP l yX2_holds wsX2_holds ({ frames := 0, cells := 0, slots := 0, locals := 0 } : Room) dC dI (wTys cI cD cJ) [.ref a, .int p1] (wCtl a x) (some (.int (zI out))) := by
  refine wk_enterP (cc := cX2_holds) (maxL := 2) (ret := (some .boolean)) (by decide) rfl (Nat.le_of_ble_eq_true rfl) ?_
  intro p e s m below meth c A Q ls hB hP hD hA hQ hl
  obtain ⟨hx, hb, hml, hr, hts, hown, hname, hlocks, hG⟩ := hB
  have hown : s.vm.findClass RX2 = some m.cls := hown
  have hS : va_S A s.heap s.heap [] := va_S.rf
  have hl : lv_has ls 2 [(0, .ref a), (1, .int p1)] := hl
  have inX2 : ∀ w ∈ wsX20, w ∈ wsX2_holds := fun _ h => List.mem_cons_of_mem _ (List.mem_append_right _ h)
  generalize ([] : List Loc) = locs at hS ⊢
  have hB18 : ∀ (w0 : Bool) (locs : List Loc) (ls : Array Slot), M_X2_holds_18 x p1 w0 = out → va_S A s.heap s.heap locs → lv_has ls 2 [] → W p l e ({ frames := 0, cells := 0, slots := 0, locals := 0 } : Room) s m ([.ref a, .int p1] : List Value).toArray below meth c s.heap locs 0 0 Q (F0 m 18 ls [.int (zI w0)]) := by
    intro w0 locs ls hM hS hl
    unfold M_X2_holds_18 at hM
    subst hM
    exact wk_retPi hx hb hr hlocks hQ (zI_nar _) rfl hS dX2_holds_18
  unfold M_X2_holds at hM
  refine lv_aload_n hx hb dX2_holds_0 rfl (lv_at hl 0 rfl) ?_
  refine va_get (D := (dC, dI)) (ci := 1) (v := .long (cs_mail x)) (C := RX2) (T := TX2) (N := 8) hx hb hts inX2 hown hG.1 hP 0 rfl rfl 3 (by decide) (hts (.fieldLink RX2 20 "WokenDrive$Controller" "mailbox" "J") (List.mem_of_getElem? (i := 1) rfl)) (fun _ h9 => h9) rfl dX2_holds_1 ?_
  refine lv_iload_n hx hb dX2_holds_4 rfl (lv_at hl 1 rfl) ?_
  refine lv_lshr hx hb dX2_holds_5 rfl ?_
  refine lv_lconst (v := 1) hx hb dX2_holds_6 (by decide) ?_
  refine lv_land hx hb dX2_holds_7 ?_
  refine lv_lconst (v := 0) hx hb dX2_holds_8 (by decide) ?_
  refine W.lcmp hx hb dX2_holds_9 ?_
  refine lv_if_eq (tgt := 17) hx hb dX2_holds_10 (by decide) (fun c1 => ?_) (fun c1 => ?_)
  · replace hM := (if_pos c1).symm.trans hM
    refine lv_iconst (v := (0 : Int32)) hx hb dX2_holds_17 (by decide) ?_
    exact hB18 false  _ _ hM hS (lv_sub hl [] rfl)
  · replace hM := (if_neg c1).symm.trans hM
    refine lv_iconst (v := (1 : Int32)) hx hb dX2_holds_13 (by decide) ?_
    refine lv_goto (tgt := 18) hx hb dX2_holds_14 (by decide) ?_
    exact hB18 true  _ _ hM hS (lv_sub hl [] rfl)
set_option maxHeartbeats 4000000 in
set_option maxRecDepth 100000 in
theorem c_X2_mailSize (l : Launch) (dC : Nat → ClassId) (dI : Nat → Nat → Nat) (cI cD cJ : ClassId) (kk : wAd) (a : Nat) (x : CS) (out : Int32) (hM : M_X2_mailSize x = out) : CP l yX2_mailSize wsX2_mailSize ({ frames := 1, cells := 0, slots := 0, locals := 21 } : Room) dC dI (wTys cI cD cJ) [.ref a] (wCtl a x) (some (.int out)) := by
  refine wk_enterP (cc := cX2_mailSize) (maxL := 1) (ret := (some .int)) (by decide) rfl (Nat.le_of_ble_eq_true rfl) ?_
  intro p e s m below meth c A Q ls hB hP hD hA hQ hl
  obtain ⟨hx, hb, hml, hr, hts, hown, hname, hlocks, hG⟩ := hB
  have hown : s.vm.findClass RX2 = some m.cls := hown
  have hS : va_S A s.heap s.heap [] := va_S.rf
  have hl : lv_has ls 1 [(0, .ref a)] := hl
  have inX2 : ∀ w ∈ wsX20, w ∈ wsX2_mailSize := fun _ h => List.mem_cons_of_mem _ (List.mem_append_right _ h)
  generalize ([] : List Loc) = locs at hS ⊢
  unfold M_X2_mailSize at hM
  refine lv_aload_n hx hb dX2_mailSize_0 rfl (lv_at hl 0 rfl) ?_
  refine va_get (D := (dC, dI)) (ci := 1) (v := .long (cs_mail x)) (C := RX2) (T := TX2) (N := 8) hx hb hts inX2 hown hG.1 hP 0 rfl rfl 3 (by decide) (hts (.fieldLink RX2 20 "WokenDrive$Controller" "mailbox" "J") (List.mem_of_getElem? (i := 1) rfl)) (fun _ h9 => h9) rfl dX2_mailSize_1 ?_
  refine wk_callP (va_runS (As := [.long (cs_mail x)]) (rest := []) ⟨hx, hb, hml, hown, hts⟩ (c_J13_bitCount_95d88 l dC dI cI cD cJ kk  (cs_mail x) _ rfl s.heap) (va_cwS 1 hts gX2_mailSize_J13_bitCount_95d88 rfl rfl rfl (by decide +kernel) ⟨Nat.le_of_ble_eq_true rfl, Nat.le_of_ble_eq_true rfl⟩) (wk_preS hG hP hD [] rfl rfl) rfl rfl hl.1 rfl (lv_room (Nat.le_of_ble_eq_true rfl)) dX2_mailSize_4 ⟨Nat.le_of_ble_eq_true rfl, Nat.le_of_ble_eq_true rfl⟩) hS (fun locs hS => ?_)
  subst hM
  exact wk_retPi hx hb hr hlocks hQ rfl rfl hS dX2_mailSize_7
set_option maxHeartbeats 4000000 in
set_option maxRecDepth 100000 in
theorem c_X2_heedAlarm (l : Launch) (dC : Nat → ClassId) (dI : Nat → Nat → Nat) (cI cD cJ : ClassId) (kk : wAd) (a : Nat) (x : CS) (p1 : Int32) (out : CS) (hM : M_X2_heedAlarm x p1 = out) : CM l yX2_heedAlarm wsX2_heedAlarm ({ frames := 0, cells := 0, slots := 0, locals := 0 } : Room) dC dI (wTys cI cD cJ) [.ref a, .int p1] (wCtl a x) none (wCtl a out) 0 0 := by
  refine wk_enterM (cc := cX2_heedAlarm) (maxL := 2) (ret := none) (by decide) rfl (Nat.le_of_ble_eq_true rfl) ?_
  intro p e s m below meth c A Q ls hB hA hP hD hQ hl
  obtain ⟨hx, hb, hml, hr, hts, hown, hname, hlocks, hG⟩ := hB
  have hown : s.vm.findClass RX2 = some m.cls := hown
  have hS : va_S A s.heap s.heap [] := va_S.rf
  have hl : lv_has ls 2 [(0, .ref a), (1, .int p1)] := hl
  have inX2 : ∀ w ∈ wsX20, w ∈ wsX2_heedAlarm := fun _ h => List.mem_cons_of_mem _ (List.mem_append_right _ h)
  obtain ⟨H, hH⟩ : ∃ z, z = s.heap := ⟨_, rfl⟩
  have hP : va_P (dC, dI) vwCl (wCtl a x) H := by rw [hH]; exact hP
  have hS : va_S A s.heap H [] := by rw [hH]; exact hS
  refine wk_at hH ?_
  generalize ([] : List Loc) = locs at hS ⊢
  have hB21 : ∀ (y0 : CS) (H : Heap) (locs : List Loc) (ls : Array Slot), M_X2_heedAlarm_21 x p1 y0 = out → va_P (dC, dI) vwCl (wCtl a y0) H → va_D A (wCtl a y0) → va_S A s.heap H locs → lv_has ls 2 [] → W p l e ({ frames := 0, cells := 0, slots := 0, locals := 0 } : Room) s m ([.ref a, .int p1] : List Value).toArray below meth c H locs 0 0 Q (F0 m 21 ls []) := by
    intro y0 H locs ls hM hP hD hS hl
    unfold M_X2_heedAlarm_21 at hM
    subst hM
    exact wk_retMv hx hb hr hlocks hQ rfl hP hD hS dX2_heedAlarm_21
  unfold M_X2_heedAlarm at hM
  refine lv_aload_n hx hb dX2_heedAlarm_0 rfl (lv_at hl 0 rfl) ?_
  refine va_get (D := (dC, dI)) (ci := 1) (v := .int (cs_alarm x)) (C := RX2) (T := TX2) (N := 8) hx hb hts inX2 hown hG.1 hP 0 rfl rfl 2 (by decide) (hts (.fieldLink RX2 17 "WokenDrive$Controller" "alarm" "I") (List.mem_of_getElem? (i := 1) rfl)) (fun _ h9 => h9) rfl dX2_heedAlarm_1 ?_
  refine lv_if_eq (tgt := 21) hx hb dX2_heedAlarm_4 (by decide) (fun c1 => ?_) (fun c1 => ?_)
  · replace hM := (if_pos c1).symm.trans hM
    exact hB21 x H _ _ hM hP hD hS (lv_sub hl [] rfl)
  · replace hM := (if_neg c1).symm.trans hM
    refine lv_iload_n hx hb dX2_heedAlarm_7 rfl (lv_at hl 1 rfl) ?_
    refine lv_aload_n hx hb dX2_heedAlarm_8 rfl (lv_at hl 0 rfl) ?_
    refine va_get (D := (dC, dI)) (ci := 1) (v := .int (cs_alarm x)) (C := RX2) (T := TX2) (N := 8) hx hb hts inX2 hown hG.1 hP 0 rfl rfl 2 (by decide) (hts (.fieldLink RX2 17 "WokenDrive$Controller" "alarm" "I") (List.mem_of_getElem? (i := 1) rfl)) (fun _ h9 => h9) rfl dX2_heedAlarm_9 ?_
    refine lv_irem hx hb dX2_heedAlarm_12 c1 ?_
    refine lv_if_ne (tgt := 21) hx hb dX2_heedAlarm_13 (by decide) (fun c2 => ?_) (fun c2 => ?_)
    · replace hM := (if_neg c2).symm.trans hM
      exact hB21 x H _ _ hM hP hD hS (lv_sub hl [] rfl)
    · replace hM := (if_pos c2).symm.trans hM
      refine lv_aload_n hx hb dX2_heedAlarm_16 rfl (lv_at hl 0 rfl) ?_
      refine lv_iconst (v := (1 : Int32)) hx hb dX2_heedAlarm_17 (by decide) ?_
      refine va_put (D := (dC, dI)) (ci := 1) (v := .int (1 : Int32)) (ty := .boolean) (C := RX2) (T := TX2) (N := 8) hx hb hts inX2 tyX2 tyX2_ok nmX2 hown hG.1 hP hD hS 0 rfl rfl 0 (by decide) (hts (.fieldLink RX2 7 "WokenDrive$Controller" "awake" "Z") (List.mem_of_getElem? (i := 2) rfl)) (fun _ h9 => h9) rfl (by decide +kernel) rfl rfl (Nat.le_of_ble_eq_true rfl) dX2_heedAlarm_18 (fun H locs hP hD hS => ?_)
      have hP : va_P (dC, dI) vwCl (wCtl a (cs_aw_s x true)) H := hP
      have hD : va_D A (wCtl a (cs_aw_s x true)) := hD
      exact hB21 (cs_aw_s x true) H _ _ hM hP hD hS (lv_sub hl [] rfl)
set_option maxHeartbeats 4000000 in
set_option maxRecDepth 100000 in
theorem c_X2_fallAsleepTorn (l : Launch) (dC : Nat → ClassId) (dI : Nat → Nat → Nat) (cI cD cJ : ClassId) (kk : wAd) (a : Nat) (x : CS) (out : CS) (hM : M_X2_fallAsleepTorn x = out) : CM l yX2_fallAsleepTorn wsX2_fallAsleepTorn ({ frames := 0, cells := 0, slots := 0, locals := 0 } : Room) dC dI (wTys cI cD cJ) [.ref a] (wCtl a x) none (wCtl a out) 0 0 := by
  refine wk_enterM (cc := cX2_fallAsleepTorn) (maxL := 1) (ret := none) (by decide) rfl (Nat.le_of_ble_eq_true rfl) ?_
  intro p e s m below meth c A Q ls hB hA hP hD hQ hl
  obtain ⟨hx, hb, hml, hr, hts, hown, hname, hlocks, hG⟩ := hB
  have hown : s.vm.findClass RX2 = some m.cls := hown
  have hS : va_S A s.heap s.heap [] := va_S.rf
  have hl : lv_has ls 1 [(0, .ref a)] := hl
  have inX2 : ∀ w ∈ wsX20, w ∈ wsX2_fallAsleepTorn := fun _ h => List.mem_cons_of_mem _ (List.mem_append_right _ h)
  obtain ⟨H, hH⟩ : ∃ z, z = s.heap := ⟨_, rfl⟩
  have hP : va_P (dC, dI) vwCl (wCtl a x) H := by rw [hH]; exact hP
  have hS : va_S A s.heap H [] := by rw [hH]; exact hS
  refine wk_at hH ?_
  generalize ([] : List Loc) = locs at hS ⊢
  unfold M_X2_fallAsleepTorn at hM
  refine lv_aload_n hx hb dX2_fallAsleepTorn_0 rfl (lv_at hl 0 rfl) ?_
  refine lv_iconst (v := (0 : Int32)) hx hb dX2_fallAsleepTorn_1 (by decide) ?_
  obtain ⟨y_1, hy_1, hM⟩ := tbE hM
  refine va_put (D := (dC, dI)) (ci := 1) (v := .int (0 : Int32)) (ty := .boolean) (C := RX2) (T := TX2) (N := 8) hx hb hts inX2 tyX2 tyX2_ok nmX2 hown hG.1 hP hD hS 0 rfl rfl 0 (by decide) (hts (.fieldLink RX2 7 "WokenDrive$Controller" "awake" "Z") (List.mem_of_getElem? (i := 1) rfl)) (fun _ h9 => h9) rfl (by decide +kernel) rfl rfl (Nat.le_of_ble_eq_true rfl) dX2_fallAsleepTorn_2 (fun H locs hP hD hS => ?_)
  have hP : va_P (dC, dI) vwCl (wCtl a y_1) H := by rw [hy_1]; exact hP
  have hD : va_D A (wCtl a y_1) := by rw [hy_1]; exact hD
  refine lv_aload_n hx hb dX2_fallAsleepTorn_5 rfl (lv_at hl 0 rfl) ?_
  refine lv_dup hx hb dX2_fallAsleepTorn_6 rfl ?_
  refine va_get (D := (dC, dI)) (ci := 1) (v := .int (cs_fell y_1)) (C := RX2) (T := TX2) (N := 8) hx hb hts inX2 hown hG.1 hP 0 rfl rfl 7 (by decide) (hts (.fieldLink RX2 33 "WokenDrive$Controller" "fallenAsleep" "I") (List.mem_of_getElem? (i := 2) rfl)) (fun _ h9 => h9) rfl dX2_fallAsleepTorn_7 ?_
  refine lv_iconst (v := (1 : Int32)) hx hb dX2_fallAsleepTorn_10 (by decide) ?_
  refine lv_iadd hx hb dX2_fallAsleepTorn_11 ?_
  refine va_put (D := (dC, dI)) (ci := 1) (v := .int ((cs_fell y_1) + (1 : Int32))) (ty := .int) (C := RX2) (T := TX2) (N := 8) hx hb hts inX2 tyX2 tyX2_ok nmX2 hown hG.1 hP hD hS 0 rfl rfl 7 (by decide) (hts (.fieldLink RX2 33 "WokenDrive$Controller" "fallenAsleep" "I") (List.mem_of_getElem? (i := 2) rfl)) (fun _ h9 => h9) rfl (by decide +kernel) rfl rfl (Nat.le_of_ble_eq_true rfl) dX2_fallAsleepTorn_12 (fun H locs hP hD hS => ?_)
  have hP : va_P (dC, dI) vwCl (wCtl a (cs_fell_s y_1 ((cs_fell y_1) + (1 : Int32)))) H := hP
  have hD : va_D A (wCtl a (cs_fell_s y_1 ((cs_fell y_1) + (1 : Int32)))) := hD
  subst hM
  exact wk_retMv hx hb hr hlocks hQ rfl hP hD hS dX2_fallAsleepTorn_15
set_option maxHeartbeats 4000000 in
set_option maxRecDepth 100000 in
theorem c_X2_ownFact (l : Launch) (dC : Nat → ClassId) (dI : Nat → Nat → Nat) (cI cD cJ : ClassId) (kk : wAd) (a : Nat) (x : CS) (p1 : Int32) (out : Int32) (hM : M_X2_ownFact x p1 = out) : CP l yX2_ownFact wsX2_ownFact ({ frames := 2, cells := 0, slots := 0, locals := 41 } : Room) dC dI (wTys cI cD cJ) [.ref a, .int p1] (wCtl a x) (some (.int out)) := by
  refine wk_enterP (cc := cX2_ownFact) (maxL := 2) (ret := (some .int)) (by decide) rfl (Nat.le_of_ble_eq_true rfl) ?_
  intro p e s m below meth c A Q ls hB hP hD hA hQ hl
  obtain ⟨hx, hb, hml, hr, hts, hown, hname, hlocks, hG⟩ := hB
  have hown : s.vm.findClass RX2 = some m.cls := hown
  have hS : va_S A s.heap s.heap [] := va_S.rf
  have hl : lv_has ls 2 [(0, .ref a), (1, .int p1)] := hl
  have inX2 : ∀ w ∈ wsX20, w ∈ wsX2_ownFact := fun _ h => List.mem_cons_of_mem _ (List.mem_append_right _ h)
  generalize ([] : List Loc) = locs at hS ⊢
  have hB60 : ∀ (w0 : Bool) (locs : List Loc) (ls : Array Slot), M_X2_ownFact_60 x p1 w0 = out → va_S A s.heap s.heap locs → lv_has ls 2 [] → W p l e ({ frames := 2, cells := 0, slots := 0, locals := 41 } : Room) s m ([.ref a, .int p1] : List Value).toArray below meth c s.heap locs 0 0 Q (F0 m 60 ls [.int (zI w0)]) := by
    intro w0 locs ls hM hS hl
    unfold M_X2_ownFact_60 at hM
    subst hM
    exact wk_retPi hx hb hr hlocks hQ rfl rfl hS dX2_ownFact_60
  have hB91 : ∀  (locs : List Loc) (ls : Array Slot), M_X2_ownFact_91 x p1 = out → va_S A s.heap s.heap locs → lv_has ls 2 [(0, .ref a)] → W p l e ({ frames := 2, cells := 0, slots := 0, locals := 41 } : Room) s m ([.ref a, .int p1] : List Value).toArray below meth c s.heap locs 0 0 Q (F0 m 91 ls []) := by
    intro  locs ls hM hS hl
    unfold M_X2_ownFact_91 at hM
    refine lv_aload_n hx hb dX2_ownFact_91 rfl (lv_at hl 0 rfl) ?_
    refine va_get (D := (dC, dI)) (ci := 1) (v := .int (cs_fell x)) (C := RX2) (T := TX2) (N := 8) hx hb hts inX2 hown hG.1 hP 0 rfl rfl 7 (by decide) (hts (.fieldLink RX2 33 "WokenDrive$Controller" "fallenAsleep" "I") (List.mem_of_getElem? (i := 7) rfl)) (fun _ h9 => h9) rfl dX2_ownFact_92 ?_
    subst hM
    exact wk_retPi hx hb hr hlocks hQ rfl rfl hS dX2_ownFact_95
  unfold M_X2_ownFact at hM
  refine lv_iload_n hx hb dX2_ownFact_0 rfl (lv_at hl 1 rfl) ?_
  by_cases c1 : p1 = 0
  · replace hM := (if_pos c1).symm.trans hM
    refine lv_tableIn (off := 47) (tgt := 48) hx hb dX2_ownFact_1 (by rw [c1]; decide) (by rw [c1]; decide) (by rw [c1]; decide) (by decide) ?_
    refine lv_aload_n hx hb dX2_ownFact_48 rfl (lv_at hl 0 rfl) ?_
    refine va_get (D := (dC, dI)) (ci := 1) (v := .int (zI (cs_aw x))) (C := RX2) (T := TX2) (N := 8) hx hb hts inX2 hown hG.1 hP 0 rfl rfl 0 (by decide) (hts (.fieldLink RX2 7 "WokenDrive$Controller" "awake" "Z") (List.mem_of_getElem? (i := 1) rfl)) (fun _ h9 => h9) rfl dX2_ownFact_49 ?_
    refine lv_if_eq (tgt := 59) hx hb dX2_ownFact_52 (by decide) (fun c2 => ?_) (fun c2 => ?_)
    · replace hM := (if_pos c2).symm.trans hM
      refine lv_iconst (v := (0 : Int32)) hx hb dX2_ownFact_59 (by decide) ?_
      exact hB60 false  _ _ hM hS (lv_sub hl [] rfl)
    · replace hM := (if_neg c2).symm.trans hM
      refine lv_iconst (v := (1 : Int32)) hx hb dX2_ownFact_55 (by decide) ?_
      refine lv_goto (tgt := 60) hx hb dX2_ownFact_56 (by decide) ?_
      exact hB60 true  _ _ hM hS (lv_sub hl [] rfl)
  replace hM := (if_neg c1).symm.trans hM
  by_cases c3 : p1 = 1
  · replace hM := (if_pos c3).symm.trans hM
    refine lv_tableIn (off := 60) (tgt := 61) hx hb dX2_ownFact_1 (by rw [c3]; decide) (by rw [c3]; decide) (by rw [c3]; decide) (by decide) ?_
    refine lv_aload_n hx hb dX2_ownFact_61 rfl (lv_at hl 0 rfl) ?_
    refine va_get (D := (dC, dI)) (ci := 1) (v := .int (cs_delay x)) (C := RX2) (T := TX2) (N := 8) hx hb hts inX2 hown hG.1 hP 0 rfl rfl 1 (by decide) (hts (.fieldLink RX2 13 "WokenDrive$Controller" "delay" "I") (List.mem_of_getElem? (i := 2) rfl)) (fun _ h9 => h9) rfl dX2_ownFact_62 ?_
    subst hM
    exact wk_retPi hx hb hr hlocks hQ rfl rfl hS dX2_ownFact_65
  replace hM := (if_neg c3).symm.trans hM
  by_cases c4 : p1 = 2
  · replace hM := (if_pos c4).symm.trans hM
    refine lv_tableIn (off := 65) (tgt := 66) hx hb dX2_ownFact_1 (by rw [c4]; decide) (by rw [c4]; decide) (by rw [c4]; decide) (by decide) ?_
    refine lv_aload_n hx hb dX2_ownFact_66 rfl (lv_at hl 0 rfl) ?_
    refine va_get (D := (dC, dI)) (ci := 1) (v := .int (cs_alarm x)) (C := RX2) (T := TX2) (N := 8) hx hb hts inX2 hown hG.1 hP 0 rfl rfl 2 (by decide) (hts (.fieldLink RX2 17 "WokenDrive$Controller" "alarm" "I") (List.mem_of_getElem? (i := 3) rfl)) (fun _ h9 => h9) rfl dX2_ownFact_67 ?_
    subst hM
    exact wk_retPi hx hb hr hlocks hQ rfl rfl hS dX2_ownFact_70
  replace hM := (if_neg c4).symm.trans hM
  by_cases c5 : p1 = 3
  · replace hM := (if_pos c5).symm.trans hM
    refine lv_tableIn (off := 70) (tgt := 71) hx hb dX2_ownFact_1 (by rw [c5]; decide) (by rw [c5]; decide) (by rw [c5]; decide) (by decide) ?_
    refine lv_aload_n hx hb dX2_ownFact_71 rfl (lv_at hl 0 rfl) ?_
    refine wk_callP (va_runV (As := []) (rest := []) ⟨hx, hb, hml, hown, hts⟩ (c_X2_mailSize l dC dI cI cD cJ kk a x _ rfl s.heap) (cwV 0 hts gX2_ownFact_X2_mailSize rfl rfl rfl (by decide +kernel) ⟨Nat.le_of_ble_eq_true rfl, Nat.le_of_ble_eq_true rfl⟩) (wk_preV (ci := 1) (q0 := 0) hG hP hD [0] rfl rfl rfl rfl) rfl rfl hl.1 rfl (lv_room (Nat.le_of_ble_eq_true rfl)) dX2_ownFact_72 ⟨Nat.le_of_ble_eq_true rfl, Nat.le_of_ble_eq_true rfl⟩) hS (fun locs hS => ?_)
    subst hM
    exact wk_retPi hx hb hr hlocks hQ rfl rfl hS dX2_ownFact_75
  replace hM := (if_neg c5).symm.trans hM
  by_cases c6 : p1 = 4
  · replace hM := (if_pos c6).symm.trans hM
    refine lv_tableIn (off := 90) (tgt := 91) hx hb dX2_ownFact_1 (by rw [c6]; decide) (by rw [c6]; decide) (by rw [c6]; decide) (by decide) ?_
    exact hB91   _ _ hM hS (lv_sub hl [0] rfl)
  replace hM := (if_neg c6).symm.trans hM
  by_cases c7 : p1 = 5
  · replace hM := (if_pos c7).symm.trans hM
    refine lv_tableIn (off := 75) (tgt := 76) hx hb dX2_ownFact_1 (by rw [c7]; decide) (by rw [c7]; decide) (by rw [c7]; decide) (by decide) ?_
    refine lv_aload_n hx hb dX2_ownFact_76 rfl (lv_at hl 0 rfl) ?_
    refine va_get (D := (dC, dI)) (ci := 1) (v := .int (cs_done x)) (C := RX2) (T := TX2) (N := 8) hx hb hts inX2 hown hG.1 hP 0 rfl rfl 4 (by decide) (hts (.fieldLink RX2 24 "WokenDrive$Controller" "done" "I") (List.mem_of_getElem? (i := 4) rfl)) (fun _ h9 => h9) rfl dX2_ownFact_77 ?_
    subst hM
    exact wk_retPi hx hb hr hlocks hQ rfl rfl hS dX2_ownFact_80
  replace hM := (if_neg c7).symm.trans hM
  by_cases c8 : p1 = 6
  · replace hM := (if_pos c8).symm.trans hM
    refine lv_tableIn (off := 80) (tgt := 81) hx hb dX2_ownFact_1 (by rw [c8]; decide) (by rw [c8]; decide) (by rw [c8]; decide) (by decide) ?_
    refine lv_aload_n hx hb dX2_ownFact_81 rfl (lv_at hl 0 rfl) ?_
    refine va_get (D := (dC, dI)) (ci := 1) (v := .int (cs_fin x)) (C := RX2) (T := TX2) (N := 8) hx hb hts inX2 hown hG.1 hP 0 rfl rfl 5 (by decide) (hts (.fieldLink RX2 27 "WokenDrive$Controller" "finished" "I") (List.mem_of_getElem? (i := 5) rfl)) (fun _ h9 => h9) rfl dX2_ownFact_82 ?_
    subst hM
    exact wk_retPi hx hb hr hlocks hQ rfl rfl hS dX2_ownFact_85
  replace hM := (if_neg c8).symm.trans hM
  by_cases c9 : p1 = 7
  · replace hM := (if_pos c9).symm.trans hM
    refine lv_tableIn (off := 85) (tgt := 86) hx hb dX2_ownFact_1 (by rw [c9]; decide) (by rw [c9]; decide) (by rw [c9]; decide) (by decide) ?_
    refine lv_aload_n hx hb dX2_ownFact_86 rfl (lv_at hl 0 rfl) ?_
    refine va_get (D := (dC, dI)) (ci := 1) (v := .int (cs_qua x)) (C := RX2) (T := TX2) (N := 8) hx hb hts inX2 hown hG.1 hP 0 rfl rfl 6 (by decide) (hts (.fieldLink RX2 30 "WokenDrive$Controller" "quarrels" "I") (List.mem_of_getElem? (i := 6) rfl)) (fun _ h9 => h9) rfl dX2_ownFact_87 ?_
    subst hM
    exact wk_retPi hx hb hr hlocks hQ rfl rfl hS dX2_ownFact_90
  replace hM := (if_neg c9).symm.trans hM
  have ec1 : (p1).toInt ≠ 0 := fun q => c1 (Int32.toInt_inj.mp (q.trans (by decide)))
  have ec3 : (p1).toInt ≠ 1 := fun q => c3 (Int32.toInt_inj.mp (q.trans (by decide)))
  have ec4 : (p1).toInt ≠ 2 := fun q => c4 (Int32.toInt_inj.mp (q.trans (by decide)))
  have ec5 : (p1).toInt ≠ 3 := fun q => c5 (Int32.toInt_inj.mp (q.trans (by decide)))
  have ec6 : (p1).toInt ≠ 4 := fun q => c6 (Int32.toInt_inj.mp (q.trans (by decide)))
  have ec7 : (p1).toInt ≠ 5 := fun q => c7 (Int32.toInt_inj.mp (q.trans (by decide)))
  have ec8 : (p1).toInt ≠ 6 := fun q => c8 (Int32.toInt_inj.mp (q.trans (by decide)))
  have ec9 : (p1).toInt ≠ 7 := fun q => c9 (Int32.toInt_inj.mp (q.trans (by decide)))
  refine lv_tableOut (tgt := 91) hx hb dX2_ownFact_1 (by omega) (by decide) ?_
  exact hB91   _ _ hM hS (lv_sub hl [0] rfl)
