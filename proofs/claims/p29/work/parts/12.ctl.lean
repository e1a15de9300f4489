/-! PART 06: a controller that is the one or the other -/
theorem vp_path2 {i : Int32} {n : Nat} (h1 : 0 ≤ i) (h2 : i < Int32.ofNat n) (hn : n < 2 ^ 31) : vp_in i n :=
  vp_path (fun q => by rw [Int32.lt_iff_toInt_lt] at q; rw [Int32.le_iff_toInt_le] at h1; omega) (fun q => by rw [Int32.le_iff_toInt_le] at q; rw [Int32.lt_iff_toInt_lt] at h2; omega) hn
section WC
variable {p : Program} {l : Launch} {e : Env} {R : Room} {s : State} {m : MethodId} {args : Array Value} {below : List Frame} {meth : Method} {c : Code} {H H0 : Heap} {locs : List Loc} {cells slots : Nat} {Q : State → Prop} {cc : ByteArray} {pc : Nat} {ls : Array Slot} {rest st0 : List Value}
variable {dC : Nat → ClassId} {dI : Nat → Nat → Nat} {tys : List (ClassId × FieldType)} {A A0 : Nat → Prop} {ws : va_W} {az ao : Nat} {z o : CS} {c0 : Int32}
theorem wk_at (hH : H = s.heap) (k : W p l e R s m args below meth c H locs cells slots Q (F0 m pc ls rest)) : W p l e R s m args below meth c s.heap locs cells slots Q (F0 m pc ls rest) := hH ▸ k
theorem wk_getC (hexec : p.tables.exec = Jvm.exec) (hb : c.code = cc) {own : String} {index : Nat} {Ts : List Cond} (hts : ∀ w ∈ Ts, w.before args s = true) (hin : ∀ w ∈ wsX20, w ∈ Ts) (hown : s.vm.findClass own = some m.cls) (hG : wk_G dC dI tys s) (hP : va_P (dC, dI) vwCl ws H) (qz qo : Nat)
    (hz : ws[qz]? = some (az, .inr (1, cCtl z))) (ho : ws[qo]? = some (ao, .inr (1, cCtl o))) (k : Nat) (hk : k < 8) (hlink : (Cond.fieldLink own index (TX2 k).1 (TX2 k).2.1 (TX2 k).2.2.1).before args s = true) {v : Value} (hv : (cCtl (if c0 = 0 then z else o))[k]? = some v) (hdg : decode cc pc = .ok (.getfield index, 3))
    (kk : W p l e R s m args below meth c H locs cells slots Q (F0 m (pc + 3) ls (v :: rest))) : W p l e R s m args below meth c H locs cells slots Q (F0 m pc ls (.ref (if c0 = 0 then az else ao) :: rest)) := by
  by_cases h0 : c0 = 0
  · rw [if_pos h0] at hv ⊢
    exact va_get (D := (dC, dI)) (ci := 1) (C := RX2) (T := TX2) (N := 8) hexec hb hts hin hown hG.1 hP qz hz rfl k hk hlink (fun _ h9 => h9) hv hdg kk
  · rw [if_neg h0] at hv ⊢
    exact va_get (D := (dC, dI)) (ci := 1) (C := RX2) (T := TX2) (N := 8) hexec hb hts hin hown hG.1 hP qo ho rfl k hk hlink (fun _ h9 => h9) hv hdg kk
theorem wk_setset {qz qo : Nat} (hne : qz ≠ qo) {x y : Nat × va_E} (hy : ws[qo]? = some y) : (ws.set qz x).set qo y = ws.set qz x := by
  apply List.ext_getElem?
  intro i
  by_cases hi : i = qo
  · subst hi
    have hl := (List.getElem?_eq_some_iff.mp hy).1
    rw [List.getElem?_set_self (by simpa using hl), List.getElem?_set_ne hne, hy]
  · rw [List.getElem?_set_ne (Ne.symm hi)]
theorem wk_setself {qz : Nat} {x : Nat × va_E} (hx : ws[qz]? = some x) : ws.set qz x = ws := by
  apply List.ext_getElem?
  intro i
  by_cases hi : i = qz
  · subst hi
    rw [List.getElem?_set_self (List.getElem?_eq_some_iff.mp hx).1, hx]
  · rw [List.getElem?_set_ne (Ne.symm hi)]
/-- the world behind a change of the one or the other -/
abbrev wk_CW (ws : va_W) (qz qo az ao : Nat) (z o : CS) (c0 : Int32) (x : CS) : va_W := (ws.set qz (az, .inr (1, cCtl (if c0 = 0 then x else z)))).set qo (ao, .inr (1, cCtl (if c0 = 0 then o else x)))
theorem wk_putC (hexec : p.tables.exec = Jvm.exec) (hb : c.code = cc) {own : String} {index : Nat} {Ts : List Cond} (hts : ∀ w ∈ Ts, w.before args s = true) (hin : ∀ w ∈ wsX20, w ∈ Ts) (hown : s.vm.findClass own = some m.cls) (hG : wk_G dC dI tys s) (hP : va_P (dC, dI) vwCl ws H) (hD : va_D A ws) (hS : va_S A H0 H locs) (qz qo : Nat)
    (hz : ws[qz]? = some (az, .inr (1, cCtl z))) (ho : ws[qo]? = some (ao, .inr (1, cCtl o))) (k : Nat) (hk : k < 8) (hne : qz ≠ qo) (hlink : (Cond.fieldLink own index (TX2 k).1 (TX2 k).2.1 (TX2 k).2.2.1).before args s = true) (hfin : (TX2 k).2.2.2 = false) {ty : FieldType} {v : Value} (hd : parseFieldDescriptor (TX2 k).2.2.1 = some ty) (hn : narrow ty v = v) (hfit : fits ty v = true) {x' : CS} (hx' : cCtl x' = (cCtl (if c0 = 0 then z else o)).set k v) (hdg : decode cc pc = .ok (.putfield index, 3))
    (kk : ∀ (H1 : Heap) (locs1 : List Loc), va_P (dC, dI) vwCl (wk_CW ws qz qo az ao z o c0 x') H1 → va_D A (wk_CW ws qz qo az ao z o c0 x') → va_S A H0 H1 locs1 → W p l e R s m args below meth c H1 locs1 cells slots Q (F0 m (pc + 3) ls rest)) : W p l e R s m args below meth c H locs cells slots Q (F0 m pc ls (v :: .ref (if c0 = 0 then az else ao) :: rest)) := by
  by_cases h0 : c0 = 0
  · simp only [wk_CW, if_pos h0] at hx' kk ⊢
    refine va_put (D := (dC, dI)) (ci := 1) (C := RX2) (T := TX2) (N := 8) hexec hb hts hin tyX2 tyX2_ok nmX2 hown hG.1 hP hD hS qz hz rfl k hk hlink (fun _ h9 => h9) hfin hd hn hfit (by simpa [cCtl] using hk) hdg (fun H1 locs1 p1 d1 s1 => ?_)
    rw [← hx'] at p1 d1
    have e1 := wk_setset (ws := ws) hne (x := (az, .inr (1, cCtl x'))) ho
    exact kk H1 locs1 (by rw [e1]; exact p1) (by rw [e1]; exact d1) s1
  · simp only [wk_CW, if_neg h0] at hx' kk ⊢
    refine va_put (D := (dC, dI)) (ci := 1) (C := RX2) (T := TX2) (N := 8) hexec hb hts hin tyX2 tyX2_ok nmX2 hown hG.1 hP hD hS qo ho rfl k hk hlink (fun _ h9 => h9) hfin hd hn hfit (by simpa [cCtl] using hk) hdg (fun H1 locs1 p1 d1 s1 => ?_)
    rw [← hx'] at p1 d1
    have e1 := wk_setself (ws := ws) hz
    exact kk H1 locs1 (by rw [e1]; exact p1) (by rw [e1]; exact d1) s1
theorem wk_preVC {As : List Value} (hG : wk_G dC dI tys s) (hP : va_P (dC, dI) vwCl ws H) (hD : va_D A0 ws) (qz qo : Nat) (hz : ws[qz]? = some (az, .inr (1, cCtl z))) (ho : ws[qo]? = some (ao, .inr (1, cCtl o))) (_hne : qz ≠ qo) :
    PreV s H RX2 (if c0 = 0 then az else ao) (wkP dC dI tys (.ref (if c0 = 0 then az else ao) :: As) H (wCtl (if c0 = 0 then az else ao) (if c0 = 0 then z else o))) As := by
  by_cases h0 : c0 = 0
  · simp only [if_pos h0]
    exact wk_preV (q := (RX2, TX2, 8)) (ci := 1) (q0 := qz) hG hP hD [qz] rfl (by simp [hz, wCtl]) rfl hz
  · simp only [if_neg h0]
    exact wk_preV (q := (RX2, TX2, 8)) (ci := 1) (q0 := qo) hG hP hD [qo] rfl (by simp [ho, wCtl]) rfl ho
theorem wk_setP {D : va_G} {cl : List vw_C} {A0 : Nat → Prop} {wc1 : Nat} {e0 e1 : va_E} {H1 : Heap} {q : Nat} (hP : va_P D cl ws H) (hD : va_D A0 ws) (hq : ws[q]? = some (wc1, e0)) (hk : ∀ q : Nat, q < H.size → ¬ va_A [(wc1, e0)] H.size q → H1[q]? = H[q]?) (hP1 : va_P D cl [(wc1, e1)] H1) : va_P D cl (ws.set q (wc1, e1)) H1 ∧ va_D A0 (ws.set q (wc1, e1)) := by
  refine ⟨fun k x hx => ?_, hD.set hq⟩
  have hl := (List.getElem?_eq_some_iff.mp hq).1
  by_cases hkq : k = q
  · subst hkq
    rw [List.getElem?_set_self hl] at hx
    cases hx
    exact hP1 0 _ rfl
  · rw [List.getElem?_set_ne (Ne.symm hkq)] at hx
    refine (hP k x hx).kept (hk x.1 (hP k x hx).lt fun h => ?_)
    rcases h with ⟨i, e, h⟩ | h
    · cases i with
      | zero =>
        have h : some (wc1, e0) = some (x.1, e) := h
        exact hkq (hD.1 k q x (wc1, e0) hx hq (by cases h; rfl))
      | succ i => cases h
    · exact absurd (hP k x hx).lt (Nat.not_lt.mpr h)
theorem wk_callMC {mc ms : Nat} {ov : Option Value} {a : Array Value} {x' : CS} (hr : va_Run p l e R s m args below meth c H locs cells slots mc ms (F0 m pc ls st0) rest (wkQ ov (fun t => va_P (dC, dI) vwCl (wCtl (if c0 = 0 then az else ao) x') t.heap ∧ va_D (va_A (wCtl (if c0 = 0 then az else ao) (if c0 = 0 then z else o)) H.size) (wCtl (if c0 = 0 then az else ao) x')) (va_A (wCtl (if c0 = 0 then az else ao) (if c0 = 0 then z else o)) H.size) a) (va_A (wCtl (if c0 = 0 then az else ao) (if c0 = 0 then z else o)) H.size)) (hP : va_P (dC, dI) vwCl ws H) (hD : va_D A0 ws) (hS : va_S A0 H0 H locs) (hA : ∀ q, H0.size ≤ q → A0 q)
    (qz qo : Nat) (hz : ws[qz]? = some (az, .inr (1, cCtl z))) (ho : ws[qo]? = some (ao, .inr (1, cCtl o))) (hne : qz ≠ qo)
    (kk : ∀ (H1 : Heap) (locs1 : List Loc), va_P (dC, dI) vwCl (wk_CW ws qz qo az ao z o c0 x') H1 → va_D A0 (wk_CW ws qz qo az ao z o c0 x') → va_S A0 H0 H1 locs1 → W p l e R s m args below meth c H1 locs1 (cells + mc) (slots + ms) Q (F0 m (pc + 3) ls (ov.toList ++ rest))) : W p l e R s m args below meth c H locs cells slots Q (F0 m pc ls st0) := by
  have hF : ∀ q, va_A (wCtl (if c0 = 0 then az else ao) (if c0 = 0 then z else o)) H.size q → A0 q := by
    by_cases h0 : c0 = 0
    · simp only [if_pos h0]; exact va_free (wc := wCtl az z) hD hS hA [qz] (by simp [hz, wCtl])
    · simp only [if_neg h0]; exact va_free (wc := wCtl ao o) hD hS hA [qo] (by simp [ho, wCtl])
  intro T hT X
  obtain ⟨v, st₀, t, T', L, h0, X', hL, e1, e2, ⟨⟨hv, hP1, hD1⟩, hzz, hk⟩, st⟩ := hr T hT X
  cases hv
  rw [h0] at hzz hk
  rw [← e1] at hP1 hzz hk
  have hPD : va_P (dC, dI) vwCl (wk_CW ws qz qo az ao z o c0 x') T'.heap ∧ va_D A0 (wk_CW ws qz qo az ao z o c0 x') := by
    by_cases h0 : c0 = 0
    · simp only [wk_CW, if_pos h0] at hk hP1 ⊢
      have h9 := wk_setP (e1 := .inr (1, cCtl x')) hP hD hz hk hP1
      rw [wk_setset hne ho]; exact h9
    · simp only [wk_CW, if_neg h0] at hk hP1 ⊢
      have h9 := wk_setP (e1 := .inr (1, cCtl x')) hP hD ho hk hP1
      rw [wk_setself hz]; exact h9
  obtain ⟨t2, a1, b1⟩ := kk T'.heap (locs ++ L) hPD.1 hPD.2
    ⟨Nat.le_trans hS.1 hzz, fun q h1 h2 => by rw [hk q (Nat.lt_of_lt_of_le h1 hS.1) (fun z => h2 (hF q z))]; exact hS.2.1 q h1 h2, fun q hq => by
      rcases List.mem_append.mp hq with h | h
      · exact hS.2.2 q h
      · exact hF _ (hL q h)⟩ T' rfl X'
  exact ⟨t2, st t2 a1, b1⟩
end WC
