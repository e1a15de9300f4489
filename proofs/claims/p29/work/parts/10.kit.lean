/-! PART 04: the forms of this claim's contracts, and the call rows out of the kit's runs -/
def nestW : List Cond := [.methodLinkNest RX6 28 yX1_init RX6, .methodLinkNest RX6 28 yX1_init RX6, .methodLinkNest RX6 9 yX3_init RX6, .methodLinkNest RX1 29 yX6_put RX6, .methodLinkNest RX3 162 yX6_at RX6, .methodLinkNest RX3 143 yX6_put RX6, .methodLinkNest RX3 162 yX6_at RX6, .methodLinkNest RX3 20 yX2_init RX6, .methodLinkNest RX3 51 yX6_faultOfTag RX6, .methodLinkNest RX3 66 yX6_isWithin RX6, .methodLinkNest RX3 72 yX6_faultOfController RX6, .methodLinkNest RX3 84 yX6_faultOfRange RX6, .methodLinkNest RX4 24 yX3_init RX6, .castable "java/lang/IndexOutOfBoundsException" "java/lang/IndexOutOfBoundsException", .castable "java/lang/IllegalArgumentException" "java/lang/IllegalArgumentException", .castable "java/lang/IllegalStateException" "java/lang/IllegalStateException", .arrayOver (.object "WokenDrive$Drive"), .declares ⟨"java/lang/RuntimeException", "<init>", "(Ljava/lang/String;)V"⟩, .declares ⟨"java/lang/Exception", "<init>", "(Ljava/lang/String;)V"⟩, .declares ⟨"java/lang/Throwable", "<init>", "(Ljava/lang/String;)V"⟩]
def wk_nw (w : Cond) : Bool := match w with
  | .fieldLinkNest _ _ _ _ _ _ => true
  | .methodLinkNest _ _ _ _ => true
  | .castable _ _ => true
  | .declares _ => true
  | .arrayOver (.object _) => true
  | _ => false
theorem wk_nw_all : ∀ w ∈ nestW, wk_nw w = true := by decide +kernel
/-- what holds of the machine at every method's entry -/
def wk_G (dC : Nat → ClassId) (dI : Nat → Nat → Nat) (tys : List (ClassId × FieldType)) (U : State) : Prop := va_K (dC, dI) vwCl tys U ∧ ∀ w ∈ nestW, va_Nw w U
theorem wk_G.warm {dC : Nat → ClassId} {dI : Nat → Nat → Nat} {tys : List (ClassId × FieldType)} {s U : State} (h : wk_G dC dI tys s) (hW : s.WarmedH U.vm) : wk_G dC dI tys U := by
  refine ⟨va_K.moved hW.alike h.1, fun w hw => ?_⟩
  have h1 := h.2 w hw
  have h2 := wk_nw_all w hw
  cases w with
  | fieldLinkNest a i b n d hh => exact va_Nw.warmF hW h1
  | methodLinkNest a i x hh => exact va_Nw.warmM hW h1
  | castable C T => exact va_Nw.warmC hW h1
  | declares x => exact va_Nw.warmD hW h1
  | arrayOver ty =>
    cases ty with
    | object C => exact va_AO.moved hW.alike h1
    | _ => exact absurd h2 (by simp [wk_nw])
  | _ => exact absurd h2 (by simp [wk_nw])
theorem wk_G.blind {dC : Nat → ClassId} {dI : Nat → Nat → Nat} {tys : List (ClassId × FieldType)} {U : State} (h : wk_G dC dI tys U) (g : JFrame) (mk : MethodId) (a : Array Value) : wk_G dC dI tys (U.calling g mk a) := by
  refine ⟨va_K.moved (u := U) (U := U.calling g mk a) (Vm.Alike.refl U.vm) h.1, fun w hw => ?_⟩
  have h1 := h.2 w hw
  have h2 := wk_nw_all w hw
  cases w with
  | fieldLinkNest _ _ _ _ _ _ => exact va_Nw.same (u := U) (U := U.calling g mk a) rfl rfl h1
  | methodLinkNest _ _ _ _ => exact va_Nw.same (u := U) (U := U.calling g mk a) rfl rfl h1
  | castable _ _ => exact va_Nw.same (u := U) (U := U.calling g mk a) rfl rfl h1
  | declares _ => exact va_Nw.same (u := U) (U := U.calling g mk a) rfl rfl h1
  | arrayOver ty =>
    cases ty with
    | object C => exact va_AO.moved (u := U) (U := U.calling g mk a) (Vm.Alike.refl U.vm) h1
    | _ => exact absurd h2 (by simp [wk_nw])
  | _ => exact absurd h2 (by simp [wk_nw])
/-- a method's start: its arguments, its world, the machine -/
def wkP (dC : Nat → ClassId) (dI : Nat → Nat → Nat) (tys : List (ClassId × FieldType)) (av : List Value) (H0 : Heap) (W0 : va_W) : Array Value → State → Prop :=
  va_Pc av (fun U => U.heap = H0 ∧ va_P (dC, dI) vwCl W0 H0 ∧ wk_G dC dI tys U ∧ va_D (fun _ => True) W0)
/-- a method's end -/
def wkQ (ov : Option Value) (B : State → Prop) (A : Nat → Prop) : Array Value → State → Outcome → State → Prop := fun _ st oc t => (oc = .returned ov ∧ B t) ∧ va_F A st t
/-- a method that changes nothing and makes nothing -/
def CP (l : Launch) (y : MethodName) (ws : List Cond) (rm : Room) (dC : Nat → ClassId) (dI : Nat → Nat → Nat) (tys : List (ClassId × FieldType)) (av : List Value) (W0 : va_W) (ov : Option Value) : Prop :=
  ∀ H0, Met l y ws rm (wkP dC dI tys av H0 W0) (wkQ ov (fun t => t.heap = H0) (fun _ => False)) 0 0 (fun _ => False)
/-- a method that leaves another world -/
def CM (l : Launch) (y : MethodName) (ws : List Cond) (rm : Room) (dC : Nat → ClassId) (dI : Nat → Nat → Nat) (tys : List (ClassId × FieldType)) (av : List Value) (W0 : va_W) (ov : Option Value) (W1 : va_W) (mc ms : Nat) : Prop :=
  ∀ H0, Met l y ws rm (wkP dC dI tys av H0 W0) (wkQ ov (fun t => va_P (dC, dI) vwCl W1 t.heap ∧ va_D (va_A W0 H0.size) W1) (va_A W0 H0.size)) mc ms (va_A W0 H0.size)
theorem wkP.blind {dC : Nat → ClassId} {dI : Nat → Nat → Nat} {tys : List (ClassId × FieldType)} {av : List Value} {H0 : Heap} {W0 : va_W} : FrameBlind (wkP dC dI tys av H0 W0) :=
  fun a U g mk h => ⟨h.1, h.2.1, h.2.2.1, h.2.2.2.1.blind g mk a, h.2.2.2.2⟩
section WK
variable {p : Program} {l : Launch} {e : Env} {R : Room} {s : State} {m : MethodId} {args : Array Value} {below : List Frame} {meth : Method} {c : Code} {H H0 : Heap} {locs : List Loc} {cells slots : Nat} {Q : State → Prop}
variable {dC : Nat → ClassId} {dI : Nat → Nat → Nat} {tys : List (ClassId × FieldType)} {A0 : Nat → Prop} {ws wc w1 ws' : va_W} {mc ms : Nat} {ov : Option Value} {a : Array Value} {pc : Nat} {ls : Array Slot} {rest st0 : List Value}
theorem wk_pre {As : List Value} (hG : wk_G dC dI tys s) (hP : va_P (dC, dI) vwCl ws H) (hD : va_D A0 ws) (isC : List Nat) (hn : va_nd isC = true) (hC : isC.map (fun i => ws[i]?) = wc.map some) :
    FrameBlind (wkP dC dI tys As H wc) ∧ ∀ U : State, U.heap = H → s.WarmedH U.vm → wkP dC dI tys As H wc As.toArray U := by
  refine ⟨wkP.blind, fun U hU hW => ⟨rfl, hU, fun k q hq => ?_, hG.warm hW, (hD.sub isC hn hC).weaken fun _ _ _ _ => trivial⟩⟩
  have h1 : (isC.map (fun i => ws[i]?))[k]? = some (some q) := by rw [hC, List.getElem?_map, hq]; rfl
  rw [List.getElem?_map] at h1
  cases hi : isC[k]? with
  | none => rw [hi] at h1; cases h1
  | some i => rw [hi] at h1; exact hP i q (Option.some.inj h1)
theorem wk_preV {As : List Value} {b ci q0 : Nat} {q : vw_C} {fs : List Value} (hG : wk_G dC dI tys s) (hP : va_P (dC, dI) vwCl ws H) (hD : va_D A0 ws) (isC : List Nat) (hn : va_nd isC = true) (hC : isC.map (fun i => ws[i]?) = wc.map some) (hc : vwCl[ci]? = some q) (he : ws[q0]? = some (b, .inr (ci, fs))) :
    PreV s H q.1 b (wkP dC dI tys (.ref b :: As) H wc) As :=
  ⟨wkP.blind, va_recv hG.1 hP hc he, (wk_pre hG hP hD isC hn hC).2⟩
theorem wk_preS {As : List Value} (hG : wk_G dC dI tys s) (hP : va_P (dC, dI) vwCl ws H) (hD : va_D A0 ws) (isC : List Nat) (hn : va_nd isC = true) (hC : isC.map (fun i => ws[i]?) = wc.map some) :
    PreS s H (wkP dC dI tys As H wc) As := wk_pre hG hP hD isC hn hC
/-- behind a call of a method that changes nothing -/
theorem wk_callP (hr : va_Run p l e R s m args below meth c H locs cells slots 0 0 (F0 m pc ls st0) rest (wkQ ov (fun t => t.heap = H) (fun _ => False) a) (fun _ => False)) (hS : va_S A0 H0 H locs)
    (kk : ∀ locs1 : List Loc, va_S A0 H0 H locs1 → W p l e R s m args below meth c H locs1 cells slots Q (F0 m (pc + 3) ls (ov.toList ++ rest))) : W p l e R s m args below meth c H locs cells slots Q (F0 m pc ls st0) := by
  intro T hT X
  obtain ⟨v, st₀, t, T', L, h0, X', hL, e1, e2, ⟨⟨hv, hb⟩, hz, hk⟩, st⟩ := hr T hT X
  cases hv
  obtain ⟨t2, a1, b1⟩ := kk (locs ++ L) ⟨hS.1, hS.2.1, fun q hq => by
      rcases List.mem_append.mp hq with h | h
      · exact hS.2.2 q h
      · exact (hL q h).elim⟩ T' (by rw [e1]; exact hb) X'
  exact ⟨t2, st t2 a1, b1⟩
/-- behind a call of a method that changes its world wc (places isC) into w1; the rest (places isR) stays; the whole is put in order again (perm) -/
theorem wk_callM (hr : va_Run p l e R s m args below meth c H locs cells slots mc ms (F0 m pc ls st0) rest (wkQ ov (fun t => va_P (dC, dI) vwCl w1 t.heap ∧ va_D (va_A wc H.size) w1) (va_A wc H.size) a) (va_A wc H.size)) (hP : va_P (dC, dI) vwCl ws H) (hD : va_D A0 ws) (hS : va_S A0 H0 H locs) (hA : ∀ q, H0.size ≤ q → A0 q)
    (isC isR perm : List Nat) (hC : isC.map (fun i => ws[i]?) = wc.map some) (hR : isR.map (fun i => ws[i]?) = (isR.filterMap (fun i => ws[i]?)).map some) (hn : va_nd isR = true) (hdis : ∀ i ∈ isR, i ∉ isC) (hpn : va_nd perm = true) (hp : perm.map (fun i => (isR.filterMap (fun i => ws[i]?) ++ w1)[i]?) = ws'.map some)
    (kk : ∀ (H1 : Heap) (locs1 : List Loc), va_P (dC, dI) vwCl ws' H1 → va_D A0 ws' → va_S A0 H0 H1 locs1 → W p l e R s m args below meth c H1 locs1 (cells + mc) (slots + ms) Q (F0 m (pc + 3) ls (ov.toList ++ rest))) : W p l e R s m args below meth c H locs cells slots Q (F0 m pc ls st0) := by
  have hF := va_free (wc := wc) hD hS hA isC hC
  intro T hT X
  obtain ⟨v, st₀, t, T', L, h0, X', hL, e1, e2, ⟨⟨hv, hP1, hD1⟩, hz, hk⟩, st⟩ := hr T hT X
  cases hv
  rw [h0] at hz hk
  rw [← e1] at hP1 hz hk
  obtain ⟨hP2, hD2⟩ := va_join (wr := isR.filterMap (fun i => ws[i]?)) hP hD isC isR hC hR hn hdis hk hF hP1 hD1
  have hP3 : va_P (dC, dI) vwCl ws' T'.heap := fun k q hq => by
    have h1 : (perm.map (fun i => (isR.filterMap (fun i => ws[i]?) ++ w1)[i]?))[k]? = some (some q) := by rw [hp, List.getElem?_map, hq]; rfl
    rw [List.getElem?_map] at h1
    cases hi : perm[k]? with
    | none => rw [hi] at h1; cases h1
    | some i => rw [hi] at h1; exact hP2 i q (Option.some.inj h1)
  have hD3 : va_D A0 ws' := hD2.sub perm hpn hp
  obtain ⟨t2, a1, b1⟩ := kk T'.heap (locs ++ L) hP3 hD3
    ⟨Nat.le_trans hS.1 hz, fun q h1 h2 => by rw [hk q (Nat.lt_of_lt_of_le h1 hS.1) (fun z => h2 (hF q z))]; exact hS.2.1 q h1 h2, fun q hq => by
      rcases List.mem_append.mp hq with h | h
      · exact hS.2.2 q h
      · exact hF _ (hL q h)⟩ T' rfl X'
  exact ⟨t2, st t2 a1, b1⟩
end WK
section WE
variable {l : Launch} {y : MethodName} {ws ws' : List Cond} {rm : Room} {dC : Nat → ClassId} {dI : Nat → Nat → Nat} {tys : List (ClassId × FieldType)} {av : List Value} {W0 W1 : va_W} {ov : Option Value} {mc ms : Nat} {cc : ByteArray} {maxL : Nat} {ret : Option FieldType}
/-- what a walk of a body starts from -/
abbrev wkB (p : Program) (y : MethodName) (ws : List Cond) (dC : Nat → ClassId) (dI : Nat → Nat → Nat) (tys : List (ClassId × FieldType)) (av : List Value) (cc : ByteArray) (maxL : Nat) (ret : Option FieldType) (s : State) (m : MethodId) (meth : Method) (c : Code) : Prop :=
  p.tables.exec = Jvm.exec ∧ c.code = cc ∧ c.maxLocals = maxL ∧ meth.sig.returnType = ret ∧ (∀ w ∈ ws, w.before av.toArray s = true) ∧ s.vm.findClass y.cls = some m.cls ∧ meth.name = y.name ∧ meth.locks = false ∧ wk_G dC dI tys s
theorem wk_enterM (hy : plainName y.cls = true) (hw : ws = .code y cc maxL ret :: ws') (hlen : (lg_sl av).length ≤ maxL)
    (body : ∀ (p : Program) (e : Env) (s : State) (m : MethodId) (below : List Frame) (meth : Method) (c : Code) (A : Nat → Prop) (Q : State → Prop) (ls : Array Slot), wkB p y ws dC dI tys av cc maxL ret s m meth c → (∀ q, s.heap.size ≤ q → A q) → va_P (dC, dI) vwCl W0 s.heap → va_D A W0 →
      Q = MQ below (wkQ ov (fun t => va_P (dC, dI) vwCl W1 t.heap ∧ va_D A W1) A) av.toArray s mc ms A → lv_has ls maxL (lv_args 0 av) → W p l e rm s m av.toArray below meth c s.heap [] 0 0 Q (F0 m 0 ls [])) : CM l y ws rm dC dI tys av W0 ov W1 mc ms := by
  intro H0
  refine Met.ofW (cc := cc) (maxL := maxL) (ret := ret) hy hw ?_
  intro p e s m args below meth c s₁ B hml hv
  obtain ⟨rfl, hsz, hP, hG, hD0⟩ := hv
  subst hsz
  have hl := lv_entry av (n := maxL) hlen
  rw [lg_entry_eq]
  exact body p e s m below meth c (va_A W0 s.heap.size) _ _ ⟨B.exec, B.bytes, hml, B.returns, atoms_spec (ws := ws) B.pre, findClass_of_methodNamed B.named, (name_of_methodNamed B.named B.method).1, B.notSynchronized, hG⟩ (fun q h => Or.inr h) hP hD0.self rfl hl
theorem wk_enterP (hy : plainName y.cls = true) (hw : ws = .code y cc maxL ret :: ws') (hlen : (lg_sl av).length ≤ maxL)
    (body : ∀ (p : Program) (e : Env) (s : State) (m : MethodId) (below : List Frame) (meth : Method) (c : Code) (A : Nat → Prop) (Q : State → Prop) (ls : Array Slot), wkB p y ws dC dI tys av cc maxL ret s m meth c → va_P (dC, dI) vwCl W0 s.heap → va_D (fun _ => True) W0 → A = (fun _ => False) →
      Q = MQ below (wkQ ov (fun t => t.heap = s.heap) A) av.toArray s 0 0 A → lv_has ls maxL (lv_args 0 av) → W p l e rm s m av.toArray below meth c s.heap [] 0 0 Q (F0 m 0 ls [])) : CP l y ws rm dC dI tys av W0 ov := by
  intro H0
  refine Met.ofW (cc := cc) (maxL := maxL) (ret := ret) hy hw ?_
  intro p e s m args below meth c s₁ B hml hv
  obtain ⟨rfl, hsz, hP, hG, hD0⟩ := hv
  subst hsz
  have hl := lv_entry av (n := maxL) hlen
  rw [lg_entry_eq]
  exact body p e s m below meth c (fun _ => False) _ _ ⟨B.exec, B.bytes, hml, B.returns, atoms_spec (ws := ws) B.pre, findClass_of_methodNamed B.named, (name_of_methodNamed B.named B.method).1, B.notSynchronized, hG⟩ hP hD0 rfl rfl hl
end WE
section WR
variable {p : Program} {l : Launch} {e : Env} {R : Room} {s : State} {m : MethodId} {args : Array Value} {below : List Frame} {meth : Method} {c : Code} {H : Heap} {locs : List Loc} {Q : State → Prop} {cc : ByteArray} {pc : Nat} {ls : Array Slot} {mc ms : Nat}
variable {dC : Nat → ClassId} {dI : Nat → Nat → Nat} {A : Nat → Prop} {W1 : va_W} {ov : Option Value}
theorem wk_retMi {v : Int32} {ty : FieldType} (hexec : p.tables.exec = Jvm.exec) (hb : c.code = cc) (hr : meth.sig.returnType = some ty) (hlocks : meth.locks = false) (hQ : Q = MQ below (wkQ ov (fun t => va_P (dC, dI) vwCl W1 t.heap ∧ va_D A W1) A) args s mc ms A) (hn : narrow ty (.int v) = .int v) (ho : ov = some (.int v)) (hP : va_P (dC, dI) vwCl W1 H) (hD : va_D A W1) (hS : va_S A s.heap H locs) (hdg : decode cc pc = .ok (.ireturn, 1)) :
    W p l e R s m args below meth c H locs mc ms Q (F0 m pc ls [.int v]) := by
  subst hQ; subst ho
  exact W.zret hexec hb hr hn (fun t ht _ => ⟨⟨rfl, by rw [ht]; exact hP, hD⟩, hS.F ht⟩) hS.2.2 hdg hlocks
theorem wk_retMv (hexec : p.tables.exec = Jvm.exec) (hb : c.code = cc) (hr : meth.sig.returnType = none) (hlocks : meth.locks = false) (hQ : Q = MQ below (wkQ ov (fun t => va_P (dC, dI) vwCl W1 t.heap ∧ va_D A W1) A) args s mc ms A) (ho : ov = none) (hP : va_P (dC, dI) vwCl W1 H) (hD : va_D A W1) (hS : va_S A s.heap H locs) (hdg : decode cc pc = .ok (.return_, 1)) :
    W p l e R s m args below meth c H locs mc ms Q (F0 m pc ls []) := by
  subst hQ; subst ho
  exact W.vret hexec hb hr (fun t ht _ => ⟨⟨rfl, by rw [ht]; exact hP, hD⟩, hS.F ht⟩) hS.2.2 hdg hlocks
theorem wk_retMl {v : Int64} (hexec : p.tables.exec = Jvm.exec) (hb : c.code = cc) (hr : meth.sig.returnType = some .long) (hlocks : meth.locks = false) (hQ : Q = MQ below (wkQ ov (fun t => va_P (dC, dI) vwCl W1 t.heap ∧ va_D A W1) A) args s mc ms A) (ho : ov = some (.long v)) (hP : va_P (dC, dI) vwCl W1 H) (hD : va_D A W1) (hS : va_S A s.heap H locs) (hdg : decode cc pc = .ok (.lreturn, 1)) :
    W p l e R s m args below meth c H locs mc ms Q (F0 m pc ls [.long v]) := by
  subst hQ; subst ho
  exact W.lret hexec hb hr (fun t ht _ => ⟨⟨rfl, by rw [ht]; exact hP, hD⟩, hS.F ht⟩) hS.2.2 hdg hlocks
theorem wk_retPi {v : Int32} {ty : FieldType} (hexec : p.tables.exec = Jvm.exec) (hb : c.code = cc) (hr : meth.sig.returnType = some ty) (hlocks : meth.locks = false) (hQ : Q = MQ below (wkQ ov (fun t => t.heap = s.heap) A) args s 0 0 A) (hn : narrow ty (.int v) = .int v) (ho : ov = some (.int v)) (hS : va_S A s.heap s.heap locs) (hdg : decode cc pc = .ok (.ireturn, 1)) :
    W p l e R s m args below meth c s.heap locs 0 0 Q (F0 m pc ls [.int v]) := by
  subst hQ; subst ho
  exact W.zret hexec hb hr hn (fun t ht _ => ⟨⟨rfl, ht⟩, hS.F ht⟩) hS.2.2 hdg hlocks
theorem wk_retPl {v : Int64} (hexec : p.tables.exec = Jvm.exec) (hb : c.code = cc) (hr : meth.sig.returnType = some .long) (hlocks : meth.locks = false) (hQ : Q = MQ below (wkQ ov (fun t => t.heap = s.heap) A) args s 0 0 A) (ho : ov = some (.long v)) (hS : va_S A s.heap s.heap locs) (hdg : decode cc pc = .ok (.lreturn, 1)) :
    W p l e R s m args below meth c s.heap locs 0 0 Q (F0 m pc ls [.long v]) := by
  subst hQ; subst ho
  exact W.lret hexec hb hr (fun t ht _ => ⟨⟨rfl, ht⟩, hS.F ht⟩) hS.2.2 hdg hlocks
theorem wk_retPv (hexec : p.tables.exec = Jvm.exec) (hb : c.code = cc) (hr : meth.sig.returnType = none) (hlocks : meth.locks = false) (hQ : Q = MQ below (wkQ ov (fun t => t.heap = s.heap) A) args s 0 0 A) (ho : ov = none) (hS : va_S A s.heap s.heap locs) (hdg : decode cc pc = .ok (.return_, 1)) :
    W p l e R s m args below meth c s.heap locs 0 0 Q (F0 m pc ls []) := by
  subst hQ; subst ho
  exact W.vret hexec hb hr (fun t ht _ => ⟨⟨rfl, ht⟩, hS.F ht⟩) hS.2.2 hdg hlocks
theorem wk_retPa {v : Value} {rt : FieldType} (hexec : p.tables.exec = Jvm.exec) (hb : c.code = cc) (hr : meth.sig.returnType = some rt) (hlocks : meth.locks = false) (hQ : Q = MQ below (wkQ ov (fun t => t.heap = s.heap) A) args s 0 0 A) (hrt : (∃ n, rt = .object n) ∨ ∃ t, rt = .array t) (hv : v = .null ∨ ∃ a, v = .ref a) (ho : ov = some v) (hS : va_S A s.heap s.heap locs) (hdg : decode cc pc = .ok (.areturn, 1)) :
    W p l e R s m args below meth c s.heap locs 0 0 Q (F0 m pc ls [v]) := by
  subst hQ; subst ho
  exact W.aret hexec hb hr hrt hv (fun t ht _ => ⟨⟨rfl, ht⟩, hS.F ht⟩) hS.2.2 hdg hlocks
end WR
/-! the mirrors' own words -/
def zI (b : Bool) : Int32 := if b then 1 else 0
theorem zI_nar (b : Bool) : narrow .boolean (.int (zI b)) = .int (zI b) := by cases b <;> rfl
theorem zI_fit (b : Bool) : fits .boolean (.int (zI b)) = true := by cases b <;> rfl
/-- a loop: at most n rounds -/
def lpF {α β : Type} (F : (α → Option β) → α → Option β) : Nat → α → Option β
  | 0, _ => none
  | n + 1, x => F (lpF F n) x
theorem lpF_0 {α β : Type} {F : (α → Option β) → α → Option β} {x : α} {o : β} {P : Prop} (h : lpF F 0 x = some o) : P := by
  have h : (none : Option β) = some o := h
  cases h
theorem ob {α β : Type} {x : Option α} {f : α → Option β} {o : β} (h : x.bind f = some o) : ∃ a, x = some a ∧ f a = some o := by
  cases x with
  | none => cases h
  | some a => exact ⟨a, rfl, h⟩
/-- a state gets a name -/
def tb {α β : Type} (x : α) (f : α → β) : β := f x
theorem tbE {α β : Type} {x : α} {f : α → β} {o : β} (h : tb x f = o) : ∃ a, a = x ∧ f a = o := ⟨x, rfl, h⟩
def vpb (i : Int32) (n : Nat) : Bool := decide (0 ≤ i.toInt ∧ i.toInt < n)
theorem vpb_in {i : Int32} {n : Nat} : vpb i n = true ↔ vp_in i n := by
  rw [vp_in_iff]; simp [vpb]
def ald (n : Nat) (f : Nat → Int32) (i : Int32) : Option Int32 := if vpb i n = true then some (f i.toNatClampNeg) else none
def ast (n : Nat) (f : Nat → Int32) (i x : Int32) : Option (Nat → Int32) := if vpb i n = true then some (upd f i.toNatClampNeg x) else none
theorem ald_some {n : Nat} {f : Nat → Int32} {i x : Int32} (h : ald n f i = some x) : vp_in i n ∧ f i.toNatClampNeg = x := by
  unfold ald at h
  split at h
  · next q => exact ⟨vpb_in.mp q, Option.some.inj h⟩
  · cases h
theorem ast_some {n : Nat} {f f' : Nat → Int32} {i x : Int32} (h : ast n f i x = some f') : vp_in i n ∧ upd f i.toNatClampNeg x = f' := by
  unfold ast at h
  split at h
  · next q => exact ⟨vpb_in.mp q, Option.some.inj h⟩
  · cases h
theorem vp_path {i : Int32} {n : Nat} (h1 : ¬ i < 0) (h2 : ¬ Int32.ofNat n ≤ i) (hn : n < 2 ^ 31) : vp_in i n := by
  obtain ⟨j, hj, rfl⟩ := nI_of h1
  refine vp_in_nI (Nat.not_le.mp fun q => h2 ?_) hn
  exact nI_le q hj
def irm (x y : Int32) : Option Int32 := if y = 0 then none else some (x - x / y * y)
theorem irm_some {x y v : Int32} (h : irm x y = some v) : ¬ y = 0 ∧ x - x / y * y = v := by
  unfold irm at h
  split at h
  · cases h
  · next q => exact ⟨q, Option.some.inj h⟩
section WA
variable {p : Program} {l : Launch} {e : Env} {R : Room} {s : State} {m : MethodId} {args : Array Value} {below : List Frame} {meth : Method} {c : Code} {H H0 : Heap} {locs : List Loc} {cells slots : Nat} {Q : State → Prop} {cc : ByteArray} {pc : Nat} {ls : Array Slot} {rest : List Value}
variable {dC : Nat → ClassId} {dI : Nat → Nat → Nat} {tys : List (ClassId × FieldType)} {A : Nat → Prop} {ws : va_W} {a : Nat}
theorem wk_iald (hexec : p.tables.exec = Jvm.exec) (hb : c.code = cc) (hG : wk_G dC dI tys s) (hP : va_P (dC, dI) vwCl ws H) (q0 t0 : Nat) {cA : ClassId} {n : Nat} {f : Nat → Int32} (ha : ws[q0]? = some (a, .inl (cA, n, .inl f))) (ht : tys[t0]? = some (cA, .int)) {i x : Int32} (hx : ald n f i = some x) (hdg : decode cc pc = .ok (.iaload, 1))
    (kk : W p l e R s m args below meth c H locs cells slots Q (F0 m (pc + 1) ls (.int x :: rest))) : W p l e R s m args below meth c H locs cells slots Q (F0 m pc ls (.int i :: .ref a :: rest)) := by
  obtain ⟨hin, rfl⟩ := ald_some hx
  exact va_iald hexec hb hG.1 hP q0 t0 ha ht hin hdg kk
theorem wk_iast (hexec : p.tables.exec = Jvm.exec) (hb : c.code = cc) (hG : wk_G dC dI tys s) (hP : va_P (dC, dI) vwCl ws H) (hD : va_D A ws) (hS : va_S A H0 H locs) (q0 t0 : Nat) {cA : ClassId} {n : Nat} {f f' : Nat → Int32} (ha : ws[q0]? = some (a, .inl (cA, n, .inl f))) (ht : tys[t0]? = some (cA, .int)) {i : Int32} {x : Int32} (hx : ast n f i x = some f') (hdg : decode cc pc = .ok (.iastore, 1))
    (kk : ∀ (H1 : Heap) (locs1 : List Loc), va_P (dC, dI) vwCl (ws.set q0 (a, .inl (cA, n, .inl f'))) H1 → va_D A (ws.set q0 (a, .inl (cA, n, .inl f'))) → va_S A H0 H1 locs1 → W p l e R s m args below meth c H1 locs1 cells slots Q (F0 m (pc + 1) ls rest)) : W p l e R s m args below meth c H locs cells slots Q (F0 m pc ls (.int x :: .int i :: .ref a :: rest)) := by
  obtain ⟨hin, rfl⟩ := ast_some hx
  exact va_iast hexec hb hG.1 hP hD hS q0 t0 ha ht hin hdg kk
theorem wk_irem (hexec : p.tables.exec = Jvm.exec) (hb : c.code = cc) {x y v : Int32} (hv : irm x y = some v) (hdg : decode cc pc = .ok (.irem, 1))
    (kk : W p l e R s m args below meth c H locs cells slots Q (F0 m (pc + 1) ls (.int v :: rest))) : W p l e R s m args below meth c H locs cells slots Q (F0 m pc ls (.int y :: .int x :: rest)) := by
  obtain ⟨hne, rfl⟩ := irm_some hv
  exact lv_irem hexec hb hdg hne kk
end WA
