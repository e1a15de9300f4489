/-! PART 20: what a throw asks, carried by contracts -/
abbrev wtx0 : String := "there is no such block, order or controller"
abbrev wtx1 : String := "an argument is out of range"
abbrev wtx2 : String := "the state does not allow this call"
def wkT (k : wAd) (A : Nat → Prop) (U : State) (H : Heap) : Prop :=
  True ∧ True ∧ True ∧ True ∧ True ∧
  (vx_Zq Bundle.tN "UNASSIGNED_STACK" Bundle.steD A U H ∧ vx_Zq Bundle.tN "SUPPRESSED_SENTINEL" Bundle.listD A U H) ∧
  (vk_R RX6 254 wtx0 (k.2.2.2.2.2 0) U ∧ vk_R RX6 261 wtx1 (k.2.2.2.2.2 1) U ∧ vk_R RX6 266 wtx2 (k.2.2.2.2.2 2) U)
theorem wkT.warm {k : wAd} {A : Nat → Prop} {s U : State} {H : Heap} (h : wkT k A s H) (hW : s.WarmedH U.vm) : wkT k A U H := by
  have hvm := hW.alike
  obtain ⟨a, b, c, d, e, ⟨f1, f2⟩, g1, g2, g3⟩ := h
  exact ⟨a, b, c, d, e, ⟨vx_Zq.moved hvm f1, vx_Zq.moved hvm f2⟩, vk_R.warm hW g1, vk_R.warm hW g2, vk_R.warm hW g3⟩
theorem wkT.same {k : wAd} {A : Nat → Prop} {u U : State} {H : Heap} (h : wkT k A u H) (hv : U.vm = u.vm) : wkT k A U H := by
  have hvm : u.vm.Alike U.vm := by rw [hv]; exact Vm.Alike.refl _
  obtain ⟨a, b, c, d, e, ⟨f1, f2⟩, g1, g2, g3⟩ := h
  exact ⟨a, b, c, d, e, ⟨vx_Zq.moved hvm f1, vx_Zq.moved hvm f2⟩, vk_R.same hv g1, vk_R.same hv g2, vk_R.same hv g3⟩
theorem wkT.kept {k : wAd} {A : Nat → Prop} {U : State} {H H1 : Heap} (h : wkT k A U H) (hq : ∀ a : Nat, a < H.size → ¬ A a → H1[a]? = H[a]?) : wkT k A U H1 := by
  obtain ⟨a, b, c, d, e, ⟨f1, f2⟩, g⟩ := h
  exact ⟨a, b, c, d, e, ⟨f1.kept hq, f2.kept hq⟩, g⟩
theorem wkT.narrow {k : wAd} {A B : Nat → Prop} {U : State} {H : Heap} (h : wkT k A U H) (hAB : ∀ q, B q → A q) : wkT k B U H := by
  obtain ⟨a, b, c, d, e, ⟨f1, f2⟩, g⟩ := h
  exact ⟨a, b, c, d, e, ⟨f1.narrow hAB, f2.narrow hAB⟩, g⟩
/-- a start with the constants -/
def wkPT (k : wAd) (A : Nat → Prop) (dC : Nat → ClassId) (dI : Nat → Nat → Nat) (tys : List (ClassId × FieldType)) (av : List Value) (H0 : Heap) (W0 : va_W) : Array Value → State → Prop := fun a U => wkP dC dI tys av H0 W0 a U ∧ wkT k A U H0
def CPT (k : wAd) (l : Launch) (y : MethodName) (ws : List Cond) (rm : Room) (dC : Nat → ClassId) (dI : Nat → Nat → Nat) (tys : List (ClassId × FieldType)) (av : List Value) (W0 : va_W) (ov : Option Value) : Prop :=
  ∀ H0, Met l y ws rm (wkPT k (fun _ => False) dC dI tys av H0 W0) (wkQ ov (fun t => t.heap = H0) (fun _ => False)) 0 0 (fun _ => False)
def CMT (k : wAd) (l : Launch) (y : MethodName) (ws : List Cond) (rm : Room) (dC : Nat → ClassId) (dI : Nat → Nat → Nat) (tys : List (ClassId × FieldType)) (av : List Value) (W0 : va_W) (ov : Option Value) (W1 : va_W) (mc ms : Nat) : Prop :=
  ∀ H0, Met l y ws rm (wkPT k (va_A W0 H0.size) dC dI tys av H0 W0) (wkQ ov (fun t => va_P (dC, dI) vwCl W1 t.heap ∧ va_D (va_A W0 H0.size) W1) (va_A W0 H0.size)) mc ms (va_A W0 H0.size)
theorem wkPT.blind {k : wAd} {A : Nat → Prop} {dC : Nat → ClassId} {dI : Nat → Nat → Nat} {tys : List (ClassId × FieldType)} {av : List Value} {H0 : Heap} {W0 : va_W} : FrameBlind (wkPT k A dC dI tys av H0 W0) :=
  fun a U g mk h => ⟨wkP.blind a U g mk h.1, h.2.same rfl⟩
section WKT
variable {p : Program} {l : Launch} {e : Env} {R : Room} {s : State} {m : MethodId} {args : Array Value} {below : List Frame} {meth : Method} {c : Code} {H H0 : Heap} {locs : List Loc} {cells slots : Nat} {Q : State → Prop}
variable {dC : Nat → ClassId} {dI : Nat → Nat → Nat} {tys : List (ClassId × FieldType)} {A A0 : Nat → Prop} {ws wc w1 ws' : va_W} {k : wAd} {As : List Value}
theorem wk_preVT {b ci q0 : Nat} {q : vw_C} {fs : List Value} (hG : wk_G dC dI tys s) (hP : va_P (dC, dI) vwCl ws H) (hD : va_D A0 ws) (hT : wkT k A s s.heap) (hS : va_S A s.heap H locs) (hAB : ∀ q, A0 q → A q) (isC : List Nat) (hn : va_nd isC = true) (hC : isC.map (fun i => ws[i]?) = wc.map some) (hc : vwCl[ci]? = some q) (he : ws[q0]? = some (b, .inr (ci, fs))) {B : Nat → Prop} (hB : ∀ q, B q → A q) :
    PreV s H q.1 b (wkPT k B dC dI tys (.ref b :: As) H wc) As :=
  ⟨wkPT.blind, va_recv hG.1 hP hc he, fun U hU hW => ⟨(wk_pre hG hP hD isC hn hC).2 U hU hW, ((hT.kept hS.2.1).narrow hB).warm hW⟩⟩
theorem wk_preST (hG : wk_G dC dI tys s) (hP : va_P (dC, dI) vwCl ws H) (hD : va_D A0 ws) (hT : wkT k A s s.heap) (hS : va_S A s.heap H locs) (isC : List Nat) (hn : va_nd isC = true) (hC : isC.map (fun i => ws[i]?) = wc.map some) {B : Nat → Prop} (hB : ∀ q, B q → A q) :
    PreS s H (wkPT k B dC dI tys As H wc) As :=
  ⟨wkPT.blind, fun U hU hW => ⟨(wk_pre hG hP hD isC hn hC).2 U hU hW, ((hT.kept hS.2.1).narrow hB).warm hW⟩⟩
end WKT
section WET
variable {l : Launch} {y : MethodName} {ws ws' : List Cond} {rm : Room} {dC : Nat → ClassId} {dI : Nat → Nat → Nat} {tys : List (ClassId × FieldType)} {av : List Value} {W0 W1 : va_W} {ov : Option Value} {mc ms : Nat} {cc : ByteArray} {maxL : Nat} {ret : Option FieldType} {k : wAd}
theorem wk_enterMT (hy : plainName y.cls = true) (hw : ws = .code y cc maxL ret :: ws') (hlen : (lg_sl av).length ≤ maxL)
    (body : ∀ (p : Program) (e : Env) (s : State) (m : MethodId) (below : List Frame) (meth : Method) (c : Code) (A : Nat → Prop) (Q : State → Prop) (ls : Array Slot), wkB p y ws dC dI tys av cc maxL ret s m meth c → wkT k A s s.heap → (∀ q, s.heap.size ≤ q → A q) → va_P (dC, dI) vwCl W0 s.heap → va_D A W0 →
      Q = MQ below (wkQ ov (fun t => va_P (dC, dI) vwCl W1 t.heap ∧ va_D A W1) A) av.toArray s mc ms A → lv_has ls maxL (lv_args 0 av) → W p l e rm s m av.toArray below meth c s.heap [] 0 0 Q (F0 m 0 ls [])) : CMT k l y ws rm dC dI tys av W0 ov W1 mc ms := by
  intro H0
  refine Met.ofW (cc := cc) (maxL := maxL) (ret := ret) hy hw ?_
  intro p e s m args below meth c s₁ B hml hv
  obtain ⟨⟨rfl, hsz, hP, hG, hD0⟩, hT⟩ := hv
  subst hsz
  have hl := lv_entry av (n := maxL) hlen
  rw [lg_entry_eq]
  exact body p e s m below meth c (va_A W0 s.heap.size) _ _ ⟨B.exec, B.bytes, hml, B.returns, atoms_spec (ws := ws) B.pre, findClass_of_methodNamed B.named, (name_of_methodNamed B.named B.method).1, B.notSynchronized, hG⟩ hT (fun q h => Or.inr h) hP hD0.self rfl hl
theorem wk_enterPT (hy : plainName y.cls = true) (hw : ws = .code y cc maxL ret :: ws') (hlen : (lg_sl av).length ≤ maxL)
    (body : ∀ (p : Program) (e : Env) (s : State) (m : MethodId) (below : List Frame) (meth : Method) (c : Code) (A : Nat → Prop) (Q : State → Prop) (ls : Array Slot), wkB p y ws dC dI tys av cc maxL ret s m meth c → wkT k A s s.heap → va_P (dC, dI) vwCl W0 s.heap → va_D (fun _ => True) W0 → A = (fun _ => False) →
      Q = MQ below (wkQ ov (fun t => t.heap = s.heap) A) av.toArray s 0 0 A → lv_has ls maxL (lv_args 0 av) → W p l e rm s m av.toArray below meth c s.heap [] 0 0 Q (F0 m 0 ls [])) : CPT k l y ws rm dC dI tys av W0 ov := by
  intro H0
  refine Met.ofW (cc := cc) (maxL := maxL) (ret := ret) hy hw ?_
  intro p e s m args below meth c s₁ B hml hv
  obtain ⟨⟨rfl, hsz, hP, hG, hD0⟩, hT⟩ := hv
  subst hsz
  have hl := lv_entry av (n := maxL) hlen
  rw [lg_entry_eq]
  exact body p e s m below meth c (fun _ => False) _ _ ⟨B.exec, B.bytes, hml, B.returns, atoms_spec (ws := ws) B.pre, findClass_of_methodNamed B.named, (name_of_methodNamed B.named B.method).1, B.notSynchronized, hG⟩ hT hP hD0 rfl rfl hl
end WET
