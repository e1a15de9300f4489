/-! PART 70: the law's helpers: their form (a method with a table of handlers, called by its name) -/
/-- which thrown classes pass a handler of another class -/
def wkN (U : State) : Prop := va_Nc xIA xIO U ∧ va_Nc xIS xIO U ∧ va_Nc xIS xIA U
theorem wkN.moved {u U : State} (hvm : u.vm.Alike U.vm) (h : wkN u) : wkN U := ⟨va_Nc.moved hvm h.1, va_Nc.moved hvm h.2.1, va_Nc.moved hvm h.2.2⟩
def wkPL (k : wAd) (A : Nat → Prop) (dC : Nat → ClassId) (dI : Nat → Nat → Nat) (tys : List (ClassId × FieldType)) (av : List Value) (H0 : Heap) (W0 : va_W) : Array Value → State → Prop := fun a U => wkPT k A dC dI tys av H0 W0 a U ∧ wkN U
theorem wkPL.blind {k : wAd} {A : Nat → Prop} {dC : Nat → ClassId} {dI : Nat → Nat → Nat} {tys : List (ClassId × FieldType)} {av : List Value} {H0 : Heap} {W0 : va_W} : FrameBlind (wkPL k A dC dI tys av H0 W0) :=
  fun a U g mk h => ⟨wkPT.blind a U g mk h.1, wkN.moved (u := U) (U := U.calling g mk a) (Vm.Alike.refl U.vm) h.2⟩
/-- a helper: it returns, and leaves another world -/
def CL (k : wAd) (l : Launch) (y : MethodName) (ws : List Cond) (rm : Room) (dC : Nat → ClassId) (dI : Nat → Nat → Nat) (tys : List (ClassId × FieldType)) (av : List Value) (W0 : va_W) (out : wOut) (mc ms : Nat) : Prop :=
  ∀ H0, vx_Met l y ws rm (wkPL k (va_A W0 H0.size) dC dI tys av H0 W0) (xQ dC dI out (va_A W0 H0.size)) (xX dC dI W0 out (va_A W0 H0.size)) mc ms (va_A W0 H0.size)
section WL
variable {p : Program} {l : Launch} {e : Env} {R : Room} {s : State} {m : MethodId} {args : Array Value} {below : List Frame} {meth : Method} {c : Code} {H : Heap} {locs : List Loc} {cells slots : Nat} {Q : State → Prop}
variable {dC : Nat → ClassId} {dI : Nat → Nat → Nat} {tys : List (ClassId × FieldType)} {A A0 B : Nat → Prop} {ws wc W0 : va_W} {mc ms : Nat} {out : wOut} {cc : ByteArray} {k : wAd} {pc : Nat} {ls : Array Slot} {rest : List Value}
theorem wk_enterL {y : MethodName} {wds wds' : List Cond} {rm : Room} {av : List Value} {maxL : Nat} {ret : Option FieldType} {hh : List (Nat × Nat × Nat × Nat)} (hy : plainName y.cls = true) (hw : wds = .codeWith y cc maxL ret hh :: wds') (hlen : (lg_sl av).length ≤ maxL)
    (body : ∀ (p : Program) (e : Env) (s : State) (m : MethodId) (below : List Frame) (meth : Method) (c : Code) (A : Nat → Prop) (Q : State → Prop) (ls : Array Slot), wkB p y wds dC dI tys av cc maxL ret s m meth c → c.exceptionTable.toList = tableOf hh → wkN s → wkT k A s s.heap → (∀ q, s.heap.size ≤ q → A q) → va_P (dC, dI) vwCl W0 s.heap → va_D A W0 →
      Q = vx_MQ below (xQ dC dI out A) (xX dC dI W0 out A) av.toArray s mc ms A → lv_has ls maxL (lv_args 0 av) → W p l e rm s m av.toArray below meth c s.heap [] 0 0 Q (F0 m 0 ls [])) : CL k l y wds rm dC dI tys av W0 out mc ms := by
  intro H0
  refine vx_ofWH (cc := cc) (maxL := maxL) (ret := ret) (hh := hh) hy hw ?_
  intro p e s m args below meth c s₁ B hml hv
  obtain ⟨⟨⟨rfl, hsz, hP, hG, hD0⟩, hT⟩, hN⟩ := hv
  subst hsz
  have hl := lv_entry av (n := maxL) hlen
  rw [lg_entry_eq]
  have hts := atoms_spec (ws := wds) B.pre
  have htab : c.exceptionTable.toList = tableOf hh := vx_table (x := y) B (hts (.codeWith y cc maxL ret hh) (by rw [hw]; exact List.mem_cons_self))
  exact body p e s m below meth c (va_A W0 s.heap.size) _ _ ⟨B.exec, B.bytes, hml, B.returns, hts, findClass_of_methodNamed B.named, (name_of_methodNamed B.named B.method).1, B.notSynchronized, hG⟩ htab hN hT (fun q h => Or.inr h) hP hD0.self rfl hl
theorem wk_enterG {y : MethodName} {wds wds' : List Cond} {rm : Room} {av : List Value} {maxL : Nat} {ret : Option FieldType} (hy : plainName y.cls = true) (hw : wds = .code y cc maxL ret :: wds') (hlen : (lg_sl av).length ≤ maxL)
    (body : ∀ (p : Program) (e : Env) (s : State) (m : MethodId) (below : List Frame) (meth : Method) (c : Code) (A : Nat → Prop) (Q : State → Prop) (ls : Array Slot), wkB p y wds dC dI tys av cc maxL ret s m meth c → (∀ x ∈ c.exceptionTable.toList, False) → wkN s → wkT k A s s.heap → (∀ q, s.heap.size ≤ q → A q) → va_P (dC, dI) vwCl W0 s.heap → va_D A W0 →
      Q = vx_MQ below (xQ dC dI out A) (xX dC dI W0 out A) av.toArray s mc ms A → lv_has ls maxL (lv_args 0 av) → W p l e rm s m av.toArray below meth c s.heap [] 0 0 Q (F0 m 0 ls [])) : CL k l y wds rm dC dI tys av W0 out mc ms := by
  intro H0
  refine vx_ofW (cc := cc) (maxL := maxL) (ret := ret) hy hw ?_
  intro p e s m args below meth c s₁ B hml hno hv
  obtain ⟨⟨⟨rfl, hsz, hP, hG, hD0⟩, hT⟩, hN⟩ := hv
  subst hsz
  have hl := lv_entry av (n := maxL) hlen
  rw [lg_entry_eq]
  have hts := atoms_spec (ws := wds) B.pre
  exact body p e s m below meth c (va_A W0 s.heap.size) _ _ ⟨B.exec, B.bytes, hml, B.returns, hts, findClass_of_methodNamed B.named, (name_of_methodNamed B.named B.method).1, B.notSynchronized, hG⟩ hno hN hT (fun q h => Or.inr h) hP hD0.self rfl hl
theorem wk_preSL {As : List Value} (hG : wk_G dC dI tys s) (hP : va_P (dC, dI) vwCl ws H) (hD : va_D A0 ws) (hT : wkT k A s s.heap) (hN : wkN s) (hS : va_S A s.heap H locs) (isC : List Nat) (hn : va_nd isC = true) (hC : isC.map (fun i => ws[i]?) = wc.map some) (hB : ∀ q, B q → A q) :
    PreS s H (wkPL k B dC dI tys As H wc) As :=
  ⟨wkPL.blind, fun U hU hW => ⟨⟨(wk_pre hG hP hD isC hn hC).2 U hU hW, ((hT.kept hS.2.1).narrow hB).warm hW⟩, hN.moved hW.alike⟩⟩
end WL
