/-! PART 28: constructors: their form, the rows that make arrays of the known classes -/
/-- a constructor: out of one new cell, a whole -/
def CI (l : Launch) (y : MethodName) (ws : List Cond) (rm : Room) (dC : Nat → ClassId) (dI : Nat → Nat → Nat) (tys : List (ClassId × FieldType)) (h : Nat) (W0 : va_W) (Wf : (Nat → Nat) → va_W) (mc ms : Nat) : Prop :=
  ∀ H0, Met l y ws rm (wkP dC dI tys [.ref h] H0 W0) (wkQ none (fun t => ∃ g : Nat → Nat, g 0 = h ∧ va_P (dC, dI) vwCl (Wf g) t.heap ∧ va_D (va_A W0 H0.size) (Wf g)) (va_A W0 H0.size)) mc ms (va_A W0 H0.size)
section WI
variable {p : Program} {l : Launch} {e : Env} {R : Room} {s : State} {m : MethodId} {args : Array Value} {below : List Frame} {meth : Method} {c : Code} {H H0 : Heap} {locs : List Loc} {cells slots : Nat} {Q : State → Prop} {cc : ByteArray}
variable {dC : Nat → ClassId} {dI : Nat → Nat → Nat} {cI cD cJ : ClassId} {tys : List (ClassId × FieldType)} {A A0 : Nat → Prop} {ws wc ws' W0 : va_W} {mc ms : Nat} {a : Array Value} {pc : Nat} {ls : Array Slot} {rest st0 : List Value} {Wf : (Nat → Nat) → va_W} {h : Nat}
theorem wk_enterI {y : MethodName} {wds wds' : List Cond} {rm : Room} {maxL : Nat} (hy : plainName y.cls = true) (hw : wds = .code y cc maxL none :: wds') (hlen : 1 ≤ maxL)
    (body : ∀ (p : Program) (e : Env) (s : State) (m : MethodId) (below : List Frame) (meth : Method) (c : Code) (A : Nat → Prop) (Q : State → Prop) (ls : Array Slot), wkB p y wds dC dI tys [.ref h] cc maxL none s m meth c → (∀ q, s.heap.size ≤ q → A q) → va_P (dC, dI) vwCl W0 s.heap → va_D A W0 →
      Q = MQ below (wkQ none (fun t => ∃ g : Nat → Nat, g 0 = h ∧ va_P (dC, dI) vwCl (Wf g) t.heap ∧ va_D A (Wf g)) A) ([.ref h] : List Value).toArray s mc ms A → lv_has ls maxL [(0, .ref h)] → W p l e rm s m ([.ref h] : List Value).toArray below meth c s.heap [] 0 0 Q (F0 m 0 ls [])) : CI l y wds rm dC dI tys h W0 Wf mc ms := by
  intro H0
  refine Met.ofW (cc := cc) (maxL := maxL) (ret := none) hy hw ?_
  intro p e s m args below meth c s₁ B hml hv
  obtain ⟨rfl, hsz, hP, hG, hD0⟩ := hv
  subst hsz
  have hl := lv_entry ([.ref h]) (n := maxL) hlen
  rw [lg_entry_eq]
  exact body p e s m below meth c (va_A W0 s.heap.size) _ _ ⟨B.exec, B.bytes, hml, B.returns, atoms_spec (ws := wds) B.pre, findClass_of_methodNamed B.named, (name_of_methodNamed B.named B.method).1, B.notSynchronized, hG⟩ (fun q h => Or.inr h) hP hD0.self rfl hl
theorem wk_retI (g : Nat → Nat) (hexec : p.tables.exec = Jvm.exec) (hb : c.code = cc) (hr : meth.sig.returnType = none) (hlocks : meth.locks = false) (hQ : Q = MQ below (wkQ none (fun t => ∃ g : Nat → Nat, g 0 = h ∧ va_P (dC, dI) vwCl (Wf g) t.heap ∧ va_D A (Wf g)) A) args s mc ms A) (hg : g 0 = h) (hP : va_P (dC, dI) vwCl (Wf g) H) (hD : va_D A (Wf g)) (hS : va_S A s.heap H locs) (hc : cells ≤ mc) (hs : slots ≤ ms) (hdg : decode cc pc = .ok (.return_, 1)) :
    W p l e R s m args below meth c H locs cells slots Q (F0 m pc ls []) := by
  subst hQ
  refine W.widen hc hs ?_
  exact W.vret hexec hb hr (fun t ht _ => ⟨⟨rfl, g, hg, by rw [ht]; exact hP, hD⟩, hS.F ht⟩) hS.2.2 hdg hlocks
theorem wk_callI (hr : va_Run p l e R s m args below meth c H locs cells slots mc ms (F0 m pc ls st0) rest (wkQ none (fun t => ∃ g : Nat → Nat, g 0 = h ∧ va_P (dC, dI) vwCl (Wf g) t.heap ∧ va_D (va_A wc H.size) (Wf g)) (va_A wc H.size) a) (va_A wc H.size)) (hP : va_P (dC, dI) vwCl ws H) (hD : va_D A0 ws) (hS : va_S A0 H0 H locs) (hA : ∀ q, H0.size ≤ q → A0 q)
    (isC isR : List Nat) {wr : va_W} (hC : isC.map (fun i => ws[i]?) = wc.map some) (hR : isR.map (fun i => ws[i]?) = wr.map some) (hn : va_nd isR = true) (hdis : ∀ i ∈ isR, i ∉ isC)
    (kk : ∀ (g : Nat → Nat) (H1 : Heap) (locs1 : List Loc), h = g 0 → va_P (dC, dI) vwCl (wr ++ Wf g) H1 → va_D A0 (wr ++ Wf g) → va_S A0 H0 H1 locs1 → W p l e R s m args below meth c H1 locs1 (cells + mc) (slots + ms) Q (F0 m (pc + 3) ls rest)) : W p l e R s m args below meth c H locs cells slots Q (F0 m pc ls st0) := by
  have hF := va_free (wc := wc) hD hS hA isC hC
  intro T hT X
  obtain ⟨v, st₀, t, T', L, h0, X', hL, e1, e2, ⟨⟨hv, g, hg, hP1, hD1⟩, hz, hk⟩, st⟩ := hr T hT X
  cases hv
  rw [h0] at hz hk
  rw [← e1] at hP1 hz hk
  obtain ⟨hP2, hD2⟩ := va_join (wr := wr) hP hD isC isR hC hR hn hdis hk hF hP1 hD1
  obtain ⟨t2, a1, b1⟩ := kk g T'.heap (locs ++ L) hg.symm hP2 hD2
    ⟨Nat.le_trans hS.1 hz, fun q h1 h2 => by rw [hk q (Nat.lt_of_lt_of_le h1 hS.1) (fun z => h2 (hF q z))]; exact hS.2.1 q h1 h2, fun q hq => by
      rcases List.mem_append.mp hq with h | h
      · exact hS.2.2 q h
      · exact hF _ (hL q h)⟩ T' rfl X'
  exact ⟨t2, st t2 a1, b1⟩
theorem wk_newa (hexec : p.tables.exec = Jvm.exec) (hb : c.code = cc) (harr : (Cond.arrayClass .int).before args s = true) (hG : wk_G dC dI (wTys cI cD cJ) s) (hP : va_P (dC, dI) vwCl ws H) (hD : va_D A ws) (hS : va_S A H0 H locs) (hA : ∀ q, H0.size ≤ q → A q)
    {n : Int32} (N : Nat) (hn : ¬ n < 0) (hN : n.toNatClampNeg = N) (hbytes : N * 4 ≤ 536870912) (hcells : cells + 1 ≤ R.cells) (hslots : slots + N ≤ R.slots) (hdg : decode cc pc = .ok (.newarray .int, 2))
    (kk : ∀ (q : Nat) (H1 : Heap), va_P (dC, dI) vwCl (ws ++ [(q, .inl (cI, N, .inl (fun _ => 0)))]) H1 → va_D A (ws ++ [(q, .inl (cI, N, .inl (fun _ => 0)))]) → va_S A H0 H1 locs → W p l e R s m args below meth c H1 locs (cells + 1) (slots + N) Q (F0 m (pc + 2) ls (.ref q :: rest))) : W p l e R s m args below meth c H locs cells slots Q (F0 m pc ls (.int n :: rest)) := by
  refine va_newa (atype := .int) (ty := .int) (N' := N) (a0 := (N, .inl (fun _ => 0))) hexec hb harr rfl hG.1 hP hD hS hA (fun cA => rfl) hn hN hbytes hcells hslots hdg (fun q cA H1 hK1 hP1 hD1 hS1 => ?_)
  have e1 : s.vm.findClass ("[" ++ FieldType.int.toString) = some cA := (hK1.2 2 (cA, .int) rfl).2
  have e2 : s.vm.findClass ("[" ++ FieldType.int.toString) = some cI := (hG.1.2 0 (cI, .int) rfl).2
  have e3 : cA = cI := Option.some.inj (e1.symm.trans e2)
  subst e3
  exact kk q H1 hP1 hD1 hS1
theorem wk_newq (hexec : p.tables.exec = Jvm.exec) (hb : c.code = cc) {own : String} {index : Nat} (hown : s.vm.findClass own = some m.cls) (hclink : (Cond.classLink own index "WokenDrive$Drive").before args s = true) (hover : va_AO "WokenDrive$Drive" s) (hG : wk_G dC dI (wTys cI cD cJ) s) (hP : va_P (dC, dI) vwCl ws H) (hD : va_D A ws) (hS : va_S A H0 H locs) (hA : ∀ q, H0.size ≤ q → A q)
    {n : Int32} (N : Nat) (hn : ¬ n < 0) (hN : n.toNatClampNeg = N) (hbytes : N * 4 ≤ 536870912) (hcells : cells + 1 ≤ R.cells) (hslots : slots + N ≤ R.slots) (hdg : decode cc pc = .ok (.anewarray index, 3))
    (kk : ∀ (q : Nat) (H1 : Heap), va_P (dC, dI) vwCl (ws ++ [(q, .inl (cD, N, .inr (.inr (.inr (.inr (fun _ => none))))))]) H1 → va_D A (ws ++ [(q, .inl (cD, N, .inr (.inr (.inr (.inr (fun _ => none))))))]) → va_S A H0 H1 locs → W p l e R s m args below meth c H1 locs (cells + 1) (slots + N) Q (F0 m (pc + 3) ls (.ref q :: rest))) : W p l e R s m args below meth c H locs cells slots Q (F0 m pc ls (.int n :: rest)) := by
  refine va_newq (N' := N) hexec hb hown hclink hover hG.1 hP hD hS hA hn hN hbytes hcells hslots hdg (fun q cA H1 hK1 hP1 hD1 hS1 => ?_)
  have f1 := (hK1.2 2 (cA, .object "WokenDrive$Drive") rfl).2
  have f2 := (hG.1.2 1 (cD, .object "WokenDrive$Drive") rfl).2
  obtain ⟨-, -, -, -, -, e1⟩ := f1
  obtain ⟨-, -, -, -, -, e2⟩ := f2
  have e3 : cA = cD := Option.some.inj (e1.symm.trans e2)
  subst e3
  exact kk q H1 hP1 hD1 hS1
end WI
/-- a row of references is known by its places -/
theorem wk_rowq {cA : ClassId} {n : Nat} {f f' : Nat → Option Nat} (h : ∀ i, i < n → f i = f' i) : vp_cell cA (n, .inr (.inr (.inr (.inr f)))) = vp_cell cA (n, .inr (.inr (.inr (.inr f')))) := by
  rw [vp_cell_q, vp_cell_q]
  have : Array.ofFn (n := n) (fun j => va_rf (f j.val)) = Array.ofFn (n := n) (fun j => va_rf (f' j.val)) := congrArg _ (funext fun j => by rw [h j.val j.isLt])
  unfold arrV
  rw [this]
theorem wk_setq {D : va_G} {cl : List vw_C} {ws : va_W} {H : Heap} (h : va_P D cl ws H) {k a : Nat} {cA : ClassId} {n : Nat} {f f' : Nat → Option Nat} (hk : ws[k]? = some (a, .inl (cA, n, .inr (.inr (.inr (.inr f)))))) (hf : ∀ i, i < n → f i = f' i) : va_P D cl (ws.set k (a, .inl (cA, n, .inr (.inr (.inr (.inr f')))))) H := by
  intro j q hq
  by_cases hj : j = k
  · subst hj
    have hl := (List.getElem?_eq_some_iff.mp hk).1
    rw [List.getElem?_set_self hl] at hq
    cases hq
    have h1 := h j _ hk
    exact Eq.trans h1 (congrArg some (wk_rowq hf))
  · rw [List.getElem?_set_ne (Ne.symm hj)] at hq
    exact h j q hq
def cs0 : CS := (true, 0, 0, 0, 0, 0, 0, 0)
def ds0 : DS := (fun _ => 0, fun _ => 0, cs0, cs0, 0, 0, -1, 0)
def hs0 : HS := (fun _ => ds0, 0, 0)
def ts0 : TS := (fun _ => 0, fun _ => 0, 0, 0, none)
def ss0 : SS := (ds0, ds0, hs0, ts0, fun _ => 0, fun _ => 0)
