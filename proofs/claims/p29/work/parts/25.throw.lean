/-! PART 25: methods that may throw: refuse, the contract's form, the calls -/
abbrev xIO : String := "java/lang/IndexOutOfBoundsException"
abbrev xIA : String := "java/lang/IllegalArgumentException"
abbrev xIS : String := "java/lang/IllegalStateException"
abbrev xNames : List String := ["java/lang/RuntimeException", "java/lang/Exception"]
def exN (f : Int32) : String := if f = 1 then xIO else if f = 2 then xIA else xIS
abbrev wOut : Type := Int32 ⊕ (Option Value × va_W)
/-- a method that throws, changing nothing, or leaves another world -/
def CX (k : wAd) (l : Launch) (y : MethodName) (ws : List Cond) (rm : Room) (dC : Nat → ClassId) (dI : Nat → Nat → Nat) (tys : List (ClassId × FieldType)) (av : List Value) (W0 : va_W) (out : wOut) (mc ms : Nat) : Prop :=
  ∀ H0, vx_Met l y ws rm (wkPT k (va_A W0 H0.size) dC dI tys av H0 W0)
    (fun _ st oc t => (∃ (ov : Option Value) (W1 : va_W), out = .inr (ov, W1) ∧ oc = .returned ov ∧ va_P (dC, dI) vwCl W1 t.heap ∧ va_D (va_A W0 H0.size) W1) ∧ va_F (va_A W0 H0.size) st t)
    (fun E st t => (∃ f : Int32, out = .inl f ∧ E = exN f ∧ va_P (dC, dI) vwCl W0 t.heap ∧ va_D (va_A W0 H0.size) W0) ∧ va_F (va_A W0 H0.size) st t) mc ms (va_A W0 H0.size)
def outX {α : Type} (o : Int32 ⊕ α) (f : α → Option Value × va_W) : wOut := match o with
  | .inl e => .inl e
  | .inr a => .inr (f a)
abbrev xQ (dC : Nat → ClassId) (dI : Nat → Nat → Nat) (out : wOut) (A : Nat → Prop) : Array Value → State → Outcome → State → Prop := fun _ st oc t => (∃ (ov : Option Value) (W1 : va_W), out = .inr (ov, W1) ∧ oc = .returned ov ∧ va_P (dC, dI) vwCl W1 t.heap ∧ va_D A W1) ∧ va_F A st t
abbrev xX (dC : Nat → ClassId) (dI : Nat → Nat → Nat) (W0 : va_W) (out : wOut) (A : Nat → Prop) : String → State → State → Prop := fun E st t => (∃ f : Int32, out = .inl f ∧ E = exN f ∧ va_P (dC, dI) vwCl W0 t.heap ∧ va_D A W0) ∧ va_F A st t
section WX
variable {p : Program} {l : Launch} {e : Env} {R : Room} {s : State} {m : MethodId} {args : Array Value} {below : List Frame} {meth : Method} {c : Code} {H H0 : Heap} {locs : List Loc} {cells slots : Nat} {Q : State → Prop}
variable {dC : Nat → ClassId} {dI : Nat → Nat → Nat} {tys : List (ClassId × FieldType)} {A A0 : Nat → Prop} {ws wc ws' W0 : va_W} {mc ms : Nat} {a : Array Value} {pc : Nat} {ls : Array Slot} {rest st0 : List Value} {out : wOut} {cc : ByteArray}
theorem wk_enterX {y : MethodName} {wds wds' : List Cond} {rm : Room} {av : List Value} {maxL : Nat} {ret : Option FieldType} {k : wAd} (hy : plainName y.cls = true) (hw : wds = .code y cc maxL ret :: wds') (hlen : (lg_sl av).length ≤ maxL)
    (body : ∀ (p : Program) (e : Env) (s : State) (m : MethodId) (below : List Frame) (meth : Method) (c : Code) (A : Nat → Prop) (Q : State → Prop) (ls : Array Slot), wkB p y wds dC dI tys av cc maxL ret s m meth c → (∀ x ∈ c.exceptionTable.toList, False) → wkT k A s s.heap → (∀ q, s.heap.size ≤ q → A q) → va_P (dC, dI) vwCl W0 s.heap → va_D A W0 →
      Q = vx_MQ below (xQ dC dI out A) (xX dC dI W0 out A) av.toArray s mc ms A → lv_has ls maxL (lv_args 0 av) → W p l e rm s m av.toArray below meth c s.heap [] 0 0 Q (F0 m 0 ls [])) : CX k l y wds rm dC dI tys av W0 out mc ms := by
  intro H0
  refine vx_ofW (cc := cc) (maxL := maxL) (ret := ret) hy hw ?_
  intro p e s m args below meth c s₁ B hml hno hv
  obtain ⟨⟨rfl, hsz, hP, hG, hD0⟩, hT⟩ := hv
  subst hsz
  have hl := lv_entry av (n := maxL) hlen
  rw [lg_entry_eq]
  exact body p e s m below meth c (va_A W0 s.heap.size) _ _ ⟨B.exec, B.bytes, hml, B.returns, atoms_spec (ws := wds) B.pre, findClass_of_methodNamed B.named, (name_of_methodNamed B.named B.method).1, B.notSynchronized, hG⟩ hno hT (fun q h => Or.inr h) hP hD0.self rfl hl
theorem wk_retXi {v : Int32} {ty : FieldType} {W1 : va_W} (hexec : p.tables.exec = Jvm.exec) (hb : c.code = cc) (hr : meth.sig.returnType = some ty) (hlocks : meth.locks = false) (hQ : Q = vx_MQ below (xQ dC dI out A) (xX dC dI W0 out A) args s mc ms A) (hn : narrow ty (.int v) = .int v) (ho : out = .inr (some (.int v), W1)) (hP : va_P (dC, dI) vwCl W1 H) (hD : va_D A W1) (hS : va_S A s.heap H locs) (hc : cells ≤ mc) (hs : slots ≤ ms) (hdg : decode cc pc = .ok (.ireturn, 1)) :
    W p l e R s m args below meth c H locs cells slots Q (F0 m pc ls [.int v]) := by
  subst hQ
  refine W.widen hc hs (vx_ret ?_)
  exact W.zret hexec hb hr hn (fun t ht _ => ⟨⟨_, W1, ho, rfl, by rw [ht]; exact hP, hD⟩, hS.F ht⟩) hS.2.2 hdg hlocks
theorem wk_retXv {W1 : va_W} (hexec : p.tables.exec = Jvm.exec) (hb : c.code = cc) (hr : meth.sig.returnType = none) (hlocks : meth.locks = false) (hQ : Q = vx_MQ below (xQ dC dI out A) (xX dC dI W0 out A) args s mc ms A) (ho : out = .inr (none, W1)) (hP : va_P (dC, dI) vwCl W1 H) (hD : va_D A W1) (hS : va_S A s.heap H locs) (hc : cells ≤ mc) (hs : slots ≤ ms) (hdg : decode cc pc = .ok (.return_, 1)) :
    W p l e R s m args below meth c H locs cells slots Q (F0 m pc ls []) := by
  subst hQ
  refine W.widen hc hs (vx_ret ?_)
  exact W.vret hexec hb hr (fun t ht _ => ⟨⟨_, W1, ho, rfl, by rw [ht]; exact hP, hD⟩, hS.F ht⟩) hS.2.2 hdg hlocks
/-- thrown in a callee, not caught here -/
theorem wk_outX {f : Int32} {ce : Cell} {q : Addr} (hno : ∀ x ∈ c.exceptionTable.toList, False) (hlocks : meth.locks = false) (hQ : Q = vx_MQ below (xQ dC dI out A) (xX dC dI W0 out A) args s mc ms A) (ho : out = .inl f) (hP : va_P (dC, dI) vwCl W0 H) (hD : va_D A W0) (hS : va_S A s.heap H locs) (hc : cells ≤ mc) (hs : slots ≤ ms) (hcell : H[q]? = some ce) (hv : ce.vm = .none) (hcl : s.vm.findClass (exN f) = some ce.cls) :
    vx_W p l e R s m args below meth c H locs cells slots Q (F0 m pc ls rest) q := by
  subst hQ
  exact vx_out (fun x hx => (hno x hx).elim) hlocks hcell hv hcl (fun t ht _ => ⟨⟨f, ho, rfl, by rw [ht]; exact hP, hD⟩, hS.F ht⟩) hS.2.2 hc hs
theorem wk_callX (hr : vx_Run p l e R s m args below meth c H locs cells slots mc ms (F0 m pc ls st0) rest (xQ dC dI out (va_A wc H.size) a) (xX dC dI wc out (va_A wc H.size)) (va_A wc H.size)) (hP : va_P (dC, dI) vwCl ws H) (hD : va_D A0 ws) (hS : va_S A0 H0 H locs) (hA : ∀ q, H0.size ≤ q → A0 q)
    (isC isR perm : List Nat) (hC : isC.map (fun i => ws[i]?) = wc.map some) (hR : isR.map (fun i => ws[i]?) = (isR.filterMap (fun i => ws[i]?)).map some) (hn : va_nd isR = true) (hdis : ∀ i ∈ isR, i ∉ isC) (hpn : va_nd perm = true) (hp0 : perm.map (fun i => (isR.filterMap (fun i => ws[i]?) ++ wc)[i]?) = ws.map some)
    (kx : ∀ (f : Int32) (ce : Cell) (q9 : Addr) (H1 : Heap) (locs1 : List Loc), out = .inl f → va_P (dC, dI) vwCl ws H1 → va_D A0 ws → va_S A0 H0 H1 locs1 → H1[q9]? = some ce → ce.vm = .none → s.vm.findClass (exN f) = some ce.cls → vx_W p l e R s m args below meth c H1 locs1 (cells + mc) (slots + ms) Q (F0 m pc ls rest) q9)
    (kk : ∀ (ov : Option Value) (w1 : va_W), out = .inr (ov, w1) → ∀ (H1 : Heap) (locs1 : List Loc), (∀ ws' : va_W, perm.map (fun i => (isR.filterMap (fun i => ws[i]?) ++ w1)[i]?) = ws'.map some → va_P (dC, dI) vwCl ws' H1 ∧ va_D A0 ws') → va_S A0 H0 H1 locs1 → W p l e R s m args below meth c H1 locs1 (cells + mc) (slots + ms) Q (F0 m (pc + 3) ls (ov.toList ++ rest))) : W p l e R s m args below meth c H locs cells slots Q (F0 m pc ls st0) := by
  have hF := va_free (wc := wc) hD hS hA isC hC
  have key : ∀ {H1 : Heap} {w1 : va_W}, (∀ q : Nat, q < H.size → ¬ va_A wc H.size q → H1[q]? = H[q]?) → va_P (dC, dI) vwCl w1 H1 → va_D (va_A wc H.size) w1 → ∀ ws' : va_W, perm.map (fun i => (isR.filterMap (fun i => ws[i]?) ++ w1)[i]?) = ws'.map some → va_P (dC, dI) vwCl ws' H1 ∧ va_D A0 ws' := by
    intro H1 w1 hk hP1 hD1 ws' hp
    obtain ⟨hP2, hD2⟩ := va_join (wr := isR.filterMap (fun i => ws[i]?)) hP hD isC isR hC hR hn hdis hk hF hP1 hD1
    refine ⟨fun k q hq => ?_, hD2.sub perm hpn hp⟩
    have h1 : (perm.map (fun i => (isR.filterMap (fun i => ws[i]?) ++ w1)[i]?))[k]? = some (some q) := by rw [hp, List.getElem?_map, hq]; rfl
    rw [List.getElem?_map] at h1
    cases hi : perm[k]? with
    | none => rw [hi] at h1; cases h1
    | some i => rw [hi] at h1; exact hP2 i q (Option.some.inj h1)
  have hloc : ∀ {H1 : Heap} {L : List Loc}, H.size ≤ H1.size → (∀ q : Nat, q < H.size → ¬ va_A wc H.size q → H1[q]? = H[q]?) → (∀ q ∈ L, va_A wc H.size q.base) → va_S A0 H0 H1 (locs ++ L) := by
    intro H1 L hzz hk hL
    refine ⟨Nat.le_trans hS.1 hzz, fun q h1 h2 => by rw [hk q (Nat.lt_of_lt_of_le h1 hS.1) (fun z => h2 (hF q z))]; exact hS.2.1 q h1 h2, fun q hq => ?_⟩
    rcases List.mem_append.mp hq with h | h
    · exact hS.2.2 q h
    · exact hF _ (hL q h)
  intro T hT X
  rcases hr T hT X with ⟨v, st₀, t, T', L, h0, X', hL, e1, e2, ⟨⟨ov, w1, ho, hv, hP1, hD1⟩, hzz, hk⟩, st⟩ | ⟨q, st₀, t, T', L, E, ce, h0, X', hL, e1, e2, ⟨⟨f, ho, hE, hP1, hD1⟩, hzz, hk⟩, hce, hcv, hcl, st⟩
  · cases hv
    rw [h0] at hzz hk
    rw [← e1] at hP1 hzz hk
    obtain ⟨t2, a1, b1⟩ := kk v w1 ho T'.heap (locs ++ L) (key hk hP1 hD1) (hloc hzz hk hL) T' rfl X'
    exact ⟨t2, st t2 a1, b1⟩
  · subst hE
    rw [h0] at hzz hk
    rw [← e1] at hP1 hzz hk hce
    obtain ⟨k1, k2⟩ := key hk hP1 hD1 ws hp0
    obtain ⟨t2, a1, b1⟩ := kx f ce q T'.heap (locs ++ L) ho k1 k2 (hloc hzz hk hL) hce hcv hcl T' rfl X'
    exact ⟨t2, st.trans a1, b1⟩
end WX
/-- refuse's own words, and what no list of words carries -/
theorem bad0 : (vx_atS RX6 256 xIO xNames).filter (fun w => !goodWord w) = [.declares ⟨"java/lang/RuntimeException", "<init>", "(Ljava/lang/String;)V"⟩, .declares ⟨"java/lang/Exception", "<init>", "(Ljava/lang/String;)V"⟩, .declares ⟨"java/lang/Throwable", "<init>", "(Ljava/lang/String;)V"⟩, .castable xIO xIO] := by decide +kernel
theorem bad1 : (vx_atS RX6 263 xIA xNames).filter (fun w => !goodWord w) = [.declares ⟨"java/lang/RuntimeException", "<init>", "(Ljava/lang/String;)V"⟩, .declares ⟨"java/lang/Exception", "<init>", "(Ljava/lang/String;)V"⟩, .declares ⟨"java/lang/Throwable", "<init>", "(Ljava/lang/String;)V"⟩, .castable xIA xIA] := by decide +kernel
theorem bad2 : (vx_atS RX6 268 xIS xNames).filter (fun w => !goodWord w) = [.declares ⟨"java/lang/RuntimeException", "<init>", "(Ljava/lang/String;)V"⟩, .declares ⟨"java/lang/Exception", "<init>", "(Ljava/lang/String;)V"⟩, .declares ⟨"java/lang/Throwable", "<init>", "(Ljava/lang/String;)V"⟩, .castable xIS xIS] := by decide +kernel
set_option maxHeartbeats 4000000 in
set_option maxRecDepth 100000 in
theorem c_X6_refuse (l : Launch) (hflags : l.stackTraces = false) (dC : Nat → ClassId) (dI : Nat → Nat → Nat) (cI cD cJ : ClassId) (kk : wAd) (p0 : Int32) (out : wOut) (ho : out = if rfs p0 = true then .inl p0 else .inr (none, [])) : CX kk l yX6_refuse wsX6_refuse ({ frames := 6, cells := 1, slots := 6, locals := 82 } : Room) dC dI (wTys cI cD cJ) [.int p0] [] out 1 6 := by
  refine wk_enterX (cc := cX6_refuse) (maxL := 1) (ret := none) (by decide) rfl (Nat.le_of_ble_eq_true rfl) ?_
  intro p e s m below meth c A Q ls hB hno hT hA hP hD hQ hl
  obtain ⟨hx, hb, hml, hr, hts, hown, hname, hlocks, hG⟩ := hB
  have hown : s.vm.findClass RX6 = some m.cls := hown
  have hS : va_S A s.heap s.heap [] := va_S.rf
  have hl : lv_has ls 1 [(0, .int p0)] := hl
  have hat0 : ∀ w ∈ vx_atS RX6 256 xIO xNames, w.before ([.int p0] : List Value).toArray s = true := vx_hat (fun w h => hts w (List.mem_cons_of_mem _ (List.mem_append_left _ (List.mem_append_left _ (List.mem_append_right _ h))))) (fun w h => by rw [bad0] at h; exact h) (vx_c (va_Nw.use rfl (hG.2 _ (List.mem_of_getElem? (i := 17) rfl))) (vx_c (va_Nw.use rfl (hG.2 _ (List.mem_of_getElem? (i := 18) rfl))) (vx_c (va_Nw.use rfl (hG.2 _ (List.mem_of_getElem? (i := 19) rfl))) (vx_c (va_Nw.use rfl (hG.2 _ (List.mem_of_getElem? (i := 13) rfl))) vx_n))))
  have hat1 : ∀ w ∈ vx_atS RX6 263 xIA xNames, w.before ([.int p0] : List Value).toArray s = true := vx_hat (fun w h => hts w (List.mem_cons_of_mem _ (List.mem_append_left _ (List.mem_append_right _ h)))) (fun w h => by rw [bad1] at h; exact h) (vx_c (va_Nw.use rfl (hG.2 _ (List.mem_of_getElem? (i := 17) rfl))) (vx_c (va_Nw.use rfl (hG.2 _ (List.mem_of_getElem? (i := 18) rfl))) (vx_c (va_Nw.use rfl (hG.2 _ (List.mem_of_getElem? (i := 19) rfl))) (vx_c (va_Nw.use rfl (hG.2 _ (List.mem_of_getElem? (i := 14) rfl))) vx_n))))
  have hat2 : ∀ w ∈ vx_atS RX6 268 xIS xNames, w.before ([.int p0] : List Value).toArray s = true := vx_hat (fun w h => hts w (List.mem_cons_of_mem _ (List.mem_append_right _ h))) (fun w h => by rw [bad2] at h; exact h) (vx_c (va_Nw.use rfl (hG.2 _ (List.mem_of_getElem? (i := 17) rfl))) (vx_c (va_Nw.use rfl (hG.2 _ (List.mem_of_getElem? (i := 18) rfl))) (vx_c (va_Nw.use rfl (hG.2 _ (List.mem_of_getElem? (i := 19) rfl))) (vx_c (va_Nw.use rfl (hG.2 _ (List.mem_of_getElem? (i := 15) rfl))) vx_n))))
  have hxf : ∀ {f : Int32}, out = .inl f → ∀ t : State, s.vm.Alike t.vm → s.heap.size ≤ t.heap.size → (∀ q : Nat, q < s.heap.size → t.heap[q]? = s.heap[q]?) → xX dC dI [] out A (exN f) s t :=
    fun {f} hf t _ h1 h2 => ⟨⟨f, hf, rfl, fun k q h => by simp at h, ⟨fun i j p q h => by simp at h, fun k q h => by simp at h⟩⟩, h1, fun q h3 _ => h2 q h3⟩
  have hgd : ∀ {is : Nat} {X : String} {L : List Cond}, (L.all vx_ot) = true → ∀ w ∈ L, vx_ot w = true := fun {_ _ L} h w hw => List.all_eq_true.mp h w hw
  refine lv_iload_n hx hb dX6_refuse_0 rfl (lv_at hl 0 rfl) ?_
  refine lv_iconst (v := 1) hx hb dX6_refuse_1 (by decide) ?_
  refine lv_icmp_ne (tgt := 15) hx hb dX6_refuse_2 (by decide) (fun c1 => ?_) (fun c1 => ?_)
  · refine lv_iload_n hx hb dX6_refuse_15 rfl (lv_at hl 0 rfl) ?_
    refine lv_iconst (v := 2) hx hb dX6_refuse_16 (by decide) ?_
    refine lv_icmp_ne (tgt := 31) hx hb dX6_refuse_17 (by decide) (fun c2 => ?_) (fun c2 => ?_)
    · refine lv_iload_n hx hb dX6_refuse_31 rfl (lv_at hl 0 rfl) ?_
      refine lv_iconst (v := 3) hx hb dX6_refuse_32 (by decide) ?_
      refine lv_icmp_ne (tgt := 47) hx hb dX6_refuse_33 (by decide) (fun c3 => ?_) (fun c3 => ?_)
      · refine wk_retXv (W1 := []) hx hb hr hlocks hQ ?_ hP hD hS (Nat.zero_le _) (Nat.zero_le _) dX6_refuse_47
        rw [ho, if_neg (by simp [rfs, c1, c2, c3])]
      · subst c3
        have hof : out = .inl 3 := by rw [ho]; rfl
        subst hQ
        exact vx_throwSW (cls := xIS) (names := xNames) (own := RX6) (text := wtx2) hx hb hflags hown (by decide +kernel) (by decide +kernel) (hts (.classLink RX6 264 xIS) (List.mem_of_getElem? (i := 5) rfl)) (hts (.initialized xIS) (List.mem_of_getElem? (i := 6) rfl)) hT.2.2.2.2.2.2.2.2 hat2 (hgd (is := 0) (X := "") (by decide +kernel)) hT.2.2.2.2.2.1.1 hT.2.2.2.2.2.1.2 hS (hl.1.trans hml.symm) dX6_refuse_36 dX6_refuse_39 dX6_refuse_40 dX6_refuse_43 dX6_refuse_46 (fun x h => (hno x h).elim) (by decide) (by decide) (by decide) (by decide) hlocks (hxf hof) hS.2.2 (by decide) (by decide)
    · subst c2
      have hof : out = .inl 2 := by rw [ho]; rfl
      subst hQ
      exact vx_throwSW (cls := xIA) (names := xNames) (own := RX6) (text := wtx1) hx hb hflags hown (by decide +kernel) (by decide +kernel) (hts (.classLink RX6 259 xIA) (List.mem_of_getElem? (i := 3) rfl)) (hts (.initialized xIA) (List.mem_of_getElem? (i := 4) rfl)) hT.2.2.2.2.2.2.2.1 hat1 (hgd (is := 0) (X := "") (by decide +kernel)) hT.2.2.2.2.2.1.1 hT.2.2.2.2.2.1.2 hS (hl.1.trans hml.symm) dX6_refuse_20 dX6_refuse_23 dX6_refuse_24 dX6_refuse_27 dX6_refuse_30 (fun x h => (hno x h).elim) (by decide) (by decide) (by decide) (by decide) hlocks (hxf hof) hS.2.2 (by decide) (by decide)
  · subst c1
    have hof : out = .inl 1 := by rw [ho]; rfl
    subst hQ
    exact vx_throwS (cls := xIO) (names := xNames) (own := RX6) (text := wtx0) hx hb hflags hown (by decide +kernel) (by decide +kernel) (hts (.classLink RX6 252 xIO) (List.mem_of_getElem? (i := 1) rfl)) (hts (.initialized xIO) (List.mem_of_getElem? (i := 2) rfl)) hT.2.2.2.2.2.2.1 hat0 (hgd (is := 0) (X := "") (by decide +kernel)) hT.2.2.2.2.2.1.1 hT.2.2.2.2.2.1.2 hS (hl.1.trans hml.symm) dX6_refuse_5 dX6_refuse_8 dX6_refuse_9 dX6_refuse_11 dX6_refuse_14 (fun x h => (hno x h).elim) (by decide) (by decide) (by decide) (by decide) hlocks (hxf hof) hS.2.2 (by decide) (by decide)
/-- refuse, where it does not throw -/
theorem c_X6_refuse0 (l : Launch) (dC : Nat → ClassId) (dI : Nat → Nat → Nat) (cI cD cJ : ClassId) (_kk : wAd) (p0 : Int32) (h : ¬ rfs p0 = true) : CP l yX6_refuse wsX6_refuse ({ frames := 0, cells := 0, slots := 0, locals := 0 } : Room) dC dI (wTys cI cD cJ) [.int p0] ([] : va_W) none := by
  have h1 : ¬ p0 = 1 := fun q => h (by rw [q]; rfl)
  have h2 : ¬ p0 = 2 := fun q => h (by rw [q]; rfl)
  have h3 : ¬ p0 = 3 := fun q => h (by rw [q]; rfl)
  refine wk_enterP (cc := cX6_refuse) (maxL := 1) (ret := none) (by decide) rfl (Nat.le_of_ble_eq_true rfl) ?_
  intro p e s m below meth c A Q ls hB hP hD hA hQ hl
  obtain ⟨hx, hb, hml, hr, hts, hown, hname, hlocks, hG⟩ := hB
  have hS : va_S A s.heap s.heap [] := va_S.rf
  have hl : lv_has ls 1 [(0, .int p0)] := hl
  refine lv_iload_n hx hb dX6_refuse_0 rfl (lv_at hl 0 rfl) ?_
  refine lv_iconst (v := 1) hx hb dX6_refuse_1 (by decide) ?_
  refine lv_icmp_ne (tgt := 15) hx hb dX6_refuse_2 (by decide) (fun _ => ?_) (fun c1 => absurd c1 h1)
  refine lv_iload_n hx hb dX6_refuse_15 rfl (lv_at hl 0 rfl) ?_
  refine lv_iconst (v := 2) hx hb dX6_refuse_16 (by decide) ?_
  refine lv_icmp_ne (tgt := 31) hx hb dX6_refuse_17 (by decide) (fun _ => ?_) (fun c2 => absurd c2 h2)
  refine lv_iload_n hx hb dX6_refuse_31 rfl (lv_at hl 0 rfl) ?_
  refine lv_iconst (v := 3) hx hb dX6_refuse_32 (by decide) ?_
  refine lv_icmp_ne (tgt := 47) hx hb dX6_refuse_33 (by decide) (fun _ => ?_) (fun c3 => absurd c3 h3)
  exact wk_retPv hx hb hr hlocks hQ rfl hS dX6_refuse_47
