/-! PART 23b: a call of Enum.ordinal, without a word that its class is initialized (the tables have none): stepped through directly -/
section ORD
variable {p : Program} {l : Launch} {e : Env} {R : Room} {s : State} {m : MethodId} {args : Array Value} {below : List Frame} {meth : Method} {c : Code} {H H0 : Heap} {locs : List Loc} {cells slots : Nat} {Q : State → Prop} {cc : ByteArray} {A : Nat → Prop} {t : Nat} {v : Int32}
/-- the callee's way, from its invocation to its return -/
theorem ord_back (hexec : p.tables.exec = Jvm.exec) (hinst : (Cond.instanceMethod yJx29ce0_ordinal_8abf5).before args s = true) (hcode : (Cond.code yJx29ce0_ordinal_8abf5 cJx29ce0_ordinal_8abf5 1 (some .int)).before args s = true) (hfl : (Cond.fieldLink RJx29ce0 7 "java/lang/Enum" "ordinal" "I").before args s = true)
    (hF : va_OF "java/lang/Enum" "ordinal" "I" (.int v) t A s H) (hframes : 1 ≤ R.frames) (hlocals : 20 ≤ R.locals) :
    Free.Back l R p e below s args yJx29ce0_ordinal_8abf5 3 8 (fun P a => P.U.heap = H ∧ P.locs = locs ∧ P.cells = cells ∧ P.slots = slots ∧ a = #[.ref t]) (fun _ _ w B => w = some (.int v) ∧ B.U.heap = H ∧ B.locs = locs ∧ B.cells = cells ∧ B.slots = slots) := by
  rintro m1 meth1 c1 ⟨U, Ls, k0, n0⟩ g ig mk1 a X hg hsize hdg hW hn ⟨h1, h2, h3, h4, h5⟩
  dsimp only [Free.Pt.U, Free.Pt.locs, Free.Pt.cells, Free.Pt.slots] at h1 h2 h3 h4 X hn ⊢
  subst h5
  obtain ⟨cf, kF, iF, fF, cell, hff, hst, hc, hkn, hsl, -⟩ := hF
  obtain ⟨mk, methM, hnamed, hmethM, hstM, habM⟩ := Cond.instanceMethod_spec hinst
  obtain ⟨methY, cY, hmY, hcY, hbY, hlY, hrY, hlkY, -, -⟩ := Cond.code_spec hnamed hcode
  have hnU : U.methodNamed? yJx29ce0_ordinal_8abf5 = some mk := X.named hnamed
  cases hn.symm.trans hnU
  have hmU : U.vm.method? mk1 = some methY := by rw [X.warmed.alike.method?]; exact hmY
  have hplain : U.plainMethod mk1 := State.plainMethod.of_named (s := U) (by decide) hnU hmU
  subst hg
  have hroom := X.notFull (g := g) (vars := cY.maxLocals) hsize hframes (by rw [hlY]; omega)
  have hV := X.here.enter #[.ref t] hmU hcY hplain
  have hfr := frames_entered (g := g) X.here.top (.java (entryFrame mk1 #[.ref t] cY.maxLocals))
  have hset := fun vm => setFrames_entered (s := U.setVm vm) (g := g) X.here.top (.java (entryFrame mk1 #[.ref t] cY.maxLocals))
  have hWV : s.WarmedH ((U.setTop g).pushFrame (.java (entryFrame mk1 #[.ref t] cY.maxLocals))).vm := X.warmed
  have hpl : e.platform.magicAccessors = ({} : Platform).magicAccessors := by rw [X.admits.platform]
  obtain ⟨ci', cfl, k', i', f', hi', hlinks, hright⟩ := Cond.fieldLink_spec (findClass_of_methodNamed hnamed) hfl e.platform hpl
  cases hff.symm.trans hi'
  obtain ⟨hkk, hf2⟩ := State.fieldFound?_spec hff
  rw [hlY] at hV hfr hset hWV
  obtain ⟨vm', hW', st⟩ := Steps.getfieldCold (tb := p.tables) (s₀ := s) (f := { method := mk1, pc := 1, locals := #[.val (.ref t)], stack := [.ref t], locked := none }) (rest := []) (a := t) (cell := cell) (v := .int v) hV hexec (by rw [hbY]; exact dJx29ce0_ordinal_8abf5_1) hWV hlinks hright hkk hf2 hst rfl (by show U.heap[t]? = some cell; rw [h1]; exact hc) hkn hsl
  refine ⟨some (.int v), ⟨U.setVm vm', Ls, k0, n0⟩, X.noted hW', ⟨rfl, h1, h2, h3, h4⟩, ?_⟩
  rw [doInvoke_enter X.here.top [] hmU hcY hlkY hroom, hlY]
  show Steps p.tables e below ((((U.setTop g).pushFrame (.java (entryFrame mk1 #[.ref t] 1)))).setTop { method := mk1, pc := 0, locals := #[.val (.ref t)], stack := [], locked := none }) _
  have hV2 : At ((((U.setTop g).pushFrame (.java (entryFrame mk1 #[.ref t] 1)))).setVm vm') mk1 cY below := hV.setVm (X.warmed.alike.symm.trans hW'.alike)
  have hm2 : ((((U.setTop g).pushFrame (.java (entryFrame mk1 #[.ref t] 1)))).setVm vm').vm.method? mk1 = some methY := by show vm'.method? mk1 = some methY; rw [hW'.alike.method?]; exact hmY
  have hcg : ((((U.setTop g).pushFrame (.java (entryFrame mk1 #[.ref t] 1)))).setVm vm').code? g.method = some c1 := by
    have := (X.here.setVm (vm' := vm') (X.warmed.alike.symm.trans hW'.alike)).code
    rw [State.code?_eq] at this ⊢
    simpa [State.pushFrame, State.setFrames] using this
  jvm_step hV [hV.top, hexec, hbY, dJx29ce0_ordinal_8abf5_0]
  refine ⟨rfl, st _ ?_⟩
  jvm_step hV2 [hV2.top, hexec, hbY, dJx29ce0_ordinal_8abf5_4, hm2, hrY, narrow]
  refine ⟨_, State.topJava?_setTop' _ hV2.top, v, [], rfl, methY, hm2, .int, hrY, fun acts => ?_⟩
  dsimp only
  have hfr2 : ((((U.setTop g).pushFrame (.java (entryFrame mk1 #[.ref t] 1)))).setVm vm').frames = .java (entryFrame mk1 #[.ref t] 1) :: .java g :: U.frames.tail := by exact hfr
  rw [doReturn_leave (g := g) (meth := methY) (cg := c1) (ig := ig) (len := 3) acts hfr2 hm2 hlkY rfl rfl hcg hdg]
  rw [show ((((U.setTop g).pushFrame (.java (entryFrame mk1 #[.ref t] 1)))).setVm vm').setFrames (.java g :: U.frames.tail) = (U.setVm vm').setTop g from hset vm', State.setTop_setTop]
  exact Steps.refl _
end ORD
