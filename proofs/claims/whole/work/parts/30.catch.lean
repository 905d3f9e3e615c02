/-! a caller that catches; methods with a handler -/
section Cat
variable {p : Program} {l : Launch} {e : Env} {R : Room} {s : State} {m : MethodId} {args : Array Value} {below : List Frame} {meth : Method} {c : Code} {H : Heap} {locs : List Loc} {cells slots : Nat} {Q : State → Prop}
variable {y : MethodName} {bytes cc : ByteArray} {maxL nL index n mc ms pc : Nat} {ret : Option FieldType} {rm : Room} {Pc : Array Value → State → Prop} {Qc : Array Value → State → Outcome → State → Prop} {free : Addr → Prop} {own C cls : String} {b : Addr} {As rest st : List Value} {ls : Array Slot}
/-- one entry in the table, and it takes the object: its class is noted in the pool, and the frame goes on at the handler -/
theorem ct_link {T : State} (X : Stand p l e R s m args below meth c T locs cells slots) (x : Addr) {g : JFrame} (hg : g.method = m) (hown : s.vm.findClass own = some m.cls) {xe : ExceptionTableEntry} (htab : c.exceptionTable.toList = [xe]) (hcov : covers xe g.pc = true) (h0 : xe.catchType ≠ 0)
    (hlk : (Cond.classLink own xe.catchType cls).before args s = true) {ce : Cell} (hce : T.heap[x]? = some ce) (hns : ce.vm.isStatics = false) (hcl : s.vm.findClass cls = some ce.cls) (hself : s.vm.assignable ce.cls ce.cls = true) :
    ∃ vm', Stand p l e R s m args below meth c (T.setVm vm') locs cells slots ∧ ∀ tg, Steps p.tables e below ((T.setVm vm').setTop { g with pc := xe.handlerPc, stack := [.ref x] }) tg → Steps p.tables e below ((T.setTop g).pushFrame (.throwing x)) tg := by
  subst hg
  obtain ⟨k0, hk0, hL⟩ := Cond.classLink_spec hown hlk e.platform (by rw [X.admits.platform])
  obtain rfl := Option.some.inj (hcl.symm.trans hk0)
  have hLT := X.warmed.classLinks hL
  obtain ⟨dk, _, _, kt, hdk, _, _, _, _, hkt, _, hopen⟩ := hL.here
  have hWn : s.WarmedH (T.vm.noted g.method.cls xe.catchType (.cls ce.cls)) := X.warmed.noted hdk hopen (State.rightAt_cls hL)
  refine ⟨_, X.noted hWn, fun tg hgo => ?_⟩
  have hA := X.here
  obtain ⟨kT, hkT, -⟩ := hWn.alike.2.2 _ _ hkt
  have hfit : (T.vm.noted g.method.cls xe.catchType (.cls ce.cls)).assignable ce.cls ce.cls = true := by rw [hWn.alike.assignable]; exact hself
  have hns' := VmData.ne_statics_of hns
  have hS1 : ((T.setTop g).pushFrame (.throwing x)).vm = T.vm := Stand.throwing_vm T g x
  have hS2 : ((T.setTop g).pushFrame (.throwing x)).heap[x]? = some ce := by rw [Stand.throwing_heap]; exact hce
  have hfind : ∀ (Q : Handler → Pre) (E : CtlPost) (d : Bool) (acts : List Action), wp (findHandler g x) Q E e d acts ((T.setTop g).pushFrame (.throwing x)) ↔ Q (.found xe.handlerPc) d acts (((T.setTop g).pushFrame (.throwing x)).setVm (T.vm.noted g.method.cls xe.catchType (.cls ce.cls))) := by
    intro Q E d acts
    rw [Jvm.W.findHandler_eq (meth := meth) (code := c) (by rw [hS1]; exact X.method') X.code, htab]
    have hop := (resolveClass_links e.toSetting (vm := ((T.setTop g).pushFrame (.throwing x)).vm) (by rw [hS1]; exact hLT)).op (op := VmOp.resolveClass g.method.cls xe.catchType) rfl
    rw [hS1] at hop
    have hcov' := hcov
    simp only [covers] at hcov'
    simp [findHandler.go, hcov', h0, hS1, hop.1, hop.2, hS2, hns', hkT, hfit, VmOp.dirties, VmOp.acts]
  have hstep : (stepThrowing e ((T.setTop g).pushFrame (.throwing x)) x (.java g :: below)).1 = (((T.setTop g).pushFrame (.throwing x)).setVm (T.vm.noted g.method.cls xe.catchType (.cls ce.cls))).setFrames (.java { g with pc := xe.handlerPc, stack := [.ref x] } :: below) := by
    simp only [stepThrowing, searchFrame, vmDo]
    generalize hr : Sem.go _ e false [] ((T.setTop g).pushFrame (.throwing x)) = res
    obtain ⟨as, rfl, ha⟩ := Sem.eq_ok_of hr (a := Handler.found xe.handlerPc) (s' := ((T.setTop g).pushFrame (.throwing x)).setVm (T.vm.noted g.method.cls xe.catchType (.cls ce.cls))) (acts' := []) (by simp [hfind _ _ _ _])
    rfl
  obtain ⟨hon, hwi⟩ := hA.throwing x
  refine Steps.head hon hwi ?_
  obtain ⟨g₀, hfr⟩ := X.frames_eq
  rw [stepThread_throwing (frames_entered hA.top _), X.tail, hstep]
  have hfr' : (T.setVm (T.vm.noted g.method.cls xe.catchType (.cls ce.cls))).frames = .java g₀ :: below := hfr
  rw [State.setTop_of_frames _ hfr'] at hgo
  have e1 : (((T.setTop g).pushFrame (.throwing x)).setVm (T.vm.noted g.method.cls xe.catchType (.cls ce.cls))).setFrames (.java { g with pc := xe.handlerPc, stack := [.ref x] } :: below) = (T.setVm (T.vm.noted g.method.cls xe.catchType (.cls ce.cls))).setFrames (.java { g with pc := xe.handlerPc, stack := [.ref x] } :: below) := by
    rw [State.setTop_of_frames _ hfr, State.pushFrame, State.setFrames_setFrames]
    exact State.setFrames_setFrames (T.setVm (T.vm.noted g.method.cls xe.catchType (.cls ce.cls))) _ _
  rw [e1]
  exact hgo
end Cat
