/-! the law's calls -/
section Law
variable {p : Program} {l : Launch} {e : Env} {R : Room} {s : State} {m : MethodId} {args : Array Value} {below : List Frame} {meth : Method} {c : Code} {H H0 : Heap} {locs : List Loc} {cells slots : Nat} {Q : State → Prop}
variable {y : MethodName} {bytes cc : ByteArray} {maxL nL index n mc ms pc : Nat} {ret : Option FieldType} {rm : Room} {Pc : Array Value → State → Prop} {Qc : Array Value → State → Outcome → State → Prop} {free : Addr → Prop} {own C cls : String} {b : Addr} {As rest st : List Value} {ls : Array Slot} {r : Int32} {o : Option Value} {D : va_G} {ws : va_W} {A A0 : Nat → Prop} {hs : List (Nat × Nat × Nat × Nat)}
/-- a call that ends by a throw, caught by the one handler -/
theorem th_V (S : CallFix p m c cc nL s args TB own) (hM : Thr l y (Cond.code y bytes maxL ret :: TB) rm Pc cls mc ms) (hc : Cond.code y bytes maxL ret ∈ TB) (hs : Cond.instanceMethod y ∈ TB) (hse : Cond.selects C y y ∈ TB) (hi : Cond.initialized y.cls ∈ TB) (hd : okName y n) (hrc : rm.cells = mc ∧ rm.slots = ms)
    (hl : Cond.methodLink own index y ∈ TB) (hR : rm.frames + 1 ≤ R.frames ∧ 8 + (maxL + 11) + rm.locals ≤ R.locals) (hp : PreV s H C b Pc As) (hn : As.length = n) (hst : st = As.reverse ++ .ref b :: rest) (hsize : ls.size = nL) (hW : (rest.map fun v => v.category).sum ≤ 8) (hf : cells + mc ≤ R.cells ∧ slots + ms ≤ R.slots) (hdg : decode cc pc = .ok (.invokevirtual index, 3))
    {xe : ExceptionTableEntry} (htab : c.exceptionTable.toList = [xe]) (hcov : covers xe pc = true) (h0 : xe.catchType ≠ 0) (hlk : Cond.classLink own xe.catchType cls ∈ TB)
    (kk : ∀ (x : Addr) (H1 : Heap), H.size ≤ H1.size → (∀ q : Nat, q < H.size → H1[q]? = H[q]?) → W p l e R s m args below meth c H1 locs (cells + mc) (slots + ms) Q (F0 m xe.handlerPc ls [.ref x])) : W p l e R s m args below meth c H locs cells slots Q (F0 m pc ls st) := by
  obtain ⟨hx, hb, hml, ho, hts⟩ := S
  obtain ⟨hbl, ⟨cellB, hcB, hoB, hclB⟩, hPc⟩ := hp
  obtain ⟨mk, methM, hnamed, hmethM, hstM, habM⟩ := Cond.instanceMethod_spec (hts _ hs)
  obtain ⟨methM', cM, hmethM', hcM, -, hlM, -, -, -, hsigM⟩ := Cond.code_spec hnamed (hts _ hc)
  obtain rfl := Option.some.inj (hmethM.symm.trans hmethM')
  obtain ⟨c2, r2, m2, q1, q2, q3, q4, kP, hkP, hkPi⟩ := Cond.selects_spec (hts _ hse)
  obtain rfl := Option.some.inj (hclB.symm.trans q1)
  obtain rfl := Option.some.inj ((State.methodFound?_of_named hnamed ⟨hd.1, hd.2.1⟩).symm.trans q2)
  obtain rfl := Option.some.inj (hnamed.symm.trans q3)
  have hlen : As.length = methM.sig.parameters.length := by
    have h2 := hd.2.2
    rw [hsigM] at h2
    exact hn.trans (Option.some.inj h2).symm
  intro T hT X
  obtain ⟨vm₁, X₁, st₁⟩ := X.invokevirtual hx ho (hts _ hl) hnamed hmethM hstM hkP hkPi ⟨hd.1, hd.2.1⟩ (a := b) (cell := cellB) (by rw [hT]; exact hcB) (fun z h => by rw [h] at hoB; cases hoB) (by rw [Launch.admits_selectMethod X.admits]; exact q4) hmethM habM hkP hkPi (g := F0 m pc ls st) rfl (argsL := As) (rest := rest) hlen hst (by rw [hb]; exact hdg)
  have hn1 := X₁.named hnamed
  have hal : s.vm.Alike vm₁ := X₁.warmed.alike
  obtain ⟨kP1, hkP1, heP1⟩ := X₁.warmed.alike.2.2 _ _ hkP
  have hini0 : kP.init = .initialized := Cond.initialized_spec (findClass_of_methodNamed hnamed) hkP (hts _ hi)
  have hini : kP1.init = .initialized := by rw [heP1]; exact hini0
  have happ : (headSpec (Cond.code y bytes maxL ret :: TB) rm).appliesLoose y e.platform ((T.setVm vm₁).calling (F0 m pc ls rest) mk (Value.ref b :: As).toArray) = true := by
    refine Spec.appliesLoose_calling (g := F0 m pc ls rest) X₁.here (by rw [hb]; exact hdg) hn1 hkP1 hini (X₁.room_calling (g := F0 m pc ls rest) (R' := rm) (hsize.trans hml.symm) (by show vm₁.method? mk = some methM; rw [hal.method?]; exact hmethM) hcM hR.1 (by rw [hlM]; exact Nat.le_trans (Nat.add_le_add_right (Nat.add_le_add_right (lv_room hW) _) _) hR.2) (by rw [hrc.1]; exact hf.1) (by rw [hrc.2]; exact hf.2)) ?_
    exact atoms_intro fun w hw => pay_in hts (good_TB hc) w hw _ _ X₁.warmed
  obtain ⟨mid, hmid⟩ := X₁.here.above
  have hfr : ((T.setVm vm₁).setTop (F0 m pc ls rest)).frames = (.java (F0 m pc ls rest) :: mid) ++ below := by rw [State.frames_setTop' _ X₁.here.top, hmid]; rfl
  obtain ⟨o, s₂, hsteps, -, hend, x, rfl, hE⟩ := Jvm.Free.Steps.callFree hM p X.admits X.cas X.clock (acts := []) hfr happ (hbl _ _ _ _ (hPc (T.setVm vm₁) hT X₁.warmed)) trivial
  rw [State.frames_setTop' _ X₁.here.top, X₁.tail] at hend
  obtain ⟨⟨ce, hce, hns, hfc, hself⟩, hWt, hsame⟩ := hE
  obtain ⟨T', X', hTW, hTs, ht⟩ := X₁.outOfThrown (g := F0 m pc ls rest) rfl (mk := mk) (a := (Value.ref b :: As).toArray) hend hWt hsame
  have hfc' : s.vm.findClass cls = some ce.cls := by
    have q : vm₁.findClass cls = some ce.cls := hfc
    rw [hal.findClass] at q
    exact q
  have hself' : s.vm.assignable ce.cls ce.cls = true := by
    have q : vm₁.assignable ce.cls ce.cls = true := hself
    rw [hal.assignable] at q
    exact q
  rw [ht, Stand.throwing_heap] at hce
  obtain ⟨vm', X'', st₂⟩ := ct_link X' x (g := F0 m pc ls rest) rfl ho htab hcov h0 (hts _ hlk) hce hns hfc' hself'
  rw [List.append_nil] at X''
  have hold : ∀ q : Nat, q < H.size → T'.heap[q]? = H[q]? := fun q hq => by
    have h9 : (T.setVm vm₁).heap[q]? = some H[q] := by show T.heap[q]? = _; rw [hT]; exact Array.getElem?_eq_getElem hq
    have h8 := State.sameButNew.old_cell hTs h9
    rw [Array.getElem?_eq_getElem hq]
    exact h8
  have hsz : H.size ≤ T'.heap.size := by
    have h9 : T.heap.size ≤ T'.heap.size := hTs.2.1
    rw [hT] at h9
    exact h9
  obtain ⟨t, a1, b1⟩ := kk x T'.heap hsz hold (T'.setVm vm') rfl X''
  refine ⟨t, st₁ t (fun acts => ?_), b1⟩
  rw [doInvoke_state]
  refine hsteps.trans ?_
  rw [ht]
  exact st₂ t a1
/-- a method with handlers: its contract out of the walk of its body -/
theorem mw_of (hy : plainName y.cls = true) (hcw : Cond.codeWith y cc maxL ret hs ∈ TB) (body : ∀ p e s m args below meth c, CallFix p m c cc maxL s args TB y.cls → c.exceptionTable.toList.map (fun h => (h.startPc, h.endPc, h.handlerPc, h.catchType)) = hs → meth.sig.returnType = ret → meth.locks = false → Pc args s →
    W p l e rm s m args below meth c s.heap [] 0 0 (MQ below Qc args s mc ms free) (entryFrame m args maxL)) : Met l y TB rm Pc Qc mc ms free := by
  refine MetFree.of_bodyS (code := cc) (maxLocals := maxL) (ret := ret) hy ?_ ?_
  · intro args s m h hn
    obtain ⟨m', meth, c, h0, h1, h2, h3, h4, -, h5, h6, -⟩ := Cond.codeWith_spec (atoms_spec (ws := TB) h _ hcw)
    obtain rfl := Option.some.inj (hn.symm.trans h0)
    exact ⟨meth, c, h1, h2, h3, h4, h5, h6⟩
  · intro p e s m args below meth c s₁ B hml hP _
    have hts := atoms_spec (ws := TB) B.pre
    obtain ⟨m', meth', c', h0, h1, h2, -, -, h7, -⟩ := Cond.codeWith_spec (hts _ hcw)
    have X := Stand.of_body B
    obtain rfl := Option.some.inj (B.named.symm.trans h0)
    obtain rfl := Option.some.inj (h1.symm.trans B.method)
    obtain rfl := Option.some.inj (h2.symm.trans X.code)
    have hh0 : s₁.heap = s.heap := by rw [B.state]; rfl
    obtain ⟨t, a1, o, b1, b2, b3, b4⟩ := body p e s _ args below _ _ ⟨B.exec, B.bytes, hml, findClass_of_methodNamed B.named, hts⟩ h7 B.returns B.notSynchronized hP s₁ hh0 X
    exact ⟨t, o, a1, b1, b2, b3, b4⟩
theorem one_entry {L : List ExceptionTableEntry} {a b c d : Nat} (h : L.map (fun h => (h.startPc, h.endPc, h.handlerPc, h.catchType)) = [(a, b, c, d)]) : ∃ xe : ExceptionTableEntry, L = [xe] ∧ (xe.startPc = a ∧ xe.endPc = b) ∧ xe.handlerPc = c ∧ xe.catchType = d := by
  match L, h with
  | [xe], h =>
    simp only [List.map_cons, List.map_nil, List.cons.injEq, Prod.mk.injEq, and_true] at h
    exact ⟨xe, rfl, ⟨h.1, h.2.1⟩, h.2.2.1, h.2.2.2⟩
/-- behind a call: what the callee left, and what it left alone -/
theorem kept_S (hS : va_S A0 H0 H locs) {H1 : Heap} {L : List Loc} (hA : ∀ q, A q → A0 q) (hz : H.size ≤ H1.size) (hk : ∀ q : Nat, q < H.size → ¬ A q → H1[q]? = H[q]?) (hL : ∀ q ∈ L, A q.base) : va_S A0 H0 H1 (locs ++ L) :=
  ⟨Nat.le_trans hS.1 hz, fun q h1 h2 => by rw [hk q (Nat.lt_of_lt_of_le h1 hS.1) (fun z => h2 (hA q z))]; exact hS.2.1 q h1 h2, fun q hq => by
    rcases List.mem_append.mp hq with h | h
    · exact hS.2.2 q h
    · exact hA _ (hL q h)⟩
/-- a call of an object's method that changes the object: beside its world, what stays -/
theorem lw_V (S : CallFix p m c cc nL s args TB own) (hM : Met l y (Cond.code y bytes maxL ret :: TB) rm Pc (mQ o D ws A) 0 0 A) (hc : Cond.code y bytes maxL ret ∈ TB) (hi : Cond.initialized y.cls ∈ TB) (hs : Cond.instanceMethod y ∈ TB) (hse : Cond.selects C y y ∈ TB) (hd : okName y n) (hrc : rm.cells = 0 ∧ rm.slots = 0)
    (hl : Cond.methodLink own index y ∈ TB) (hR : rm.frames + 1 ≤ R.frames ∧ 8 + (maxL + 11) + rm.locals ≤ R.locals) (hp : PreV s H C b Pc As) (hn : As.length = n) (hst : st = As.reverse ++ .ref b :: rest) (hsize : ls.size = nL) (hW : (rest.map fun v => v.category).sum ≤ 8) (hf : cells ≤ R.cells ∧ slots ≤ R.slots) (hdg : decode cc pc = .ok (.invokevirtual index, 3))
    (hS : va_S A0 H0 H locs) (hA : ∀ q, A q → A0 q)
    (kk : ∀ (H1 : Heap) (locs1 : List Loc), va_P D CL ws H1 → H.size ≤ H1.size → (∀ q : Nat, q < H.size → ¬ A q → H1[q]? = H[q]?) → va_S A0 H0 H1 locs1 → W p l e R s m args below meth c H1 locs1 cells slots Q (F0 m (pc + 3) ls (o.toList ++ rest))) : W p l e R s m args below meth c H locs cells slots Q (F0 m pc ls st) := by
  have cw := cb_of (R := R) (rm := rm) S.2.2.2.2 hc hi hl hd hR
  rw [hrc.1, hrc.2] at cw
  have hr := W.runV (p := p) (e := e) (below := below) (meth := meth) (H := H) (locs := locs) (cells := cells) (slots := slots) (g := F0 m pc ls st) (As := As) (rest := rest) S hM ⟨cw, S.2.2.2.2 _ hs, S.2.2.2.2 _ hse⟩ hp rfl hn hsize hst (lv_room hW) hdg ⟨hf.1, hf.2⟩
  intro T hT X
  obtain ⟨v, st₀, t, T', L, h0, X', hL, e1, ⟨hv, hP, hz, hk⟩, sp⟩ := hr T hT X
  cases hv
  rw [h0] at hz hk
  rw [← e1] at hz hk hP
  obtain ⟨t2, a1, b1⟩ := kk T'.heap (locs ++ L) hP hz hk (kept_S hS hA hz hk hL) T' rfl X'
  exact ⟨t2, sp t2 a1, b1⟩
/-- a call of a static method that has handlers -/
theorem sw_S (S : CallFix p m c cc nL s args TB own) (hM : Met l y TB rm Pc (mQ o D ws A) mc ms A) (hc : Cond.codeWith y bytes maxL ret hs ∈ TB) (hi : Cond.initialized y.cls ∈ TB) (hsc : Cond.static y ∈ TB) (hd : okName y n) (hrc : rm.cells = mc ∧ rm.slots = ms)
    (hl : Cond.methodLink own index y ∈ TB) (hR : rm.frames + 1 ≤ R.frames ∧ 8 + (maxL + 11) + rm.locals ≤ R.locals) (hp : PreS s H Pc As) (hn : As.length = n) (hst : st = As.reverse ++ rest) (hsize : ls.size = nL) (hW : (rest.map fun v => v.category).sum ≤ 8) (hf : cells + mc ≤ R.cells ∧ slots + ms ≤ R.slots) (hdg : decode cc pc = .ok (.invokestatic index, 3))
    (hS : va_S A0 H0 H locs) (hA : ∀ q, A q → A0 q)
    (kk : ∀ (H1 : Heap) (locs1 : List Loc), va_P D CL ws H1 → H.size ≤ H1.size → (∀ q : Nat, q < H.size → ¬ A q → H1[q]? = H[q]?) → va_S A0 H0 H1 locs1 → W p l e R s m args below meth c H1 locs1 (cells + mc) (slots + ms) Q (F0 m (pc + 3) ls (o.toList ++ rest))) : W p l e R s m args below meth c H locs cells slots Q (F0 m pc ls st) := by
  obtain ⟨hx, hb, hml, ho, hts⟩ := S
  have hws : ∀ w ∈ TB, ∀ (a' : Array Value) (U : State), s.WarmedH U.vm → w.before a' U = true := fun w hw => pay_in hts (fun w h => ⟨h, TB_good _ h⟩) w hw
  have hK : Back l R p e below s args y 3 8 (PreOf R mc ms Pc) (PostOf (mQ o D ws A) mc ms A) := by
    refine Jvm.Free.Back.of_freeWith (S := headSpec TB rm) (P := Pc) (K := fun _ _ _ _ _ => True) (Q := fun a st oc t => mQ o D ws A a st oc t ∧ ∃ L, FrameEnd st oc t L mc ms ∧ ∀ q ∈ L, A q.base) (bytes := bytes) (maxL := maxL) (ret := ret) (handlers := hs)
      (E := fun a st oc t L k n => k = mc ∧ n = ms ∧ ∀ q ∈ L, A q.base) hM hR.1 hR.2 ?_ ?_ (fun _ _ _ _ _ _ _ _ _ => trivial) ?_ ?_
    · intro m meth c A a X hp
      exact ⟨atoms_intro fun w hw => hws w hw _ _ X.warmed, hws _ hc _ _ X.warmed, hws _ hi _ _ X.warmed, by rw [show (headSpec TB rm).room.cells = mc from hrc.1]; exact hp.1, by rw [show (headSpec TB rm).room.slots = ms from hrc.2]; exact hp.2.1⟩
    · intro m meth c A a g mk X hp'
      exact hp.1 _ _ _ _ hp'.2.2
    · intro a st oc t ⟨hq, L, hF, hL⟩
      exact ⟨L, mc, ms, hF, rfl, rfl, hL⟩
    · intro m meth c A a g mk v t L k n X hp hq hF ⟨e1, e2, hL⟩
      subst e1; subst e2
      exact ⟨g, mk, t, L, rfl, rfl, hq.1, rfl, hL, rfl, rfl⟩
  obtain ⟨mk, methM, cM, hnamed, hmethM, hcM, -, hlM, -, -, -, hsigM⟩ := Cond.codeWith_spec (hts _ hc)
  have hstat : methM.isStatic = true := Cond.static_spec hnamed hmethM (hts _ hsc)
  obtain ⟨kP, hkP, -⟩ := className_of_methodNamed hnamed
  have hini : kP.init = .initialized := Cond.initialized_spec (findClass_of_methodNamed hnamed) hkP (hts _ hi)
  have hlen : As.length = methM.sig.parameters.length := by
    have h2 := hd.2.2
    rw [hsigM] at h2
    exact hn.trans (Option.some.inj h2).symm
  intro T hT X
  obtain ⟨vm₁, X₁, st₁⟩ := X.invokestatic hx ho (hts _ hl) hnamed hmethM hstat hkP hini ⟨hd.1, hd.2.1⟩ (g := F0 m pc ls st) rfl (argsL := As) (rest := rest) hlen hst (by rw [hb]; exact hdg)
  obtain ⟨v, ⟨U', l2, c2, s2⟩, X', ⟨g', mk', t, L, e1, e2, ⟨hv, hP, hz, hk⟩, h1, hL, h2, h3⟩, hsteps⟩ := hK m meth c ⟨T.setVm vm₁, locs, cells, slots⟩ (F0 m pc ls rest) (.invokestatic index) mk As.toArray X₁ rfl (hsize.trans hml.symm) (by rw [hb]; exact hdg) (lv_room hW) (X₁.named hnamed) ⟨hf.1, hf.2, hp.2 (T.setVm vm₁) hT X₁.warmed⟩
  cases hv
  dsimp only [Pt.U, Pt.locs, Pt.cells, Pt.slots] at X' e1 e2 h1 h2 h3 hsteps
  subst h1; subst h2; subst h3
  rw [← e1] at hz hk hP
  have hz' : H.size ≤ U'.heap.size := by rw [← hT]; exact hz
  have hk' : ∀ q : Nat, q < H.size → ¬ A q → U'.heap[q]? = H[q]? := fun q h1 h2 => by rw [← hT]; exact hk q (by rw [← hT] at h1; exact h1) h2
  obtain ⟨t2, a1, b1⟩ := kk U'.heap (locs ++ L) hP hz' hk' (kept_S hS hA hz' hk' hL) U' rfl X'
  refine ⟨t2, st₁ t2 (fun acts => ?_), b1⟩
  rw [doInvoke_state]
  exact hsteps.trans a1
end Law
