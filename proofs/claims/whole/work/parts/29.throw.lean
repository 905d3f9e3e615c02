/-! calls that end by a throw: what is left behind, the contract, the caller's handler -/
abbrev tUN : Cond := .isRef (.static "java/lang/Throwable" "UNASSIGNED_STACK" "[Ljava/lang/StackTraceElement;")
abbrev tSE : Cond := .isRef (.static "java/lang/Throwable" "SUPPRESSED_SENTINEL" "Ljava/util/List;")
abbrev tL1 : Cond := .laysStatic "java/lang/Throwable" "UNASSIGNED_STACK" "[Ljava/lang/StackTraceElement;"
abbrev tL2 : Cond := .laysStatic "java/lang/Throwable" "SUPPRESSED_SENTINEL" "Ljava/util/List;"
/-- further words of a throw, of the tables alone -/
def EW : List Cond := [.declares ⟨"java/lang/RuntimeException", "<init>", "(Ljava/lang/String;)V"⟩, .declares ⟨"java/lang/Exception", "<init>", "(Ljava/lang/String;)V"⟩, .declares ⟨"java/lang/Throwable", "<init>", "(Ljava/lang/String;)V"⟩, .castable "java/lang/IllegalStateException" "java/lang/IllegalStateException", .castable "java/lang/IllegalArgumentException" "java/lang/IllegalArgumentException"]
theorem own_28 : ∀ a ∈ Bundle.ownAtoms "SignReader" 30 "java/lang/IllegalStateException" ["java/lang/RuntimeException", "java/lang/Exception"], a ∈ TB ∨ a ∈ EW ∨ a = tL1 ∨ a = tL2 ∨ a = tUN ∨ a = tSE := by decide +kernel
theorem own_39 : ∀ a ∈ Bundle.ownAtoms "SignReader" 41 "java/lang/IllegalArgumentException" ["java/lang/RuntimeException", "java/lang/Exception"], a ∈ TB ∨ a ∈ EW ∨ a = tL1 ∨ a = tL2 ∨ a = tUN ∨ a = tSE := by decide +kernel
theorem EW_face : ∀ w ∈ EW, w.faceAtom = true := by decide +kernel
def xE (A : Nat → Prop) (U : State) (H : Heap) : Prop := (∀ w ∈ EW, w.before #[] U = true) ∧ (tL1.before #[] ({ U with heap := H } : State) = true ∧ tL2.before #[] ({ U with heap := H } : State) = true) ∧ va_Zq "java/lang/Throwable" "UNASSIGNED_STACK" "[Ljava/lang/StackTraceElement;" A U H ∧ va_Zq "java/lang/Throwable" "SUPPRESSED_SENTINEL" "Ljava/util/List;" A U H
theorem ew_move {s U : State} (hv : s.vm.Alike U.vm) {a b : Array Value} {w : Cond} (hw : w ∈ EW) (h : w.before a s = true) : w.before b U = true := by
  have h1 := Cond.faceAtom_setVm hv w (EW_face w hw) h
  simp only [EW, List.mem_cons, List.not_mem_nil, or_false] at hw
  rcases hw with rfl | rfl | rfl | rfl | rfl
  · exact h1
  · exact h1
  · exact h1
  · exact h1
  · exact h1
theorem ls_move {s U : State} (hv : s.vm.Alike U.vm) {a b : Array Value} {C n d : String} (hH : ∀ q : Nat, q < s.heap.size → U.heap[q]? = s.heap[q]?) (h : (Cond.laysStatic C n d).before a s = true) : (Cond.laysStatic C n d).before b U = true := by
  obtain ⟨c, k, i, f, q, cell, hc, hi, hst, ha, hcell, hs, hcls, hlt, hty⟩ := Cond.laysStatic_spec h
  obtain ⟨k', hi', hek⟩ := State.fieldFound?_setVm hv hi
  exact Cond.laysStatic_of (s := U) (by rw [hv.findClass]; exact hc) hi' hst (by rw [hek]; exact ha) (by rw [hH q (Array.getElem?_eq_some_iff.mp hcell).1]; exact hcell) hs hcls hlt (by rw [hek]; exact hty)
theorem zq_ref {U : State} {A : Nat → Prop} {C n d : String} {a : Array Value} (h : va_Zq C n d A U U.heap) : (Cond.isRef (.static C n d)).before a U = true := by
  rcases h with ⟨cf, kf, fi, f, q, cell, h1, h2, h3, h4, h5, h6, h7, h8⟩ | ⟨t, cf, kf, fi, f, q, cell, h1, h2, h3, h4, h5, h6, h7, h8⟩
  · simp [Cond.before, Cond.holds, Cond.value, Term.eval, State.fieldNamed?, h1, h2, h4, h5, h6, h7]
  · simp [Cond.before, Cond.holds, Cond.value, Term.eval, State.fieldNamed?, h1, h2, h4, h5, h6, h7]
theorem xE_move {A B : Nat → Prop} {s U : State} {H0 H : Heap} (hv : s.vm.Alike U.vm) (hH : ∀ q : Nat, q < H0.size → H[q]? = H0[q]?) (hAB : ∀ q, B q → A q) (h : xE A s H0) : xE B U H := by
  obtain ⟨h1, ⟨h2, h3⟩, h4, h5⟩ := h
  refine ⟨fun w hw => ew_move hv hw (h1 w hw), ⟨ls_move (s := { s with heap := H0 }) (U := { U with heap := H }) hv hH h2, ls_move (s := { s with heap := H0 }) (U := { U with heap := H }) hv hH h3⟩, ?_, ?_⟩
  · exact ((h4.kept (fun q h _ => hH q h)).moved hv).narrow hAB
  · exact ((h5.kept (fun q h _ => hH q h)).moved hv).narrow hAB
theorem xE_word {A : Nat → Prop} {s : State} {a : Array Value} {w : Cond} (ht : ∀ w ∈ TB, w.before a s = true) (h : xE A s s.heap) (hw : w ∈ TB ∨ w ∈ EW ∨ w = tL1 ∨ w = tL2 ∨ w = tUN ∨ w = tSE) : w.before a s = true := by
  obtain ⟨h1, ⟨h2, h3⟩, h4, h5⟩ := h
  rcases hw with h | h | rfl | rfl | rfl | rfl
  · exact ht w h
  · exact ew_move (Vm.Alike.refl s.vm) h (h1 w h)
  · exact ls_move (Vm.Alike.refl s.vm) (fun _ _ => rfl) h2
  · exact ls_move (Vm.Alike.refl s.vm) (fun _ _ => rfl) h3
  · exact zq_ref h4
  · exact zq_ref h5
/-- behind a throw: the object, the tables, nothing old changed -/
def tE (cls : String) (st : State) (x : Addr) (t : State) (mc ms : Nat) : Prop := (∃ ce : Cell, t.heap[x]? = some ce ∧ ce.vm.isStatics = false ∧ st.vm.findClass cls = some ce.cls ∧ st.vm.assignable ce.cls ce.cls = true) ∧ st.WarmedH t.vm ∧ st.sameButNew ({ t with vm := st.vm } : State) [] mc ms
def TQ (below : List Frame) (cls : String) (s : State) (mc ms : Nat) : State → Prop := fun t => ∃ x, t.status = .running ∧ Ended t below (.threw x) ∧ tE cls s x t mc ms
def Thr (l : Launch) (y : MethodName) (ws : List Cond) (rm : Room) (Pc : Array Value → State → Prop) (cls : String) (mc ms : Nat) : Prop := MetFree l y (headSpec ws rm) Pc (fun _ _ _ _ _ => True) (fun _ st o t => ∃ x, o = .threw x ∧ tE cls st x t mc ms)
section Thr
variable {p : Program} {l : Launch} {e : Env} {R : Room} {s : State} {m : MethodId} {args : Array Value} {below : List Frame} {meth : Method} {c : Code} {H : Heap} {locs : List Loc} {cells slots : Nat} {Q : State → Prop}
variable {y : MethodName} {bytes cc : ByteArray} {maxL nL index n mc ms pc : Nat} {ret : Option FieldType} {rm : Room} {Pc : Array Value → State → Prop} {own C cls : String} {b : Addr} {As rest st : List Value} {ls : Array Slot}
theorem th_of (hy : plainName y.cls = true) (body : ∀ p e s m args below meth c, CallFix p m c cc maxL s args TB y.cls → c.exceptionTable.isEmpty = true → meth.locks = false → Pc args s →
    W p l e rm s m args below meth c s.heap [] 0 0 (TQ below cls s mc ms) (entryFrame m args maxL)) : Thr l y (Cond.code y cc maxL ret :: TB) rm Pc cls mc ms := by
  refine MetFree.of_bodyS (code := cc) (maxLocals := maxL) (ret := ret) hy ?_ ?_
  · intro args s m h hn
    obtain ⟨meth, c, h1, h2, h3, h4, h5, h6, -, -⟩ := Cond.code_spec hn (atoms_spec (ws := Cond.code y cc maxL ret :: TB) h _ List.mem_cons_self)
    exact ⟨meth, c, h1, h2, h3, h4, h5, h6⟩
  · intro p e s m args below meth c s₁ B hml hP _
    have hts := atoms_spec (ws := Cond.code y cc maxL ret :: TB) B.pre
    obtain ⟨meth', c', h1, h2, -, -, -, -, h7, -⟩ := Cond.code_spec B.named (hts _ List.mem_cons_self)
    have X := Stand.of_body B
    cases h1.symm.trans B.method
    cases h2.symm.trans X.code
    have hh0 : s₁.heap = s.heap := by rw [B.state]; rfl
    obtain ⟨t, a1, x, b1, b2, b3⟩ := body p e s m args below _ _ ⟨B.exec, B.bytes, hml, findClass_of_methodNamed B.named, fun w h => hts w (List.mem_cons_of_mem _ h)⟩ h7 B.notSynchronized hP s₁ hh0 X
    exact ⟨t, _, a1, b1, b2, x, rfl, b3⟩
/-- the end: the exception's constructor, and athrow -/
theorem th_end (S : CallFix p m c cc nL s args TB own) (hex : c.exceptionTable.isEmpty = true) (hk : meth.locks = false) (htr : l.stackTraces = false) {names : List String} {ic : Nat} (hcls : Bundle.fit cls = true) (hnames : ∀ n ∈ names, Bundle.fit n = true) (h : ∀ a ∈ Bundle.ownAtoms own ic cls names, a.before args s = true)
    {a q : Addr} {cX : ClassId} {kX : Class} (hfX : s.vm.findClass cls = some cX) (hkX : s.vm.classes[cX]? = some kX) (hcell : H[a]? = some (freshCell cX kX)) (hnew : s.heap.size ≤ a) (hsize : ls.size = nL)
    (hd6 : decode cc pc = .ok (.invokespecial ic, 3)) (hd9 : decode cc (pc + 3) = .ok (.athrow, 1)) (hRf : names.length + 3 < R.frames) (hRl : 1 + (13 * (names.length + 1) + 42) ≤ R.locals) :
    W p l e R s m args below meth c H [] cells slots (TQ below cls s cells slots) (F0 m pc ls [.ref q, .ref a, .ref a]) := by
  obtain ⟨hx, hb, hml, ho, -⟩ := S
  intro T hT X
  have ht : e.platform.stackTraces = false := by rw [X.admits.platform]; exact htr
  have he : ∀ x ∈ c.exceptionTable.toList, covers x (pc + 3) = false := fun x hx' => by
    rw [Array.isEmpty_iff.mp hex] at hx'
    cases hx'
  obtain ⟨U, st, hrun, hend, hW, hsame, ce, hce, OC⟩ := X.ctorThrowS hx ht ho hcls hnames h (fun x hx' => by cases hx') hfX hkX (by rw [hT]; exact hcell) hnew (msg := .ref q) rfl (g := F0 m pc ls [.ref q, .ref a, .ref a]) rfl (hsize.trans hml.symm) rfl rfl (rest := []) rfl (by rw [hb]; exact hd6) (by rw [hb]; exact hd9) he hRf (by exact hRl) hk
  exact ⟨U, st, a, hrun, hend, ⟨ce, hce, by rw [OC.vm]; rfl, OC.cls, OC.self⟩, hW, hsame⟩
end Thr
