/-! base: the classes' field tables, contracts over the one word list TB, calls of methods that only read -/
def T_S : u_T := fun k => match k with
  | 0 => ("SignReader", "bytes", "[I", true)
  | 1 => ("SignReader", "text", "[I", true)
  | 2 => ("SignReader", "byteCount", "I", false)
  | 3 => ("SignReader", "textLength", "I", false)
  | _ => ("SignReader", "textWay", "I", false)
def t_S : Nat → FieldType := fun k => match k with
  | 0 => .array .int
  | 1 => .array .int
  | _ => .int
theorem n_S : ∀ a, a < 5 → ∀ b, b < 5 → a ≠ b → (T_S a).2.1 ≠ (T_S b).2.1 := by decide +kernel
theorem t_S_ok : ∀ k, k < 5 → parseFieldDescriptor (T_S k).2.2.1 = some (t_S k) := by decide +kernel
theorem i_S : ∀ w ∈ u_ws "SignReader" T_S 5, w ∈ TB := by decide +kernel
def T_M : u_T := fun k => match k with
  | 0 => ("SignReaderModel", "code", "I", false)
  | 1 => ("SignReaderModel", "bytes", "[I", true)
  | 2 => ("SignReaderModel", "size", "I", false)
  | 3 => ("SignReaderModel", "text", "[I", true)
  | 4 => ("SignReaderModel", "length", "I", false)
  | 5 => ("SignReaderModel", "way", "I", false)
  | 6 => ("SignReaderModel", "aside", "[I", true)
  | 7 => ("SignReaderModel", "count", "I", false)
  | _ => ("SignReaderModel", "found", "I", false)
def t_M : Nat → FieldType := fun k => match k with
  | 1 => .array .int
  | 3 => .array .int
  | 6 => .array .int
  | _ => .int
theorem n_M : ∀ a, a < 9 → ∀ b, b < 9 → a ≠ b → (T_M a).2.1 ≠ (T_M b).2.1 := by decide +kernel
theorem t_M_ok : ∀ k, k < 9 → parseFieldDescriptor (T_M k).2.2.1 = some (t_M k) := by decide +kernel
theorem i_M : ∀ w ∈ u_ws "SignReaderModel" T_M 9, w ∈ TB := by decide +kernel
abbrev CL : List vw_C := [("SignReader", T_S, 5), ("SignReaderModel", T_M, 9)]
theorem good_TB {y : MethodName} {bytes : ByteArray} {maxL : Nat} {ret : Option FieldType} (hc : Cond.code y bytes maxL ret ∈ TB) : GoodIn TB (Cond.code y bytes maxL ret :: TB) := fun w h => by
  rcases List.mem_cons.mp h with rfl | h
  · exact ⟨hc, TB_good _ hc⟩
  · exact ⟨h, TB_good _ h⟩
abbrev okName (y : MethodName) (n : Nat) : Prop := y.cls ≠ "java/lang/invoke/MethodHandle" ∧ y.cls ≠ "java/lang/invoke/VarHandle" ∧ (parseMethodDescriptor y.desc).map (fun d => d.parameters.length) = some n
section Base
variable {p : Program} {l : Launch} {e : Env} {R : Room} {s : State} {m : MethodId} {args : Array Value} {below : List Frame} {meth : Method} {c : Code} {H : Heap} {locs : List Loc} {cells slots : Nat} {Q : State → Prop}
variable {y : MethodName} {bytes cc : ByteArray} {maxL nL index n mc ms pc : Nat} {ret : Option FieldType} {rm : Room} {Pc : Array Value → State → Prop} {Qc : Array Value → State → Outcome → State → Prop} {free : Addr → Prop} {own C : String} {b : Addr} {As rest st : List Value} {ls : Array Slot} {r : Int32}
/-- a method's contract out of the walk of its body -/
theorem mt_of (hy : plainName y.cls = true) (body : ∀ p e s m args below meth c, CallFix p m c cc maxL s args TB y.cls → meth.sig.returnType = ret → meth.locks = false → (y.name = "<init>" → meth.name = "<init>") → Pc args s →
    W p l e rm s m args below meth c s.heap [] 0 0 (MQ below Qc args s mc ms free) (entryFrame m args maxL)) : Met l y (Cond.code y cc maxL ret :: TB) rm Pc Qc mc ms free := by
  refine Met.ofW (cc := cc) (maxL := maxL) (ret := ret) hy rfl ?_
  intro p e s m args below meth c s₁ B hml hv
  have hts := atoms_spec (ws := Cond.code y cc maxL ret :: TB) B.pre
  exact body p e s m args below meth c ⟨B.exec, B.bytes, hml, findClass_of_methodNamed B.named, fun w h => hts w (List.mem_cons_of_mem _ h)⟩ B.returns B.notSynchronized (fun h => (name_of_methodNamed B.named B.method).1.trans h) hv
theorem cb_of (ht : ∀ w ∈ TB, w.before args s = true) (hc : Cond.code y bytes maxL ret ∈ TB) (hi : Cond.initialized y.cls ∈ TB) (hl : Cond.methodLink own index y ∈ TB) (hd : okName y n) (hR : rm.frames + 1 ≤ R.frames ∧ 8 + (maxL + 11) + rm.locals ≤ R.locals) :
    CallB R s args own index y bytes maxL ret (Cond.code y bytes maxL ret :: TB) rm rm.cells rm.slots n :=
  callB_of n ht (good_TB hc) rfl rfl rfl (ht _ hi) (ht _ hl) hd hR
/-- a call of a static method that only reads -/
theorem ro_S (S : CallFix p m c cc nL s args TB own) (hM : Met l y (Cond.code y bytes maxL ret :: TB) rm Pc (QcRead r) 0 0 (fun _ => False)) (hc : Cond.code y bytes maxL ret ∈ TB) (hi : Cond.initialized y.cls ∈ TB) (hs : Cond.static y ∈ TB) (hd : okName y n) (hrc : rm.cells = 0 ∧ rm.slots = 0)
    (hl : Cond.methodLink own index y ∈ TB) (hR : rm.frames + 1 ≤ R.frames ∧ 8 + (maxL + 11) + rm.locals ≤ R.locals) (hp : PreS s H Pc As) (hn : As.length = n) (hst : st = As.reverse ++ rest) (hsize : ls.size = nL) (hW : (rest.map fun v => v.category).sum ≤ 8) (hf : cells ≤ R.cells ∧ slots ≤ R.slots) (hdg : decode cc pc = .ok (.invokestatic index, 3))
    (kk : W p l e R s m args below meth c H locs cells slots Q (F0 m (pc + 3) ls (.int r :: rest))) : W p l e R s m args below meth c H locs cells slots Q (F0 m pc ls st) := by
  have cw := cb_of (R := R) (rm := rm) S.2.2.2.2 hc hi hl hd hR
  rw [hrc.1, hrc.2] at cw
  exact W.callR (W.runS (As := As) (rest := rest) S hM ⟨cw, S.2.2.2.2 _ hs⟩ hp rfl hn hsize hst (lv_room hW) hdg ⟨hf.1, hf.2⟩) kk
/-- a call of an instance method that only reads -/
theorem ro_V (S : CallFix p m c cc nL s args TB own) (hM : Met l y (Cond.code y bytes maxL ret :: TB) rm Pc (QcRead r) 0 0 (fun _ => False)) (hc : Cond.code y bytes maxL ret ∈ TB) (hi : Cond.initialized y.cls ∈ TB) (hs : Cond.instanceMethod y ∈ TB) (hse : Cond.selects C y y ∈ TB) (hd : okName y n) (hrc : rm.cells = 0 ∧ rm.slots = 0)
    (hl : Cond.methodLink own index y ∈ TB) (hR : rm.frames + 1 ≤ R.frames ∧ 8 + (maxL + 11) + rm.locals ≤ R.locals) (hp : PreV s H C b Pc As) (hn : As.length = n) (hst : st = As.reverse ++ .ref b :: rest) (hsize : ls.size = nL) (hW : (rest.map fun v => v.category).sum ≤ 8) (hf : cells ≤ R.cells ∧ slots ≤ R.slots) (hdg : decode cc pc = .ok (.invokevirtual index, 3))
    (kk : W p l e R s m args below meth c H locs cells slots Q (F0 m (pc + 3) ls (.int r :: rest))) : W p l e R s m args below meth c H locs cells slots Q (F0 m pc ls st) := by
  have cw := cb_of (R := R) (rm := rm) S.2.2.2.2 hc hi hl hd hR
  rw [hrc.1, hrc.2] at cw
  exact W.callR (W.runV (As := As) (rest := rest) S hM ⟨cw, S.2.2.2.2 _ hs, S.2.2.2.2 _ hse⟩ hp rfl hn hsize hst (lv_room hW) hdg ⟨hf.1, hf.2⟩) kk
/-- the end of a method that only reads -/
theorem ro_ret {v : Int32} (S : CallFix p m c cc nL s args TB own) (hr : meth.sig.returnType = some .int) (hk : meth.locks = false) (hv : v = r) (hdg : decode cc pc = .ok (.ireturn, 1)) : W p l e R s m args below meth c s.heap [] 0 0 (MQ below (QcRead r) args s 0 0 (fun _ => False)) (F0 m pc ls [.int v]) :=
  W.iret S.1 S.2.1 hr (fun t ht _ => ⟨by rw [hv], ht⟩) (fun q h => by cases h) hdg hk
theorem ro_retZ {v : Int32} (S : CallFix p m c cc nL s args TB own) (hr : meth.sig.returnType = some .boolean) (hk : meth.locks = false) (hn : narrow .boolean (.int v) = .int v) (hv : v = r) (hdg : decode cc pc = .ok (.ireturn, 1)) : W p l e R s m args below meth c s.heap [] 0 0 (MQ below (QcRead r) args s 0 0 (fun _ => False)) (F0 m pc ls [.int v]) :=
  W.zret S.1 S.2.1 hr hn (fun t ht _ => ⟨by rw [hv], ht⟩) (fun q h => by cases h) hdg hk
theorem ro_retB {v : Int32} {ty : FieldType} (S : CallFix p m c cc nL s args TB own) (hr : meth.sig.returnType = some ty) (hk : meth.locks = false) (hn : narrow ty (.int v) = .int v) (hv : v = r) (hdg : decode cc pc = .ok (.ireturn, 1)) : W p l e R s m args below meth c s.heap [] 0 0 (MQ below (QcRead r) args s 0 0 (fun _ => False)) (F0 m pc ls [.int v]) :=
  W.zret S.1 S.2.1 hr hn (fun t ht _ => ⟨by rw [hv], ht⟩) (fun q h => by cases h) hdg hk
end Base
/-- pure arguments: a method that looks at no cell -/
abbrev pu (As : List Value) : Array Value → State → Prop := fun v _ => v = As.toArray
/-- what a method that reads a world is given -/
def rd (D : va_G) (tys : List (ClassId × FieldType)) (ws : va_W) (As : List Value) : Array Value → State → Prop := fun v U => v = As.toArray ∧ va_P D CL ws U.heap ∧ va_K D CL tys U
theorem rd_blind {D : va_G} {tys : List (ClassId × FieldType)} {ws : va_W} {As : List Value} : FrameBlind (rd D tys ws As) := fun a U g mk q => ⟨q.1, q.2.1, va_K.moved (u := U) (U := U.calling g mk a) (Vm.Alike.refl U.vm) q.2.2⟩
theorem rd_preV {D : va_G} {tys : List (ClassId × FieldType)} {ws : va_W} {As : List Value} {s : State} {H : Heap} {b q0 ci : Nat} {fs : List Value} {q : vw_C} (hP : va_P D CL ws H) (hK : va_K D CL tys s) (hc : CL[ci]? = some q) (he : ws[q0]? = some (b, .inr (ci, fs))) : PreV s H q.1 b (rd D tys ws (.ref b :: As)) As :=
  ⟨rd_blind, va_recv hK hP hc he, fun U hU hW => ⟨rfl, by rw [hU]; exact hP, va_K.moved hW.alike hK⟩⟩
