/-! the class: methods that change its object -/
abbrev SS : Type := Nat × Nat × Int32 × (Nat → Int32) × (Nat → Int32)
abbrev srZ (h qb qt : Nat) (cI : ClassId) (z : SS) : va_W := srW h qb qt cI (nI z.1) (nI z.2.1) z.2.2.1 z.2.2.2.1 z.2.2.2.2
abbrev xZ9 (D : va_G) (h qb qt : Nat) (cI : ClassId) (z : SS) : State → Heap → Prop := xW D h qb qt cI z.1 z.2.1 z.2.2.1 z.2.2.2.1 z.2.2.2.2
def okZ (z : SS) : Prop := z.1 ≤ 4096 ∧ z.2.1 ≤ 4096
def ap3 (h qb qt : Nat) : Prop := h ≠ qb ∧ h ≠ qt ∧ qb ≠ qt
def A3 (h qb qt : Nat) : Nat → Prop := fun q => q = h ∨ q = qb ∨ q = qt
theorem srD {h qb qt : Nat} {cI : ClassId} {nb tl wy : Int32} {f g : Nat → Int32} (hd : ap3 h qb qt) : va_D (A3 h qb qt) (srW h qb qt cI nb tl wy f g) := by
  obtain ⟨h1, h2, h3⟩ := hd
  constructor
  · intro i j p q hi hj he
    match i, j, hi, hj with
    | 0, 0, hi, hj => rfl
    | 1, 1, hi, hj => rfl
    | 2, 2, hi, hj => rfl
    | 0, 1, hi, hj => cases hi; cases hj; exact absurd he h1
    | 0, 2, hi, hj => cases hi; cases hj; exact absurd he h2
    | 1, 0, hi, hj => cases hi; cases hj; exact absurd he.symm h1
    | 1, 2, hi, hj => cases hi; cases hj; exact absurd he h3
    | 2, 0, hi, hj => cases hi; cases hj; exact absurd he.symm h2
    | 2, 1, hi, hj => cases hi; cases hj; exact absurd he.symm h3
    | k + 3, _, hi, hj => simp at hi
    | _, k + 3, hi, hj => simp at hj
  · intro k q hq
    match k, hq with
    | 0, hq => cases hq; exact Or.inl rfl
    | 1, hq => cases hq; exact Or.inr (Or.inl rfl)
    | 2, hq => cases hq; exact Or.inr (Or.inr rfl)
    | k + 3, hq => simp at hq
def mQ (o : Option Value) (D : va_G) (ws : va_W) (A : Nat → Prop) : Array Value → State → Outcome → State → Prop := fun _ st oc t => oc = .returned o ∧ va_P D CL ws t.heap ∧ va_F A st t
theorem va_Pe {D : va_G} {ws ws' : va_W} {H : Heap} (e : ws = ws') (h : va_P D CL ws H) : va_P D CL ws' H := by rw [← e]; exact h
section Mut
variable {p : Program} {l : Launch} {e : Env} {R : Room} {s : State} {m : MethodId} {args : Array Value} {below : List Frame} {meth : Method} {c : Code} {H H0 : Heap} {locs : List Loc} {cells slots : Nat} {Q : State → Prop}
variable {y : MethodName} {bytes cc : ByteArray} {maxL nL index n pc : Nat} {ret : Option FieldType} {rm : Room} {Pc : Array Value → State → Prop} {own C : String} {b : Addr} {As rest st : List Value} {ls : Array Slot} {r : Int32} {o : Option Value} {D : va_G} {ws : va_W} {A A0 : Nat → Prop}
theorem mu_V (S : CallFix p m c cc nL s args TB own) (hM : Met l y (Cond.code y bytes maxL ret :: TB) rm Pc (mQ o D ws A) 0 0 A) (hc : Cond.code y bytes maxL ret ∈ TB) (hi : Cond.initialized y.cls ∈ TB) (hs : Cond.instanceMethod y ∈ TB) (hse : Cond.selects C y y ∈ TB) (hd : okName y n) (hrc : rm.cells = 0 ∧ rm.slots = 0)
    (hl : Cond.methodLink own index y ∈ TB) (hR : rm.frames + 1 ≤ R.frames ∧ 8 + (maxL + 11) + rm.locals ≤ R.locals) (hp : PreV s H C b Pc As) (hn : As.length = n) (hst : st = As.reverse ++ .ref b :: rest) (hsize : ls.size = nL) (hW : (rest.map fun v => v.category).sum ≤ 8) (hf : cells ≤ R.cells ∧ slots ≤ R.slots) (hdg : decode cc pc = .ok (.invokevirtual index, 3))
    (hS : va_S A0 H0 H locs) (hA : ∀ q, A q → A0 q)
    (kk : ∀ (H1 : Heap) (locs1 : List Loc), va_P D CL ws H1 → va_S A0 H0 H1 locs1 → W p l e R s m args below meth c H1 locs1 cells slots Q (F0 m (pc + 3) ls (o.toList ++ rest))) : W p l e R s m args below meth c H locs cells slots Q (F0 m pc ls st) := by
  have cw := cb_of (R := R) (rm := rm) S.2.2.2.2 hc hi hl hd hR
  rw [hrc.1, hrc.2] at cw
  have hr := W.runV (p := p) (e := e) (below := below) (meth := meth) (H := H) (locs := locs) (cells := cells) (slots := slots) (g := F0 m pc ls st) (As := As) (rest := rest) S hM ⟨cw, S.2.2.2.2 _ hs, S.2.2.2.2 _ hse⟩ hp rfl hn hsize hst (lv_room hW) hdg ⟨hf.1, hf.2⟩
  intro T hT X
  obtain ⟨v, st₀, t, T', L, h0, X', hL, e1, ⟨hv, hP, hz, hk⟩, sp⟩ := hr T hT X
  cases hv
  rw [h0] at hz hk
  obtain ⟨t2, a1, b1⟩ := kk T'.heap (locs ++ L) (by rw [e1]; exact hP) ⟨Nat.le_trans hS.1 (by rw [e1]; exact hz), fun q h1 h2 => by rw [e1, hk q (Nat.lt_of_lt_of_le h1 hS.1) (fun z => h2 (hA q z))]; exact hS.2.1 q h1 h2, fun q hq => by
      rcases List.mem_append.mp hq with h | h
      · exact hS.2.2 q h
      · exact hA _ (hL q h)⟩ T' rfl X'
  exact ⟨t2, sp t2 a1, b1⟩
theorem mu_ret0 (S : CallFix p m c cc nL s args TB own) (hr : meth.sig.returnType = none) (hk : meth.locks = false) (hP : va_P D CL ws H) (hS : va_S A s.heap H locs) (hdg : decode cc pc = .ok (.return_, 1)) : W p l e R s m args below meth c H locs 0 0 (MQ below (mQ none D ws A) args s 0 0 A) (F0 m pc ls []) :=
  W.vret S.1 S.2.1 hr (fun t ht _ => ⟨rfl, by rw [ht]; exact hP, hS.F ht⟩) hS.2.2 hdg hk
theorem mu_retI {v : Int32} (S : CallFix p m c cc nL s args TB own) (hr : meth.sig.returnType = some .int) (hk : meth.locks = false) (hv : v = r) (hP : va_P D CL ws H) (hS : va_S A s.heap H locs) (hdg : decode cc pc = .ok (.ireturn, 1)) : W p l e R s m args below meth c H locs 0 0 (MQ below (mQ (some (.int r)) D ws A) args s 0 0 A) (F0 m pc ls [.int v]) :=
  W.iret S.1 S.2.1 hr (fun t ht _ => ⟨by rw [hv], by rw [ht]; exact hP, hS.F ht⟩) hS.2.2 hdg hk
end Mut
/-- a byte behind those that came in -/
def wB (z : SS) (b : Int32) : SS := if z.1 < 4096 then (z.1 + 1, z.2.1, z.2.2.1, upd z.2.2.2.1 z.1 (b &&& 255), z.2.2.2.2) else z
theorem wB_ok {z : SS} {b : Int32} (hz : okZ z) : okZ (wB z b) := by
  unfold wB
  split
  · exact ⟨by show z.1 + 1 ≤ 4096; omega, hz.2⟩
  · exact hz
/-- a sign behind those of the text -/
def wG (z : SS) (c : Int32) : SS := if z.2.1 < 4096 then (z.1, z.2.1 + 1, z.2.2.1, z.2.2.2.1, upd z.2.2.2.2 z.2.1 c) else z
theorem wG_ok {z : SS} {c : Int32} (hz : okZ z) : okZ (wG z c) := by
  unfold wG
  split
  · exact ⟨hz.1, by show z.2.1 + 1 ≤ 4096; omega⟩
  · exact hz
set_option maxHeartbeats 4000000 in
set_option maxRecDepth 100000 in
theorem cS_putByte (l : Launch) (D : va_G) (h qb qt : Nat) (cI : ClassId) (z : SS) (b : Int32) (hd : ap3 h qb qt) (hz : okZ z) : Met l yS_putByte (Cond.code yS_putByte prog_1_method_36_code 2 none :: TB) { frames := 0, cells := 0, slots := 0, locals := 0 } (gx (xZ9 D h qb qt cI z) [.ref h, .int b]) (mQ (none) D (srZ h qb qt cI (wB z b)) (A3 h qb qt)) 0 0 (A3 h qb qt) := by
  refine mt_of (by decide) ?_
  intro p e s m args below meth cd S hr hk hin hv
  obtain ⟨rfl, hX⟩ := hv
  have hP : va_P D CL (srZ h qb qt cI z) s.heap := hX.1
  have hK := hX.2
  have hz1 := hz.1
  have hz2 := hz.2
  have hS : va_S (A3 h qb qt) s.heap s.heap [] := va_S.rf
  have hx := S.1
  have hb := S.2.1
  have hown := S.2.2.2.1
  have hts := S.2.2.2.2
  have hl := lv_entry ([.ref h, .int b]) (n := 2) (Nat.le_of_ble_eq_true rfl)
  rw [lg_entry_eq]
  generalize (lg_sl ([.ref h, .int b]) ++ List.replicate (2 - (lg_sl ([.ref h, .int b])).length) Slot.unset).toArray = ls at hl ⊢
  have hl : lv_has ls 2 [(0, .ref h), (1, .int b)] := hl
  refine lv_aload_n hx hb dS_putByte_0 rfl (lv_at hl 0 rfl) ?_
  refine va_get (D := D) (ci := 0) (v := .int (nI z.1)) (C := "SignReader") (T := T_S) (N := 5) hx hb hts i_S hown hK hP 0 rfl rfl 2 (by decide) (hts _ k24) (fun _ h9 => h9) rfl dS_putByte_1 ?_
  refine lv_sipush (v := 4096) hx hb dS_putByte_4 (by decide) ?_
  refine lv_icmp_ge (tgt := 34) hx hb dS_putByte_7 (by decide) (fun c1 => ?_) (fun c1 => ?_)
  · skip
    rw [show (4096 : Int32) = nI 4096 from rfl, nI_leI (by omega) (by omega)] at c1
    have hP : va_P D CL (srZ h qb qt cI (wB z b)) _ := va_Pe (congrArg (srZ h qb qt cI) (by rw [wB, if_neg (by omega)] : (z : SS) = wB z b)) hP
    exact mu_ret0 S hr hk hP hS dS_putByte_34
  · skip
    rw [show (4096 : Int32) = nI 4096 from rfl, nI_leI (by omega) (by omega)] at c1
    refine lv_aload_n hx hb dS_putByte_10 rfl (lv_at hl 0 rfl) ?_
    refine va_get (D := D) (ci := 0) (v := .ref qb) (C := "SignReader") (T := T_S) (N := 5) hx hb hts i_S hown hK hP 0 rfl rfl 0 (by decide) (hts _ k22) (fun _ h9 => h9) rfl dS_putByte_11 ?_
    refine lv_aload_n hx hb dS_putByte_14 rfl (lv_at hl 0 rfl) ?_
    refine va_get (D := D) (ci := 0) (v := .int (nI z.1)) (C := "SignReader") (T := T_S) (N := 5) hx hb hts i_S hown hK hP 0 rfl rfl 2 (by decide) (hts _ k24) (fun _ h9 => h9) rfl dS_putByte_15 ?_
    refine lv_iload_n hx hb dS_putByte_18 rfl (lv_at hl 1 rfl) ?_
    refine lv_sipush (v := 255) hx hb dS_putByte_19 (by decide) ?_
    refine lv_iand hx hb dS_putByte_22 ?_
    refine va_iast hx hb hK hP (srD hd) hS 1 0 rfl rfl (vp_in_nI (by omega) (by omega)) dS_putByte_23 (fun H locs hP _ hS => ?_)
    have hP : va_P D CL (srW h qb qt cI (nI z.1) (nI z.2.1) (z.2.2.1) (upd (z.2.2.2.1) ((nI z.1)).toNatClampNeg ((b &&& 255))) (z.2.2.2.2)) H := hP
    refine lv_aload_n hx hb dS_putByte_24 rfl (lv_at hl 0 rfl) ?_
    refine lv_dup hx hb dS_putByte_25 rfl ?_
    refine va_get (D := D) (ci := 0) (v := .int (nI z.1)) (C := "SignReader") (T := T_S) (N := 5) hx hb hts i_S hown hK hP 0 rfl rfl 2 (by decide) (hts _ k24) (fun _ h9 => h9) rfl dS_putByte_26 ?_
    refine lv_iconst (v := 1) hx hb dS_putByte_29 (by decide) ?_
    refine lv_iadd hx hb dS_putByte_30 ?_
    refine va_put (D := D) (ci := 0) (v := .int ((nI z.1) + 1)) (ty := .int) (C := "SignReader") (T := T_S) (N := 5) hx hb hts i_S t_S t_S_ok n_S hown hK hP (srD hd) hS 0 rfl rfl 2 (by decide) (hts _ k24) (fun _ h9 => h9) rfl (by decide +kernel) rfl rfl (Nat.le_of_ble_eq_true rfl) dS_putByte_31 (fun H locs hP _ hS => ?_)
    have hP : va_P D CL (srW h qb qt cI (((nI z.1) + 1)) (nI z.2.1) (z.2.2.1) (upd (z.2.2.2.1) ((nI z.1)).toNatClampNeg ((b &&& 255))) (z.2.2.2.2)) H := hP
    have hP : va_P D CL (srZ h qb qt cI (wB z b)) _ := va_Pe (by simp only [wB, nI_1, nI_clamp (show z.1 < 2 ^ 31 by omega)]; rw [if_pos (by omega)] : srW h qb qt cI (((nI z.1) + 1)) (nI z.2.1) (z.2.2.1) (upd (z.2.2.2.1) ((nI z.1)).toNatClampNeg ((b &&& 255))) (z.2.2.2.2) = srZ h qb qt cI (wB z b)) hP
    exact mu_ret0 S hr hk hP hS dS_putByte_34
set_option maxHeartbeats 4000000 in
set_option maxRecDepth 100000 in
theorem cS_putSign (l : Launch) (D : va_G) (h qb qt : Nat) (cI : ClassId) (z : SS) (c : Int32) (hd : ap3 h qb qt) (hz : okZ z) : Met l yS_putSign (Cond.code yS_putSign prog_1_method_19_code 2 none :: TB) { frames := 0, cells := 0, slots := 0, locals := 0 } (gx (xZ9 D h qb qt cI z) [.ref h, .int c]) (mQ (none) D (srZ h qb qt cI (wG z c)) (A3 h qb qt)) 0 0 (A3 h qb qt) := by
  refine mt_of (by decide) ?_
  intro p e s m args below meth cd S hr hk hin hv
  obtain ⟨rfl, hX⟩ := hv
  have hP : va_P D CL (srZ h qb qt cI z) s.heap := hX.1
  have hK := hX.2
  have hz1 := hz.1
  have hz2 := hz.2
  have hS : va_S (A3 h qb qt) s.heap s.heap [] := va_S.rf
  have hx := S.1
  have hb := S.2.1
  have hown := S.2.2.2.1
  have hts := S.2.2.2.2
  have hl := lv_entry ([.ref h, .int c]) (n := 2) (Nat.le_of_ble_eq_true rfl)
  rw [lg_entry_eq]
  generalize (lg_sl ([.ref h, .int c]) ++ List.replicate (2 - (lg_sl ([.ref h, .int c])).length) Slot.unset).toArray = ls at hl ⊢
  have hl : lv_has ls 2 [(0, .ref h), (1, .int c)] := hl
  refine lv_aload_n hx hb dS_putSign_0 rfl (lv_at hl 0 rfl) ?_
  refine va_get (D := D) (ci := 0) (v := .int (nI z.2.1)) (C := "SignReader") (T := T_S) (N := 5) hx hb hts i_S hown hK hP 0 rfl rfl 3 (by decide) (hts _ k25) (fun _ h9 => h9) rfl dS_putSign_1 ?_
  refine lv_sipush (v := 4096) hx hb dS_putSign_4 (by decide) ?_
  refine lv_icmp_ge (tgt := 30) hx hb dS_putSign_7 (by decide) (fun c1 => ?_) (fun c1 => ?_)
  · skip
    rw [show (4096 : Int32) = nI 4096 from rfl, nI_leI (by omega) (by omega)] at c1
    have hP : va_P D CL (srZ h qb qt cI (wG z c)) _ := va_Pe (congrArg (srZ h qb qt cI) (by rw [wG, if_neg (by omega)] : (z : SS) = wG z c)) hP
    exact mu_ret0 S hr hk hP hS dS_putSign_30
  · skip
    rw [show (4096 : Int32) = nI 4096 from rfl, nI_leI (by omega) (by omega)] at c1
    refine lv_aload_n hx hb dS_putSign_10 rfl (lv_at hl 0 rfl) ?_
    refine va_get (D := D) (ci := 0) (v := .ref qt) (C := "SignReader") (T := T_S) (N := 5) hx hb hts i_S hown hK hP 0 rfl rfl 1 (by decide) (hts _ k23) (fun _ h9 => h9) rfl dS_putSign_11 ?_
    refine lv_aload_n hx hb dS_putSign_14 rfl (lv_at hl 0 rfl) ?_
    refine va_get (D := D) (ci := 0) (v := .int (nI z.2.1)) (C := "SignReader") (T := T_S) (N := 5) hx hb hts i_S hown hK hP 0 rfl rfl 3 (by decide) (hts _ k25) (fun _ h9 => h9) rfl dS_putSign_15 ?_
    refine lv_iload_n hx hb dS_putSign_18 rfl (lv_at hl 1 rfl) ?_
    refine va_iast hx hb hK hP (srD hd) hS 2 0 rfl rfl (vp_in_nI (by omega) (by omega)) dS_putSign_19 (fun H locs hP _ hS => ?_)
    have hP : va_P D CL (srW h qb qt cI (nI z.1) (nI z.2.1) (z.2.2.1) (z.2.2.2.1) (upd (z.2.2.2.2) ((nI z.2.1)).toNatClampNeg (c))) H := hP
    refine lv_aload_n hx hb dS_putSign_20 rfl (lv_at hl 0 rfl) ?_
    refine lv_dup hx hb dS_putSign_21 rfl ?_
    refine va_get (D := D) (ci := 0) (v := .int (nI z.2.1)) (C := "SignReader") (T := T_S) (N := 5) hx hb hts i_S hown hK hP 0 rfl rfl 3 (by decide) (hts _ k25) (fun _ h9 => h9) rfl dS_putSign_22 ?_
    refine lv_iconst (v := 1) hx hb dS_putSign_25 (by decide) ?_
    refine lv_iadd hx hb dS_putSign_26 ?_
    refine va_put (D := D) (ci := 0) (v := .int ((nI z.2.1) + 1)) (ty := .int) (C := "SignReader") (T := T_S) (N := 5) hx hb hts i_S t_S t_S_ok n_S hown hK hP (srD hd) hS 0 rfl rfl 3 (by decide) (hts _ k25) (fun _ h9 => h9) rfl (by decide +kernel) rfl rfl (Nat.le_of_ble_eq_true rfl) dS_putSign_27 (fun H locs hP _ hS => ?_)
    have hP : va_P D CL (srW h qb qt cI (nI z.1) (((nI z.2.1) + 1)) (z.2.2.1) (z.2.2.2.1) (upd (z.2.2.2.2) ((nI z.2.1)).toNatClampNeg (c))) H := hP
    have hP : va_P D CL (srZ h qb qt cI (wG z c)) _ := va_Pe (by simp only [wG, nI_1, nI_clamp (show z.2.1 < 2 ^ 31 by omega)]; rw [if_pos (by omega)] : srW h qb qt cI (nI z.1) (((nI z.2.1) + 1)) (z.2.2.1) (z.2.2.2.1) (upd (z.2.2.2.2) ((nI z.2.1)).toNatClampNeg (c)) = srZ h qb qt cI (wG z c)) hP
    exact mu_ret0 S hr hk hP hS dS_putSign_30
def w4 (z : SS) (v : Int32) : SS := wB (wB (wB (wB z (v >>> ((24 : Int32) &&& 31))) (v >>> ((16 : Int32) &&& 31))) (v >>> ((8 : Int32) &&& 31))) v
theorem w4_ok {z : SS} {v : Int32} (hz : okZ z) : okZ (w4 z v) := wB_ok (wB_ok (wB_ok (wB_ok hz)))
set_option maxHeartbeats 4000000 in
set_option maxRecDepth 100000 in
theorem cS_putFour (l : Launch) (D : va_G) (h qb qt : Nat) (cI : ClassId) (z : SS) (v : Int32) (hd : ap3 h qb qt) (hz : okZ z) : Met l yS_putFour (Cond.code yS_putFour prog_1_method_35_code 2 none :: TB) { frames := 1, cells := 0, slots := 0, locals := 21 } (gx (xZ9 D h qb qt cI z) [.ref h, .int v]) (mQ (none) D (srZ h qb qt cI (w4 z v)) (A3 h qb qt)) 0 0 (A3 h qb qt) := by
  refine mt_of (by decide) ?_
  intro p e s m args below meth cd S hr hk hin hv
  obtain ⟨rfl, hX⟩ := hv
  have hP : va_P D CL (srZ h qb qt cI z) s.heap := hX.1
  have hK := hX.2
  have hS : va_S (A3 h qb qt) s.heap s.heap [] := va_S.rf
  have hx := S.1
  have hb := S.2.1
  have hown := S.2.2.2.1
  have hts := S.2.2.2.2
  have hl := lv_entry ([.ref h, .int v]) (n := 2) (Nat.le_of_ble_eq_true rfl)
  rw [lg_entry_eq]
  generalize (lg_sl ([.ref h, .int v]) ++ List.replicate (2 - (lg_sl ([.ref h, .int v])).length) Slot.unset).toArray = ls at hl ⊢
  have hl : lv_has ls 2 [(0, .ref h), (1, .int v)] := hl
  refine lv_aload_n hx hb dS_putFour_0 rfl (lv_at hl 0 rfl) ?_
  refine lv_iload_n hx hb dS_putFour_1 rfl (lv_at hl 1 rfl) ?_
  refine lv_bipush (v := 24) hx hb dS_putFour_2 (by decide) ?_
  refine lv_ishr hx hb dS_putFour_4 ?_
  refine mu_V (As := [.int (v >>> ((24 : Int32) &&& 31) : Int32)]) (rest := []) (n := 1) (C := "SignReader") S (cS_putByte l D h qb qt cI (z)  ((v >>> ((24 : Int32) &&& 31) : Int32)) hd hz ) k274 k1 k273 ks14 (by decide +kernel) ⟨rfl, rfl⟩ k271 (by decide) (xW_V ⟨hP, hK⟩) rfl rfl hl.1 (Nat.le_of_ble_eq_true rfl) ⟨Nat.le_refl _, Nat.le_refl _⟩ dS_putFour_5 hS (fun _ h9 => h9) (fun H locs hP hS => ?_)
  have hP : va_P D CL (srZ h qb qt cI (wB z ((v >>> ((24 : Int32) &&& 31) : Int32)))) H := hP
  refine lv_aload_n hx hb dS_putFour_8 rfl (lv_at hl 0 rfl) ?_
  refine lv_iload_n hx hb dS_putFour_9 rfl (lv_at hl 1 rfl) ?_
  refine lv_bipush (v := 16) hx hb dS_putFour_10 (by decide) ?_
  refine lv_ishr hx hb dS_putFour_12 ?_
  refine mu_V (As := [.int (v >>> ((16 : Int32) &&& 31) : Int32)]) (rest := []) (n := 1) (C := "SignReader") S (cS_putByte l D h qb qt cI (wB z ((v >>> ((24 : Int32) &&& 31) : Int32)))  ((v >>> ((16 : Int32) &&& 31) : Int32)) hd (wB_ok hz) ) k274 k1 k273 ks14 (by decide +kernel) ⟨rfl, rfl⟩ k271 (by decide) (xW_V ⟨hP, hK⟩) rfl rfl hl.1 (Nat.le_of_ble_eq_true rfl) ⟨Nat.le_refl _, Nat.le_refl _⟩ dS_putFour_13 hS (fun _ h9 => h9) (fun H locs hP hS => ?_)
  have hP : va_P D CL (srZ h qb qt cI (wB (wB z ((v >>> ((24 : Int32) &&& 31) : Int32))) ((v >>> ((16 : Int32) &&& 31) : Int32)))) H := hP
  refine lv_aload_n hx hb dS_putFour_16 rfl (lv_at hl 0 rfl) ?_
  refine lv_iload_n hx hb dS_putFour_17 rfl (lv_at hl 1 rfl) ?_
  refine lv_bipush (v := 8) hx hb dS_putFour_18 (by decide) ?_
  refine lv_ishr hx hb dS_putFour_20 ?_
  refine mu_V (As := [.int (v >>> ((8 : Int32) &&& 31) : Int32)]) (rest := []) (n := 1) (C := "SignReader") S (cS_putByte l D h qb qt cI (wB (wB z ((v >>> ((24 : Int32) &&& 31) : Int32))) ((v >>> ((16 : Int32) &&& 31) : Int32)))  ((v >>> ((8 : Int32) &&& 31) : Int32)) hd (wB_ok (wB_ok hz)) ) k274 k1 k273 ks14 (by decide +kernel) ⟨rfl, rfl⟩ k271 (by decide) (xW_V ⟨hP, hK⟩) rfl rfl hl.1 (Nat.le_of_ble_eq_true rfl) ⟨Nat.le_refl _, Nat.le_refl _⟩ dS_putFour_21 hS (fun _ h9 => h9) (fun H locs hP hS => ?_)
  have hP : va_P D CL (srZ h qb qt cI (wB (wB (wB z ((v >>> ((24 : Int32) &&& 31) : Int32))) ((v >>> ((16 : Int32) &&& 31) : Int32))) ((v >>> ((8 : Int32) &&& 31) : Int32)))) H := hP
  refine lv_aload_n hx hb dS_putFour_24 rfl (lv_at hl 0 rfl) ?_
  refine lv_iload_n hx hb dS_putFour_25 rfl (lv_at hl 1 rfl) ?_
  refine mu_V (As := [.int v]) (rest := []) (n := 1) (C := "SignReader") S (cS_putByte l D h qb qt cI (wB (wB (wB z ((v >>> ((24 : Int32) &&& 31) : Int32))) ((v >>> ((16 : Int32) &&& 31) : Int32))) ((v >>> ((8 : Int32) &&& 31) : Int32)))  (v) hd (wB_ok (wB_ok (wB_ok hz))) ) k274 k1 k273 ks14 (by decide +kernel) ⟨rfl, rfl⟩ k271 (by decide) (xW_V ⟨hP, hK⟩) rfl rfl hl.1 (Nat.le_of_ble_eq_true rfl) ⟨Nat.le_refl _, Nat.le_refl _⟩ dS_putFour_26 hS (fun _ h9 => h9) (fun H locs hP hS => ?_)
  have hP : va_P D CL (srZ h qb qt cI (wB (wB (wB (wB z ((v >>> ((24 : Int32) &&& 31) : Int32))) ((v >>> ((16 : Int32) &&& 31) : Int32))) ((v >>> ((8 : Int32) &&& 31) : Int32))) v)) H := hP
  have hP : va_P D CL (srZ h qb qt cI (w4 z v)) _ := va_Pe (congrArg (srZ h qb qt cI) (rfl : (wB (wB (wB (wB z ((v >>> ((24 : Int32) &&& 31) : Int32))) ((v >>> ((16 : Int32) &&& 31) : Int32))) ((v >>> ((8 : Int32) &&& 31) : Int32))) v : SS) = w4 z v)) hP
  exact mu_ret0 S hr hk hP hS dS_putFour_29
def w2 (z : SS) (u w : Int32) : SS := if w = 1 then wB (wB z (u >>> ((8 : Int32) &&& 31))) u else wB (wB z u) (u >>> ((8 : Int32) &&& 31))
theorem w2_ok {z : SS} {u w : Int32} (hz : okZ z) : okZ (w2 z u w) := by unfold w2; split <;> exact wB_ok (wB_ok hz)
set_option maxHeartbeats 4000000 in
set_option maxRecDepth 100000 in
theorem cS_putPair (l : Launch) (D : va_G) (h qb qt : Nat) (cI : ClassId) (z : SS) (u w : Int32) (hd : ap3 h qb qt) (hz : okZ z) : Met l yS_putPair (Cond.code yS_putPair prog_1_method_34_code 3 none :: TB) { frames := 1, cells := 0, slots := 0, locals := 21 } (gx (xZ9 D h qb qt cI z) [.ref h, .int u, .int w]) (mQ (none) D (srZ h qb qt cI (w2 z u w)) (A3 h qb qt)) 0 0 (A3 h qb qt) := by
  refine mt_of (by decide) ?_
  intro p e s m args below meth cd S hr hk hin hv
  obtain ⟨rfl, hX⟩ := hv
  have hP : va_P D CL (srZ h qb qt cI z) s.heap := hX.1
  have hK := hX.2
  have hS : va_S (A3 h qb qt) s.heap s.heap [] := va_S.rf
  have hx := S.1
  have hb := S.2.1
  have hown := S.2.2.2.1
  have hts := S.2.2.2.2
  have hl := lv_entry ([.ref h, .int u, .int w]) (n := 3) (Nat.le_of_ble_eq_true rfl)
  rw [lg_entry_eq]
  generalize (lg_sl ([.ref h, .int u, .int w]) ++ List.replicate (3 - (lg_sl ([.ref h, .int u, .int w])).length) Slot.unset).toArray = ls at hl ⊢
  have hl : lv_has ls 3 [(0, .ref h), (1, .int u), (2, .int w)] := hl
  refine lv_iload_n hx hb dS_putPair_0 rfl (lv_at hl 2 rfl) ?_
  refine lv_iconst (v := 1) hx hb dS_putPair_1 (by decide) ?_
  refine lv_icmp_ne (tgt := 21) hx hb dS_putPair_2 (by decide) (fun c1 => ?_) (fun c1 => ?_)
  · skip
    refine lv_aload_n hx hb dS_putPair_21 rfl (lv_at hl 0 rfl) ?_
    refine lv_iload_n hx hb dS_putPair_22 rfl (lv_at hl 1 rfl) ?_
    refine mu_V (As := [.int u]) (rest := []) (n := 1) (C := "SignReader") S (cS_putByte l D h qb qt cI (z)  (u) hd hz ) k274 k1 k273 ks14 (by decide +kernel) ⟨rfl, rfl⟩ k271 (by decide) (xW_V ⟨hP, hK⟩) rfl rfl hl.1 (Nat.le_of_ble_eq_true rfl) ⟨Nat.le_refl _, Nat.le_refl _⟩ dS_putPair_23 hS (fun _ h9 => h9) (fun H locs hP hS => ?_)
    have hP : va_P D CL (srZ h qb qt cI (wB z u)) H := hP
    refine lv_aload_n hx hb dS_putPair_26 rfl (lv_at hl 0 rfl) ?_
    refine lv_iload_n hx hb dS_putPair_27 rfl (lv_at hl 1 rfl) ?_
    refine lv_bipush (v := 8) hx hb dS_putPair_28 (by decide) ?_
    refine lv_ishr hx hb dS_putPair_30 ?_
    refine mu_V (As := [.int (u >>> ((8 : Int32) &&& 31) : Int32)]) (rest := []) (n := 1) (C := "SignReader") S (cS_putByte l D h qb qt cI (wB z u)  ((u >>> ((8 : Int32) &&& 31) : Int32)) hd (wB_ok hz) ) k274 k1 k273 ks14 (by decide +kernel) ⟨rfl, rfl⟩ k271 (by decide) (xW_V ⟨hP, hK⟩) rfl rfl hl.1 (Nat.le_of_ble_eq_true rfl) ⟨Nat.le_refl _, Nat.le_refl _⟩ dS_putPair_31 hS (fun _ h9 => h9) (fun H locs hP hS => ?_)
    have hP : va_P D CL (srZ h qb qt cI (wB (wB z u) ((u >>> ((8 : Int32) &&& 31) : Int32)))) H := hP
    have hP : va_P D CL (srZ h qb qt cI (w2 z u w)) _ := va_Pe (congrArg (srZ h qb qt cI) (by simp only [w2, c1, ↓reduceIte] : (wB (wB z u) ((u >>> ((8 : Int32) &&& 31) : Int32)) : SS) = w2 z u w)) hP
    exact mu_ret0 S hr hk hP hS dS_putPair_34
  · skip
    refine lv_aload_n hx hb dS_putPair_5 rfl (lv_at hl 0 rfl) ?_
    refine lv_iload_n hx hb dS_putPair_6 rfl (lv_at hl 1 rfl) ?_
    refine lv_bipush (v := 8) hx hb dS_putPair_7 (by decide) ?_
    refine lv_ishr hx hb dS_putPair_9 ?_
    refine mu_V (As := [.int (u >>> ((8 : Int32) &&& 31) : Int32)]) (rest := []) (n := 1) (C := "SignReader") S (cS_putByte l D h qb qt cI (z)  ((u >>> ((8 : Int32) &&& 31) : Int32)) hd hz ) k274 k1 k273 ks14 (by decide +kernel) ⟨rfl, rfl⟩ k271 (by decide) (xW_V ⟨hP, hK⟩) rfl rfl hl.1 (Nat.le_of_ble_eq_true rfl) ⟨Nat.le_refl _, Nat.le_refl _⟩ dS_putPair_10 hS (fun _ h9 => h9) (fun H locs hP hS => ?_)
    have hP : va_P D CL (srZ h qb qt cI (wB z ((u >>> ((8 : Int32) &&& 31) : Int32)))) H := hP
    refine lv_aload_n hx hb dS_putPair_13 rfl (lv_at hl 0 rfl) ?_
    refine lv_iload_n hx hb dS_putPair_14 rfl (lv_at hl 1 rfl) ?_
    refine mu_V (As := [.int u]) (rest := []) (n := 1) (C := "SignReader") S (cS_putByte l D h qb qt cI (wB z ((u >>> ((8 : Int32) &&& 31) : Int32)))  (u) hd (wB_ok hz) ) k274 k1 k273 ks14 (by decide +kernel) ⟨rfl, rfl⟩ k271 (by decide) (xW_V ⟨hP, hK⟩) rfl rfl hl.1 (Nat.le_of_ble_eq_true rfl) ⟨Nat.le_refl _, Nat.le_refl _⟩ dS_putPair_15 hS (fun _ h9 => h9) (fun H locs hP hS => ?_)
    have hP : va_P D CL (srZ h qb qt cI (wB (wB z ((u >>> ((8 : Int32) &&& 31) : Int32))) u)) H := hP
    refine lv_goto (tgt := 34) hx hb dS_putPair_18 (by decide) ?_
    have hP : va_P D CL (srZ h qb qt cI (w2 z u w)) _ := va_Pe (congrArg (srZ h qb qt cI) (by simp only [w2, c1, ↓reduceIte] : (wB (wB z ((u >>> ((8 : Int32) &&& 31) : Int32))) u : SS) = w2 z u w)) hP
    exact mu_ret0 S hr hk hP hS dS_putPair_34
def w16 (z : SS) (c w : Int32) : SS := if 65536 ≤ c then w2 (w2 z (55296 + ((c - 65536) >>> ((10 : Int32) &&& 31) : Int32)) w) (56320 + ((c - 65536) &&& 1023)) w else w2 z c w
theorem w16_ok {z : SS} {c w : Int32} (hz : okZ z) : okZ (w16 z c w) := by
  unfold w16
  split
  · exact w2_ok (w2_ok hz)
  · exact w2_ok hz
set_option maxHeartbeats 4000000 in
set_option maxRecDepth 100000 in
theorem cS_put16Bits (l : Launch) (D : va_G) (h qb qt : Nat) (cI : ClassId) (z : SS) (c w : Int32) (hd : ap3 h qb qt) (hz : okZ z) : Met l yS_put16Bits (Cond.code yS_put16Bits prog_1_method_33_code 4 none :: TB) { frames := 2, cells := 0, slots := 0, locals := 43 } (gx (xZ9 D h qb qt cI z) [.ref h, .int c, .int w]) (mQ (none) D (srZ h qb qt cI (w16 z c w)) (A3 h qb qt)) 0 0 (A3 h qb qt) := by
  refine mt_of (by decide) ?_
  intro p e s m args below meth cd S hr hk hin hv
  obtain ⟨rfl, hX⟩ := hv
  have hP : va_P D CL (srZ h qb qt cI z) s.heap := hX.1
  have hK := hX.2
  have hS : va_S (A3 h qb qt) s.heap s.heap [] := va_S.rf
  have hx := S.1
  have hb := S.2.1
  have hown := S.2.2.2.1
  have hts := S.2.2.2.2
  have hl := lv_entry ([.ref h, .int c, .int w]) (n := 4) (Nat.le_of_ble_eq_true rfl)
  rw [lg_entry_eq]
  generalize (lg_sl ([.ref h, .int c, .int w]) ++ List.replicate (4 - (lg_sl ([.ref h, .int c, .int w])).length) Slot.unset).toArray = ls at hl ⊢
  have hl : lv_has ls 4 [(0, .ref h), (1, .int c), (2, .int w)] := hl
  refine lv_iload_n hx hb dS_put16Bits_0 rfl (lv_at hl 1 rfl) ?_
  refine lv_ldc (v := 65536) hx hb hown (hts _ k79) dS_put16Bits_1 ?_
  refine lv_icmp_ge (tgt := 13) hx hb dS_put16Bits_3 (by decide) (fun c1 => ?_) (fun c1 => ?_)
  · skip
    refine lv_iload_n hx hb dS_put16Bits_13 rfl (lv_at hl 1 rfl) ?_
    refine lv_ldc (v := 65536) hx hb hown (hts _ k79) dS_put16Bits_14 ?_
    refine lv_isub hx hb dS_put16Bits_16 ?_
    refine lv_istore_n (lv' := [(3, .int (c - 65536)), (0, .ref h), (1, .int c), (2, .int w)]) hx hb dS_put16Bits_17 rfl hl (by decide) rfl (fun ls hl => ?_)
    refine lv_aload_n hx hb dS_put16Bits_18 rfl (lv_at hl 1 rfl) ?_
    refine lv_ldc (v := 55296) hx hb hown (hts _ k75) dS_put16Bits_19 ?_
    refine lv_iload_n hx hb dS_put16Bits_21 rfl (lv_at hl 0 rfl) ?_
    refine lv_bipush (v := 10) hx hb dS_put16Bits_22 (by decide) ?_
    refine lv_ishr hx hb dS_put16Bits_24 ?_
    refine lv_iadd hx hb dS_put16Bits_25 ?_
    refine lv_iload_n hx hb dS_put16Bits_26 rfl (lv_at hl 3 rfl) ?_
    refine mu_V (As := [.int (55296 + ((c - 65536) >>> ((10 : Int32) &&& 31) : Int32)), .int w]) (rest := []) (n := 2) (C := "SignReader") S (cS_putPair l D h qb qt cI (z)  ((55296 + ((c - 65536) >>> ((10 : Int32) &&& 31) : Int32))) (w) hd hz ) k270 k1 k269 ks13 (by decide +kernel) ⟨rfl, rfl⟩ k267 (by decide) (xW_V ⟨hP, hK⟩) rfl rfl hl.1 (Nat.le_of_ble_eq_true rfl) ⟨Nat.le_refl _, Nat.le_refl _⟩ dS_put16Bits_27 hS (fun _ h9 => h9) (fun H locs hP hS => ?_)
    have hP : va_P D CL (srZ h qb qt cI (w2 z ((55296 + ((c - 65536) >>> ((10 : Int32) &&& 31) : Int32))) w)) H := hP
    refine lv_aload_n hx hb dS_put16Bits_30 rfl (lv_at hl 1 rfl) ?_
    refine lv_ldc (v := 56320) hx hb hown (hts _ k77) dS_put16Bits_31 ?_
    refine lv_iload_n hx hb dS_put16Bits_33 rfl (lv_at hl 0 rfl) ?_
    refine lv_sipush (v := 1023) hx hb dS_put16Bits_34 (by decide) ?_
    refine lv_iand hx hb dS_put16Bits_37 ?_
    refine lv_iadd hx hb dS_put16Bits_38 ?_
    refine lv_iload_n hx hb dS_put16Bits_39 rfl (lv_at hl 3 rfl) ?_
    refine mu_V (As := [.int (56320 + ((c - 65536) &&& 1023)), .int w]) (rest := []) (n := 2) (C := "SignReader") S (cS_putPair l D h qb qt cI (w2 z ((55296 + ((c - 65536) >>> ((10 : Int32) &&& 31) : Int32))) w)  ((56320 + ((c - 65536) &&& 1023))) (w) hd (w2_ok hz) ) k270 k1 k269 ks13 (by decide +kernel) ⟨rfl, rfl⟩ k267 (by decide) (xW_V ⟨hP, hK⟩) rfl rfl hl.1 (Nat.le_of_ble_eq_true rfl) ⟨Nat.le_refl _, Nat.le_refl _⟩ dS_put16Bits_40 hS (fun _ h9 => h9) (fun H locs hP hS => ?_)
    have hP : va_P D CL (srZ h qb qt cI (w2 (w2 z ((55296 + ((c - 65536) >>> ((10 : Int32) &&& 31) : Int32))) w) ((56320 + ((c - 65536) &&& 1023))) w)) H := hP
    have hP : va_P D CL (srZ h qb qt cI (w16 z c w)) _ := va_Pe (congrArg (srZ h qb qt cI) (by simp only [w16, c1, ↓reduceIte] : (w2 (w2 z ((55296 + ((c - 65536) >>> ((10 : Int32) &&& 31) : Int32))) w) ((56320 + ((c - 65536) &&& 1023))) w : SS) = w16 z c w)) hP
    exact mu_ret0 S hr hk hP hS dS_put16Bits_43
  · skip
    refine lv_aload_n hx hb dS_put16Bits_6 rfl (lv_at hl 0 rfl) ?_
    refine lv_iload_n hx hb dS_put16Bits_7 rfl (lv_at hl 1 rfl) ?_
    refine lv_iload_n hx hb dS_put16Bits_8 rfl (lv_at hl 2 rfl) ?_
    refine mu_V (As := [.int c, .int w]) (rest := []) (n := 2) (C := "SignReader") S (cS_putPair l D h qb qt cI (z)  (c) (w) hd hz ) k270 k1 k269 ks13 (by decide +kernel) ⟨rfl, rfl⟩ k267 (by decide) (xW_V ⟨hP, hK⟩) rfl rfl hl.1 (Nat.le_of_ble_eq_true rfl) ⟨Nat.le_refl _, Nat.le_refl _⟩ dS_put16Bits_9 hS (fun _ h9 => h9) (fun H locs hP hS => ?_)
    have hP : va_P D CL (srZ h qb qt cI (w2 z c w)) H := hP
    have hP : va_P D CL (srZ h qb qt cI (w16 z c w)) _ := va_Pe (congrArg (srZ h qb qt cI) (by simp only [w16, c1, ↓reduceIte] : (w2 z c w : SS) = w16 z c w)) hP
    exact mu_ret0 S hr hk hP hS dS_put16Bits_12
/-- the bytes behind the first one of a character in 8 bits -/
def wT (c : Int32) : Nat → SS → SS
  | 0, z => z
  | k + 1, z => wT c k (wB z (128 + ((c >>> ((6 * nI k) &&& 31) : Int32) &&& 63)))
theorem wT_ok {c : Int32} : ∀ {k : Nat} {z : SS}, okZ z → okZ (wT c k z)
  | 0, _, h => h
  | k + 1, _, h => wT_ok (k := k) (wB_ok h)
def sz8 (c : Int32) : Nat := if 128 ≤ c then (if 2048 ≤ c then (if 65536 ≤ c then 3 else 2) else 1) else 0
theorem sz8_eq (c : Int32) : sSize8 c - 1 = nI (sz8 c) := by
  unfold sSize8 sz8
  split
  · split
    · split <;> rfl
    · rfl
  · rfl
theorem sz8_le (c : Int32) : sz8 c ≤ 3 := by
  unfold sz8
  split
  · split
    · split <;> omega
    · omega
  · omega
def w8 (z : SS) (c : Int32) : SS := if sz8 c = 0 then wB z c else wT c (sz8 c) (wB z (256 - ((128 : Int32) >>> (nI (sz8 c) &&& 31) : Int32) + (c >>> ((6 * nI (sz8 c)) &&& 31) : Int32)))
theorem w8_ok {z : SS} {c : Int32} (hz : okZ z) : okZ (w8 z c) := by
  unfold w8
  split
  · exact wB_ok hz
  · exact wT_ok (wB_ok hz)
set_option maxHeartbeats 4000000 in
set_option maxRecDepth 100000 in
theorem cS_put8Bits (l : Launch) (D : va_G) (h qb qt : Nat) (cI : ClassId) (z : SS) (c : Int32) (hd : ap3 h qb qt) (hz : okZ z) : Met l yS_put8Bits (Cond.code yS_put8Bits prog_1_method_32_code 5 none :: TB) { frames := 1, cells := 0, slots := 0, locals := 21 } (gx (xZ9 D h qb qt cI z) [.ref h, .int c]) (mQ (none) D (srZ h qb qt cI (w8 z c)) (A3 h qb qt)) 0 0 (A3 h qb qt) := by
  refine mt_of (by decide) ?_
  intro p e s m args below meth cd S hr hk hin hv
  obtain ⟨rfl, hX⟩ := hv
  have hP : va_P D CL (srZ h qb qt cI z) s.heap := hX.1
  have hK := hX.2
  have hS : va_S (A3 h qb qt) s.heap s.heap [] := va_S.rf
  have hx := S.1
  have hb := S.2.1
  have hown := S.2.2.2.1
  have hts := S.2.2.2.2
  have hl := lv_entry ([.ref h, .int c]) (n := 5) (Nat.le_of_ble_eq_true rfl)
  rw [lg_entry_eq]
  generalize (lg_sl ([.ref h, .int c]) ++ List.replicate (5 - (lg_sl ([.ref h, .int c])).length) Slot.unset).toArray = ls at hl ⊢
  have hl : lv_has ls 5 [(0, .ref h), (1, .int c)] := hl
  refine lv_iload_n hx hb dS_put8Bits_0 rfl (lv_at hl 1 rfl) ?_
  refine ro_S (As := [.int c]) (rest := []) (n := 1) S (cS_sizeOf8Bits l (c)) k89 k1 k88 (by decide +kernel) ⟨rfl, rfl⟩ k87 (by decide) preEq rfl rfl hl.1 (Nat.le_of_ble_eq_true rfl) ⟨Nat.le_refl _, Nat.le_refl _⟩ dS_put8Bits_1 ?_
  refine lv_iconst (v := 1) hx hb dS_put8Bits_4 (by decide) ?_
  refine lv_isub hx hb dS_put8Bits_5 ?_
  rw [sz8_eq]
  refine lv_istore_n (lv' := [(2, .int (nI (sz8 c))), (0, .ref h), (1, .int c)]) hx hb dS_put8Bits_6 rfl hl (by decide) rfl (fun ls hl => ?_)
  refine lv_iload_n hx hb dS_put8Bits_7 rfl (lv_at hl 0 rfl) ?_
  refine lv_if_ne (tgt := 17) hx hb dS_put8Bits_8 (by decide) (fun c1 => ?_) (fun c1 => ?_)
  · skip
    have hc9 : ¬ sz8 c = 0 := fun q => c1 (by rw [q]; rfl)
    refine lv_sipush (v := 256) hx hb dS_put8Bits_17 (by decide) ?_
    refine lv_sipush (v := 128) hx hb dS_put8Bits_20 (by decide) ?_
    refine lv_iload_n hx hb dS_put8Bits_23 rfl (lv_at hl 0 rfl) ?_
    refine lv_ishr hx hb dS_put8Bits_24 ?_
    refine lv_isub hx hb dS_put8Bits_25 ?_
    refine lv_istore_n (lv' := [(3, .int (256 - ((128 : Int32) >>> ((nI (sz8 c)) &&& 31) : Int32))), (2, .int (nI (sz8 c))), (0, .ref h), (1, .int c)]) hx hb dS_put8Bits_26 rfl hl (by decide) rfl (fun ls hl => ?_)
    refine lv_aload_n hx hb dS_put8Bits_27 rfl (lv_at hl 2 rfl) ?_
    refine lv_iload_n hx hb dS_put8Bits_28 rfl (lv_at hl 0 rfl) ?_
    refine lv_iload_n hx hb dS_put8Bits_29 rfl (lv_at hl 3 rfl) ?_
    refine lv_bipush (v := 6) hx hb dS_put8Bits_30 (by decide) ?_
    refine lv_iload_n hx hb dS_put8Bits_32 rfl (lv_at hl 1 rfl) ?_
    refine lv_imul hx hb dS_put8Bits_33 ?_
    refine lv_ishr hx hb dS_put8Bits_34 ?_
    refine lv_iadd hx hb dS_put8Bits_35 ?_
    refine mu_V (As := [.int ((256 - ((128 : Int32) >>> ((nI (sz8 c)) &&& 31) : Int32)) + (c >>> ((6 * (nI (sz8 c))) &&& 31) : Int32))]) (rest := []) (n := 1) (C := "SignReader") S (cS_putByte l D h qb qt cI (z)  (((256 - ((128 : Int32) >>> ((nI (sz8 c)) &&& 31) : Int32)) + (c >>> ((6 * (nI (sz8 c))) &&& 31) : Int32))) hd hz ) k274 k1 k273 ks14 (by decide +kernel) ⟨rfl, rfl⟩ k271 (by decide) (xW_V ⟨hP, hK⟩) rfl rfl hl.1 (Nat.le_of_ble_eq_true rfl) ⟨Nat.le_refl _, Nat.le_refl _⟩ dS_put8Bits_36 hS (fun _ h9 => h9) (fun H locs hP hS => ?_)
    have hP : va_P D CL (srZ h qb qt cI (wB z (((256 - ((128 : Int32) >>> ((nI (sz8 c)) &&& 31) : Int32)) + (c >>> ((6 * (nI (sz8 c))) &&& 31) : Int32))))) H := hP
    refine lv_iload_n hx hb dS_put8Bits_39 rfl (lv_at hl 1 rfl) ?_
    refine lv_iconst (v := 1) hx hb dS_put8Bits_40 (by decide) ?_
    refine lv_isub hx hb dS_put8Bits_41 ?_
    refine lv_istore (lv' := [(4, .int ((nI (sz8 c)) - 1)), (3, .int (256 - ((128 : Int32) >>> ((nI (sz8 c)) &&& 31) : Int32))), (2, .int (nI (sz8 c))), (0, .ref h), (1, .int c)]) hx hb dS_put8Bits_42 hl (by decide) rfl (fun ls hl => ?_)
    have J44 : ∀ (fu : Nat) (x : Int32) (k : Nat) (z9 : SS) (H : Heap) (locs : List Loc), x = nI k - 1 → k ≤ 3 → k < fu → w8 z c = wT c k z9 → okZ z9 → va_P D CL (srZ h qb qt cI z9) H → va_S (A3 h qb qt) s.heap H locs → ∀ ls : Array Slot, lv_has ls 5 [(3, .int (256 - ((128 : Int32) >>> ((nI (sz8 c)) &&& 31) : Int32))), (2, .int (nI (sz8 c))), (0, .ref h), (1, .int c), (4, .int x)] → W p l e { frames := 1, cells := 0, slots := 0, locals := 21 } s m [.ref h, .int c].toArray below meth cd H locs 0 0 (MQ below (mQ (none) D (srZ h qb qt cI (w8 z c)) (A3 h qb qt)) [.ref h, .int c].toArray s 0 0 (A3 h qb qt)) (F0 m 44 ls []) := by
      intro fu
      induction fu with
      | zero =>
        intro x k z9 H locs hx9 hk9 hf9 hR hz9 hP hS ls hl
        exact absurd hf9 (by omega)
      | succ fu ih =>
        intro x k z9 H locs hx9 hk9 hf9 hR hz9 hP hS ls hl
        subst hx9
        refine lv_iload hx hb dS_put8Bits_44 (lv_at hl 4 rfl) ?_
        refine lv_if_lt (tgt := 73) hx hb dS_put8Bits_46 (by decide) (fun c2 => ?_) (fun c2 => ?_)
        · skip
          replace c2 := Int32.not_le.mpr c2
          have hk0 : k = 0 := by rcases k with _ | k; rfl; exact absurd (by rw [nI_pred]; exact nI_pos' (by omega)) c2
          subst hk0
          have hP : va_P D CL (srZ h qb qt cI (w8 z c)) _ := va_Pe (congrArg (srZ h qb qt cI) (hR.symm : (z9 : SS) = w8 z c)) hP
          exact mu_ret0 S hr hk hP hS dS_put8Bits_73
        · skip
          replace c2 := Int32.not_lt.mp c2
          obtain ⟨k9, rfl⟩ : ∃ k9, k = k9 + 1 := ⟨k - 1, by rcases k with _ | k; exact absurd c2 (by decide); omega⟩
          rw [nI_pred] at *
          refine lv_aload_n hx hb dS_put8Bits_49 rfl (lv_at hl 2 rfl) ?_
          refine lv_sipush (v := 128) hx hb dS_put8Bits_50 (by decide) ?_
          refine lv_iload_n hx hb dS_put8Bits_53 rfl (lv_at hl 3 rfl) ?_
          refine lv_bipush (v := 6) hx hb dS_put8Bits_54 (by decide) ?_
          refine lv_iload hx hb dS_put8Bits_56 (lv_at hl 4 rfl) ?_
          refine lv_imul hx hb dS_put8Bits_58 ?_
          refine lv_ishr hx hb dS_put8Bits_59 ?_
          refine lv_bipush (v := 63) hx hb dS_put8Bits_60 (by decide) ?_
          refine lv_iand hx hb dS_put8Bits_62 ?_
          refine lv_iadd hx hb dS_put8Bits_63 ?_
          refine mu_V (As := [.int (128 + ((c >>> ((6 * (nI k9)) &&& 31) : Int32) &&& 63))]) (rest := []) (n := 1) (C := "SignReader") S (cS_putByte l D h qb qt cI (z9)  ((128 + ((c >>> ((6 * (nI k9)) &&& 31) : Int32) &&& 63))) hd hz9 ) k274 k1 k273 ks14 (by decide +kernel) ⟨rfl, rfl⟩ k271 (by decide) (xW_V ⟨hP, hK⟩) rfl rfl hl.1 (Nat.le_of_ble_eq_true rfl) ⟨Nat.le_refl _, Nat.le_refl _⟩ dS_put8Bits_64 hS (fun _ h9 => h9) (fun H locs hP hS => ?_)
          have hP : va_P D CL (srZ h qb qt cI (wB z9 ((128 + ((c >>> ((6 * (nI k9)) &&& 31) : Int32) &&& 63))))) H := hP
          refine lv_iinc (v := ((nI k9) + (-1))) (lv' := [(4, .int ((nI k9) + (-1))), (3, .int (256 - ((128 : Int32) >>> ((nI (sz8 c)) &&& 31) : Int32))), (2, .int (nI (sz8 c))), (0, .ref h), (1, .int c)]) hx hb dS_put8Bits_67 hl (k := 4) rfl rfl (by decide) rfl (fun ls hl => ?_)
          refine lv_goto (tgt := 44) hx hb dS_put8Bits_70 (by decide) ?_
          exact ih (((nI k9) + (-1))) (k9) (wB z9 ((128 + ((c >>> ((6 * (nI k9)) &&& 31) : Int32) &&& 63)))) (_) (_) (by rw [Int32.sub_eq_add_neg]) (by omega) (by omega) (hR) ((wB_ok hz9)) (hP) (hS) ls (lv_sub hl [1, 2, 3, 4, 0] rfl) 
    exact J44 (sz8 c + 1) (((nI (sz8 c)) - 1)) (sz8 c) (wB z (((256 - ((128 : Int32) >>> ((nI (sz8 c)) &&& 31) : Int32)) + (c >>> ((6 * (nI (sz8 c))) &&& 31) : Int32)))) (_) (_) (rfl) (sz8_le c) (by omega) (by rw [w8, if_neg hc9]) ((wB_ok hz)) (hP) (hS) ls (lv_sub hl [1, 2, 3, 4, 0] rfl) 
  · skip
    have hc9 : sz8 c = 0 := (nI_eq (by have := sz8_le c; omega) (by omega)).mp (by rw [nI_0]; exact c1)
    refine lv_aload_n hx hb dS_put8Bits_11 rfl (lv_at hl 1 rfl) ?_
    refine lv_iload_n hx hb dS_put8Bits_12 rfl (lv_at hl 2 rfl) ?_
    refine mu_V (As := [.int c]) (rest := []) (n := 1) (C := "SignReader") S (cS_putByte l D h qb qt cI (z)  (c) hd hz ) k274 k1 k273 ks14 (by decide +kernel) ⟨rfl, rfl⟩ k271 (by decide) (xW_V ⟨hP, hK⟩) rfl rfl hl.1 (Nat.le_of_ble_eq_true rfl) ⟨Nat.le_refl _, Nat.le_refl _⟩ dS_put8Bits_13 hS (fun _ h9 => h9) (fun H locs hP hS => ?_)
    have hP : va_P D CL (srZ h qb qt cI (wB z c)) H := hP
    have hP : va_P D CL (srZ h qb qt cI (w8 z c)) _ := va_Pe (congrArg (srZ h qb qt cI) (by rw [w8, if_pos hc9] : (wB z c : SS) = w8 z c)) hP
    exact mu_ret0 S hr hk hP hS dS_put8Bits_16
def wC (z : SS) (c w : Int32) : SS := if s16 w = true then w16 z c w else w8 z c
theorem wC_ok {z : SS} {c w : Int32} (hz : okZ z) : okZ (wC z c w) := by
  unfold wC
  split
  · exact w16_ok hz
  · exact w8_ok hz
set_option maxHeartbeats 4000000 in
set_option maxRecDepth 100000 in
theorem cS_putCharacter (l : Launch) (D : va_G) (h qb qt : Nat) (cI : ClassId) (z : SS) (c w : Int32) (hd : ap3 h qb qt) (hz : okZ z) : Met l yS_putCharacter (Cond.code yS_putCharacter prog_1_method_31_code 3 none :: TB) { frames := 3, cells := 0, slots := 0, locals := 66 } (gx (xZ9 D h qb qt cI z) [.ref h, .int c, .int w]) (mQ (none) D (srZ h qb qt cI (wC z c w)) (A3 h qb qt)) 0 0 (A3 h qb qt) := by
  refine mt_of (by decide) ?_
  intro p e s m args below meth cd S hr hk hin hv
  obtain ⟨rfl, hX⟩ := hv
  have hP : va_P D CL (srZ h qb qt cI z) s.heap := hX.1
  have hK := hX.2
  have hS : va_S (A3 h qb qt) s.heap s.heap [] := va_S.rf
  have hx := S.1
  have hb := S.2.1
  have hown := S.2.2.2.1
  have hts := S.2.2.2.2
  have hl := lv_entry ([.ref h, .int c, .int w]) (n := 3) (Nat.le_of_ble_eq_true rfl)
  rw [lg_entry_eq]
  generalize (lg_sl ([.ref h, .int c, .int w]) ++ List.replicate (3 - (lg_sl ([.ref h, .int c, .int w])).length) Slot.unset).toArray = ls at hl ⊢
  have hl : lv_has ls 3 [(0, .ref h), (1, .int c), (2, .int w)] := hl
  refine lv_iload_n hx hb dS_putCharacter_0 rfl (lv_at hl 2 rfl) ?_
  refine ro_S (As := [.int w]) (rest := []) (n := 1) S (cS_isSixteenBits l (w)) k65 k1 k64 (by decide +kernel) ⟨rfl, rfl⟩ k63 (by decide) preEq rfl rfl hl.1 (Nat.le_of_ble_eq_true rfl) ⟨Nat.le_refl _, Nat.le_refl _⟩ dS_putCharacter_1 ?_
  refine lv_if_eq (tgt := 16) hx hb dS_putCharacter_4 (by decide) (fun c1 => ?_) (fun c1 => ?_)
  · skip
    replace c1 := bI_f c1
    refine lv_aload_n hx hb dS_putCharacter_16 rfl (lv_at hl 0 rfl) ?_
    refine lv_iload_n hx hb dS_putCharacter_17 rfl (lv_at hl 1 rfl) ?_
    refine mu_V (As := [.int c]) (rest := []) (n := 1) (C := "SignReader") S (cS_put8Bits l D h qb qt cI (z)  (c) hd hz ) k278 k1 k277 ks15 (by decide +kernel) ⟨rfl, rfl⟩ k275 (by decide) (xW_V ⟨hP, hK⟩) rfl rfl hl.1 (Nat.le_of_ble_eq_true rfl) ⟨Nat.le_refl _, Nat.le_refl _⟩ dS_putCharacter_18 hS (fun _ h9 => h9) (fun H locs hP hS => ?_)
    have hP : va_P D CL (srZ h qb qt cI (w8 z c)) H := hP
    have hP : va_P D CL (srZ h qb qt cI (wC z c w)) _ := va_Pe (congrArg (srZ h qb qt cI) (by simp [wC, c1] : (w8 z c : SS) = wC z c w)) hP
    exact mu_ret0 S hr hk hP hS dS_putCharacter_21
  · skip
    replace c1 := bI_t c1
    refine lv_aload_n hx hb dS_putCharacter_7 rfl (lv_at hl 0 rfl) ?_
    refine lv_iload_n hx hb dS_putCharacter_8 rfl (lv_at hl 1 rfl) ?_
    refine lv_iload_n hx hb dS_putCharacter_9 rfl (lv_at hl 2 rfl) ?_
    refine mu_V (As := [.int c, .int w]) (rest := []) (n := 2) (C := "SignReader") S (cS_put16Bits l D h qb qt cI (z)  (c) (w) hd hz ) k266 k1 k265 ks12 (by decide +kernel) ⟨rfl, rfl⟩ k263 (by decide) (xW_V ⟨hP, hK⟩) rfl rfl hl.1 (Nat.le_of_ble_eq_true rfl) ⟨Nat.le_refl _, Nat.le_refl _⟩ dS_putCharacter_10 hS (fun _ h9 => h9) (fun H locs hP hS => ?_)
    have hP : va_P D CL (srZ h qb qt cI (w16 z c w)) H := hP
    refine lv_goto (tgt := 21) hx hb dS_putCharacter_13 (by decide) ?_
    have hP : va_P D CL (srZ h qb qt cI (wC z c w)) _ := va_Pe (congrArg (srZ h qb qt cI) (by simp [wC, c1] : (w16 z c w : SS) = wC z c w)) hP
    exact mu_ret0 S hr hk hP hS dS_putCharacter_21
