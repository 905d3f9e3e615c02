/-! the reference: its object -/
abbrev moW (h qb qt qa : Nat) (cI : ClassId) (co sz ln wy ct fo : Int32) (f g a : Nat → Int32) : va_W := [(h, .inr (1, [.int co, .ref qb, .int sz, .ref qt, .int ln, .int wy, .ref qa, .int ct, .int fo])), (qb, .inl (cI, 4096, .inl f)), (qt, .inl (cI, 4096, .inl g)), (qa, .inl (cI, 4100, .inl a))]
/-- code, size, length, way, count, found, bytes, text, aside -/
abbrev MS : Type := Int32 × Nat × Nat × Int32 × Nat × Int32 × (Nat → Int32) × (Nat → Int32) × (Nat → Int32)
abbrev moZ (h qb qt qa : Nat) (cI : ClassId) (y : MS) : va_W := moW h qb qt qa cI y.1 (nI y.2.1) (nI y.2.2.1) y.2.2.2.1 (nI y.2.2.2.2.1) y.2.2.2.2.2.1 y.2.2.2.2.2.2.1 y.2.2.2.2.2.2.2.1 y.2.2.2.2.2.2.2.2
def okY (y : MS) : Prop := y.2.1 ≤ 4096 ∧ y.2.2.1 ≤ 4096 ∧ y.2.2.2.2.1 ≤ 1000000
def xM (D : va_G) (h qb qt qa : Nat) (cI : ClassId) (y : MS) : State → Heap → Prop := fun U H => va_P D CL (moZ h qb qt qa cI y) H ∧ va_K D CL [(cI, .int)] U
theorem xM_ok {D : va_G} {h qb qt qa : Nat} {cI : ClassId} {y : MS} : okX (xM D h qb qt qa cI y) := fun s U H hW q => ⟨q.1, va_K.moved hW.alike q.2⟩
theorem xM_V {D : va_G} {h qb qt qa : Nat} {cI : ClassId} {y : MS} {s : State} {H : Heap} {As : List Value} (q : xM D h qb qt qa cI y s H) : PreV s H "SignReaderModel" h (gx (xM D h qb qt qa cI y) (.ref h :: As)) As :=
  gx_V xM_ok q (va_recv q.2 q.1 (ci := 1) (q0 := 0) (q := ("SignReaderModel", T_M, 9)) rfl rfl)
def ap4 (h qb qt qa : Nat) : Prop := (h ≠ qb ∧ h ≠ qt ∧ h ≠ qa) ∧ qb ≠ qt ∧ qb ≠ qa ∧ qt ≠ qa
def A4 (h qb qt qa : Nat) : Nat → Prop := fun q => q = h ∨ q = qb ∨ q = qt ∨ q = qa
theorem moD {h qb qt qa : Nat} {cI : ClassId} {co sz ln wy ct fo : Int32} {f g a : Nat → Int32} (hd : ap4 h qb qt qa) : va_D (A4 h qb qt qa) (moW h qb qt qa cI co sz ln wy ct fo f g a) := by
  obtain ⟨⟨h1, h2, h3⟩, h4, h5, h6⟩ := hd
  have key : ∀ (k : Nat) (q : Nat × va_E), (moW h qb qt qa cI co sz ln wy ct fo f g a)[k]? = some q → (k = 0 ∧ q.1 = h) ∨ (k = 1 ∧ q.1 = qb) ∨ (k = 2 ∧ q.1 = qt) ∨ (k = 3 ∧ q.1 = qa) := by
    intro k q hq
    match k, hq with
    | 0, hq => cases hq; exact Or.inl ⟨rfl, rfl⟩
    | 1, hq => cases hq; exact Or.inr (Or.inl ⟨rfl, rfl⟩)
    | 2, hq => cases hq; exact Or.inr (Or.inr (Or.inl ⟨rfl, rfl⟩))
    | 3, hq => cases hq; exact Or.inr (Or.inr (Or.inr ⟨rfl, rfl⟩))
    | k + 4, hq => simp at hq
  constructor
  · intro i j p q hi hj he
    have a1 := key i p hi
    have a2 := key j q hj
    rcases a1 with ⟨rfl, e1⟩ | ⟨rfl, e1⟩ | ⟨rfl, e1⟩ | ⟨rfl, e1⟩ <;> rcases a2 with ⟨rfl, e2⟩ | ⟨rfl, e2⟩ | ⟨rfl, e2⟩ | ⟨rfl, e2⟩ <;> first | rfl | (exfalso; rw [e1, e2] at he; first | exact h1 he | exact h1 he.symm | exact h2 he | exact h2 he.symm | exact h3 he | exact h3 he.symm | exact h4 he | exact h4 he.symm | exact h5 he | exact h5 he.symm | exact h6 he | exact h6 he.symm)
  · intro k q hq
    rcases key k q hq with ⟨-, e⟩ | ⟨-, e⟩ | ⟨-, e⟩ | ⟨-, e⟩
    · exact Or.inl e
    · exact Or.inr (Or.inl e)
    · exact Or.inr (Or.inr (Or.inl e))
    · exact Or.inr (Or.inr (Or.inr e))
theorem y0_ok {y : MS} {c : Int32} (hy : okY y) : okY (c, y.2) := hy
theorem nI_nat {i : Int32} (h : 0 ≤ i) : nI i.toNatClampNeg = i := by
  obtain ⟨j, hj, rfl⟩ := nI_of (Int32.not_lt.mpr h)
  rw [nI_clamp hj]
set_option maxHeartbeats 4000000 in
set_option maxRecDepth 100000 in
theorem cM_thrown (l : Launch) (D : va_G) (h qb qt qa : Nat) (cI : ClassId) (y : MS) (hy : okY y) : Met l yM_thrown (Cond.code yM_thrown prog_3_method_2_code 1 (some .int) :: TB) { frames := 0, cells := 0, slots := 0, locals := 0 } (gx (xM D h qb qt qa cI y) [.ref h]) (QcRead (y.1)) 0 0 (fun _ => False) := by
  refine mt_of (by decide) ?_
  intro p e s m args below meth cd S hr hk hin hv
  obtain ⟨rfl, hX⟩ := hv
  have hP := hX.1
  have hK := hX.2
  have hy1 := hy.1
  have hy2 := hy.2.1
  have hy3 := hy.2.2
  have hx := S.1
  have hb := S.2.1
  have hown := S.2.2.2.1
  have hts := S.2.2.2.2
  have hl := lv_entry ([.ref h]) (n := 1) (Nat.le_of_ble_eq_true rfl)
  rw [lg_entry_eq]
  generalize (lg_sl ([.ref h]) ++ List.replicate (1 - (lg_sl ([.ref h])).length) Slot.unset).toArray = ls at hl ⊢
  have hl : lv_has ls 1 [(0, .ref h)] := hl
  refine lv_aload_n hx hb dM_thrown_0 rfl (lv_at hl 0 rfl) ?_
  refine va_get (D := D) (ci := 1) (v := .int (y.1)) (C := "SignReaderModel") (T := T_M) (N := 9) hx hb hts i_M hown hK hP 0 rfl rfl 0 (by decide) (hts _ k391) (fun _ h9 => h9) rfl dM_thrown_1 ?_
  exact ro_ret S hr hk (rfl) dM_thrown_4
set_option maxHeartbeats 4000000 in
set_option maxRecDepth 100000 in
theorem cM_came (l : Launch) (D : va_G) (h qb qt qa : Nat) (cI : ClassId) (y : MS) (i : Int32) (hd : ap4 h qb qt qa) (hy : okY y) : Met l yM_came (Cond.code yM_came prog_3_method_7_code 2 (some .int) :: TB) { frames := 0, cells := 0, slots := 0, locals := 0 } (gx (xM D h qb qt qa cI y) [.ref h, .int i]) (mQ (some (.int (sCame y.2.2.2.2.2.2.1 y.2.1 i))) D (moZ h qb qt qa cI ((0, y.2))) (A4 h qb qt qa)) 0 0 (A4 h qb qt qa) := by
  refine mt_of (by decide) ?_
  intro p e s m args below meth cd S hr hk hin hv
  obtain ⟨rfl, hX⟩ := hv
  have hP : va_P D CL (moZ h qb qt qa cI y) s.heap := hX.1
  have hK := hX.2
  have hy1 := hy.1
  have hy2 := hy.2.1
  have hy3 := hy.2.2
  have hS : va_S (A4 h qb qt qa) s.heap s.heap [] := va_S.rf
  have hx := S.1
  have hb := S.2.1
  have hown := S.2.2.2.1
  have hts := S.2.2.2.2
  have hl := lv_entry ([.ref h, .int i]) (n := 2) (Nat.le_of_ble_eq_true rfl)
  rw [lg_entry_eq]
  generalize (lg_sl ([.ref h, .int i]) ++ List.replicate (2 - (lg_sl ([.ref h, .int i])).length) Slot.unset).toArray = ls at hl ⊢
  have hl : lv_has ls 2 [(0, .ref h), (1, .int i)] := hl
  refine lv_aload_n hx hb dM_came_0 rfl (lv_at hl 0 rfl) ?_
  refine lv_iconst (v := 0) hx hb dM_came_1 (by decide) ?_
  refine va_put (D := D) (ci := 1) (v := .int 0) (ty := .int) (C := "SignReaderModel") (T := T_M) (N := 9) hx hb hts i_M t_M t_M_ok n_M hown hK hP (moD hd) hS 0 rfl rfl 0 (by decide) (hts _ k391) (fun _ h9 => h9) rfl (by decide +kernel) rfl rfl (Nat.le_of_ble_eq_true rfl) dM_came_2 (fun H locs hP _ hS => ?_)
  have hP : va_P D CL (moW h qb qt qa cI (0) (nI y.2.1) (nI y.2.2.1) (y.2.2.2.1) (nI y.2.2.2.2.1) (y.2.2.2.2.2.1) (y.2.2.2.2.2.2.1) (y.2.2.2.2.2.2.2.1) (y.2.2.2.2.2.2.2.2)) H := hP
  have hP : va_P D CL (moZ h qb qt qa cI ((0, y.2))) _ := va_Pe (rfl : moW h qb qt qa cI (0) (nI y.2.1) (nI y.2.2.1) (y.2.2.2.1) (nI y.2.2.2.2.1) (y.2.2.2.2.2.1) (y.2.2.2.2.2.2.1) (y.2.2.2.2.2.2.2.1) (y.2.2.2.2.2.2.2.2) = moZ h qb qt qa cI ((0, y.2))) hP
  refine lv_iload_n hx hb dM_came_5 rfl (lv_at hl 1 rfl) ?_
  refine lv_if_lt (tgt := 26) hx hb dM_came_6 (by decide) (fun c1 => ?_) (fun c1 => ?_)
  · skip
    replace c1 := Int32.not_le.mpr c1
    refine lv_iconst (v := (-1)) hx hb dM_came_26 (by decide) ?_
    have hP : va_P D CL (moZ h qb qt qa cI ((0, y.2))) _ := va_Pe (congrArg (moZ h qb qt qa cI) (rfl : ((0, y.2) : MS) = (0, y.2))) hP
    exact mu_retI S hr hk (by simp [sCame, sHas, c1]) hP hS dM_came_27
  · skip
    replace c1 := Int32.not_lt.mp c1
    refine lv_iload_n hx hb dM_came_9 rfl (lv_at hl 1 rfl) ?_
    refine lv_aload_n hx hb dM_came_10 rfl (lv_at hl 0 rfl) ?_
    refine va_get (D := D) (ci := 1) (v := .int (nI y.2.1)) (C := "SignReaderModel") (T := T_M) (N := 9) hx hb hts i_M hown hK hP 0 rfl rfl 2 (by decide) (hts _ k393) (fun _ h9 => h9) rfl dM_came_11 ?_
    refine lv_icmp_ge (tgt := 26) hx hb dM_came_14 (by decide) (fun c2 => ?_) (fun c2 => ?_)
    · skip
      refine lv_iconst (v := (-1)) hx hb dM_came_26 (by decide) ?_
      have hP : va_P D CL (moZ h qb qt qa cI ((0, y.2))) _ := va_Pe (congrArg (moZ h qb qt qa cI) (rfl : ((0, y.2) : MS) = (0, y.2))) hP
      exact mu_retI S hr hk (by simp [sCame, sHas, c1, c2]) hP hS dM_came_27
    · skip
      refine lv_aload_n hx hb dM_came_17 rfl (lv_at hl 0 rfl) ?_
      refine va_get (D := D) (ci := 1) (v := .ref qb) (C := "SignReaderModel") (T := T_M) (N := 9) hx hb hts i_M hown hK hP 0 rfl rfl 1 (by decide) (hts _ k392) (fun _ h9 => h9) rfl dM_came_18 ?_
      refine lv_iload_n hx hb dM_came_21 rfl (lv_at hl 1 rfl) ?_
      refine va_iald hx hb hK hP 1 0 rfl rfl (sHas_in hy.1 (by simp [sHas, c1, c2])) dM_came_22 ?_
      refine lv_goto (tgt := 27) hx hb dM_came_23 (by decide) ?_
      have hP : va_P D CL (moZ h qb qt qa cI ((0, y.2))) _ := va_Pe (congrArg (moZ h qb qt qa cI) (rfl : ((0, y.2) : MS) = (0, y.2))) hP
      exact mu_retI S hr hk (by simp [sCame, sHas, c1, c2]) hP hS dM_came_27
set_option maxHeartbeats 4000000 in
set_option maxRecDepth 100000 in
theorem cM_sign (l : Launch) (D : va_G) (h qb qt qa : Nat) (cI : ClassId) (y : MS) (i : Int32) (hd : ap4 h qb qt qa) (hy : okY y) : Met l yM_sign (Cond.code yM_sign prog_3_method_17_code 2 (some .int) :: TB) { frames := 0, cells := 0, slots := 0, locals := 0 } (gx (xM D h qb qt qa cI y) [.ref h, .int i]) (mQ (some (.int (sCame y.2.2.2.2.2.2.2.1 y.2.2.1 i))) D (moZ h qb qt qa cI ((0, y.2))) (A4 h qb qt qa)) 0 0 (A4 h qb qt qa) := by
  refine mt_of (by decide) ?_
  intro p e s m args below meth cd S hr hk hin hv
  obtain ⟨rfl, hX⟩ := hv
  have hP : va_P D CL (moZ h qb qt qa cI y) s.heap := hX.1
  have hK := hX.2
  have hy1 := hy.1
  have hy2 := hy.2.1
  have hy3 := hy.2.2
  have hS : va_S (A4 h qb qt qa) s.heap s.heap [] := va_S.rf
  have hx := S.1
  have hb := S.2.1
  have hown := S.2.2.2.1
  have hts := S.2.2.2.2
  have hl := lv_entry ([.ref h, .int i]) (n := 2) (Nat.le_of_ble_eq_true rfl)
  rw [lg_entry_eq]
  generalize (lg_sl ([.ref h, .int i]) ++ List.replicate (2 - (lg_sl ([.ref h, .int i])).length) Slot.unset).toArray = ls at hl ⊢
  have hl : lv_has ls 2 [(0, .ref h), (1, .int i)] := hl
  refine lv_aload_n hx hb dM_sign_0 rfl (lv_at hl 0 rfl) ?_
  refine lv_iconst (v := 0) hx hb dM_sign_1 (by decide) ?_
  refine va_put (D := D) (ci := 1) (v := .int 0) (ty := .int) (C := "SignReaderModel") (T := T_M) (N := 9) hx hb hts i_M t_M t_M_ok n_M hown hK hP (moD hd) hS 0 rfl rfl 0 (by decide) (hts _ k391) (fun _ h9 => h9) rfl (by decide +kernel) rfl rfl (Nat.le_of_ble_eq_true rfl) dM_sign_2 (fun H locs hP _ hS => ?_)
  have hP : va_P D CL (moW h qb qt qa cI (0) (nI y.2.1) (nI y.2.2.1) (y.2.2.2.1) (nI y.2.2.2.2.1) (y.2.2.2.2.2.1) (y.2.2.2.2.2.2.1) (y.2.2.2.2.2.2.2.1) (y.2.2.2.2.2.2.2.2)) H := hP
  have hP : va_P D CL (moZ h qb qt qa cI ((0, y.2))) _ := va_Pe (rfl : moW h qb qt qa cI (0) (nI y.2.1) (nI y.2.2.1) (y.2.2.2.1) (nI y.2.2.2.2.1) (y.2.2.2.2.2.1) (y.2.2.2.2.2.2.1) (y.2.2.2.2.2.2.2.1) (y.2.2.2.2.2.2.2.2) = moZ h qb qt qa cI ((0, y.2))) hP
  refine lv_iload_n hx hb dM_sign_5 rfl (lv_at hl 1 rfl) ?_
  refine lv_if_lt (tgt := 26) hx hb dM_sign_6 (by decide) (fun c1 => ?_) (fun c1 => ?_)
  · skip
    replace c1 := Int32.not_le.mpr c1
    refine lv_iconst (v := (-1)) hx hb dM_sign_26 (by decide) ?_
    have hP : va_P D CL (moZ h qb qt qa cI ((0, y.2))) _ := va_Pe (congrArg (moZ h qb qt qa cI) (rfl : ((0, y.2) : MS) = (0, y.2))) hP
    exact mu_retI S hr hk (by simp [sCame, sHas, c1]) hP hS dM_sign_27
  · skip
    replace c1 := Int32.not_lt.mp c1
    refine lv_iload_n hx hb dM_sign_9 rfl (lv_at hl 1 rfl) ?_
    refine lv_aload_n hx hb dM_sign_10 rfl (lv_at hl 0 rfl) ?_
    refine va_get (D := D) (ci := 1) (v := .int (nI y.2.2.1)) (C := "SignReaderModel") (T := T_M) (N := 9) hx hb hts i_M hown hK hP 0 rfl rfl 4 (by decide) (hts _ k395) (fun _ h9 => h9) rfl dM_sign_11 ?_
    refine lv_icmp_ge (tgt := 26) hx hb dM_sign_14 (by decide) (fun c2 => ?_) (fun c2 => ?_)
    · skip
      refine lv_iconst (v := (-1)) hx hb dM_sign_26 (by decide) ?_
      have hP : va_P D CL (moZ h qb qt qa cI ((0, y.2))) _ := va_Pe (congrArg (moZ h qb qt qa cI) (rfl : ((0, y.2) : MS) = (0, y.2))) hP
      exact mu_retI S hr hk (by simp [sCame, sHas, c1, c2]) hP hS dM_sign_27
    · skip
      refine lv_aload_n hx hb dM_sign_17 rfl (lv_at hl 0 rfl) ?_
      refine va_get (D := D) (ci := 1) (v := .ref qt) (C := "SignReaderModel") (T := T_M) (N := 9) hx hb hts i_M hown hK hP 0 rfl rfl 3 (by decide) (hts _ k394) (fun _ h9 => h9) rfl dM_sign_18 ?_
      refine lv_iload_n hx hb dM_sign_21 rfl (lv_at hl 1 rfl) ?_
      refine va_iald hx hb hK hP 2 0 rfl rfl (sHas_in hy.2.1 (by simp [sHas, c1, c2])) dM_sign_22 ?_
      refine lv_goto (tgt := 27) hx hb dM_sign_23 (by decide) ?_
      have hP : va_P D CL (moZ h qb qt qa cI ((0, y.2))) _ := va_Pe (congrArg (moZ h qb qt qa cI) (rfl : ((0, y.2) : MS) = (0, y.2))) hP
      exact mu_retI S hr hk (by simp [sCame, sHas, c1, c2]) hP hS dM_sign_27
set_option maxHeartbeats 4000000 in
set_option maxRecDepth 100000 in
theorem cM_length (l : Launch) (D : va_G) (h qb qt qa : Nat) (cI : ClassId) (y : MS) (hd : ap4 h qb qt qa) (hy : okY y) : Met l yM_length (Cond.code yM_length prog_3_method_16_code 1 (some .int) :: TB) { frames := 0, cells := 0, slots := 0, locals := 0 } (gx (xM D h qb qt qa cI y) [.ref h]) (mQ (some (.int (nI y.2.2.1))) D (moZ h qb qt qa cI ((0, y.2))) (A4 h qb qt qa)) 0 0 (A4 h qb qt qa) := by
  refine mt_of (by decide) ?_
  intro p e s m args below meth cd S hr hk hin hv
  obtain ⟨rfl, hX⟩ := hv
  have hP : va_P D CL (moZ h qb qt qa cI y) s.heap := hX.1
  have hK := hX.2
  have hy1 := hy.1
  have hy2 := hy.2.1
  have hy3 := hy.2.2
  have hS : va_S (A4 h qb qt qa) s.heap s.heap [] := va_S.rf
  have hx := S.1
  have hb := S.2.1
  have hown := S.2.2.2.1
  have hts := S.2.2.2.2
  have hl := lv_entry ([.ref h]) (n := 1) (Nat.le_of_ble_eq_true rfl)
  rw [lg_entry_eq]
  generalize (lg_sl ([.ref h]) ++ List.replicate (1 - (lg_sl ([.ref h])).length) Slot.unset).toArray = ls at hl ⊢
  have hl : lv_has ls 1 [(0, .ref h)] := hl
  refine lv_aload_n hx hb dM_length_0 rfl (lv_at hl 0 rfl) ?_
  refine lv_iconst (v := 0) hx hb dM_length_1 (by decide) ?_
  refine va_put (D := D) (ci := 1) (v := .int 0) (ty := .int) (C := "SignReaderModel") (T := T_M) (N := 9) hx hb hts i_M t_M t_M_ok n_M hown hK hP (moD hd) hS 0 rfl rfl 0 (by decide) (hts _ k391) (fun _ h9 => h9) rfl (by decide +kernel) rfl rfl (Nat.le_of_ble_eq_true rfl) dM_length_2 (fun H locs hP _ hS => ?_)
  have hP : va_P D CL (moW h qb qt qa cI (0) (nI y.2.1) (nI y.2.2.1) (y.2.2.2.1) (nI y.2.2.2.2.1) (y.2.2.2.2.2.1) (y.2.2.2.2.2.2.1) (y.2.2.2.2.2.2.2.1) (y.2.2.2.2.2.2.2.2)) H := hP
  have hP : va_P D CL (moZ h qb qt qa cI ((0, y.2))) _ := va_Pe (rfl : moW h qb qt qa cI (0) (nI y.2.1) (nI y.2.2.1) (y.2.2.2.1) (nI y.2.2.2.2.1) (y.2.2.2.2.2.1) (y.2.2.2.2.2.2.1) (y.2.2.2.2.2.2.2.1) (y.2.2.2.2.2.2.2.2) = moZ h qb qt qa cI ((0, y.2))) hP
  refine lv_aload_n hx hb dM_length_5 rfl (lv_at hl 0 rfl) ?_
  refine va_get (D := D) (ci := 1) (v := .int (nI y.2.2.1)) (C := "SignReaderModel") (T := T_M) (N := 9) hx hb hts i_M hown hK hP 0 rfl rfl 4 (by decide) (hts _ k395) (fun _ h9 => h9) rfl dM_length_6 ?_
  have hP : va_P D CL (moZ h qb qt qa cI ((0, y.2))) _ := va_Pe (congrArg (moZ h qb qt qa cI) (rfl : ((0, y.2) : MS) = (0, y.2))) hP
  exact mu_retI S hr hk (rfl) hP hS dM_length_9
set_option maxHeartbeats 4000000 in
set_option maxRecDepth 100000 in
theorem cM_way (l : Launch) (D : va_G) (h qb qt qa : Nat) (cI : ClassId) (y : MS) (hd : ap4 h qb qt qa) (hy : okY y) : Met l yM_way (Cond.code yM_way prog_3_method_18_code 1 (some .int) :: TB) { frames := 0, cells := 0, slots := 0, locals := 0 } (gx (xM D h qb qt qa cI y) [.ref h]) (mQ (some (.int (y.2.2.2.1))) D (moZ h qb qt qa cI ((0, y.2))) (A4 h qb qt qa)) 0 0 (A4 h qb qt qa) := by
  refine mt_of (by decide) ?_
  intro p e s m args below meth cd S hr hk hin hv
  obtain ⟨rfl, hX⟩ := hv
  have hP : va_P D CL (moZ h qb qt qa cI y) s.heap := hX.1
  have hK := hX.2
  have hy1 := hy.1
  have hy2 := hy.2.1
  have hy3 := hy.2.2
  have hS : va_S (A4 h qb qt qa) s.heap s.heap [] := va_S.rf
  have hx := S.1
  have hb := S.2.1
  have hown := S.2.2.2.1
  have hts := S.2.2.2.2
  have hl := lv_entry ([.ref h]) (n := 1) (Nat.le_of_ble_eq_true rfl)
  rw [lg_entry_eq]
  generalize (lg_sl ([.ref h]) ++ List.replicate (1 - (lg_sl ([.ref h])).length) Slot.unset).toArray = ls at hl ⊢
  have hl : lv_has ls 1 [(0, .ref h)] := hl
  refine lv_aload_n hx hb dM_way_0 rfl (lv_at hl 0 rfl) ?_
  refine lv_iconst (v := 0) hx hb dM_way_1 (by decide) ?_
  refine va_put (D := D) (ci := 1) (v := .int 0) (ty := .int) (C := "SignReaderModel") (T := T_M) (N := 9) hx hb hts i_M t_M t_M_ok n_M hown hK hP (moD hd) hS 0 rfl rfl 0 (by decide) (hts _ k391) (fun _ h9 => h9) rfl (by decide +kernel) rfl rfl (Nat.le_of_ble_eq_true rfl) dM_way_2 (fun H locs hP _ hS => ?_)
  have hP : va_P D CL (moW h qb qt qa cI (0) (nI y.2.1) (nI y.2.2.1) (y.2.2.2.1) (nI y.2.2.2.2.1) (y.2.2.2.2.2.1) (y.2.2.2.2.2.2.1) (y.2.2.2.2.2.2.2.1) (y.2.2.2.2.2.2.2.2)) H := hP
  have hP : va_P D CL (moZ h qb qt qa cI ((0, y.2))) _ := va_Pe (rfl : moW h qb qt qa cI (0) (nI y.2.1) (nI y.2.2.1) (y.2.2.2.1) (nI y.2.2.2.2.1) (y.2.2.2.2.2.1) (y.2.2.2.2.2.2.1) (y.2.2.2.2.2.2.2.1) (y.2.2.2.2.2.2.2.2) = moZ h qb qt qa cI ((0, y.2))) hP
  refine lv_aload_n hx hb dM_way_5 rfl (lv_at hl 0 rfl) ?_
  refine va_get (D := D) (ci := 1) (v := .int (y.2.2.2.1)) (C := "SignReaderModel") (T := T_M) (N := 9) hx hb hts i_M hown hK hP 0 rfl rfl 5 (by decide) (hts _ k396) (fun _ h9 => h9) rfl dM_way_6 ?_
  have hP : va_P D CL (moZ h qb qt qa cI ((0, y.2))) _ := va_Pe (congrArg (moZ h qb qt qa cI) (rfl : ((0, y.2) : MS) = (0, y.2))) hP
  exact mu_retI S hr hk (rfl) hP hS dM_way_9
set_option maxHeartbeats 4000000 in
set_option maxRecDepth 100000 in
theorem cM_kinds (l : Launch) (D : va_G) (h qb qt qa : Nat) (cI : ClassId) (y : MS) (c : Int32) (hd : ap4 h qb qt qa) (hy : okY y) : Met l yM_kinds (Cond.code yM_kinds prog_3_method_24_code 2 (some .int) :: TB) { frames := 5, cells := 0, slots := 0, locals := 104 } (gx (xM D h qb qt qa cI y) [.ref h, .int c]) (mQ (some (.int (kM c))) D (moZ h qb qt qa cI ((0, y.2))) (A4 h qb qt qa)) 0 0 (A4 h qb qt qa) := by
  refine mt_of (by decide) ?_
  intro p e s m args below meth cd S hr hk hin hv
  obtain ⟨rfl, hX⟩ := hv
  have hP : va_P D CL (moZ h qb qt qa cI y) s.heap := hX.1
  have hK := hX.2
  have hy1 := hy.1
  have hy2 := hy.2.1
  have hy3 := hy.2.2
  have hS : va_S (A4 h qb qt qa) s.heap s.heap [] := va_S.rf
  have hx := S.1
  have hb := S.2.1
  have hown := S.2.2.2.1
  have hts := S.2.2.2.2
  have hl := lv_entry ([.ref h, .int c]) (n := 2) (Nat.le_of_ble_eq_true rfl)
  rw [lg_entry_eq]
  generalize (lg_sl ([.ref h, .int c]) ++ List.replicate (2 - (lg_sl ([.ref h, .int c])).length) Slot.unset).toArray = ls at hl ⊢
  have hl : lv_has ls 2 [(0, .ref h), (1, .int c)] := hl
  refine lv_aload_n hx hb dM_kinds_0 rfl (lv_at hl 0 rfl) ?_
  refine lv_iconst (v := 0) hx hb dM_kinds_1 (by decide) ?_
  refine va_put (D := D) (ci := 1) (v := .int 0) (ty := .int) (C := "SignReaderModel") (T := T_M) (N := 9) hx hb hts i_M t_M t_M_ok n_M hown hK hP (moD hd) hS 0 rfl rfl 0 (by decide) (hts _ k391) (fun _ h9 => h9) rfl (by decide +kernel) rfl rfl (Nat.le_of_ble_eq_true rfl) dM_kinds_2 (fun H locs hP _ hS => ?_)
  have hP : va_P D CL (moW h qb qt qa cI (0) (nI y.2.1) (nI y.2.2.1) (y.2.2.2.1) (nI y.2.2.2.2.1) (y.2.2.2.2.2.1) (y.2.2.2.2.2.2.1) (y.2.2.2.2.2.2.2.1) (y.2.2.2.2.2.2.2.2)) H := hP
  have hP : va_P D CL (moZ h qb qt qa cI ((0, y.2))) _ := va_Pe (rfl : moW h qb qt qa cI (0) (nI y.2.1) (nI y.2.2.1) (y.2.2.2.1) (nI y.2.2.2.2.1) (y.2.2.2.2.2.1) (y.2.2.2.2.2.2.1) (y.2.2.2.2.2.2.2.1) (y.2.2.2.2.2.2.2.2) = moZ h qb qt qa cI ((0, y.2))) hP
  refine lv_iload_n hx hb dM_kinds_5 rfl (lv_at hl 1 rfl) ?_
  refine ro_S (As := [.int c]) (rest := []) (n := 1) S (cM_kindsOf l (c)) k499 k2 k498 (by decide +kernel) ⟨rfl, rfl⟩ k497 (by decide) preEq rfl rfl hl.1 (Nat.le_of_ble_eq_true rfl) ⟨Nat.le_refl _, Nat.le_refl _⟩ dM_kinds_6 ?_
  have hP : va_P D CL (moZ h qb qt qa cI ((0, y.2))) _ := va_Pe (congrArg (moZ h qb qt qa cI) (rfl : ((0, y.2) : MS) = (0, y.2))) hP
  exact mu_retI S hr hk (rfl) hP hS dM_kinds_9
def mcOk (y : MS) (i b : Int32) : Bool := sHas y.2.1 i && decide (0 ≤ b) && decide (b ≤ 255)
def yCh (y : MS) (i b : Int32) : MS := if mcOk y i b = true then (0, y.2.1, y.2.2.1, y.2.2.2.1, y.2.2.2.2.1, y.2.2.2.2.2.1, upd y.2.2.2.2.2.2.1 i.toNatClampNeg b, y.2.2.2.2.2.2.2.1, y.2.2.2.2.2.2.2.2) else (0, y.2)
theorem yCh_ok {y : MS} {i b : Int32} (hy : okY y) : okY (yCh y i b) := by unfold yCh; split <;> exact hy
set_option maxHeartbeats 4000000 in
set_option maxRecDepth 100000 in
theorem cM_change (l : Launch) (D : va_G) (h qb qt qa : Nat) (cI : ClassId) (y : MS) (i b : Int32) (hd : ap4 h qb qt qa) (hy : okY y) : Met l yM_change (Cond.code yM_change prog_3_method_8_code 4 (some .int) :: TB) { frames := 0, cells := 0, slots := 0, locals := 0 } (gx (xM D h qb qt qa cI y) [.ref h, .int i, .int b]) (mQ (some (.int (if mcOk y i b = true then y.2.2.2.2.2.2.1 i.toNatClampNeg else -1))) D (moZ h qb qt qa cI (yCh y i b)) (A4 h qb qt qa)) 0 0 (A4 h qb qt qa) := by
  refine mt_of (by decide) ?_
  intro p e s m args below meth cd S hr hk hin hv
  obtain ⟨rfl, hX⟩ := hv
  have hP : va_P D CL (moZ h qb qt qa cI y) s.heap := hX.1
  have hK := hX.2
  have hy1 := hy.1
  have hy2 := hy.2.1
  have hy3 := hy.2.2
  have hS : va_S (A4 h qb qt qa) s.heap s.heap [] := va_S.rf
  have hx := S.1
  have hb := S.2.1
  have hown := S.2.2.2.1
  have hts := S.2.2.2.2
  have hl := lv_entry ([.ref h, .int i, .int b]) (n := 4) (Nat.le_of_ble_eq_true rfl)
  rw [lg_entry_eq]
  generalize (lg_sl ([.ref h, .int i, .int b]) ++ List.replicate (4 - (lg_sl ([.ref h, .int i, .int b])).length) Slot.unset).toArray = ls at hl ⊢
  have hl : lv_has ls 4 [(0, .ref h), (1, .int i), (2, .int b)] := hl
  refine lv_aload_n hx hb dM_change_0 rfl (lv_at hl 0 rfl) ?_
  refine lv_iconst (v := 0) hx hb dM_change_1 (by decide) ?_
  refine va_put (D := D) (ci := 1) (v := .int 0) (ty := .int) (C := "SignReaderModel") (T := T_M) (N := 9) hx hb hts i_M t_M t_M_ok n_M hown hK hP (moD hd) hS 0 rfl rfl 0 (by decide) (hts _ k391) (fun _ h9 => h9) rfl (by decide +kernel) rfl rfl (Nat.le_of_ble_eq_true rfl) dM_change_2 (fun H locs hP _ hS => ?_)
  have hP : va_P D CL (moW h qb qt qa cI (0) (nI y.2.1) (nI y.2.2.1) (y.2.2.2.1) (nI y.2.2.2.2.1) (y.2.2.2.2.2.1) (y.2.2.2.2.2.2.1) (y.2.2.2.2.2.2.2.1) (y.2.2.2.2.2.2.2.2)) H := hP
  have hP : va_P D CL (moZ h qb qt qa cI ((0, y.2))) _ := va_Pe (rfl : moW h qb qt qa cI (0) (nI y.2.1) (nI y.2.2.1) (y.2.2.2.1) (nI y.2.2.2.2.1) (y.2.2.2.2.2.1) (y.2.2.2.2.2.2.1) (y.2.2.2.2.2.2.2.1) (y.2.2.2.2.2.2.2.2) = moZ h qb qt qa cI ((0, y.2))) hP
  refine lv_iload_n hx hb dM_change_5 rfl (lv_at hl 1 rfl) ?_
  refine lv_if_lt (tgt := 28) hx hb dM_change_6 (by decide) (fun c1 => ?_) (fun c1 => ?_)
  · skip
    replace c1 := Int32.not_le.mpr c1
    refine lv_iconst (v := (-1)) hx hb dM_change_28 (by decide) ?_
    have hP : va_P D CL (moZ h qb qt qa cI (yCh y i b)) _ := va_Pe (congrArg (moZ h qb qt qa cI) (by simp [yCh, mcOk, sHas, c1] : ((0, y.2) : MS) = yCh y i b)) hP
    exact mu_retI S hr hk (by simp [mcOk, sHas, c1]) hP hS dM_change_29
  · skip
    replace c1 := Int32.not_lt.mp c1
    refine lv_iload_n hx hb dM_change_9 rfl (lv_at hl 1 rfl) ?_
    refine lv_aload_n hx hb dM_change_10 rfl (lv_at hl 0 rfl) ?_
    refine va_get (D := D) (ci := 1) (v := .int (nI y.2.1)) (C := "SignReaderModel") (T := T_M) (N := 9) hx hb hts i_M hown hK hP 0 rfl rfl 2 (by decide) (hts _ k393) (fun _ h9 => h9) rfl dM_change_11 ?_
    refine lv_icmp_ge (tgt := 28) hx hb dM_change_14 (by decide) (fun c2 => ?_) (fun c2 => ?_)
    · skip
      refine lv_iconst (v := (-1)) hx hb dM_change_28 (by decide) ?_
      have hP : va_P D CL (moZ h qb qt qa cI (yCh y i b)) _ := va_Pe (congrArg (moZ h qb qt qa cI) (by simp [yCh, mcOk, sHas, c1, c2] : ((0, y.2) : MS) = yCh y i b)) hP
      exact mu_retI S hr hk (by simp [mcOk, sHas, c1, c2]) hP hS dM_change_29
    · skip
      refine lv_iload_n hx hb dM_change_17 rfl (lv_at hl 2 rfl) ?_
      refine lv_if_lt (tgt := 28) hx hb dM_change_18 (by decide) (fun c3 => ?_) (fun c3 => ?_)
      · skip
        replace c3 := Int32.not_le.mpr c3
        refine lv_iconst (v := (-1)) hx hb dM_change_28 (by decide) ?_
        have hP : va_P D CL (moZ h qb qt qa cI (yCh y i b)) _ := va_Pe (congrArg (moZ h qb qt qa cI) (by simp [yCh, mcOk, sHas, c1, c2, c3] : ((0, y.2) : MS) = yCh y i b)) hP
        exact mu_retI S hr hk (by simp [mcOk, sHas, c1, c2, c3]) hP hS dM_change_29
      · skip
        replace c3 := Int32.not_lt.mp c3
        refine lv_iload_n hx hb dM_change_21 rfl (lv_at hl 2 rfl) ?_
        refine lv_sipush (v := 255) hx hb dM_change_22 (by decide) ?_
        refine lv_icmp_le (tgt := 30) hx hb dM_change_25 (by decide) (fun c4 => ?_) (fun c4 => ?_)
        · skip
          refine lv_aload_n hx hb dM_change_30 rfl (lv_at hl 0 rfl) ?_
          refine va_get (D := D) (ci := 1) (v := .ref qb) (C := "SignReaderModel") (T := T_M) (N := 9) hx hb hts i_M hown hK hP 0 rfl rfl 1 (by decide) (hts _ k392) (fun _ h9 => h9) rfl dM_change_31 ?_
          refine lv_iload_n hx hb dM_change_34 rfl (lv_at hl 1 rfl) ?_
          refine va_iald hx hb hK hP 1 0 rfl rfl (sHas_in hy.1 (by simp [sHas, c1, c2])) dM_change_35 ?_
          refine lv_istore_n (lv' := [(3, .int ((y.2.2.2.2.2.2.1) (i).toNatClampNeg)), (0, .ref h), (1, .int i), (2, .int b)]) hx hb dM_change_36 rfl hl (by decide) rfl (fun ls hl => ?_)
          refine lv_aload_n hx hb dM_change_37 rfl (lv_at hl 1 rfl) ?_
          refine va_get (D := D) (ci := 1) (v := .ref qb) (C := "SignReaderModel") (T := T_M) (N := 9) hx hb hts i_M hown hK hP 0 rfl rfl 1 (by decide) (hts _ k392) (fun _ h9 => h9) rfl dM_change_38 ?_
          refine lv_iload_n hx hb dM_change_41 rfl (lv_at hl 2 rfl) ?_
          refine lv_iload_n hx hb dM_change_42 rfl (lv_at hl 3 rfl) ?_
          refine va_iast hx hb hK hP (moD hd) hS 1 0 rfl rfl (sHas_in hy.1 (by simp [sHas, c1, c2])) dM_change_43 (fun H locs hP _ hS => ?_)
          have hP : va_P D CL (moW h qb qt qa cI (0) (nI y.2.1) (nI y.2.2.1) (y.2.2.2.1) (nI y.2.2.2.2.1) (y.2.2.2.2.2.1) (upd (y.2.2.2.2.2.2.1) (i).toNatClampNeg (b)) (y.2.2.2.2.2.2.2.1) (y.2.2.2.2.2.2.2.2)) H := hP
          refine lv_iload_n hx hb dM_change_44 rfl (lv_at hl 0 rfl) ?_
          have hP : va_P D CL (moZ h qb qt qa cI (yCh y i b)) _ := va_Pe (by simp [yCh, mcOk, sHas, c1, c2, c3, c4] : moW h qb qt qa cI (0) (nI y.2.1) (nI y.2.2.1) (y.2.2.2.1) (nI y.2.2.2.2.1) (y.2.2.2.2.2.1) (upd (y.2.2.2.2.2.2.1) (i).toNatClampNeg (b)) (y.2.2.2.2.2.2.2.1) (y.2.2.2.2.2.2.2.2) = moZ h qb qt qa cI (yCh y i b)) hP
          exact mu_retI S hr hk (by simp [mcOk, sHas, c1, c2, c3, c4]) hP hS dM_change_45
        · skip
          refine lv_iconst (v := (-1)) hx hb dM_change_28 (by decide) ?_
          have hP : va_P D CL (moZ h qb qt qa cI (yCh y i b)) _ := va_Pe (congrArg (moZ h qb qt qa cI) (by simp [yCh, mcOk, sHas, c1, c2, c3, c4] : ((0, y.2) : MS) = yCh y i b)) hP
          exact mu_retI S hr hk (by simp [mcOk, sHas, c1, c2, c3, c4]) hP hS dM_change_29
def meOk (y : MS) (i : Int32) : Bool := decide (0 ≤ i) && decide (i ≤ nI y.2.1)
def yEnd (y : MS) (i : Int32) : MS := if meOk y i = true then (0, i.toNatClampNeg, y.2.2) else (1, y.2)
theorem yEnd_ok {y : MS} {i : Int32} (hy : okY y) : okY (yEnd y i) := by
  unfold yEnd
  split
  · next h =>
    simp only [meOk, Bool.and_eq_true, decide_eq_true_eq] at h
    have h2 := h.2
    rw [← nI_nat h.1] at h2
    obtain ⟨j, hj, rfl⟩ := nI_of (Int32.not_lt.mpr h.1)
    rw [nI_clamp hj] at *
    have := hy.1
    rw [nI_leI hj (by omega)] at h2
    exact ⟨by show j ≤ 4096; omega, hy.2⟩
  · exact hy
set_option maxHeartbeats 4000000 in
set_option maxRecDepth 100000 in
theorem cM_end (l : Launch) (D : va_G) (h qb qt qa : Nat) (cI : ClassId) (y : MS) (i : Int32) (hd : ap4 h qb qt qa) (hy : okY y) : Met l yM_end (Cond.code yM_end prog_3_method_6_code 3 (some .int) :: TB) { frames := 0, cells := 0, slots := 0, locals := 0 } (gx (xM D h qb qt qa cI y) [.ref h, .int i]) (mQ (some (.int (if meOk y i = true then nI y.2.1 else 0))) D (moZ h qb qt qa cI (yEnd y i)) (A4 h qb qt qa)) 0 0 (A4 h qb qt qa) := by
  refine mt_of (by decide) ?_
  intro p e s m args below meth cd S hr hk hin hv
  obtain ⟨rfl, hX⟩ := hv
  have hP : va_P D CL (moZ h qb qt qa cI y) s.heap := hX.1
  have hK := hX.2
  have hy1 := hy.1
  have hy2 := hy.2.1
  have hy3 := hy.2.2
  have hS : va_S (A4 h qb qt qa) s.heap s.heap [] := va_S.rf
  have hx := S.1
  have hb := S.2.1
  have hown := S.2.2.2.1
  have hts := S.2.2.2.2
  have hl := lv_entry ([.ref h, .int i]) (n := 3) (Nat.le_of_ble_eq_true rfl)
  rw [lg_entry_eq]
  generalize (lg_sl ([.ref h, .int i]) ++ List.replicate (3 - (lg_sl ([.ref h, .int i])).length) Slot.unset).toArray = ls at hl ⊢
  have hl : lv_has ls 3 [(0, .ref h), (1, .int i)] := hl
  refine lv_aload_n hx hb dM_end_0 rfl (lv_at hl 0 rfl) ?_
  refine lv_iload_n hx hb dM_end_1 rfl (lv_at hl 1 rfl) ?_
  refine lv_if_lt (tgt := 13) hx hb dM_end_2 (by decide) (fun c1 => ?_) (fun c1 => ?_)
  · skip
    replace c1 := Int32.not_le.mpr c1
    refine lv_iconst (v := 1) hx hb dM_end_13 (by decide) ?_
    refine lv_goto (tgt := 18) hx hb dM_end_14 (by decide) ?_
    refine va_put (D := D) (ci := 1) (v := .int 1) (ty := .int) (C := "SignReaderModel") (T := T_M) (N := 9) hx hb hts i_M t_M t_M_ok n_M hown hK hP (moD hd) hS 0 rfl rfl 0 (by decide) (hts _ k391) (fun _ h9 => h9) rfl (by decide +kernel) rfl rfl (Nat.le_of_ble_eq_true rfl) dM_end_18 (fun H locs hP _ hS => ?_)
    have hP : va_P D CL (moW h qb qt qa cI (1) (nI y.2.1) (nI y.2.2.1) (y.2.2.2.1) (nI y.2.2.2.2.1) (y.2.2.2.2.2.1) (y.2.2.2.2.2.2.1) (y.2.2.2.2.2.2.2.1) (y.2.2.2.2.2.2.2.2)) H := hP
    refine lv_aload_n hx hb dM_end_21 rfl (lv_at hl 0 rfl) ?_
    refine va_get (D := D) (ci := 1) (v := .int 1) (C := "SignReaderModel") (T := T_M) (N := 9) hx hb hts i_M hown hK hP 0 rfl rfl 0 (by decide) (hts _ k391) (fun _ h9 => h9) rfl dM_end_22 ?_
    refine lv_if_le (tgt := 30) hx hb dM_end_25 (by decide) (fun c2 => absurd c2 (by decide)) (fun c2 => ?_)
    refine lv_iconst (v := 0) hx hb dM_end_28 (by decide) ?_
    have hP : va_P D CL (moZ h qb qt qa cI (yEnd y i)) _ := va_Pe (by simp [yEnd, meOk, c1] : moW h qb qt qa cI (1) (nI y.2.1) (nI y.2.2.1) (y.2.2.2.1) (nI y.2.2.2.2.1) (y.2.2.2.2.2.1) (y.2.2.2.2.2.2.1) (y.2.2.2.2.2.2.2.1) (y.2.2.2.2.2.2.2.2) = moZ h qb qt qa cI (yEnd y i)) hP
    exact mu_retI S hr hk (by simp [meOk, c1]) hP hS dM_end_29
  · skip
    replace c1 := Int32.not_lt.mp c1
    refine lv_iload_n hx hb dM_end_5 rfl (lv_at hl 1 rfl) ?_
    refine lv_aload_n hx hb dM_end_6 rfl (lv_at hl 0 rfl) ?_
    refine va_get (D := D) (ci := 1) (v := .int (nI y.2.1)) (C := "SignReaderModel") (T := T_M) (N := 9) hx hb hts i_M hown hK hP 0 rfl rfl 2 (by decide) (hts _ k393) (fun _ h9 => h9) rfl dM_end_7 ?_
    refine lv_icmp_le (tgt := 17) hx hb dM_end_10 (by decide) (fun c3 => ?_) (fun c3 => ?_)
    · skip
      refine lv_iconst (v := 0) hx hb dM_end_17 (by decide) ?_
      refine va_put (D := D) (ci := 1) (v := .int 0) (ty := .int) (C := "SignReaderModel") (T := T_M) (N := 9) hx hb hts i_M t_M t_M_ok n_M hown hK hP (moD hd) hS 0 rfl rfl 0 (by decide) (hts _ k391) (fun _ h9 => h9) rfl (by decide +kernel) rfl rfl (Nat.le_of_ble_eq_true rfl) dM_end_18 (fun H locs hP _ hS => ?_)
      have hP : va_P D CL (moW h qb qt qa cI (0) (nI y.2.1) (nI y.2.2.1) (y.2.2.2.1) (nI y.2.2.2.2.1) (y.2.2.2.2.2.1) (y.2.2.2.2.2.2.1) (y.2.2.2.2.2.2.2.1) (y.2.2.2.2.2.2.2.2)) H := hP
      refine lv_aload_n hx hb dM_end_21 rfl (lv_at hl 0 rfl) ?_
      refine va_get (D := D) (ci := 1) (v := .int 0) (C := "SignReaderModel") (T := T_M) (N := 9) hx hb hts i_M hown hK hP 0 rfl rfl 0 (by decide) (hts _ k391) (fun _ h9 => h9) rfl dM_end_22 ?_
      refine lv_if_le (tgt := 30) hx hb dM_end_25 (by decide) (fun c4 => ?_) (fun c4 => absurd c4 (by decide))
      refine lv_aload_n hx hb dM_end_30 rfl (lv_at hl 0 rfl) ?_
      refine va_get (D := D) (ci := 1) (v := .int (nI y.2.1)) (C := "SignReaderModel") (T := T_M) (N := 9) hx hb hts i_M hown hK hP 0 rfl rfl 2 (by decide) (hts _ k393) (fun _ h9 => h9) rfl dM_end_31 ?_
      refine lv_istore_n (lv' := [(2, .int (nI y.2.1)), (0, .ref h), (1, .int i)]) hx hb dM_end_34 rfl hl (by decide) rfl (fun ls hl => ?_)
      refine lv_aload_n hx hb dM_end_35 rfl (lv_at hl 1 rfl) ?_
      refine lv_iload_n hx hb dM_end_36 rfl (lv_at hl 2 rfl) ?_
      refine va_put (D := D) (ci := 1) (v := .int i) (ty := .int) (C := "SignReaderModel") (T := T_M) (N := 9) hx hb hts i_M t_M t_M_ok n_M hown hK hP (moD hd) hS 0 rfl rfl 2 (by decide) (hts _ k393) (fun _ h9 => h9) rfl (by decide +kernel) rfl rfl (Nat.le_of_ble_eq_true rfl) dM_end_37 (fun H locs hP _ hS => ?_)
      have hP : va_P D CL (moW h qb qt qa cI (0) (i) (nI y.2.2.1) (y.2.2.2.1) (nI y.2.2.2.2.1) (y.2.2.2.2.2.1) (y.2.2.2.2.2.2.1) (y.2.2.2.2.2.2.2.1) (y.2.2.2.2.2.2.2.2)) H := hP
      refine lv_iload_n hx hb dM_end_40 rfl (lv_at hl 0 rfl) ?_
      have hP : va_P D CL (moZ h qb qt qa cI (yEnd y i)) _ := va_Pe (by simp [yEnd, meOk, nI_nat, c1, c3] : moW h qb qt qa cI (0) (i) (nI y.2.2.1) (y.2.2.2.1) (nI y.2.2.2.2.1) (y.2.2.2.2.2.1) (y.2.2.2.2.2.2.1) (y.2.2.2.2.2.2.2.1) (y.2.2.2.2.2.2.2.2) = moZ h qb qt qa cI (yEnd y i)) hP
      exact mu_retI S hr hk (by simp [meOk, c1, c3]) hP hS dM_end_41
    · skip
      refine lv_iconst (v := 1) hx hb dM_end_13 (by decide) ?_
      refine lv_goto (tgt := 18) hx hb dM_end_14 (by decide) ?_
      refine va_put (D := D) (ci := 1) (v := .int 1) (ty := .int) (C := "SignReaderModel") (T := T_M) (N := 9) hx hb hts i_M t_M t_M_ok n_M hown hK hP (moD hd) hS 0 rfl rfl 0 (by decide) (hts _ k391) (fun _ h9 => h9) rfl (by decide +kernel) rfl rfl (Nat.le_of_ble_eq_true rfl) dM_end_18 (fun H locs hP _ hS => ?_)
      have hP : va_P D CL (moW h qb qt qa cI (1) (nI y.2.1) (nI y.2.2.1) (y.2.2.2.1) (nI y.2.2.2.2.1) (y.2.2.2.2.2.1) (y.2.2.2.2.2.2.1) (y.2.2.2.2.2.2.2.1) (y.2.2.2.2.2.2.2.2)) H := hP
      refine lv_aload_n hx hb dM_end_21 rfl (lv_at hl 0 rfl) ?_
      refine va_get (D := D) (ci := 1) (v := .int 1) (C := "SignReaderModel") (T := T_M) (N := 9) hx hb hts i_M hown hK hP 0 rfl rfl 0 (by decide) (hts _ k391) (fun _ h9 => h9) rfl dM_end_22 ?_
      refine lv_if_le (tgt := 30) hx hb dM_end_25 (by decide) (fun c5 => absurd c5 (by decide)) (fun c5 => ?_)
      refine lv_iconst (v := 0) hx hb dM_end_28 (by decide) ?_
      have hP : va_P D CL (moZ h qb qt qa cI (yEnd y i)) _ := va_Pe (by simp [yEnd, meOk, c1, c3] : moW h qb qt qa cI (1) (nI y.2.1) (nI y.2.2.1) (y.2.2.2.1) (nI y.2.2.2.2.1) (y.2.2.2.2.2.1) (y.2.2.2.2.2.2.1) (y.2.2.2.2.2.2.2.1) (y.2.2.2.2.2.2.2.2) = moZ h qb qt qa cI (yEnd y i)) hP
      exact mu_retI S hr hk (by simp [meOk, c1, c3]) hP hS dM_end_29
def maOk (y : MS) (c : Int32) : Bool := sChar c && !decide (c = 13) && decide (y.2.2.1 < 4096)
def yAdd (y : MS) (c : Int32) : MS := if maOk y c = true then (0, y.2.1, y.2.2.1 + 1, y.2.2.2.1, y.2.2.2.2.1, y.2.2.2.2.2.1, y.2.2.2.2.2.2.1, upd y.2.2.2.2.2.2.2.1 y.2.2.1 c, y.2.2.2.2.2.2.2.2) else (0, y.2)
theorem yAdd_ok {y : MS} {c : Int32} (hy : okY y) : okY (yAdd y c) := by
  unfold yAdd
  split
  · next h =>
    simp only [maOk, Bool.and_eq_true, decide_eq_true_eq] at h
    exact ⟨hy.1, by show y.2.2.1 + 1 ≤ 4096; omega, hy.2.2⟩
  · exact hy
set_option maxHeartbeats 4000000 in
set_option maxRecDepth 100000 in
theorem cM_add (l : Launch) (D : va_G) (h qb qt qa : Nat) (cI : ClassId) (y : MS) (c : Int32) (hd : ap4 h qb qt qa) (hy : okY y) : Met l yM_add (Cond.code yM_add prog_3_method_30_code 2 (some .int) :: TB) { frames := 2, cells := 0, slots := 0, locals := 42 } (gx (xM D h qb qt qa cI y) [.ref h, .int c]) (mQ (some (.int (if maOk y c = true then nI (y.2.2.1 + 1) else -1))) D (moZ h qb qt qa cI (yAdd y c)) (A4 h qb qt qa)) 0 0 (A4 h qb qt qa) := by
  refine mt_of (by decide) ?_
  intro p e s m args below meth cd S hr hk hin hv
  obtain ⟨rfl, hX⟩ := hv
  have hP : va_P D CL (moZ h qb qt qa cI y) s.heap := hX.1
  have hK := hX.2
  have hy1 := hy.1
  have hy2 := hy.2.1
  have hy3 := hy.2.2
  have hS : va_S (A4 h qb qt qa) s.heap s.heap [] := va_S.rf
  have hx := S.1
  have hb := S.2.1
  have hown := S.2.2.2.1
  have hts := S.2.2.2.2
  have hl := lv_entry ([.ref h, .int c]) (n := 2) (Nat.le_of_ble_eq_true rfl)
  rw [lg_entry_eq]
  generalize (lg_sl ([.ref h, .int c]) ++ List.replicate (2 - (lg_sl ([.ref h, .int c])).length) Slot.unset).toArray = ls at hl ⊢
  have hl : lv_has ls 2 [(0, .ref h), (1, .int c)] := hl
  refine lv_aload_n hx hb dM_add_0 rfl (lv_at hl 0 rfl) ?_
  refine lv_iconst (v := 0) hx hb dM_add_1 (by decide) ?_
  refine va_put (D := D) (ci := 1) (v := .int 0) (ty := .int) (C := "SignReaderModel") (T := T_M) (N := 9) hx hb hts i_M t_M t_M_ok n_M hown hK hP (moD hd) hS 0 rfl rfl 0 (by decide) (hts _ k391) (fun _ h9 => h9) rfl (by decide +kernel) rfl rfl (Nat.le_of_ble_eq_true rfl) dM_add_2 (fun H locs hP _ hS => ?_)
  have hP : va_P D CL (moW h qb qt qa cI (0) (nI y.2.1) (nI y.2.2.1) (y.2.2.2.1) (nI y.2.2.2.2.1) (y.2.2.2.2.2.1) (y.2.2.2.2.2.2.1) (y.2.2.2.2.2.2.2.1) (y.2.2.2.2.2.2.2.2)) H := hP
  have hP : va_P D CL (moZ h qb qt qa cI ((0, y.2))) _ := va_Pe (rfl : moW h qb qt qa cI (0) (nI y.2.1) (nI y.2.2.1) (y.2.2.2.1) (nI y.2.2.2.2.1) (y.2.2.2.2.2.1) (y.2.2.2.2.2.2.1) (y.2.2.2.2.2.2.2.1) (y.2.2.2.2.2.2.2.2) = moZ h qb qt qa cI ((0, y.2))) hP
  refine lv_iload_n hx hb dM_add_5 rfl (lv_at hl 1 rfl) ?_
  refine ro_S (As := [.int c]) (rest := []) (n := 1) S (cM_isCharacter l (c)) k476 k2 k475 (by decide +kernel) ⟨rfl, rfl⟩ k474 (by decide) preEq rfl rfl hl.1 (Nat.le_of_ble_eq_true rfl) ⟨Nat.le_refl _, Nat.le_refl _⟩ dM_add_6 ?_
  refine lv_if_eq (tgt := 28) hx hb dM_add_9 (by decide) (fun c1 => ?_) (fun c1 => ?_)
  · skip
    replace c1 := bI_f c1
    refine lv_iconst (v := (-1)) hx hb dM_add_28 (by decide) ?_
    have hP : va_P D CL (moZ h qb qt qa cI (yAdd y c)) _ := va_Pe (congrArg (moZ h qb qt qa cI) (by simp [yAdd, maOk, nI_1, nI_clamp (show y.2.2.1 < 2 ^ 31 by omega), c1] : ((0, y.2) : MS) = yAdd y c)) hP
    exact mu_retI S hr hk (by simp [maOk, nI_1, c1]) hP hS dM_add_29
  · skip
    replace c1 := bI_t c1
    refine lv_iload_n hx hb dM_add_12 rfl (lv_at hl 1 rfl) ?_
    refine lv_bipush (v := 13) hx hb dM_add_13 (by decide) ?_
    refine lv_icmp_eq (tgt := 28) hx hb dM_add_15 (by decide) (fun c2 => ?_) (fun c2 => ?_)
    · skip
      refine lv_iconst (v := (-1)) hx hb dM_add_28 (by decide) ?_
      have hP : va_P D CL (moZ h qb qt qa cI (yAdd y c)) _ := va_Pe (congrArg (moZ h qb qt qa cI) (by simp [yAdd, maOk, nI_1, nI_clamp (show y.2.2.1 < 2 ^ 31 by omega), c1, c2] : ((0, y.2) : MS) = yAdd y c)) hP
      exact mu_retI S hr hk (by simp [maOk, nI_1, c1, c2]) hP hS dM_add_29
    · skip
      refine lv_aload_n hx hb dM_add_18 rfl (lv_at hl 0 rfl) ?_
      refine va_get (D := D) (ci := 1) (v := .int (nI y.2.2.1)) (C := "SignReaderModel") (T := T_M) (N := 9) hx hb hts i_M hown hK hP 0 rfl rfl 4 (by decide) (hts _ k395) (fun _ h9 => h9) rfl dM_add_19 ?_
      refine lv_sipush (v := 4096) hx hb dM_add_22 (by decide) ?_
      refine lv_icmp_ne (tgt := 30) hx hb dM_add_25 (by decide) (fun c3 => ?_) (fun c3 => ?_)
      · skip
        have hl9 : y.2.2.1 < 4096 := by rcases Nat.lt_or_ge y.2.2.1 4096 with q | q; exact q; exact absurd (show nI y.2.2.1 = 4096 by rw [show y.2.2.1 = 4096 by omega]; rfl) c3
        refine lv_aload_n hx hb dM_add_30 rfl (lv_at hl 0 rfl) ?_
        refine va_get (D := D) (ci := 1) (v := .ref qt) (C := "SignReaderModel") (T := T_M) (N := 9) hx hb hts i_M hown hK hP 0 rfl rfl 3 (by decide) (hts _ k394) (fun _ h9 => h9) rfl dM_add_31 ?_
        refine lv_aload_n hx hb dM_add_34 rfl (lv_at hl 0 rfl) ?_
        refine va_get (D := D) (ci := 1) (v := .int (nI y.2.2.1)) (C := "SignReaderModel") (T := T_M) (N := 9) hx hb hts i_M hown hK hP 0 rfl rfl 4 (by decide) (hts _ k395) (fun _ h9 => h9) rfl dM_add_35 ?_
        refine lv_iload_n hx hb dM_add_38 rfl (lv_at hl 1 rfl) ?_
        refine va_iast hx hb hK hP (moD hd) hS 2 0 rfl rfl (vp_in_nI (by omega) (by omega)) dM_add_39 (fun H locs hP _ hS => ?_)
        have hP : va_P D CL (moW h qb qt qa cI (0) (nI y.2.1) (nI y.2.2.1) (y.2.2.2.1) (nI y.2.2.2.2.1) (y.2.2.2.2.2.1) (y.2.2.2.2.2.2.1) (upd (y.2.2.2.2.2.2.2.1) ((nI y.2.2.1)).toNatClampNeg (c)) (y.2.2.2.2.2.2.2.2)) H := hP
        refine lv_aload_n hx hb dM_add_40 rfl (lv_at hl 0 rfl) ?_
        refine lv_aload_n hx hb dM_add_41 rfl (lv_at hl 0 rfl) ?_
        refine va_get (D := D) (ci := 1) (v := .int (nI y.2.2.1)) (C := "SignReaderModel") (T := T_M) (N := 9) hx hb hts i_M hown hK hP 0 rfl rfl 4 (by decide) (hts _ k395) (fun _ h9 => h9) rfl dM_add_42 ?_
        refine lv_iconst (v := 1) hx hb dM_add_45 (by decide) ?_
        refine lv_iadd hx hb dM_add_46 ?_
        refine va_put (D := D) (ci := 1) (v := .int ((nI y.2.2.1) + 1)) (ty := .int) (C := "SignReaderModel") (T := T_M) (N := 9) hx hb hts i_M t_M t_M_ok n_M hown hK hP (moD hd) hS 0 rfl rfl 4 (by decide) (hts _ k395) (fun _ h9 => h9) rfl (by decide +kernel) rfl rfl (Nat.le_of_ble_eq_true rfl) dM_add_47 (fun H locs hP _ hS => ?_)
        have hP : va_P D CL (moW h qb qt qa cI (0) (nI y.2.1) (((nI y.2.2.1) + 1)) (y.2.2.2.1) (nI y.2.2.2.2.1) (y.2.2.2.2.2.1) (y.2.2.2.2.2.2.1) (upd (y.2.2.2.2.2.2.2.1) ((nI y.2.2.1)).toNatClampNeg (c)) (y.2.2.2.2.2.2.2.2)) H := hP
        refine lv_aload_n hx hb dM_add_50 rfl (lv_at hl 0 rfl) ?_
        refine va_get (D := D) (ci := 1) (v := .int (((nI y.2.2.1) + 1))) (C := "SignReaderModel") (T := T_M) (N := 9) hx hb hts i_M hown hK hP 0 rfl rfl 4 (by decide) (hts _ k395) (fun _ h9 => h9) rfl dM_add_51 ?_
        have hP : va_P D CL (moZ h qb qt qa cI (yAdd y c)) _ := va_Pe (by simp [yAdd, maOk, nI_1, nI_clamp (show y.2.2.1 < 2 ^ 31 by omega), c1, c2, hl9] : moW h qb qt qa cI (0) (nI y.2.1) (((nI y.2.2.1) + 1)) (y.2.2.2.1) (nI y.2.2.2.2.1) (y.2.2.2.2.2.1) (y.2.2.2.2.2.2.1) (upd (y.2.2.2.2.2.2.2.1) ((nI y.2.2.1)).toNatClampNeg (c)) (y.2.2.2.2.2.2.2.2) = moZ h qb qt qa cI (yAdd y c)) hP
        exact mu_retI S hr hk (by simp [maOk, nI_1, c1, c2, hl9]) hP hS dM_add_54
      · skip
        have hl9 : ¬ y.2.2.1 < 4096 := fun q => by have e9 : nI y.2.2.1 = nI 4096 := c3; rw [nI_eq (by omega) (by omega)] at e9; omega
        refine lv_iconst (v := (-1)) hx hb dM_add_28 (by decide) ?_
        have hP : va_P D CL (moZ h qb qt qa cI (yAdd y c)) _ := va_Pe (congrArg (moZ h qb qt qa cI) (by simp [yAdd, maOk, nI_1, nI_clamp (show y.2.2.1 < 2 ^ 31 by omega), c1, c2, hl9] : ((0, y.2) : MS) = yAdd y c)) hP
        exact mu_retI S hr hk (by simp [maOk, nI_1, c1, c2, hl9]) hP hS dM_add_29
