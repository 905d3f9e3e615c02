/-! new objects -/
def A1 (h sz : Nat) : Nat → Prop := fun q => q = h ∨ sz ≤ q
theorem d1 {A : Nat → Prop} {h : Nat} {e : va_E} (hA : A h) : va_D A [(h, e)] := by
  constructor
  · intro i j p q hi hj _
    match i, j, hi, hj with
    | 0, 0, _, _ => rfl
    | 0, k + 1, _, hj => simp at hj
    | k + 1, _, hi, _ => simp at hi
  · intro k q hq
    match k, hq with
    | 0, hq => cases hq; exact hA
    | k + 1, hq => simp at hq
theorem ap_of {A : Nat → Prop} {ws : va_W} (hD : va_D A ws) (i j : Nat) {p q : Nat × va_E} (hi : ws[i]? = some p) (hj : ws[j]? = some q) (hij : i ≠ j) : p.1 ≠ q.1 := fun he => hij (hD.1 i j p q hi hj he)
theorem nw_of {h sz : Nat} {ws : va_W} (hD : va_D (A1 h sz) ws) (k : Nat) {e : va_E} (h0 : ws[0]? = some (h, e)) {q : Nat × va_E} (hk : ws[k]? = some q) (hk0 : k ≠ 0) : sz ≤ q.1 := by
  rcases hD.2 k q hk with h9 | h9
  · exact absurd (hD.1 k 0 q _ hk h0 h9) hk0
  · exact h9
theorem cI_eq {D : va_G} {c1 c2 : ClassId} {s : State} {tys : List (ClassId × FieldType)} {i j : Nat} (h : va_K D CL tys s) (h1 : tys[i]? = some (c1, .int)) (h2 : tys[j]? = some (c2, .int)) : c1 = c2 := by
  have a := (h.2 i _ h1).2
  have b := (h.2 j _ h2).2
  exact Option.some.inj (Eq.trans (Eq.symm a) b)
abbrev z0 : SS := (0, 0, 0, fun _ => 0, fun _ => 0)
abbrev y0m : MS := (0, 0, 0, 0, 0, 0, fun _ => 0, fun _ => 0, fun _ => 0)
set_option maxHeartbeats 4000000 in
set_option maxRecDepth 100000 in
theorem cS_init (l : Launch) (D : va_G) (h N : Nat) (cI : ClassId) : Met l yS_init (Cond.code yS_init prog_1_method_1_code 1 none :: TB) { frames := 1, cells := 2, slots := 8192, locals := 12 } (gx (fun U H => va_P D CL [(h, .inr (0, [.null, .null, .int 0, .int 0, .int 0]))] H ∧ va_K D CL [(cI, .int)] U ∧ N ≤ H.size) [.ref h]) (fun _ st oc t => oc = .returned none ∧ (∃ qb qt : Nat, (ap3 h qb qt ∧ st.heap.size ≤ qb ∧ st.heap.size ≤ qt) ∧ va_P D CL (srZ h qb qt cI z0) t.heap) ∧ va_F (fun q => q = h) st t) 2 8192 (A1 h N) := by
  refine mt_of (by decide) ?_
  intro p e s m args below meth cd S hr hk hin hv
  obtain ⟨rfl, hP, hK, hN⟩ := hv
  have hx := S.1
  have hb := S.2.1
  have hml := S.2.2.1
  have hown := S.2.2.2.1
  have hts := S.2.2.2.2
  have hl := lv_entry ([.ref h]) (n := 1) (Nat.le_of_ble_eq_true rfl)
  rw [lg_entry_eq]
  generalize (lg_sl ([.ref h]) ++ List.replicate (1 - (lg_sl ([.ref h])).length) Slot.unset).toArray = ls at hl ⊢
  have hl : lv_has ls 1 [(0, .ref h)] := hl
  have hh : h < s.heap.size := (hP 0 _ rfl).lt
  have hA : ∀ q : Nat, s.heap.size ≤ q → A1 h s.heap.size q := fun q h9 => Or.inr h9
  have hD : va_D (A1 h s.heap.size) [(h, .inr (0, [.null, .null, .int 0, .int 0, .int 0]))] := d1 (Or.inl rfl)
  have hS : va_S (A1 h s.heap.size) s.heap s.heap [] := va_S.rf
  refine lv_aload_n hx hb dS_init_0 rfl (lv_at hl 0 rfl) ?_
  refine W.objInit hx hb hown (hts _ k19) (hts _ k20) (hts (Cond.code Lib.objectInit ⟨#[0xb1]⟩ 1 none) (TB_t 21 (by decide +kernel) rfl)) rfl (by rw [hml]; exact hl.1) rfl dS_init_1 (Nat.le_of_ble_eq_true rfl) (Nat.le_of_ble_eq_true rfl) ?_
  refine W.eq (g2 := F0 m 4 ls []) rfl ?_
  refine lv_aload_n hx hb dS_init_4 rfl (lv_at hl 0 rfl) ?_
  refine lv_sipush (v := 4096) hx hb dS_init_5 (by decide) ?_
  refine va_newa (atype := .int) (ty := .int) (a0 := (4096, .inl fun _ => 0)) (N' := 4096) hx hb (hts _ k38) rfl hK hP hD hS hA (fun _ => rfl) (by decide) (by decide) (by decide) (Nat.le_of_ble_eq_true rfl) (Nat.le_of_ble_eq_true rfl) dS_init_8 (fun qb cA H hK9 hP hD hS => ?_)
  have hc9 : cI = cA := cI_eq (i := 0) (j := 1) hK9 rfl rfl
  subst hc9
  have hK : va_K D CL [(cI, .int)] s := hK9.sub [0] rfl
  have hP : va_P D CL [(h, .inr (0, [.null, .null, .int 0, .int 0, .int 0])), (qb, .inl (cI, 4096, .inl fun _ => 0))] H := hP
  have hD : va_D (A1 h s.heap.size) [(h, .inr (0, [.null, .null, .int 0, .int 0, .int 0])), (qb, .inl (cI, 4096, .inl fun _ => 0))] := hD
  refine W.widen (k := 1) (n := 4096) (Nat.le_refl _) (Nat.le_of_ble_eq_true rfl) ?_
  refine va_putF (D := D) (ci := 0) (v := .ref qb) (ty := .array .int) (C := "SignReader") (T := T_S) (N := 5) hx hb hts i_S t_S t_S_ok n_S hown hK hP hD hS 0 rfl rfl 0 (by decide) (hts _ k22) (fun _ h9 => h9) rfl (hin rfl) rfl (by decide +kernel) rfl rfl (Nat.le_of_ble_eq_true rfl) dS_init_10 (fun H locs hP hD hS => ?_)
  have hP : va_P D CL [(h, .inr (0, [.ref qb, .null, .int 0, .int 0, .int 0])), (qb, .inl (cI, 4096, .inl fun _ => 0))] H := hP
  have hD : va_D (A1 h s.heap.size) [(h, .inr (0, [.ref qb, .null, .int 0, .int 0, .int 0])), (qb, .inl (cI, 4096, .inl fun _ => 0))] := hD
  refine lv_aload_n hx hb dS_init_13 rfl (lv_at hl 0 rfl) ?_
  refine lv_sipush (v := 4096) hx hb dS_init_14 (by decide) ?_
  refine va_newa (atype := .int) (ty := .int) (a0 := (4096, .inl fun _ => 0)) (N' := 4096) hx hb (hts _ k38) rfl hK hP hD hS hA (fun _ => rfl) (by decide) (by decide) (by decide) (Nat.le_of_ble_eq_true rfl) (Nat.le_of_ble_eq_true rfl) dS_init_17 (fun qt cA H hK9 hP hD hS => ?_)
  have hc9 : cI = cA := cI_eq (i := 0) (j := 1) hK9 rfl rfl
  subst hc9
  have hK : va_K D CL [(cI, .int)] s := hK9.sub [0] rfl
  have hP : va_P D CL [(h, .inr (0, [.ref qb, .null, .int 0, .int 0, .int 0])), (qb, .inl (cI, 4096, .inl fun _ => 0)), (qt, .inl (cI, 4096, .inl fun _ => 0))] H := hP
  have hD : va_D (A1 h s.heap.size) [(h, .inr (0, [.ref qb, .null, .int 0, .int 0, .int 0])), (qb, .inl (cI, 4096, .inl fun _ => 0)), (qt, .inl (cI, 4096, .inl fun _ => 0))] := hD
  refine W.widen (k := 2) (n := 8192) (Nat.le_refl _) (Nat.le_of_ble_eq_true rfl) ?_
  refine va_putF (D := D) (ci := 0) (v := .ref qt) (ty := .array .int) (C := "SignReader") (T := T_S) (N := 5) hx hb hts i_S t_S t_S_ok n_S hown hK hP hD hS 0 rfl rfl 1 (by decide) (hts _ k23) (fun _ h9 => h9) rfl (hin rfl) rfl (by decide +kernel) rfl rfl (Nat.le_of_ble_eq_true rfl) dS_init_19 (fun H locs hP hD hS => ?_)
  have hP : va_P D CL [(h, .inr (0, [.ref qb, .ref qt, .int 0, .int 0, .int 0])), (qb, .inl (cI, 4096, .inl fun _ => 0)), (qt, .inl (cI, 4096, .inl fun _ => 0))] H := hP
  have hD : va_D (A1 h s.heap.size) [(h, .inr (0, [.ref qb, .ref qt, .int 0, .int 0, .int 0])), (qb, .inl (cI, 4096, .inl fun _ => 0)), (qt, .inl (cI, 4096, .inl fun _ => 0))] := hD
  refine lv_aload_n hx hb dS_init_22 rfl (lv_at hl 0 rfl) ?_
  refine lv_iconst (v := 0) hx hb dS_init_23 (by decide) ?_
  refine va_put (D := D) (ci := 0) (v := .int 0) (ty := .int) (C := "SignReader") (T := T_S) (N := 5) hx hb hts i_S t_S t_S_ok n_S hown hK hP hD hS 0 rfl rfl 2 (by decide) (hts _ k24) (fun _ h9 => h9) rfl (by decide +kernel) rfl rfl (Nat.le_of_ble_eq_true rfl) dS_init_24 (fun H locs hP hD hS => ?_)
  have hP : va_P D CL [(h, .inr (0, [.ref qb, .ref qt, .int 0, .int 0, .int 0])), (qb, .inl (cI, 4096, .inl fun _ => 0)), (qt, .inl (cI, 4096, .inl fun _ => 0))] H := hP
  have hD : va_D (A1 h s.heap.size) [(h, .inr (0, [.ref qb, .ref qt, .int 0, .int 0, .int 0])), (qb, .inl (cI, 4096, .inl fun _ => 0)), (qt, .inl (cI, 4096, .inl fun _ => 0))] := hD
  refine lv_aload_n hx hb dS_init_27 rfl (lv_at hl 0 rfl) ?_
  refine lv_iconst (v := 0) hx hb dS_init_28 (by decide) ?_
  refine va_put (D := D) (ci := 0) (v := .int 0) (ty := .int) (C := "SignReader") (T := T_S) (N := 5) hx hb hts i_S t_S t_S_ok n_S hown hK hP hD hS 0 rfl rfl 3 (by decide) (hts _ k25) (fun _ h9 => h9) rfl (by decide +kernel) rfl rfl (Nat.le_of_ble_eq_true rfl) dS_init_29 (fun H locs hP hD hS => ?_)
  have hP : va_P D CL [(h, .inr (0, [.ref qb, .ref qt, .int 0, .int 0, .int 0])), (qb, .inl (cI, 4096, .inl fun _ => 0)), (qt, .inl (cI, 4096, .inl fun _ => 0))] H := hP
  have hD : va_D (A1 h s.heap.size) [(h, .inr (0, [.ref qb, .ref qt, .int 0, .int 0, .int 0])), (qb, .inl (cI, 4096, .inl fun _ => 0)), (qt, .inl (cI, 4096, .inl fun _ => 0))] := hD
  refine lv_aload_n hx hb dS_init_32 rfl (lv_at hl 0 rfl) ?_
  refine lv_iconst (v := 0) hx hb dS_init_33 (by decide) ?_
  refine va_put (D := D) (ci := 0) (v := .int 0) (ty := .int) (C := "SignReader") (T := T_S) (N := 5) hx hb hts i_S t_S t_S_ok n_S hown hK hP hD hS 0 rfl rfl 4 (by decide) (hts _ k26) (fun _ h9 => h9) rfl (by decide +kernel) rfl rfl (Nat.le_of_ble_eq_true rfl) dS_init_34 (fun H locs hP hD hS => ?_)
  have hP : va_P D CL [(h, .inr (0, [.ref qb, .ref qt, .int 0, .int 0, .int 0])), (qb, .inl (cI, 4096, .inl fun _ => 0)), (qt, .inl (cI, 4096, .inl fun _ => 0))] H := hP
  have hD : va_D (A1 h s.heap.size) [(h, .inr (0, [.ref qb, .ref qt, .int 0, .int 0, .int 0])), (qb, .inl (cI, 4096, .inl fun _ => 0)), (qt, .inl (cI, 4096, .inl fun _ => 0))] := hD
  refine W.vret hx hb hr (fun t ht _ => ⟨rfl, ⟨qb, qt, ⟨⟨ap_of hD 0 1 rfl rfl (by decide), ap_of hD 0 2 rfl rfl (by decide), ap_of hD 1 2 rfl rfl (by decide)⟩, nw_of hD 1 rfl rfl (by decide), nw_of hD 2 rfl rfl (by decide)⟩, by rw [ht]; exact hP⟩, ⟨by rw [ht]; exact hS.1, fun q h1 h2 => by rw [ht]; exact hS.2.1 q h1 (fun h3 => h3.elim h2 (fun h4 => absurd h1 (by omega)))⟩⟩) (fun q h9 => (hS.2.2 q h9).imp id (fun h8 => Nat.le_trans hN h8)) dS_init_37 hk
set_option maxHeartbeats 4000000 in
set_option maxRecDepth 100000 in
theorem cM_init (l : Launch) (D : va_G) (h N : Nat) (cI : ClassId) : Met l yM_init (Cond.code yM_init prog_3_method_1_code 1 none :: TB) { frames := 1, cells := 3, slots := 12292, locals := 12 } (gx (fun U H => va_P D CL [(h, .inr (1, [.int 0, .null, .int 0, .null, .int 0, .int 0, .null, .int 0, .int 0]))] H ∧ va_K D CL [(cI, .int)] U ∧ N ≤ H.size) [.ref h]) (fun _ st oc t => oc = .returned none ∧ (∃ qb qt qa : Nat, (ap4 h qb qt qa ∧ st.heap.size ≤ qb ∧ st.heap.size ≤ qt ∧ st.heap.size ≤ qa) ∧ va_P D CL (moZ h qb qt qa cI y0m) t.heap) ∧ va_F (fun q => q = h) st t) 3 12292 (A1 h N) := by
  refine mt_of (by decide) ?_
  intro p e s m args below meth cd S hr hk hin hv
  obtain ⟨rfl, hP, hK, hN⟩ := hv
  have hx := S.1
  have hb := S.2.1
  have hml := S.2.2.1
  have hown := S.2.2.2.1
  have hts := S.2.2.2.2
  have hl := lv_entry ([.ref h]) (n := 1) (Nat.le_of_ble_eq_true rfl)
  rw [lg_entry_eq]
  generalize (lg_sl ([.ref h]) ++ List.replicate (1 - (lg_sl ([.ref h])).length) Slot.unset).toArray = ls at hl ⊢
  have hl : lv_has ls 1 [(0, .ref h)] := hl
  have hh : h < s.heap.size := (hP 0 _ rfl).lt
  have hA : ∀ q : Nat, s.heap.size ≤ q → A1 h s.heap.size q := fun q h9 => Or.inr h9
  have hD : va_D (A1 h s.heap.size) [(h, .inr (1, [.int 0, .null, .int 0, .null, .int 0, .int 0, .null, .int 0, .int 0]))] := d1 (Or.inl rfl)
  have hS : va_S (A1 h s.heap.size) s.heap s.heap [] := va_S.rf
  refine lv_aload_n hx hb dM_init_0 rfl (lv_at hl 0 rfl) ?_
  refine W.objInit hx hb hown (hts _ k390) (hts _ k20) (hts (Cond.code Lib.objectInit ⟨#[0xb1]⟩ 1 none) (TB_t 21 (by decide +kernel) rfl)) rfl (by rw [hml]; exact hl.1) rfl dM_init_1 (Nat.le_of_ble_eq_true rfl) (Nat.le_of_ble_eq_true rfl) ?_
  refine W.eq (g2 := F0 m 4 ls []) rfl ?_
  refine lv_aload_n hx hb dM_init_4 rfl (lv_at hl 0 rfl) ?_
  refine lv_sipush (v := 4096) hx hb dM_init_5 (by decide) ?_
  refine va_newa (atype := .int) (ty := .int) (a0 := (4096, .inl fun _ => 0)) (N' := 4096) hx hb (hts _ k38) rfl hK hP hD hS hA (fun _ => rfl) (by decide) (by decide) (by decide) (Nat.le_of_ble_eq_true rfl) (Nat.le_of_ble_eq_true rfl) dM_init_8 (fun qb cA H hK9 hP hD hS => ?_)
  have hc9 : cI = cA := cI_eq (i := 0) (j := 1) hK9 rfl rfl
  subst hc9
  have hK : va_K D CL [(cI, .int)] s := hK9.sub [0] rfl
  have hP : va_P D CL [(h, .inr (1, [.int 0, .null, .int 0, .null, .int 0, .int 0, .null, .int 0, .int 0])), (qb, .inl (cI, 4096, .inl fun _ => 0))] H := hP
  have hD : va_D (A1 h s.heap.size) [(h, .inr (1, [.int 0, .null, .int 0, .null, .int 0, .int 0, .null, .int 0, .int 0])), (qb, .inl (cI, 4096, .inl fun _ => 0))] := hD
  refine W.widen (k := 1) (n := 4096) (Nat.le_refl _) (Nat.le_of_ble_eq_true rfl) ?_
  refine va_putF (D := D) (ci := 1) (v := .ref qb) (ty := .array .int) (C := "SignReaderModel") (T := T_M) (N := 9) hx hb hts i_M t_M t_M_ok n_M hown hK hP hD hS 0 rfl rfl 1 (by decide) (hts _ k392) (fun _ h9 => h9) rfl (hin rfl) rfl (by decide +kernel) rfl rfl (Nat.le_of_ble_eq_true rfl) dM_init_10 (fun H locs hP hD hS => ?_)
  have hP : va_P D CL [(h, .inr (1, [.int 0, .ref qb, .int 0, .null, .int 0, .int 0, .null, .int 0, .int 0])), (qb, .inl (cI, 4096, .inl fun _ => 0))] H := hP
  have hD : va_D (A1 h s.heap.size) [(h, .inr (1, [.int 0, .ref qb, .int 0, .null, .int 0, .int 0, .null, .int 0, .int 0])), (qb, .inl (cI, 4096, .inl fun _ => 0))] := hD
  refine lv_aload_n hx hb dM_init_13 rfl (lv_at hl 0 rfl) ?_
  refine lv_sipush (v := 4096) hx hb dM_init_14 (by decide) ?_
  refine va_newa (atype := .int) (ty := .int) (a0 := (4096, .inl fun _ => 0)) (N' := 4096) hx hb (hts _ k38) rfl hK hP hD hS hA (fun _ => rfl) (by decide) (by decide) (by decide) (Nat.le_of_ble_eq_true rfl) (Nat.le_of_ble_eq_true rfl) dM_init_17 (fun qt cA H hK9 hP hD hS => ?_)
  have hc9 : cI = cA := cI_eq (i := 0) (j := 1) hK9 rfl rfl
  subst hc9
  have hK : va_K D CL [(cI, .int)] s := hK9.sub [0] rfl
  have hP : va_P D CL [(h, .inr (1, [.int 0, .ref qb, .int 0, .null, .int 0, .int 0, .null, .int 0, .int 0])), (qb, .inl (cI, 4096, .inl fun _ => 0)), (qt, .inl (cI, 4096, .inl fun _ => 0))] H := hP
  have hD : va_D (A1 h s.heap.size) [(h, .inr (1, [.int 0, .ref qb, .int 0, .null, .int 0, .int 0, .null, .int 0, .int 0])), (qb, .inl (cI, 4096, .inl fun _ => 0)), (qt, .inl (cI, 4096, .inl fun _ => 0))] := hD
  refine W.widen (k := 2) (n := 8192) (Nat.le_refl _) (Nat.le_of_ble_eq_true rfl) ?_
  refine va_putF (D := D) (ci := 1) (v := .ref qt) (ty := .array .int) (C := "SignReaderModel") (T := T_M) (N := 9) hx hb hts i_M t_M t_M_ok n_M hown hK hP hD hS 0 rfl rfl 3 (by decide) (hts _ k394) (fun _ h9 => h9) rfl (hin rfl) rfl (by decide +kernel) rfl rfl (Nat.le_of_ble_eq_true rfl) dM_init_19 (fun H locs hP hD hS => ?_)
  have hP : va_P D CL [(h, .inr (1, [.int 0, .ref qb, .int 0, .ref qt, .int 0, .int 0, .null, .int 0, .int 0])), (qb, .inl (cI, 4096, .inl fun _ => 0)), (qt, .inl (cI, 4096, .inl fun _ => 0))] H := hP
  have hD : va_D (A1 h s.heap.size) [(h, .inr (1, [.int 0, .ref qb, .int 0, .ref qt, .int 0, .int 0, .null, .int 0, .int 0])), (qb, .inl (cI, 4096, .inl fun _ => 0)), (qt, .inl (cI, 4096, .inl fun _ => 0))] := hD
  refine lv_aload_n hx hb dM_init_22 rfl (lv_at hl 0 rfl) ?_
  refine lv_sipush (v := 4100) hx hb dM_init_23 (by decide) ?_
  refine va_newa (atype := .int) (ty := .int) (a0 := (4100, .inl fun _ => 0)) (N' := 4100) hx hb (hts _ k38) rfl hK hP hD hS hA (fun _ => rfl) (by decide) (by decide) (by decide) (Nat.le_of_ble_eq_true rfl) (Nat.le_of_ble_eq_true rfl) dM_init_26 (fun qa cA H hK9 hP hD hS => ?_)
  have hc9 : cI = cA := cI_eq (i := 0) (j := 1) hK9 rfl rfl
  subst hc9
  have hK : va_K D CL [(cI, .int)] s := hK9.sub [0] rfl
  have hP : va_P D CL [(h, .inr (1, [.int 0, .ref qb, .int 0, .ref qt, .int 0, .int 0, .null, .int 0, .int 0])), (qb, .inl (cI, 4096, .inl fun _ => 0)), (qt, .inl (cI, 4096, .inl fun _ => 0)), (qa, .inl (cI, 4100, .inl fun _ => 0))] H := hP
  have hD : va_D (A1 h s.heap.size) [(h, .inr (1, [.int 0, .ref qb, .int 0, .ref qt, .int 0, .int 0, .null, .int 0, .int 0])), (qb, .inl (cI, 4096, .inl fun _ => 0)), (qt, .inl (cI, 4096, .inl fun _ => 0)), (qa, .inl (cI, 4100, .inl fun _ => 0))] := hD
  refine W.widen (k := 3) (n := 12292) (Nat.le_refl _) (Nat.le_of_ble_eq_true rfl) ?_
  refine va_putF (D := D) (ci := 1) (v := .ref qa) (ty := .array .int) (C := "SignReaderModel") (T := T_M) (N := 9) hx hb hts i_M t_M t_M_ok n_M hown hK hP hD hS 0 rfl rfl 6 (by decide) (hts _ k397) (fun _ h9 => h9) rfl (hin rfl) rfl (by decide +kernel) rfl rfl (Nat.le_of_ble_eq_true rfl) dM_init_28 (fun H locs hP hD hS => ?_)
  have hP : va_P D CL [(h, .inr (1, [.int 0, .ref qb, .int 0, .ref qt, .int 0, .int 0, .ref qa, .int 0, .int 0])), (qb, .inl (cI, 4096, .inl fun _ => 0)), (qt, .inl (cI, 4096, .inl fun _ => 0)), (qa, .inl (cI, 4100, .inl fun _ => 0))] H := hP
  have hD : va_D (A1 h s.heap.size) [(h, .inr (1, [.int 0, .ref qb, .int 0, .ref qt, .int 0, .int 0, .ref qa, .int 0, .int 0])), (qb, .inl (cI, 4096, .inl fun _ => 0)), (qt, .inl (cI, 4096, .inl fun _ => 0)), (qa, .inl (cI, 4100, .inl fun _ => 0))] := hD
  refine W.vret hx hb hr (fun t ht _ => ⟨rfl, ⟨qb, qt, qa, ⟨⟨⟨ap_of hD 0 1 rfl rfl (by decide), ap_of hD 0 2 rfl rfl (by decide), ap_of hD 0 3 rfl rfl (by decide)⟩, ap_of hD 1 2 rfl rfl (by decide), ap_of hD 1 3 rfl rfl (by decide), ap_of hD 2 3 rfl rfl (by decide)⟩, nw_of hD 1 rfl rfl (by decide), nw_of hD 2 rfl rfl (by decide), nw_of hD 3 rfl rfl (by decide)⟩, by rw [ht]; exact hP⟩, ⟨by rw [ht]; exact hS.1, fun q h1 h2 => by rw [ht]; exact hS.2.1 q h1 (fun h3 => h3.elim h2 (fun h4 => absurd h1 (by omega)))⟩⟩) (fun q h9 => (hS.2.2 q h9).imp id (fun h8 => Nat.le_trans hN h8)) dM_init_31 hk
