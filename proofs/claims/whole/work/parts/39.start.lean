/-! the law from its entry -/
section Ini
variable {p : Program} {l : Launch} {e : Env} {R : Room} {s : State} {m : MethodId} {args : Array Value} {below : List Frame} {meth : Method} {c : Code} {H : Heap} {locs : List Loc} {cells slots : Nat} {Q : State → Prop}
variable {y : MethodName} {bytes cc : ByteArray} {maxL nL index mc ms pc : Nat} {rm : Room} {Pc : Array Value → State → Prop} {free : Addr → Prop} {own : String} {b : Addr} {rest st : List Value} {ls : Array Slot}
/-- a call of a constructor without arguments -/
theorem ct_I {Post : State → State → Prop} (S : CallFix p m c cc nL s args TB own) (hM : Met l y (Cond.code y bytes maxL none :: TB) rm Pc (fun _ st oc t => oc = .returned none ∧ Post st t) mc ms free) (hc : Cond.code y bytes maxL none ∈ TB) (hi : Cond.initialized y.cls ∈ TB) (hs : Cond.instanceMethod y ∈ TB) (hd : okName y 0) (hy1 : y.name = "<init>") (hrc : rm.cells = mc ∧ rm.slots = ms)
    (hl : Cond.methodLink own index y ∈ TB) (hR : rm.frames + 1 ≤ R.frames ∧ 8 + (maxL + 11) + rm.locals ≤ R.locals) (hp : PreS s H Pc [.ref b]) (hst : st = .ref b :: rest) (hsize : ls.size = nL) (hW : (rest.map fun v => v.category).sum ≤ 8) (hf : cells + mc ≤ R.cells ∧ slots + ms ≤ R.slots) (hdg : decode cc pc = .ok (.invokespecial index, 3))
    (kk : ∀ (st₀ t : State) (L : List Loc), st₀.heap = H → Post st₀ t → (∀ q ∈ L, free q.base) → W p l e R s m args below meth c t.heap (locs ++ L) (cells + mc) (slots + ms) Q (F0 m (pc + 3) ls rest)) : W p l e R s m args below meth c H locs cells slots Q (F0 m pc ls st) := by
  have cw := cb_of (R := R) (rm := rm) S.2.2.2.2 hc hi hl hd hR
  rw [hrc.1, hrc.2] at cw
  have hr := W.runI (p := p) (e := e) (below := below) (meth := meth) (H := H) (locs := locs) (cells := cells) (slots := slots) (g := F0 m pc ls st) (As := []) (rest := rest) S hM ⟨cw, hy1, S.2.2.2.2 _ hs⟩ hp rfl rfl hsize hst (lv_room hW) hdg hf
  intro T hT X
  obtain ⟨v, st₀, t, T', L, h0, X', hL, e1, ⟨hv, hq⟩, sp⟩ := hr T hT X
  cases hv
  obtain ⟨t2, a1, b1⟩ := kk st₀ t L h0 hq hL T' e1 X'
  exact ⟨t2, sp t2 a1, b1⟩
end Ini
theorem P_nil {D : va_G} {H : Heap} : va_P D CL [] H := fun k q h => by simp at h
theorem D_nil {A : Nat → Prop} : va_D A [] := ⟨fun i j p q h => by simp at h, fun k q h => by simp at h⟩
theorem cL_eq {D : va_G} {c1 c2 : ClassId} {s : State} {tys : List (ClassId × FieldType)} {i j : Nat} (h : va_K D CL tys s) (h1 : tys[i]? = some (c1, .long)) (h2 : tys[j]? = some (c2, .long)) : c1 = c2 := by
  have a := (h.2 i _ h1).2
  have b := (h.2 j _ h2).2
  exact Option.some.inj (Eq.trans (Eq.symm a) b)
set_option maxHeartbeats 4000000 in
set_option maxRecDepth 100000 in
theorem whole_start {p : Program} {e : Env} {s : State} {m : MethodId} {below : List Frame} {meth : Method} {c : Code} (l : Launch) (htr : l.stackTraces = false) {b L : Nat} {xs : Nat → Int32} (hL : L ≤ 3072) (C0 : lw_At p s m meth c b L xs) : W p l e room_1 s m #[Value.ref b] below meth c s.heap [] 0 0 (lw_Z below #[Value.ref b] s) (entryFrame m ([Value.ref b] : List Value).toArray 7) := by
  obtain ⟨hx, hb, hr, hml, hown, hts0, hX, hbl, hlocks, hgv⟩ := id C0
  obtain ⟨tc, ts, tm, q, v, q28, q39, hDD, hEE, h28, h39⟩ := st_of hts0 hgv
  have hts : ∀ w ∈ TB, w.before #[Value.ref b] s = true := fun w hw => hts0 w (List.mem_filter.mp hw).1
  have S : CallFix p m c code 7 s #[Value.ref b] TB "SignReaderLaw" := ⟨hx, hb, hml, hown, hts⟩
  obtain ⟨c0, i0, hKn0⟩ := u_known (C := "SignReader") (T := T_S) (N := 5) (n := 5) hts i_S (hts _ k15)
  obtain ⟨c1, i1, hKn1⟩ := u_known (C := "SignReaderModel") (T := T_M) (N := 9) (n := 9) hts i_M (hts _ k386)
  obtain ⟨D, hKc⟩ : ∃ D : va_G, ∀ (k : Nat) (x : vw_C), CL[k]? = some x → u_Kn s x.1 x.2.1 x.2.2 (D.1 k) (D.2 k) := by
    refine ⟨(fun k => if k = 0 then c0 else c1, fun k => if k = 0 then i0 else i1), ?_⟩
    intro k x hx
    match k, hx with
    | 0, hx => cases hx; exact hKn0
    | 1, hx => cases hx; exact hKn1
    | k + 2, hx => simp at hx
  obtain ⟨cI, kI, compI, ai1, ai2, ai3⟩ := Cond.arrayClass_spec (hts _ k38)
  obtain ⟨cL, kL, compL, al1, al2, al3⟩ := Cond.arrayClass_spec (hts _ k542)
  have hK2 : va_K D CL [(cI, .int), (cL, .long)] s := by
    refine ⟨hKc, fun k x hx => ?_⟩
    match k, hx with
    | 0, hx => cases hx; exact ⟨fun n z => ⟨fun k h => (by cases h), kI, ai2, compI, ai3⟩, ai1⟩
    | 1, hx => cases hx; exact ⟨fun n z => ⟨fun k h => (by cases h), kL, al2, compL, al3⟩, al1⟩
    | k + 2, hx => simp at hx
  have hK : va_K D CL [(cI, .int)] s := hK2.sub [0] rfl
  have hl := lv_entry ([.ref b]) (n := 7) (Nat.le_of_ble_eq_true rfl)
  rw [lg_entry_eq]
  generalize (lg_sl ([.ref b]) ++ List.replicate (7 - (lg_sl ([.ref b])).length) Slot.unset).toArray = ls at hl ⊢
  have hl : lv_has ls 7 [(0, .ref b)] := hl
  -- the class's object
  refine va_new (A := fun x => s.heap.size ≤ x) (H0 := s.heap) (ci := 0) (fs := [.null, .null, .int 0, .int 0, .int 0]) (C := "SignReader") (T := T_S) (N := 5) hx hb hts i_S t_S t_S_ok hown (hts _ k14) (hts _ k15) (hts _ k1) hK P_nil D_nil va_S.rf (fun _ h9 => h9) rfl (fun j hj => by rcases (show j = 0 ∨ j = 1 ∨ j = 2 ∨ j = 3 ∨ j = 4 by omega) with rfl | rfl | rfl | rfl | rfl <;> rfl) (Nat.le_of_ble_eq_true rfl) (Nat.le_of_ble_eq_true rfl) dL_law_0 (fun h H1 hP hD hS => ?_)
  have hh : s.heap.size ≤ h := hD.2 0 _ rfl
  refine lv_dup hx hb dL_law_3 rfl ?_
  refine ct_I (b := h) (rest := [.ref h]) S (cS_init l D h s.heap.size cI) k18 k1 k17 (by decide +kernel) rfl ⟨rfl, rfl⟩ k16 (by decide) (gx_S (fun u U G hW x => ⟨x.1, va_K.moved hW.alike x.2.1, x.2.2⟩) ⟨hP, hK, hS.1⟩) rfl hl.1 (Nat.le_of_ble_eq_true rfl) ⟨Nat.le_of_ble_eq_true rfl, Nat.le_of_ble_eq_true rfl⟩ dL_law_4 (fun st₀ t L1 e0 hpost hL1 => ?_)
  obtain ⟨⟨qb, qt, ⟨hd, hqb, hqt⟩, hP1⟩, hz1, hk1⟩ := hpost
  rw [e0] at hqb hqt hz1 hk1
  have hS1 : va_S (fun x => s.heap.size ≤ x) s.heap t.heap ([] ++ L1) := ⟨Nat.le_trans hS.1 hz1, fun x h1 h2 => by rw [hk1 x (Nat.lt_of_lt_of_le h1 hS.1) (fun h9 => by omega)]; exact hS.2.1 x h1 h2, fun x hx => by
    rcases hL1 x hx with h9 | h9
    · rw [h9]; exact hh
    · exact h9⟩
  have hlt0 : h < t.heap.size := (hP1 0 _ rfl).lt
  have hlt1 : qb < t.heap.size := (hP1 1 _ rfl).lt
  have hlt2 : qt < t.heap.size := (hP1 2 _ rfl).lt
  have hz0 := hS.1
  generalize t.heap = H2 at *
  refine lv_astore_n (lv' := [(1, .ref h), (0, .ref b)]) hx hb dL_law_7 rfl hl (by decide) rfl (fun ls hl => ?_)
  refine va_forget hS1.2.2 ?_
  -- the reference's object
  refine va_new (A := fun x => H2.size ≤ x) (H0 := H2) (ci := 1) (fs := [.int 0, .null, .int 0, .null, .int 0, .int 0, .null, .int 0, .int 0]) (C := "SignReaderModel") (T := T_M) (N := 9) hx hb hts i_M t_M t_M_ok hown (hts _ k385) (hts _ k386) (hts _ k2) hK P_nil D_nil va_S.rf (fun _ h9 => h9) rfl (fun j hj => by rcases (show j = 0 ∨ j = 1 ∨ j = 2 ∨ j = 3 ∨ j = 4 ∨ j = 5 ∨ j = 6 ∨ j = 7 ∨ j = 8 by omega) with rfl | rfl | rfl | rfl | rfl | rfl | rfl | rfl | rfl <;> rfl) (Nat.le_of_ble_eq_true rfl) (Nat.le_of_ble_eq_true rfl) dL_law_8 (fun hm H3 hPm hDm hSm => ?_)
  have hhm : H2.size ≤ hm := hDm.2 0 _ rfl
  refine lv_dup hx hb dL_law_11 rfl ?_
  refine ct_I (b := hm) (rest := [.ref hm]) S (cM_init l D hm H2.size cI) k389 k2 k388 (by decide +kernel) rfl ⟨rfl, rfl⟩ k387 (by decide) (gx_S (fun u U G hW x => ⟨x.1, va_K.moved hW.alike x.2.1, x.2.2⟩) ⟨hPm, hK, hSm.1⟩) rfl hl.1 (Nat.le_of_ble_eq_true rfl) ⟨Nat.le_of_ble_eq_true rfl, Nat.le_of_ble_eq_true rfl⟩ dL_law_12 (fun st₁ t1 L2 e1 hpost hL2 => ?_)
  obtain ⟨⟨mb, mt, ma, ⟨hdm, hmb, hmt, hma⟩, hP2⟩, hz2, hk2⟩ := hpost
  rw [e1] at hmb hmt hma hz2 hk2
  have hz3 := hSm.1
  have hk3 : ∀ x : Nat, x < H2.size → t1.heap[x]? = H2[x]? := fun x h1 => by rw [hk2 x (Nat.lt_of_lt_of_le h1 hz3) (fun h9 => by omega)]; exact hSm.2.1 x h1 (by omega)
  have hlm0 : hm < t1.heap.size := (hP2 0 _ rfl).lt
  have hlm1 : mb < t1.heap.size := (hP2 1 _ rfl).lt
  have hlm2 : mt < t1.heap.size := (hP2 2 _ rfl).lt
  have hlm3 : ma < t1.heap.size := (hP2 3 _ rfl).lt
  have hP1 : va_P D CL (srZ h qb qt cI z0) t1.heap := fun k x hx => (hP1 k x hx).kept (hk3 x.1 (hP1 k x hx).lt)
  have hloc2 : ∀ x ∈ [] ++ L2, s.heap.size ≤ x.base := fun x hx => by
    rcases hL2 x hx with h9 | h9
    · rw [h9]; omega
    · omega
  generalize t1.heap = H4 at *
  refine lv_astore_n (lv' := [(2, .ref hm), (1, .ref h), (0, .ref b)]) hx hb dL_law_15 rfl hl (by decide) rfl (fun ls hl => ?_)
  refine va_forget hloc2 ?_
  -- the law's own array
  refine lv_iconst (v := 1) hx hb dL_law_16 (by decide) ?_
  refine va_newa (A := fun x => H4.size ≤ x) (H0 := H4) (atype := .long) (ty := .long) (a0 := (1, .inr (.inl fun _ => 0))) (N' := 1) hx hb (hts _ k542) rfl hK2 P_nil D_nil va_S.rf (fun _ h9 => h9) (fun _ => rfl) (by decide) (by decide) (by decide) (Nat.le_of_ble_eq_true rfl) (Nat.le_of_ble_eq_true rfl) dL_law_17 (fun qo cA H5 hK9 hPo hDo hSo => ?_)
  have hcL : cL = cA := cL_eq (i := 1) (j := 2) hK9 rfl rfl
  subst hcL
  have hqo : H4.size ≤ qo := hDo.2 0 _ rfl
  have hPo : va_P D CL (oW qo cL (fun _ => 0)) H5 := hPo
  have hk5 : ∀ x : Nat, x < H4.size → H5[x]? = H4[x]? := fun x h1 => hSo.2.1 x h1 (by omega)
  have hz5 := hSo.1
  have hP1 : va_P D CL (srZ h qb qt cI z0) H5 := fun k x hx => (hP1 k x hx).kept (hk5 x.1 (hP1 k x hx).lt)
  have hP2 : va_P D CL (moZ hm mb mt ma cI y0m) H5 := fun k x hx => (hP2 k x hx).kept (hk5 x.1 (hP2 k x hx).lt)
  have hS5 : va_S (fun x => s.heap.size ≤ x) s.heap H5 [] := ⟨by omega, fun x h1 h2 => by
    have g1 : x < H2.size := by have := hS1.1; omega
    rw [hk5 x (by omega), hk3 x g1]
    exact hS1.2.1 x h1 h2, fun x hx => by cases hx⟩
  refine lv_astore_n (lv' := [(3, .ref qo), (2, .ref hm), (1, .ref h), (0, .ref b)]) hx hb dL_law_19 rfl hl (by decide) rfl (fun ls hl => ?_)
  refine lv_iconst (v := 0) hx hb dL_law_20 (by decide) ?_
  refine lv_istore (lv' := [(4, .int 0), (3, .ref qo), (2, .ref hm), (1, .ref h), (0, .ref b)]) hx hb dL_law_21 hl (by decide) rfl (fun ls hl => ?_)
  have C : LC s D h qb qt hm mb mt ma qo cI cL H2.size H4.size tc ts tm q v q28 q39 := by
    refine ⟨⟨hd, hdm⟩, ⟨fun x hx => ?_, fun x hx => ?_, hqo, by omega, by omega⟩, hK2, hDD, hEE, h28, h39⟩
    · rcases hx with rfl | rfl | rfl <;> omega
    · rcases hx with rfl | rfl | rfl | rfl <;> omega
  refine W.widen (k := 8 + 0) (n := 20499 + 6 * 0) (by decide) (by decide) ?_
  exact law_loop htr S hr hlocks hX hbl hL C (L + 1) 0 H5 [] z0 y0m (fun _ => 0) ls ⟨⟨hP1, hP2, hPo⟩, Rel0, hS5⟩ (Nat.zero_le _) (by omega) (lv_sub hl [4, 3, 2, 1, 0] rfl)
