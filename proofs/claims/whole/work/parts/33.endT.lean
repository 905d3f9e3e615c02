/-! the law's end -/
abbrev oW (qo : Nat) (cL : ClassId) (f : Nat → Int64) : va_W := [(qo, .inl (cL, 1, .inr (.inl f)))]
theorem P_kept {D : va_G} {ws : va_W} {H H1 : Heap} {A : Nat → Prop} (hP : va_P D CL ws H) (hk : ∀ q : Nat, q < H.size → ¬ A q → H1[q]? = H[q]?) (hA : ∀ (k : Nat) (q : Nat × va_E), ws[k]? = some q → ¬ A q.1) : va_P D CL ws H1 := fun k q hq => (hP k q hq).kept (hk q.1 (hP k q hq).lt (hA k q hq))
theorem o_not {A : Nat → Prop} {qo : Nat} {cL : ClassId} {f : Nat → Int64} (h : ¬ A qo) : ∀ (k : Nat) (q : Nat × va_E), (oW qo cL f)[k]? = some q → ¬ A q.1 := fun k q hq => by
  match k, hq with
  | 0, hq => cases hq; exact h
  | k + 1, hq => simp at hq
def A3o (h qb qt qo : Nat) : Nat → Prop := fun q => A3 h qb qt q ∨ q = qo
theorem srDo {h qb qt qo : Nat} {cI cL : ClassId} {nb tl wy : Int32} {f g : Nat → Int32} {fo : Nat → Int64} (hd : ap3 h qb qt) (ho : ¬ A3 h qb qt qo) : va_D (A3o h qb qt qo) (srW h qb qt cI nb tl wy f g ++ oW qo cL fo) := by
  refine va_D.app ((srD hd).weaken (fun k q _ h9 => Or.inl h9)) (d1 (Or.inr rfl)) ?_
  intro i j p q hi hj he
  have h1 := (srD (cI := cI) (nb := nb) (tl := tl) (wy := wy) (f := f) (g := g) hd).2 i p hi
  match j, hj with
  | 0, hj => cases hj; exact ho ((show p.1 = qo from he) ▸ h1)
  | j + 1, hj => simp at hj
def xG (D : va_G) (h qb qt : Nat) (cI : ClassId) (z : SS) (q qo : Nat) (cL : ClassId) (f : Nat → Int64) : State → Heap → Prop := fun U H => xF D h qb qt cI z 39 tx39 q U H ∧ va_P D CL (oW qo cL f) H ∧ va_K D CL [(cI, .int), (cL, .long)] U
theorem xG_ok {D : va_G} {h qb qt : Nat} {cI : ClassId} {z : SS} {q qo : Nat} {cL : ClassId} {f : Nat → Int64} : okX (xG D h qb qt cI z q qo cL f) := fun s U H hW x => ⟨xF_ok s U H hW x.1, x.2.1, va_K.moved hW.alike x.2.2⟩
set_option maxHeartbeats 4000000 in
set_option maxRecDepth 100000 in
theorem cL_end (l : Launch) (htr : l.stackTraces = false) (D : va_G) (h qb qt : Nat) (cI : ClassId) (z : SS) (q qo : Nat) (cL : ClassId) (f : Nat → Int64) (i : Int32) (hd : ap3 h qb qt) (hz : okZ z) (ho : ¬ A3 h qb qt qo) : Met l yL_end TB { frames := 7, cells := 1, slots := 6, locals := 104 } (gx (xG D h qb qt cI z q qo cL f) [.ref h, .int i, .ref qo])
    (mQ (some (.int (if eOk z i = true then 0 else 1))) D (srZ h qb qt cI (if eOk z i = true then zEnd z i else z) ++ oW qo cL (if eOk z i = true then vp_updL f 0 (nI z.1).toInt64 else f)) (A3o h qb qt qo)) 1 6 (A3o h qb qt qo) := by
  refine mw_of (by decide) k363 ?_
  intro p e s m args below meth cd S htab hr hk hv
  obtain ⟨rfl, hX, hPo, hK2⟩ := hv
  have hP : va_P D CL (srZ h qb qt cI z) s.heap := hX.1.1
  have hK := hX.1.2
  have hx := S.1
  have hb := S.2.1
  have hown := S.2.2.2.1
  have hts := S.2.2.2.2
  have hS : va_S (A3o h qb qt qo) s.heap s.heap [] := va_S.rf
  have hl := lv_entry ([.ref h, .int i, .ref qo]) (n := 4) (Nat.le_of_ble_eq_true rfl)
  rw [lg_entry_eq]
  generalize (lg_sl ([.ref h, .int i, .ref qo]) ++ List.replicate (4 - (lg_sl ([.ref h, .int i, .ref qo])).length) Slot.unset).toArray = ls at hl ⊢
  have hl : lv_has ls 4 [(0, .ref h), (1, .int i), (2, .ref qo)] := hl
  refine lv_aload_n hx hb dL_end_0 rfl (lv_at hl 2 rfl) ?_
  refine lv_iconst (v := 0) hx hb dL_end_1 (by decide) ?_
  refine lv_aload_n hx hb dL_end_2 rfl (lv_at hl 0 rfl) ?_
  refine lv_iload_n hx hb dL_end_3 rfl (lv_at hl 1 rfl) ?_
  by_cases hn : eOk z i = true
  · simp only [hn, ↓reduceIte]
    refine lw_V (As := [.int i]) (rest := [.int 0, .ref qo]) (n := 1) (C := "SignReader") S (cS_end l D h qb qt cI z i hd hz hn) k368 k1 k366 k367 (by decide +kernel) ⟨rfl, rfl⟩ k365 (by decide) (xW_V ⟨hP, hK⟩) rfl rfl hl.1 (Nat.le_of_ble_eq_true rfl) ⟨Nat.zero_le _, Nat.zero_le _⟩ dL_end_4 hS (fun _ h9 => Or.inl h9) (fun H locs hP hz1 hkp hS => ?_)
    have hPo1 : va_P D CL (oW qo cL f) H := P_kept hPo hkp (o_not ho)
    have hPP : va_P D CL (srZ h qb qt cI (zEnd z i) ++ oW qo cL f) H := va_P.app hP hPo1
    refine lv_i2l (v := (nI z.1).toInt64) hx hb dL_end_7 rfl ?_
    refine va_last (i := 0) hx hb hK2 hPP (srDo hd ho) hS 3 1 rfl rfl (by unfold vp_in; decide) dL_end_8 (fun H locs hP _ hS => ?_)
    refine lv_goto (tgt := 15) hx hb dL_end_9 (by decide) ?_
    refine lv_iconst (v := 0) hx hb dL_end_15 (by decide) ?_
    refine W.widen (k := 1) (n := 6) (Nat.zero_le _) (Nat.zero_le _) ?_
    exact W.iret hx hb hr (fun t ht _ => ⟨rfl, by rw [ht]; exact hP, hS.F ht⟩) hS.2.2 dL_end_16 hk
  · simp only [hn, ↓reduceIte]
    obtain ⟨xe, he, ⟨he1, he2⟩, he3, he4⟩ := one_entry htab
    refine th_V (As := [.int i]) (rest := [.int 0, .ref qo]) (n := 1) (C := "SignReader") (cls := "java/lang/IllegalArgumentException") S (tS_end l htr D h qb qt cI z q i hz hn) k368 k366 k367 k1 (by decide +kernel) ⟨rfl, rfl⟩ k365 (by decide) (xF_V hX) rfl rfl hl.1 (Nat.le_of_ble_eq_true rfl) ⟨Nat.le_refl _, Nat.le_refl _⟩ dL_end_4 he (by simp only [covers, he1, he2]; decide) (by rw [he4]; decide) (by rw [he4]; exact k364) (fun x H1 hz1 hold => ?_)
    rw [he3]
    refine lv_astore_n (lv' := [(3, .ref x), (0, .ref h), (1, .int i), (2, .ref qo)]) hx hb dL_end_12 rfl hl (by decide) rfl (fun ls hl => ?_)
    refine lv_iconst (v := 1) hx hb dL_end_13 (by decide) ?_
    have hP1 : va_P D CL (srZ h qb qt cI z ++ oW qo cL f) H1 := fun k q hq => ((va_P.app hP hPo) k q hq).kept (hold q.1 ((va_P.app hP hPo) k q hq).lt)
    exact W.iret hx hb hr (fun t ht _ => ⟨rfl, by rw [ht]; exact hP1, ⟨by rw [ht]; exact hz1, fun q h1 _ => by rw [ht]; exact hold q h1⟩⟩) (fun q hq => by cases hq) dL_end_14 hk
