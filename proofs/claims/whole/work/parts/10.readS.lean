/-! the class: methods that read its object -/
abbrev srW (h qb qt : Nat) (cI : ClassId) (nb tl wy : Int32) (f g : Nat → Int32) : va_W := [(h, .inr (0, [.ref qb, .ref qt, .int nb, .int tl, .int wy])), (qb, .inl (cI, 4096, .inl f)), (qt, .inl (cI, 4096, .inl g))]
def xW (D : va_G) (h qb qt : Nat) (cI : ClassId) (n tl : Nat) (wy : Int32) (f g : Nat → Int32) : State → Heap → Prop := fun U H => va_P D CL (srW h qb qt cI (nI n) (nI tl) wy f g) H ∧ va_K D CL [(cI, .int)] U
theorem xW_ok {D : va_G} {h qb qt : Nat} {cI : ClassId} {n tl : Nat} {wy : Int32} {f g : Nat → Int32} : okX (xW D h qb qt cI n tl wy f g) := fun s U H hW q => ⟨q.1, va_K.moved hW.alike q.2⟩
theorem xW_V {D : va_G} {h qb qt : Nat} {cI : ClassId} {n tl : Nat} {wy : Int32} {f g : Nat → Int32} {s : State} {H : Heap} {As : List Value} (q : xW D h qb qt cI n tl wy f g s H) : PreV s H "SignReader" h (gx (xW D h qb qt cI n tl wy f g) (.ref h :: As)) As :=
  gx_V xW_ok q (va_recv q.2 q.1 (ci := 0) (q0 := 0) (q := ("SignReader", T_S, 5)) rfl rfl)
def sHas (n : Nat) (i : Int32) : Bool := decide (0 ≤ i) && !decide (nI n ≤ i)
theorem sHas_iff {n : Nat} {i : Int32} (hn : n < 2 ^ 31) : sHas n i = true ↔ ∃ j : Nat, j < n ∧ i = nI j := by
  constructor
  · intro h
    simp only [sHas, Bool.and_eq_true, decide_eq_true_eq, Bool.not_eq_true', decide_eq_false_iff_not] at h
    rcases pk_ix i hn with q | q | q
    · exact absurd h.1 (Int32.not_le.mpr q)
    · exact absurd q h.2
    · exact q
  · rintro ⟨j, hj, rfl⟩
    simp only [sHas, Bool.and_eq_true, decide_eq_true_eq, Bool.not_eq_true', decide_eq_false_iff_not]
    exact ⟨nI_pos' (by omega), nI_ge hj hn⟩
theorem sHas_in {n : Nat} {i : Int32} (hn : n ≤ 4096) (h : sHas n i = true) : vp_in i 4096 := by
  obtain ⟨j, hj, rfl⟩ := (sHas_iff (by omega)).mp h
  exact vp_in_nI (by omega) (by omega)
def sCame (f : Nat → Int32) (n : Nat) (i : Int32) : Int32 := if sHas n i = true then f i.toNatClampNeg else -1
set_option maxHeartbeats 4000000 in
set_option maxRecDepth 100000 in
theorem cS_hasByte (l : Launch) (D : va_G) (h qb qt : Nat) (cI : ClassId) (n tl : Nat) (wy : Int32) (f g : Nat → Int32) (hn : n ≤ 4096) (ht : tl ≤ 4096) (i : Int32) : Met l yS_hasByte (Cond.code yS_hasByte prog_1_method_14_code 2 (some .boolean) :: TB) { frames := 0, cells := 0, slots := 0, locals := 0 } (gx (xW D h qb qt cI n tl wy f g) [.ref h, .int i]) (QcRead (bI (sHas n i))) 0 0 (fun _ => False) := by
  refine mt_of (by decide) ?_
  intro p e s m args below meth cd S hr hk hin hv
  obtain ⟨rfl, hX⟩ := hv
  have hP := hX.1
  have hK := hX.2
  have hx := S.1
  have hb := S.2.1
  have hown := S.2.2.2.1
  have hts := S.2.2.2.2
  have hl := lv_entry ([.ref h, .int i]) (n := 2) (Nat.le_of_ble_eq_true rfl)
  rw [lg_entry_eq]
  generalize (lg_sl ([.ref h, .int i]) ++ List.replicate (2 - (lg_sl ([.ref h, .int i])).length) Slot.unset).toArray = ls at hl ⊢
  have hl : lv_has ls 2 [(0, .ref h), (1, .int i)] := hl
  refine lv_iload_n hx hb dS_hasByte_0 rfl (lv_at hl 1 rfl) ?_
  refine lv_if_lt (tgt := 16) hx hb dS_hasByte_1 (by decide) (fun c1 => ?_) (fun c1 => ?_)
  · skip
    replace c1 := Int32.not_le.mpr c1
    refine lv_iconst (v := 0) hx hb dS_hasByte_16 (by decide) ?_
    exact ro_retZ S hr hk (by rfl) (by simp [sHas, bI, c1]) dS_hasByte_17
  · skip
    replace c1 := Int32.not_lt.mp c1
    refine lv_iload_n hx hb dS_hasByte_4 rfl (lv_at hl 1 rfl) ?_
    refine lv_aload_n hx hb dS_hasByte_5 rfl (lv_at hl 0 rfl) ?_
    refine va_get (D := D) (ci := 0) (v := .int (nI n)) (C := "SignReader") (T := T_S) (N := 5) hx hb hts i_S hown hK hP 0 rfl rfl 2 (by decide) (hts _ k24) (fun _ h9 => h9) rfl dS_hasByte_6 ?_
    refine lv_icmp_ge (tgt := 16) hx hb dS_hasByte_9 (by decide) (fun c2 => ?_) (fun c2 => ?_)
    · skip
      refine lv_iconst (v := 0) hx hb dS_hasByte_16 (by decide) ?_
      exact ro_retZ S hr hk (by rfl) (by simp [sHas, bI, c1, c2]) dS_hasByte_17
    · skip
      refine lv_iconst (v := 1) hx hb dS_hasByte_12 (by decide) ?_
      refine lv_goto (tgt := 17) hx hb dS_hasByte_13 (by decide) ?_
      exact ro_retZ S hr hk (by rfl) (by simp [sHas, bI, c1, c2]) dS_hasByte_17
set_option maxHeartbeats 4000000 in
set_option maxRecDepth 100000 in
theorem cS_came (l : Launch) (D : va_G) (h qb qt : Nat) (cI : ClassId) (n tl : Nat) (wy : Int32) (f g : Nat → Int32) (hn : n ≤ 4096) (ht : tl ≤ 4096) (i : Int32) : Met l yS_came (Cond.code yS_came prog_1_method_5_code 2 (some .int) :: TB) { frames := 1, cells := 0, slots := 0, locals := 21 } (gx (xW D h qb qt cI n tl wy f g) [.ref h, .int i]) (QcRead (sCame f n i)) 0 0 (fun _ => False) := by
  refine mt_of (by decide) ?_
  intro p e s m args below meth cd S hr hk hin hv
  obtain ⟨rfl, hX⟩ := hv
  have hP := hX.1
  have hK := hX.2
  have hx := S.1
  have hb := S.2.1
  have hown := S.2.2.2.1
  have hts := S.2.2.2.2
  have hl := lv_entry ([.ref h, .int i]) (n := 2) (Nat.le_of_ble_eq_true rfl)
  rw [lg_entry_eq]
  generalize (lg_sl ([.ref h, .int i]) ++ List.replicate (2 - (lg_sl ([.ref h, .int i])).length) Slot.unset).toArray = ls at hl ⊢
  have hl : lv_has ls 2 [(0, .ref h), (1, .int i)] := hl
  refine lv_aload_n hx hb dS_came_0 rfl (lv_at hl 0 rfl) ?_
  refine lv_iload_n hx hb dS_came_1 rfl (lv_at hl 1 rfl) ?_
  refine ro_V (r := (bI (sHas n i))) (As := [.int i]) (rest := []) (n := 1) (C := "SignReader") S (cS_hasByte l D h qb qt cI n tl wy f g hn ht (i)) k46 k1 k45 ks0 (by decide +kernel) ⟨rfl, rfl⟩ k43 (by decide) (xW_V hX) rfl rfl hl.1 (Nat.le_of_ble_eq_true rfl) ⟨Nat.le_refl _, Nat.le_refl _⟩ dS_came_2 ?_
  refine lv_if_eq (tgt := 17) hx hb dS_came_5 (by decide) (fun c1 => ?_) (fun c1 => ?_)
  · skip
    replace c1 := bI_f c1
    refine lv_iconst (v := (-1)) hx hb dS_came_17 (by decide) ?_
    exact ro_ret S hr hk (by simp [sCame, c1]) dS_came_18
  · skip
    replace c1 := bI_t c1
    refine lv_aload_n hx hb dS_came_8 rfl (lv_at hl 0 rfl) ?_
    refine va_get (D := D) (ci := 0) (v := .ref qb) (C := "SignReader") (T := T_S) (N := 5) hx hb hts i_S hown hK hP 0 rfl rfl 0 (by decide) (hts _ k22) (fun _ h9 => h9) rfl dS_came_9 ?_
    refine lv_iload_n hx hb dS_came_12 rfl (lv_at hl 1 rfl) ?_
    refine va_iald hx hb hK hP 1 0 rfl rfl (sHas_in hn c1) dS_came_13 ?_
    refine lv_goto (tgt := 18) hx hb dS_came_14 (by decide) ?_
    exact ro_ret S hr hk (by simp [sCame, c1]) dS_came_18
set_option maxHeartbeats 4000000 in
set_option maxRecDepth 100000 in
theorem cS_hasSign (l : Launch) (D : va_G) (h qb qt : Nat) (cI : ClassId) (n tl : Nat) (wy : Int32) (f g : Nat → Int32) (hn : n ≤ 4096) (ht : tl ≤ 4096) (i : Int32) : Met l yS_hasSign (Cond.code yS_hasSign prog_1_method_15_code 2 (some .boolean) :: TB) { frames := 0, cells := 0, slots := 0, locals := 0 } (gx (xW D h qb qt cI n tl wy f g) [.ref h, .int i]) (QcRead (bI (sHas tl i))) 0 0 (fun _ => False) := by
  refine mt_of (by decide) ?_
  intro p e s m args below meth cd S hr hk hin hv
  obtain ⟨rfl, hX⟩ := hv
  have hP := hX.1
  have hK := hX.2
  have hx := S.1
  have hb := S.2.1
  have hown := S.2.2.2.1
  have hts := S.2.2.2.2
  have hl := lv_entry ([.ref h, .int i]) (n := 2) (Nat.le_of_ble_eq_true rfl)
  rw [lg_entry_eq]
  generalize (lg_sl ([.ref h, .int i]) ++ List.replicate (2 - (lg_sl ([.ref h, .int i])).length) Slot.unset).toArray = ls at hl ⊢
  have hl : lv_has ls 2 [(0, .ref h), (1, .int i)] := hl
  refine lv_iload_n hx hb dS_hasSign_0 rfl (lv_at hl 1 rfl) ?_
  refine lv_if_lt (tgt := 16) hx hb dS_hasSign_1 (by decide) (fun c1 => ?_) (fun c1 => ?_)
  · skip
    replace c1 := Int32.not_le.mpr c1
    refine lv_iconst (v := 0) hx hb dS_hasSign_16 (by decide) ?_
    exact ro_retZ S hr hk (by rfl) (by simp [sHas, bI, c1]) dS_hasSign_17
  · skip
    replace c1 := Int32.not_lt.mp c1
    refine lv_iload_n hx hb dS_hasSign_4 rfl (lv_at hl 1 rfl) ?_
    refine lv_aload_n hx hb dS_hasSign_5 rfl (lv_at hl 0 rfl) ?_
    refine va_get (D := D) (ci := 0) (v := .int (nI tl)) (C := "SignReader") (T := T_S) (N := 5) hx hb hts i_S hown hK hP 0 rfl rfl 3 (by decide) (hts _ k25) (fun _ h9 => h9) rfl dS_hasSign_6 ?_
    refine lv_icmp_ge (tgt := 16) hx hb dS_hasSign_9 (by decide) (fun c2 => ?_) (fun c2 => ?_)
    · skip
      refine lv_iconst (v := 0) hx hb dS_hasSign_16 (by decide) ?_
      exact ro_retZ S hr hk (by rfl) (by simp [sHas, bI, c1, c2]) dS_hasSign_17
    · skip
      refine lv_iconst (v := 1) hx hb dS_hasSign_12 (by decide) ?_
      refine lv_goto (tgt := 17) hx hb dS_hasSign_13 (by decide) ?_
      exact ro_retZ S hr hk (by rfl) (by simp [sHas, bI, c1, c2]) dS_hasSign_17
set_option maxHeartbeats 4000000 in
set_option maxRecDepth 100000 in
theorem cS_sign (l : Launch) (D : va_G) (h qb qt : Nat) (cI : ClassId) (n tl : Nat) (wy : Int32) (f g : Nat → Int32) (hn : n ≤ 4096) (ht : tl ≤ 4096) (i : Int32) : Met l yS_sign (Cond.code yS_sign prog_1_method_8_code 2 (some .int) :: TB) { frames := 1, cells := 0, slots := 0, locals := 21 } (gx (xW D h qb qt cI n tl wy f g) [.ref h, .int i]) (QcRead (sCame g tl i)) 0 0 (fun _ => False) := by
  refine mt_of (by decide) ?_
  intro p e s m args below meth cd S hr hk hin hv
  obtain ⟨rfl, hX⟩ := hv
  have hP := hX.1
  have hK := hX.2
  have hx := S.1
  have hb := S.2.1
  have hown := S.2.2.2.1
  have hts := S.2.2.2.2
  have hl := lv_entry ([.ref h, .int i]) (n := 2) (Nat.le_of_ble_eq_true rfl)
  rw [lg_entry_eq]
  generalize (lg_sl ([.ref h, .int i]) ++ List.replicate (2 - (lg_sl ([.ref h, .int i])).length) Slot.unset).toArray = ls at hl ⊢
  have hl : lv_has ls 2 [(0, .ref h), (1, .int i)] := hl
  refine lv_aload_n hx hb dS_sign_0 rfl (lv_at hl 0 rfl) ?_
  refine lv_iload_n hx hb dS_sign_1 rfl (lv_at hl 1 rfl) ?_
  refine ro_V (r := (bI (sHas tl i))) (As := [.int i]) (rest := []) (n := 1) (C := "SignReader") S (cS_hasSign l D h qb qt cI n tl wy f g hn ht (i)) k131 k1 k130 ks9 (by decide +kernel) ⟨rfl, rfl⟩ k128 (by decide) (xW_V hX) rfl rfl hl.1 (Nat.le_of_ble_eq_true rfl) ⟨Nat.le_refl _, Nat.le_refl _⟩ dS_sign_2 ?_
  refine lv_if_eq (tgt := 17) hx hb dS_sign_5 (by decide) (fun c1 => ?_) (fun c1 => ?_)
  · skip
    replace c1 := bI_f c1
    refine lv_iconst (v := (-1)) hx hb dS_sign_17 (by decide) ?_
    exact ro_ret S hr hk (by simp [sCame, c1]) dS_sign_18
  · skip
    replace c1 := bI_t c1
    refine lv_aload_n hx hb dS_sign_8 rfl (lv_at hl 0 rfl) ?_
    refine va_get (D := D) (ci := 0) (v := .ref qt) (C := "SignReader") (T := T_S) (N := 5) hx hb hts i_S hown hK hP 0 rfl rfl 1 (by decide) (hts _ k23) (fun _ h9 => h9) rfl dS_sign_9 ?_
    refine lv_iload_n hx hb dS_sign_12 rfl (lv_at hl 1 rfl) ?_
    refine va_iald hx hb hK hP 2 0 rfl rfl (sHas_in ht c1) dS_sign_13 ?_
    refine lv_goto (tgt := 18) hx hb dS_sign_14 (by decide) ?_
    exact ro_ret S hr hk (by simp [sCame, c1]) dS_sign_18
set_option maxHeartbeats 4000000 in
set_option maxRecDepth 100000 in
theorem cS_length (l : Launch) (D : va_G) (h qb qt : Nat) (cI : ClassId) (n tl : Nat) (wy : Int32) (f g : Nat → Int32) (hn : n ≤ 4096) (ht : tl ≤ 4096) : Met l yS_length (Cond.code yS_length prog_1_method_7_code 1 (some .int) :: TB) { frames := 0, cells := 0, slots := 0, locals := 0 } (gx (xW D h qb qt cI n tl wy f g) [.ref h]) (QcRead (nI tl)) 0 0 (fun _ => False) := by
  refine mt_of (by decide) ?_
  intro p e s m args below meth cd S hr hk hin hv
  obtain ⟨rfl, hX⟩ := hv
  have hP := hX.1
  have hK := hX.2
  have hx := S.1
  have hb := S.2.1
  have hown := S.2.2.2.1
  have hts := S.2.2.2.2
  have hl := lv_entry ([.ref h]) (n := 1) (Nat.le_of_ble_eq_true rfl)
  rw [lg_entry_eq]
  generalize (lg_sl ([.ref h]) ++ List.replicate (1 - (lg_sl ([.ref h])).length) Slot.unset).toArray = ls at hl ⊢
  have hl : lv_has ls 1 [(0, .ref h)] := hl
  refine lv_aload_n hx hb dS_length_0 rfl (lv_at hl 0 rfl) ?_
  refine va_get (D := D) (ci := 0) (v := .int (nI tl)) (C := "SignReader") (T := T_S) (N := 5) hx hb hts i_S hown hK hP 0 rfl rfl 3 (by decide) (hts _ k25) (fun _ h9 => h9) rfl dS_length_1 ?_
  exact ro_ret S hr hk (rfl) dS_length_4
set_option maxHeartbeats 4000000 in
set_option maxRecDepth 100000 in
theorem cS_way (l : Launch) (D : va_G) (h qb qt : Nat) (cI : ClassId) (n tl : Nat) (wy : Int32) (f g : Nat → Int32) (hn : n ≤ 4096) (ht : tl ≤ 4096) : Met l yS_way (Cond.code yS_way prog_1_method_9_code 1 (some .int) :: TB) { frames := 0, cells := 0, slots := 0, locals := 0 } (gx (xW D h qb qt cI n tl wy f g) [.ref h]) (QcRead (wy)) 0 0 (fun _ => False) := by
  refine mt_of (by decide) ?_
  intro p e s m args below meth cd S hr hk hin hv
  obtain ⟨rfl, hX⟩ := hv
  have hP := hX.1
  have hK := hX.2
  have hx := S.1
  have hb := S.2.1
  have hown := S.2.2.2.1
  have hts := S.2.2.2.2
  have hl := lv_entry ([.ref h]) (n := 1) (Nat.le_of_ble_eq_true rfl)
  rw [lg_entry_eq]
  generalize (lg_sl ([.ref h]) ++ List.replicate (1 - (lg_sl ([.ref h])).length) Slot.unset).toArray = ls at hl ⊢
  have hl : lv_has ls 1 [(0, .ref h)] := hl
  refine lv_aload_n hx hb dS_way_0 rfl (lv_at hl 0 rfl) ?_
  refine va_get (D := D) (ci := 0) (v := .int wy) (C := "SignReader") (T := T_S) (N := 5) hx hb hts i_S hown hK hP 0 rfl rfl 4 (by decide) (hts _ k26) (fun _ h9 => h9) rfl dS_way_1 ?_
  exact ro_ret S hr hk (rfl) dS_way_4
def sPair (f : Nat → Int32) (n : Nat) (i w : Int32) : Int32 := if sCame f n i = -1 then -1 else if sCame f n (i + 1) = -1 then -1 else if w = 1 then sCame f n i * 256 + sCame f n (i + 1) else sCame f n (i + 1) * 256 + sCame f n i
set_option maxHeartbeats 4000000 in
set_option maxRecDepth 100000 in
theorem cS_pairAt (l : Launch) (D : va_G) (h qb qt : Nat) (cI : ClassId) (n tl : Nat) (wy : Int32) (f g : Nat → Int32) (hn : n ≤ 4096) (ht : tl ≤ 4096) (i w : Int32) : Met l yS_pairAt (Cond.code yS_pairAt prog_1_method_24_code 5 (some .int) :: TB) { frames := 2, cells := 0, slots := 0, locals := 42 } (gx (xW D h qb qt cI n tl wy f g) [.ref h, .int i, .int w]) (QcRead (sPair f n i w)) 0 0 (fun _ => False) := by
  refine mt_of (by decide) ?_
  intro p e s m args below meth cd S hr hk hin hv
  obtain ⟨rfl, hX⟩ := hv
  have hP := hX.1
  have hK := hX.2
  have hx := S.1
  have hb := S.2.1
  have hown := S.2.2.2.1
  have hts := S.2.2.2.2
  have hl := lv_entry ([.ref h, .int i, .int w]) (n := 5) (Nat.le_of_ble_eq_true rfl)
  rw [lg_entry_eq]
  generalize (lg_sl ([.ref h, .int i, .int w]) ++ List.replicate (5 - (lg_sl ([.ref h, .int i, .int w])).length) Slot.unset).toArray = ls at hl ⊢
  have hl : lv_has ls 5 [(0, .ref h), (1, .int i), (2, .int w)] := hl
  refine lv_aload_n hx hb dS_pairAt_0 rfl (lv_at hl 0 rfl) ?_
  refine lv_iload_n hx hb dS_pairAt_1 rfl (lv_at hl 1 rfl) ?_
  refine ro_V (r := (sCame f n i)) (As := [.int i]) (rest := []) (n := 1) (C := "SignReader") S (cS_came l D h qb qt cI n tl wy f g hn ht (i)) k50 k1 k48 k49 (by decide +kernel) ⟨rfl, rfl⟩ k74 (by decide) (xW_V hX) rfl rfl hl.1 (Nat.le_of_ble_eq_true rfl) ⟨Nat.le_refl _, Nat.le_refl _⟩ dS_pairAt_2 ?_
  refine lv_istore_n (lv' := [(3, .int (sCame f n i)), (0, .ref h), (1, .int i), (2, .int w)]) hx hb dS_pairAt_5 rfl hl (by decide) rfl (fun ls hl => ?_)
  refine lv_aload_n hx hb dS_pairAt_6 rfl (lv_at hl 1 rfl) ?_
  refine lv_iload_n hx hb dS_pairAt_7 rfl (lv_at hl 2 rfl) ?_
  refine lv_iconst (v := 1) hx hb dS_pairAt_8 (by decide) ?_
  refine lv_iadd hx hb dS_pairAt_9 ?_
  refine ro_V (r := (sCame f n ((i + 1)))) (As := [.int (i + 1)]) (rest := []) (n := 1) (C := "SignReader") S (cS_came l D h qb qt cI n tl wy f g hn ht ((i + 1))) k50 k1 k48 k49 (by decide +kernel) ⟨rfl, rfl⟩ k74 (by decide) (xW_V hX) rfl rfl hl.1 (Nat.le_of_ble_eq_true rfl) ⟨Nat.le_refl _, Nat.le_refl _⟩ dS_pairAt_10 ?_
  refine lv_istore (lv' := [(4, .int (sCame f n ((i + 1)))), (3, .int (sCame f n i)), (0, .ref h), (1, .int i), (2, .int w)]) hx hb dS_pairAt_13 hl (by decide) rfl (fun ls hl => ?_)
  refine lv_iload_n hx hb dS_pairAt_15 rfl (lv_at hl 1 rfl) ?_
  refine lv_iconst (v := (-1)) hx hb dS_pairAt_16 (by decide) ?_
  refine lv_icmp_eq (tgt := 26) hx hb dS_pairAt_17 (by decide) (fun c1 => ?_) (fun c1 => ?_)
  · skip
    refine lv_iconst (v := (-1)) hx hb dS_pairAt_26 (by decide) ?_
    exact ro_ret S hr hk (by simp [sPair, c1]) dS_pairAt_27
  · skip
    refine lv_iload hx hb dS_pairAt_20 (lv_at hl 0 rfl) ?_
    refine lv_iconst (v := (-1)) hx hb dS_pairAt_22 (by decide) ?_
    refine lv_icmp_ne (tgt := 28) hx hb dS_pairAt_23 (by decide) (fun c2 => ?_) (fun c2 => ?_)
    · skip
      refine lv_iload_n hx hb dS_pairAt_28 rfl (lv_at hl 4 rfl) ?_
      refine lv_iconst (v := 1) hx hb dS_pairAt_29 (by decide) ?_
      refine lv_icmp_ne (tgt := 44) hx hb dS_pairAt_30 (by decide) (fun c3 => ?_) (fun c3 => ?_)
      · skip
        refine lv_iload hx hb dS_pairAt_44 (lv_at hl 0 rfl) ?_
        refine lv_sipush (v := 256) hx hb dS_pairAt_46 (by decide) ?_
        refine lv_imul hx hb dS_pairAt_49 ?_
        refine lv_iload_n hx hb dS_pairAt_50 rfl (lv_at hl 1 rfl) ?_
        refine lv_iadd hx hb dS_pairAt_51 ?_
        exact ro_ret S hr hk (by simp [sPair, c1, c2, c3]) dS_pairAt_52
      · skip
        refine lv_iload_n hx hb dS_pairAt_33 rfl (lv_at hl 1 rfl) ?_
        refine lv_sipush (v := 256) hx hb dS_pairAt_34 (by decide) ?_
        refine lv_imul hx hb dS_pairAt_37 ?_
        refine lv_iload hx hb dS_pairAt_38 (lv_at hl 0 rfl) ?_
        refine lv_iadd hx hb dS_pairAt_40 ?_
        refine lv_goto (tgt := 52) hx hb dS_pairAt_41 (by decide) ?_
        exact ro_ret S hr hk (by simp [sPair, c1, c2, c3]) dS_pairAt_52
    · skip
      refine lv_iconst (v := (-1)) hx hb dS_pairAt_26 (by decide) ?_
      exact ro_ret S hr hk (by simp [sPair, c1, c2]) dS_pairAt_27
def sN16 (f : Nat → Int32) (n : Nat) (i w : Int32) : Int32 := if 55296 ≤ sPair f n i w then (if sPair f n i w ≤ 56319 then (if 56320 ≤ sPair f n (i + 2) w then (if sPair f n (i + 2) w ≤ 57343 then 65536 + 1024 * (sPair f n i w - 55296) + (sPair f n (i + 2) w - 56320) else sPair f n i w) else sPair f n i w) else sPair f n i w) else sPair f n i w
set_option maxHeartbeats 4000000 in
set_option maxRecDepth 100000 in
theorem cS_numberOf16Bits (l : Launch) (D : va_G) (h qb qt : Nat) (cI : ClassId) (n tl : Nat) (wy : Int32) (f g : Nat → Int32) (hn : n ≤ 4096) (ht : tl ≤ 4096) (i w : Int32) : Met l yS_numberOf16Bits (Cond.code yS_numberOf16Bits prog_1_method_23_code 5 (some .int) :: TB) { frames := 3, cells := 0, slots := 0, locals := 66 } (gx (xW D h qb qt cI n tl wy f g) [.ref h, .int i, .int w]) (QcRead (sN16 f n i w)) 0 0 (fun _ => False) := by
  refine mt_of (by decide) ?_
  intro p e s m args below meth cd S hr hk hin hv
  obtain ⟨rfl, hX⟩ := hv
  have hP := hX.1
  have hK := hX.2
  have hx := S.1
  have hb := S.2.1
  have hown := S.2.2.2.1
  have hts := S.2.2.2.2
  have hl := lv_entry ([.ref h, .int i, .int w]) (n := 5) (Nat.le_of_ble_eq_true rfl)
  rw [lg_entry_eq]
  generalize (lg_sl ([.ref h, .int i, .int w]) ++ List.replicate (5 - (lg_sl ([.ref h, .int i, .int w])).length) Slot.unset).toArray = ls at hl ⊢
  have hl : lv_has ls 5 [(0, .ref h), (1, .int i), (2, .int w)] := hl
  refine lv_aload_n hx hb dS_numberOf16Bits_0 rfl (lv_at hl 0 rfl) ?_
  refine lv_iload_n hx hb dS_numberOf16Bits_1 rfl (lv_at hl 1 rfl) ?_
  refine lv_iload_n hx hb dS_numberOf16Bits_2 rfl (lv_at hl 2 rfl) ?_
  refine ro_V (r := (sPair f n i w)) (As := [.int i, .int w]) (rest := []) (n := 2) (C := "SignReader") S (cS_pairAt l D h qb qt cI n tl wy f g hn ht (i) (w)) k73 k1 k72 ks4 (by decide +kernel) ⟨rfl, rfl⟩ k70 (by decide) (xW_V hX) rfl rfl hl.1 (Nat.le_of_ble_eq_true rfl) ⟨Nat.le_refl _, Nat.le_refl _⟩ dS_numberOf16Bits_3 ?_
  refine lv_istore_n (lv' := [(3, .int (sPair f n i w)), (0, .ref h), (1, .int i), (2, .int w)]) hx hb dS_numberOf16Bits_6 rfl hl (by decide) rfl (fun ls hl => ?_)
  refine lv_iload_n hx hb dS_numberOf16Bits_7 rfl (lv_at hl 0 rfl) ?_
  refine lv_ldc (v := 55296) hx hb hown (hts _ k75) dS_numberOf16Bits_8 ?_
  refine lv_icmp_lt (tgt := 19) hx hb dS_numberOf16Bits_10 (by decide) (fun c1 => ?_) (fun c1 => ?_)
  · skip
    replace c1 := Int32.not_le.mpr c1
    refine lv_iload_n hx hb dS_numberOf16Bits_19 rfl (lv_at hl 0 rfl) ?_
    exact ro_ret S hr hk (by simp only [sN16, c1, ↓reduceIte]) dS_numberOf16Bits_20
  · skip
    replace c1 := Int32.not_lt.mp c1
    refine lv_iload_n hx hb dS_numberOf16Bits_13 rfl (lv_at hl 0 rfl) ?_
    refine lv_ldc (v := 56319) hx hb hown (hts _ k76) dS_numberOf16Bits_14 ?_
    refine lv_icmp_le (tgt := 21) hx hb dS_numberOf16Bits_16 (by decide) (fun c2 => ?_) (fun c2 => ?_)
    · skip
      refine lv_aload_n hx hb dS_numberOf16Bits_21 rfl (lv_at hl 1 rfl) ?_
      refine lv_iload_n hx hb dS_numberOf16Bits_22 rfl (lv_at hl 2 rfl) ?_
      refine lv_iconst (v := 2) hx hb dS_numberOf16Bits_23 (by decide) ?_
      refine lv_iadd hx hb dS_numberOf16Bits_24 ?_
      refine lv_iload_n hx hb dS_numberOf16Bits_25 rfl (lv_at hl 3 rfl) ?_
      refine ro_V (r := (sPair f n ((i + 2)) w)) (As := [.int (i + 2), .int w]) (rest := []) (n := 2) (C := "SignReader") S (cS_pairAt l D h qb qt cI n tl wy f g hn ht ((i + 2)) (w)) k73 k1 k72 ks4 (by decide +kernel) ⟨rfl, rfl⟩ k70 (by decide) (xW_V hX) rfl rfl hl.1 (Nat.le_of_ble_eq_true rfl) ⟨Nat.le_refl _, Nat.le_refl _⟩ dS_numberOf16Bits_26 ?_
      refine lv_istore (lv' := [(4, .int (sPair f n ((i + 2)) w)), (3, .int (sPair f n i w)), (0, .ref h), (1, .int i), (2, .int w)]) hx hb dS_numberOf16Bits_29 hl (by decide) rfl (fun ls hl => ?_)
      refine lv_iload hx hb dS_numberOf16Bits_31 (lv_at hl 0 rfl) ?_
      refine lv_ldc (v := 56320) hx hb hown (hts _ k77) dS_numberOf16Bits_33 ?_
      refine lv_icmp_lt (tgt := 45) hx hb dS_numberOf16Bits_35 (by decide) (fun c3 => ?_) (fun c3 => ?_)
      · skip
        replace c3 := Int32.not_le.mpr c3
        refine lv_iload_n hx hb dS_numberOf16Bits_45 rfl (lv_at hl 1 rfl) ?_
        exact ro_ret S hr hk (by simp only [sN16, c1, c2, c3, ↓reduceIte]) dS_numberOf16Bits_46
      · skip
        replace c3 := Int32.not_lt.mp c3
        refine lv_iload hx hb dS_numberOf16Bits_38 (lv_at hl 0 rfl) ?_
        refine lv_ldc (v := 57343) hx hb hown (hts _ k78) dS_numberOf16Bits_40 ?_
        refine lv_icmp_le (tgt := 47) hx hb dS_numberOf16Bits_42 (by decide) (fun c4 => ?_) (fun c4 => ?_)
        · skip
          refine lv_ldc (v := 65536) hx hb hown (hts _ k79) dS_numberOf16Bits_47 ?_
          refine lv_sipush (v := 1024) hx hb dS_numberOf16Bits_49 (by decide) ?_
          refine lv_iload_n hx hb dS_numberOf16Bits_52 rfl (lv_at hl 1 rfl) ?_
          refine lv_ldc (v := 55296) hx hb hown (hts _ k75) dS_numberOf16Bits_53 ?_
          refine lv_isub hx hb dS_numberOf16Bits_55 ?_
          refine lv_imul hx hb dS_numberOf16Bits_56 ?_
          refine lv_iadd hx hb dS_numberOf16Bits_57 ?_
          refine lv_iload hx hb dS_numberOf16Bits_58 (lv_at hl 0 rfl) ?_
          refine lv_ldc (v := 56320) hx hb hown (hts _ k77) dS_numberOf16Bits_60 ?_
          refine lv_isub hx hb dS_numberOf16Bits_62 ?_
          refine lv_iadd hx hb dS_numberOf16Bits_63 ?_
          exact ro_ret S hr hk (by simp only [sN16, c1, c2, c3, c4, ↓reduceIte]) dS_numberOf16Bits_64
        · skip
          refine lv_iload_n hx hb dS_numberOf16Bits_45 rfl (lv_at hl 1 rfl) ?_
          exact ro_ret S hr hk (by simp only [sN16, c1, c2, c3, c4, ↓reduceIte]) dS_numberOf16Bits_46
    · skip
      refine lv_iload_n hx hb dS_numberOf16Bits_19 rfl (lv_at hl 0 rfl) ?_
      exact ro_ret S hr hk (by simp only [sN16, c1, c2, ↓reduceIte]) dS_numberOf16Bits_20
