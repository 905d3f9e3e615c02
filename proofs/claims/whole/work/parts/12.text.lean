/-! the JDK's search of a sign in a text; the kinds as the class tells them -/
def xB (v : Nat) (bs : List Int32) : State → Heap → Prop := fun U H => va_T .byte v bs.length (fun j => .int (bs.getD j 0)) nA U H
theorem xB_ok {v : Nat} {bs : List Int32} : okX (xB v bs) := fun s U H hW h => va_T.moved hW.alike h
def xS (q v : Nat) (bs : List Int32) : State → Heap → Prop := fun U H => va_O "java/lang/String" q nA U H ∧ va_OF "java/lang/String" "coder" "B" (.int 0) q nA U H ∧ va_OF "java/lang/String" "value" "[B" (.ref v) q nA U H ∧ xB v bs U H ∧ va_Z "java/lang/String" "COMPACT_STRINGS" "Z" (.int 1) nA U H
theorem xS_ok {q v : Nat} {bs : List Int32} : okX (xS q v bs) := fun s U H hW h => ⟨va_O.moved hW.alike h.1, va_OF.moved hW.alike h.2.1, va_OF.moved hW.alike h.2.2.1, xB_ok s U H hW h.2.2.2.1, va_Z.moved hW.alike h.2.2.2.2⟩
theorem xS_V {q v : Nat} {bs : List Int32} {s : State} {H : Heap} {As : List Value} (x : xS q v bs s H) : PreV s H "java/lang/String" q (gx (xS q v bs) (.ref q :: As)) As := gx_V xS_ok x (by obtain ⟨cell, h1, h2, h3, -⟩ := x.1; exact ⟨cell, h1, h2, h3⟩)
def sIx (b : Int32) : List Int32 → Nat → Int32
  | [], _ => -1
  | x :: xs, k => if x = b then nI k else sIx b xs (k + 1)
theorem sIx_drop {b : Int32} {bs : List Int32} {k : Nat} (h : k < bs.length) : sIx b (bs.drop k) k = if bs.getD k 0 = b then nI k else sIx b (bs.drop (k + 1)) (k + 1) := by
  rw [List.drop_eq_getElem_cons h, sIx, show bs.getD k 0 = bs[k] by simp [h]]
set_option maxHeartbeats 4000000 in
set_option maxRecDepth 100000 in
theorem cLat_canEncode (l : Launch) (c : Int32) : Met l yLat_canEncode (Cond.code yLat_canEncode prog_11_method_4_code 1 (some .boolean) :: TB) { frames := 0, cells := 0, slots := 0, locals := 0 } (pu [.int c]) (QcRead (bI (sIn c 0 255))) 0 0 (fun _ => False) := by
  refine mt_of (by decide) ?_
  intro p e s m args below meth cd S hr hk hin hv
  subst hv
  have hx := S.1
  have hb := S.2.1
  have hown := S.2.2.2.1
  have hts := S.2.2.2.2
  have hl := lv_entry ([.int c]) (n := 1) (Nat.le_of_ble_eq_true rfl)
  rw [lg_entry_eq]
  generalize (lg_sl ([.int c]) ++ List.replicate (1 - (lg_sl ([.int c])).length) Slot.unset).toArray = ls at hl ⊢
  have hl : lv_has ls 1 [(0, .int c)] := hl
  refine lv_iload_n hx hb dLat_canEncode_0 rfl (lv_at hl 0 rfl) ?_
  refine lv_if_lt (tgt := 15) hx hb dLat_canEncode_1 (by decide) (fun c1 => ?_) (fun c1 => ?_)
  · skip
    replace c1 := Int32.not_le.mpr c1
    refine lv_iconst (v := 0) hx hb dLat_canEncode_15 (by decide) ?_
    exact ro_retZ S hr hk (by rfl) (by simp [sIn, bI, c1]) dLat_canEncode_16
  · skip
    replace c1 := Int32.not_lt.mp c1
    refine lv_iload_n hx hb dLat_canEncode_4 rfl (lv_at hl 0 rfl) ?_
    refine lv_sipush (v := 255) hx hb dLat_canEncode_5 (by decide) ?_
    refine lv_icmp_gt (tgt := 15) hx hb dLat_canEncode_8 (by decide) (fun c2 => ?_) (fun c2 => ?_)
    · skip
      replace c2 := Int32.not_le.mpr c2
      refine lv_iconst (v := 0) hx hb dLat_canEncode_15 (by decide) ?_
      exact ro_retZ S hr hk (by rfl) (by simp [sIn, bI, c1, c2]) dLat_canEncode_16
    · skip
      replace c2 := Int32.not_lt.mp c2
      refine lv_iconst (v := 1) hx hb dLat_canEncode_11 (by decide) ?_
      refine lv_goto (tgt := 16) hx hb dLat_canEncode_12 (by decide) ?_
      exact ro_retZ S hr hk (by rfl) (by simp [sIn, bI, c1, c2]) dLat_canEncode_16
set_option maxHeartbeats 4000000 in
set_option maxRecDepth 100000 in
theorem cLat_indexOfChar (l : Launch) (v : Nat) (bs : List Int32) (c : Int32) (hN : bs.length < 1000) : Met l yLat_indexOfChar (Cond.code yLat_indexOfChar prog_11_method_23_code 6 (some .int) :: TB) { frames := 0, cells := 0, slots := 0, locals := 0 } (gx (xB v bs) [.ref v, .int c, .int 0, .int (nI bs.length)]) (QcRead (sIx ((Int32.toInt8 c).toInt32) bs 0)) 0 0 (fun _ => False) := by
  refine mt_of (by decide) ?_
  intro p e s m args below meth cd S hr hk hin hv
  obtain ⟨rfl, hX⟩ := hv
  have hx := S.1
  have hb := S.2.1
  have hown := S.2.2.2.1
  have hts := S.2.2.2.2
  have hl := lv_entry ([.ref v, .int c, .int 0, .int (nI bs.length)]) (n := 6) (Nat.le_of_ble_eq_true rfl)
  rw [lg_entry_eq]
  generalize (lg_sl ([.ref v, .int c, .int 0, .int (nI bs.length)]) ++ List.replicate (6 - (lg_sl ([.ref v, .int c, .int 0, .int (nI bs.length)])).length) Slot.unset).toArray = ls at hl ⊢
  have hl : lv_has ls 6 [(0, .ref v), (1, .int c), (2, .int 0), (3, .int (nI bs.length))] := hl
  refine lv_iload_n hx hb dLat_indexOfChar_0 rfl (lv_at hl 1 rfl) ?_
  refine lv_i2b (v := (Int32.toInt8 c).toInt32) hx hb dLat_indexOfChar_1 rfl ?_
  refine lv_istore (lv' := [(4, .int ((Int32.toInt8 c).toInt32)), (0, .ref v), (1, .int c), (2, .int 0), (3, .int (nI bs.length))]) hx hb dLat_indexOfChar_2 hl (by decide) rfl (fun ls hl => ?_)
  refine lv_iload_n hx hb dLat_indexOfChar_4 rfl (lv_at hl 3 rfl) ?_
  refine lv_istore (lv' := [(5, .int 0), (4, .int ((Int32.toInt8 c).toInt32)), (0, .ref v), (1, .int c), (2, .int 0), (3, .int (nI bs.length))]) hx hb dLat_indexOfChar_5 hl (by decide) rfl (fun ls hl => ?_)
  have J7 : ∀ (fu : Nat) (x : Int32) (k : Nat), x = nI k → k ≤ bs.length → bs.length < k + fu → sIx ((Int32.toInt8 c).toInt32) bs 0 = sIx ((Int32.toInt8 c).toInt32) (bs.drop k) k → ∀ ls : Array Slot, lv_has ls 6 [(4, .int ((Int32.toInt8 c).toInt32)), (0, .ref v), (1, .int c), (2, .int 0), (3, .int (nI bs.length)), (5, .int x)] → W p l e { frames := 0, cells := 0, slots := 0, locals := 0 } s m [.ref v, .int c, .int 0, .int (nI bs.length)].toArray below meth cd s.heap [] 0 0 (MQ below (QcRead (sIx ((Int32.toInt8 c).toInt32) bs 0)) [.ref v, .int c, .int 0, .int (nI bs.length)].toArray s 0 0 (fun _ => False)) (F0 m 7 ls []) := by
    intro fu
    induction fu with
    | zero =>
      intro x k hx9 hk9 hf9 hR ls hl
      exact absurd hf9 (by omega)
    | succ fu ih =>
      intro x k hx9 hk9 hf9 hR ls hl
      subst hx9
      refine lv_iload hx hb dLat_indexOfChar_7 (lv_at hl 5 rfl) ?_
      refine lv_iload_n hx hb dLat_indexOfChar_9 rfl (lv_at hl 4 rfl) ?_
      refine lv_icmp_ge (tgt := 31) hx hb dLat_indexOfChar_10 (by decide) (fun c1 => ?_) (fun c1 => ?_)
      · skip
        rw [nI_leI (by omega) (by omega)] at c1
        refine lv_iconst (v := (-1)) hx hb dLat_indexOfChar_31 (by decide) ?_
        exact ro_ret S hr hk (by rw [hR, List.drop_eq_nil_of_le (by omega)]; rfl) dLat_indexOfChar_32
      · skip
        rw [nI_leI (by omega) (by omega)] at c1
        refine lv_aload_n hx hb dLat_indexOfChar_13 rfl (lv_at hl 1 rfl) ?_
        refine lv_iload hx hb dLat_indexOfChar_14 (lv_at hl 5 rfl) ?_
        refine va_tb (A := nA) hx hb hX va_S.rf (by exact vp_in_nI (by omega) (by omega)) (v := .int (bs.getD ((nI k)).toNatClampNeg 0)) rfl dLat_indexOfChar_16 ?_
        rw [nI_clamp (n := k) (by omega)]
        refine lv_iload hx hb dLat_indexOfChar_17 (lv_at hl 0 rfl) ?_
        refine lv_icmp_ne (tgt := 25) hx hb dLat_indexOfChar_19 (by decide) (fun c2 => ?_) (fun c2 => ?_)
        · skip
          refine lv_iinc (v := ((nI k) + 1)) (lv' := [(5, .int ((nI k) + 1)), (4, .int ((Int32.toInt8 c).toInt32)), (0, .ref v), (1, .int c), (2, .int 0), (3, .int (nI bs.length))]) hx hb dLat_indexOfChar_25 hl (k := 5) rfl rfl (by decide) rfl (fun ls hl => ?_)
          refine lv_goto (tgt := 7) hx hb dLat_indexOfChar_28 (by decide) ?_
          exact ih (((nI k) + 1)) (k + 1) (nI_1 k) (by omega) (by omega) (by rw [hR, sIx_drop (by omega), if_neg c2]) ls (lv_sub hl [1, 2, 3, 4, 5, 0] rfl) 
        · skip
          refine lv_iload hx hb dLat_indexOfChar_22 (lv_at hl 5 rfl) ?_
          exact ro_ret S hr hk (by rw [hR, sIx_drop (by omega), if_pos c2]) dLat_indexOfChar_24
  exact J7 (bs.length + 1) (0) (0) (rfl) (by omega) (by omega) (by rw [List.drop_zero]) ls (lv_sub hl [1, 2, 3, 4, 5, 0] rfl) 
set_option maxHeartbeats 4000000 in
set_option maxRecDepth 100000 in
theorem cLat_indexOf (l : Launch) (v : Nat) (bs : List Int32) (c : Int32) (hN : bs.length < 1000) (h0 : 0 < bs.length) (hc : sIn c 0 255 = true) : Met l yLat_indexOf (Cond.code yLat_indexOf prog_11_method_22_code 4 (some .int) :: TB) { frames := 1, cells := 0, slots := 0, locals := 25 } (gx (xB v bs) [.ref v, .int c, .int 0, .int (nI bs.length)]) (QcRead (sIx ((Int32.toInt8 c).toInt32) bs 0)) 0 0 (fun _ => False) := by
  refine mt_of (by decide) ?_
  intro p e s m args below meth cd S hr hk hin hv
  obtain ⟨rfl, hX⟩ := hv
  have hx := S.1
  have hb := S.2.1
  have hown := S.2.2.2.1
  have hts := S.2.2.2.2
  have hl := lv_entry ([.ref v, .int c, .int 0, .int (nI bs.length)]) (n := 4) (Nat.le_of_ble_eq_true rfl)
  rw [lg_entry_eq]
  generalize (lg_sl ([.ref v, .int c, .int 0, .int (nI bs.length)]) ++ List.replicate (4 - (lg_sl ([.ref v, .int c, .int 0, .int (nI bs.length)])).length) Slot.unset).toArray = ls at hl ⊢
  have hl : lv_has ls 4 [(0, .ref v), (1, .int c), (2, .int 0), (3, .int (nI bs.length))] := hl
  refine lv_iload_n hx hb dLat_indexOf_0 rfl (lv_at hl 1 rfl) ?_
  refine ro_S (As := [.int c]) (rest := []) (n := 1) S (cLat_canEncode l (c)) k187 k9 k186 (by decide +kernel) ⟨rfl, rfl⟩ k185 (by decide) preEq rfl rfl hl.1 (Nat.le_of_ble_eq_true rfl) ⟨Nat.le_refl _, Nat.le_refl _⟩ dLat_indexOf_1 ?_
  refine lv_if_ne (tgt := 9) hx hb dLat_indexOf_4 (by decide) (fun c1 => ?_) (fun c1 => absurd c1 (by simp [bI, hc]))
  refine lv_iload_n hx hb dLat_indexOf_9 rfl (lv_at hl 2 rfl) ?_
  refine lv_iconst (v := 0) hx hb dLat_indexOf_10 (by decide) ?_
  refine va_mmax hx hb (S.2.2.1.trans hl.1.symm) hown (hts _ k188) (hts _ k189) (hts _ k10) (hts (Cond.code Lib.Math.max.name Lib.Math.max.code 2 (some .int)) (TB_t 190 (by decide +kernel) rfl)) (by decide) (by decide) (Nat.le_refl _) (Nat.le_refl _) dLat_indexOf_11 ?_
  rw [show (if (0 : Int32) < 0 then (0 : Int32) else 0) = 0 from rfl]
  refine lv_istore_n (lv' := [(2, .int 0), (0, .ref v), (1, .int c), (3, .int (nI bs.length))]) hx hb dLat_indexOf_14 rfl hl (by decide) rfl (fun ls hl => ?_)
  refine lv_iload_n hx hb dLat_indexOf_15 rfl (lv_at hl 3 rfl) ?_
  refine lv_aload_n hx hb dLat_indexOf_16 rfl (lv_at hl 1 rfl) ?_
  refine va_tlen (A := nA) (v := nI bs.length) hx hb hX va_S.rf rfl dLat_indexOf_17 ?_
  refine va_mmin hx hb (S.2.2.1.trans hl.1.symm) hown (hts _ k191) (hts _ k192) (hts _ k10) (hts (Cond.code Lib.Math.min.name Lib.Math.min.code 2 (some .int)) (TB_t 193 (by decide +kernel) rfl)) (by decide) (by decide) (Nat.le_refl _) (Nat.le_refl _) dLat_indexOf_18 ?_
  rw [ite_self]
  refine lv_istore_n (lv' := [(3, .int (nI bs.length)), (2, .int 0), (0, .ref v), (1, .int c)]) hx hb dLat_indexOf_21 rfl hl (by decide) rfl (fun ls hl => ?_)
  refine lv_iload_n hx hb dLat_indexOf_22 rfl (lv_at hl 1 rfl) ?_
  refine lv_iload_n hx hb dLat_indexOf_23 rfl (lv_at hl 0 rfl) ?_
  refine lv_icmp_lt (tgt := 29) hx hb dLat_indexOf_24 (by decide) (fun c2 => ?_) (fun c2 => absurd c2 (fun h9 => h9 (nI_lt h0 (by omega))))
  refine lv_aload_n hx hb dLat_indexOf_29 rfl (lv_at hl 2 rfl) ?_
  refine lv_iload_n hx hb dLat_indexOf_30 rfl (lv_at hl 3 rfl) ?_
  refine lv_iload_n hx hb dLat_indexOf_31 rfl (lv_at hl 1 rfl) ?_
  refine lv_iload_n hx hb dLat_indexOf_32 rfl (lv_at hl 0 rfl) ?_
  refine ro_S (As := [.ref v, .int c, .int 0, .int (nI bs.length)]) (rest := []) (n := 4) S (cLat_indexOfChar l v bs (c) hN) k196 k9 k195 (by decide +kernel) ⟨rfl, rfl⟩ k194 (by decide) (gx_S xB_ok hX) rfl rfl hl.1 (Nat.le_of_ble_eq_true rfl) ⟨Nat.le_refl _, Nat.le_refl _⟩ dLat_indexOf_33 ?_
  exact ro_ret S hr hk (rfl) dLat_indexOf_36
set_option maxHeartbeats 4000000 in
set_option maxRecDepth 100000 in
theorem cStr_isLatin1 (l : Launch) (q v : Nat) (bs : List Int32) : Met l yStr_isLatin1 (Cond.code yStr_isLatin1 prog_10_method_154_code 1 (some .boolean) :: TB) { frames := 0, cells := 0, slots := 0, locals := 0 } (gx (xS q v bs) [.ref q]) (QcRead (1)) 0 0 (fun _ => False) := by
  refine mt_of (by decide) ?_
  intro p e s m args below meth cd S hr hk hin hv
  obtain ⟨rfl, hX⟩ := hv
  have hx := S.1
  have hb := S.2.1
  have hown := S.2.2.2.1
  have hts := S.2.2.2.2
  have hl := lv_entry ([.ref q]) (n := 1) (Nat.le_of_ble_eq_true rfl)
  rw [lg_entry_eq]
  generalize (lg_sl ([.ref q]) ++ List.replicate (1 - (lg_sl ([.ref q])).length) Slot.unset).toArray = ls at hl ⊢
  have hl : lv_has ls 1 [(0, .ref q)] := hl
  refine va_gets (A := nA) hx hb hX.2.2.2.2 va_S.rf hown (hts _ k172) (fun _ h9 => h9) dStr_isLatin1_0 ?_
  refine lv_if_eq (tgt := 17) hx hb dStr_isLatin1_3 (by decide) (fun c1 => absurd c1 (by decide)) (fun c1 => ?_)
  refine lv_aload_n hx hb dStr_isLatin1_6 rfl (lv_at hl 0 rfl) ?_
  refine vk_getf (A := nA) hx hb hX.2.1 va_S.rf hown (hts _ k544) (fun _ h9 => h9) dStr_isLatin1_7 ?_
  refine lv_if_ne (tgt := 17) hx hb dStr_isLatin1_10 (by decide) (fun c2 => absurd c2 (by decide)) (fun c2 => ?_)
  refine lv_iconst (v := 1) hx hb dStr_isLatin1_13 (by decide) ?_
  refine lv_goto (tgt := 18) hx hb dStr_isLatin1_14 (by decide) ?_
  exact ro_retZ S hr hk (by rfl) (rfl) dStr_isLatin1_18
set_option maxHeartbeats 4000000 in
set_option maxRecDepth 100000 in
theorem cStr_coder (l : Launch) (q v : Nat) (bs : List Int32) : Met l yStr_coder (Cond.code yStr_coder prog_10_method_152_code 1 (some .byte) :: TB) { frames := 0, cells := 0, slots := 0, locals := 0 } (gx (xS q v bs) [.ref q]) (QcRead (0)) 0 0 (fun _ => False) := by
  refine mt_of (by decide) ?_
  intro p e s m args below meth cd S hr hk hin hv
  obtain ⟨rfl, hX⟩ := hv
  have hx := S.1
  have hb := S.2.1
  have hown := S.2.2.2.1
  have hts := S.2.2.2.2
  have hl := lv_entry ([.ref q]) (n := 1) (Nat.le_of_ble_eq_true rfl)
  rw [lg_entry_eq]
  generalize (lg_sl ([.ref q]) ++ List.replicate (1 - (lg_sl ([.ref q])).length) Slot.unset).toArray = ls at hl ⊢
  have hl : lv_has ls 1 [(0, .ref q)] := hl
  refine va_gets (A := nA) hx hb hX.2.2.2.2 va_S.rf hown (hts _ k172) (fun _ h9 => h9) dStr_coder_0 ?_
  refine lv_if_eq (tgt := 13) hx hb dStr_coder_3 (by decide) (fun c1 => absurd c1 (by decide)) (fun c1 => ?_)
  refine lv_aload_n hx hb dStr_coder_6 rfl (lv_at hl 0 rfl) ?_
  refine vk_getf (A := nA) hx hb hX.2.1 va_S.rf hown (hts _ k544) (fun _ h9 => h9) dStr_coder_7 ?_
  refine lv_goto (tgt := 14) hx hb dStr_coder_10 (by decide) ?_
  exact ro_retB S hr hk (by rfl) (rfl) dStr_coder_14
set_option maxHeartbeats 4000000 in
set_option maxRecDepth 100000 in
theorem cStr_length (l : Launch) (q v : Nat) (bs : List Int32) : Met l yStr_length (Cond.code yStr_length prog_10_method_54_code 1 (some .int) :: TB) { frames := 1, cells := 0, slots := 0, locals := 20 } (gx (xS q v bs) [.ref q]) (QcRead (nI bs.length)) 0 0 (fun _ => False) := by
  refine mt_of (by decide) ?_
  intro p e s m args below meth cd S hr hk hin hv
  obtain ⟨rfl, hX⟩ := hv
  have hx := S.1
  have hb := S.2.1
  have hown := S.2.2.2.1
  have hts := S.2.2.2.2
  have hl := lv_entry ([.ref q]) (n := 1) (Nat.le_of_ble_eq_true rfl)
  rw [lg_entry_eq]
  generalize (lg_sl ([.ref q]) ++ List.replicate (1 - (lg_sl ([.ref q])).length) Slot.unset).toArray = ls at hl ⊢
  have hl : lv_has ls 1 [(0, .ref q)] := hl
  refine lv_aload_n hx hb dStr_length_0 rfl (lv_at hl 0 rfl) ?_
  refine vk_getf (A := nA) hx hb hX.2.2.1 va_S.rf hown (hts _ k545) (fun _ h9 => h9) dStr_length_1 ?_
  refine va_tlen (A := nA) (v := nI bs.length) hx hb hX.2.2.2.1 va_S.rf rfl dStr_length_4 ?_
  refine lv_aload_n hx hb dStr_length_5 rfl (lv_at hl 0 rfl) ?_
  refine ro_V (r := (0)) (As := []) (rest := [.int (nI bs.length)]) (n := 0) (C := "java/lang/String") S (cStr_coder l q v bs  ) k181 k8 k179 k180 (by decide +kernel) ⟨rfl, rfl⟩ k178 (by decide) (xS_V hX) rfl rfl hl.1 (Nat.le_of_ble_eq_true rfl) ⟨Nat.le_refl _, Nat.le_refl _⟩ dStr_length_6 ?_
  refine lv_ishr hx hb dStr_length_9 ?_
  exact ro_ret S hr hk (sb_shr0 _) dStr_length_10
set_option maxHeartbeats 4000000 in
set_option maxRecDepth 100000 in
theorem cStr_indexOf2 (l : Launch) (q v : Nat) (bs : List Int32) (c : Int32) (hN : bs.length < 1000) (h0 : 0 < bs.length) (hc : sIn c 0 255 = true) : Met l yStr_indexOf2 (Cond.code yStr_indexOf2 prog_10_method_80_code 3 (some .int) :: TB) { frames := 2, cells := 0, slots := 0, locals := 48 } (gx (xS q v bs) [.ref q, .int c, .int 0]) (QcRead (sIx ((Int32.toInt8 c).toInt32) bs 0)) 0 0 (fun _ => False) := by
  refine mt_of (by decide) ?_
  intro p e s m args below meth cd S hr hk hin hv
  obtain ⟨rfl, hX⟩ := hv
  have hx := S.1
  have hb := S.2.1
  have hown := S.2.2.2.1
  have hts := S.2.2.2.2
  have hl := lv_entry ([.ref q, .int c, .int 0]) (n := 3) (Nat.le_of_ble_eq_true rfl)
  rw [lg_entry_eq]
  generalize (lg_sl ([.ref q, .int c, .int 0]) ++ List.replicate (3 - (lg_sl ([.ref q, .int c, .int 0])).length) Slot.unset).toArray = ls at hl ⊢
  have hl : lv_has ls 3 [(0, .ref q), (1, .int c), (2, .int 0)] := hl
  refine lv_aload_n hx hb dStr_indexOf2_0 rfl (lv_at hl 0 rfl) ?_
  refine ro_V (r := (1)) (As := []) (rest := []) (n := 0) (C := "java/lang/String") S (cStr_isLatin1 l q v bs  ) k171 k8 k169 k170 (by decide +kernel) ⟨rfl, rfl⟩ k168 (by decide) (xS_V hX) rfl rfl hl.1 (Nat.le_of_ble_eq_true rfl) ⟨Nat.le_refl _, Nat.le_refl _⟩ dStr_indexOf2_1 ?_
  refine lv_if_eq (tgt := 23) hx hb dStr_indexOf2_4 (by decide) (fun c1 => absurd c1 (by decide)) (fun c1 => ?_)
  refine lv_aload_n hx hb dStr_indexOf2_7 rfl (lv_at hl 0 rfl) ?_
  refine vk_getf (A := nA) hx hb hX.2.2.1 va_S.rf hown (hts _ k545) (fun _ h9 => h9) dStr_indexOf2_8 ?_
  refine lv_iload_n hx hb dStr_indexOf2_11 rfl (lv_at hl 1 rfl) ?_
  refine lv_iload_n hx hb dStr_indexOf2_12 rfl (lv_at hl 2 rfl) ?_
  refine lv_aload_n hx hb dStr_indexOf2_13 rfl (lv_at hl 0 rfl) ?_
  refine ro_V (r := (nI bs.length)) (As := []) (rest := [.int 0, .int c, .ref v]) (n := 0) (C := "java/lang/String") S (cStr_length l q v bs  ) k177 k8 k175 k176 (by decide +kernel) ⟨rfl, rfl⟩ k174 (by decide) (xS_V hX) rfl rfl hl.1 (Nat.le_of_ble_eq_true rfl) ⟨Nat.le_refl _, Nat.le_refl _⟩ dStr_indexOf2_14 ?_
  refine ro_S (As := [.ref v, .int c, .int 0, .int (nI bs.length)]) (rest := []) (n := 4) S (cLat_indexOf l v bs (c) hN h0 hc) k184 k9 k183 (by decide +kernel) ⟨rfl, rfl⟩ k182 (by decide) (gx_S xB_ok hX.2.2.2.1) rfl rfl hl.1 (Nat.le_of_ble_eq_true rfl) ⟨Nat.le_refl _, Nat.le_refl _⟩ dStr_indexOf2_17 ?_
  refine lv_goto (tgt := 36) hx hb dStr_indexOf2_20 (by decide) ?_
  exact ro_ret S hr hk (rfl) dStr_indexOf2_36
set_option maxHeartbeats 4000000 in
set_option maxRecDepth 100000 in
theorem cStr_indexOf1 (l : Launch) (q v : Nat) (bs : List Int32) (c : Int32) (hN : bs.length < 1000) (h0 : 0 < bs.length) (hc : sIn c 0 255 = true) : Met l yStr_indexOf1 (Cond.code yStr_indexOf1 prog_10_method_79_code 2 (some .int) :: TB) { frames := 3, cells := 0, slots := 0, locals := 70 } (gx (xS q v bs) [.ref q, .int c]) (QcRead (sIx ((Int32.toInt8 c).toInt32) bs 0)) 0 0 (fun _ => False) := by
  refine mt_of (by decide) ?_
  intro p e s m args below meth cd S hr hk hin hv
  obtain ⟨rfl, hX⟩ := hv
  have hx := S.1
  have hb := S.2.1
  have hown := S.2.2.2.1
  have hts := S.2.2.2.2
  have hl := lv_entry ([.ref q, .int c]) (n := 2) (Nat.le_of_ble_eq_true rfl)
  rw [lg_entry_eq]
  generalize (lg_sl ([.ref q, .int c]) ++ List.replicate (2 - (lg_sl ([.ref q, .int c])).length) Slot.unset).toArray = ls at hl ⊢
  have hl : lv_has ls 2 [(0, .ref q), (1, .int c)] := hl
  refine lv_aload_n hx hb dStr_indexOf1_0 rfl (lv_at hl 0 rfl) ?_
  refine lv_iload_n hx hb dStr_indexOf1_1 rfl (lv_at hl 1 rfl) ?_
  refine lv_iconst (v := 0) hx hb dStr_indexOf1_2 (by decide) ?_
  refine ro_V (r := (sIx ((Int32.toInt8 c).toInt32) bs 0)) (As := [.int c, .int 0]) (rest := []) (n := 2) (C := "java/lang/String") S (cStr_indexOf2 l q v bs (c) hN h0 hc) k167 k8 k165 k166 (by decide +kernel) ⟨rfl, rfl⟩ k164 (by decide) (xS_V hX) rfl rfl hl.1 (Nat.le_of_ble_eq_true rfl) ⟨Nat.le_refl _, Nat.le_refl _⟩ dStr_indexOf1_3 ?_
  exact ro_ret S hr hk (rfl) dStr_indexOf1_6
def PBS : List Int32 := [45, 39, 40, 41, 43, 44, 46, 47, 58, 61, 63, 59, 33, 42, 35, 64, 36, 95, 37]
/-- what is given of the class's own constants -/
def xD (tc ts tm q v : Nat) : State → Heap → Prop := fun U H => xC tc U H ∧ (xZ "NAME_START_RANGES" ts U H ∧ xT ts NSR U H) ∧ (xZ "MORE_NAME_RANGES" tm U H ∧ xT tm MNR U H) ∧ xS q v PBS U H ∧ vk_R "SignReader" 153 "-'()+,./:=?;!*#@$_%" q U
theorem xD_ok {tc ts tm q v : Nat} : okX (xD tc ts tm q v) := fun s U H hW h => ⟨xC_ok s U H hW h.1, ok_and xZ_ok xT_ok s U H hW h.2.1, ok_and xZ_ok xT_ok s U H hW h.2.2.1, xS_ok s U H hW h.2.2.2.1, vk_R.warm hW h.2.2.2.2⟩
def sC16 (c : Int32) : Int32 := (Int32.toUInt32 c % 65536).toInt32
def sPubS (c : Int32) : Bool := decide (c = 32) || decide (c = 10) || sLetter c || sDigit c || (!decide (c ≤ 32) && !decide (128 ≤ c) && decide (0 ≤ sIx ((Int32.toInt8 (sC16 c)).toInt32) PBS 0))
theorem pub_small : ∀ j : Nat, j < 128 → 32 < j → (sIn (sC16 (nI j)) 0 255 = true ∧ decide (0 ≤ sIx ((Int32.toInt8 (sC16 (nI j))).toInt32) PBS 0) = (sSign (nI j))) := by decide +kernel
theorem pub_range {c : Int32} (h1 : ¬ c ≤ 32) (h2 : ¬ 128 ≤ c) : ∃ j : Nat, j < 128 ∧ 32 < j ∧ c = nI j := by
  rw [Int32.le_iff_toInt_le] at h1 h2
  have e1 : (32 : Int32).toInt = 32 := by decide
  have e2 : (128 : Int32).toInt = 128 := by decide
  rw [e1] at h1
  rw [e2] at h2
  refine ⟨c.toInt.toNat, by omega, by omega, ?_⟩
  rw [i32_eq, nI_toInt (by omega)]
  omega
theorem pub_enc {c : Int32} (h1 : ¬ c ≤ 32) (h2 : ¬ 128 ≤ c) : sIn (sC16 c) 0 255 = true := by
  obtain ⟨j, hj, hk, rfl⟩ := pub_range h1 h2
  exact (pub_small j hj hk).1
theorem pub_eq (c : Int32) : sPubS c = sPub c := by
  by_cases h1 : c ≤ 32
  · unfold sPubS sPub sSign sDigit
    simp only [h1, decide_true, Bool.not_true, Bool.false_and, Bool.or_false]
    rw [Bool.eq_iff_iff]
    simp only [Bool.or_eq_true, decide_eq_true_eq, sIn_iff, i32_eq, sLetter]
    rw [Int32.le_iff_toInt_le] at h1
    simp at h1 ⊢
    omega
  · by_cases h2 : 128 ≤ c
    · unfold sPubS sPub sSign sDigit
      simp only [h2, decide_true, Bool.not_true, Bool.and_false, Bool.false_and, Bool.or_false]
      rw [Bool.eq_iff_iff]
      simp only [Bool.or_eq_true, decide_eq_true_eq, sIn_iff, i32_eq, sLetter]
      rw [Int32.le_iff_toInt_le] at h2
      simp at h2 ⊢
      omega
    · obtain ⟨j, hj, hk, rfl⟩ := pub_range h1 h2
      unfold sPubS sPub
      rw [(pub_small j hj hk).2]
      simp only [h1, h2, decide_false, Bool.not_false, Bool.true_and, sDigit]
      have e1 : decide (nI j = 32) = true → sSign (nI j) = true := by simp only [decide_eq_true_eq]; intro h; rw [h]; decide
      have e2 : decide (nI j = 10) = true → sSign (nI j) = true := by simp only [decide_eq_true_eq]; intro h; rw [h]; decide
      revert e1 e2
      cases decide (nI j = 32) <;> cases decide (nI j = 10) <;> cases sSign (nI j) <;> cases sLetter (nI j) <;> cases sIn (nI j) 48 57 <;> simp
set_option maxHeartbeats 4000000 in
set_option maxRecDepth 100000 in
theorem cS_isPublic (l : Launch) (tc ts tm q v : Nat) (c : Int32) : Met l yS_isPublic (Cond.code yS_isPublic prog_1_method_42_code 1 (some .boolean) :: TB) { frames := 4, cells := 0, slots := 0, locals := 91 } (gx (xD tc ts tm q v) [.int c]) (QcRead (bI (sPub c))) 0 0 (fun _ => False) := by
  refine mt_of (by decide) ?_
  intro p e s m args below meth cd S hr hk hin hv
  obtain ⟨rfl, hX⟩ := hv
  have hx := S.1
  have hb := S.2.1
  have hown := S.2.2.2.1
  have hts := S.2.2.2.2
  have hl := lv_entry ([.int c]) (n := 1) (Nat.le_of_ble_eq_true rfl)
  rw [lg_entry_eq]
  generalize (lg_sl ([.int c]) ++ List.replicate (1 - (lg_sl ([.int c])).length) Slot.unset).toArray = ls at hl ⊢
  have hl : lv_has ls 1 [(0, .int c)] := hl
  refine lv_iload_n hx hb dS_isPublic_0 rfl (lv_at hl 0 rfl) ?_
  refine lv_bipush (v := 32) hx hb dS_isPublic_1 (by decide) ?_
  refine lv_icmp_eq (tgt := 26) hx hb dS_isPublic_3 (by decide) (fun c1 => ?_) (fun c1 => ?_)
  · skip
    refine lv_iconst (v := 1) hx hb dS_isPublic_26 (by decide) ?_
    exact ro_retZ S hr hk (by rfl) (by rw [← pub_eq]; simp [sPubS, bI, c1]) dS_isPublic_27
  · skip
    refine lv_iload_n hx hb dS_isPublic_6 rfl (lv_at hl 0 rfl) ?_
    refine lv_bipush (v := 10) hx hb dS_isPublic_7 (by decide) ?_
    refine lv_icmp_eq (tgt := 26) hx hb dS_isPublic_9 (by decide) (fun c2 => ?_) (fun c2 => ?_)
    · skip
      refine lv_iconst (v := 1) hx hb dS_isPublic_26 (by decide) ?_
      exact ro_retZ S hr hk (by rfl) (by rw [← pub_eq]; simp [sPubS, bI, c1, c2]) dS_isPublic_27
    · skip
      refine lv_iload_n hx hb dS_isPublic_12 rfl (lv_at hl 0 rfl) ?_
      refine ro_S (As := [.int c]) (rest := []) (n := 1) S (cS_isLetter l (c)) k148 k1 k147 (by decide +kernel) ⟨rfl, rfl⟩ k146 (by decide) preEq rfl rfl hl.1 (Nat.le_of_ble_eq_true rfl) ⟨Nat.le_refl _, Nat.le_refl _⟩ dS_isPublic_13 ?_
      refine lv_if_ne (tgt := 26) hx hb dS_isPublic_16 (by decide) (fun c3 => ?_) (fun c3 => ?_)
      · skip
        replace c3 := bI_t c3
        refine lv_iconst (v := 1) hx hb dS_isPublic_26 (by decide) ?_
        exact ro_retZ S hr hk (by rfl) (by rw [← pub_eq]; simp [sPubS, bI, c1, c2, c3]) dS_isPublic_27
      · skip
        replace c3 := bI_f c3
        refine lv_iload_n hx hb dS_isPublic_19 rfl (lv_at hl 0 rfl) ?_
        refine ro_S (As := [.int c]) (rest := []) (n := 1) S (cS_isDigit l (c)) k151 k1 k150 (by decide +kernel) ⟨rfl, rfl⟩ k149 (by decide) preEq rfl rfl hl.1 (Nat.le_of_ble_eq_true rfl) ⟨Nat.le_refl _, Nat.le_refl _⟩ dS_isPublic_20 ?_
        refine lv_if_eq (tgt := 28) hx hb dS_isPublic_23 (by decide) (fun c4 => ?_) (fun c4 => ?_)
        · skip
          replace c4 := bI_f c4
          refine lv_iload_n hx hb dS_isPublic_28 rfl (lv_at hl 0 rfl) ?_
          refine lv_bipush (v := 32) hx hb dS_isPublic_29 (by decide) ?_
          refine lv_icmp_le (tgt := 55) hx hb dS_isPublic_31 (by decide) (fun c5 => ?_) (fun c5 => ?_)
          · skip
            refine lv_iconst (v := 0) hx hb dS_isPublic_55 (by decide) ?_
            exact ro_retZ S hr hk (by rfl) (by rw [← pub_eq]; simp [sPubS, bI, c1, c2, c3, c4, c5]) dS_isPublic_56
          · skip
            refine lv_iload_n hx hb dS_isPublic_34 rfl (lv_at hl 0 rfl) ?_
            refine lv_sipush (v := 128) hx hb dS_isPublic_35 (by decide) ?_
            refine lv_icmp_ge (tgt := 55) hx hb dS_isPublic_38 (by decide) (fun c6 => ?_) (fun c6 => ?_)
            · skip
              refine lv_iconst (v := 0) hx hb dS_isPublic_55 (by decide) ?_
              exact ro_retZ S hr hk (by rfl) (by rw [← pub_eq]; simp [sPubS, bI, c1, c2, c3, c4, c5, c6]) dS_isPublic_56
            · skip
              refine va_ldcS hx hb hown hX.2.2.2.2 dS_isPublic_41 ?_
              refine lv_iload_n hx hb dS_isPublic_43 rfl (lv_at hl 0 rfl) ?_
              refine lv_i2c (v := sC16 c) hx hb dS_isPublic_44 rfl ?_
              refine ro_V (r := (sIx ((Int32.toInt8 ((sC16 c))).toInt32) PBS 0)) (As := [.int (sC16 c)]) (rest := []) (n := 1) (C := "java/lang/String") S (cStr_indexOf1 l q v PBS ((sC16 c)) (by decide) (by decide) (pub_enc c5 c6)) k163 k8 k161 k162 (by decide +kernel) ⟨rfl, rfl⟩ k160 (by decide) (xS_V hX.2.2.2.1) rfl rfl hl.1 (Nat.le_of_ble_eq_true rfl) ⟨Nat.le_refl _, Nat.le_refl _⟩ dS_isPublic_45 ?_
              refine lv_if_lt (tgt := 55) hx hb dS_isPublic_48 (by decide) (fun c7 => ?_) (fun c7 => ?_)
              · skip
                replace c7 := Int32.not_le.mpr c7
                refine lv_iconst (v := 0) hx hb dS_isPublic_55 (by decide) ?_
                exact ro_retZ S hr hk (by rfl) (by rw [← pub_eq]; simp [sPubS, bI, c1, c2, c3, c4, c5, c6, c7]) dS_isPublic_56
              · skip
                replace c7 := Int32.not_lt.mp c7
                refine lv_iconst (v := 1) hx hb dS_isPublic_51 (by decide) ?_
                refine lv_goto (tgt := 56) hx hb dS_isPublic_52 (by decide) ?_
                exact ro_retZ S hr hk (by rfl) (by rw [← pub_eq]; simp [sPubS, bI, c1, c2, c3, c4, c5, c6, c7]) dS_isPublic_56
        · skip
          replace c4 := bI_t c4
          refine lv_iconst (v := 1) hx hb dS_isPublic_26 (by decide) ?_
          exact ro_retZ S hr hk (by rfl) (by rw [← pub_eq]; simp [sPubS, bI, c1, c2, c3, c4]) dS_isPublic_27
def kS (c : Int32) : Int32 := bI (sSpace c) + bK (sLetter c) 2 + bK (sDigit c) 4 + (if sWithin NSR c = true then 24 else if sWithin MNR c = true then 16 else 0) + bK (sPub c) 32
set_option maxHeartbeats 4000000 in
set_option maxRecDepth 100000 in
theorem cS_kindsOf (l : Launch) (tc ts tm q v : Nat) (c : Int32) : Met l yS_kindsOf (Cond.code yS_kindsOf prog_1_method_37_code 2 (some .int) :: TB) { frames := 5, cells := 0, slots := 0, locals := 111 } (gx (xD tc ts tm q v) [.int c]) (QcRead (kS c)) 0 0 (fun _ => False) := by
  refine mt_of (by decide) ?_
  intro p e s m args below meth cd S hr hk hin hv
  obtain ⟨rfl, hX⟩ := hv
  have hx := S.1
  have hb := S.2.1
  have hown := S.2.2.2.1
  have hts := S.2.2.2.2
  have hl := lv_entry ([.int c]) (n := 2) (Nat.le_of_ble_eq_true rfl)
  rw [lg_entry_eq]
  generalize (lg_sl ([.int c]) ++ List.replicate (2 - (lg_sl ([.int c])).length) Slot.unset).toArray = ls at hl ⊢
  have hl : lv_has ls 2 [(0, .int c)] := hl
  have J12 : ∀ (x : Int32), x = bI (sSpace c) → ∀ ls : Array Slot, lv_has ls 2 [(0, .int c)] → W p l e { frames := 5, cells := 0, slots := 0, locals := 111 } s m [.int c].toArray below meth cd s.heap [] 0 0 (MQ below (QcRead (kS c)) [.int c].toArray s 0 0 (fun _ => False)) (F0 m 12 ls [.int x]) := by
    intro x hx9 ls hl
    subst hx9
    have J23 : ∀ (x : Int32), x = bI (sSpace c) + bK (sLetter c) 2 → ∀ ls : Array Slot, lv_has ls 2 [(0, .int c), (1, .int x)] → W p l e { frames := 5, cells := 0, slots := 0, locals := 111 } s m [.int c].toArray below meth cd s.heap [] 0 0 (MQ below (QcRead (kS c)) [.int c].toArray s 0 0 (fun _ => False)) (F0 m 23 ls []) := by
      intro x hx9 ls hl
      have J33 : ∀ (z : Int32), z = x + bK (sDigit c) 4 → ∀ ls : Array Slot, lv_has ls 2 [(0, .int c), (1, .int z)] → W p l e { frames := 5, cells := 0, slots := 0, locals := 111 } s m [.int c].toArray below meth cd s.heap [] 0 0 (MQ below (QcRead (kS c)) [.int c].toArray s 0 0 (fun _ => False)) (F0 m 33 ls []) := by
        intro z hz9 ls hl
        have J62 : ∀ (u : Int32), u = z + (if sWithin NSR c = true then 24 else if sWithin MNR c = true then 16 else 0) → ∀ ls : Array Slot, lv_has ls 2 [(0, .int c), (1, .int u)] → W p l e { frames := 5, cells := 0, slots := 0, locals := 111 } s m [.int c].toArray below meth cd s.heap [] 0 0 (MQ below (QcRead (kS c)) [.int c].toArray s 0 0 (fun _ => False)) (F0 m 62 ls []) := by
          intro u hu9 ls hl
          have J72 : ∀ (r9 : Int32), r9 = u + bK (sPub c) 32 → ∀ ls : Array Slot, lv_has ls 2 [(0, .int c), (1, .int r9)] → W p l e { frames := 5, cells := 0, slots := 0, locals := 111 } s m [.int c].toArray below meth cd s.heap [] 0 0 (MQ below (QcRead (kS c)) [.int c].toArray s 0 0 (fun _ => False)) (F0 m 72 ls []) := by
            intro r9 hr9 ls hl
            refine lv_iload_n hx hb dS_kindsOf_72 rfl (lv_at hl 1 rfl) ?_
            exact ro_ret S hr hk (by rw [hr9, hu9, hz9, hx9]; rfl) dS_kindsOf_73
          refine lv_iload_n hx hb dS_kindsOf_62 rfl (lv_at hl 0 rfl) ?_
          refine ro_S (As := [.int c]) (rest := []) (n := 1) S (cS_isPublic l tc ts tm q v (c)) k158 k1 k157 (by decide +kernel) ⟨rfl, rfl⟩ k156 (by decide) (gx_S xD_ok hX) rfl rfl hl.1 (Nat.le_of_ble_eq_true rfl) ⟨Nat.le_refl _, Nat.le_refl _⟩ dS_kindsOf_63 ?_
          refine lv_if_eq (tgt := 72) hx hb dS_kindsOf_66 (by decide) (fun c1 => ?_) (fun c1 => ?_)
          · skip
            replace c1 := bI_f c1
            exact J72  (u) (by simp [bK, c1]) ls (lv_sub hl [0, 1] rfl) 
          · skip
            replace c1 := bI_t c1
            refine lv_iinc (v := (u + 32)) (lv' := [(1, .int (u + 32)), (0, .int c)]) hx hb dS_kindsOf_69 hl (k := 1) rfl rfl (by decide) rfl (fun ls hl => ?_)
            exact J72  ((u + 32)) (by simp [bK, c1]) ls (lv_sub hl [1, 0] rfl) 
        refine va_gets (A := nA) hx hb hX.2.1.1 va_S.rf hown (hts _ k152) (fun _ h9 => h9) dS_kindsOf_33 ?_
        refine lv_iload_n hx hb dS_kindsOf_36 rfl (lv_at hl 0 rfl) ?_
        refine ro_S (As := [.ref ts, .int c]) (rest := []) (n := 2) S (cS_isWithin l ts NSR (c) (by decide)) k111 k1 k110 (by decide +kernel) ⟨rfl, rfl⟩ k109 (by decide) (gx_S xT_ok hX.2.1.2) rfl rfl hl.1 (Nat.le_of_ble_eq_true rfl) ⟨Nat.le_refl _, Nat.le_refl _⟩ dS_kindsOf_37 ?_
        refine lv_if_eq (tgt := 49) hx hb dS_kindsOf_40 (by decide) (fun c2 => ?_) (fun c2 => ?_)
        · skip
          replace c2 := bI_f c2
          refine va_gets (A := nA) hx hb hX.2.2.1.1 va_S.rf hown (hts _ k154) (fun _ h9 => h9) dS_kindsOf_49 ?_
          refine lv_iload_n hx hb dS_kindsOf_52 rfl (lv_at hl 0 rfl) ?_
          refine ro_S (As := [.ref tm, .int c]) (rest := []) (n := 2) S (cS_isWithin l tm MNR (c) (by decide)) k111 k1 k110 (by decide +kernel) ⟨rfl, rfl⟩ k109 (by decide) (gx_S xT_ok hX.2.2.1.2) rfl rfl hl.1 (Nat.le_of_ble_eq_true rfl) ⟨Nat.le_refl _, Nat.le_refl _⟩ dS_kindsOf_53 ?_
          refine lv_if_eq (tgt := 62) hx hb dS_kindsOf_56 (by decide) (fun c3 => ?_) (fun c3 => ?_)
          · skip
            replace c3 := bI_f c3
            exact J62  (z) (by simp [c2, c3]) ls (lv_sub hl [0, 1] rfl) 
          · skip
            replace c3 := bI_t c3
            refine lv_iinc (v := (z + 16)) (lv' := [(1, .int (z + 16)), (0, .int c)]) hx hb dS_kindsOf_59 hl (k := 1) rfl rfl (by decide) rfl (fun ls hl => ?_)
            exact J62  ((z + 16)) (by simp [c2, c3]) ls (lv_sub hl [1, 0] rfl) 
        · skip
          replace c2 := bI_t c2
          refine lv_iinc (v := (z + 24)) (lv' := [(1, .int (z + 24)), (0, .int c)]) hx hb dS_kindsOf_43 hl (k := 1) rfl rfl (by decide) rfl (fun ls hl => ?_)
          refine lv_goto (tgt := 62) hx hb dS_kindsOf_46 (by decide) ?_
          exact J62  ((z + 24)) (by simp [c2]) ls (lv_sub hl [1, 0] rfl) 
      refine lv_iload_n hx hb dS_kindsOf_23 rfl (lv_at hl 0 rfl) ?_
      refine ro_S (As := [.int c]) (rest := []) (n := 1) S (cS_isDigit l (c)) k151 k1 k150 (by decide +kernel) ⟨rfl, rfl⟩ k149 (by decide) preEq rfl rfl hl.1 (Nat.le_of_ble_eq_true rfl) ⟨Nat.le_refl _, Nat.le_refl _⟩ dS_kindsOf_24 ?_
      refine lv_if_eq (tgt := 33) hx hb dS_kindsOf_27 (by decide) (fun c4 => ?_) (fun c4 => ?_)
      · skip
        replace c4 := bI_f c4
        exact J33  (x) (by simp [bK, c4]) ls (lv_sub hl [0, 1] rfl) 
      · skip
        replace c4 := bI_t c4
        refine lv_iinc (v := (x + 4)) (lv' := [(1, .int (x + 4)), (0, .int c)]) hx hb dS_kindsOf_30 hl (k := 1) rfl rfl (by decide) rfl (fun ls hl => ?_)
        exact J33  ((x + 4)) (by simp [bK, c4]) ls (lv_sub hl [1, 0] rfl) 
    refine lv_istore_n (lv' := [(1, .int (bI (sSpace c))), (0, .int c)]) hx hb dS_kindsOf_12 rfl hl (by decide) rfl (fun ls hl => ?_)
    refine lv_iload_n hx hb dS_kindsOf_13 rfl (lv_at hl 1 rfl) ?_
    refine ro_S (As := [.int c]) (rest := []) (n := 1) S (cS_isLetter l (c)) k148 k1 k147 (by decide +kernel) ⟨rfl, rfl⟩ k146 (by decide) preEq rfl rfl hl.1 (Nat.le_of_ble_eq_true rfl) ⟨Nat.le_refl _, Nat.le_refl _⟩ dS_kindsOf_14 ?_
    refine lv_if_eq (tgt := 23) hx hb dS_kindsOf_17 (by decide) (fun c5 => ?_) (fun c5 => ?_)
    · skip
      replace c5 := bI_f c5
      exact J23  ((bI (sSpace c))) (by simp [bK, c5]) ls (lv_sub hl [1, 0] rfl) 
    · skip
      replace c5 := bI_t c5
      refine lv_iinc (v := ((bI (sSpace c)) + 2)) (lv' := [(1, .int ((bI (sSpace c)) + 2)), (0, .int c)]) hx hb dS_kindsOf_20 hl (k := 0) rfl rfl (by decide) rfl (fun ls hl => ?_)
      exact J23  (((bI (sSpace c)) + 2)) (by simp [bK, c5]) ls (lv_sub hl [1, 0] rfl) 
  refine lv_iload_n hx hb dS_kindsOf_0 rfl (lv_at hl 0 rfl) ?_
  refine ro_S (As := [.int c]) (rest := []) (n := 1) S (cS_isSpace l (c)) k145 k1 k144 (by decide +kernel) ⟨rfl, rfl⟩ k143 (by decide) preEq rfl rfl hl.1 (Nat.le_of_ble_eq_true rfl) ⟨Nat.le_refl _, Nat.le_refl _⟩ dS_kindsOf_1 ?_
  refine lv_if_eq (tgt := 11) hx hb dS_kindsOf_4 (by decide) (fun c6 => ?_) (fun c6 => ?_)
  · skip
    replace c6 := bI_f c6
    refine lv_iconst (v := 0) hx hb dS_kindsOf_11 (by decide) ?_
    exact J12  (0) (by simp [bI, c6]) ls (lv_sub hl [0] rfl) 
  · skip
    replace c6 := bI_t c6
    refine lv_iconst (v := 1) hx hb dS_kindsOf_7 (by decide) ?_
    refine lv_goto (tgt := 12) hx hb dS_kindsOf_8 (by decide) ?_
    exact J12  (1) (by simp [bI, c6]) ls (lv_sub hl [0] rfl) 
theorem nsr_eq (c : Int32) : sWithin NSR c = sStart c := by
  rw [Bool.eq_iff_iff]
  simp only [sWithin, NSR, sStart, sNear, sLetter, List.any_cons, List.any_nil, Bool.or_eq_true, decide_eq_true_eq, sIn_iff, i32_eq, Bool.or_false]
  simp
  omega
theorem mnr_eq (c : Int32) : sNaming c = (sStart c || sWithin MNR c) := by
  rw [Bool.eq_iff_iff]
  simp only [sWithin, MNR, sNaming, List.any_cons, List.any_nil, Bool.or_eq_true, decide_eq_true_eq, sIn_iff, i32_eq, Bool.or_false]
  cases sStart c
  · simp
    omega
  · simp
theorem start_chr {c : Int32} (h : sStart c = true) : sChar c = true := by
  simp only [sChar, sStart, sNear, sLetter, Bool.or_eq_true, decide_eq_true_eq, sIn_iff, i32_eq] at h ⊢
  simp at h ⊢
  omega
theorem more_chr {c : Int32} (h : sWithin MNR c = true) : sChar c = true := by
  simp only [sWithin, MNR, sChar, List.any_cons, List.any_nil, Bool.or_eq_true, decide_eq_true_eq, sIn_iff, i32_eq, Bool.or_false] at h ⊢
  simp at h ⊢
  omega
theorem rest_chr {c : Int32} (h : (sSpace c || sLetter c || sDigit c || sPub c) = true) : sChar c = true := by
  simp only [sSpace, sLetter, sDigit, sPub, sSign, sChar, Bool.or_eq_true, decide_eq_true_eq, sIn_iff, i32_eq, Bool.or_false] at h ⊢
  simp at h ⊢
  omega
theorem kinds_eq (c : Int32) : kS c = kM c := by
  have h1 := @start_chr c
  have h2 := @more_chr c
  have h3 := @rest_chr c
  have h4 : sIn c 48 57 = sDigit c := rfl
  unfold kS kM
  rw [nsr_eq, mnr_eq, h4]
  revert h1 h2 h3
  generalize sSpace c = b1
  generalize sLetter c = b2
  generalize sDigit c = b3
  generalize sStart c = b4
  generalize sWithin MNR c = b5
  generalize sPub c = b6
  generalize sChar c = b7
  revert b1 b2 b3 b4 b5 b6 b7
  decide +kernel
