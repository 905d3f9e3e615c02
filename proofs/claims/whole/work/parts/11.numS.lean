/-! the class: numbers out of bytes -/
def bN (a : Int32) : Nat := if a &&& 224 = 192 then 1 else if a &&& 240 = 224 then 2 else if a &&& 248 = 240 then 3 else 0
theorem sBehind_nI (a : Int32) : sBehind a = nI (bN a) := by
  unfold sBehind bN
  split
  · rfl
  · split
    · rfl
    · split <;> rfl
theorem bN_le (a : Int32) : bN a ≤ 3 := by
  unfold bN
  split
  · omega
  · split
    · omega
    · split <;> omega
def sTail (f : Nat → Int32) (n : Nat) (i : Int32) : Nat → Nat → Int32 → Option Int32
  | 0, _, v => some v
  | j + 1, k, v => if 128 ≤ sCame f n (i + nI k) then (if sCame f n (i + nI k) ≤ 191 then sTail f n i j (k + 1) (v * 64 + (sCame f n (i + nI k) - 128)) else none) else none
def sFin (B : Nat) : Option Int32 → Int32
  | none => -1
  | some v => if sSize8 v = nI B + 1 then v else -1
def sN8 (f : Nat → Int32) (n : Nat) (i : Int32) : Int32 := if 128 ≤ sCame f n i then (if sBehind (sCame f n i) = 0 then -1 else sFin (bN (sCame f n i)) (sTail f n i (bN (sCame f n i)) 1 (sCame f n i &&& (63 >>> (sBehind (sCame f n i) &&& 31))))) else sCame f n i
set_option maxHeartbeats 4000000 in
set_option maxRecDepth 100000 in
theorem cS_numberOf8Bits (l : Launch) (D : va_G) (h qb qt : Nat) (cI : ClassId) (n tl : Nat) (wy : Int32) (f g : Nat → Int32) (hn : n ≤ 4096) (ht : tl ≤ 4096) (i : Int32) : Met l yS_numberOf8Bits (Cond.code yS_numberOf8Bits prog_1_method_21_code 7 (some .int) :: TB) { frames := 2, cells := 0, slots := 0, locals := 42 } (gx (xW D h qb qt cI n tl wy f g) [.ref h, .int i]) (QcRead (sN8 f n i)) 0 0 (fun _ => False) := by
  refine mt_of (by decide) ?_
  intro p e s m args below meth cd S hr hk hin hv
  obtain ⟨rfl, hX⟩ := hv
  have hP := hX.1
  have hK := hX.2
  have hx := S.1
  have hb := S.2.1
  have hown := S.2.2.2.1
  have hts := S.2.2.2.2
  have hl := lv_entry ([.ref h, .int i]) (n := 7) (Nat.le_of_ble_eq_true rfl)
  rw [lg_entry_eq]
  generalize (lg_sl ([.ref h, .int i]) ++ List.replicate (7 - (lg_sl ([.ref h, .int i])).length) Slot.unset).toArray = ls at hl ⊢
  have hl : lv_has ls 7 [(0, .ref h), (1, .int i)] := hl
  refine lv_aload_n hx hb dS_numberOf8Bits_0 rfl (lv_at hl 0 rfl) ?_
  refine lv_iload_n hx hb dS_numberOf8Bits_1 rfl (lv_at hl 1 rfl) ?_
  refine ro_V (r := (sCame f n i)) (As := [.int i]) (rest := []) (n := 1) (C := "SignReader") S (cS_came l D h qb qt cI n tl wy f g hn ht (i)) k50 k1 k48 k49 (by decide +kernel) ⟨rfl, rfl⟩ k74 (by decide) (xW_V hX) rfl rfl hl.1 (Nat.le_of_ble_eq_true rfl) ⟨Nat.le_refl _, Nat.le_refl _⟩ dS_numberOf8Bits_2 ?_
  refine lv_istore_n (lv' := [(2, .int (sCame f n i)), (0, .ref h), (1, .int i)]) hx hb dS_numberOf8Bits_5 rfl hl (by decide) rfl (fun ls hl => ?_)
  refine lv_iload_n hx hb dS_numberOf8Bits_6 rfl (lv_at hl 0 rfl) ?_
  refine lv_sipush (v := 128) hx hb dS_numberOf8Bits_7 (by decide) ?_
  refine lv_icmp_ge (tgt := 15) hx hb dS_numberOf8Bits_10 (by decide) (fun c1 => ?_) (fun c1 => ?_)
  · skip
    refine lv_iload_n hx hb dS_numberOf8Bits_15 rfl (lv_at hl 0 rfl) ?_
    refine ro_S (As := [.int (sCame f n i)]) (rest := []) (n := 1) S (cS_bytesBehind l ((sCame f n i))) k86 k1 k85 (by decide +kernel) ⟨rfl, rfl⟩ k84 (by decide) preEq rfl rfl hl.1 (Nat.le_of_ble_eq_true rfl) ⟨Nat.le_refl _, Nat.le_refl _⟩ dS_numberOf8Bits_16 ?_
    refine lv_istore_n (lv' := [(3, .int (sBehind (sCame f n i))), (2, .int (sCame f n i)), (0, .ref h), (1, .int i)]) hx hb dS_numberOf8Bits_19 rfl hl (by decide) rfl (fun ls hl => ?_)
    refine lv_iload_n hx hb dS_numberOf8Bits_20 rfl (lv_at hl 0 rfl) ?_
    refine lv_if_ne (tgt := 26) hx hb dS_numberOf8Bits_21 (by decide) (fun c2 => ?_) (fun c2 => ?_)
    · skip
      refine lv_iload_n hx hb dS_numberOf8Bits_26 rfl (lv_at hl 1 rfl) ?_
      refine lv_bipush (v := 63) hx hb dS_numberOf8Bits_27 (by decide) ?_
      refine lv_iload_n hx hb dS_numberOf8Bits_29 rfl (lv_at hl 0 rfl) ?_
      refine lv_ishr hx hb dS_numberOf8Bits_30 ?_
      refine lv_iand hx hb dS_numberOf8Bits_31 ?_
      refine lv_istore (lv' := [(4, .int ((sCame f n i) &&& ((63 : Int32) >>> ((sBehind (sCame f n i)) &&& 31) : Int32))), (3, .int (sBehind (sCame f n i))), (2, .int (sCame f n i)), (0, .ref h), (1, .int i)]) hx hb dS_numberOf8Bits_32 hl (by decide) rfl (fun ls hl => ?_)
      refine lv_iconst (v := 1) hx hb dS_numberOf8Bits_34 (by decide) ?_
      refine lv_istore (lv' := [(5, .int 1), (4, .int ((sCame f n i) &&& ((63 : Int32) >>> ((sBehind (sCame f n i)) &&& 31) : Int32))), (3, .int (sBehind (sCame f n i))), (2, .int (sCame f n i)), (0, .ref h), (1, .int i)]) hx hb dS_numberOf8Bits_35 hl (by decide) rfl (fun ls hl => ?_)
      have J37 : ∀ (fu : Nat) (v : Int32) (x : Int32) (k : Nat), x = nI k → k ≤ bN (sCame f n i) + 1 → bN (sCame f n i) + 1 < k + fu → sN8 f n i = sFin (bN (sCame f n i)) (sTail f n i (bN (sCame f n i) + 1 - k) k v) → ∀ ls : Array Slot, lv_has ls 7 [(3, .int (sBehind (sCame f n i))), (2, .int (sCame f n i)), (0, .ref h), (1, .int i), (4, .int v), (5, .int x)] → W p l e { frames := 2, cells := 0, slots := 0, locals := 42 } s m [.ref h, .int i].toArray below meth cd s.heap [] 0 0 (MQ below (QcRead (sN8 f n i)) [.ref h, .int i].toArray s 0 0 (fun _ => False)) (F0 m 37 ls []) := by
        intro fu
        induction fu with
        | zero =>
          intro v x k hx9 hk9 hf9 hR ls hl
          exact absurd hf9 (by omega)
        | succ fu ih =>
          intro v x k hx9 hk9 hf9 hR ls hl
          subst hx9
          have hB := bN_le (sCame f n i)
          refine lv_iload hx hb dS_numberOf8Bits_37 (lv_at hl 5 rfl) ?_
          refine lv_iload_n hx hb dS_numberOf8Bits_39 rfl (lv_at hl 0 rfl) ?_
          refine lv_icmp_gt (tgt := 91) hx hb dS_numberOf8Bits_40 (by decide) (fun c3 => ?_) (fun c3 => ?_)
          · skip
            replace c3 := Int32.not_le.mpr c3
            rw [sBehind_nI, nI_leI (by omega) (by omega)] at c3
            rw [show bN (sCame f n i) + 1 - k = 0 by omega] at hR
            refine lv_iload hx hb dS_numberOf8Bits_91 (lv_at hl 4 rfl) ?_
            refine ro_S (As := [.int v]) (rest := []) (n := 1) S (cS_sizeOf8Bits l (v)) k89 k1 k88 (by decide +kernel) ⟨rfl, rfl⟩ k87 (by decide) preEq rfl rfl hl.1 (Nat.le_of_ble_eq_true rfl) ⟨Nat.le_refl _, Nat.le_refl _⟩ dS_numberOf8Bits_93 ?_
            refine lv_iload_n hx hb dS_numberOf8Bits_96 rfl (lv_at hl 0 rfl) ?_
            refine lv_iconst (v := 1) hx hb dS_numberOf8Bits_97 (by decide) ?_
            refine lv_iadd hx hb dS_numberOf8Bits_98 ?_
            refine lv_icmp_ne (tgt := 107) hx hb dS_numberOf8Bits_99 (by decide) (fun c4 => ?_) (fun c4 => ?_)
            · skip
              refine lv_iconst (v := (-1)) hx hb dS_numberOf8Bits_107 (by decide) ?_
              exact ro_ret S hr hk (by rw [hR]; simp only [sTail, sFin, ← sBehind_nI, c4, ↓reduceIte]) dS_numberOf8Bits_108
            · skip
              refine lv_iload hx hb dS_numberOf8Bits_102 (lv_at hl 4 rfl) ?_
              refine lv_goto (tgt := 108) hx hb dS_numberOf8Bits_104 (by decide) ?_
              exact ro_ret S hr hk (by rw [hR]; simp only [sTail, sFin, ← sBehind_nI, c4, ↓reduceIte]) dS_numberOf8Bits_108
          · skip
            replace c3 := Int32.not_lt.mp c3
            rw [sBehind_nI, nI_leI (by omega) (by omega)] at c3
            rw [show bN (sCame f n i) + 1 - k = (bN (sCame f n i) - k) + 1 by omega] at hR
            simp only [sTail] at hR
            refine lv_aload_n hx hb dS_numberOf8Bits_43 rfl (lv_at hl 2 rfl) ?_
            refine lv_iload_n hx hb dS_numberOf8Bits_44 rfl (lv_at hl 3 rfl) ?_
            refine lv_iload hx hb dS_numberOf8Bits_45 (lv_at hl 5 rfl) ?_
            refine lv_iadd hx hb dS_numberOf8Bits_47 ?_
            refine ro_V (r := (sCame f n ((i + (nI k))))) (As := [.int (i + (nI k))]) (rest := []) (n := 1) (C := "SignReader") S (cS_came l D h qb qt cI n tl wy f g hn ht ((i + (nI k)))) k50 k1 k48 k49 (by decide +kernel) ⟨rfl, rfl⟩ k74 (by decide) (xW_V hX) rfl rfl hl.1 (Nat.le_of_ble_eq_true rfl) ⟨Nat.le_refl _, Nat.le_refl _⟩ dS_numberOf8Bits_48 ?_
            refine lv_istore (lv' := [(6, .int (sCame f n ((i + (nI k))))), (3, .int (sBehind (sCame f n i))), (2, .int (sCame f n i)), (0, .ref h), (1, .int i), (4, .int v), (5, .int (nI k))]) hx hb dS_numberOf8Bits_51 hl (by decide) rfl (fun ls hl => ?_)
            refine lv_iload hx hb dS_numberOf8Bits_53 (lv_at hl 0 rfl) ?_
            refine lv_sipush (v := 128) hx hb dS_numberOf8Bits_55 (by decide) ?_
            refine lv_icmp_lt (tgt := 69) hx hb dS_numberOf8Bits_58 (by decide) (fun c5 => ?_) (fun c5 => ?_)
            · skip
              replace c5 := Int32.not_le.mpr c5
              refine lv_iconst (v := (-1)) hx hb dS_numberOf8Bits_69 (by decide) ?_
              exact ro_ret S hr hk (by rw [hR]; simp only [sFin, c3, c5, ↓reduceIte]) dS_numberOf8Bits_70
            · skip
              replace c5 := Int32.not_lt.mp c5
              refine lv_iload hx hb dS_numberOf8Bits_61 (lv_at hl 0 rfl) ?_
              refine lv_sipush (v := 191) hx hb dS_numberOf8Bits_63 (by decide) ?_
              refine lv_icmp_le (tgt := 71) hx hb dS_numberOf8Bits_66 (by decide) (fun c6 => ?_) (fun c6 => ?_)
              · skip
                refine lv_iload hx hb dS_numberOf8Bits_71 (lv_at hl 5 rfl) ?_
                refine lv_bipush (v := 64) hx hb dS_numberOf8Bits_73 (by decide) ?_
                refine lv_imul hx hb dS_numberOf8Bits_75 ?_
                refine lv_iload hx hb dS_numberOf8Bits_76 (lv_at hl 0 rfl) ?_
                refine lv_sipush (v := 128) hx hb dS_numberOf8Bits_78 (by decide) ?_
                refine lv_isub hx hb dS_numberOf8Bits_81 ?_
                refine lv_iadd hx hb dS_numberOf8Bits_82 ?_
                refine lv_istore (lv' := [(4, .int ((v * 64) + ((sCame f n ((i + (nI k)))) - 128))), (6, .int (sCame f n ((i + (nI k))))), (3, .int (sBehind (sCame f n i))), (2, .int (sCame f n i)), (0, .ref h), (1, .int i), (5, .int (nI k))]) hx hb dS_numberOf8Bits_83 hl (by decide) rfl (fun ls hl => ?_)
                refine lv_iinc (v := ((nI k) + 1)) (lv' := [(5, .int ((nI k) + 1)), (4, .int ((v * 64) + ((sCame f n ((i + (nI k)))) - 128))), (6, .int (sCame f n ((i + (nI k))))), (3, .int (sBehind (sCame f n i))), (2, .int (sCame f n i)), (0, .ref h), (1, .int i)]) hx hb dS_numberOf8Bits_85 hl (k := 6) rfl rfl (by decide) rfl (fun ls hl => ?_)
                refine lv_goto (tgt := 37) hx hb dS_numberOf8Bits_88 (by decide) ?_
                exact ih (((v * 64) + ((sCame f n ((i + (nI k)))) - 128))) (((nI k) + 1)) (k + 1) (nI_1 k) (by omega) (by omega) (by rw [hR]; simp only [c5, c6, ↓reduceIte]; rw [show bN (sCame f n i) + 1 - (k + 1) = bN (sCame f n i) - k by omega]) ls (lv_sub hl [3, 4, 5, 6, 1, 0] rfl) 
              · skip
                refine lv_iconst (v := (-1)) hx hb dS_numberOf8Bits_69 (by decide) ?_
                exact ro_ret S hr hk (by rw [hR]; simp only [sFin, c5, c6, ↓reduceIte]) dS_numberOf8Bits_70
      exact J37 (bN (sCame f n i) + 2) (((sCame f n i) &&& ((63 : Int32) >>> ((sBehind (sCame f n i)) &&& 31) : Int32))) (1) (1) (rfl) (by omega) (by omega) (by simp only [sN8, c1, c2, ↓reduceIte, Nat.add_sub_cancel]) ls (lv_sub hl [2, 3, 4, 5, 1, 0] rfl) 
    · skip
      refine lv_iconst (v := (-1)) hx hb dS_numberOf8Bits_24 (by decide) ?_
      exact ro_ret S hr hk (by simp only [sN8, c1, c2, ↓reduceIte]) dS_numberOf8Bits_25
  · skip
    refine lv_iload_n hx hb dS_numberOf8Bits_13 rfl (lv_at hl 0 rfl) ?_
    exact ro_ret S hr hk (by simp only [sN8, c1, ↓reduceIte]) dS_numberOf8Bits_14
def sN (f : Nat → Int32) (n : Nat) (i w : Int32) : Int32 := if s16 w = true then sN16 f n i w else sN8 f n i
set_option maxHeartbeats 4000000 in
set_option maxRecDepth 100000 in
theorem cS_numberAt (l : Launch) (D : va_G) (h qb qt : Nat) (cI : ClassId) (n tl : Nat) (wy : Int32) (f g : Nat → Int32) (hn : n ≤ 4096) (ht : tl ≤ 4096) (i w : Int32) : Met l yS_numberAt (Cond.code yS_numberAt prog_1_method_20_code 3 (some .int) :: TB) { frames := 4, cells := 0, slots := 0, locals := 90 } (gx (xW D h qb qt cI n tl wy f g) [.ref h, .int i, .int w]) (QcRead (sN f n i w)) 0 0 (fun _ => False) := by
  refine mt_of (by decide) ?_
  intro p e s m args below meth cd S hr hk hin hv
  obtain ⟨rfl, hX⟩ := hv
  have hP := hX.1
  have hK := hX.2
  have hx := S.1
  have hb := S.2.1
  have hown := S.2.2.2.1
  have hts := S.2.2.2.2
  have hl := lv_entry ([.ref h, .int i, .int w]) (n := 3) (Nat.le_of_ble_eq_true rfl)
  rw [lg_entry_eq]
  generalize (lg_sl ([.ref h, .int i, .int w]) ++ List.replicate (3 - (lg_sl ([.ref h, .int i, .int w])).length) Slot.unset).toArray = ls at hl ⊢
  have hl : lv_has ls 3 [(0, .ref h), (1, .int i), (2, .int w)] := hl
  refine lv_iload_n hx hb dS_numberAt_0 rfl (lv_at hl 2 rfl) ?_
  refine ro_S (As := [.int w]) (rest := []) (n := 1) S (cS_isSixteenBits l (w)) k65 k1 k64 (by decide +kernel) ⟨rfl, rfl⟩ k63 (by decide) preEq rfl rfl hl.1 (Nat.le_of_ble_eq_true rfl) ⟨Nat.le_refl _, Nat.le_refl _⟩ dS_numberAt_1 ?_
  refine lv_if_eq (tgt := 16) hx hb dS_numberAt_4 (by decide) (fun c1 => ?_) (fun c1 => ?_)
  · skip
    replace c1 := bI_f c1
    refine lv_aload_n hx hb dS_numberAt_16 rfl (lv_at hl 0 rfl) ?_
    refine lv_iload_n hx hb dS_numberAt_17 rfl (lv_at hl 1 rfl) ?_
    refine ro_V (r := (sN8 f n i)) (As := [.int i]) (rest := []) (n := 1) (C := "SignReader") S (cS_numberOf8Bits l D h qb qt cI n tl wy f g hn ht (i)) k83 k1 k82 ks5 (by decide +kernel) ⟨rfl, rfl⟩ k80 (by decide) (xW_V hX) rfl rfl hl.1 (Nat.le_of_ble_eq_true rfl) ⟨Nat.le_refl _, Nat.le_refl _⟩ dS_numberAt_18 ?_
    exact ro_ret S hr hk (by simp [sN, c1]) dS_numberAt_21
  · skip
    replace c1 := bI_t c1
    refine lv_aload_n hx hb dS_numberAt_7 rfl (lv_at hl 0 rfl) ?_
    refine lv_iload_n hx hb dS_numberAt_8 rfl (lv_at hl 1 rfl) ?_
    refine lv_iload_n hx hb dS_numberAt_9 rfl (lv_at hl 2 rfl) ?_
    refine ro_V (r := (sN16 f n i w)) (As := [.int i, .int w]) (rest := []) (n := 2) (C := "SignReader") S (cS_numberOf16Bits l D h qb qt cI n tl wy f g hn ht (i) (w)) k69 k1 k68 ks3 (by decide +kernel) ⟨rfl, rfl⟩ k66 (by decide) (xW_V hX) rfl rfl hl.1 (Nat.le_of_ble_eq_true rfl) ⟨Nat.le_refl _, Nat.le_refl _⟩ dS_numberAt_10 ?_
    refine lv_goto (tgt := 21) hx hb dS_numberAt_13 (by decide) ?_
    exact ro_ret S hr hk (by simp [sN, c1]) dS_numberAt_21
def sWay (f : Nat → Int32) (n : Nat) : Int32 := if sN f n 0 1 = 65279 then 1 else if sN f n 0 2 = 65279 then 2 else if sN f n 0 3 = 65279 then 3 else 0
set_option maxHeartbeats 4000000 in
set_option maxRecDepth 100000 in
theorem cS_wayOfBytes (l : Launch) (D : va_G) (h qb qt : Nat) (cI : ClassId) (n tl : Nat) (wy : Int32) (f g : Nat → Int32) (hn : n ≤ 4096) (ht : tl ≤ 4096) : Met l yS_wayOfBytes (Cond.code yS_wayOfBytes prog_1_method_16_code 2 (some .int) :: TB) { frames := 5, cells := 0, slots := 0, locals := 112 } (gx (xW D h qb qt cI n tl wy f g) [.ref h]) (QcRead (sWay f n)) 0 0 (fun _ => False) := by
  refine mt_of (by decide) ?_
  intro p e s m args below meth cd S hr hk hin hv
  obtain ⟨rfl, hX⟩ := hv
  have hP := hX.1
  have hK := hX.2
  have hx := S.1
  have hb := S.2.1
  have hown := S.2.2.2.1
  have hts := S.2.2.2.2
  have hl := lv_entry ([.ref h]) (n := 2) (Nat.le_of_ble_eq_true rfl)
  rw [lg_entry_eq]
  generalize (lg_sl ([.ref h]) ++ List.replicate (2 - (lg_sl ([.ref h])).length) Slot.unset).toArray = ls at hl ⊢
  have hl : lv_has ls 2 [(0, .ref h)] := hl
  refine lv_iconst (v := 1) hx hb dS_wayOfBytes_0 (by decide) ?_
  refine lv_istore_n (lv' := [(1, .int 1), (0, .ref h)]) hx hb dS_wayOfBytes_1 rfl hl (by decide) rfl (fun ls hl => ?_)
  refine lv_iload_n hx hb dS_wayOfBytes_2 rfl (lv_at hl 0 rfl) ?_
  refine lv_iconst (v := 3) hx hb dS_wayOfBytes_3 (by decide) ?_
  refine lv_icmp_gt (tgt := 26) hx hb dS_wayOfBytes_4 (by decide) (fun c1 => absurd c1 (by decide)) (fun c1 => ?_)
  refine lv_aload_n hx hb dS_wayOfBytes_7 rfl (lv_at hl 1 rfl) ?_
  refine lv_iconst (v := 0) hx hb dS_wayOfBytes_8 (by decide) ?_
  refine lv_iload_n hx hb dS_wayOfBytes_9 rfl (lv_at hl 0 rfl) ?_
  refine ro_V (r := (sN f n 0 1)) (As := [.int 0, .int 1]) (rest := []) (n := 2) (C := "SignReader") S (cS_numberAt l D h qb qt cI n tl wy f g hn ht (0) (1)) k62 k1 k61 ks2 (by decide +kernel) ⟨rfl, rfl⟩ k59 (by decide) (xW_V hX) rfl rfl hl.1 (Nat.le_of_ble_eq_true rfl) ⟨Nat.le_refl _, Nat.le_refl _⟩ dS_wayOfBytes_10 ?_
  refine lv_ldc (v := 65279) hx hb hown (hts _ k90) dS_wayOfBytes_13 ?_
  refine lv_icmp_ne (tgt := 20) hx hb dS_wayOfBytes_15 (by decide) (fun c2 => ?_) (fun c2 => ?_)
  · skip
    refine lv_iinc (v := 2) (lv' := [(1, .int 2), (0, .ref h)]) hx hb dS_wayOfBytes_20 hl (k := 0) rfl (by decide) (by decide) rfl (fun ls hl => ?_)
    refine lv_goto (tgt := 2) hx hb dS_wayOfBytes_23 (by decide) ?_
    refine lv_iload_n hx hb dS_wayOfBytes_2 rfl (lv_at hl 0 rfl) ?_
    refine lv_iconst (v := 3) hx hb dS_wayOfBytes_3 (by decide) ?_
    refine lv_icmp_gt (tgt := 26) hx hb dS_wayOfBytes_4 (by decide) (fun c3 => absurd c3 (by decide)) (fun c3 => ?_)
    refine lv_aload_n hx hb dS_wayOfBytes_7 rfl (lv_at hl 1 rfl) ?_
    refine lv_iconst (v := 0) hx hb dS_wayOfBytes_8 (by decide) ?_
    refine lv_iload_n hx hb dS_wayOfBytes_9 rfl (lv_at hl 0 rfl) ?_
    refine ro_V (r := (sN f n 0 2)) (As := [.int 0, .int 2]) (rest := []) (n := 2) (C := "SignReader") S (cS_numberAt l D h qb qt cI n tl wy f g hn ht (0) (2)) k62 k1 k61 ks2 (by decide +kernel) ⟨rfl, rfl⟩ k59 (by decide) (xW_V hX) rfl rfl hl.1 (Nat.le_of_ble_eq_true rfl) ⟨Nat.le_refl _, Nat.le_refl _⟩ dS_wayOfBytes_10 ?_
    refine lv_ldc (v := 65279) hx hb hown (hts _ k90) dS_wayOfBytes_13 ?_
    refine lv_icmp_ne (tgt := 20) hx hb dS_wayOfBytes_15 (by decide) (fun c4 => ?_) (fun c4 => ?_)
    · skip
      refine lv_iinc (v := 3) (lv' := [(1, .int 3), (0, .ref h)]) hx hb dS_wayOfBytes_20 hl (k := 0) rfl (by decide) (by decide) rfl (fun ls hl => ?_)
      refine lv_goto (tgt := 2) hx hb dS_wayOfBytes_23 (by decide) ?_
      refine lv_iload_n hx hb dS_wayOfBytes_2 rfl (lv_at hl 0 rfl) ?_
      refine lv_iconst (v := 3) hx hb dS_wayOfBytes_3 (by decide) ?_
      refine lv_icmp_gt (tgt := 26) hx hb dS_wayOfBytes_4 (by decide) (fun c5 => absurd c5 (by decide)) (fun c5 => ?_)
      refine lv_aload_n hx hb dS_wayOfBytes_7 rfl (lv_at hl 1 rfl) ?_
      refine lv_iconst (v := 0) hx hb dS_wayOfBytes_8 (by decide) ?_
      refine lv_iload_n hx hb dS_wayOfBytes_9 rfl (lv_at hl 0 rfl) ?_
      refine ro_V (r := (sN f n 0 3)) (As := [.int 0, .int 3]) (rest := []) (n := 2) (C := "SignReader") S (cS_numberAt l D h qb qt cI n tl wy f g hn ht (0) (3)) k62 k1 k61 ks2 (by decide +kernel) ⟨rfl, rfl⟩ k59 (by decide) (xW_V hX) rfl rfl hl.1 (Nat.le_of_ble_eq_true rfl) ⟨Nat.le_refl _, Nat.le_refl _⟩ dS_wayOfBytes_10 ?_
      refine lv_ldc (v := 65279) hx hb hown (hts _ k90) dS_wayOfBytes_13 ?_
      refine lv_icmp_ne (tgt := 20) hx hb dS_wayOfBytes_15 (by decide) (fun c6 => ?_) (fun c6 => ?_)
      · skip
        refine lv_iinc (v := 4) (lv' := [(1, .int 4), (0, .ref h)]) hx hb dS_wayOfBytes_20 hl (k := 0) rfl (by decide) (by decide) rfl (fun ls hl => ?_)
        refine lv_goto (tgt := 2) hx hb dS_wayOfBytes_23 (by decide) ?_
        refine lv_iload_n hx hb dS_wayOfBytes_2 rfl (lv_at hl 0 rfl) ?_
        refine lv_iconst (v := 3) hx hb dS_wayOfBytes_3 (by decide) ?_
        refine lv_icmp_gt (tgt := 26) hx hb dS_wayOfBytes_4 (by decide) (fun c7 => ?_) (fun c7 => absurd c7 (by decide))
        refine lv_iconst (v := 0) hx hb dS_wayOfBytes_26 (by decide) ?_
        exact ro_ret S hr hk (by simp [sWay, c2, c4, c6]) dS_wayOfBytes_27
      · skip
        refine lv_iload_n hx hb dS_wayOfBytes_18 rfl (lv_at hl 0 rfl) ?_
        exact ro_ret S hr hk (by simp [sWay, c2, c4, c6]) dS_wayOfBytes_19
    · skip
      refine lv_iload_n hx hb dS_wayOfBytes_18 rfl (lv_at hl 0 rfl) ?_
      exact ro_ret S hr hk (by simp [sWay, c2, c4]) dS_wayOfBytes_19
  · skip
    refine lv_iload_n hx hb dS_wayOfBytes_18 rfl (lv_at hl 0 rfl) ?_
    exact ro_ret S hr hk (by simp [sWay, c2]) dS_wayOfBytes_19
def sRef (f : Nat → Int32) (n : Nat) (w : Int32) : Nat → Int32 → Int32
  | 0, _ => -1
  | j + 1, x => if nI n ≤ x then -1 else if sChar (sN f n x w) = true then sRef f n w j (x + sSize (sN f n x w) w) else x
def sPlace (f : Nat → Int32) (n : Nat) (w : Int32) : Int32 := sRef f n w 4096 (sMark w)
def xWC (D : va_G) (h qb qt : Nat) (cI : ClassId) (n tl : Nat) (wy : Int32) (f g : Nat → Int32) (tc : Nat) : State → Heap → Prop := fun U H => xW D h qb qt cI n tl wy f g U H ∧ xC tc U H
theorem xWC_V {D : va_G} {h qb qt : Nat} {cI : ClassId} {n tl : Nat} {wy : Int32} {f g : Nat → Int32} {tc : Nat} {s : State} {H : Heap} {As : List Value} (q : xWC D h qb qt cI n tl wy f g tc s H) : PreV s H "SignReader" h (gx (xWC D h qb qt cI n tl wy f g tc) (.ref h :: As)) As := gx_V (ok_and xW_ok xC_ok) q (va_recv q.1.2 q.1.1 (ci := 0) (q0 := 0) (q := ("SignReader", T_S, 5)) rfl rfl)
set_option maxHeartbeats 4000000 in
set_option maxRecDepth 100000 in
theorem cS_placeRefused (l : Launch) (D : va_G) (h qb qt : Nat) (cI : ClassId) (n tl : Nat) (wy : Int32) (f g : Nat → Int32) (hn : n ≤ 4096) (ht : tl ≤ 4096) (tc : Nat) (w : Int32) : Met l yS_placeRefused (Cond.code yS_placeRefused prog_1_method_17_code 5 (some .int) :: TB) { frames := 5, cells := 0, slots := 0, locals := 112 } (gx (xWC D h qb qt cI n tl wy f g tc) [.ref h, .int w]) (QcRead (sPlace f n w)) 0 0 (fun _ => False) := by
  refine mt_of (by decide) ?_
  intro p e s m args below meth cd S hr hk hin hv
  obtain ⟨rfl, hX⟩ := hv
  have hP := hX.1.1
  have hK := hX.1.2
  have hx := S.1
  have hb := S.2.1
  have hown := S.2.2.2.1
  have hts := S.2.2.2.2
  have hl := lv_entry ([.ref h, .int w]) (n := 5) (Nat.le_of_ble_eq_true rfl)
  rw [lg_entry_eq]
  generalize (lg_sl ([.ref h, .int w]) ++ List.replicate (5 - (lg_sl ([.ref h, .int w])).length) Slot.unset).toArray = ls at hl ⊢
  have hl : lv_has ls 5 [(0, .ref h), (1, .int w)] := hl
  refine lv_iload_n hx hb dS_placeRefused_0 rfl (lv_at hl 1 rfl) ?_
  refine ro_S (As := [.int w]) (rest := []) (n := 1) S (cS_sizeOfMark l (w)) k97 k1 k96 (by decide +kernel) ⟨rfl, rfl⟩ k95 (by decide) preEq rfl rfl hl.1 (Nat.le_of_ble_eq_true rfl) ⟨Nat.le_refl _, Nat.le_refl _⟩ dS_placeRefused_1 ?_
  refine lv_istore_n (lv' := [(2, .int (sMark w)), (0, .ref h), (1, .int w)]) hx hb dS_placeRefused_4 rfl hl (by decide) rfl (fun ls hl => ?_)
  refine lv_iconst (v := 0) hx hb dS_placeRefused_5 (by decide) ?_
  refine lv_istore_n (lv' := [(3, .int 0), (2, .int (sMark w)), (0, .ref h), (1, .int w)]) hx hb dS_placeRefused_6 rfl hl (by decide) rfl (fun ls hl => ?_)
  have J7 : ∀ (fu : Nat) (z : Int32) (x : Int32) (k : Nat), x = nI k → k ≤ 4096 → 4096 < k + fu → sPlace f n w = sRef f n w (4096 - k) z → ∀ ls : Array Slot, lv_has ls 5 [(0, .ref h), (1, .int w), (2, .int z), (3, .int x)] → W p l e { frames := 5, cells := 0, slots := 0, locals := 112 } s m [.ref h, .int w].toArray below meth cd s.heap [] 0 0 (MQ below (QcRead (sPlace f n w)) [.ref h, .int w].toArray s 0 0 (fun _ => False)) (F0 m 7 ls []) := by
    intro fu
    induction fu with
    | zero =>
      intro z x k hx9 hk9 hf9 hR ls hl
      exact absurd hf9 (by omega)
    | succ fu ih =>
      intro z x k hx9 hk9 hf9 hR ls hl
      subst hx9
      refine lv_iload_n hx hb dS_placeRefused_7 rfl (lv_at hl 3 rfl) ?_
      refine lv_sipush (v := 4096) hx hb dS_placeRefused_8 (by decide) ?_
      refine lv_icmp_ge (tgt := 55) hx hb dS_placeRefused_11 (by decide) (fun c1 => ?_) (fun c1 => ?_)
      · skip
        rw [show (4096 : Int32) = nI 4096 from rfl, nI_leI (by omega) (by omega)] at c1
        rw [show 4096 - k = 0 by omega] at hR
        refine lv_iconst (v := (-1)) hx hb dS_placeRefused_55 (by decide) ?_
        exact ro_ret S hr hk (by rw [hR]; rfl) dS_placeRefused_56
      · skip
        rw [show (4096 : Int32) = nI 4096 from rfl, nI_leI (by omega) (by omega)] at c1
        rw [show 4096 - k = (4095 - k) + 1 by omega] at hR
        simp only [sRef] at hR
        refine lv_iload_n hx hb dS_placeRefused_14 rfl (lv_at hl 2 rfl) ?_
        refine lv_aload_n hx hb dS_placeRefused_15 rfl (lv_at hl 0 rfl) ?_
        refine va_get (D := D) (ci := 0) (v := .int (nI n)) (C := "SignReader") (T := T_S) (N := 5) hx hb hts i_S hown hK hP 0 rfl rfl 2 (by decide) (hts _ k24) (fun _ h9 => h9) rfl dS_placeRefused_16 ?_
        refine lv_icmp_ge (tgt := 55) hx hb dS_placeRefused_19 (by decide) (fun c2 => ?_) (fun c2 => ?_)
        · skip
          refine lv_iconst (v := (-1)) hx hb dS_placeRefused_55 (by decide) ?_
          exact ro_ret S hr hk (by rw [hR]; simp only [sRef, c2, Bool.false_eq_true, ↓reduceIte]) dS_placeRefused_56
        · skip
          refine lv_aload_n hx hb dS_placeRefused_22 rfl (lv_at hl 0 rfl) ?_
          refine lv_iload_n hx hb dS_placeRefused_23 rfl (lv_at hl 2 rfl) ?_
          refine lv_iload_n hx hb dS_placeRefused_24 rfl (lv_at hl 1 rfl) ?_
          refine ro_V (r := (sN f n z w)) (As := [.int z, .int w]) (rest := []) (n := 2) (C := "SignReader") S (cS_numberAt l D h qb qt cI n tl wy f g hn ht (z) (w)) k62 k1 k61 ks2 (by decide +kernel) ⟨rfl, rfl⟩ k59 (by decide) (xW_V hX.1) rfl rfl hl.1 (Nat.le_of_ble_eq_true rfl) ⟨Nat.le_refl _, Nat.le_refl _⟩ dS_placeRefused_25 ?_
          refine lv_istore (lv' := [(4, .int (sN f n z w)), (0, .ref h), (1, .int w), (2, .int z), (3, .int (nI k))]) hx hb dS_placeRefused_28 hl (by decide) rfl (fun ls hl => ?_)
          refine lv_iload hx hb dS_placeRefused_30 (lv_at hl 0 rfl) ?_
          refine ro_S (As := [.int (sN f n z w)]) (rest := []) (n := 1) S (cS_isCharacter l tc ((sN f n z w))) k106 k1 k105 (by decide +kernel) ⟨rfl, rfl⟩ k104 (by decide) (gx_S xC_ok hX.2) rfl rfl hl.1 (Nat.le_of_ble_eq_true rfl) ⟨Nat.le_refl _, Nat.le_refl _⟩ dS_placeRefused_32 ?_
          refine lv_if_ne (tgt := 40) hx hb dS_placeRefused_35 (by decide) (fun c3 => ?_) (fun c3 => ?_)
          · skip
            replace c3 := bI_t c3
            refine lv_iload_n hx hb dS_placeRefused_40 rfl (lv_at hl 3 rfl) ?_
            refine lv_iload hx hb dS_placeRefused_41 (lv_at hl 0 rfl) ?_
            refine lv_iload_n hx hb dS_placeRefused_43 rfl (lv_at hl 2 rfl) ?_
            refine ro_S (As := [.int (sN f n z w), .int w]) (rest := [.int z]) (n := 2) S (cS_sizeOf l ((sN f n z w)) (w)) k100 k1 k99 (by decide +kernel) ⟨rfl, rfl⟩ k98 (by decide) preEq rfl rfl hl.1 (Nat.le_of_ble_eq_true rfl) ⟨Nat.le_refl _, Nat.le_refl _⟩ dS_placeRefused_44 ?_
            refine lv_iadd hx hb dS_placeRefused_47 ?_
            refine lv_istore_n (lv' := [(2, .int (z + (sSize (sN f n z w) w))), (4, .int (sN f n z w)), (0, .ref h), (1, .int w), (3, .int (nI k))]) hx hb dS_placeRefused_48 rfl hl (by decide) rfl (fun ls hl => ?_)
            refine lv_iinc (v := ((nI k) + 1)) (lv' := [(3, .int ((nI k) + 1)), (2, .int (z + (sSize (sN f n z w) w))), (4, .int (sN f n z w)), (0, .ref h), (1, .int w)]) hx hb dS_placeRefused_49 hl (k := 4) rfl rfl (by decide) rfl (fun ls hl => ?_)
            refine lv_goto (tgt := 7) hx hb dS_placeRefused_52 (by decide) ?_
            exact ih ((z + (sSize (sN f n z w) w))) (((nI k) + 1)) (k + 1) (nI_1 k) (by omega) (by omega) (by rw [hR]; simp only [c2, c3, ↓reduceIte]; rw [show 4096 - (k + 1) = 4095 - k by omega]) ls (lv_sub hl [3, 4, 1, 0] rfl) 
          · skip
            replace c3 := bI_f c3
            refine lv_iload_n hx hb dS_placeRefused_38 rfl (lv_at hl 3 rfl) ?_
            exact ro_ret S hr hk (by rw [hR]; simp only [sRef, c2, c3, Bool.false_eq_true, ↓reduceIte]) dS_placeRefused_39
  exact J7 (4097) ((sMark w)) (0) (0) (rfl) (by omega) (by omega) (by unfold sPlace; rw [Nat.sub_zero]) ls (lv_sub hl [2, 3, 1, 0] rfl) 
def sWr (g : Nat → Int32) (w : Int32) : Nat → Int32
  | 0 => sMark w
  | k + 1 => sWr g w k + sSize (g k) w
set_option maxHeartbeats 4000000 in
set_option maxRecDepth 100000 in
theorem cS_sizeWritten (l : Launch) (D : va_G) (h qb qt : Nat) (cI : ClassId) (n tl : Nat) (wy : Int32) (f g : Nat → Int32) (hn : n ≤ 4096) (ht : tl ≤ 4096) (w : Int32) : Met l yS_sizeWritten (Cond.code yS_sizeWritten prog_1_method_25_code 4 (some .int) :: TB) { frames := 3, cells := 0, slots := 0, locals := 61 } (gx (xW D h qb qt cI n tl wy f g) [.ref h, .int w]) (QcRead (sWr g w tl)) 0 0 (fun _ => False) := by
  refine mt_of (by decide) ?_
  intro p e s m args below meth cd S hr hk hin hv
  obtain ⟨rfl, hX⟩ := hv
  have hP := hX.1
  have hK := hX.2
  have hx := S.1
  have hb := S.2.1
  have hown := S.2.2.2.1
  have hts := S.2.2.2.2
  have hl := lv_entry ([.ref h, .int w]) (n := 4) (Nat.le_of_ble_eq_true rfl)
  rw [lg_entry_eq]
  generalize (lg_sl ([.ref h, .int w]) ++ List.replicate (4 - (lg_sl ([.ref h, .int w])).length) Slot.unset).toArray = ls at hl ⊢
  have hl : lv_has ls 4 [(0, .ref h), (1, .int w)] := hl
  refine lv_iload_n hx hb dS_sizeWritten_0 rfl (lv_at hl 1 rfl) ?_
  refine ro_S (As := [.int w]) (rest := []) (n := 1) S (cS_sizeOfMark l (w)) k97 k1 k96 (by decide +kernel) ⟨rfl, rfl⟩ k95 (by decide) preEq rfl rfl hl.1 (Nat.le_of_ble_eq_true rfl) ⟨Nat.le_refl _, Nat.le_refl _⟩ dS_sizeWritten_1 ?_
  refine lv_istore_n (lv' := [(2, .int (sMark w)), (0, .ref h), (1, .int w)]) hx hb dS_sizeWritten_4 rfl hl (by decide) rfl (fun ls hl => ?_)
  refine lv_iconst (v := 0) hx hb dS_sizeWritten_5 (by decide) ?_
  refine lv_istore_n (lv' := [(3, .int 0), (2, .int (sMark w)), (0, .ref h), (1, .int w)]) hx hb dS_sizeWritten_6 rfl hl (by decide) rfl (fun ls hl => ?_)
  have J7 : ∀ (fu : Nat) (z : Int32) (x : Int32) (k : Nat), x = nI k → k ≤ tl → tl < k + fu → z = sWr g w k → ∀ ls : Array Slot, lv_has ls 4 [(0, .ref h), (1, .int w), (2, .int z), (3, .int x)] → W p l e { frames := 3, cells := 0, slots := 0, locals := 61 } s m [.ref h, .int w].toArray below meth cd s.heap [] 0 0 (MQ below (QcRead (sWr g w tl)) [.ref h, .int w].toArray s 0 0 (fun _ => False)) (F0 m 7 ls []) := by
    intro fu
    induction fu with
    | zero =>
      intro z x k hx9 hk9 hf9 hR ls hl
      exact absurd hf9 (by omega)
    | succ fu ih =>
      intro z x k hx9 hk9 hf9 hR ls hl
      subst hx9
      subst hR
      refine lv_iload_n hx hb dS_sizeWritten_7 rfl (lv_at hl 3 rfl) ?_
      refine lv_aload_n hx hb dS_sizeWritten_8 rfl (lv_at hl 0 rfl) ?_
      refine va_get (D := D) (ci := 0) (v := .int (nI tl)) (C := "SignReader") (T := T_S) (N := 5) hx hb hts i_S hown hK hP 0 rfl rfl 3 (by decide) (hts _ k25) (fun _ h9 => h9) rfl dS_sizeWritten_9 ?_
      refine lv_icmp_ge (tgt := 34) hx hb dS_sizeWritten_12 (by decide) (fun c1 => ?_) (fun c1 => ?_)
      · skip
        rw [nI_leI (by omega) (by omega)] at c1
        refine lv_iload_n hx hb dS_sizeWritten_34 rfl (lv_at hl 2 rfl) ?_
        exact ro_ret S hr hk (by rw [show k = tl by omega]) dS_sizeWritten_35
      · skip
        rw [nI_leI (by omega) (by omega)] at c1
        refine lv_iload_n hx hb dS_sizeWritten_15 rfl (lv_at hl 2 rfl) ?_
        refine lv_aload_n hx hb dS_sizeWritten_16 rfl (lv_at hl 0 rfl) ?_
        refine va_get (D := D) (ci := 0) (v := .ref qt) (C := "SignReader") (T := T_S) (N := 5) hx hb hts i_S hown hK hP 0 rfl rfl 1 (by decide) (hts _ k23) (fun _ h9 => h9) rfl dS_sizeWritten_17 ?_
        refine lv_iload_n hx hb dS_sizeWritten_20 rfl (lv_at hl 3 rfl) ?_
        refine va_iald hx hb hK hP 2 0 rfl rfl (by exact vp_in_nI (by omega) (by omega)) dS_sizeWritten_21 ?_
        rw [nI_clamp (n := k) (by omega)]
        refine lv_iload_n hx hb dS_sizeWritten_22 rfl (lv_at hl 1 rfl) ?_
        refine ro_S (As := [.int (g k), .int w]) (rest := [.int (sWr g w k)]) (n := 2) S (cS_sizeOf l ((g k)) (w)) k100 k1 k99 (by decide +kernel) ⟨rfl, rfl⟩ k98 (by decide) preEq rfl rfl hl.1 (Nat.le_of_ble_eq_true rfl) ⟨Nat.le_refl _, Nat.le_refl _⟩ dS_sizeWritten_23 ?_
        refine lv_iadd hx hb dS_sizeWritten_26 ?_
        refine lv_istore_n (lv' := [(2, .int ((sWr g w k) + (sSize (g k) w))), (0, .ref h), (1, .int w), (3, .int (nI k))]) hx hb dS_sizeWritten_27 rfl hl (by decide) rfl (fun ls hl => ?_)
        refine lv_iinc (v := ((nI k) + 1)) (lv' := [(3, .int ((nI k) + 1)), (2, .int ((sWr g w k) + (sSize (g k) w))), (0, .ref h), (1, .int w)]) hx hb dS_sizeWritten_28 hl (k := 3) rfl rfl (by decide) rfl (fun ls hl => ?_)
        refine lv_goto (tgt := 7) hx hb dS_sizeWritten_31 (by decide) ?_
        exact ih (((sWr g w k) + (sSize (g k) w))) (((nI k) + 1)) (k + 1) (nI_1 k) (by omega) (by omega) (rfl) ls (lv_sub hl [2, 3, 1, 0] rfl) 
  exact J7 (tl + 1) ((sMark w)) (0) (0) (rfl) (by omega) (by omega) (rfl) ls (lv_sub hl [2, 3, 1, 0] rfl) 
