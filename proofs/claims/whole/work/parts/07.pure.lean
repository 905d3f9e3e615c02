/-! methods of numbers alone -/
def bI (b : Bool) : Int32 := if b then 1 else 0
theorem bI_t {b : Bool} (h : ¬ bI b = 0) : b = true := by cases b; exact absurd rfl h; rfl
theorem bI_f {b : Bool} (h : bI b = 0) : b = false := by cases b; rfl; exact absurd h (by decide)
theorem bI_n (b : Bool) : narrow .boolean (.int (bI b)) = .int (bI b) := by cases b <;> rfl
def sIn (c lo hi : Int32) : Bool := decide (lo ≤ c) && decide (c ≤ hi)
set_option maxHeartbeats 4000000 in
set_option maxRecDepth 100000 in
theorem cM_isIn (l : Launch) (c lo hi : Int32) : Met l yM_isIn (Cond.code yM_isIn prog_3_method_3_code 3 (some .boolean) :: TB) { frames := 0, cells := 0, slots := 0, locals := 0 } (pu [.int c, .int lo, .int hi]) (QcRead (bI (sIn c lo hi))) 0 0 (fun _ => False) := by
  refine mt_of (by decide) ?_
  intro p e s m args below meth cd S hr hk hin hv
  subst hv
  have hx := S.1
  have hb := S.2.1
  have hown := S.2.2.2.1
  have hts := S.2.2.2.2
  have hl := lv_entry ([.int c, .int lo, .int hi]) (n := 3) (Nat.le_of_ble_eq_true rfl)
  rw [lg_entry_eq]
  generalize (lg_sl ([.int c, .int lo, .int hi]) ++ List.replicate (3 - (lg_sl ([.int c, .int lo, .int hi])).length) Slot.unset).toArray = ls at hl ⊢
  have hl : lv_has ls 3 [(0, .int c), (1, .int lo), (2, .int hi)] := hl
  refine lv_iload_n hx hb dM_isIn_0 rfl (lv_at hl 0 rfl) ?_
  refine lv_iload_n hx hb dM_isIn_1 rfl (lv_at hl 1 rfl) ?_
  refine lv_icmp_lt (tgt := 14) hx hb dM_isIn_2 (by decide) (fun c1 => ?_) (fun c1 => ?_)
  · skip
    replace c1 := Int32.not_le.mpr c1
    refine lv_iconst (v := 0) hx hb dM_isIn_14 (by decide) ?_
    exact ro_retZ S hr hk (by rfl) (by simp [sIn, bI, c1]) dM_isIn_15
  · skip
    replace c1 := Int32.not_lt.mp c1
    refine lv_iload_n hx hb dM_isIn_5 rfl (lv_at hl 0 rfl) ?_
    refine lv_iload_n hx hb dM_isIn_6 rfl (lv_at hl 2 rfl) ?_
    refine lv_icmp_gt (tgt := 14) hx hb dM_isIn_7 (by decide) (fun c2 => ?_) (fun c2 => ?_)
    · skip
      replace c2 := Int32.not_le.mpr c2
      refine lv_iconst (v := 0) hx hb dM_isIn_14 (by decide) ?_
      exact ro_retZ S hr hk (by rfl) (by simp [sIn, bI, c1, c2]) dM_isIn_15
    · skip
      replace c2 := Int32.not_lt.mp c2
      refine lv_iconst (v := 1) hx hb dM_isIn_10 (by decide) ?_
      refine lv_goto (tgt := 15) hx hb dM_isIn_11 (by decide) ?_
      exact ro_retZ S hr hk (by rfl) (by simp [sIn, bI, c1, c2]) dM_isIn_15
def s16 (w : Int32) : Bool := decide (w = 1) || decide (w = 2)
set_option maxHeartbeats 4000000 in
set_option maxRecDepth 100000 in
theorem cS_isSixteenBits (l : Launch) (w : Int32) : Met l yS_isSixteenBits (Cond.code yS_isSixteenBits prog_1_method_30_code 1 (some .boolean) :: TB) { frames := 0, cells := 0, slots := 0, locals := 0 } (pu [.int w]) (QcRead (bI (s16 w))) 0 0 (fun _ => False) := by
  refine mt_of (by decide) ?_
  intro p e s m args below meth cd S hr hk hin hv
  subst hv
  have hx := S.1
  have hb := S.2.1
  have hown := S.2.2.2.1
  have hts := S.2.2.2.2
  have hl := lv_entry ([.int w]) (n := 1) (Nat.le_of_ble_eq_true rfl)
  rw [lg_entry_eq]
  generalize (lg_sl ([.int w]) ++ List.replicate (1 - (lg_sl ([.int w])).length) Slot.unset).toArray = ls at hl ⊢
  have hl : lv_has ls 1 [(0, .int w)] := hl
  refine lv_iload_n hx hb dS_isSixteenBits_0 rfl (lv_at hl 0 rfl) ?_
  refine lv_iconst (v := 1) hx hb dS_isSixteenBits_1 (by decide) ?_
  refine lv_icmp_eq (tgt := 10) hx hb dS_isSixteenBits_2 (by decide) (fun c1 => ?_) (fun c1 => ?_)
  · skip
    refine lv_iconst (v := 1) hx hb dS_isSixteenBits_10 (by decide) ?_
    refine lv_goto (tgt := 15) hx hb dS_isSixteenBits_11 (by decide) ?_
    exact ro_retZ S hr hk (by rfl) (by simp [s16, bI, c1]) dS_isSixteenBits_15
  · skip
    refine lv_iload_n hx hb dS_isSixteenBits_5 rfl (lv_at hl 0 rfl) ?_
    refine lv_iconst (v := 2) hx hb dS_isSixteenBits_6 (by decide) ?_
    refine lv_icmp_ne (tgt := 14) hx hb dS_isSixteenBits_7 (by decide) (fun c2 => ?_) (fun c2 => ?_)
    · skip
      refine lv_iconst (v := 0) hx hb dS_isSixteenBits_14 (by decide) ?_
      exact ro_retZ S hr hk (by rfl) (by simp [s16, bI, c1, c2]) dS_isSixteenBits_15
    · skip
      refine lv_iconst (v := 1) hx hb dS_isSixteenBits_10 (by decide) ?_
      refine lv_goto (tgt := 15) hx hb dS_isSixteenBits_11 (by decide) ?_
      exact ro_retZ S hr hk (by rfl) (by simp [s16, bI, c1, c2]) dS_isSixteenBits_15
def sBehind (a : Int32) : Int32 := if a &&& 224 = 192 then 1 else if a &&& 240 = 224 then 2 else if a &&& 248 = 240 then 3 else 0
set_option maxHeartbeats 4000000 in
set_option maxRecDepth 100000 in
theorem cS_bytesBehind (l : Launch) (a : Int32) : Met l yS_bytesBehind (Cond.code yS_bytesBehind prog_1_method_22_code 1 (some .int) :: TB) { frames := 0, cells := 0, slots := 0, locals := 0 } (pu [.int a]) (QcRead (sBehind a)) 0 0 (fun _ => False) := by
  refine mt_of (by decide) ?_
  intro p e s m args below meth cd S hr hk hin hv
  subst hv
  have hx := S.1
  have hb := S.2.1
  have hown := S.2.2.2.1
  have hts := S.2.2.2.2
  have hl := lv_entry ([.int a]) (n := 1) (Nat.le_of_ble_eq_true rfl)
  rw [lg_entry_eq]
  generalize (lg_sl ([.int a]) ++ List.replicate (1 - (lg_sl ([.int a])).length) Slot.unset).toArray = ls at hl ⊢
  have hl : lv_has ls 1 [(0, .int a)] := hl
  refine lv_iload_n hx hb dS_bytesBehind_0 rfl (lv_at hl 0 rfl) ?_
  refine lv_sipush (v := 224) hx hb dS_bytesBehind_1 (by decide) ?_
  refine lv_iand hx hb dS_bytesBehind_4 ?_
  refine lv_sipush (v := 192) hx hb dS_bytesBehind_5 (by decide) ?_
  refine lv_icmp_ne (tgt := 13) hx hb dS_bytesBehind_8 (by decide) (fun c1 => ?_) (fun c1 => ?_)
  · skip
    refine lv_iload_n hx hb dS_bytesBehind_13 rfl (lv_at hl 0 rfl) ?_
    refine lv_sipush (v := 240) hx hb dS_bytesBehind_14 (by decide) ?_
    refine lv_iand hx hb dS_bytesBehind_17 ?_
    refine lv_sipush (v := 224) hx hb dS_bytesBehind_18 (by decide) ?_
    refine lv_icmp_ne (tgt := 26) hx hb dS_bytesBehind_21 (by decide) (fun c2 => ?_) (fun c2 => ?_)
    · skip
      refine lv_iload_n hx hb dS_bytesBehind_26 rfl (lv_at hl 0 rfl) ?_
      refine lv_sipush (v := 248) hx hb dS_bytesBehind_27 (by decide) ?_
      refine lv_iand hx hb dS_bytesBehind_30 ?_
      refine lv_sipush (v := 240) hx hb dS_bytesBehind_31 (by decide) ?_
      refine lv_icmp_ne (tgt := 41) hx hb dS_bytesBehind_34 (by decide) (fun c3 => ?_) (fun c3 => ?_)
      · skip
        refine lv_iconst (v := 0) hx hb dS_bytesBehind_41 (by decide) ?_
        exact ro_ret S hr hk (by simp [sBehind, c1, c2, c3]) dS_bytesBehind_42
      · skip
        refine lv_iconst (v := 3) hx hb dS_bytesBehind_37 (by decide) ?_
        refine lv_goto (tgt := 42) hx hb dS_bytesBehind_38 (by decide) ?_
        exact ro_ret S hr hk (by simp [sBehind, c1, c2, c3]) dS_bytesBehind_42
    · skip
      refine lv_iconst (v := 2) hx hb dS_bytesBehind_24 (by decide) ?_
      exact ro_ret S hr hk (by simp [sBehind, c1, c2]) dS_bytesBehind_25
  · skip
    refine lv_iconst (v := 1) hx hb dS_bytesBehind_11 (by decide) ?_
    exact ro_ret S hr hk (by simp [sBehind, c1]) dS_bytesBehind_12
def sSize8 (c : Int32) : Int32 := if 128 ≤ c then (if 2048 ≤ c then (if 65536 ≤ c then 4 else 3) else 2) else 1
set_option maxHeartbeats 4000000 in
set_option maxRecDepth 100000 in
theorem cS_sizeOf8Bits (l : Launch) (c : Int32) : Met l yS_sizeOf8Bits (Cond.code yS_sizeOf8Bits prog_1_method_28_code 1 (some .int) :: TB) { frames := 0, cells := 0, slots := 0, locals := 0 } (pu [.int c]) (QcRead (sSize8 c)) 0 0 (fun _ => False) := by
  refine mt_of (by decide) ?_
  intro p e s m args below meth cd S hr hk hin hv
  subst hv
  have hx := S.1
  have hb := S.2.1
  have hown := S.2.2.2.1
  have hts := S.2.2.2.2
  have hl := lv_entry ([.int c]) (n := 1) (Nat.le_of_ble_eq_true rfl)
  rw [lg_entry_eq]
  generalize (lg_sl ([.int c]) ++ List.replicate (1 - (lg_sl ([.int c])).length) Slot.unset).toArray = ls at hl ⊢
  have hl : lv_has ls 1 [(0, .int c)] := hl
  refine lv_iload_n hx hb dS_sizeOf8Bits_0 rfl (lv_at hl 0 rfl) ?_
  refine lv_sipush (v := 128) hx hb dS_sizeOf8Bits_1 (by decide) ?_
  refine lv_icmp_ge (tgt := 9) hx hb dS_sizeOf8Bits_4 (by decide) (fun c1 => ?_) (fun c1 => ?_)
  · skip
    refine lv_iload_n hx hb dS_sizeOf8Bits_9 rfl (lv_at hl 0 rfl) ?_
    refine lv_sipush (v := 2048) hx hb dS_sizeOf8Bits_10 (by decide) ?_
    refine lv_icmp_ge (tgt := 18) hx hb dS_sizeOf8Bits_13 (by decide) (fun c2 => ?_) (fun c2 => ?_)
    · skip
      refine lv_iload_n hx hb dS_sizeOf8Bits_18 rfl (lv_at hl 0 rfl) ?_
      refine lv_ldc (v := 65536) hx hb hown (hts _ k79) dS_sizeOf8Bits_19 ?_
      refine lv_icmp_ge (tgt := 28) hx hb dS_sizeOf8Bits_21 (by decide) (fun c3 => ?_) (fun c3 => ?_)
      · skip
        refine lv_iconst (v := 4) hx hb dS_sizeOf8Bits_28 (by decide) ?_
        exact ro_ret S hr hk (by simp [sSize8, c1, c2, c3]) dS_sizeOf8Bits_29
      · skip
        refine lv_iconst (v := 3) hx hb dS_sizeOf8Bits_24 (by decide) ?_
        refine lv_goto (tgt := 29) hx hb dS_sizeOf8Bits_25 (by decide) ?_
        exact ro_ret S hr hk (by simp [sSize8, c1, c2, c3]) dS_sizeOf8Bits_29
    · skip
      refine lv_iconst (v := 2) hx hb dS_sizeOf8Bits_16 (by decide) ?_
      exact ro_ret S hr hk (by simp [sSize8, c1, c2]) dS_sizeOf8Bits_17
  · skip
    refine lv_iconst (v := 1) hx hb dS_sizeOf8Bits_7 (by decide) ?_
    exact ro_ret S hr hk (by simp [sSize8, c1]) dS_sizeOf8Bits_8
set_option maxHeartbeats 4000000 in
set_option maxRecDepth 100000 in
theorem cM_bytesOf (l : Launch) (c : Int32) : Met l yM_bytesOf (Cond.code yM_bytesOf prog_3_method_12_code 1 (some .int) :: TB) { frames := 0, cells := 0, slots := 0, locals := 0 } (pu [.int c]) (QcRead (sSize8 c)) 0 0 (fun _ => False) := by
  refine mt_of (by decide) ?_
  intro p e s m args below meth cd S hr hk hin hv
  subst hv
  have hx := S.1
  have hb := S.2.1
  have hown := S.2.2.2.1
  have hts := S.2.2.2.2
  have hl := lv_entry ([.int c]) (n := 1) (Nat.le_of_ble_eq_true rfl)
  rw [lg_entry_eq]
  generalize (lg_sl ([.int c]) ++ List.replicate (1 - (lg_sl ([.int c])).length) Slot.unset).toArray = ls at hl ⊢
  have hl : lv_has ls 1 [(0, .int c)] := hl
  refine lv_iload_n hx hb dM_bytesOf_0 rfl (lv_at hl 0 rfl) ?_
  refine lv_sipush (v := 128) hx hb dM_bytesOf_1 (by decide) ?_
  refine lv_icmp_ge (tgt := 11) hx hb dM_bytesOf_4 (by decide) (fun c1 => ?_) (fun c1 => ?_)
  · skip
    refine lv_iload_n hx hb dM_bytesOf_11 rfl (lv_at hl 0 rfl) ?_
    refine lv_sipush (v := 2048) hx hb dM_bytesOf_12 (by decide) ?_
    refine lv_icmp_ge (tgt := 22) hx hb dM_bytesOf_15 (by decide) (fun c2 => ?_) (fun c2 => ?_)
    · skip
      refine lv_iload_n hx hb dM_bytesOf_22 rfl (lv_at hl 0 rfl) ?_
      refine lv_ldc (v := 65536) hx hb hown (hts _ k466) dM_bytesOf_23 ?_
      refine lv_icmp_ge (tgt := 32) hx hb dM_bytesOf_25 (by decide) (fun c3 => ?_) (fun c3 => ?_)
      · skip
        refine lv_iconst (v := 4) hx hb dM_bytesOf_32 (by decide) ?_
        exact ro_ret S hr hk (by simp [sSize8, c1, c2, c3]) dM_bytesOf_33
      · skip
        refine lv_iconst (v := 3) hx hb dM_bytesOf_28 (by decide) ?_
        refine lv_goto (tgt := 33) hx hb dM_bytesOf_29 (by decide) ?_
        exact ro_ret S hr hk (by simp [sSize8, c1, c2, c3]) dM_bytesOf_33
    · skip
      refine lv_iconst (v := 2) hx hb dM_bytesOf_18 (by decide) ?_
      refine lv_goto (tgt := 33) hx hb dM_bytesOf_19 (by decide) ?_
      exact ro_ret S hr hk (by simp [sSize8, c1, c2]) dM_bytesOf_33
  · skip
    refine lv_iconst (v := 1) hx hb dM_bytesOf_7 (by decide) ?_
    refine lv_goto (tgt := 33) hx hb dM_bytesOf_8 (by decide) ?_
    exact ro_ret S hr hk (by simp [sSize8, c1]) dM_bytesOf_33
def sSize16 (c : Int32) : Int32 := if 65536 ≤ c then 4 else 2
set_option maxHeartbeats 4000000 in
set_option maxRecDepth 100000 in
theorem cS_sizeOf16Bits (l : Launch) (c : Int32) : Met l yS_sizeOf16Bits (Cond.code yS_sizeOf16Bits prog_1_method_29_code 1 (some .int) :: TB) { frames := 0, cells := 0, slots := 0, locals := 0 } (pu [.int c]) (QcRead (sSize16 c)) 0 0 (fun _ => False) := by
  refine mt_of (by decide) ?_
  intro p e s m args below meth cd S hr hk hin hv
  subst hv
  have hx := S.1
  have hb := S.2.1
  have hown := S.2.2.2.1
  have hts := S.2.2.2.2
  have hl := lv_entry ([.int c]) (n := 1) (Nat.le_of_ble_eq_true rfl)
  rw [lg_entry_eq]
  generalize (lg_sl ([.int c]) ++ List.replicate (1 - (lg_sl ([.int c])).length) Slot.unset).toArray = ls at hl ⊢
  have hl : lv_has ls 1 [(0, .int c)] := hl
  refine lv_iload_n hx hb dS_sizeOf16Bits_0 rfl (lv_at hl 0 rfl) ?_
  refine lv_ldc (v := 65536) hx hb hown (hts _ k79) dS_sizeOf16Bits_1 ?_
  refine lv_icmp_ge (tgt := 10) hx hb dS_sizeOf16Bits_3 (by decide) (fun c1 => ?_) (fun c1 => ?_)
  · skip
    refine lv_iconst (v := 4) hx hb dS_sizeOf16Bits_10 (by decide) ?_
    exact ro_ret S hr hk (by simp [sSize16, c1]) dS_sizeOf16Bits_11
  · skip
    refine lv_iconst (v := 2) hx hb dS_sizeOf16Bits_6 (by decide) ?_
    refine lv_goto (tgt := 11) hx hb dS_sizeOf16Bits_7 (by decide) ?_
    exact ro_ret S hr hk (by simp [sSize16, c1]) dS_sizeOf16Bits_11
def sSize (c w : Int32) : Int32 := if s16 w = true then sSize16 c else sSize8 c
set_option maxHeartbeats 4000000 in
set_option maxRecDepth 100000 in
theorem cS_sizeOf (l : Launch) (c w : Int32) : Met l yS_sizeOf (Cond.code yS_sizeOf prog_1_method_27_code 2 (some .int) :: TB) { frames := 1, cells := 0, slots := 0, locals := 20 } (pu [.int c, .int w]) (QcRead (sSize c w)) 0 0 (fun _ => False) := by
  refine mt_of (by decide) ?_
  intro p e s m args below meth cd S hr hk hin hv
  subst hv
  have hx := S.1
  have hb := S.2.1
  have hown := S.2.2.2.1
  have hts := S.2.2.2.2
  have hl := lv_entry ([.int c, .int w]) (n := 2) (Nat.le_of_ble_eq_true rfl)
  rw [lg_entry_eq]
  generalize (lg_sl ([.int c, .int w]) ++ List.replicate (2 - (lg_sl ([.int c, .int w])).length) Slot.unset).toArray = ls at hl ⊢
  have hl : lv_has ls 2 [(0, .int c), (1, .int w)] := hl
  refine lv_iload_n hx hb dS_sizeOf_0 rfl (lv_at hl 1 rfl) ?_
  refine ro_S (As := [.int w]) (rest := []) (n := 1) S (cS_isSixteenBits l (w)) k65 k1 k64 (by decide +kernel) ⟨rfl, rfl⟩ k63 (by decide) preEq rfl rfl hl.1 (Nat.le_of_ble_eq_true rfl) ⟨Nat.le_refl _, Nat.le_refl _⟩ dS_sizeOf_1 ?_
  refine lv_if_eq (tgt := 14) hx hb dS_sizeOf_4 (by decide) (fun c1 => ?_) (fun c1 => ?_)
  · skip
    replace c1 := bI_f c1
    refine lv_iload_n hx hb dS_sizeOf_14 rfl (lv_at hl 0 rfl) ?_
    refine ro_S (As := [.int c]) (rest := []) (n := 1) S (cS_sizeOf8Bits l (c)) k89 k1 k88 (by decide +kernel) ⟨rfl, rfl⟩ k87 (by decide) preEq rfl rfl hl.1 (Nat.le_of_ble_eq_true rfl) ⟨Nat.le_refl _, Nat.le_refl _⟩ dS_sizeOf_15 ?_
    exact ro_ret S hr hk (by simp [sSize, c1]) dS_sizeOf_18
  · skip
    replace c1 := bI_t c1
    refine lv_iload_n hx hb dS_sizeOf_7 rfl (lv_at hl 0 rfl) ?_
    refine ro_S (As := [.int c]) (rest := []) (n := 1) S (cS_sizeOf16Bits l (c)) k103 k1 k102 (by decide +kernel) ⟨rfl, rfl⟩ k101 (by decide) preEq rfl rfl hl.1 (Nat.le_of_ble_eq_true rfl) ⟨Nat.le_refl _, Nat.le_refl _⟩ dS_sizeOf_8 ?_
    refine lv_goto (tgt := 18) hx hb dS_sizeOf_11 (by decide) ?_
    exact ro_ret S hr hk (by simp [sSize, c1]) dS_sizeOf_18
def sMark (w : Int32) : Int32 := if w = 0 then 0 else sSize 65279 w
set_option maxHeartbeats 4000000 in
set_option maxRecDepth 100000 in
theorem cS_sizeOfMark (l : Launch) (w : Int32) : Met l yS_sizeOfMark (Cond.code yS_sizeOfMark prog_1_method_26_code 1 (some .int) :: TB) { frames := 2, cells := 0, slots := 0, locals := 41 } (pu [.int w]) (QcRead (sMark w)) 0 0 (fun _ => False) := by
  refine mt_of (by decide) ?_
  intro p e s m args below meth cd S hr hk hin hv
  subst hv
  have hx := S.1
  have hb := S.2.1
  have hown := S.2.2.2.1
  have hts := S.2.2.2.2
  have hl := lv_entry ([.int w]) (n := 1) (Nat.le_of_ble_eq_true rfl)
  rw [lg_entry_eq]
  generalize (lg_sl ([.int w]) ++ List.replicate (1 - (lg_sl ([.int w])).length) Slot.unset).toArray = ls at hl ⊢
  have hl : lv_has ls 1 [(0, .int w)] := hl
  refine lv_iload_n hx hb dS_sizeOfMark_0 rfl (lv_at hl 0 rfl) ?_
  refine lv_if_ne (tgt := 8) hx hb dS_sizeOfMark_1 (by decide) (fun c1 => ?_) (fun c1 => ?_)
  · skip
    refine lv_ldc (v := 65279) hx hb hown (hts _ k90) dS_sizeOfMark_8 ?_
    refine lv_iload_n hx hb dS_sizeOfMark_10 rfl (lv_at hl 0 rfl) ?_
    refine ro_S (As := [.int 65279, .int w]) (rest := []) (n := 2) S (cS_sizeOf l (65279) (w)) k100 k1 k99 (by decide +kernel) ⟨rfl, rfl⟩ k98 (by decide) preEq rfl rfl hl.1 (Nat.le_of_ble_eq_true rfl) ⟨Nat.le_refl _, Nat.le_refl _⟩ dS_sizeOfMark_11 ?_
    exact ro_ret S hr hk (by simp [sMark, c1]) dS_sizeOfMark_14
  · skip
    refine lv_iconst (v := 0) hx hb dS_sizeOfMark_4 (by decide) ?_
    refine lv_goto (tgt := 14) hx hb dS_sizeOfMark_5 (by decide) ?_
    exact ro_ret S hr hk (by simp [sMark, c1]) dS_sizeOfMark_14
def sSpace (c : Int32) : Bool := decide (c = 32) || decide (c = 9) || decide (c = 13) || decide (c = 10)
set_option maxHeartbeats 4000000 in
set_option maxRecDepth 100000 in
theorem cS_isSpace (l : Launch) (c : Int32) : Met l yS_isSpace (Cond.code yS_isSpace prog_1_method_39_code 1 (some .boolean) :: TB) { frames := 0, cells := 0, slots := 0, locals := 0 } (pu [.int c]) (QcRead (bI (sSpace c))) 0 0 (fun _ => False) := by
  refine mt_of (by decide) ?_
  intro p e s m args below meth cd S hr hk hin hv
  subst hv
  have hx := S.1
  have hb := S.2.1
  have hown := S.2.2.2.1
  have hts := S.2.2.2.2
  have hl := lv_entry ([.int c]) (n := 1) (Nat.le_of_ble_eq_true rfl)
  rw [lg_entry_eq]
  generalize (lg_sl ([.int c]) ++ List.replicate (1 - (lg_sl ([.int c])).length) Slot.unset).toArray = ls at hl ⊢
  have hl : lv_has ls 1 [(0, .int c)] := hl
  refine lv_iload_n hx hb dS_isSpace_0 rfl (lv_at hl 0 rfl) ?_
  refine lv_bipush (v := 32) hx hb dS_isSpace_1 (by decide) ?_
  refine lv_icmp_eq (tgt := 24) hx hb dS_isSpace_3 (by decide) (fun c1 => ?_) (fun c1 => ?_)
  · skip
    refine lv_iconst (v := 1) hx hb dS_isSpace_24 (by decide) ?_
    refine lv_goto (tgt := 29) hx hb dS_isSpace_25 (by decide) ?_
    exact ro_retZ S hr hk (by rfl) (by simp [sSpace, bI, c1]) dS_isSpace_29
  · skip
    refine lv_iload_n hx hb dS_isSpace_6 rfl (lv_at hl 0 rfl) ?_
    refine lv_bipush (v := 9) hx hb dS_isSpace_7 (by decide) ?_
    refine lv_icmp_eq (tgt := 24) hx hb dS_isSpace_9 (by decide) (fun c2 => ?_) (fun c2 => ?_)
    · skip
      refine lv_iconst (v := 1) hx hb dS_isSpace_24 (by decide) ?_
      refine lv_goto (tgt := 29) hx hb dS_isSpace_25 (by decide) ?_
      exact ro_retZ S hr hk (by rfl) (by simp [sSpace, bI, c1, c2]) dS_isSpace_29
    · skip
      refine lv_iload_n hx hb dS_isSpace_12 rfl (lv_at hl 0 rfl) ?_
      refine lv_bipush (v := 13) hx hb dS_isSpace_13 (by decide) ?_
      refine lv_icmp_eq (tgt := 24) hx hb dS_isSpace_15 (by decide) (fun c3 => ?_) (fun c3 => ?_)
      · skip
        refine lv_iconst (v := 1) hx hb dS_isSpace_24 (by decide) ?_
        refine lv_goto (tgt := 29) hx hb dS_isSpace_25 (by decide) ?_
        exact ro_retZ S hr hk (by rfl) (by simp [sSpace, bI, c1, c2, c3]) dS_isSpace_29
      · skip
        refine lv_iload_n hx hb dS_isSpace_18 rfl (lv_at hl 0 rfl) ?_
        refine lv_bipush (v := 10) hx hb dS_isSpace_19 (by decide) ?_
        refine lv_icmp_ne (tgt := 28) hx hb dS_isSpace_21 (by decide) (fun c4 => ?_) (fun c4 => ?_)
        · skip
          refine lv_iconst (v := 0) hx hb dS_isSpace_28 (by decide) ?_
          exact ro_retZ S hr hk (by rfl) (by simp [sSpace, bI, c1, c2, c3, c4]) dS_isSpace_29
        · skip
          refine lv_iconst (v := 1) hx hb dS_isSpace_24 (by decide) ?_
          refine lv_goto (tgt := 29) hx hb dS_isSpace_25 (by decide) ?_
          exact ro_retZ S hr hk (by rfl) (by simp [sSpace, bI, c1, c2, c3, c4]) dS_isSpace_29
def sLetter (c : Int32) : Bool := sIn c 65 90 || sIn c 97 122
set_option maxHeartbeats 4000000 in
set_option maxRecDepth 100000 in
theorem cS_isLetter (l : Launch) (c : Int32) : Met l yS_isLetter (Cond.code yS_isLetter prog_1_method_40_code 1 (some .boolean) :: TB) { frames := 0, cells := 0, slots := 0, locals := 0 } (pu [.int c]) (QcRead (bI (sLetter c))) 0 0 (fun _ => False) := by
  refine mt_of (by decide) ?_
  intro p e s m args below meth cd S hr hk hin hv
  subst hv
  have hx := S.1
  have hb := S.2.1
  have hown := S.2.2.2.1
  have hts := S.2.2.2.2
  have hl := lv_entry ([.int c]) (n := 1) (Nat.le_of_ble_eq_true rfl)
  rw [lg_entry_eq]
  generalize (lg_sl ([.int c]) ++ List.replicate (1 - (lg_sl ([.int c])).length) Slot.unset).toArray = ls at hl ⊢
  have hl : lv_has ls 1 [(0, .int c)] := hl
  refine lv_iload_n hx hb dS_isLetter_0 rfl (lv_at hl 0 rfl) ?_
  refine lv_bipush (v := 65) hx hb dS_isLetter_1 (by decide) ?_
  refine lv_icmp_lt (tgt := 12) hx hb dS_isLetter_3 (by decide) (fun c1 => ?_) (fun c1 => ?_)
  · skip
    replace c1 := Int32.not_le.mpr c1
    refine lv_iload_n hx hb dS_isLetter_12 rfl (lv_at hl 0 rfl) ?_
    refine lv_bipush (v := 97) hx hb dS_isLetter_13 (by decide) ?_
    refine lv_icmp_lt (tgt := 28) hx hb dS_isLetter_15 (by decide) (fun c2 => ?_) (fun c2 => ?_)
    · skip
      replace c2 := Int32.not_le.mpr c2
      refine lv_iconst (v := 0) hx hb dS_isLetter_28 (by decide) ?_
      exact ro_retZ S hr hk (by rfl) (by simp [sLetter, sIn, bI, c1, c2]) dS_isLetter_29
    · skip
      replace c2 := Int32.not_lt.mp c2
      refine lv_iload_n hx hb dS_isLetter_18 rfl (lv_at hl 0 rfl) ?_
      refine lv_bipush (v := 122) hx hb dS_isLetter_19 (by decide) ?_
      refine lv_icmp_gt (tgt := 28) hx hb dS_isLetter_21 (by decide) (fun c3 => ?_) (fun c3 => ?_)
      · skip
        replace c3 := Int32.not_le.mpr c3
        refine lv_iconst (v := 0) hx hb dS_isLetter_28 (by decide) ?_
        exact ro_retZ S hr hk (by rfl) (by simp [sLetter, sIn, bI, c1, c2, c3]) dS_isLetter_29
      · skip
        replace c3 := Int32.not_lt.mp c3
        refine lv_iconst (v := 1) hx hb dS_isLetter_24 (by decide) ?_
        refine lv_goto (tgt := 29) hx hb dS_isLetter_25 (by decide) ?_
        exact ro_retZ S hr hk (by rfl) (by simp [sLetter, sIn, bI, c1, c2, c3]) dS_isLetter_29
  · skip
    replace c1 := Int32.not_lt.mp c1
    refine lv_iload_n hx hb dS_isLetter_6 rfl (lv_at hl 0 rfl) ?_
    refine lv_bipush (v := 90) hx hb dS_isLetter_7 (by decide) ?_
    refine lv_icmp_le (tgt := 24) hx hb dS_isLetter_9 (by decide) (fun c4 => ?_) (fun c4 => ?_)
    · skip
      refine lv_iconst (v := 1) hx hb dS_isLetter_24 (by decide) ?_
      refine lv_goto (tgt := 29) hx hb dS_isLetter_25 (by decide) ?_
      exact ro_retZ S hr hk (by rfl) (by simp [sLetter, sIn, bI, c1, c4]) dS_isLetter_29
    · skip
      refine lv_iload_n hx hb dS_isLetter_12 rfl (lv_at hl 0 rfl) ?_
      refine lv_bipush (v := 97) hx hb dS_isLetter_13 (by decide) ?_
      refine lv_icmp_lt (tgt := 28) hx hb dS_isLetter_15 (by decide) (fun c5 => ?_) (fun c5 => ?_)
      · skip
        replace c5 := Int32.not_le.mpr c5
        refine lv_iconst (v := 0) hx hb dS_isLetter_28 (by decide) ?_
        exact ro_retZ S hr hk (by rfl) (by simp [sLetter, sIn, bI, c1, c4, c5]) dS_isLetter_29
      · skip
        replace c5 := Int32.not_lt.mp c5
        refine lv_iload_n hx hb dS_isLetter_18 rfl (lv_at hl 0 rfl) ?_
        refine lv_bipush (v := 122) hx hb dS_isLetter_19 (by decide) ?_
        refine lv_icmp_gt (tgt := 28) hx hb dS_isLetter_21 (by decide) (fun c6 => ?_) (fun c6 => ?_)
        · skip
          replace c6 := Int32.not_le.mpr c6
          refine lv_iconst (v := 0) hx hb dS_isLetter_28 (by decide) ?_
          exact ro_retZ S hr hk (by rfl) (by simp [sLetter, sIn, bI, c1, c4, c5, c6]) dS_isLetter_29
        · skip
          replace c6 := Int32.not_lt.mp c6
          refine lv_iconst (v := 1) hx hb dS_isLetter_24 (by decide) ?_
          refine lv_goto (tgt := 29) hx hb dS_isLetter_25 (by decide) ?_
          exact ro_retZ S hr hk (by rfl) (by simp [sLetter, sIn, bI, c1, c4, c5, c6]) dS_isLetter_29
set_option maxHeartbeats 4000000 in
set_option maxRecDepth 100000 in
theorem cM_isLetter (l : Launch) (c : Int32) : Met l yM_isLetter (Cond.code yM_isLetter prog_3_method_19_code 1 (some .boolean) :: TB) { frames := 1, cells := 0, slots := 0, locals := 22 } (pu [.int c]) (QcRead (bI (sLetter c))) 0 0 (fun _ => False) := by
  refine mt_of (by decide) ?_
  intro p e s m args below meth cd S hr hk hin hv
  subst hv
  have hx := S.1
  have hb := S.2.1
  have hown := S.2.2.2.1
  have hts := S.2.2.2.2
  have hl := lv_entry ([.int c]) (n := 1) (Nat.le_of_ble_eq_true rfl)
  rw [lg_entry_eq]
  generalize (lg_sl ([.int c]) ++ List.replicate (1 - (lg_sl ([.int c])).length) Slot.unset).toArray = ls at hl ⊢
  have hl : lv_has ls 1 [(0, .int c)] := hl
  refine lv_iload_n hx hb dM_isLetter_0 rfl (lv_at hl 0 rfl) ?_
  refine lv_bipush (v := 65) hx hb dM_isLetter_1 (by decide) ?_
  refine lv_bipush (v := 90) hx hb dM_isLetter_3 (by decide) ?_
  refine ro_S (As := [.int c, .int 65, .int 90]) (rest := []) (n := 3) S (cM_isIn l (c) (65) (90)) k463 k2 k462 (by decide +kernel) ⟨rfl, rfl⟩ k461 (by decide) preEq rfl rfl hl.1 (Nat.le_of_ble_eq_true rfl) ⟨Nat.le_refl _, Nat.le_refl _⟩ dM_isLetter_5 ?_
  refine lv_if_ne (tgt := 22) hx hb dM_isLetter_8 (by decide) (fun c1 => ?_) (fun c1 => ?_)
  · skip
    replace c1 := bI_t c1
    refine lv_iconst (v := 1) hx hb dM_isLetter_22 (by decide) ?_
    refine lv_goto (tgt := 27) hx hb dM_isLetter_23 (by decide) ?_
    exact ro_retZ S hr hk (by rfl) (by simp [sLetter, bI, c1]) dM_isLetter_27
  · skip
    replace c1 := bI_f c1
    refine lv_iload_n hx hb dM_isLetter_11 rfl (lv_at hl 0 rfl) ?_
    refine lv_bipush (v := 97) hx hb dM_isLetter_12 (by decide) ?_
    refine lv_bipush (v := 122) hx hb dM_isLetter_14 (by decide) ?_
    refine ro_S (As := [.int c, .int 97, .int 122]) (rest := []) (n := 3) S (cM_isIn l (c) (97) (122)) k463 k2 k462 (by decide +kernel) ⟨rfl, rfl⟩ k461 (by decide) preEq rfl rfl hl.1 (Nat.le_of_ble_eq_true rfl) ⟨Nat.le_refl _, Nat.le_refl _⟩ dM_isLetter_16 ?_
    refine lv_if_eq (tgt := 26) hx hb dM_isLetter_19 (by decide) (fun c2 => ?_) (fun c2 => ?_)
    · skip
      replace c2 := bI_f c2
      refine lv_iconst (v := 0) hx hb dM_isLetter_26 (by decide) ?_
      exact ro_retZ S hr hk (by rfl) (by simp [sLetter, bI, c1, c2]) dM_isLetter_27
    · skip
      replace c2 := bI_t c2
      refine lv_iconst (v := 1) hx hb dM_isLetter_22 (by decide) ?_
      refine lv_goto (tgt := 27) hx hb dM_isLetter_23 (by decide) ?_
      exact ro_retZ S hr hk (by rfl) (by simp [sLetter, bI, c1, c2]) dM_isLetter_27
def sDigit (c : Int32) : Bool := sIn c 48 57
set_option maxHeartbeats 4000000 in
set_option maxRecDepth 100000 in
theorem cS_isDigit (l : Launch) (c : Int32) : Met l yS_isDigit (Cond.code yS_isDigit prog_1_method_41_code 1 (some .boolean) :: TB) { frames := 0, cells := 0, slots := 0, locals := 0 } (pu [.int c]) (QcRead (bI (sDigit c))) 0 0 (fun _ => False) := by
  refine mt_of (by decide) ?_
  intro p e s m args below meth cd S hr hk hin hv
  subst hv
  have hx := S.1
  have hb := S.2.1
  have hown := S.2.2.2.1
  have hts := S.2.2.2.2
  have hl := lv_entry ([.int c]) (n := 1) (Nat.le_of_ble_eq_true rfl)
  rw [lg_entry_eq]
  generalize (lg_sl ([.int c]) ++ List.replicate (1 - (lg_sl ([.int c])).length) Slot.unset).toArray = ls at hl ⊢
  have hl : lv_has ls 1 [(0, .int c)] := hl
  refine lv_iload_n hx hb dS_isDigit_0 rfl (lv_at hl 0 rfl) ?_
  refine lv_bipush (v := 48) hx hb dS_isDigit_1 (by decide) ?_
  refine lv_icmp_lt (tgt := 16) hx hb dS_isDigit_3 (by decide) (fun c1 => ?_) (fun c1 => ?_)
  · skip
    replace c1 := Int32.not_le.mpr c1
    refine lv_iconst (v := 0) hx hb dS_isDigit_16 (by decide) ?_
    exact ro_retZ S hr hk (by rfl) (by simp [sDigit, sIn, bI, c1]) dS_isDigit_17
  · skip
    replace c1 := Int32.not_lt.mp c1
    refine lv_iload_n hx hb dS_isDigit_6 rfl (lv_at hl 0 rfl) ?_
    refine lv_bipush (v := 57) hx hb dS_isDigit_7 (by decide) ?_
    refine lv_icmp_gt (tgt := 16) hx hb dS_isDigit_9 (by decide) (fun c2 => ?_) (fun c2 => ?_)
    · skip
      replace c2 := Int32.not_le.mpr c2
      refine lv_iconst (v := 0) hx hb dS_isDigit_16 (by decide) ?_
      exact ro_retZ S hr hk (by rfl) (by simp [sDigit, sIn, bI, c1, c2]) dS_isDigit_17
    · skip
      replace c2 := Int32.not_lt.mp c2
      refine lv_iconst (v := 1) hx hb dS_isDigit_12 (by decide) ?_
      refine lv_goto (tgt := 17) hx hb dS_isDigit_13 (by decide) ?_
      exact ro_retZ S hr hk (by rfl) (by simp [sDigit, sIn, bI, c1, c2]) dS_isDigit_17
def sChar (c : Int32) : Bool := decide (c = 9) || decide (c = 10) || decide (c = 13) || sIn c 32 55295 || sIn c 57344 65533 || sIn c 65536 1114111
set_option maxHeartbeats 4000000 in
set_option maxRecDepth 100000 in
theorem cM_isCharacter (l : Launch) (c : Int32) : Met l yM_isCharacter (Cond.code yM_isCharacter prog_3_method_4_code 1 (some .boolean) :: TB) { frames := 1, cells := 0, slots := 0, locals := 22 } (pu [.int c]) (QcRead (bI (sChar c))) 0 0 (fun _ => False) := by
  refine mt_of (by decide) ?_
  intro p e s m args below meth cd S hr hk hin hv
  subst hv
  have hx := S.1
  have hb := S.2.1
  have hown := S.2.2.2.1
  have hts := S.2.2.2.2
  have hl := lv_entry ([.int c]) (n := 1) (Nat.le_of_ble_eq_true rfl)
  rw [lg_entry_eq]
  generalize (lg_sl ([.int c]) ++ List.replicate (1 - (lg_sl ([.int c])).length) Slot.unset).toArray = ls at hl ⊢
  have hl : lv_has ls 1 [(0, .int c)] := hl
  refine lv_iload_n hx hb dM_isCharacter_0 rfl (lv_at hl 0 rfl) ?_
  refine lv_bipush (v := 9) hx hb dM_isCharacter_1 (by decide) ?_
  refine lv_icmp_eq (tgt := 51) hx hb dM_isCharacter_3 (by decide) (fun c1 => ?_) (fun c1 => ?_)
  · skip
    refine lv_iconst (v := 1) hx hb dM_isCharacter_51 (by decide) ?_
    refine lv_goto (tgt := 56) hx hb dM_isCharacter_52 (by decide) ?_
    exact ro_retZ S hr hk (by rfl) (by simp [sChar, bI, c1]) dM_isCharacter_56
  · skip
    refine lv_iload_n hx hb dM_isCharacter_6 rfl (lv_at hl 0 rfl) ?_
    refine lv_bipush (v := 10) hx hb dM_isCharacter_7 (by decide) ?_
    refine lv_icmp_eq (tgt := 51) hx hb dM_isCharacter_9 (by decide) (fun c2 => ?_) (fun c2 => ?_)
    · skip
      refine lv_iconst (v := 1) hx hb dM_isCharacter_51 (by decide) ?_
      refine lv_goto (tgt := 56) hx hb dM_isCharacter_52 (by decide) ?_
      exact ro_retZ S hr hk (by rfl) (by simp [sChar, bI, c1, c2]) dM_isCharacter_56
    · skip
      refine lv_iload_n hx hb dM_isCharacter_12 rfl (lv_at hl 0 rfl) ?_
      refine lv_bipush (v := 13) hx hb dM_isCharacter_13 (by decide) ?_
      refine lv_icmp_eq (tgt := 51) hx hb dM_isCharacter_15 (by decide) (fun c3 => ?_) (fun c3 => ?_)
      · skip
        refine lv_iconst (v := 1) hx hb dM_isCharacter_51 (by decide) ?_
        refine lv_goto (tgt := 56) hx hb dM_isCharacter_52 (by decide) ?_
        exact ro_retZ S hr hk (by rfl) (by simp [sChar, bI, c1, c2, c3]) dM_isCharacter_56
      · skip
        refine lv_iload_n hx hb dM_isCharacter_18 rfl (lv_at hl 0 rfl) ?_
        refine lv_bipush (v := 32) hx hb dM_isCharacter_19 (by decide) ?_
        refine lv_ldc (v := 55295) hx hb hown (hts _ k477) dM_isCharacter_21 ?_
        refine ro_S (As := [.int c, .int 32, .int 55295]) (rest := []) (n := 3) S (cM_isIn l (c) (32) (55295)) k463 k2 k462 (by decide +kernel) ⟨rfl, rfl⟩ k461 (by decide) preEq rfl rfl hl.1 (Nat.le_of_ble_eq_true rfl) ⟨Nat.le_refl _, Nat.le_refl _⟩ dM_isCharacter_23 ?_
        refine lv_if_ne (tgt := 51) hx hb dM_isCharacter_26 (by decide) (fun c4 => ?_) (fun c4 => ?_)
        · skip
          replace c4 := bI_t c4
          refine lv_iconst (v := 1) hx hb dM_isCharacter_51 (by decide) ?_
          refine lv_goto (tgt := 56) hx hb dM_isCharacter_52 (by decide) ?_
          exact ro_retZ S hr hk (by rfl) (by simp [sChar, bI, c1, c2, c3, c4]) dM_isCharacter_56
        · skip
          replace c4 := bI_f c4
          refine lv_iload_n hx hb dM_isCharacter_29 rfl (lv_at hl 0 rfl) ?_
          refine lv_ldc (v := 57344) hx hb hown (hts _ k478) dM_isCharacter_30 ?_
          refine lv_ldc (v := 65533) hx hb hown (hts _ k479) dM_isCharacter_32 ?_
          refine ro_S (As := [.int c, .int 57344, .int 65533]) (rest := []) (n := 3) S (cM_isIn l (c) (57344) (65533)) k463 k2 k462 (by decide +kernel) ⟨rfl, rfl⟩ k461 (by decide) preEq rfl rfl hl.1 (Nat.le_of_ble_eq_true rfl) ⟨Nat.le_refl _, Nat.le_refl _⟩ dM_isCharacter_34 ?_
          refine lv_if_ne (tgt := 51) hx hb dM_isCharacter_37 (by decide) (fun c5 => ?_) (fun c5 => ?_)
          · skip
            replace c5 := bI_t c5
            refine lv_iconst (v := 1) hx hb dM_isCharacter_51 (by decide) ?_
            refine lv_goto (tgt := 56) hx hb dM_isCharacter_52 (by decide) ?_
            exact ro_retZ S hr hk (by rfl) (by simp [sChar, bI, c1, c2, c3, c4, c5]) dM_isCharacter_56
          · skip
            replace c5 := bI_f c5
            refine lv_iload_n hx hb dM_isCharacter_40 rfl (lv_at hl 0 rfl) ?_
            refine lv_ldc (v := 65536) hx hb hown (hts _ k466) dM_isCharacter_41 ?_
            refine lv_ldc (v := 1114111) hx hb hown (hts _ k480) dM_isCharacter_43 ?_
            refine ro_S (As := [.int c, .int 65536, .int 1114111]) (rest := []) (n := 3) S (cM_isIn l (c) (65536) (1114111)) k463 k2 k462 (by decide +kernel) ⟨rfl, rfl⟩ k461 (by decide) preEq rfl rfl hl.1 (Nat.le_of_ble_eq_true rfl) ⟨Nat.le_refl _, Nat.le_refl _⟩ dM_isCharacter_45 ?_
            refine lv_if_eq (tgt := 55) hx hb dM_isCharacter_48 (by decide) (fun c6 => ?_) (fun c6 => ?_)
            · skip
              replace c6 := bI_f c6
              refine lv_iconst (v := 0) hx hb dM_isCharacter_55 (by decide) ?_
              exact ro_retZ S hr hk (by rfl) (by simp [sChar, bI, c1, c2, c3, c4, c5, c6]) dM_isCharacter_56
            · skip
              replace c6 := bI_t c6
              refine lv_iconst (v := 1) hx hb dM_isCharacter_51 (by decide) ?_
              refine lv_goto (tgt := 56) hx hb dM_isCharacter_52 (by decide) ?_
              exact ro_retZ S hr hk (by rfl) (by simp [sChar, bI, c1, c2, c3, c4, c5, c6]) dM_isCharacter_56
