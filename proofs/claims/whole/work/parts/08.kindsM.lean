/-! the kinds, as the reference tells them -/
def sNear (c : Int32) : Bool := sLetter c || decide (c = 58) || decide (c = 95) || sIn c 192 214 || sIn c 216 246 || sIn c 248 767 || sIn c 880 893 || sIn c 895 8191
def sStart (c : Int32) : Bool := sNear c || decide (c = 8204) || decide (c = 8205) || sIn c 8304 8591 || sIn c 11264 12271 || sIn c 12289 55295 || sIn c 63744 64975 || sIn c 65008 65533 || sIn c 65536 983039
set_option maxHeartbeats 4000000 in
set_option maxRecDepth 100000 in
theorem cM_isStart (l : Launch) (c : Int32) : Met l yM_isStart (Cond.code yM_isStart prog_3_method_20_code 2 (some .boolean) :: TB) { frames := 2, cells := 0, slots := 0, locals := 42 } (pu [.int c]) (QcRead (bI (sStart c))) 0 0 (fun _ => False) := by
  refine mt_of (by decide) ?_
  intro p e s m args below meth cd S hr hk hin hv
  subst hv
  have hx := S.1
  have hb := S.2.1
  have hown := S.2.2.2.1
  have hts := S.2.2.2.2
  have hl := lv_entry ([.int c]) (n := 2) (Nat.le_of_ble_eq_true rfl)
  rw [lg_entry_eq]
  generalize (lg_sl ([.int c]) ++ List.replicate (2 - (lg_sl ([.int c])).length) Slot.unset).toArray = ls at hl ⊢
  have hl : lv_has ls 2 [(0, .int c)] := hl
  have J89 : ∀ (x : Int32), x = bI (sNear c) → ∀ ls : Array Slot, lv_has ls 2 [(0, .int c)] → W p l e { frames := 2, cells := 0, slots := 0, locals := 42 } s m [.int c].toArray below meth cd s.heap [] 0 0 (MQ below (QcRead (bI (sStart c))) [.int c].toArray s 0 0 (fun _ => False)) (F0 m 89 ls [.int x]) := by
    intro x hx9 ls hl
    subst hx9
    refine lv_istore_n (lv' := [(1, .int (bI (sNear c))), (0, .int c)]) hx hb dM_isStart_89 rfl hl (by decide) rfl (fun ls hl => ?_)
    refine lv_iload_n hx hb dM_isStart_90 rfl (lv_at hl 0 rfl) ?_
    refine lv_if_ne (tgt := 179) hx hb dM_isStart_91 (by decide) (fun c1 => ?_) (fun c1 => ?_)
    · skip
      replace c1 := bI_t c1
      refine lv_iconst (v := 1) hx hb dM_isStart_179 (by decide) ?_
      refine lv_goto (tgt := 184) hx hb dM_isStart_180 (by decide) ?_
      exact ro_retZ S hr hk (by rfl) (by simp [sStart, bI, c1]) dM_isStart_184
    · skip
      replace c1 := bI_f c1
      refine lv_iload_n hx hb dM_isStart_94 rfl (lv_at hl 1 rfl) ?_
      refine lv_sipush (v := 8204) hx hb dM_isStart_95 (by decide) ?_
      refine lv_icmp_eq (tgt := 179) hx hb dM_isStart_98 (by decide) (fun c2 => ?_) (fun c2 => ?_)
      · skip
        refine lv_iconst (v := 1) hx hb dM_isStart_179 (by decide) ?_
        refine lv_goto (tgt := 184) hx hb dM_isStart_180 (by decide) ?_
        exact ro_retZ S hr hk (by rfl) (by simp [sStart, bI, c1, c2]) dM_isStart_184
      · skip
        refine lv_iload_n hx hb dM_isStart_101 rfl (lv_at hl 1 rfl) ?_
        refine lv_sipush (v := 8205) hx hb dM_isStart_102 (by decide) ?_
        refine lv_icmp_eq (tgt := 179) hx hb dM_isStart_105 (by decide) (fun c3 => ?_) (fun c3 => ?_)
        · skip
          refine lv_iconst (v := 1) hx hb dM_isStart_179 (by decide) ?_
          refine lv_goto (tgt := 184) hx hb dM_isStart_180 (by decide) ?_
          exact ro_retZ S hr hk (by rfl) (by simp [sStart, bI, c1, c2, c3]) dM_isStart_184
        · skip
          refine lv_iload_n hx hb dM_isStart_108 rfl (lv_at hl 1 rfl) ?_
          refine lv_sipush (v := 8304) hx hb dM_isStart_109 (by decide) ?_
          refine lv_sipush (v := 8591) hx hb dM_isStart_112 (by decide) ?_
          refine ro_S (As := [.int c, .int 8304, .int 8591]) (rest := []) (n := 3) S (cM_isIn l (c) (8304) (8591)) k463 k2 k462 (by decide +kernel) ⟨rfl, rfl⟩ k461 (by decide) preEq rfl rfl hl.1 (Nat.le_of_ble_eq_true rfl) ⟨Nat.le_refl _, Nat.le_refl _⟩ dM_isStart_115 ?_
          refine lv_if_ne (tgt := 179) hx hb dM_isStart_118 (by decide) (fun c4 => ?_) (fun c4 => ?_)
          · skip
            replace c4 := bI_t c4
            refine lv_iconst (v := 1) hx hb dM_isStart_179 (by decide) ?_
            refine lv_goto (tgt := 184) hx hb dM_isStart_180 (by decide) ?_
            exact ro_retZ S hr hk (by rfl) (by simp [sStart, bI, c1, c2, c3, c4]) dM_isStart_184
          · skip
            replace c4 := bI_f c4
            refine lv_iload_n hx hb dM_isStart_121 rfl (lv_at hl 1 rfl) ?_
            refine lv_sipush (v := 11264) hx hb dM_isStart_122 (by decide) ?_
            refine lv_sipush (v := 12271) hx hb dM_isStart_125 (by decide) ?_
            refine ro_S (As := [.int c, .int 11264, .int 12271]) (rest := []) (n := 3) S (cM_isIn l (c) (11264) (12271)) k463 k2 k462 (by decide +kernel) ⟨rfl, rfl⟩ k461 (by decide) preEq rfl rfl hl.1 (Nat.le_of_ble_eq_true rfl) ⟨Nat.le_refl _, Nat.le_refl _⟩ dM_isStart_128 ?_
            refine lv_if_ne (tgt := 179) hx hb dM_isStart_131 (by decide) (fun c5 => ?_) (fun c5 => ?_)
            · skip
              replace c5 := bI_t c5
              refine lv_iconst (v := 1) hx hb dM_isStart_179 (by decide) ?_
              refine lv_goto (tgt := 184) hx hb dM_isStart_180 (by decide) ?_
              exact ro_retZ S hr hk (by rfl) (by simp [sStart, bI, c1, c2, c3, c4, c5]) dM_isStart_184
            · skip
              replace c5 := bI_f c5
              refine lv_iload_n hx hb dM_isStart_134 rfl (lv_at hl 1 rfl) ?_
              refine lv_sipush (v := 12289) hx hb dM_isStart_135 (by decide) ?_
              refine lv_ldc (v := 55295) hx hb hown (hts _ k477) dM_isStart_138 ?_
              refine ro_S (As := [.int c, .int 12289, .int 55295]) (rest := []) (n := 3) S (cM_isIn l (c) (12289) (55295)) k463 k2 k462 (by decide +kernel) ⟨rfl, rfl⟩ k461 (by decide) preEq rfl rfl hl.1 (Nat.le_of_ble_eq_true rfl) ⟨Nat.le_refl _, Nat.le_refl _⟩ dM_isStart_140 ?_
              refine lv_if_ne (tgt := 179) hx hb dM_isStart_143 (by decide) (fun c6 => ?_) (fun c6 => ?_)
              · skip
                replace c6 := bI_t c6
                refine lv_iconst (v := 1) hx hb dM_isStart_179 (by decide) ?_
                refine lv_goto (tgt := 184) hx hb dM_isStart_180 (by decide) ?_
                exact ro_retZ S hr hk (by rfl) (by simp [sStart, bI, c1, c2, c3, c4, c5, c6]) dM_isStart_184
              · skip
                replace c6 := bI_f c6
                refine lv_iload_n hx hb dM_isStart_146 rfl (lv_at hl 1 rfl) ?_
                refine lv_ldc (v := 63744) hx hb hown (hts _ k506) dM_isStart_147 ?_
                refine lv_ldc (v := 64975) hx hb hown (hts _ k507) dM_isStart_149 ?_
                refine ro_S (As := [.int c, .int 63744, .int 64975]) (rest := []) (n := 3) S (cM_isIn l (c) (63744) (64975)) k463 k2 k462 (by decide +kernel) ⟨rfl, rfl⟩ k461 (by decide) preEq rfl rfl hl.1 (Nat.le_of_ble_eq_true rfl) ⟨Nat.le_refl _, Nat.le_refl _⟩ dM_isStart_151 ?_
                refine lv_if_ne (tgt := 179) hx hb dM_isStart_154 (by decide) (fun c7 => ?_) (fun c7 => ?_)
                · skip
                  replace c7 := bI_t c7
                  refine lv_iconst (v := 1) hx hb dM_isStart_179 (by decide) ?_
                  refine lv_goto (tgt := 184) hx hb dM_isStart_180 (by decide) ?_
                  exact ro_retZ S hr hk (by rfl) (by simp [sStart, bI, c1, c2, c3, c4, c5, c6, c7]) dM_isStart_184
                · skip
                  replace c7 := bI_f c7
                  refine lv_iload_n hx hb dM_isStart_157 rfl (lv_at hl 1 rfl) ?_
                  refine lv_ldc (v := 65008) hx hb hown (hts _ k508) dM_isStart_158 ?_
                  refine lv_ldc (v := 65533) hx hb hown (hts _ k479) dM_isStart_160 ?_
                  refine ro_S (As := [.int c, .int 65008, .int 65533]) (rest := []) (n := 3) S (cM_isIn l (c) (65008) (65533)) k463 k2 k462 (by decide +kernel) ⟨rfl, rfl⟩ k461 (by decide) preEq rfl rfl hl.1 (Nat.le_of_ble_eq_true rfl) ⟨Nat.le_refl _, Nat.le_refl _⟩ dM_isStart_162 ?_
                  refine lv_if_ne (tgt := 179) hx hb dM_isStart_165 (by decide) (fun c8 => ?_) (fun c8 => ?_)
                  · skip
                    replace c8 := bI_t c8
                    refine lv_iconst (v := 1) hx hb dM_isStart_179 (by decide) ?_
                    refine lv_goto (tgt := 184) hx hb dM_isStart_180 (by decide) ?_
                    exact ro_retZ S hr hk (by rfl) (by simp [sStart, bI, c1, c2, c3, c4, c5, c6, c7, c8]) dM_isStart_184
                  · skip
                    replace c8 := bI_f c8
                    refine lv_iload_n hx hb dM_isStart_168 rfl (lv_at hl 1 rfl) ?_
                    refine lv_ldc (v := 65536) hx hb hown (hts _ k466) dM_isStart_169 ?_
                    refine lv_ldc (v := 983039) hx hb hown (hts _ k509) dM_isStart_171 ?_
                    refine ro_S (As := [.int c, .int 65536, .int 983039]) (rest := []) (n := 3) S (cM_isIn l (c) (65536) (983039)) k463 k2 k462 (by decide +kernel) ⟨rfl, rfl⟩ k461 (by decide) preEq rfl rfl hl.1 (Nat.le_of_ble_eq_true rfl) ⟨Nat.le_refl _, Nat.le_refl _⟩ dM_isStart_173 ?_
                    refine lv_if_eq (tgt := 183) hx hb dM_isStart_176 (by decide) (fun c9 => ?_) (fun c9 => ?_)
                    · skip
                      replace c9 := bI_f c9
                      refine lv_iconst (v := 0) hx hb dM_isStart_183 (by decide) ?_
                      exact ro_retZ S hr hk (by rfl) (by simp [sStart, bI, c1, c2, c3, c4, c5, c6, c7, c8, c9]) dM_isStart_184
                    · skip
                      replace c9 := bI_t c9
                      refine lv_iconst (v := 1) hx hb dM_isStart_179 (by decide) ?_
                      refine lv_goto (tgt := 184) hx hb dM_isStart_180 (by decide) ?_
                      exact ro_retZ S hr hk (by rfl) (by simp [sStart, bI, c1, c2, c3, c4, c5, c6, c7, c8, c9]) dM_isStart_184
  refine lv_iload_n hx hb dM_isStart_0 rfl (lv_at hl 0 rfl) ?_
  refine ro_S (As := [.int c]) (rest := []) (n := 1) S (cM_isLetter l (c)) k502 k2 k501 (by decide +kernel) ⟨rfl, rfl⟩ k500 (by decide) preEq rfl rfl hl.1 (Nat.le_of_ble_eq_true rfl) ⟨Nat.le_refl _, Nat.le_refl _⟩ dM_isStart_1 ?_
  refine lv_if_ne (tgt := 84) hx hb dM_isStart_4 (by decide) (fun c10 => ?_) (fun c10 => ?_)
  · skip
    replace c10 := bI_t c10
    refine lv_iconst (v := 1) hx hb dM_isStart_84 (by decide) ?_
    refine lv_goto (tgt := 89) hx hb dM_isStart_85 (by decide) ?_
    exact J89  (1) (by simp [sNear, bI, c10]) ls (lv_sub hl [0] rfl) 
  · skip
    replace c10 := bI_f c10
    refine lv_iload_n hx hb dM_isStart_7 rfl (lv_at hl 0 rfl) ?_
    refine lv_bipush (v := 58) hx hb dM_isStart_8 (by decide) ?_
    refine lv_icmp_eq (tgt := 84) hx hb dM_isStart_10 (by decide) (fun c11 => ?_) (fun c11 => ?_)
    · skip
      refine lv_iconst (v := 1) hx hb dM_isStart_84 (by decide) ?_
      refine lv_goto (tgt := 89) hx hb dM_isStart_85 (by decide) ?_
      exact J89  (1) (by simp [sNear, bI, c10, c11]) ls (lv_sub hl [0] rfl) 
    · skip
      refine lv_iload_n hx hb dM_isStart_13 rfl (lv_at hl 0 rfl) ?_
      refine lv_bipush (v := 95) hx hb dM_isStart_14 (by decide) ?_
      refine lv_icmp_eq (tgt := 84) hx hb dM_isStart_16 (by decide) (fun c12 => ?_) (fun c12 => ?_)
      · skip
        refine lv_iconst (v := 1) hx hb dM_isStart_84 (by decide) ?_
        refine lv_goto (tgt := 89) hx hb dM_isStart_85 (by decide) ?_
        exact J89  (1) (by simp [sNear, bI, c10, c11, c12]) ls (lv_sub hl [0] rfl) 
      · skip
        refine lv_iload_n hx hb dM_isStart_19 rfl (lv_at hl 0 rfl) ?_
        refine lv_sipush (v := 192) hx hb dM_isStart_20 (by decide) ?_
        refine lv_sipush (v := 214) hx hb dM_isStart_23 (by decide) ?_
        refine ro_S (As := [.int c, .int 192, .int 214]) (rest := []) (n := 3) S (cM_isIn l (c) (192) (214)) k463 k2 k462 (by decide +kernel) ⟨rfl, rfl⟩ k461 (by decide) preEq rfl rfl hl.1 (Nat.le_of_ble_eq_true rfl) ⟨Nat.le_refl _, Nat.le_refl _⟩ dM_isStart_26 ?_
        refine lv_if_ne (tgt := 84) hx hb dM_isStart_29 (by decide) (fun c13 => ?_) (fun c13 => ?_)
        · skip
          replace c13 := bI_t c13
          refine lv_iconst (v := 1) hx hb dM_isStart_84 (by decide) ?_
          refine lv_goto (tgt := 89) hx hb dM_isStart_85 (by decide) ?_
          exact J89  (1) (by simp [sNear, bI, c10, c11, c12, c13]) ls (lv_sub hl [0] rfl) 
        · skip
          replace c13 := bI_f c13
          refine lv_iload_n hx hb dM_isStart_32 rfl (lv_at hl 0 rfl) ?_
          refine lv_sipush (v := 216) hx hb dM_isStart_33 (by decide) ?_
          refine lv_sipush (v := 246) hx hb dM_isStart_36 (by decide) ?_
          refine ro_S (As := [.int c, .int 216, .int 246]) (rest := []) (n := 3) S (cM_isIn l (c) (216) (246)) k463 k2 k462 (by decide +kernel) ⟨rfl, rfl⟩ k461 (by decide) preEq rfl rfl hl.1 (Nat.le_of_ble_eq_true rfl) ⟨Nat.le_refl _, Nat.le_refl _⟩ dM_isStart_39 ?_
          refine lv_if_ne (tgt := 84) hx hb dM_isStart_42 (by decide) (fun c14 => ?_) (fun c14 => ?_)
          · skip
            replace c14 := bI_t c14
            refine lv_iconst (v := 1) hx hb dM_isStart_84 (by decide) ?_
            refine lv_goto (tgt := 89) hx hb dM_isStart_85 (by decide) ?_
            exact J89  (1) (by simp [sNear, bI, c10, c11, c12, c13, c14]) ls (lv_sub hl [0] rfl) 
          · skip
            replace c14 := bI_f c14
            refine lv_iload_n hx hb dM_isStart_45 rfl (lv_at hl 0 rfl) ?_
            refine lv_sipush (v := 248) hx hb dM_isStart_46 (by decide) ?_
            refine lv_sipush (v := 767) hx hb dM_isStart_49 (by decide) ?_
            refine ro_S (As := [.int c, .int 248, .int 767]) (rest := []) (n := 3) S (cM_isIn l (c) (248) (767)) k463 k2 k462 (by decide +kernel) ⟨rfl, rfl⟩ k461 (by decide) preEq rfl rfl hl.1 (Nat.le_of_ble_eq_true rfl) ⟨Nat.le_refl _, Nat.le_refl _⟩ dM_isStart_52 ?_
            refine lv_if_ne (tgt := 84) hx hb dM_isStart_55 (by decide) (fun c15 => ?_) (fun c15 => ?_)
            · skip
              replace c15 := bI_t c15
              refine lv_iconst (v := 1) hx hb dM_isStart_84 (by decide) ?_
              refine lv_goto (tgt := 89) hx hb dM_isStart_85 (by decide) ?_
              exact J89  (1) (by simp [sNear, bI, c10, c11, c12, c13, c14, c15]) ls (lv_sub hl [0] rfl) 
            · skip
              replace c15 := bI_f c15
              refine lv_iload_n hx hb dM_isStart_58 rfl (lv_at hl 0 rfl) ?_
              refine lv_sipush (v := 880) hx hb dM_isStart_59 (by decide) ?_
              refine lv_sipush (v := 893) hx hb dM_isStart_62 (by decide) ?_
              refine ro_S (As := [.int c, .int 880, .int 893]) (rest := []) (n := 3) S (cM_isIn l (c) (880) (893)) k463 k2 k462 (by decide +kernel) ⟨rfl, rfl⟩ k461 (by decide) preEq rfl rfl hl.1 (Nat.le_of_ble_eq_true rfl) ⟨Nat.le_refl _, Nat.le_refl _⟩ dM_isStart_65 ?_
              refine lv_if_ne (tgt := 84) hx hb dM_isStart_68 (by decide) (fun c16 => ?_) (fun c16 => ?_)
              · skip
                replace c16 := bI_t c16
                refine lv_iconst (v := 1) hx hb dM_isStart_84 (by decide) ?_
                refine lv_goto (tgt := 89) hx hb dM_isStart_85 (by decide) ?_
                exact J89  (1) (by simp [sNear, bI, c10, c11, c12, c13, c14, c15, c16]) ls (lv_sub hl [0] rfl) 
              · skip
                replace c16 := bI_f c16
                refine lv_iload_n hx hb dM_isStart_71 rfl (lv_at hl 0 rfl) ?_
                refine lv_sipush (v := 895) hx hb dM_isStart_72 (by decide) ?_
                refine lv_sipush (v := 8191) hx hb dM_isStart_75 (by decide) ?_
                refine ro_S (As := [.int c, .int 895, .int 8191]) (rest := []) (n := 3) S (cM_isIn l (c) (895) (8191)) k463 k2 k462 (by decide +kernel) ⟨rfl, rfl⟩ k461 (by decide) preEq rfl rfl hl.1 (Nat.le_of_ble_eq_true rfl) ⟨Nat.le_refl _, Nat.le_refl _⟩ dM_isStart_78 ?_
                refine lv_if_eq (tgt := 88) hx hb dM_isStart_81 (by decide) (fun c17 => ?_) (fun c17 => ?_)
                · skip
                  replace c17 := bI_f c17
                  refine lv_iconst (v := 0) hx hb dM_isStart_88 (by decide) ?_
                  exact J89  (0) (by simp [sNear, bI, c10, c11, c12, c13, c14, c15, c16, c17]) ls (lv_sub hl [0] rfl) 
                · skip
                  replace c17 := bI_t c17
                  refine lv_iconst (v := 1) hx hb dM_isStart_84 (by decide) ?_
                  refine lv_goto (tgt := 89) hx hb dM_isStart_85 (by decide) ?_
                  exact J89  (1) (by simp [sNear, bI, c10, c11, c12, c13, c14, c15, c16, c17]) ls (lv_sub hl [0] rfl) 
def sNaming (c : Int32) : Bool := sStart c || sIn c 48 57 || decide (c = 45) || decide (c = 46) || decide (c = 183) || sIn c 768 879 || decide (c = 8255) || decide (c = 8256)
set_option maxHeartbeats 4000000 in
set_option maxRecDepth 100000 in
theorem cM_isNaming (l : Launch) (c : Int32) : Met l yM_isNaming (Cond.code yM_isNaming prog_3_method_21_code 1 (some .boolean) :: TB) { frames := 3, cells := 0, slots := 0, locals := 63 } (pu [.int c]) (QcRead (bI (sNaming c))) 0 0 (fun _ => False) := by
  refine mt_of (by decide) ?_
  intro p e s m args below meth cd S hr hk hin hv
  subst hv
  have hx := S.1
  have hb := S.2.1
  have hown := S.2.2.2.1
  have hts := S.2.2.2.2
  have hl := lv_entry ([.int c]) (n := 1) (Nat.le_of_ble_eq_true rfl)
  rw [lg_entry_eq]
  generalize (lg_sl ([.int c]) ++ List.replicate (1 - (lg_sl ([.int c])).length) Slot.unset).toArray = ls at hl ⊢
  have hl : lv_has ls 1 [(0, .int c)] := hl
  refine lv_iload_n hx hb dM_isNaming_0 rfl (lv_at hl 0 rfl) ?_
  refine ro_S (As := [.int c]) (rest := []) (n := 1) S (cM_isStart l (c)) k505 k2 k504 (by decide +kernel) ⟨rfl, rfl⟩ k503 (by decide) preEq rfl rfl hl.1 (Nat.le_of_ble_eq_true rfl) ⟨Nat.le_refl _, Nat.le_refl _⟩ dM_isNaming_1 ?_
  refine lv_if_ne (tgt := 64) hx hb dM_isNaming_4 (by decide) (fun c1 => ?_) (fun c1 => ?_)
  · skip
    replace c1 := bI_t c1
    refine lv_iconst (v := 1) hx hb dM_isNaming_64 (by decide) ?_
    refine lv_goto (tgt := 69) hx hb dM_isNaming_65 (by decide) ?_
    exact ro_retZ S hr hk (by rfl) (by simp [sNaming, bI, c1]) dM_isNaming_69
  · skip
    replace c1 := bI_f c1
    refine lv_iload_n hx hb dM_isNaming_7 rfl (lv_at hl 0 rfl) ?_
    refine lv_bipush (v := 48) hx hb dM_isNaming_8 (by decide) ?_
    refine lv_bipush (v := 57) hx hb dM_isNaming_10 (by decide) ?_
    refine ro_S (As := [.int c, .int 48, .int 57]) (rest := []) (n := 3) S (cM_isIn l (c) (48) (57)) k463 k2 k462 (by decide +kernel) ⟨rfl, rfl⟩ k461 (by decide) preEq rfl rfl hl.1 (Nat.le_of_ble_eq_true rfl) ⟨Nat.le_refl _, Nat.le_refl _⟩ dM_isNaming_12 ?_
    refine lv_if_ne (tgt := 64) hx hb dM_isNaming_15 (by decide) (fun c2 => ?_) (fun c2 => ?_)
    · skip
      replace c2 := bI_t c2
      refine lv_iconst (v := 1) hx hb dM_isNaming_64 (by decide) ?_
      refine lv_goto (tgt := 69) hx hb dM_isNaming_65 (by decide) ?_
      exact ro_retZ S hr hk (by rfl) (by simp [sNaming, bI, c1, c2]) dM_isNaming_69
    · skip
      replace c2 := bI_f c2
      refine lv_iload_n hx hb dM_isNaming_18 rfl (lv_at hl 0 rfl) ?_
      refine lv_bipush (v := 45) hx hb dM_isNaming_19 (by decide) ?_
      refine lv_icmp_eq (tgt := 64) hx hb dM_isNaming_21 (by decide) (fun c3 => ?_) (fun c3 => ?_)
      · skip
        refine lv_iconst (v := 1) hx hb dM_isNaming_64 (by decide) ?_
        refine lv_goto (tgt := 69) hx hb dM_isNaming_65 (by decide) ?_
        exact ro_retZ S hr hk (by rfl) (by simp [sNaming, bI, c1, c2, c3]) dM_isNaming_69
      · skip
        refine lv_iload_n hx hb dM_isNaming_24 rfl (lv_at hl 0 rfl) ?_
        refine lv_bipush (v := 46) hx hb dM_isNaming_25 (by decide) ?_
        refine lv_icmp_eq (tgt := 64) hx hb dM_isNaming_27 (by decide) (fun c4 => ?_) (fun c4 => ?_)
        · skip
          refine lv_iconst (v := 1) hx hb dM_isNaming_64 (by decide) ?_
          refine lv_goto (tgt := 69) hx hb dM_isNaming_65 (by decide) ?_
          exact ro_retZ S hr hk (by rfl) (by simp [sNaming, bI, c1, c2, c3, c4]) dM_isNaming_69
        · skip
          refine lv_iload_n hx hb dM_isNaming_30 rfl (lv_at hl 0 rfl) ?_
          refine lv_sipush (v := 183) hx hb dM_isNaming_31 (by decide) ?_
          refine lv_icmp_eq (tgt := 64) hx hb dM_isNaming_34 (by decide) (fun c5 => ?_) (fun c5 => ?_)
          · skip
            refine lv_iconst (v := 1) hx hb dM_isNaming_64 (by decide) ?_
            refine lv_goto (tgt := 69) hx hb dM_isNaming_65 (by decide) ?_
            exact ro_retZ S hr hk (by rfl) (by simp [sNaming, bI, c1, c2, c3, c4, c5]) dM_isNaming_69
          · skip
            refine lv_iload_n hx hb dM_isNaming_37 rfl (lv_at hl 0 rfl) ?_
            refine lv_sipush (v := 768) hx hb dM_isNaming_38 (by decide) ?_
            refine lv_sipush (v := 879) hx hb dM_isNaming_41 (by decide) ?_
            refine ro_S (As := [.int c, .int 768, .int 879]) (rest := []) (n := 3) S (cM_isIn l (c) (768) (879)) k463 k2 k462 (by decide +kernel) ⟨rfl, rfl⟩ k461 (by decide) preEq rfl rfl hl.1 (Nat.le_of_ble_eq_true rfl) ⟨Nat.le_refl _, Nat.le_refl _⟩ dM_isNaming_44 ?_
            refine lv_if_ne (tgt := 64) hx hb dM_isNaming_47 (by decide) (fun c6 => ?_) (fun c6 => ?_)
            · skip
              replace c6 := bI_t c6
              refine lv_iconst (v := 1) hx hb dM_isNaming_64 (by decide) ?_
              refine lv_goto (tgt := 69) hx hb dM_isNaming_65 (by decide) ?_
              exact ro_retZ S hr hk (by rfl) (by simp [sNaming, bI, c1, c2, c3, c4, c5, c6]) dM_isNaming_69
            · skip
              replace c6 := bI_f c6
              refine lv_iload_n hx hb dM_isNaming_50 rfl (lv_at hl 0 rfl) ?_
              refine lv_sipush (v := 8255) hx hb dM_isNaming_51 (by decide) ?_
              refine lv_icmp_eq (tgt := 64) hx hb dM_isNaming_54 (by decide) (fun c7 => ?_) (fun c7 => ?_)
              · skip
                refine lv_iconst (v := 1) hx hb dM_isNaming_64 (by decide) ?_
                refine lv_goto (tgt := 69) hx hb dM_isNaming_65 (by decide) ?_
                exact ro_retZ S hr hk (by rfl) (by simp [sNaming, bI, c1, c2, c3, c4, c5, c6, c7]) dM_isNaming_69
              · skip
                refine lv_iload_n hx hb dM_isNaming_57 rfl (lv_at hl 0 rfl) ?_
                refine lv_sipush (v := 8256) hx hb dM_isNaming_58 (by decide) ?_
                refine lv_icmp_ne (tgt := 68) hx hb dM_isNaming_61 (by decide) (fun c8 => ?_) (fun c8 => ?_)
                · skip
                  refine lv_iconst (v := 0) hx hb dM_isNaming_68 (by decide) ?_
                  exact ro_retZ S hr hk (by rfl) (by simp [sNaming, bI, c1, c2, c3, c4, c5, c6, c7, c8]) dM_isNaming_69
                · skip
                  refine lv_iconst (v := 1) hx hb dM_isNaming_64 (by decide) ?_
                  refine lv_goto (tgt := 69) hx hb dM_isNaming_65 (by decide) ?_
                  exact ro_retZ S hr hk (by rfl) (by simp [sNaming, bI, c1, c2, c3, c4, c5, c6, c7, c8]) dM_isNaming_69
def sSign (c : Int32) : Bool := decide (c = 32) || decide (c = 10) || decide (c = 33) || sIn c 35 37 || sIn c 39 47 || decide (c = 58) || decide (c = 59) || decide (c = 61) || decide (c = 63) || decide (c = 64) || decide (c = 95)
def sPub (c : Int32) : Bool := sSign c || sLetter c || sIn c 48 57
set_option maxHeartbeats 4000000 in
set_option maxRecDepth 100000 in
theorem cM_isPublic (l : Launch) (c : Int32) : Met l yM_isPublic (Cond.code yM_isPublic prog_3_method_22_code 2 (some .boolean) :: TB) { frames := 2, cells := 0, slots := 0, locals := 42 } (pu [.int c]) (QcRead (bI (sPub c))) 0 0 (fun _ => False) := by
  refine mt_of (by decide) ?_
  intro p e s m args below meth cd S hr hk hin hv
  subst hv
  have hx := S.1
  have hb := S.2.1
  have hown := S.2.2.2.1
  have hts := S.2.2.2.2
  have hl := lv_entry ([.int c]) (n := 2) (Nat.le_of_ble_eq_true rfl)
  rw [lg_entry_eq]
  generalize (lg_sl ([.int c]) ++ List.replicate (2 - (lg_sl ([.int c])).length) Slot.unset).toArray = ls at hl ⊢
  have hl : lv_has ls 2 [(0, .int c)] := hl
  have J81 : ∀ (x : Int32), x = bI (sSign c) → ∀ ls : Array Slot, lv_has ls 2 [(0, .int c)] → W p l e { frames := 2, cells := 0, slots := 0, locals := 42 } s m [.int c].toArray below meth cd s.heap [] 0 0 (MQ below (QcRead (bI (sPub c))) [.int c].toArray s 0 0 (fun _ => False)) (F0 m 81 ls [.int x]) := by
    intro x hx9 ls hl
    subst hx9
    refine lv_istore_n (lv' := [(1, .int (bI (sSign c))), (0, .int c)]) hx hb dM_isPublic_81 rfl hl (by decide) rfl (fun ls hl => ?_)
    refine lv_iload_n hx hb dM_isPublic_82 rfl (lv_at hl 0 rfl) ?_
    refine lv_if_ne (tgt := 104) hx hb dM_isPublic_83 (by decide) (fun c1 => ?_) (fun c1 => ?_)
    · skip
      replace c1 := bI_t c1
      refine lv_iconst (v := 1) hx hb dM_isPublic_104 (by decide) ?_
      refine lv_goto (tgt := 109) hx hb dM_isPublic_105 (by decide) ?_
      exact ro_retZ S hr hk (by rfl) (by simp [sPub, bI, c1]) dM_isPublic_109
    · skip
      replace c1 := bI_f c1
      refine lv_iload_n hx hb dM_isPublic_86 rfl (lv_at hl 1 rfl) ?_
      refine ro_S (As := [.int c]) (rest := []) (n := 1) S (cM_isLetter l (c)) k502 k2 k501 (by decide +kernel) ⟨rfl, rfl⟩ k500 (by decide) preEq rfl rfl hl.1 (Nat.le_of_ble_eq_true rfl) ⟨Nat.le_refl _, Nat.le_refl _⟩ dM_isPublic_87 ?_
      refine lv_if_ne (tgt := 104) hx hb dM_isPublic_90 (by decide) (fun c2 => ?_) (fun c2 => ?_)
      · skip
        replace c2 := bI_t c2
        refine lv_iconst (v := 1) hx hb dM_isPublic_104 (by decide) ?_
        refine lv_goto (tgt := 109) hx hb dM_isPublic_105 (by decide) ?_
        exact ro_retZ S hr hk (by rfl) (by simp [sPub, bI, c1, c2]) dM_isPublic_109
      · skip
        replace c2 := bI_f c2
        refine lv_iload_n hx hb dM_isPublic_93 rfl (lv_at hl 1 rfl) ?_
        refine lv_bipush (v := 48) hx hb dM_isPublic_94 (by decide) ?_
        refine lv_bipush (v := 57) hx hb dM_isPublic_96 (by decide) ?_
        refine ro_S (As := [.int c, .int 48, .int 57]) (rest := []) (n := 3) S (cM_isIn l (c) (48) (57)) k463 k2 k462 (by decide +kernel) ⟨rfl, rfl⟩ k461 (by decide) preEq rfl rfl hl.1 (Nat.le_of_ble_eq_true rfl) ⟨Nat.le_refl _, Nat.le_refl _⟩ dM_isPublic_98 ?_
        refine lv_if_eq (tgt := 108) hx hb dM_isPublic_101 (by decide) (fun c3 => ?_) (fun c3 => ?_)
        · skip
          replace c3 := bI_f c3
          refine lv_iconst (v := 0) hx hb dM_isPublic_108 (by decide) ?_
          exact ro_retZ S hr hk (by rfl) (by simp [sPub, bI, c1, c2, c3]) dM_isPublic_109
        · skip
          replace c3 := bI_t c3
          refine lv_iconst (v := 1) hx hb dM_isPublic_104 (by decide) ?_
          refine lv_goto (tgt := 109) hx hb dM_isPublic_105 (by decide) ?_
          exact ro_retZ S hr hk (by rfl) (by simp [sPub, bI, c1, c2, c3]) dM_isPublic_109
  refine lv_iload_n hx hb dM_isPublic_0 rfl (lv_at hl 0 rfl) ?_
  refine lv_bipush (v := 32) hx hb dM_isPublic_1 (by decide) ?_
  refine lv_icmp_eq (tgt := 76) hx hb dM_isPublic_3 (by decide) (fun c4 => ?_) (fun c4 => ?_)
  · skip
    refine lv_iconst (v := 1) hx hb dM_isPublic_76 (by decide) ?_
    refine lv_goto (tgt := 81) hx hb dM_isPublic_77 (by decide) ?_
    exact J81  (1) (by simp [sSign, bI, c4]) ls (lv_sub hl [0] rfl) 
  · skip
    refine lv_iload_n hx hb dM_isPublic_6 rfl (lv_at hl 0 rfl) ?_
    refine lv_bipush (v := 10) hx hb dM_isPublic_7 (by decide) ?_
    refine lv_icmp_eq (tgt := 76) hx hb dM_isPublic_9 (by decide) (fun c5 => ?_) (fun c5 => ?_)
    · skip
      refine lv_iconst (v := 1) hx hb dM_isPublic_76 (by decide) ?_
      refine lv_goto (tgt := 81) hx hb dM_isPublic_77 (by decide) ?_
      exact J81  (1) (by simp [sSign, bI, c4, c5]) ls (lv_sub hl [0] rfl) 
    · skip
      refine lv_iload_n hx hb dM_isPublic_12 rfl (lv_at hl 0 rfl) ?_
      refine lv_bipush (v := 33) hx hb dM_isPublic_13 (by decide) ?_
      refine lv_icmp_eq (tgt := 76) hx hb dM_isPublic_15 (by decide) (fun c6 => ?_) (fun c6 => ?_)
      · skip
        refine lv_iconst (v := 1) hx hb dM_isPublic_76 (by decide) ?_
        refine lv_goto (tgt := 81) hx hb dM_isPublic_77 (by decide) ?_
        exact J81  (1) (by simp [sSign, bI, c4, c5, c6]) ls (lv_sub hl [0] rfl) 
      · skip
        refine lv_iload_n hx hb dM_isPublic_18 rfl (lv_at hl 0 rfl) ?_
        refine lv_bipush (v := 35) hx hb dM_isPublic_19 (by decide) ?_
        refine lv_bipush (v := 37) hx hb dM_isPublic_21 (by decide) ?_
        refine ro_S (As := [.int c, .int 35, .int 37]) (rest := []) (n := 3) S (cM_isIn l (c) (35) (37)) k463 k2 k462 (by decide +kernel) ⟨rfl, rfl⟩ k461 (by decide) preEq rfl rfl hl.1 (Nat.le_of_ble_eq_true rfl) ⟨Nat.le_refl _, Nat.le_refl _⟩ dM_isPublic_23 ?_
        refine lv_if_ne (tgt := 76) hx hb dM_isPublic_26 (by decide) (fun c7 => ?_) (fun c7 => ?_)
        · skip
          replace c7 := bI_t c7
          refine lv_iconst (v := 1) hx hb dM_isPublic_76 (by decide) ?_
          refine lv_goto (tgt := 81) hx hb dM_isPublic_77 (by decide) ?_
          exact J81  (1) (by simp [sSign, bI, c4, c5, c6, c7]) ls (lv_sub hl [0] rfl) 
        · skip
          replace c7 := bI_f c7
          refine lv_iload_n hx hb dM_isPublic_29 rfl (lv_at hl 0 rfl) ?_
          refine lv_bipush (v := 39) hx hb dM_isPublic_30 (by decide) ?_
          refine lv_bipush (v := 47) hx hb dM_isPublic_32 (by decide) ?_
          refine ro_S (As := [.int c, .int 39, .int 47]) (rest := []) (n := 3) S (cM_isIn l (c) (39) (47)) k463 k2 k462 (by decide +kernel) ⟨rfl, rfl⟩ k461 (by decide) preEq rfl rfl hl.1 (Nat.le_of_ble_eq_true rfl) ⟨Nat.le_refl _, Nat.le_refl _⟩ dM_isPublic_34 ?_
          refine lv_if_ne (tgt := 76) hx hb dM_isPublic_37 (by decide) (fun c8 => ?_) (fun c8 => ?_)
          · skip
            replace c8 := bI_t c8
            refine lv_iconst (v := 1) hx hb dM_isPublic_76 (by decide) ?_
            refine lv_goto (tgt := 81) hx hb dM_isPublic_77 (by decide) ?_
            exact J81  (1) (by simp [sSign, bI, c4, c5, c6, c7, c8]) ls (lv_sub hl [0] rfl) 
          · skip
            replace c8 := bI_f c8
            refine lv_iload_n hx hb dM_isPublic_40 rfl (lv_at hl 0 rfl) ?_
            refine lv_bipush (v := 58) hx hb dM_isPublic_41 (by decide) ?_
            refine lv_icmp_eq (tgt := 76) hx hb dM_isPublic_43 (by decide) (fun c9 => ?_) (fun c9 => ?_)
            · skip
              refine lv_iconst (v := 1) hx hb dM_isPublic_76 (by decide) ?_
              refine lv_goto (tgt := 81) hx hb dM_isPublic_77 (by decide) ?_
              exact J81  (1) (by simp [sSign, bI, c4, c5, c6, c7, c8, c9]) ls (lv_sub hl [0] rfl) 
            · skip
              refine lv_iload_n hx hb dM_isPublic_46 rfl (lv_at hl 0 rfl) ?_
              refine lv_bipush (v := 59) hx hb dM_isPublic_47 (by decide) ?_
              refine lv_icmp_eq (tgt := 76) hx hb dM_isPublic_49 (by decide) (fun c10 => ?_) (fun c10 => ?_)
              · skip
                refine lv_iconst (v := 1) hx hb dM_isPublic_76 (by decide) ?_
                refine lv_goto (tgt := 81) hx hb dM_isPublic_77 (by decide) ?_
                exact J81  (1) (by simp [sSign, bI, c4, c5, c6, c7, c8, c9, c10]) ls (lv_sub hl [0] rfl) 
              · skip
                refine lv_iload_n hx hb dM_isPublic_52 rfl (lv_at hl 0 rfl) ?_
                refine lv_bipush (v := 61) hx hb dM_isPublic_53 (by decide) ?_
                refine lv_icmp_eq (tgt := 76) hx hb dM_isPublic_55 (by decide) (fun c11 => ?_) (fun c11 => ?_)
                · skip
                  refine lv_iconst (v := 1) hx hb dM_isPublic_76 (by decide) ?_
                  refine lv_goto (tgt := 81) hx hb dM_isPublic_77 (by decide) ?_
                  exact J81  (1) (by simp [sSign, bI, c4, c5, c6, c7, c8, c9, c10, c11]) ls (lv_sub hl [0] rfl) 
                · skip
                  refine lv_iload_n hx hb dM_isPublic_58 rfl (lv_at hl 0 rfl) ?_
                  refine lv_bipush (v := 63) hx hb dM_isPublic_59 (by decide) ?_
                  refine lv_icmp_eq (tgt := 76) hx hb dM_isPublic_61 (by decide) (fun c12 => ?_) (fun c12 => ?_)
                  · skip
                    refine lv_iconst (v := 1) hx hb dM_isPublic_76 (by decide) ?_
                    refine lv_goto (tgt := 81) hx hb dM_isPublic_77 (by decide) ?_
                    exact J81  (1) (by simp [sSign, bI, c4, c5, c6, c7, c8, c9, c10, c11, c12]) ls (lv_sub hl [0] rfl) 
                  · skip
                    refine lv_iload_n hx hb dM_isPublic_64 rfl (lv_at hl 0 rfl) ?_
                    refine lv_bipush (v := 64) hx hb dM_isPublic_65 (by decide) ?_
                    refine lv_icmp_eq (tgt := 76) hx hb dM_isPublic_67 (by decide) (fun c13 => ?_) (fun c13 => ?_)
                    · skip
                      refine lv_iconst (v := 1) hx hb dM_isPublic_76 (by decide) ?_
                      refine lv_goto (tgt := 81) hx hb dM_isPublic_77 (by decide) ?_
                      exact J81  (1) (by simp [sSign, bI, c4, c5, c6, c7, c8, c9, c10, c11, c12, c13]) ls (lv_sub hl [0] rfl) 
                    · skip
                      refine lv_iload_n hx hb dM_isPublic_70 rfl (lv_at hl 0 rfl) ?_
                      refine lv_bipush (v := 95) hx hb dM_isPublic_71 (by decide) ?_
                      refine lv_icmp_ne (tgt := 80) hx hb dM_isPublic_73 (by decide) (fun c14 => ?_) (fun c14 => ?_)
                      · skip
                        refine lv_iconst (v := 0) hx hb dM_isPublic_80 (by decide) ?_
                        exact J81  (0) (by simp [sSign, bI, c4, c5, c6, c7, c8, c9, c10, c11, c12, c13, c14]) ls (lv_sub hl [0] rfl) 
                      · skip
                        refine lv_iconst (v := 1) hx hb dM_isPublic_76 (by decide) ?_
                        refine lv_goto (tgt := 81) hx hb dM_isPublic_77 (by decide) ?_
                        exact J81  (1) (by simp [sSign, bI, c4, c5, c6, c7, c8, c9, c10, c11, c12, c13, c14]) ls (lv_sub hl [0] rfl) 
def bK (b : Bool) (k : Int32) : Int32 := if b then k else 0
def kM (c : Int32) : Int32 := if sChar c = true then bI (sSpace c) + bK (sLetter c) 2 + bK (sIn c 48 57) 4 + bK (sStart c) 8 + bK (sNaming c) 16 + bK (sPub c) 32 else 0
set_option maxHeartbeats 4000000 in
set_option maxRecDepth 100000 in
theorem cM_kindsOf (l : Launch) (c : Int32) : Met l yM_kindsOf (Cond.code yM_kindsOf prog_3_method_23_code 2 (some .int) :: TB) { frames := 4, cells := 0, slots := 0, locals := 83 } (pu [.int c]) (QcRead (kM c)) 0 0 (fun _ => False) := by
  refine mt_of (by decide) ?_
  intro p e s m args below meth cd S hr hk hin hv
  subst hv
  have hx := S.1
  have hb := S.2.1
  have hown := S.2.2.2.1
  have hts := S.2.2.2.2
  have hl := lv_entry ([.int c]) (n := 2) (Nat.le_of_ble_eq_true rfl)
  rw [lg_entry_eq]
  generalize (lg_sl ([.int c]) ++ List.replicate (2 - (lg_sl ([.int c])).length) Slot.unset).toArray = ls at hl ⊢
  have hl : lv_has ls 2 [(0, .int c)] := hl
  refine lv_iload_n hx hb dM_kindsOf_0 rfl (lv_at hl 0 rfl) ?_
  refine ro_S (As := [.int c]) (rest := []) (n := 1) S (cM_isCharacter l (c)) k476 k2 k475 (by decide +kernel) ⟨rfl, rfl⟩ k474 (by decide) preEq rfl rfl hl.1 (Nat.le_of_ble_eq_true rfl) ⟨Nat.le_refl _, Nat.le_refl _⟩ dM_kindsOf_1 ?_
  refine lv_if_ne (tgt := 9) hx hb dM_kindsOf_4 (by decide) (fun c1 => ?_) (fun c1 => ?_)
  · skip
    replace c1 := bI_t c1
    have J38 : ∀ (x : Int32), x = bI (sSpace c) → ∀ ls : Array Slot, lv_has ls 2 [(0, .int c)] → W p l e { frames := 4, cells := 0, slots := 0, locals := 83 } s m [.int c].toArray below meth cd s.heap [] 0 0 (MQ below (QcRead (kM c)) [.int c].toArray s 0 0 (fun _ => False)) (F0 m 38 ls [.int x]) := by
      intro x hx9 ls hl
      subst hx9
      refine lv_istore_n (lv' := [(1, .int (bI (sSpace c))), (0, .int c)]) hx hb dM_kindsOf_38 rfl hl (by decide) rfl (fun ls hl => ?_)
      have J48 : ∀ (x : Int32), x = bI (sSpace c) → ∀ ls : Array Slot, lv_has ls 2 [(1, .int (bI (sSpace c))), (0, .int c)] → W p l e { frames := 4, cells := 0, slots := 0, locals := 83 } s m [.int c].toArray below meth cd s.heap [] 0 0 (MQ below (QcRead (kM c)) [.int c].toArray s 0 0 (fun _ => False)) (F0 m 48 ls [.int x]) := by
        intro x hx9 ls hl
        subst hx9
        have J60 : ∀ (x : Int32), x = bK (sLetter c) 2 → ∀ ls : Array Slot, lv_has ls 2 [(1, .int (bI (sSpace c))), (0, .int c)] → W p l e { frames := 4, cells := 0, slots := 0, locals := 83 } s m [.int c].toArray below meth cd s.heap [] 0 0 (MQ below (QcRead (kM c)) [.int c].toArray s 0 0 (fun _ => False)) (F0 m 60 ls [.int x, .int (bI (sSpace c))]) := by
          intro x hx9 ls hl
          subst hx9
          refine lv_iadd hx hb dM_kindsOf_60 ?_
          have J77 : ∀ (x : Int32), x = bK (sIn c 48 57) 4 → ∀ ls : Array Slot, lv_has ls 2 [(1, .int (bI (sSpace c))), (0, .int c)] → W p l e { frames := 4, cells := 0, slots := 0, locals := 83 } s m [.int c].toArray below meth cd s.heap [] 0 0 (MQ below (QcRead (kM c)) [.int c].toArray s 0 0 (fun _ => False)) (F0 m 77 ls [.int x, .int ((bI (sSpace c)) + (bK (sLetter c) 2))]) := by
            intro x hx9 ls hl
            subst hx9
            refine lv_iadd hx hb dM_kindsOf_77 ?_
            have J91 : ∀ (x : Int32), x = bK (sStart c) 8 → ∀ ls : Array Slot, lv_has ls 2 [(1, .int (bI (sSpace c))), (0, .int c)] → W p l e { frames := 4, cells := 0, slots := 0, locals := 83 } s m [.int c].toArray below meth cd s.heap [] 0 0 (MQ below (QcRead (kM c)) [.int c].toArray s 0 0 (fun _ => False)) (F0 m 91 ls [.int x, .int (((bI (sSpace c)) + (bK (sLetter c) 2)) + (bK (sIn c 48 57) 4))]) := by
              intro x hx9 ls hl
              subst hx9
              refine lv_iadd hx hb dM_kindsOf_91 ?_
              have J105 : ∀ (x : Int32), x = bK (sNaming c) 16 → ∀ ls : Array Slot, lv_has ls 2 [(1, .int (bI (sSpace c))), (0, .int c)] → W p l e { frames := 4, cells := 0, slots := 0, locals := 83 } s m [.int c].toArray below meth cd s.heap [] 0 0 (MQ below (QcRead (kM c)) [.int c].toArray s 0 0 (fun _ => False)) (F0 m 105 ls [.int x, .int ((((bI (sSpace c)) + (bK (sLetter c) 2)) + (bK (sIn c 48 57) 4)) + (bK (sStart c) 8))]) := by
                intro x hx9 ls hl
                subst hx9
                refine lv_iadd hx hb dM_kindsOf_105 ?_
                have J119 : ∀ (x : Int32), x = bK (sPub c) 32 → ∀ ls : Array Slot, lv_has ls 2 [(1, .int (bI (sSpace c))), (0, .int c)] → W p l e { frames := 4, cells := 0, slots := 0, locals := 83 } s m [.int c].toArray below meth cd s.heap [] 0 0 (MQ below (QcRead (kM c)) [.int c].toArray s 0 0 (fun _ => False)) (F0 m 119 ls [.int x, .int (((((bI (sSpace c)) + (bK (sLetter c) 2)) + (bK (sIn c 48 57) 4)) + (bK (sStart c) 8)) + (bK (sNaming c) 16))]) := by
                  intro x hx9 ls hl
                  subst hx9
                  refine lv_iadd hx hb dM_kindsOf_119 ?_
                  exact ro_ret S hr hk (by simp [kM, c1]) dM_kindsOf_120
                refine lv_iload_n hx hb dM_kindsOf_106 rfl (lv_at hl 1 rfl) ?_
                refine ro_S (As := [.int c]) (rest := [.int (((((bI (sSpace c)) + (bK (sLetter c) 2)) + (bK (sIn c 48 57) 4)) + (bK (sStart c) 8)) + (bK (sNaming c) 16))]) (n := 1) S (cM_isPublic l (c)) k515 k2 k514 (by decide +kernel) ⟨rfl, rfl⟩ k513 (by decide) preEq rfl rfl hl.1 (Nat.le_of_ble_eq_true rfl) ⟨Nat.le_refl _, Nat.le_refl _⟩ dM_kindsOf_107 ?_
                refine lv_if_eq (tgt := 118) hx hb dM_kindsOf_110 (by decide) (fun c2 => ?_) (fun c2 => ?_)
                · skip
                  replace c2 := bI_f c2
                  refine lv_iconst (v := 0) hx hb dM_kindsOf_118 (by decide) ?_
                  exact J119  (0) (by simp [bK, c1, c2]) ls (lv_sub hl [0, 1] rfl) 
                · skip
                  replace c2 := bI_t c2
                  refine lv_bipush (v := 32) hx hb dM_kindsOf_113 (by decide) ?_
                  refine lv_goto (tgt := 119) hx hb dM_kindsOf_115 (by decide) ?_
                  exact J119  (32) (by simp [bK, c1, c2]) ls (lv_sub hl [0, 1] rfl) 
              refine lv_iload_n hx hb dM_kindsOf_92 rfl (lv_at hl 1 rfl) ?_
              refine ro_S (As := [.int c]) (rest := [.int ((((bI (sSpace c)) + (bK (sLetter c) 2)) + (bK (sIn c 48 57) 4)) + (bK (sStart c) 8))]) (n := 1) S (cM_isNaming l (c)) k512 k2 k511 (by decide +kernel) ⟨rfl, rfl⟩ k510 (by decide) preEq rfl rfl hl.1 (Nat.le_of_ble_eq_true rfl) ⟨Nat.le_refl _, Nat.le_refl _⟩ dM_kindsOf_93 ?_
              refine lv_if_eq (tgt := 104) hx hb dM_kindsOf_96 (by decide) (fun c3 => ?_) (fun c3 => ?_)
              · skip
                replace c3 := bI_f c3
                refine lv_iconst (v := 0) hx hb dM_kindsOf_104 (by decide) ?_
                exact J105  (0) (by simp [bK, c1, c3]) ls (lv_sub hl [0, 1] rfl) 
              · skip
                replace c3 := bI_t c3
                refine lv_bipush (v := 16) hx hb dM_kindsOf_99 (by decide) ?_
                refine lv_goto (tgt := 105) hx hb dM_kindsOf_101 (by decide) ?_
                exact J105  (16) (by simp [bK, c1, c3]) ls (lv_sub hl [0, 1] rfl) 
            refine lv_iload_n hx hb dM_kindsOf_78 rfl (lv_at hl 1 rfl) ?_
            refine ro_S (As := [.int c]) (rest := [.int (((bI (sSpace c)) + (bK (sLetter c) 2)) + (bK (sIn c 48 57) 4))]) (n := 1) S (cM_isStart l (c)) k505 k2 k504 (by decide +kernel) ⟨rfl, rfl⟩ k503 (by decide) preEq rfl rfl hl.1 (Nat.le_of_ble_eq_true rfl) ⟨Nat.le_refl _, Nat.le_refl _⟩ dM_kindsOf_79 ?_
            refine lv_if_eq (tgt := 90) hx hb dM_kindsOf_82 (by decide) (fun c4 => ?_) (fun c4 => ?_)
            · skip
              replace c4 := bI_f c4
              refine lv_iconst (v := 0) hx hb dM_kindsOf_90 (by decide) ?_
              exact J91  (0) (by simp [bK, c1, c4]) ls (lv_sub hl [0, 1] rfl) 
            · skip
              replace c4 := bI_t c4
              refine lv_bipush (v := 8) hx hb dM_kindsOf_85 (by decide) ?_
              refine lv_goto (tgt := 91) hx hb dM_kindsOf_87 (by decide) ?_
              exact J91  (8) (by simp [bK, c1, c4]) ls (lv_sub hl [0, 1] rfl) 
          refine lv_iload_n hx hb dM_kindsOf_61 rfl (lv_at hl 1 rfl) ?_
          refine lv_bipush (v := 48) hx hb dM_kindsOf_62 (by decide) ?_
          refine lv_bipush (v := 57) hx hb dM_kindsOf_64 (by decide) ?_
          refine ro_S (As := [.int c, .int 48, .int 57]) (rest := [.int ((bI (sSpace c)) + (bK (sLetter c) 2))]) (n := 3) S (cM_isIn l (c) (48) (57)) k463 k2 k462 (by decide +kernel) ⟨rfl, rfl⟩ k461 (by decide) preEq rfl rfl hl.1 (Nat.le_of_ble_eq_true rfl) ⟨Nat.le_refl _, Nat.le_refl _⟩ dM_kindsOf_66 ?_
          refine lv_if_eq (tgt := 76) hx hb dM_kindsOf_69 (by decide) (fun c5 => ?_) (fun c5 => ?_)
          · skip
            replace c5 := bI_f c5
            refine lv_iconst (v := 0) hx hb dM_kindsOf_76 (by decide) ?_
            exact J77  (0) (by simp [bK, c1, c5]) ls (lv_sub hl [0, 1] rfl) 
          · skip
            replace c5 := bI_t c5
            refine lv_iconst (v := 4) hx hb dM_kindsOf_72 (by decide) ?_
            refine lv_goto (tgt := 77) hx hb dM_kindsOf_73 (by decide) ?_
            exact J77  (4) (by simp [bK, c1, c5]) ls (lv_sub hl [0, 1] rfl) 
        refine lv_iload_n hx hb dM_kindsOf_48 rfl (lv_at hl 1 rfl) ?_
        refine ro_S (As := [.int c]) (rest := [.int (bI (sSpace c))]) (n := 1) S (cM_isLetter l (c)) k502 k2 k501 (by decide +kernel) ⟨rfl, rfl⟩ k500 (by decide) preEq rfl rfl hl.1 (Nat.le_of_ble_eq_true rfl) ⟨Nat.le_refl _, Nat.le_refl _⟩ dM_kindsOf_49 ?_
        refine lv_if_eq (tgt := 59) hx hb dM_kindsOf_52 (by decide) (fun c6 => ?_) (fun c6 => ?_)
        · skip
          replace c6 := bI_f c6
          refine lv_iconst (v := 0) hx hb dM_kindsOf_59 (by decide) ?_
          exact J60  (0) (by simp [bK, c1, c6]) ls (lv_sub hl [0, 1] rfl) 
        · skip
          replace c6 := bI_t c6
          refine lv_iconst (v := 2) hx hb dM_kindsOf_55 (by decide) ?_
          refine lv_goto (tgt := 60) hx hb dM_kindsOf_56 (by decide) ?_
          exact J60  (2) (by simp [bK, c1, c6]) ls (lv_sub hl [0, 1] rfl) 
      refine lv_iload_n hx hb dM_kindsOf_39 rfl (lv_at hl 0 rfl) ?_
      refine lv_if_eq (tgt := 47) hx hb dM_kindsOf_40 (by decide) (fun c7 => ?_) (fun c7 => ?_)
      · skip
        replace c7 := bI_f c7
        refine lv_iconst (v := 0) hx hb dM_kindsOf_47 (by decide) ?_
        exact J48  (0) (by simp [bI, c1, c7]) ls (lv_sub hl [0, 1] rfl) 
      · skip
        replace c7 := bI_t c7
        refine lv_iconst (v := 1) hx hb dM_kindsOf_43 (by decide) ?_
        refine lv_goto (tgt := 48) hx hb dM_kindsOf_44 (by decide) ?_
        exact J48  (1) (by simp [bI, c1, c7]) ls (lv_sub hl [0, 1] rfl) 
    refine lv_iload_n hx hb dM_kindsOf_9 rfl (lv_at hl 0 rfl) ?_
    refine lv_bipush (v := 32) hx hb dM_kindsOf_10 (by decide) ?_
    refine lv_icmp_eq (tgt := 33) hx hb dM_kindsOf_12 (by decide) (fun c8 => ?_) (fun c8 => ?_)
    · skip
      refine lv_iconst (v := 1) hx hb dM_kindsOf_33 (by decide) ?_
      refine lv_goto (tgt := 38) hx hb dM_kindsOf_34 (by decide) ?_
      exact J38  (1) (by simp [sSpace, bI, c1, c8]) ls (lv_sub hl [0] rfl) 
    · skip
      refine lv_iload_n hx hb dM_kindsOf_15 rfl (lv_at hl 0 rfl) ?_
      refine lv_bipush (v := 9) hx hb dM_kindsOf_16 (by decide) ?_
      refine lv_icmp_eq (tgt := 33) hx hb dM_kindsOf_18 (by decide) (fun c9 => ?_) (fun c9 => ?_)
      · skip
        refine lv_iconst (v := 1) hx hb dM_kindsOf_33 (by decide) ?_
        refine lv_goto (tgt := 38) hx hb dM_kindsOf_34 (by decide) ?_
        exact J38  (1) (by simp [sSpace, bI, c1, c8, c9]) ls (lv_sub hl [0] rfl) 
      · skip
        refine lv_iload_n hx hb dM_kindsOf_21 rfl (lv_at hl 0 rfl) ?_
        refine lv_bipush (v := 13) hx hb dM_kindsOf_22 (by decide) ?_
        refine lv_icmp_eq (tgt := 33) hx hb dM_kindsOf_24 (by decide) (fun c10 => ?_) (fun c10 => ?_)
        · skip
          refine lv_iconst (v := 1) hx hb dM_kindsOf_33 (by decide) ?_
          refine lv_goto (tgt := 38) hx hb dM_kindsOf_34 (by decide) ?_
          exact J38  (1) (by simp [sSpace, bI, c1, c8, c9, c10]) ls (lv_sub hl [0] rfl) 
        · skip
          refine lv_iload_n hx hb dM_kindsOf_27 rfl (lv_at hl 0 rfl) ?_
          refine lv_bipush (v := 10) hx hb dM_kindsOf_28 (by decide) ?_
          refine lv_icmp_ne (tgt := 37) hx hb dM_kindsOf_30 (by decide) (fun c11 => ?_) (fun c11 => ?_)
          · skip
            refine lv_iconst (v := 0) hx hb dM_kindsOf_37 (by decide) ?_
            exact J38  (0) (by simp [sSpace, bI, c1, c8, c9, c10, c11]) ls (lv_sub hl [0] rfl) 
          · skip
            refine lv_iconst (v := 1) hx hb dM_kindsOf_33 (by decide) ?_
            refine lv_goto (tgt := 38) hx hb dM_kindsOf_34 (by decide) ?_
            exact J38  (1) (by simp [sSpace, bI, c1, c8, c9, c10, c11]) ls (lv_sub hl [0] rfl) 
  · skip
    replace c1 := bI_f c1
    refine lv_iconst (v := 0) hx hb dM_kindsOf_7 (by decide) ?_
    exact ro_ret S hr hk (by simp [kM, c1]) dM_kindsOf_8
