/-! the reference: a number of 8 bits; putting bytes aside; feed -/
set_option maxHeartbeats 4000000 in
set_option maxRecDepth 100000 in
theorem cM_takeEight (l : Launch) (D : va_G) (h qb qt qa : Nat) (cI : ClassId) (y : MS) (k : Nat) (hd : ap4 h qb qt qa) (hy : okY y) (hk9 : k < y.2.1) : Met l yM_takeEight (Cond.code yM_takeEight prog_3_method_13_code 6 (some .int) :: TB) { frames := 1, cells := 0, slots := 0, locals := 20 } (gx (xM D h qb qt qa cI y) [.ref h, .int (nI k)]) (mQ (some (.int ((m8 y.2.2.2.2.2.2.1 y.2.1 k).1))) D (moZ h qb qt qa cI (y8 y k)) (A4 h qb qt qa)) 0 0 (A4 h qb qt qa) := by
  refine mt_of (by decide) ?_
  intro p e s m args below meth cd S hr hk hin hv
  obtain ⟨rfl, hX⟩ := hv
  have hP : va_P D CL (moZ h qb qt qa cI y) s.heap := hX.1
  have hK := hX.2
  have hy1 := hy.1
  have hy2 := hy.2.1
  have hy3 := hy.2.2
  have hS : va_S (A4 h qb qt qa) s.heap s.heap [] := va_S.rf
  have hx := S.1
  have hb := S.2.1
  have hown := S.2.2.2.1
  have hts := S.2.2.2.2
  have hl := lv_entry ([.ref h, .int (nI k)]) (n := 6) (Nat.le_of_ble_eq_true rfl)
  rw [lg_entry_eq]
  generalize (lg_sl ([.ref h, .int (nI k)]) ++ List.replicate (6 - (lg_sl ([.ref h, .int (nI k)])).length) Slot.unset).toArray = ls at hl ⊢
  have hl : lv_has ls 6 [(0, .ref h), (1, .int (nI k))] := hl
  refine lv_aload_n hx hb dM_takeEight_0 rfl (lv_at hl 0 rfl) ?_
  refine va_get (D := D) (ci := 1) (v := .ref qb) (C := "SignReaderModel") (T := T_M) (N := 9) hx hb hts i_M hown hK hP 0 rfl rfl 1 (by decide) (hts _ k392) (fun _ h9 => h9) rfl dM_takeEight_1 ?_
  refine lv_iload_n hx hb dM_takeEight_4 rfl (lv_at hl 1 rfl) ?_
  refine va_iald (f := (y.2.2.2.2.2.2.1)) hx hb hK hP 1 0 rfl rfl (vp_in_nI (by omega) (by omega)) dM_takeEight_5 ?_
  rw [nI_clamp (n := k) (by omega)]
  refine lv_istore_n (lv' := [(2, .int ((y.2.2.2.2.2.2.1) k)), (0, .ref h), (1, .int (nI k))]) hx hb dM_takeEight_6 rfl hl (by decide) rfl (fun ls hl => ?_)
  refine lv_aload_n hx hb dM_takeEight_7 rfl (lv_at hl 1 rfl) ?_
  refine lv_iload_n hx hb dM_takeEight_8 rfl (lv_at hl 0 rfl) ?_
  refine va_put (D := D) (ci := 1) (v := .int ((y.2.2.2.2.2.2.1) k)) (ty := .int) (C := "SignReaderModel") (T := T_M) (N := 9) hx hb hts i_M t_M t_M_ok n_M hown hK hP (moD hd) hS 0 rfl rfl 8 (by decide) (hts _ k399) (fun _ h9 => h9) rfl (by decide +kernel) rfl rfl (Nat.le_of_ble_eq_true rfl) dM_takeEight_9 (fun H locs hP _ hS => ?_)
  have hP : va_P D CL (moW h qb qt qa cI (y.1) (nI y.2.1) (nI y.2.2.1) (y.2.2.2.1) (nI y.2.2.2.2.1) (((y.2.2.2.2.2.2.1) k)) (y.2.2.2.2.2.2.1) (y.2.2.2.2.2.2.2.1) (y.2.2.2.2.2.2.2.2)) H := hP
  have hP : va_P D CL (moZ h qb qt qa cI (setF y (y.2.2.2.2.2.2.1 k))) _ := va_Pe (rfl : moW h qb qt qa cI (y.1) (nI y.2.1) (nI y.2.2.1) (y.2.2.2.1) (nI y.2.2.2.2.1) (((y.2.2.2.2.2.2.1) k)) (y.2.2.2.2.2.2.1) (y.2.2.2.2.2.2.2.1) (y.2.2.2.2.2.2.2.2) = moZ h qb qt qa cI (setF y (y.2.2.2.2.2.2.1 k))) hP
  refine lv_iload_n hx hb dM_takeEight_12 rfl (lv_at hl 0 rfl) ?_
  refine lv_sipush (v := 128) hx hb dM_takeEight_13 (by decide) ?_
  refine lv_icmp_ge (tgt := 21) hx hb dM_takeEight_16 (by decide) (fun c1 => ?_) (fun c1 => ?_)
  · skip
    have J66 : ∀ (x : Int32), x = nI (m8N (y.2.2.2.2.2.2.1 k)) → ∀ ls : Array Slot, lv_has ls 6 [(2, .int ((y.2.2.2.2.2.2.1) k)), (0, .ref h), (1, .int (nI k))] → W p l e { frames := 1, cells := 0, slots := 0, locals := 20 } s m [.ref h, .int (nI k)].toArray below meth cd H locs 0 0 (MQ below (mQ (some (.int ((m8 y.2.2.2.2.2.2.1 y.2.1 k).1))) D (moZ h qb qt qa cI (y8 y k)) (A4 h qb qt qa)) [.ref h, .int (nI k)].toArray s 0 0 (A4 h qb qt qa)) (F0 m 66 ls [.int x]) := by
      intro x hx9 ls hl
      subst hx9
      refine lv_istore_n (lv' := [(3, .int (nI (m8N (y.2.2.2.2.2.2.1 k)))), (2, .int ((y.2.2.2.2.2.2.1) k)), (0, .ref h), (1, .int (nI k))]) hx hb dM_takeEight_66 rfl hl (by decide) rfl (fun ls hl => ?_)
      refine lv_iload_n hx hb dM_takeEight_67 rfl (lv_at hl 0 rfl) ?_
      refine lv_if_eq (tgt := 81) hx hb dM_takeEight_68 (by decide) (fun c2 => ?_) (fun c2 => ?_)
      · skip
        refine lv_iconst (v := (-1)) hx hb dM_takeEight_81 (by decide) ?_
        have hP : va_P D CL (moZ h qb qt qa cI (y8 y k)) _ := va_Pe (congrArg (moZ h qb qt qa cI) (by rw [y8, show m8 y.2.2.2.2.2.2.1 y.2.1 k = (-1, y.2.2.2.2.2.2.1 k) by simp only [m8, c1, c2, ↓reduceIte]] : (setF y (y.2.2.2.2.2.2.1 k) : MS) = y8 y k)) hP
        exact mu_retI S hr hk (by rw [show m8 y.2.2.2.2.2.2.1 y.2.1 k = (-1, y.2.2.2.2.2.2.1 k) by simp only [m8, c1, c2, ↓reduceIte]]) hP hS dM_takeEight_82
      · skip
        have hN1 : 1 ≤ m8N (y.2.2.2.2.2.2.1 k) := by rcases Nat.eq_zero_or_pos (m8N (y.2.2.2.2.2.2.1 k)) with q | q; exact absurd (by rw [q]; rfl) c2; exact q
        have hN4 := m8N_le (y.2.2.2.2.2.2.1 k)
        refine lv_iload_n hx hb dM_takeEight_71 rfl (lv_at hl 3 rfl) ?_
        refine lv_iload_n hx hb dM_takeEight_72 rfl (lv_at hl 0 rfl) ?_
        refine lv_iadd hx hb dM_takeEight_73 ?_
        refine lv_aload_n hx hb dM_takeEight_74 rfl (lv_at hl 2 rfl) ?_
        refine va_get (D := D) (ci := 1) (v := .int (nI y.2.1)) (C := "SignReaderModel") (T := T_M) (N := 9) hx hb hts i_M hown hK hP 0 rfl rfl 2 (by decide) (hts _ k393) (fun _ h9 => h9) rfl dM_takeEight_75 ?_
        refine lv_icmp_le (tgt := 83) hx hb dM_takeEight_78 (by decide) (fun c3 => ?_) (fun c3 => ?_)
        · skip
          rw [nI_add, nI_leI (by omega) (by omega)] at c3
          have J106 : ∀ (x : Int32), x = m8d (m8N (y.2.2.2.2.2.2.1 k)) → ∀ ls : Array Slot, lv_has ls 6 [(3, .int (nI (m8N (y.2.2.2.2.2.2.1 k)))), (2, .int ((y.2.2.2.2.2.2.1) k)), (0, .ref h), (1, .int (nI k))] → W p l e { frames := 1, cells := 0, slots := 0, locals := 20 } s m [.ref h, .int (nI k)].toArray below meth cd H locs 0 0 (MQ below (mQ (some (.int ((m8 y.2.2.2.2.2.2.1 y.2.1 k).1))) D (moZ h qb qt qa cI (y8 y k)) (A4 h qb qt qa)) [.ref h, .int (nI k)].toArray s 0 0 (A4 h qb qt qa)) (F0 m 106 ls [.int x, .int (y.2.2.2.2.2.2.1 k)]) := by
            intro x hd9 ls hl
            refine lv_irem hx hb dM_takeEight_106 (by rw [hd9]; exact m8d_ne _) ?_
            refine lv_istore (lv' := [(4, .int ((y.2.2.2.2.2.2.1 k) - (y.2.2.2.2.2.2.1 k) / x * x)), (3, .int (nI (m8N (y.2.2.2.2.2.2.1 k)))), (2, .int ((y.2.2.2.2.2.2.1) k)), (0, .ref h), (1, .int (nI k))]) hx hb dM_takeEight_107 hl (by decide) rfl (fun ls hl => ?_)
            refine lv_iconst (v := 1) hx hb dM_takeEight_109 (by decide) ?_
            refine lv_istore (lv' := [(5, .int 1), (4, .int ((y.2.2.2.2.2.2.1 k) - (y.2.2.2.2.2.2.1 k) / x * x)), (3, .int (nI (m8N (y.2.2.2.2.2.2.1 k)))), (2, .int ((y.2.2.2.2.2.2.1) k)), (0, .ref h), (1, .int (nI k))]) hx hb dM_takeEight_110 hl (by decide) rfl (fun ls hl => ?_)
            have J112 : ∀ (fu : Nat) (v : Int32) (u : Int32) (j : Nat), u = nI j → 1 ≤ j → j ≤ m8N (y.2.2.2.2.2.2.1 k) → m8N (y.2.2.2.2.2.2.1 k) < j + fu → m8 y.2.2.2.2.2.2.1 y.2.1 k = m8F (y.2.2.2.2.2.2.1 k) (m8N (y.2.2.2.2.2.2.1 k)) (m8l y.2.2.2.2.2.2.1 k (m8N (y.2.2.2.2.2.2.1 k) - j) j v) → ∀ ls : Array Slot, lv_has ls 6 [(3, .int (nI (m8N (y.2.2.2.2.2.2.1 k)))), (2, .int ((y.2.2.2.2.2.2.1) k)), (0, .ref h), (1, .int (nI k)), (4, .int v), (5, .int u)] → W p l e { frames := 1, cells := 0, slots := 0, locals := 20 } s m [.ref h, .int (nI k)].toArray below meth cd H locs 0 0 (MQ below (mQ (some (.int ((m8 y.2.2.2.2.2.2.1 y.2.1 k).1))) D (moZ h qb qt qa cI (y8 y k)) (A4 h qb qt qa)) [.ref h, .int (nI k)].toArray s 0 0 (A4 h qb qt qa)) (F0 m 112 ls []) := by
              intro fu
              induction fu with
              | zero =>
                intro v u j hx9 hj1 hj2 hf9 hR ls hl
                exact absurd hf9 (by omega)
              | succ fu ih =>
                intro v u j hx9 hj1 hj2 hf9 hR ls hl
                subst hx9
                have hN4 := m8N_le (y.2.2.2.2.2.2.1 k)
                refine lv_iload hx hb dM_takeEight_112 (lv_at hl 5 rfl) ?_
                refine lv_iload_n hx hb dM_takeEight_114 rfl (lv_at hl 0 rfl) ?_
                refine lv_icmp_ge (tgt := 162) hx hb dM_takeEight_115 (by decide) (fun c4 => ?_) (fun c4 => ?_)
                · skip
                  rw [nI_leI (by omega) (by omega)] at c4
                  rw [show m8N (y.2.2.2.2.2.2.1 k) - j = 0 by omega] at hR
                  simp only [m8l] at hR
                  refine lv_aload_n hx hb dM_takeEight_162 rfl (lv_at hl 2 rfl) ?_
                  refine lv_iload hx hb dM_takeEight_163 (lv_at hl 4 rfl) ?_
                  refine va_put (D := D) (ci := 1) (v := .int v) (ty := .int) (C := "SignReaderModel") (T := T_M) (N := 9) hx hb hts i_M t_M t_M_ok n_M hown hK hP (moD hd) hS 0 rfl rfl 8 (by decide) (hts _ k399) (fun _ h9 => h9) rfl (by decide +kernel) rfl rfl (Nat.le_of_ble_eq_true rfl) dM_takeEight_165 (fun H locs hP _ hS => ?_)
                  have hP : va_P D CL (moW h qb qt qa cI (y.1) (nI y.2.1) (nI y.2.2.1) (y.2.2.2.1) (nI y.2.2.2.2.1) (v) (y.2.2.2.2.2.2.1) (y.2.2.2.2.2.2.2.1) (y.2.2.2.2.2.2.2.2)) H := hP
                  have hP : va_P D CL (moZ h qb qt qa cI (setF y (v))) _ := va_Pe (rfl : moW h qb qt qa cI (y.1) (nI y.2.1) (nI y.2.2.1) (y.2.2.2.1) (nI y.2.2.2.2.1) (v) (y.2.2.2.2.2.2.1) (y.2.2.2.2.2.2.2.1) (y.2.2.2.2.2.2.2.2) = moZ h qb qt qa cI (setF y (v))) hP
                  refine lv_iload hx hb dM_takeEight_168 (lv_at hl 4 rfl) ?_
                  refine ro_S (As := [.int v]) (rest := []) (n := 1) S (cM_bytesOf l (v)) k473 k2 k472 (by decide +kernel) ⟨rfl, rfl⟩ k471 (by decide) preEq rfl rfl hl.1 (Nat.le_of_ble_eq_true rfl) ⟨Nat.le_refl _, Nat.le_refl _⟩ dM_takeEight_170 ?_
                  refine lv_iload_n hx hb dM_takeEight_173 rfl (lv_at hl 0 rfl) ?_
                  refine lv_icmp_ne (tgt := 181) hx hb dM_takeEight_174 (by decide) (fun c5 => ?_) (fun c5 => ?_)
                  · skip
                    refine lv_iconst (v := (-1)) hx hb dM_takeEight_181 (by decide) ?_
                    have hP : va_P D CL (moZ h qb qt qa cI (y8 y k)) _ := va_Pe (congrArg (moZ h qb qt qa cI) (by rw [y8, hR, m8F] : (setF y (v) : MS) = y8 y k)) hP
                    exact mu_retI S hr hk (by rw [hR, m8F]; simp only [c5, ↓reduceIte]) hP hS dM_takeEight_182
                  · skip
                    refine lv_iload_n hx hb dM_takeEight_177 rfl (lv_at hl 0 rfl) ?_
                    refine lv_goto (tgt := 182) hx hb dM_takeEight_178 (by decide) ?_
                    have hP : va_P D CL (moZ h qb qt qa cI (y8 y k)) _ := va_Pe (congrArg (moZ h qb qt qa cI) (by rw [y8, hR, m8F] : (setF y (v) : MS) = y8 y k)) hP
                    exact mu_retI S hr hk (by rw [hR, m8F]; simp only [c5, ↓reduceIte]) hP hS dM_takeEight_182
                · skip
                  rw [nI_leI (by omega) (by omega)] at c4
                  rw [show m8N (y.2.2.2.2.2.2.1 k) - j = (m8N (y.2.2.2.2.2.2.1 k) - j - 1) + 1 by omega] at hR
                  simp only [m8l] at hR
                  refine lv_aload_n hx hb dM_takeEight_118 rfl (lv_at hl 2 rfl) ?_
                  refine va_get (D := D) (ci := 1) (v := .ref qb) (C := "SignReaderModel") (T := T_M) (N := 9) hx hb hts i_M hown hK hP 0 rfl rfl 1 (by decide) (hts _ k392) (fun _ h9 => h9) rfl dM_takeEight_119 ?_
                  refine lv_iload_n hx hb dM_takeEight_122 rfl (lv_at hl 3 rfl) ?_
                  refine lv_iload hx hb dM_takeEight_123 (lv_at hl 5 rfl) ?_
                  refine lv_iadd hx hb dM_takeEight_125 ?_
                  refine va_iald (f := (y.2.2.2.2.2.2.1)) hx hb hK hP 1 0 rfl rfl (by rw [nI_add]; exact vp_in_nI (by omega) (by omega)) dM_takeEight_126 ?_
                  rw [nI_add, nI_clamp (n := k + j) (by omega)]
                  refine lv_bipush (v := 64) hx hb dM_takeEight_127 (by decide) ?_
                  refine lv_idiv hx hb dM_takeEight_129 (by decide) ?_
                  refine lv_iconst (v := 2) hx hb dM_takeEight_130 (by decide) ?_
                  refine lv_icmp_eq (tgt := 136) hx hb dM_takeEight_131 (by decide) (fun c6 => ?_) (fun c6 => ?_)
                  · skip
                    refine lv_bipush (v := 64) hx hb dM_takeEight_136 (by decide) ?_
                    refine lv_iload hx hb dM_takeEight_138 (lv_at hl 4 rfl) ?_
                    refine lv_imul hx hb dM_takeEight_140 ?_
                    refine lv_aload_n hx hb dM_takeEight_141 rfl (lv_at hl 2 rfl) ?_
                    refine va_get (D := D) (ci := 1) (v := .ref qb) (C := "SignReaderModel") (T := T_M) (N := 9) hx hb hts i_M hown hK hP 0 rfl rfl 1 (by decide) (hts _ k392) (fun _ h9 => h9) rfl dM_takeEight_142 ?_
                    refine lv_iload_n hx hb dM_takeEight_145 rfl (lv_at hl 3 rfl) ?_
                    refine lv_iload hx hb dM_takeEight_146 (lv_at hl 5 rfl) ?_
                    refine lv_iadd hx hb dM_takeEight_148 ?_
                    refine va_iald (f := (y.2.2.2.2.2.2.1)) hx hb hK hP 1 0 rfl rfl (by rw [nI_add]; exact vp_in_nI (by omega) (by omega)) dM_takeEight_149 ?_
                    rw [show (nI k + nI j).toNatClampNeg = k + j by rw [nI_add]; exact nI_clamp (by omega)]
                    refine lv_bipush (v := 64) hx hb dM_takeEight_150 (by decide) ?_
                    refine lv_irem hx hb dM_takeEight_152 (by decide) ?_
                    refine lv_iadd hx hb dM_takeEight_153 ?_
                    refine lv_istore (lv' := [(4, .int ((64 * v) + (((y.2.2.2.2.2.2.1) (k + j)) - ((y.2.2.2.2.2.2.1) (k + j)) / 64 * 64))), (3, .int (nI (m8N (y.2.2.2.2.2.2.1 k)))), (2, .int ((y.2.2.2.2.2.2.1) k)), (0, .ref h), (1, .int (nI k)), (5, .int (nI j))]) hx hb dM_takeEight_154 hl (by decide) rfl (fun ls hl => ?_)
                    refine lv_iinc (v := ((nI j) + 1)) (lv' := [(5, .int ((nI j) + 1)), (4, .int ((64 * v) + (((y.2.2.2.2.2.2.1) (k + j)) - ((y.2.2.2.2.2.2.1) (k + j)) / 64 * 64))), (3, .int (nI (m8N (y.2.2.2.2.2.2.1 k)))), (2, .int ((y.2.2.2.2.2.2.1) k)), (0, .ref h), (1, .int (nI k))]) hx hb dM_takeEight_156 hl (k := 5) rfl rfl (by decide) rfl (fun ls hl => ?_)
                    refine lv_goto (tgt := 112) hx hb dM_takeEight_159 (by decide) ?_
                    exact ih (((64 * v) + (((y.2.2.2.2.2.2.1) (k + j)) - ((y.2.2.2.2.2.2.1) (k + j)) / 64 * 64))) (((nI j) + 1)) (j + 1) (nI_1 j) (by omega) (by omega) (by omega) (by rw [hR, if_pos c6, show m8N (y.2.2.2.2.2.2.1 k) - (j + 1) = m8N (y.2.2.2.2.2.2.1 k) - j - 1 by omega]) ls (lv_sub hl [2, 3, 4, 5, 1, 0] rfl) 
                  · skip
                    refine lv_iconst (v := (-1)) hx hb dM_takeEight_134 (by decide) ?_
                    have hP : va_P D CL (moZ h qb qt qa cI (y8 y k)) _ := va_Pe (congrArg (moZ h qb qt qa cI) (by rw [y8, hR, if_neg c6, m8F] : (setF y (y.2.2.2.2.2.2.1 k) : MS) = y8 y k)) hP
                    exact mu_retI S hr hk (by rw [hR, if_neg c6, m8F]) hP hS dM_takeEight_135
            exact J112 (m8N (y.2.2.2.2.2.2.1 k) + 1) (((y.2.2.2.2.2.2.1 k) - (y.2.2.2.2.2.2.1 k) / x * x)) (1) (1) (rfl) (by omega) (hN1) (by omega) (by rw [hd9]; simp only [m8, c1, c2, c3, ↓reduceIte]) ls (lv_sub hl [2, 3, 4, 5, 1, 0] rfl) 
          refine lv_iload_n hx hb dM_takeEight_83 rfl (lv_at hl 1 rfl) ?_
          refine lv_iload_n hx hb dM_takeEight_84 rfl (lv_at hl 0 rfl) ?_
          refine lv_iconst (v := 2) hx hb dM_takeEight_85 (by decide) ?_
          refine lv_icmp_ne (tgt := 94) hx hb dM_takeEight_86 (by decide) (fun c7 => ?_) (fun c7 => ?_)
          · skip
            refine lv_iload_n hx hb dM_takeEight_94 rfl (lv_at hl 0 rfl) ?_
            refine lv_iconst (v := 3) hx hb dM_takeEight_95 (by decide) ?_
            refine lv_icmp_ne (tgt := 104) hx hb dM_takeEight_96 (by decide) (fun c8 => ?_) (fun c8 => ?_)
            · skip
              refine lv_bipush (v := 8) hx hb dM_takeEight_104 (by decide) ?_
              exact J106  (8) (by rw [m8d, if_neg c7, if_neg c8]) ls (lv_sub hl [0, 1, 2, 3] rfl) 
            · skip
              refine lv_bipush (v := 16) hx hb dM_takeEight_99 (by decide) ?_
              refine lv_goto (tgt := 106) hx hb dM_takeEight_101 (by decide) ?_
              exact J106  (16) (by rw [m8d, if_neg c7, if_pos c8]) ls (lv_sub hl [0, 1, 2, 3] rfl) 
          · skip
            refine lv_bipush (v := 32) hx hb dM_takeEight_89 (by decide) ?_
            refine lv_goto (tgt := 106) hx hb dM_takeEight_91 (by decide) ?_
            exact J106  (32) (by rw [m8d, if_pos c7]) ls (lv_sub hl [0, 1, 2, 3] rfl) 
        · skip
          rw [nI_add, nI_leI (by omega) (by omega)] at c3
          refine lv_iconst (v := (-1)) hx hb dM_takeEight_81 (by decide) ?_
          have hP : va_P D CL (moZ h qb qt qa cI (y8 y k)) _ := va_Pe (congrArg (moZ h qb qt qa cI) (by rw [y8, show m8 y.2.2.2.2.2.2.1 y.2.1 k = (-1, y.2.2.2.2.2.2.1 k) by simp only [m8, c1, c2, c3, ↓reduceIte]] : (setF y (y.2.2.2.2.2.2.1 k) : MS) = y8 y k)) hP
          exact mu_retI S hr hk (by rw [show m8 y.2.2.2.2.2.2.1 y.2.1 k = (-1, y.2.2.2.2.2.2.1 k) by simp only [m8, c1, c2, c3, ↓reduceIte]]) hP hS dM_takeEight_82
    refine lv_iload_n hx hb dM_takeEight_21 rfl (lv_at hl 0 rfl) ?_
    refine lv_sipush (v := 192) hx hb dM_takeEight_22 (by decide) ?_
    refine lv_icmp_ge (tgt := 32) hx hb dM_takeEight_25 (by decide) (fun c9 => ?_) (fun c9 => ?_)
    · skip
      refine lv_iload_n hx hb dM_takeEight_32 rfl (lv_at hl 0 rfl) ?_
      refine lv_sipush (v := 224) hx hb dM_takeEight_33 (by decide) ?_
      refine lv_icmp_ge (tgt := 43) hx hb dM_takeEight_36 (by decide) (fun c10 => ?_) (fun c10 => ?_)
      · skip
        refine lv_iload_n hx hb dM_takeEight_43 rfl (lv_at hl 0 rfl) ?_
        refine lv_sipush (v := 240) hx hb dM_takeEight_44 (by decide) ?_
        refine lv_icmp_ge (tgt := 54) hx hb dM_takeEight_47 (by decide) (fun c11 => ?_) (fun c11 => ?_)
        · skip
          refine lv_iload_n hx hb dM_takeEight_54 rfl (lv_at hl 0 rfl) ?_
          refine lv_sipush (v := 248) hx hb dM_takeEight_55 (by decide) ?_
          refine lv_icmp_ge (tgt := 65) hx hb dM_takeEight_58 (by decide) (fun c12 => ?_) (fun c12 => ?_)
          · skip
            refine lv_iconst (v := 0) hx hb dM_takeEight_65 (by decide) ?_
            exact J66  (0) (by simp only [m8N, c9, c10, c11, c12, ↓reduceIte]; rfl) ls (lv_sub hl [0, 1, 2] rfl) 
          · skip
            refine lv_iconst (v := 4) hx hb dM_takeEight_61 (by decide) ?_
            refine lv_goto (tgt := 66) hx hb dM_takeEight_62 (by decide) ?_
            exact J66  (4) (by simp only [m8N, c9, c10, c11, c12, ↓reduceIte]; rfl) ls (lv_sub hl [0, 1, 2] rfl) 
        · skip
          refine lv_iconst (v := 3) hx hb dM_takeEight_50 (by decide) ?_
          refine lv_goto (tgt := 66) hx hb dM_takeEight_51 (by decide) ?_
          exact J66  (3) (by simp only [m8N, c9, c10, c11, ↓reduceIte]; rfl) ls (lv_sub hl [0, 1, 2] rfl) 
      · skip
        refine lv_iconst (v := 2) hx hb dM_takeEight_39 (by decide) ?_
        refine lv_goto (tgt := 66) hx hb dM_takeEight_40 (by decide) ?_
        exact J66  (2) (by simp only [m8N, c9, c10, ↓reduceIte]; rfl) ls (lv_sub hl [0, 1, 2] rfl) 
    · skip
      refine lv_iconst (v := 0) hx hb dM_takeEight_28 (by decide) ?_
      refine lv_goto (tgt := 66) hx hb dM_takeEight_29 (by decide) ?_
      exact J66  (0) (by simp only [m8N, c9, ↓reduceIte]; rfl) ls (lv_sub hl [0, 1, 2] rfl) 
  · skip
    refine lv_iconst (v := 1) hx hb dM_takeEight_19 (by decide) ?_
    have hP : va_P D CL (moZ h qb qt qa cI (y8 y k)) _ := va_Pe (congrArg (moZ h qb qt qa cI) (by rw [y8, show m8 y.2.2.2.2.2.2.1 y.2.1 k = (1, y.2.2.2.2.2.2.1 k) by simp only [m8, c1, ↓reduceIte]] : (setF y (y.2.2.2.2.2.2.1 k) : MS) = y8 y k)) hP
    exact mu_retI S hr hk (by rw [show m8 y.2.2.2.2.2.2.1 y.2.1 k = (1, y.2.2.2.2.2.2.1 k) by simp only [m8, c1, ↓reduceIte]]) hP hS dM_takeEight_20
def yP (y : MS) (b : Int32) : MS := (y.1, y.2.1, y.2.2.1, y.2.2.2.1, y.2.2.2.2.1 + 1, y.2.2.2.2.2.1, y.2.2.2.2.2.2.1, y.2.2.2.2.2.2.2.1, if y.2.2.2.2.1 < 4100 then upd y.2.2.2.2.2.2.2.2 y.2.2.2.2.1 b else y.2.2.2.2.2.2.2.2)
theorem yP_ok {y : MS} {b : Int32} (hy : okY y ∧ y.2.2.2.2.1 < 1000000) : okY (yP y b) := ⟨hy.1.1, hy.1.2.1, by show y.2.2.2.2.1 + 1 ≤ 1000000; omega⟩
set_option maxHeartbeats 4000000 in
set_option maxRecDepth 100000 in
theorem cM_put (l : Launch) (D : va_G) (h qb qt qa : Nat) (cI : ClassId) (y : MS) (b : Int32) (hd : ap4 h qb qt qa) (hy : okY y) (hct : y.2.2.2.2.1 < 1000000) : Met l yM_put (Cond.code yM_put prog_3_method_26_code 2 none :: TB) { frames := 0, cells := 0, slots := 0, locals := 0 } (gx (xM D h qb qt qa cI y) [.ref h, .int b]) (mQ (none) D (moZ h qb qt qa cI (yP y b)) (A4 h qb qt qa)) 0 0 (A4 h qb qt qa) := by
  refine mt_of (by decide) ?_
  intro p e s m args below meth cd S hr hk hin hv
  obtain ⟨rfl, hX⟩ := hv
  have hP : va_P D CL (moZ h qb qt qa cI y) s.heap := hX.1
  have hK := hX.2
  have hy1 := hy.1
  have hy2 := hy.2.1
  have hy3 := hy.2.2
  have hS : va_S (A4 h qb qt qa) s.heap s.heap [] := va_S.rf
  have hx := S.1
  have hb := S.2.1
  have hown := S.2.2.2.1
  have hts := S.2.2.2.2
  have hl := lv_entry ([.ref h, .int b]) (n := 2) (Nat.le_of_ble_eq_true rfl)
  rw [lg_entry_eq]
  generalize (lg_sl ([.ref h, .int b]) ++ List.replicate (2 - (lg_sl ([.ref h, .int b])).length) Slot.unset).toArray = ls at hl ⊢
  have hl : lv_has ls 2 [(0, .ref h), (1, .int b)] := hl
  refine lv_aload_n hx hb dM_put_0 rfl (lv_at hl 0 rfl) ?_
  refine va_get (D := D) (ci := 1) (v := .int (nI y.2.2.2.2.1)) (C := "SignReaderModel") (T := T_M) (N := 9) hx hb hts i_M hown hK hP 0 rfl rfl 7 (by decide) (hts _ k398) (fun _ h9 => h9) rfl dM_put_1 ?_
  refine lv_sipush (v := 4100) hx hb dM_put_4 (by decide) ?_
  refine lv_icmp_ge (tgt := 20) hx hb dM_put_7 (by decide) (fun c1 => ?_) (fun c1 => ?_)
  · skip
    rw [show (4100 : Int32) = nI 4100 from rfl, nI_leI (by omega) (by omega)] at c1
    refine lv_aload_n hx hb dM_put_20 rfl (lv_at hl 0 rfl) ?_
    refine lv_aload_n hx hb dM_put_21 rfl (lv_at hl 0 rfl) ?_
    refine va_get (D := D) (ci := 1) (v := .int (nI y.2.2.2.2.1)) (C := "SignReaderModel") (T := T_M) (N := 9) hx hb hts i_M hown hK hP 0 rfl rfl 7 (by decide) (hts _ k398) (fun _ h9 => h9) rfl dM_put_22 ?_
    refine lv_iconst (v := 1) hx hb dM_put_25 (by decide) ?_
    refine lv_iadd hx hb dM_put_26 ?_
    refine va_put (D := D) (ci := 1) (v := .int ((nI y.2.2.2.2.1) + 1)) (ty := .int) (C := "SignReaderModel") (T := T_M) (N := 9) hx hb hts i_M t_M t_M_ok n_M hown hK hP (moD hd) hS 0 rfl rfl 7 (by decide) (hts _ k398) (fun _ h9 => h9) rfl (by decide +kernel) rfl rfl (Nat.le_of_ble_eq_true rfl) dM_put_27 (fun H locs hP _ hS => ?_)
    have hP : va_P D CL (moW h qb qt qa cI (y.1) (nI y.2.1) (nI y.2.2.1) (y.2.2.2.1) (((nI y.2.2.2.2.1) + 1)) (y.2.2.2.2.2.1) (y.2.2.2.2.2.2.1) (y.2.2.2.2.2.2.2.1) (y.2.2.2.2.2.2.2.2)) H := hP
    have hP : va_P D CL (moZ h qb qt qa cI (yP y b)) _ := va_Pe (by simp only [yP, nI_1]; rw [if_neg (by omega)] : moW h qb qt qa cI (y.1) (nI y.2.1) (nI y.2.2.1) (y.2.2.2.1) (((nI y.2.2.2.2.1) + 1)) (y.2.2.2.2.2.1) (y.2.2.2.2.2.2.1) (y.2.2.2.2.2.2.2.1) (y.2.2.2.2.2.2.2.2) = moZ h qb qt qa cI (yP y b)) hP
    exact mu_ret0 S hr hk hP hS dM_put_30
  · skip
    rw [show (4100 : Int32) = nI 4100 from rfl, nI_leI (by omega) (by omega)] at c1
    refine lv_aload_n hx hb dM_put_10 rfl (lv_at hl 0 rfl) ?_
    refine va_get (D := D) (ci := 1) (v := .ref qa) (C := "SignReaderModel") (T := T_M) (N := 9) hx hb hts i_M hown hK hP 0 rfl rfl 6 (by decide) (hts _ k397) (fun _ h9 => h9) rfl dM_put_11 ?_
    refine lv_aload_n hx hb dM_put_14 rfl (lv_at hl 0 rfl) ?_
    refine va_get (D := D) (ci := 1) (v := .int (nI y.2.2.2.2.1)) (C := "SignReaderModel") (T := T_M) (N := 9) hx hb hts i_M hown hK hP 0 rfl rfl 7 (by decide) (hts _ k398) (fun _ h9 => h9) rfl dM_put_15 ?_
    refine lv_iload_n hx hb dM_put_18 rfl (lv_at hl 1 rfl) ?_
    refine va_iast hx hb hK hP (moD hd) hS 3 0 rfl rfl (vp_in_nI (by omega) (by omega)) dM_put_19 (fun H locs hP _ hS => ?_)
    have hP : va_P D CL (moW h qb qt qa cI (y.1) (nI y.2.1) (nI y.2.2.1) (y.2.2.2.1) (nI y.2.2.2.2.1) (y.2.2.2.2.2.1) (y.2.2.2.2.2.2.1) (y.2.2.2.2.2.2.2.1) (upd (y.2.2.2.2.2.2.2.2) ((nI y.2.2.2.2.1)).toNatClampNeg (b))) H := hP
    refine lv_aload_n hx hb dM_put_20 rfl (lv_at hl 0 rfl) ?_
    refine lv_aload_n hx hb dM_put_21 rfl (lv_at hl 0 rfl) ?_
    refine va_get (D := D) (ci := 1) (v := .int (nI y.2.2.2.2.1)) (C := "SignReaderModel") (T := T_M) (N := 9) hx hb hts i_M hown hK hP 0 rfl rfl 7 (by decide) (hts _ k398) (fun _ h9 => h9) rfl dM_put_22 ?_
    refine lv_iconst (v := 1) hx hb dM_put_25 (by decide) ?_
    refine lv_iadd hx hb dM_put_26 ?_
    refine va_put (D := D) (ci := 1) (v := .int ((nI y.2.2.2.2.1) + 1)) (ty := .int) (C := "SignReaderModel") (T := T_M) (N := 9) hx hb hts i_M t_M t_M_ok n_M hown hK hP (moD hd) hS 0 rfl rfl 7 (by decide) (hts _ k398) (fun _ h9 => h9) rfl (by decide +kernel) rfl rfl (Nat.le_of_ble_eq_true rfl) dM_put_27 (fun H locs hP _ hS => ?_)
    have hP : va_P D CL (moW h qb qt qa cI (y.1) (nI y.2.1) (nI y.2.2.1) (y.2.2.2.1) (((nI y.2.2.2.2.1) + 1)) (y.2.2.2.2.2.1) (y.2.2.2.2.2.2.1) (y.2.2.2.2.2.2.2.1) (upd (y.2.2.2.2.2.2.2.2) ((nI y.2.2.2.2.1)).toNatClampNeg (b))) H := hP
    have hP : va_P D CL (moZ h qb qt qa cI (yP y b)) _ := va_Pe (by simp only [yP, nI_1, nI_clamp (show y.2.2.2.2.1 < 2 ^ 31 by omega)]; rw [if_pos (by omega)] : moW h qb qt qa cI (y.1) (nI y.2.1) (nI y.2.2.1) (y.2.2.2.1) (((nI y.2.2.2.2.1) + 1)) (y.2.2.2.2.2.1) (y.2.2.2.2.2.2.1) (y.2.2.2.2.2.2.2.1) (upd (y.2.2.2.2.2.2.2.2) ((nI y.2.2.2.2.1)).toNatClampNeg (b)) = moZ h qb qt qa cI (yP y b)) hP
    exact mu_ret0 S hr hk hP hS dM_put_30
def yPair (y : MS) (u hi : Int32) : MS := if hi = 0 then yP (yP y (u - u / 256 * 256)) (u / 256) else yP (yP y (u / 256)) (u - u / 256 * 256)
theorem yPair_ct (y : MS) (u hi : Int32) : (yPair y u hi).2.2.2.2.1 = y.2.2.2.2.1 + 2 := by unfold yPair; split <;> rfl
theorem yPair_ok {y : MS} {u hi : Int32} (hy : okY y ∧ y.2.2.2.2.1 + 2 ≤ 1000000) : okY (yPair y u hi) := by
  obtain ⟨h, hc⟩ := hy
  unfold yPair
  split <;> exact yP_ok ⟨yP_ok ⟨h, by omega⟩, by show _ + 1 < 1000000; omega⟩
set_option maxHeartbeats 4000000 in
set_option maxRecDepth 100000 in
theorem cM_pair (l : Launch) (D : va_G) (h qb qt qa : Nat) (cI : ClassId) (y : MS) (u hi : Int32) (hd : ap4 h qb qt qa) (hy : okY y) (hct : y.2.2.2.2.1 + 2 ≤ 1000000) : Met l yM_pair (Cond.code yM_pair prog_3_method_27_code 3 none :: TB) { frames := 1, cells := 0, slots := 0, locals := 21 } (gx (xM D h qb qt qa cI y) [.ref h, .int u, .int hi]) (mQ (none) D (moZ h qb qt qa cI (yPair y u hi)) (A4 h qb qt qa)) 0 0 (A4 h qb qt qa) := by
  refine mt_of (by decide) ?_
  intro p e s m args below meth cd S hr hk hin hv
  obtain ⟨rfl, hX⟩ := hv
  have hP : va_P D CL (moZ h qb qt qa cI y) s.heap := hX.1
  have hK := hX.2
  have hy1 := hy.1
  have hy2 := hy.2.1
  have hy3 := hy.2.2
  have hS : va_S (A4 h qb qt qa) s.heap s.heap [] := va_S.rf
  have hx := S.1
  have hb := S.2.1
  have hown := S.2.2.2.1
  have hts := S.2.2.2.2
  have hl := lv_entry ([.ref h, .int u, .int hi]) (n := 3) (Nat.le_of_ble_eq_true rfl)
  rw [lg_entry_eq]
  generalize (lg_sl ([.ref h, .int u, .int hi]) ++ List.replicate (3 - (lg_sl ([.ref h, .int u, .int hi])).length) Slot.unset).toArray = ls at hl ⊢
  have hl : lv_has ls 3 [(0, .ref h), (1, .int u), (2, .int hi)] := hl
  refine lv_aload_n hx hb dM_pair_0 rfl (lv_at hl 0 rfl) ?_
  refine lv_iload_n hx hb dM_pair_1 rfl (lv_at hl 2 rfl) ?_
  refine lv_if_eq (tgt := 13) hx hb dM_pair_2 (by decide) (fun c1 => ?_) (fun c1 => ?_)
  · skip
    refine lv_iload_n hx hb dM_pair_13 rfl (lv_at hl 1 rfl) ?_
    refine lv_sipush (v := 256) hx hb dM_pair_14 (by decide) ?_
    refine lv_irem hx hb dM_pair_17 (by decide) ?_
    refine mu_V (As := [.int (u - u / 256 * 256)]) (rest := []) (n := 1) (C := "SignReaderModel") S (cM_put l D h qb qt qa cI (y)  ((u - u / 256 * 256)) hd hy (by omega)) k532 k2 k531 ks24 (by decide +kernel) ⟨rfl, rfl⟩ k529 (by decide) (xM_V ⟨hP, hK⟩) rfl rfl hl.1 (Nat.le_of_ble_eq_true rfl) ⟨Nat.le_refl _, Nat.le_refl _⟩ dM_pair_18 hS (fun _ h9 => h9) (fun H locs hP hS => ?_)
    have hP : va_P D CL (moZ h qb qt qa cI (yP y ((u - u / 256 * 256)))) H := hP
    refine lv_aload_n hx hb dM_pair_21 rfl (lv_at hl 0 rfl) ?_
    refine lv_iload_n hx hb dM_pair_22 rfl (lv_at hl 2 rfl) ?_
    refine lv_if_eq (tgt := 34) hx hb dM_pair_23 (by decide) (fun c2 => ?_) (fun c2 => absurd c2 (fun h9 => h9 c1))
    refine lv_iload_n hx hb dM_pair_34 rfl (lv_at hl 1 rfl) ?_
    refine lv_sipush (v := 256) hx hb dM_pair_35 (by decide) ?_
    refine lv_idiv hx hb dM_pair_38 (by decide) ?_
    refine mu_V (As := [.int (u / 256)]) (rest := []) (n := 1) (C := "SignReaderModel") S (cM_put l D h qb qt qa cI (yP y ((u - u / 256 * 256)))  ((u / 256)) hd (yP_ok ⟨hy, (by omega)⟩) (by show _ + 1 < 1000000; omega)) k532 k2 k531 ks24 (by decide +kernel) ⟨rfl, rfl⟩ k529 (by decide) (xM_V ⟨hP, hK⟩) rfl rfl hl.1 (Nat.le_of_ble_eq_true rfl) ⟨Nat.le_refl _, Nat.le_refl _⟩ dM_pair_39 hS (fun _ h9 => h9) (fun H locs hP hS => ?_)
    have hP : va_P D CL (moZ h qb qt qa cI (yP (yP y ((u - u / 256 * 256))) ((u / 256)))) H := hP
    have hP : va_P D CL (moZ h qb qt qa cI (yPair y u hi)) _ := va_Pe (congrArg (moZ h qb qt qa cI) (by simp only [yPair, c1, ↓reduceIte] : (yP (yP y ((u - u / 256 * 256))) ((u / 256)) : MS) = yPair y u hi)) hP
    exact mu_ret0 S hr hk hP hS dM_pair_42
  · skip
    refine lv_iload_n hx hb dM_pair_5 rfl (lv_at hl 1 rfl) ?_
    refine lv_sipush (v := 256) hx hb dM_pair_6 (by decide) ?_
    refine lv_idiv hx hb dM_pair_9 (by decide) ?_
    refine lv_goto (tgt := 18) hx hb dM_pair_10 (by decide) ?_
    refine mu_V (As := [.int (u / 256)]) (rest := []) (n := 1) (C := "SignReaderModel") S (cM_put l D h qb qt qa cI (y)  ((u / 256)) hd hy (by omega)) k532 k2 k531 ks24 (by decide +kernel) ⟨rfl, rfl⟩ k529 (by decide) (xM_V ⟨hP, hK⟩) rfl rfl hl.1 (Nat.le_of_ble_eq_true rfl) ⟨Nat.le_refl _, Nat.le_refl _⟩ dM_pair_18 hS (fun _ h9 => h9) (fun H locs hP hS => ?_)
    have hP : va_P D CL (moZ h qb qt qa cI (yP y ((u / 256)))) H := hP
    refine lv_aload_n hx hb dM_pair_21 rfl (lv_at hl 0 rfl) ?_
    refine lv_iload_n hx hb dM_pair_22 rfl (lv_at hl 2 rfl) ?_
    refine lv_if_eq (tgt := 34) hx hb dM_pair_23 (by decide) (fun c3 => absurd c3 c1) (fun c3 => ?_)
    refine lv_iload_n hx hb dM_pair_26 rfl (lv_at hl 1 rfl) ?_
    refine lv_sipush (v := 256) hx hb dM_pair_27 (by decide) ?_
    refine lv_irem hx hb dM_pair_30 (by decide) ?_
    refine lv_goto (tgt := 39) hx hb dM_pair_31 (by decide) ?_
    refine mu_V (As := [.int (u - u / 256 * 256)]) (rest := []) (n := 1) (C := "SignReaderModel") S (cM_put l D h qb qt qa cI (yP y ((u / 256)))  ((u - u / 256 * 256)) hd (yP_ok ⟨hy, (by omega)⟩) (by show _ + 1 < 1000000; omega)) k532 k2 k531 ks24 (by decide +kernel) ⟨rfl, rfl⟩ k529 (by decide) (xM_V ⟨hP, hK⟩) rfl rfl hl.1 (Nat.le_of_ble_eq_true rfl) ⟨Nat.le_refl _, Nat.le_refl _⟩ dM_pair_39 hS (fun _ h9 => h9) (fun H locs hP hS => ?_)
    have hP : va_P D CL (moZ h qb qt qa cI (yP (yP y ((u / 256))) ((u - u / 256 * 256)))) H := hP
    have hP : va_P D CL (moZ h qb qt qa cI (yPair y u hi)) _ := va_Pe (congrArg (moZ h qb qt qa cI) (by simp only [yPair, c1, ↓reduceIte] : (yP (yP y ((u / 256))) ((u - u / 256 * 256)) : MS) = yPair y u hi)) hP
    exact mu_ret0 S hr hk hP hS dM_pair_42
def y8w (y : MS) (c : Int32) : MS := if sSize8 c = 1 then yP y c else if sSize8 c = 2 then yP (yP y (192 + c / 64)) (128 + (c / 1 - c / 1 / 64 * 64)) else if sSize8 c = 3 then yP (yP (yP y (224 + c / 4096)) (128 + (c / 64 - c / 64 / 64 * 64))) (128 + (c / 1 - c / 1 / 64 * 64)) else yP (yP (yP (yP y (240 + c / 262144)) (128 + (c / 4096 - c / 4096 / 64 * 64))) (128 + (c / 64 - c / 64 / 64 * 64))) (128 + (c / 1 - c / 1 / 64 * 64))
theorem y8w_ok {y : MS} {c : Int32} (hy : okY y ∧ y.2.2.2.2.1 + 4 ≤ 1000000) : okY (y8w y c) ∧ (y8w y c).2.2.2.2.1 ≤ y.2.2.2.2.1 + 4 := by
  obtain ⟨⟨h1, h2, h3⟩, hc⟩ := hy
  unfold y8w
  split
  · exact ⟨⟨h1, h2, by show _ + 1 ≤ 1000000; omega⟩, by show _ + 1 ≤ _; omega⟩
  · split
    · exact ⟨⟨h1, h2, by show _ + 1 + 1 ≤ 1000000; omega⟩, by show _ + 1 + 1 ≤ _; omega⟩
    · split
      · exact ⟨⟨h1, h2, by show _ + 1 + 1 + 1 ≤ 1000000; omega⟩, by show _ + 1 + 1 + 1 ≤ _; omega⟩
      · exact ⟨⟨h1, h2, by show _ + 1 + 1 + 1 + 1 ≤ 1000000; omega⟩, by show _ + 1 + 1 + 1 + 1 ≤ _; omega⟩
set_option maxHeartbeats 4000000 in
set_option maxRecDepth 100000 in
theorem cM_writeEight (l : Launch) (D : va_G) (h qb qt qa : Nat) (cI : ClassId) (y : MS) (c : Int32) (hd : ap4 h qb qt qa) (hy : okY y) (hct : y.2.2.2.2.1 + 4 ≤ 1000000) : Met l yM_writeEight (Cond.code yM_writeEight prog_3_method_28_code 4 none :: TB) { frames := 1, cells := 0, slots := 0, locals := 21 } (gx (xM D h qb qt qa cI y) [.ref h, .int c]) (mQ (none) D (moZ h qb qt qa cI (y8w y c)) (A4 h qb qt qa)) 0 0 (A4 h qb qt qa) := by
  refine mt_of (by decide) ?_
  intro p e s m args below meth cd S hr hk hin hv
  obtain ⟨rfl, hX⟩ := hv
  have hP : va_P D CL (moZ h qb qt qa cI y) s.heap := hX.1
  have hK := hX.2
  have hy1 := hy.1
  have hy2 := hy.2.1
  have hy3 := hy.2.2
  have hS : va_S (A4 h qb qt qa) s.heap s.heap [] := va_S.rf
  have hx := S.1
  have hb := S.2.1
  have hown := S.2.2.2.1
  have hts := S.2.2.2.2
  have hl := lv_entry ([.ref h, .int c]) (n := 4) (Nat.le_of_ble_eq_true rfl)
  rw [lg_entry_eq]
  generalize (lg_sl ([.ref h, .int c]) ++ List.replicate (4 - (lg_sl ([.ref h, .int c])).length) Slot.unset).toArray = ls at hl ⊢
  have hl : lv_has ls 4 [(0, .ref h), (1, .int c)] := hl
  refine lv_iload_n hx hb dM_writeEight_0 rfl (lv_at hl 1 rfl) ?_
  refine ro_S (As := [.int c]) (rest := []) (n := 1) S (cM_bytesOf l (c)) k473 k2 k472 (by decide +kernel) ⟨rfl, rfl⟩ k471 (by decide) preEq rfl rfl hl.1 (Nat.le_of_ble_eq_true rfl) ⟨Nat.le_refl _, Nat.le_refl _⟩ dM_writeEight_1 ?_
  refine lv_istore_n (lv' := [(2, .int (sSize8 c)), (0, .ref h), (1, .int c)]) hx hb dM_writeEight_4 rfl hl (by decide) rfl (fun ls hl => ?_)
  refine lv_iload_n hx hb dM_writeEight_5 rfl (lv_at hl 0 rfl) ?_
  refine lv_iconst (v := 1) hx hb dM_writeEight_6 (by decide) ?_
  refine lv_icmp_ne (tgt := 16) hx hb dM_writeEight_7 (by decide) (fun c1 => ?_) (fun c1 => ?_)
  · skip
    refine lv_iload_n hx hb dM_writeEight_16 rfl (lv_at hl 0 rfl) ?_
    refine lv_iconst (v := 2) hx hb dM_writeEight_17 (by decide) ?_
    refine lv_icmp_ne (tgt := 26) hx hb dM_writeEight_18 (by decide) (fun c2 => ?_) (fun c2 => ?_)
    · skip
      refine lv_iload_n hx hb dM_writeEight_26 rfl (lv_at hl 0 rfl) ?_
      refine lv_iconst (v := 3) hx hb dM_writeEight_27 (by decide) ?_
      refine lv_icmp_ne (tgt := 37) hx hb dM_writeEight_28 (by decide) (fun c3 => ?_) (fun c3 => ?_)
      · skip
        refine lv_ldc (v := 262144) hx hb hown (hts _ k537) dM_writeEight_37 ?_
        refine lv_istore_n (lv' := [(3, .int 262144), (2, .int (sSize8 c)), (0, .ref h), (1, .int c)]) hx hb dM_writeEight_39 rfl hl (by decide) rfl (fun ls hl => ?_)
        refine lv_aload_n hx hb dM_writeEight_40 rfl (lv_at hl 2 rfl) ?_
        refine lv_iload_n hx hb dM_writeEight_41 rfl (lv_at hl 1 rfl) ?_
        refine lv_iconst (v := 2) hx hb dM_writeEight_42 (by decide) ?_
        refine lv_icmp_ne (tgt := 52) hx hb dM_writeEight_43 (by decide) (fun c4 => ?_) (fun c4 => absurd c4 c2)
        refine lv_iload_n hx hb dM_writeEight_52 rfl (lv_at hl 1 rfl) ?_
        refine lv_iconst (v := 3) hx hb dM_writeEight_53 (by decide) ?_
        refine lv_icmp_ne (tgt := 63) hx hb dM_writeEight_54 (by decide) (fun c5 => ?_) (fun c5 => absurd c5 c3)
        refine lv_sipush (v := 240) hx hb dM_writeEight_63 (by decide) ?_
        refine lv_iload_n hx hb dM_writeEight_66 rfl (lv_at hl 3 rfl) ?_
        refine lv_iload_n hx hb dM_writeEight_67 rfl (lv_at hl 0 rfl) ?_
        refine lv_idiv hx hb dM_writeEight_68 (by decide) ?_
        refine lv_iadd hx hb dM_writeEight_69 ?_
        refine mu_V (As := [.int (240 + (c / 262144))]) (rest := []) (n := 1) (C := "SignReaderModel") S (cM_put l D h qb qt qa cI (y)  ((240 + (c / 262144))) hd hy (by omega)) k532 k2 k531 ks24 (by decide +kernel) ⟨rfl, rfl⟩ k529 (by decide) (xM_V ⟨hP, hK⟩) rfl rfl hl.1 (Nat.le_of_ble_eq_true rfl) ⟨Nat.le_refl _, Nat.le_refl _⟩ dM_writeEight_70 hS (fun _ h9 => h9) (fun H locs hP hS => ?_)
        have hP : va_P D CL (moZ h qb qt qa cI (yP y ((240 + (c / 262144))))) H := hP
        refine lv_iload_n hx hb dM_writeEight_73 rfl (lv_at hl 0 rfl) ?_
        refine lv_iconst (v := 1) hx hb dM_writeEight_74 (by decide) ?_
        refine lv_icmp_le (tgt := 100) hx hb dM_writeEight_75 (by decide) (fun c6 => absurd c6 (by decide)) (fun c6 => ?_)
        refine lv_iload_n hx hb dM_writeEight_78 rfl (lv_at hl 0 rfl) ?_
        refine lv_bipush (v := 64) hx hb dM_writeEight_79 (by decide) ?_
        refine lv_idiv hx hb dM_writeEight_81 (by decide) ?_
        rw [show (262144 / 64 : Int32) = 4096 from by decide]
        refine lv_istore_n (lv' := [(3, .int 4096), (2, .int (sSize8 c)), (0, .ref h), (1, .int c)]) hx hb dM_writeEight_82 rfl hl (by decide) rfl (fun ls hl => ?_)
        refine lv_aload_n hx hb dM_writeEight_83 rfl (lv_at hl 2 rfl) ?_
        refine lv_sipush (v := 128) hx hb dM_writeEight_84 (by decide) ?_
        refine lv_iload_n hx hb dM_writeEight_87 rfl (lv_at hl 3 rfl) ?_
        refine lv_iload_n hx hb dM_writeEight_88 rfl (lv_at hl 0 rfl) ?_
        refine lv_idiv hx hb dM_writeEight_89 (by decide) ?_
        refine lv_bipush (v := 64) hx hb dM_writeEight_90 (by decide) ?_
        refine lv_irem hx hb dM_writeEight_92 (by decide) ?_
        refine lv_iadd hx hb dM_writeEight_93 ?_
        refine mu_V (As := [.int (128 + ((c / 4096) - (c / 4096) / 64 * 64))]) (rest := []) (n := 1) (C := "SignReaderModel") S (cM_put l D h qb qt qa cI (yP y ((240 + (c / 262144))))  ((128 + ((c / 4096) - (c / 4096) / 64 * 64))) hd (yP_ok ⟨hy, (by omega)⟩) (by show _ + 1 < 1000000; omega)) k532 k2 k531 ks24 (by decide +kernel) ⟨rfl, rfl⟩ k529 (by decide) (xM_V ⟨hP, hK⟩) rfl rfl hl.1 (Nat.le_of_ble_eq_true rfl) ⟨Nat.le_refl _, Nat.le_refl _⟩ dM_writeEight_94 hS (fun _ h9 => h9) (fun H locs hP hS => ?_)
        have hP : va_P D CL (moZ h qb qt qa cI (yP (yP y ((240 + (c / 262144)))) ((128 + ((c / 4096) - (c / 4096) / 64 * 64))))) H := hP
        refine lv_goto (tgt := 73) hx hb dM_writeEight_97 (by decide) ?_
        refine lv_iload_n hx hb dM_writeEight_73 rfl (lv_at hl 0 rfl) ?_
        refine lv_iconst (v := 1) hx hb dM_writeEight_74 (by decide) ?_
        refine lv_icmp_le (tgt := 100) hx hb dM_writeEight_75 (by decide) (fun c7 => absurd c7 (by decide)) (fun c7 => ?_)
        refine lv_iload_n hx hb dM_writeEight_78 rfl (lv_at hl 0 rfl) ?_
        refine lv_bipush (v := 64) hx hb dM_writeEight_79 (by decide) ?_
        refine lv_idiv hx hb dM_writeEight_81 (by decide) ?_
        rw [show (4096 / 64 : Int32) = 64 from by decide]
        refine lv_istore_n (lv' := [(3, .int 64), (2, .int (sSize8 c)), (0, .ref h), (1, .int c)]) hx hb dM_writeEight_82 rfl hl (by decide) rfl (fun ls hl => ?_)
        refine lv_aload_n hx hb dM_writeEight_83 rfl (lv_at hl 2 rfl) ?_
        refine lv_sipush (v := 128) hx hb dM_writeEight_84 (by decide) ?_
        refine lv_iload_n hx hb dM_writeEight_87 rfl (lv_at hl 3 rfl) ?_
        refine lv_iload_n hx hb dM_writeEight_88 rfl (lv_at hl 0 rfl) ?_
        refine lv_idiv hx hb dM_writeEight_89 (by decide) ?_
        refine lv_bipush (v := 64) hx hb dM_writeEight_90 (by decide) ?_
        refine lv_irem hx hb dM_writeEight_92 (by decide) ?_
        refine lv_iadd hx hb dM_writeEight_93 ?_
        refine mu_V (As := [.int (128 + ((c / 64) - (c / 64) / 64 * 64))]) (rest := []) (n := 1) (C := "SignReaderModel") S (cM_put l D h qb qt qa cI (yP (yP y ((240 + (c / 262144)))) ((128 + ((c / 4096) - (c / 4096) / 64 * 64))))  ((128 + ((c / 64) - (c / 64) / 64 * 64))) hd (yP_ok ⟨(yP_ok ⟨hy, (by omega)⟩), (by show _ + 1 < 1000000; omega)⟩) (by show _ + 1 + 1 < 1000000; omega)) k532 k2 k531 ks24 (by decide +kernel) ⟨rfl, rfl⟩ k529 (by decide) (xM_V ⟨hP, hK⟩) rfl rfl hl.1 (Nat.le_of_ble_eq_true rfl) ⟨Nat.le_refl _, Nat.le_refl _⟩ dM_writeEight_94 hS (fun _ h9 => h9) (fun H locs hP hS => ?_)
        have hP : va_P D CL (moZ h qb qt qa cI (yP (yP (yP y ((240 + (c / 262144)))) ((128 + ((c / 4096) - (c / 4096) / 64 * 64)))) ((128 + ((c / 64) - (c / 64) / 64 * 64))))) H := hP
        refine lv_goto (tgt := 73) hx hb dM_writeEight_97 (by decide) ?_
        refine lv_iload_n hx hb dM_writeEight_73 rfl (lv_at hl 0 rfl) ?_
        refine lv_iconst (v := 1) hx hb dM_writeEight_74 (by decide) ?_
        refine lv_icmp_le (tgt := 100) hx hb dM_writeEight_75 (by decide) (fun c8 => absurd c8 (by decide)) (fun c8 => ?_)
        refine lv_iload_n hx hb dM_writeEight_78 rfl (lv_at hl 0 rfl) ?_
        refine lv_bipush (v := 64) hx hb dM_writeEight_79 (by decide) ?_
        refine lv_idiv hx hb dM_writeEight_81 (by decide) ?_
        rw [show (64 / 64 : Int32) = 1 from by decide]
        refine lv_istore_n (lv' := [(3, .int 1), (2, .int (sSize8 c)), (0, .ref h), (1, .int c)]) hx hb dM_writeEight_82 rfl hl (by decide) rfl (fun ls hl => ?_)
        refine lv_aload_n hx hb dM_writeEight_83 rfl (lv_at hl 2 rfl) ?_
        refine lv_sipush (v := 128) hx hb dM_writeEight_84 (by decide) ?_
        refine lv_iload_n hx hb dM_writeEight_87 rfl (lv_at hl 3 rfl) ?_
        refine lv_iload_n hx hb dM_writeEight_88 rfl (lv_at hl 0 rfl) ?_
        refine lv_idiv hx hb dM_writeEight_89 (by decide) ?_
        refine lv_bipush (v := 64) hx hb dM_writeEight_90 (by decide) ?_
        refine lv_irem hx hb dM_writeEight_92 (by decide) ?_
        refine lv_iadd hx hb dM_writeEight_93 ?_
        refine mu_V (As := [.int (128 + ((c / 1) - (c / 1) / 64 * 64))]) (rest := []) (n := 1) (C := "SignReaderModel") S (cM_put l D h qb qt qa cI (yP (yP (yP y ((240 + (c / 262144)))) ((128 + ((c / 4096) - (c / 4096) / 64 * 64)))) ((128 + ((c / 64) - (c / 64) / 64 * 64))))  ((128 + ((c / 1) - (c / 1) / 64 * 64))) hd (yP_ok ⟨(yP_ok ⟨(yP_ok ⟨hy, (by omega)⟩), (by show _ + 1 < 1000000; omega)⟩), (by show _ + 1 + 1 < 1000000; omega)⟩) (by show _ + 1 + 1 + 1 < 1000000; omega)) k532 k2 k531 ks24 (by decide +kernel) ⟨rfl, rfl⟩ k529 (by decide) (xM_V ⟨hP, hK⟩) rfl rfl hl.1 (Nat.le_of_ble_eq_true rfl) ⟨Nat.le_refl _, Nat.le_refl _⟩ dM_writeEight_94 hS (fun _ h9 => h9) (fun H locs hP hS => ?_)
        have hP : va_P D CL (moZ h qb qt qa cI (yP (yP (yP (yP y ((240 + (c / 262144)))) ((128 + ((c / 4096) - (c / 4096) / 64 * 64)))) ((128 + ((c / 64) - (c / 64) / 64 * 64)))) ((128 + ((c / 1) - (c / 1) / 64 * 64))))) H := hP
        refine lv_goto (tgt := 73) hx hb dM_writeEight_97 (by decide) ?_
        refine lv_iload_n hx hb dM_writeEight_73 rfl (lv_at hl 0 rfl) ?_
        refine lv_iconst (v := 1) hx hb dM_writeEight_74 (by decide) ?_
        refine lv_icmp_le (tgt := 100) hx hb dM_writeEight_75 (by decide) (fun c9 => ?_) (fun c9 => absurd c9 (by decide))
        have hP : va_P D CL (moZ h qb qt qa cI (y8w y c)) _ := va_Pe (congrArg (moZ h qb qt qa cI) (by rw [y8w, if_neg c1, if_neg c2, if_neg c3] : (yP (yP (yP (yP y ((240 + (c / 262144)))) ((128 + ((c / 4096) - (c / 4096) / 64 * 64)))) ((128 + ((c / 64) - (c / 64) / 64 * 64)))) ((128 + ((c / 1) - (c / 1) / 64 * 64))) : MS) = y8w y c)) hP
        exact mu_ret0 S hr hk hP hS dM_writeEight_100
      · skip
        refine lv_sipush (v := 4096) hx hb dM_writeEight_31 (by decide) ?_
        refine lv_goto (tgt := 39) hx hb dM_writeEight_34 (by decide) ?_
        refine lv_istore_n (lv' := [(3, .int 4096), (2, .int (sSize8 c)), (0, .ref h), (1, .int c)]) hx hb dM_writeEight_39 rfl hl (by decide) rfl (fun ls hl => ?_)
        refine lv_aload_n hx hb dM_writeEight_40 rfl (lv_at hl 2 rfl) ?_
        refine lv_iload_n hx hb dM_writeEight_41 rfl (lv_at hl 1 rfl) ?_
        refine lv_iconst (v := 2) hx hb dM_writeEight_42 (by decide) ?_
        refine lv_icmp_ne (tgt := 52) hx hb dM_writeEight_43 (by decide) (fun c10 => ?_) (fun c10 => absurd c10 c2)
        refine lv_iload_n hx hb dM_writeEight_52 rfl (lv_at hl 1 rfl) ?_
        refine lv_iconst (v := 3) hx hb dM_writeEight_53 (by decide) ?_
        refine lv_icmp_ne (tgt := 63) hx hb dM_writeEight_54 (by decide) (fun c11 => absurd c11 (fun h9 => h9 c3)) (fun c11 => ?_)
        refine lv_sipush (v := 224) hx hb dM_writeEight_57 (by decide) ?_
        refine lv_goto (tgt := 66) hx hb dM_writeEight_60 (by decide) ?_
        refine lv_iload_n hx hb dM_writeEight_66 rfl (lv_at hl 3 rfl) ?_
        refine lv_iload_n hx hb dM_writeEight_67 rfl (lv_at hl 0 rfl) ?_
        refine lv_idiv hx hb dM_writeEight_68 (by decide) ?_
        refine lv_iadd hx hb dM_writeEight_69 ?_
        refine mu_V (As := [.int (224 + (c / 4096))]) (rest := []) (n := 1) (C := "SignReaderModel") S (cM_put l D h qb qt qa cI (y)  ((224 + (c / 4096))) hd hy (by omega)) k532 k2 k531 ks24 (by decide +kernel) ⟨rfl, rfl⟩ k529 (by decide) (xM_V ⟨hP, hK⟩) rfl rfl hl.1 (Nat.le_of_ble_eq_true rfl) ⟨Nat.le_refl _, Nat.le_refl _⟩ dM_writeEight_70 hS (fun _ h9 => h9) (fun H locs hP hS => ?_)
        have hP : va_P D CL (moZ h qb qt qa cI (yP y ((224 + (c / 4096))))) H := hP
        refine lv_iload_n hx hb dM_writeEight_73 rfl (lv_at hl 0 rfl) ?_
        refine lv_iconst (v := 1) hx hb dM_writeEight_74 (by decide) ?_
        refine lv_icmp_le (tgt := 100) hx hb dM_writeEight_75 (by decide) (fun c12 => absurd c12 (by decide)) (fun c12 => ?_)
        refine lv_iload_n hx hb dM_writeEight_78 rfl (lv_at hl 0 rfl) ?_
        refine lv_bipush (v := 64) hx hb dM_writeEight_79 (by decide) ?_
        refine lv_idiv hx hb dM_writeEight_81 (by decide) ?_
        rw [show (4096 / 64 : Int32) = 64 from by decide]
        refine lv_istore_n (lv' := [(3, .int 64), (2, .int (sSize8 c)), (0, .ref h), (1, .int c)]) hx hb dM_writeEight_82 rfl hl (by decide) rfl (fun ls hl => ?_)
        refine lv_aload_n hx hb dM_writeEight_83 rfl (lv_at hl 2 rfl) ?_
        refine lv_sipush (v := 128) hx hb dM_writeEight_84 (by decide) ?_
        refine lv_iload_n hx hb dM_writeEight_87 rfl (lv_at hl 3 rfl) ?_
        refine lv_iload_n hx hb dM_writeEight_88 rfl (lv_at hl 0 rfl) ?_
        refine lv_idiv hx hb dM_writeEight_89 (by decide) ?_
        refine lv_bipush (v := 64) hx hb dM_writeEight_90 (by decide) ?_
        refine lv_irem hx hb dM_writeEight_92 (by decide) ?_
        refine lv_iadd hx hb dM_writeEight_93 ?_
        refine mu_V (As := [.int (128 + ((c / 64) - (c / 64) / 64 * 64))]) (rest := []) (n := 1) (C := "SignReaderModel") S (cM_put l D h qb qt qa cI (yP y ((224 + (c / 4096))))  ((128 + ((c / 64) - (c / 64) / 64 * 64))) hd (yP_ok ⟨hy, (by omega)⟩) (by show _ + 1 < 1000000; omega)) k532 k2 k531 ks24 (by decide +kernel) ⟨rfl, rfl⟩ k529 (by decide) (xM_V ⟨hP, hK⟩) rfl rfl hl.1 (Nat.le_of_ble_eq_true rfl) ⟨Nat.le_refl _, Nat.le_refl _⟩ dM_writeEight_94 hS (fun _ h9 => h9) (fun H locs hP hS => ?_)
        have hP : va_P D CL (moZ h qb qt qa cI (yP (yP y ((224 + (c / 4096)))) ((128 + ((c / 64) - (c / 64) / 64 * 64))))) H := hP
        refine lv_goto (tgt := 73) hx hb dM_writeEight_97 (by decide) ?_
        refine lv_iload_n hx hb dM_writeEight_73 rfl (lv_at hl 0 rfl) ?_
        refine lv_iconst (v := 1) hx hb dM_writeEight_74 (by decide) ?_
        refine lv_icmp_le (tgt := 100) hx hb dM_writeEight_75 (by decide) (fun c13 => absurd c13 (by decide)) (fun c13 => ?_)
        refine lv_iload_n hx hb dM_writeEight_78 rfl (lv_at hl 0 rfl) ?_
        refine lv_bipush (v := 64) hx hb dM_writeEight_79 (by decide) ?_
        refine lv_idiv hx hb dM_writeEight_81 (by decide) ?_
        rw [show (64 / 64 : Int32) = 1 from by decide]
        refine lv_istore_n (lv' := [(3, .int 1), (2, .int (sSize8 c)), (0, .ref h), (1, .int c)]) hx hb dM_writeEight_82 rfl hl (by decide) rfl (fun ls hl => ?_)
        refine lv_aload_n hx hb dM_writeEight_83 rfl (lv_at hl 2 rfl) ?_
        refine lv_sipush (v := 128) hx hb dM_writeEight_84 (by decide) ?_
        refine lv_iload_n hx hb dM_writeEight_87 rfl (lv_at hl 3 rfl) ?_
        refine lv_iload_n hx hb dM_writeEight_88 rfl (lv_at hl 0 rfl) ?_
        refine lv_idiv hx hb dM_writeEight_89 (by decide) ?_
        refine lv_bipush (v := 64) hx hb dM_writeEight_90 (by decide) ?_
        refine lv_irem hx hb dM_writeEight_92 (by decide) ?_
        refine lv_iadd hx hb dM_writeEight_93 ?_
        refine mu_V (As := [.int (128 + ((c / 1) - (c / 1) / 64 * 64))]) (rest := []) (n := 1) (C := "SignReaderModel") S (cM_put l D h qb qt qa cI (yP (yP y ((224 + (c / 4096)))) ((128 + ((c / 64) - (c / 64) / 64 * 64))))  ((128 + ((c / 1) - (c / 1) / 64 * 64))) hd (yP_ok ⟨(yP_ok ⟨hy, (by omega)⟩), (by show _ + 1 < 1000000; omega)⟩) (by show _ + 1 + 1 < 1000000; omega)) k532 k2 k531 ks24 (by decide +kernel) ⟨rfl, rfl⟩ k529 (by decide) (xM_V ⟨hP, hK⟩) rfl rfl hl.1 (Nat.le_of_ble_eq_true rfl) ⟨Nat.le_refl _, Nat.le_refl _⟩ dM_writeEight_94 hS (fun _ h9 => h9) (fun H locs hP hS => ?_)
        have hP : va_P D CL (moZ h qb qt qa cI (yP (yP (yP y ((224 + (c / 4096)))) ((128 + ((c / 64) - (c / 64) / 64 * 64)))) ((128 + ((c / 1) - (c / 1) / 64 * 64))))) H := hP
        refine lv_goto (tgt := 73) hx hb dM_writeEight_97 (by decide) ?_
        refine lv_iload_n hx hb dM_writeEight_73 rfl (lv_at hl 0 rfl) ?_
        refine lv_iconst (v := 1) hx hb dM_writeEight_74 (by decide) ?_
        refine lv_icmp_le (tgt := 100) hx hb dM_writeEight_75 (by decide) (fun c14 => ?_) (fun c14 => absurd c14 (by decide))
        have hP : va_P D CL (moZ h qb qt qa cI (y8w y c)) _ := va_Pe (congrArg (moZ h qb qt qa cI) (by rw [y8w, if_neg c1, if_neg c2, if_pos c3] : (yP (yP (yP y ((224 + (c / 4096)))) ((128 + ((c / 64) - (c / 64) / 64 * 64)))) ((128 + ((c / 1) - (c / 1) / 64 * 64))) : MS) = y8w y c)) hP
        exact mu_ret0 S hr hk hP hS dM_writeEight_100
    · skip
      refine lv_bipush (v := 64) hx hb dM_writeEight_21 (by decide) ?_
      refine lv_goto (tgt := 39) hx hb dM_writeEight_23 (by decide) ?_
      refine lv_istore_n (lv' := [(3, .int 64), (2, .int (sSize8 c)), (0, .ref h), (1, .int c)]) hx hb dM_writeEight_39 rfl hl (by decide) rfl (fun ls hl => ?_)
      refine lv_aload_n hx hb dM_writeEight_40 rfl (lv_at hl 2 rfl) ?_
      refine lv_iload_n hx hb dM_writeEight_41 rfl (lv_at hl 1 rfl) ?_
      refine lv_iconst (v := 2) hx hb dM_writeEight_42 (by decide) ?_
      refine lv_icmp_ne (tgt := 52) hx hb dM_writeEight_43 (by decide) (fun c15 => absurd c15 (fun h9 => h9 c2)) (fun c15 => ?_)
      refine lv_sipush (v := 192) hx hb dM_writeEight_46 (by decide) ?_
      refine lv_goto (tgt := 66) hx hb dM_writeEight_49 (by decide) ?_
      refine lv_iload_n hx hb dM_writeEight_66 rfl (lv_at hl 3 rfl) ?_
      refine lv_iload_n hx hb dM_writeEight_67 rfl (lv_at hl 0 rfl) ?_
      refine lv_idiv hx hb dM_writeEight_68 (by decide) ?_
      refine lv_iadd hx hb dM_writeEight_69 ?_
      refine mu_V (As := [.int (192 + (c / 64))]) (rest := []) (n := 1) (C := "SignReaderModel") S (cM_put l D h qb qt qa cI (y)  ((192 + (c / 64))) hd hy (by omega)) k532 k2 k531 ks24 (by decide +kernel) ⟨rfl, rfl⟩ k529 (by decide) (xM_V ⟨hP, hK⟩) rfl rfl hl.1 (Nat.le_of_ble_eq_true rfl) ⟨Nat.le_refl _, Nat.le_refl _⟩ dM_writeEight_70 hS (fun _ h9 => h9) (fun H locs hP hS => ?_)
      have hP : va_P D CL (moZ h qb qt qa cI (yP y ((192 + (c / 64))))) H := hP
      refine lv_iload_n hx hb dM_writeEight_73 rfl (lv_at hl 0 rfl) ?_
      refine lv_iconst (v := 1) hx hb dM_writeEight_74 (by decide) ?_
      refine lv_icmp_le (tgt := 100) hx hb dM_writeEight_75 (by decide) (fun c16 => absurd c16 (by decide)) (fun c16 => ?_)
      refine lv_iload_n hx hb dM_writeEight_78 rfl (lv_at hl 0 rfl) ?_
      refine lv_bipush (v := 64) hx hb dM_writeEight_79 (by decide) ?_
      refine lv_idiv hx hb dM_writeEight_81 (by decide) ?_
      rw [show (64 / 64 : Int32) = 1 from by decide]
      refine lv_istore_n (lv' := [(3, .int 1), (2, .int (sSize8 c)), (0, .ref h), (1, .int c)]) hx hb dM_writeEight_82 rfl hl (by decide) rfl (fun ls hl => ?_)
      refine lv_aload_n hx hb dM_writeEight_83 rfl (lv_at hl 2 rfl) ?_
      refine lv_sipush (v := 128) hx hb dM_writeEight_84 (by decide) ?_
      refine lv_iload_n hx hb dM_writeEight_87 rfl (lv_at hl 3 rfl) ?_
      refine lv_iload_n hx hb dM_writeEight_88 rfl (lv_at hl 0 rfl) ?_
      refine lv_idiv hx hb dM_writeEight_89 (by decide) ?_
      refine lv_bipush (v := 64) hx hb dM_writeEight_90 (by decide) ?_
      refine lv_irem hx hb dM_writeEight_92 (by decide) ?_
      refine lv_iadd hx hb dM_writeEight_93 ?_
      refine mu_V (As := [.int (128 + ((c / 1) - (c / 1) / 64 * 64))]) (rest := []) (n := 1) (C := "SignReaderModel") S (cM_put l D h qb qt qa cI (yP y ((192 + (c / 64))))  ((128 + ((c / 1) - (c / 1) / 64 * 64))) hd (yP_ok ⟨hy, (by omega)⟩) (by show _ + 1 < 1000000; omega)) k532 k2 k531 ks24 (by decide +kernel) ⟨rfl, rfl⟩ k529 (by decide) (xM_V ⟨hP, hK⟩) rfl rfl hl.1 (Nat.le_of_ble_eq_true rfl) ⟨Nat.le_refl _, Nat.le_refl _⟩ dM_writeEight_94 hS (fun _ h9 => h9) (fun H locs hP hS => ?_)
      have hP : va_P D CL (moZ h qb qt qa cI (yP (yP y ((192 + (c / 64)))) ((128 + ((c / 1) - (c / 1) / 64 * 64))))) H := hP
      refine lv_goto (tgt := 73) hx hb dM_writeEight_97 (by decide) ?_
      refine lv_iload_n hx hb dM_writeEight_73 rfl (lv_at hl 0 rfl) ?_
      refine lv_iconst (v := 1) hx hb dM_writeEight_74 (by decide) ?_
      refine lv_icmp_le (tgt := 100) hx hb dM_writeEight_75 (by decide) (fun c17 => ?_) (fun c17 => absurd c17 (by decide))
      have hP : va_P D CL (moZ h qb qt qa cI (y8w y c)) _ := va_Pe (congrArg (moZ h qb qt qa cI) (by rw [y8w, if_neg c1, if_pos c2] : (yP (yP y ((192 + (c / 64)))) ((128 + ((c / 1) - (c / 1) / 64 * 64))) : MS) = y8w y c)) hP
      exact mu_ret0 S hr hk hP hS dM_writeEight_100
  · skip
    refine lv_aload_n hx hb dM_writeEight_10 rfl (lv_at hl 1 rfl) ?_
    refine lv_iload_n hx hb dM_writeEight_11 rfl (lv_at hl 2 rfl) ?_
    refine mu_V (As := [.int c]) (rest := []) (n := 1) (C := "SignReaderModel") S (cM_put l D h qb qt qa cI (y)  (c) hd hy (by omega)) k532 k2 k531 ks24 (by decide +kernel) ⟨rfl, rfl⟩ k529 (by decide) (xM_V ⟨hP, hK⟩) rfl rfl hl.1 (Nat.le_of_ble_eq_true rfl) ⟨Nat.le_refl _, Nat.le_refl _⟩ dM_writeEight_12 hS (fun _ h9 => h9) (fun H locs hP hS => ?_)
    have hP : va_P D CL (moZ h qb qt qa cI (yP y c)) H := hP
    have hP : va_P D CL (moZ h qb qt qa cI (y8w y c)) _ := va_Pe (congrArg (moZ h qb qt qa cI) (by rw [y8w, if_pos c1] : (yP y c : MS) = y8w y c)) hP
    exact mu_ret0 S hr hk hP hS dM_writeEight_15
