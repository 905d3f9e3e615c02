/-! the reference: feed -/
def fV (a1 a2 a3 a4 a5 : Int32) (k : Nat) : Int32 := if 4 ≤ k then (if 8 ≤ k then (if 12 ≤ k then (if 16 ≤ k then a5 else a4) else a3) else a2) else a1
def fB (a1 a2 a3 a4 a5 : Int32) (k : Nat) : Int32 := (fV a1 a2 a3 a4 a5 k >>> ((24 - 8 * (nI k - nI k / 4 * 4)) &&& 31) : Int32) &&& 255
def yPush (y : MS) (b : Int32) : MS := (y.1, y.2.1 + 1, y.2.2.1, y.2.2.2.1, y.2.2.2.2.1, y.2.2.2.2.2.1, upd y.2.2.2.2.2.2.1 y.2.1 b, y.2.2.2.2.2.2.2)
def yF (a1 a2 a3 a4 a5 : Int32) : Nat → MS → MS
  | 0, y => y
  | k + 1, y => yPush (yF a1 a2 a3 a4 a5 k y) (fB a1 a2 a3 a4 a5 k)
theorem yF_n {a1 a2 a3 a4 a5 : Int32} {y : MS} : ∀ k : Nat, (yF a1 a2 a3 a4 a5 k y).2.1 = y.2.1 + k ∧ (yF a1 a2 a3 a4 a5 k y).2.2.1 = y.2.2.1 ∧ (yF a1 a2 a3 a4 a5 k y).2.2.2.2.1 = y.2.2.2.2.1
  | 0 => ⟨rfl, rfl, rfl⟩
  | k + 1 => by
    obtain ⟨h1, h2, h3⟩ := yF_n (a1 := a1) (a2 := a2) (a3 := a3) (a4 := a4) (a5 := a5) (y := y) k
    exact ⟨by show _ + 1 = _; rw [h1]; omega, h2, h3⟩
theorem yF_ok {a1 a2 a3 a4 a5 : Int32} {y : MS} {k : Nat} (hy : okY y) (hk : y.2.1 + k ≤ 4096) : okY (yF a1 a2 a3 a4 a5 k y) := by
  obtain ⟨h1, h2, h3⟩ := yF_n (a1 := a1) (a2 := a2) (a3 := a3) (a4 := a4) (a5 := a5) (y := y) k
  exact ⟨by rw [h1]; exact hk, by rw [h2]; exact hy.2.1, by rw [h3]; exact hy.2.2⟩
def yFeed (y : MS) (a1 a2 a3 a4 a5 : Int32) : MS := if y.2.1 + 20 ≤ 4096 then yF a1 a2 a3 a4 a5 20 (0, y.2) else (1, y.2)
theorem yFeed_ok {y : MS} {a1 a2 a3 a4 a5 : Int32} (hy : okY y) : okY (yFeed y a1 a2 a3 a4 a5) := by
  unfold yFeed
  split
  · next h => exact yF_ok (y := (0, y.2)) hy h
  · exact hy
set_option maxHeartbeats 4000000 in
set_option maxRecDepth 100000 in
theorem cM_feed (l : Launch) (D : va_G) (h qb qt qa : Nat) (cI : ClassId) (y : MS) (a1 a2 a3 a4 a5 : Int32) (hd : ap4 h qb qt qa) (hy : okY y) : Met l yM_feed (Cond.code yM_feed prog_3_method_5_code 8 none :: TB) { frames := 0, cells := 0, slots := 0, locals := 0 } (gx (xM D h qb qt qa cI y) [.ref h, .int a1, .int a2, .int a3, .int a4, .int a5]) (mQ (none) D (moZ h qb qt qa cI (yFeed y a1 a2 a3 a4 a5)) (A4 h qb qt qa)) 0 0 (A4 h qb qt qa) := by
  refine mt_of (by decide) ?_
  intro p e s m args below meth cd S hr hk hin hv
  obtain ⟨rfl, hX⟩ := hv
  have hP : va_P D CL (moZ h qb qt qa cI y) s.heap := hX.1
  have hK := hX.2
  have hy1 := hy.1
  have hy2 := hy.2.1
  have hy3 := hy.2.2
  have hS : va_S (A4 h qb qt qa) s.heap s.heap [] := va_S.rf
  have hx := S.1
  have hb := S.2.1
  have hown := S.2.2.2.1
  have hts := S.2.2.2.2
  have hl := lv_entry ([.ref h, .int a1, .int a2, .int a3, .int a4, .int a5]) (n := 8) (Nat.le_of_ble_eq_true rfl)
  rw [lg_entry_eq]
  generalize (lg_sl ([.ref h, .int a1, .int a2, .int a3, .int a4, .int a5]) ++ List.replicate (8 - (lg_sl ([.ref h, .int a1, .int a2, .int a3, .int a4, .int a5])).length) Slot.unset).toArray = ls at hl ⊢
  have hl : lv_has ls 8 [(0, .ref h), (1, .int a1), (2, .int a2), (3, .int a3), (4, .int a4), (5, .int a5)] := hl
  refine lv_aload_n hx hb dM_feed_0 rfl (lv_at hl 0 rfl) ?_
  refine lv_aload_n hx hb dM_feed_1 rfl (lv_at hl 0 rfl) ?_
  refine va_get (D := D) (ci := 1) (v := .int (nI y.2.1)) (C := "SignReaderModel") (T := T_M) (N := 9) hx hb hts i_M hown hK hP 0 rfl rfl 2 (by decide) (hts _ k393) (fun _ h9 => h9) rfl dM_feed_2 ?_
  refine lv_bipush (v := 20) hx hb dM_feed_5 (by decide) ?_
  refine lv_iadd hx hb dM_feed_7 ?_
  refine lv_sipush (v := 4096) hx hb dM_feed_8 (by decide) ?_
  refine lv_icmp_le (tgt := 18) hx hb dM_feed_11 (by decide) (fun c1 => ?_) (fun c1 => ?_)
  · skip
    rw [show (20 : Int32) = nI 20 from rfl, nI_add, show (4096 : Int32) = nI 4096 from rfl, nI_leI (by omega) (by omega)] at c1
    refine lv_iconst (v := 0) hx hb dM_feed_18 (by decide) ?_
    refine va_put (D := D) (ci := 1) (v := .int 0) (ty := .int) (C := "SignReaderModel") (T := T_M) (N := 9) hx hb hts i_M t_M t_M_ok n_M hown hK hP (moD hd) hS 0 rfl rfl 0 (by decide) (hts _ k391) (fun _ h9 => h9) rfl (by decide +kernel) rfl rfl (Nat.le_of_ble_eq_true rfl) dM_feed_19 (fun H locs hP _ hS => ?_)
    have hP : va_P D CL (moW h qb qt qa cI (0) (nI y.2.1) (nI y.2.2.1) (y.2.2.2.1) (nI y.2.2.2.2.1) (y.2.2.2.2.2.1) (y.2.2.2.2.2.2.1) (y.2.2.2.2.2.2.2.1) (y.2.2.2.2.2.2.2.2)) H := hP
    have hP : va_P D CL (moZ h qb qt qa cI ((0, y.2))) _ := va_Pe (rfl : moW h qb qt qa cI (0) (nI y.2.1) (nI y.2.2.1) (y.2.2.2.1) (nI y.2.2.2.2.1) (y.2.2.2.2.2.1) (y.2.2.2.2.2.2.1) (y.2.2.2.2.2.2.2.1) (y.2.2.2.2.2.2.2.2) = moZ h qb qt qa cI ((0, y.2))) hP
    refine lv_aload_n hx hb dM_feed_22 rfl (lv_at hl 0 rfl) ?_
    refine va_get (D := D) (ci := 1) (v := .int 0) (C := "SignReaderModel") (T := T_M) (N := 9) hx hb hts i_M hown hK hP 0 rfl rfl 0 (by decide) (hts _ k391) (fun _ h9 => h9) rfl dM_feed_23 ?_
    refine lv_if_le (tgt := 30) hx hb dM_feed_26 (by decide) (fun c2 => ?_) (fun c2 => absurd c2 (by decide))
    refine lv_iconst (v := 0) hx hb dM_feed_30 (by decide) ?_
    refine lv_istore (lv' := [(6, .int 0), (0, .ref h), (1, .int a1), (2, .int a2), (3, .int a3), (4, .int a4), (5, .int a5)]) hx hb dM_feed_31 hl (by decide) rfl (fun ls hl => ?_)
    have J33 : ∀ (fu : Nat) (x : Int32) (k : Nat) (H : Heap) (locs : List Loc), x = nI k → k ≤ 20 → 20 < k + fu → va_P D CL (moZ h qb qt qa cI (yF a1 a2 a3 a4 a5 k (0, y.2))) H → va_S (A4 h qb qt qa) s.heap H locs → ∀ ls : Array Slot, lv_has ls 8 [(0, .ref h), (1, .int a1), (2, .int a2), (3, .int a3), (4, .int a4), (5, .int a5), (6, .int x)] → W p l e { frames := 0, cells := 0, slots := 0, locals := 0 } s m [.ref h, .int a1, .int a2, .int a3, .int a4, .int a5].toArray below meth cd H locs 0 0 (MQ below (mQ (none) D (moZ h qb qt qa cI (yFeed y a1 a2 a3 a4 a5)) (A4 h qb qt qa)) [.ref h, .int a1, .int a2, .int a3, .int a4, .int a5].toArray s 0 0 (A4 h qb qt qa)) (F0 m 33 ls []) := by
      intro fu
      induction fu with
      | zero =>
        intro x k H locs hx9 hk9 hf9 hP hS ls hl
        exact absurd hf9 (by omega)
      | succ fu ih =>
        intro x k H locs hx9 hk9 hf9 hP hS ls hl
        subst hx9
        have hs9 : (yF a1 a2 a3 a4 a5 k (0, y.2)).2.1 = y.2.1 + k := (yF_n k).1
        refine lv_iload hx hb dM_feed_33 (lv_at hl 6 rfl) ?_
        refine lv_bipush (v := 20) hx hb dM_feed_35 (by decide) ?_
        refine lv_icmp_ge (tgt := 130) hx hb dM_feed_37 (by decide) (fun c3 => ?_) (fun c3 => ?_)
        · skip
          rw [show (20 : Int32) = nI 20 from rfl, nI_leI (by omega) (by omega)] at c3
          have hP : va_P D CL (moZ h qb qt qa cI (yFeed y a1 a2 a3 a4 a5)) _ := va_Pe (congrArg (moZ h qb qt qa cI) (by rw [yFeed, if_pos c1, show k = 20 by omega] : (yF a1 a2 a3 a4 a5 k (0, y.2) : MS) = yFeed y a1 a2 a3 a4 a5)) hP
          exact mu_ret0 S hr hk hP hS dM_feed_130
        · skip
          rw [show (20 : Int32) = nI 20 from rfl, nI_leI (by omega) (by omega)] at c3
          have J86 : ∀ (u : Int32), u = fV a1 a2 a3 a4 a5 k → ∀ ls : Array Slot, lv_has ls 8 [(0, .ref h), (1, .int a1), (2, .int a2), (3, .int a3), (4, .int a4), (5, .int a5), (6, .int (nI k))] → W p l e { frames := 0, cells := 0, slots := 0, locals := 0 } s m [.ref h, .int a1, .int a2, .int a3, .int a4, .int a5].toArray below meth cd H locs 0 0 (MQ below (mQ (none) D (moZ h qb qt qa cI (yFeed y a1 a2 a3 a4 a5)) (A4 h qb qt qa)) [.ref h, .int a1, .int a2, .int a3, .int a4, .int a5].toArray s 0 0 (A4 h qb qt qa)) (F0 m 86 ls [.int u]) := by
            intro u hu9 ls hl
            subst hu9
            refine lv_istore (lv' := [(7, .int (fV a1 a2 a3 a4 a5 k)), (0, .ref h), (1, .int a1), (2, .int a2), (3, .int a3), (4, .int a4), (5, .int a5), (6, .int (nI k))]) hx hb dM_feed_86 hl (by decide) rfl (fun ls hl => ?_)
            refine lv_aload_n hx hb dM_feed_88 rfl (lv_at hl 1 rfl) ?_
            refine va_get (D := D) (ci := 1) (v := .ref qb) (C := "SignReaderModel") (T := T_M) (N := 9) hx hb hts i_M hown hK hP 0 rfl rfl 1 (by decide) (hts _ k392) (fun _ h9 => h9) rfl dM_feed_89 ?_
            refine lv_aload_n hx hb dM_feed_92 rfl (lv_at hl 1 rfl) ?_
            refine va_get (D := D) (ci := 1) (v := .int (nI (yF a1 a2 a3 a4 a5 k (0, y.2)).2.1)) (C := "SignReaderModel") (T := T_M) (N := 9) hx hb hts i_M hown hK hP 0 rfl rfl 2 (by decide) (hts _ k393) (fun _ h9 => h9) rfl dM_feed_93 ?_
            refine lv_iload hx hb dM_feed_96 (lv_at hl 0 rfl) ?_
            refine lv_bipush (v := 24) hx hb dM_feed_98 (by decide) ?_
            refine lv_bipush (v := 8) hx hb dM_feed_100 (by decide) ?_
            refine lv_iload hx hb dM_feed_102 (lv_at hl 7 rfl) ?_
            refine lv_iconst (v := 4) hx hb dM_feed_104 (by decide) ?_
            refine lv_irem hx hb dM_feed_105 (by decide) ?_
            refine lv_imul hx hb dM_feed_106 ?_
            refine lv_isub hx hb dM_feed_107 ?_
            refine lv_ishr hx hb dM_feed_108 ?_
            refine lv_sipush (v := 255) hx hb dM_feed_109 (by decide) ?_
            refine lv_iand hx hb dM_feed_112 ?_
            refine va_iast hx hb hK hP (moD hd) hS 1 0 rfl rfl (by rw [hs9]; exact vp_in_nI (by omega) (by omega)) dM_feed_113 (fun H locs hP _ hS => ?_)
            have hP : va_P D CL (moW h qb qt qa cI ((yF a1 a2 a3 a4 a5 k (0, y.2)).1) (nI (yF a1 a2 a3 a4 a5 k (0, y.2)).2.1) (nI (yF a1 a2 a3 a4 a5 k (0, y.2)).2.2.1) ((yF a1 a2 a3 a4 a5 k (0, y.2)).2.2.2.1) (nI (yF a1 a2 a3 a4 a5 k (0, y.2)).2.2.2.2.1) ((yF a1 a2 a3 a4 a5 k (0, y.2)).2.2.2.2.2.1) (upd ((yF a1 a2 a3 a4 a5 k (0, y.2)).2.2.2.2.2.2.1) ((nI (yF a1 a2 a3 a4 a5 k (0, y.2)).2.1)).toNatClampNeg ((((fV a1 a2 a3 a4 a5 k) >>> ((24 - (8 * ((nI k) - (nI k) / 4 * 4))) &&& 31) : Int32) &&& 255))) ((yF a1 a2 a3 a4 a5 k (0, y.2)).2.2.2.2.2.2.2.1) ((yF a1 a2 a3 a4 a5 k (0, y.2)).2.2.2.2.2.2.2.2)) H := hP
            refine lv_aload_n hx hb dM_feed_114 rfl (lv_at hl 1 rfl) ?_
            refine lv_aload_n hx hb dM_feed_115 rfl (lv_at hl 1 rfl) ?_
            refine va_get (D := D) (ci := 1) (v := .int (nI (yF a1 a2 a3 a4 a5 k (0, y.2)).2.1)) (C := "SignReaderModel") (T := T_M) (N := 9) hx hb hts i_M hown hK hP 0 rfl rfl 2 (by decide) (hts _ k393) (fun _ h9 => h9) rfl dM_feed_116 ?_
            refine lv_iconst (v := 1) hx hb dM_feed_119 (by decide) ?_
            refine lv_iadd hx hb dM_feed_120 ?_
            refine va_put (D := D) (ci := 1) (v := .int ((nI (yF a1 a2 a3 a4 a5 k (0, y.2)).2.1) + 1)) (ty := .int) (C := "SignReaderModel") (T := T_M) (N := 9) hx hb hts i_M t_M t_M_ok n_M hown hK hP (moD hd) hS 0 rfl rfl 2 (by decide) (hts _ k393) (fun _ h9 => h9) rfl (by decide +kernel) rfl rfl (Nat.le_of_ble_eq_true rfl) dM_feed_121 (fun H locs hP _ hS => ?_)
            have hP : va_P D CL (moW h qb qt qa cI ((yF a1 a2 a3 a4 a5 k (0, y.2)).1) (((nI (yF a1 a2 a3 a4 a5 k (0, y.2)).2.1) + 1)) (nI (yF a1 a2 a3 a4 a5 k (0, y.2)).2.2.1) ((yF a1 a2 a3 a4 a5 k (0, y.2)).2.2.2.1) (nI (yF a1 a2 a3 a4 a5 k (0, y.2)).2.2.2.2.1) ((yF a1 a2 a3 a4 a5 k (0, y.2)).2.2.2.2.2.1) (upd ((yF a1 a2 a3 a4 a5 k (0, y.2)).2.2.2.2.2.2.1) ((nI (yF a1 a2 a3 a4 a5 k (0, y.2)).2.1)).toNatClampNeg ((((fV a1 a2 a3 a4 a5 k) >>> ((24 - (8 * ((nI k) - (nI k) / 4 * 4))) &&& 31) : Int32) &&& 255))) ((yF a1 a2 a3 a4 a5 k (0, y.2)).2.2.2.2.2.2.2.1) ((yF a1 a2 a3 a4 a5 k (0, y.2)).2.2.2.2.2.2.2.2)) H := hP
            have hP : va_P D CL (moZ h qb qt qa cI (yF a1 a2 a3 a4 a5 (k + 1) (0, y.2))) _ := va_Pe (by simp only [yF, yPush, fB, nI_1, nI_clamp (show (yF a1 a2 a3 a4 a5 k (0, y.2)).2.1 < 2 ^ 31 by rw [hs9]; show y.2.1 + k < 2 ^ 31; omega)] : moW h qb qt qa cI ((yF a1 a2 a3 a4 a5 k (0, y.2)).1) (((nI (yF a1 a2 a3 a4 a5 k (0, y.2)).2.1) + 1)) (nI (yF a1 a2 a3 a4 a5 k (0, y.2)).2.2.1) ((yF a1 a2 a3 a4 a5 k (0, y.2)).2.2.2.1) (nI (yF a1 a2 a3 a4 a5 k (0, y.2)).2.2.2.2.1) ((yF a1 a2 a3 a4 a5 k (0, y.2)).2.2.2.2.2.1) (upd ((yF a1 a2 a3 a4 a5 k (0, y.2)).2.2.2.2.2.2.1) ((nI (yF a1 a2 a3 a4 a5 k (0, y.2)).2.1)).toNatClampNeg ((((fV a1 a2 a3 a4 a5 k) >>> ((24 - (8 * ((nI k) - (nI k) / 4 * 4))) &&& 31) : Int32) &&& 255))) ((yF a1 a2 a3 a4 a5 k (0, y.2)).2.2.2.2.2.2.2.1) ((yF a1 a2 a3 a4 a5 k (0, y.2)).2.2.2.2.2.2.2.2) = moZ h qb qt qa cI (yF a1 a2 a3 a4 a5 (k + 1) (0, y.2))) hP
            refine lv_iinc (v := ((nI k) + 1)) (lv' := [(6, .int ((nI k) + 1)), (7, .int (fV a1 a2 a3 a4 a5 k)), (0, .ref h), (1, .int a1), (2, .int a2), (3, .int a3), (4, .int a4), (5, .int a5)]) hx hb dM_feed_124 hl (k := 7) rfl rfl (by decide) rfl (fun ls hl => ?_)
            refine lv_goto (tgt := 33) hx hb dM_feed_127 (by decide) ?_
            exact ih (((nI k) + 1)) (k + 1) (_) (_) (nI_1 k) (by omega) (by omega) (hP) (hS) ls (lv_sub hl [2, 3, 4, 5, 6, 7, 0] rfl) 
          refine lv_iload hx hb dM_feed_40 (lv_at hl 6 rfl) ?_
          refine lv_iconst (v := 4) hx hb dM_feed_42 (by decide) ?_
          refine lv_icmp_ge (tgt := 50) hx hb dM_feed_43 (by decide) (fun c4 => ?_) (fun c4 => ?_)
          · skip
            rw [show (4 : Int32) = nI 4 from rfl, nI_leI (by omega) (by omega)] at c4
            refine lv_iload hx hb dM_feed_50 (lv_at hl 6 rfl) ?_
            refine lv_bipush (v := 8) hx hb dM_feed_52 (by decide) ?_
            refine lv_icmp_ge (tgt := 61) hx hb dM_feed_54 (by decide) (fun c5 => ?_) (fun c5 => ?_)
            · skip
              rw [show (8 : Int32) = nI 8 from rfl, nI_leI (by omega) (by omega)] at c5
              refine lv_iload hx hb dM_feed_61 (lv_at hl 6 rfl) ?_
              refine lv_bipush (v := 12) hx hb dM_feed_63 (by decide) ?_
              refine lv_icmp_ge (tgt := 72) hx hb dM_feed_65 (by decide) (fun c6 => ?_) (fun c6 => ?_)
              · skip
                rw [show (12 : Int32) = nI 12 from rfl, nI_leI (by omega) (by omega)] at c6
                refine lv_iload hx hb dM_feed_72 (lv_at hl 6 rfl) ?_
                refine lv_bipush (v := 16) hx hb dM_feed_74 (by decide) ?_
                refine lv_icmp_ge (tgt := 84) hx hb dM_feed_76 (by decide) (fun c7 => ?_) (fun c7 => ?_)
                · skip
                  rw [show (16 : Int32) = nI 16 from rfl, nI_leI (by omega) (by omega)] at c7
                  refine lv_iload hx hb dM_feed_84 (lv_at hl 5 rfl) ?_
                  exact J86  (a5) (by simp only [fV, c4, c5, c6, c7, ↓reduceIte]) ls (lv_sub hl [0, 1, 2, 3, 4, 5, 6] rfl) 
                · skip
                  rw [show (16 : Int32) = nI 16 from rfl, nI_leI (by omega) (by omega)] at c7
                  refine lv_iload hx hb dM_feed_79 (lv_at hl 4 rfl) ?_
                  refine lv_goto (tgt := 86) hx hb dM_feed_81 (by decide) ?_
                  exact J86  (a4) (by simp only [fV, c4, c5, c6, c7, ↓reduceIte]) ls (lv_sub hl [0, 1, 2, 3, 4, 5, 6] rfl) 
              · skip
                rw [show (12 : Int32) = nI 12 from rfl, nI_leI (by omega) (by omega)] at c6
                refine lv_iload_n hx hb dM_feed_68 rfl (lv_at hl 3 rfl) ?_
                refine lv_goto (tgt := 86) hx hb dM_feed_69 (by decide) ?_
                exact J86  (a3) (by simp only [fV, c4, c5, c6, ↓reduceIte]) ls (lv_sub hl [0, 1, 2, 3, 4, 5, 6] rfl) 
            · skip
              rw [show (8 : Int32) = nI 8 from rfl, nI_leI (by omega) (by omega)] at c5
              refine lv_iload_n hx hb dM_feed_57 rfl (lv_at hl 2 rfl) ?_
              refine lv_goto (tgt := 86) hx hb dM_feed_58 (by decide) ?_
              exact J86  (a2) (by simp only [fV, c4, c5, ↓reduceIte]) ls (lv_sub hl [0, 1, 2, 3, 4, 5, 6] rfl) 
          · skip
            rw [show (4 : Int32) = nI 4 from rfl, nI_leI (by omega) (by omega)] at c4
            refine lv_iload_n hx hb dM_feed_46 rfl (lv_at hl 1 rfl) ?_
            refine lv_goto (tgt := 86) hx hb dM_feed_47 (by decide) ?_
            exact J86  (a1) (by simp only [fV, c4, ↓reduceIte]) ls (lv_sub hl [0, 1, 2, 3, 4, 5, 6] rfl) 
    exact J33 (21) (0) (0) (_) (_) (rfl) (by omega) (by omega) (hP) (hS) ls (lv_sub hl [1, 2, 3, 4, 5, 6, 0] rfl) 
  · skip
    rw [show (20 : Int32) = nI 20 from rfl, nI_add, show (4096 : Int32) = nI 4096 from rfl, nI_leI (by omega) (by omega)] at c1
    refine lv_iconst (v := 1) hx hb dM_feed_14 (by decide) ?_
    refine lv_goto (tgt := 19) hx hb dM_feed_15 (by decide) ?_
    refine va_put (D := D) (ci := 1) (v := .int 1) (ty := .int) (C := "SignReaderModel") (T := T_M) (N := 9) hx hb hts i_M t_M t_M_ok n_M hown hK hP (moD hd) hS 0 rfl rfl 0 (by decide) (hts _ k391) (fun _ h9 => h9) rfl (by decide +kernel) rfl rfl (Nat.le_of_ble_eq_true rfl) dM_feed_19 (fun H locs hP _ hS => ?_)
    have hP : va_P D CL (moW h qb qt qa cI (1) (nI y.2.1) (nI y.2.2.1) (y.2.2.2.1) (nI y.2.2.2.2.1) (y.2.2.2.2.2.1) (y.2.2.2.2.2.2.1) (y.2.2.2.2.2.2.2.1) (y.2.2.2.2.2.2.2.2)) H := hP
    have hP : va_P D CL (moZ h qb qt qa cI ((1, y.2))) _ := va_Pe (rfl : moW h qb qt qa cI (1) (nI y.2.1) (nI y.2.2.1) (y.2.2.2.1) (nI y.2.2.2.2.1) (y.2.2.2.2.2.1) (y.2.2.2.2.2.2.1) (y.2.2.2.2.2.2.2.1) (y.2.2.2.2.2.2.2.2) = moZ h qb qt qa cI ((1, y.2))) hP
    refine lv_aload_n hx hb dM_feed_22 rfl (lv_at hl 0 rfl) ?_
    refine va_get (D := D) (ci := 1) (v := .int 1) (C := "SignReaderModel") (T := T_M) (N := 9) hx hb hts i_M hown hK hP 0 rfl rfl 0 (by decide) (hts _ k391) (fun _ h9 => h9) rfl dM_feed_23 ?_
    refine lv_if_le (tgt := 30) hx hb dM_feed_26 (by decide) (fun c8 => absurd c8 (by decide)) (fun c8 => ?_)
    have hP : va_P D CL (moZ h qb qt qa cI (yFeed y a1 a2 a3 a4 a5)) _ := va_Pe (congrArg (moZ h qb qt qa cI) (by rw [yFeed, if_neg c1] : ((1, y.2) : MS) = yFeed y a1 a2 a3 a4 a5)) hP
    exact mu_ret0 S hr hk hP hS dM_feed_29
