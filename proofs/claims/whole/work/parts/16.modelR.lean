/-! the reference: run, marks, units, taking a number -/
theorem kSM : kS = kM := funext kinds_eq
def mRun (g : Nat → Int32) (tl : Nat) (i kd : Int32) : Int32 := if sHas tl i = true then nI (sEnd g kd (tl - i.toNatClampNeg) i.toNatClampNeg - i.toNatClampNeg) else 0
set_option maxHeartbeats 4000000 in
set_option maxRecDepth 100000 in
theorem cM_run (l : Launch) (D : va_G) (h qb qt qa : Nat) (cI : ClassId) (y : MS) (i kd : Int32) (hd : ap4 h qb qt qa) (hy : okY y) : Met l yM_run (Cond.code yM_run prog_3_method_25_code 4 (some .int) :: TB) { frames := 5, cells := 0, slots := 0, locals := 104 } (gx (xM D h qb qt qa cI y) [.ref h, .int i, .int kd]) (mQ (some (.int (mRun y.2.2.2.2.2.2.2.1 y.2.2.1 i kd))) D (moZ h qb qt qa cI ((0, y.2))) (A4 h qb qt qa)) 0 0 (A4 h qb qt qa) := by
  refine mt_of (by decide) ?_
  intro p e s m args below meth cd S hr hk hin hv
  obtain ⟨rfl, hX⟩ := hv
  have hP : va_P D CL (moZ h qb qt qa cI y) s.heap := hX.1
  have hK := hX.2
  have hy1 := hy.1
  have hy2 := hy.2.1
  have hy3 := hy.2.2
  have hS : va_S (A4 h qb qt qa) s.heap s.heap [] := va_S.rf
  have hx := S.1
  have hb := S.2.1
  have hown := S.2.2.2.1
  have hts := S.2.2.2.2
  have hl := lv_entry ([.ref h, .int i, .int kd]) (n := 4) (Nat.le_of_ble_eq_true rfl)
  rw [lg_entry_eq]
  generalize (lg_sl ([.ref h, .int i, .int kd]) ++ List.replicate (4 - (lg_sl ([.ref h, .int i, .int kd])).length) Slot.unset).toArray = ls at hl ⊢
  have hl : lv_has ls 4 [(0, .ref h), (1, .int i), (2, .int kd)] := hl
  refine lv_aload_n hx hb dM_run_0 rfl (lv_at hl 0 rfl) ?_
  refine lv_iconst (v := 0) hx hb dM_run_1 (by decide) ?_
  refine va_put (D := D) (ci := 1) (v := .int 0) (ty := .int) (C := "SignReaderModel") (T := T_M) (N := 9) hx hb hts i_M t_M t_M_ok n_M hown hK hP (moD hd) hS 0 rfl rfl 0 (by decide) (hts _ k391) (fun _ h9 => h9) rfl (by decide +kernel) rfl rfl (Nat.le_of_ble_eq_true rfl) dM_run_2 (fun H locs hP _ hS => ?_)
  have hP : va_P D CL (moW h qb qt qa cI (0) (nI y.2.1) (nI y.2.2.1) (y.2.2.2.1) (nI y.2.2.2.2.1) (y.2.2.2.2.2.1) (y.2.2.2.2.2.2.1) (y.2.2.2.2.2.2.2.1) (y.2.2.2.2.2.2.2.2)) H := hP
  have hP : va_P D CL (moZ h qb qt qa cI ((0, y.2))) _ := va_Pe (rfl : moW h qb qt qa cI (0) (nI y.2.1) (nI y.2.2.1) (y.2.2.2.1) (nI y.2.2.2.2.1) (y.2.2.2.2.2.1) (y.2.2.2.2.2.2.1) (y.2.2.2.2.2.2.2.1) (y.2.2.2.2.2.2.2.2) = moZ h qb qt qa cI ((0, y.2))) hP
  refine lv_iconst (v := 0) hx hb dM_run_5 (by decide) ?_
  refine lv_istore_n (lv' := [(3, .int 0), (0, .ref h), (1, .int i), (2, .int kd)]) hx hb dM_run_6 rfl hl (by decide) rfl (fun ls hl => ?_)
  refine lv_iload_n hx hb dM_run_7 rfl (lv_at hl 2 rfl) ?_
  refine lv_if_lt (tgt := 52) hx hb dM_run_8 (by decide) (fun c1 => ?_) (fun c1 => ?_)
  · skip
    replace c1 := Int32.not_le.mpr c1
    refine lv_iload_n hx hb dM_run_52 rfl (lv_at hl 0 rfl) ?_
    have hP : va_P D CL (moZ h qb qt qa cI ((0, y.2))) _ := va_Pe (congrArg (moZ h qb qt qa cI) (rfl : ((0, y.2) : MS) = (0, y.2))) hP
    exact mu_retI S hr hk (by simp [mRun, sHas, c1]) hP hS dM_run_53
  · skip
    replace c1 := Int32.not_lt.mp c1
    refine lv_iload_n hx hb dM_run_11 rfl (lv_at hl 2 rfl) ?_
    refine lv_aload_n hx hb dM_run_12 rfl (lv_at hl 1 rfl) ?_
    refine va_get (D := D) (ci := 1) (v := .int (nI y.2.2.1)) (C := "SignReaderModel") (T := T_M) (N := 9) hx hb hts i_M hown hK hP 0 rfl rfl 4 (by decide) (hts _ k395) (fun _ h9 => h9) rfl dM_run_13 ?_
    refine lv_icmp_ge (tgt := 52) hx hb dM_run_16 (by decide) (fun c2 => ?_) (fun c2 => ?_)
    · skip
      refine lv_iload_n hx hb dM_run_52 rfl (lv_at hl 0 rfl) ?_
      have hP : va_P D CL (moZ h qb qt qa cI ((0, y.2))) _ := va_Pe (congrArg (moZ h qb qt qa cI) (rfl : ((0, y.2) : MS) = (0, y.2))) hP
      exact mu_retI S hr hk (by simp [mRun, sHas, c1, c2]) hP hS dM_run_53
    · skip
      have hs9 : sHas y.2.2.1 i = true := by simp [sHas, c1, c2]
      obtain ⟨i0, hi0, hi9⟩ := (sHas_iff (by omega)).mp hs9
      have hi8 : i.toNatClampNeg = i0 := by rw [hi9]; exact nI_clamp (by omega)
      have J19 : ∀ (fu : Nat) (x : Int32) (j : Nat), x = nI j → i0 + j ≤ y.2.2.1 → y.2.2.1 < i0 + j + fu → sEnd y.2.2.2.2.2.2.2.1 kd (y.2.2.1 - i0) i0 = sEnd y.2.2.2.2.2.2.2.1 kd (y.2.2.1 - (i0 + j)) (i0 + j) → ∀ ls : Array Slot, lv_has ls 4 [(0, .ref h), (1, .int i), (2, .int kd), (3, .int x)] → W p l e { frames := 5, cells := 0, slots := 0, locals := 104 } s m [.ref h, .int i, .int kd].toArray below meth cd H locs 0 0 (MQ below (mQ (some (.int (mRun y.2.2.2.2.2.2.2.1 y.2.2.1 i kd))) D (moZ h qb qt qa cI ((0, y.2))) (A4 h qb qt qa)) [.ref h, .int i, .int kd].toArray s 0 0 (A4 h qb qt qa)) (F0 m 19 ls []) := by
        intro fu
        induction fu with
        | zero =>
          intro x j hx9 hk9 hf9 hR ls hl
          exact absurd hf9 (by omega)
        | succ fu ih =>
          intro x j hx9 hk9 hf9 hR ls hl
          subst hx9
          refine lv_iload_n hx hb dM_run_19 rfl (lv_at hl 1 rfl) ?_
          refine lv_iload_n hx hb dM_run_20 rfl (lv_at hl 3 rfl) ?_
          refine lv_iadd hx hb dM_run_21 ?_
          refine lv_aload_n hx hb dM_run_22 rfl (lv_at hl 0 rfl) ?_
          refine va_get (D := D) (ci := 1) (v := .int (nI y.2.2.1)) (C := "SignReaderModel") (T := T_M) (N := 9) hx hb hts i_M hown hK hP 0 rfl rfl 4 (by decide) (hts _ k395) (fun _ h9 => h9) rfl dM_run_23 ?_
          refine lv_icmp_ge (tgt := 52) hx hb dM_run_26 (by decide) (fun c3 => ?_) (fun c3 => ?_)
          · skip
            rw [hi9, nI_add, nI_leI (by omega) (by omega)] at c3
            rw [show y.2.2.1 - (i0 + j) = 0 by omega] at hR
            refine lv_iload_n hx hb dM_run_52 rfl (lv_at hl 3 rfl) ?_
            have hP : va_P D CL (moZ h qb qt qa cI ((0, y.2))) _ := va_Pe (congrArg (moZ h qb qt qa cI) (rfl : ((0, y.2) : MS) = (0, y.2))) hP
            exact mu_retI S hr hk (by rw [mRun, if_pos hs9, hi8, hR]; show _ = nI (i0 + j - i0); rw [Nat.add_sub_cancel_left]) hP hS dM_run_53
          · skip
            rw [hi9, nI_add, nI_leI (by omega) (by omega)] at c3
            rw [show y.2.2.1 - (i0 + j) = (y.2.2.1 - (i0 + j) - 1) + 1 by omega] at hR
            simp only [sEnd, kSM] at hR
            refine lv_aload_n hx hb dM_run_29 rfl (lv_at hl 0 rfl) ?_
            refine va_get (D := D) (ci := 1) (v := .ref qt) (C := "SignReaderModel") (T := T_M) (N := 9) hx hb hts i_M hown hK hP 0 rfl rfl 3 (by decide) (hts _ k394) (fun _ h9 => h9) rfl dM_run_30 ?_
            refine lv_iload_n hx hb dM_run_33 rfl (lv_at hl 1 rfl) ?_
            refine lv_iload_n hx hb dM_run_34 rfl (lv_at hl 3 rfl) ?_
            refine lv_iadd hx hb dM_run_35 ?_
            refine va_iald hx hb hK hP 2 0 rfl rfl (by rw [hi9, nI_add]; exact vp_in_nI (by omega) (by omega)) dM_run_36 ?_
            rw [show (i + nI j).toNatClampNeg = i0 + j by rw [hi9, nI_add]; exact nI_clamp (by omega)]
            refine ro_S (As := [.int ((y.2.2.2.2.2.2.2.1) (i0 + j))]) (rest := []) (n := 1) S (cM_kindsOf l (((y.2.2.2.2.2.2.2.1) (i0 + j)))) k499 k2 k498 (by decide +kernel) ⟨rfl, rfl⟩ k497 (by decide) preEq rfl rfl hl.1 (Nat.le_of_ble_eq_true rfl) ⟨Nat.le_refl _, Nat.le_refl _⟩ dM_run_37 ?_
            refine lv_iload_n hx hb dM_run_40 rfl (lv_at hl 2 rfl) ?_
            refine lv_iand hx hb dM_run_41 ?_
            refine lv_if_eq (tgt := 52) hx hb dM_run_42 (by decide) (fun c4 => ?_) (fun c4 => ?_)
            · skip
              refine lv_iload_n hx hb dM_run_52 rfl (lv_at hl 3 rfl) ?_
              have hP : va_P D CL (moZ h qb qt qa cI ((0, y.2))) _ := va_Pe (congrArg (moZ h qb qt qa cI) (rfl : ((0, y.2) : MS) = (0, y.2))) hP
              exact mu_retI S hr hk (by rw [mRun, if_pos hs9, hi8, hR, if_pos c4, Nat.add_sub_cancel_left]) hP hS dM_run_53
            · skip
              refine lv_iload_n hx hb dM_run_45 rfl (lv_at hl 3 rfl) ?_
              refine lv_iconst (v := 1) hx hb dM_run_46 (by decide) ?_
              refine lv_iadd hx hb dM_run_47 ?_
              refine lv_istore_n (lv' := [(3, .int ((nI j) + 1)), (0, .ref h), (1, .int i), (2, .int kd)]) hx hb dM_run_48 rfl hl (by decide) rfl (fun ls hl => ?_)
              refine lv_goto (tgt := 19) hx hb dM_run_49 (by decide) ?_
              exact ih (((nI j) + 1)) (j + 1) (nI_1 j) (by omega) (by omega) (by rw [hR, if_neg c4, show y.2.2.1 - (i0 + (j + 1)) = y.2.2.1 - (i0 + j) - 1 by omega]; rfl) ls (lv_sub hl [1, 2, 3, 0] rfl) 
      exact J19 (y.2.2.1 + 1) (0) (0) (rfl) (by omega) (by omega) (rfl) ls (lv_sub hl [1, 2, 3, 0] rfl) 
def mBeg (f : Nat → Int32) (n : Nat) (a b : Int32) : Bool := !decide (nI n ≤ 1) && decide (f 0 = a) && decide (f 1 = b)
set_option maxHeartbeats 4000000 in
set_option maxRecDepth 100000 in
theorem cM_begins (l : Launch) (D : va_G) (h qb qt qa : Nat) (cI : ClassId) (y : MS) (hy : okY y) (a b : Int32) : Met l yM_begins (Cond.code yM_begins prog_3_method_9_code 3 (some .boolean) :: TB) { frames := 0, cells := 0, slots := 0, locals := 0 } (gx (xM D h qb qt qa cI y) [.ref h, .int a, .int b]) (QcRead (bI (mBeg y.2.2.2.2.2.2.1 y.2.1 a b))) 0 0 (fun _ => False) := by
  refine mt_of (by decide) ?_
  intro p e s m args below meth cd S hr hk hin hv
  obtain ⟨rfl, hX⟩ := hv
  have hP := hX.1
  have hK := hX.2
  have hy1 := hy.1
  have hy2 := hy.2.1
  have hy3 := hy.2.2
  have hx := S.1
  have hb := S.2.1
  have hown := S.2.2.2.1
  have hts := S.2.2.2.2
  have hl := lv_entry ([.ref h, .int a, .int b]) (n := 3) (Nat.le_of_ble_eq_true rfl)
  rw [lg_entry_eq]
  generalize (lg_sl ([.ref h, .int a, .int b]) ++ List.replicate (3 - (lg_sl ([.ref h, .int a, .int b])).length) Slot.unset).toArray = ls at hl ⊢
  have hl : lv_has ls 3 [(0, .ref h), (1, .int a), (2, .int b)] := hl
  refine lv_aload_n hx hb dM_begins_0 rfl (lv_at hl 0 rfl) ?_
  refine va_get (D := D) (ci := 1) (v := .int (nI y.2.1)) (C := "SignReaderModel") (T := T_M) (N := 9) hx hb hts i_M hown hK hP 0 rfl rfl 2 (by decide) (hts _ k393) (fun _ h9 => h9) rfl dM_begins_1 ?_
  refine lv_iconst (v := 1) hx hb dM_begins_4 (by decide) ?_
  refine lv_icmp_le (tgt := 32) hx hb dM_begins_5 (by decide) (fun c1 => ?_) (fun c1 => ?_)
  · skip
    refine lv_iconst (v := 0) hx hb dM_begins_32 (by decide) ?_
    exact ro_retZ S hr hk (by rfl) (by simp [mBeg, bI, c1]) dM_begins_33
  · skip
    refine lv_aload_n hx hb dM_begins_8 rfl (lv_at hl 0 rfl) ?_
    refine va_get (D := D) (ci := 1) (v := .ref qb) (C := "SignReaderModel") (T := T_M) (N := 9) hx hb hts i_M hown hK hP 0 rfl rfl 1 (by decide) (hts _ k392) (fun _ h9 => h9) rfl dM_begins_9 ?_
    refine lv_iconst (v := 0) hx hb dM_begins_12 (by decide) ?_
    refine va_iald hx hb hK hP 1 0 rfl rfl (by unfold vp_in; decide) dM_begins_13 ?_
    rw [show (0 : Int32).toNatClampNeg = 0 from rfl]
    refine lv_iload_n hx hb dM_begins_14 rfl (lv_at hl 1 rfl) ?_
    refine lv_icmp_ne (tgt := 32) hx hb dM_begins_15 (by decide) (fun c2 => ?_) (fun c2 => ?_)
    · skip
      refine lv_iconst (v := 0) hx hb dM_begins_32 (by decide) ?_
      exact ro_retZ S hr hk (by rfl) (by simp [mBeg, bI, c1, c2]) dM_begins_33
    · skip
      refine lv_aload_n hx hb dM_begins_18 rfl (lv_at hl 0 rfl) ?_
      refine va_get (D := D) (ci := 1) (v := .ref qb) (C := "SignReaderModel") (T := T_M) (N := 9) hx hb hts i_M hown hK hP 0 rfl rfl 1 (by decide) (hts _ k392) (fun _ h9 => h9) rfl dM_begins_19 ?_
      refine lv_iconst (v := 1) hx hb dM_begins_22 (by decide) ?_
      refine va_iald hx hb hK hP 1 0 rfl rfl (by unfold vp_in; decide) dM_begins_23 ?_
      rw [show (1 : Int32).toNatClampNeg = 1 from rfl]
      refine lv_iload_n hx hb dM_begins_24 rfl (lv_at hl 2 rfl) ?_
      refine lv_icmp_ne (tgt := 32) hx hb dM_begins_25 (by decide) (fun c3 => ?_) (fun c3 => ?_)
      · skip
        refine lv_iconst (v := 0) hx hb dM_begins_32 (by decide) ?_
        exact ro_retZ S hr hk (by rfl) (by simp [mBeg, bI, c1, c2, c3]) dM_begins_33
      · skip
        refine lv_iconst (v := 1) hx hb dM_begins_28 (by decide) ?_
        refine lv_goto (tgt := 33) hx hb dM_begins_29 (by decide) ?_
        exact ro_retZ S hr hk (by rfl) (by simp [mBeg, bI, c1, c2, c3]) dM_begins_33
def mWay (f : Nat → Int32) (n : Nat) : Int32 := if mBeg f n 254 255 = true then 1 else if mBeg f n 255 254 = true then 2 else if mBeg f n 239 187 = true then (if nI n ≤ 2 then 0 else if f 2 = 191 then 3 else 0) else 0
set_option maxHeartbeats 4000000 in
set_option maxRecDepth 100000 in
theorem cM_wayOfBytes (l : Launch) (D : va_G) (h qb qt qa : Nat) (cI : ClassId) (y : MS) (hy : okY y) : Met l yM_wayOfBytes (Cond.code yM_wayOfBytes prog_3_method_10_code 1 (some .int) :: TB) { frames := 1, cells := 0, slots := 0, locals := 22 } (gx (xM D h qb qt qa cI y) [.ref h]) (QcRead (mWay y.2.2.2.2.2.2.1 y.2.1)) 0 0 (fun _ => False) := by
  refine mt_of (by decide) ?_
  intro p e s m args below meth cd S hr hk hin hv
  obtain ⟨rfl, hX⟩ := hv
  have hP := hX.1
  have hK := hX.2
  have hy1 := hy.1
  have hy2 := hy.2.1
  have hy3 := hy.2.2
  have hx := S.1
  have hb := S.2.1
  have hown := S.2.2.2.1
  have hts := S.2.2.2.2
  have hl := lv_entry ([.ref h]) (n := 1) (Nat.le_of_ble_eq_true rfl)
  rw [lg_entry_eq]
  generalize (lg_sl ([.ref h]) ++ List.replicate (1 - (lg_sl ([.ref h])).length) Slot.unset).toArray = ls at hl ⊢
  have hl : lv_has ls 1 [(0, .ref h)] := hl
  refine lv_aload_n hx hb dM_wayOfBytes_0 rfl (lv_at hl 0 rfl) ?_
  refine lv_sipush (v := 254) hx hb dM_wayOfBytes_1 (by decide) ?_
  refine lv_sipush (v := 255) hx hb dM_wayOfBytes_4 (by decide) ?_
  refine ro_V (r := (bI (mBeg y.2.2.2.2.2.2.1 y.2.1 254 255))) (As := [.int 254, .int 255]) (rest := []) (n := 2) (C := "SignReaderModel") S (cM_begins l D h qb qt qa cI y hy (254) (255)) k450 k2 k449 ks19 (by decide +kernel) ⟨rfl, rfl⟩ k447 (by decide) (xM_V hX) rfl rfl hl.1 (Nat.le_of_ble_eq_true rfl) ⟨Nat.le_refl _, Nat.le_refl _⟩ dM_wayOfBytes_7 ?_
  refine lv_if_eq (tgt := 17) hx hb dM_wayOfBytes_10 (by decide) (fun c1 => ?_) (fun c1 => ?_)
  · skip
    replace c1 := bI_f c1
    refine lv_aload_n hx hb dM_wayOfBytes_17 rfl (lv_at hl 0 rfl) ?_
    refine lv_sipush (v := 255) hx hb dM_wayOfBytes_18 (by decide) ?_
    refine lv_sipush (v := 254) hx hb dM_wayOfBytes_21 (by decide) ?_
    refine ro_V (r := (bI (mBeg y.2.2.2.2.2.2.1 y.2.1 255 254))) (As := [.int 255, .int 254]) (rest := []) (n := 2) (C := "SignReaderModel") S (cM_begins l D h qb qt qa cI y hy (255) (254)) k450 k2 k449 ks19 (by decide +kernel) ⟨rfl, rfl⟩ k447 (by decide) (xM_V hX) rfl rfl hl.1 (Nat.le_of_ble_eq_true rfl) ⟨Nat.le_refl _, Nat.le_refl _⟩ dM_wayOfBytes_24 ?_
    refine lv_if_eq (tgt := 34) hx hb dM_wayOfBytes_27 (by decide) (fun c2 => ?_) (fun c2 => ?_)
    · skip
      replace c2 := bI_f c2
      refine lv_aload_n hx hb dM_wayOfBytes_34 rfl (lv_at hl 0 rfl) ?_
      refine lv_sipush (v := 239) hx hb dM_wayOfBytes_35 (by decide) ?_
      refine lv_sipush (v := 187) hx hb dM_wayOfBytes_38 (by decide) ?_
      refine ro_V (r := (bI (mBeg y.2.2.2.2.2.2.1 y.2.1 239 187))) (As := [.int 239, .int 187]) (rest := []) (n := 2) (C := "SignReaderModel") S (cM_begins l D h qb qt qa cI y hy (239) (187)) k450 k2 k449 ks19 (by decide +kernel) ⟨rfl, rfl⟩ k447 (by decide) (xM_V hX) rfl rfl hl.1 (Nat.le_of_ble_eq_true rfl) ⟨Nat.le_refl _, Nat.le_refl _⟩ dM_wayOfBytes_41 ?_
      refine lv_if_eq (tgt := 71) hx hb dM_wayOfBytes_44 (by decide) (fun c3 => ?_) (fun c3 => ?_)
      · skip
        replace c3 := bI_f c3
        refine lv_iconst (v := 0) hx hb dM_wayOfBytes_71 (by decide) ?_
        exact ro_ret S hr hk (by simp [mWay, c1, c2, c3]) dM_wayOfBytes_72
      · skip
        replace c3 := bI_t c3
        refine lv_aload_n hx hb dM_wayOfBytes_47 rfl (lv_at hl 0 rfl) ?_
        refine va_get (D := D) (ci := 1) (v := .int (nI y.2.1)) (C := "SignReaderModel") (T := T_M) (N := 9) hx hb hts i_M hown hK hP 0 rfl rfl 2 (by decide) (hts _ k393) (fun _ h9 => h9) rfl dM_wayOfBytes_48 ?_
        refine lv_iconst (v := 2) hx hb dM_wayOfBytes_51 (by decide) ?_
        refine lv_icmp_le (tgt := 71) hx hb dM_wayOfBytes_52 (by decide) (fun c4 => ?_) (fun c4 => ?_)
        · skip
          refine lv_iconst (v := 0) hx hb dM_wayOfBytes_71 (by decide) ?_
          exact ro_ret S hr hk (by simp [mWay, c1, c2, c3, c4]) dM_wayOfBytes_72
        · skip
          refine lv_aload_n hx hb dM_wayOfBytes_55 rfl (lv_at hl 0 rfl) ?_
          refine va_get (D := D) (ci := 1) (v := .ref qb) (C := "SignReaderModel") (T := T_M) (N := 9) hx hb hts i_M hown hK hP 0 rfl rfl 1 (by decide) (hts _ k392) (fun _ h9 => h9) rfl dM_wayOfBytes_56 ?_
          refine lv_iconst (v := 2) hx hb dM_wayOfBytes_59 (by decide) ?_
          refine va_iald hx hb hK hP 1 0 rfl rfl (by unfold vp_in; decide) dM_wayOfBytes_60 ?_
          rw [show (2 : Int32).toNatClampNeg = 2 from rfl]
          refine lv_sipush (v := 191) hx hb dM_wayOfBytes_61 (by decide) ?_
          refine lv_icmp_ne (tgt := 71) hx hb dM_wayOfBytes_64 (by decide) (fun c5 => ?_) (fun c5 => ?_)
          · skip
            refine lv_iconst (v := 0) hx hb dM_wayOfBytes_71 (by decide) ?_
            exact ro_ret S hr hk (by simp [mWay, c1, c2, c3, c4, c5]) dM_wayOfBytes_72
          · skip
            refine lv_iconst (v := 3) hx hb dM_wayOfBytes_67 (by decide) ?_
            refine lv_goto (tgt := 72) hx hb dM_wayOfBytes_68 (by decide) ?_
            exact ro_ret S hr hk (by simp [mWay, c1, c2, c3, c4, c5]) dM_wayOfBytes_72
    · skip
      replace c2 := bI_t c2
      refine lv_iconst (v := 2) hx hb dM_wayOfBytes_30 (by decide) ?_
      refine lv_goto (tgt := 72) hx hb dM_wayOfBytes_31 (by decide) ?_
      exact ro_ret S hr hk (by simp [mWay, c1, c2]) dM_wayOfBytes_72
  · skip
    replace c1 := bI_t c1
    refine lv_iconst (v := 1) hx hb dM_wayOfBytes_13 (by decide) ?_
    refine lv_goto (tgt := 72) hx hb dM_wayOfBytes_14 (by decide) ?_
    exact ro_ret S hr hk (by simp [mWay, c1]) dM_wayOfBytes_72
def mUnit (f : Nat → Int32) (n k : Nat) (hi : Int32) : Int32 := if n ≤ k + 1 then -1 else if hi = 0 then 256 * f (k + 1) + f k else 256 * f k + f (k + 1)
set_option maxHeartbeats 4000000 in
set_option maxRecDepth 100000 in
theorem cM_unit (l : Launch) (D : va_G) (h qb qt qa : Nat) (cI : ClassId) (y : MS) (hy : okY y) (k : Nat) (hi : Int32) (hk9 : k ≤ 5000) : Met l yM_unit (Cond.code yM_unit prog_3_method_11_code 3 (some .int) :: TB) { frames := 0, cells := 0, slots := 0, locals := 0 } (gx (xM D h qb qt qa cI y) [.ref h, .int (nI k), .int hi]) (QcRead (mUnit y.2.2.2.2.2.2.1 y.2.1 k hi)) 0 0 (fun _ => False) := by
  refine mt_of (by decide) ?_
  intro p e s m args below meth cd S hr hk hin hv
  obtain ⟨rfl, hX⟩ := hv
  have hP := hX.1
  have hK := hX.2
  have hy1 := hy.1
  have hy2 := hy.2.1
  have hy3 := hy.2.2
  have hx := S.1
  have hb := S.2.1
  have hown := S.2.2.2.1
  have hts := S.2.2.2.2
  have hl := lv_entry ([.ref h, .int (nI k), .int hi]) (n := 3) (Nat.le_of_ble_eq_true rfl)
  rw [lg_entry_eq]
  generalize (lg_sl ([.ref h, .int (nI k), .int hi]) ++ List.replicate (3 - (lg_sl ([.ref h, .int (nI k), .int hi])).length) Slot.unset).toArray = ls at hl ⊢
  have hl : lv_has ls 3 [(0, .ref h), (1, .int (nI k)), (2, .int hi)] := hl
  refine lv_iload_n hx hb dM_unit_0 rfl (lv_at hl 1 rfl) ?_
  refine lv_iconst (v := 1) hx hb dM_unit_1 (by decide) ?_
  refine lv_iadd hx hb dM_unit_2 ?_
  refine lv_aload_n hx hb dM_unit_3 rfl (lv_at hl 0 rfl) ?_
  refine va_get (D := D) (ci := 1) (v := .int (nI y.2.1)) (C := "SignReaderModel") (T := T_M) (N := 9) hx hb hts i_M hown hK hP 0 rfl rfl 2 (by decide) (hts _ k393) (fun _ h9 => h9) rfl dM_unit_4 ?_
  refine lv_icmp_lt (tgt := 14) hx hb dM_unit_7 (by decide) (fun c1 => ?_) (fun c1 => ?_)
  · skip
    replace c1 := Int32.not_le.mpr c1
    rw [nI_1, nI_leI (by omega) (by omega)] at c1
    refine lv_iload_n hx hb dM_unit_14 rfl (lv_at hl 2 rfl) ?_
    refine lv_if_eq (tgt := 40) hx hb dM_unit_15 (by decide) (fun c2 => ?_) (fun c2 => ?_)
    · skip
      refine lv_sipush (v := 256) hx hb dM_unit_40 (by decide) ?_
      refine lv_aload_n hx hb dM_unit_43 rfl (lv_at hl 0 rfl) ?_
      refine va_get (D := D) (ci := 1) (v := .ref qb) (C := "SignReaderModel") (T := T_M) (N := 9) hx hb hts i_M hown hK hP 0 rfl rfl 1 (by decide) (hts _ k392) (fun _ h9 => h9) rfl dM_unit_44 ?_
      refine lv_iload_n hx hb dM_unit_47 rfl (lv_at hl 1 rfl) ?_
      refine lv_iconst (v := 1) hx hb dM_unit_48 (by decide) ?_
      refine lv_iadd hx hb dM_unit_49 ?_
      refine va_iald hx hb hK hP 1 0 rfl rfl (by first | exact vp_in_nI (by omega) (by omega) | (rw [nI_1]; exact vp_in_nI (by omega) (by omega))) dM_unit_50 ?_
      rw [nI_1, nI_clamp (n := k + 1) (by omega)]
      refine lv_imul hx hb dM_unit_51 ?_
      refine lv_aload_n hx hb dM_unit_52 rfl (lv_at hl 0 rfl) ?_
      refine va_get (D := D) (ci := 1) (v := .ref qb) (C := "SignReaderModel") (T := T_M) (N := 9) hx hb hts i_M hown hK hP 0 rfl rfl 1 (by decide) (hts _ k392) (fun _ h9 => h9) rfl dM_unit_53 ?_
      refine lv_iload_n hx hb dM_unit_56 rfl (lv_at hl 1 rfl) ?_
      refine va_iald hx hb hK hP 1 0 rfl rfl (by first | exact vp_in_nI (by omega) (by omega) | (rw [nI_1]; exact vp_in_nI (by omega) (by omega))) dM_unit_57 ?_
      rw [nI_clamp (n := k) (by omega)]
      refine lv_iadd hx hb dM_unit_58 ?_
      exact ro_ret S hr hk (by simp only [mUnit, c1, c2, ↓reduceIte]) dM_unit_59
    · skip
      refine lv_sipush (v := 256) hx hb dM_unit_18 (by decide) ?_
      refine lv_aload_n hx hb dM_unit_21 rfl (lv_at hl 0 rfl) ?_
      refine va_get (D := D) (ci := 1) (v := .ref qb) (C := "SignReaderModel") (T := T_M) (N := 9) hx hb hts i_M hown hK hP 0 rfl rfl 1 (by decide) (hts _ k392) (fun _ h9 => h9) rfl dM_unit_22 ?_
      refine lv_iload_n hx hb dM_unit_25 rfl (lv_at hl 1 rfl) ?_
      refine va_iald hx hb hK hP 1 0 rfl rfl (by first | exact vp_in_nI (by omega) (by omega) | (rw [nI_1]; exact vp_in_nI (by omega) (by omega))) dM_unit_26 ?_
      rw [nI_clamp (n := k) (by omega)]
      refine lv_imul hx hb dM_unit_27 ?_
      refine lv_aload_n hx hb dM_unit_28 rfl (lv_at hl 0 rfl) ?_
      refine va_get (D := D) (ci := 1) (v := .ref qb) (C := "SignReaderModel") (T := T_M) (N := 9) hx hb hts i_M hown hK hP 0 rfl rfl 1 (by decide) (hts _ k392) (fun _ h9 => h9) rfl dM_unit_29 ?_
      refine lv_iload_n hx hb dM_unit_32 rfl (lv_at hl 1 rfl) ?_
      refine lv_iconst (v := 1) hx hb dM_unit_33 (by decide) ?_
      refine lv_iadd hx hb dM_unit_34 ?_
      refine va_iald hx hb hK hP 1 0 rfl rfl (by first | exact vp_in_nI (by omega) (by omega) | (rw [nI_1]; exact vp_in_nI (by omega) (by omega))) dM_unit_35 ?_
      rw [nI_1, nI_clamp (n := k + 1) (by omega)]
      refine lv_iadd hx hb dM_unit_36 ?_
      refine lv_goto (tgt := 59) hx hb dM_unit_37 (by decide) ?_
      exact ro_ret S hr hk (by simp only [mUnit, c1, c2, ↓reduceIte]) dM_unit_59
  · skip
    replace c1 := Int32.not_lt.mp c1
    rw [nI_1, nI_leI (by omega) (by omega)] at c1
    refine lv_iconst (v := (-1)) hx hb dM_unit_10 (by decide) ?_
    refine lv_goto (tgt := 59) hx hb dM_unit_11 (by decide) ?_
    exact ro_ret S hr hk (by simp only [mUnit, c1, ↓reduceIte]) dM_unit_59
def setF (y : MS) (v : Int32) : MS := (y.1, y.2.1, y.2.2.1, y.2.2.2.1, y.2.2.2.2.1, v, y.2.2.2.2.2.2)
theorem setF_ok {y : MS} {v : Int32} (hy : okY y) : okY (setF y v) := hy
/-- (how many bytes were taken, the number found) -/
def m16 (f : Nat → Int32) (n k : Nat) (hi : Int32) : Int32 × Int32 := if 0 ≤ mUnit f n k hi then (if sIn (mUnit f n k hi) 55296 56319 = true then (if sIn (mUnit f n (k + 2) hi) 56320 57343 = true then (4, 65536 + 1024 * (mUnit f n k hi - 55296) + mUnit f n (k + 2) hi - 56320) else (2, mUnit f n k hi)) else (2, mUnit f n k hi)) else (-1, mUnit f n k hi)
def y16 (y : MS) (k : Nat) (hi : Int32) : MS := setF y (m16 y.2.2.2.2.2.2.1 y.2.1 k hi).2
def m8N (a : Int32) : Nat := if 192 ≤ a then (if 224 ≤ a then (if 240 ≤ a then (if 248 ≤ a then 0 else 4) else 3) else 2) else 0
theorem m8N_le (a : Int32) : m8N a ≤ 4 := by
  unfold m8N
  split
  · split
    · split
      · split <;> omega
      · omega
    · omega
  · omega
def m8d (N : Nat) : Int32 := if nI N = 2 then 32 else if nI N = 3 then 16 else 8
theorem m8d_ne (N : Nat) : ¬ m8d N = 0 := by
  unfold m8d
  split
  · decide
  · split <;> decide
def m8l (f : Nat → Int32) (k : Nat) : Nat → Nat → Int32 → Option Int32
  | 0, _, v => some v
  | r + 1, j, v => if f (k + j) / 64 = 2 then m8l f k r (j + 1) (64 * v + (f (k + j) - f (k + j) / 64 * 64)) else none
def m8F (a : Int32) (N : Nat) : Option Int32 → Int32 × Int32
  | none => (-1, a)
  | some v => (if sSize8 v = nI N then nI N else -1, v)
def m8 (f : Nat → Int32) (n k : Nat) : Int32 × Int32 := if 128 ≤ f k then (if nI (m8N (f k)) = 0 then (-1, f k) else if k + m8N (f k) ≤ n then m8F (f k) (m8N (f k)) (m8l f k (m8N (f k) - 1) 1 (f k - f k / m8d (m8N (f k)) * m8d (m8N (f k)))) else (-1, f k)) else (1, f k)
def y8 (y : MS) (k : Nat) : MS := setF y (m8 y.2.2.2.2.2.2.1 y.2.1 k).2
theorem y16_ok {y : MS} {k : Nat} {hi : Int32} (hy : okY y) : okY (y16 y k hi) := hy
theorem y8_ok {y : MS} {k : Nat} (hy : okY y) : okY (y8 y k) := hy
set_option maxHeartbeats 4000000 in
set_option maxRecDepth 100000 in
theorem cM_takeSixteen (l : Launch) (D : va_G) (h qb qt qa : Nat) (cI : ClassId) (y : MS) (k : Nat) (hi : Int32) (hd : ap4 h qb qt qa) (hy : okY y) (hk9 : k ≤ 4096) : Met l yM_takeSixteen (Cond.code yM_takeSixteen prog_3_method_14_code 4 (some .int) :: TB) { frames := 1, cells := 0, slots := 0, locals := 22 } (gx (xM D h qb qt qa cI y) [.ref h, .int (nI k), .int hi]) (mQ (some (.int ((m16 y.2.2.2.2.2.2.1 y.2.1 k hi).1))) D (moZ h qb qt qa cI (y16 y k hi)) (A4 h qb qt qa)) 0 0 (A4 h qb qt qa) := by
  refine mt_of (by decide) ?_
  intro p e s m args below meth cd S hr hk hin hv
  obtain ⟨rfl, hX⟩ := hv
  have hP : va_P D CL (moZ h qb qt qa cI y) s.heap := hX.1
  have hK := hX.2
  have hy1 := hy.1
  have hy2 := hy.2.1
  have hy3 := hy.2.2
  have hS : va_S (A4 h qb qt qa) s.heap s.heap [] := va_S.rf
  have hx := S.1
  have hb := S.2.1
  have hown := S.2.2.2.1
  have hts := S.2.2.2.2
  have hl := lv_entry ([.ref h, .int (nI k), .int hi]) (n := 4) (Nat.le_of_ble_eq_true rfl)
  rw [lg_entry_eq]
  generalize (lg_sl ([.ref h, .int (nI k), .int hi]) ++ List.replicate (4 - (lg_sl ([.ref h, .int (nI k), .int hi])).length) Slot.unset).toArray = ls at hl ⊢
  have hl : lv_has ls 4 [(0, .ref h), (1, .int (nI k)), (2, .int hi)] := hl
  refine lv_aload_n hx hb dM_takeSixteen_0 rfl (lv_at hl 0 rfl) ?_
  refine lv_aload_n hx hb dM_takeSixteen_1 rfl (lv_at hl 0 rfl) ?_
  refine lv_iload_n hx hb dM_takeSixteen_2 rfl (lv_at hl 1 rfl) ?_
  refine lv_iload_n hx hb dM_takeSixteen_3 rfl (lv_at hl 2 rfl) ?_
  refine ro_V (r := (mUnit y.2.2.2.2.2.2.1 y.2.1 k hi)) (As := [.int (nI k), .int hi]) (rest := [.ref h]) (n := 2) (C := "SignReaderModel") S (cM_unit l D h qb qt qa cI y hy (k) (hi) (by omega)) k458 k2 k457 ks21 (by decide +kernel) ⟨rfl, rfl⟩ k455 (by decide) (xM_V ⟨hP, hK⟩) rfl rfl hl.1 (Nat.le_of_ble_eq_true rfl) ⟨Nat.le_refl _, Nat.le_refl _⟩ dM_takeSixteen_4 ?_
  refine va_put (D := D) (ci := 1) (v := .int (mUnit y.2.2.2.2.2.2.1 y.2.1 k hi)) (ty := .int) (C := "SignReaderModel") (T := T_M) (N := 9) hx hb hts i_M t_M t_M_ok n_M hown hK hP (moD hd) hS 0 rfl rfl 8 (by decide) (hts _ k399) (fun _ h9 => h9) rfl (by decide +kernel) rfl rfl (Nat.le_of_ble_eq_true rfl) dM_takeSixteen_7 (fun H locs hP _ hS => ?_)
  have hP : va_P D CL (moW h qb qt qa cI (y.1) (nI y.2.1) (nI y.2.2.1) (y.2.2.2.1) (nI y.2.2.2.2.1) ((mUnit y.2.2.2.2.2.2.1 y.2.1 k hi)) (y.2.2.2.2.2.2.1) (y.2.2.2.2.2.2.2.1) (y.2.2.2.2.2.2.2.2)) H := hP
  have hP : va_P D CL (moZ h qb qt qa cI (setF y (mUnit y.2.2.2.2.2.2.1 y.2.1 k hi))) _ := va_Pe (rfl : moW h qb qt qa cI (y.1) (nI y.2.1) (nI y.2.2.1) (y.2.2.2.1) (nI y.2.2.2.2.1) ((mUnit y.2.2.2.2.2.2.1 y.2.1 k hi)) (y.2.2.2.2.2.2.1) (y.2.2.2.2.2.2.2.1) (y.2.2.2.2.2.2.2.2) = moZ h qb qt qa cI (setF y (mUnit y.2.2.2.2.2.2.1 y.2.1 k hi))) hP
  refine lv_aload_n hx hb dM_takeSixteen_10 rfl (lv_at hl 0 rfl) ?_
  refine va_get (D := D) (ci := 1) (v := .int (mUnit y.2.2.2.2.2.2.1 y.2.1 k hi)) (C := "SignReaderModel") (T := T_M) (N := 9) hx hb hts i_M hown hK hP 0 rfl rfl 8 (by decide) (hts _ k399) (fun _ h9 => h9) rfl dM_takeSixteen_11 ?_
  refine lv_if_ge (tgt := 19) hx hb dM_takeSixteen_14 (by decide) (fun c1 => ?_) (fun c1 => ?_)
  · skip
    refine lv_aload_n hx hb dM_takeSixteen_19 rfl (lv_at hl 0 rfl) ?_
    refine lv_iload_n hx hb dM_takeSixteen_20 rfl (lv_at hl 1 rfl) ?_
    refine lv_iconst (v := 2) hx hb dM_takeSixteen_21 (by decide) ?_
    refine lv_iadd hx hb dM_takeSixteen_22 ?_
    rw [show nI k + 2 = nI (k + 2) from nI_add k 2]
    refine lv_iload_n hx hb dM_takeSixteen_23 rfl (lv_at hl 2 rfl) ?_
    refine ro_V (r := (mUnit y.2.2.2.2.2.2.1 y.2.1 ((k + 2)) hi)) (As := [.int (nI (k + 2)), .int hi]) (rest := []) (n := 2) (C := "SignReaderModel") S (cM_unit l D h qb qt qa cI (setF y (mUnit y.2.2.2.2.2.2.1 y.2.1 k hi)) (setF_ok hy) ((k + 2)) (hi) (by omega)) k458 k2 k457 ks21 (by decide +kernel) ⟨rfl, rfl⟩ k455 (by decide) (xM_V ⟨hP, hK⟩) rfl rfl hl.1 (Nat.le_of_ble_eq_true rfl) ⟨Nat.le_refl _, Nat.le_refl _⟩ dM_takeSixteen_24 ?_
    refine lv_istore_n (lv' := [(3, .int (mUnit y.2.2.2.2.2.2.1 y.2.1 ((k + 2)) hi)), (0, .ref h), (1, .int (nI k)), (2, .int hi)]) hx hb dM_takeSixteen_27 rfl hl (by decide) rfl (fun ls hl => ?_)
    refine lv_aload_n hx hb dM_takeSixteen_28 rfl (lv_at hl 1 rfl) ?_
    refine va_get (D := D) (ci := 1) (v := .int (mUnit y.2.2.2.2.2.2.1 y.2.1 k hi)) (C := "SignReaderModel") (T := T_M) (N := 9) hx hb hts i_M hown hK hP 0 rfl rfl 8 (by decide) (hts _ k399) (fun _ h9 => h9) rfl dM_takeSixteen_29 ?_
    refine lv_ldc (v := 55296) hx hb hown (hts _ k459) dM_takeSixteen_32 ?_
    refine lv_ldc (v := 56319) hx hb hown (hts _ k460) dM_takeSixteen_34 ?_
    refine ro_S (As := [.int (mUnit y.2.2.2.2.2.2.1 y.2.1 k hi), .int 55296, .int 56319]) (rest := []) (n := 3) S (cM_isIn l ((mUnit y.2.2.2.2.2.2.1 y.2.1 k hi)) (55296) (56319)) k463 k2 k462 (by decide +kernel) ⟨rfl, rfl⟩ k461 (by decide) preEq rfl rfl hl.1 (Nat.le_of_ble_eq_true rfl) ⟨Nat.le_refl _, Nat.le_refl _⟩ dM_takeSixteen_36 ?_
    refine lv_if_eq (tgt := 78) hx hb dM_takeSixteen_39 (by decide) (fun c2 => ?_) (fun c2 => ?_)
    · skip
      replace c2 := bI_f c2
      refine lv_iconst (v := 2) hx hb dM_takeSixteen_78 (by decide) ?_
      have hP : va_P D CL (moZ h qb qt qa cI (y16 y k hi)) _ := va_Pe (congrArg (moZ h qb qt qa cI) (by simp only [y16, m16, c1, c2, ↓reduceIte, Bool.false_eq_true] : (setF y (mUnit y.2.2.2.2.2.2.1 y.2.1 k hi) : MS) = y16 y k hi)) hP
      exact mu_retI S hr hk (by simp only [m16, c1, c2, ↓reduceIte, Bool.false_eq_true]) hP hS dM_takeSixteen_79
    · skip
      replace c2 := bI_t c2
      refine lv_iload_n hx hb dM_takeSixteen_42 rfl (lv_at hl 0 rfl) ?_
      refine lv_ldc (v := 56320) hx hb hown (hts _ k464) dM_takeSixteen_43 ?_
      refine lv_ldc (v := 57343) hx hb hown (hts _ k465) dM_takeSixteen_45 ?_
      refine ro_S (As := [.int (mUnit y.2.2.2.2.2.2.1 y.2.1 ((k + 2)) hi), .int 56320, .int 57343]) (rest := []) (n := 3) S (cM_isIn l ((mUnit y.2.2.2.2.2.2.1 y.2.1 ((k + 2)) hi)) (56320) (57343)) k463 k2 k462 (by decide +kernel) ⟨rfl, rfl⟩ k461 (by decide) preEq rfl rfl hl.1 (Nat.le_of_ble_eq_true rfl) ⟨Nat.le_refl _, Nat.le_refl _⟩ dM_takeSixteen_47 ?_
      refine lv_if_eq (tgt := 78) hx hb dM_takeSixteen_50 (by decide) (fun c3 => ?_) (fun c3 => ?_)
      · skip
        replace c3 := bI_f c3
        refine lv_iconst (v := 2) hx hb dM_takeSixteen_78 (by decide) ?_
        have hP : va_P D CL (moZ h qb qt qa cI (y16 y k hi)) _ := va_Pe (congrArg (moZ h qb qt qa cI) (by simp only [y16, m16, c1, c2, c3, ↓reduceIte, Bool.false_eq_true] : (setF y (mUnit y.2.2.2.2.2.2.1 y.2.1 k hi) : MS) = y16 y k hi)) hP
        exact mu_retI S hr hk (by simp only [m16, c1, c2, c3, ↓reduceIte, Bool.false_eq_true]) hP hS dM_takeSixteen_79
      · skip
        replace c3 := bI_t c3
        refine lv_aload_n hx hb dM_takeSixteen_53 rfl (lv_at hl 1 rfl) ?_
        refine lv_ldc (v := 65536) hx hb hown (hts _ k466) dM_takeSixteen_54 ?_
        refine lv_sipush (v := 1024) hx hb dM_takeSixteen_56 (by decide) ?_
        refine lv_aload_n hx hb dM_takeSixteen_59 rfl (lv_at hl 1 rfl) ?_
        refine va_get (D := D) (ci := 1) (v := .int (mUnit y.2.2.2.2.2.2.1 y.2.1 k hi)) (C := "SignReaderModel") (T := T_M) (N := 9) hx hb hts i_M hown hK hP 0 rfl rfl 8 (by decide) (hts _ k399) (fun _ h9 => h9) rfl dM_takeSixteen_60 ?_
        refine lv_ldc (v := 55296) hx hb hown (hts _ k459) dM_takeSixteen_63 ?_
        refine lv_isub hx hb dM_takeSixteen_65 ?_
        refine lv_imul hx hb dM_takeSixteen_66 ?_
        refine lv_iadd hx hb dM_takeSixteen_67 ?_
        refine lv_iload_n hx hb dM_takeSixteen_68 rfl (lv_at hl 0 rfl) ?_
        refine lv_iadd hx hb dM_takeSixteen_69 ?_
        refine lv_ldc (v := 56320) hx hb hown (hts _ k464) dM_takeSixteen_70 ?_
        refine lv_isub hx hb dM_takeSixteen_72 ?_
        refine va_put (D := D) (ci := 1) (v := .int (((65536 + (1024 * ((mUnit y.2.2.2.2.2.2.1 y.2.1 k hi) - 55296))) + (mUnit y.2.2.2.2.2.2.1 y.2.1 ((k + 2)) hi)) - 56320)) (ty := .int) (C := "SignReaderModel") (T := T_M) (N := 9) hx hb hts i_M t_M t_M_ok n_M hown hK hP (moD hd) hS 0 rfl rfl 8 (by decide) (hts _ k399) (fun _ h9 => h9) rfl (by decide +kernel) rfl rfl (Nat.le_of_ble_eq_true rfl) dM_takeSixteen_73 (fun H locs hP _ hS => ?_)
        have hP : va_P D CL (moW h qb qt qa cI (y.1) (nI y.2.1) (nI y.2.2.1) (y.2.2.2.1) (nI y.2.2.2.2.1) ((((65536 + (1024 * ((mUnit y.2.2.2.2.2.2.1 y.2.1 k hi) - 55296))) + (mUnit y.2.2.2.2.2.2.1 y.2.1 ((k + 2)) hi)) - 56320)) (y.2.2.2.2.2.2.1) (y.2.2.2.2.2.2.2.1) (y.2.2.2.2.2.2.2.2)) H := hP
        have hP : va_P D CL (moZ h qb qt qa cI (setF y (65536 + 1024 * (mUnit y.2.2.2.2.2.2.1 y.2.1 k hi - 55296) + mUnit y.2.2.2.2.2.2.1 y.2.1 (k + 2) hi - 56320))) _ := va_Pe (rfl : moW h qb qt qa cI (y.1) (nI y.2.1) (nI y.2.2.1) (y.2.2.2.1) (nI y.2.2.2.2.1) ((((65536 + (1024 * ((mUnit y.2.2.2.2.2.2.1 y.2.1 k hi) - 55296))) + (mUnit y.2.2.2.2.2.2.1 y.2.1 ((k + 2)) hi)) - 56320)) (y.2.2.2.2.2.2.1) (y.2.2.2.2.2.2.2.1) (y.2.2.2.2.2.2.2.2) = moZ h qb qt qa cI (setF y (65536 + 1024 * (mUnit y.2.2.2.2.2.2.1 y.2.1 k hi - 55296) + mUnit y.2.2.2.2.2.2.1 y.2.1 (k + 2) hi - 56320))) hP
        refine lv_iconst (v := 4) hx hb dM_takeSixteen_76 (by decide) ?_
        have hP : va_P D CL (moZ h qb qt qa cI (y16 y k hi)) _ := va_Pe (congrArg (moZ h qb qt qa cI) (by simp only [y16, m16, c1, c2, c3, ↓reduceIte, Bool.false_eq_true] : (setF y (65536 + 1024 * (mUnit y.2.2.2.2.2.2.1 y.2.1 k hi - 55296) + mUnit y.2.2.2.2.2.2.1 y.2.1 (k + 2) hi - 56320) : MS) = y16 y k hi)) hP
        exact mu_retI S hr hk (by simp only [m16, c1, c2, c3, ↓reduceIte, Bool.false_eq_true]) hP hS dM_takeSixteen_77
  · skip
    refine lv_iconst (v := (-1)) hx hb dM_takeSixteen_17 (by decide) ?_
    have hP : va_P D CL (moZ h qb qt qa cI (y16 y k hi)) _ := va_Pe (congrArg (moZ h qb qt qa cI) (by simp only [y16, m16, c1, ↓reduceIte, Bool.false_eq_true] : (setF y (mUnit y.2.2.2.2.2.2.1 y.2.1 k hi) : MS) = y16 y k hi)) hP
    exact mu_retI S hr hk (by simp only [m16, c1, ↓reduceIte, Bool.false_eq_true]) hP hS dM_takeSixteen_18
