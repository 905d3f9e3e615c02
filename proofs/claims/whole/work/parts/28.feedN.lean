/-! feed and end: the calls that are not refused -/
theorem zFeed_ok {z : SS} {a1 a2 a3 a4 a5 : Int32} (hz : okZ z) : okZ (zFeed z a1 a2 a3 a4 a5) := w4_ok (w4_ok (w4_ok (w4_ok (w4_ok hz))))
theorem zEnd_ok {z : SS} {i : Int32} (hz : okZ z) (h : eOk z i = true) : okZ (zEnd z i) := by
  obtain ⟨j, hj, rfl⟩ := eOk_le hz.1 h
  have := hz.1
  refine ⟨?_, hz.2⟩
  show (nI j).toNatClampNeg ≤ 4096
  rw [nI_clamp (by omega)]
  omega
theorem eOk_2 {z : SS} {i : Int32} (h : eOk z i = true) : 0 ≤ i ∧ i ≤ nI z.1 := by
  simp only [eOk, Bool.and_eq_true, decide_eq_true_eq] at h
  exact h
set_option maxHeartbeats 4000000 in
set_option maxRecDepth 100000 in
theorem cS_feed (l : Launch) (D : va_G) (h qb qt : Nat) (cI : ClassId) (z : SS) (a1 a2 a3 a4 a5 : Int32) (hd : ap3 h qb qt) (hz : okZ z) (hn : z.1 + 20 ≤ 4096) : Met l yS_feed (Cond.code yS_feed prog_1_method_2_code 6 none :: TB) { frames := 2, cells := 0, slots := 0, locals := 42 } (gx (xZ9 D h qb qt cI z) [.ref h, .int a1, .int a2, .int a3, .int a4, .int a5]) (mQ (none) D (srZ h qb qt cI (zFeed z a1 a2 a3 a4 a5)) (A3 h qb qt)) 0 0 (A3 h qb qt) := by
  refine mt_of (by decide) ?_
  intro p e s m args below meth cd S hr hk hin hv
  obtain ⟨rfl, hX⟩ := hv
  have hP : va_P D CL (srZ h qb qt cI z) s.heap := hX.1
  have hK := hX.2
  have hn9 : nI z.1 ≤ 4076 := (nI_leI (b := 4076) (by omega) (by omega)).mpr (by omega)
  have hS : va_S (A3 h qb qt) s.heap s.heap [] := va_S.rf
  have hx := S.1
  have hb := S.2.1
  have hown := S.2.2.2.1
  have hts := S.2.2.2.2
  have hl := lv_entry ([.ref h, .int a1, .int a2, .int a3, .int a4, .int a5]) (n := 6) (Nat.le_of_ble_eq_true rfl)
  rw [lg_entry_eq]
  generalize (lg_sl ([.ref h, .int a1, .int a2, .int a3, .int a4, .int a5]) ++ List.replicate (6 - (lg_sl ([.ref h, .int a1, .int a2, .int a3, .int a4, .int a5])).length) Slot.unset).toArray = ls at hl ⊢
  have hl : lv_has ls 6 [(0, .ref h), (1, .int a1), (2, .int a2), (3, .int a3), (4, .int a4), (5, .int a5)] := hl
  refine lv_aload_n hx hb dS_feed_0 rfl (lv_at hl 0 rfl) ?_
  refine va_get (D := D) (ci := 0) (v := .int (nI z.1)) (C := "SignReader") (T := T_S) (N := 5) hx hb hts i_S hown hK hP 0 rfl rfl 2 (by decide) (hts _ k24) (fun _ h9 => h9) rfl dS_feed_1 ?_
  refine lv_sipush (v := 4076) hx hb dS_feed_4 (by decide) ?_
  refine lv_icmp_le (tgt := 20) hx hb dS_feed_7 (by decide) (fun c1 => ?_) (fun c1 => absurd c1 (fun h9 => h9 hn9))
  refine lv_aload_n hx hb dS_feed_20 rfl (lv_at hl 0 rfl) ?_
  refine lv_iload_n hx hb dS_feed_21 rfl (lv_at hl 1 rfl) ?_
  refine mu_V (As := [.int a1]) (rest := []) (n := 1) (C := "SignReader") S (cS_putFour l D h qb qt cI (z)  (a1) hd hz ) k360 k1 k359 ks17 (by decide +kernel) ⟨rfl, rfl⟩ k357 (by decide) (xW_V ⟨hP, hK⟩) rfl rfl hl.1 (Nat.le_of_ble_eq_true rfl) ⟨Nat.le_refl _, Nat.le_refl _⟩ dS_feed_22 hS (fun _ h9 => h9) (fun H locs hP hS => ?_)
  have hP : va_P D CL (srZ h qb qt cI (w4 z a1)) H := hP
  refine lv_aload_n hx hb dS_feed_25 rfl (lv_at hl 0 rfl) ?_
  refine lv_iload_n hx hb dS_feed_26 rfl (lv_at hl 2 rfl) ?_
  refine mu_V (As := [.int a2]) (rest := []) (n := 1) (C := "SignReader") S (cS_putFour l D h qb qt cI (w4 z a1)  (a2) hd (w4_ok hz) ) k360 k1 k359 ks17 (by decide +kernel) ⟨rfl, rfl⟩ k357 (by decide) (xW_V ⟨hP, hK⟩) rfl rfl hl.1 (Nat.le_of_ble_eq_true rfl) ⟨Nat.le_refl _, Nat.le_refl _⟩ dS_feed_27 hS (fun _ h9 => h9) (fun H locs hP hS => ?_)
  have hP : va_P D CL (srZ h qb qt cI (w4 (w4 z a1) a2)) H := hP
  refine lv_aload_n hx hb dS_feed_30 rfl (lv_at hl 0 rfl) ?_
  refine lv_iload_n hx hb dS_feed_31 rfl (lv_at hl 3 rfl) ?_
  refine mu_V (As := [.int a3]) (rest := []) (n := 1) (C := "SignReader") S (cS_putFour l D h qb qt cI (w4 (w4 z a1) a2)  (a3) hd (w4_ok (w4_ok hz)) ) k360 k1 k359 ks17 (by decide +kernel) ⟨rfl, rfl⟩ k357 (by decide) (xW_V ⟨hP, hK⟩) rfl rfl hl.1 (Nat.le_of_ble_eq_true rfl) ⟨Nat.le_refl _, Nat.le_refl _⟩ dS_feed_32 hS (fun _ h9 => h9) (fun H locs hP hS => ?_)
  have hP : va_P D CL (srZ h qb qt cI (w4 (w4 (w4 z a1) a2) a3)) H := hP
  refine lv_aload_n hx hb dS_feed_35 rfl (lv_at hl 0 rfl) ?_
  refine lv_iload hx hb dS_feed_36 (lv_at hl 4 rfl) ?_
  refine mu_V (As := [.int a4]) (rest := []) (n := 1) (C := "SignReader") S (cS_putFour l D h qb qt cI (w4 (w4 (w4 z a1) a2) a3)  (a4) hd (w4_ok (w4_ok (w4_ok hz))) ) k360 k1 k359 ks17 (by decide +kernel) ⟨rfl, rfl⟩ k357 (by decide) (xW_V ⟨hP, hK⟩) rfl rfl hl.1 (Nat.le_of_ble_eq_true rfl) ⟨Nat.le_refl _, Nat.le_refl _⟩ dS_feed_38 hS (fun _ h9 => h9) (fun H locs hP hS => ?_)
  have hP : va_P D CL (srZ h qb qt cI (w4 (w4 (w4 (w4 z a1) a2) a3) a4)) H := hP
  refine lv_aload_n hx hb dS_feed_41 rfl (lv_at hl 0 rfl) ?_
  refine lv_iload hx hb dS_feed_42 (lv_at hl 5 rfl) ?_
  refine mu_V (As := [.int a5]) (rest := []) (n := 1) (C := "SignReader") S (cS_putFour l D h qb qt cI (w4 (w4 (w4 (w4 z a1) a2) a3) a4)  (a5) hd (w4_ok (w4_ok (w4_ok (w4_ok hz)))) ) k360 k1 k359 ks17 (by decide +kernel) ⟨rfl, rfl⟩ k357 (by decide) (xW_V ⟨hP, hK⟩) rfl rfl hl.1 (Nat.le_of_ble_eq_true rfl) ⟨Nat.le_refl _, Nat.le_refl _⟩ dS_feed_44 hS (fun _ h9 => h9) (fun H locs hP hS => ?_)
  have hP : va_P D CL (srZ h qb qt cI (w4 (w4 (w4 (w4 (w4 z a1) a2) a3) a4) a5)) H := hP
  have hP : va_P D CL (srZ h qb qt cI (zFeed z a1 a2 a3 a4 a5)) _ := va_Pe (congrArg (srZ h qb qt cI) (rfl : (w4 (w4 (w4 (w4 (w4 z a1) a2) a3) a4) a5 : SS) = zFeed z a1 a2 a3 a4 a5)) hP
  exact mu_ret0 S hr hk hP hS dS_feed_47
set_option maxHeartbeats 4000000 in
set_option maxRecDepth 100000 in
theorem cS_end (l : Launch) (D : va_G) (h qb qt : Nat) (cI : ClassId) (z : SS) (i : Int32) (hd : ap3 h qb qt) (hz : okZ z) (hn : eOk z i = true) : Met l yS_end (Cond.code yS_end prog_1_method_3_code 3 (some .int) :: TB) { frames := 0, cells := 0, slots := 0, locals := 0 } (gx (xZ9 D h qb qt cI z) [.ref h, .int i]) (mQ (some (.int (nI z.1))) D (srZ h qb qt cI (zEnd z i)) (A3 h qb qt)) 0 0 (A3 h qb qt) := by
  refine mt_of (by decide) ?_
  intro p e s m args below meth cd S hr hk hin hv
  obtain ⟨rfl, hX⟩ := hv
  have hP : va_P D CL (srZ h qb qt cI z) s.heap := hX.1
  have hK := hX.2
  obtain ⟨hn1, hn2⟩ := eOk_2 hn
  have hS : va_S (A3 h qb qt) s.heap s.heap [] := va_S.rf
  have hx := S.1
  have hb := S.2.1
  have hown := S.2.2.2.1
  have hts := S.2.2.2.2
  have hl := lv_entry ([.ref h, .int i]) (n := 3) (Nat.le_of_ble_eq_true rfl)
  rw [lg_entry_eq]
  generalize (lg_sl ([.ref h, .int i]) ++ List.replicate (3 - (lg_sl ([.ref h, .int i])).length) Slot.unset).toArray = ls at hl ⊢
  have hl : lv_has ls 3 [(0, .ref h), (1, .int i)] := hl
  refine lv_iload_n hx hb dS_end_0 rfl (lv_at hl 1 rfl) ?_
  refine lv_if_lt (tgt := 12) hx hb dS_end_1 (by decide) (fun c1 => absurd c1 (Int32.not_lt.mpr hn1)) (fun c1 => ?_)
  refine lv_iload_n hx hb dS_end_4 rfl (lv_at hl 1 rfl) ?_
  refine lv_aload_n hx hb dS_end_5 rfl (lv_at hl 0 rfl) ?_
  refine va_get (D := D) (ci := 0) (v := .int (nI z.1)) (C := "SignReader") (T := T_S) (N := 5) hx hb hts i_S hown hK hP 0 rfl rfl 2 (by decide) (hts _ k24) (fun _ h9 => h9) rfl dS_end_6 ?_
  refine lv_icmp_le (tgt := 22) hx hb dS_end_9 (by decide) (fun c2 => ?_) (fun c2 => absurd c2 (fun h9 => h9 hn2))
  refine lv_aload_n hx hb dS_end_22 rfl (lv_at hl 0 rfl) ?_
  refine va_get (D := D) (ci := 0) (v := .int (nI z.1)) (C := "SignReader") (T := T_S) (N := 5) hx hb hts i_S hown hK hP 0 rfl rfl 2 (by decide) (hts _ k24) (fun _ h9 => h9) rfl dS_end_23 ?_
  refine lv_istore_n (lv' := [(2, .int (nI z.1)), (0, .ref h), (1, .int i)]) hx hb dS_end_26 rfl hl (by decide) rfl (fun ls hl => ?_)
  refine lv_aload_n hx hb dS_end_27 rfl (lv_at hl 1 rfl) ?_
  refine lv_iload_n hx hb dS_end_28 rfl (lv_at hl 2 rfl) ?_
  refine va_put (D := D) (ci := 0) (v := .int i) (ty := .int) (C := "SignReader") (T := T_S) (N := 5) hx hb hts i_S t_S t_S_ok n_S hown hK hP (srD hd) hS 0 rfl rfl 2 (by decide) (hts _ k24) (fun _ h9 => h9) rfl (by decide +kernel) rfl rfl (Nat.le_of_ble_eq_true rfl) dS_end_29 (fun H locs hP _ hS => ?_)
  have hP : va_P D CL (srW h qb qt cI (i) (nI z.2.1) (z.2.2.1) (z.2.2.2.1) (z.2.2.2.2)) H := hP
  have hP : va_P D CL (srZ h qb qt cI (zEnd z i)) _ := va_Pe (by show _ = srW h qb qt cI (nI i.toNatClampNeg) _ _ _ _; rw [nI_nat hn1]; rfl : srW h qb qt cI (i) (nI z.2.1) (z.2.2.1) (z.2.2.2.1) (z.2.2.2.2) = srZ h qb qt cI (zEnd z i)) hP
  refine lv_iload_n hx hb dS_end_32 rfl (lv_at hl 0 rfl) ?_
  have hP : va_P D CL (srZ h qb qt cI (zEnd z i)) _ := va_Pe (congrArg (srZ h qb qt cI) (rfl : (zEnd z i : SS) = zEnd z i)) hP
  exact mu_retI S hr hk (rfl) hP hS dS_end_33
