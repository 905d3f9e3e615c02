/-! the class: its face, but for what throws -/
def xWD (D : va_G) (h qb qt : Nat) (cI : ClassId) (n tl : Nat) (wy : Int32) (f g : Nat → Int32) (tc ts tm q v : Nat) : State → Heap → Prop := fun U H => xW D h qb qt cI n tl wy f g U H ∧ xD tc ts tm q v U H
theorem xWD_V {D : va_G} {h qb qt : Nat} {cI : ClassId} {n tl : Nat} {wy : Int32} {f g : Nat → Int32} {tc ts tm q v : Nat} {s : State} {H : Heap} {As : List Value} (x : xWD D h qb qt cI n tl wy f g tc ts tm q v s H) : PreV s H "SignReader" h (gx (xWD D h qb qt cI n tl wy f g tc ts tm q v) (.ref h :: As)) As := gx_V (ok_and xW_ok xD_ok) x (va_recv x.1.2 x.1.1 (ci := 0) (q0 := 0) (q := ("SignReader", T_S, 5)) rfl rfl)
set_option maxHeartbeats 4000000 in
set_option maxRecDepth 100000 in
theorem cS_kinds (l : Launch) (D : va_G) (h qb qt : Nat) (cI : ClassId) (n tl : Nat) (wy : Int32) (f g : Nat → Int32) (hn : n ≤ 4096) (ht : tl ≤ 4096) (tc ts tm q v : Nat) (c : Int32) : Met l yS_kinds (Cond.code yS_kinds prog_1_method_10_code 2 (some .int) :: TB) { frames := 6, cells := 0, slots := 0, locals := 132 } (gx (xWD D h qb qt cI n tl wy f g tc ts tm q v) [.ref h, .int c]) (QcRead (kS c)) 0 0 (fun _ => False) := by
  refine mt_of (by decide) ?_
  intro p e s m args below meth cd S hr hk hin hv
  obtain ⟨rfl, hX⟩ := hv
  have hP := hX.1.1
  have hK := hX.1.2
  have hx := S.1
  have hb := S.2.1
  have hown := S.2.2.2.1
  have hts := S.2.2.2.2
  have hl := lv_entry ([.ref h, .int c]) (n := 2) (Nat.le_of_ble_eq_true rfl)
  rw [lg_entry_eq]
  generalize (lg_sl ([.ref h, .int c]) ++ List.replicate (2 - (lg_sl ([.ref h, .int c])).length) Slot.unset).toArray = ls at hl ⊢
  have hl : lv_has ls 2 [(0, .ref h), (1, .int c)] := hl
  refine lv_iload_n hx hb dS_kinds_0 rfl (lv_at hl 1 rfl) ?_
  refine ro_S (As := [.int c]) (rest := []) (n := 1) S (cS_kindsOf l tc ts tm q v (c)) k142 k1 k141 (by decide +kernel) ⟨rfl, rfl⟩ k140 (by decide) (gx_S xD_ok hX.2) rfl rfl hl.1 (Nat.le_of_ble_eq_true rfl) ⟨Nat.le_refl _, Nat.le_refl _⟩ dS_kinds_1 ?_
  exact ro_ret S hr hk (rfl) dS_kinds_4
def sEnd (g : Nat → Int32) (kd : Int32) : Nat → Nat → Nat
  | 0, k => k
  | j + 1, k => if kS (g k) &&& kd = 0 then k else sEnd g kd j (k + 1)
def sRun (g : Nat → Int32) (tl : Nat) (i kd : Int32) : Int32 := if sHas tl i = true then nI (sEnd g kd (tl - i.toNatClampNeg) i.toNatClampNeg) - i else 0
set_option maxHeartbeats 4000000 in
set_option maxRecDepth 100000 in
theorem cS_run (l : Launch) (D : va_G) (h qb qt : Nat) (cI : ClassId) (n tl : Nat) (wy : Int32) (f g : Nat → Int32) (hn : n ≤ 4096) (ht : tl ≤ 4096) (tc ts tm q v : Nat) (i kd : Int32) : Met l yS_run (Cond.code yS_run prog_1_method_11_code 4 (some .int) :: TB) { frames := 6, cells := 0, slots := 0, locals := 132 } (gx (xWD D h qb qt cI n tl wy f g tc ts tm q v) [.ref h, .int i, .int kd]) (QcRead (sRun g tl i kd)) 0 0 (fun _ => False) := by
  refine mt_of (by decide) ?_
  intro p e s m args below meth cd S hr hk hin hv
  obtain ⟨rfl, hX⟩ := hv
  have hP := hX.1.1
  have hK := hX.1.2
  have hx := S.1
  have hb := S.2.1
  have hown := S.2.2.2.1
  have hts := S.2.2.2.2
  have hl := lv_entry ([.ref h, .int i, .int kd]) (n := 4) (Nat.le_of_ble_eq_true rfl)
  rw [lg_entry_eq]
  generalize (lg_sl ([.ref h, .int i, .int kd]) ++ List.replicate (4 - (lg_sl ([.ref h, .int i, .int kd])).length) Slot.unset).toArray = ls at hl ⊢
  have hl : lv_has ls 4 [(0, .ref h), (1, .int i), (2, .int kd)] := hl
  refine lv_aload_n hx hb dS_run_0 rfl (lv_at hl 0 rfl) ?_
  refine lv_iload_n hx hb dS_run_1 rfl (lv_at hl 1 rfl) ?_
  refine ro_V (r := (bI (sHas tl i))) (As := [.int i]) (rest := []) (n := 1) (C := "SignReader") S (cS_hasSign l D h qb qt cI n tl wy f g hn ht (i)) k131 k1 k130 ks9 (by decide +kernel) ⟨rfl, rfl⟩ k128 (by decide) (xW_V hX.1) rfl rfl hl.1 (Nat.le_of_ble_eq_true rfl) ⟨Nat.le_refl _, Nat.le_refl _⟩ dS_run_2 ?_
  refine lv_if_ne (tgt := 10) hx hb dS_run_5 (by decide) (fun c1 => ?_) (fun c1 => ?_)
  · skip
    replace c1 := bI_t c1
    obtain ⟨i0, hi0, hi9⟩ := (sHas_iff (by omega)).mp c1
    have hi8 : i.toNatClampNeg = i0 := by rw [hi9]; exact nI_clamp (by omega)
    refine lv_iload_n hx hb dS_run_10 rfl (lv_at hl 1 rfl) ?_
    refine lv_istore_n (lv' := [(3, .int i), (0, .ref h), (1, .int i), (2, .int kd)]) hx hb dS_run_11 rfl hl (by decide) rfl (fun ls hl => ?_)
    have J12 : ∀ (fu : Nat) (x : Int32) (k : Nat), x = nI k → k ≤ tl → tl < k + fu → sEnd g kd (tl - i0) i0 = sEnd g kd (tl - k) k → ∀ ls : Array Slot, lv_has ls 4 [(0, .ref h), (1, .int i), (2, .int kd), (3, .int x)] → W p l e { frames := 6, cells := 0, slots := 0, locals := 132 } s m [.ref h, .int i, .int kd].toArray below meth cd s.heap [] 0 0 (MQ below (QcRead (sRun g tl i kd)) [.ref h, .int i, .int kd].toArray s 0 0 (fun _ => False)) (F0 m 12 ls []) := by
      intro fu
      induction fu with
      | zero =>
        intro x k hx9 hk9 hf9 hR ls hl
        exact absurd hf9 (by omega)
      | succ fu ih =>
        intro x k hx9 hk9 hf9 hR ls hl
        subst hx9
        refine lv_iload_n hx hb dS_run_12 rfl (lv_at hl 3 rfl) ?_
        refine lv_aload_n hx hb dS_run_13 rfl (lv_at hl 0 rfl) ?_
        refine va_get (D := D) (ci := 0) (v := .int (nI tl)) (C := "SignReader") (T := T_S) (N := 5) hx hb hts i_S hown hK hP 0 rfl rfl 3 (by decide) (hts _ k25) (fun _ h9 => h9) rfl dS_run_14 ?_
        refine lv_icmp_ge (tgt := 40) hx hb dS_run_17 (by decide) (fun c2 => ?_) (fun c2 => ?_)
        · skip
          rw [nI_leI (by omega) (by omega)] at c2
          rw [show tl - k = 0 by omega] at hR
          refine lv_iload_n hx hb dS_run_40 rfl (lv_at hl 3 rfl) ?_
          refine lv_iload_n hx hb dS_run_41 rfl (lv_at hl 1 rfl) ?_
          refine lv_isub hx hb dS_run_42 ?_
          exact ro_ret S hr hk (by rw [sRun, if_pos c1, hi8, hR]; rfl) dS_run_43
        · skip
          rw [nI_leI (by omega) (by omega)] at c2
          rw [show tl - k = (tl - k - 1) + 1 by omega] at hR
          simp only [sEnd] at hR
          refine lv_aload_n hx hb dS_run_20 rfl (lv_at hl 0 rfl) ?_
          refine va_get (D := D) (ci := 0) (v := .ref qt) (C := "SignReader") (T := T_S) (N := 5) hx hb hts i_S hown hK hP 0 rfl rfl 1 (by decide) (hts _ k23) (fun _ h9 => h9) rfl dS_run_21 ?_
          refine lv_iload_n hx hb dS_run_24 rfl (lv_at hl 3 rfl) ?_
          refine va_iald hx hb hK hP 2 0 rfl rfl (by exact vp_in_nI (by omega) (by omega)) dS_run_25 ?_
          rw [nI_clamp (n := k) (by omega)]
          refine ro_S (As := [.int (g k)]) (rest := []) (n := 1) S (cS_kindsOf l tc ts tm q v ((g k))) k142 k1 k141 (by decide +kernel) ⟨rfl, rfl⟩ k140 (by decide) (gx_S xD_ok hX.2) rfl rfl hl.1 (Nat.le_of_ble_eq_true rfl) ⟨Nat.le_refl _, Nat.le_refl _⟩ dS_run_26 ?_
          refine lv_iload_n hx hb dS_run_29 rfl (lv_at hl 2 rfl) ?_
          refine lv_iand hx hb dS_run_30 ?_
          refine lv_if_eq (tgt := 40) hx hb dS_run_31 (by decide) (fun c3 => ?_) (fun c3 => ?_)
          · skip
            refine lv_iload_n hx hb dS_run_40 rfl (lv_at hl 3 rfl) ?_
            refine lv_iload_n hx hb dS_run_41 rfl (lv_at hl 1 rfl) ?_
            refine lv_isub hx hb dS_run_42 ?_
            exact ro_ret S hr hk (by rw [sRun, if_pos c1, hi8, hR, if_pos c3]) dS_run_43
          · skip
            refine lv_iinc (v := ((nI k) + 1)) (lv' := [(3, .int ((nI k) + 1)), (0, .ref h), (1, .int i), (2, .int kd)]) hx hb dS_run_34 hl (k := 3) rfl rfl (by decide) rfl (fun ls hl => ?_)
            refine lv_goto (tgt := 12) hx hb dS_run_37 (by decide) ?_
            exact ih (((nI k) + 1)) (k + 1) (nI_1 k) (by omega) (by omega) (by rw [hR, if_neg c3, show tl - (k + 1) = tl - k - 1 by omega]) ls (lv_sub hl [1, 2, 3, 0] rfl) 
    exact J12 (tl + 1) (i) (i0) (hi9) (by omega) (by omega) (rfl) ls (lv_sub hl [1, 2, 3, 0] rfl) 
  · skip
    replace c1 := bI_f c1
    refine lv_iconst (v := 0) hx hb dS_run_8 (by decide) ?_
    exact ro_ret S hr hk (by simp [sRun, c1]) dS_run_9
def tT (w : Int32) : Nat → Int32 → Int32 → SS → SS
  | 0, _, _, z => z
  | j + 1, x, b, z => if nI z.1 ≤ x then z else tT w j (x + sSize (sN z.2.2.2.1 z.1 x w) w) (sN z.2.2.2.1 z.1 x w) (if b = 13 then (if sN z.2.2.2.1 z.1 x w = 10 then z else wG z (if sN z.2.2.2.1 z.1 x w = 13 then 10 else sN z.2.2.2.1 z.1 x w)) else wG z (if sN z.2.2.2.1 z.1 x w = 13 then 10 else sN z.2.2.2.1 z.1 x w))
theorem tT_ok {w : Int32} : ∀ {j : Nat} {x b : Int32} {z : SS}, okZ z → okZ (tT w j x b z)
  | 0, _, _, _, h => h
  | j + 1, x, b, z, h => by
    rw [tT]
    split
    · exact h
    · refine tT_ok (j := j) ?_
      split
      · split
        · exact h
        · exact wG_ok h
      · exact wG_ok h
def zText (z : SS) (w : Int32) : SS := tT w 4096 (sMark w) (-1) (z.1, 0, z.2.2)
theorem z0_ok {z : SS} (hz : okZ z) : okZ (z.1, 0, z.2.2) := ⟨hz.1, Nat.zero_le _⟩
theorem zText_ok {z : SS} {w : Int32} (hz : okZ z) : okZ (zText z w) := tT_ok (z0_ok hz)
set_option maxHeartbeats 4000000 in
set_option maxRecDepth 100000 in
theorem cS_takeText (l : Launch) (D : va_G) (h qb qt : Nat) (cI : ClassId) (z : SS) (w : Int32) (hd : ap3 h qb qt) (hz : okZ z) : Met l yS_takeText (Cond.code yS_takeText prog_1_method_18_code 7 none :: TB) { frames := 5, cells := 0, slots := 0, locals := 112 } (gx (xZ9 D h qb qt cI z) [.ref h, .int w]) (mQ (none) D (srZ h qb qt cI (zText z w)) (A3 h qb qt)) 0 0 (A3 h qb qt) := by
  refine mt_of (by decide) ?_
  intro p e s m args below meth cd S hr hk hin hv
  obtain ⟨rfl, hX⟩ := hv
  have hP : va_P D CL (srZ h qb qt cI z) s.heap := hX.1
  have hK := hX.2
  have hS : va_S (A3 h qb qt) s.heap s.heap [] := va_S.rf
  have hx := S.1
  have hb := S.2.1
  have hown := S.2.2.2.1
  have hts := S.2.2.2.2
  have hl := lv_entry ([.ref h, .int w]) (n := 7) (Nat.le_of_ble_eq_true rfl)
  rw [lg_entry_eq]
  generalize (lg_sl ([.ref h, .int w]) ++ List.replicate (7 - (lg_sl ([.ref h, .int w])).length) Slot.unset).toArray = ls at hl ⊢
  have hl : lv_has ls 7 [(0, .ref h), (1, .int w)] := hl
  refine lv_iload_n hx hb dS_takeText_0 rfl (lv_at hl 1 rfl) ?_
  refine ro_S (As := [.int w]) (rest := []) (n := 1) S (cS_sizeOfMark l (w)) k97 k1 k96 (by decide +kernel) ⟨rfl, rfl⟩ k95 (by decide) preEq rfl rfl hl.1 (Nat.le_of_ble_eq_true rfl) ⟨Nat.le_refl _, Nat.le_refl _⟩ dS_takeText_1 ?_
  refine lv_istore_n (lv' := [(2, .int (sMark w)), (0, .ref h), (1, .int w)]) hx hb dS_takeText_4 rfl hl (by decide) rfl (fun ls hl => ?_)
  refine lv_iconst (v := (-1)) hx hb dS_takeText_5 (by decide) ?_
  refine lv_istore_n (lv' := [(3, .int (-1)), (2, .int (sMark w)), (0, .ref h), (1, .int w)]) hx hb dS_takeText_6 rfl hl (by decide) rfl (fun ls hl => ?_)
  refine lv_aload_n hx hb dS_takeText_7 rfl (lv_at hl 2 rfl) ?_
  refine lv_iconst (v := 0) hx hb dS_takeText_8 (by decide) ?_
  refine va_put (D := D) (ci := 0) (v := .int 0) (ty := .int) (C := "SignReader") (T := T_S) (N := 5) hx hb hts i_S t_S t_S_ok n_S hown hK hP (srD hd) hS 0 rfl rfl 3 (by decide) (hts _ k25) (fun _ h9 => h9) rfl (by decide +kernel) rfl rfl (Nat.le_of_ble_eq_true rfl) dS_takeText_9 (fun H locs hP _ hS => ?_)
  have hP : va_P D CL (srW h qb qt cI (nI z.1) (0) (z.2.2.1) (z.2.2.2.1) (z.2.2.2.2)) H := hP
  have hP : va_P D CL (srZ h qb qt cI ((z.1, 0, z.2.2))) _ := va_Pe (by show _ = srW h qb qt cI _ (nI 0) _ _ _; rw [nI_0] : srW h qb qt cI (nI z.1) (0) (z.2.2.1) (z.2.2.2.1) (z.2.2.2.2) = srZ h qb qt cI ((z.1, 0, z.2.2))) hP
  refine lv_iconst (v := 0) hx hb dS_takeText_12 (by decide) ?_
  refine lv_istore (lv' := [(4, .int 0), (3, .int (-1)), (2, .int (sMark w)), (0, .ref h), (1, .int w)]) hx hb dS_takeText_13 hl (by decide) rfl (fun ls hl => ?_)
  have J15 : ∀ (fu : Nat) (a : Int32) (b : Int32) (x : Int32) (k : Nat) (z9 : SS) (H : Heap) (locs : List Loc), x = nI k → k ≤ 4096 → 4096 < k + fu → zText z w = tT w (4096 - k) a b z9 → okZ z9 → va_P D CL (srZ h qb qt cI z9) H → va_S (A3 h qb qt) s.heap H locs → ∀ ls : Array Slot, lv_has ls 7 [(0, .ref h), (1, .int w), (2, .int a), (3, .int b), (4, .int x)] → W p l e { frames := 5, cells := 0, slots := 0, locals := 112 } s m [.ref h, .int w].toArray below meth cd H locs 0 0 (MQ below (mQ (none) D (srZ h qb qt cI (zText z w)) (A3 h qb qt)) [.ref h, .int w].toArray s 0 0 (A3 h qb qt)) (F0 m 15 ls []) := by
    intro fu
    induction fu with
    | zero =>
      intro a b x k z9 H locs hx9 hk9 hf9 hR hz9 hP hS ls hl
      exact absurd hf9 (by omega)
    | succ fu ih =>
      intro a b x k z9 H locs hx9 hk9 hf9 hR hz9 hP hS ls hl
      subst hx9
      refine lv_iload hx hb dS_takeText_15 (lv_at hl 4 rfl) ?_
      refine lv_sipush (v := 4096) hx hb dS_takeText_17 (by decide) ?_
      refine lv_icmp_ge (tgt := 100) hx hb dS_takeText_20 (by decide) (fun c1 => ?_) (fun c1 => ?_)
      · skip
        rw [show (4096 : Int32) = nI 4096 from rfl, nI_leI (by omega) (by omega)] at c1
        rw [show 4096 - k = 0 by omega] at hR
        have hP : va_P D CL (srZ h qb qt cI (zText z w)) _ := va_Pe (congrArg (srZ h qb qt cI) (by rw [hR]; rfl : (z9 : SS) = zText z w)) hP
        exact mu_ret0 S hr hk hP hS dS_takeText_100
      · skip
        rw [show (4096 : Int32) = nI 4096 from rfl, nI_leI (by omega) (by omega)] at c1
        rw [show 4096 - k = (4095 - k) + 1 by omega] at hR
        simp only [tT] at hR
        refine lv_iload_n hx hb dS_takeText_23 rfl (lv_at hl 2 rfl) ?_
        refine lv_aload_n hx hb dS_takeText_24 rfl (lv_at hl 0 rfl) ?_
        refine va_get (D := D) (ci := 0) (v := .int (nI z9.1)) (C := "SignReader") (T := T_S) (N := 5) hx hb hts i_S hown hK hP 0 rfl rfl 2 (by decide) (hts _ k24) (fun _ h9 => h9) rfl dS_takeText_25 ?_
        refine lv_icmp_ge (tgt := 100) hx hb dS_takeText_28 (by decide) (fun c2 => ?_) (fun c2 => ?_)
        · skip
          have hP : va_P D CL (srZ h qb qt cI (zText z w)) _ := va_Pe (congrArg (srZ h qb qt cI) (by rw [hR, if_pos c2] : (z9 : SS) = zText z w)) hP
          exact mu_ret0 S hr hk hP hS dS_takeText_100
        · skip
          refine lv_aload_n hx hb dS_takeText_31 rfl (lv_at hl 0 rfl) ?_
          refine lv_iload_n hx hb dS_takeText_32 rfl (lv_at hl 2 rfl) ?_
          refine lv_iload_n hx hb dS_takeText_33 rfl (lv_at hl 1 rfl) ?_
          refine ro_V (r := (sN z9.2.2.2.1 z9.1 (a) (w))) (As := [.int a, .int w]) (rest := []) (n := 2) (C := "SignReader") S (cS_numberAt l D h qb qt cI z9.1 z9.2.1 z9.2.2.1 z9.2.2.2.1 z9.2.2.2.2 hz9.1 hz9.2 (a) (w)) k62 k1 k61 ks2 (by decide +kernel) ⟨rfl, rfl⟩ k59 (by decide) (xW_V ⟨hP, hK⟩) rfl rfl hl.1 (Nat.le_of_ble_eq_true rfl) ⟨Nat.le_refl _, Nat.le_refl _⟩ dS_takeText_34 ?_
          refine lv_istore (lv' := [(5, .int (sN z9.2.2.2.1 z9.1 (a) (w))), (0, .ref h), (1, .int w), (2, .int a), (3, .int b), (4, .int (nI k))]) hx hb dS_takeText_37 hl (by decide) rfl (fun ls hl => ?_)
          refine lv_iload_n hx hb dS_takeText_39 rfl (lv_at hl 4 rfl) ?_
          refine lv_bipush (v := 13) hx hb dS_takeText_40 (by decide) ?_
          refine lv_icmp_ne (tgt := 56) hx hb dS_takeText_42 (by decide) (fun c3 => ?_) (fun c3 => ?_)
          · skip
            refine lv_iconst (v := 0) hx hb dS_takeText_56 (by decide) ?_
            refine lv_istore (lv' := [(6, .int 0), (5, .int (sN z9.2.2.2.1 z9.1 (a) (w))), (0, .ref h), (1, .int w), (2, .int a), (3, .int b), (4, .int (nI k))]) hx hb dS_takeText_57 hl (by decide) rfl (fun ls hl => ?_)
            refine lv_iload hx hb dS_takeText_59 (lv_at hl 0 rfl) ?_
            refine lv_if_ne (tgt := 82) hx hb dS_takeText_61 (by decide) (fun c4 => absurd c4 (by decide)) (fun c4 => ?_)
            refine lv_aload_n hx hb dS_takeText_64 rfl (lv_at hl 2 rfl) ?_
            refine lv_iload hx hb dS_takeText_65 (lv_at hl 1 rfl) ?_
            refine lv_bipush (v := 13) hx hb dS_takeText_67 (by decide) ?_
            refine lv_icmp_ne (tgt := 77) hx hb dS_takeText_69 (by decide) (fun c5 => ?_) (fun c5 => ?_)
            · skip
              refine lv_iload hx hb dS_takeText_77 (lv_at hl 1 rfl) ?_
              refine mu_V (As := [.int (sN z9.2.2.2.1 z9.1 (a) (w))]) (rest := []) (n := 1) (C := "SignReader") S (cS_putSign l D h qb qt cI (z9)  ((sN z9.2.2.2.1 z9.1 (a) (w))) hd hz9 ) k119 k1 k118 ks8 (by decide +kernel) ⟨rfl, rfl⟩ k116 (by decide) (xW_V ⟨hP, hK⟩) rfl rfl hl.1 (Nat.le_of_ble_eq_true rfl) ⟨Nat.le_refl _, Nat.le_refl _⟩ dS_takeText_79 hS (fun _ h9 => h9) (fun H locs hP hS => ?_)
              have hP : va_P D CL (srZ h qb qt cI (wG z9 ((sN z9.2.2.2.1 z9.1 (a) (w))))) H := hP
              refine lv_iload hx hb dS_takeText_82 (lv_at hl 1 rfl) ?_
              refine lv_istore_n (lv' := [(3, .int (sN z9.2.2.2.1 z9.1 (a) (w))), (6, .int 0), (5, .int (sN z9.2.2.2.1 z9.1 (a) (w))), (0, .ref h), (1, .int w), (2, .int a), (4, .int (nI k))]) hx hb dS_takeText_84 rfl hl (by decide) rfl (fun ls hl => ?_)
              refine lv_iload_n hx hb dS_takeText_85 rfl (lv_at hl 5 rfl) ?_
              refine lv_iload hx hb dS_takeText_86 (lv_at hl 2 rfl) ?_
              refine lv_iload_n hx hb dS_takeText_88 rfl (lv_at hl 4 rfl) ?_
              refine ro_S (As := [.int (sN z9.2.2.2.1 z9.1 (a) (w)), .int w]) (rest := [.int a]) (n := 2) S (cS_sizeOf l ((sN z9.2.2.2.1 z9.1 (a) (w))) (w)) k100 k1 k99 (by decide +kernel) ⟨rfl, rfl⟩ k98 (by decide) preEq rfl rfl hl.1 (Nat.le_of_ble_eq_true rfl) ⟨Nat.le_refl _, Nat.le_refl _⟩ dS_takeText_89 ?_
              refine lv_iadd hx hb dS_takeText_92 ?_
              refine lv_istore_n (lv' := [(2, .int (a + (sSize (sN z9.2.2.2.1 z9.1 (a) (w)) w))), (3, .int (sN z9.2.2.2.1 z9.1 (a) (w))), (6, .int 0), (5, .int (sN z9.2.2.2.1 z9.1 (a) (w))), (0, .ref h), (1, .int w), (4, .int (nI k))]) hx hb dS_takeText_93 rfl hl (by decide) rfl (fun ls hl => ?_)
              refine lv_iinc (v := ((nI k) + 1)) (lv' := [(4, .int ((nI k) + 1)), (2, .int (a + (sSize (sN z9.2.2.2.1 z9.1 (a) (w)) w))), (3, .int (sN z9.2.2.2.1 z9.1 (a) (w))), (6, .int 0), (5, .int (sN z9.2.2.2.1 z9.1 (a) (w))), (0, .ref h), (1, .int w)]) hx hb dS_takeText_94 hl (k := 6) rfl rfl (by decide) rfl (fun ls hl => ?_)
              refine lv_goto (tgt := 15) hx hb dS_takeText_97 (by decide) ?_
              exact ih ((a + (sSize (sN z9.2.2.2.1 z9.1 (a) (w)) w))) ((sN z9.2.2.2.1 z9.1 (a) (w))) (((nI k) + 1)) (k + 1) (wG z9 ((sN z9.2.2.2.1 z9.1 (a) (w)))) (_) (_) (nI_1 k) (by omega) (by omega) (by rw [hR]; simp only [c2, c3, c5, (by decide : ¬ ((13 : Int32) = 10)), ↓reduceIte]; rw [show 4096 - (k + 1) = 4095 - k by omega]) ((wG_ok hz9)) (hP) (hS) ls (lv_sub hl [5, 6, 1, 2, 0] rfl) 
            · skip
              refine lv_bipush (v := 10) hx hb dS_takeText_72 (by decide) ?_
              refine lv_goto (tgt := 79) hx hb dS_takeText_74 (by decide) ?_
              refine mu_V (As := [.int 10]) (rest := []) (n := 1) (C := "SignReader") S (cS_putSign l D h qb qt cI (z9)  (10) hd hz9 ) k119 k1 k118 ks8 (by decide +kernel) ⟨rfl, rfl⟩ k116 (by decide) (xW_V ⟨hP, hK⟩) rfl rfl hl.1 (Nat.le_of_ble_eq_true rfl) ⟨Nat.le_refl _, Nat.le_refl _⟩ dS_takeText_79 hS (fun _ h9 => h9) (fun H locs hP hS => ?_)
              have hP : va_P D CL (srZ h qb qt cI (wG z9 10)) H := hP
              refine lv_iload hx hb dS_takeText_82 (lv_at hl 1 rfl) ?_
              refine lv_istore_n (lv' := [(3, .int (sN z9.2.2.2.1 z9.1 (a) (w))), (6, .int 0), (5, .int (sN z9.2.2.2.1 z9.1 (a) (w))), (0, .ref h), (1, .int w), (2, .int a), (4, .int (nI k))]) hx hb dS_takeText_84 rfl hl (by decide) rfl (fun ls hl => ?_)
              refine lv_iload_n hx hb dS_takeText_85 rfl (lv_at hl 5 rfl) ?_
              refine lv_iload hx hb dS_takeText_86 (lv_at hl 2 rfl) ?_
              refine lv_iload_n hx hb dS_takeText_88 rfl (lv_at hl 4 rfl) ?_
              refine ro_S (As := [.int (sN z9.2.2.2.1 z9.1 (a) (w)), .int w]) (rest := [.int a]) (n := 2) S (cS_sizeOf l ((sN z9.2.2.2.1 z9.1 (a) (w))) (w)) k100 k1 k99 (by decide +kernel) ⟨rfl, rfl⟩ k98 (by decide) preEq rfl rfl hl.1 (Nat.le_of_ble_eq_true rfl) ⟨Nat.le_refl _, Nat.le_refl _⟩ dS_takeText_89 ?_
              refine lv_iadd hx hb dS_takeText_92 ?_
              refine lv_istore_n (lv' := [(2, .int (a + (sSize (sN z9.2.2.2.1 z9.1 (a) (w)) w))), (3, .int (sN z9.2.2.2.1 z9.1 (a) (w))), (6, .int 0), (5, .int (sN z9.2.2.2.1 z9.1 (a) (w))), (0, .ref h), (1, .int w), (4, .int (nI k))]) hx hb dS_takeText_93 rfl hl (by decide) rfl (fun ls hl => ?_)
              refine lv_iinc (v := ((nI k) + 1)) (lv' := [(4, .int ((nI k) + 1)), (2, .int (a + (sSize (sN z9.2.2.2.1 z9.1 (a) (w)) w))), (3, .int (sN z9.2.2.2.1 z9.1 (a) (w))), (6, .int 0), (5, .int (sN z9.2.2.2.1 z9.1 (a) (w))), (0, .ref h), (1, .int w)]) hx hb dS_takeText_94 hl (k := 6) rfl rfl (by decide) rfl (fun ls hl => ?_)
              refine lv_goto (tgt := 15) hx hb dS_takeText_97 (by decide) ?_
              exact ih ((a + (sSize (sN z9.2.2.2.1 z9.1 (a) (w)) w))) ((sN z9.2.2.2.1 z9.1 (a) (w))) (((nI k) + 1)) (k + 1) (wG z9 10) (_) (_) (nI_1 k) (by omega) (by omega) (by rw [hR]; simp only [c2, c3, c5, (by decide : ¬ ((13 : Int32) = 10)), ↓reduceIte]; rw [show 4096 - (k + 1) = 4095 - k by omega]) ((wG_ok hz9)) (hP) (hS) ls (lv_sub hl [5, 6, 1, 2, 0] rfl) 
          · skip
            refine lv_iload hx hb dS_takeText_45 (lv_at hl 0 rfl) ?_
            refine lv_bipush (v := 10) hx hb dS_takeText_47 (by decide) ?_
            refine lv_icmp_ne (tgt := 56) hx hb dS_takeText_49 (by decide) (fun c6 => ?_) (fun c6 => ?_)
            · skip
              refine lv_iconst (v := 0) hx hb dS_takeText_56 (by decide) ?_
              refine lv_istore (lv' := [(6, .int 0), (5, .int (sN z9.2.2.2.1 z9.1 (a) (w))), (0, .ref h), (1, .int w), (2, .int a), (3, .int b), (4, .int (nI k))]) hx hb dS_takeText_57 hl (by decide) rfl (fun ls hl => ?_)
              refine lv_iload hx hb dS_takeText_59 (lv_at hl 0 rfl) ?_
              refine lv_if_ne (tgt := 82) hx hb dS_takeText_61 (by decide) (fun c7 => absurd c7 (by decide)) (fun c7 => ?_)
              refine lv_aload_n hx hb dS_takeText_64 rfl (lv_at hl 2 rfl) ?_
              refine lv_iload hx hb dS_takeText_65 (lv_at hl 1 rfl) ?_
              refine lv_bipush (v := 13) hx hb dS_takeText_67 (by decide) ?_
              refine lv_icmp_ne (tgt := 77) hx hb dS_takeText_69 (by decide) (fun c8 => ?_) (fun c8 => ?_)
              · skip
                refine lv_iload hx hb dS_takeText_77 (lv_at hl 1 rfl) ?_
                refine mu_V (As := [.int (sN z9.2.2.2.1 z9.1 (a) (w))]) (rest := []) (n := 1) (C := "SignReader") S (cS_putSign l D h qb qt cI (z9)  ((sN z9.2.2.2.1 z9.1 (a) (w))) hd hz9 ) k119 k1 k118 ks8 (by decide +kernel) ⟨rfl, rfl⟩ k116 (by decide) (xW_V ⟨hP, hK⟩) rfl rfl hl.1 (Nat.le_of_ble_eq_true rfl) ⟨Nat.le_refl _, Nat.le_refl _⟩ dS_takeText_79 hS (fun _ h9 => h9) (fun H locs hP hS => ?_)
                have hP : va_P D CL (srZ h qb qt cI (wG z9 ((sN z9.2.2.2.1 z9.1 (a) (w))))) H := hP
                refine lv_iload hx hb dS_takeText_82 (lv_at hl 1 rfl) ?_
                refine lv_istore_n (lv' := [(3, .int (sN z9.2.2.2.1 z9.1 (a) (w))), (6, .int 0), (5, .int (sN z9.2.2.2.1 z9.1 (a) (w))), (0, .ref h), (1, .int w), (2, .int a), (4, .int (nI k))]) hx hb dS_takeText_84 rfl hl (by decide) rfl (fun ls hl => ?_)
                refine lv_iload_n hx hb dS_takeText_85 rfl (lv_at hl 5 rfl) ?_
                refine lv_iload hx hb dS_takeText_86 (lv_at hl 2 rfl) ?_
                refine lv_iload_n hx hb dS_takeText_88 rfl (lv_at hl 4 rfl) ?_
                refine ro_S (As := [.int (sN z9.2.2.2.1 z9.1 (a) (w)), .int w]) (rest := [.int a]) (n := 2) S (cS_sizeOf l ((sN z9.2.2.2.1 z9.1 (a) (w))) (w)) k100 k1 k99 (by decide +kernel) ⟨rfl, rfl⟩ k98 (by decide) preEq rfl rfl hl.1 (Nat.le_of_ble_eq_true rfl) ⟨Nat.le_refl _, Nat.le_refl _⟩ dS_takeText_89 ?_
                refine lv_iadd hx hb dS_takeText_92 ?_
                refine lv_istore_n (lv' := [(2, .int (a + (sSize (sN z9.2.2.2.1 z9.1 (a) (w)) w))), (3, .int (sN z9.2.2.2.1 z9.1 (a) (w))), (6, .int 0), (5, .int (sN z9.2.2.2.1 z9.1 (a) (w))), (0, .ref h), (1, .int w), (4, .int (nI k))]) hx hb dS_takeText_93 rfl hl (by decide) rfl (fun ls hl => ?_)
                refine lv_iinc (v := ((nI k) + 1)) (lv' := [(4, .int ((nI k) + 1)), (2, .int (a + (sSize (sN z9.2.2.2.1 z9.1 (a) (w)) w))), (3, .int (sN z9.2.2.2.1 z9.1 (a) (w))), (6, .int 0), (5, .int (sN z9.2.2.2.1 z9.1 (a) (w))), (0, .ref h), (1, .int w)]) hx hb dS_takeText_94 hl (k := 6) rfl rfl (by decide) rfl (fun ls hl => ?_)
                refine lv_goto (tgt := 15) hx hb dS_takeText_97 (by decide) ?_
                exact ih ((a + (sSize (sN z9.2.2.2.1 z9.1 (a) (w)) w))) ((sN z9.2.2.2.1 z9.1 (a) (w))) (((nI k) + 1)) (k + 1) (wG z9 ((sN z9.2.2.2.1 z9.1 (a) (w)))) (_) (_) (nI_1 k) (by omega) (by omega) (by rw [hR]; simp only [c2, c3, c6, c8, (by decide : ¬ ((13 : Int32) = 10)), ↓reduceIte]; rw [show 4096 - (k + 1) = 4095 - k by omega]) ((wG_ok hz9)) (hP) (hS) ls (lv_sub hl [5, 6, 1, 2, 0] rfl) 
              · skip
                refine lv_bipush (v := 10) hx hb dS_takeText_72 (by decide) ?_
                refine lv_goto (tgt := 79) hx hb dS_takeText_74 (by decide) ?_
                refine mu_V (As := [.int 10]) (rest := []) (n := 1) (C := "SignReader") S (cS_putSign l D h qb qt cI (z9)  (10) hd hz9 ) k119 k1 k118 ks8 (by decide +kernel) ⟨rfl, rfl⟩ k116 (by decide) (xW_V ⟨hP, hK⟩) rfl rfl hl.1 (Nat.le_of_ble_eq_true rfl) ⟨Nat.le_refl _, Nat.le_refl _⟩ dS_takeText_79 hS (fun _ h9 => h9) (fun H locs hP hS => ?_)
                have hP : va_P D CL (srZ h qb qt cI (wG z9 10)) H := hP
                refine lv_iload hx hb dS_takeText_82 (lv_at hl 1 rfl) ?_
                refine lv_istore_n (lv' := [(3, .int (sN z9.2.2.2.1 z9.1 (a) (w))), (6, .int 0), (5, .int (sN z9.2.2.2.1 z9.1 (a) (w))), (0, .ref h), (1, .int w), (2, .int a), (4, .int (nI k))]) hx hb dS_takeText_84 rfl hl (by decide) rfl (fun ls hl => ?_)
                refine lv_iload_n hx hb dS_takeText_85 rfl (lv_at hl 5 rfl) ?_
                refine lv_iload hx hb dS_takeText_86 (lv_at hl 2 rfl) ?_
                refine lv_iload_n hx hb dS_takeText_88 rfl (lv_at hl 4 rfl) ?_
                refine ro_S (As := [.int (sN z9.2.2.2.1 z9.1 (a) (w)), .int w]) (rest := [.int a]) (n := 2) S (cS_sizeOf l ((sN z9.2.2.2.1 z9.1 (a) (w))) (w)) k100 k1 k99 (by decide +kernel) ⟨rfl, rfl⟩ k98 (by decide) preEq rfl rfl hl.1 (Nat.le_of_ble_eq_true rfl) ⟨Nat.le_refl _, Nat.le_refl _⟩ dS_takeText_89 ?_
                refine lv_iadd hx hb dS_takeText_92 ?_
                refine lv_istore_n (lv' := [(2, .int (a + (sSize (sN z9.2.2.2.1 z9.1 (a) (w)) w))), (3, .int (sN z9.2.2.2.1 z9.1 (a) (w))), (6, .int 0), (5, .int (sN z9.2.2.2.1 z9.1 (a) (w))), (0, .ref h), (1, .int w), (4, .int (nI k))]) hx hb dS_takeText_93 rfl hl (by decide) rfl (fun ls hl => ?_)
                refine lv_iinc (v := ((nI k) + 1)) (lv' := [(4, .int ((nI k) + 1)), (2, .int (a + (sSize (sN z9.2.2.2.1 z9.1 (a) (w)) w))), (3, .int (sN z9.2.2.2.1 z9.1 (a) (w))), (6, .int 0), (5, .int (sN z9.2.2.2.1 z9.1 (a) (w))), (0, .ref h), (1, .int w)]) hx hb dS_takeText_94 hl (k := 6) rfl rfl (by decide) rfl (fun ls hl => ?_)
                refine lv_goto (tgt := 15) hx hb dS_takeText_97 (by decide) ?_
                exact ih ((a + (sSize (sN z9.2.2.2.1 z9.1 (a) (w)) w))) ((sN z9.2.2.2.1 z9.1 (a) (w))) (((nI k) + 1)) (k + 1) (wG z9 10) (_) (_) (nI_1 k) (by omega) (by omega) (by rw [hR]; simp only [c2, c3, c6, c8, (by decide : ¬ ((13 : Int32) = 10)), ↓reduceIte]; rw [show 4096 - (k + 1) = 4095 - k by omega]) ((wG_ok hz9)) (hP) (hS) ls (lv_sub hl [5, 6, 1, 2, 0] rfl) 
            · skip
              refine lv_iconst (v := 1) hx hb dS_takeText_52 (by decide) ?_
              refine lv_goto (tgt := 57) hx hb dS_takeText_53 (by decide) ?_
              refine lv_istore (lv' := [(6, .int 1), (5, .int (sN z9.2.2.2.1 z9.1 (a) (w))), (0, .ref h), (1, .int w), (2, .int a), (3, .int b), (4, .int (nI k))]) hx hb dS_takeText_57 hl (by decide) rfl (fun ls hl => ?_)
              refine lv_iload hx hb dS_takeText_59 (lv_at hl 0 rfl) ?_
              refine lv_if_ne (tgt := 82) hx hb dS_takeText_61 (by decide) (fun c9 => ?_) (fun c9 => absurd c9 (by decide))
              refine lv_iload hx hb dS_takeText_82 (lv_at hl 1 rfl) ?_
              refine lv_istore_n (lv' := [(3, .int (sN z9.2.2.2.1 z9.1 (a) (w))), (6, .int 1), (5, .int (sN z9.2.2.2.1 z9.1 (a) (w))), (0, .ref h), (1, .int w), (2, .int a), (4, .int (nI k))]) hx hb dS_takeText_84 rfl hl (by decide) rfl (fun ls hl => ?_)
              refine lv_iload_n hx hb dS_takeText_85 rfl (lv_at hl 5 rfl) ?_
              refine lv_iload hx hb dS_takeText_86 (lv_at hl 2 rfl) ?_
              refine lv_iload_n hx hb dS_takeText_88 rfl (lv_at hl 4 rfl) ?_
              refine ro_S (As := [.int (sN z9.2.2.2.1 z9.1 (a) (w)), .int w]) (rest := [.int a]) (n := 2) S (cS_sizeOf l ((sN z9.2.2.2.1 z9.1 (a) (w))) (w)) k100 k1 k99 (by decide +kernel) ⟨rfl, rfl⟩ k98 (by decide) preEq rfl rfl hl.1 (Nat.le_of_ble_eq_true rfl) ⟨Nat.le_refl _, Nat.le_refl _⟩ dS_takeText_89 ?_
              refine lv_iadd hx hb dS_takeText_92 ?_
              refine lv_istore_n (lv' := [(2, .int (a + (sSize (sN z9.2.2.2.1 z9.1 (a) (w)) w))), (3, .int (sN z9.2.2.2.1 z9.1 (a) (w))), (6, .int 1), (5, .int (sN z9.2.2.2.1 z9.1 (a) (w))), (0, .ref h), (1, .int w), (4, .int (nI k))]) hx hb dS_takeText_93 rfl hl (by decide) rfl (fun ls hl => ?_)
              refine lv_iinc (v := ((nI k) + 1)) (lv' := [(4, .int ((nI k) + 1)), (2, .int (a + (sSize (sN z9.2.2.2.1 z9.1 (a) (w)) w))), (3, .int (sN z9.2.2.2.1 z9.1 (a) (w))), (6, .int 1), (5, .int (sN z9.2.2.2.1 z9.1 (a) (w))), (0, .ref h), (1, .int w)]) hx hb dS_takeText_94 hl (k := 6) rfl rfl (by decide) rfl (fun ls hl => ?_)
              refine lv_goto (tgt := 15) hx hb dS_takeText_97 (by decide) ?_
              exact ih ((a + (sSize (sN z9.2.2.2.1 z9.1 (a) (w)) w))) ((sN z9.2.2.2.1 z9.1 (a) (w))) (((nI k) + 1)) (k + 1) (z9) (_) (_) (nI_1 k) (by omega) (by omega) (by rw [hR]; simp only [c2, c3, c6, (by decide : ¬ ((13 : Int32) = 10)), ↓reduceIte]; rw [show 4096 - (k + 1) = 4095 - k by omega]) (hz9) (hP) (hS) ls (lv_sub hl [5, 6, 1, 2, 0] rfl) 
  exact J15 (4097) ((sMark w)) ((-1)) (0) (0) ((z.1, 0, z.2.2)) (_) (_) (rfl) (by omega) (by omega) (by unfold zText; rw [Nat.sub_zero]) ((z0_ok hz)) (hP) (hS) ls (lv_sub hl [3, 4, 2, 1, 0] rfl) 
def zTk (y : SS) (w : Int32) : SS := (0, y.2.1, w, y.2.2.2)
theorem zTk_ok {y : SS} {w : Int32} (h : okZ y) : okZ (zTk y w) := ⟨Nat.zero_le _, h.2⟩
theorem srZ_tk {h qb qt : Nat} {cI : ClassId} (y : SS) (w : Int32) : srW h qb qt cI 0 (nI y.2.1) w y.2.2.2.1 y.2.2.2.2 = srZ h qb qt cI (zTk y w) := by
  show _ = srW h qb qt cI (nI 0) _ _ _ _
  rw [nI_0]
  rfl
theorem srZ_0 {h qb qt : Nat} {cI : ClassId} (z : SS) : srW h qb qt cI 0 (nI z.2.1) z.2.2.1 z.2.2.2.1 z.2.2.2.2 = srZ h qb qt cI (0, z.2) := by
  show _ = srW h qb qt cI (nI 0) _ _ _ _
  rw [nI_0]
theorem z00_ok {z : SS} (hz : okZ z) : okZ (0, z.2) := ⟨Nat.zero_le _, hz.2⟩
def zRead (z : SS) : SS := if sPlace z.2.2.2.1 z.1 (sWay z.2.2.2.1 z.1) = -1 then zTk (zText z (sWay z.2.2.2.1 z.1)) (sWay z.2.2.2.1 z.1) else (0, z.2)
theorem zRead_ok {z : SS} (hz : okZ z) : okZ (zRead z) := by
  rw [zRead]
  split
  · exact zTk_ok (zText_ok hz)
  · exact z00_ok hz
set_option maxHeartbeats 4000000 in
set_option maxRecDepth 100000 in
theorem cS_read (l : Launch) (D : va_G) (h qb qt : Nat) (cI : ClassId) (z : SS) (tc : Nat) (hd : ap3 h qb qt) (hz : okZ z) : Met l yS_read (Cond.code yS_read prog_1_method_6_code 3 (some .int) :: TB) { frames := 6, cells := 0, slots := 0, locals := 138 } (gx (xWC D h qb qt cI z.1 z.2.1 z.2.2.1 z.2.2.2.1 z.2.2.2.2 tc) [.ref h]) (mQ (some (.int (sPlace z.2.2.2.1 z.1 (sWay z.2.2.2.1 z.1)))) D (srZ h qb qt cI (zRead z)) (A3 h qb qt)) 0 0 (A3 h qb qt) := by
  refine mt_of (by decide) ?_
  intro p e s m args below meth cd S hr hk hin hv
  obtain ⟨rfl, hX⟩ := hv
  have hP : va_P D CL (srZ h qb qt cI z) s.heap := hX.1.1
  have hK := hX.1.2
  have hC := hX.2
  have hS : va_S (A3 h qb qt) s.heap s.heap [] := va_S.rf
  have hx := S.1
  have hb := S.2.1
  have hown := S.2.2.2.1
  have hts := S.2.2.2.2
  have hl := lv_entry ([.ref h]) (n := 3) (Nat.le_of_ble_eq_true rfl)
  rw [lg_entry_eq]
  generalize (lg_sl ([.ref h]) ++ List.replicate (3 - (lg_sl ([.ref h])).length) Slot.unset).toArray = ls at hl ⊢
  have hl : lv_has ls 3 [(0, .ref h)] := hl
  refine lv_aload_n hx hb dS_read_0 rfl (lv_at hl 0 rfl) ?_
  refine ro_V (r := (sWay z.2.2.2.1 z.1)) (As := []) (rest := []) (n := 0) (C := "SignReader") S (cS_wayOfBytes l D h qb qt cI z.1 z.2.1 z.2.2.1 z.2.2.2.1 z.2.2.2.2 hz.1 hz.2 ) k58 k1 k57 ks1 (by decide +kernel) ⟨rfl, rfl⟩ k55 (by decide) (xW_V ⟨hP, hK⟩) rfl rfl hl.1 (Nat.le_of_ble_eq_true rfl) ⟨Nat.le_refl _, Nat.le_refl _⟩ dS_read_1 ?_
  refine lv_istore_n (lv' := [(1, .int (sWay z.2.2.2.1 z.1)), (0, .ref h)]) hx hb dS_read_4 rfl hl (by decide) rfl (fun ls hl => ?_)
  refine lv_aload_n hx hb dS_read_5 rfl (lv_at hl 1 rfl) ?_
  refine lv_iload_n hx hb dS_read_6 rfl (lv_at hl 0 rfl) ?_
  refine ro_V (r := (sPlace z.2.2.2.1 z.1 ((sWay z.2.2.2.1 z.1)))) (As := [.int (sWay z.2.2.2.1 z.1)]) (rest := []) (n := 1) (C := "SignReader") S (cS_placeRefused l D h qb qt cI z.1 z.2.1 z.2.2.1 z.2.2.2.1 z.2.2.2.2 hz.1 hz.2 tc ((sWay z.2.2.2.1 z.1))) k94 k1 k93 ks6 (by decide +kernel) ⟨rfl, rfl⟩ k91 (by decide) (xWC_V ⟨⟨hP, hK⟩, hC⟩) rfl rfl hl.1 (Nat.le_of_ble_eq_true rfl) ⟨Nat.le_refl _, Nat.le_refl _⟩ dS_read_7 ?_
  refine lv_istore_n (lv' := [(2, .int (sPlace z.2.2.2.1 z.1 ((sWay z.2.2.2.1 z.1)))), (1, .int (sWay z.2.2.2.1 z.1)), (0, .ref h)]) hx hb dS_read_10 rfl hl (by decide) rfl (fun ls hl => ?_)
  refine lv_iload_n hx hb dS_read_11 rfl (lv_at hl 0 rfl) ?_
  refine lv_iconst (v := (-1)) hx hb dS_read_12 (by decide) ?_
  refine lv_icmp_ne (tgt := 26) hx hb dS_read_13 (by decide) (fun c1 => ?_) (fun c1 => ?_)
  · skip
    refine lv_aload_n hx hb dS_read_26 rfl (lv_at hl 2 rfl) ?_
    refine lv_iconst (v := 0) hx hb dS_read_27 (by decide) ?_
    refine va_put (D := D) (ci := 0) (v := .int 0) (ty := .int) (C := "SignReader") (T := T_S) (N := 5) hx hb hts i_S t_S t_S_ok n_S hown hK hP (srD hd) hS 0 rfl rfl 2 (by decide) (hts _ k24) (fun _ h9 => h9) rfl (by decide +kernel) rfl rfl (Nat.le_of_ble_eq_true rfl) dS_read_28 (fun H locs hP _ hS => ?_)
    have hP : va_P D CL (srW h qb qt cI (0) (nI z.2.1) (z.2.2.1) (z.2.2.2.1) (z.2.2.2.2)) H := hP
    refine lv_iload_n hx hb dS_read_31 rfl (lv_at hl 0 rfl) ?_
    have hP : va_P D CL (srZ h qb qt cI (zRead z)) _ := va_Pe (by rw [zRead, if_neg c1]; exact srZ_0 _ : srW h qb qt cI (0) (nI z.2.1) (z.2.2.1) (z.2.2.2.1) (z.2.2.2.2) = srZ h qb qt cI (zRead z)) hP
    exact mu_retI S hr hk (rfl) hP hS dS_read_32
  · skip
    refine lv_aload_n hx hb dS_read_16 rfl (lv_at hl 2 rfl) ?_
    refine lv_iload_n hx hb dS_read_17 rfl (lv_at hl 1 rfl) ?_
    refine mu_V (As := [.int (sWay z.2.2.2.1 z.1)]) (rest := []) (n := 1) (C := "SignReader") S (cS_takeText l D h qb qt cI (z)  ((sWay z.2.2.2.1 z.1)) hd hz ) k115 k1 k114 ks7 (by decide +kernel) ⟨rfl, rfl⟩ k112 (by decide) (xW_V ⟨hP, hK⟩) rfl rfl hl.1 (Nat.le_of_ble_eq_true rfl) ⟨Nat.le_refl _, Nat.le_refl _⟩ dS_read_18 hS (fun _ h9 => h9) (fun H locs hP hS => ?_)
    have hP : va_P D CL (srZ h qb qt cI (zText z ((sWay z.2.2.2.1 z.1)))) H := hP
    refine lv_aload_n hx hb dS_read_21 rfl (lv_at hl 2 rfl) ?_
    refine lv_iload_n hx hb dS_read_22 rfl (lv_at hl 1 rfl) ?_
    refine va_put (D := D) (ci := 0) (v := .int (sWay z.2.2.2.1 z.1)) (ty := .int) (C := "SignReader") (T := T_S) (N := 5) hx hb hts i_S t_S t_S_ok n_S hown hK hP (srD hd) hS 0 rfl rfl 4 (by decide) (hts _ k26) (fun _ h9 => h9) rfl (by decide +kernel) rfl rfl (Nat.le_of_ble_eq_true rfl) dS_read_23 (fun H locs hP _ hS => ?_)
    have hP : va_P D CL (srW h qb qt cI (nI (zText z ((sWay z.2.2.2.1 z.1))).1) (nI (zText z ((sWay z.2.2.2.1 z.1))).2.1) ((sWay z.2.2.2.1 z.1)) ((zText z ((sWay z.2.2.2.1 z.1))).2.2.2.1) ((zText z ((sWay z.2.2.2.1 z.1))).2.2.2.2)) H := hP
    refine lv_aload_n hx hb dS_read_26 rfl (lv_at hl 2 rfl) ?_
    refine lv_iconst (v := 0) hx hb dS_read_27 (by decide) ?_
    refine va_put (D := D) (ci := 0) (v := .int 0) (ty := .int) (C := "SignReader") (T := T_S) (N := 5) hx hb hts i_S t_S t_S_ok n_S hown hK hP (srD hd) hS 0 rfl rfl 2 (by decide) (hts _ k24) (fun _ h9 => h9) rfl (by decide +kernel) rfl rfl (Nat.le_of_ble_eq_true rfl) dS_read_28 (fun H locs hP _ hS => ?_)
    have hP : va_P D CL (srW h qb qt cI (0) (nI (zText z ((sWay z.2.2.2.1 z.1))).2.1) ((sWay z.2.2.2.1 z.1)) ((zText z ((sWay z.2.2.2.1 z.1))).2.2.2.1) ((zText z ((sWay z.2.2.2.1 z.1))).2.2.2.2)) H := hP
    refine lv_iload_n hx hb dS_read_31 rfl (lv_at hl 0 rfl) ?_
    have hP : va_P D CL (srZ h qb qt cI (zRead z)) _ := va_Pe (by rw [zRead, if_pos c1]; exact srZ_tk _ _ : srW h qb qt cI (0) (nI (zText z ((sWay z.2.2.2.1 z.1))).2.1) ((sWay z.2.2.2.1 z.1)) ((zText z ((sWay z.2.2.2.1 z.1))).2.2.2.1) ((zText z ((sWay z.2.2.2.1 z.1))).2.2.2.2) = srZ h qb qt cI (zRead z)) hP
    exact mu_retI S hr hk (rfl) hP hS dS_read_32
def zW (z : SS) (w : Int32) : Nat → SS
  | 0 => if w = 0 then (0, z.2) else wC (0, z.2) 65279 w
  | k + 1 => wC (zW z w k) ((zW z w k).2.2.2.2 k) w
theorem wB_t (z : SS) (b : Int32) : (wB z b).2.1 = z.2.1 ∧ (wB z b).2.2.1 = z.2.2.1 ∧ (wB z b).2.2.2.2 = z.2.2.2.2 := by unfold wB; split <;> exact ⟨rfl, rfl, rfl⟩
def sameT (y z : SS) : Prop := y.2.1 = z.2.1 ∧ y.2.2.1 = z.2.2.1 ∧ y.2.2.2.2 = z.2.2.2.2
theorem sameT.tr {x y z : SS} (h : sameT x y) (k : sameT y z) : sameT x z := ⟨h.1.trans k.1, h.2.1.trans k.2.1, h.2.2.trans k.2.2⟩
theorem w2_t (z : SS) (u w : Int32) : sameT (w2 z u w) z := by unfold w2; split <;> exact sameT.tr (wB_t _ _) (wB_t _ _)
theorem w16_t (z : SS) (c w : Int32) : sameT (w16 z c w) z := by
  unfold w16
  split
  · exact sameT.tr (w2_t _ _ _) (w2_t _ _ _)
  · exact w2_t _ _ _
theorem wT_t {c : Int32} : ∀ (k : Nat) (z : SS), sameT (wT c k z) z
  | 0, _ => ⟨rfl, rfl, rfl⟩
  | k + 1, z => sameT.tr (wT_t k _) (wB_t _ _)
theorem w8_t (z : SS) (c : Int32) : sameT (w8 z c) z := by
  unfold w8
  split
  · exact wB_t _ _
  · exact sameT.tr (wT_t _ _) (wB_t _ _)
theorem wC_t (z : SS) (c w : Int32) : sameT (wC z c w) z := by
  unfold wC
  split
  · exact w16_t _ _ _
  · exact w8_t _ _
theorem zW_t (z : SS) (w : Int32) : ∀ k : Nat, sameT (zW z w k) z
  | 0 => by
    rw [zW]
    split
    · exact ⟨rfl, rfl, rfl⟩
    · exact sameT.tr (wC_t _ _ _) ⟨rfl, rfl, rfl⟩
  | k + 1 => sameT.tr (wC_t _ _ _) (zW_t z w k)
theorem zW_ok {z : SS} {w : Int32} (hz : okZ z) : ∀ {k : Nat}, okZ (zW z w k)
  | 0 => by
    rw [zW]
    split
    · exact z00_ok hz
    · exact wC_ok (z00_ok hz)
  | k + 1 => wC_ok (zW_ok hz (k := k))
def wOk (z : SS) (w : Int32) : Bool := decide (0 ≤ w) && decide (w ≤ 3) && decide (sWr z.2.2.2.2 w z.2.1 ≤ 4096)
def zWrite (z : SS) (w : Int32) : SS := if wOk z w = true then zW z w z.2.1 else z
theorem zWrite_ok {z : SS} {w : Int32} (hz : okZ z) : okZ (zWrite z w) := by
  unfold zWrite
  split
  · exact zW_ok hz
  · exact hz
set_option maxHeartbeats 4000000 in
set_option maxRecDepth 100000 in
theorem cS_write (l : Launch) (D : va_G) (h qb qt : Nat) (cI : ClassId) (z : SS) (w : Int32) (hd : ap3 h qb qt) (hz : okZ z) : Met l yS_write (Cond.code yS_write prog_1_method_12_code 3 (some .int) :: TB) { frames := 4, cells := 0, slots := 0, locals := 88 } (gx (xZ9 D h qb qt cI z) [.ref h, .int w]) (mQ (some (.int (if wOk z w = true then nI (zW z w z.2.1).1 else -1))) D (srZ h qb qt cI (zWrite z w)) (A3 h qb qt)) 0 0 (A3 h qb qt) := by
  refine mt_of (by decide) ?_
  intro p e s m args below meth cd S hr hk hin hv
  obtain ⟨rfl, hX⟩ := hv
  have hP : va_P D CL (srZ h qb qt cI z) s.heap := hX.1
  have hK := hX.2
  have hz1 := hz.1
  have hz2 := hz.2
  have hS : va_S (A3 h qb qt) s.heap s.heap [] := va_S.rf
  have hx := S.1
  have hb := S.2.1
  have hown := S.2.2.2.1
  have hts := S.2.2.2.2
  have hl := lv_entry ([.ref h, .int w]) (n := 3) (Nat.le_of_ble_eq_true rfl)
  rw [lg_entry_eq]
  generalize (lg_sl ([.ref h, .int w]) ++ List.replicate (3 - (lg_sl ([.ref h, .int w])).length) Slot.unset).toArray = ls at hl ⊢
  have hl : lv_has ls 3 [(0, .ref h), (1, .int w)] := hl
  refine lv_iload_n hx hb dS_write_0 rfl (lv_at hl 1 rfl) ?_
  refine lv_if_lt (tgt := 20) hx hb dS_write_1 (by decide) (fun c1 => ?_) (fun c1 => ?_)
  · skip
    replace c1 := Int32.not_le.mpr c1
    refine lv_iconst (v := (-1)) hx hb dS_write_20 (by decide) ?_
    have hP : va_P D CL (srZ h qb qt cI (zWrite z w)) _ := va_Pe (congrArg (srZ h qb qt cI) (by rw [zWrite, if_neg (by simp [wOk, c1])] : (z : SS) = zWrite z w)) hP
    exact mu_retI S hr hk (by rw [if_neg (by simp [wOk, c1])]) hP hS dS_write_21
  · skip
    replace c1 := Int32.not_lt.mp c1
    refine lv_iload_n hx hb dS_write_4 rfl (lv_at hl 1 rfl) ?_
    refine lv_iconst (v := 3) hx hb dS_write_5 (by decide) ?_
    refine lv_icmp_gt (tgt := 20) hx hb dS_write_6 (by decide) (fun c2 => ?_) (fun c2 => ?_)
    · skip
      replace c2 := Int32.not_le.mpr c2
      refine lv_iconst (v := (-1)) hx hb dS_write_20 (by decide) ?_
      have hP : va_P D CL (srZ h qb qt cI (zWrite z w)) _ := va_Pe (congrArg (srZ h qb qt cI) (by rw [zWrite, if_neg (by simp [wOk, c1, c2])] : (z : SS) = zWrite z w)) hP
      exact mu_retI S hr hk (by rw [if_neg (by simp [wOk, c1, c2])]) hP hS dS_write_21
    · skip
      replace c2 := Int32.not_lt.mp c2
      refine lv_aload_n hx hb dS_write_9 rfl (lv_at hl 0 rfl) ?_
      refine lv_iload_n hx hb dS_write_10 rfl (lv_at hl 1 rfl) ?_
      refine ro_V (r := (sWr z.2.2.2.2 (w) z.2.1)) (As := [.int w]) (rest := []) (n := 1) (C := "SignReader") S (cS_sizeWritten l D h qb qt cI z.1 z.2.1 z.2.2.1 z.2.2.2.1 z.2.2.2.2 hz.1 hz.2 (w)) k258 k1 k257 ks10 (by decide +kernel) ⟨rfl, rfl⟩ k255 (by decide) (xW_V ⟨hP, hK⟩) rfl rfl hl.1 (Nat.le_of_ble_eq_true rfl) ⟨Nat.le_refl _, Nat.le_refl _⟩ dS_write_11 ?_
      refine lv_sipush (v := 4096) hx hb dS_write_14 (by decide) ?_
      refine lv_icmp_le (tgt := 22) hx hb dS_write_17 (by decide) (fun c3 => ?_) (fun c3 => ?_)
      · skip
        have hw9 : wOk z w = true := by simp [wOk, c1, c2, c3]
        refine lv_aload_n hx hb dS_write_22 rfl (lv_at hl 0 rfl) ?_
        refine lv_iconst (v := 0) hx hb dS_write_23 (by decide) ?_
        refine va_put (D := D) (ci := 0) (v := .int 0) (ty := .int) (C := "SignReader") (T := T_S) (N := 5) hx hb hts i_S t_S t_S_ok n_S hown hK hP (srD hd) hS 0 rfl rfl 2 (by decide) (hts _ k24) (fun _ h9 => h9) rfl (by decide +kernel) rfl rfl (Nat.le_of_ble_eq_true rfl) dS_write_24 (fun H locs hP _ hS => ?_)
        have hP : va_P D CL (srW h qb qt cI (0) (nI z.2.1) (z.2.2.1) (z.2.2.2.1) (z.2.2.2.2)) H := hP
        have hP : va_P D CL (srZ h qb qt cI ((0, z.2))) _ := va_Pe (by show _ = srW h qb qt cI (nI 0) _ _ _ _; rw [nI_0] : srW h qb qt cI (0) (nI z.2.1) (z.2.2.1) (z.2.2.2.1) (z.2.2.2.2) = srZ h qb qt cI ((0, z.2))) hP
        have J38 : ∀ (y9 : SS) (H : Heap) (locs : List Loc), y9 = zW z w 0 → va_P D CL (srZ h qb qt cI y9) H → va_S (A3 h qb qt) s.heap H locs → ∀ ls : Array Slot, lv_has ls 3 [(0, .ref h), (1, .int w)] → W p l e { frames := 4, cells := 0, slots := 0, locals := 88 } s m [.ref h, .int w].toArray below meth cd H locs 0 0 (MQ below (mQ (some (.int (if wOk z w = true then nI (zW z w z.2.1).1 else -1))) D (srZ h qb qt cI (zWrite z w)) (A3 h qb qt)) [.ref h, .int w].toArray s 0 0 (A3 h qb qt)) (F0 m 38 ls []) := by
          intro y9 H locs hy9 hP hS ls hl
          subst hy9
          refine lv_iconst (v := 0) hx hb dS_write_38 (by decide) ?_
          refine lv_istore_n (lv' := [(2, .int 0), (0, .ref h), (1, .int w)]) hx hb dS_write_39 rfl hl (by decide) rfl (fun ls hl => ?_)
          have J40 : ∀ (fu : Nat) (x : Int32) (k : Nat) (H : Heap) (locs : List Loc), x = nI k → k ≤ z.2.1 → z.2.1 < k + fu → va_P D CL (srZ h qb qt cI (zW z w k)) H → va_S (A3 h qb qt) s.heap H locs → ∀ ls : Array Slot, lv_has ls 3 [(0, .ref h), (1, .int w), (2, .int x)] → W p l e { frames := 4, cells := 0, slots := 0, locals := 88 } s m [.ref h, .int w].toArray below meth cd H locs 0 0 (MQ below (mQ (some (.int (if wOk z w = true then nI (zW z w z.2.1).1 else -1))) D (srZ h qb qt cI (zWrite z w)) (A3 h qb qt)) [.ref h, .int w].toArray s 0 0 (A3 h qb qt)) (F0 m 40 ls []) := by
            intro fu
            induction fu with
            | zero =>
              intro x k H locs hx9 hk9 hf9 hP hS ls hl
              exact absurd hf9 (by omega)
            | succ fu ih =>
              intro x k H locs hx9 hk9 hf9 hP hS ls hl
              subst hx9
              have ht9 := (zW_t z w k).1
              refine lv_iload_n hx hb dS_write_40 rfl (lv_at hl 2 rfl) ?_
              refine lv_aload_n hx hb dS_write_41 rfl (lv_at hl 0 rfl) ?_
              refine va_get (D := D) (ci := 0) (v := .int (nI (zW z w k).2.1)) (C := "SignReader") (T := T_S) (N := 5) hx hb hts i_S hown hK hP 0 rfl rfl 3 (by decide) (hts _ k25) (fun _ h9 => h9) rfl dS_write_42 ?_
              refine lv_icmp_ge (tgt := 65) hx hb dS_write_45 (by decide) (fun c4 => ?_) (fun c4 => ?_)
              · skip
                rw [nI_leI (by omega) (by omega), ht9] at c4
                have hk8 : k = z.2.1 := by omega
                refine lv_aload_n hx hb dS_write_65 rfl (lv_at hl 0 rfl) ?_
                refine va_get (D := D) (ci := 0) (v := .int (nI (zW z w k).1)) (C := "SignReader") (T := T_S) (N := 5) hx hb hts i_S hown hK hP 0 rfl rfl 2 (by decide) (hts _ k24) (fun _ h9 => h9) rfl dS_write_66 ?_
                have hP : va_P D CL (srZ h qb qt cI (zWrite z w)) _ := va_Pe (congrArg (srZ h qb qt cI) (by rw [zWrite, if_pos hw9, hk8] : (zW z w k : SS) = zWrite z w)) hP
                exact mu_retI S hr hk (by rw [if_pos hw9, hk8]) hP hS dS_write_69
              · skip
                rw [nI_leI (by omega) (by omega), ht9] at c4
                refine lv_aload_n hx hb dS_write_48 rfl (lv_at hl 0 rfl) ?_
                refine lv_aload_n hx hb dS_write_49 rfl (lv_at hl 0 rfl) ?_
                refine va_get (D := D) (ci := 0) (v := .ref qt) (C := "SignReader") (T := T_S) (N := 5) hx hb hts i_S hown hK hP 0 rfl rfl 1 (by decide) (hts _ k23) (fun _ h9 => h9) rfl dS_write_50 ?_
                refine lv_iload_n hx hb dS_write_53 rfl (lv_at hl 2 rfl) ?_
                refine va_iald hx hb hK hP 2 0 rfl rfl (by exact vp_in_nI (by omega) (by omega)) dS_write_54 ?_
                rw [nI_clamp (n := k) (by omega)]
                refine lv_iload_n hx hb dS_write_55 rfl (lv_at hl 1 rfl) ?_
                refine mu_V (As := [.int (((zW z w k).2.2.2.2) k), .int w]) (rest := []) (n := 2) (C := "SignReader") S (cS_putCharacter l D h qb qt cI (zW z w k)  ((((zW z w k).2.2.2.2) k)) (w) hd (zW_ok hz) ) k262 k1 k261 ks11 (by decide +kernel) ⟨rfl, rfl⟩ k259 (by decide) (xW_V ⟨hP, hK⟩) rfl rfl hl.1 (Nat.le_of_ble_eq_true rfl) ⟨Nat.le_refl _, Nat.le_refl _⟩ dS_write_56 hS (fun _ h9 => h9) (fun H locs hP hS => ?_)
                have hP : va_P D CL (srZ h qb qt cI (wC (zW z w k) ((((zW z w k).2.2.2.2) k)) w)) H := hP
                refine lv_iinc (v := ((nI k) + 1)) (lv' := [(2, .int ((nI k) + 1)), (0, .ref h), (1, .int w)]) hx hb dS_write_59 hl (k := 2) rfl rfl (by decide) rfl (fun ls hl => ?_)
                refine lv_goto (tgt := 40) hx hb dS_write_62 (by decide) ?_
                exact ih (((nI k) + 1)) (k + 1) (_) (_) (nI_1 k) (by omega) (by omega) (hP) (hS) ls (lv_sub hl [1, 2, 0] rfl) 
          exact J40 (z.2.1 + 1) (0) (0) (_) (_) (rfl) (by omega) (by omega) (hP) (hS) ls (lv_sub hl [1, 2, 0] rfl) 
        refine lv_iload_n hx hb dS_write_27 rfl (lv_at hl 1 rfl) ?_
        refine lv_if_eq (tgt := 38) hx hb dS_write_28 (by decide) (fun c5 => ?_) (fun c5 => ?_)
        · skip
          exact J38  ((0, z.2)) (_) (_) (by simp only [zW, c5, ↓reduceIte]) (hP) (hS) ls (lv_sub hl [0, 1] rfl) 
        · skip
          refine lv_aload_n hx hb dS_write_31 rfl (lv_at hl 0 rfl) ?_
          refine lv_ldc (v := 65279) hx hb hown (hts _ k90) dS_write_32 ?_
          refine lv_iload_n hx hb dS_write_34 rfl (lv_at hl 1 rfl) ?_
          refine mu_V (As := [.int 65279, .int w]) (rest := []) (n := 2) (C := "SignReader") S (cS_putCharacter l D h qb qt cI ((0, z.2))  (65279) (w) hd (z00_ok hz) ) k262 k1 k261 ks11 (by decide +kernel) ⟨rfl, rfl⟩ k259 (by decide) (xW_V ⟨hP, hK⟩) rfl rfl hl.1 (Nat.le_of_ble_eq_true rfl) ⟨Nat.le_refl _, Nat.le_refl _⟩ dS_write_35 hS (fun _ h9 => h9) (fun H locs hP hS => ?_)
          have hP : va_P D CL (srZ h qb qt cI (wC ((0, z.2)) 65279 w)) H := hP
          exact J38  (wC ((0, z.2)) 65279 w) (_) (_) (by simp only [zW, c5, ↓reduceIte]) (hP) (hS) ls (lv_sub hl [0, 1] rfl) 
      · skip
        refine lv_iconst (v := (-1)) hx hb dS_write_20 (by decide) ?_
        have hP : va_P D CL (srZ h qb qt cI (zWrite z w)) _ := va_Pe (congrArg (srZ h qb qt cI) (by rw [zWrite, if_neg (by simp [wOk, c1, c2, c3])] : (z : SS) = zWrite z w)) hP
        exact mu_retI S hr hk (by rw [if_neg (by simp [wOk, c1, c2, c3])]) hP hS dS_write_21
def cOk (z : SS) (i b : Int32) : Bool := sHas z.1 i && decide (0 ≤ b) && decide (b ≤ 255)
def zChange (z : SS) (i b : Int32) : SS := if cOk z i b = true then (z.1, z.2.1, z.2.2.1, upd z.2.2.2.1 i.toNatClampNeg b, z.2.2.2.2) else z
theorem zChange_ok {z : SS} {i b : Int32} (hz : okZ z) : okZ (zChange z i b) := by unfold zChange; split <;> exact hz
set_option maxHeartbeats 4000000 in
set_option maxRecDepth 100000 in
theorem cS_change (l : Launch) (D : va_G) (h qb qt : Nat) (cI : ClassId) (z : SS) (i b : Int32) (hd : ap3 h qb qt) (hz : okZ z) : Met l yS_change (Cond.code yS_change prog_1_method_4_code 4 (some .int) :: TB) { frames := 1, cells := 0, slots := 0, locals := 21 } (gx (xZ9 D h qb qt cI z) [.ref h, .int i, .int b]) (mQ (some (.int (if cOk z i b = true then z.2.2.2.1 i.toNatClampNeg else -1))) D (srZ h qb qt cI (zChange z i b)) (A3 h qb qt)) 0 0 (A3 h qb qt) := by
  refine mt_of (by decide) ?_
  intro p e s m args below meth cd S hr hk hin hv
  obtain ⟨rfl, hX⟩ := hv
  have hP : va_P D CL (srZ h qb qt cI z) s.heap := hX.1
  have hK := hX.2
  have hS : va_S (A3 h qb qt) s.heap s.heap [] := va_S.rf
  have hx := S.1
  have hb := S.2.1
  have hown := S.2.2.2.1
  have hts := S.2.2.2.2
  have hl := lv_entry ([.ref h, .int i, .int b]) (n := 4) (Nat.le_of_ble_eq_true rfl)
  rw [lg_entry_eq]
  generalize (lg_sl ([.ref h, .int i, .int b]) ++ List.replicate (4 - (lg_sl ([.ref h, .int i, .int b])).length) Slot.unset).toArray = ls at hl ⊢
  have hl : lv_has ls 4 [(0, .ref h), (1, .int i), (2, .int b)] := hl
  refine lv_aload_n hx hb dS_change_0 rfl (lv_at hl 0 rfl) ?_
  refine lv_iload_n hx hb dS_change_1 rfl (lv_at hl 1 rfl) ?_
  refine ro_V (r := (bI (sHas z.1 (i)))) (As := [.int i]) (rest := []) (n := 1) (C := "SignReader") S (cS_hasByte l D h qb qt cI z.1 z.2.1 z.2.2.1 z.2.2.2.1 z.2.2.2.2 hz.1 hz.2 (i)) k46 k1 k45 ks0 (by decide +kernel) ⟨rfl, rfl⟩ k43 (by decide) (xW_V ⟨hP, hK⟩) rfl rfl hl.1 (Nat.le_of_ble_eq_true rfl) ⟨Nat.le_refl _, Nat.le_refl _⟩ dS_change_2 ?_
  refine lv_if_eq (tgt := 19) hx hb dS_change_5 (by decide) (fun c1 => ?_) (fun c1 => ?_)
  · skip
    replace c1 := bI_f c1
    refine lv_iconst (v := (-1)) hx hb dS_change_19 (by decide) ?_
    have hP : va_P D CL (srZ h qb qt cI (zChange z i b)) _ := va_Pe (congrArg (srZ h qb qt cI) (by simp [zChange, cOk, c1] : (z : SS) = zChange z i b)) hP
    exact mu_retI S hr hk (by simp [cOk, c1]) hP hS dS_change_20
  · skip
    replace c1 := bI_t c1
    refine lv_iload_n hx hb dS_change_8 rfl (lv_at hl 2 rfl) ?_
    refine lv_if_lt (tgt := 19) hx hb dS_change_9 (by decide) (fun c2 => ?_) (fun c2 => ?_)
    · skip
      replace c2 := Int32.not_le.mpr c2
      refine lv_iconst (v := (-1)) hx hb dS_change_19 (by decide) ?_
      have hP : va_P D CL (srZ h qb qt cI (zChange z i b)) _ := va_Pe (congrArg (srZ h qb qt cI) (by simp [zChange, cOk, c1, c2] : (z : SS) = zChange z i b)) hP
      exact mu_retI S hr hk (by simp [cOk, c1, c2]) hP hS dS_change_20
    · skip
      replace c2 := Int32.not_lt.mp c2
      refine lv_iload_n hx hb dS_change_12 rfl (lv_at hl 2 rfl) ?_
      refine lv_sipush (v := 255) hx hb dS_change_13 (by decide) ?_
      refine lv_icmp_le (tgt := 21) hx hb dS_change_16 (by decide) (fun c3 => ?_) (fun c3 => ?_)
      · skip
        refine lv_aload_n hx hb dS_change_21 rfl (lv_at hl 0 rfl) ?_
        refine va_get (D := D) (ci := 0) (v := .ref qb) (C := "SignReader") (T := T_S) (N := 5) hx hb hts i_S hown hK hP 0 rfl rfl 0 (by decide) (hts _ k22) (fun _ h9 => h9) rfl dS_change_22 ?_
        refine lv_iload_n hx hb dS_change_25 rfl (lv_at hl 1 rfl) ?_
        refine va_iald hx hb hK hP 1 0 rfl rfl (sHas_in hz.1 c1) dS_change_26 ?_
        refine lv_istore_n (lv' := [(3, .int ((z.2.2.2.1) (i).toNatClampNeg)), (0, .ref h), (1, .int i), (2, .int b)]) hx hb dS_change_27 rfl hl (by decide) rfl (fun ls hl => ?_)
        refine lv_aload_n hx hb dS_change_28 rfl (lv_at hl 1 rfl) ?_
        refine va_get (D := D) (ci := 0) (v := .ref qb) (C := "SignReader") (T := T_S) (N := 5) hx hb hts i_S hown hK hP 0 rfl rfl 0 (by decide) (hts _ k22) (fun _ h9 => h9) rfl dS_change_29 ?_
        refine lv_iload_n hx hb dS_change_32 rfl (lv_at hl 2 rfl) ?_
        refine lv_iload_n hx hb dS_change_33 rfl (lv_at hl 3 rfl) ?_
        refine va_iast hx hb hK hP (srD hd) hS 1 0 rfl rfl (sHas_in hz.1 c1) dS_change_34 (fun H locs hP _ hS => ?_)
        have hP : va_P D CL (srW h qb qt cI (nI z.1) (nI z.2.1) (z.2.2.1) (upd (z.2.2.2.1) (i).toNatClampNeg (b)) (z.2.2.2.2)) H := hP
        refine lv_iload_n hx hb dS_change_35 rfl (lv_at hl 0 rfl) ?_
        have hP : va_P D CL (srZ h qb qt cI (zChange z i b)) _ := va_Pe (by simp [zChange, cOk, c1, c2, c3] : srW h qb qt cI (nI z.1) (nI z.2.1) (z.2.2.1) (upd (z.2.2.2.1) (i).toNatClampNeg (b)) (z.2.2.2.2) = srZ h qb qt cI (zChange z i b)) hP
        exact mu_retI S hr hk (by simp [cOk, c1, c2, c3]) hP hS dS_change_36
      · skip
        refine lv_iconst (v := (-1)) hx hb dS_change_19 (by decide) ?_
        have hP : va_P D CL (srZ h qb qt cI (zChange z i b)) _ := va_Pe (congrArg (srZ h qb qt cI) (by simp [zChange, cOk, c1, c2, c3] : (z : SS) = zChange z i b)) hP
        exact mu_retI S hr hk (by simp [cOk, c1, c2, c3]) hP hS dS_change_20
def aOk (z : SS) (c : Int32) : Bool := sChar c && !decide (c = 13) && decide (z.2.1 < 4096)
def zAdd (z : SS) (c : Int32) : SS := if aOk z c = true then wG z c else z
theorem zAdd_ok {z : SS} {c : Int32} (hz : okZ z) : okZ (zAdd z c) := by
  unfold zAdd
  split
  · exact wG_ok hz
  · exact hz
set_option maxHeartbeats 4000000 in
set_option maxRecDepth 100000 in
theorem cS_add (l : Launch) (D : va_G) (h qb qt : Nat) (cI : ClassId) (z : SS) (tc : Nat) (c : Int32) (hd : ap3 h qb qt) (hz : okZ z) : Met l yS_add (Cond.code yS_add prog_1_method_13_code 2 (some .int) :: TB) { frames := 2, cells := 0, slots := 0, locals := 42 } (gx (xWC D h qb qt cI z.1 z.2.1 z.2.2.1 z.2.2.2.1 z.2.2.2.2 tc) [.ref h, .int c]) (mQ (some (.int (if aOk z c = true then nI (wG z c).2.1 else -1))) D (srZ h qb qt cI (zAdd z c)) (A3 h qb qt)) 0 0 (A3 h qb qt) := by
  refine mt_of (by decide) ?_
  intro p e s m args below meth cd S hr hk hin hv
  obtain ⟨rfl, hX⟩ := hv
  have hP : va_P D CL (srZ h qb qt cI z) s.heap := hX.1.1
  have hK := hX.1.2
  have hC := hX.2
  have hS : va_S (A3 h qb qt) s.heap s.heap [] := va_S.rf
  have hx := S.1
  have hb := S.2.1
  have hown := S.2.2.2.1
  have hts := S.2.2.2.2
  have hl := lv_entry ([.ref h, .int c]) (n := 2) (Nat.le_of_ble_eq_true rfl)
  rw [lg_entry_eq]
  generalize (lg_sl ([.ref h, .int c]) ++ List.replicate (2 - (lg_sl ([.ref h, .int c])).length) Slot.unset).toArray = ls at hl ⊢
  have hl : lv_has ls 2 [(0, .ref h), (1, .int c)] := hl
  refine lv_iload_n hx hb dS_add_0 rfl (lv_at hl 1 rfl) ?_
  refine ro_S (As := [.int c]) (rest := []) (n := 1) S (cS_isCharacter l tc (c)) k106 k1 k105 (by decide +kernel) ⟨rfl, rfl⟩ k104 (by decide) (gx_S xC_ok hC) rfl rfl hl.1 (Nat.le_of_ble_eq_true rfl) ⟨Nat.le_refl _, Nat.le_refl _⟩ dS_add_1 ?_
  refine lv_if_eq (tgt := 23) hx hb dS_add_4 (by decide) (fun c1 => ?_) (fun c1 => ?_)
  · skip
    replace c1 := bI_f c1
    refine lv_iconst (v := (-1)) hx hb dS_add_23 (by decide) ?_
    have hP : va_P D CL (srZ h qb qt cI (zAdd z c)) _ := va_Pe (congrArg (srZ h qb qt cI) (by simp [zAdd, aOk, c1] : (z : SS) = zAdd z c)) hP
    exact mu_retI S hr hk (by simp [aOk, c1]) hP hS dS_add_24
  · skip
    replace c1 := bI_t c1
    refine lv_iload_n hx hb dS_add_7 rfl (lv_at hl 1 rfl) ?_
    refine lv_bipush (v := 13) hx hb dS_add_8 (by decide) ?_
    refine lv_icmp_eq (tgt := 23) hx hb dS_add_10 (by decide) (fun c2 => ?_) (fun c2 => ?_)
    · skip
      refine lv_iconst (v := (-1)) hx hb dS_add_23 (by decide) ?_
      have hP : va_P D CL (srZ h qb qt cI (zAdd z c)) _ := va_Pe (congrArg (srZ h qb qt cI) (by simp [zAdd, aOk, c1, c2] : (z : SS) = zAdd z c)) hP
      exact mu_retI S hr hk (by simp [aOk, c1, c2]) hP hS dS_add_24
    · skip
      refine lv_aload_n hx hb dS_add_13 rfl (lv_at hl 0 rfl) ?_
      refine va_get (D := D) (ci := 0) (v := .int (nI z.2.1)) (C := "SignReader") (T := T_S) (N := 5) hx hb hts i_S hown hK hP 0 rfl rfl 3 (by decide) (hts _ k25) (fun _ h9 => h9) rfl dS_add_14 ?_
      refine lv_sipush (v := 4096) hx hb dS_add_17 (by decide) ?_
      refine lv_icmp_lt (tgt := 25) hx hb dS_add_20 (by decide) (fun c3 => ?_) (fun c3 => ?_)
      · skip
        replace c3 := Int32.not_le.mpr c3
        rw [show (4096 : Int32) = nI 4096 from rfl, nI_leI (by omega) (by have := hz.2; omega)] at c3
        have hl9 : z.2.1 < 4096 := by omega
        refine lv_aload_n hx hb dS_add_25 rfl (lv_at hl 0 rfl) ?_
        refine lv_iload_n hx hb dS_add_26 rfl (lv_at hl 1 rfl) ?_
        refine mu_V (As := [.int c]) (rest := []) (n := 1) (C := "SignReader") S (cS_putSign l D h qb qt cI (z)  (c) hd hz ) k119 k1 k118 ks8 (by decide +kernel) ⟨rfl, rfl⟩ k116 (by decide) (xW_V ⟨hP, hK⟩) rfl rfl hl.1 (Nat.le_of_ble_eq_true rfl) ⟨Nat.le_refl _, Nat.le_refl _⟩ dS_add_27 hS (fun _ h9 => h9) (fun H locs hP hS => ?_)
        have hP : va_P D CL (srZ h qb qt cI (wG z c)) H := hP
        refine lv_aload_n hx hb dS_add_30 rfl (lv_at hl 0 rfl) ?_
        refine va_get (D := D) (ci := 0) (v := .int (nI (wG z c).2.1)) (C := "SignReader") (T := T_S) (N := 5) hx hb hts i_S hown hK hP 0 rfl rfl 3 (by decide) (hts _ k25) (fun _ h9 => h9) rfl dS_add_31 ?_
        have hP : va_P D CL (srZ h qb qt cI (zAdd z c)) _ := va_Pe (congrArg (srZ h qb qt cI) (by simp [zAdd, aOk, c1, c2, hl9] : (wG z c : SS) = zAdd z c)) hP
        exact mu_retI S hr hk (by simp [aOk, c1, c2, hl9]) hP hS dS_add_34
      · skip
        replace c3 := Int32.not_lt.mp c3
        rw [show (4096 : Int32) = nI 4096 from rfl, nI_leI (by omega) (by have := hz.2; omega)] at c3
        have hl9 : ¬ z.2.1 < 4096 := by omega
        refine lv_iconst (v := (-1)) hx hb dS_add_23 (by decide) ?_
        have hP : va_P D CL (srZ h qb qt cI (zAdd z c)) _ := va_Pe (congrArg (srZ h qb qt cI) (by simp [zAdd, aOk, c1, c2, hl9] : (z : SS) = zAdd z c)) hP
        exact mu_retI S hr hk (by simp [aOk, c1, c2, hl9]) hP hS dS_add_24
