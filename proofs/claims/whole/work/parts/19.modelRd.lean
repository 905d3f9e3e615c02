/-! the reference: read -/
theorem m16_le (f : Nat → Int32) (n k : Nat) (hi : Int32) (h : 0 ≤ (m16 f n k hi).1) : 1 ≤ (m16 f n k hi).1.toNatClampNeg ∧ (m16 f n k hi).1.toNatClampNeg ≤ 4 := by
  revert h
  unfold m16
  split
  · split
    · split
      · intro _; show 1 ≤ (4 : Int32).toNatClampNeg ∧ (4 : Int32).toNatClampNeg ≤ 4; decide
      · intro _; show 1 ≤ (2 : Int32).toNatClampNeg ∧ (2 : Int32).toNatClampNeg ≤ 4; decide
    · intro _; show 1 ≤ (2 : Int32).toNatClampNeg ∧ (2 : Int32).toNatClampNeg ≤ 4; decide
  · intro h; exact absurd h (by show ¬ (0 : Int32) ≤ -1; decide)
theorem m8_le (f : Nat → Int32) (n k : Nat) (h : 0 ≤ (m8 f n k).1) : 1 ≤ (m8 f n k).1.toNatClampNeg ∧ (m8 f n k).1.toNatClampNeg ≤ 4 := by
  have key : ∀ q : Int32 × Int32, q.1 = -1 → 0 ≤ q.1 → 1 ≤ q.1.toNatClampNeg ∧ q.1.toNatClampNeg ≤ 4 := by
    intro q e h
    rw [e] at h
    exact absurd h (by decide)
  revert h
  unfold m8
  split
  · split
    · exact key _ rfl
    · next hN =>
      split
      · have h4 := m8N_le (f k)
        have h1 : 1 ≤ m8N (f k) := by
          rcases Nat.eq_zero_or_pos (m8N (f k)) with q | q
          · exact absurd (by rw [q]; rfl) hN
          · exact q
        cases m8l f k (m8N (f k) - 1) 1 (f k - f k / m8d (m8N (f k)) * m8d (m8N (f k))) with
        | none => exact key _ rfl
        | some v =>
          rw [m8F]
          split
          · intro _
            show 1 ≤ (nI (m8N (f k))).toNatClampNeg ∧ (nI (m8N (f k))).toNatClampNeg ≤ 4
            rw [nI_clamp (by omega)]
            omega
          · exact key _ rfl
      · exact key _ rfl
  · intro _; show 1 ≤ (1 : Int32).toNatClampNeg ∧ (1 : Int32).toNatClampNeg ≤ 4; decide
def tkY (w : Int32) (y : MS) (k : Nat) : MS := if w = 1 then y16 y k 1 else if w = 2 then y16 y k 0 else y8 y k
def tkR (w : Int32) (y : MS) (k : Nat) : Int32 := if w = 1 then (m16 y.2.2.2.2.2.2.1 y.2.1 k 1).1 else if w = 2 then (m16 y.2.2.2.2.2.2.1 y.2.1 k 0).1 else (m8 y.2.2.2.2.2.2.1 y.2.1 k).1
theorem tkR_le (w : Int32) (y : MS) (k : Nat) (h : 0 ≤ tkR w y k) : 1 ≤ (tkR w y k).toNatClampNeg ∧ (tkR w y k).toNatClampNeg ≤ 4 := by
  revert h
  unfold tkR
  split
  · exact m16_le _ _ _ _
  · split
    · exact m16_le _ _ _ _
    · exact m8_le _ _ _
theorem tkY_eq (w : Int32) (y : MS) (k : Nat) : ∃ v : Int32, tkY w y k = setF y v := by
  unfold tkY
  split
  · exact ⟨_, rfl⟩
  · split
    · exact ⟨_, rfl⟩
    · exact ⟨_, rfl⟩
theorem tkY_n (w : Int32) (y : MS) (k : Nat) : (tkY w y k).2.1 = y.2.1 := by obtain ⟨v, e⟩ := tkY_eq w y k; rw [e]; rfl
theorem tkY_ok {w : Int32} {y : MS} {k : Nat} (hy : okY y) : okY (tkY w y k) := by obtain ⟨v, e⟩ := tkY_eq w y k; rw [e]; exact hy
def setA (y : MS) (j : Nat) (v : Int32) : MS := (y.1, y.2.1, y.2.2.1, y.2.2.2.1, y.2.2.2.2.1, y.2.2.2.2.2.1, y.2.2.2.2.2.2.1, y.2.2.2.2.2.2.2.1, upd y.2.2.2.2.2.2.2.2 j v)
theorem setA_ok {y : MS} {j : Nat} {v : Int32} (hy : okY y) : okY (setA y j v) := hy
theorem addT {k : Nat} {t : Int32} (h : 0 ≤ t) : nI k + t = nI (k + t.toNatClampNeg) := by rw [← nI_add, nI_nat h]
theorem nI_m1 {k : Nat} (h : k < 2 ^ 31) : ¬ nI k = -1 := by
  intro e
  have := nI_pos' h
  rw [e] at this
  exact absurd this (by decide)
def yRd (w : Int32) : Nat → Nat → Nat → Int32 → MS → Int32 × Nat × MS
  | 0, _, j, _, y => (-1, j, y)
  | u + 1, k, j, b, y => if y.2.1 ≤ k then (-1, j, y) else if 0 ≤ tkR w y k then (if sChar (tkY w y k).2.2.2.2.2.1 = true then (if (tkY w y k).2.2.2.2.2.1 = 10 then (if b = 0 then yRd w u (k + (tkR w y k).toNatClampNeg) (j + 1) (if (tkY w y k).2.2.2.2.2.1 = 13 then 1 else 0) (setA (tkY w y k) j (if (tkY w y k).2.2.2.2.2.1 = 13 then 10 else (tkY w y k).2.2.2.2.2.1)) else yRd w u (k + (tkR w y k).toNatClampNeg) j (if (tkY w y k).2.2.2.2.2.1 = 13 then 1 else 0) (tkY w y k)) else yRd w u (k + (tkR w y k).toNatClampNeg) (j + 1) (if (tkY w y k).2.2.2.2.2.1 = 13 then 1 else 0) (setA (tkY w y k) j (if (tkY w y k).2.2.2.2.2.1 = 13 then 10 else (tkY w y k).2.2.2.2.2.1))) else (nI k, j, tkY w y k)) else (nI k, j, tkY w y k)
def stW (w : Int32) : Nat := if w = 0 then 0 else if w = 3 then 3 else 2
def yRR (y : MS) : Int32 × Nat × MS := yRd (mWay y.2.2.2.2.2.2.1 y.2.1) 4110 (stW (mWay y.2.2.2.2.2.2.1 y.2.1)) 0 0 (0, y.2)
def cpT (y : MS) (i : Nat) : Nat → Int32 := fun q => if q < i then y.2.2.2.2.2.2.2.2 q else y.2.2.2.2.2.2.2.1 q
def cpY (y : MS) (i : Nat) : MS := (y.1, y.2.1, y.2.2.1, y.2.2.2.1, y.2.2.2.2.1, y.2.2.2.2.2.1, y.2.2.2.2.2.2.1, cpT y i, y.2.2.2.2.2.2.2.2)
theorem cpY_ok {y : MS} {i : Nat} (hy : okY y) : okY (cpY y i) := hy
theorem cpT_s (y : MS) (i : Nat) : upd (cpT y i) i (y.2.2.2.2.2.2.2.2 i) = cpT y (i + 1) := by
  funext q
  simp only [upd, cpT]
  by_cases h : q = i
  · subst h; simp
  · by_cases h2 : q < i
    · simp [h, h2, show q < i + 1 by omega]
    · simp [h, h2, show ¬ q < i + 1 by omega]
theorem cpT_0 (y : MS) : cpT y 0 = y.2.2.2.2.2.2.2.1 := by funext q; simp [cpT]
def yRf (y : MS) : MS := (y.1, 0, y.2.2)
def yFin (y : MS) (j : Nat) (w : Int32) : MS := (y.1, 0, j, w, y.2.2.2.2.1, y.2.2.2.2.2.1, y.2.2.2.2.2.2.1, cpT y j, y.2.2.2.2.2.2.2.2)
theorem moZ_f {h qb qt qa : Nat} {cI : ClassId} (y : MS) (j : Nat) (w : Int32) : moW h qb qt qa cI y.1 0 (nI j) w (nI y.2.2.2.2.1) y.2.2.2.2.2.1 y.2.2.2.2.2.2.1 (cpT y j) y.2.2.2.2.2.2.2.2 = moZ h qb qt qa cI (yFin y j w) := by
  show _ = moW h qb qt qa cI _ (nI 0) _ _ _ _ _ _ _
  rw [nI_0]
  rfl
theorem moZ_r {h qb qt qa : Nat} {cI : ClassId} (y : MS) : moW h qb qt qa cI y.1 0 (nI y.2.2.1) y.2.2.2.1 (nI y.2.2.2.2.1) y.2.2.2.2.2.1 y.2.2.2.2.2.2.1 y.2.2.2.2.2.2.2.1 y.2.2.2.2.2.2.2.2 = moZ h qb qt qa cI (yRf y) := by
  show _ = moW h qb qt qa cI _ (nI 0) _ _ _ _ _ _ _
  rw [nI_0]
  rfl
def yRead (y : MS) : MS := if (yRR y).1 = -1 then yFin (yRR y).2.2 (yRR y).2.1 (mWay y.2.2.2.2.2.2.1 y.2.1) else yRf (yRR y).2.2
set_option maxHeartbeats 4000000 in
set_option maxRecDepth 100000 in
theorem cM_read (l : Launch) (D : va_G) (h qb qt qa : Nat) (cI : ClassId) (y : MS) (hd : ap4 h qb qt qa) (hy : okY y) : Met l yM_read (Cond.code yM_read prog_3_method_15_code 6 (some .int) :: TB) { frames := 2, cells := 0, slots := 0, locals := 45 } (gx (xM D h qb qt qa cI y) [.ref h]) (mQ (some (.int ((yRR y).1))) D (moZ h qb qt qa cI (yRead y)) (A4 h qb qt qa)) 0 0 (A4 h qb qt qa) := by
  refine mt_of (by decide) ?_
  intro p e s m args below meth cd S hr hk hin hv
  obtain ⟨rfl, hX⟩ := hv
  have hP : va_P D CL (moZ h qb qt qa cI y) s.heap := hX.1
  have hK := hX.2
  have hy1 := hy.1
  have hy2 := hy.2.1
  have hy3 := hy.2.2
  have hS : va_S (A4 h qb qt qa) s.heap s.heap [] := va_S.rf
  have hx := S.1
  have hb := S.2.1
  have hown := S.2.2.2.1
  have hts := S.2.2.2.2
  have hl := lv_entry ([.ref h]) (n := 6) (Nat.le_of_ble_eq_true rfl)
  rw [lg_entry_eq]
  generalize (lg_sl ([.ref h]) ++ List.replicate (6 - (lg_sl ([.ref h])).length) Slot.unset).toArray = ls at hl ⊢
  have hl : lv_has ls 6 [(0, .ref h)] := hl
  refine lv_aload_n hx hb dM_read_0 rfl (lv_at hl 0 rfl) ?_
  refine lv_iconst (v := 0) hx hb dM_read_1 (by decide) ?_
  refine va_put (D := D) (ci := 1) (v := .int 0) (ty := .int) (C := "SignReaderModel") (T := T_M) (N := 9) hx hb hts i_M t_M t_M_ok n_M hown hK hP (moD hd) hS 0 rfl rfl 0 (by decide) (hts _ k391) (fun _ h9 => h9) rfl (by decide +kernel) rfl rfl (Nat.le_of_ble_eq_true rfl) dM_read_2 (fun H locs hP _ hS => ?_)
  have hP : va_P D CL (moW h qb qt qa cI (0) (nI y.2.1) (nI y.2.2.1) (y.2.2.2.1) (nI y.2.2.2.2.1) (y.2.2.2.2.2.1) (y.2.2.2.2.2.2.1) (y.2.2.2.2.2.2.2.1) (y.2.2.2.2.2.2.2.2)) H := hP
  have hP : va_P D CL (moZ h qb qt qa cI ((0, y.2))) _ := va_Pe (rfl : moW h qb qt qa cI (0) (nI y.2.1) (nI y.2.2.1) (y.2.2.2.1) (nI y.2.2.2.2.1) (y.2.2.2.2.2.1) (y.2.2.2.2.2.2.1) (y.2.2.2.2.2.2.2.1) (y.2.2.2.2.2.2.2.2) = moZ h qb qt qa cI ((0, y.2))) hP
  refine lv_aload_n hx hb dM_read_5 rfl (lv_at hl 0 rfl) ?_
  refine ro_V (r := (mWay ((0, y.2)).2.2.2.2.2.2.1 ((0, y.2)).2.1)) (As := []) (rest := []) (n := 0) (C := "SignReaderModel") S (cM_wayOfBytes l D h qb qt qa cI ((0, y.2)) (y0_ok hy) ) k446 k2 k445 ks18 (by decide +kernel) ⟨rfl, rfl⟩ k443 (by decide) (xM_V ⟨hP, hK⟩) rfl rfl hl.1 (Nat.le_of_ble_eq_true rfl) ⟨Nat.le_refl _, Nat.le_refl _⟩ dM_read_6 ?_
  refine lv_istore_n (lv' := [(1, .int (mWay ((0, y.2)).2.2.2.2.2.2.1 ((0, y.2)).2.1)), (0, .ref h)]) hx hb dM_read_9 rfl hl (by decide) rfl (fun ls hl => ?_)
  have J28 : ∀ (x : Int32), x = nI (stW (mWay y.2.2.2.2.2.2.1 y.2.1)) → ∀ ls : Array Slot, lv_has ls 6 [(1, .int (mWay ((0, y.2)).2.2.2.2.2.2.1 ((0, y.2)).2.1)), (0, .ref h)] → W p l e { frames := 2, cells := 0, slots := 0, locals := 45 } s m [.ref h].toArray below meth cd H locs 0 0 (MQ below (mQ (some (.int ((yRR y).1))) D (moZ h qb qt qa cI (yRead y)) (A4 h qb qt qa)) [.ref h].toArray s 0 0 (A4 h qb qt qa)) (F0 m 28 ls [.int x]) := by
    intro x hx9 ls hl
    subst hx9
    refine lv_istore_n (lv' := [(2, .int (nI (stW (mWay y.2.2.2.2.2.2.1 y.2.1)))), (1, .int (mWay ((0, y.2)).2.2.2.2.2.2.1 ((0, y.2)).2.1)), (0, .ref h)]) hx hb dM_read_28 rfl hl (by decide) rfl (fun ls hl => ?_)
    refine lv_iconst (v := 0) hx hb dM_read_29 (by decide) ?_
    refine lv_istore_n (lv' := [(3, .int 0), (2, .int (nI (stW (mWay y.2.2.2.2.2.2.1 y.2.1)))), (1, .int (mWay ((0, y.2)).2.2.2.2.2.2.1 ((0, y.2)).2.1)), (0, .ref h)]) hx hb dM_read_30 rfl hl (by decide) rfl (fun ls hl => ?_)
    refine lv_iconst (v := 0) hx hb dM_read_31 (by decide) ?_
    refine lv_istore (lv' := [(4, .int 0), (3, .int 0), (2, .int (nI (stW (mWay y.2.2.2.2.2.2.1 y.2.1)))), (1, .int (mWay ((0, y.2)).2.2.2.2.2.2.1 ((0, y.2)).2.1)), (0, .ref h)]) hx hb dM_read_32 hl (by decide) rfl (fun ls hl => ?_)
    have J34 : ∀ (fu : Nat) (i9 : Int32) (x : Int32) (b : Int32) (k : Nat) (j : Nat) (y9 : MS) (H : Heap) (locs : List Loc), i9 = nI k → x = nI j → k ≤ 4100 → j ≤ k ∧ j ≤ 4096 → y9.2.1 = y.2.1 → okY y9 → 4100 < k + fu → yRR y = yRd (mWay y.2.2.2.2.2.2.1 y.2.1) fu k j b y9 → va_P D CL (moZ h qb qt qa cI y9) H → va_S (A4 h qb qt qa) s.heap H locs → ∀ ls : Array Slot, lv_has ls 6 [(1, .int (mWay ((0, y.2)).2.2.2.2.2.2.1 ((0, y.2)).2.1)), (0, .ref h), (2, .int i9), (3, .int x), (4, .int b)] → W p l e { frames := 2, cells := 0, slots := 0, locals := 45 } s m [.ref h].toArray below meth cd H locs 0 0 (MQ below (mQ (some (.int ((yRR y).1))) D (moZ h qb qt qa cI (yRead y)) (A4 h qb qt qa)) [.ref h].toArray s 0 0 (A4 h qb qt qa)) (F0 m 34 ls []) := by
      intro fu
      induction fu with
      | zero =>
        intro i9 x b k j y9 H locs hi9 hx9 hk9 hj9 hsz hyo hf9 hR hP hS ls hl
        exact absurd hf9 (by omega)
      | succ fu ih =>
        intro i9 x b k j y9 H locs hi9 hx9 hk9 hj9 hsz hyo hf9 hR hP hS ls hl
        subst hi9
        subst hx9
        refine lv_iload_n hx hb dM_read_34 rfl (lv_at hl 2 rfl) ?_
        refine lv_aload_n hx hb dM_read_35 rfl (lv_at hl 1 rfl) ?_
        refine va_get (D := D) (ci := 1) (v := .int (nI y9.2.1)) (C := "SignReaderModel") (T := T_M) (N := 9) hx hb hts i_M hown hK hP 0 rfl rfl 2 (by decide) (hts _ k393) (fun _ h9 => h9) rfl dM_read_36 ?_
        refine lv_icmp_ge (tgt := 165) hx hb dM_read_39 (by decide) (fun c1 => ?_) (fun c1 => ?_)
        · skip
          rw [nI_leI (by have := hyo.1; omega) (by omega)] at c1
          simp only [yRd] at hR
          rw [if_pos c1] at hR
          refine lv_iconst (v := 0) hx hb dM_read_165 (by decide) ?_
          refine lv_istore (lv' := [(5, .int 0), (1, .int (mWay ((0, y.2)).2.2.2.2.2.2.1 ((0, y.2)).2.1)), (0, .ref h), (2, .int (nI k)), (3, .int (nI j)), (4, .int b)]) hx hb dM_read_166 hl (by decide) rfl (fun ls hl => ?_)
          have J168 : ∀ (fu : Nat) (x5 : Int32) (i : Nat) (H : Heap) (locs : List Loc), x5 = nI i → i ≤ j → j < i + fu → va_P D CL (moZ h qb qt qa cI (cpY y9 i)) H → va_S (A4 h qb qt qa) s.heap H locs → ∀ ls : Array Slot, lv_has ls 6 [(1, .int (mWay ((0, y.2)).2.2.2.2.2.2.1 ((0, y.2)).2.1)), (0, .ref h), (2, .int (nI k)), (3, .int (nI j)), (4, .int b), (5, .int x5)] → W p l e { frames := 2, cells := 0, slots := 0, locals := 45 } s m [.ref h].toArray below meth cd H locs 0 0 (MQ below (mQ (some (.int ((yRR y).1))) D (moZ h qb qt qa cI (yRead y)) (A4 h qb qt qa)) [.ref h].toArray s 0 0 (A4 h qb qt qa)) (F0 m 168 ls []) := by
            intro fu
            induction fu with
            | zero =>
              intro x5 i H locs hx5 hi5 hf5 hP hS ls hl
              exact absurd hf5 (by omega)
            | succ fu ih =>
              intro x5 i H locs hx5 hi5 hf5 hP hS ls hl
              subst hx5
              refine lv_iload hx hb dM_read_168 (lv_at hl 5 rfl) ?_
              refine lv_iload_n hx hb dM_read_170 rfl (lv_at hl 3 rfl) ?_
              refine lv_icmp_ge (tgt := 194) hx hb dM_read_171 (by decide) (fun c2 => ?_) (fun c2 => ?_)
              · skip
                rw [nI_leI (by omega) (by omega)] at c2
                refine lv_aload_n hx hb dM_read_194 rfl (lv_at hl 1 rfl) ?_
                refine lv_iload_n hx hb dM_read_195 rfl (lv_at hl 3 rfl) ?_
                refine va_put (D := D) (ci := 1) (v := .int (nI j)) (ty := .int) (C := "SignReaderModel") (T := T_M) (N := 9) hx hb hts i_M t_M t_M_ok n_M hown hK hP (moD hd) hS 0 rfl rfl 4 (by decide) (hts _ k395) (fun _ h9 => h9) rfl (by decide +kernel) rfl rfl (Nat.le_of_ble_eq_true rfl) dM_read_196 (fun H locs hP _ hS => ?_)
                have hP : va_P D CL (moW h qb qt qa cI (y9.1) (nI y9.2.1) ((nI j)) (y9.2.2.2.1) (nI y9.2.2.2.2.1) (y9.2.2.2.2.2.1) (y9.2.2.2.2.2.2.1) (cpT y9 i) (y9.2.2.2.2.2.2.2.2)) H := hP
                refine lv_aload_n hx hb dM_read_199 rfl (lv_at hl 1 rfl) ?_
                refine lv_iload_n hx hb dM_read_200 rfl (lv_at hl 0 rfl) ?_
                refine va_put (D := D) (ci := 1) (v := .int (mWay ((0, y.2)).2.2.2.2.2.2.1 ((0, y.2)).2.1)) (ty := .int) (C := "SignReaderModel") (T := T_M) (N := 9) hx hb hts i_M t_M t_M_ok n_M hown hK hP (moD hd) hS 0 rfl rfl 5 (by decide) (hts _ k396) (fun _ h9 => h9) rfl (by decide +kernel) rfl rfl (Nat.le_of_ble_eq_true rfl) dM_read_201 (fun H locs hP _ hS => ?_)
                have hP : va_P D CL (moW h qb qt qa cI (y9.1) (nI y9.2.1) ((nI j)) ((mWay ((0, y.2)).2.2.2.2.2.2.1 ((0, y.2)).2.1)) (nI y9.2.2.2.2.1) (y9.2.2.2.2.2.1) (y9.2.2.2.2.2.2.1) (cpT y9 i) (y9.2.2.2.2.2.2.2.2)) H := hP
                refine lv_aload_n hx hb dM_read_204 rfl (lv_at hl 1 rfl) ?_
                refine lv_iconst (v := 0) hx hb dM_read_205 (by decide) ?_
                refine va_put (D := D) (ci := 1) (v := .int 0) (ty := .int) (C := "SignReaderModel") (T := T_M) (N := 9) hx hb hts i_M t_M t_M_ok n_M hown hK hP (moD hd) hS 0 rfl rfl 2 (by decide) (hts _ k393) (fun _ h9 => h9) rfl (by decide +kernel) rfl rfl (Nat.le_of_ble_eq_true rfl) dM_read_206 (fun H locs hP _ hS => ?_)
                have hP : va_P D CL (moW h qb qt qa cI (y9.1) (0) ((nI j)) ((mWay ((0, y.2)).2.2.2.2.2.2.1 ((0, y.2)).2.1)) (nI y9.2.2.2.2.1) (y9.2.2.2.2.2.1) (y9.2.2.2.2.2.2.1) (cpT y9 i) (y9.2.2.2.2.2.2.2.2)) H := hP
                refine lv_iconst (v := (-1)) hx hb dM_read_209 (by decide) ?_
                have hP : va_P D CL (moZ h qb qt qa cI (yRead y)) _ := va_Pe (by rw [yRead, hR, if_pos rfl, show i = j by omega]; exact moZ_f _ _ _ : moW h qb qt qa cI (y9.1) (0) ((nI j)) ((mWay ((0, y.2)).2.2.2.2.2.2.1 ((0, y.2)).2.1)) (nI y9.2.2.2.2.1) (y9.2.2.2.2.2.1) (y9.2.2.2.2.2.2.1) (cpT y9 i) (y9.2.2.2.2.2.2.2.2) = moZ h qb qt qa cI (yRead y)) hP
                exact mu_retI S hr hk (by rw [hR]) hP hS dM_read_210
              · skip
                rw [nI_leI (by omega) (by omega)] at c2
                refine lv_aload_n hx hb dM_read_174 rfl (lv_at hl 1 rfl) ?_
                refine va_get (D := D) (ci := 1) (v := .ref qt) (C := "SignReaderModel") (T := T_M) (N := 9) hx hb hts i_M hown hK hP 0 rfl rfl 3 (by decide) (hts _ k394) (fun _ h9 => h9) rfl dM_read_175 ?_
                refine lv_iload hx hb dM_read_178 (lv_at hl 5 rfl) ?_
                refine lv_aload_n hx hb dM_read_180 rfl (lv_at hl 1 rfl) ?_
                refine va_get (D := D) (ci := 1) (v := .ref qa) (C := "SignReaderModel") (T := T_M) (N := 9) hx hb hts i_M hown hK hP 0 rfl rfl 6 (by decide) (hts _ k397) (fun _ h9 => h9) rfl dM_read_181 ?_
                refine lv_iload hx hb dM_read_184 (lv_at hl 5 rfl) ?_
                refine va_iald (f := (y9.2.2.2.2.2.2.2.2)) hx hb hK hP 3 0 rfl rfl (vp_in_nI (by omega) (by omega)) dM_read_186 ?_
                rw [nI_clamp (n := i) (by omega)]
                refine va_iast hx hb hK hP (moD hd) hS 2 0 rfl rfl (vp_in_nI (by omega) (by omega)) dM_read_187 (fun H locs hP _ hS => ?_)
                have hP : va_P D CL (moW h qb qt qa cI (y9.1) (nI y9.2.1) (nI y9.2.2.1) (y9.2.2.2.1) (nI y9.2.2.2.2.1) (y9.2.2.2.2.2.1) (y9.2.2.2.2.2.2.1) (upd (cpT y9 i) ((nI i)).toNatClampNeg (((y9.2.2.2.2.2.2.2.2) i))) (y9.2.2.2.2.2.2.2.2)) H := hP
                have hP : va_P D CL (moZ h qb qt qa cI (cpY y9 (i + 1))) _ := va_Pe (by simp only [cpY, nI_clamp (show i < 2 ^ 31 by omega), cpT_s] : moW h qb qt qa cI (y9.1) (nI y9.2.1) (nI y9.2.2.1) (y9.2.2.2.1) (nI y9.2.2.2.2.1) (y9.2.2.2.2.2.1) (y9.2.2.2.2.2.2.1) (upd (cpT y9 i) ((nI i)).toNatClampNeg (((y9.2.2.2.2.2.2.2.2) i))) (y9.2.2.2.2.2.2.2.2) = moZ h qb qt qa cI (cpY y9 (i + 1))) hP
                refine lv_iinc (v := ((nI i) + 1)) (lv' := [(5, .int ((nI i) + 1)), (1, .int (mWay ((0, y.2)).2.2.2.2.2.2.1 ((0, y.2)).2.1)), (0, .ref h), (2, .int (nI k)), (3, .int (nI j)), (4, .int b)]) hx hb dM_read_188 hl (k := 5) rfl rfl (by decide) rfl (fun ls hl => ?_)
                refine lv_goto (tgt := 168) hx hb dM_read_191 (by decide) ?_
                exact ih (((nI i) + 1)) (i + 1) (_) (_) (nI_1 i) (by omega) (by omega) (hP) (hS) ls (lv_sub hl [1, 2, 3, 4, 5, 0] rfl) 
          exact J168 (j + 1) (0) (0) (_) (_) (rfl) (by omega) (by omega) (by rw [cpY, cpT_0]; exact hP) (hS) ls (lv_sub hl [1, 2, 3, 4, 5, 0] rfl) 
        · skip
          rw [nI_leI (by have := hyo.1; omega) (by omega)] at c1
          simp only [yRd] at hR
          rw [if_neg c1] at hR
          have J75 : ∀ (t9 : Int32) (Y : MS) (H : Heap) (locs : List Loc), t9 = tkR (mWay y.2.2.2.2.2.2.1 y.2.1) y9 k → Y = tkY (mWay y.2.2.2.2.2.2.1 y.2.1) y9 k → va_P D CL (moZ h qb qt qa cI Y) H → va_S (A4 h qb qt qa) s.heap H locs → ∀ ls : Array Slot, lv_has ls 6 [(1, .int (mWay ((0, y.2)).2.2.2.2.2.2.1 ((0, y.2)).2.1)), (0, .ref h), (2, .int (nI k)), (3, .int (nI j)), (4, .int b)] → W p l e { frames := 2, cells := 0, slots := 0, locals := 45 } s m [.ref h].toArray below meth cd H locs 0 0 (MQ below (mQ (some (.int ((yRR y).1))) D (moZ h qb qt qa cI (yRead y)) (A4 h qb qt qa)) [.ref h].toArray s 0 0 (A4 h qb qt qa)) (F0 m 75 ls [.int t9]) := by
            intro t9 Y H locs ht9 hY9 hP hS ls hl
            subst ht9
            subst hY9
            have hT9 := tkR_le (mWay y.2.2.2.2.2.2.1 y.2.1) y9 k
            refine lv_istore (lv' := [(5, .int (tkR (mWay y.2.2.2.2.2.2.1 y.2.1) y9 k)), (1, .int (mWay ((0, y.2)).2.2.2.2.2.2.1 ((0, y.2)).2.1)), (0, .ref h), (2, .int (nI k)), (3, .int (nI j)), (4, .int b)]) hx hb dM_read_75 hl (by decide) rfl (fun ls hl => ?_)
            refine lv_iload hx hb dM_read_77 (lv_at hl 0 rfl) ?_
            refine lv_if_lt (tgt := 92) hx hb dM_read_79 (by decide) (fun c3 => ?_) (fun c3 => ?_)
            · skip
              replace c3 := Int32.not_le.mpr c3
              refine lv_aload_n hx hb dM_read_92 rfl (lv_at hl 2 rfl) ?_
              refine lv_iconst (v := 0) hx hb dM_read_93 (by decide) ?_
              refine va_put (D := D) (ci := 1) (v := .int 0) (ty := .int) (C := "SignReaderModel") (T := T_M) (N := 9) hx hb hts i_M t_M t_M_ok n_M hown hK hP (moD hd) hS 0 rfl rfl 2 (by decide) (hts _ k393) (fun _ h9 => h9) rfl (by decide +kernel) rfl rfl (Nat.le_of_ble_eq_true rfl) dM_read_94 (fun H locs hP _ hS => ?_)
              have hP : va_P D CL (moW h qb qt qa cI ((tkY (mWay y.2.2.2.2.2.2.1 y.2.1) y9 k).1) (0) (nI (tkY (mWay y.2.2.2.2.2.2.1 y.2.1) y9 k).2.2.1) ((tkY (mWay y.2.2.2.2.2.2.1 y.2.1) y9 k).2.2.2.1) (nI (tkY (mWay y.2.2.2.2.2.2.1 y.2.1) y9 k).2.2.2.2.1) ((tkY (mWay y.2.2.2.2.2.2.1 y.2.1) y9 k).2.2.2.2.2.1) ((tkY (mWay y.2.2.2.2.2.2.1 y.2.1) y9 k).2.2.2.2.2.2.1) ((tkY (mWay y.2.2.2.2.2.2.1 y.2.1) y9 k).2.2.2.2.2.2.2.1) ((tkY (mWay y.2.2.2.2.2.2.1 y.2.1) y9 k).2.2.2.2.2.2.2.2)) H := hP
              refine lv_iload_n hx hb dM_read_97 rfl (lv_at hl 3 rfl) ?_
              have hP : va_P D CL (moZ h qb qt qa cI (yRead y)) _ := va_Pe (by rw [yRead, hR]; simp only [if_neg c3]; rw [if_neg (nI_m1 (by omega))]; exact moZ_r _ : moW h qb qt qa cI ((tkY (mWay y.2.2.2.2.2.2.1 y.2.1) y9 k).1) (0) (nI (tkY (mWay y.2.2.2.2.2.2.1 y.2.1) y9 k).2.2.1) ((tkY (mWay y.2.2.2.2.2.2.1 y.2.1) y9 k).2.2.2.1) (nI (tkY (mWay y.2.2.2.2.2.2.1 y.2.1) y9 k).2.2.2.2.1) ((tkY (mWay y.2.2.2.2.2.2.1 y.2.1) y9 k).2.2.2.2.2.1) ((tkY (mWay y.2.2.2.2.2.2.1 y.2.1) y9 k).2.2.2.2.2.2.1) ((tkY (mWay y.2.2.2.2.2.2.1 y.2.1) y9 k).2.2.2.2.2.2.2.1) ((tkY (mWay y.2.2.2.2.2.2.1 y.2.1) y9 k).2.2.2.2.2.2.2.2) = moZ h qb qt qa cI (yRead y)) hP
              exact mu_retI S hr hk (by rw [hR]; simp only [if_neg c3]) hP hS dM_read_98
            · skip
              replace c3 := Int32.not_lt.mp c3
              have hT8 := hT9 c3
              refine lv_aload_n hx hb dM_read_82 rfl (lv_at hl 2 rfl) ?_
              refine va_get (D := D) (ci := 1) (v := .int ((tkY (mWay y.2.2.2.2.2.2.1 y.2.1) y9 k).2.2.2.2.2.1)) (C := "SignReaderModel") (T := T_M) (N := 9) hx hb hts i_M hown hK hP 0 rfl rfl 8 (by decide) (hts _ k399) (fun _ h9 => h9) rfl dM_read_83 ?_
              refine ro_S (As := [.int ((tkY (mWay y.2.2.2.2.2.2.1 y.2.1) y9 k).2.2.2.2.2.1)]) (rest := []) (n := 1) S (cM_isCharacter l (((tkY (mWay y.2.2.2.2.2.2.1 y.2.1) y9 k).2.2.2.2.2.1))) k476 k2 k475 (by decide +kernel) ⟨rfl, rfl⟩ k474 (by decide) preEq rfl rfl hl.1 (Nat.le_of_ble_eq_true rfl) ⟨Nat.le_refl _, Nat.le_refl _⟩ dM_read_86 ?_
              refine lv_if_ne (tgt := 99) hx hb dM_read_89 (by decide) (fun c4 => ?_) (fun c4 => ?_)
              · skip
                replace c4 := bI_t c4
                refine lv_aload_n hx hb dM_read_99 rfl (lv_at hl 2 rfl) ?_
                refine va_get (D := D) (ci := 1) (v := .int ((tkY (mWay y.2.2.2.2.2.2.1 y.2.1) y9 k).2.2.2.2.2.1)) (C := "SignReaderModel") (T := T_M) (N := 9) hx hb hts i_M hown hK hP 0 rfl rfl 8 (by decide) (hts _ k399) (fun _ h9 => h9) rfl dM_read_100 ?_
                refine lv_bipush (v := 10) hx hb dM_read_103 (by decide) ?_
                refine lv_icmp_ne (tgt := 113) hx hb dM_read_105 (by decide) (fun c5 => ?_) (fun c5 => ?_)
                · skip
                  refine lv_aload_n hx hb dM_read_113 rfl (lv_at hl 2 rfl) ?_
                  refine va_get (D := D) (ci := 1) (v := .ref qa) (C := "SignReaderModel") (T := T_M) (N := 9) hx hb hts i_M hown hK hP 0 rfl rfl 6 (by decide) (hts _ k397) (fun _ h9 => h9) rfl dM_read_114 ?_
                  refine lv_iload_n hx hb dM_read_117 rfl (lv_at hl 4 rfl) ?_
                  refine lv_aload_n hx hb dM_read_118 rfl (lv_at hl 2 rfl) ?_
                  refine va_get (D := D) (ci := 1) (v := .int ((tkY (mWay y.2.2.2.2.2.2.1 y.2.1) y9 k).2.2.2.2.2.1)) (C := "SignReaderModel") (T := T_M) (N := 9) hx hb hts i_M hown hK hP 0 rfl rfl 8 (by decide) (hts _ k399) (fun _ h9 => h9) rfl dM_read_119 ?_
                  refine lv_bipush (v := 13) hx hb dM_read_122 (by decide) ?_
                  refine lv_icmp_ne (tgt := 132) hx hb dM_read_124 (by decide) (fun c6 => ?_) (fun c6 => ?_)
                  · skip
                    refine lv_aload_n hx hb dM_read_132 rfl (lv_at hl 2 rfl) ?_
                    refine va_get (D := D) (ci := 1) (v := .int ((tkY (mWay y.2.2.2.2.2.2.1 y.2.1) y9 k).2.2.2.2.2.1)) (C := "SignReaderModel") (T := T_M) (N := 9) hx hb hts i_M hown hK hP 0 rfl rfl 8 (by decide) (hts _ k399) (fun _ h9 => h9) rfl dM_read_133 ?_
                    refine va_iast hx hb hK hP (moD hd) hS 3 0 rfl rfl (vp_in_nI (by have := hyo.1; omega) (by omega)) dM_read_136 (fun H locs hP _ hS => ?_)
                    have hP : va_P D CL (moW h qb qt qa cI ((tkY (mWay y.2.2.2.2.2.2.1 y.2.1) y9 k).1) (nI (tkY (mWay y.2.2.2.2.2.2.1 y.2.1) y9 k).2.1) (nI (tkY (mWay y.2.2.2.2.2.2.1 y.2.1) y9 k).2.2.1) ((tkY (mWay y.2.2.2.2.2.2.1 y.2.1) y9 k).2.2.2.1) (nI (tkY (mWay y.2.2.2.2.2.2.1 y.2.1) y9 k).2.2.2.2.1) ((tkY (mWay y.2.2.2.2.2.2.1 y.2.1) y9 k).2.2.2.2.2.1) ((tkY (mWay y.2.2.2.2.2.2.1 y.2.1) y9 k).2.2.2.2.2.2.1) ((tkY (mWay y.2.2.2.2.2.2.1 y.2.1) y9 k).2.2.2.2.2.2.2.1) (upd ((tkY (mWay y.2.2.2.2.2.2.1 y.2.1) y9 k).2.2.2.2.2.2.2.2) ((nI j)).toNatClampNeg (((tkY (mWay y.2.2.2.2.2.2.1 y.2.1) y9 k).2.2.2.2.2.1)))) H := hP
                    have hP : va_P D CL (moZ h qb qt qa cI (setA (tkY (mWay y.2.2.2.2.2.2.1 y.2.1) y9 k) j ((tkY (mWay y.2.2.2.2.2.2.1 y.2.1) y9 k).2.2.2.2.2.1))) _ := va_Pe (by simp only [setA, nI_clamp (show j < 2 ^ 31 by omega)] : moW h qb qt qa cI ((tkY (mWay y.2.2.2.2.2.2.1 y.2.1) y9 k).1) (nI (tkY (mWay y.2.2.2.2.2.2.1 y.2.1) y9 k).2.1) (nI (tkY (mWay y.2.2.2.2.2.2.1 y.2.1) y9 k).2.2.1) ((tkY (mWay y.2.2.2.2.2.2.1 y.2.1) y9 k).2.2.2.1) (nI (tkY (mWay y.2.2.2.2.2.2.1 y.2.1) y9 k).2.2.2.2.1) ((tkY (mWay y.2.2.2.2.2.2.1 y.2.1) y9 k).2.2.2.2.2.1) ((tkY (mWay y.2.2.2.2.2.2.1 y.2.1) y9 k).2.2.2.2.2.2.1) ((tkY (mWay y.2.2.2.2.2.2.1 y.2.1) y9 k).2.2.2.2.2.2.2.1) (upd ((tkY (mWay y.2.2.2.2.2.2.1 y.2.1) y9 k).2.2.2.2.2.2.2.2) ((nI j)).toNatClampNeg (((tkY (mWay y.2.2.2.2.2.2.1 y.2.1) y9 k).2.2.2.2.2.1))) = moZ h qb qt qa cI (setA (tkY (mWay y.2.2.2.2.2.2.1 y.2.1) y9 k) j ((tkY (mWay y.2.2.2.2.2.2.1 y.2.1) y9 k).2.2.2.2.2.1))) hP
                    refine lv_iload_n hx hb dM_read_137 rfl (lv_at hl 4 rfl) ?_
                    refine lv_iconst (v := 1) hx hb dM_read_138 (by decide) ?_
                    refine lv_iadd hx hb dM_read_139 ?_
                    refine lv_istore_n (lv' := [(3, .int ((nI j) + 1)), (5, .int (tkR (mWay y.2.2.2.2.2.2.1 y.2.1) y9 k)), (1, .int (mWay ((0, y.2)).2.2.2.2.2.2.1 ((0, y.2)).2.1)), (0, .ref h), (2, .int (nI k)), (4, .int b)]) hx hb dM_read_140 rfl hl (by decide) rfl (fun ls hl => ?_)
                    refine lv_aload_n hx hb dM_read_141 rfl (lv_at hl 3 rfl) ?_
                    refine va_get (D := D) (ci := 1) (v := .int ((tkY (mWay y.2.2.2.2.2.2.1 y.2.1) y9 k).2.2.2.2.2.1)) (C := "SignReaderModel") (T := T_M) (N := 9) hx hb hts i_M hown hK hP 0 rfl rfl 8 (by decide) (hts _ k399) (fun _ h9 => h9) rfl dM_read_142 ?_
                    refine lv_bipush (v := 13) hx hb dM_read_145 (by decide) ?_
                    refine lv_icmp_ne (tgt := 154) hx hb dM_read_147 (by decide) (fun c7 => ?_) (fun c7 => absurd c7 c6)
                    refine lv_iconst (v := 0) hx hb dM_read_154 (by decide) ?_
                    refine lv_istore (lv' := [(4, .int 0), (3, .int ((nI j) + 1)), (5, .int (tkR (mWay y.2.2.2.2.2.2.1 y.2.1) y9 k)), (1, .int (mWay ((0, y.2)).2.2.2.2.2.2.1 ((0, y.2)).2.1)), (0, .ref h), (2, .int (nI k))]) hx hb dM_read_155 hl (by decide) rfl (fun ls hl => ?_)
                    refine lv_iload_n hx hb dM_read_157 rfl (lv_at hl 5 rfl) ?_
                    refine lv_iload hx hb dM_read_158 (lv_at hl 2 rfl) ?_
                    refine lv_iadd hx hb dM_read_160 ?_
                    refine lv_istore_n (lv' := [(2, .int ((nI k) + (tkR (mWay y.2.2.2.2.2.2.1 y.2.1) y9 k))), (4, .int 0), (3, .int ((nI j) + 1)), (5, .int (tkR (mWay y.2.2.2.2.2.2.1 y.2.1) y9 k)), (1, .int (mWay ((0, y.2)).2.2.2.2.2.2.1 ((0, y.2)).2.1)), (0, .ref h)]) hx hb dM_read_161 rfl hl (by decide) rfl (fun ls hl => ?_)
                    refine lv_goto (tgt := 34) hx hb dM_read_162 (by decide) ?_
                    exact ih (((nI k) + (tkR (mWay y.2.2.2.2.2.2.1 y.2.1) y9 k))) (((nI j) + 1)) (0) (k + (tkR (mWay y.2.2.2.2.2.2.1 y.2.1) y9 k).toNatClampNeg) (j + 1) (setA (tkY (mWay y.2.2.2.2.2.2.1 y.2.1) y9 k) j ((tkY (mWay y.2.2.2.2.2.2.1 y.2.1) y9 k).2.2.2.2.2.1)) (_) (_) (addT c3) (nI_1 j) (by have := hyo.1; omega) (by have := hyo.1; omega) ((by show (setA _ _ _).2.1 = _; exact (tkY_n _ _ _).trans hsz)) ((setA_ok (tkY_ok hyo))) (by omega) (by rw [hR]; simp only [if_pos c3, if_pos c4, if_neg c5, if_neg c6]) (hP) (hS) ls (lv_sub hl [4, 5, 0, 2, 1] rfl) 
                  · skip
                    refine lv_bipush (v := 10) hx hb dM_read_127 (by decide) ?_
                    refine lv_goto (tgt := 136) hx hb dM_read_129 (by decide) ?_
                    refine va_iast hx hb hK hP (moD hd) hS 3 0 rfl rfl (vp_in_nI (by have := hyo.1; omega) (by omega)) dM_read_136 (fun H locs hP _ hS => ?_)
                    have hP : va_P D CL (moW h qb qt qa cI ((tkY (mWay y.2.2.2.2.2.2.1 y.2.1) y9 k).1) (nI (tkY (mWay y.2.2.2.2.2.2.1 y.2.1) y9 k).2.1) (nI (tkY (mWay y.2.2.2.2.2.2.1 y.2.1) y9 k).2.2.1) ((tkY (mWay y.2.2.2.2.2.2.1 y.2.1) y9 k).2.2.2.1) (nI (tkY (mWay y.2.2.2.2.2.2.1 y.2.1) y9 k).2.2.2.2.1) ((tkY (mWay y.2.2.2.2.2.2.1 y.2.1) y9 k).2.2.2.2.2.1) ((tkY (mWay y.2.2.2.2.2.2.1 y.2.1) y9 k).2.2.2.2.2.2.1) ((tkY (mWay y.2.2.2.2.2.2.1 y.2.1) y9 k).2.2.2.2.2.2.2.1) (upd ((tkY (mWay y.2.2.2.2.2.2.1 y.2.1) y9 k).2.2.2.2.2.2.2.2) ((nI j)).toNatClampNeg (10))) H := hP
                    have hP : va_P D CL (moZ h qb qt qa cI (setA (tkY (mWay y.2.2.2.2.2.2.1 y.2.1) y9 k) j (10))) _ := va_Pe (by simp only [setA, nI_clamp (show j < 2 ^ 31 by omega)] : moW h qb qt qa cI ((tkY (mWay y.2.2.2.2.2.2.1 y.2.1) y9 k).1) (nI (tkY (mWay y.2.2.2.2.2.2.1 y.2.1) y9 k).2.1) (nI (tkY (mWay y.2.2.2.2.2.2.1 y.2.1) y9 k).2.2.1) ((tkY (mWay y.2.2.2.2.2.2.1 y.2.1) y9 k).2.2.2.1) (nI (tkY (mWay y.2.2.2.2.2.2.1 y.2.1) y9 k).2.2.2.2.1) ((tkY (mWay y.2.2.2.2.2.2.1 y.2.1) y9 k).2.2.2.2.2.1) ((tkY (mWay y.2.2.2.2.2.2.1 y.2.1) y9 k).2.2.2.2.2.2.1) ((tkY (mWay y.2.2.2.2.2.2.1 y.2.1) y9 k).2.2.2.2.2.2.2.1) (upd ((tkY (mWay y.2.2.2.2.2.2.1 y.2.1) y9 k).2.2.2.2.2.2.2.2) ((nI j)).toNatClampNeg (10)) = moZ h qb qt qa cI (setA (tkY (mWay y.2.2.2.2.2.2.1 y.2.1) y9 k) j (10))) hP
                    refine lv_iload_n hx hb dM_read_137 rfl (lv_at hl 4 rfl) ?_
                    refine lv_iconst (v := 1) hx hb dM_read_138 (by decide) ?_
                    refine lv_iadd hx hb dM_read_139 ?_
                    refine lv_istore_n (lv' := [(3, .int ((nI j) + 1)), (5, .int (tkR (mWay y.2.2.2.2.2.2.1 y.2.1) y9 k)), (1, .int (mWay ((0, y.2)).2.2.2.2.2.2.1 ((0, y.2)).2.1)), (0, .ref h), (2, .int (nI k)), (4, .int b)]) hx hb dM_read_140 rfl hl (by decide) rfl (fun ls hl => ?_)
                    refine lv_aload_n hx hb dM_read_141 rfl (lv_at hl 3 rfl) ?_
                    refine va_get (D := D) (ci := 1) (v := .int ((tkY (mWay y.2.2.2.2.2.2.1 y.2.1) y9 k).2.2.2.2.2.1)) (C := "SignReaderModel") (T := T_M) (N := 9) hx hb hts i_M hown hK hP 0 rfl rfl 8 (by decide) (hts _ k399) (fun _ h9 => h9) rfl dM_read_142 ?_
                    refine lv_bipush (v := 13) hx hb dM_read_145 (by decide) ?_
                    refine lv_icmp_ne (tgt := 154) hx hb dM_read_147 (by decide) (fun c8 => absurd c8 (fun h9 => h9 c6)) (fun c8 => ?_)
                    refine lv_iconst (v := 1) hx hb dM_read_150 (by decide) ?_
                    refine lv_goto (tgt := 155) hx hb dM_read_151 (by decide) ?_
                    refine lv_istore (lv' := [(4, .int 1), (3, .int ((nI j) + 1)), (5, .int (tkR (mWay y.2.2.2.2.2.2.1 y.2.1) y9 k)), (1, .int (mWay ((0, y.2)).2.2.2.2.2.2.1 ((0, y.2)).2.1)), (0, .ref h), (2, .int (nI k))]) hx hb dM_read_155 hl (by decide) rfl (fun ls hl => ?_)
                    refine lv_iload_n hx hb dM_read_157 rfl (lv_at hl 5 rfl) ?_
                    refine lv_iload hx hb dM_read_158 (lv_at hl 2 rfl) ?_
                    refine lv_iadd hx hb dM_read_160 ?_
                    refine lv_istore_n (lv' := [(2, .int ((nI k) + (tkR (mWay y.2.2.2.2.2.2.1 y.2.1) y9 k))), (4, .int 1), (3, .int ((nI j) + 1)), (5, .int (tkR (mWay y.2.2.2.2.2.2.1 y.2.1) y9 k)), (1, .int (mWay ((0, y.2)).2.2.2.2.2.2.1 ((0, y.2)).2.1)), (0, .ref h)]) hx hb dM_read_161 rfl hl (by decide) rfl (fun ls hl => ?_)
                    refine lv_goto (tgt := 34) hx hb dM_read_162 (by decide) ?_
                    exact ih (((nI k) + (tkR (mWay y.2.2.2.2.2.2.1 y.2.1) y9 k))) (((nI j) + 1)) (1) (k + (tkR (mWay y.2.2.2.2.2.2.1 y.2.1) y9 k).toNatClampNeg) (j + 1) (setA (tkY (mWay y.2.2.2.2.2.2.1 y.2.1) y9 k) j (10)) (_) (_) (addT c3) (nI_1 j) (by have := hyo.1; omega) (by have := hyo.1; omega) ((by show (setA _ _ _).2.1 = _; exact (tkY_n _ _ _).trans hsz)) ((setA_ok (tkY_ok hyo))) (by omega) (by rw [hR]; simp only [if_pos c3, if_pos c4, if_neg c5, if_pos c6]) (hP) (hS) ls (lv_sub hl [4, 5, 0, 2, 1] rfl) 
                · skip
                  refine lv_iload hx hb dM_read_108 (lv_at hl 5 rfl) ?_
                  refine lv_if_ne (tgt := 141) hx hb dM_read_110 (by decide) (fun c9 => ?_) (fun c9 => ?_)
                  · skip
                    refine lv_aload_n hx hb dM_read_141 rfl (lv_at hl 2 rfl) ?_
                    refine va_get (D := D) (ci := 1) (v := .int ((tkY (mWay y.2.2.2.2.2.2.1 y.2.1) y9 k).2.2.2.2.2.1)) (C := "SignReaderModel") (T := T_M) (N := 9) hx hb hts i_M hown hK hP 0 rfl rfl 8 (by decide) (hts _ k399) (fun _ h9 => h9) rfl dM_read_142 ?_
                    refine lv_bipush (v := 13) hx hb dM_read_145 (by decide) ?_
                    refine lv_icmp_ne (tgt := 154) hx hb dM_read_147 (by decide) (fun c10 => ?_) (fun c10 => ?_)
                    · skip
                      refine lv_iconst (v := 0) hx hb dM_read_154 (by decide) ?_
                      refine lv_istore (lv' := [(4, .int 0), (5, .int (tkR (mWay y.2.2.2.2.2.2.1 y.2.1) y9 k)), (1, .int (mWay ((0, y.2)).2.2.2.2.2.2.1 ((0, y.2)).2.1)), (0, .ref h), (2, .int (nI k)), (3, .int (nI j))]) hx hb dM_read_155 hl (by decide) rfl (fun ls hl => ?_)
                      refine lv_iload_n hx hb dM_read_157 rfl (lv_at hl 4 rfl) ?_
                      refine lv_iload hx hb dM_read_158 (lv_at hl 1 rfl) ?_
                      refine lv_iadd hx hb dM_read_160 ?_
                      refine lv_istore_n (lv' := [(2, .int ((nI k) + (tkR (mWay y.2.2.2.2.2.2.1 y.2.1) y9 k))), (4, .int 0), (5, .int (tkR (mWay y.2.2.2.2.2.2.1 y.2.1) y9 k)), (1, .int (mWay ((0, y.2)).2.2.2.2.2.2.1 ((0, y.2)).2.1)), (0, .ref h), (3, .int (nI j))]) hx hb dM_read_161 rfl hl (by decide) rfl (fun ls hl => ?_)
                      refine lv_goto (tgt := 34) hx hb dM_read_162 (by decide) ?_
                      exact ih (((nI k) + (tkR (mWay y.2.2.2.2.2.2.1 y.2.1) y9 k))) ((nI j)) (0) (k + (tkR (mWay y.2.2.2.2.2.2.1 y.2.1) y9 k).toNatClampNeg) (j) (tkY (mWay y.2.2.2.2.2.2.1 y.2.1) y9 k) (_) (_) (addT c3) (rfl) (by have := hyo.1; omega) (by have := hyo.1; omega) ((tkY_n _ _ _).trans hsz) ((tkY_ok hyo)) (by omega) (by rw [hR]; simp only [if_pos c3, if_pos c4, if_pos c5, if_neg c9, if_neg c10]) (hP) (hS) ls (lv_sub hl [3, 4, 0, 5, 1] rfl) 
                    · skip
                      refine lv_iconst (v := 1) hx hb dM_read_150 (by decide) ?_
                      refine lv_goto (tgt := 155) hx hb dM_read_151 (by decide) ?_
                      refine lv_istore (lv' := [(4, .int 1), (5, .int (tkR (mWay y.2.2.2.2.2.2.1 y.2.1) y9 k)), (1, .int (mWay ((0, y.2)).2.2.2.2.2.2.1 ((0, y.2)).2.1)), (0, .ref h), (2, .int (nI k)), (3, .int (nI j))]) hx hb dM_read_155 hl (by decide) rfl (fun ls hl => ?_)
                      refine lv_iload_n hx hb dM_read_157 rfl (lv_at hl 4 rfl) ?_
                      refine lv_iload hx hb dM_read_158 (lv_at hl 1 rfl) ?_
                      refine lv_iadd hx hb dM_read_160 ?_
                      refine lv_istore_n (lv' := [(2, .int ((nI k) + (tkR (mWay y.2.2.2.2.2.2.1 y.2.1) y9 k))), (4, .int 1), (5, .int (tkR (mWay y.2.2.2.2.2.2.1 y.2.1) y9 k)), (1, .int (mWay ((0, y.2)).2.2.2.2.2.2.1 ((0, y.2)).2.1)), (0, .ref h), (3, .int (nI j))]) hx hb dM_read_161 rfl hl (by decide) rfl (fun ls hl => ?_)
                      refine lv_goto (tgt := 34) hx hb dM_read_162 (by decide) ?_
                      exact ih (((nI k) + (tkR (mWay y.2.2.2.2.2.2.1 y.2.1) y9 k))) ((nI j)) (1) (k + (tkR (mWay y.2.2.2.2.2.2.1 y.2.1) y9 k).toNatClampNeg) (j) (tkY (mWay y.2.2.2.2.2.2.1 y.2.1) y9 k) (_) (_) (addT c3) (rfl) (by have := hyo.1; omega) (by have := hyo.1; omega) ((tkY_n _ _ _).trans hsz) ((tkY_ok hyo)) (by omega) (by rw [hR]; simp only [if_pos c3, if_pos c4, if_pos c5, if_neg c9, if_pos c10]) (hP) (hS) ls (lv_sub hl [3, 4, 0, 5, 1] rfl) 
                  · skip
                    refine lv_aload_n hx hb dM_read_113 rfl (lv_at hl 2 rfl) ?_
                    refine va_get (D := D) (ci := 1) (v := .ref qa) (C := "SignReaderModel") (T := T_M) (N := 9) hx hb hts i_M hown hK hP 0 rfl rfl 6 (by decide) (hts _ k397) (fun _ h9 => h9) rfl dM_read_114 ?_
                    refine lv_iload_n hx hb dM_read_117 rfl (lv_at hl 4 rfl) ?_
                    refine lv_aload_n hx hb dM_read_118 rfl (lv_at hl 2 rfl) ?_
                    refine va_get (D := D) (ci := 1) (v := .int ((tkY (mWay y.2.2.2.2.2.2.1 y.2.1) y9 k).2.2.2.2.2.1)) (C := "SignReaderModel") (T := T_M) (N := 9) hx hb hts i_M hown hK hP 0 rfl rfl 8 (by decide) (hts _ k399) (fun _ h9 => h9) rfl dM_read_119 ?_
                    refine lv_bipush (v := 13) hx hb dM_read_122 (by decide) ?_
                    refine lv_icmp_ne (tgt := 132) hx hb dM_read_124 (by decide) (fun c11 => ?_) (fun c11 => ?_)
                    · skip
                      refine lv_aload_n hx hb dM_read_132 rfl (lv_at hl 2 rfl) ?_
                      refine va_get (D := D) (ci := 1) (v := .int ((tkY (mWay y.2.2.2.2.2.2.1 y.2.1) y9 k).2.2.2.2.2.1)) (C := "SignReaderModel") (T := T_M) (N := 9) hx hb hts i_M hown hK hP 0 rfl rfl 8 (by decide) (hts _ k399) (fun _ h9 => h9) rfl dM_read_133 ?_
                      refine va_iast hx hb hK hP (moD hd) hS 3 0 rfl rfl (vp_in_nI (by have := hyo.1; omega) (by omega)) dM_read_136 (fun H locs hP _ hS => ?_)
                      have hP : va_P D CL (moW h qb qt qa cI ((tkY (mWay y.2.2.2.2.2.2.1 y.2.1) y9 k).1) (nI (tkY (mWay y.2.2.2.2.2.2.1 y.2.1) y9 k).2.1) (nI (tkY (mWay y.2.2.2.2.2.2.1 y.2.1) y9 k).2.2.1) ((tkY (mWay y.2.2.2.2.2.2.1 y.2.1) y9 k).2.2.2.1) (nI (tkY (mWay y.2.2.2.2.2.2.1 y.2.1) y9 k).2.2.2.2.1) ((tkY (mWay y.2.2.2.2.2.2.1 y.2.1) y9 k).2.2.2.2.2.1) ((tkY (mWay y.2.2.2.2.2.2.1 y.2.1) y9 k).2.2.2.2.2.2.1) ((tkY (mWay y.2.2.2.2.2.2.1 y.2.1) y9 k).2.2.2.2.2.2.2.1) (upd ((tkY (mWay y.2.2.2.2.2.2.1 y.2.1) y9 k).2.2.2.2.2.2.2.2) ((nI j)).toNatClampNeg (((tkY (mWay y.2.2.2.2.2.2.1 y.2.1) y9 k).2.2.2.2.2.1)))) H := hP
                      have hP : va_P D CL (moZ h qb qt qa cI (setA (tkY (mWay y.2.2.2.2.2.2.1 y.2.1) y9 k) j ((tkY (mWay y.2.2.2.2.2.2.1 y.2.1) y9 k).2.2.2.2.2.1))) _ := va_Pe (by simp only [setA, nI_clamp (show j < 2 ^ 31 by omega)] : moW h qb qt qa cI ((tkY (mWay y.2.2.2.2.2.2.1 y.2.1) y9 k).1) (nI (tkY (mWay y.2.2.2.2.2.2.1 y.2.1) y9 k).2.1) (nI (tkY (mWay y.2.2.2.2.2.2.1 y.2.1) y9 k).2.2.1) ((tkY (mWay y.2.2.2.2.2.2.1 y.2.1) y9 k).2.2.2.1) (nI (tkY (mWay y.2.2.2.2.2.2.1 y.2.1) y9 k).2.2.2.2.1) ((tkY (mWay y.2.2.2.2.2.2.1 y.2.1) y9 k).2.2.2.2.2.1) ((tkY (mWay y.2.2.2.2.2.2.1 y.2.1) y9 k).2.2.2.2.2.2.1) ((tkY (mWay y.2.2.2.2.2.2.1 y.2.1) y9 k).2.2.2.2.2.2.2.1) (upd ((tkY (mWay y.2.2.2.2.2.2.1 y.2.1) y9 k).2.2.2.2.2.2.2.2) ((nI j)).toNatClampNeg (((tkY (mWay y.2.2.2.2.2.2.1 y.2.1) y9 k).2.2.2.2.2.1))) = moZ h qb qt qa cI (setA (tkY (mWay y.2.2.2.2.2.2.1 y.2.1) y9 k) j ((tkY (mWay y.2.2.2.2.2.2.1 y.2.1) y9 k).2.2.2.2.2.1))) hP
                      refine lv_iload_n hx hb dM_read_137 rfl (lv_at hl 4 rfl) ?_
                      refine lv_iconst (v := 1) hx hb dM_read_138 (by decide) ?_
                      refine lv_iadd hx hb dM_read_139 ?_
                      refine lv_istore_n (lv' := [(3, .int ((nI j) + 1)), (5, .int (tkR (mWay y.2.2.2.2.2.2.1 y.2.1) y9 k)), (1, .int (mWay ((0, y.2)).2.2.2.2.2.2.1 ((0, y.2)).2.1)), (0, .ref h), (2, .int (nI k)), (4, .int b)]) hx hb dM_read_140 rfl hl (by decide) rfl (fun ls hl => ?_)
                      refine lv_aload_n hx hb dM_read_141 rfl (lv_at hl 3 rfl) ?_
                      refine va_get (D := D) (ci := 1) (v := .int ((tkY (mWay y.2.2.2.2.2.2.1 y.2.1) y9 k).2.2.2.2.2.1)) (C := "SignReaderModel") (T := T_M) (N := 9) hx hb hts i_M hown hK hP 0 rfl rfl 8 (by decide) (hts _ k399) (fun _ h9 => h9) rfl dM_read_142 ?_
                      refine lv_bipush (v := 13) hx hb dM_read_145 (by decide) ?_
                      refine lv_icmp_ne (tgt := 154) hx hb dM_read_147 (by decide) (fun c12 => ?_) (fun c12 => absurd c12 c11)
                      refine lv_iconst (v := 0) hx hb dM_read_154 (by decide) ?_
                      refine lv_istore (lv' := [(4, .int 0), (3, .int ((nI j) + 1)), (5, .int (tkR (mWay y.2.2.2.2.2.2.1 y.2.1) y9 k)), (1, .int (mWay ((0, y.2)).2.2.2.2.2.2.1 ((0, y.2)).2.1)), (0, .ref h), (2, .int (nI k))]) hx hb dM_read_155 hl (by decide) rfl (fun ls hl => ?_)
                      refine lv_iload_n hx hb dM_read_157 rfl (lv_at hl 5 rfl) ?_
                      refine lv_iload hx hb dM_read_158 (lv_at hl 2 rfl) ?_
                      refine lv_iadd hx hb dM_read_160 ?_
                      refine lv_istore_n (lv' := [(2, .int ((nI k) + (tkR (mWay y.2.2.2.2.2.2.1 y.2.1) y9 k))), (4, .int 0), (3, .int ((nI j) + 1)), (5, .int (tkR (mWay y.2.2.2.2.2.2.1 y.2.1) y9 k)), (1, .int (mWay ((0, y.2)).2.2.2.2.2.2.1 ((0, y.2)).2.1)), (0, .ref h)]) hx hb dM_read_161 rfl hl (by decide) rfl (fun ls hl => ?_)
                      refine lv_goto (tgt := 34) hx hb dM_read_162 (by decide) ?_
                      exact ih (((nI k) + (tkR (mWay y.2.2.2.2.2.2.1 y.2.1) y9 k))) (((nI j) + 1)) (0) (k + (tkR (mWay y.2.2.2.2.2.2.1 y.2.1) y9 k).toNatClampNeg) (j + 1) (setA (tkY (mWay y.2.2.2.2.2.2.1 y.2.1) y9 k) j ((tkY (mWay y.2.2.2.2.2.2.1 y.2.1) y9 k).2.2.2.2.2.1)) (_) (_) (addT c3) (nI_1 j) (by have := hyo.1; omega) (by have := hyo.1; omega) ((by show (setA _ _ _).2.1 = _; exact (tkY_n _ _ _).trans hsz)) ((setA_ok (tkY_ok hyo))) (by omega) (by rw [hR]; simp only [if_pos c3, if_pos c4, if_pos c5, if_pos c9, if_neg c11]) (hP) (hS) ls (lv_sub hl [4, 5, 0, 2, 1] rfl) 
                    · skip
                      refine lv_bipush (v := 10) hx hb dM_read_127 (by decide) ?_
                      refine lv_goto (tgt := 136) hx hb dM_read_129 (by decide) ?_
                      refine va_iast hx hb hK hP (moD hd) hS 3 0 rfl rfl (vp_in_nI (by have := hyo.1; omega) (by omega)) dM_read_136 (fun H locs hP _ hS => ?_)
                      have hP : va_P D CL (moW h qb qt qa cI ((tkY (mWay y.2.2.2.2.2.2.1 y.2.1) y9 k).1) (nI (tkY (mWay y.2.2.2.2.2.2.1 y.2.1) y9 k).2.1) (nI (tkY (mWay y.2.2.2.2.2.2.1 y.2.1) y9 k).2.2.1) ((tkY (mWay y.2.2.2.2.2.2.1 y.2.1) y9 k).2.2.2.1) (nI (tkY (mWay y.2.2.2.2.2.2.1 y.2.1) y9 k).2.2.2.2.1) ((tkY (mWay y.2.2.2.2.2.2.1 y.2.1) y9 k).2.2.2.2.2.1) ((tkY (mWay y.2.2.2.2.2.2.1 y.2.1) y9 k).2.2.2.2.2.2.1) ((tkY (mWay y.2.2.2.2.2.2.1 y.2.1) y9 k).2.2.2.2.2.2.2.1) (upd ((tkY (mWay y.2.2.2.2.2.2.1 y.2.1) y9 k).2.2.2.2.2.2.2.2) ((nI j)).toNatClampNeg (10))) H := hP
                      have hP : va_P D CL (moZ h qb qt qa cI (setA (tkY (mWay y.2.2.2.2.2.2.1 y.2.1) y9 k) j (10))) _ := va_Pe (by simp only [setA, nI_clamp (show j < 2 ^ 31 by omega)] : moW h qb qt qa cI ((tkY (mWay y.2.2.2.2.2.2.1 y.2.1) y9 k).1) (nI (tkY (mWay y.2.2.2.2.2.2.1 y.2.1) y9 k).2.1) (nI (tkY (mWay y.2.2.2.2.2.2.1 y.2.1) y9 k).2.2.1) ((tkY (mWay y.2.2.2.2.2.2.1 y.2.1) y9 k).2.2.2.1) (nI (tkY (mWay y.2.2.2.2.2.2.1 y.2.1) y9 k).2.2.2.2.1) ((tkY (mWay y.2.2.2.2.2.2.1 y.2.1) y9 k).2.2.2.2.2.1) ((tkY (mWay y.2.2.2.2.2.2.1 y.2.1) y9 k).2.2.2.2.2.2.1) ((tkY (mWay y.2.2.2.2.2.2.1 y.2.1) y9 k).2.2.2.2.2.2.2.1) (upd ((tkY (mWay y.2.2.2.2.2.2.1 y.2.1) y9 k).2.2.2.2.2.2.2.2) ((nI j)).toNatClampNeg (10)) = moZ h qb qt qa cI (setA (tkY (mWay y.2.2.2.2.2.2.1 y.2.1) y9 k) j (10))) hP
                      refine lv_iload_n hx hb dM_read_137 rfl (lv_at hl 4 rfl) ?_
                      refine lv_iconst (v := 1) hx hb dM_read_138 (by decide) ?_
                      refine lv_iadd hx hb dM_read_139 ?_
                      refine lv_istore_n (lv' := [(3, .int ((nI j) + 1)), (5, .int (tkR (mWay y.2.2.2.2.2.2.1 y.2.1) y9 k)), (1, .int (mWay ((0, y.2)).2.2.2.2.2.2.1 ((0, y.2)).2.1)), (0, .ref h), (2, .int (nI k)), (4, .int b)]) hx hb dM_read_140 rfl hl (by decide) rfl (fun ls hl => ?_)
                      refine lv_aload_n hx hb dM_read_141 rfl (lv_at hl 3 rfl) ?_
                      refine va_get (D := D) (ci := 1) (v := .int ((tkY (mWay y.2.2.2.2.2.2.1 y.2.1) y9 k).2.2.2.2.2.1)) (C := "SignReaderModel") (T := T_M) (N := 9) hx hb hts i_M hown hK hP 0 rfl rfl 8 (by decide) (hts _ k399) (fun _ h9 => h9) rfl dM_read_142 ?_
                      refine lv_bipush (v := 13) hx hb dM_read_145 (by decide) ?_
                      refine lv_icmp_ne (tgt := 154) hx hb dM_read_147 (by decide) (fun c13 => absurd c13 (fun h9 => h9 c11)) (fun c13 => ?_)
                      refine lv_iconst (v := 1) hx hb dM_read_150 (by decide) ?_
                      refine lv_goto (tgt := 155) hx hb dM_read_151 (by decide) ?_
                      refine lv_istore (lv' := [(4, .int 1), (3, .int ((nI j) + 1)), (5, .int (tkR (mWay y.2.2.2.2.2.2.1 y.2.1) y9 k)), (1, .int (mWay ((0, y.2)).2.2.2.2.2.2.1 ((0, y.2)).2.1)), (0, .ref h), (2, .int (nI k))]) hx hb dM_read_155 hl (by decide) rfl (fun ls hl => ?_)
                      refine lv_iload_n hx hb dM_read_157 rfl (lv_at hl 5 rfl) ?_
                      refine lv_iload hx hb dM_read_158 (lv_at hl 2 rfl) ?_
                      refine lv_iadd hx hb dM_read_160 ?_
                      refine lv_istore_n (lv' := [(2, .int ((nI k) + (tkR (mWay y.2.2.2.2.2.2.1 y.2.1) y9 k))), (4, .int 1), (3, .int ((nI j) + 1)), (5, .int (tkR (mWay y.2.2.2.2.2.2.1 y.2.1) y9 k)), (1, .int (mWay ((0, y.2)).2.2.2.2.2.2.1 ((0, y.2)).2.1)), (0, .ref h)]) hx hb dM_read_161 rfl hl (by decide) rfl (fun ls hl => ?_)
                      refine lv_goto (tgt := 34) hx hb dM_read_162 (by decide) ?_
                      exact ih (((nI k) + (tkR (mWay y.2.2.2.2.2.2.1 y.2.1) y9 k))) (((nI j) + 1)) (1) (k + (tkR (mWay y.2.2.2.2.2.2.1 y.2.1) y9 k).toNatClampNeg) (j + 1) (setA (tkY (mWay y.2.2.2.2.2.2.1 y.2.1) y9 k) j (10)) (_) (_) (addT c3) (nI_1 j) (by have := hyo.1; omega) (by have := hyo.1; omega) ((by show (setA _ _ _).2.1 = _; exact (tkY_n _ _ _).trans hsz)) ((setA_ok (tkY_ok hyo))) (by omega) (by rw [hR]; simp only [if_pos c3, if_pos c4, if_pos c5, if_pos c9, if_pos c11]) (hP) (hS) ls (lv_sub hl [4, 5, 0, 2, 1] rfl) 
              · skip
                replace c4 := bI_f c4
                refine lv_aload_n hx hb dM_read_92 rfl (lv_at hl 2 rfl) ?_
                refine lv_iconst (v := 0) hx hb dM_read_93 (by decide) ?_
                refine va_put (D := D) (ci := 1) (v := .int 0) (ty := .int) (C := "SignReaderModel") (T := T_M) (N := 9) hx hb hts i_M t_M t_M_ok n_M hown hK hP (moD hd) hS 0 rfl rfl 2 (by decide) (hts _ k393) (fun _ h9 => h9) rfl (by decide +kernel) rfl rfl (Nat.le_of_ble_eq_true rfl) dM_read_94 (fun H locs hP _ hS => ?_)
                have hP : va_P D CL (moW h qb qt qa cI ((tkY (mWay y.2.2.2.2.2.2.1 y.2.1) y9 k).1) (0) (nI (tkY (mWay y.2.2.2.2.2.2.1 y.2.1) y9 k).2.2.1) ((tkY (mWay y.2.2.2.2.2.2.1 y.2.1) y9 k).2.2.2.1) (nI (tkY (mWay y.2.2.2.2.2.2.1 y.2.1) y9 k).2.2.2.2.1) ((tkY (mWay y.2.2.2.2.2.2.1 y.2.1) y9 k).2.2.2.2.2.1) ((tkY (mWay y.2.2.2.2.2.2.1 y.2.1) y9 k).2.2.2.2.2.2.1) ((tkY (mWay y.2.2.2.2.2.2.1 y.2.1) y9 k).2.2.2.2.2.2.2.1) ((tkY (mWay y.2.2.2.2.2.2.1 y.2.1) y9 k).2.2.2.2.2.2.2.2)) H := hP
                refine lv_iload_n hx hb dM_read_97 rfl (lv_at hl 3 rfl) ?_
                have hP : va_P D CL (moZ h qb qt qa cI (yRead y)) _ := va_Pe (by rw [yRead, hR]; simp only [if_pos c3, if_neg (Bool.eq_false_iff.mp c4)]; rw [if_neg (nI_m1 (by omega))]; exact moZ_r _ : moW h qb qt qa cI ((tkY (mWay y.2.2.2.2.2.2.1 y.2.1) y9 k).1) (0) (nI (tkY (mWay y.2.2.2.2.2.2.1 y.2.1) y9 k).2.2.1) ((tkY (mWay y.2.2.2.2.2.2.1 y.2.1) y9 k).2.2.2.1) (nI (tkY (mWay y.2.2.2.2.2.2.1 y.2.1) y9 k).2.2.2.2.1) ((tkY (mWay y.2.2.2.2.2.2.1 y.2.1) y9 k).2.2.2.2.2.1) ((tkY (mWay y.2.2.2.2.2.2.1 y.2.1) y9 k).2.2.2.2.2.2.1) ((tkY (mWay y.2.2.2.2.2.2.1 y.2.1) y9 k).2.2.2.2.2.2.2.1) ((tkY (mWay y.2.2.2.2.2.2.1 y.2.1) y9 k).2.2.2.2.2.2.2.2) = moZ h qb qt qa cI (yRead y)) hP
                exact mu_retI S hr hk (by rw [hR]; simp only [if_pos c3, if_neg (Bool.eq_false_iff.mp c4)]) hP hS dM_read_98
          refine lv_iload_n hx hb dM_read_42 rfl (lv_at hl 0 rfl) ?_
          refine lv_iconst (v := 1) hx hb dM_read_43 (by decide) ?_
          refine lv_icmp_eq (tgt := 52) hx hb dM_read_44 (by decide) (fun c14 => ?_) (fun c14 => ?_)
          · skip
            refine lv_aload_n hx hb dM_read_52 rfl (lv_at hl 1 rfl) ?_
            refine lv_iload_n hx hb dM_read_53 rfl (lv_at hl 2 rfl) ?_
            refine lv_iload_n hx hb dM_read_54 rfl (lv_at hl 0 rfl) ?_
            refine lv_iconst (v := 1) hx hb dM_read_55 (by decide) ?_
            refine lv_icmp_ne (tgt := 63) hx hb dM_read_56 (by decide) (fun c15 => absurd c15 (fun h9 => h9 c14)) (fun c15 => ?_)
            refine lv_iconst (v := 1) hx hb dM_read_59 (by decide) ?_
            refine lv_goto (tgt := 64) hx hb dM_read_60 (by decide) ?_
            refine mu_V (As := [.int (nI k), .int 1]) (rest := []) (n := 2) (C := "SignReaderModel") S (cM_takeSixteen l D h qb qt qa cI (y9) (k) (1) hd hyo (by omega)) k454 k2 k453 ks20 (by decide +kernel) ⟨rfl, rfl⟩ k451 (by decide) (xM_V ⟨hP, hK⟩) rfl rfl hl.1 (Nat.le_of_ble_eq_true rfl) ⟨Nat.le_refl _, Nat.le_refl _⟩ dM_read_64 hS (fun _ h9 => h9) (fun H locs hP hS => ?_)
            have hP : va_P D CL (moZ h qb qt qa cI (y16 y9 k 1)) H := hP
            refine lv_goto (tgt := 75) hx hb dM_read_67 (by decide) ?_
            exact J75  (((m16 y9.2.2.2.2.2.2.1 y9.2.1 k 1).1)) (y16 y9 k 1) (_) (_) (by rw [tkR, if_pos c14]) (by rw [tkY, if_pos c14]) (hP) (hS) ls (lv_sub hl [0, 1, 2, 3, 4] rfl) 
          · skip
            refine lv_iload_n hx hb dM_read_47 rfl (lv_at hl 0 rfl) ?_
            refine lv_iconst (v := 2) hx hb dM_read_48 (by decide) ?_
            refine lv_icmp_ne (tgt := 70) hx hb dM_read_49 (by decide) (fun c16 => ?_) (fun c16 => ?_)
            · skip
              refine lv_aload_n hx hb dM_read_70 rfl (lv_at hl 1 rfl) ?_
              refine lv_iload_n hx hb dM_read_71 rfl (lv_at hl 2 rfl) ?_
              refine mu_V (As := [.int (nI k)]) (rest := []) (n := 1) (C := "SignReaderModel") S (cM_takeEight l D h qb qt qa cI (y9) (k) hd hyo (by omega)) k470 k2 k469 ks22 (by decide +kernel) ⟨rfl, rfl⟩ k467 (by decide) (xM_V ⟨hP, hK⟩) rfl rfl hl.1 (Nat.le_of_ble_eq_true rfl) ⟨Nat.le_refl _, Nat.le_refl _⟩ dM_read_72 hS (fun _ h9 => h9) (fun H locs hP hS => ?_)
              have hP : va_P D CL (moZ h qb qt qa cI (y8 y9 k)) H := hP
              exact J75  (((m8 y9.2.2.2.2.2.2.1 y9.2.1 k).1)) (y8 y9 k) (_) (_) (by rw [tkR, if_neg c14, if_neg c16]) (by rw [tkY, if_neg c14, if_neg c16]) (hP) (hS) ls (lv_sub hl [0, 1, 2, 3, 4] rfl) 
            · skip
              refine lv_aload_n hx hb dM_read_52 rfl (lv_at hl 1 rfl) ?_
              refine lv_iload_n hx hb dM_read_53 rfl (lv_at hl 2 rfl) ?_
              refine lv_iload_n hx hb dM_read_54 rfl (lv_at hl 0 rfl) ?_
              refine lv_iconst (v := 1) hx hb dM_read_55 (by decide) ?_
              refine lv_icmp_ne (tgt := 63) hx hb dM_read_56 (by decide) (fun c17 => ?_) (fun c17 => absurd c17 c14)
              refine lv_iconst (v := 0) hx hb dM_read_63 (by decide) ?_
              refine mu_V (As := [.int (nI k), .int 0]) (rest := []) (n := 2) (C := "SignReaderModel") S (cM_takeSixteen l D h qb qt qa cI (y9) (k) (0) hd hyo (by omega)) k454 k2 k453 ks20 (by decide +kernel) ⟨rfl, rfl⟩ k451 (by decide) (xM_V ⟨hP, hK⟩) rfl rfl hl.1 (Nat.le_of_ble_eq_true rfl) ⟨Nat.le_refl _, Nat.le_refl _⟩ dM_read_64 hS (fun _ h9 => h9) (fun H locs hP hS => ?_)
              have hP : va_P D CL (moZ h qb qt qa cI (y16 y9 k 0)) H := hP
              refine lv_goto (tgt := 75) hx hb dM_read_67 (by decide) ?_
              exact J75  (((m16 y9.2.2.2.2.2.2.1 y9.2.1 k 0).1)) (y16 y9 k 0) (_) (_) (by rw [tkR, if_neg c14, if_pos c16]) (by rw [tkY, if_neg c14, if_pos c16]) (hP) (hS) ls (lv_sub hl [0, 1, 2, 3, 4] rfl) 
    exact J34 (4110) ((nI (stW (mWay y.2.2.2.2.2.2.1 y.2.1)))) (0) (0) (stW (mWay y.2.2.2.2.2.2.1 y.2.1)) (0) ((0, y.2)) (_) (_) (rfl) (rfl) (by unfold stW; split; omega; split <;> omega) (by omega) (rfl) ((y0_ok hy)) (by omega) (by rw [yRR]) (hP) (hS) ls (lv_sub hl [3, 4, 2, 1, 0] rfl) 
  refine lv_iload_n hx hb dM_read_10 rfl (lv_at hl 0 rfl) ?_
  refine lv_if_ne (tgt := 18) hx hb dM_read_11 (by decide) (fun c18 => ?_) (fun c18 => ?_)
  · skip
    refine lv_iload_n hx hb dM_read_18 rfl (lv_at hl 0 rfl) ?_
    refine lv_iconst (v := 3) hx hb dM_read_19 (by decide) ?_
    refine lv_icmp_ne (tgt := 27) hx hb dM_read_20 (by decide) (fun c19 => ?_) (fun c19 => ?_)
    · skip
      refine lv_iconst (v := 2) hx hb dM_read_27 (by decide) ?_
      exact J28  (2) (by rw [stW, if_neg c18, if_neg c19]; rfl) ls (lv_sub hl [0, 1] rfl) 
    · skip
      refine lv_iconst (v := 3) hx hb dM_read_23 (by decide) ?_
      refine lv_goto (tgt := 28) hx hb dM_read_24 (by decide) ?_
      exact J28  (3) (by rw [stW, if_neg c18, if_pos c19]; rfl) ls (lv_sub hl [0, 1] rfl) 
  · skip
    refine lv_iconst (v := 0) hx hb dM_read_14 (by decide) ?_
    refine lv_goto (tgt := 28) hx hb dM_read_15 (by decide) ?_
    exact J28  (0) (by rw [stW, if_pos c18]; rfl) ls (lv_sub hl [0, 1] rfl) 
