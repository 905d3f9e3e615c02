/-! the reference: write -/
def yK0 (y : MS) : MS := (0, y.2.1, y.2.2.1, y.2.2.2.1, 0, y.2.2.2.2.2)
def hiW (w : Int32) : Int32 := if w = 1 then 1 else 0
def yWc (w : Int32) (y : MS) (c : Int32) : MS := if w = 0 then y8w y c else if w = 3 then y8w y c else if 65536 ≤ c then yPair (yPair y (55296 + (c - 65536) / 1024) (hiW w)) (56320 + (c - 65536 - (c - 65536) / 1024 * 1024)) (hiW w) else yPair y c (hiW w)
def yWk (w : Int32) (y : MS) : Nat → MS
  | 0 => if w = 1 then yPair (yK0 y) 65279 1 else if w = 2 then yPair (yK0 y) 65279 0 else if w = 3 then y8w (yK0 y) 65279 else yK0 y
  | k + 1 => yWc w (yWk w y k) ((yWk w y k).2.2.2.2.2.2.2.1 k)
/-- all but count and aside are the same -/
def sameM (x y : MS) : Prop := x.1 = y.1 ∧ x.2.1 = y.2.1 ∧ x.2.2.1 = y.2.2.1 ∧ x.2.2.2.1 = y.2.2.2.1 ∧ x.2.2.2.2.2.2.1 = y.2.2.2.2.2.2.1 ∧ x.2.2.2.2.2.2.2.1 = y.2.2.2.2.2.2.2.1
theorem sameM.rf {y : MS} : sameM y y := ⟨rfl, rfl, rfl, rfl, rfl, rfl⟩
theorem sameM.tr {x y z : MS} (h : sameM x y) (k : sameM y z) : sameM x z := ⟨h.1.trans k.1, h.2.1.trans k.2.1, h.2.2.1.trans k.2.2.1, h.2.2.2.1.trans k.2.2.2.1, h.2.2.2.2.1.trans k.2.2.2.2.1, h.2.2.2.2.2.trans k.2.2.2.2.2⟩
theorem yPair_s (y : MS) (u hi : Int32) : sameM (yPair y u hi) y := by unfold yPair; split <;> exact ⟨rfl, rfl, rfl, rfl, rfl, rfl⟩
theorem y8w_s (y : MS) (c : Int32) : sameM (y8w y c) y ∧ (y8w y c).2.2.2.2.1 ≤ y.2.2.2.2.1 + 4 := by
  unfold y8w
  split
  · exact ⟨⟨rfl, rfl, rfl, rfl, rfl, rfl⟩, by show _ + 1 ≤ _; omega⟩
  · split
    · exact ⟨⟨rfl, rfl, rfl, rfl, rfl, rfl⟩, by show _ + 1 + 1 ≤ _; omega⟩
    · split
      · exact ⟨⟨rfl, rfl, rfl, rfl, rfl, rfl⟩, by show _ + 1 + 1 + 1 ≤ _; omega⟩
      · exact ⟨⟨rfl, rfl, rfl, rfl, rfl, rfl⟩, by show _ + 1 + 1 + 1 + 1 ≤ _; omega⟩
theorem yWc_s (w : Int32) (y : MS) (c : Int32) : sameM (yWc w y c) y ∧ (yWc w y c).2.2.2.2.1 ≤ y.2.2.2.2.1 + 4 := by
  unfold yWc
  split
  · exact y8w_s _ _
  · split
    · exact y8w_s _ _
    · split
      · exact ⟨(yPair_s _ _ _).tr (yPair_s _ _ _), by rw [yPair_ct, yPair_ct]; omega⟩
      · exact ⟨yPair_s _ _ _, by rw [yPair_ct]; omega⟩
theorem yWk_s (w : Int32) (y : MS) : ∀ k : Nat, sameM (yWk w y k) (yK0 y) ∧ (yWk w y k).2.2.2.2.1 ≤ 4 + 4 * k
  | 0 => by
    unfold yWk
    split
    · exact ⟨yPair_s _ _ _, by rw [yPair_ct]; show 0 + 2 ≤ _; omega⟩
    · split
      · exact ⟨yPair_s _ _ _, by rw [yPair_ct]; show 0 + 2 ≤ _; omega⟩
      · split
        · have := y8w_s (yK0 y) 65279
          exact ⟨this.1, this.2⟩
        · exact ⟨sameM.rf, by show 0 ≤ _; omega⟩
  | k + 1 => by
    have h1 := yWk_s w y k
    have h2 := yWc_s w (yWk w y k) ((yWk w y k).2.2.2.2.2.2.2.1 k)
    exact ⟨h2.1.tr h1.1, by show (yWc w (yWk w y k) _).2.2.2.2.1 ≤ _; omega⟩
theorem yWk_ok {w : Int32} {y : MS} {k : Nat} (hy : okY y) (hk : k ≤ 5000) : okY (yWk w y k) := by
  obtain ⟨h, hc⟩ := yWk_s w y k
  exact ⟨by rw [h.2.1]; exact hy.1, by rw [h.2.2.1]; exact hy.2.1, by omega⟩
def cpF (y : MS) (i : Nat) : Nat → Int32 := fun q => if q < i then y.2.2.2.2.2.2.2.2 q else y.2.2.2.2.2.2.1 q
def cpB (y : MS) (i : Nat) : MS := (y.1, y.2.1, y.2.2.1, y.2.2.2.1, y.2.2.2.2.1, y.2.2.2.2.2.1, cpF y i, y.2.2.2.2.2.2.2.1, y.2.2.2.2.2.2.2.2)
theorem cpB_ok {y : MS} {i : Nat} (hy : okY y) : okY (cpB y i) := hy
theorem cpF_s (y : MS) (i : Nat) : upd (cpF y i) i (y.2.2.2.2.2.2.2.2 i) = cpF y (i + 1) := by
  funext q
  simp only [upd, cpF]
  by_cases h : q = i
  · subst h; simp
  · by_cases h2 : q < i
    · simp [h, h2, show q < i + 1 by omega]
    · simp [h, h2, show ¬ q < i + 1 by omega]
theorem cpF_0 (y : MS) : cpF y 0 = y.2.2.2.2.2.2.1 := by funext q; simp [cpF]
def yWf (y : MS) : MS := (y.1, y.2.2.2.2.1, y.2.2.1, y.2.2.2.1, y.2.2.2.2.1, y.2.2.2.2.2.1, cpF y y.2.2.2.2.1, y.2.2.2.2.2.2.2.1, y.2.2.2.2.2.2.2.2)
def mwOk (w : Int32) : Bool := decide (0 ≤ w) && decide (w ≤ 3)
def yWrite (y : MS) (w : Int32) : MS := if mwOk w = true then (if (yWk w y y.2.2.1).2.2.2.2.1 ≤ 4096 then yWf (yWk w y y.2.2.1) else yWk w y y.2.2.1) else (0, y.2)
def rWrite (y : MS) (w : Int32) : Int32 := if mwOk w = true then (if (yWk w y y.2.2.1).2.2.2.2.1 ≤ 4096 then nI (yWk w y y.2.2.1).2.2.2.2.1 else -1) else -1
theorem yWrite_ok {y : MS} {w : Int32} (hy : okY y) : okY (yWrite y w) := by
  have h := yWk_ok (w := w) (k := y.2.2.1) hy (by have := hy.2.1; omega)
  unfold yWrite
  split
  · split
    · next hc => exact ⟨hc, h.2⟩
    · exact h
  · exact hy
set_option maxHeartbeats 4000000 in
set_option maxRecDepth 100000 in
theorem cM_write (l : Launch) (D : va_G) (h qb qt qa : Nat) (cI : ClassId) (y : MS) (w : Int32) (hd : ap4 h qb qt qa) (hy : okY y) : Met l yM_write (Cond.code yM_write prog_3_method_29_code 4 (some .int) :: TB) { frames := 2, cells := 0, slots := 0, locals := 44 } (gx (xM D h qb qt qa cI y) [.ref h, .int w]) (mQ (some (.int (rWrite y w))) D (moZ h qb qt qa cI (yWrite y w)) (A4 h qb qt qa)) 0 0 (A4 h qb qt qa) := by
  refine mt_of (by decide) ?_
  intro p e s m args below meth cd S hr hk hin hv
  obtain ⟨rfl, hX⟩ := hv
  have hP : va_P D CL (moZ h qb qt qa cI y) s.heap := hX.1
  have hK := hX.2
  have hy1 := hy.1
  have hy2 := hy.2.1
  have hy3 := hy.2.2
  have hS : va_S (A4 h qb qt qa) s.heap s.heap [] := va_S.rf
  have hx := S.1
  have hb := S.2.1
  have hown := S.2.2.2.1
  have hts := S.2.2.2.2
  have hl := lv_entry ([.ref h, .int w]) (n := 4) (Nat.le_of_ble_eq_true rfl)
  rw [lg_entry_eq]
  generalize (lg_sl ([.ref h, .int w]) ++ List.replicate (4 - (lg_sl ([.ref h, .int w])).length) Slot.unset).toArray = ls at hl ⊢
  have hl : lv_has ls 4 [(0, .ref h), (1, .int w)] := hl
  refine lv_aload_n hx hb dM_write_0 rfl (lv_at hl 0 rfl) ?_
  refine lv_iconst (v := 0) hx hb dM_write_1 (by decide) ?_
  refine va_put (D := D) (ci := 1) (v := .int 0) (ty := .int) (C := "SignReaderModel") (T := T_M) (N := 9) hx hb hts i_M t_M t_M_ok n_M hown hK hP (moD hd) hS 0 rfl rfl 0 (by decide) (hts _ k391) (fun _ h9 => h9) rfl (by decide +kernel) rfl rfl (Nat.le_of_ble_eq_true rfl) dM_write_2 (fun H locs hP _ hS => ?_)
  have hP : va_P D CL (moW h qb qt qa cI (0) (nI y.2.1) (nI y.2.2.1) (y.2.2.2.1) (nI y.2.2.2.2.1) (y.2.2.2.2.2.1) (y.2.2.2.2.2.2.1) (y.2.2.2.2.2.2.2.1) (y.2.2.2.2.2.2.2.2)) H := hP
  have hP : va_P D CL (moZ h qb qt qa cI ((0, y.2))) _ := va_Pe (rfl : moW h qb qt qa cI (0) (nI y.2.1) (nI y.2.2.1) (y.2.2.2.1) (nI y.2.2.2.2.1) (y.2.2.2.2.2.1) (y.2.2.2.2.2.2.1) (y.2.2.2.2.2.2.2.1) (y.2.2.2.2.2.2.2.2) = moZ h qb qt qa cI ((0, y.2))) hP
  refine lv_iload_n hx hb dM_write_5 rfl (lv_at hl 1 rfl) ?_
  refine lv_if_lt (tgt := 14) hx hb dM_write_6 (by decide) (fun c1 => ?_) (fun c1 => ?_)
  · skip
    replace c1 := Int32.not_le.mpr c1
    refine lv_iconst (v := (-1)) hx hb dM_write_14 (by decide) ?_
    have hP : va_P D CL (moZ h qb qt qa cI (yWrite y w)) _ := va_Pe (congrArg (moZ h qb qt qa cI) (by rw [yWrite, if_neg (by simp [mwOk, c1])] : ((0, y.2) : MS) = yWrite y w)) hP
    exact mu_retI S hr hk (by rw [rWrite, if_neg (by simp [mwOk, c1])]) hP hS dM_write_15
  · skip
    replace c1 := Int32.not_lt.mp c1
    refine lv_iload_n hx hb dM_write_9 rfl (lv_at hl 1 rfl) ?_
    refine lv_iconst (v := 3) hx hb dM_write_10 (by decide) ?_
    refine lv_icmp_le (tgt := 16) hx hb dM_write_11 (by decide) (fun c2 => ?_) (fun c2 => ?_)
    · skip
      have hw9 : mwOk w = true := by simp [mwOk, c1, c2]
      refine lv_aload_n hx hb dM_write_16 rfl (lv_at hl 0 rfl) ?_
      refine lv_iconst (v := 0) hx hb dM_write_17 (by decide) ?_
      refine va_put (D := D) (ci := 1) (v := .int 0) (ty := .int) (C := "SignReaderModel") (T := T_M) (N := 9) hx hb hts i_M t_M t_M_ok n_M hown hK hP (moD hd) hS 0 rfl rfl 7 (by decide) (hts _ k398) (fun _ h9 => h9) rfl (by decide +kernel) rfl rfl (Nat.le_of_ble_eq_true rfl) dM_write_18 (fun H locs hP _ hS => ?_)
      have hP : va_P D CL (moW h qb qt qa cI (0) (nI y.2.1) (nI y.2.2.1) (y.2.2.2.1) (0) (y.2.2.2.2.2.1) (y.2.2.2.2.2.2.1) (y.2.2.2.2.2.2.2.1) (y.2.2.2.2.2.2.2.2)) H := hP
      have hP : va_P D CL (moZ h qb qt qa cI (yK0 y)) _ := va_Pe (by show _ = moW h qb qt qa cI _ _ _ _ (nI 0) _ _ _ _; rw [nI_0]; rfl : moW h qb qt qa cI (0) (nI y.2.1) (nI y.2.2.1) (y.2.2.2.1) (0) (y.2.2.2.2.2.1) (y.2.2.2.2.2.2.1) (y.2.2.2.2.2.2.2.1) (y.2.2.2.2.2.2.2.2) = moZ h qb qt qa cI (yK0 y)) hP
      have J61 : ∀ (Y : MS) (H : Heap) (locs : List Loc), Y = yWk w y 0 → va_P D CL (moZ h qb qt qa cI Y) H → va_S (A4 h qb qt qa) s.heap H locs → ∀ ls : Array Slot, lv_has ls 4 [(0, .ref h), (1, .int w)] → W p l e { frames := 2, cells := 0, slots := 0, locals := 44 } s m [.ref h, .int w].toArray below meth cd H locs 0 0 (MQ below (mQ (some (.int (rWrite y w))) D (moZ h qb qt qa cI (yWrite y w)) (A4 h qb qt qa)) [.ref h, .int w].toArray s 0 0 (A4 h qb qt qa)) (F0 m 61 ls []) := by
        intro Y H locs hY9 hP hS ls hl
        subst hY9
        refine lv_iconst (v := 0) hx hb dM_write_61 (by decide) ?_
        refine lv_istore_n (lv' := [(2, .int 0), (0, .ref h), (1, .int w)]) hx hb dM_write_62 rfl hl (by decide) rfl (fun ls hl => ?_)
        have J63 : ∀ (fu : Nat) (x : Int32) (k : Nat) (H : Heap) (locs : List Loc), x = nI k → k ≤ y.2.2.1 → y.2.2.1 < k + fu → va_P D CL (moZ h qb qt qa cI (yWk w y k)) H → va_S (A4 h qb qt qa) s.heap H locs → ∀ ls : Array Slot, lv_has ls 4 [(0, .ref h), (1, .int w), (2, .int x)] → W p l e { frames := 2, cells := 0, slots := 0, locals := 44 } s m [.ref h, .int w].toArray below meth cd H locs 0 0 (MQ below (mQ (some (.int (rWrite y w))) D (moZ h qb qt qa cI (yWrite y w)) (A4 h qb qt qa)) [.ref h, .int w].toArray s 0 0 (A4 h qb qt qa)) (F0 m 63 ls []) := by
          intro fu
          induction fu with
          | zero =>
            intro x k H locs hx9 hk9 hf9 hP hS ls hl
            exact absurd hf9 (by omega)
          | succ fu ih =>
            intro x k H locs hx9 hk9 hf9 hP hS ls hl
            subst hx9
            obtain ⟨hs9, hc9⟩ := yWk_s w y k
            have hl9 : (yWk w y k).2.2.1 = y.2.2.1 := hs9.2.2.1
            refine lv_iload_n hx hb dM_write_63 rfl (lv_at hl 2 rfl) ?_
            refine lv_aload_n hx hb dM_write_64 rfl (lv_at hl 0 rfl) ?_
            refine va_get (D := D) (ci := 1) (v := .int (nI (yWk w y k).2.2.1)) (C := "SignReaderModel") (T := T_M) (N := 9) hx hb hts i_M hown hK hP 0 rfl rfl 4 (by decide) (hts _ k395) (fun _ h9 => h9) rfl dM_write_65 ?_
            refine lv_icmp_ge (tgt := 175) hx hb dM_write_68 (by decide) (fun c3 => ?_) (fun c3 => ?_)
            · skip
              rw [nI_leI (by omega) (by omega), hl9] at c3
              have hk8 : k = y.2.2.1 := by omega
              rw [hk8] at hP hc9
              have hyo := yWk_ok (w := w) (k := y.2.2.1) hy (by omega)
              refine lv_aload_n hx hb dM_write_175 rfl (lv_at hl 0 rfl) ?_
              refine va_get (D := D) (ci := 1) (v := .int (nI (yWk w y y.2.2.1).2.2.2.2.1)) (C := "SignReaderModel") (T := T_M) (N := 9) hx hb hts i_M hown hK hP 0 rfl rfl 7 (by decide) (hts _ k398) (fun _ h9 => h9) rfl dM_write_176 ?_
              refine lv_sipush (v := 4096) hx hb dM_write_179 (by decide) ?_
              refine lv_icmp_le (tgt := 187) hx hb dM_write_182 (by decide) (fun c4 => ?_) (fun c4 => ?_)
              · skip
                rw [show (4096 : Int32) = nI 4096 from rfl, nI_leI (by omega) (by omega)] at c4
                refine lv_iconst (v := 0) hx hb dM_write_187 (by decide) ?_
                refine lv_istore_n (lv' := [(2, .int 0), (0, .ref h), (1, .int w)]) hx hb dM_write_188 rfl hl (by decide) rfl (fun ls hl => ?_)
                have J189 : ∀ (fu : Nat) (x5 : Int32) (i : Nat) (H : Heap) (locs : List Loc), x5 = nI i → i ≤ (yWk w y y.2.2.1).2.2.2.2.1 → (yWk w y y.2.2.1).2.2.2.2.1 < i + fu → va_P D CL (moZ h qb qt qa cI (cpB (yWk w y y.2.2.1) i)) H → va_S (A4 h qb qt qa) s.heap H locs → ∀ ls : Array Slot, lv_has ls 4 [(0, .ref h), (1, .int w), (2, .int x5)] → W p l e { frames := 2, cells := 0, slots := 0, locals := 44 } s m [.ref h, .int w].toArray below meth cd H locs 0 0 (MQ below (mQ (some (.int (rWrite y w))) D (moZ h qb qt qa cI (yWrite y w)) (A4 h qb qt qa)) [.ref h, .int w].toArray s 0 0 (A4 h qb qt qa)) (F0 m 189 ls []) := by
                  intro fu
                  induction fu with
                  | zero =>
                    intro x5 i H locs hx5 hi5 hf5 hP hS ls hl
                    exact absurd hf5 (by omega)
                  | succ fu ih =>
                    intro x5 i H locs hx5 hi5 hf5 hP hS ls hl
                    subst hx5
                    refine lv_iload_n hx hb dM_write_189 rfl (lv_at hl 2 rfl) ?_
                    refine lv_aload_n hx hb dM_write_190 rfl (lv_at hl 0 rfl) ?_
                    refine va_get (D := D) (ci := 1) (v := .int (nI (yWk w y y.2.2.1).2.2.2.2.1)) (C := "SignReaderModel") (T := T_M) (N := 9) hx hb hts i_M hown hK hP 0 rfl rfl 7 (by decide) (hts _ k398) (fun _ h9 => h9) rfl dM_write_191 ?_
                    refine lv_icmp_ge (tgt := 215) hx hb dM_write_194 (by decide) (fun c5 => ?_) (fun c5 => ?_)
                    · skip
                      rw [nI_leI (by omega) (by omega)] at c5
                      refine lv_aload_n hx hb dM_write_215 rfl (lv_at hl 0 rfl) ?_
                      refine lv_aload_n hx hb dM_write_216 rfl (lv_at hl 0 rfl) ?_
                      refine va_get (D := D) (ci := 1) (v := .int (nI (yWk w y y.2.2.1).2.2.2.2.1)) (C := "SignReaderModel") (T := T_M) (N := 9) hx hb hts i_M hown hK hP 0 rfl rfl 7 (by decide) (hts _ k398) (fun _ h9 => h9) rfl dM_write_217 ?_
                      refine va_put (D := D) (ci := 1) (v := .int (nI (yWk w y y.2.2.1).2.2.2.2.1)) (ty := .int) (C := "SignReaderModel") (T := T_M) (N := 9) hx hb hts i_M t_M t_M_ok n_M hown hK hP (moD hd) hS 0 rfl rfl 2 (by decide) (hts _ k393) (fun _ h9 => h9) rfl (by decide +kernel) rfl rfl (Nat.le_of_ble_eq_true rfl) dM_write_220 (fun H locs hP _ hS => ?_)
                      have hP : va_P D CL (moW h qb qt qa cI ((yWk w y y.2.2.1).1) ((nI (yWk w y y.2.2.1).2.2.2.2.1)) (nI (yWk w y y.2.2.1).2.2.1) ((yWk w y y.2.2.1).2.2.2.1) (nI (yWk w y y.2.2.1).2.2.2.2.1) ((yWk w y y.2.2.1).2.2.2.2.2.1) (cpF (yWk w y y.2.2.1) i) ((yWk w y y.2.2.1).2.2.2.2.2.2.2.1) ((yWk w y y.2.2.1).2.2.2.2.2.2.2.2)) H := hP
                      refine lv_aload_n hx hb dM_write_223 rfl (lv_at hl 0 rfl) ?_
                      refine va_get (D := D) (ci := 1) (v := .int (nI (yWk w y y.2.2.1).2.2.2.2.1)) (C := "SignReaderModel") (T := T_M) (N := 9) hx hb hts i_M hown hK hP 0 rfl rfl 7 (by decide) (hts _ k398) (fun _ h9 => h9) rfl dM_write_224 ?_
                      have hP : va_P D CL (moZ h qb qt qa cI (yWrite y w)) _ := va_Pe (by rw [yWrite, if_pos hw9, if_pos c4, show i = (yWk w y y.2.2.1).2.2.2.2.1 by omega]; rfl : moW h qb qt qa cI ((yWk w y y.2.2.1).1) ((nI (yWk w y y.2.2.1).2.2.2.2.1)) (nI (yWk w y y.2.2.1).2.2.1) ((yWk w y y.2.2.1).2.2.2.1) (nI (yWk w y y.2.2.1).2.2.2.2.1) ((yWk w y y.2.2.1).2.2.2.2.2.1) (cpF (yWk w y y.2.2.1) i) ((yWk w y y.2.2.1).2.2.2.2.2.2.2.1) ((yWk w y y.2.2.1).2.2.2.2.2.2.2.2) = moZ h qb qt qa cI (yWrite y w)) hP
                      exact mu_retI S hr hk (by rw [rWrite, if_pos hw9, if_pos c4]) hP hS dM_write_227
                    · skip
                      rw [nI_leI (by omega) (by omega)] at c5
                      refine lv_aload_n hx hb dM_write_197 rfl (lv_at hl 0 rfl) ?_
                      refine va_get (D := D) (ci := 1) (v := .ref qb) (C := "SignReaderModel") (T := T_M) (N := 9) hx hb hts i_M hown hK hP 0 rfl rfl 1 (by decide) (hts _ k392) (fun _ h9 => h9) rfl dM_write_198 ?_
                      refine lv_iload_n hx hb dM_write_201 rfl (lv_at hl 2 rfl) ?_
                      refine lv_aload_n hx hb dM_write_202 rfl (lv_at hl 0 rfl) ?_
                      refine va_get (D := D) (ci := 1) (v := .ref qa) (C := "SignReaderModel") (T := T_M) (N := 9) hx hb hts i_M hown hK hP 0 rfl rfl 6 (by decide) (hts _ k397) (fun _ h9 => h9) rfl dM_write_203 ?_
                      refine lv_iload_n hx hb dM_write_206 rfl (lv_at hl 2 rfl) ?_
                      refine va_iald (f := ((yWk w y y.2.2.1).2.2.2.2.2.2.2.2)) hx hb hK hP 3 0 rfl rfl (vp_in_nI (by omega) (by omega)) dM_write_207 ?_
                      rw [nI_clamp (n := i) (by omega)]
                      refine va_iast hx hb hK hP (moD hd) hS 1 0 rfl rfl (vp_in_nI (by omega) (by omega)) dM_write_208 (fun H locs hP _ hS => ?_)
                      have hP : va_P D CL (moW h qb qt qa cI ((yWk w y y.2.2.1).1) (nI (yWk w y y.2.2.1).2.1) (nI (yWk w y y.2.2.1).2.2.1) ((yWk w y y.2.2.1).2.2.2.1) (nI (yWk w y y.2.2.1).2.2.2.2.1) ((yWk w y y.2.2.1).2.2.2.2.2.1) (upd (cpF (yWk w y y.2.2.1) i) ((nI i)).toNatClampNeg ((((yWk w y y.2.2.1).2.2.2.2.2.2.2.2) i))) ((yWk w y y.2.2.1).2.2.2.2.2.2.2.1) ((yWk w y y.2.2.1).2.2.2.2.2.2.2.2)) H := hP
                      have hP : va_P D CL (moZ h qb qt qa cI (cpB (yWk w y y.2.2.1) (i + 1))) _ := va_Pe (by simp only [cpB, nI_clamp (show i < 2 ^ 31 by omega), cpF_s] : moW h qb qt qa cI ((yWk w y y.2.2.1).1) (nI (yWk w y y.2.2.1).2.1) (nI (yWk w y y.2.2.1).2.2.1) ((yWk w y y.2.2.1).2.2.2.1) (nI (yWk w y y.2.2.1).2.2.2.2.1) ((yWk w y y.2.2.1).2.2.2.2.2.1) (upd (cpF (yWk w y y.2.2.1) i) ((nI i)).toNatClampNeg ((((yWk w y y.2.2.1).2.2.2.2.2.2.2.2) i))) ((yWk w y y.2.2.1).2.2.2.2.2.2.2.1) ((yWk w y y.2.2.1).2.2.2.2.2.2.2.2) = moZ h qb qt qa cI (cpB (yWk w y y.2.2.1) (i + 1))) hP
                      refine lv_iinc (v := ((nI i) + 1)) (lv' := [(2, .int ((nI i) + 1)), (0, .ref h), (1, .int w)]) hx hb dM_write_209 hl (k := 2) rfl rfl (by decide) rfl (fun ls hl => ?_)
                      refine lv_goto (tgt := 189) hx hb dM_write_212 (by decide) ?_
                      exact ih (((nI i) + 1)) (i + 1) (_) (_) (nI_1 i) (by omega) (by omega) (hP) (hS) ls (lv_sub hl [1, 2, 0] rfl) 
                exact J189 ((yWk w y y.2.2.1).2.2.2.2.1 + 1) (0) (0) (_) (_) (rfl) (by omega) (by omega) (by rw [cpB, cpF_0]; exact hP) (hS) ls (lv_sub hl [1, 2, 0] rfl) 
              · skip
                rw [show (4096 : Int32) = nI 4096 from rfl, nI_leI (by omega) (by omega)] at c4
                refine lv_iconst (v := (-1)) hx hb dM_write_185 (by decide) ?_
                have hP : va_P D CL (moZ h qb qt qa cI (yWrite y w)) _ := va_Pe (congrArg (moZ h qb qt qa cI) (by rw [yWrite, if_pos hw9, if_neg c4] : (yWk w y y.2.2.1 : MS) = yWrite y w)) hP
                exact mu_retI S hr hk (by rw [rWrite, if_pos hw9, if_neg c4]) hP hS dM_write_186
            · skip
              rw [nI_leI (by omega) (by omega), hl9] at c3
              refine lv_aload_n hx hb dM_write_71 rfl (lv_at hl 0 rfl) ?_
              refine va_get (D := D) (ci := 1) (v := .ref qt) (C := "SignReaderModel") (T := T_M) (N := 9) hx hb hts i_M hown hK hP 0 rfl rfl 3 (by decide) (hts _ k394) (fun _ h9 => h9) rfl dM_write_72 ?_
              refine lv_iload_n hx hb dM_write_75 rfl (lv_at hl 2 rfl) ?_
              refine va_iald (f := ((yWk w y k).2.2.2.2.2.2.2.1)) hx hb hK hP 2 0 rfl rfl (vp_in_nI (by omega) (by omega)) dM_write_76 ?_
              rw [nI_clamp (n := k) (by omega)]
              refine lv_istore_n (lv' := [(3, .int (((yWk w y k).2.2.2.2.2.2.2.1) k)), (0, .ref h), (1, .int w), (2, .int (nI k))]) hx hb dM_write_77 rfl hl (by decide) rfl (fun ls hl => ?_)
              have J169 : ∀ (Y : MS) (H : Heap) (locs : List Loc), Y = yWk w y (k + 1) → va_P D CL (moZ h qb qt qa cI Y) H → va_S (A4 h qb qt qa) s.heap H locs → ∀ ls : Array Slot, lv_has ls 4 [(3, .int (((yWk w y k).2.2.2.2.2.2.2.1) k)), (0, .ref h), (1, .int w), (2, .int (nI k))] → W p l e { frames := 2, cells := 0, slots := 0, locals := 44 } s m [.ref h, .int w].toArray below meth cd H locs 0 0 (MQ below (mQ (some (.int (rWrite y w))) D (moZ h qb qt qa cI (yWrite y w)) (A4 h qb qt qa)) [.ref h, .int w].toArray s 0 0 (A4 h qb qt qa)) (F0 m 169 ls []) := by
                intro Y H locs hY9 hP hS ls hl
                subst hY9
                refine lv_iinc (v := ((nI k) + 1)) (lv' := [(2, .int ((nI k) + 1)), (3, .int (((yWk w y k).2.2.2.2.2.2.2.1) k)), (0, .ref h), (1, .int w)]) hx hb dM_write_169 hl (k := 3) rfl rfl (by decide) rfl (fun ls hl => ?_)
                refine lv_goto (tgt := 63) hx hb dM_write_172 (by decide) ?_
                exact ih (((nI k) + 1)) (k + 1) (_) (_) (nI_1 k) (by omega) (by omega) (hP) (hS) ls (lv_sub hl [2, 3, 0] rfl) 
              refine lv_iload_n hx hb dM_write_78 rfl (lv_at hl 2 rfl) ?_
              refine lv_if_eq (tgt := 87) hx hb dM_write_79 (by decide) (fun c6 => ?_) (fun c6 => ?_)
              · skip
                refine lv_aload_n hx hb dM_write_87 rfl (lv_at hl 1 rfl) ?_
                refine lv_iload_n hx hb dM_write_88 rfl (lv_at hl 0 rfl) ?_
                refine mu_V (As := [.int (((yWk w y k).2.2.2.2.2.2.2.1) k)]) (rest := []) (n := 1) (C := "SignReaderModel") S (cM_writeEight l D h qb qt qa cI (yWk w y k)  ((((yWk w y k).2.2.2.2.2.2.2.1) k)) hd (yWk_ok hy (by omega)) (by omega)) k536 k2 k535 ks25 (by decide +kernel) ⟨rfl, rfl⟩ k533 (by decide) (xM_V ⟨hP, hK⟩) rfl rfl hl.1 (Nat.le_of_ble_eq_true rfl) ⟨Nat.le_refl _, Nat.le_refl _⟩ dM_write_89 hS (fun _ h9 => h9) (fun H locs hP hS => ?_)
                have hP : va_P D CL (moZ h qb qt qa cI (y8w (yWk w y k) ((((yWk w y k).2.2.2.2.2.2.2.1) k)))) H := hP
                refine lv_goto (tgt := 169) hx hb dM_write_92 (by decide) ?_
                exact J169  (y8w (yWk w y k) ((((yWk w y k).2.2.2.2.2.2.2.1) k))) (_) (_) (by rw [yWk, yWc, if_pos c6]) (hP) (hS) ls (lv_sub hl [0, 1, 2, 3] rfl) 
              · skip
                refine lv_iload_n hx hb dM_write_82 rfl (lv_at hl 2 rfl) ?_
                refine lv_iconst (v := 3) hx hb dM_write_83 (by decide) ?_
                refine lv_icmp_ne (tgt := 95) hx hb dM_write_84 (by decide) (fun c7 => ?_) (fun c7 => ?_)
                · skip
                  refine lv_iload_n hx hb dM_write_95 rfl (lv_at hl 0 rfl) ?_
                  refine lv_ldc (v := 65536) hx hb hown (hts _ k466) dM_write_96 ?_
                  refine lv_icmp_ge (tgt := 119) hx hb dM_write_98 (by decide) (fun c8 => ?_) (fun c8 => ?_)
                  · skip
                    refine lv_aload_n hx hb dM_write_119 rfl (lv_at hl 1 rfl) ?_
                    refine lv_ldc (v := 55296) hx hb hown (hts _ k459) dM_write_120 ?_
                    refine lv_iload_n hx hb dM_write_122 rfl (lv_at hl 0 rfl) ?_
                    refine lv_ldc (v := 65536) hx hb hown (hts _ k466) dM_write_123 ?_
                    refine lv_isub hx hb dM_write_125 ?_
                    refine lv_sipush (v := 1024) hx hb dM_write_126 (by decide) ?_
                    refine lv_idiv hx hb dM_write_129 (by decide) ?_
                    refine lv_iadd hx hb dM_write_130 ?_
                    refine lv_iload_n hx hb dM_write_131 rfl (lv_at hl 2 rfl) ?_
                    refine lv_iconst (v := 1) hx hb dM_write_132 (by decide) ?_
                    refine lv_icmp_ne (tgt := 140) hx hb dM_write_133 (by decide) (fun c9 => ?_) (fun c9 => ?_)
                    · skip
                      refine lv_iconst (v := 0) hx hb dM_write_140 (by decide) ?_
                      refine mu_V (As := [.int (55296 + (((((yWk w y k).2.2.2.2.2.2.2.1) k) - 65536) / 1024)), .int 0]) (rest := []) (n := 2) (C := "SignReaderModel") S (cM_pair l D h qb qt qa cI (yWk w y k)  ((55296 + (((((yWk w y k).2.2.2.2.2.2.2.1) k) - 65536) / 1024))) (0) hd (yWk_ok hy (by omega)) (by omega)) k528 k2 k527 ks23 (by decide +kernel) ⟨rfl, rfl⟩ k525 (by decide) (xM_V ⟨hP, hK⟩) rfl rfl hl.1 (Nat.le_of_ble_eq_true rfl) ⟨Nat.le_refl _, Nat.le_refl _⟩ dM_write_141 hS (fun _ h9 => h9) (fun H locs hP hS => ?_)
                      have hP : va_P D CL (moZ h qb qt qa cI (yPair (yWk w y k) ((55296 + (((((yWk w y k).2.2.2.2.2.2.2.1) k) - 65536) / 1024))) 0)) H := hP
                      refine lv_aload_n hx hb dM_write_144 rfl (lv_at hl 1 rfl) ?_
                      refine lv_ldc (v := 56320) hx hb hown (hts _ k464) dM_write_145 ?_
                      refine lv_iload_n hx hb dM_write_147 rfl (lv_at hl 0 rfl) ?_
                      refine lv_ldc (v := 65536) hx hb hown (hts _ k466) dM_write_148 ?_
                      refine lv_isub hx hb dM_write_150 ?_
                      refine lv_sipush (v := 1024) hx hb dM_write_151 (by decide) ?_
                      refine lv_irem hx hb dM_write_154 (by decide) ?_
                      refine lv_iadd hx hb dM_write_155 ?_
                      refine lv_iload_n hx hb dM_write_156 rfl (lv_at hl 2 rfl) ?_
                      refine lv_iconst (v := 1) hx hb dM_write_157 (by decide) ?_
                      refine lv_icmp_ne (tgt := 165) hx hb dM_write_158 (by decide) (fun c10 => ?_) (fun c10 => absurd c10 c9)
                      refine lv_iconst (v := 0) hx hb dM_write_165 (by decide) ?_
                      refine mu_V (As := [.int (56320 + (((((yWk w y k).2.2.2.2.2.2.2.1) k) - 65536) - ((((yWk w y k).2.2.2.2.2.2.2.1) k) - 65536) / 1024 * 1024)), .int 0]) (rest := []) (n := 2) (C := "SignReaderModel") S (cM_pair l D h qb qt qa cI (yPair (yWk w y k) ((55296 + (((((yWk w y k).2.2.2.2.2.2.2.1) k) - 65536) / 1024))) 0)  ((56320 + (((((yWk w y k).2.2.2.2.2.2.2.1) k) - 65536) - ((((yWk w y k).2.2.2.2.2.2.2.1) k) - 65536) / 1024 * 1024))) (0) hd (yPair_ok ⟨(yWk_ok hy (by omega)), (by omega)⟩) (by rw [yPair_ct]; omega)) k528 k2 k527 ks23 (by decide +kernel) ⟨rfl, rfl⟩ k525 (by decide) (xM_V ⟨hP, hK⟩) rfl rfl hl.1 (Nat.le_of_ble_eq_true rfl) ⟨Nat.le_refl _, Nat.le_refl _⟩ dM_write_166 hS (fun _ h9 => h9) (fun H locs hP hS => ?_)
                      have hP : va_P D CL (moZ h qb qt qa cI (yPair (yPair (yWk w y k) ((55296 + (((((yWk w y k).2.2.2.2.2.2.2.1) k) - 65536) / 1024))) 0) ((56320 + (((((yWk w y k).2.2.2.2.2.2.2.1) k) - 65536) - ((((yWk w y k).2.2.2.2.2.2.2.1) k) - 65536) / 1024 * 1024))) 0)) H := hP
                      exact J169  (yPair (yPair (yWk w y k) ((55296 + (((((yWk w y k).2.2.2.2.2.2.2.1) k) - 65536) / 1024))) 0) ((56320 + (((((yWk w y k).2.2.2.2.2.2.2.1) k) - 65536) - ((((yWk w y k).2.2.2.2.2.2.2.1) k) - 65536) / 1024 * 1024))) 0) (_) (_) (by rw [yWk, yWc, if_neg c6, if_neg c7, if_pos c8, hiW, if_neg c9]) (hP) (hS) ls (lv_sub hl [0, 1, 2, 3] rfl) 
                    · skip
                      refine lv_iconst (v := 1) hx hb dM_write_136 (by decide) ?_
                      refine lv_goto (tgt := 141) hx hb dM_write_137 (by decide) ?_
                      refine mu_V (As := [.int (55296 + (((((yWk w y k).2.2.2.2.2.2.2.1) k) - 65536) / 1024)), .int 1]) (rest := []) (n := 2) (C := "SignReaderModel") S (cM_pair l D h qb qt qa cI (yWk w y k)  ((55296 + (((((yWk w y k).2.2.2.2.2.2.2.1) k) - 65536) / 1024))) (1) hd (yWk_ok hy (by omega)) (by omega)) k528 k2 k527 ks23 (by decide +kernel) ⟨rfl, rfl⟩ k525 (by decide) (xM_V ⟨hP, hK⟩) rfl rfl hl.1 (Nat.le_of_ble_eq_true rfl) ⟨Nat.le_refl _, Nat.le_refl _⟩ dM_write_141 hS (fun _ h9 => h9) (fun H locs hP hS => ?_)
                      have hP : va_P D CL (moZ h qb qt qa cI (yPair (yWk w y k) ((55296 + (((((yWk w y k).2.2.2.2.2.2.2.1) k) - 65536) / 1024))) 1)) H := hP
                      refine lv_aload_n hx hb dM_write_144 rfl (lv_at hl 1 rfl) ?_
                      refine lv_ldc (v := 56320) hx hb hown (hts _ k464) dM_write_145 ?_
                      refine lv_iload_n hx hb dM_write_147 rfl (lv_at hl 0 rfl) ?_
                      refine lv_ldc (v := 65536) hx hb hown (hts _ k466) dM_write_148 ?_
                      refine lv_isub hx hb dM_write_150 ?_
                      refine lv_sipush (v := 1024) hx hb dM_write_151 (by decide) ?_
                      refine lv_irem hx hb dM_write_154 (by decide) ?_
                      refine lv_iadd hx hb dM_write_155 ?_
                      refine lv_iload_n hx hb dM_write_156 rfl (lv_at hl 2 rfl) ?_
                      refine lv_iconst (v := 1) hx hb dM_write_157 (by decide) ?_
                      refine lv_icmp_ne (tgt := 165) hx hb dM_write_158 (by decide) (fun c11 => absurd c11 (fun h9 => h9 c9)) (fun c11 => ?_)
                      refine lv_iconst (v := 1) hx hb dM_write_161 (by decide) ?_
                      refine lv_goto (tgt := 166) hx hb dM_write_162 (by decide) ?_
                      refine mu_V (As := [.int (56320 + (((((yWk w y k).2.2.2.2.2.2.2.1) k) - 65536) - ((((yWk w y k).2.2.2.2.2.2.2.1) k) - 65536) / 1024 * 1024)), .int 1]) (rest := []) (n := 2) (C := "SignReaderModel") S (cM_pair l D h qb qt qa cI (yPair (yWk w y k) ((55296 + (((((yWk w y k).2.2.2.2.2.2.2.1) k) - 65536) / 1024))) 1)  ((56320 + (((((yWk w y k).2.2.2.2.2.2.2.1) k) - 65536) - ((((yWk w y k).2.2.2.2.2.2.2.1) k) - 65536) / 1024 * 1024))) (1) hd (yPair_ok ⟨(yWk_ok hy (by omega)), (by omega)⟩) (by rw [yPair_ct]; omega)) k528 k2 k527 ks23 (by decide +kernel) ⟨rfl, rfl⟩ k525 (by decide) (xM_V ⟨hP, hK⟩) rfl rfl hl.1 (Nat.le_of_ble_eq_true rfl) ⟨Nat.le_refl _, Nat.le_refl _⟩ dM_write_166 hS (fun _ h9 => h9) (fun H locs hP hS => ?_)
                      have hP : va_P D CL (moZ h qb qt qa cI (yPair (yPair (yWk w y k) ((55296 + (((((yWk w y k).2.2.2.2.2.2.2.1) k) - 65536) / 1024))) 1) ((56320 + (((((yWk w y k).2.2.2.2.2.2.2.1) k) - 65536) - ((((yWk w y k).2.2.2.2.2.2.2.1) k) - 65536) / 1024 * 1024))) 1)) H := hP
                      exact J169  (yPair (yPair (yWk w y k) ((55296 + (((((yWk w y k).2.2.2.2.2.2.2.1) k) - 65536) / 1024))) 1) ((56320 + (((((yWk w y k).2.2.2.2.2.2.2.1) k) - 65536) - ((((yWk w y k).2.2.2.2.2.2.2.1) k) - 65536) / 1024 * 1024))) 1) (_) (_) (by rw [yWk, yWc, if_neg c6, if_neg c7, if_pos c8, hiW, if_pos c9]) (hP) (hS) ls (lv_sub hl [0, 1, 2, 3] rfl) 
                  · skip
                    refine lv_aload_n hx hb dM_write_101 rfl (lv_at hl 1 rfl) ?_
                    refine lv_iload_n hx hb dM_write_102 rfl (lv_at hl 0 rfl) ?_
                    refine lv_iload_n hx hb dM_write_103 rfl (lv_at hl 2 rfl) ?_
                    refine lv_iconst (v := 1) hx hb dM_write_104 (by decide) ?_
                    refine lv_icmp_ne (tgt := 112) hx hb dM_write_105 (by decide) (fun c12 => ?_) (fun c12 => ?_)
                    · skip
                      refine lv_iconst (v := 0) hx hb dM_write_112 (by decide) ?_
                      refine mu_V (As := [.int (((yWk w y k).2.2.2.2.2.2.2.1) k), .int 0]) (rest := []) (n := 2) (C := "SignReaderModel") S (cM_pair l D h qb qt qa cI (yWk w y k)  ((((yWk w y k).2.2.2.2.2.2.2.1) k)) (0) hd (yWk_ok hy (by omega)) (by omega)) k528 k2 k527 ks23 (by decide +kernel) ⟨rfl, rfl⟩ k525 (by decide) (xM_V ⟨hP, hK⟩) rfl rfl hl.1 (Nat.le_of_ble_eq_true rfl) ⟨Nat.le_refl _, Nat.le_refl _⟩ dM_write_113 hS (fun _ h9 => h9) (fun H locs hP hS => ?_)
                      have hP : va_P D CL (moZ h qb qt qa cI (yPair (yWk w y k) ((((yWk w y k).2.2.2.2.2.2.2.1) k)) 0)) H := hP
                      refine lv_goto (tgt := 169) hx hb dM_write_116 (by decide) ?_
                      exact J169  (yPair (yWk w y k) ((((yWk w y k).2.2.2.2.2.2.2.1) k)) 0) (_) (_) (by rw [yWk, yWc, if_neg c6, if_neg c7, if_neg c8, hiW, if_neg c12]) (hP) (hS) ls (lv_sub hl [0, 1, 2, 3] rfl) 
                    · skip
                      refine lv_iconst (v := 1) hx hb dM_write_108 (by decide) ?_
                      refine lv_goto (tgt := 113) hx hb dM_write_109 (by decide) ?_
                      refine mu_V (As := [.int (((yWk w y k).2.2.2.2.2.2.2.1) k), .int 1]) (rest := []) (n := 2) (C := "SignReaderModel") S (cM_pair l D h qb qt qa cI (yWk w y k)  ((((yWk w y k).2.2.2.2.2.2.2.1) k)) (1) hd (yWk_ok hy (by omega)) (by omega)) k528 k2 k527 ks23 (by decide +kernel) ⟨rfl, rfl⟩ k525 (by decide) (xM_V ⟨hP, hK⟩) rfl rfl hl.1 (Nat.le_of_ble_eq_true rfl) ⟨Nat.le_refl _, Nat.le_refl _⟩ dM_write_113 hS (fun _ h9 => h9) (fun H locs hP hS => ?_)
                      have hP : va_P D CL (moZ h qb qt qa cI (yPair (yWk w y k) ((((yWk w y k).2.2.2.2.2.2.2.1) k)) 1)) H := hP
                      refine lv_goto (tgt := 169) hx hb dM_write_116 (by decide) ?_
                      exact J169  (yPair (yWk w y k) ((((yWk w y k).2.2.2.2.2.2.2.1) k)) 1) (_) (_) (by rw [yWk, yWc, if_neg c6, if_neg c7, if_neg c8, hiW, if_pos c12]) (hP) (hS) ls (lv_sub hl [0, 1, 2, 3] rfl) 
                · skip
                  refine lv_aload_n hx hb dM_write_87 rfl (lv_at hl 1 rfl) ?_
                  refine lv_iload_n hx hb dM_write_88 rfl (lv_at hl 0 rfl) ?_
                  refine mu_V (As := [.int (((yWk w y k).2.2.2.2.2.2.2.1) k)]) (rest := []) (n := 1) (C := "SignReaderModel") S (cM_writeEight l D h qb qt qa cI (yWk w y k)  ((((yWk w y k).2.2.2.2.2.2.2.1) k)) hd (yWk_ok hy (by omega)) (by omega)) k536 k2 k535 ks25 (by decide +kernel) ⟨rfl, rfl⟩ k533 (by decide) (xM_V ⟨hP, hK⟩) rfl rfl hl.1 (Nat.le_of_ble_eq_true rfl) ⟨Nat.le_refl _, Nat.le_refl _⟩ dM_write_89 hS (fun _ h9 => h9) (fun H locs hP hS => ?_)
                  have hP : va_P D CL (moZ h qb qt qa cI (y8w (yWk w y k) ((((yWk w y k).2.2.2.2.2.2.2.1) k)))) H := hP
                  refine lv_goto (tgt := 169) hx hb dM_write_92 (by decide) ?_
                  exact J169  (y8w (yWk w y k) ((((yWk w y k).2.2.2.2.2.2.2.1) k))) (_) (_) (by rw [yWk, yWc, if_neg c6, if_pos c7]) (hP) (hS) ls (lv_sub hl [0, 1, 2, 3] rfl) 
        exact J63 (y.2.2.1 + 1) (0) (0) (_) (_) (rfl) (by omega) (by omega) (hP) (hS) ls (lv_sub hl [1, 2, 0] rfl) 
      refine lv_iload_n hx hb dM_write_21 rfl (lv_at hl 1 rfl) ?_
      refine lv_iconst (v := 1) hx hb dM_write_22 (by decide) ?_
      refine lv_icmp_eq (tgt := 31) hx hb dM_write_23 (by decide) (fun c13 => ?_) (fun c13 => ?_)
      · skip
        refine lv_aload_n hx hb dM_write_31 rfl (lv_at hl 0 rfl) ?_
        refine lv_ldc (v := 65279) hx hb hown (hts _ k524) dM_write_32 ?_
        refine lv_iload_n hx hb dM_write_34 rfl (lv_at hl 1 rfl) ?_
        refine lv_iconst (v := 1) hx hb dM_write_35 (by decide) ?_
        refine lv_icmp_ne (tgt := 43) hx hb dM_write_36 (by decide) (fun c14 => absurd c14 (fun h9 => h9 c13)) (fun c14 => ?_)
        refine lv_iconst (v := 1) hx hb dM_write_39 (by decide) ?_
        refine lv_goto (tgt := 44) hx hb dM_write_40 (by decide) ?_
        refine mu_V (As := [.int 65279, .int 1]) (rest := []) (n := 2) (C := "SignReaderModel") S (cM_pair l D h qb qt qa cI (yK0 y)  (65279) (1) hd (show okY (yK0 y) from ⟨hy.1, hy.2.1, Nat.zero_le _⟩) (by show 0 + _ ≤ _; omega)) k528 k2 k527 ks23 (by decide +kernel) ⟨rfl, rfl⟩ k525 (by decide) (xM_V ⟨hP, hK⟩) rfl rfl hl.1 (Nat.le_of_ble_eq_true rfl) ⟨Nat.le_refl _, Nat.le_refl _⟩ dM_write_44 hS (fun _ h9 => h9) (fun H locs hP hS => ?_)
        have hP : va_P D CL (moZ h qb qt qa cI (yPair (yK0 y) 65279 1)) H := hP
        refine lv_goto (tgt := 61) hx hb dM_write_47 (by decide) ?_
        exact J61  (yPair (yK0 y) 65279 1) (_) (_) (by rw [yWk, if_pos c13]) (hP) (hS) ls (lv_sub hl [0, 1] rfl) 
      · skip
        refine lv_iload_n hx hb dM_write_26 rfl (lv_at hl 1 rfl) ?_
        refine lv_iconst (v := 2) hx hb dM_write_27 (by decide) ?_
        refine lv_icmp_ne (tgt := 50) hx hb dM_write_28 (by decide) (fun c15 => ?_) (fun c15 => ?_)
        · skip
          refine lv_iload_n hx hb dM_write_50 rfl (lv_at hl 1 rfl) ?_
          refine lv_iconst (v := 3) hx hb dM_write_51 (by decide) ?_
          refine lv_icmp_ne (tgt := 61) hx hb dM_write_52 (by decide) (fun c16 => ?_) (fun c16 => ?_)
          · skip
            exact J61  (yK0 y) (_) (_) (by rw [yWk, if_neg c13, if_neg c15, if_neg c16]) (hP) (hS) ls (lv_sub hl [0, 1] rfl) 
          · skip
            refine lv_aload_n hx hb dM_write_55 rfl (lv_at hl 0 rfl) ?_
            refine lv_ldc (v := 65279) hx hb hown (hts _ k524) dM_write_56 ?_
            refine mu_V (As := [.int 65279]) (rest := []) (n := 1) (C := "SignReaderModel") S (cM_writeEight l D h qb qt qa cI (yK0 y)  (65279) hd (show okY (yK0 y) from ⟨hy.1, hy.2.1, Nat.zero_le _⟩) (by show 0 + _ ≤ _; omega)) k536 k2 k535 ks25 (by decide +kernel) ⟨rfl, rfl⟩ k533 (by decide) (xM_V ⟨hP, hK⟩) rfl rfl hl.1 (Nat.le_of_ble_eq_true rfl) ⟨Nat.le_refl _, Nat.le_refl _⟩ dM_write_58 hS (fun _ h9 => h9) (fun H locs hP hS => ?_)
            have hP : va_P D CL (moZ h qb qt qa cI (y8w (yK0 y) 65279)) H := hP
            exact J61  (y8w (yK0 y) 65279) (_) (_) (by rw [yWk, if_neg c13, if_neg c15, if_pos c16]) (hP) (hS) ls (lv_sub hl [0, 1] rfl) 
        · skip
          refine lv_aload_n hx hb dM_write_31 rfl (lv_at hl 0 rfl) ?_
          refine lv_ldc (v := 65279) hx hb hown (hts _ k524) dM_write_32 ?_
          refine lv_iload_n hx hb dM_write_34 rfl (lv_at hl 1 rfl) ?_
          refine lv_iconst (v := 1) hx hb dM_write_35 (by decide) ?_
          refine lv_icmp_ne (tgt := 43) hx hb dM_write_36 (by decide) (fun c17 => ?_) (fun c17 => absurd c17 c13)
          refine lv_iconst (v := 0) hx hb dM_write_43 (by decide) ?_
          refine mu_V (As := [.int 65279, .int 0]) (rest := []) (n := 2) (C := "SignReaderModel") S (cM_pair l D h qb qt qa cI (yK0 y)  (65279) (0) hd (show okY (yK0 y) from ⟨hy.1, hy.2.1, Nat.zero_le _⟩) (by show 0 + _ ≤ _; omega)) k528 k2 k527 ks23 (by decide +kernel) ⟨rfl, rfl⟩ k525 (by decide) (xM_V ⟨hP, hK⟩) rfl rfl hl.1 (Nat.le_of_ble_eq_true rfl) ⟨Nat.le_refl _, Nat.le_refl _⟩ dM_write_44 hS (fun _ h9 => h9) (fun H locs hP hS => ?_)
          have hP : va_P D CL (moZ h qb qt qa cI (yPair (yK0 y) 65279 0)) H := hP
          refine lv_goto (tgt := 61) hx hb dM_write_47 (by decide) ?_
          exact J61  (yPair (yK0 y) 65279 0) (_) (_) (by rw [yWk, if_neg c13, if_pos c15]) (hP) (hS) ls (lv_sub hl [0, 1] rfl) 
    · skip
      refine lv_iconst (v := (-1)) hx hb dM_write_14 (by decide) ?_
      have hP : va_P D CL (moZ h qb qt qa cI (yWrite y w)) _ := va_Pe (congrArg (moZ h qb qt qa cI) (by rw [yWrite, if_neg (by simp [mwOk, c1, c2])] : ((0, y.2) : MS) = yWrite y w)) hP
      exact mu_retI S hr hk (by rw [rWrite, if_neg (by simp [mwOk, c1, c2])]) hP hS dM_write_15
