/-! feed and end: the calls that are refused; the law's two methods that catch -/
def xF (D : va_G) (h qb qt : Nat) (cI : ClassId) (z : SS) (k : Nat) (tx : String) (q : Nat) : State → Heap → Prop := fun U H => xZ9 D h qb qt cI z U H ∧ xE nA U H ∧ vk_R "SignReader" k tx q U
theorem xF_ok {D : va_G} {h qb qt : Nat} {cI : ClassId} {z : SS} {k : Nat} {tx : String} {q : Nat} : okX (xF D h qb qt cI z k tx q) := fun s U H hW x => ⟨xW_ok s U H hW x.1, xE_move hW.alike (fun _ _ => rfl) (fun _ h => h) x.2.1, vk_R.warm hW x.2.2⟩
theorem xF_V {D : va_G} {h qb qt : Nat} {cI : ClassId} {z : SS} {k : Nat} {tx : String} {q : Nat} {s : State} {H : Heap} {As : List Value} (x : xF D h qb qt cI z k tx q s H) : PreV s H "SignReader" h (gx (xF D h qb qt cI z k tx q) (.ref h :: As)) As :=
  gx_V xF_ok x (va_recv x.1.2 x.1.1 (ci := 0) (q0 := 0) (q := ("SignReader", T_S, 5)) rfl rfl)
abbrev tx28 : String := "there would be more than 4096 bytes"
abbrev tx39 : String := "there are not so many bytes"
set_option maxHeartbeats 4000000 in
set_option maxRecDepth 100000 in
theorem tS_feed (l : Launch) (htr : l.stackTraces = false) (D : va_G) (h qb qt : Nat) (cI : ClassId) (z : SS) (q : Nat) (a1 a2 a3 a4 a5 : Int32) (hz : okZ z) (hn : ¬ z.1 + 20 ≤ 4096) : Thr l yS_feed (Cond.code yS_feed prog_1_method_2_code 6 none :: TB) { frames := 6, cells := 1, slots := 6, locals := 82 } (gx (xF D h qb qt cI z 28 tx28 q) [.ref h, .int a1, .int a2, .int a3, .int a4, .int a5]) "java/lang/IllegalStateException" 1 6 := by
  refine th_of (by decide) ?_
  intro p e s m args below meth cd S hex hk hv
  obtain ⟨rfl, hX⟩ := hv
  have hP : va_P D CL (srZ h qb qt cI z) s.heap := hX.1.1
  have hK := hX.1.2
  have hx := S.1
  have hb := S.2.1
  have hown := S.2.2.2.1
  have hts := S.2.2.2.2
  have hz1 := hz.1
  have hl := lv_entry ([.ref h, .int a1, .int a2, .int a3, .int a4, .int a5]) (n := 6) (Nat.le_of_ble_eq_true rfl)
  rw [lg_entry_eq]
  generalize (lg_sl ([.ref h, .int a1, .int a2, .int a3, .int a4, .int a5]) ++ List.replicate (6 - (lg_sl ([.ref h, .int a1, .int a2, .int a3, .int a4, .int a5])).length) Slot.unset).toArray = ls at hl ⊢
  have hl : lv_has ls 6 [(0, .ref h), (1, .int a1), (2, .int a2), (3, .int a3), (4, .int a4), (5, .int a5)] := hl
  refine lv_aload_n hx hb dS_feed_0 rfl (lv_at hl 0 rfl) ?_
  refine va_get (D := D) (ci := 0) (v := .int (nI z.1)) (C := "SignReader") (T := T_S) (N := 5) hx hb hts i_S hown hK hP 0 rfl rfl 2 (by decide) (hts _ k24) (fun _ h9 => h9) rfl dS_feed_1 ?_
  refine lv_sipush (v := 4076) hx hb dS_feed_4 (by decide) ?_
  refine lv_icmp_le (tgt := 20) hx hb dS_feed_7 (by decide) (fun c1 => absurd ((nI_leI (b := 4076) (by omega) (by omega)).mp c1) (by omega)) (fun _ => ?_)
  refine W.newc (n := 6) hx hb hown (hts _ k291) (hts _ k292) (hts _ k6) rfl dS_feed_10 (Nat.le_refl _) (Nat.le_refl _) (fun cC kC h1 h2 h3 h4 => ?_)
  refine W.eq (g2 := F0 m 13 ls [.ref s.heap.size]) rfl ?_
  refine lv_dup hx hb dS_feed_13 rfl ?_
  refine va_ldcS hx hb hown hX.2.2 dS_feed_14 ?_
  exact th_end S hex hk htr (names := ["java/lang/RuntimeException", "java/lang/Exception"]) (ic := 30) (by decide) (by decide) (fun a ha => xE_word hts hX.2.1 (own_28 a ha)) h1 h2 (by simp) (Nat.le_refl _) hl.1 dS_feed_16 dS_feed_19 (by decide) (by decide)
set_option maxHeartbeats 4000000 in
set_option maxRecDepth 100000 in
theorem tS_end (l : Launch) (htr : l.stackTraces = false) (D : va_G) (h qb qt : Nat) (cI : ClassId) (z : SS) (q : Nat) (i : Int32) (hz : okZ z) (hn : ¬ eOk z i = true) : Thr l yS_end (Cond.code yS_end prog_1_method_3_code 3 (some .int) :: TB) { frames := 6, cells := 1, slots := 6, locals := 82 } (gx (xF D h qb qt cI z 39 tx39 q) [.ref h, .int i]) "java/lang/IllegalArgumentException" 1 6 := by
  refine th_of (by decide) ?_
  intro p e s m args below meth cd S hex hk hv
  obtain ⟨rfl, hX⟩ := hv
  have hP : va_P D CL (srZ h qb qt cI z) s.heap := hX.1.1
  have hK := hX.1.2
  have hx := S.1
  have hb := S.2.1
  have hown := S.2.2.2.1
  have hts := S.2.2.2.2
  have hl := lv_entry ([.ref h, .int i]) (n := 3) (Nat.le_of_ble_eq_true rfl)
  rw [lg_entry_eq]
  generalize (lg_sl ([.ref h, .int i]) ++ List.replicate (3 - (lg_sl ([.ref h, .int i])).length) Slot.unset).toArray = ls at hl ⊢
  have hl : lv_has ls 3 [(0, .ref h), (1, .int i)] := hl
  have J12 : W p l e { frames := 6, cells := 1, slots := 6, locals := 82 } s m [.ref h, .int i].toArray below meth cd s.heap [] 0 0 (TQ below "java/lang/IllegalArgumentException" s 1 6) (F0 m 12 ls []) := by
    refine W.newc (n := 6) hx hb hown (hts _ k369) (hts _ k370) (hts _ k7) rfl dS_end_12 (Nat.le_refl _) (Nat.le_refl _) (fun cC kC h1 h2 h3 h4 => ?_)
    refine W.eq (g2 := F0 m 15 ls [.ref s.heap.size]) rfl ?_
    refine lv_dup hx hb dS_end_15 rfl ?_
    refine va_ldcS hx hb hown hX.2.2 dS_end_16 ?_
    exact th_end S hex hk htr (names := ["java/lang/RuntimeException", "java/lang/Exception"]) (ic := 41) (by decide) (by decide) (fun a ha => xE_word hts hX.2.1 (own_39 a ha)) h1 h2 (by simp) (Nat.le_refl _) hl.1 dS_end_18 dS_end_21 (by decide) (by decide)
  refine lv_iload_n hx hb dS_end_0 rfl (lv_at hl 1 rfl) ?_
  refine lv_if_lt (tgt := 12) hx hb dS_end_1 (by decide) (fun _ => J12) (fun c1 => ?_)
  replace c1 := Int32.not_lt.mp c1
  refine lv_iload_n hx hb dS_end_4 rfl (lv_at hl 1 rfl) ?_
  refine lv_aload_n hx hb dS_end_5 rfl (lv_at hl 0 rfl) ?_
  refine va_get (D := D) (ci := 0) (v := .int (nI z.1)) (C := "SignReader") (T := T_S) (N := 5) hx hb hts i_S hown hK hP 0 rfl rfl 2 (by decide) (hts _ k24) (fun _ h9 => h9) rfl dS_end_6 ?_
  refine lv_icmp_le (tgt := 22) hx hb dS_end_9 (by decide) (fun c2 => absurd (by simp only [eOk, Bool.and_eq_true, decide_eq_true_eq]; exact ⟨c1, c2⟩) hn) (fun _ => J12)
set_option maxHeartbeats 4000000 in
set_option maxRecDepth 100000 in
theorem cL_feed (l : Launch) (htr : l.stackTraces = false) (D : va_G) (h qb qt : Nat) (cI : ClassId) (z : SS) (q : Nat) (a1 a2 a3 a4 a5 : Int32) (hd : ap3 h qb qt) (hz : okZ z) : Met l yL_feed TB { frames := 7, cells := 1, slots := 6, locals := 107 } (gx (xF D h qb qt cI z 28 tx28 q) [.ref h, .int a1, .int a2, .int a3, .int a4, .int a5])
    (mQ (some (.int (if z.1 + 20 ≤ 4096 then 0 else 1))) D (srZ h qb qt cI (if z.1 + 20 ≤ 4096 then zFeed z a1 a2 a3 a4 a5 else z)) (A3 h qb qt)) 1 6 (A3 h qb qt) := by
  refine mw_of (by decide) k285 ?_
  intro p e s m args below meth cd S htab hr hk hv
  obtain ⟨rfl, hX⟩ := hv
  have hP : va_P D CL (srZ h qb qt cI z) s.heap := hX.1.1
  have hK := hX.1.2
  have hx := S.1
  have hb := S.2.1
  have hown := S.2.2.2.1
  have hts := S.2.2.2.2
  have hS : va_S (A3 h qb qt) s.heap s.heap [] := va_S.rf
  have hl := lv_entry ([.ref h, .int a1, .int a2, .int a3, .int a4, .int a5]) (n := 7) (Nat.le_of_ble_eq_true rfl)
  rw [lg_entry_eq]
  generalize (lg_sl ([.ref h, .int a1, .int a2, .int a3, .int a4, .int a5]) ++ List.replicate (7 - (lg_sl ([.ref h, .int a1, .int a2, .int a3, .int a4, .int a5])).length) Slot.unset).toArray = ls at hl ⊢
  have hl : lv_has ls 7 [(0, .ref h), (1, .int a1), (2, .int a2), (3, .int a3), (4, .int a4), (5, .int a5)] := hl
  refine lv_aload_n hx hb dL_feed_0 rfl (lv_at hl 0 rfl) ?_
  refine lv_iload_n hx hb dL_feed_1 rfl (lv_at hl 1 rfl) ?_
  refine lv_iload_n hx hb dL_feed_2 rfl (lv_at hl 2 rfl) ?_
  refine lv_iload_n hx hb dL_feed_3 rfl (lv_at hl 3 rfl) ?_
  refine lv_iload hx hb dL_feed_4 (lv_at hl 4 rfl) ?_
  refine lv_iload hx hb dL_feed_6 (lv_at hl 5 rfl) ?_
  by_cases hn : z.1 + 20 ≤ 4096
  · simp only [hn, ↓reduceIte]
    refine mu_V (As := [.int a1, .int a2, .int a3, .int a4, .int a5]) (rest := []) (n := 5) (C := "SignReader") S (cS_feed l D h qb qt cI z a1 a2 a3 a4 a5 hd hz hn) k290 k1 k288 k289 (by decide +kernel) ⟨rfl, rfl⟩ k287 (by decide) (xW_V ⟨hP, hK⟩) rfl rfl hl.1 (Nat.le_of_ble_eq_true rfl) ⟨Nat.zero_le _, Nat.zero_le _⟩ dL_feed_8 hS (fun _ h9 => h9) (fun H locs hP hS => ?_)
    refine lv_goto (tgt := 18) hx hb dL_feed_11 (by decide) ?_
    refine lv_iconst (v := 0) hx hb dL_feed_18 (by decide) ?_
    refine W.widen (k := 1) (n := 6) (Nat.zero_le _) (Nat.zero_le _) ?_
    exact W.iret hx hb hr (fun t ht _ => ⟨rfl, by rw [ht]; exact hP, hS.F ht⟩) hS.2.2 dL_feed_19 hk
  · simp only [hn, ↓reduceIte]
    obtain ⟨xe, he, ⟨he1, he2⟩, he3, he4⟩ := one_entry htab
    refine th_V (As := [.int a1, .int a2, .int a3, .int a4, .int a5]) (rest := []) (n := 5) (C := "SignReader") (cls := "java/lang/IllegalStateException") S (tS_feed l htr D h qb qt cI z q a1 a2 a3 a4 a5 hz hn) k290 k288 k289 k1 (by decide +kernel) ⟨rfl, rfl⟩ k287 (by decide) (xF_V hX) rfl rfl hl.1 (Nat.le_of_ble_eq_true rfl) ⟨Nat.le_refl _, Nat.le_refl _⟩ dL_feed_8 he (by simp only [covers, he1, he2]; decide) (by rw [he4]; decide) (by rw [he4]; exact k286) (fun x H1 hz1 hold => ?_)
    rw [he3]
    refine lv_astore (lv' := [(6, .ref x), (0, .ref h), (1, .int a1), (2, .int a2), (3, .int a3), (4, .int a4), (5, .int a5)]) hx hb dL_feed_14 hl (by decide) rfl (fun ls hl => ?_)
    refine lv_iconst (v := 1) hx hb dL_feed_16 (by decide) ?_
    have hP1 : va_P D CL (srZ h qb qt cI z) H1 := fun k q hq => (hP k q hq).kept (hold q.1 (hP k q hq).lt)
    exact W.iret hx hb hr (fun t ht _ => ⟨rfl, by rw [ht]; exact hP1, ⟨by rw [ht]; exact hz1, fun q h1 _ => by rw [ht]; exact hold q h1⟩⟩) (fun q hq => by cases hq) dL_feed_17 hk
