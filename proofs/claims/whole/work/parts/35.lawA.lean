/-! the law: each call, on both sides -/
section Case
variable {p : Program} {l : Launch} {e : Env} {s : State} {m : MethodId} {below : List Frame} {meth : Method} {c : Code} {H : Heap} {locs : List Loc} {cells slots : Nat} {Q : State → Prop} {ls : Array Slot} {b L k : Nat} {xs : Nat → Int32}
variable {D : va_G} {h qb qt hm mb mt ma qo : Nat} {cI cL : ClassId} {n1 n2 tc ts tm q v q28 q39 : Nat} {z : SS} {y : MS} {f : Nat → Int64}
set_option maxHeartbeats 4000000 in
set_option maxRecDepth 100000 in
theorem law_change (htr : l.stackTraces = false) (S : CallFix p m c code 7 s #[Value.ref b] TB "SignReaderLaw") (hX : va_X b L xs s s.heap) (hbl : b < s.heap.size) (hL : L ≤ 3072) (C : LC s D h qb qt hm mb mt ma qo cI cL n1 n2 tc ts tm q v q28 q39) (I : LI s D h qb qt hm mb mt ma qo cI cL H locs z y f) (hk : k + 5 < L) (hl : lv_has ls 7 [(0, .ref b), (1, .ref h), (2, .ref hm), (3, .ref qo), (4, .int (nI k))]) (hcs : cells + 1 ≤ 1034 ∧ slots + 6 ≤ 28703)
    (kk : ∀ (H : Heap) (locs : List Loc) (z : SS) (y : MS) (f : Nat → Int64) (ls : Array Slot), LI s D h qb qt hm mb mt ma qo cI cL H locs z y f → lv_has ls 7 [(0, .ref b), (1, .ref h), (2, .ref hm), (3, .ref qo), (4, .int (nI k))] → W p l e room_1 s m #[Value.ref b] below meth c H locs (cells + 1) (slots + 6) Q (F0 m 482 ls [])) : W p l e room_1 s m #[Value.ref b] below meth c H locs cells slots Q (F0 m 244 ls []) := by
  obtain ⟨⟨hd, hdm⟩, -, hK2, hDD0, hEE0, h28, h39⟩ := id C
  obtain ⟨⟨hP1, hP2, hPo⟩, hR, hS⟩ := I
  have hz : okZ z := hR.1.1
  have hy : okY y := hR.1.2
  have hx := S.1
  have hb := S.2.1
  have hbA : ¬ (fun x : Nat => s.heap.size ≤ x) b := Nat.not_le.mpr hbl
  have hK : va_K D CL [(cI, .int)] s := hK2.sub [0] rfl
  have hkp : ∀ x : Nat, x < s.heap.size → H[x]? = s.heap[x]? := fun x h9 => hS.2.1 x h9 (Nat.not_le.mpr h9)
  have hDD := xD_kp hkp hDD0
  have hEE : xE nA s H := xE_move (Vm.Alike.refl s.vm) hkp (fun _ h9 => h9) hEE0
  have hfit : cells ≤ room_1.cells ∧ slots ≤ room_1.slots := ⟨by show cells ≤ 1034; omega, by show slots ≤ 28703; omega⟩
  have hfit1 : cells + 1 ≤ room_1.cells ∧ slots + 6 ≤ room_1.slots := hcs
  refine lv_aload_n hx hb dL_law_244 rfl (lv_at hl 1 rfl) ?_
  refine lv_aload_n hx hb dL_law_245 rfl (lv_at hl 0 rfl) ?_
  refine lv_iload hx hb dL_law_246 (lv_at hl 4 rfl) ?_
  refine lv_iconst (v := 1) hx hb dL_law_248 (by decide) ?_
  refine lv_iadd hx hb dL_law_249 ?_
  rw [show nI k + 1 = nI (k + 1) from nI_add k 1]
  refine va_sld (A := fun x => s.heap.size ≤ x) hx hb hX hbl hbA hS (vp_in_nI (by omega) (by omega)) dL_law_250 ?_
  rw [nI_clamp (n := k + 1) (by omega)]
  refine lv_aload_n hx hb dL_law_251 rfl (lv_at hl 0 rfl) ?_
  refine lv_iload hx hb dL_law_252 (lv_at hl 4 rfl) ?_
  refine lv_iconst (v := 2) hx hb dL_law_254 (by decide) ?_
  refine lv_iadd hx hb dL_law_255 ?_
  rw [show nI k + 2 = nI (k + 2) from nI_add k 2]
  refine va_sld (A := fun x => s.heap.size ≤ x) hx hb hX hbl hbA hS (vp_in_nI (by omega) (by omega)) dL_law_256 ?_
  rw [nI_clamp (n := k + 2) (by omega)]
  refine lw_V (As := [.int (xs (k + 1)), .int (xs (k + 2))]) (rest := []) (n := 2) (C := "SignReader") S (cS_change l D h qb qt cI z (xs (k + 1)) (xs (k + 2)) hd hz) k42 k1 k40 k41 (by decide +kernel) ⟨rfl, rfl⟩ k39 (by decide) (xW_V ⟨hP1, hK⟩) rfl rfl hl.1 (Nat.le_of_ble_eq_true rfl) hfit dL_law_257 hS (a_3 C) (fun H locs hP1 hz9 hk9 hS => ?_)
  have hP2 := P_kept hP2 hk9 (mo_no C)
  have hPo := P_kept hPo hk9 (o_not (o_no3 C))
  refine lv_aload_n hx hb dL_law_260 rfl (lv_at hl 2 rfl) ?_
  refine lv_aload_n hx hb dL_law_261 rfl (lv_at hl 0 rfl) ?_
  refine lv_iload hx hb dL_law_262 (lv_at hl 4 rfl) ?_
  refine lv_iconst (v := 1) hx hb dL_law_264 (by decide) ?_
  refine lv_iadd hx hb dL_law_265 ?_
  rw [show nI k + 1 = nI (k + 1) from nI_add k 1]
  refine va_sld (A := fun x => s.heap.size ≤ x) hx hb hX hbl hbA hS (vp_in_nI (by omega) (by omega)) dL_law_266 ?_
  rw [nI_clamp (n := k + 1) (by omega)]
  refine lv_aload_n hx hb dL_law_267 rfl (lv_at hl 0 rfl) ?_
  refine lv_iload hx hb dL_law_268 (lv_at hl 4 rfl) ?_
  refine lv_iconst (v := 2) hx hb dL_law_270 (by decide) ?_
  refine lv_iadd hx hb dL_law_271 ?_
  rw [show nI k + 2 = nI (k + 2) from nI_add k 2]
  refine va_sld (A := fun x => s.heap.size ≤ x) hx hb hX hbl hbA hS (vp_in_nI (by omega) (by omega)) dL_law_272 ?_
  rw [nI_clamp (n := k + 2) (by omega)]
  refine lw_V (As := [.int (xs (k + 1)), .int (xs (k + 2))]) (rest := [.int (if cOk z (xs (k + 1)) (xs (k + 2)) = true then z.2.2.2.1 (xs (k + 1)).toNatClampNeg else -1)]) (n := 2) (C := "SignReaderModel") S (cM_change l D hm mb mt ma cI y (xs (k + 1)) (xs (k + 2)) hdm hy) k438 k2 k436 k437 (by decide +kernel) ⟨rfl, rfl⟩ k435 (by decide) (xM_V ⟨hP2, hK⟩) rfl rfl hl.1 (Nat.le_of_ble_eq_true rfl) hfit dL_law_273 hS (a_4 C) (fun H locs hP2 hz9 hk9 hS => ?_)
  have hP1 := P_kept hP1 hk9 (sr_no C)
  have hPo := P_kept hPo hk9 (o_not (o_no4 C))
  have hfin := rel_change hR (xs (k + 1)) (xs (k + 2))
  refine lv_icmp_eq (tgt := 482) hx hb dL_law_276 (by decide) (fun _ => ?_) (fun c9 => absurd (hfin.2) c9)
  refine W.widen (k := cells + 1) (n := slots + 6) (Nat.le_succ _) (Nat.le_add_right _ _) ?_
  exact kk _ _ (zChange z (xs (k + 1)) (xs (k + 2))) (yCh y (xs (k + 1)) (xs (k + 2))) f ls ⟨⟨hP1, hP2, hPo⟩, hfin.1, hS⟩ hl
set_option maxHeartbeats 4000000 in
set_option maxRecDepth 100000 in
theorem law_came (htr : l.stackTraces = false) (S : CallFix p m c code 7 s #[Value.ref b] TB "SignReaderLaw") (hX : va_X b L xs s s.heap) (hbl : b < s.heap.size) (hL : L ≤ 3072) (C : LC s D h qb qt hm mb mt ma qo cI cL n1 n2 tc ts tm q v q28 q39) (I : LI s D h qb qt hm mb mt ma qo cI cL H locs z y f) (hk : k + 5 < L) (hl : lv_has ls 7 [(0, .ref b), (1, .ref h), (2, .ref hm), (3, .ref qo), (4, .int (nI k))]) (hcs : cells + 1 ≤ 1034 ∧ slots + 6 ≤ 28703)
    (kk : ∀ (H : Heap) (locs : List Loc) (z : SS) (y : MS) (f : Nat → Int64) (ls : Array Slot), LI s D h qb qt hm mb mt ma qo cI cL H locs z y f → lv_has ls 7 [(0, .ref b), (1, .ref h), (2, .ref hm), (3, .ref qo), (4, .int (nI k))] → W p l e room_1 s m #[Value.ref b] below meth c H locs (cells + 1) (slots + 6) Q (F0 m 482 ls [])) : W p l e room_1 s m #[Value.ref b] below meth c H locs cells slots Q (F0 m 281 ls []) := by
  obtain ⟨⟨hd, hdm⟩, -, hK2, hDD0, hEE0, h28, h39⟩ := id C
  obtain ⟨⟨hP1, hP2, hPo⟩, hR, hS⟩ := I
  have hz : okZ z := hR.1.1
  have hy : okY y := hR.1.2
  have hx := S.1
  have hb := S.2.1
  have hbA : ¬ (fun x : Nat => s.heap.size ≤ x) b := Nat.not_le.mpr hbl
  have hK : va_K D CL [(cI, .int)] s := hK2.sub [0] rfl
  have hkp : ∀ x : Nat, x < s.heap.size → H[x]? = s.heap[x]? := fun x h9 => hS.2.1 x h9 (Nat.not_le.mpr h9)
  have hDD := xD_kp hkp hDD0
  have hEE : xE nA s H := xE_move (Vm.Alike.refl s.vm) hkp (fun _ h9 => h9) hEE0
  have hfit : cells ≤ room_1.cells ∧ slots ≤ room_1.slots := ⟨by show cells ≤ 1034; omega, by show slots ≤ 28703; omega⟩
  have hfit1 : cells + 1 ≤ room_1.cells ∧ slots + 6 ≤ room_1.slots := hcs
  refine lv_aload_n hx hb dL_law_281 rfl (lv_at hl 1 rfl) ?_
  refine lv_aload_n hx hb dL_law_282 rfl (lv_at hl 0 rfl) ?_
  refine lv_iload hx hb dL_law_283 (lv_at hl 4 rfl) ?_
  refine lv_iconst (v := 1) hx hb dL_law_285 (by decide) ?_
  refine lv_iadd hx hb dL_law_286 ?_
  rw [show nI k + 1 = nI (k + 1) from nI_add k 1]
  refine va_sld (A := fun x => s.heap.size ≤ x) hx hb hX hbl hbA hS (vp_in_nI (by omega) (by omega)) dL_law_287 ?_
  rw [nI_clamp (n := k + 1) (by omega)]
  refine ro_V (r := (sCame z.2.2.2.1 z.1 (xs (k + 1)))) (As := [.int (xs (k + 1))]) (rest := []) (n := 1) (C := "SignReader") S (cS_came l D h qb qt cI z.1 z.2.1 z.2.2.1 z.2.2.2.1 z.2.2.2.2 hz.1 hz.2 (xs (k + 1))) k50 k1 k48 k49 (by decide +kernel) ⟨rfl, rfl⟩ k47 (by decide) (xW_V ⟨hP1, hK⟩) rfl rfl hl.1 (Nat.le_of_ble_eq_true rfl) hfit dL_law_288 ?_
  refine lv_aload_n hx hb dL_law_291 rfl (lv_at hl 2 rfl) ?_
  refine lv_aload_n hx hb dL_law_292 rfl (lv_at hl 0 rfl) ?_
  refine lv_iload hx hb dL_law_293 (lv_at hl 4 rfl) ?_
  refine lv_iconst (v := 1) hx hb dL_law_295 (by decide) ?_
  refine lv_iadd hx hb dL_law_296 ?_
  rw [show nI k + 1 = nI (k + 1) from nI_add k 1]
  refine va_sld (A := fun x => s.heap.size ≤ x) hx hb hX hbl hbA hS (vp_in_nI (by omega) (by omega)) dL_law_297 ?_
  rw [nI_clamp (n := k + 1) (by omega)]
  refine lw_V (As := [.int (xs (k + 1))]) (rest := [.int (sCame z.2.2.2.1 z.1 (xs (k + 1)))]) (n := 1) (C := "SignReaderModel") S (cM_came l D hm mb mt ma cI y (xs (k + 1)) hdm hy) k434 k2 k432 k433 (by decide +kernel) ⟨rfl, rfl⟩ k431 (by decide) (xM_V ⟨hP2, hK⟩) rfl rfl hl.1 (Nat.le_of_ble_eq_true rfl) hfit dL_law_298 hS (a_4 C) (fun H locs hP2 hz9 hk9 hS => ?_)
  have hP1 := P_kept hP1 hk9 (sr_no C)
  have hPo := P_kept hPo hk9 (o_not (o_no4 C))
  have hfin := rel_came hR (xs (k + 1))
  refine lv_icmp_eq (tgt := 482) hx hb dL_law_301 (by decide) (fun _ => ?_) (fun c9 => absurd (hfin) c9)
  refine W.widen (k := cells + 1) (n := slots + 6) (Nat.le_succ _) (Nat.le_add_right _ _) ?_
  exact kk _ _ (z) ((0, y.2)) f ls ⟨⟨hP1, hP2, hPo⟩, hR.code 0, hS⟩ hl
set_option maxHeartbeats 4000000 in
set_option maxRecDepth 100000 in
theorem law_read (htr : l.stackTraces = false) (S : CallFix p m c code 7 s #[Value.ref b] TB "SignReaderLaw") (hX : va_X b L xs s s.heap) (hbl : b < s.heap.size) (hL : L ≤ 3072) (C : LC s D h qb qt hm mb mt ma qo cI cL n1 n2 tc ts tm q v q28 q39) (I : LI s D h qb qt hm mb mt ma qo cI cL H locs z y f) (hk : k + 5 < L) (hl : lv_has ls 7 [(0, .ref b), (1, .ref h), (2, .ref hm), (3, .ref qo), (4, .int (nI k))]) (hcs : cells + 1 ≤ 1034 ∧ slots + 6 ≤ 28703)
    (kk : ∀ (H : Heap) (locs : List Loc) (z : SS) (y : MS) (f : Nat → Int64) (ls : Array Slot), LI s D h qb qt hm mb mt ma qo cI cL H locs z y f → lv_has ls 7 [(0, .ref b), (1, .ref h), (2, .ref hm), (3, .ref qo), (4, .int (nI k))] → W p l e room_1 s m #[Value.ref b] below meth c H locs (cells + 1) (slots + 6) Q (F0 m 482 ls [])) : W p l e room_1 s m #[Value.ref b] below meth c H locs cells slots Q (F0 m 306 ls []) := by
  obtain ⟨⟨hd, hdm⟩, -, hK2, hDD0, hEE0, h28, h39⟩ := id C
  obtain ⟨⟨hP1, hP2, hPo⟩, hR, hS⟩ := I
  have hz : okZ z := hR.1.1
  have hy : okY y := hR.1.2
  have hx := S.1
  have hb := S.2.1
  have hbA : ¬ (fun x : Nat => s.heap.size ≤ x) b := Nat.not_le.mpr hbl
  have hK : va_K D CL [(cI, .int)] s := hK2.sub [0] rfl
  have hkp : ∀ x : Nat, x < s.heap.size → H[x]? = s.heap[x]? := fun x h9 => hS.2.1 x h9 (Nat.not_le.mpr h9)
  have hDD := xD_kp hkp hDD0
  have hEE : xE nA s H := xE_move (Vm.Alike.refl s.vm) hkp (fun _ h9 => h9) hEE0
  have hfit : cells ≤ room_1.cells ∧ slots ≤ room_1.slots := ⟨by show cells ≤ 1034; omega, by show slots ≤ 28703; omega⟩
  have hfit1 : cells + 1 ≤ room_1.cells ∧ slots + 6 ≤ room_1.slots := hcs
  refine lv_aload_n hx hb dL_law_306 rfl (lv_at hl 1 rfl) ?_
  refine lw_V (As := []) (rest := []) (n := 0) (C := "SignReader") S (cS_read l D h qb qt cI z tc hd hz) k54 k1 k52 k53 (by decide +kernel) ⟨rfl, rfl⟩ k51 (by decide) (xWC_V ⟨⟨hP1, hK⟩, hDD.1⟩) rfl rfl hl.1 (Nat.le_of_ble_eq_true rfl) hfit dL_law_307 hS (a_3 C) (fun H locs hP1 hz9 hk9 hS => ?_)
  have hP2 := P_kept hP2 hk9 (mo_no C)
  have hPo := P_kept hPo hk9 (o_not (o_no3 C))
  refine lv_aload_n hx hb dL_law_310 rfl (lv_at hl 2 rfl) ?_
  refine lw_V (As := []) (rest := [.int (sPlace z.2.2.2.1 z.1 (sWay z.2.2.2.1 z.1))]) (n := 0) (C := "SignReaderModel") S (cM_read l D hm mb mt ma cI y  hdm hy) k442 k2 k440 k441 (by decide +kernel) ⟨rfl, rfl⟩ k439 (by decide) (xM_V ⟨hP2, hK⟩) rfl rfl hl.1 (Nat.le_of_ble_eq_true rfl) hfit dL_law_311 hS (a_4 C) (fun H locs hP2 hz9 hk9 hS => ?_)
  have hP1 := P_kept hP1 hk9 (sr_no C)
  have hPo := P_kept hPo hk9 (o_not (o_no4 C))
  have hfin := rel_read hR
  refine lv_icmp_eq (tgt := 482) hx hb dL_law_314 (by decide) (fun _ => ?_) (fun c9 => absurd (hfin.2) c9)
  refine W.widen (k := cells + 1) (n := slots + 6) (Nat.le_succ _) (Nat.le_add_right _ _) ?_
  exact kk _ _ (zRead z) (yRead y) f ls ⟨⟨hP1, hP2, hPo⟩, hfin.1, hS⟩ hl
set_option maxHeartbeats 4000000 in
set_option maxRecDepth 100000 in
theorem law_length (htr : l.stackTraces = false) (S : CallFix p m c code 7 s #[Value.ref b] TB "SignReaderLaw") (hX : va_X b L xs s s.heap) (hbl : b < s.heap.size) (hL : L ≤ 3072) (C : LC s D h qb qt hm mb mt ma qo cI cL n1 n2 tc ts tm q v q28 q39) (I : LI s D h qb qt hm mb mt ma qo cI cL H locs z y f) (hk : k + 5 < L) (hl : lv_has ls 7 [(0, .ref b), (1, .ref h), (2, .ref hm), (3, .ref qo), (4, .int (nI k))]) (hcs : cells + 1 ≤ 1034 ∧ slots + 6 ≤ 28703)
    (kk : ∀ (H : Heap) (locs : List Loc) (z : SS) (y : MS) (f : Nat → Int64) (ls : Array Slot), LI s D h qb qt hm mb mt ma qo cI cL H locs z y f → lv_has ls 7 [(0, .ref b), (1, .ref h), (2, .ref hm), (3, .ref qo), (4, .int (nI k))] → W p l e room_1 s m #[Value.ref b] below meth c H locs (cells + 1) (slots + 6) Q (F0 m 482 ls [])) : W p l e room_1 s m #[Value.ref b] below meth c H locs cells slots Q (F0 m 319 ls []) := by
  obtain ⟨⟨hd, hdm⟩, -, hK2, hDD0, hEE0, h28, h39⟩ := id C
  obtain ⟨⟨hP1, hP2, hPo⟩, hR, hS⟩ := I
  have hz : okZ z := hR.1.1
  have hy : okY y := hR.1.2
  have hx := S.1
  have hb := S.2.1
  have hbA : ¬ (fun x : Nat => s.heap.size ≤ x) b := Nat.not_le.mpr hbl
  have hK : va_K D CL [(cI, .int)] s := hK2.sub [0] rfl
  have hkp : ∀ x : Nat, x < s.heap.size → H[x]? = s.heap[x]? := fun x h9 => hS.2.1 x h9 (Nat.not_le.mpr h9)
  have hDD := xD_kp hkp hDD0
  have hEE : xE nA s H := xE_move (Vm.Alike.refl s.vm) hkp (fun _ h9 => h9) hEE0
  have hfit : cells ≤ room_1.cells ∧ slots ≤ room_1.slots := ⟨by show cells ≤ 1034; omega, by show slots ≤ 28703; omega⟩
  have hfit1 : cells + 1 ≤ room_1.cells ∧ slots + 6 ≤ room_1.slots := hcs
  refine lv_aload_n hx hb dL_law_319 rfl (lv_at hl 1 rfl) ?_
  refine ro_V (r := (nI z.2.1)) (As := []) (rest := []) (n := 0) (C := "SignReader") S (cS_length l D h qb qt cI z.1 z.2.1 z.2.2.1 z.2.2.2.1 z.2.2.2.2 hz.1 hz.2) k123 k1 k121 k122 (by decide +kernel) ⟨rfl, rfl⟩ k120 (by decide) (xW_V ⟨hP1, hK⟩) rfl rfl hl.1 (Nat.le_of_ble_eq_true rfl) hfit dL_law_320 ?_
  refine lv_aload_n hx hb dL_law_323 rfl (lv_at hl 2 rfl) ?_
  refine lw_V (As := []) (rest := [.int (nI z.2.1)]) (n := 0) (C := "SignReaderModel") S (cM_length l D hm mb mt ma cI y  hdm hy) k484 k2 k482 k483 (by decide +kernel) ⟨rfl, rfl⟩ k481 (by decide) (xM_V ⟨hP2, hK⟩) rfl rfl hl.1 (Nat.le_of_ble_eq_true rfl) hfit dL_law_324 hS (a_4 C) (fun H locs hP2 hz9 hk9 hS => ?_)
  have hP1 := P_kept hP1 hk9 (sr_no C)
  have hPo := P_kept hPo hk9 (o_not (o_no4 C))
  have hfin := congrArg nI hR.2.1.2.1.symm
  refine lv_icmp_eq (tgt := 482) hx hb dL_law_327 (by decide) (fun _ => ?_) (fun c9 => absurd (hfin) c9)
  refine W.widen (k := cells + 1) (n := slots + 6) (Nat.le_succ _) (Nat.le_add_right _ _) ?_
  exact kk _ _ (z) ((0, y.2)) f ls ⟨⟨hP1, hP2, hPo⟩, hR.code 0, hS⟩ hl
set_option maxHeartbeats 4000000 in
set_option maxRecDepth 100000 in
theorem law_sign (htr : l.stackTraces = false) (S : CallFix p m c code 7 s #[Value.ref b] TB "SignReaderLaw") (hX : va_X b L xs s s.heap) (hbl : b < s.heap.size) (hL : L ≤ 3072) (C : LC s D h qb qt hm mb mt ma qo cI cL n1 n2 tc ts tm q v q28 q39) (I : LI s D h qb qt hm mb mt ma qo cI cL H locs z y f) (hk : k + 5 < L) (hl : lv_has ls 7 [(0, .ref b), (1, .ref h), (2, .ref hm), (3, .ref qo), (4, .int (nI k))]) (hcs : cells + 1 ≤ 1034 ∧ slots + 6 ≤ 28703)
    (kk : ∀ (H : Heap) (locs : List Loc) (z : SS) (y : MS) (f : Nat → Int64) (ls : Array Slot), LI s D h qb qt hm mb mt ma qo cI cL H locs z y f → lv_has ls 7 [(0, .ref b), (1, .ref h), (2, .ref hm), (3, .ref qo), (4, .int (nI k))] → W p l e room_1 s m #[Value.ref b] below meth c H locs (cells + 1) (slots + 6) Q (F0 m 482 ls [])) : W p l e room_1 s m #[Value.ref b] below meth c H locs cells slots Q (F0 m 332 ls []) := by
  obtain ⟨⟨hd, hdm⟩, -, hK2, hDD0, hEE0, h28, h39⟩ := id C
  obtain ⟨⟨hP1, hP2, hPo⟩, hR, hS⟩ := I
  have hz : okZ z := hR.1.1
  have hy : okY y := hR.1.2
  have hx := S.1
  have hb := S.2.1
  have hbA : ¬ (fun x : Nat => s.heap.size ≤ x) b := Nat.not_le.mpr hbl
  have hK : va_K D CL [(cI, .int)] s := hK2.sub [0] rfl
  have hkp : ∀ x : Nat, x < s.heap.size → H[x]? = s.heap[x]? := fun x h9 => hS.2.1 x h9 (Nat.not_le.mpr h9)
  have hDD := xD_kp hkp hDD0
  have hEE : xE nA s H := xE_move (Vm.Alike.refl s.vm) hkp (fun _ h9 => h9) hEE0
  have hfit : cells ≤ room_1.cells ∧ slots ≤ room_1.slots := ⟨by show cells ≤ 1034; omega, by show slots ≤ 28703; omega⟩
  have hfit1 : cells + 1 ≤ room_1.cells ∧ slots + 6 ≤ room_1.slots := hcs
  refine lv_aload_n hx hb dL_law_332 rfl (lv_at hl 1 rfl) ?_
  refine lv_aload_n hx hb dL_law_333 rfl (lv_at hl 0 rfl) ?_
  refine lv_iload hx hb dL_law_334 (lv_at hl 4 rfl) ?_
  refine lv_iconst (v := 1) hx hb dL_law_336 (by decide) ?_
  refine lv_iadd hx hb dL_law_337 ?_
  rw [show nI k + 1 = nI (k + 1) from nI_add k 1]
  refine va_sld (A := fun x => s.heap.size ≤ x) hx hb hX hbl hbA hS (vp_in_nI (by omega) (by omega)) dL_law_338 ?_
  rw [nI_clamp (n := k + 1) (by omega)]
  refine ro_V (r := (sCame z.2.2.2.2 z.2.1 (xs (k + 1)))) (As := [.int (xs (k + 1))]) (rest := []) (n := 1) (C := "SignReader") S (cS_sign l D h qb qt cI z.1 z.2.1 z.2.2.1 z.2.2.2.1 z.2.2.2.2 hz.1 hz.2 (xs (k + 1))) k127 k1 k125 k126 (by decide +kernel) ⟨rfl, rfl⟩ k124 (by decide) (xW_V ⟨hP1, hK⟩) rfl rfl hl.1 (Nat.le_of_ble_eq_true rfl) hfit dL_law_339 ?_
  refine lv_aload_n hx hb dL_law_342 rfl (lv_at hl 2 rfl) ?_
  refine lv_aload_n hx hb dL_law_343 rfl (lv_at hl 0 rfl) ?_
  refine lv_iload hx hb dL_law_344 (lv_at hl 4 rfl) ?_
  refine lv_iconst (v := 1) hx hb dL_law_346 (by decide) ?_
  refine lv_iadd hx hb dL_law_347 ?_
  rw [show nI k + 1 = nI (k + 1) from nI_add k 1]
  refine va_sld (A := fun x => s.heap.size ≤ x) hx hb hX hbl hbA hS (vp_in_nI (by omega) (by omega)) dL_law_348 ?_
  rw [nI_clamp (n := k + 1) (by omega)]
  refine lw_V (As := [.int (xs (k + 1))]) (rest := [.int (sCame z.2.2.2.2 z.2.1 (xs (k + 1)))]) (n := 1) (C := "SignReaderModel") S (cM_sign l D hm mb mt ma cI y (xs (k + 1)) hdm hy) k488 k2 k486 k487 (by decide +kernel) ⟨rfl, rfl⟩ k485 (by decide) (xM_V ⟨hP2, hK⟩) rfl rfl hl.1 (Nat.le_of_ble_eq_true rfl) hfit dL_law_349 hS (a_4 C) (fun H locs hP2 hz9 hk9 hS => ?_)
  have hP1 := P_kept hP1 hk9 (sr_no C)
  have hPo := P_kept hPo hk9 (o_not (o_no4 C))
  have hfin := rel_sign hR (xs (k + 1))
  refine lv_icmp_eq (tgt := 482) hx hb dL_law_352 (by decide) (fun _ => ?_) (fun c9 => absurd (hfin) c9)
  refine W.widen (k := cells + 1) (n := slots + 6) (Nat.le_succ _) (Nat.le_add_right _ _) ?_
  exact kk _ _ (z) ((0, y.2)) f ls ⟨⟨hP1, hP2, hPo⟩, hR.code 0, hS⟩ hl
set_option maxHeartbeats 4000000 in
set_option maxRecDepth 100000 in
theorem law_way (htr : l.stackTraces = false) (S : CallFix p m c code 7 s #[Value.ref b] TB "SignReaderLaw") (hX : va_X b L xs s s.heap) (hbl : b < s.heap.size) (hL : L ≤ 3072) (C : LC s D h qb qt hm mb mt ma qo cI cL n1 n2 tc ts tm q v q28 q39) (I : LI s D h qb qt hm mb mt ma qo cI cL H locs z y f) (hk : k + 5 < L) (hl : lv_has ls 7 [(0, .ref b), (1, .ref h), (2, .ref hm), (3, .ref qo), (4, .int (nI k))]) (hcs : cells + 1 ≤ 1034 ∧ slots + 6 ≤ 28703)
    (kk : ∀ (H : Heap) (locs : List Loc) (z : SS) (y : MS) (f : Nat → Int64) (ls : Array Slot), LI s D h qb qt hm mb mt ma qo cI cL H locs z y f → lv_has ls 7 [(0, .ref b), (1, .ref h), (2, .ref hm), (3, .ref qo), (4, .int (nI k))] → W p l e room_1 s m #[Value.ref b] below meth c H locs (cells + 1) (slots + 6) Q (F0 m 482 ls [])) : W p l e room_1 s m #[Value.ref b] below meth c H locs cells slots Q (F0 m 357 ls []) := by
  obtain ⟨⟨hd, hdm⟩, -, hK2, hDD0, hEE0, h28, h39⟩ := id C
  obtain ⟨⟨hP1, hP2, hPo⟩, hR, hS⟩ := I
  have hz : okZ z := hR.1.1
  have hy : okY y := hR.1.2
  have hx := S.1
  have hb := S.2.1
  have hbA : ¬ (fun x : Nat => s.heap.size ≤ x) b := Nat.not_le.mpr hbl
  have hK : va_K D CL [(cI, .int)] s := hK2.sub [0] rfl
  have hkp : ∀ x : Nat, x < s.heap.size → H[x]? = s.heap[x]? := fun x h9 => hS.2.1 x h9 (Nat.not_le.mpr h9)
  have hDD := xD_kp hkp hDD0
  have hEE : xE nA s H := xE_move (Vm.Alike.refl s.vm) hkp (fun _ h9 => h9) hEE0
  have hfit : cells ≤ room_1.cells ∧ slots ≤ room_1.slots := ⟨by show cells ≤ 1034; omega, by show slots ≤ 28703; omega⟩
  have hfit1 : cells + 1 ≤ room_1.cells ∧ slots + 6 ≤ room_1.slots := hcs
  refine lv_aload_n hx hb dL_law_357 rfl (lv_at hl 1 rfl) ?_
  refine ro_V (r := (z.2.2.1)) (As := []) (rest := []) (n := 0) (C := "SignReader") S (cS_way l D h qb qt cI z.1 z.2.1 z.2.2.1 z.2.2.2.1 z.2.2.2.2 hz.1 hz.2) k135 k1 k133 k134 (by decide +kernel) ⟨rfl, rfl⟩ k132 (by decide) (xW_V ⟨hP1, hK⟩) rfl rfl hl.1 (Nat.le_of_ble_eq_true rfl) hfit dL_law_358 ?_
  refine lv_aload_n hx hb dL_law_361 rfl (lv_at hl 2 rfl) ?_
  refine lw_V (As := []) (rest := [.int (z.2.2.1)]) (n := 0) (C := "SignReaderModel") S (cM_way l D hm mb mt ma cI y  hdm hy) k492 k2 k490 k491 (by decide +kernel) ⟨rfl, rfl⟩ k489 (by decide) (xM_V ⟨hP2, hK⟩) rfl rfl hl.1 (Nat.le_of_ble_eq_true rfl) hfit dL_law_362 hS (a_4 C) (fun H locs hP2 hz9 hk9 hS => ?_)
  have hP1 := P_kept hP1 hk9 (sr_no C)
  have hPo := P_kept hPo hk9 (o_not (o_no4 C))
  have hfin := hR.2.1.2.2.symm
  refine lv_icmp_eq (tgt := 482) hx hb dL_law_365 (by decide) (fun _ => ?_) (fun c9 => absurd (hfin) c9)
  refine W.widen (k := cells + 1) (n := slots + 6) (Nat.le_succ _) (Nat.le_add_right _ _) ?_
  exact kk _ _ (z) ((0, y.2)) f ls ⟨⟨hP1, hP2, hPo⟩, hR.code 0, hS⟩ hl
set_option maxHeartbeats 4000000 in
set_option maxRecDepth 100000 in
theorem law_kinds (htr : l.stackTraces = false) (S : CallFix p m c code 7 s #[Value.ref b] TB "SignReaderLaw") (hX : va_X b L xs s s.heap) (hbl : b < s.heap.size) (hL : L ≤ 3072) (C : LC s D h qb qt hm mb mt ma qo cI cL n1 n2 tc ts tm q v q28 q39) (I : LI s D h qb qt hm mb mt ma qo cI cL H locs z y f) (hk : k + 5 < L) (hl : lv_has ls 7 [(0, .ref b), (1, .ref h), (2, .ref hm), (3, .ref qo), (4, .int (nI k))]) (hcs : cells + 1 ≤ 1034 ∧ slots + 6 ≤ 28703)
    (kk : ∀ (H : Heap) (locs : List Loc) (z : SS) (y : MS) (f : Nat → Int64) (ls : Array Slot), LI s D h qb qt hm mb mt ma qo cI cL H locs z y f → lv_has ls 7 [(0, .ref b), (1, .ref h), (2, .ref hm), (3, .ref qo), (4, .int (nI k))] → W p l e room_1 s m #[Value.ref b] below meth c H locs (cells + 1) (slots + 6) Q (F0 m 482 ls [])) : W p l e room_1 s m #[Value.ref b] below meth c H locs cells slots Q (F0 m 370 ls []) := by
  obtain ⟨⟨hd, hdm⟩, -, hK2, hDD0, hEE0, h28, h39⟩ := id C
  obtain ⟨⟨hP1, hP2, hPo⟩, hR, hS⟩ := I
  have hz : okZ z := hR.1.1
  have hy : okY y := hR.1.2
  have hx := S.1
  have hb := S.2.1
  have hbA : ¬ (fun x : Nat => s.heap.size ≤ x) b := Nat.not_le.mpr hbl
  have hK : va_K D CL [(cI, .int)] s := hK2.sub [0] rfl
  have hkp : ∀ x : Nat, x < s.heap.size → H[x]? = s.heap[x]? := fun x h9 => hS.2.1 x h9 (Nat.not_le.mpr h9)
  have hDD := xD_kp hkp hDD0
  have hEE : xE nA s H := xE_move (Vm.Alike.refl s.vm) hkp (fun _ h9 => h9) hEE0
  have hfit : cells ≤ room_1.cells ∧ slots ≤ room_1.slots := ⟨by show cells ≤ 1034; omega, by show slots ≤ 28703; omega⟩
  have hfit1 : cells + 1 ≤ room_1.cells ∧ slots + 6 ≤ room_1.slots := hcs
  refine lv_aload_n hx hb dL_law_370 rfl (lv_at hl 1 rfl) ?_
  refine lv_aload_n hx hb dL_law_371 rfl (lv_at hl 0 rfl) ?_
  refine lv_iload hx hb dL_law_372 (lv_at hl 4 rfl) ?_
  refine lv_iconst (v := 1) hx hb dL_law_374 (by decide) ?_
  refine lv_iadd hx hb dL_law_375 ?_
  rw [show nI k + 1 = nI (k + 1) from nI_add k 1]
  refine va_sld (A := fun x => s.heap.size ≤ x) hx hb hX hbl hbA hS (vp_in_nI (by omega) (by omega)) dL_law_376 ?_
  rw [nI_clamp (n := k + 1) (by omega)]
  refine ro_V (r := (kS (xs (k + 1)))) (As := [.int (xs (k + 1))]) (rest := []) (n := 1) (C := "SignReader") S (cS_kinds l D h qb qt cI z.1 z.2.1 z.2.2.1 z.2.2.2.1 z.2.2.2.2 hz.1 hz.2 tc ts tm q v (xs (k + 1))) k139 k1 k137 k138 (by decide +kernel) ⟨rfl, rfl⟩ k136 (by decide) (xWD_V ⟨⟨hP1, hK⟩, hDD⟩) rfl rfl hl.1 (Nat.le_of_ble_eq_true rfl) hfit dL_law_377 ?_
  refine lv_aload_n hx hb dL_law_380 rfl (lv_at hl 2 rfl) ?_
  refine lv_aload_n hx hb dL_law_381 rfl (lv_at hl 0 rfl) ?_
  refine lv_iload hx hb dL_law_382 (lv_at hl 4 rfl) ?_
  refine lv_iconst (v := 1) hx hb dL_law_384 (by decide) ?_
  refine lv_iadd hx hb dL_law_385 ?_
  rw [show nI k + 1 = nI (k + 1) from nI_add k 1]
  refine va_sld (A := fun x => s.heap.size ≤ x) hx hb hX hbl hbA hS (vp_in_nI (by omega) (by omega)) dL_law_386 ?_
  rw [nI_clamp (n := k + 1) (by omega)]
  refine lw_V (As := [.int (xs (k + 1))]) (rest := [.int (kS (xs (k + 1)))]) (n := 1) (C := "SignReaderModel") S (cM_kinds l D hm mb mt ma cI y (xs (k + 1)) hdm hy) k496 k2 k494 k495 (by decide +kernel) ⟨rfl, rfl⟩ k493 (by decide) (xM_V ⟨hP2, hK⟩) rfl rfl hl.1 (Nat.le_of_ble_eq_true rfl) hfit dL_law_387 hS (a_4 C) (fun H locs hP2 hz9 hk9 hS => ?_)
  have hP1 := P_kept hP1 hk9 (sr_no C)
  have hPo := P_kept hPo hk9 (o_not (o_no4 C))
  have hfin := kinds_eq (xs (k + 1))
  refine lv_icmp_eq (tgt := 482) hx hb dL_law_390 (by decide) (fun _ => ?_) (fun c9 => absurd (hfin) c9)
  refine W.widen (k := cells + 1) (n := slots + 6) (Nat.le_succ _) (Nat.le_add_right _ _) ?_
  exact kk _ _ (z) ((0, y.2)) f ls ⟨⟨hP1, hP2, hPo⟩, hR.code 0, hS⟩ hl
set_option maxHeartbeats 4000000 in
set_option maxRecDepth 100000 in
theorem law_run (htr : l.stackTraces = false) (S : CallFix p m c code 7 s #[Value.ref b] TB "SignReaderLaw") (hX : va_X b L xs s s.heap) (hbl : b < s.heap.size) (hL : L ≤ 3072) (C : LC s D h qb qt hm mb mt ma qo cI cL n1 n2 tc ts tm q v q28 q39) (I : LI s D h qb qt hm mb mt ma qo cI cL H locs z y f) (hk : k + 5 < L) (hl : lv_has ls 7 [(0, .ref b), (1, .ref h), (2, .ref hm), (3, .ref qo), (4, .int (nI k))]) (hcs : cells + 1 ≤ 1034 ∧ slots + 6 ≤ 28703)
    (kk : ∀ (H : Heap) (locs : List Loc) (z : SS) (y : MS) (f : Nat → Int64) (ls : Array Slot), LI s D h qb qt hm mb mt ma qo cI cL H locs z y f → lv_has ls 7 [(0, .ref b), (1, .ref h), (2, .ref hm), (3, .ref qo), (4, .int (nI k))] → W p l e room_1 s m #[Value.ref b] below meth c H locs (cells + 1) (slots + 6) Q (F0 m 482 ls [])) : W p l e room_1 s m #[Value.ref b] below meth c H locs cells slots Q (F0 m 395 ls []) := by
  obtain ⟨⟨hd, hdm⟩, -, hK2, hDD0, hEE0, h28, h39⟩ := id C
  obtain ⟨⟨hP1, hP2, hPo⟩, hR, hS⟩ := I
  have hz : okZ z := hR.1.1
  have hy : okY y := hR.1.2
  have hx := S.1
  have hb := S.2.1
  have hbA : ¬ (fun x : Nat => s.heap.size ≤ x) b := Nat.not_le.mpr hbl
  have hK : va_K D CL [(cI, .int)] s := hK2.sub [0] rfl
  have hkp : ∀ x : Nat, x < s.heap.size → H[x]? = s.heap[x]? := fun x h9 => hS.2.1 x h9 (Nat.not_le.mpr h9)
  have hDD := xD_kp hkp hDD0
  have hEE : xE nA s H := xE_move (Vm.Alike.refl s.vm) hkp (fun _ h9 => h9) hEE0
  have hfit : cells ≤ room_1.cells ∧ slots ≤ room_1.slots := ⟨by show cells ≤ 1034; omega, by show slots ≤ 28703; omega⟩
  have hfit1 : cells + 1 ≤ room_1.cells ∧ slots + 6 ≤ room_1.slots := hcs
  refine lv_aload_n hx hb dL_law_395 rfl (lv_at hl 1 rfl) ?_
  refine lv_aload_n hx hb dL_law_396 rfl (lv_at hl 0 rfl) ?_
  refine lv_iload hx hb dL_law_397 (lv_at hl 4 rfl) ?_
  refine lv_iconst (v := 1) hx hb dL_law_399 (by decide) ?_
  refine lv_iadd hx hb dL_law_400 ?_
  rw [show nI k + 1 = nI (k + 1) from nI_add k 1]
  refine va_sld (A := fun x => s.heap.size ≤ x) hx hb hX hbl hbA hS (vp_in_nI (by omega) (by omega)) dL_law_401 ?_
  rw [nI_clamp (n := k + 1) (by omega)]
  refine lv_aload_n hx hb dL_law_402 rfl (lv_at hl 0 rfl) ?_
  refine lv_iload hx hb dL_law_403 (lv_at hl 4 rfl) ?_
  refine lv_iconst (v := 2) hx hb dL_law_405 (by decide) ?_
  refine lv_iadd hx hb dL_law_406 ?_
  rw [show nI k + 2 = nI (k + 2) from nI_add k 2]
  refine va_sld (A := fun x => s.heap.size ≤ x) hx hb hX hbl hbA hS (vp_in_nI (by omega) (by omega)) dL_law_407 ?_
  rw [nI_clamp (n := k + 2) (by omega)]
  refine ro_V (r := (sRun z.2.2.2.2 z.2.1 (xs (k + 1)) (xs (k + 2)))) (As := [.int (xs (k + 1)), .int (xs (k + 2))]) (rest := []) (n := 2) (C := "SignReader") S (cS_run l D h qb qt cI z.1 z.2.1 z.2.2.1 z.2.2.2.1 z.2.2.2.2 hz.1 hz.2 tc ts tm q v (xs (k + 1)) (xs (k + 2))) k250 k1 k248 k249 (by decide +kernel) ⟨rfl, rfl⟩ k247 (by decide) (xWD_V ⟨⟨hP1, hK⟩, hDD⟩) rfl rfl hl.1 (Nat.le_of_ble_eq_true rfl) hfit dL_law_408 ?_
  refine lv_aload_n hx hb dL_law_411 rfl (lv_at hl 2 rfl) ?_
  refine lv_aload_n hx hb dL_law_412 rfl (lv_at hl 0 rfl) ?_
  refine lv_iload hx hb dL_law_413 (lv_at hl 4 rfl) ?_
  refine lv_iconst (v := 1) hx hb dL_law_415 (by decide) ?_
  refine lv_iadd hx hb dL_law_416 ?_
  rw [show nI k + 1 = nI (k + 1) from nI_add k 1]
  refine va_sld (A := fun x => s.heap.size ≤ x) hx hb hX hbl hbA hS (vp_in_nI (by omega) (by omega)) dL_law_417 ?_
  rw [nI_clamp (n := k + 1) (by omega)]
  refine lv_aload_n hx hb dL_law_418 rfl (lv_at hl 0 rfl) ?_
  refine lv_iload hx hb dL_law_419 (lv_at hl 4 rfl) ?_
  refine lv_iconst (v := 2) hx hb dL_law_421 (by decide) ?_
  refine lv_iadd hx hb dL_law_422 ?_
  rw [show nI k + 2 = nI (k + 2) from nI_add k 2]
  refine va_sld (A := fun x => s.heap.size ≤ x) hx hb hX hbl hbA hS (vp_in_nI (by omega) (by omega)) dL_law_423 ?_
  rw [nI_clamp (n := k + 2) (by omega)]
  refine lw_V (As := [.int (xs (k + 1)), .int (xs (k + 2))]) (rest := [.int (sRun z.2.2.2.2 z.2.1 (xs (k + 1)) (xs (k + 2)))]) (n := 2) (C := "SignReaderModel") S (cM_run l D hm mb mt ma cI y (xs (k + 1)) (xs (k + 2)) hdm hy) k519 k2 k517 k518 (by decide +kernel) ⟨rfl, rfl⟩ k516 (by decide) (xM_V ⟨hP2, hK⟩) rfl rfl hl.1 (Nat.le_of_ble_eq_true rfl) hfit dL_law_424 hS (a_4 C) (fun H locs hP2 hz9 hk9 hS => ?_)
  have hP1 := P_kept hP1 hk9 (sr_no C)
  have hPo := P_kept hPo hk9 (o_not (o_no4 C))
  have hfin := rel_run hR (xs (k + 1)) (xs (k + 2))
  refine lv_icmp_eq (tgt := 482) hx hb dL_law_427 (by decide) (fun _ => ?_) (fun c9 => absurd (hfin) c9)
  refine W.widen (k := cells + 1) (n := slots + 6) (Nat.le_succ _) (Nat.le_add_right _ _) ?_
  exact kk _ _ (z) ((0, y.2)) f ls ⟨⟨hP1, hP2, hPo⟩, hR.code 0, hS⟩ hl
set_option maxHeartbeats 4000000 in
set_option maxRecDepth 100000 in
theorem law_write (htr : l.stackTraces = false) (S : CallFix p m c code 7 s #[Value.ref b] TB "SignReaderLaw") (hX : va_X b L xs s s.heap) (hbl : b < s.heap.size) (hL : L ≤ 3072) (C : LC s D h qb qt hm mb mt ma qo cI cL n1 n2 tc ts tm q v q28 q39) (I : LI s D h qb qt hm mb mt ma qo cI cL H locs z y f) (hk : k + 5 < L) (hl : lv_has ls 7 [(0, .ref b), (1, .ref h), (2, .ref hm), (3, .ref qo), (4, .int (nI k))]) (hcs : cells + 1 ≤ 1034 ∧ slots + 6 ≤ 28703)
    (kk : ∀ (H : Heap) (locs : List Loc) (z : SS) (y : MS) (f : Nat → Int64) (ls : Array Slot), LI s D h qb qt hm mb mt ma qo cI cL H locs z y f → lv_has ls 7 [(0, .ref b), (1, .ref h), (2, .ref hm), (3, .ref qo), (4, .int (nI k))] → W p l e room_1 s m #[Value.ref b] below meth c H locs (cells + 1) (slots + 6) Q (F0 m 482 ls [])) : W p l e room_1 s m #[Value.ref b] below meth c H locs cells slots Q (F0 m 432 ls []) := by
  obtain ⟨⟨hd, hdm⟩, -, hK2, hDD0, hEE0, h28, h39⟩ := id C
  obtain ⟨⟨hP1, hP2, hPo⟩, hR, hS⟩ := I
  have hz : okZ z := hR.1.1
  have hy : okY y := hR.1.2
  have hx := S.1
  have hb := S.2.1
  have hbA : ¬ (fun x : Nat => s.heap.size ≤ x) b := Nat.not_le.mpr hbl
  have hK : va_K D CL [(cI, .int)] s := hK2.sub [0] rfl
  have hkp : ∀ x : Nat, x < s.heap.size → H[x]? = s.heap[x]? := fun x h9 => hS.2.1 x h9 (Nat.not_le.mpr h9)
  have hDD := xD_kp hkp hDD0
  have hEE : xE nA s H := xE_move (Vm.Alike.refl s.vm) hkp (fun _ h9 => h9) hEE0
  have hfit : cells ≤ room_1.cells ∧ slots ≤ room_1.slots := ⟨by show cells ≤ 1034; omega, by show slots ≤ 28703; omega⟩
  have hfit1 : cells + 1 ≤ room_1.cells ∧ slots + 6 ≤ room_1.slots := hcs
  refine lv_aload_n hx hb dL_law_432 rfl (lv_at hl 1 rfl) ?_
  refine lv_aload_n hx hb dL_law_433 rfl (lv_at hl 0 rfl) ?_
  refine lv_iload hx hb dL_law_434 (lv_at hl 4 rfl) ?_
  refine lv_iconst (v := 1) hx hb dL_law_436 (by decide) ?_
  refine lv_iadd hx hb dL_law_437 ?_
  rw [show nI k + 1 = nI (k + 1) from nI_add k 1]
  refine va_sld (A := fun x => s.heap.size ≤ x) hx hb hX hbl hbA hS (vp_in_nI (by omega) (by omega)) dL_law_438 ?_
  rw [nI_clamp (n := k + 1) (by omega)]
  refine lw_V (As := [.int (xs (k + 1))]) (rest := []) (n := 1) (C := "SignReader") S (cS_write l D h qb qt cI z (xs (k + 1)) hd hz) k254 k1 k252 k253 (by decide +kernel) ⟨rfl, rfl⟩ k251 (by decide) (xW_V ⟨hP1, hK⟩) rfl rfl hl.1 (Nat.le_of_ble_eq_true rfl) hfit dL_law_439 hS (a_3 C) (fun H locs hP1 hz9 hk9 hS => ?_)
  have hP2 := P_kept hP2 hk9 (mo_no C)
  have hPo := P_kept hPo hk9 (o_not (o_no3 C))
  refine lv_aload_n hx hb dL_law_442 rfl (lv_at hl 2 rfl) ?_
  refine lv_aload_n hx hb dL_law_443 rfl (lv_at hl 0 rfl) ?_
  refine lv_iload hx hb dL_law_444 (lv_at hl 4 rfl) ?_
  refine lv_iconst (v := 1) hx hb dL_law_446 (by decide) ?_
  refine lv_iadd hx hb dL_law_447 ?_
  rw [show nI k + 1 = nI (k + 1) from nI_add k 1]
  refine va_sld (A := fun x => s.heap.size ≤ x) hx hb hX hbl hbA hS (vp_in_nI (by omega) (by omega)) dL_law_448 ?_
  rw [nI_clamp (n := k + 1) (by omega)]
  refine lw_V (As := [.int (xs (k + 1))]) (rest := [.int (if wOk z (xs (k + 1)) = true then nI (zW z (xs (k + 1)) z.2.1).1 else -1)]) (n := 1) (C := "SignReaderModel") S (cM_write l D hm mb mt ma cI y (xs (k + 1)) hdm hy) k523 k2 k521 k522 (by decide +kernel) ⟨rfl, rfl⟩ k520 (by decide) (xM_V ⟨hP2, hK⟩) rfl rfl hl.1 (Nat.le_of_ble_eq_true rfl) hfit dL_law_449 hS (a_4 C) (fun H locs hP2 hz9 hk9 hS => ?_)
  have hP1 := P_kept hP1 hk9 (sr_no C)
  have hPo := P_kept hPo hk9 (o_not (o_no4 C))
  have hfin := rel_write hR (xs (k + 1))
  refine lv_icmp_eq (tgt := 482) hx hb dL_law_452 (by decide) (fun _ => ?_) (fun c9 => absurd (hfin.2) c9)
  refine W.widen (k := cells + 1) (n := slots + 6) (Nat.le_succ _) (Nat.le_add_right _ _) ?_
  exact kk _ _ (zWrite z (xs (k + 1))) (yWrite y (xs (k + 1))) f ls ⟨⟨hP1, hP2, hPo⟩, hfin.1, hS⟩ hl
set_option maxHeartbeats 4000000 in
set_option maxRecDepth 100000 in
theorem law_add (htr : l.stackTraces = false) (S : CallFix p m c code 7 s #[Value.ref b] TB "SignReaderLaw") (hX : va_X b L xs s s.heap) (hbl : b < s.heap.size) (hL : L ≤ 3072) (C : LC s D h qb qt hm mb mt ma qo cI cL n1 n2 tc ts tm q v q28 q39) (I : LI s D h qb qt hm mb mt ma qo cI cL H locs z y f) (hk : k + 5 < L) (hl : lv_has ls 7 [(0, .ref b), (1, .ref h), (2, .ref hm), (3, .ref qo), (4, .int (nI k))]) (hcs : cells + 1 ≤ 1034 ∧ slots + 6 ≤ 28703)
    (kk : ∀ (H : Heap) (locs : List Loc) (z : SS) (y : MS) (f : Nat → Int64) (ls : Array Slot), LI s D h qb qt hm mb mt ma qo cI cL H locs z y f → lv_has ls 7 [(0, .ref b), (1, .ref h), (2, .ref hm), (3, .ref qo), (4, .int (nI k))] → W p l e room_1 s m #[Value.ref b] below meth c H locs (cells + 1) (slots + 6) Q (F0 m 482 ls [])) : W p l e room_1 s m #[Value.ref b] below meth c H locs cells slots Q (F0 m 457 ls []) := by
  obtain ⟨⟨hd, hdm⟩, -, hK2, hDD0, hEE0, h28, h39⟩ := id C
  obtain ⟨⟨hP1, hP2, hPo⟩, hR, hS⟩ := I
  have hz : okZ z := hR.1.1
  have hy : okY y := hR.1.2
  have hx := S.1
  have hb := S.2.1
  have hbA : ¬ (fun x : Nat => s.heap.size ≤ x) b := Nat.not_le.mpr hbl
  have hK : va_K D CL [(cI, .int)] s := hK2.sub [0] rfl
  have hkp : ∀ x : Nat, x < s.heap.size → H[x]? = s.heap[x]? := fun x h9 => hS.2.1 x h9 (Nat.not_le.mpr h9)
  have hDD := xD_kp hkp hDD0
  have hEE : xE nA s H := xE_move (Vm.Alike.refl s.vm) hkp (fun _ h9 => h9) hEE0
  have hfit : cells ≤ room_1.cells ∧ slots ≤ room_1.slots := ⟨by show cells ≤ 1034; omega, by show slots ≤ 28703; omega⟩
  have hfit1 : cells + 1 ≤ room_1.cells ∧ slots + 6 ≤ room_1.slots := hcs
  refine lv_aload_n hx hb dL_law_457 rfl (lv_at hl 1 rfl) ?_
  refine lv_aload_n hx hb dL_law_458 rfl (lv_at hl 0 rfl) ?_
  refine lv_iload hx hb dL_law_459 (lv_at hl 4 rfl) ?_
  refine lv_iconst (v := 1) hx hb dL_law_461 (by decide) ?_
  refine lv_iadd hx hb dL_law_462 ?_
  rw [show nI k + 1 = nI (k + 1) from nI_add k 1]
  refine va_sld (A := fun x => s.heap.size ≤ x) hx hb hX hbl hbA hS (vp_in_nI (by omega) (by omega)) dL_law_463 ?_
  rw [nI_clamp (n := k + 1) (by omega)]
  refine lw_V (As := [.int (xs (k + 1))]) (rest := []) (n := 1) (C := "SignReader") S (cS_add l D h qb qt cI z tc (xs (k + 1)) hd hz) k282 k1 k280 k281 (by decide +kernel) ⟨rfl, rfl⟩ k279 (by decide) (xWC_V ⟨⟨hP1, hK⟩, hDD.1⟩) rfl rfl hl.1 (Nat.le_of_ble_eq_true rfl) hfit dL_law_464 hS (a_3 C) (fun H locs hP1 hz9 hk9 hS => ?_)
  have hP2 := P_kept hP2 hk9 (mo_no C)
  have hPo := P_kept hPo hk9 (o_not (o_no3 C))
  refine lv_aload_n hx hb dL_law_467 rfl (lv_at hl 2 rfl) ?_
  refine lv_aload_n hx hb dL_law_468 rfl (lv_at hl 0 rfl) ?_
  refine lv_iload hx hb dL_law_469 (lv_at hl 4 rfl) ?_
  refine lv_iconst (v := 1) hx hb dL_law_471 (by decide) ?_
  refine lv_iadd hx hb dL_law_472 ?_
  rw [show nI k + 1 = nI (k + 1) from nI_add k 1]
  refine va_sld (A := fun x => s.heap.size ≤ x) hx hb hX hbl hbA hS (vp_in_nI (by omega) (by omega)) dL_law_473 ?_
  rw [nI_clamp (n := k + 1) (by omega)]
  refine lw_V (As := [.int (xs (k + 1))]) (rest := [.int (if aOk z (xs (k + 1)) = true then nI (wG z (xs (k + 1))).2.1 else -1)]) (n := 1) (C := "SignReaderModel") S (cM_add l D hm mb mt ma cI y (xs (k + 1)) hdm hy) k541 k2 k539 k540 (by decide +kernel) ⟨rfl, rfl⟩ k538 (by decide) (xM_V ⟨hP2, hK⟩) rfl rfl hl.1 (Nat.le_of_ble_eq_true rfl) hfit dL_law_474 hS (a_4 C) (fun H locs hP2 hz9 hk9 hS => ?_)
  have hP1 := P_kept hP1 hk9 (sr_no C)
  have hPo := P_kept hPo hk9 (o_not (o_no4 C))
  have hfin := rel_add hR (xs (k + 1))
  refine lv_icmp_eq (tgt := 482) hx hb dL_law_477 (by decide) (fun _ => ?_) (fun c9 => absurd (hfin.2) c9)
  refine W.widen (k := cells + 1) (n := slots + 6) (Nat.le_succ _) (Nat.le_add_right _ _) ?_
  exact kk _ _ (zAdd z (xs (k + 1))) (yAdd y (xs (k + 1))) f ls ⟨⟨hP1, hP2, hPo⟩, hfin.1, hS⟩ hl
end Case
