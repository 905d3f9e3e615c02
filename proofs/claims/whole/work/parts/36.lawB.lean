/-! the law: feed and end -/
section Case
variable {p : Program} {l : Launch} {e : Env} {s : State} {m : MethodId} {below : List Frame} {meth : Method} {c : Code} {H : Heap} {locs : List Loc} {cells slots : Nat} {Q : State → Prop} {ls : Array Slot} {b L k : Nat} {xs : Nat → Int32}
variable {D : va_G} {h qb qt hm mb mt ma qo : Nat} {cI cL : ClassId} {n1 n2 tc ts tm q v q28 q39 : Nat} {z : SS} {y : MS} {f : Nat → Int64}
set_option maxHeartbeats 4000000 in
set_option maxRecDepth 100000 in
theorem law_feed (htr : l.stackTraces = false) (S : CallFix p m c code 7 s #[Value.ref b] TB "SignReaderLaw") (hX : va_X b L xs s s.heap) (hbl : b < s.heap.size) (hL : L ≤ 3072) (C : LC s D h qb qt hm mb mt ma qo cI cL n1 n2 tc ts tm q v q28 q39) (I : LI s D h qb qt hm mb mt ma qo cI cL H locs z y f) (hk : k + 5 < L) (hl : lv_has ls 7 [(0, .ref b), (1, .ref h), (2, .ref hm), (3, .ref qo), (4, .int (nI k))]) (hcs : cells + 1 ≤ 1034 ∧ slots + 6 ≤ 28703)
    (kk : ∀ (H : Heap) (locs : List Loc) (z : SS) (y : MS) (f : Nat → Int64) (ls : Array Slot), LI s D h qb qt hm mb mt ma qo cI cL H locs z y f → lv_has ls 7 [(0, .ref b), (1, .ref h), (2, .ref hm), (3, .ref qo), (4, .int (nI k))] → W p l e room_1 s m #[Value.ref b] below meth c H locs (cells + 1) (slots + 6) Q (F0 m 482 ls [])) : W p l e room_1 s m #[Value.ref b] below meth c H locs cells slots Q (F0 m 104 ls []) := by
  obtain ⟨⟨hd, hdm⟩, -, hK2, hDD0, hEE0, h28, h39⟩ := id C
  obtain ⟨⟨hP1, hP2, hPo⟩, hR, hS⟩ := I
  have hz : okZ z := hR.1.1
  have hy : okY y := hR.1.2
  have hx := S.1
  have hb := S.2.1
  have hbA : ¬ (fun x : Nat => s.heap.size ≤ x) b := Nat.not_le.mpr hbl
  have hK : va_K D CL [(cI, .int)] s := hK2.sub [0] rfl
  have hkp : ∀ x : Nat, x < s.heap.size → H[x]? = s.heap[x]? := fun x h9 => hS.2.1 x h9 (Nat.not_le.mpr h9)
  have hDD := xD_kp hkp hDD0
  have hEE : xE nA s H := xE_move (Vm.Alike.refl s.vm) hkp (fun _ h9 => h9) hEE0
  have hfit : cells ≤ room_1.cells ∧ slots ≤ room_1.slots := ⟨by show cells ≤ 1034; omega, by show slots ≤ 28703; omega⟩
  have hfit1 : cells + 1 ≤ room_1.cells ∧ slots + 6 ≤ room_1.slots := hcs
  refine lv_aload_n hx hb dL_law_104 rfl (lv_at hl 1 rfl) ?_
  refine lv_aload_n hx hb dL_law_105 rfl (lv_at hl 0 rfl) ?_
  refine lv_iload hx hb dL_law_106 (lv_at hl 4 rfl) ?_
  refine lv_iconst (v := 1) hx hb dL_law_108 (by decide) ?_
  refine lv_iadd hx hb dL_law_109 ?_
  rw [show nI k + 1 = nI (k + 1) from nI_add k 1]
  refine va_sld (A := fun x => s.heap.size ≤ x) hx hb hX hbl hbA hS (vp_in_nI (by omega) (by omega)) dL_law_110 ?_
  rw [nI_clamp (n := k + 1) (by omega)]
  refine lv_aload_n hx hb dL_law_111 rfl (lv_at hl 0 rfl) ?_
  refine lv_iload hx hb dL_law_112 (lv_at hl 4 rfl) ?_
  refine lv_iconst (v := 2) hx hb dL_law_114 (by decide) ?_
  refine lv_iadd hx hb dL_law_115 ?_
  rw [show nI k + 2 = nI (k + 2) from nI_add k 2]
  refine va_sld (A := fun x => s.heap.size ≤ x) hx hb hX hbl hbA hS (vp_in_nI (by omega) (by omega)) dL_law_116 ?_
  rw [nI_clamp (n := k + 2) (by omega)]
  refine lv_aload_n hx hb dL_law_117 rfl (lv_at hl 0 rfl) ?_
  refine lv_iload hx hb dL_law_118 (lv_at hl 4 rfl) ?_
  refine lv_iconst (v := 3) hx hb dL_law_120 (by decide) ?_
  refine lv_iadd hx hb dL_law_121 ?_
  rw [show nI k + 3 = nI (k + 3) from nI_add k 3]
  refine va_sld (A := fun x => s.heap.size ≤ x) hx hb hX hbl hbA hS (vp_in_nI (by omega) (by omega)) dL_law_122 ?_
  rw [nI_clamp (n := k + 3) (by omega)]
  refine lv_aload_n hx hb dL_law_123 rfl (lv_at hl 0 rfl) ?_
  refine lv_iload hx hb dL_law_124 (lv_at hl 4 rfl) ?_
  refine lv_iconst (v := 4) hx hb dL_law_126 (by decide) ?_
  refine lv_iadd hx hb dL_law_127 ?_
  rw [show nI k + 4 = nI (k + 4) from nI_add k 4]
  refine va_sld (A := fun x => s.heap.size ≤ x) hx hb hX hbl hbA hS (vp_in_nI (by omega) (by omega)) dL_law_128 ?_
  rw [nI_clamp (n := k + 4) (by omega)]
  refine lv_aload_n hx hb dL_law_129 rfl (lv_at hl 0 rfl) ?_
  refine lv_iload hx hb dL_law_130 (lv_at hl 4 rfl) ?_
  refine lv_iconst (v := 5) hx hb dL_law_132 (by decide) ?_
  refine lv_iadd hx hb dL_law_133 ?_
  rw [show nI k + 5 = nI (k + 5) from nI_add k 5]
  refine va_sld (A := fun x => s.heap.size ≤ x) hx hb hX hbl hbA hS (vp_in_nI (by omega) (by omega)) dL_law_134 ?_
  rw [nI_clamp (n := k + 5) (by omega)]
  refine sw_S (As := [.ref h, .int (xs (k + 1)), .int (xs (k + 2)), .int (xs (k + 3)), .int (xs (k + 4)), .int (xs (k + 5))]) (rest := []) (n := 6) S (cL_feed l htr D h qb qt cI z q28 (xs (k + 1)) (xs (k + 2)) (xs (k + 3)) (xs (k + 4)) (xs (k + 5)) hd hz) k285 k0 k284 (by decide +kernel) ⟨rfl, rfl⟩ k283 (by decide) (gx_S xF_ok ⟨⟨hP1, hK⟩, hEE, h28⟩) rfl rfl hl.1 (Nat.le_of_ble_eq_true rfl) hfit1 dL_law_135 hS (a_3 C) (fun H locs hP1 hz9 hk9 hS => ?_)
  have hP2 := P_kept hP2 hk9 (mo_no C)
  have hPo := P_kept hPo hk9 (o_not (o_no3 C))
  refine lv_istore (lv' := [(5, .int (if z.1 + 20 ≤ 4096 then 0 else 1)), (0, .ref b), (1, .ref h), (2, .ref hm), (3, .ref qo), (4, .int (nI k))]) hx hb dL_law_138 hl (by decide) rfl (fun ls hl => ?_)
  refine lv_aload_n hx hb dL_law_140 rfl (lv_at hl 3 rfl) ?_
  refine lv_aload_n hx hb dL_law_141 rfl (lv_at hl 1 rfl) ?_
  refine lv_iload hx hb dL_law_142 (lv_at hl 5 rfl) ?_
  refine lv_iconst (v := 1) hx hb dL_law_144 (by decide) ?_
  refine lv_iadd hx hb dL_law_145 ?_
  rw [show nI k + 1 = nI (k + 1) from nI_add k 1]
  refine va_sld (A := fun x => s.heap.size ≤ x) hx hb hX hbl hbA hS (vp_in_nI (by omega) (by omega)) dL_law_146 ?_
  rw [nI_clamp (n := k + 1) (by omega)]
  refine lv_aload_n hx hb dL_law_147 rfl (lv_at hl 1 rfl) ?_
  refine lv_iload hx hb dL_law_148 (lv_at hl 5 rfl) ?_
  refine lv_iconst (v := 2) hx hb dL_law_150 (by decide) ?_
  refine lv_iadd hx hb dL_law_151 ?_
  rw [show nI k + 2 = nI (k + 2) from nI_add k 2]
  refine va_sld (A := fun x => s.heap.size ≤ x) hx hb hX hbl hbA hS (vp_in_nI (by omega) (by omega)) dL_law_152 ?_
  rw [nI_clamp (n := k + 2) (by omega)]
  refine lv_aload_n hx hb dL_law_153 rfl (lv_at hl 1 rfl) ?_
  refine lv_iload hx hb dL_law_154 (lv_at hl 5 rfl) ?_
  refine lv_iconst (v := 3) hx hb dL_law_156 (by decide) ?_
  refine lv_iadd hx hb dL_law_157 ?_
  rw [show nI k + 3 = nI (k + 3) from nI_add k 3]
  refine va_sld (A := fun x => s.heap.size ≤ x) hx hb hX hbl hbA hS (vp_in_nI (by omega) (by omega)) dL_law_158 ?_
  rw [nI_clamp (n := k + 3) (by omega)]
  refine lv_aload_n hx hb dL_law_159 rfl (lv_at hl 1 rfl) ?_
  refine lv_iload hx hb dL_law_160 (lv_at hl 5 rfl) ?_
  refine lv_iconst (v := 4) hx hb dL_law_162 (by decide) ?_
  refine lv_iadd hx hb dL_law_163 ?_
  rw [show nI k + 4 = nI (k + 4) from nI_add k 4]
  refine va_sld (A := fun x => s.heap.size ≤ x) hx hb hX hbl hbA hS (vp_in_nI (by omega) (by omega)) dL_law_164 ?_
  rw [nI_clamp (n := k + 4) (by omega)]
  refine lv_aload_n hx hb dL_law_165 rfl (lv_at hl 1 rfl) ?_
  refine lv_iload hx hb dL_law_166 (lv_at hl 5 rfl) ?_
  refine lv_iconst (v := 5) hx hb dL_law_168 (by decide) ?_
  refine lv_iadd hx hb dL_law_169 ?_
  rw [show nI k + 5 = nI (k + 5) from nI_add k 5]
  refine va_sld (A := fun x => s.heap.size ≤ x) hx hb hX hbl hbA hS (vp_in_nI (by omega) (by omega)) dL_law_170 ?_
  rw [nI_clamp (n := k + 5) (by omega)]
  refine lw_V (As := [.int (xs (k + 1)), .int (xs (k + 2)), .int (xs (k + 3)), .int (xs (k + 4)), .int (xs (k + 5))]) (rest := []) (n := 5) (C := "SignReaderModel") S (cM_feed l D hm mb mt ma cI y (xs (k + 1)) (xs (k + 2)) (xs (k + 3)) (xs (k + 4)) (xs (k + 5)) hdm hy) k426 k2 k424 k425 (by decide +kernel) ⟨rfl, rfl⟩ k423 (by decide) (xM_V ⟨hP2, hK⟩) rfl rfl hl.1 (Nat.le_of_ble_eq_true rfl) hfit1 dL_law_171 hS (a_4 C) (fun H locs hP2 hz9 hk9 hS => ?_)
  have hP1 := P_kept hP1 hk9 (sr_no C)
  have hPo := P_kept hPo hk9 (o_not (o_no4 C))
  have hfin := fin_feed hR (xs (k + 1)) (xs (k + 2)) (xs (k + 3)) (xs (k + 4)) (xs (k + 5))
  refine lv_aload_n hx hb dL_law_174 rfl (lv_at hl 3 rfl) ?_
  refine ro_V (r := ((yFeed y (xs (k + 1)) (xs (k + 2)) (xs (k + 3)) (xs (k + 4)) (xs (k + 5))).1)) (As := []) (rest := []) (n := 0) (C := "SignReaderModel") S (cM_thrown l D hm mb mt ma cI (yFeed y (xs (k + 1)) (xs (k + 2)) (xs (k + 3)) (xs (k + 4)) (xs (k + 5))) hfin.1.1.2) k422 k2 k420 k421 (by decide +kernel) ⟨rfl, rfl⟩ k419 (by decide) (xM_V ⟨hP2, hK⟩) rfl rfl hl.1 (Nat.le_of_ble_eq_true rfl) hfit1 dL_law_175 ?_
  refine lv_iload hx hb dL_law_178 (lv_at hl 0 rfl) ?_
  refine lv_icmp_eq (tgt := 185) hx hb dL_law_180 (by decide) (fun _ => ?_) (fun c9 => absurd hfin.2 c9)
  refine lv_goto (tgt := 482) hx hb dL_law_185 (by decide) ?_
  exact kk _ _ (if z.1 + 20 ≤ 4096 then zFeed z (xs (k + 1)) (xs (k + 2)) (xs (k + 3)) (xs (k + 4)) (xs (k + 5)) else z) (yFeed y (xs (k + 1)) (xs (k + 2)) (xs (k + 3)) (xs (k + 4)) (xs (k + 5))) f ls ⟨⟨hP1, hP2, hPo⟩, hfin.1, hS⟩ (lv_sub hl [1, 2, 3, 4, 5] rfl)
set_option maxHeartbeats 4000000 in
set_option maxRecDepth 100000 in
theorem law_end (htr : l.stackTraces = false) (S : CallFix p m c code 7 s #[Value.ref b] TB "SignReaderLaw") (hX : va_X b L xs s s.heap) (hbl : b < s.heap.size) (hL : L ≤ 3072) (C : LC s D h qb qt hm mb mt ma qo cI cL n1 n2 tc ts tm q v q28 q39) (I : LI s D h qb qt hm mb mt ma qo cI cL H locs z y f) (hk : k + 5 < L) (hl : lv_has ls 7 [(0, .ref b), (1, .ref h), (2, .ref hm), (3, .ref qo), (4, .int (nI k))]) (hcs : cells + 1 ≤ 1034 ∧ slots + 6 ≤ 28703)
    (kk : ∀ (H : Heap) (locs : List Loc) (z : SS) (y : MS) (f : Nat → Int64) (ls : Array Slot), LI s D h qb qt hm mb mt ma qo cI cL H locs z y f → lv_has ls 7 [(0, .ref b), (1, .ref h), (2, .ref hm), (3, .ref qo), (4, .int (nI k))] → W p l e room_1 s m #[Value.ref b] below meth c H locs (cells + 1) (slots + 6) Q (F0 m 482 ls [])) : W p l e room_1 s m #[Value.ref b] below meth c H locs cells slots Q (F0 m 188 ls []) := by
  obtain ⟨⟨hd, hdm⟩, -, hK2, hDD0, hEE0, h28, h39⟩ := id C
  obtain ⟨⟨hP1, hP2, hPo⟩, hR, hS⟩ := I
  have hz : okZ z := hR.1.1
  have hy : okY y := hR.1.2
  have hx := S.1
  have hb := S.2.1
  have hbA : ¬ (fun x : Nat => s.heap.size ≤ x) b := Nat.not_le.mpr hbl
  have hK : va_K D CL [(cI, .int)] s := hK2.sub [0] rfl
  have hkp : ∀ x : Nat, x < s.heap.size → H[x]? = s.heap[x]? := fun x h9 => hS.2.1 x h9 (Nat.not_le.mpr h9)
  have hDD := xD_kp hkp hDD0
  have hEE : xE nA s H := xE_move (Vm.Alike.refl s.vm) hkp (fun _ h9 => h9) hEE0
  have hfit : cells ≤ room_1.cells ∧ slots ≤ room_1.slots := ⟨by show cells ≤ 1034; omega, by show slots ≤ 28703; omega⟩
  have hfit1 : cells + 1 ≤ room_1.cells ∧ slots + 6 ≤ room_1.slots := hcs
  refine lv_aload_n hx hb dL_law_188 rfl (lv_at hl 1 rfl) ?_
  refine lv_aload_n hx hb dL_law_189 rfl (lv_at hl 0 rfl) ?_
  refine lv_iload hx hb dL_law_190 (lv_at hl 4 rfl) ?_
  refine lv_iconst (v := 1) hx hb dL_law_192 (by decide) ?_
  refine lv_iadd hx hb dL_law_193 ?_
  rw [show nI k + 1 = nI (k + 1) from nI_add k 1]
  refine va_sld (A := fun x => s.heap.size ≤ x) hx hb hX hbl hbA hS (vp_in_nI (by omega) (by omega)) dL_law_194 ?_
  rw [nI_clamp (n := k + 1) (by omega)]
  refine lv_aload_n hx hb dL_law_195 rfl (lv_at hl 3 rfl) ?_
  refine sw_S (As := [.ref h, .int (xs (k + 1)), .ref qo]) (rest := []) (n := 3) S (cL_end l htr D h qb qt cI z q39 qo cL f (xs (k + 1)) hd hz (o_no3 C)) k363 k0 k362 (by decide +kernel) ⟨rfl, rfl⟩ k361 (by decide) (gx_S xG_ok ⟨⟨⟨hP1, hK⟩, hEE, h39⟩, hPo, hK2⟩) rfl rfl hl.1 (Nat.le_of_ble_eq_true rfl) hfit1 dL_law_196 hS (a_3o C) (fun H locs hPP hz9 hk9 hS => ?_)
  have hP2 := P_kept hP2 hk9 (mo_no2 C)
  have hP1 : va_P D CL (srZ h qb qt cI (if eOk z (xs (k + 1)) = true then zEnd z (xs (k + 1)) else z)) H := hPP.sub [0, 1, 2] rfl
  have hPo : va_P D CL (oW qo cL (if eOk z (xs (k + 1)) = true then vp_updL f 0 (nI z.1).toInt64 else f)) H := hPP.sub [3] rfl
  refine lv_istore (lv' := [(5, .int (if eOk z (xs (k + 1)) = true then 0 else 1)), (0, .ref b), (1, .ref h), (2, .ref hm), (3, .ref qo), (4, .int (nI k))]) hx hb dL_law_199 hl (by decide) rfl (fun ls hl => ?_)
  refine lv_aload_n hx hb dL_law_201 rfl (lv_at hl 3 rfl) ?_
  refine lv_aload_n hx hb dL_law_202 rfl (lv_at hl 1 rfl) ?_
  refine lv_iload hx hb dL_law_203 (lv_at hl 5 rfl) ?_
  refine lv_iconst (v := 1) hx hb dL_law_205 (by decide) ?_
  refine lv_iadd hx hb dL_law_206 ?_
  rw [show nI k + 1 = nI (k + 1) from nI_add k 1]
  refine va_sld (A := fun x => s.heap.size ≤ x) hx hb hX hbl hbA hS (vp_in_nI (by omega) (by omega)) dL_law_207 ?_
  rw [nI_clamp (n := k + 1) (by omega)]
  refine lw_V (As := [.int (xs (k + 1))]) (rest := []) (n := 1) (C := "SignReaderModel") S (cM_end l D hm mb mt ma cI y (xs (k + 1)) hdm hy) k430 k2 k428 k429 (by decide +kernel) ⟨rfl, rfl⟩ k427 (by decide) (xM_V ⟨hP2, hK⟩) rfl rfl hl.1 (Nat.le_of_ble_eq_true rfl) hfit1 dL_law_208 hS (a_4 C) (fun H locs hP2 hz9 hk9 hS => ?_)
  have hP1 := P_kept hP1 hk9 (sr_no C)
  have hPo := P_kept hPo hk9 (o_not (o_no4 C))
  refine lv_istore (lv' := [(6, .int (if meOk y (xs (k + 1)) = true then nI y.2.1 else 0)), (5, .int (if eOk z (xs (k + 1)) = true then 0 else 1)), (0, .ref b), (1, .ref h), (2, .ref hm), (3, .ref qo), (4, .int (nI k))]) hx hb dL_law_211 hl (by decide) rfl (fun ls hl => ?_)
  have hfin := fin_end hR (xs (k + 1))
  refine lv_aload_n hx hb dL_law_213 rfl (lv_at hl 4 rfl) ?_
  refine ro_V (r := ((yEnd y (xs (k + 1))).1)) (As := []) (rest := []) (n := 0) (C := "SignReaderModel") S (cM_thrown l D hm mb mt ma cI (yEnd y (xs (k + 1))) hfin.1.1.2) k422 k2 k420 k421 (by decide +kernel) ⟨rfl, rfl⟩ k419 (by decide) (xM_V ⟨hP2, hK⟩) rfl rfl hl.1 (Nat.le_of_ble_eq_true rfl) hfit1 dL_law_214 ?_
  refine lv_iload hx hb dL_law_217 (lv_at hl 1 rfl) ?_
  have J241 : W p l e room_1 s m #[Value.ref b] below meth c H locs (cells + 1) (slots + 6) Q (F0 m 241 ls []) := by
    refine lv_goto (tgt := 482) hx hb dL_law_241 (by decide) ?_
    exact kk _ _ (if eOk z (xs (k + 1)) = true then zEnd z (xs (k + 1)) else z) (yEnd y (xs (k + 1))) (if eOk z (xs (k + 1)) = true then vp_updL f 0 (nI z.1).toInt64 else f) ls ⟨⟨hP1, hP2, hPo⟩, hfin.1, hS⟩ (lv_sub hl [2, 3, 4, 5, 6] rfl)
  refine lv_icmp_eq (tgt := 224) hx hb dL_law_219 (by decide) (fun _ => ?_) (fun c9 => absurd hfin.2.1 c9)
  refine lv_iload hx hb dL_law_224 (lv_at hl 1 rfl) ?_
  refine lv_if_ne (tgt := 241) hx hb dL_law_226 (by decide) (fun _ => J241) (fun c9 => ?_)
  have hn : eOk z (xs (k + 1)) = true := Decidable.byContradiction (fun q9 => by rw [if_neg q9] at c9; exact absurd c9 (by decide))
  refine lv_aload_n hx hb dL_law_229 rfl (lv_at hl 5 rfl) ?_
  refine lv_iconst (v := 0) hx hb dL_law_230 (by decide) ?_
  refine va_lald (i := 0) hx hb hK2 hPo 0 1 rfl rfl (by unfold vp_in; decide) dL_law_231 ?_
  refine lv_iload hx hb dL_law_232 (lv_at hl 0 rfl) ?_
  refine lv_i2l hx hb dL_law_234 rfl ?_
  refine W.lcmp hx hb dL_law_235 ?_
  refine lv_if_eq (tgt := 241) hx hb dL_law_236 (by decide) (fun _ => J241) (fun c8 => absurd ?_ c8)
  rw [hfin.2.2 hn, if_pos hn]
  show lg_cmp (nI z.1).toInt64 (nI z.1).toInt64 = 0
  simp [lg_cmp]
end Case
