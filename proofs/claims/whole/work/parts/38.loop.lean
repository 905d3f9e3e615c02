/-! THE CLAIM OUT OF ONE WALK OF THE LAW'S BODY. Your part is whole_start (and what it stands on); all else here is the same for every law, but numbers. -/
def R_law : String := "SignReaderLaw"
def lw_P (b : Addr) (xs : List Int32) (args : Array Value) (s : State) : Prop := args = #[.ref b] ∧ s.IntsAt b xs ∧ xs.length ≤ 3072 ∧ (Jvm.Cond.and given_1 narrow_1).before args s = true
def lw_Q (_ : Array Value) (s : State) (o : Outcome) (t : State) : Prop := o = .returned (some (.int 1)) ∧ Framed s o t [] 1034 28703
def lw_Z (below : List Frame) (a : Array Value) (s : State) : State → Prop := fun t => ∃ o, t.status = .running ∧ Ended t below o ∧ lw_Q a s o t
/-- the law's own end, with 1 on the stack, nothing written that was there before, its room as the claim has it -/
theorem lw_ret {p : Program} {l : Launch} {e : Env} {s : State} {m : MethodId} {below : List Frame} {meth : Method} {c : Code} {b : Nat} (hx : p.tables.exec = Jvm.exec) (hb : c.code = code) (hr : meth.sig.returnType = ret) (hlocks : meth.locks = false) {pc : Nat} {H : Heap} {ls : Array Slot} (hdg : decode code pc = .ok (.ireturn, 1)) : W p l e room_1 s m #[Value.ref b] below meth c H [] 1034 28703 (lw_Z below #[Value.ref b] s) (F0 m pc ls [.int 1]) := by
  intro T hT X
  obtain ⟨fs, hret, hrun, hended, hW, hframe⟩ := X.leave (v := some (.int 1)) (hlocks := hlocks) (fun h => by rw [hr] at h; cases h)
  have hmeth' : T.vm.method? m = some meth := X.method'
  refine ⟨T.setFrames fs, ?_, .returned (some (.int 1)), hrun, hended, rfl, ⟨_, rfl⟩, hW, hframe⟩
  jvm_step X.here [X.here.top, hx, hb, hdg, hmeth', hr, ret, narrow_b1]
  (try refine ⟨rfl, ?_⟩); (try refine ⟨rfl, ?_⟩)
  first | (intro acts; rw [hret _ acts rfl rfl rfl]) | rw [hret _ _ rfl rfl rfl]
  exact Steps.refl _
/-- what holds at the law's entry: the machine, the code, the tables' words (any of lw_tbl by 'hts w (by decide +kernel)'), the script of L ints xs at the cell b, what the Statement gives of the start (any of its parts by flat_of_before) -/
def lw_At (p : Program) (s : State) (m : MethodId) (meth : Method) (c : Code) (b L : Nat) (xs : Nat → Int32) : Prop :=
  p.tables.exec = Jvm.exec ∧ c.code = code ∧ meth.sig.returnType = ret ∧ c.maxLocals = 7 ∧ s.vm.findClass R_law = some m.cls ∧ (∀ w ∈ lw_tbl, w.before #[Value.ref b] s = true) ∧ va_X b L xs s s.heap ∧ b < s.heap.size ∧ meth.locks = false ∧ (Jvm.Cond.and given_1 narrow_1).before #[Value.ref b] s = true
theorem gt6 {L k : Nat} (hL : L ≤ 3072) (hk : k ≤ 3072) (h : ¬ (Int32.ofNat L - 6 < nI k)) : k + 6 ≤ L := by
  by_cases q : 6 ≤ L
  · have e : Int32.ofNat L - 6 = nI (L - 6) := pk_sub (a := L) (b := 6) q
    rw [e] at h
    have := (nI_leI (by omega) (by omega)).mp (Int32.not_lt.mp h)
    omega
  · have h0 : Int32.ofNat L - 6 < 0 := by
      rcases (show L = 0 ∨ L = 1 ∨ L = 2 ∨ L = 3 ∨ L = 4 ∨ L = 5 by omega) with rfl | rfl | rfl | rfl | rfl | rfl <;> decide
    exact absurd (Int32.lt_of_lt_of_le h0 (nI_pos' (by omega))) h
section Loop
variable {p : Program} {l : Launch} {e : Env} {s : State} {m : MethodId} {below : List Frame} {meth : Method} {c : Code} {b L : Nat} {xs : Nat → Int32}
variable {D : va_G} {h qb qt hm mb mt ma qo : Nat} {cI cL : ClassId} {n1 n2 tc ts tm q v q28 q39 : Nat}
set_option maxHeartbeats 4000000 in
set_option maxRecDepth 100000 in
theorem law_loop (htr : l.stackTraces = false) (S : CallFix p m c code 7 s #[Value.ref b] TB "SignReaderLaw") (hr : meth.sig.returnType = ret) (hk : meth.locks = false) (hX : va_X b L xs s s.heap) (hbl : b < s.heap.size) (hL : L ≤ 3072) (C : LC s D h qb qt hm mb mt ma qo cI cL n1 n2 tc ts tm q v q28 q39) : ∀ (fu t : Nat) (H : Heap) (locs : List Loc) (z : SS) (y : MS) (f : Nat → Int64) (ls : Array Slot), LI s D h qb qt hm mb mt ma qo cI cL H locs z y f → 6 * t ≤ L → L < 6 * t + fu → lv_has ls 7 [(0, .ref b), (1, .ref h), (2, .ref hm), (3, .ref qo), (4, .int (nI (6 * t)))] →
    W p l e room_1 s m #[Value.ref b] below meth c H locs (8 + t) (20499 + 6 * t) (lw_Z below #[Value.ref b] s) (F0 m 23 ls []) := by
  intro fu
  induction fu with
  | zero => intro t H locs z y f ls I ht hf hl; exact absurd hf (by omega)
  | succ fu ih =>
    intro t H locs z y f ls I ht hf hl
    have hx := S.1
    have hb := S.2.1
    have hS := I.2.2
    have hbA : ¬ (fun x : Nat => s.heap.size ≤ x) b := Nat.not_le.mpr hbl
    refine lv_iload hx hb dL_law_23 (lv_at hl 4 rfl) ?_
    refine lv_aload_n hx hb dL_law_25 rfl (lv_at hl 0 rfl) ?_
    refine va_slen (A := fun x => s.heap.size ≤ x) hx hb hX hbl hbA hS dL_law_26 ?_
    refine lv_bipush (v := 6) hx hb dL_law_27 (by decide) ?_
    refine lv_isub hx hb dL_law_29 ?_
    refine lv_icmp_gt (tgt := 488) hx hb dL_law_30 (by decide) (fun _ => ?_) (fun c1 => ?_)
    · refine lv_iconst (v := 1) hx hb dL_law_488 (by decide) ?_
      refine va_forget hS.2.2 ?_
      refine W.widen (k := 1034) (n := 28703) (by omega) (by omega) ?_
      exact lw_ret hx hb hr hk dL_law_489
    · have hk5 : 6 * t + 5 < L := by have := gt6 hL (by omega) c1; omega
      have hcs : 8 + t + 1 ≤ 1034 ∧ 20499 + 6 * t + 6 ≤ 28703 := by omega
      have J482 : ∀ (H : Heap) (locs : List Loc) (z : SS) (y : MS) (f : Nat → Int64) (ls : Array Slot), LI s D h qb qt hm mb mt ma qo cI cL H locs z y f → lv_has ls 7 [(0, .ref b), (1, .ref h), (2, .ref hm), (3, .ref qo), (4, .int (nI (6 * t)))] → W p l e room_1 s m #[Value.ref b] below meth c H locs (8 + t + 1) (20499 + 6 * t + 6) (lw_Z below #[Value.ref b] s) (F0 m 482 ls []) := by
        intro H locs z y f ls I hl
        refine lv_iinc (v := nI (6 * t) + 6) (lv' := [(4, .int (nI (6 * t) + 6)), (0, .ref b), (1, .ref h), (2, .ref hm), (3, .ref qo)]) hx hb dL_law_482 hl (k := 4) rfl rfl (by decide) rfl (fun ls hl => ?_)
        refine lv_goto (tgt := 23) hx hb dL_law_485 (by decide) ?_
        refine W.widen (k := 8 + (t + 1)) (n := 20499 + 6 * (t + 1)) (by omega) (by omega) ?_
        have e6 : nI (6 * t) + 6 = nI (6 * (t + 1)) := nI_add (6 * t) 6
        rw [e6] at hl
        exact ih (t + 1) H locs z y f ls I (by omega) (by omega) (lv_sub hl [1, 2, 3, 4, 0] rfl)
      refine lv_aload_n hx hb dL_law_33 rfl (lv_at hl 0 rfl) ?_
      refine lv_iload hx hb dL_law_34 (lv_at hl 4 rfl) ?_
      refine va_sld (A := fun x => s.heap.size ≤ x) hx hb hX hbl hbA hS (vp_in_nI (by omega) (by omega)) dL_law_36 ?_
      refine lv_bipush (v := 15) hx hb dL_law_37 (by decide) ?_
      refine lv_iand hx hb dL_law_39 ?_
      obtain ⟨j, hj, ej⟩ := pk_andE (xs (nI (6 * t)).toNatClampNeg) (m := 15) 4 (by decide)
      rw [ej]
      have hj' : j < 16 := hj
      rcases (show j = 0 ∨ j = 1 ∨ j = 2 ∨ j = 3 ∨ j = 4 ∨ j = 5 ∨ j = 6 ∨ j = 7 ∨ j = 8 ∨ j = 9 ∨ j = 10 ∨ j = 11 ∨ 12 ≤ j by omega) with rfl | rfl | rfl | rfl | rfl | rfl | rfl | rfl | rfl | rfl | rfl | rfl | h12
      · exact lv_tableIn (off := 64) (tgt := 104) hx hb dL_law_40 (by decide) (by decide) (by decide) (by decide) (law_feed htr S hX hbl hL C I hk5 hl hcs J482)
      · exact lv_tableIn (off := 148) (tgt := 188) hx hb dL_law_40 (by decide) (by decide) (by decide) (by decide) (law_end htr S hX hbl hL C I hk5 hl hcs J482)
      · exact lv_tableIn (off := 204) (tgt := 244) hx hb dL_law_40 (by decide) (by decide) (by decide) (by decide) (law_change htr S hX hbl hL C I hk5 hl hcs J482)
      · exact lv_tableIn (off := 241) (tgt := 281) hx hb dL_law_40 (by decide) (by decide) (by decide) (by decide) (law_came htr S hX hbl hL C I hk5 hl hcs J482)
      · exact lv_tableIn (off := 266) (tgt := 306) hx hb dL_law_40 (by decide) (by decide) (by decide) (by decide) (law_read htr S hX hbl hL C I hk5 hl hcs J482)
      · exact lv_tableIn (off := 279) (tgt := 319) hx hb dL_law_40 (by decide) (by decide) (by decide) (by decide) (law_length htr S hX hbl hL C I hk5 hl hcs J482)
      · exact lv_tableIn (off := 292) (tgt := 332) hx hb dL_law_40 (by decide) (by decide) (by decide) (by decide) (law_sign htr S hX hbl hL C I hk5 hl hcs J482)
      · exact lv_tableIn (off := 317) (tgt := 357) hx hb dL_law_40 (by decide) (by decide) (by decide) (by decide) (law_way htr S hX hbl hL C I hk5 hl hcs J482)
      · exact lv_tableIn (off := 330) (tgt := 370) hx hb dL_law_40 (by decide) (by decide) (by decide) (by decide) (law_kinds htr S hX hbl hL C I hk5 hl hcs J482)
      · exact lv_tableIn (off := 355) (tgt := 395) hx hb dL_law_40 (by decide) (by decide) (by decide) (by decide) (law_run htr S hX hbl hL C I hk5 hl hcs J482)
      · exact lv_tableIn (off := 392) (tgt := 432) hx hb dL_law_40 (by decide) (by decide) (by decide) (by decide) (law_write htr S hX hbl hL C I hk5 hl hcs J482)
      · exact lv_tableIn (off := 417) (tgt := 457) hx hb dL_law_40 (by decide) (by decide) (by decide) (by decide) (law_add htr S hX hbl hL C I hk5 hl hcs J482)
      · refine lv_tableOut (tgt := 482) hx hb dL_law_40 (Or.inr ?_) (by decide) ?_
        · rcases (show j = 12 ∨ j = 13 ∨ j = 14 ∨ j = 15 by omega) with rfl | rfl | rfl | rfl <;> decide
        · refine W.widen (k := 8 + t + 1) (n := 20499 + 6 * t + 6) (Nat.le_succ _) (Nat.le_add_right _ _) ?_
          exact J482 H locs z y f ls I hl
end Loop
