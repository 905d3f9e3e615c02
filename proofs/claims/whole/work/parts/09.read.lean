/-! methods that only read; what they are given stays true when the tables grow warmer -/
def okX (X : State → Heap → Prop) : Prop := ∀ (s U : State) (H : Heap), s.WarmedH U.vm → X s H → X U H
def gx (X : State → Heap → Prop) (As : List Value) : Array Value → State → Prop := fun v U => v = As.toArray ∧ X U U.heap
theorem gx_blind {X : State → Heap → Prop} {As : List Value} (h : okX X) : FrameBlind (gx X As) := fun a U g mk q => ⟨q.1, h U (U.calling g mk a) U.heap (State.WarmedH.refl U) q.2⟩
theorem gx_S {X : State → Heap → Prop} {As : List Value} {s : State} {H : Heap} (h : okX X) (hX : X s H) : PreS s H (gx X As) As := ⟨gx_blind h, fun U hU hW => ⟨rfl, by rw [hU]; exact h s U H hW hX⟩⟩
theorem gx_V {X : State → Heap → Prop} {As : List Value} {s : State} {H : Heap} {C : String} {b : Nat} (h : okX X) (hX : X s H) (hr : ∃ cellB : Cell, H[b]? = some cellB ∧ cellB.vm.isStatics = false ∧ s.vm.findClass C = some cellB.cls) : PreV s H C b (gx X (.ref b :: As)) As := ⟨gx_blind h, hr, fun U hU hW => ⟨rfl, by rw [hU]; exact h s U H hW hX⟩⟩
theorem ok_and {X Y : State → Heap → Prop} (h : okX X) (k : okX Y) : okX (fun U H => X U H ∧ Y U H) := fun s U H hW q => ⟨h s U H hW q.1, k s U H hW q.2⟩
abbrev nA : Nat → Prop := fun _ => False
/-- a table of ranges, by their first and last numbers -/
def flat (rs : List (Int32 × Int32)) (j : Nat) : Int32 := if j % 2 = 0 then (rs.getD (j / 2) (0, 0)).1 else (rs.getD (j / 2) (0, 0)).2
def xT (t : Nat) (rs : List (Int32 × Int32)) : State → Heap → Prop := fun U H => va_T .int t (2 * rs.length) (fun j => .int (flat rs j)) nA U H
theorem xT_ok {t : Nat} {rs : List (Int32 × Int32)} : okX (xT t rs) := fun s U H hW h => va_T.moved hW.alike h
def sWithin (rs : List (Int32 × Int32)) (c : Int32) : Bool := rs.any (fun q => sIn c q.1 q.2)
theorem flat_0 (rs : List (Int32 × Int32)) (k : Nat) : flat rs (2 * k) = (rs.getD k (0, 0)).1 := by simp [flat]
theorem flat_1 (rs : List (Int32 × Int32)) (k : Nat) : flat rs (2 * k + 1) = (rs.getD k (0, 0)).2 := by
  have h1 : (2 * k + 1) % 2 = 1 := by omega
  have h2 : (2 * k + 1) / 2 = k := by omega
  simp [flat, h1, h2]
theorem drop_any {rs : List (Int32 × Int32)} {c : Int32} {k : Nat} (h : k < rs.length) : (rs.drop k).any (fun q => sIn c q.1 q.2) = (sIn c (rs.getD k (0, 0)).1 (rs.getD k (0, 0)).2 || (rs.drop (k + 1)).any (fun q => sIn c q.1 q.2)) := by
  rw [List.drop_eq_getElem_cons h, List.any_cons, show rs.getD k (0, 0) = rs[k] by simp [h]]
set_option maxHeartbeats 4000000 in
set_option maxRecDepth 100000 in
theorem cS_isWithin (l : Launch) (t : Nat) (rs : List (Int32 × Int32)) (c : Int32) (hN : rs.length < 1000) : Met l yS_isWithin (Cond.code yS_isWithin prog_1_method_43_code 3 (some .boolean) :: TB) { frames := 0, cells := 0, slots := 0, locals := 0 } (gx (xT t rs) [.ref t, .int c]) (QcRead (bI (sWithin rs c))) 0 0 (fun _ => False) := by
  refine mt_of (by decide) ?_
  intro p e s m args below meth cd S hr hk hin hv
  obtain ⟨rfl, hX⟩ := hv
  have hx := S.1
  have hb := S.2.1
  have hown := S.2.2.2.1
  have hts := S.2.2.2.2
  have hl := lv_entry ([.ref t, .int c]) (n := 3) (Nat.le_of_ble_eq_true rfl)
  rw [lg_entry_eq]
  generalize (lg_sl ([.ref t, .int c]) ++ List.replicate (3 - (lg_sl ([.ref t, .int c])).length) Slot.unset).toArray = ls at hl ⊢
  have hl : lv_has ls 3 [(0, .ref t), (1, .int c)] := hl
  refine lv_iconst (v := 0) hx hb dS_isWithin_0 (by decide) ?_
  refine lv_istore_n (lv' := [(2, .int 0), (0, .ref t), (1, .int c)]) hx hb dS_isWithin_1 rfl hl (by decide) rfl (fun ls hl => ?_)
  have J2 : ∀ (fu : Nat) (x : Int32) (k : Nat), x = nI (2 * k) → k ≤ rs.length → rs.length < k + fu → sWithin rs c = (rs.drop k).any (fun q => sIn c q.1 q.2) → ∀ ls : Array Slot, lv_has ls 3 [(0, .ref t), (1, .int c), (2, .int x)] → W p l e { frames := 0, cells := 0, slots := 0, locals := 0 } s m [.ref t, .int c].toArray below meth cd s.heap [] 0 0 (MQ below (QcRead (bI (sWithin rs c))) [.ref t, .int c].toArray s 0 0 (fun _ => False)) (F0 m 2 ls []) := by
    intro fu
    induction fu with
    | zero =>
      intro x k hx9 hk9 hf9 hR ls hl
      exact absurd hf9 (by omega)
    | succ fu ih =>
      intro x k hx9 hk9 hf9 hR ls hl
      subst hx9
      refine lv_iload_n hx hb dS_isWithin_2 rfl (lv_at hl 2 rfl) ?_
      refine lv_iconst (v := 1) hx hb dS_isWithin_3 (by decide) ?_
      refine lv_iadd hx hb dS_isWithin_4 ?_
      refine lv_aload_n hx hb dS_isWithin_5 rfl (lv_at hl 0 rfl) ?_
      refine va_tlen (A := nA) (v := nI (2 * rs.length)) hx hb hX va_S.rf rfl dS_isWithin_6 ?_
      refine lv_icmp_ge (tgt := 34) hx hb dS_isWithin_7 (by decide) (fun c1 => ?_) (fun c1 => ?_)
      · skip
        rw [nI_1, nI_leI (by omega) (by omega)] at c1
        have hk8 : rs.length ≤ k := by omega
        refine lv_iconst (v := 0) hx hb dS_isWithin_34 (by decide) ?_
        exact ro_retZ S hr hk (by rfl) (by rw [hR, List.drop_eq_nil_of_le hk8]; rfl) dS_isWithin_35
      · skip
        rw [nI_1, nI_leI (by omega) (by omega)] at c1
        have hk8 : k < rs.length := by omega
        refine lv_iload_n hx hb dS_isWithin_10 rfl (lv_at hl 1 rfl) ?_
        refine lv_aload_n hx hb dS_isWithin_11 rfl (lv_at hl 0 rfl) ?_
        refine lv_iload_n hx hb dS_isWithin_12 rfl (lv_at hl 2 rfl) ?_
        refine va_ti (A := nA) hx hb hX va_S.rf (by exact vp_in_nI (by omega) (by omega)) (v := .int (flat rs ((nI (2 * k))).toNatClampNeg)) rfl dS_isWithin_13 ?_
        refine lv_icmp_lt (tgt := 28) hx hb dS_isWithin_14 (by decide) (fun c2 => ?_) (fun c2 => ?_)
        · skip
          replace c2 := Int32.not_le.mpr c2
          rw [nI_clamp (by omega), flat_0] at c2
          refine lv_iinc (v := ((nI (2 * k)) + 2)) (lv' := [(2, .int ((nI (2 * k)) + 2)), (0, .ref t), (1, .int c)]) hx hb dS_isWithin_28 hl (k := 2) rfl rfl (by decide) rfl (fun ls hl => ?_)
          refine lv_goto (tgt := 2) hx hb dS_isWithin_31 (by decide) ?_
          exact ih (((nI (2 * k)) + 2)) (k + 1) (nI_add (2 * k) 2) (hk8) (by omega) (by rw [hR, drop_any hk8, show sIn c (rs.getD k (0, 0)).1 (rs.getD k (0, 0)).2 = false by unfold sIn; simp only [c2, decide_true, decide_false, Bool.and_false, Bool.false_and], Bool.false_or]) ls (lv_sub hl [1, 2, 0] rfl) 
        · skip
          replace c2 := Int32.not_lt.mp c2
          rw [nI_clamp (by omega), flat_0] at c2
          refine lv_iload_n hx hb dS_isWithin_17 rfl (lv_at hl 1 rfl) ?_
          refine lv_aload_n hx hb dS_isWithin_18 rfl (lv_at hl 0 rfl) ?_
          refine lv_iload_n hx hb dS_isWithin_19 rfl (lv_at hl 2 rfl) ?_
          refine lv_iconst (v := 1) hx hb dS_isWithin_20 (by decide) ?_
          refine lv_iadd hx hb dS_isWithin_21 ?_
          refine va_ti (A := nA) hx hb hX va_S.rf (by rw [nI_1]; exact vp_in_nI (by omega) (by omega)) (v := .int (flat rs (((nI (2 * k)) + 1)).toNatClampNeg)) rfl dS_isWithin_22 ?_
          refine lv_icmp_gt (tgt := 28) hx hb dS_isWithin_23 (by decide) (fun c3 => ?_) (fun c3 => ?_)
          · skip
            replace c3 := Int32.not_le.mpr c3
            rw [nI_1, nI_clamp (by omega), flat_1] at c3
            refine lv_iinc (v := ((nI (2 * k)) + 2)) (lv' := [(2, .int ((nI (2 * k)) + 2)), (0, .ref t), (1, .int c)]) hx hb dS_isWithin_28 hl (k := 2) rfl rfl (by decide) rfl (fun ls hl => ?_)
            refine lv_goto (tgt := 2) hx hb dS_isWithin_31 (by decide) ?_
            exact ih (((nI (2 * k)) + 2)) (k + 1) (nI_add (2 * k) 2) (hk8) (by omega) (by rw [hR, drop_any hk8, show sIn c (rs.getD k (0, 0)).1 (rs.getD k (0, 0)).2 = false by unfold sIn; simp only [c2, c3, decide_true, decide_false, Bool.and_false, Bool.false_and], Bool.false_or]) ls (lv_sub hl [1, 2, 0] rfl) 
          · skip
            replace c3 := Int32.not_lt.mp c3
            rw [nI_1, nI_clamp (by omega), flat_1] at c3
            refine lv_iconst (v := 1) hx hb dS_isWithin_26 (by decide) ?_
            exact ro_retZ S hr hk (by rfl) (by rw [hR, drop_any hk8, show sIn c (rs.getD k (0, 0)).1 (rs.getD k (0, 0)).2 = true by unfold sIn; simp only [c2, c3, decide_true, Bool.and_true], Bool.true_or]; rfl) dS_isWithin_27
  exact J2 (rs.length + 1) (0) (0) (rfl) (Nat.zero_le _) (by omega) (by rw [List.drop_zero]; rfl) ls (lv_sub hl [1, 2, 0] rfl) 
def CHR : List (Int32 × Int32) := [(9, 10), (13, 13), (32, 55295), (57344, 65533), (65536, 1114111)]
def NSR : List (Int32 × Int32) := [(58, 58), (95, 95), (65, 90), (97, 122), (192, 214), (216, 246), (248, 767), (880, 893), (895, 8191), (8204, 8205), (8304, 8591), (11264, 12271), (12289, 55295), (63744, 64975), (65008, 65533), (65536, 983039)]
def MNR : List (Int32 × Int32) := [(48, 57), (45, 45), (46, 46), (183, 183), (768, 879), (8255, 8256)]
def xZ (nm : String) (t : Nat) : State → Heap → Prop := fun U H => va_Z "SignReader" nm "[I" (.ref t) nA U H
theorem xZ_ok {nm : String} {t : Nat} : okX (xZ nm t) := fun s U H hW h => va_Z.moved hW.alike h
def xC (t : Nat) : State → Heap → Prop := fun U H => xZ "CHARACTER_RANGES" t U H ∧ xT t CHR U H
theorem xC_ok {t : Nat} : okX (xC t) := ok_and xZ_ok xT_ok
theorem i32_eq {x y : Int32} : x = y ↔ x.toInt = y.toInt := Int32.toInt_inj.symm
theorem sIn_iff {c lo hi : Int32} : sIn c lo hi = true ↔ lo.toInt ≤ c.toInt ∧ c.toInt ≤ hi.toInt := by
  simp [sIn, Int32.le_iff_toInt_le]
theorem chr_eq (c : Int32) : sWithin CHR c = sChar c := by
  rw [Bool.eq_iff_iff]
  simp only [sWithin, CHR, sChar, List.any_cons, List.any_nil, Bool.or_eq_true, decide_eq_true_eq, sIn_iff, i32_eq, Bool.or_false]
  simp
  omega
set_option maxHeartbeats 4000000 in
set_option maxRecDepth 100000 in
theorem cS_isCharacter (l : Launch) (tc : Nat) (c : Int32) : Met l yS_isCharacter (Cond.code yS_isCharacter prog_1_method_38_code 1 (some .boolean) :: TB) { frames := 1, cells := 0, slots := 0, locals := 22 } (gx (xC tc) [.int c]) (QcRead (bI (sChar c))) 0 0 (fun _ => False) := by
  refine mt_of (by decide) ?_
  intro p e s m args below meth cd S hr hk hin hv
  obtain ⟨rfl, hX⟩ := hv
  have hx := S.1
  have hb := S.2.1
  have hown := S.2.2.2.1
  have hts := S.2.2.2.2
  have hl := lv_entry ([.int c]) (n := 1) (Nat.le_of_ble_eq_true rfl)
  rw [lg_entry_eq]
  generalize (lg_sl ([.int c]) ++ List.replicate (1 - (lg_sl ([.int c])).length) Slot.unset).toArray = ls at hl ⊢
  have hl : lv_has ls 1 [(0, .int c)] := hl
  refine va_gets (A := nA) hx hb hX.1 va_S.rf hown (hts _ k107) (fun _ h9 => h9) dS_isCharacter_0 ?_
  refine lv_iload_n hx hb dS_isCharacter_3 rfl (lv_at hl 0 rfl) ?_
  refine ro_S (As := [.ref tc, .int c]) (rest := []) (n := 2) S (cS_isWithin l tc CHR (c) (by decide)) k111 k1 k110 (by decide +kernel) ⟨rfl, rfl⟩ k109 (by decide) (gx_S xT_ok hX.2) rfl rfl hl.1 (Nat.le_of_ble_eq_true rfl) ⟨Nat.le_refl _, Nat.le_refl _⟩ dS_isCharacter_4 ?_
  exact ro_retZ S hr hk (bI_n _) (by rw [chr_eq]) dS_isCharacter_7
