/-! what the start gives of statics and constants -/
abbrev GV : Cond := Jvm.Cond.and given_1 narrow_1
theorem tab_of {args : Array Value} {s : State} {nm : String} {rs : List (Int32 × Int32)} (hN : 2 * rs.length < 2 ^ 31) (hl : (Cond.laysStatic "SignReader" nm "[I").before args s = true) (hini : (Cond.initialized "SignReader").before args s = true) (har : (Cond.arrayOf (.static "SignReader" nm "[I") .int).before args s = true) (hle : (Cond.eq (.length (.static "SignReader" nm "[I")) (.int (Int32.ofNat (2 * rs.length)))).before args s = true)
    (hel : ∀ j : Nat, j < 2 * rs.length → (Cond.eq (.elem (.static "SignReader" nm "[I") (.int (Int32.ofNat j))) (.int (flat rs j))).before args s = true) : ∃ t : Nat, xZ nm t s s.heap ∧ xT t rs s s.heap := by
  obtain ⟨t, ht, hT⟩ := va_Tof (f := fun j => .int (flat rs j)) (A := nA) hN har (va_eqt hle) (fun j hj => va_eqt (hel j hj)) (fun _ _ h => h)
  exact ⟨t, va_Zref hl hini ht (fun _ _ h => h), hT⟩
theorem str_ref {args : Array Value} {s : State} {k : Nat} {tx : String} (h1 : (Cond.stringRef "SignReader" k tx).before args s = true) (hex : (Cond.exactly (.string "SignReader" k) "java/lang/String").before args s = true) : ∃ a : Nat, (Term.string "SignReader" k).eval args s none [] s = some (.ref a) ∧ va_O "java/lang/String" a nA s s.heap ∧ vk_R "SignReader" k tx a s := by
  obtain ⟨a, c, cA, kA, q1, q2, q3, q4, q5, q6, -⟩ := Cond.exactly_spec (args := args) (first := s) (o := none) (s := s) (idx := []) (t := .string "SignReader" k) (cls := "java/lang/String") hex
  exact ⟨a, q1, ⟨cA, q3, q5, by rw [q6]; exact q2, fun h => h⟩, vk_R.of h1 q1⟩
theorem e_c : ∀ j : Nat, j < 2 * CHR.length → Cond.eq (.elem (.static "SignReader" "CHARACTER_RANGES" "[I") (.int (Int32.ofNat j))) (.int (flat CHR j)) ∈ flatC GV := by decide +kernel
theorem e_s : ∀ j : Nat, j < 2 * NSR.length → Cond.eq (.elem (.static "SignReader" "NAME_START_RANGES" "[I") (.int (Int32.ofNat j))) (.int (flat NSR j)) ∈ flatC GV := by decide +kernel
theorem e_m : ∀ j : Nat, j < 2 * MNR.length → Cond.eq (.elem (.static "SignReader" "MORE_NAME_RANGES" "[I") (.int (Int32.ofNat j))) (.int (flat MNR j)) ∈ flatC GV := by decide +kernel
theorem e_p : ∀ j : Nat, j < 19 → Cond.eq (.elem (.field (.string "SignReader" 153) "java/lang/String" "value" "[B") (.int (Int32.ofNat j))) (.int (PBS.getD j 0)) ∈ flatC GV := by decide +kernel
set_option maxHeartbeats 4000000 in
theorem st_of {args : Array Value} {s : State} (ht : ∀ w ∈ lw_tbl, w.before args s = true) (hgv : GV.before args s = true) : ∃ tc ts tm q v q28 q39 : Nat, xD tc ts tm q v s s.heap ∧ xE nA s s.heap ∧ vk_R "SignReader" 28 tx28 q28 s ∧ vk_R "SignReader" 39 tx39 q39 s := by
  have hg := flat_of_before _ hgv
  have hA : ∀ a : Nat, a < s.heap.size → ¬ nA a := fun _ _ h => h
  have hi := ht (.initialized "SignReader") (by decide +kernel)
  obtain ⟨tc, c1, c2⟩ := tab_of (nm := "CHARACTER_RANGES") (rs := CHR) (by decide) (ht _ (by decide +kernel)) hi (hg _ (by decide +kernel)) (hg _ (by decide +kernel)) (fun j hj => hg _ (e_c j hj))
  obtain ⟨ts, s1, s2⟩ := tab_of (nm := "NAME_START_RANGES") (rs := NSR) (by decide) (ht _ (by decide +kernel)) hi (hg _ (by decide +kernel)) (hg _ (by decide +kernel)) (fun j hj => hg _ (e_s j hj))
  obtain ⟨tm, m1, m2⟩ := tab_of (nm := "MORE_NAME_RANGES") (rs := MNR) (by decide) (ht _ (by decide +kernel)) hi (hg _ (by decide +kernel)) (hg _ (by decide +kernel)) (fun j hj => hg _ (e_m j hj))
  obtain ⟨q, q1, q2, q3⟩ := str_ref (k := 153) (tx := "-'()+,./:=?;!*#@$_%") (ht _ (by decide +kernel)) (hg _ (by decide +kernel))
  obtain ⟨q28, -, -, q28r⟩ := str_ref (k := 28) (tx := tx28) (ht _ (by decide +kernel)) (hg _ (by decide +kernel))
  obtain ⟨q39, -, -, q39r⟩ := str_ref (k := 39) (tx := tx39) (ht _ (by decide +kernel)) (hg _ (by decide +kernel))
  have harv : (Cond.arrayOf (.field (.string "SignReader" 153) "java/lang/String" "value" "[B") .byte).before args s = true := hg _ (by decide +kernel)
  have hlev : (Cond.eq (.length (.field (.string "SignReader" 153) "java/lang/String" "value" "[B")) (.int (Int32.ofNat 19))).before args s = true := hg _ (by decide +kernel)
  have hcov : (Cond.eq (.field (.string "SignReader" 153) "java/lang/String" "coder" "B") (.int 0)).before args s = true := hg _ (by decide +kernel)
  obtain ⟨v, v1, v2⟩ := va_Tof (f := fun j => .int (PBS.getD j 0)) (A := nA) (by decide) harv (va_eqt hlev) (fun j hj => va_eqt (hg _ (e_p j hj))) hA
  have hcs : va_Z "java/lang/String" "COMPACT_STRINGS" "Z" (.int 1) nA s s.heap := va_Zof (ht _ (by decide +kernel)) (ht _ (by decide +kernel)) (va_eqi (hg _ (by decide +kernel))) hA
  have l1 : tL1.before args s = true := ht _ (by decide +kernel)
  have l2 : tL2.before args s = true := ht _ (by decide +kernel)
  have hti := ht (.initialized "java/lang/Throwable") (by decide +kernel)
  have hEW : ∀ w ∈ EW, w ∈ lw_tbl := by decide +kernel
  refine ⟨tc, ts, tm, q, v, q28, q39, ⟨⟨c1, c2⟩, ⟨s1, s2⟩, ⟨m1, m2⟩, ⟨q2, vk_OFof q1 (va_eqt hcov) hA, vk_OFof q1 v1 hA, v2, hcs⟩, q3⟩, ⟨fun w hw => ew_move (Vm.Alike.refl s.vm) hw (ht w (hEW w hw)), ⟨ls_move (Vm.Alike.refl s.vm) (fun _ _ => rfl) l1, ls_move (Vm.Alike.refl s.vm) (fun _ _ => rfl) l2⟩, va_Zqof l1 hti (hg _ (by decide +kernel)) hA, va_Zqof l2 hti (hg _ (by decide +kernel)) hA⟩, q28r, q39r⟩
