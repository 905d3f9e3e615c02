/-! the law: what stays, and the two calls that may be refused: pure -/
theorem yF_c {a1 a2 a3 a4 a5 : Int32} {y : MS} : ∀ k : Nat, (yF a1 a2 a3 a4 a5 k y).1 = y.1
  | 0 => rfl
  | k + 1 => yF_c (y := y) k
theorem fin_feed {z : SS} {y : MS} (h : Rel z y) (a1 a2 a3 a4 a5 : Int32) : Rel (if z.1 + 20 ≤ 4096 then zFeed z a1 a2 a3 a4 a5 else z) (yFeed y a1 a2 a3 a4 a5) ∧ (yFeed y a1 a2 a3 a4 a5).1 = (if z.1 + 20 ≤ 4096 then 0 else 1) := by
  by_cases q : z.1 + 20 ≤ 4096
  · rw [if_pos q, if_pos q]
    refine ⟨rel_feed h q a1 a2 a3 a4 a5, ?_⟩
    rw [yFeed, if_pos (by rw [h.2.1.1]; exact q), yF_c]
  · rw [if_neg q, if_neg q, yFeed, if_neg (by rw [h.2.1.1]; exact q)]
    exact ⟨h.code 1, rfl⟩
theorem fin_end {z : SS} {y : MS} (h : Rel z y) (i : Int32) : Rel (if eOk z i = true then zEnd z i else z) (yEnd y i) ∧ (yEnd y i).1 = (if eOk z i = true then 0 else 1) ∧ (eOk z i = true → (if meOk y i = true then nI y.2.1 else 0) = nI z.1) := by
  obtain ⟨e, g⟩ := rel_end h i
  by_cases q : eOk z i = true
  · rw [if_pos q, if_pos q]
    refine ⟨(g q).1, ?_, fun _ => ?_⟩
    · rw [yEnd, e, if_pos q]
    · rw [e, if_pos q, (g q).2]
  · rw [if_neg q, if_neg q, yEnd, e, if_neg q]
    exact ⟨h.code 1, rfl, fun z => absurd z q⟩
theorem xC_kp {tc : Nat} {s : State} {H0 H : Heap} (hH : ∀ q : Nat, q < H0.size → H[q]? = H0[q]?) (h : xC tc s H0) : xC tc s H := ⟨va_Z.kept h.1 (fun q h _ => hH q h), va_T.kept h.2 (fun q h _ => hH q h)⟩
theorem xD_kp {tc ts tm q v : Nat} {s : State} {H0 H : Heap} (hH : ∀ q : Nat, q < H0.size → H[q]? = H0[q]?) (h : xD tc ts tm q v s H0) : xD tc ts tm q v s H := by
  obtain ⟨h1, ⟨h2, h3⟩, ⟨h4, h5⟩, ⟨h6, h7, h8, h9, h10⟩, h11⟩ := h
  have hq : ∀ a : Nat, a < H0.size → ¬ nA a → H[a]? = H0[a]? := fun a h _ => hH a h
  exact ⟨xC_kp hH h1, ⟨va_Z.kept h2 hq, va_T.kept h3 hq⟩, ⟨va_Z.kept h4 hq, va_T.kept h5 hq⟩, ⟨va_O.kept h6 hq, va_OF.kept h7 hq, va_OF.kept h8 hq, va_T.kept h9 hq, va_Z.kept h10 hq⟩, h11⟩
/-- what stays over the whole run -/
def LC (s : State) (D : va_G) (h qb qt hm mb mt ma qo : Nat) (cI cL : ClassId) (n1 n2 tc ts tm q v q28 q39 : Nat) : Prop := (ap3 h qb qt ∧ ap4 hm mb mt ma) ∧ ((∀ x, A3 h qb qt x → s.heap.size ≤ x ∧ x < n1) ∧ (∀ x, A4 hm mb mt ma x → n1 ≤ x ∧ x < n2) ∧ n2 ≤ qo ∧ s.heap.size ≤ n1 ∧ n1 ≤ n2) ∧ va_K D CL [(cI, .int), (cL, .long)] s ∧ xD tc ts tm q v s s.heap ∧ xE nA s s.heap ∧ vk_R "SignReader" 28 tx28 q28 s ∧ vk_R "SignReader" 39 tx39 q39 s
/-- what holds at the loop's head -/
def LI (s : State) (D : va_G) (h qb qt hm mb mt ma qo : Nat) (cI cL : ClassId) (H : Heap) (locs : List Loc) (z : SS) (y : MS) (f : Nat → Int64) : Prop := (va_P D CL (srZ h qb qt cI z) H ∧ va_P D CL (moZ hm mb mt ma cI y) H ∧ va_P D CL (oW qo cL f) H) ∧ Rel z y ∧ va_S (fun x => s.heap.size ≤ x) s.heap H locs
section Ctx
variable {s : State} {D : va_G} {h qb qt hm mb mt ma qo : Nat} {cI cL : ClassId} {n1 n2 tc ts tm q v q28 q39 : Nat}
theorem mo_no (C : LC s D h qb qt hm mb mt ma qo cI cL n1 n2 tc ts tm q v q28 q39) {y : MS} : ∀ (k : Nat) (x : Nat × va_E), (moZ hm mb mt ma cI y)[k]? = some x → ¬ A3 h qb qt x.1 := fun k x hx h3 => by
  have g1 := C.2.1.1 _ h3
  have g2 := C.2.1.2.1 _ ((moD (cI := cI) C.1.2).2 k x hx)
  omega
theorem mo_no2 (C : LC s D h qb qt hm mb mt ma qo cI cL n1 n2 tc ts tm q v q28 q39) {y : MS} : ∀ (k : Nat) (x : Nat × va_E), (moZ hm mb mt ma cI y)[k]? = some x → ¬ A3o h qb qt qo x.1 := fun k x hx h3 => by
  have g2 := C.2.1.2.1 _ ((moD (cI := cI) C.1.2).2 k x hx)
  have g3 := C.2.1.2.2.1
  rcases h3 with h3 | h3
  · have g1 := C.2.1.1 _ h3
    omega
  · omega
theorem sr_no (C : LC s D h qb qt hm mb mt ma qo cI cL n1 n2 tc ts tm q v q28 q39) {z : SS} : ∀ (k : Nat) (x : Nat × va_E), (srZ h qb qt cI z)[k]? = some x → ¬ A4 hm mb mt ma x.1 := fun k x hx h3 => by
  have g1 := C.2.1.2.1 _ h3
  have g2 := C.2.1.1 _ ((srD (cI := cI) C.1.1).2 k x hx)
  omega
theorem o_no3 (C : LC s D h qb qt hm mb mt ma qo cI cL n1 n2 tc ts tm q v q28 q39) : ¬ A3 h qb qt qo := fun h3 => by
  have g1 := C.2.1.1 _ h3
  have g3 := C.2.1.2.2
  omega
theorem o_no4 (C : LC s D h qb qt hm mb mt ma qo cI cL n1 n2 tc ts tm q v q28 q39) : ¬ A4 hm mb mt ma qo := fun h3 => by
  have g1 := C.2.1.2.1 _ h3
  have g3 := C.2.1.2.2
  omega
theorem a_3 (C : LC s D h qb qt hm mb mt ma qo cI cL n1 n2 tc ts tm q v q28 q39) : ∀ x, A3 h qb qt x → s.heap.size ≤ x := fun x hx => (C.2.1.1 x hx).1
theorem a_4 (C : LC s D h qb qt hm mb mt ma qo cI cL n1 n2 tc ts tm q v q28 q39) : ∀ x, A4 hm mb mt ma x → s.heap.size ≤ x := fun x hx => Nat.le_trans C.2.1.2.2.2.1 (C.2.1.2.1 x hx).1
theorem a_3o (C : LC s D h qb qt hm mb mt ma qo cI cL n1 n2 tc ts tm q v q28 q39) : ∀ x, A3o h qb qt qo x → s.heap.size ≤ x := fun x hx => by
  rcases hx with hx | rfl
  · exact a_3 C x hx
  · have g3 := C.2.1.2.2
    omega
end Ctx
