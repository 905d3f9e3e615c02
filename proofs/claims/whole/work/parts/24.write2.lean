/-! write: the relation -/
theorem E8_b {n : Nat} (hn : n < 1114112) : ∀ b ∈ E8 n, b < 256 := by
  unfold E8
  intro b hb
  split at hb
  · simp at hb; omega
  · split at hb
    · simp at hb; omega
    · split at hb
      · simp at hb; omega
      · simp at hb; omega
theorem PR_b {w : Int32} {u : Nat} (hu : u < 65536) : ∀ b ∈ PR w u, b < 256 := by
  unfold PR
  intro b hb
  split at hb
  · simp at hb; omega
  · simp at hb; omega
theorem EB_b {w : Int32} {n : Nat} (hn : n < 1114112) : ∀ b ∈ EB w n, b < 256 := by
  unfold EB
  split
  · unfold E16
    split
    · next h => exact PR_b h
    · intro b hb
      rcases List.mem_append.mp hb with h | h
      · exact PR_b (by omega) b h
      · exact PR_b (by omega) b h
  · exact E8_b hn
theorem PR_len (w : Int32) (u : Nat) : (PR w u).length = 2 := by unfold PR; split <;> rfl
theorem EB_len {w : Int32} {n : Nat} (hn : n < 1114112) : sSize (nI n) w = nI (EB w n).length ∧ (EB w n).length ≤ 4 := by
  unfold sSize EB
  by_cases h : s16 w = true
  · rw [if_pos h, if_pos h]
    unfold sSize16 E16
    have hq : (65536 : Int32) ≤ nI n ↔ 65536 ≤ n := nI_leI (a := 65536) (by omega) (by omega)
    by_cases h : n < 65536
    · rw [if_neg (fun q => by have := hq.mp q; omega), if_pos h, PR_len]; exact ⟨rfl, by omega⟩
    · rw [if_pos (hq.mpr (by omega)), if_neg h, List.length_append, PR_len, PR_len]; exact ⟨rfl, by omega⟩
  · rw [if_neg h, if_neg h]
    refine ⟨sSize8_n (by omega), ?_⟩
    unfold E8
    split
    · show 1 ≤ 4; omega
    · split
      · show 2 ≤ 4; omega
      · split
        · show 3 ≤ 4; omega
        · show 4 ≤ 4; omega
def MK (w : Int32) : List Nat := if w = 0 then [] else EB w 65279
def EL (w : Int32) (cn : Nat → Nat) : Nat → List Nat
  | 0 => MK w
  | k + 1 => EL w cn k ++ EB w (cn k)
theorem EL_b {w : Int32} {cn : Nat → Nat} : ∀ {k : Nat}, (∀ j, j < k → cn j < 1114112) → ∀ b ∈ EL w cn k, b < 256
  | 0, _, b, hb => by
    have hb : b ∈ MK w := hb
    unfold MK at hb
    split at hb
    · simp at hb
    · exact EB_b (by omega) b hb
  | k + 1, h, b, hb => by
    rcases List.mem_append.mp hb with q | q
    · exact EL_b (k := k) (fun j hj => h j (by omega)) b q
    · exact EB_b (h k (by omega)) b q
theorem EL_len {w : Int32} {cn : Nat → Nat} {g : Nat → Int32} : ∀ {k : Nat}, (∀ j, j < k → cn j < 1114112 ∧ g j = nI (cn j)) → sWr g w k = nI (EL w cn k).length ∧ (EL w cn k).length ≤ 4 + 4 * k
  | 0, _ => by
    show sMark w = nI (MK w).length ∧ (MK w).length ≤ 4
    unfold sMark MK
    by_cases h : w = 0
    · rw [if_pos h, if_pos h]; exact ⟨rfl, by show 0 ≤ 4; omega⟩
    · rw [if_neg h, if_neg h]; exact EB_len (n := 65279) (by omega)
  | k + 1, h => by
    obtain ⟨h1, h2⟩ := EL_len (w := w) (k := k) (fun j hj => h j (by omega))
    obtain ⟨h3, h4⟩ := h k (by omega)
    obtain ⟨h5, h6⟩ := EB_len (w := w) h3
    show sWr g w k + sSize (g k) w = nI (EL w cn k ++ EB w (cn k)).length ∧ (EL w cn k ++ EB w (cn k)).length ≤ _
    rw [h1, h4, h5, nI_add, List.length_append]
    exact ⟨rfl, by omega⟩
theorem wL_snoc (z : SS) (L : List Nat) (b : Nat) : wL z (L ++ [b]) = wB (wL z L) (nI b) := by rw [wL_app]; rfl
theorem yL_snoc (y : MS) (L : List Nat) (b : Nat) : yL y (L ++ [b]) = yP (yL y L) (nI b) := by rw [yL_app]; rfl
theorem snoc_ind {P : List Nat → Prop} (h0 : P []) (h1 : ∀ (L : List Nat) (b : Nat), P L → P (L ++ [b])) (L : List Nat) : P L := by
  have key : ∀ M : List Nat, P M.reverse := by
    intro M
    induction M with
    | nil => exact h0
    | cons b M ih => rw [List.reverse_cons]; exact h1 _ _ ih
  have := key L.reverse
  rwa [List.reverse_reverse] at this
/-- what a list of bytes leaves, where there is room for it -/
theorem wL_f (z : SS) (L : List Nat) (hL : ∀ b ∈ L, b < 256) : z.1 + L.length ≤ 4096 → (wL z L).1 = z.1 + L.length ∧ sameT (wL z L) z ∧ ∀ j, j < L.length → (wL z L).2.2.2.1 (z.1 + j) = nI (L.getD j 0) := by
  induction L using snoc_ind with
  | h0 => intro _; exact ⟨rfl, ⟨rfl, rfl, rfl⟩, fun j hj => absurd hj (Nat.not_lt_zero j)⟩
  | h1 L b ih =>
    intro h
    rw [List.length_append] at h
    have h' : z.1 + L.length + 1 ≤ 4096 := h
    obtain ⟨h1, h2, h3⟩ := ih (fun x hx => hL x (List.mem_append_left _ hx)) (by omega)
    have hb : b < 256 := hL b (List.mem_append_right _ (List.mem_singleton.mpr rfl))
    have hlt : (wL z L).1 < 4096 := by omega
    rw [wL_snoc]
    refine ⟨by rw [wB_n hlt, h1, List.length_append]; rfl, sameT.tr (wB_t _ _) h2, fun j hj => ?_⟩
    rw [wB, if_pos hlt]
    show upd (wL z L).2.2.2.1 (wL z L).1 (nI b &&& 255) (z.1 + j) = _
    rw [h1]
    simp only [upd]
    rw [List.length_append] at hj
    have hj' : j < L.length + 1 := hj
    by_cases q : j = L.length
    · subst q
      rw [if_pos rfl, pk_andN (by omega) 8 (by decide), Nat.mod_eq_of_lt (by exact hb)]
      simp
    · rw [if_neg (by omega), h3 j (by omega)]
      rw [List.getD_eq_getElem?_getD, List.getD_eq_getElem?_getD, List.getElem?_append_left (by omega)]
theorem yL_f (y : MS) (L : List Nat) : (yL y L).2.2.2.2.1 = y.2.2.2.2.1 + L.length ∧ sameM (yL y L) y ∧ ∀ j, j < L.length → y.2.2.2.2.1 + j < 4100 → (yL y L).2.2.2.2.2.2.2.2 (y.2.2.2.2.1 + j) = nI (L.getD j 0) := by
  induction L using snoc_ind with
  | h0 => exact ⟨rfl, sameM.rf, fun j hj => absurd hj (Nat.not_lt_zero j)⟩
  | h1 L b ih =>
    obtain ⟨h1, h2, h3⟩ := ih
    rw [yL_snoc]
    refine ⟨by show (yL y L).2.2.2.2.1 + 1 = _; rw [h1, List.length_append]; rfl, sameM.tr ⟨rfl, rfl, rfl, rfl, rfl, rfl⟩ h2, fun j hj hj4 => ?_⟩
    show (if (yL y L).2.2.2.2.1 < 4100 then upd (yL y L).2.2.2.2.2.2.2.2 (yL y L).2.2.2.2.1 (nI b) else (yL y L).2.2.2.2.2.2.2.2) (y.2.2.2.2.1 + j) = _
    rw [h1]
    rw [List.length_append] at hj
    have hj' : j < L.length + 1 := hj
    by_cases q : j = L.length
    · subst q
      rw [if_pos hj4]
      simp [upd]
    · have e : (L ++ [b]).getD j 0 = L.getD j 0 := by
        rw [List.getD_eq_getElem?_getD, List.getD_eq_getElem?_getD, List.getElem?_append_left (by omega)]
      rw [e, ← h3 j (by omega) hj4]
      split
      · simp only [upd]
        rw [if_neg (by omega)]
      · rfl
theorem mw4 {w : Int32} (h : mwOk w = true) : w = 0 ∨ w = 1 ∨ w = 2 ∨ w = 3 := by
  simp only [mwOk, Bool.and_eq_true, decide_eq_true_eq] at h
  obtain ⟨j, hj, rfl⟩ := nI_of2 (n := 3) (M := 3) (by decide) (Int32.not_lt.mpr h.1) h.2
  rcases (show j = 0 ∨ j = 1 ∨ j = 2 ∨ j = 3 by omega) with rfl | rfl | rfl | rfl
  · exact Or.inl rfl
  · exact Or.inr (Or.inl rfl)
  · exact Or.inr (Or.inr (Or.inl rfl))
  · exact Or.inr (Or.inr (Or.inr rfl))
theorem zW_L {z : SS} {w : Int32} {cn : Nat → Nat} (h : ∀ j, j < z.2.1 → cn j < 1114112 ∧ z.2.2.2.2 j = nI (cn j)) : ∀ k : Nat, k ≤ z.2.1 → zW z w k = wL (0, z.2) (EL w cn k)
  | 0, _ => by
    show (if w = 0 then (0, z.2) else wC (0, z.2) 65279 w) = wL (0, z.2) (MK w)
    unfold MK
    by_cases q : w = 0
    · rw [if_pos q, if_pos q]; rfl
    · rw [if_neg q, if_neg q]; exact wC_n (n := 65279) (0, z.2) (by omega) w
  | k + 1, hk => by
    show wC (zW z w k) ((zW z w k).2.2.2.2 k) w = wL (0, z.2) (EL w cn k ++ EB w (cn k))
    rw [(zW_t z w k).2.2, (h k (by omega)).2, wC_n _ (h k (by omega)).1, zW_L h k (by omega), wL_app]
theorem yWk_L {y : MS} {w : Int32} {cn : Nat → Nat} {tl : Nat} (hw : w = 0 ∨ w = 1 ∨ w = 2 ∨ w = 3) (h : ∀ j, j < tl → cn j < 1114112 ∧ y.2.2.2.2.2.2.2.1 j = nI (cn j)) : ∀ k : Nat, k ≤ tl → yWk w y k = yL (yK0 y) (EL w cn k)
  | 0, _ => by
    show yWk w y 0 = yL (yK0 y) (MK w)
    unfold yWk MK
    rcases hw with rfl | rfl | rfl | rfl
    · rfl
    · rw [if_pos rfl, if_neg (by decide)]; exact yPair_n (u := 65279) (yK0 y) (by omega) 1
    · rw [if_neg (by decide), if_pos rfl, if_neg (by decide)]; exact yPair_n (u := 65279) (yK0 y) (by omega) 2
    · rw [if_neg (by decide), if_neg (by decide), if_pos rfl, if_neg (by decide)]; exact y8w_n (n := 65279) (yK0 y) (by omega)
  | k + 1, hk => by
    show yWc w (yWk w y k) ((yWk w y k).2.2.2.2.2.2.2.1 k) = yL (yK0 y) (EL w cn k ++ EB w (cn k))
    have e : (yWk w y k).2.2.2.2.2.2.2.1 = y.2.2.2.2.2.2.2.1 := (yWk_s w y k).1.2.2.2.2.2
    rw [e, (h k (by omega)).2, yWc_n _ (h k (by omega)).1 hw, yWk_L hw h k (by omega), yL_app]
theorem rel_write {z : SS} {y : MS} (h : Rel z y) (w : Int32) : Rel (zWrite z w) (yWrite y w) ∧ (if wOk z w = true then nI (zW z w z.2.1).1 else -1) = rWrite y w := by
  by_cases hw : mwOk w = true
  · have hw4 := mw4 hw
    obtain ⟨cn, hcn⟩ : ∃ cn : Nat → Nat, ∀ j, j < z.2.1 → cn j < 1114112 ∧ z.2.2.2.2 j = nI (cn j) := by
      refine ⟨fun j => (z.2.2.2.2 j).toNatClampNeg, fun j hj => ?_⟩
      obtain ⟨n, hn, e⟩ := isC_n (h.2.2.2 j hj).2
      show (z.2.2.2.2 j).toNatClampNeg < _ ∧ z.2.2.2.2 j = nI (z.2.2.2.2 j).toNatClampNeg
      rw [e, nI_clamp (by omega)]
      exact ⟨hn, rfl⟩
    have hcm : ∀ j, j < z.2.1 → cn j < 1114112 ∧ y.2.2.2.2.2.2.2.1 j = nI (cn j) := fun j hj => ⟨(hcn j hj).1, (h.2.2.2 j hj).1.trans (hcn j hj).2⟩
    have hs := zW_L (w := w) hcn z.2.1 (Nat.le_refl _)
    have hm := yWk_L hw4 hcm z.2.1 (Nat.le_refl _)
    obtain ⟨l1, l2⟩ := EL_len (w := w) (k := z.2.1) hcn
    obtain ⟨m1, m2, m3⟩ := yL_f (yK0 y) (EL w cn z.2.1)
    have m1' : (yL (yK0 y) (EL w cn z.2.1)).2.2.2.2.1 = (EL w cn z.2.1).length := by rw [m1]; show 0 + _ = _; omega
    have e2 := h.2.1.2.1
    have hz2 := h.1.1.2
    unfold zWrite yWrite rWrite
    rw [if_pos hw, if_pos hw, e2, hm, m1']
    by_cases hN : (EL w cn z.2.1).length ≤ 4096
    · have hk : wOk z w = true := by
        simp only [mwOk, Bool.and_eq_true, decide_eq_true_eq] at hw
        simp only [wOk, Bool.and_eq_true, decide_eq_true_eq]
        refine ⟨hw, ?_⟩
        rw [l1]
        exact (nI_leI (b := 4096) (by omega) (by omega)).mpr hN
      rw [if_pos hk, if_pos hk, if_pos hN, if_pos hN, hs]
      obtain ⟨s1, s2, s3⟩ := wL_f (0, z.2) (EL w cn z.2.1) (EL_b (fun j hj => (hcn j hj).1)) (by show 0 + _ ≤ 4096; omega)
      have s1' : (wL (0, z.2) (EL w cn z.2.1)).1 = (EL w cn z.2.1).length := by rw [s1]; show 0 + _ = _; omega
      refine ⟨⟨⟨⟨by rw [s1']; exact hN, by rw [s2.1]; exact hz2⟩, by show (yL (yK0 y) _).2.2.2.2.1 ≤ 4096; rw [m1']; exact hN, by show (yL (yK0 y) _).2.2.1 ≤ 4096; rw [m2.2.2.1]; exact h.1.2.2.1, by show (yL (yK0 y) _).2.2.2.2.1 ≤ 1000000; rw [m1']; omega⟩, ⟨?_, ?_, ?_⟩, ?_, ?_⟩, by rw [s1']⟩
      · show (yL (yK0 y) _).2.2.2.2.1 = _; rw [m1', s1']
      · show (yL (yK0 y) _).2.2.1 = _; rw [m2.2.2.1, s2.1]; exact e2
      · show (yL (yK0 y) _).2.2.2.1 = _; rw [m2.2.2.2.1, s2.2.1]; exact h.2.1.2.2
      · intro j hj
        rw [s1'] at hj
        show cpF (yL (yK0 y) _) (yL (yK0 y) _).2.2.2.2.1 j = _ ∧ _
        have a1 := m3 j hj (by show 0 + j < 4100; omega)
        have a2 := s3 j hj
        have a1' : (yL (yK0 y) (EL w cn z.2.1)).2.2.2.2.2.2.2.2 j = nI ((EL w cn z.2.1).getD j 0) := by rw [show (yK0 y).2.2.2.2.1 + j = j from Nat.zero_add j] at a1; exact a1
        have a2' : (wL (0, z.2) (EL w cn z.2.1)).2.2.2.1 j = nI ((EL w cn z.2.1).getD j 0) := by rw [show ((0, z.2) : SS).1 + j = j from Nat.zero_add j] at a2; exact a2
        rw [a2']
        unfold cpF
        rw [m1', if_pos hj, a1']
        refine ⟨rfl, _, ?_, rfl⟩
        rw [List.getD_eq_getElem?_getD, List.getElem?_eq_getElem hj]
        exact EL_b (fun j hj => (hcn j hj).1) _ (List.getElem_mem hj)
      · intro j hj
        rw [s2.1] at hj
        show (yL (yK0 y) _).2.2.2.2.2.2.2.1 j = _ ∧ _
        rw [m2.2.2.2.2.2, s2.2.2]
        exact h.2.2.2 j hj
    · have hk : ¬ wOk z w = true := by
        intro q
        simp only [wOk, Bool.and_eq_true, decide_eq_true_eq] at q
        have q3 := q.2
        rw [l1] at q3
        exact hN ((nI_leI (b := 4096) (by omega) (by omega)).mp q3)
      rw [if_neg hk, if_neg hk, if_neg hN, if_neg hN]
      refine ⟨⟨⟨h.1.1, by rw [m2.2.1]; exact h.1.2.1, by rw [m2.2.2.1]; exact h.1.2.2.1, by rw [m1']; omega⟩, ⟨by rw [m2.2.1]; exact h.2.1.1, by rw [m2.2.2.1]; exact e2, by rw [m2.2.2.2.1]; exact h.2.1.2.2⟩, ?_, ?_⟩, rfl⟩
      · intro j hj; rw [m2.2.2.2.2.1]; exact h.2.2.1 j hj
      · intro j hj; rw [m2.2.2.2.2.2]; exact h.2.2.2 j hj
  · have hk : ¬ wOk z w = true := by
      intro q
      simp only [wOk, Bool.and_eq_true, decide_eq_true_eq] at q
      exact hw (by simp only [mwOk, Bool.and_eq_true, decide_eq_true_eq]; exact q.1)
    unfold zWrite yWrite rWrite
    rw [if_neg hw, if_neg hw, if_neg hk, if_neg hk]
    exact ⟨h.code 0, rfl⟩
