/-! the class and the reference side by side: pure -/
def isB (x : Int32) : Prop := ∃ b : Nat, b < 256 ∧ x = nI b
def isC (x : Int32) : Prop := sChar x = true
def Rel (z : SS) (y : MS) : Prop := (okZ z ∧ okY y) ∧ (y.2.1 = z.1 ∧ y.2.2.1 = z.2.1 ∧ y.2.2.2.1 = z.2.2.1) ∧ (∀ j, j < z.1 → y.2.2.2.2.2.2.1 j = z.2.2.2.1 j ∧ isB (z.2.2.2.1 j)) ∧ (∀ j, j < z.2.1 → y.2.2.2.2.2.2.2.1 j = z.2.2.2.2 j ∧ isC (z.2.2.2.2 j))
theorem Rel0 : Rel z0 y0m := ⟨⟨⟨Nat.zero_le _, Nat.zero_le _⟩, Nat.zero_le _, Nat.zero_le _, Nat.zero_le _⟩, ⟨rfl, rfl, rfl⟩, fun j h => absurd h (Nat.not_lt_zero j), fun j h => absurd h (Nat.not_lt_zero j)⟩
theorem Rel.code {z : SS} {y : MS} (c : Int32) (h : Rel z y) : Rel z (c, y.2) := h
theorem isB_and (x : Int32) : isB (x &&& 255) := by
  obtain ⟨j, hj, e⟩ := pk_andE x (m := 255) 8 (by decide)
  exact ⟨j, hj, e⟩
theorem Rel.push {z : SS} {y : MS} (h : Rel z y) (hn : z.1 < 4096) (b : Int32) : Rel (wB z b) (yPush y (b &&& 255)) := by
  obtain ⟨⟨⟨h1, h2⟩, h3, h4, h5⟩, ⟨e1, e2, e3⟩, hb, ht⟩ := h
  rw [wB, if_pos hn]
  refine ⟨⟨⟨hn, h2⟩, ?_, h4, h5⟩, ⟨?_, e2, e3⟩, ?_, ht⟩
  · show y.2.1 + 1 ≤ 4096; omega
  · show y.2.1 + 1 = z.1 + 1; omega
  · intro j hj
    show upd y.2.2.2.2.2.2.1 y.2.1 (b &&& 255) j = upd z.2.2.2.1 z.1 (b &&& 255) j ∧ isB (upd z.2.2.2.1 z.1 (b &&& 255) j)
    have hj' : j < z.1 + 1 := hj
    rw [e1]
    simp only [upd]
    by_cases q : j = z.1
    · simp only [q, ↓reduceIte]
      exact ⟨trivial, isB_and b⟩
    · simp only [q, ↓reduceIte]
      exact hb j (by omega)
theorem wB_n {z : SS} {b : Int32} (h : z.1 < 4096) : (wB z b).1 = z.1 + 1 := by rw [wB, if_pos h]
/-- the bytes of five numbers, in order -/
def fS (a1 a2 a3 a4 a5 : Int32) (k : Nat) : Int32 := if k % 4 = 0 then fV a1 a2 a3 a4 a5 k >>> ((24 : Int32) &&& 31) else if k % 4 = 1 then fV a1 a2 a3 a4 a5 k >>> ((16 : Int32) &&& 31) else if k % 4 = 2 then fV a1 a2 a3 a4 a5 k >>> ((8 : Int32) &&& 31) else fV a1 a2 a3 a4 a5 k
theorem sh_k : ∀ k : Nat, k < 20 → (24 - 8 * (nI k - nI k / 4 * 4)) &&& 31 = (if k % 4 = 0 then (24 : Int32) &&& 31 else if k % 4 = 1 then (16 : Int32) &&& 31 else if k % 4 = 2 then (8 : Int32) &&& 31 else (0 : Int32) &&& 31) := by decide +kernel
theorem fB_fS (a1 a2 a3 a4 a5 : Int32) {k : Nat} (hk : k < 20) : fB a1 a2 a3 a4 a5 k = fS a1 a2 a3 a4 a5 k &&& 255 := by
  unfold fB fS
  rw [sh_k k hk]
  split
  · rfl
  · split
    · rfl
    · split
      · rfl
      · rw [sb_shr0]
def zF (a1 a2 a3 a4 a5 : Int32) : Nat → SS → SS
  | 0, z => z
  | k + 1, z => wB (zF a1 a2 a3 a4 a5 k z) (fS a1 a2 a3 a4 a5 k)
def zFeed (z : SS) (a1 a2 a3 a4 a5 : Int32) : SS := w4 (w4 (w4 (w4 (w4 z a1) a2) a3) a4) a5
theorem zFeed_eq (z : SS) (a1 a2 a3 a4 a5 : Int32) : zFeed z a1 a2 a3 a4 a5 = zF a1 a2 a3 a4 a5 20 z := rfl
theorem feed_k (a1 a2 a3 a4 a5 : Int32) {z : SS} {y : MS} (h : Rel z y) (hn : z.1 + 20 ≤ 4096) : ∀ k : Nat, k ≤ 20 → Rel (zF a1 a2 a3 a4 a5 k z) (yF a1 a2 a3 a4 a5 k (0, y.2)) ∧ (zF a1 a2 a3 a4 a5 k z).1 = z.1 + k
  | 0, _ => ⟨h.code 0, rfl⟩
  | k + 1, hk => by
    obtain ⟨h1, h2⟩ := feed_k a1 a2 a3 a4 a5 h hn k (by omega)
    have hlt : (zF a1 a2 a3 a4 a5 k z).1 < 4096 := by omega
    refine ⟨?_, ?_⟩
    · show Rel (wB _ _) (yPush _ (fB a1 a2 a3 a4 a5 k))
      rw [fB_fS a1 a2 a3 a4 a5 (by omega)]
      exact h1.push hlt _
    · show (wB _ _).1 = _
      rw [wB_n hlt]
      omega
theorem rel_feed {z : SS} {y : MS} (h : Rel z y) (hn : z.1 + 20 ≤ 4096) (a1 a2 a3 a4 a5 : Int32) : Rel (zFeed z a1 a2 a3 a4 a5) (yFeed y a1 a2 a3 a4 a5) := by
  rw [zFeed_eq, yFeed, if_pos (by rw [h.2.1.1]; exact hn)]
  exact (feed_k a1 a2 a3 a4 a5 h hn 20 (Nat.le_refl _)).1
theorem rel_came {z : SS} {y : MS} (h : Rel z y) (i : Int32) : sCame z.2.2.2.1 z.1 i = sCame y.2.2.2.2.2.2.1 y.2.1 i := by
  obtain ⟨⟨⟨h1, h2⟩, -⟩, ⟨e1, e2, e3⟩, hb, ht⟩ := h
  unfold sCame
  rw [e1]
  by_cases q : sHas z.1 i = true
  · rw [if_pos q, if_pos q]
    obtain ⟨j, hj, rfl⟩ := (sHas_iff (by omega)).mp q
    rw [nI_clamp (by omega)]
    exact (hb j hj).1.symm
  · rw [if_neg q, if_neg q]
theorem rel_sign {z : SS} {y : MS} (h : Rel z y) (i : Int32) : sCame z.2.2.2.2 z.2.1 i = sCame y.2.2.2.2.2.2.2.1 y.2.2.1 i := by
  obtain ⟨⟨⟨h1, h2⟩, -⟩, ⟨e1, e2, e3⟩, hb, ht⟩ := h
  unfold sCame
  rw [e2]
  by_cases q : sHas z.2.1 i = true
  · rw [if_pos q, if_pos q]
    obtain ⟨j, hj, rfl⟩ := (sHas_iff (by omega)).mp q
    rw [nI_clamp (by omega)]
    exact (ht j hj).1.symm
  · rw [if_neg q, if_neg q]
theorem sEnd_congr {g g' : Nat → Int32} {kd : Int32} {tl : Nat} (h : ∀ j, j < tl → g' j = g j) : ∀ (u k : Nat), k + u ≤ tl → sEnd g' kd u k = sEnd g kd u k
  | 0, k, _ => rfl
  | u + 1, k, hk => by
    rw [sEnd, sEnd, h k (by omega), sEnd_congr h u (k + 1) (by omega)]
theorem sEnd_ge (g : Nat → Int32) (kd : Int32) : ∀ (u k : Nat), k ≤ sEnd g kd u k
  | 0, k => Nat.le_refl k
  | u + 1, k => by
    rw [sEnd]
    split
    · exact Nat.le_refl k
    · exact Nat.le_trans (Nat.le_succ k) (sEnd_ge g kd u (k + 1))
theorem rel_run {z : SS} {y : MS} (h : Rel z y) (i kd : Int32) : sRun z.2.2.2.2 z.2.1 i kd = mRun y.2.2.2.2.2.2.2.1 y.2.2.1 i kd := by
  obtain ⟨⟨⟨h1, h2⟩, -⟩, ⟨e1, e2, e3⟩, hb, ht⟩ := h
  unfold sRun mRun
  rw [e2]
  by_cases q : sHas z.2.1 i = true
  · rw [if_pos q, if_pos q]
    obtain ⟨j, hj, rfl⟩ := (sHas_iff (by omega)).mp q
    rw [nI_clamp (by omega), sEnd_congr (g := z.2.2.2.2) (fun j hj => (ht j hj).1) _ _ (by omega)]
    exact pk_sub (sEnd_ge _ _ _ _)
  · rw [if_neg q, if_neg q]
theorem rel_change {z : SS} {y : MS} (h : Rel z y) (i b : Int32) : Rel (zChange z i b) (yCh y i b) ∧ (if cOk z i b = true then z.2.2.2.1 i.toNatClampNeg else -1) = (if mcOk y i b = true then y.2.2.2.2.2.2.1 i.toNatClampNeg else -1) := by
  have e : mcOk y i b = cOk z i b := by unfold mcOk cOk; rw [h.2.1.1]
  unfold zChange yCh
  rw [e]
  by_cases q : cOk z i b = true
  · rw [if_pos q, if_pos q, if_pos q, if_pos q]
    obtain ⟨⟨⟨h1, h2⟩, h3⟩, ⟨e1, e2, e3⟩, hb, ht⟩ := h
    simp only [cOk, Bool.and_eq_true, decide_eq_true_eq] at q
    obtain ⟨⟨q1, q2⟩, q3⟩ := q
    obtain ⟨j, hj, rfl⟩ := (sHas_iff (by omega)).mp q1
    rw [nI_clamp (by omega)]
    refine ⟨⟨⟨⟨h1, h2⟩, h3⟩, ⟨e1, e2, e3⟩, ?_, ht⟩, (hb j hj).1.symm⟩
    intro k hk
    show upd y.2.2.2.2.2.2.1 j b k = upd z.2.2.2.1 j b k ∧ isB (upd z.2.2.2.1 j b k)
    simp only [upd]
    by_cases q : k = j
    · simp only [q, ↓reduceIte]
      obtain ⟨v, hv, rfl⟩ := nI_of2 (n := 255) (M := 255) (by decide) (Int32.not_lt.mpr q2) q3
      exact ⟨trivial, v, by omega, rfl⟩
    · simp only [q, ↓reduceIte]
      exact hb k hk
  · rw [if_neg q, if_neg q, if_neg q, if_neg q]
    exact ⟨h.code 0, rfl⟩
theorem rel_add {z : SS} {y : MS} (h : Rel z y) (c : Int32) : Rel (zAdd z c) (yAdd y c) ∧ (if aOk z c = true then nI (wG z c).2.1 else -1) = (if maOk y c = true then nI (y.2.2.1 + 1) else -1) := by
  have e : maOk y c = aOk z c := by unfold maOk aOk; rw [h.2.1.2.1]
  unfold zAdd yAdd
  rw [e]
  by_cases q : aOk z c = true
  · rw [if_pos q, if_pos q, if_pos q, if_pos q]
    obtain ⟨⟨⟨h1, h2⟩, h3, h4, h5⟩, ⟨e1, e2, e3⟩, hb, ht⟩ := h
    simp only [aOk, Bool.and_eq_true, decide_eq_true_eq] at q
    obtain ⟨⟨q1, q2⟩, q3⟩ := q
    rw [wG, if_pos q3]
    refine ⟨⟨⟨⟨h1, q3⟩, h3, ?_, h5⟩, ⟨e1, ?_, e3⟩, hb, ?_⟩, ?_⟩
    · show y.2.2.1 + 1 ≤ 4096; omega
    · show y.2.2.1 + 1 = z.2.1 + 1; omega
    · intro j hj
      have hj' : j < z.2.1 + 1 := hj
      show upd y.2.2.2.2.2.2.2.1 y.2.2.1 c j = upd z.2.2.2.2 z.2.1 c j ∧ isC (upd z.2.2.2.2 z.2.1 c j)
      rw [e2]
      simp only [upd]
      by_cases q : j = z.2.1
      · simp only [q, ↓reduceIte]
        exact ⟨trivial, q1⟩
      · simp only [q, ↓reduceIte]
        exact ht j (by omega)
    · show nI (z.2.1 + 1) = nI (y.2.2.1 + 1); rw [e2]
  · rw [if_neg q, if_neg q, if_neg q, if_neg q]
    exact ⟨h.code 0, rfl⟩
def eOk (z : SS) (i : Int32) : Bool := decide (0 ≤ i) && decide (i ≤ nI z.1)
def zEnd (z : SS) (i : Int32) : SS := (i.toNatClampNeg, z.2)
theorem eOk_le {z : SS} {i : Int32} (h1 : z.1 ≤ 4096) (h : eOk z i = true) : ∃ j : Nat, j ≤ z.1 ∧ i = nI j := by
  simp only [eOk, Bool.and_eq_true, decide_eq_true_eq] at h
  obtain ⟨j, hj, rfl⟩ := nI_of (Int32.not_lt.mpr h.1)
  exact ⟨j, (nI_leI hj (by omega)).mp h.2, rfl⟩
theorem rel_end {z : SS} {y : MS} (h : Rel z y) (i : Int32) : meOk y i = eOk z i ∧ (eOk z i = true → Rel (zEnd z i) (yEnd y i) ∧ y.2.1 = z.1) := by
  have e : meOk y i = eOk z i := by unfold meOk eOk; rw [h.2.1.1]
  refine ⟨e, fun q => ?_⟩
  have e1 := h.2.1.1
  obtain ⟨j, hj, rfl⟩ := eOk_le h.1.1.1 q
  rw [yEnd, e, if_pos q, zEnd, nI_clamp (by have := h.1.1.1; omega)]
  obtain ⟨⟨⟨h1, h2⟩, h3, h4⟩, ⟨e1, e2, e3⟩, hb, ht⟩ := h
  exact ⟨⟨⟨⟨by show j ≤ 4096; omega, h2⟩, by show j ≤ 4096; omega, h4⟩, ⟨rfl, e2, e3⟩, fun k hk => hb k (Nat.lt_of_lt_of_le hk hj), ht⟩, e1⟩
