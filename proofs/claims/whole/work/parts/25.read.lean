/-! read: a number on both sides -/
def okB (F : Nat → Int32) (n : Nat) : Prop := n ≤ 4096 ∧ ∀ j, j < n → isB (F j)
theorem came_n {F : Nat → Int32} {n k : Nat} (hn : n ≤ 4096) (hk : k < n) : sCame F n (nI k) = F k := by
  rw [sCame, if_pos ((sHas_iff (by omega)).mpr ⟨k, hk, rfl⟩), nI_clamp (by omega)]
theorem came_o {F : Nat → Int32} {n k : Nat} (hn : n ≤ 4096) (hk : n ≤ k) (hk2 : k < 2 ^ 31) : sCame F n (nI k) = -1 := by
  rw [sCame, if_neg]
  intro q
  obtain ⟨j, hj, e⟩ := (sHas_iff (by omega)).mp q
  rw [nI_eq hk2 (by omega)] at e
  omega
theorem isB_ne {x : Int32} (h : isB x) : ¬ x = -1 := by
  obtain ⟨b, hb, rfl⟩ := h
  exact nI_m1 (by omega)
theorem pair_eq {F : Nat → Int32} {n k : Nat} (hB : okB F n) (hk : k < 5000) (w : Int32) : sPair F n (nI k) w = mUnit F n k (hiW w) := by
  obtain ⟨hn, hb⟩ := hB
  unfold sPair mUnit hiW
  rw [nI_1]
  by_cases h : n ≤ k + 1
  · rw [if_pos h, came_o hn h (by omega)]
    split
    · rfl
    · rw [if_pos rfl]
  · rw [if_neg h, came_n hn (show k < n by omega), came_n hn (show k + 1 < n by omega), if_neg (isB_ne (hb k (by omega))), if_neg (isB_ne (hb (k + 1) (by omega)))]
    by_cases q : w = 1
    · rw [if_pos q, if_pos q, if_neg (by decide), Int32.mul_comm]
    · rw [if_neg q, if_neg q, if_pos rfl, Int32.mul_comm]
theorem unit_n {F : Nat → Int32} {n k : Nat} (hB : okB F n) (hi : Int32) : mUnit F n k hi = -1 ∨ ∃ u : Nat, u < 65536 ∧ mUnit F n k hi = nI u := by
  obtain ⟨hn, hb⟩ := hB
  unfold mUnit
  by_cases h : n ≤ k + 1
  · rw [if_pos h]; exact Or.inl rfl
  · rw [if_neg h]
    right
    obtain ⟨a, ha, ea⟩ := hb k (by omega)
    obtain ⟨b, hb', eb⟩ := hb (k + 1) (by omega)
    rw [ea, eb]
    split
    · exact ⟨256 * b + a, by omega, by rw [show (256 : Int32) = nI 256 from rfl, pk_mul, nI_add]⟩
    · exact ⟨256 * a + b, by omega, by rw [show (256 : Int32) = nI 256 from rfl, pk_mul, nI_add]⟩
theorem chr_m1 : sChar (-1) = false := by decide
/-- one number of 16 bits: what the class reads, and what the reference takes and finds -/
theorem n16_eq {F : Nat → Int32} {n k : Nat} (hB : okB F n) (hk : k < 4500) (w : Int32) (hw : s16 w = true) : (0 ≤ (m16 F n k (hiW w)).1 → sN F n (nI k) w = (m16 F n k (hiW w)).2 ∧ sSize (sN F n (nI k) w) w = (m16 F n k (hiW w)).1) ∧ (¬ 0 ≤ (m16 F n k (hiW w)).1 → sChar (sN F n (nI k) w) = false) := by
  unfold sN sSize
  rw [if_pos hw, if_pos hw]
  unfold sN16
  rw [show nI k + 2 = nI (k + 2) from nI_add k 2, pair_eq hB (by omega), pair_eq hB (by omega)]
  unfold m16
  rcases unit_n (k := k) hB (hiW w) with e | ⟨u, hu, e⟩
  · rw [e]
    rw [if_neg (show ¬ (55296 : Int32) ≤ -1 by decide), if_neg (show ¬ (0 : Int32) ≤ -1 by decide)]
    exact ⟨fun q => absurd q (by show ¬ (0 : Int32) ≤ -1; decide), fun _ => chr_m1⟩
  · rw [e, if_pos (nI_pos' (by omega))]
    have hs2 : sSize16 (nI u) = 2 := by
      rw [sSize16, if_neg]
      intro q
      have := (nI_leI (a := 65536) (b := u) (by omega) (by omega)).mp q
      omega
    have i1 : (55296 : Int32) ≤ nI u ↔ 55296 ≤ u := nI_leI (a := 55296) (by omega) (by omega)
    have i2 : nI u ≤ (56319 : Int32) ↔ u ≤ 56319 := nI_leI (b := 56319) (by omega) (by omega)
    have two : ∀ {P : Prop}, ((0 : Int32) ≤ 2 → nI u = nI u ∧ sSize16 (nI u) = 2) ∧ (¬ (0 : Int32) ≤ 2 → P) := fun {P} => ⟨fun _ => ⟨rfl, hs2⟩, fun q => absurd (by decide) q⟩
    by_cases h1 : 55296 ≤ u
    · rw [if_pos (i1.mpr h1)]
      by_cases h2 : u ≤ 56319
      · rw [if_pos (i2.mpr h2), if_pos (show sIn (nI u) 55296 56319 = true by simp [sIn, i1.mpr h1, i2.mpr h2])]
        rcases unit_n (k := k + 2) hB (hiW w) with e2 | ⟨v, hv, e2⟩
        · rw [e2, if_neg (show ¬ (56320 : Int32) ≤ -1 by decide), if_neg (show ¬ sIn (-1) 56320 57343 = true by decide)]
          exact two
        · have j1 : (56320 : Int32) ≤ nI v ↔ 56320 ≤ v := nI_leI (a := 56320) (by omega) (by omega)
          have j2 : nI v ≤ (57343 : Int32) ↔ v ≤ 57343 := nI_leI (b := 57343) (by omega) (by omega)
          rw [e2]
          by_cases h3 : 56320 ≤ v
          · rw [if_pos (j1.mpr h3)]
            by_cases h4 : v ≤ 57343
            · rw [if_pos (j2.mpr h4), if_pos (show sIn (nI v) 56320 57343 = true by simp [sIn, j1.mpr h3, j2.mpr h4])]
              have q1 : nI u - 55296 = nI (u - 55296) := pk_sub (b := 55296) h1
              have q2 : nI v - 56320 = nI (v - 56320) := pk_sub (b := 56320) h3
              have q3 : (65536 : Int32) + 1024 * nI (u - 55296) = nI (65536 + 1024 * (u - 55296)) := by rw [show (1024 : Int32) = nI 1024 from rfl, pk_mul, show (65536 : Int32) = nI 65536 from rfl, nI_add]
              have q4 : nI (65536 + 1024 * (u - 55296)) + nI v - 56320 = nI (65536 + 1024 * (u - 55296) + (v - 56320)) := by
                rw [nI_add, show (56320 : Int32) = nI 56320 from rfl, pk_sub (by omega)]; exact congrArg nI (by omega)
              rw [q1, q2, q3, q4, nI_add]
              refine ⟨fun _ => ⟨rfl, ?_⟩, fun q => absurd (by show (0 : Int32) ≤ 4; decide) q⟩
              show sSize16 _ = 4
              rw [sSize16, if_pos (show (65536 : Int32) ≤ nI (65536 + 1024 * (u - 55296) + (v - 56320)) from (nI_leI (a := 65536) (by omega) (by omega)).mpr (by omega))]
            · rw [if_neg (fun q => h4 (j2.mp q)), if_neg (show ¬ sIn (nI v) 56320 57343 = true by simp only [sIn, Bool.and_eq_true, decide_eq_true_eq]; exact fun q => h4 (j2.mp q.2))]
              exact two
          · rw [if_neg (fun q => h3 (j1.mp q)), if_neg (show ¬ sIn (nI v) 56320 57343 = true by simp only [sIn, Bool.and_eq_true, decide_eq_true_eq]; exact fun q => h3 (j1.mp q.1))]
            exact two
      · rw [if_neg (fun q => h2 (i2.mp q)), if_neg (show ¬ sIn (nI u) 55296 56319 = true by simp only [sIn, Bool.and_eq_true, decide_eq_true_eq]; exact fun q => h2 (i2.mp q.2))]
        exact two
    · rw [if_neg (fun q => h1 (i1.mp q)), if_neg (show ¬ sIn (nI u) 55296 56319 = true by simp only [sIn, Bool.and_eq_true, decide_eq_true_eq]; exact fun q => h1 (i1.mp q.1))]
      exact two
/-- one number of 8 bits -/
theorem tab8 : ∀ b : Nat, b < 256 → 128 ≤ b → (bN (nI b) = m8N (nI b) - 1) ∧ (sBehind (nI b) = 0 ↔ m8N (nI b) = 0) ∧ (m8N (nI b) = 0 ∨ 2 ≤ m8N (nI b)) ∧ (m8N (nI b) = 0 ∨ nI b &&& (63 >>> (sBehind (nI b) &&& 31)) = nI b - nI b / m8d (m8N (nI b)) * m8d (m8N (nI b))) := by decide +kernel
theorem tabT : ∀ b : Nat, b < 256 → ((128 ≤ nI b ∧ nI b ≤ 191) ↔ nI b / 64 = 2) ∧ (nI b / 64 = 2 → nI b - 128 = nI b - nI b / 64 * 64) := by decide +kernel
theorem tail_in {F : Nat → Int32} {n k : Nat} (hB : okB F n) : ∀ (r j : Nat) (v : Int32), k + j + r ≤ n → sTail F n (nI k) r j v = m8l F k r j v
  | 0, _, _, _ => rfl
  | r + 1, j, v, h => by
    rw [sTail, m8l, nI_add, came_n hB.1 (show k + j < n by omega)]
    obtain ⟨b, hb, e⟩ := hB.2 (k + j) (by omega)
    rw [e]
    obtain ⟨t1, t2⟩ := tabT b hb
    by_cases q : nI b / 64 = 2
    · rw [if_pos q, if_pos (t1.mpr q).1, if_pos (t1.mpr q).2, t2 q, tail_in hB r (j + 1) _ (by omega), Int32.mul_comm]
    · rw [if_neg q]
      by_cases q1 : 128 ≤ nI b
      · rw [if_pos q1, if_neg (fun q2 => q (t1.mp ⟨q1, q2⟩))]
      · rw [if_neg q1]
theorem tail_out {F : Nat → Int32} {n k : Nat} (hB : okB F n) (hk : k < 5000) : ∀ (r j : Nat) (v : Int32), j < 5000 → k + j ≤ n → n < k + j + r → sTail F n (nI k) r j v = none
  | 0, _, _, _, h1, h2 => absurd h2 (by omega)
  | r + 1, j, v, hj, h1, h2 => by
    rw [sTail, nI_add]
    by_cases q : n ≤ k + j
    · rw [came_o hB.1 q (by omega), if_neg (by decide)]
    · split
      · split
        · exact tail_out hB hk r (j + 1) _ (by have := hB.1; omega) (by omega) (by omega)
        · rfl
      · rfl
theorem n8_eq {F : Nat → Int32} {n k : Nat} (hB : okB F n) (hk : k < n) : (0 ≤ (m8 F n k).1 → sN8 F n (nI k) = (m8 F n k).2 ∧ sSize8 (sN8 F n (nI k)) = (m8 F n k).1) ∧ (¬ 0 ≤ (m8 F n k).1 → sChar (sN8 F n (nI k)) = false) := by
  have hn := hB.1
  have no : ∀ x : Int32, (0 ≤ (-1 : Int32) → (-1 : Int32) = x ∧ sSize8 (-1) = -1) ∧ (¬ 0 ≤ (-1 : Int32) → sChar (-1) = false) := fun x => ⟨fun q => absurd q (by decide), fun _ => chr_m1⟩
  unfold sN8 m8
  rw [came_n hn hk]
  obtain ⟨b, hb, e⟩ := hB.2 k hk
  by_cases h : 128 ≤ F k
  · rw [if_pos h, if_pos h]
    have hb2 : 128 ≤ b := by
      rw [e] at h
      exact (nI_leI (a := 128) (by omega) (by omega)).mp h
    obtain ⟨t1, t2, t3, t4⟩ := tab8 b hb hb2
    rw [← e] at t1 t2 t3 t4
    have h4 := m8N_le (F k)
    by_cases q : m8N (F k) = 0
    · rw [if_pos (t2.mpr q), if_pos (by rw [q]; rfl)]
      exact no _
    · have q2 : 2 ≤ m8N (F k) := t3.resolve_left q
      rw [if_neg (fun z => q (t2.mp z)), if_neg (show ¬ nI (m8N (F k)) = 0 from fun z => q ((nI_eq (b := 0) (by omega) (by omega)).mp z)), t1, t4.resolve_left q]
      by_cases r : k + m8N (F k) ≤ n
      · rw [if_pos r, tail_in hB _ _ _ (by omega)]
        cases m8l F k (m8N (F k) - 1) 1 (F k - F k / m8d (m8N (F k)) * m8d (m8N (F k))) with
        | none => exact no _
        | some v =>
          rw [sFin, m8F, nI_1, show m8N (F k) - 1 + 1 = m8N (F k) by omega]
          by_cases u : sSize8 v = nI (m8N (F k))
          · rw [if_pos u, if_pos u]
            exact ⟨fun _ => ⟨rfl, u⟩, fun z => absurd (nI_pos' (by omega)) z⟩
          · rw [if_neg u, if_neg u]
            exact no _
      · rw [if_neg r, tail_out hB (by omega) _ _ _ (by omega) (by omega) (by omega)]
        exact no _
  · rw [if_neg h, if_neg h]
    refine ⟨fun _ => ⟨rfl, ?_⟩, fun z => absurd (by show (0 : Int32) ≤ 1; decide) z⟩
    show sSize8 (F k) = 1
    rw [sSize8, if_neg h]
