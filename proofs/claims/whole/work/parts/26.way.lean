/-! read: the way -/
theorem mk16 {F : Nat → Int32} {n : Nat} (hB : okB F n) (w : Int32) : sN16 F n 0 w = 65279 ↔ mUnit F n 0 (hiW w) = 65279 := by
  unfold sN16
  rw [show (0 : Int32) = nI 0 from rfl, show nI 0 + 2 = nI 2 from rfl, pair_eq hB (by omega), pair_eq hB (by omega)]
  rcases unit_n (k := 0) hB (hiW w) with e | ⟨u, hu, e⟩
  · rw [e, if_neg (show ¬ (55296 : Int32) ≤ -1 by decide)]
  · rw [e]
    have i1 : (55296 : Int32) ≤ nI u ↔ 55296 ≤ u := nI_leI (a := 55296) (by omega) (by omega)
    have i2 : nI u ≤ (56319 : Int32) ↔ u ≤ 56319 := nI_leI (b := 56319) (by omega) (by omega)
    have ne : ∀ x : Nat, x < 2 ^ 31 → (nI x = 65279 ↔ x = 65279) := fun x hx => nI_eq (b := 65279) hx (by omega)
    by_cases h1 : 55296 ≤ u
    · rw [if_pos (i1.mpr h1)]
      by_cases h2 : u ≤ 56319
      · rw [if_pos (i2.mpr h2)]
        have hno : ¬ nI u = 65279 := fun q => by have := (ne u (by omega)).mp q; omega
        rcases unit_n (k := 2) hB (hiW w) with e2 | ⟨v, hv, e2⟩
        · rw [e2, if_neg (show ¬ (56320 : Int32) ≤ -1 by decide)]
        · rw [e2]
          by_cases h3 : (56320 : Int32) ≤ nI v
          · rw [if_pos h3]
            by_cases h4 : nI v ≤ 57343
            · rw [if_pos h4]
              have h3' : 56320 ≤ v := (nI_leI (a := 56320) (by omega) (by omega)).mp h3
              rw [show nI u - 55296 = nI (u - 55296) from pk_sub (b := 55296) h1, show nI v - 56320 = nI (v - 56320) from pk_sub (b := 56320) h3', show (65536 : Int32) + 1024 * nI (u - 55296) = nI (65536 + 1024 * (u - 55296)) from by rw [show (1024 : Int32) = nI 1024 from rfl, pk_mul, show (65536 : Int32) = nI 65536 from rfl, nI_add], nI_add]
              refine ⟨fun q => ?_, fun q => absurd q hno⟩
              have := (ne _ (by omega)).mp q
              omega
            · rw [if_neg h4]
          · rw [if_neg h3]
      · rw [if_neg (fun q => h2 (i2.mp q))]
    · rw [if_neg (fun q => h1 (i1.mp q))]
theorem beg_iff {F : Nat → Int32} {n : Nat} (hn : n ≤ 4096) (a b : Int32) : mBeg F n a b = true ↔ 2 ≤ n ∧ F 0 = a ∧ F 1 = b := by
  simp only [mBeg, Bool.and_eq_true, Bool.not_eq_true', decide_eq_true_eq, decide_eq_false_iff_not]
  have : nI n ≤ 1 ↔ n ≤ 1 := nI_leI (b := 1) (by omega) (by omega)
  rw [this]
  constructor
  · rintro ⟨⟨h1, h2⟩, h3⟩; exact ⟨by omega, h2, h3⟩
  · rintro ⟨h1, h2, h3⟩; exact ⟨⟨by omega, h2⟩, h3⟩
theorem un_iff {F : Nat → Int32} {n : Nat} (hB : okB F n) (w : Int32) : mUnit F n 0 (hiW w) = 65279 ↔ (2 ≤ n ∧ (if w = 1 then F 0 = 254 ∧ F 1 = 255 else F 0 = 255 ∧ F 1 = 254)) := by
  obtain ⟨hn, hb⟩ := hB
  unfold mUnit hiW
  by_cases h : n ≤ 0 + 1
  · rw [if_pos h]
    exact ⟨fun q => absurd q (by decide), fun q => absurd q.1 (by omega)⟩
  · rw [if_neg h]
    obtain ⟨a, ha, ea⟩ := hb 0 (by omega)
    obtain ⟨b, hb', eb⟩ := hb (0 + 1) (by omega)
    have ne : ∀ x y : Nat, x < 2 ^ 31 → y < 2 ^ 31 → (nI x = nI y ↔ x = y) := fun x y hx hy => nI_eq hx hy
    rw [ea, eb]
    by_cases q : w = 1
    · rw [if_pos q, if_pos q, if_neg (by decide), show (256 : Int32) = nI 256 from rfl, pk_mul, nI_add, show (65279 : Int32) = nI 65279 from rfl, show (254 : Int32) = nI 254 from rfl, show (255 : Int32) = nI 255 from rfl, ne _ _ (by omega) (by omega), ne _ _ (by omega) (by omega), ne _ _ (by omega) (by omega)]
      omega
    · rw [if_neg q, if_neg q, if_pos rfl, show (256 : Int32) = nI 256 from rfl, pk_mul, nI_add, show (65279 : Int32) = nI 65279 from rfl, show (254 : Int32) = nI 254 from rfl, show (255 : Int32) = nI 255 from rfl, ne _ _ (by omega) (by omega), ne _ _ (by omega) (by omega), ne _ _ (by omega) (by omega)]
      omega
theorem tabL : ∀ b : Nat, b < 256 → (nI b / 64 = 2 ↔ b / 64 = 2) ∧ nI b - nI b / 64 * 64 = nI (b % 64) := by decide +kernel
theorem m8l_s {F : Nat → Int32} {k r j b : Nat} {a : Nat} (e : F (k + j) = nI b) (hb : b < 256) : m8l F k (r + 1) j (nI a) = if b / 64 = 2 then m8l F k r (j + 1) (nI (64 * a + b % 64)) else none := by
  obtain ⟨t1, t2⟩ := tabL b hb
  rw [m8l, e, t2, show (64 : Int32) * nI a = nI (64 * a) from pk_mul 64 a, nI_add]
  by_cases q : b / 64 = 2
  · rw [if_pos q, if_pos (t1.mpr q)]
  · rw [if_neg q, if_neg (fun z => q (t1.mp z))]
theorem tabM : ∀ b : Nat, b < 256 → 128 ≤ b → (m8N (nI b) = 0 ∨ (m8N (nI b) = 2 ∧ 192 ≤ b ∧ b < 224 ∧ nI b - nI b / m8d (m8N (nI b)) * m8d (m8N (nI b)) = nI (b % 32)) ∨ (m8N (nI b) = 3 ∧ 224 ≤ b ∧ b < 240 ∧ nI b - nI b / m8d (m8N (nI b)) * m8d (m8N (nI b)) = nI (b % 16)) ∨ (m8N (nI b) = 4 ∧ 240 ≤ b ∧ b < 248 ∧ nI b - nI b / m8d (m8N (nI b)) * m8d (m8N (nI b)) = nI (b % 8))) := by decide +kernel
theorem m8_mk {F : Nat → Int32} {n : Nat} (hB : okB F n) (h0 : 0 < n) : (0 ≤ (m8 F n 0).1 ∧ (m8 F n 0).2 = 65279) ↔ (3 ≤ n ∧ F 0 = 239 ∧ F 1 = 187 ∧ F 2 = 191) := by
  obtain ⟨hn, hb⟩ := hB
  have ne : ∀ x y : Nat, x < 2 ^ 31 → y < 2 ^ 31 → (nI x = nI y ↔ x = y) := fun x y hx hy => nI_eq hx hy
  have no : ∀ {P : Prop} (x : Int32), ¬ P → ((0 ≤ (-1 : Int32) ∧ x = 65279) ↔ P) := fun x hp => ⟨fun q => absurd q.1 (by decide), fun q => absurd q hp⟩
  obtain ⟨b0, hb0, e0⟩ := hb 0 h0
  have i239 : F 0 = 239 ↔ b0 = 239 := by rw [e0]; exact ne b0 239 (by omega) (by omega)
  unfold m8
  by_cases h : 128 ≤ F 0
  · rw [if_pos h]
    have hb2 : 128 ≤ b0 := by
      rw [e0] at h
      exact (nI_leI (a := 128) (by omega) (by omega)).mp h
    have tm := tabM b0 hb0 hb2
    rw [← e0] at tm
    rcases tm with t | ⟨t, r1, r2, t5⟩ | ⟨t, r1, r2, t5⟩ | ⟨t, r1, r2, t5⟩
    · rw [if_pos (by rw [t]; rfl)]
      refine no _ (fun q => ?_)
      have : b0 = 239 := i239.mp q.2.1
      rw [e0, this] at t
      exact absurd t (by decide)
    · rw [if_neg (by rw [t]; decide), t5, t]
      have hr : ¬ (3 ≤ n ∧ F 0 = 239 ∧ F 1 = 187 ∧ F 2 = 191) := fun q => by have := i239.mp q.2.1; omega
      by_cases r : 0 + 2 ≤ n
      · rw [if_pos r]
        obtain ⟨b1, hb1, e1⟩ := hb (0 + 1) (by omega)
        rw [m8l_s e1 hb1]
        by_cases q : b1 / 64 = 2
        · rw [if_pos q]
          show (0 ≤ (if sSize8 (nI (64 * (b0 % 32) + b1 % 64)) = nI 2 then nI 2 else -1) ∧ nI (64 * (b0 % 32) + b1 % 64) = 65279) ↔ _
          refine ⟨fun z => ?_, fun z => absurd z hr⟩
          have := (ne _ 65279 (by omega) (by omega)).mp z.2
          omega
        · rw [if_neg q]; exact no _ hr
      · rw [if_neg r]; exact no _ hr
    · rw [if_neg (by rw [t]; decide), t5, t]
      by_cases r : 0 + 3 ≤ n
      · rw [if_pos r]
        obtain ⟨b1, hb1, e1⟩ := hb (0 + 1) (by omega)
        obtain ⟨b2, hb2', e2⟩ := hb (0 + 2) (by omega)
        have j1 : F 1 = 187 ↔ b1 = 187 := by rw [show F 1 = nI b1 from e1]; exact ne b1 187 (by omega) (by omega)
        have j2 : F 2 = 191 ↔ b2 = 191 := by rw [show F 2 = nI b2 from e2]; exact ne b2 191 (by omega) (by omega)
        rw [i239, j1, j2, m8l_s (r := 1) e1 hb1]
        by_cases q : b1 / 64 = 2
        · rw [if_pos q, m8l_s (r := 0) (j := 2) e2 hb2']
          by_cases q2 : b2 / 64 = 2
          · rw [if_pos q2]
            show (0 ≤ (if sSize8 (nI (64 * (64 * (b0 % 16) + b1 % 64) + b2 % 64)) = nI 3 then nI 3 else -1) ∧ nI (64 * (64 * (b0 % 16) + b1 % 64) + b2 % 64) = 65279) ↔ _
            have i := ne (64 * (64 * (b0 % 16) + b1 % 64) + b2 % 64) 65279 (by omega) (by omega)
            constructor
            · intro z
              have := i.mp z.2
              omega
            · intro z
              have e : 64 * (64 * (b0 % 16) + b1 % 64) + b2 % 64 = 65279 := by omega
              rw [e]
              exact ⟨by decide, rfl⟩
          · rw [if_neg q2]; exact no _ (fun z => by omega)
        · rw [if_neg q]; exact no _ (fun z => by omega)
      · rw [if_neg r]; exact no _ (fun z => by omega)
    · rw [if_neg (by rw [t]; decide), t5, t]
      have hr : ¬ (3 ≤ n ∧ F 0 = 239 ∧ F 1 = 187 ∧ F 2 = 191) := fun q => by have := i239.mp q.2.1; omega
      by_cases r : 0 + 4 ≤ n
      · rw [if_pos r]
        obtain ⟨b1, hb1, e1⟩ := hb (0 + 1) (by omega)
        obtain ⟨b2, hb2', e2⟩ := hb (0 + 2) (by omega)
        obtain ⟨b3, hb3, e3⟩ := hb (0 + 3) (by omega)
        rw [m8l_s (r := 2) e1 hb1]
        by_cases q : b1 / 64 = 2
        · rw [if_pos q, m8l_s (r := 1) (j := 2) e2 hb2']
          by_cases q2 : b2 / 64 = 2
          · rw [if_pos q2, m8l_s (r := 0) (j := 3) e3 hb3]
            by_cases q3 : b3 / 64 = 2
            · rw [if_pos q3]
              show (0 ≤ (if sSize8 (nI (64 * (64 * (64 * (b0 % 8) + b1 % 64) + b2 % 64) + b3 % 64)) = nI 4 then nI 4 else -1) ∧ nI (64 * (64 * (64 * (b0 % 8) + b1 % 64) + b2 % 64) + b3 % 64) = 65279) ↔ _
              refine ⟨fun z => ?_, fun z => absurd z hr⟩
              have z1 := z.1
              rw [z.2] at z1
              exact absurd z1 (by decide)
            · rw [if_neg q3]; exact no _ hr
          · rw [if_neg q2]; exact no _ hr
        · rw [if_neg q]; exact no _ hr
      · rw [if_neg r]; exact no _ hr
  · rw [if_neg h]
    refine ⟨fun q => ?_, fun q => ?_⟩
    · have q2 : F 0 = 65279 := q.2
      rw [e0] at q2
      have := (ne b0 65279 (by omega) (by omega)).mp q2
      omega
    · exact absurd (show (128 : Int32) ≤ F 0 by rw [q.2.1]; decide) h
theorem mk8 {F : Nat → Int32} {n : Nat} (hB : okB F n) : sN8 F n 0 = 65279 ↔ (3 ≤ n ∧ F 0 = 239 ∧ F 1 = 187 ∧ F 2 = 191) := by
  by_cases h0 : 0 < n
  · rw [← m8_mk hB h0]
    obtain ⟨g1, g2⟩ := n8_eq hB h0
    constructor
    · intro q
      by_cases z : 0 ≤ (m8 F n 0).1
      · exact ⟨z, (g1 z).1.symm.trans q⟩
      · have := g2 z
        rw [show sN8 F n (nI 0) = 65279 from q] at this
        exact absurd this (by decide)
    · intro q
      exact (g1 q.1).1.trans q.2
  · have e : sCame F n 0 = -1 := came_o (k := 0) hB.1 (by omega) (by omega)
    unfold sN8
    rw [e, if_neg (by decide)]
    exact ⟨fun q => absurd q (by decide), fun q => absurd q.1 (by omega)⟩
theorem way_eq {F : Nat → Int32} {n : Nat} (hB : okB F n) : sWay F n = mWay F n := by
  have hn := hB.1
  have w1 : sN F n 0 1 = 65279 ↔ mBeg F n 254 255 = true := by
    rw [sN, if_pos (by decide), mk16 hB, un_iff hB, if_pos rfl, beg_iff hn]
  have w2 : sN F n 0 2 = 65279 ↔ mBeg F n 255 254 = true := by
    rw [sN, if_pos (by decide), mk16 hB, un_iff hB, if_neg (by decide), beg_iff hn]
  have w3 : sN F n 0 3 = 65279 ↔ (mBeg F n 239 187 = true ∧ ¬ nI n ≤ 2 ∧ F 2 = 191) := by
    have i : nI n ≤ 2 ↔ n ≤ 2 := nI_leI (b := 2) (by omega) (by omega)
    rw [sN, if_neg (by decide), mk8 hB, beg_iff hn, i]
    constructor
    · rintro ⟨a, b, c, d⟩; exact ⟨⟨by omega, b, c⟩, by omega, d⟩
    · rintro ⟨⟨a, b, c⟩, d, e⟩; exact ⟨by omega, b, c, e⟩
  unfold sWay mWay
  by_cases q1 : mBeg F n 254 255 = true
  · rw [if_pos q1, if_pos (w1.mpr q1)]
  · rw [if_neg q1, if_neg (fun z => q1 (w1.mp z))]
    by_cases q2 : mBeg F n 255 254 = true
    · rw [if_pos q2, if_pos (w2.mpr q2)]
    · rw [if_neg q2, if_neg (fun z => q2 (w2.mp z))]
      by_cases q3 : mBeg F n 239 187 = true
      · rw [if_pos q3]
        by_cases q4 : nI n ≤ 2
        · rw [if_pos q4, if_neg (fun z => (w3.mp z).2.1 q4)]
        · rw [if_neg q4]
          by_cases q5 : F 2 = 191
          · rw [if_pos q5, if_pos (w3.mpr ⟨q3, q4, q5⟩)]
          · rw [if_neg q5, if_neg (fun z => q5 (w3.mp z).2.2)]
      · rw [if_neg q3, if_neg (fun z => q3 (w3.mp z).1)]
