/-! read: the relation -/
theorem sCame_cg {F G : Nat → Int32} {n : Nat} (hn : n ≤ 4096) (h : ∀ j, j < n → G j = F j) (i : Int32) : sCame F n i = sCame G n i := by
  unfold sCame
  by_cases q : sHas n i = true
  · rw [if_pos q, if_pos q]
    obtain ⟨j, hj, rfl⟩ := (sHas_iff (by omega)).mp q
    rw [nI_clamp (by omega)]
    exact (h j hj).symm
  · rw [if_neg q, if_neg q]
theorem sTail_cg {F G : Nat → Int32} {n : Nat} (hc : ∀ i, sCame F n i = sCame G n i) (i : Int32) : ∀ (r j : Nat) (v : Int32), sTail F n i r j v = sTail G n i r j v
  | 0, _, _ => rfl
  | r + 1, j, v => by
    rw [sTail, sTail, hc]
    simp only [sTail_cg hc i r]
theorem sN_cg {F G : Nat → Int32} {n : Nat} (hn : n ≤ 4096) (h : ∀ j, j < n → G j = F j) (i w : Int32) : sN F n i w = sN G n i w := by
  have hc := sCame_cg hn h
  have hp : ∀ i, sPair F n i w = sPair G n i w := fun i => by unfold sPair; rw [hc, hc]
  unfold sN
  by_cases q : s16 w = true
  · rw [if_pos q, if_pos q]; unfold sN16; rw [hp, hp]
  · rw [if_neg q, if_neg q]; unfold sN8; rw [hc, sTail_cg hc]
theorem sWay_cg {F G : Nat → Int32} {n : Nat} (hn : n ≤ 4096) (h : ∀ j, j < n → G j = F j) : sWay F n = sWay G n := by
  unfold sWay
  rw [sN_cg hn h, sN_cg hn h, sN_cg hn h]
theorem sRef_cg {F G : Nat → Int32} {n : Nat} (hn : n ≤ 4096) (h : ∀ j, j < n → G j = F j) (w : Int32) : ∀ (u : Nat) (x : Int32), sRef F n w u x = sRef G n w u x
  | 0, _ => rfl
  | u + 1, x => by rw [sRef, sRef, sN_cg hn h, sRef_cg hn h w u]
theorem way4 {F : Nat → Int32} {n : Nat} : mWay F n = 0 ∨ mWay F n = 1 ∨ mWay F n = 2 ∨ mWay F n = 3 := by
  unfold mWay
  split
  · exact Or.inr (Or.inl rfl)
  · split
    · exact Or.inr (Or.inr (Or.inl rfl))
    · split
      · split
        · exact Or.inl rfl
        · split
          · exact Or.inr (Or.inr (Or.inr rfl))
          · exact Or.inl rfl
      · exact Or.inl rfl
theorem num_eq {w : Int32} (hw : w = 0 ∨ w = 1 ∨ w = 2 ∨ w = 3) {y : MS} {n k : Nat} (hn : y.2.1 = n) (hB : okB y.2.2.2.2.2.2.1 n) (hk : k < n) : (0 ≤ tkR w y k → sN y.2.2.2.2.2.2.1 n (nI k) w = (tkY w y k).2.2.2.2.2.1 ∧ sSize (sN y.2.2.2.2.2.2.1 n (nI k) w) w = tkR w y k) ∧ (¬ 0 ≤ tkR w y k → sChar (sN y.2.2.2.2.2.2.1 n (nI k) w) = false) := by
  subst hn
  have h8 := n8_eq hB hk
  have h16 := fun w hw => n16_eq (k := k) hB (by have := hB.1; omega) w hw
  rcases hw with rfl | rfl | rfl | rfl
  · exact h8
  · exact h16 1 (by decide)
  · exact h16 2 (by decide)
  · exact h8
theorem sRef_o {F : Nat → Int32} {n k : Nat} (hk : n ≤ k) (hk2 : k < 2 ^ 31) (w : Int32) : ∀ u : Nat, sRef F n w u (nI k) = -1
  | 0 => rfl
  | u + 1 => by rw [sRef, if_pos ((nI_leI (by omega) hk2).mpr hk)]
theorem tT_o {z : SS} {k : Nat} (hk : z.1 ≤ k) (hk2 : k < 2 ^ 31) (w b : Int32) : ∀ u : Nat, tT w u (nI k) b z = z
  | 0 => rfl
  | u + 1 => by rw [tT, if_pos ((nI_leI (by omega) hk2).mpr hk)]
theorem yRd_o {y : MS} {k j : Nat} (hk : y.2.1 ≤ k) (w b : Int32) : ∀ u : Nat, yRd w u k j b y = (-1, j, y)
  | 0 => rfl
  | u + 1 => by rw [yRd, if_pos hk]
/-- what both have taken so far -/
def tok (j : Nat) (y : MS) (z : SS) : Prop := j = z.2.1 ∧ ∀ i, i < j → y.2.2.2.2.2.2.2.2 i = z.2.2.2.2 i ∧ isC (z.2.2.2.2 i)
theorem tok_add {j : Nat} {y : MS} {z : SS} (h : tok j y z) (hj : j < 4096) {c : Int32} (hc : isC c) : tok (j + 1) (setA y j c) (wG z c) := by
  obtain ⟨h1, h2⟩ := h
  rw [wG, if_pos (by omega)]
  refine ⟨by show j + 1 = z.2.1 + 1; omega, fun i hi => ?_⟩
  show upd y.2.2.2.2.2.2.2.2 j c i = upd z.2.2.2.2 z.2.1 c i ∧ isC (upd z.2.2.2.2 z.2.1 c i)
  rw [← h1]
  simp only [upd]
  by_cases q : i = j
  · simp only [q, ↓reduceIte]; exact ⟨trivial, hc⟩
  · simp only [q, ↓reduceIte]; exact h2 i (by omega)
theorem isC_nl {c : Int32} (h : sChar c = true) : isC (if c = 13 then 10 else c) := by
  split
  · show sChar 10 = true; decide
  · exact h
def sameR (x y : MS) : Prop := x.1 = y.1 ∧ x.2.1 = y.2.1 ∧ x.2.2.1 = y.2.2.1 ∧ x.2.2.2.1 = y.2.2.2.1 ∧ x.2.2.2.2.1 = y.2.2.2.2.1 ∧ x.2.2.2.2.2.2.1 = y.2.2.2.2.2.2.1 ∧ x.2.2.2.2.2.2.2.1 = y.2.2.2.2.2.2.2.1
theorem sameR.rf {y : MS} : sameR y y := ⟨rfl, rfl, rfl, rfl, rfl, rfl, rfl⟩
theorem sameR.tr {a b c : MS} (h1 : sameR a b) (h2 : sameR b c) : sameR a c := ⟨h1.1.trans h2.1, h1.2.1.trans h2.2.1, h1.2.2.1.trans h2.2.2.1, h1.2.2.2.1.trans h2.2.2.2.1, h1.2.2.2.2.1.trans h2.2.2.2.2.1, h1.2.2.2.2.2.1.trans h2.2.2.2.2.2.1, h1.2.2.2.2.2.2.trans h2.2.2.2.2.2.2⟩
theorem tkY_s (w : Int32) (y : MS) (k : Nat) : sameR (tkY w y k) y := by obtain ⟨v, e⟩ := tkY_eq w y k; rw [e]; exact sameR.rf
theorem tkY_a (w : Int32) (y : MS) (k : Nat) : (tkY w y k).2.2.2.2.2.2.2.2 = y.2.2.2.2.2.2.2.2 := by obtain ⟨v, e⟩ := tkY_eq w y k; rw [e]; rfl
theorem setA_s (y : MS) (j : Nat) (v : Int32) : sameR (setA y j v) y := sameR.rf
theorem wG_s (z : SS) (c : Int32) : (wG z c).1 = z.1 ∧ (wG z c).2.2.2.1 = z.2.2.2.1 := by
  unfold wG; split
  · exact ⟨rfl, rfl⟩
  · exact ⟨rfl, rfl⟩
def rdQ (G : Nat → Int32) (n : Nat) (w : Int32) (us k : Nat) (b' : Int32) (y : MS) (z : SS) (R : Int32 × Nat × MS) : Prop := sameR R.2.2 y ∧ sRef G n w us (nI k) = R.1 ∧ (R.1 = -1 → tok R.2.1 R.2.2 (tT w us (nI k) b' z)) ∧ R.2.1 ≤ 4096
theorem rd_eq {w : Int32} (hw : w = 0 ∨ w = 1 ∨ w = 2 ∨ w = 3) {n : Nat} {G F : Nat → Int32} (hB : okB G n) (hF : ∀ x, sN F n x w = sN G n x w) : ∀ (u us k j : Nat) (b b' : Int32) (y : MS) (z : SS), y.2.1 = n → y.2.2.2.2.2.2.1 = G → z.1 = n → z.2.2.2.1 = F → n ≤ k + u → n ≤ k + us → (b = 0 ↔ ¬ b' = 13) → tok j y z → j ≤ k → j ≤ 4096 → k ≤ 4200 → rdQ G n w us k b' y z (yRd w u k j b y) := by
  intro u
  induction u with
  | zero =>
    intro us k j b b' y z hy hG hz hzF hu hus hbb ht hj hj2 hk
    rw [yRd_o (by omega)]
    exact ⟨sameR.rf, sRef_o (by omega) (by omega) w us, fun _ => by rw [tT_o (by omega) (by omega)]; exact ht, hj2⟩
  | succ u ih =>
    intro us k j b b' y z hy hG hz hzF hu hus hbb ht hj hj2 hk
    have hn := hB.1
    by_cases hnk : n ≤ k
    · rw [yRd_o (by omega)]
      exact ⟨sameR.rf, sRef_o (by omega) (by omega) w us, fun _ => by rw [tT_o (by omega) (by omega)]; exact ht, hj2⟩
    · obtain ⟨us, rfl⟩ : ∃ v, us = v + 1 := ⟨us - 1, by omega⟩
      have hle : ¬ nI n ≤ nI k := fun q => hnk ((nI_leI (by omega) (by omega)).mp q)
      obtain ⟨g1, g2⟩ := num_eq hw (y := y) (n := n) (k := k) hy (by rw [hG]; exact hB) (by omega)
      rw [hG] at g1 g2
      have gS := tkY_s w y k
      have gA := tkY_a w y k
      rw [yRd, if_neg (by omega)]
      by_cases t0 : 0 ≤ tkR w y k
      · rw [if_pos t0]
        obtain ⟨e1, e2⟩ := g1 t0
        obtain ⟨l1, l2⟩ := tkR_le w y k t0
        have ek : nI k + sSize (sN G n (nI k) w) w = nI (k + (tkR w y k).toNatClampNeg) := by rw [e2]; exact addT t0
        generalize ec : (tkY w y k).2.2.2.2.2.1 = c at *
        generalize et : (tkR w y k).toNatClampNeg = t at *
        rw [e1] at ek
        have eR : sRef G n w (us + 1) (nI k) = if sChar c = true then sRef G n w us (nI (k + t)) else nI k := by rw [sRef, if_neg hle, e1, ek]
        have eT : tT w (us + 1) (nI k) b' z = tT w us (nI (k + t)) c (if b' = 13 then (if c = 10 then z else wG z (if c = 13 then 10 else c)) else wG z (if c = 13 then 10 else c)) := by
          rw [tT, hz, if_neg hle, hzF, hF, e1, ek]
        by_cases hc : sChar c = true
        · rw [if_pos hc]
          rw [if_pos hc] at eR
          have b2 : (if c = 13 then (1 : Int32) else 0) = 0 ↔ ¬ c = 13 := by
            split
            · next h => exact ⟨fun q => absurd q (by decide), fun q => absurd h q⟩
            · next h => exact ⟨fun _ => h, fun _ => rfl⟩
          have tk2 : tok j (tkY w y k) z := ⟨ht.1, fun i hi => by rw [gA]; exact ht.2 i hi⟩
          have hjn : j < 4096 := by omega
          have go : ∀ (j2 : Nat) (y2 : MS) (z2 : SS), sameR y2 y → z2.1 = z.1 ∧ z2.2.2.2.1 = z.2.2.2.1 → tok j2 y2 z2 → j2 ≤ j + 1 → tT w (us + 1) (nI k) b' z = tT w us (nI (k + t)) c z2 → rdQ G n w (us + 1) k b' y z (yRd w u (k + t) j2 (if c = 13 then 1 else 0) y2) := by
            intro j2 y2 z2 s2 hz2 t2 hj2' e
            obtain ⟨r1, r2, r3, r4⟩ := ih us (k + t) j2 (if c = 13 then 1 else 0) c y2 z2 (s2.2.1.trans hy) (s2.2.2.2.2.2.1.trans hG) (hz2.1.trans hz) (hz2.2.trans hzF) (by omega) (by omega) b2 t2 (by omega) (by omega) (by omega)
            exact ⟨r1.tr s2, by rw [eR]; exact r2, fun q => by rw [e]; exact r3 q, r4⟩
          by_cases h10 : c = 10
          · rw [if_pos h10]
            by_cases hb0 : b = 0
            · rw [if_pos hb0]
              exact go _ _ _ ((setA_s _ _ _).tr gS) (wG_s _ _) (tok_add tk2 hjn (isC_nl hc)) (by omega) (by rw [eT, if_neg (hbb.mp hb0)])
            · rw [if_neg hb0]
              exact go _ _ _ gS ⟨rfl, rfl⟩ tk2 (by omega) (by rw [eT, if_pos (Decidable.not_not.mp (fun q => hb0 (hbb.mpr q))), if_pos h10])
          · rw [if_neg h10]
            exact go _ _ _ ((setA_s _ _ _).tr gS) (wG_s _ _) (tok_add tk2 hjn (isC_nl hc)) (by omega) (by
              rw [eT, if_neg h10]
              split
              · rfl
              · rfl)
        · rw [if_neg hc]
          rw [if_neg hc] at eR
          exact ⟨gS, eR, fun q => absurd q (nI_m1 (by omega)), hj2⟩
      · rw [if_neg t0]
        refine ⟨gS, ?_, fun q => absurd q (nI_m1 (by omega)), hj2⟩
        rw [sRef, if_neg hle, if_neg (by rw [g2 t0]; decide)]
theorem stW_eq {w : Int32} (hw : w = 0 ∨ w = 1 ∨ w = 2 ∨ w = 3) : sMark w = nI (stW w) ∧ stW w ≤ 3 := by
  rcases hw with rfl | rfl | rfl | rfl
  · exact ⟨rfl, by decide⟩
  · exact ⟨rfl, by decide⟩
  · exact ⟨rfl, by decide⟩
  · exact ⟨rfl, by decide⟩
theorem rel_read {z : SS} {y : MS} (h : Rel z y) : Rel (zRead z) (yRead y) ∧ sPlace z.2.2.2.1 z.1 (sWay z.2.2.2.1 z.1) = (yRR y).1 := by
  obtain ⟨⟨⟨h1, h2⟩, h3, h4, h5⟩, ⟨e1, e2, e3⟩, hb, ht⟩ := h
  have hB : okB y.2.2.2.2.2.2.1 z.1 := ⟨h1, fun j hj => by rw [(hb j hj).1]; exact (hb j hj).2⟩
  have hg : ∀ j, j < z.1 → y.2.2.2.2.2.2.1 j = z.2.2.2.1 j := fun j hj => (hb j hj).1
  have hw : sWay z.2.2.2.1 z.1 = mWay y.2.2.2.2.2.2.1 y.2.1 := by rw [sWay_cg h1 hg, way_eq hB, e1]
  have hw4 := way4 (F := y.2.2.2.2.2.2.1) (n := y.2.1)
  unfold zRead yRead zText sPlace
  rw [hw, sRef_cg h1 hg]
  unfold yRR
  generalize mWay y.2.2.2.2.2.2.1 y.2.1 = w at *
  obtain ⟨m1, m2⟩ := stW_eq hw4
  rw [m1]
  obtain ⟨r1, r2, r3, r4⟩ := rd_eq hw4 (F := z.2.2.2.1) hB (fun x => sN_cg h1 hg x w) 4110 4096 (stW w) 0 0 (-1) (0, y.2) (z.1, 0, z.2.2) e1 rfl rfl rfl (by omega) (by omega) ⟨fun _ => by decide, fun _ => rfl⟩ ⟨rfl, fun i hi => absurd hi (Nat.not_lt_zero i)⟩ (by omega) (by omega) (by omega)
  generalize yRd w 4110 (stW w) 0 0 (0, y.2) = R at *
  generalize tT w 4096 (nI (stW w)) (-1) (z.1, 0, z.2.2) = Z at *
  rw [r2]
  refine ⟨?_, rfl⟩
  obtain ⟨s1, s2, s3, s4, s5, s6, s7⟩ := r1
  by_cases q : R.1 = -1
  · rw [if_pos q, if_pos q]
    obtain ⟨t1, t2⟩ := r3 q
    refine ⟨⟨⟨Nat.zero_le _, ?_⟩, Nat.zero_le _, r4, ?_⟩, ⟨rfl, t1, rfl⟩, fun j hj => absurd hj (Nat.not_lt_zero j), ?_⟩
    · show Z.2.1 ≤ 4096; rw [← t1]; exact r4
    · show R.2.2.2.2.2.2.1 ≤ 1000000; rw [s5]; exact h5
    · intro j hj
      have hj' : j < R.2.1 := by rw [t1]; exact hj
      show cpT R.2.2 R.2.1 j = Z.2.2.2.2 j ∧ isC (Z.2.2.2.2 j)
      unfold cpT
      rw [if_pos hj']
      exact t2 j hj'
  · rw [if_neg q, if_neg q]
    refine ⟨⟨⟨Nat.zero_le _, h2⟩, Nat.zero_le _, ?_, ?_⟩, ⟨rfl, ?_, ?_⟩, fun j hj => absurd hj (Nat.not_lt_zero j), ?_⟩
    · show R.2.2.2.2.1 ≤ 4096; rw [s3]; exact h4
    · show R.2.2.2.2.2.2.1 ≤ 1000000; rw [s5]; exact h5
    · show R.2.2.2.2.1 = z.2.1; rw [s3]; exact e2
    · show R.2.2.2.2.2.1 = z.2.2.1; rw [s4]; exact e3
    · intro j hj
      show R.2.2.2.2.2.2.2.2.2.1 j = z.2.2.2.2 j ∧ _
      rw [s7]
      exact ht j hj
