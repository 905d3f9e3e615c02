/-! write: the same bytes on both sides -/
def E8 (n : Nat) : List Nat := if n < 128 then [n] else if n < 2048 then [192 + n / 64, 128 + n % 64] else if n < 65536 then [224 + n / 4096, 128 + n / 64 % 64, 128 + n % 64] else [240 + n / 262144, 128 + n / 4096 % 64, 128 + n / 64 % 64, 128 + n % 64]
def PR (w : Int32) (u : Nat) : List Nat := if w = 1 then [u / 256, u % 256] else [u % 256, u / 256]
def E16 (w : Int32) (n : Nat) : List Nat := if n < 65536 then PR w n else PR w (55296 + (n - 65536) / 1024) ++ PR w (56320 + (n - 65536) % 1024)
def EB (w : Int32) (n : Nat) : List Nat := if s16 w = true then E16 w n else E8 n
def wL (z : SS) (L : List Nat) : SS := L.foldl (fun z b => wB z (nI b)) z
def yL (y : MS) (L : List Nat) : MS := L.foldl (fun y b => yP y (nI b)) y
theorem wL_app (z : SS) (L M : List Nat) : wL z (L ++ M) = wL (wL z L) M := List.foldl_append
theorem yL_app (y : MS) (L M : List Nat) : yL y (L ++ M) = yL (yL y L) M := List.foldl_append
theorem lit (n : Nat) (x : Int32) (h : x = nI n) : x = nI n := h
theorem sz_le {n m : Nat} (hn : n < 2 ^ 31) (hm : m < 2 ^ 31) : (nI m ≤ nI n) = (m ≤ n) := propext (nI_leI hm hn)
theorem sSize8_n {n : Nat} (hn : n < 2 ^ 31) : sSize8 (nI n) = nI (E8 n).length := by
  unfold sSize8 E8
  rw [show (128 : Int32) = nI 128 from rfl, show (2048 : Int32) = nI 2048 from rfl, show (65536 : Int32) = nI 65536 from rfl]
  simp only [sz_le hn (show 128 < 2 ^ 31 by omega), sz_le hn (show 2048 < 2 ^ 31 by omega), sz_le hn (show 65536 < 2 ^ 31 by omega)]
  by_cases h1 : n < 128
  · rw [if_neg (by omega), if_pos h1]; rfl
  · rw [if_pos (by omega), if_neg h1]
    by_cases h2 : n < 2048
    · rw [if_neg (by omega), if_pos h2]; rfl
    · rw [if_pos (by omega), if_neg h2]
      by_cases h3 : n < 65536
      · rw [if_neg (by omega), if_pos h3]; rfl
      · rw [if_pos (by omega), if_neg h3]; rfl
theorem rem_n {a d : Nat} (ha : a < 2 ^ 31) (h0 : 0 < d) (hd : d < 2 ^ 31) : nI a - nI a / nI d * nI d = nI (a % d) := pk_rem ha h0 hd
/-- the reference: a character in 8 bits -/
theorem y8w_n (y : MS) {n : Nat} (hn : n < 1114112) : y8w y (nI n) = yL y (E8 n) := by
  have hn' : n < 2 ^ 31 := by omega
  unfold y8w
  rw [sSize8_n hn']
  have d1 : nI n / 1 = nI n := by rw [show (1 : Int32) = nI 1 from rfl, pk_div hn' (by omega) (by omega), Nat.div_one]
  have d64 : nI n / 64 = nI (n / 64) := pk_div (d := 64) hn' (by omega) (by omega)
  have d4 : nI n / 4096 = nI (n / 4096) := pk_div (d := 4096) hn' (by omega) (by omega)
  have d26 : nI n / 262144 = nI (n / 262144) := pk_div (d := 262144) hn' (by omega) (by omega)
  have m1 : nI n - nI n / 64 * 64 = nI (n % 64) := pk_rem (d := 64) hn' (by omega) (by omega)
  have m2 : nI (n / 64) - nI (n / 64) / 64 * 64 = nI (n / 64 % 64) := pk_rem (d := 64) (by omega) (by omega) (by omega)
  have m3 : nI (n / 4096) - nI (n / 4096) / 64 * 64 = nI (n / 4096 % 64) := pk_rem (d := 64) (by omega) (by omega) (by omega)
  have p1 : ∀ k : Nat, (128 : Int32) + nI k = nI (128 + k) := fun k => nI_add 128 k
  have p2 : ∀ k : Nat, (192 : Int32) + nI k = nI (192 + k) := fun k => nI_add 192 k
  have p3 : ∀ k : Nat, (224 : Int32) + nI k = nI (224 + k) := fun k => nI_add 224 k
  have p4 : ∀ k : Nat, (240 : Int32) + nI k = nI (240 + k) := fun k => nI_add 240 k
  rw [d1, m1, d64, m2, d4, m3, d26, p1, p1, p1, p2, p3, p4]
  unfold E8
  by_cases h1 : n < 128
  · rw [if_pos h1, if_pos (by show nI 1 = 1; decide)]; rfl
  · rw [if_neg h1]
    by_cases h2 : n < 2048
    · rw [if_pos h2, if_neg (by show ¬ nI 2 = 1; decide), if_pos (by show nI 2 = 2; decide)]; rfl
    · rw [if_neg h2]
      by_cases h3 : n < 65536
      · rw [if_pos h3, if_neg (by show ¬ nI 3 = 1; decide), if_neg (by show ¬ nI 3 = 2; decide), if_pos (by show nI 3 = 3; decide)]; rfl
      · rw [if_neg h3, if_neg (by show ¬ nI 4 = 1; decide), if_neg (by show ¬ nI 4 = 2; decide), if_neg (by show ¬ nI 4 = 3; decide)]; rfl
theorem yPair_n (y : MS) {u : Nat} (hu : u < 2 ^ 31) (w : Int32) : yPair y (nI u) (hiW w) = yL y (PR w u) := by
  have d : nI u / 256 = nI (u / 256) := pk_div (d := 256) hu (by omega) (by omega)
  have m : nI u - nI u / 256 * 256 = nI (u % 256) := pk_rem (d := 256) hu (by omega) (by omega)
  unfold yPair hiW PR
  rw [m, d]
  by_cases h : w = 1
  · rw [if_pos h, if_pos h, if_neg (by decide)]; rfl
  · rw [if_neg h, if_neg h, if_pos rfl]; rfl
theorem yWc_n (y : MS) {n : Nat} (hn : n < 1114112) {w : Int32} (hw : w = 0 ∨ w = 1 ∨ w = 2 ∨ w = 3) : yWc w y (nI n) = yL y (EB w n) := by
  unfold yWc EB
  rcases hw with rfl | rfl | rfl | rfl
  · rw [if_pos rfl, y8w_n y hn, if_neg (by decide)]
  · rw [if_neg (by decide), if_neg (by decide), if_pos (show s16 1 = true by decide), E16]
    have hq : (65536 : Int32) ≤ nI n ↔ 65536 ≤ n := nI_leI (a := 65536) (by omega) (by omega)
    by_cases h : n < 65536
    · rw [if_neg (fun q => by have := hq.mp q; omega), if_pos h, yPair_n y (by omega)]
    · rw [if_pos (hq.mpr (by omega)), if_neg h, yL_app]
      rw [show nI n - 65536 = nI (n - 65536) from pk_sub (b := 65536) (by omega), show nI (n - 65536) / 1024 = nI ((n - 65536) / 1024) from pk_div (d := 1024) (by omega) (by omega) (by omega)]
      rw [show nI (n - 65536) - nI ((n - 65536) / 1024) * 1024 = nI ((n - 65536) % 1024) from by rw [← pk_rem (d := 1024) (show n - 65536 < 2 ^ 31 by omega) (by omega) (by omega), ← pk_div (d := 1024) (show n - 65536 < 2 ^ 31 by omega) (by omega) (by omega)]; rfl]
      rw [show (55296 : Int32) + nI ((n - 65536) / 1024) = nI (55296 + (n - 65536) / 1024) from nI_add 55296 _, show (56320 : Int32) + nI ((n - 65536) % 1024) = nI (56320 + (n - 65536) % 1024) from nI_add 56320 _]
      rw [yPair_n y (by omega), yPair_n _ (by omega)]
  · rw [if_neg (by decide), if_neg (by decide), if_pos (show s16 2 = true by decide), E16]
    have hq : (65536 : Int32) ≤ nI n ↔ 65536 ≤ n := nI_leI (a := 65536) (by omega) (by omega)
    by_cases h : n < 65536
    · rw [if_neg (fun q => by have := hq.mp q; omega), if_pos h, yPair_n y (by omega)]
    · rw [if_pos (hq.mpr (by omega)), if_neg h, yL_app]
      rw [show nI n - 65536 = nI (n - 65536) from pk_sub (b := 65536) (by omega), show nI (n - 65536) / 1024 = nI ((n - 65536) / 1024) from pk_div (d := 1024) (by omega) (by omega) (by omega)]
      rw [show nI (n - 65536) - nI ((n - 65536) / 1024) * 1024 = nI ((n - 65536) % 1024) from by rw [← pk_rem (d := 1024) (show n - 65536 < 2 ^ 31 by omega) (by omega) (by omega), ← pk_div (d := 1024) (show n - 65536 < 2 ^ 31 by omega) (by omega) (by omega)]; rfl]
      rw [show (55296 : Int32) + nI ((n - 65536) / 1024) = nI (55296 + (n - 65536) / 1024) from nI_add 55296 _, show (56320 : Int32) + nI ((n - 65536) % 1024) = nI (56320 + (n - 65536) % 1024) from nI_add 56320 _]
      rw [yPair_n y (by omega), yPair_n _ (by omega)]
  · rw [if_neg (by decide), if_pos rfl, y8w_n y hn, if_neg (by decide)]
/-- the class: a character in 8 bits -/
theorem wB_and (z : SS) {b c : Int32} (h : b &&& 255 = c &&& 255) : wB z b = wB z c := by unfold wB; rw [h]
theorem shr_n {n k : Nat} (hn : n < 2 ^ 31) (s : Int32) (hs : (s.toBitVec.smod 32).toNat = k) : nI n >>> s = nI (n / 2 ^ k) := pk_shrN hn s k hs
theorem sz8_n {n : Nat} (hn : n < 2 ^ 31) : sz8 (nI n) = (E8 n).length - 1 := by
  unfold sz8 E8
  rw [show (128 : Int32) = nI 128 from rfl, show (2048 : Int32) = nI 2048 from rfl, show (65536 : Int32) = nI 65536 from rfl]
  simp only [sz_le hn (show 128 < 2 ^ 31 by omega), sz_le hn (show 2048 < 2 ^ 31 by omega), sz_le hn (show 65536 < 2 ^ 31 by omega)]
  by_cases h1 : n < 128
  · rw [if_neg (by omega), if_pos h1]; rfl
  · rw [if_pos (by omega), if_neg h1]
    by_cases h2 : n < 2048
    · rw [if_neg (by omega), if_pos h2]; rfl
    · rw [if_pos (by omega), if_neg h2]
      by_cases h3 : n < 65536
      · rw [if_neg (by omega), if_pos h3]; rfl
      · rw [if_pos (by omega), if_neg h3]; rfl
theorem w8_n (z : SS) {n : Nat} (hn : n < 1114112) : w8 z (nI n) = wL z (E8 n) := by
  have hn' : n < 2 ^ 31 := by omega
  have a63 : ∀ k : Nat, k < 2 ^ 31 → nI k &&& 63 = nI (k % 64) := fun k hk => pk_andN (by omega) 6 (by decide)
  have t0 : (128 : Int32) + ((nI n >>> ((6 * nI 0) &&& 31) : Int32) &&& 63) = nI (128 + n % 64) := by
    rw [shr_n hn' _ (k := 0) (by decide), Nat.pow_zero, Nat.div_one, a63 n hn']; exact nI_add 128 _
  have t1 : (128 : Int32) + ((nI n >>> ((6 * nI 1) &&& 31) : Int32) &&& 63) = nI (128 + n / 64 % 64) := by
    rw [shr_n hn' _ (k := 6) (by decide), show 2 ^ 6 = 64 from rfl, a63 _ (by omega)]; exact nI_add 128 _
  have t2 : (128 : Int32) + ((nI n >>> ((6 * nI 2) &&& 31) : Int32) &&& 63) = nI (128 + n / 4096 % 64) := by
    rw [shr_n hn' _ (k := 12) (by decide), show 2 ^ 12 = 4096 from rfl, a63 _ (by omega)]; exact nI_add 128 _
  unfold w8
  rw [sz8_n hn']
  unfold E8
  by_cases h1 : n < 128
  · rw [if_pos h1, if_pos (by show 0 = 0; rfl)]; rfl
  · rw [if_neg h1]
    by_cases h2 : n < 2048
    · rw [if_pos h2, if_neg (by show ¬ 1 = 0; decide)]
      show wB (wB z (256 - ((128 : Int32) >>> (nI 1 &&& 31) : Int32) + (nI n >>> ((6 * nI 1) &&& 31) : Int32))) (128 + ((nI n >>> ((6 * nI 0) &&& 31) : Int32) &&& 63)) = _
      rw [t0, shr_n hn' _ (k := 6) (by decide), show 256 - ((128 : Int32) >>> (nI 1 &&& 31) : Int32) = nI 192 from by decide, nI_add]; rfl
    · rw [if_neg h2]
      by_cases h3 : n < 65536
      · rw [if_pos h3, if_neg (by show ¬ 2 = 0; decide)]
        show wB (wB (wB z (256 - ((128 : Int32) >>> (nI 2 &&& 31) : Int32) + (nI n >>> ((6 * nI 2) &&& 31) : Int32))) (128 + ((nI n >>> ((6 * nI 1) &&& 31) : Int32) &&& 63))) (128 + ((nI n >>> ((6 * nI 0) &&& 31) : Int32) &&& 63)) = _
        rw [t0, t1, shr_n hn' _ (k := 12) (by decide), show 256 - ((128 : Int32) >>> (nI 2 &&& 31) : Int32) = nI 224 from by decide, nI_add]; rfl
      · rw [if_neg h3, if_neg (by show ¬ 3 = 0; decide)]
        show wB (wB (wB (wB z (256 - ((128 : Int32) >>> (nI 3 &&& 31) : Int32) + (nI n >>> ((6 * nI 3) &&& 31) : Int32))) (128 + ((nI n >>> ((6 * nI 2) &&& 31) : Int32) &&& 63))) (128 + ((nI n >>> ((6 * nI 1) &&& 31) : Int32) &&& 63))) (128 + ((nI n >>> ((6 * nI 0) &&& 31) : Int32) &&& 63)) = _
        rw [t0, t1, t2, shr_n hn' _ (k := 18) (by decide), show 256 - ((128 : Int32) >>> (nI 3 &&& 31) : Int32) = nI 240 from by decide, nI_add]; rfl
theorem w2_n (z : SS) {u : Nat} (hu : u < 65536) (w : Int32) : w2 z (nI u) w = wL z (PR w u) := by
  have d : nI u >>> ((8 : Int32) &&& 31) = nI (u / 256) := shr_n (k := 8) (by omega) _ (by decide)
  have m : nI u &&& 255 = nI (u % 256) &&& 255 := by
    rw [pk_andN (by omega) 8 (by decide), pk_andN (by omega) 8 (by decide), show 2 ^ 8 = 256 from rfl, Nat.mod_mod]
  unfold w2 PR
  rw [d]
  by_cases h : w = 1
  · rw [if_pos h, if_pos h, wB_and _ m]; rfl
  · rw [if_neg h, if_neg h, wB_and z m]; rfl
theorem w16_n (z : SS) {n : Nat} (hn : n < 1114112) (w : Int32) : w16 z (nI n) w = wL z (E16 w n) := by
  unfold w16 E16
  have hq : (65536 : Int32) ≤ nI n ↔ 65536 ≤ n := nI_leI (a := 65536) (by omega) (by omega)
  by_cases h : n < 65536
  · rw [if_neg (fun q => by have := hq.mp q; omega), if_pos h, w2_n z h]
  · rw [if_pos (hq.mpr (by omega)), if_neg h, wL_app]
    rw [show nI n - 65536 = nI (n - 65536) from pk_sub (b := 65536) (by omega), show nI (n - 65536) >>> ((10 : Int32) &&& 31) = nI ((n - 65536) / 1024) from shr_n (k := 10) (by omega) _ (by decide)]
    rw [show nI (n - 65536) &&& 1023 = nI ((n - 65536) % 1024) from pk_andN (by omega) 10 (by decide)]
    rw [show (55296 : Int32) + nI ((n - 65536) / 1024) = nI (55296 + (n - 65536) / 1024) from nI_add 55296 _, show (56320 : Int32) + nI ((n - 65536) % 1024) = nI (56320 + (n - 65536) % 1024) from nI_add 56320 _]
    rw [w2_n z (by omega), w2_n _ (by omega)]
theorem wC_n (z : SS) {n : Nat} (hn : n < 1114112) (w : Int32) : wC z (nI n) w = wL z (EB w n) := by
  unfold wC EB
  by_cases h : s16 w = true
  · rw [if_pos h, if_pos h, w16_n z hn]
  · rw [if_neg h, if_neg h, w8_n z hn]
theorem isC_n {c : Int32} (h : isC c) : ∃ n : Nat, n < 1114112 ∧ c = nI n := by
  have h' : sChar c = true := h
  simp only [sChar, Bool.or_eq_true, decide_eq_true_eq, sIn_iff, i32_eq] at h'
  refine ⟨c.toInt.toNat, ?_, ?_⟩
  · simp at h'; omega
  · rw [i32_eq, nI_toInt (by simp at h'; omega)]
    simp at h'; omega
