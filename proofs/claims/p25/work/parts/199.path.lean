-- draws by seed
def pS (s : Nat) : Nat := (s * 48271 + 11) % 2147483647
theorem pS_lt (s : Nat) : pS s < 2147483647 := Nat.mod_lt _ (by decide)
def pN (S : Nat → Int32) (u s : Nat) : Nat := s / 16 % (sumS S u).toInt.toNat
def pCol (S : Nat → Int32) (u x : Nat) : Nat := if nI x < gsum (bS S u) 1 then 0 else if nI x < gsum (bS S u) 2 then 1 else if nI x < gsum (bS S u) 3 then 2 else 3
def pAt (S : Nat → Int32) (u0 s0 : Nat) : Nat → Int32 × Nat
  | 0 => (nI u0, s0)
  | i + 1 => (S (25 * nU (pAt S u0 s0 i).1 + 20 + pCol S (nU (pAt S u0 s0 i).1) (pN S (nU (pAt S u0 s0 i).1) (pS (pAt S u0 s0 i).2))), pS (pAt S u0 s0 i).2)
def pA (S : Nat → Int32) (u0 s0 i : Nat) : Int32 := (pAt S u0 s0 i).1
def pE (S : Nat → Int32) (u0 s0 i : Nat) : Nat := (pAt S u0 s0 i).2
def pU (S : Nat → Int32) (u0 s0 i : Nat) : Nat := nU (pA S u0 s0 i)
def pC (S : Nat → Int32) (u0 s0 i : Nat) : Nat := pCol S (pU S u0 s0 i) (pN S (pU S u0 s0 i) (pS (pE S u0 s0 i)))
def pGo (S : Nat → Int32) (u0 s0 i : Nat) : Prop := ¬ sumS S (pU S u0 s0 i) = 0 ∧ gLet (bS S (pU S u0 s0 i)) (tS S (pU S u0 s0 i)) (pC S u0 s0 i) 4
def pOn (S : Nat → Int32) (u0 s0 len : Nat) : Prop := ∀ i, i < len → 0 ≤ pA S u0 s0 i ∧ pGo S u0 s0 i
def pLen (S : Nat → Int32) (u0 s0 len : Nat) : Prop := pOn S u0 s0 len ∧ pA S u0 s0 len < 0
def pStk (S : Nat → Int32) (u0 s0 : Nat) : Prop := ∃ len, pOn S u0 s0 len ∧ 0 ≤ pA S u0 s0 len ∧ ¬ pGo S u0 s0 len
theorem pA_s (S : Nat → Int32) (u0 s0 i : Nat) : pA S u0 s0 (i + 1) = S (25 * pU S u0 s0 i + 20 + pC S u0 s0 i) := rfl
theorem pE_s (S : Nat → Int32) (u0 s0 i : Nat) : pE S u0 s0 (i + 1) = pS (pE S u0 s0 i) := rfl
theorem pCol_lt (S : Nat → Int32) (u x : Nat) : pCol S u x < 4 := by
  unfold pCol
  split
  · omega
  · split
    · omega
    · split <;> omega
theorem pC_lt (S : Nat → Int32) (u0 s0 i : Nat) : pC S u0 s0 i < 4 := pCol_lt _ _ _
theorem pE_lt {S : Nat → Int32} {u0 s0 : Nat} (h : s0 < 2147483647) : ∀ i, pE S u0 s0 i < 2147483647
  | 0 => h
  | _ + 1 => pS_lt _
theorem pA_bd {nc : Nat → Nat} {S : Nat → Int32} {u0 s0 : Nat} (V : VS nc S) (h8 : u0 < 8) : ∀ i, (∀ j, j < i → 0 ≤ pA S u0 s0 j) → 0 ≤ pA S u0 s0 i → ∃ a, pA S u0 s0 i = nI a ∧ a + i ≤ u0
  | 0, _, _ => ⟨u0, rfl, by omega⟩
  | i + 1, h, h1 => by
    obtain ⟨a, ea, la⟩ := pA_bd V h8 i (fun j hj => h j (by omega)) (h i (by omega))
    have eU : pU S u0 s0 i = a := by unfold pU; rw [ea, nU_n (by omega)]
    have q := (V.1 a (by omega) (pC S u0 s0 i) (pC_lt _ _ _ _)).2.2.2
    rw [pA_s, eU] at h1 ⊢
    obtain ⟨b, hb, e⟩ := nI_of (Int32.not_lt.mpr h1)
    rw [e] at q ⊢
    have := (nI_ltI hb (by omega)).mp q
    exact ⟨b, rfl, by omega⟩
theorem pU_bd {nc : Nat → Nat} {S : Nat → Int32} {u0 s0 len : Nat} (V : VS nc S) (h8 : u0 < 8) (h : pOn S u0 s0 len) {i : Nat} (hi : i < len) : pA S u0 s0 i = nI (pU S u0 s0 i) ∧ pU S u0 s0 i + i ≤ u0 := by
  obtain ⟨a, ea, la⟩ := pA_bd V h8 i (fun j hj => (h j (by omega)).1) (h i hi).1
  have eU : pU S u0 s0 i = a := by unfold pU; rw [ea, nU_n (by omega)]
  rw [eU]
  exact ⟨ea, la⟩
theorem pOn_s {S : Nat → Int32} {u0 s0 len : Nat} (h : pOn S u0 s0 len) (h0 : 0 ≤ pA S u0 s0 len) (hg : pGo S u0 s0 len) : pOn S u0 s0 (len + 1) := by
  intro i hi
  rcases Nat.lt_succ_iff_lt_or_eq.mp hi with q | q
  · exact h i q
  · rw [q]; exact ⟨h0, hg⟩
theorem pOn_0 (S : Nat → Int32) (u0 s0 : Nat) : pOn S u0 s0 0 := fun _ h => absurd h (Nat.not_lt_zero _)
theorem pLen_le {S : Nat → Int32} {u0 s0 a b : Nat} (h : pLen S u0 s0 a) (k : pOn S u0 s0 b) : b ≤ a := by
  rcases Nat.lt_or_ge a b with q | q
  · exact absurd h.2 (Int32.not_lt.mpr (k a q).1)
  · exact q
theorem pLen_u {S : Nat → Int32} {u0 s0 a b : Nat} (h : pLen S u0 s0 a) (k : pLen S u0 s0 b) : a = b := by
  have h1 := pLen_le h k.1
  have h2 := pLen_le k h.1
  omega
theorem pLen_n {S : Nat → Int32} {u0 s0 a : Nat} (h : pLen S u0 s0 a) : ¬ pStk S u0 s0 := by
  rintro ⟨b, k, k0, kg⟩
  have h1 := pLen_le h k
  by_cases e : b = a
  · subst e
    exact absurd h.2 (Int32.not_lt.mpr k0)
  · exact kg (h.1 b (by omega)).2
-- which colour a number finds
theorem gsum_e {f g : Nat → Int32} : ∀ n, (∀ j, j < n → f j = g j) → gsum f n = gsum g n
  | 0, _ => rfl
  | n + 1, h => by
    show gsum f n + f n = gsum g n + g n
    rw [gsum_e n (fun j hj => h j (by omega)), h n (by omega)]
theorem gsum_4 (S : Nat → Int32) (u : Nat) : gsum (bS S u) 4 = sumS S u := by
  show 0 + bS S u 0 + bS S u 1 + bS S u 2 + bS S u 3 = _
  rw [Int32.zero_add]
  rfl
theorem gsum_n {S : Nat → Int32} {u n : Nat} (hn : n ≤ 4) (h : ∀ d, d < 4 → n ≤ d → bS S u d = 0) : gsum (bS S u) n = sumS S u := by
  rw [← gsum_4]
  show _ = 0 + bS S u 0 + bS S u 1 + bS S u 2 + bS S u 3
  rcases (show n = 0 ∨ n = 1 ∨ n = 2 ∨ n = 3 ∨ n = 4 by omega) with rfl | rfl | rfl | rfl | rfl
  · rw [h 0 (by omega) (by omega), h 1 (by omega) (by omega), h 2 (by omega) (by omega), h 3 (by omega) (by omega)]; rfl
  · rw [h 1 (by omega) (by omega), h 2 (by omega) (by omega), h 3 (by omega) (by omega), Int32.add_zero, Int32.add_zero, Int32.add_zero]; rfl
  · rw [h 2 (by omega) (by omega), h 3 (by omega) (by omega), Int32.add_zero, Int32.add_zero]; rfl
  · rw [h 3 (by omega) (by omega), Int32.add_zero]; rfl
  · rfl
theorem pCol_of {S : Nat → Int32} {u x k : Nat} (hk : k < 4) (h1 : ∀ j, j < k → ¬ nI x < gsum (bS S u) (j + 1)) (h2 : nI x < gsum (bS S u) (k + 1)) : k = pCol S u x := by
  unfold pCol
  rcases (show k = 0 ∨ k = 1 ∨ k = 2 ∨ k = 3 by omega) with rfl | rfl | rfl | rfl
  · rw [if_pos h2]
  · rw [if_neg (h1 0 (by omega)), if_pos h2]
  · rw [if_neg (h1 0 (by omega)), if_neg (h1 1 (by omega)), if_pos h2]
  · rw [if_neg (h1 0 (by omega)), if_neg (h1 1 (by omega)), if_neg (h1 2 (by omega))]
theorem VS_B2 {nc : Nat → Nat} {S : Nat → Int32} (V : VS nc S) {u : Nat} (hu : u < 8) : gB2 (bS S u) := fun d hd => (V.1 u hu d hd).1
theorem VS_sum {nc : Nat → Nat} {S : Nat → Int32} (V : VS nc S) {u : Nat} (hu : u < 8) : ∃ T : Nat, T ≤ 800 ∧ sumS S u = nI T ∧ (sumS S u).toInt.toNat = T := by
  obtain ⟨h1, h2, -⟩ := gB2_sum (VS_B2 V hu)
  have h1 : 0 ≤ (sumS S u).toInt := h1
  have h2 : (sumS S u).toInt ≤ 800 := h2
  exact ⟨(sumS S u).toInt.toNat, by omega, nIn _ h1, rfl⟩
theorem pN_lt {nc : Nat → Nat} {S : Nat → Int32} (V : VS nc S) {u s : Nat} (hu : u < 8) (h0 : ¬ sumS S u = 0) : nI (pN S u s) < sumS S u ∧ pN S u s < 800 := by
  obtain ⟨T, h1, h2, h3⟩ := VS_sum V hu
  have hT : 0 < T := by
    rcases Nat.eq_zero_or_pos T with e | e
    · rw [e] at h2; exact absurd h2 h0
    · exact e
  unfold pN
  rw [h3, h2]
  have := Nat.mod_lt (s / 16) hT
  exact ⟨(nI_ltI (by omega) (by omega)).mpr this, by omega⟩
-- the numbers, as the class and as the reference reckon them
theorem lseed {e : Nat} (h : e < 2147483647) : lN e * 48271 + 11 - (lN e * 48271 + 11) / 2147483647 * 2147483647 = lN (pS e) := by
  rw [show (48271 : Int64) = lN 48271 from rfl, show (11 : Int64) = lN 11 from rfl, show (2147483647 : Int64) = lN 2147483647 from rfl, lN_mul, lN_add, pk_lRem (by omega) (by decide) (by decide)]
  rfl
theorem lnum {s T : Nat} (h : s < 2147483647) (h0 : 0 < T) (hT : T ≤ 800) : (lN s / 16 - lN s / 16 / (nI T).toInt64 * (nI T).toInt64).toInt32 = nI (s / 16 % T) := by
  rw [nI_l (by omega), show (16 : Int64) = lN 16 from rfl, pk_lDiv (by omega) (by decide) (by decide), pk_lRem (by omega) h0 (by omega), lN_i]
theorem mseed {e : Nat} (h : e < 2147483647) : ((nI e).toInt64 * 48271 + 11 - ((nI e).toInt64 * 48271 + 11) / 2147483647 * 2147483647).toInt32 = nI (pS e) := by
  rw [nI_l (by omega), lseed h, lN_i]
theorem mnum {s T : Nat} (h : s < 2147483647) (h0 : 0 < T) (hT : T ≤ 800) : nI s / 16 - nI s / 16 / nI T * nI T = nI (s / 16 % T) := by
  rw [show (16 : Int32) = nI 16 from rfl, pk_div (by omega) (by decide) (by decide), pk_rem (by omega) h0 (by omega)]
-- the row after the first draws of a path
def pRow (S : Nat → Int32) (u0 s0 : Nat) : Nat → Nat → Int32
  | 0 => S
  | i + 1 => dS (pRow S u0 s0 i) (pU S u0 s0 i) (pC S u0 s0 i)
def pTold (S : Nat → Int32) (u0 s0 : Nat) : Nat → Int32
  | 0 => 1
  | i + 1 => pTold S u0 s0 i * 10 + nI (pC S u0 s0 i)
def pTab (σ : GS) (S : Nat → Int32) (u0 s0 len : Nat) : Prop := len ≤ 8 ∧ gN σ 32 = nI len ∧ gG σ 0 = lN (pE S u0 s0 len) ∧ ∀ i, i < len → gI σ 44 i = pA S u0 s0 i ∧ gI σ 45 i = nI (pC S u0 s0 i)
theorem pTab_s {s : GS} {S : Nat → Int32} {u0 s0 i k : Nat} (h : pTab s S u0 s0 i) (h8 : i < 8) (ek : k = pC S u0 s0 i) : pTab (uN (uI (uI (uG s 0 (lN (pS (pE S u0 s0 i)))) 44 (upd (gI s 44) i (pA S u0 s0 i))) 45 (upd (gI s 45) i (nI k))) 32 (nI (i + 1))) S u0 s0 (i + 1) := by
  obtain ⟨-, h2, h3, h4⟩ := h
  refine ⟨by omega, rfl, rfl, fun j hj => ?_⟩
  rw [gI_uN, gI_uI, if_neg (by decide), gI_uI, if_pos rfl, gI_uN, gI_uI, if_pos rfl]
  by_cases e : j = i
  · subst e
    rw [pk_us, pk_us, ek]
    exact ⟨rfl, rfl⟩
  · rw [pk_un e, pk_un e]
    exact h4 j (by omega)
theorem VS_seed {nc : Nat → Nat} {S : Nat → Int32} (V : VS nc S) : S 200 = nI (nU (S 200)) ∧ nU (S 200) < 2147483647 := by
  obtain ⟨-, -, h1, h2⟩ := V
  rw [Int32.le_iff_toInt_le] at h1
  rw [Int32.lt_iff_toInt_lt] at h2
  have e : (0 : Int32).toInt = 0 := by decide
  have e2 : (2147483647 : Int32).toInt = 2147483647 := by decide
  exact ⟨nIn _ (by omega), by unfold nU; omega⟩
theorem nI_np {T : Nat} (h : ¬ 0 < nI T) (hT : T ≤ 800) : T = 0 := by
  rcases Nat.eq_zero_or_pos T with e | e
  · exact e
  · exact absurd ((nI_ltI (by omega) (by omega)).mpr e) h
theorem nI_pp {T : Nat} (h : 0 < nI T) (hT : T ≤ 800) : 0 < T := (nI_ltI (a := 0) (by omega) (by omega)).mp h
theorem lT0 {T : Nat} (h : 0 < T) (hT : T ≤ 800) : ¬ (nI T).toInt64 = 0 := by
  rw [l_0, gi2l, nI_toInt (by omega)]
  omega
theorem KC_col {s : GS} {v : GV} (K : KC s v) (R : RV v) {a k n x : Nat} (ha : a < 8) (hn : vC v a = n + 1) (hk : k ≤ n) (h1 : ∀ j, j < k → ¬ nI x < gsum (gI s a) (j + 1)) (h2 : k < n → nI x < gsum (gI s a) (k + 1)) (hx : nI x < sumS (vS v) a) : k = pCol (vS v) a x := by
  have h4 := RV_n R ha
  have e : ∀ j, j < 4 → gsum (gI s a) (j + 1) = gsum (bS (vS v) a) (j + 1) := fun j hj => gsum_e _ (fun d hd => KC_b K ha (by omega))
  refine pCol_of (by omega) (fun j hj => by rw [← e j (by omega)]; exact h1 j hj) ?_
  by_cases q : k < n
  · rw [← e k (by omega)]; exact h2 q
  · have ek : k + 1 = vC v a := by omega
    rw [ek, gsum_n (S := vS v) (u := a) h4 (fun d hd hd2 => (R.2.2.1.1 a ha d hd).2.1 hd2)]
    exact hx
theorem pRd (s : GS) (y : Int64) (f g : Nat → Int32) (x : Int32) {a : Nat} (h : a < 8) : gI (uN (uI (uI (uG s 0 y) 44 f) 45 g) 32 x) (16 + a) = gI s (16 + a) := by
  rw [gI_uN, gI_uI, if_neg (by omega), gI_uI, if_neg (by omega), gI_uG]
