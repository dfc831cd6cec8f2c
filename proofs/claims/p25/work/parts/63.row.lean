-- the class's divisor, in at most 200 turns
def gEu (t x y : Nat) : Prop := t = 0 ∨ ∃ j, t = j + 1 ∧ y < x ∧ x * y * 2 ^ j ≤ 2 ^ 126
theorem gEu_s {t x y : Nat} (h : gEu t x y) (hy : 1 ≤ y) (hx2 : x < 9223372036854775808) (hy2 : y < 9223372036854775808) : gEu (t + 1) y (x % y) := by
  have hm : x % y < y := Nat.mod_lt _ hy
  rcases h with rfl | ⟨j, rfl, h1, h2⟩
  · refine Or.inr ⟨0, rfl, hm, ?_⟩
    rw [Nat.pow_zero, Nat.mul_one]
    have q : y * (x % y) ≤ 9223372036854775808 * 9223372036854775808 := Nat.mul_le_mul (by omega) (by omega)
    exact Nat.le_trans q (by decide)
  · refine Or.inr ⟨j + 1, rfl, hm, ?_⟩
    have e := Nat.div_add_mod x y
    have q1 : 1 ≤ x / y := Nat.div_pos (by omega) hy
    have q2 : y * 1 ≤ y * (x / y) := Nat.mul_le_mul_left _ q1
    have q3 : x % y * 2 ≤ x := by omega
    have q4 : y * (x % y * 2) ≤ y * x := Nat.mul_le_mul_left _ q3
    have q5 : y * (x % y * 2) * 2 ^ j ≤ y * x * 2 ^ j := Nat.mul_le_mul_right _ q4
    rw [Nat.pow_succ, show y * (x % y) * (2 ^ j * 2) = y * (x % y * 2) * 2 ^ j by rw [Nat.mul_comm (2 ^ j) 2, ← Nat.mul_assoc, ← Nat.mul_assoc]]
    rw [Nat.mul_comm y x] at q5
    exact Nat.le_trans q5 h2
theorem gEu_200 {x y : Nat} (h : gEu 200 x y) (hx : 1 ≤ x) : y = 0 := by
  rcases h with h | ⟨j, hj, h1, h2⟩
  · exact absurd h (by decide)
  · have ej : j = 199 := by omega
    subst ej
    rcases Nat.eq_zero_or_pos y with q | q
    · exact q
    · have q2 : 1 ≤ x * y := Nat.mul_pos hx q
      have q3 : 1 * 2 ^ 199 ≤ x * y * 2 ^ 199 := Nat.mul_le_mul_right _ q2
      exact absurd (Nat.le_trans q3 h2) (by decide)
theorem lN_1le {n : Nat} (h : 1 ≤ n) (h2 : n < 9223372036854775808) : 1 ≤ lN n := (pk_lLE (a := 1) (by decide) h2).mpr h
theorem lN_n1 {n : Nat} (h : 1 ≤ n) (h2 : n < 9223372036854775808) : ¬ lN n < 1 := Int64.not_lt.mpr (lN_1le h h2)
theorem lN_z {n : Nat} (h2 : n < 9223372036854775808) : lN n = 0 ↔ n = 0 := pk_lEQ (b := 0) h2 (by decide)
theorem gCm_N {a b : Nat} {r : Int64} (h : gCm (lN a) (lN b) r) (ha : a < 9223372036854775808) (hb : b < 9223372036854775808) : r = lN (Nat.gcd a b) := by
  have e := h.2.2 (by rw [pk_lT ha]; omega) (by rw [pk_lT hb]; omega)
  rw [pk_lT ha, pk_lT hb, Int.toNat_natCast, Int.toNat_natCast] at e
  have hg : Nat.gcd a b < 9223372036854775808 := by
    rcases Nat.eq_zero_or_pos a with q | q
    · rw [q, Nat.gcd_zero_left]; exact hb
    · exact Nat.lt_of_le_of_lt (Nat.le_of_dvd q (Nat.gcd_dvd_left a b)) ha
  rw [← Int64.toInt_inj, e, pk_lT hg]
-- one step of a chance, in lowest terms
def qS (a b m n : Nat) : Nat × Nat := (a / Nat.gcd a (n / Nat.gcd m n) * (m / Nat.gcd m n / Nat.gcd (m / Nat.gcd m n) b), b / Nat.gcd (m / Nat.gcd m n) b * (n / Nat.gcd m n / Nat.gcd a (n / Nat.gcd m n)))
/-- all that is asked of the numbers of a step -/
def qOk (a b m n : Nat) : Prop := (1 ≤ a ∧ a ≤ 1000000000000000000) ∧ (1 ≤ b ∧ b ≤ 1000000000000000000) ∧ (1 ≤ m ∧ m ≤ 200) ∧ (1 ≤ n ∧ n ≤ 800)
theorem gcd_1 {a b : Nat} (h : 1 ≤ a) : 1 ≤ Nat.gcd a b ∧ Nat.gcd a b ≤ a ∧ 1 ≤ a / Nat.gcd a b ∧ a / Nat.gcd a b ≤ a := by
  have h1 := Nat.gcd_pos_of_pos_left b h
  have h2 := Nat.le_of_dvd h (Nat.gcd_dvd_left a b)
  exact ⟨h1, h2, Nat.div_pos h2 h1, Nat.div_le_self _ _⟩
theorem gcd_2 {a b : Nat} (h : 1 ≤ b) : 1 ≤ Nat.gcd a b ∧ Nat.gcd a b ≤ b ∧ 1 ≤ b / Nat.gcd a b ∧ b / Nat.gcd a b ≤ b := by
  rw [Nat.gcd_comm]; exact gcd_1 h
def qM (m n : Nat) : Nat := m / Nat.gcd m n
def qL (m n : Nat) : Nat := n / Nat.gcd m n
theorem qM_b {a b m n : Nat} (h : qOk a b m n) : (1 ≤ Nat.gcd m n ∧ Nat.gcd m n ≤ 200) ∧ (1 ≤ qM m n ∧ qM m n ≤ 200) ∧ (1 ≤ qL m n ∧ qL m n ≤ 800) := by
  obtain ⟨-, -, ⟨h1, h2⟩, h3, h4⟩ := h
  have q1 := gcd_1 (b := n) h1
  have q2 := gcd_2 (a := m) h3
  unfold qM qL
  omega
theorem qS_b {a b m n : Nat} (h : qOk a b m n) : ((1 ≤ Nat.gcd a (qL m n) ∧ Nat.gcd a (qL m n) ≤ 800) ∧ (1 ≤ a / Nat.gcd a (qL m n) ∧ a / Nat.gcd a (qL m n) ≤ a) ∧ (1 ≤ qL m n / Nat.gcd a (qL m n) ∧ qL m n / Nat.gcd a (qL m n) ≤ 800)) ∧ ((1 ≤ Nat.gcd (qM m n) b ∧ Nat.gcd (qM m n) b ≤ 200) ∧ (1 ≤ b / Nat.gcd (qM m n) b ∧ b / Nat.gcd (qM m n) b ≤ b) ∧ (1 ≤ qM m n / Nat.gcd (qM m n) b ∧ qM m n / Nat.gcd (qM m n) b ≤ 200)) := by
  obtain ⟨p1, p2, p3⟩ := qM_b h
  obtain ⟨h1, h2, -, -⟩ := h
  have a1 := gcd_1 (b := qL m n) h1.1
  have a2 := gcd_2 (a := a) p3.1
  have a3 := gcd_1 (b := b) p2.1
  have a4 := gcd_2 (a := qM m n) h2.1
  omega
theorem hl_le {D F : Nat} (hD : D ≤ 1000000000000000000) (h1 : 1 ≤ F) (h2 : F ≤ 800) : lN D ≤ 1000000000000000000 / lN F ↔ D * F ≤ 1000000000000000000 := by
  rw [show (1000000000000000000 : Int64) = lN 1000000000000000000 from rfl, pk_lDiv (by decide) (by omega) (by omega), pk_lLE (by omega) (Nat.lt_of_le_of_lt (Nat.div_le_self _ _) (by decide)), Nat.le_div_iff_mul_le (by omega)]
theorem hl_lt {D F : Nat} (hD : D ≤ 1000000000000000000) (h1 : 1 ≤ F) (h2 : F ≤ 800) : 1000000000000000000 / lN F < lN D ↔ 1000000000000000000 < D * F := by
  have q := hl_le hD h1 h2
  constructor
  · intro h
    exact Nat.not_le.mp (fun z => Int64.not_le.mpr h (q.mpr z))
  · intro h
    exact Int64.not_le.mp (fun z => Nat.not_le.mpr h (q.mp z))
-- a row of draws
def qB (f t : Nat → Int32) (w : Nat) : Nat → Nat → Int32
  | 0 => f
  | i + 1 => gGw (qB f t w i) t (w / 4 ^ i % 4) 4
def qGo (f t : Nat → Int32) (w i : Nat) : Prop := gLet (qB f t w i) t (w / 4 ^ i % 4) 4
def qN (f t : Nat → Int32) (w i : Nat) : Nat := (qB f t w i (w / 4 ^ i % 4)).toInt.toNat
def qT (f t : Nat → Int32) (w i : Nat) : Nat := (qB f t w i 0 + qB f t w i 1 + qB f t w i 2 + qB f t w i 3).toInt.toNat
def qF (f t : Nat → Int32) (w : Nat) : Nat → Nat × Nat
  | 0 => (1, 1)
  | i + 1 => qS (qF f t w i).1 (qF f t w i).2 (qN f t w i) (qT f t w i)
def qBig (f t : Nat → Int32) (w i : Nat) : Prop := 1000000000000000000 < (qF f t w (i + 1)).1 ∨ 1000000000000000000 < (qF f t w (i + 1)).2
def qOn (f t : Nat → Int32) (w k : Nat) : Prop := ∀ i, i < k → qGo f t w i ∧ ¬ qBig f t w i
def qBigs (f t : Nat → Int32) (w k : Nat) : Prop := ∃ i, i < k ∧ qOn f t w i ∧ qGo f t w i ∧ qBig f t w i
def qStk (f t : Nat → Int32) (w k : Nat) : Prop := ∃ i, i < k ∧ qOn f t w i ∧ ¬ qGo f t w i
theorem qOn_0 (f t : Nat → Int32) (w : Nat) : qOn f t w 0 := fun _ h => absurd h (Nat.not_lt_zero _)
theorem qOn_s {f t : Nat → Int32} {w i : Nat} (h : qOn f t w i) (h1 : qGo f t w i) (h2 : ¬ qBig f t w i) : qOn f t w (i + 1) := fun j hj =>
  (Nat.lt_succ_iff_lt_or_eq.mp hj).elim (fun q => h j q) (fun q => by rw [q]; exact ⟨h1, h2⟩)
theorem qOn_n {f t : Nat → Int32} {w k : Nat} (h : qOn f t w k) : ¬ qBigs f t w k := fun ⟨i, hi, _, _, hb⟩ => (h i hi).2 hb
theorem qStk_n {f t : Nat → Int32} {w k : Nat} (h : qStk f t w k) : ¬ qBigs f t w k := by
  rintro ⟨i, hi, h1, h2, h3⟩
  obtain ⟨j, hj, k1, k2⟩ := h
  rcases Nat.lt_trichotomy i j with q | q | q
  · exact (k1 i q).2 h3
  · subst q; exact k2 h2
  · exact k2 (h1 j q).1
theorem qStk_no {f t : Nat → Int32} {w k : Nat} (h : qStk f t w k) : ¬ qOn f t w k := fun z => by
  obtain ⟨j, hj, k1, k2⟩ := h
  exact k2 (z j hj).1
theorem qB_2 {f t : Nat → Int32} {w : Nat} (hf : gB2 f) : ∀ i, qOn f t w i → gB2 (qB f t w i)
  | 0, _ => hf
  | i + 1, h => gB2_g (h i (by omega)).1
theorem qB_n {f : Nat → Int32} (h : gB2 f) {c : Nat} (hc : c < 4) (h0 : 0 < f c) : (f c = nI (f c).toInt.toNat ∧ 1 ≤ (f c).toInt.toNat ∧ (f c).toInt.toNat ≤ 200) ∧ (f 0 + f 1 + f 2 + f 3 = nI (f 0 + f 1 + f 2 + f 3).toInt.toNat ∧ 1 ≤ (f 0 + f 1 + f 2 + f 3).toInt.toNat ∧ (f 0 + f 1 + f 2 + f 3).toInt.toNat ≤ 800) := by
  obtain ⟨s1, s2, s3⟩ := gB2_sum h
  have a0 := h 0 (by omega)
  have a1 := h 1 (by omega)
  have a2 := h 2 (by omega)
  have a3 := h 3 (by omega)
  have ac := h c hc
  rw [Int32.le_iff_toInt_le, Int32.le_iff_toInt_le] at a0 a1 a2 a3 ac
  rw [Int32.lt_iff_toInt_lt] at h0
  have e0 : (0 : Int32).toInt = 0 := by decide
  have e2 : (200 : Int32).toInt = 200 := by decide
  rw [e0, e2] at a0 a1 a2 a3 ac
  rw [e0] at h0
  refine ⟨⟨nIn _ ac.1, by omega, by omega⟩, nIn _ s1, ?_, by omega⟩
  rcases (show c = 0 ∨ c = 1 ∨ c = 2 ∨ c = 3 by omega) with rfl | rfl | rfl | rfl <;> omega
theorem qF_b {f t : Nat → Int32} {w : Nat} (hf : gB2 f) : ∀ i, qOn f t w i → (1 ≤ (qF f t w i).1 ∧ (qF f t w i).1 ≤ 1000000000000000000) ∧ (1 ≤ (qF f t w i).2 ∧ (qF f t w i).2 ≤ 1000000000000000000)
  | 0, _ => ⟨⟨show 1 ≤ 1 by decide, show 1 ≤ 1000000000000000000 by decide⟩, show 1 ≤ 1 by decide, show 1 ≤ 1000000000000000000 by decide⟩
  | i + 1, h => by
    have h' : qOn f t w i := fun j hj => h j (by omega)
    obtain ⟨g, nb⟩ := h i (by omega)
    have ih := qF_b hf i h'
    have b := qB_n (qB_2 hf i h') (c := w / 4 ^ i % 4) (Nat.mod_lt _ (by decide)) g.1
    have ok : qOk (qF f t w i).1 (qF f t w i).2 (qN f t w i) (qT f t w i) := ⟨ih.1, ih.2, b.1.2, b.2.2⟩
    obtain ⟨⟨-, p2, p3⟩, -, p5, p6⟩ := qS_b ok
    exact ⟨⟨Nat.mul_pos p2.1 p6.1, Nat.not_lt.mp fun z => nb (Or.inl z)⟩, Nat.mul_pos p5.1 p3.1, Nat.not_lt.mp fun z => nb (Or.inr z)⟩
theorem qOk_at {f t : Nat → Int32} {w i : Nat} (hf : gB2 f) (h : qOn f t w i) (g : qGo f t w i) : qOk (qF f t w i).1 (qF f t w i).2 (qN f t w i) (qT f t w i) := by
  have ih := qF_b hf i h
  have b := qB_n (qB_2 hf i h) (c := w / 4 ^ i % 4) (Nat.mod_lt _ (by decide)) g.1
  exact ⟨ih.1, ih.2, b.1.2, b.2.2⟩
theorem qN_e {f t : Nat → Int32} {w i : Nat} (hf : gB2 f) (h : qOn f t w i) (g : qGo f t w i) : qB f t w i (w / 4 ^ i % 4) = nI (qN f t w i) ∧ qB f t w i 0 + qB f t w i 1 + qB f t w i 2 + qB f t w i 3 = nI (qT f t w i) := by
  have b := qB_n (qB_2 hf i h) (c := w / 4 ^ i % 4) (Nat.mod_lt _ (by decide)) g.1
  exact ⟨b.1.1, b.2.1⟩
/-- what colours there are not stays at nothing -/
theorem qB_z {f t : Nat → Int32} {w n : Nat} (hf : ∀ d, d < 4 → n ≤ d → f d = 0) (ht : ∀ c, c < 4 → ∀ d, d < 4 → n ≤ d → t (c * 4 + d) = 0) : ∀ i d, d < 4 → n ≤ d → qB f t w i d = 0
  | 0, d, hd, h => hf d hd h
  | i + 1, d, hd, h => by
    show gGw _ t _ 4 d = 0
    unfold gGw
    rw [if_pos hd, qB_z hf ht i d hd h, ht _ (Nat.mod_lt _ (by decide)) d hd h]
    rfl
theorem qC_let {s : GS} {v : GV} (K : KC s v) (R : RV v) {u w i : Nat} (hu : u < 8) (hb : ∀ j, j < 4 → gI s 46 j = qB (bS (vS v) u) (tS (vS v) u) w i j) : gLet (gI s 46) (gI s (8 + u)) (w / 4 ^ i % 4) (vC v u) ↔ qGo (bS (vS v) u) (tS (vS v) u) w i := by
  have hc : w / 4 ^ i % 4 < 4 := Nat.mod_lt _ (by decide)
  refine (gLet_e hb (fun d hd => KC_t K hu hd) hc (RV_n R hu)).trans (gLet_n (RV_n R hu) (fun d hd h => ⟨qB_z (n := vC v u) (fun d hd h => (R.2.2.1.1 u hu d hd).2.1 h) (fun c hc d hd h => (R.2.2.1.2.1 u hu c hc d hd).2 (Or.inr h)) i d hd h, (R.2.2.1.2.1 u hu _ hc d hd).2 (Or.inr h)⟩))
theorem qC_grow {s : GS} {v : GV} (K : KC s v) (R : RV v) {u w i : Nat} (hu : u < 8) (hb : ∀ j, j < 4 → gI s 46 j = qB (bS (vS v) u) (tS (vS v) u) w i j) (j : Nat) (hj : j < 4) : gGw (gI s 46) (gI s (8 + u)) (w / 4 ^ i % 4) (vC v u) j = qB (bS (vS v) u) (tS (vS v) u) w (i + 1) j := by
  have hc : w / 4 ^ i % 4 < 4 := Nat.mod_lt _ (by decide)
  show _ = gGw _ _ _ 4 j
  unfold gGw
  rw [if_pos hj, hb j hj]
  by_cases h : j < vC v u
  · rw [if_pos h, KC_t K hu (by omega)]
    rfl
  · rw [if_neg h, show tS (vS v) u (w / 4 ^ i % 4 * 4 + j) = 0 from (R.2.2.1.2.1 u hu _ hc j hj).2 (Or.inr (by omega)), Int32.add_zero]
theorem qM_let {s : GS} {v : GV} (K : KM s v) {u w i : Nat} (hu : u < 8) (hb : ∀ j, j < 4 → gI s 57 j = qB (bS (vS v) u) (tS (vS v) u) w i j) : gLet (gI s 57) (mT s u) (w / 4 ^ i % 4) 4 ↔ qGo (bS (vS v) u) (tS (vS v) u) w i :=
  gLet_e hb (fun d hd => K.2.2.1 _ (by omega)) (Nat.mod_lt _ (by decide)) (by omega)
theorem qM_grow {s : GS} {v : GV} (K : KM s v) {u w i : Nat} (hu : u < 8) (hb : ∀ j, j < 4 → gI s 57 j = qB (bS (vS v) u) (tS (vS v) u) w i j) (j : Nat) (hj : j < 4) : gGw (gI s 57) (mT s u) (w / 4 ^ i % 4) 4 j = qB (bS (vS v) u) (tS (vS v) u) w (i + 1) j := by
  have hc : w / 4 ^ i % 4 < 4 := Nat.mod_lt _ (by decide)
  show _ = gGw _ _ _ 4 j
  unfold gGw
  rw [if_pos hj, if_pos hj, hb j hj, show mT s u (w / 4 ^ i % 4 * 4 + j) = tS (vS v) u (w / 4 ^ i % 4 * 4 + j) from K.2.2.1 _ (by omega)]
-- chance
noncomputable def aChance (v : GV) (a0 a1 a2 : Int32) : Int32 := gIf ((okU v a0 ∧ gIx a1 13 ∧ 0 ≤ a2) ∧ ∀ i, i < nU a1 → gDig (nU a2) i < vC v (nU a0)) (gIf (0 < a1 ∧ sumS (vS v) (nU a0) = 0) (-2) (gIf (qBigs (bS (vS v) (nU a0)) (tS (vS v) (nU a0)) (nU a2) (nU a1)) (-6) 0)) (-1)
theorem aChance_at {v : GV} {u k w : Nat} (hu : u < vM v) (h8 : u < 8) (hk : k < 13) (hw : w < 2147483648) (h : ∀ i, i < k → gDig w i < vC v u) : aChance v (nI u) (nI k) (nI w) = gIf (0 < nI k ∧ sumS (vS v) u = 0) (-2) (gIf (qBigs (bS (vS v) u) (tS (vS v) u) w k) (-6) 0) := by
  unfold aChance
  rw [nU_n (show u < 2147483648 by omega), nU_n (show k < 2147483648 by omega), nU_n hw, gIf_t ⟨⟨okU_n hu, ⟨k, hk, rfl⟩, nI_pos' hw⟩, h⟩]
theorem qB_r {σ s1 : GS} {v : GV} (K : KM s1 v) {u w i : Nat} (hu : u < 8) (hb : ∀ j, j < 4 → gI s1 57 j = qB (bS (vS v) u) (tS (vS v) u) w i j) (hs : gSm σ s1) (j : Nat) (hj : j < 4) : gGw (gI s1 57) (mT σ u) (w / 4 ^ i % 4) 4 j = qB (bS (vS v) u) (tS (vS v) u) w (i + 1) j := by
  have q := qM_grow K hu hb j hj
  rw [mT_s hs] at q
  exact q
