-- division of longs, common divisors
theorem l_rem (x y : Int64) : (x - x / y * y).toInt = x.toInt.tmod y.toInt := by
  rw [Int64.toInt_sub, Int64.toInt_mul, Int64.toInt_div, Int.bmod_mul_bmod, Int.sub_bmod_bmod, Int.mul_comm, ← Int.tmod_def, ← Int64.toInt_mod]
  exact Int64.toInt_bmod _
theorem l_0 {x : Int64} : x = 0 ↔ x.toInt = 0 := by
  rw [← Int64.toInt_inj]
  exact Iff.rfl
theorem gCd_m (x : Int64) {y : Int64} (h : ¬ y = 0) : (x - x / y * y).toInt.natAbs < y.toInt.natAbs := by
  rw [l_rem, Int.natAbs_tmod]
  rw [l_0] at h
  exact Nat.mod_lt _ (by omega)
def gCd (x y a b : Int64) : Prop := (∀ d : Int, d ∣ x.toInt → d ∣ y.toInt → d ∣ a.toInt ∧ d ∣ b.toInt) ∧ (0 ≤ a.toInt → 0 ≤ b.toInt → 0 ≤ x.toInt ∧ 0 ≤ y.toInt ∧ Nat.gcd x.toInt.toNat y.toInt.toNat = Nat.gcd a.toInt.toNat b.toInt.toNat)
theorem gCd_r (a b : Int64) : gCd a b a b := ⟨fun _ h k => ⟨h, k⟩, fun h k => ⟨h, k, rfl⟩⟩
theorem gCd_s {x y a b : Int64} (h : gCd x y a b) : gCd y (x - x / y * y) a b := by
  refine ⟨fun d h1 h2 => h.1 d ?_ h1, fun ha hb => ?_⟩
  · rw [l_rem] at h2
    have e := Int.tmod_add_mul_tdiv x.toInt y.toInt
    rw [← e]
    exact Int.dvd_add h2 (Int.dvd_mul_of_dvd_left h1)
  · obtain ⟨h1, h2, h3⟩ := h.2 ha hb
    rw [l_rem]
    obtain ⟨m, em⟩ := Int.eq_ofNat_of_zero_le h1
    obtain ⟨n, en⟩ := Int.eq_ofNat_of_zero_le h2
    rw [em, en] at h3 ⊢
    rw [← Int.ofNat_tmod]
    refine ⟨by omega, by omega, ?_⟩
    rw [← h3]
    show Nat.gcd n (m % n) = Nat.gcd m n
    rw [Nat.gcd_comm m n, Nat.gcd_rec n m, Nat.gcd_comm]
def gCm (a b r : Int64) : Prop := (¬ a = 0 → ¬ r = 0 ∧ ¬ a / r = 0) ∧ (¬ b = 0 → ¬ r = 0 ∧ ¬ b / r = 0) ∧ (0 ≤ a.toInt → 0 ≤ b.toInt → r.toInt = Nat.gcd a.toInt.toNat b.toInt.toNat)
theorem l_dvd_ne {a r : Int64} (h : r.toInt ∣ a.toInt) (ha : ¬ a = 0) : ¬ r = 0 ∧ ¬ a / r = 0 := by
  rw [l_0] at ha
  obtain ⟨q, hq⟩ := h
  have hr : ¬ r.toInt = 0 := fun e => ha (by rw [hq, e, Int.zero_mul])
  refine ⟨fun e => hr (l_0.mp e), fun e => ?_⟩
  rw [l_0, Int64.toInt_div, hq, Int.mul_tdiv_cancel_left _ hr] at e
  have h1 := Int.dvd_of_bmod_eq_zero e
  have hq0 : ¬ q = 0 := fun e => ha (by rw [hq, e, Int.mul_zero])
  have h2 := Int.natAbs_dvd_natAbs.mpr h1
  have h3 := Nat.le_of_dvd (by omega) h2
  have h4 : q.natAbs ∣ a.toInt.natAbs := Int.natAbs_dvd_natAbs.mpr ⟨r.toInt, by rw [hq, Int.mul_comm]⟩
  have h5 := Nat.le_of_dvd (by omega) h4
  have h6 := Int64.le_toInt a
  have h7 := Int64.toInt_lt a
  omega
theorem gCm_e {x a b : Int64} (h : gCd x 0 a b) : gCm a b x := by
  have hd := h.1 x.toInt (Int.dvd_refl _) (Int.dvd_zero _)
  refine ⟨fun ha => l_dvd_ne hd.1 ha, fun hb => l_dvd_ne hd.2 hb, fun ha hb => ?_⟩
  obtain ⟨h1, h2, h3⟩ := h.2 ha hb
  have e : (0 : Int64).toInt.toNat = 0 := by decide
  rw [e, Nat.gcd_zero_right] at h3
  omega
theorem l_le1 {x : Int64} : 1 ≤ x ↔ 1 ≤ x.toInt := by
  rw [Int64.le_iff_toInt_le]
  exact Iff.rfl
theorem l_divp {a r : Int64} (ha : 1 ≤ a) (hr : 1 ≤ r) : (a / r).toInt = (a.toInt.toNat / r.toInt.toNat : Nat) := by
  rw [l_le1] at ha hr
  have h2 : ¬ r = -1 := fun e => by rw [e] at hr; exact absurd hr (by decide)
  rw [Int64.toInt_div_of_ne_right _ _ h2]
  obtain ⟨m, em⟩ := Int.eq_ofNat_of_zero_le (show 0 ≤ a.toInt by omega)
  obtain ⟨n, en⟩ := Int.eq_ofNat_of_zero_le (show 0 ≤ r.toInt by omega)
  rw [em, en]
  rfl
theorem gCm_pos {a b r : Int64} (h : gCm a b r) (ha : 1 ≤ a) (hb : 1 ≤ b) : 1 ≤ r ∧ 1 ≤ a / r ∧ 1 ≤ b / r ∧ a / r ≤ a ∧ b / r ≤ b := by
  have ha' := l_le1.mp ha
  have hb' := l_le1.mp hb
  have e := h.2.2 (by omega) (by omega)
  have hg : 0 < Nat.gcd a.toInt.toNat b.toInt.toNat := Nat.gcd_pos_of_pos_left _ (by omega)
  have hr : 1 ≤ r := l_le1.mpr (by omega)
  have en : r.toInt.toNat = Nat.gcd a.toInt.toNat b.toInt.toNat := by omega
  have ea := l_divp ha hr
  have eb := l_divp hb hr
  have la := Nat.le_of_dvd (by omega) (Nat.gcd_dvd_left a.toInt.toNat b.toInt.toNat)
  have lb := Nat.le_of_dvd (by omega) (Nat.gcd_dvd_right a.toInt.toNat b.toInt.toNat)
  rw [en] at ea eb
  have pa := Nat.div_pos la hg
  have pb := Nat.div_pos lb hg
  have da := Nat.div_le_self a.toInt.toNat (Nat.gcd a.toInt.toNat b.toInt.toNat)
  have db := Nat.div_le_self b.toInt.toNat (Nat.gcd a.toInt.toNat b.toInt.toNat)
  refine ⟨hr, l_le1.mpr (by omega), l_le1.mpr (by omega), ?_, ?_⟩
  · rw [Int64.le_iff_toInt_le]; omega
  · rw [Int64.le_iff_toInt_le]; omega
theorem l_mulle {x y k : Int64} (hx : 1 ≤ x) (hy : 1 ≤ y) (hk : 1 ≤ k) (h : x ≤ k / y) : 1 ≤ x * y ∧ x * y ≤ k ∧ (x * y).toInt = x.toInt * y.toInt := by
  have e := l_divp hk hy
  have hx' := l_le1.mp hx
  have hy' := l_le1.mp hy
  have hk' := l_le1.mp hk
  rw [Int64.le_iff_toInt_le, e] at h
  have h1 : x.toInt.toNat ≤ k.toInt.toNat / y.toInt.toNat := by omega
  have h2 : x.toInt.toNat * y.toInt.toNat ≤ k.toInt.toNat := (Nat.le_div_iff_mul_le (by omega)).mp h1
  have h3 : x.toInt * y.toInt = ((x.toInt.toNat * y.toInt.toNat : Nat) : Int) := by
    rw [Int.natCast_mul, Int.toNat_of_nonneg (by omega), Int.toNat_of_nonneg (by omega)]
  have h4 := Int64.toInt_lt k
  have h6 : 0 < x.toInt.toNat * y.toInt.toNat := Nat.mul_pos (by omega) (by omega)
  have h5 : (x * y).toInt = x.toInt * y.toInt := by
    rw [Int64.toInt_mul]
    exact Int.bmod_eq_of_le (by omega) (by omega)
  refine ⟨l_le1.mpr (by omega), ?_, h5⟩
  rw [Int64.le_iff_toInt_le]
  omega
-- a flag that gathers
def gAcc (b : Int32) (P : Prop) : Prop := (b = 1 ∧ P) ∨ (b = 0 ∧ ¬ P)
theorem gAcc_0 {b : Int32} {P Q : Prop} (h : gAcc b P) (h0 : b = 0) (i : Q → P) : gAcc 0 Q := by
  rcases h with ⟨e, -⟩ | ⟨-, h⟩
  · exact absurd (e.symm.trans h0) (by decide)
  · exact Or.inr ⟨rfl, fun q => h (i q)⟩
theorem gAcc_f {Q : Prop} (h : ¬ Q) : gAcc 0 Q := Or.inr ⟨rfl, h⟩
theorem gAcc_1 {b : Int32} {P Q : Prop} (h : gAcc b P) (h0 : ¬ b = 0) (i : P → Q) : gAcc 1 Q := by
  rcases h with ⟨-, h⟩ | ⟨e, -⟩
  · exact Or.inl ⟨rfl, i h⟩
  · exact absurd e h0
theorem gAcc_t {Q : Prop} (h : Q) : gAcc 1 Q := Or.inl ⟨rfl, h⟩
theorem gAcc_y {b : Int32} {P : Prop} (h : gAcc b P) (h0 : ¬ b = 0) : P := by
  rcases h with ⟨-, h⟩ | ⟨e, -⟩
  · exact h
  · exact absurd e h0
theorem gAcc_n {b : Int32} {P : Prop} (h : gAcc b P) (h0 : b = 0) : ¬ P := by
  rcases h with ⟨e, -⟩ | ⟨-, h⟩
  · exact absurd (e.symm.trans h0) (by decide)
  · exact h
theorem gAcc_i {b : Int32} {P Q : Prop} (h : gAcc b P) (i : P ↔ Q) : gAcc b Q := by
  rcases h with ⟨e, h⟩ | ⟨e, h⟩
  · exact Or.inl ⟨e, i.mp h⟩
  · exact Or.inr ⟨e, fun q => h (i.mpr q)⟩
-- the reference's urns
def mT (σ : GS) (u : Nat) : Nat → Int32 := fun j => gI σ 53 (25 * u + 4 + j)
def mB (σ : GS) (u : Nat) : Nat → Int32 := fun j => gI σ 53 (25 * u + j)
def gEv4 (t : Nat → Int32) (n : Nat) : Prop := ∀ c, c < n → 1 ≤ c → gGr t c 4 = gGr t 0 4
def gLk4 (t : Nat → Int32) (n : Nat) : Prop := (gEv4 t n ∧ 0 ≤ gGr t 0 4) ∧ ∀ c, c < 4 → ∀ d, d < 4 → (c = d ∨ t (c * 4 + d) = 0)
def gB2 (f : Nat → Int32) : Prop := ∀ d, d < 4 → 0 ≤ f d ∧ f d ≤ 200
theorem gin200 {x : Int32} : gInL x.toInt64 0 200 ↔ 0 ≤ x ∧ x ≤ 200 := by
  unfold gInL
  rw [Int64.le_iff_toInt_le, Int64.le_iff_toInt_le, gi2l, Int32.le_iff_toInt_le, Int32.le_iff_toInt_le]
  exact Iff.rfl
theorem gLet_s {f t : Nat → Int32} {c d : Nat} : gLet f t c (d + 1) ↔ gLet f t c d ∧ (0 ≤ f d + t (c * 4 + d) ∧ f d + t (c * 4 + d) ≤ 200) := by
  refine ⟨fun h => ⟨⟨h.1, fun e he => h.2 e (by omega)⟩, h.2 d (by omega)⟩, fun h => ⟨h.1.1, fun e he => ?_⟩⟩
  rcases Nat.lt_succ_iff_lt_or_eq.mp he with q | q
  · exact h.1.2 e q
  · rw [q]; exact h.2
theorem gB2_pos {f : Nat → Int32} (h : gB2 f) {c : Nat} (hc : c < 4) (h0 : 0 < f c) : 1 ≤ (f c).toInt64 ∧ 1 ≤ (f 0 + f 1 + f 2 + f 3).toInt64 ∧ (f 0 + f 1 + f 2 + f 3).toInt ≤ 800 ∧ (f 0 + f 1 + f 2 + f 3).toInt = (f 0).toInt + (f 1).toInt + (f 2).toInt + (f 3).toInt := by
  have h1 : ∀ d, d < 4 → 0 ≤ (f d).toInt ∧ (f d).toInt ≤ 200 := by
    intro d hd
    have := h d hd
    rw [Int32.le_iff_toInt_le, Int32.le_iff_toInt_le] at this
    exact this
  rw [Int32.lt_iff_toInt_lt] at h0
  have h0 : 0 < (f c).toInt := h0
  have a0 := h1 0 (by omega)
  have a1 := h1 1 (by omega)
  have a2 := h1 2 (by omega)
  have a3 := h1 3 (by omega)
  have e : (f 0 + f 1 + f 2 + f 3).toInt = (f 0).toInt + (f 1).toInt + (f 2).toInt + (f 3).toInt := by
    rw [Int32.toInt_add, Int32.toInt_add, Int32.toInt_add, Int.bmod_eq_of_le (n := (f 0).toInt + (f 1).toInt) (by omega) (by omega), Int.bmod_eq_of_le (n := (f 0).toInt + (f 1).toInt + (f 2).toInt) (by omega) (by omega), Int.bmod_eq_of_le (by omega) (by omega)]
  refine ⟨by rw [l_le1, gi2l]; omega, ?_, by omega, e⟩
  rw [l_le1, gi2l, e]
  rcases (show c = 0 ∨ c = 1 ∨ c = 2 ∨ c = 3 by omega) with rfl | rfl | rfl | rfl <;> omega
