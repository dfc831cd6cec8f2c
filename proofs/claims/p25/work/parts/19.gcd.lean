-- division of longs, common divisors
theorem l_rem (x y : Int64) : (x - x / y * y).toInt = x.toInt.tmod y.toInt := by
  rw [Int64.toInt_sub, Int64.toInt_mul, Int64.toInt_div, Int.bmod_mul_bmod, Int.sub_bmod_bmod, Int.mul_comm, ← Int.tmod_def, ← Int64.toInt_mod]
  exact Int64.toInt_bmod _
theorem l_0 {x : Int64} : x = 0 ↔ x.toInt = 0 := by
  rw [← Int64.toInt_inj]
  exact Iff.rfl
theorem gCd_m (x : Int64) {y : Int64} (h : ¬ y = 0) : (x - x / y * y).toInt.natAbs < y.toInt.natAbs := by
  rw [l_rem, Int.natAbs_tmod]
  rw [l_0] at h
  exact Nat.mod_lt _ (by omega)
def gCd (x y a b : Int64) : Prop := (∀ d : Int, d ∣ x.toInt → d ∣ y.toInt → d ∣ a.toInt ∧ d ∣ b.toInt) ∧ (0 ≤ a.toInt → 0 ≤ b.toInt → 0 ≤ x.toInt ∧ 0 ≤ y.toInt ∧ Nat.gcd x.toInt.toNat y.toInt.toNat = Nat.gcd a.toInt.toNat b.toInt.toNat)
theorem gCd_r (a b : Int64) : gCd a b a b := ⟨fun _ h k => ⟨h, k⟩, fun h k => ⟨h, k, rfl⟩⟩
theorem gCd_s {x y a b : Int64} (h : gCd x y a b) : gCd y (x - x / y * y) a b := by
  refine ⟨fun d h1 h2 => h.1 d ?_ h1, fun ha hb => ?_⟩
  · rw [l_rem] at h2
    have e := Int.tmod_add_mul_tdiv x.toInt y.toInt
    rw [← e]
    exact Int.dvd_add h2 (Int.dvd_mul_of_dvd_left h1)
  · obtain ⟨h1, h2, h3⟩ := h.2 ha hb
    rw [l_rem]
    obtain ⟨m, em⟩ := Int.eq_ofNat_of_zero_le h1
    obtain ⟨n, en⟩ := Int.eq_ofNat_of_zero_le h2
    rw [em, en] at h3 ⊢
    rw [← Int.ofNat_tmod]
    refine ⟨by omega, by omega, ?_⟩
    rw [← h3]
    show Nat.gcd n (m % n) = Nat.gcd m n
    rw [Nat.gcd_comm m n, Nat.gcd_rec n m, Nat.gcd_comm]
def gCm (a b r : Int64) : Prop := (¬ a = 0 → ¬ r = 0 ∧ ¬ a / r = 0) ∧ (¬ b = 0 → ¬ r = 0 ∧ ¬ b / r = 0) ∧ (0 ≤ a.toInt → 0 ≤ b.toInt → r.toInt = Nat.gcd a.toInt.toNat b.toInt.toNat)
theorem l_dvd_ne {a r : Int64} (h : r.toInt ∣ a.toInt) (ha : ¬ a = 0) : ¬ r = 0 ∧ ¬ a / r = 0 := by
  rw [l_0] at ha
  obtain ⟨q, hq⟩ := h
  have hr : ¬ r.toInt = 0 := fun e => ha (by rw [hq, e, Int.zero_mul])
  refine ⟨fun e => hr (l_0.mp e), fun e => ?_⟩
  rw [l_0, Int64.toInt_div, hq, Int.mul_tdiv_cancel_left _ hr] at e
  have h1 := Int.dvd_of_bmod_eq_zero e
  have hq0 : ¬ q = 0 := fun e => ha (by rw [hq, e, Int.mul_zero])
  have h2 := Int.natAbs_dvd_natAbs.mpr h1
  have h3 := Nat.le_of_dvd (by omega) h2
  have h4 : q.natAbs ∣ a.toInt.natAbs := Int.natAbs_dvd_natAbs.mpr ⟨r.toInt, by rw [hq, Int.mul_comm]⟩
  have h5 := Nat.le_of_dvd (by omega) h4
  have h6 := Int64.le_toInt a
  have h7 := Int64.toInt_lt a
  omega
theorem gCm_e {x a b : Int64} (h : gCd x 0 a b) : gCm a b x := by
  have hd := h.1 x.toInt (Int.dvd_refl _) (Int.dvd_zero _)
  refine ⟨fun ha => l_dvd_ne hd.1 ha, fun hb => l_dvd_ne hd.2 hb, fun ha hb => ?_⟩
  obtain ⟨h1, h2, h3⟩ := h.2 ha hb
  have e : (0 : Int64).toInt.toNat = 0 := by decide
  rw [e, Nat.gcd_zero_right] at h3
  omega
theorem l_le1 {x : Int64} : 1 ≤ x ↔ 1 ≤ x.toInt := by
  rw [Int64.le_iff_toInt_le]
  exact Iff.rfl
theorem l_divp {a r : Int64} (ha : 1 ≤ a) (hr : 1 ≤ r) : (a / r).toInt = (a.toInt.toNat / r.toInt.toNat : Nat) := by
  rw [l_le1] at ha hr
  have h2 : ¬ r = -1 := fun e => by rw [e] at hr; exact absurd hr (by decide)
  rw [Int64.toInt_div_of_ne_right _ _ h2]
  obtain ⟨m, em⟩ := Int.eq_ofNat_of_zero_le (show 0 ≤ a.toInt by omega)
  obtain ⟨n, en⟩ := Int.eq_ofNat_of_zero_le (show 0 ≤ r.toInt by omega)
  rw [em, en]
  rfl
theorem gCm_pos {a b r : Int64} (h : gCm a b r) (ha : 1 ≤ a) (hb : 1 ≤ b) : 1 ≤ r ∧ 1 ≤ a / r ∧ 1 ≤ b / r ∧ a / r ≤ a ∧ b / r ≤ b := by
  have ha' := l_le1.mp ha
  have hb' := l_le1.mp hb
  have e := h.2.2 (by omega) (by omega)
  have hg : 0 < Nat.gcd a.toInt.toNat b.toInt.toNat := Nat.gcd_pos_of_pos_left _ (by omega)
  have hr : 1 ≤ r := l_le1.mpr (by omega)
  have en : r.toInt.toNat = Nat.gcd a.toInt.toNat b.toInt.toNat := by omega
  have ea := l_divp ha hr
  have eb := l_divp hb hr
  have la := Nat.le_of_dvd (by omega) (Nat.gcd_dvd_left a.toInt.toNat b.toInt.toNat)
  have lb := Nat.le_of_dvd (by omega) (Nat.gcd_dvd_right a.toInt.toNat b.toInt.toNat)
  rw [en] at ea eb
  have pa := Nat.div_pos la hg
  have pb := Nat.div_pos lb hg
  have da := Nat.div_le_self a.toInt.toNat (Nat.gcd a.toInt.toNat b.toInt.toNat)
  have db := Nat.div_le_self b.toInt.toNat (Nat.gcd a.toInt.toNat b.toInt.toNat)
  refine ⟨hr, l_le1.mpr (by omega), l_le1.mpr (by omega), ?_, ?_⟩
  · rw [Int64.le_iff_toInt_le]; omega
  · rw [Int64.le_iff_toInt_le]; omega
theorem l_mulle {x y k : Int64} (hx : 1 ≤ x) (hy : 1 ≤ y) (hk : 1 ≤ k) (h : x ≤ k / y) : 1 ≤ x * y ∧ x * y ≤ k ∧ (x * y).toInt = x.toInt * y.toInt := by
  have e := l_divp hk hy
  have hx' := l_le1.mp hx
  have hy' := l_le1.mp hy
  have hk' := l_le1.mp hk
  rw [Int64.le_iff_toInt_le, e] at h
  have h1 : x.toInt.toNat ≤ k.toInt.toNat / y.toInt.toNat := by omega
  have h2 : x.toInt.toNat * y.toInt.toNat ≤ k.toInt.toNat := (Nat.le_div_iff_mul_le (by omega)).mp h1
  have h3 : x.toInt * y.toInt = ((x.toInt.toNat * y.toInt.toNat : Nat) : Int) := by
    rw [Int.natCast_mul, Int.toNat_of_nonneg (by omega), Int.toNat_of_nonneg (by omega)]
  have h4 := Int64.toInt_lt k
  have h6 : 0 < x.toInt.toNat * y.toInt.toNat := Nat.mul_pos (by omega) (by omega)
  have h5 : (x * y).toInt = x.toInt * y.toInt := by
    rw [Int64.toInt_mul]
    exact Int.bmod_eq_of_le (by omega) (by omega)
  refine ⟨l_le1.mpr (by omega), ?_, h5⟩
  rw [Int64.le_iff_toInt_le]
  omega
-- a flag that gathers
def gAcc (b : Int32) (P : Prop) : Prop := (b = 1 ∧ P) ∨ (b = 0 ∧ ¬ P)
theorem gAcc_0 {b : Int32} {P Q : Prop} (h : gAcc b P) (h0 : b = 0) (i : Q → P) : gAcc 0 Q := by
  rcases h with ⟨e, -⟩ | ⟨-, h⟩
  · exact absurd (e.symm.trans h0) (by decide)
  · exact Or.inr ⟨rfl, fun q => h (i q)⟩
theorem gAcc_f {Q : Prop} (h : ¬ Q) : gAcc 0 Q := Or.inr ⟨rfl, h⟩
theorem gAcc_1 {b : Int32} {P Q : Prop} (h : gAcc b P) (h0 : ¬ b = 0) (i : P → Q) : gAcc 1 Q := by
  rcases h with ⟨-, h⟩ | ⟨e, -⟩
  · exact Or.inl ⟨rfl, i h⟩
  · exact absurd e h0
theorem gAcc_t {Q : Prop} (h : Q) : gAcc 1 Q := Or.inl ⟨rfl, h⟩
theorem gAcc_y {b : Int32} {P : Prop} (h : gAcc b P) (h0 : ¬ b = 0) : P := by
  rcases h with ⟨-, h⟩ | ⟨e, -⟩
  · exact h
  · exact absurd e h0
theorem gAcc_n {b : Int32} {P : Prop} (h : gAcc b P) (h0 : b = 0) : ¬ P := by
  rcases h with ⟨e, -⟩ | ⟨-, h⟩
  · exact absurd (e.symm.trans h0) (by decide)
  · exact h
theorem gAcc_i {b : Int32} {P Q : Prop} (h : gAcc b P) (i : P ↔ Q) : gAcc b Q := by
  rcases h with ⟨e, h⟩ | ⟨e, h⟩
  · exact Or.inl ⟨e, i.mp h⟩
  · exact Or.inr ⟨e, fun q => h (i.mpr q)⟩
-- the reference's urns
def mT (σ : GS) (u : Nat) : Nat → Int32 := fun j => gI σ 53 (25 * u + 4 + j)
def mB (σ : GS) (u : Nat) : Nat → Int32 := fun j => gI σ 53 (25 * u + j)
def gEv4 (t : Nat → Int32) (n : Nat) : Prop := ∀ c, c < n → 1 ≤ c → gGr t c 4 = gGr t 0 4
def gLk4 (t : Nat → Int32) (n : Nat) : Prop := (gEv4 t n ∧ 0 ≤ gGr t 0 4) ∧ ∀ c, c < 4 → ∀ d, d < 4 → (c = d ∨ t (c * 4 + d) = 0)
def gB2 (f : Nat → Int32) : Prop := ∀ d, d < 4 → 0 ≤ f d ∧ f d ≤ 200
theorem gin200 {x : Int32} : gInL x.toInt64 0 200 ↔ 0 ≤ x ∧ x ≤ 200 := by
  unfold gInL
  rw [Int64.le_iff_toInt_le, Int64.le_iff_toInt_le, gi2l, Int32.le_iff_toInt_le, Int32.le_iff_toInt_le]
  exact Iff.rfl
theorem gLet_s {f t : Nat → Int32} {c d : Nat} : gLet f t c (d + 1) ↔ gLet f t c d ∧ (0 ≤ f d + t (c * 4 + d) ∧ f d + t (c * 4 + d) ≤ 200) := by
  refine ⟨fun h => ⟨⟨h.1, fun e he => h.2 e (by omega)⟩, h.2 d (by omega)⟩, fun h => ⟨h.1.1, fun e he => ?_⟩⟩
  rcases Nat.lt_succ_iff_lt_or_eq.mp he with q | q
  · exact h.1.2 e q
  · rw [q]; exact h.2
theorem gB2_pos {f : Nat → Int32} (h : gB2 f) {c : Nat} (hc : c < 4) (h0 : 0 < f c) : 1 ≤ (f c).toInt64 ∧ 1 ≤ (f 0 + f 1 + f 2 + f 3).toInt64 ∧ (f 0 + f 1 + f 2 + f 3).toInt ≤ 800 ∧ (f 0 + f 1 + f 2 + f 3).toInt = (f 0).toInt + (f 1).toInt + (f 2).toInt + (f 3).toInt := by
  have h1 : ∀ d, d < 4 → 0 ≤ (f d).toInt ∧ (f d).toInt ≤ 200 := by
    intro d hd
    have := h d hd
    rw [Int32.le_iff_toInt_le, Int32.le_iff_toInt_le] at this
    exact this
  rw [Int32.lt_iff_toInt_lt] at h0
  have h0 : 0 < (f c).toInt := h0
  have a0 := h1 0 (by omega)
  have a1 := h1 1 (by omega)
  have a2 := h1 2 (by omega)
  have a3 := h1 3 (by omega)
  have e : (f 0 + f 1 + f 2 + f 3).toInt = (f 0).toInt + (f 1).toInt + (f 2).toInt + (f 3).toInt := by
    rw [Int32.toInt_add, Int32.toInt_add, Int32.toInt_add, Int.bmod_eq_of_le (n := (f 0).toInt + (f 1).toInt) (by omega) (by omega), Int.bmod_eq_of_le (n := (f 0).toInt + (f 1).toInt + (f 2).toInt) (by omega) (by omega), Int.bmod_eq_of_le (by omega) (by omega)]
  refine ⟨by rw [l_le1, gi2l]; omega, ?_, by omega, e⟩
  rw [l_le1, gi2l, e]
  rcases (show c = 0 ∨ c = 1 ∨ c = 2 ∨ c = 3 by omega) with rfl | rfl | rfl | rfl <;> omega
theorem mB_s {σ s : GS} (h : gSm σ s) (u : Nat) : mB s u = mB σ u := by
  unfold mB
  rw [gSm_i h (by omega)]
theorem mT_s {σ s : GS} (h : gSm σ s) (u : Nat) : mT s u = mT σ u := by
  unfold mT
  rw [gSm_i h (by omega)]
theorem gand3 {x : Nat} (h : x < 2147483648) : nI x &&& 3 = nI (x % 4) := pk_andN (by omega) 2 (by decide)
theorem gand1 {x : Nat} (h : x < 2147483648) : nI x &&& 1 = nI (x % 2) := pk_andN (by omega) 1 (by decide)
theorem gshr2 {x : Nat} (h : x < 2147483648) : nI x >>> (2 &&& 31) = nI (x / 4) := pk_shrN h _ 2 (by decide)
theorem gshrk {j k : Nat} (hj : j < 2147483648) (hk : k ≤ 12) : nI j >>> ((2 * nI k) &&& 31) = nI (j / 4 ^ k) := by
  have e : ∀ k, k < 13 → (((2 * nI k) &&& 31 : Int32).toBitVec.smod 32).toNat = 2 * k := by decide
  rw [pk_shrN hj _ (2 * k) (e k (by omega)), Nat.pow_mul]
theorem gshl5 {n : Nat} (h : n ≤ 5) : (1 : Int32) <<< ((2 * nI n) &&& 31) = nI (4 ^ n) := by
  have e : ∀ n, n < 6 → (1 : Int32) <<< ((2 * nI n) &&& 31) = nI (4 ^ n) := by decide
  exact e n (by omega)
theorem gfilI {f h : Nat → Int32} {j : Nat} {v : Int32} (hf : ∀ i, i < j → f i = h i) (e : v = h j) {i : Nat} (hi : i < j + 1) : upd f j v i = h i := by
  by_cases q : i = j
  · subst q
    rw [pk_us]
    exact e
  · rw [pk_un q]
    exact hf i (by omega)
theorem gpos64 {x : Int32} (h : ¬ x.toInt64 ≤ 0) : 0 < x := by
  rw [Int64.le_iff_toInt_le, gi2l] at h
  rw [Int32.lt_iff_toInt_lt]
  have e : (0 : Int64).toInt = 0 := by decide
  have e2 : (0 : Int32).toInt = 0 := by decide
  omega
theorem gneg64 {x : Int32} (h : x.toInt64 ≤ 0) : ¬ 0 < x := by
  rw [Int64.le_iff_toInt_le, gi2l] at h
  rw [Int32.lt_iff_toInt_lt]
  have e : (0 : Int64).toInt = 0 := by decide
  have e2 : (0 : Int32).toInt = 0 := by decide
  omega
theorem gLet_0 {f t : Nat → Int32} {c : Nat} : gLet f t c 0 ↔ 0 < f c := ⟨fun h => h.1, fun h => ⟨h, fun _ z => absurd z (Nat.not_lt_zero _)⟩⟩
theorem gGw_at (f t : Nat → Int32) (c d : Nat) : gGw f t c (d + 1) d = f d + t (c * 4 + d) := if_pos (Nat.lt_succ_self d)
theorem gB2_g {f t : Nat → Int32} {c : Nat} (h : gLet f t c 4) : gB2 (gGw f t c 4) := by
  intro d hd
  rw [show gGw f t c 4 d = f d + t (c * 4 + d) from if_pos hd]
  exact h.2 d hd
theorem l_1le {x : Int64} (h : ¬ x ≤ 0) : 1 ≤ x := by
  rw [Int64.le_iff_toInt_le] at h
  rw [l_le1]
  have e : (0 : Int64).toInt = 0 := by decide
  omega
def gmo (c : Nat) : Nat := if c = 0 then 1 else if c = 1 then 13 else if c = 2 then 169 else 0
theorem gmo_le (c : Nat) : gmo c ≤ 169 := by
  unfold gmo
  split
  · omega
  · split
    · omega
    · split <;> omega
theorem gmo0 {c p : Nat} (hc : c < 4) (h : nI c = 0) : nI p + 1 = nI (p + gmo c) := by
  have e : c = 0 := (nI_eq (by omega) (by omega)).mp h
  subst e
  exact nI_add p 1
theorem gmo1 {c p : Nat} (hc : c < 4) (h : nI c = 1) : nI p + 13 = nI (p + gmo c) := by
  have e : c = 1 := (nI_eq (by omega) (by omega)).mp h
  subst e
  exact nI_add p 13
theorem gmo2 {c p : Nat} (hc : c < 4) (h : nI c = 2) : nI p + 169 = nI (p + gmo c) := by
  have e : c = 2 := (nI_eq (by omega) (by omega)).mp h
  subst e
  exact nI_add p 169
theorem gmo3 {c p : Nat} (hc : c < 4) (h0 : ¬ nI c = 0) (h1 : ¬ nI c = 1) (h2 : ¬ nI c = 2) : nI p = nI (p + gmo c) := by
  have e0 : ¬ c = 0 := fun e => h0 (by rw [e]; rfl)
  have e1 : ¬ c = 1 := fun e => h1 (by rw [e]; rfl)
  have e2 : ¬ c = 2 := fun e => h2 (by rw [e]; rfl)
  have e : c = 3 := by omega
  subst e
  rfl
-- which weights are there
def gWi (L : Nat → Int64) (r b : Nat) : Prop := ∀ q, q < 2197 → ¬ L (2197 * (r % 2) + q) = 0 → q ≤ 169 * b
theorem gWi_u {L : Nat → Int64} {k q : Nat} {x : Int64} (h1 : gWi L k k) (h2 : gWi L (k + 1) (k + 1)) (hq : q < 2197) (hq2 : q ≤ 169 * (k + 1)) : gWi (vp_updL L (2197 * ((k + 1) % 2) + q) x) k k ∧ gWi (vp_updL L (2197 * ((k + 1) % 2) + q) x) (k + 1) (k + 1) := by
  refine ⟨fun z hz hn => ?_, fun z hz hn => ?_⟩
  · rw [pk_uLn (by omega)] at hn
    exact h1 z hz hn
  · by_cases e : z = q
    · rw [e]; exact hq2
    · rw [pk_uLn (by omega)] at hn
      exact h2 z hz hn
theorem gWi_0 {f : Nat → Int64} (hf : ∀ z, z < 4394 → f z = 0) : gWi (vp_updL f 0 1) 0 0 := by
  intro q hq hn
  by_cases e : q = 0
  · omega
  · rw [pk_uLn (by omega)] at hn
    exact absurd (hf _ (by omega)) hn
theorem gWi_a {f L : Nat → Int64} {r : Nat} (h : gWi L r r) (hg : ∀ z, z < 2197 → f (2197 * (r % 2) + z) = L (2197 * (r % 2) + z)) : gWi f r r := fun q hq hn => h q hq (by rw [← hg q hq]; exact hn)
theorem gWi_b {f : Nat → Int64} {r b : Nat} (hf : ∀ z, z < 2197 → f (2197 * (r % 2) + z) = 0) : gWi f r b := fun q hq hn => absurd (hf q hq) hn
theorem gclr1 {f : Nat → Int64} {r q : Nat} (hf : ∀ z, z < q → f (2197 * ((r + 1) % 2) + z) = 0) {z : Nat} (h : z < q + 1) : vp_updL f (2197 * ((r + 1) % 2) + q) 0 (2197 * ((r + 1) % 2) + z) = 0 := gfil hf h
theorem gclr2 {f L : Nat → Int64} {r q : Nat} (hq : q < 2197) (hg : ∀ z, z < 2197 → f (2197 * (r % 2) + z) = L (2197 * (r % 2) + z)) {z : Nat} (h : z < 2197) : vp_updL f (2197 * ((r + 1) % 2) + q) 0 (2197 * (r % 2) + z) = L (2197 * (r % 2) + z) := (pk_uLn (by omega)).trans (hg z h)
theorem gin13 {x : Int32} {a b : Int64} {m : Nat} (ha : a.toInt = 1) (hb : b.toInt = (m : Int)) (hm : m < 1000) (h : gInL x.toInt64 a b) : ∃ k : Nat, 1 ≤ k ∧ k ≤ m ∧ x = nI k := by
  obtain ⟨h1, h2⟩ := h
  rw [Int64.le_iff_toInt_le, gi2l] at h1 h2
  exact ⟨x.toInt.toNat, by omega, by omega, nIn x (by omega)⟩
theorem gin_j {i j : Int32} {a b : Int64} (ha : a.toInt = 1) (hb : b.toInt = 12) (h1 : gInL i.toInt64 a b) (h2 : gInL j.toInt64 (i + 1).toInt64 b) : ∃ i1 j1 : Nat, 1 ≤ i1 ∧ i1 < j1 ∧ j1 ≤ 12 ∧ i = nI i1 ∧ j = nI j1 := by
  obtain ⟨k, a1, a2, rfl⟩ := gin13 (m := 12) ha hb (by decide) h1
  obtain ⟨h3, h4⟩ := h2
  rw [show nI k + 1 = nI (k + 1) from nI_1 k, Int64.le_iff_toInt_le, gi2l, gi2l, nI_toInt (by omega)] at h3
  rw [Int64.le_iff_toInt_le, gi2l] at h4
  exact ⟨k, j.toInt.toNat, a1, by omega, by omega, rfl, nIn j (by omega)⟩
def gNT9 (t : Nat → Int32) : Prop := ∀ j, j < 16 → -9 ≤ t j ∧ t j ≤ 9
theorem gNT9_s {t : Nat → Int32} (h : gNT9 t) {c : Nat} (hc : c < 4) : -36 ≤ (gGr t c 4).toInt ∧ (gGr t c 4).toInt ≤ 36 := by
  have h1 : ∀ d, d < 4 → -9 ≤ (t (c * 4 + d)).toInt ∧ (t (c * 4 + d)).toInt ≤ 9 := by
    intro d hd
    have q := h (c * 4 + d) (by omega)
    rw [Int32.le_iff_toInt_le, Int32.le_iff_toInt_le] at q
    exact q
  have a0 := h1 0 (by omega)
  have a1 := h1 1 (by omega)
  have a2 := h1 2 (by omega)
  have a3 := h1 3 (by omega)
  show -36 ≤ (0 + t (c * 4 + 0) + t (c * 4 + 1) + t (c * 4 + 2) + t (c * 4 + 3)).toInt ∧ (0 + t (c * 4 + 0) + t (c * 4 + 1) + t (c * 4 + 2) + t (c * 4 + 3)).toInt ≤ 36
  have e0 : (0 : Int32).toInt = 0 := by decide
  rw [Int32.toInt_add, Int32.toInt_add, Int32.toInt_add, Int32.toInt_add, e0, Int.bmod_eq_of_le (n := 0 + (t (c * 4 + 0)).toInt) (by omega) (by omega), Int.bmod_eq_of_le (n := 0 + (t (c * 4 + 0)).toInt + (t (c * 4 + 1)).toInt) (by omega) (by omega), Int.bmod_eq_of_le (n := 0 + (t (c * 4 + 0)).toInt + (t (c * 4 + 1)).toInt + (t (c * 4 + 2)).toInt) (by omega) (by omega), Int.bmod_eq_of_le (by omega) (by omega)]
  omega
theorem gB2_sum {f : Nat → Int32} (h : gB2 f) : 0 ≤ (f 0 + f 1 + f 2 + f 3).toInt ∧ (f 0 + f 1 + f 2 + f 3).toInt ≤ 800 ∧ (f 0 + f 1 + f 2 + f 3).toInt = (f 0).toInt + (f 1).toInt + (f 2).toInt + (f 3).toInt := by
  have h1 : ∀ d, d < 4 → 0 ≤ (f d).toInt ∧ (f d).toInt ≤ 200 := by
    intro d hd
    have := h d hd
    rw [Int32.le_iff_toInt_le, Int32.le_iff_toInt_le] at this
    exact this
  have a0 := h1 0 (by omega)
  have a1 := h1 1 (by omega)
  have a2 := h1 2 (by omega)
  have a3 := h1 3 (by omega)
  have e : (f 0 + f 1 + f 2 + f 3).toInt = (f 0).toInt + (f 1).toInt + (f 2).toInt + (f 3).toInt := by
    rw [Int32.toInt_add, Int32.toInt_add, Int32.toInt_add, Int.bmod_eq_of_le (n := (f 0).toInt + (f 1).toInt) (by omega) (by omega), Int.bmod_eq_of_le (n := (f 0).toInt + (f 1).toInt + (f 2).toInt) (by omega) (by omega), Int.bmod_eq_of_le (by omega) (by omega)]
  exact ⟨by omega, by omega, e⟩
/-- one step of the product in share -/
theorem gshr_s {y : Int64} {i : Nat} {B s : Int32} (hi : i < 4) (h1 : 1 ≤ y.toInt) (h2 : y.toInt ≤ ((1000 ^ i : Nat) : Int)) (hB : 0 ≤ B.toInt) (hB2 : B.toInt ≤ 800) (hB0 : ¬ B = 0) (hs : 0 ≤ s) (hs2 : s.toInt ≤ 36) : 1 ≤ (y * (B + nI i * s).toInt64).toInt ∧ (y * (B + nI i * s).toInt64).toInt ≤ ((1000 ^ (i + 1) : Nat) : Int) := by
  have b1 : 1 ≤ B.toInt := by
    have : ¬ B.toInt = 0 := fun e => hB0 (Int32.toInt_inj.mp e)
    omega
  rw [Int32.le_iff_toInt_le] at hs
  have hs : 0 ≤ s.toInt := hs
  have p : (1000 ^ i : Nat) ≤ 1000000000 := Nat.le_trans (Nat.pow_le_pow_right (by decide : 0 < 1000) (show i ≤ 3 by omega)) (by decide)
  rw [Nat.pow_succ]
  generalize 1000 ^ i = P at h2 p ⊢
  have e1 : (nI i * s).toInt = (i : Int) * s.toInt := by
    rw [Int32.toInt_mul, nI_toInt (by omega)]
    rcases (show i = 0 ∨ i = 1 ∨ i = 2 ∨ i = 3 by omega) with rfl | rfl | rfl | rfl <;> exact Int.bmod_eq_of_le (by omega) (by omega)
  have e1b : 0 ≤ (i : Int) * s.toInt ∧ (i : Int) * s.toInt ≤ 108 := by
    rcases (show i = 0 ∨ i = 1 ∨ i = 2 ∨ i = 3 by omega) with rfl | rfl | rfl | rfl <;> omega
  have e2 : (B + nI i * s).toInt = B.toInt + (i : Int) * s.toInt := by
    rw [Int32.toInt_add, e1]
    exact Int.bmod_eq_of_le (by omega) (by omega)
  generalize (i : Int) * s.toInt = w at e2 e1b
  rw [Int64.toInt_mul, gi2l, e2]
  obtain ⟨a, ea⟩ := Int.eq_ofNat_of_zero_le (show 0 ≤ y.toInt by omega)
  obtain ⟨b, eb⟩ := Int.eq_ofNat_of_zero_le (show 0 ≤ B.toInt + w by omega)
  rw [ea, eb, ← Int.natCast_mul]
  have hb : b ≤ 1000 := by omega
  have hm : a * b ≤ P * 1000 := Nat.mul_le_mul (by omega) hb
  have hp : 0 < a * b := Nat.mul_pos (by omega) (by omega)
  have : a * b ≤ 1000000000 * 1000 := Nat.mul_le_mul (by omega) hb
  rw [Int.bmod_eq_of_le (by omega) (by omega)]
  omega
theorem gAcc_nb {b : Int32} {P : Prop} (h : gAcc b P) : narrow FieldType.boolean (Value.int b) = Value.int b := by
  rcases h with ⟨rfl, -⟩ | ⟨rfl, -⟩ <;> rfl
