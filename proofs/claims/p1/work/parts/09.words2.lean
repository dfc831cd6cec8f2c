-- what the contracts' words mean
theorem uL_uL (σ : GS) (k : Nat) (f g : Nat → Int64) : uL (uL σ k f) k g = uL σ k g := by
  unfold uL
  refine Prod.ext rfl (Prod.ext (funext fun j => ?_) rfl)
  by_cases h : j = k <;> simp [va_up, h]
theorem uI_uI (σ : GS) (k : Nat) (f g : Nat → Int32) : uI (uI σ k f) k g = uI σ k g := by
  unfold uI
  refine Prod.ext (funext fun j => ?_) rfl
  by_cases h : j = k <;> simp [va_up, h]
theorem uN_uN (σ : GS) (k : Nat) (f g : Int32) : uN (uN σ k f) k g = uN σ k g := by
  unfold uN
  refine Prod.ext rfl (Prod.ext rfl (Prod.ext (funext fun j => ?_) rfl))
  by_cases h : j = k <;> simp [va_up, h]
theorem uL_id (σ : GS) (k : Nat) : uL σ k (gL σ k) = σ := by
  unfold uL
  refine Prod.ext rfl (Prod.ext (funext fun j => ?_) rfl)
  by_cases h : j = k <;> simp [va_up, h, gL]
theorem uI_id (σ : GS) (k : Nat) : uI σ k (gI σ k) = σ := by
  unfold uI
  refine Prod.ext (funext fun j => ?_) rfl
  by_cases h : j = k <;> simp [va_up, h, gI]
theorem vp_fill {f : Nat → Int64} {k : Nat} {v : Int64} (hf : ∀ j, j < k → f j = v) {j : Nat} (h : j < k + 1) : vp_updL f k v j = v := by
  unfold vp_updL
  by_cases e : j = k
  · rw [if_pos e]
  · rw [if_neg e]; exact hf j (by omega)
theorem upd_fill {f : Nat → Int32} {k : Nat} {v : Int32} (hf : ∀ j, j < k → f j = v) {j : Nat} (h : j < k + 1) : upd f k v j = v := by
  by_cases e : j = k
  · rw [e]; exact pk_us
  · rw [pk_un e]; exact hf j (by omega)
def gIx (u : Int32) (n : Nat) : Prop := ∃ k : Nat, k < n ∧ u = nI k
theorem gIx_iff {u : Int32} {n : Nat} (hn : n < 2147483648) : gIx u n ↔ 0 ≤ u.toInt ∧ u.toInt < n := by
  constructor
  · rintro ⟨k, hk, rfl⟩
    rw [nI_toInt (by omega)]
    omega
  · rintro ⟨h1, h2⟩
    exact ⟨u.toInt.toNat, by omega, gofI (by omega) (by omega)⟩
theorem gIx_neg {u : Int32} {n : Nat} (hn : n < 2147483648) (h : u < 0) : ¬ gIx u n := by
  rw [gIx_iff hn]
  rw [Int32.lt_iff_toInt_lt, Int32.toInt_zero] at h
  omega
theorem gIx_big {u : Int32} {n : Nat} (hn : n < 2147483648) (h : ¬ u < nI n) : ¬ gIx u n := by
  rintro ⟨k, hk, rfl⟩
  exact h (nI_lt hk hn)
theorem gIx_big2 {u : Int32} {n : Nat} (hn : n < 2147483648) (h : nI n ≤ u) : ¬ gIx u n := by
  rintro ⟨k, hk, rfl⟩
  have := (nI_leI hn (by omega)).mp h
  omega
theorem gIx_ok {u : Int32} {n : Nat} (hn : n < 2147483648) (h0 : ¬ u < 0) (h : u < nI n) : gIx u n := by
  rw [gIx_iff hn]
  rw [Int32.lt_iff_toInt_lt, Int32.toInt_zero] at h0
  rw [Int32.lt_iff_toInt_lt, nI_toInt hn] at h
  omega
theorem gIx_ok2 {u : Int32} {n : Nat} (hn : n < 2147483648) (h0 : ¬ u < 0) (h : ¬ nI n ≤ u) : gIx u n := gIx_ok hn h0 (Int32.not_le.mp h)
def gTot (σ : GS) (u : Nat) : Int32 := gI σ u 0 + gI σ u 1 + gI σ u 2 + gI σ u 3
def gRch (i n : Int32) (m : Nat) : Prop := 0 ≤ i.toInt ∧ 0 ≤ n.toInt ∧ i.toInt + n.toInt ≤ m
theorem gRch_i {i n : Int32} {m : Nat} (h : i < 0) : ¬ gRch i n m := by
  rw [Int32.lt_iff_toInt_lt, Int32.toInt_zero] at h
  unfold gRch
  omega
theorem gRch_n {i n : Int32} {m : Nat} (h : n < 0) : ¬ gRch i n m := by
  rw [Int32.lt_iff_toInt_lt, Int32.toInt_zero] at h
  unfold gRch
  omega
theorem gsub_toInt {m : Nat} (hm : m < 1073741824) {i : Int32} (h : 0 ≤ i.toInt) : (nI m - i).toInt = (m : Int) - i.toInt := by
  have h2 := Int32.toInt_lt i
  rw [Int32.toInt_sub, nI_toInt (by omega)]
  exact Int.bmod_eq_of_le (by omega) (by omega)
theorem gRch_big {i n : Int32} {m : Nat} (hm : m ≤ 16) (h0 : ¬ i < 0) (h1 : ¬ n < 0) (h : nI m - i < n) : ¬ gRch i n m := by
  rw [Int32.lt_iff_toInt_lt, Int32.toInt_zero] at h0 h1
  rw [Int32.lt_iff_toInt_lt, gsub_toInt (by omega) (by omega)] at h
  unfold gRch
  omega
theorem gRch_ok {i n : Int32} {m : Nat} (hm : m ≤ 16) (h0 : ¬ i < 0) (h1 : ¬ n < 0) (h : ¬ nI m - i < n) : gRch i n m := by
  rw [Int32.lt_iff_toInt_lt, Int32.toInt_zero] at h0 h1
  rw [Int32.lt_iff_toInt_lt, gsub_toInt (by omega) (by omega)] at h
  unfold gRch
  omega
/-- what a sheet of a kind keeps of a number -/
def gCutV (k : Int32) (v : Int64) : Int64 := if k = 0 then v.toInt32.toInt8.toInt32.toInt64 else if k = 1 then v.toInt32.toInt64 else v
def fSheet (r k n : Int32) : Int32 := if ¬ (0 ≤ r.toInt ∧ r.toInt < 6) ∨ k < -1 ∨ 2 < k ∨ (¬ k = -1 ∧ 16 < n) then -1 else if ¬ k = -1 ∧ n < 0 then -13 else 0
theorem fSheet_r {r k n : Int32} (h : ¬ gIx r 6) : fSheet r k n = -1 := by
  rw [gIx_iff (by decide)] at h
  unfold fSheet
  exact if_pos (Or.inl h)
theorem fSheet_m {r k n : Int32} (h : k = -1) (hr : gIx r 6) : fSheet r k n = 0 := by
  rw [gIx_iff (by decide)] at hr
  unfold fSheet
  rw [if_neg, if_neg (fun q => q.1 h)]
  rintro (q | q | q | q)
  · exact q hr
  · rw [h] at q; exact absurd q (by decide)
  · rw [h] at q; exact absurd q (by decide)
  · exact q.1 h
theorem fSheet_n {r k n : Int32} (hr : gIx r 6) (h1 : ¬ k < -1) (h2 : k ≤ 2) (h3 : n ≤ 16) : ¬ (¬ (0 ≤ r.toInt ∧ r.toInt < 6) ∨ k < -1 ∨ 2 < k ∨ (¬ k = -1 ∧ 16 < n)) := by
  rw [gIx_iff (by decide)] at hr
  rintro (q | q | q | q)
  · exact q hr
  · exact h1 q
  · exact Int32.not_lt.mpr h2 q
  · exact Int32.not_lt.mpr h3 q.2
theorem fSheet_z {r k n : Int32} (h : ¬ k = -1) (hr : gIx r 6) (h1 : ¬ k < -1) (h2 : k ≤ 2) (h3 : n ≤ 16) (h4 : ¬ 0 ≤ n) : fSheet r k n = -13 := by
  unfold fSheet
  rw [if_neg (fSheet_n hr h1 h2 h3), if_pos ⟨h, Int32.not_le.mp h4⟩]
theorem fSheet_0 {r k n : Int32} (h : ¬ k = -1) (hr : gIx r 6) (h1 : ¬ k < -1) (h2 : k ≤ 2) (h3 : n ≤ 16) (h4 : 0 ≤ n) : fSheet r k n = 0 := by
  unfold fSheet
  rw [if_neg (fSheet_n hr h1 h2 h3), if_neg (fun q => Int32.not_lt.mpr h4 q.2)]
