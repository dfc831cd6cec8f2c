-- what the contracts' words mean
theorem ginc (k n : Nat) : nI k + Int32.ofInt (n : Int) = nI (k + n) := nI_add k n
theorem uL_uL (σ : GS) (k : Nat) (f g : Nat → Int64) : uL (uL σ k f) k g = uL σ k g := by
  unfold uL
  refine Prod.ext rfl (Prod.ext (funext fun j => ?_) rfl)
  by_cases h : j = k <;> simp [va_up, h]
theorem uI_uI (σ : GS) (k : Nat) (f g : Nat → Int32) : uI (uI σ k f) k g = uI σ k g := by
  unfold uI
  refine Prod.ext (funext fun j => ?_) rfl
  by_cases h : j = k <;> simp [va_up, h]
theorem uN_uN (σ : GS) (k : Nat) (f g : Int32) : uN (uN σ k f) k g = uN σ k g := by
  unfold uN
  refine Prod.ext rfl (Prod.ext rfl (Prod.ext (funext fun j => ?_) rfl))
  by_cases h : j = k <;> simp [va_up, h]
theorem uL_id (σ : GS) (k : Nat) : uL σ k (gL σ k) = σ := by
  unfold uL
  refine Prod.ext rfl (Prod.ext (funext fun j => ?_) rfl)
  by_cases h : j = k <;> simp [va_up, h, gL]
theorem uI_id (σ : GS) (k : Nat) : uI σ k (gI σ k) = σ := by
  unfold uI
  refine Prod.ext (funext fun j => ?_) rfl
  by_cases h : j = k <;> simp [va_up, h, gI]
theorem vp_fill {f : Nat → Int64} {k : Nat} {v : Int64} (hf : ∀ j, j < k → f j = v) {j : Nat} (h : j < k + 1) : vp_updL f k v j = v := by
  unfold vp_updL
  by_cases e : j = k
  · rw [if_pos e]
  · rw [if_neg e]; exact hf j (by omega)
theorem upd_fill {f : Nat → Int32} {k : Nat} {v : Int32} (hf : ∀ j, j < k → f j = v) {j : Nat} (h : j < k + 1) : upd f k v j = v := by
  by_cases e : j = k
  · rw [e]; exact pk_us
  · rw [pk_un e]; exact hf j (by omega)
def gIx (u : Int32) (n : Nat) : Prop := ∃ k : Nat, k < n ∧ u = nI k
theorem gIx_iff {u : Int32} {n : Nat} (hn : n < 2147483648) : gIx u n ↔ 0 ≤ u.toInt ∧ u.toInt < n := by
  constructor
  · rintro ⟨k, hk, rfl⟩
    rw [nI_toInt (by omega)]
    omega
  · rintro ⟨h1, h2⟩
    exact ⟨u.toInt.toNat, by omega, gofI (by omega) (by omega)⟩
theorem gIx_neg {u : Int32} {n : Nat} (hn : n < 2147483648) (h : u < 0) : ¬ gIx u n := by
  rw [gIx_iff hn]
  rw [Int32.lt_iff_toInt_lt, Int32.toInt_zero] at h
  omega
theorem gIx_big {u : Int32} {n : Nat} (hn : n < 2147483648) (h : ¬ u < nI n) : ¬ gIx u n := by
  rintro ⟨k, hk, rfl⟩
  exact h (nI_lt hk hn)
theorem gIx_big2 {u : Int32} {n : Nat} (hn : n < 2147483648) (h : nI n ≤ u) : ¬ gIx u n := by
  rintro ⟨k, hk, rfl⟩
  have := (nI_leI hn (by omega)).mp h
  omega
theorem gIx_ok {u : Int32} {n : Nat} (hn : n < 2147483648) (h0 : ¬ u < 0) (h : u < nI n) : gIx u n := by
  rw [gIx_iff hn]
  rw [Int32.lt_iff_toInt_lt, Int32.toInt_zero] at h0
  rw [Int32.lt_iff_toInt_lt, nI_toInt hn] at h
  omega
theorem gIx_ok2 {u : Int32} {n : Nat} (hn : n < 2147483648) (h0 : ¬ u < 0) (h : ¬ nI n ≤ u) : gIx u n := gIx_ok hn h0 (Int32.not_le.mp h)
def gTot (σ : GS) (u : Nat) : Int32 := gI σ u 0 + gI σ u 1 + gI σ u 2 + gI σ u 3
def gRch (i n : Int32) (m : Nat) : Prop := 0 ≤ i.toInt ∧ 0 ≤ n.toInt ∧ i.toInt + n.toInt ≤ m
theorem gRch_i {i n : Int32} {m : Nat} (h : i < 0) : ¬ gRch i n m := by
  rw [Int32.lt_iff_toInt_lt, Int32.toInt_zero] at h
  unfold gRch
  omega
theorem gRch_n {i n : Int32} {m : Nat} (h : n < 0) : ¬ gRch i n m := by
  rw [Int32.lt_iff_toInt_lt, Int32.toInt_zero] at h
  unfold gRch
  omega
theorem gsub_toInt {m : Nat} (hm : m < 1073741824) {i : Int32} (h : 0 ≤ i.toInt) : (nI m - i).toInt = (m : Int) - i.toInt := by
  have h2 := Int32.toInt_lt i
  rw [Int32.toInt_sub, nI_toInt (by omega)]
  exact Int.bmod_eq_of_le (by omega) (by omega)
theorem gRch_big {i n : Int32} {m : Nat} (hm : m ≤ 16) (h0 : ¬ i < 0) (h1 : ¬ n < 0) (h : nI m - i < n) : ¬ gRch i n m := by
  rw [Int32.lt_iff_toInt_lt, Int32.toInt_zero] at h0 h1
  rw [Int32.lt_iff_toInt_lt, gsub_toInt (by omega) (by omega)] at h
  unfold gRch
  omega
theorem gRch_ok {i n : Int32} {m : Nat} (hm : m ≤ 16) (h0 : ¬ i < 0) (h1 : ¬ n < 0) (h : ¬ nI m - i < n) : gRch i n m := by
  rw [Int32.lt_iff_toInt_lt, Int32.toInt_zero] at h0 h1
  rw [Int32.lt_iff_toInt_lt, gsub_toInt (by omega) (by omega)] at h
  unfold gRch
  omega
/-- what a sheet of a kind keeps of a number -/
def gCutV (k : Int32) (v : Int64) : Int64 := if k = 0 then v.toInt32.toInt8.toInt32.toInt64 else if k = 1 then v.toInt32.toInt64 else v
def fSheet (r k n : Int32) : Int32 := if ¬ (0 ≤ r.toInt ∧ r.toInt < 6) ∨ k < -1 ∨ 2 < k ∨ (¬ k = -1 ∧ 16 < n) then -1 else if ¬ k = -1 ∧ n < 0 then -13 else 0
theorem fSheet_r {r k n : Int32} (h : ¬ gIx r 6) : fSheet r k n = -1 := by
  rw [gIx_iff (by decide)] at h
  unfold fSheet
  exact if_pos (Or.inl h)
theorem fSheet_m {r k n : Int32} (h : k = -1) (hr : gIx r 6) : fSheet r k n = 0 := by
  rw [gIx_iff (by decide)] at hr
  unfold fSheet
  rw [if_neg, if_neg (fun q => q.1 h)]
  rintro (q | q | q | q)
  · exact q hr
  · rw [h] at q; exact absurd q (by decide)
  · rw [h] at q; exact absurd q (by decide)
  · exact q.1 h
theorem fSheet_n {r k n : Int32} (hr : gIx r 6) (h1 : ¬ k < -1) (h2 : k ≤ 2) (h3 : n ≤ 16) : ¬ (¬ (0 ≤ r.toInt ∧ r.toInt < 6) ∨ k < -1 ∨ 2 < k ∨ (¬ k = -1 ∧ 16 < n)) := by
  rw [gIx_iff (by decide)] at hr
  rintro (q | q | q | q)
  · exact q hr
  · exact h1 q
  · exact Int32.not_lt.mpr h2 q
  · exact Int32.not_lt.mpr h3 q.2
theorem fSheet_z {r k n : Int32} (h : ¬ k = -1) (hr : gIx r 6) (h1 : ¬ k < -1) (h2 : k ≤ 2) (h3 : n ≤ 16) (h4 : ¬ 0 ≤ n) : fSheet r k n = -13 := by
  unfold fSheet
  rw [if_neg (fSheet_n hr h1 h2 h3), if_pos ⟨h, Int32.not_le.mp h4⟩]
theorem fSheet_0 {r k n : Int32} (h : ¬ k = -1) (hr : gIx r 6) (h1 : ¬ k < -1) (h2 : k ≤ 2) (h3 : n ≤ 16) (h4 : 0 ≤ n) : fSheet r k n = 0 := by
  unfold fSheet
  rw [if_neg (fSheet_n hr h1 h2 h3), if_neg (fun q => Int32.not_lt.mpr h4 q.2)]
theorem nIt {u : Nat} (h : u < 2147483648) : (nI u).toInt.toNat = u := by rw [nI_toInt h]; rfl
theorem nIn (x : Int32) (h : 0 ≤ x.toInt) : x = nI x.toInt.toNat := gofI (by omega) (by have := Int32.toInt_lt x; omega)
/-- why a place of a sheet is none -/
def fPl (k s i : Int32) : Int32 := if k < 0 then -11 else if 0 ≤ i.toInt ∧ i.toInt < s.toInt then 0 else -12
def fLay (kd ln : Nat → Int32) (r i : Int32) : Int32 := if 0 ≤ r.toInt ∧ r.toInt < 6 then fPl (kd r.toInt.toNat) (ln r.toInt.toNat) i else -1
def fHol (kd ln : Nat → Int32) (pl : Nat → Nat → Int64) (r i : Int32) (v : Int64) : Int32 := if 0 ≤ r.toInt ∧ r.toInt < 6 then (if fPl (kd r.toInt.toNat) (ln r.toInt.toNat) i = 0 then (if pl r.toInt.toNat i.toInt.toNat = v then 1 else 0) else fPl (kd r.toInt.toNat) (ln r.toInt.toNat) i) else -1
def fCop (kd ln : Nat → Int32) (r i t j n : Int32) : Int32 := if (0 ≤ r.toInt ∧ r.toInt < 6) ∧ (0 ≤ t.toInt ∧ t.toInt < 6) then (if kd r.toInt.toNat < 0 ∨ kd t.toInt.toNat < 0 then -11 else if ¬ kd r.toInt.toNat = kd t.toInt.toNat then -14 else if (0 ≤ i.toInt ∧ 0 ≤ n.toInt ∧ i.toInt + n.toInt ≤ (ln r.toInt.toNat).toInt) ∧ (0 ≤ j.toInt ∧ 0 ≤ n.toInt ∧ j.toInt + n.toInt ≤ (ln t.toInt.toNat).toInt) then 0 else -12) else -1
theorem fLay_no {kd ln : Nat → Int32} {r i : Int32} (h : ¬ gIx r 6) : fLay kd ln r i = -1 := by
  rw [gIx_iff (by decide)] at h
  exact if_neg h
theorem fLay_at {kd ln : Nat → Int32} {u : Nat} {i : Int32} (h : u < 6) : fLay kd ln (nI u) i = fPl (kd u) (ln u) i := by
  unfold fLay
  rw [nIt (by omega), if_pos (by rw [nI_toInt (by omega)]; omega)]
theorem fHol_no {kd ln : Nat → Int32} {pl : Nat → Nat → Int64} {r i : Int32} {v : Int64} (h : ¬ gIx r 6) : fHol kd ln pl r i v = -1 := by
  rw [gIx_iff (by decide)] at h
  exact if_neg h
theorem fHol_at {kd ln : Nat → Int32} {pl : Nat → Nat → Int64} {u : Nat} {i : Int32} {v : Int64} (h : u < 6) : fHol kd ln pl (nI u) i v = if fPl (kd u) (ln u) i = 0 then (if pl u i.toInt.toNat = v then 1 else 0) else fPl (kd u) (ln u) i := by
  unfold fHol
  rw [nIt (by omega), if_pos (by rw [nI_toInt (by omega)]; omega)]
theorem fCop_no {kd ln : Nat → Int32} {r i t j n : Int32} (h : ¬ gIx r 6 ∨ ¬ gIx t 6) : fCop kd ln r i t j n = -1 := by
  rw [gIx_iff (by decide), gIx_iff (by decide)] at h
  exact if_neg (fun q => h.elim (fun z => z q.1) (fun z => z q.2))
theorem fCop_at {kd ln : Nat → Int32} {a b : Nat} {i j n : Int32} (ha : a < 6) (hb : b < 6) : fCop kd ln (nI a) i (nI b) j n = (if kd a < 0 ∨ kd b < 0 then -11 else if ¬ kd a = kd b then -14 else if (0 ≤ i.toInt ∧ 0 ≤ n.toInt ∧ i.toInt + n.toInt ≤ (ln a).toInt) ∧ (0 ≤ j.toInt ∧ 0 ≤ n.toInt ∧ j.toInt + n.toInt ≤ (ln b).toInt) then 0 else -12) := by
  unfold fCop
  rw [nIt (by omega), nIt (by omega), if_pos ⟨by rw [nI_toInt (by omega)]; omega, by rw [nI_toInt (by omega)]; omega⟩]
theorem fPl_m {k s i : Int32} (h : k = -1) : fPl k s i = -11 := by
  subst h
  rfl
theorem gkd {k : Int32} (h : -1 ≤ k) (h1 : ¬ k = -1) : ¬ k < 0 := by
  rw [Int32.le_iff_toInt_le] at h
  rw [← Int32.toInt_inj] at h1
  rw [Int32.lt_iff_toInt_lt, Int32.toInt_zero]
  have e : (-1 : Int32).toInt = -1 := by decide
  rw [e] at h h1
  omega
theorem fPl_n {k s i : Int32} {m : Nat} (hk : -1 ≤ k) (h : ¬ k = -1) (hs : s = nI m) (hm : m ≤ 16) (hx : ¬ gRch i 1 m) : fPl k s i = -12 := by
  subst hs
  unfold fPl
  rw [if_neg (gkd hk h), if_neg]
  intro q
  rw [nI_toInt (by omega)] at q
  apply hx
  have e : (1 : Int32).toInt = 1 := by decide
  unfold gRch
  rw [e]
  omega
theorem fPl_o {k s i : Int32} {m : Nat} (hk : -1 ≤ k) (h : ¬ k = -1) (hs : s = nI m) (hm : m ≤ 16) (hx : gRch i 1 m) : fPl k s i = 0 := by
  subst hs
  have e : (1 : Int32).toInt = 1 := by decide
  unfold gRch at hx
  rw [e] at hx
  unfold fPl
  rw [if_neg (gkd hk h), if_pos]
  rw [nI_toInt (by omega)]
  omega
theorem gRch_ix {i : Int32} {m : Nat} (h : gRch i 1 m) (hm : m ≤ 16) : i = nI i.toInt.toNat ∧ i.toInt.toNat < m := by
  have e : (1 : Int32).toInt = 1 := by decide
  unfold gRch at h
  rw [e] at h
  exact ⟨nIn i h.1, by omega⟩
def fUrn (n : Int32) (m : Nat) : Int32 := if n < 2 ∨ 4 < n then -1 else if m = 8 then -3 else nI m
def fSeed (v : Int32) : Int32 := if v < 1 ∨ 2147483646 < v then -1 else 0
def fPart (x : Int32) (a b c : Int64) : Int64 := if x = 0 then a else if x = 1 then b else if x = 2 then c else -1
def fCnt (x : Int32) (a b c d : Int32) : Int32 := if x = 0 then a else if x = 1 then b else if x = 2 then c else if x = 3 then d else -1
theorem gout2 {x : Int32} (h : x.toInt < 0 ∨ ((2 : Nat) : Int) < x.toInt) : ¬ x = 0 ∧ ¬ x = 1 ∧ ¬ x = 2 := by
  refine ⟨?_, ?_, ?_⟩ <;> intro e <;> subst e
  · have e : (0 : Int32).toInt = 0 := by decide
    omega
  · have e : (1 : Int32).toInt = 1 := by decide
    omega
  · have e : (2 : Int32).toInt = 2 := by decide
    omega
theorem gout3 {x : Int32} (h : x.toInt < 0 ∨ ((3 : Nat) : Int) < x.toInt) : ¬ x = 0 ∧ ¬ x = 1 ∧ ¬ x = 2 ∧ ¬ x = 3 := by
  refine ⟨?_, ?_, ?_, ?_⟩ <;> intro e <;> subst e
  · have e : (0 : Int32).toInt = 0 := by decide
    omega
  · have e : (1 : Int32).toInt = 1 := by decide
    omega
  · have e : (2 : Int32).toInt = 2 := by decide
    omega
  · have e : (3 : Int32).toInt = 3 := by decide
    omega
theorem fPart_out {x : Int32} {a b c : Int64} (h : x.toInt < 0 ∨ ((2 : Nat) : Int) < x.toInt) : fPart x a b c = -1 := by
  obtain ⟨h0, h1, h2⟩ := gout2 h
  unfold fPart
  rw [if_neg h0, if_neg h1, if_neg h2]
theorem fCnt_out {x a b c d : Int32} (h : x.toInt < 0 ∨ ((3 : Nat) : Int) < x.toInt) : fCnt x a b c d = -1 := by
  obtain ⟨h0, h1, h2, h3⟩ := gout3 h
  unfold fCnt
  rw [if_neg h0, if_neg h1, if_neg h2, if_neg h3]
/-- all draws of the class's urns, the first n of them -/
def gDrw (σ : GS) : Nat → Int32
  | 0 => 0
  | n + 1 => gDrw σ n + gN σ (22 + n)
-- the model's tests
theorem gi2l (x : Int32) : x.toInt64.toInt = x.toInt := Int32.toInt_toInt64 x
theorem gin_le (x y : Int64) : ¬ lg_cmp x y < 0 ↔ y ≤ x := by rw [lg_cmp_lt, Int64.not_lt]
def gInL (v a b : Int64) : Prop := a ≤ v ∧ v ≤ b
theorem gInL_ix {u : Int32} {m : Nat} (hm : m < 2147483648) {b : Int64} (hb : b.toInt = (m : Int) - 1) : gInL u.toInt64 0 b ↔ gIx u m := by
  rw [gIx_iff hm]
  unfold gInL
  rw [Int64.le_iff_toInt_le, Int64.le_iff_toInt_le, gi2l, hb, Int64.toInt_zero]
  omega
theorem gm1 {m : Nat} (hm : m < 2147483648) : ((nI m - 1).toInt64).toInt = (m : Int) - 1 := by
  have e : (1 : Int32).toInt = 1 := by decide
  rw [gi2l, Int32.toInt_sub, nI_toInt hm, e]
  exact Int.bmod_eq_of_le (by omega) (by omega)
theorem fCop_m {kd ln : Nat → Int32} {a b : Nat} {i j n : Int32} (ha : a < 6) (hb : b < 6) (h : kd a = -1 ∨ kd b = -1) : fCop kd ln (nI a) i (nI b) j n = -11 := by
  rw [fCop_at ha hb, if_pos]
  rcases h with h | h
  · exact Or.inl (by rw [h]; decide)
  · exact Or.inr (by rw [h]; decide)
theorem fCop_s {kd ln : Nat → Int32} {a b : Nat} {i j n : Int32} (ha : a < 6) (hb : b < 6) (h1 : ¬ kd a < 0) (h2 : ¬ kd b < 0) (h : ¬ kd a = kd b) : fCop kd ln (nI a) i (nI b) j n = -14 := by
  rw [fCop_at ha hb, if_neg (fun q => q.elim h1 h2), if_pos h]
theorem fCop_x {kd ln : Nat → Int32} {a b ma mb : Nat} {i j n : Int32} (ha : a < 6) (hb : b < 6) (h1 : ¬ kd a < 0) (h2 : ¬ kd b < 0) (h : kd a = kd b) (ea : ln a = nI ma) (eb : ln b = nI mb) (la : ma ≤ 16) (lb : mb ≤ 16) (hx : ¬ (gRch i n ma ∧ gRch j n mb)) : fCop kd ln (nI a) i (nI b) j n = -12 := by
  rw [fCop_at ha hb, if_neg (fun q => q.elim h1 h2), if_neg (fun q => q h), ea, eb, nI_toInt (by omega), nI_toInt (by omega)]
  exact if_neg hx
theorem fCop_0 {kd ln : Nat → Int32} {a b ma mb : Nat} {i j n : Int32} (ha : a < 6) (hb : b < 6) (h1 : ¬ kd a < 0) (h2 : ¬ kd b < 0) (h : kd a = kd b) (ea : ln a = nI ma) (eb : ln b = nI mb) (la : ma ≤ 16) (lb : mb ≤ 16) (hx : gRch i n ma ∧ gRch j n mb) : fCop kd ln (nI a) i (nI b) j n = 0 := by
  rw [fCop_at ha hb, if_neg (fun q => q.elim h1 h2), if_neg (fun q => q h), ea, eb, nI_toInt (by omega), nI_toInt (by omega)]
  exact if_pos hx
theorem gnn {x : Int32} (h : 0 ≤ x.toInt) : ¬ x < 0 := by
  rw [Int32.lt_iff_toInt_lt, Int32.toInt_zero]
  omega
theorem gcl {x : Int32} (h : 0 ≤ x.toInt) : x.toNatClampNeg = x.toInt.toNat := rfl
theorem gr1 {i n : Int32} {m : Nat} (h : gRch i n m) : ¬ i < 0 := gnn h.1
theorem gr2 {i n : Int32} {m : Nat} (h : gRch i n m) : ¬ n < 0 := gnn h.2.1
theorem gr3 {i n : Int32} {m : Nat} (h : gRch i n m) : i.toNatClampNeg = i.toInt.toNat := rfl
theorem gr4 {i n : Int32} {m : Nat} (h : gRch i n m) : n.toNatClampNeg = n.toInt.toNat := rfl
theorem gr5 {i n : Int32} {m : Nat} (h : gRch i n m) (hm : m ≤ 16) : i.toInt.toNat + n.toInt.toNat ≤ 16 := by
  unfold gRch at h
  omega
theorem gRch_w {i n : Int32} {m : Nat} (hm : m ≤ 16) (h : gRch i n m) : gRch i n 16 := by
  unfold gRch at h ⊢
  omega
theorem fUrn_b {n : Int32} {m : Nat} (h : n < 2 ∨ 4 < n) : fUrn n m = -1 := if_pos h
theorem fUrn_f {n : Int32} {m : Nat} (h1 : ¬ n < 2) (h2 : n ≤ 4) (h : m = 8) : fUrn n m = -3 := by
  unfold fUrn
  rw [if_neg (fun q => q.elim h1 (Int32.not_lt.mpr h2)), if_pos h]
theorem fUrn_o {n : Int32} {m : Nat} (h1 : ¬ n < 2) (h2 : n ≤ 4) (h : m < 8) : fUrn n m = nI m := by
  unfold fUrn
  rw [if_neg (fun q => q.elim h1 (Int32.not_lt.mpr h2)), if_neg (by omega)]
-- the model's sheets
theorem gk12 {k : Int32} (h : gInL k.toInt64 (-1) 2) : ¬ k < -1 ∧ k ≤ 2 := by
  unfold gInL at h
  rw [Int64.le_iff_toInt_le, Int64.le_iff_toInt_le, gi2l] at h
  have e1 : (-1 : Int64).toInt = -1 := by decide
  have e2 : (2 : Int64).toInt = 2 := by decide
  have e3 : (-1 : Int32).toInt = -1 := by decide
  have e4 : (2 : Int32).toInt = 2 := by decide
  rw [Int32.lt_iff_toInt_lt, Int32.le_iff_toInt_le, e3, e4]
  rw [e1, e2] at h
  omega
theorem fSheet_k {r k n : Int32} (h : ¬ gInL k.toInt64 (-1) 2) : fSheet r k n = -1 := by
  unfold gInL at h
  rw [Int64.le_iff_toInt_le, Int64.le_iff_toInt_le, gi2l] at h
  have e1 : (-1 : Int64).toInt = -1 := by decide
  have e2 : (2 : Int64).toInt = 2 := by decide
  have e3 : (-1 : Int32).toInt = -1 := by decide
  have e4 : (2 : Int32).toInt = 2 := by decide
  rw [e1, e2] at h
  by_cases h1 : k < -1
  · exact if_pos (Or.inr (Or.inl h1))
  · refine if_pos (Or.inr (Or.inr (Or.inl ?_)))
    rw [Int32.lt_iff_toInt_lt, e3] at h1
    rw [Int32.lt_iff_toInt_lt, e4]
    omega
theorem gkneg {k : Int32} (h1 : ¬ k < -1) (h : k < 0) : k = -1 := by
  have e3 : (-1 : Int32).toInt = -1 := by decide
  rw [Int32.lt_iff_toInt_lt, e3] at h1
  rw [Int32.lt_iff_toInt_lt, Int32.toInt_zero] at h
  rw [← Int32.toInt_inj, e3]
  omega
theorem gkpos {k : Int32} (h : ¬ k < 0) : ¬ k = -1 := fun e => h (by rw [e]; decide)
theorem fSheet_no {u : Nat} {k n : Int32} (hu : u < 6) (h1 : ¬ k < -1) (h2 : k ≤ 2) (h3 : ¬ (¬ k = -1 ∧ 16 < n)) : ¬ (¬ (0 ≤ (nI u).toInt ∧ (nI u).toInt < 6) ∨ k < -1 ∨ 2 < k ∨ (¬ k = -1 ∧ 16 < n)) := by
  rintro (q | q | q | q)
  · rw [nI_toInt (by omega)] at q; omega
  · exact h1 q
  · exact Int32.not_lt.mpr h2 q
  · exact h3 q
theorem gfil {f : Nat → Int64} {a j : Nat} {v : Int64} (hf : ∀ i, i < j → f (a + i) = v) {i : Nat} (h : i < j + 1) : vp_updL f (a + j) v (a + i) = v := by
  unfold vp_updL
  by_cases e : i = j
  · rw [e, if_pos rfl]
  · rw [if_neg (by omega)]; exact hf i (by omega)
theorem gfil2 {f : Nat → Int64} {a i : Nat} {v : Int64} (h : i ≠ a) : vp_updL f a v i = f i := if_neg h
theorem fPl_neg {k s i : Int32} (h : ¬ 0 ≤ k) : fPl k s i = -11 := if_pos (Int32.not_le.mp h)
theorem fPl_in {k s i : Int32} {m : Nat} (h : 0 ≤ k) (hs : s = nI m) (hm : m < 2147483648) (hx : gIx i m) : fPl k s i = 0 := by
  rw [gIx_iff hm] at hx
  unfold fPl
  rw [if_neg (Int32.not_lt.mpr h), hs, nI_toInt hm, if_pos hx]
theorem fPl_out {k s i : Int32} {m : Nat} (h : 0 ≤ k) (hs : s = nI m) (hm : m < 2147483648) (hx : ¬ gIx i m) : fPl k s i = -12 := by
  rw [gIx_iff hm] at hx
  unfold fPl
  rw [if_neg (Int32.not_lt.mpr h), hs, nI_toInt hm, if_neg hx]
theorem fPl_or (k s i : Int32) : fPl k s i = -11 ∨ fPl k s i = 0 ∨ fPl k s i = -12 := by
  unfold fPl
  by_cases h : k < 0
  · rw [if_pos h]; exact Or.inl rfl
  · rw [if_neg h]
    by_cases h2 : 0 ≤ i.toInt ∧ i.toInt < s.toInt
    · rw [if_pos h2]; exact Or.inr (Or.inl rfl)
    · rw [if_neg h2]; exact Or.inr (Or.inr rfl)
theorem fPl_ge {k s i : Int32} (h : 0 ≤ fPl k s i) : fPl k s i = 0 := by
  rcases fPl_or k s i with e | e | e
  · rw [e] at h; exact absurd h (by decide)
  · exact e
  · rw [e] at h; exact absurd h (by decide)
theorem fPl_ne {k s i : Int32} (h : ¬ 0 ≤ fPl k s i) : ¬ fPl k s i = 0 := fun e => h (by rw [e]; decide)
theorem fPl_0 {k s i : Int32} {m : Nat} (h : fPl k s i = 0) (hm : 0 ≤ k → s = nI m) (h16 : m ≤ 16) : ∃ j : Nat, j < m ∧ i = nI j := by
  unfold fPl at h
  by_cases hk : k < 0
  · rw [if_pos hk] at h; exact absurd h (by decide)
  · rw [if_neg hk] at h
    by_cases h2 : 0 ≤ i.toInt ∧ i.toInt < s.toInt
    · rw [hm (Int32.not_lt.mp hk), nI_toInt (by omega)] at h2
      exact ⟨i.toInt.toNat, by omega, nIn i h2.1⟩
    · rw [if_neg h2] at h; exact absurd h (by decide)
theorem fUrn_12 {n : Int32} (h : gInL n.toInt64 2 4) : ¬ n < 2 ∧ n ≤ 4 := by
  unfold gInL at h
  rw [Int64.le_iff_toInt_le, Int64.le_iff_toInt_le, gi2l] at h
  have e1 : (2 : Int64).toInt = 2 := by decide
  have e2 : (4 : Int64).toInt = 4 := by decide
  have e3 : (2 : Int32).toInt = 2 := by decide
  have e4 : (4 : Int32).toInt = 4 := by decide
  rw [Int32.lt_iff_toInt_lt, Int32.le_iff_toInt_le, e3, e4]
  rw [e1, e2] at h
  omega
theorem fUrn_1 {n : Int32} (h : gInL n.toInt64 2 4) : ¬ n < 2 := (fUrn_12 h).1
theorem fUrn_2 {n : Int32} (h : gInL n.toInt64 2 4) : n ≤ 4 := (fUrn_12 h).2
theorem fUrn_k {n : Int32} {m : Nat} (h : ¬ gInL n.toInt64 2 4) : fUrn n m = -1 := by
  apply fUrn_b
  unfold gInL at h
  rw [Int64.le_iff_toInt_le, Int64.le_iff_toInt_le, gi2l] at h
  have e1 : (2 : Int64).toInt = 2 := by decide
  have e2 : (4 : Int64).toInt = 4 := by decide
  have e3 : (2 : Int32).toInt = 2 := by decide
  have e4 : (4 : Int32).toInt = 4 := by decide
  rw [Int32.lt_iff_toInt_lt, Int32.lt_iff_toInt_lt, e3, e4]
  rw [e1, e2] at h
  omega
theorem fSeed_c (v : Int32) : gInL v.toInt64 1 2147483646 ↔ ¬ (v < 1 ∨ 2147483646 < v) := by
  unfold gInL
  rw [Int64.le_iff_toInt_le, Int64.le_iff_toInt_le, gi2l]
  have e1 : (1 : Int64).toInt = 1 := by decide
  have e2 : (2147483646 : Int64).toInt = 2147483646 := by decide
  have e3 : (1 : Int32).toInt = 1 := by decide
  have e4 : (2147483646 : Int32).toInt = 2147483646 := by decide
  rw [Int32.lt_iff_toInt_lt, Int32.lt_iff_toInt_lt, e1, e2, e3, e4]
  omega
theorem fSeed_no {v : Int32} (h : ¬ gInL v.toInt64 1 2147483646) : fSeed v = -1 := by
  rw [fSeed_c] at h
  exact if_pos (Classical.not_not.mp h)
theorem fSeed_ok {v : Int32} (h : gInL v.toInt64 1 2147483646) : fSeed v = 0 := if_neg ((fSeed_c v).mp h)
theorem gRch_nat {i n : Int32} {m : Nat} (h : gRch i n m) (hm : m ≤ 16) : ∃ i' n' : Nat, i = nI i' ∧ n = nI n' ∧ i' + n' ≤ m := by
  unfold gRch at h
  exact ⟨i.toInt.toNat, n.toInt.toNat, nIn i h.1, nIn n h.2.1, by omega⟩
/-- n places of f from a on, come to g from b on: the first k of them -/
def gcp (f g : Nat → Int64) (a b k : Nat) : Nat → Int64 := fun q => if b ≤ q ∧ q < b + k then f (a + (q - b)) else g q
theorem gcp_0 (f g : Nat → Int64) (a b : Nat) : gcp f g a b 0 = g := by
  funext q
  unfold gcp
  rw [if_neg (by omega)]
theorem gcp_s (f g : Nat → Int64) (a b k : Nat) : vp_updL (gcp f g a b k) (b + k) (f (a + k)) = gcp f g a b (k + 1) := by
  funext q
  unfold vp_updL gcp
  by_cases h : q = b + k
  · rw [if_pos h, if_pos (by omega), show a + (q - b) = a + k by omega]
  · rw [if_neg h]
    by_cases h2 : b ≤ q ∧ q < b + k
    · rw [if_pos h2, if_pos (by omega)]
    · rw [if_neg h2, if_neg (by omega)]
theorem gfil3 {f h : Nat → Int64} {a j : Nat} {v : Int64} (hf : ∀ i, i < j → f i = h (a + i)) (e : v = h (a + j)) {i : Nat} (hi : i < j + 1) : vp_updL f j v i = h (a + i) := by
  unfold vp_updL
  by_cases q : i = j
  · rw [q, if_pos rfl]; exact e
  · rw [if_neg q]; exact hf i (by omega)
