-- what the chances leave alone
def gSm (σ σ' : GS) : Prop := (∀ q, (q < 44 ∨ (50 ≤ q ∧ q < 55)) → gI σ' q = gI σ q) ∧ (∀ q, (q < 6 ∨ q = 12) → gL σ' q = gL σ q) ∧ (∀ q, (q < 32 ∨ q = 33 ∨ q = 34) → gN σ' q = gN σ q) ∧ (¬ gG σ 12 = 0 → ¬ gG σ' 12 = 0)
theorem gSm_r (σ : GS) : gSm σ σ := ⟨fun _ _ => rfl, fun _ _ => rfl, fun _ _ => rfl, fun h => h⟩
theorem gSm_t {a b c : GS} (h : gSm a b) (k : gSm b c) : gSm a c := ⟨fun q hq => (k.1 q hq).trans (h.1 q hq), fun q hq => (k.2.1 q hq).trans (h.2.1 q hq), fun q hq => (k.2.2.1 q hq).trans (h.2.2.1 q hq), fun z => k.2.2.2 (h.2.2.2 z)⟩
theorem gSm_I {a s : GS} {k : Nat} {f : Nat → Int32} (hk : ¬ (k < 44 ∨ (50 ≤ k ∧ k < 55))) (h : gSm a s) : gSm a (uI s k f) :=
  ⟨fun q hq => by rw [gI_uI, if_neg (show ¬ q = k by omega)]; exact h.1 q hq, h.2.1, h.2.2.1, h.2.2.2⟩
theorem gSm_L {a s : GS} {k : Nat} {f : Nat → Int64} (hk : ¬ (k < 6 ∨ k = 12)) (h : gSm a s) : gSm a (uL s k f) :=
  ⟨h.1, fun q hq => by rw [gL_uL, if_neg (show ¬ q = k by omega)]; exact h.2.1 q hq, h.2.2.1, h.2.2.2⟩
theorem gSm_N {a s : GS} {k : Nat} {v : Int32} (hk : ¬ (k < 32 ∨ k = 33 ∨ k = 34)) (h : gSm a s) : gSm a (uN s k v) :=
  ⟨h.1, h.2.1, fun q hq => by rw [gN_uN, if_neg (show ¬ q = k by omega)]; exact h.2.2.1 q hq, h.2.2.2⟩
theorem gSm_G {a s : GS} {k : Nat} {v : Int64} (hk : ¬ k = 12) (h : gSm a s) : gSm a (uG s k v) :=
  ⟨h.1, h.2.1, h.2.2.1, fun z => by rw [gG_uG, if_neg (fun e => hk e.symm)]; exact h.2.2.2 z⟩
theorem gSm_D {a s : GS} {v : Int64} (hv : ¬ v = 0) (h : gSm a s) : gSm a (uG s 12 v) :=
  ⟨h.1, h.2.1, h.2.2.1, fun _ => by rw [gG_uG, if_pos rfl]; exact hv⟩
theorem gSm_P {a s : GS} {v : Nat} (h : gSm a s) : gSm a (uP s v) := h
theorem gSm_n {a s : GS} (h : gSm a s) {q : Nat} (hq : q < 32 ∨ q = 33 ∨ q = 34) : gN s q = gN a q := h.2.2.1 q hq
theorem gSm_i {a s : GS} (h : gSm a s) {q : Nat} (hq : q < 44 ∨ (50 ≤ q ∧ q < 55)) : gI s q = gI a q := h.1 q hq
theorem gnz1 {x : Int64} (h : 1 ≤ x) : ¬ x = 0 := fun e => absurd h (by rw [e]; decide)
theorem gnz2 {x : Int64} (h : ¬ x < 1) : ¬ x = 0 := gnz1 (Int64.not_lt.mp h)
theorem gi2l1 {x : Int32} (h : ¬ x ≤ 0) : 1 ≤ x.toInt64 := by
  rw [Int64.le_iff_toInt_le, gi2l]
  rw [Int32.le_iff_toInt_le] at h
  have e : (0 : Int32).toInt = 0 := by decide
  have e1 : (1 : Int64).toInt = 1 := by decide
  omega
theorem gstp_le (c : Nat) : gstp c ≤ 169 := by
  unfold gstp
  split
  · omega
  · split
    · omega
    · split <;> omega
theorem gstpO_le (c : Nat) : gstpO c ≤ 36 := by
  unfold gstpO
  split
  · omega
  · split
    · omega
    · split <;> omega
theorem gp45 {i : Nat} (h : i ≤ 5) : 4 ^ i ≤ 1024 := Nat.pow_le_pow_right (n := 4) (by decide) h
theorem gp412 {i : Nat} (h : i ≤ 12) : 4 ^ i ≤ 16777216 := Nat.pow_le_pow_right (n := 4) (by decide) h
theorem gp4s (i : Nat) : nI (4 ^ i) * 4 = nI (4 ^ (i + 1)) := by rw [show (4 : Int32) = nI 4 from rfl, pk_mul, Nat.pow_succ]
theorem gsub1 {i : Nat} (h : 1 ≤ i) : nI i - 1 = nI (i - 1) := by
  have e := nI_pred (i - 1)
  rw [show i - 1 + 1 = i by omega] at e
  exact e
theorem gge0 {x : Int32} (h : ¬ x < 0) : 0 ≤ x.toInt := by
  rw [Int32.lt_iff_toInt_lt] at h
  have e : (0 : Int32).toInt = 0 := by decide
  omega
theorem g200 {x : Int32} (h : ¬ x < 0) (h2 : x ≤ 200) : x = nI x.toInt.toNat ∧ x.toInt.toNat < 201 := by
  have h0 := gge0 h
  rw [Int32.le_iff_toInt_le] at h2
  have e : (200 : Int32).toInt = 200 := by decide
  exact ⟨nIn x h0, by omega⟩
theorem gof4 {f : Nat → Int32} {a b e j c : Nat} (h : a + b + e ≤ j) (hj : j ≤ 12) (hc : c < 4) : ∃ k : Nat, k ≤ 12 ∧ upd (upd (upd (upd f 0 (nI a)) 1 (nI b)) 2 (nI e)) 3 (nI j - nI a - nI b - nI e) c = nI k := by
  rcases (show c = 0 ∨ c = 1 ∨ c = 2 ∨ c = 3 by omega) with rfl | rfl | rfl | rfl
  · exact ⟨a, by omega, rfl⟩
  · exact ⟨b, by omega, rfl⟩
  · exact ⟨e, by omega, rfl⟩
  · refine ⟨j - a - b - e, by omega, ?_⟩
    rw [pk_us, pk_sub (by omega), pk_sub (by omega), pk_sub (by omega)]
theorem p3b (b : Nat) (h : b < 2) : 3 * b % 2 = b ∧ 3 * b / 2 % 2 = b := by
  rcases (show b = 0 ∨ b = 1 by omega) with rfl | rfl <;> decide
theorem pPa (δ : GD) (σ : GS) : (wG δ σ).set 20 (δ.2.2.1 20, .inr (0, [.ref (δ.2.2.1 (90 + gP σ / 2 % 2)), .ref (δ.2.2.1 (90 + gP σ / 2 % 2)), .ref (δ.2.2.1 69), .ref (δ.2.2.1 70), .ref (δ.2.2.1 71), .ref (δ.2.2.1 92), .ref (δ.2.2.1 93), .long (gG σ 6), .long (gG σ 7), .long (gG σ 8), .long (gG σ 9)])) = wG δ (uP σ (3 * (gP σ / 2 % 2))) := by
  have h := pP δ σ (3 * (gP σ / 2 % 2))
  rw [(p3b _ (Nat.mod_lt _ (by decide))).1, (p3b _ (Nat.mod_lt _ (by decide))).2] at h
  exact h
theorem pPb (δ : GD) (σ : GS) (p : Nat) : (wG δ σ).set 20 (δ.2.2.1 20, .inr (0, [.ref (δ.2.2.1 (90 + gP σ % 2)), .ref (δ.2.2.1 (90 + p % 2)), .ref (δ.2.2.1 69), .ref (δ.2.2.1 70), .ref (δ.2.2.1 71), .ref (δ.2.2.1 92), .ref (δ.2.2.1 93), .long (gG σ 6), .long (gG σ 7), .long (gG σ 8), .long (gG σ 9)])) = wG δ (uP σ (gP σ % 2 + 2 * (p % 2))) := by
  have h := pP δ σ (gP σ % 2 + 2 * (p % 2))
  rw [show (gP σ % 2 + 2 * (p % 2)) % 2 = gP σ % 2 by omega, show (gP σ % 2 + 2 * (p % 2)) / 2 % 2 = p % 2 by omega] at h
  exact h
theorem gIx_12 {x : Int32} (h : ¬ x < 0) (h2 : x ≤ 12) : gIx x 13 := by
  have h0 := gge0 h
  rw [Int32.le_iff_toInt_le] at h2
  have e : (12 : Int32).toInt = 12 := by decide
  exact ⟨x.toInt.toNat, by omega, nIn x h0⟩
theorem gIx_no12 {x : Int32} (h : 12 < x) : ¬ gIx x 13 := by
  rintro ⟨k, hk, rfl⟩
  rw [Int32.lt_iff_toInt_lt, nI_toInt (by omega)] at h
  have e : (12 : Int32).toInt = 12 := by decide
  omega
theorem gIx_up {x : Int32} {m : Nat} (hm : m < 1000) (h : ¬ x < 1) (h2 : x ≤ nI m) : ∃ k : Nat, 1 ≤ k ∧ k ≤ m ∧ x = nI k := by
  rw [Int32.lt_iff_toInt_lt] at h
  rw [Int32.le_iff_toInt_le, nI_toInt (by omega)] at h2
  have e : (1 : Int32).toInt = 1 := by decide
  exact ⟨x.toInt.toNat, by omega, by omega, nIn x (by omega)⟩
theorem gIx_3 {x : Int32} (h : ¬ x < 1) (h2 : x ≤ 3) : ∃ k : Nat, (1 ≤ k ∧ k ≤ 3) ∧ x = nI k := by
  obtain ⟨k, a, b, c⟩ := gIx_up (m := 3) (by decide) h h2
  exact ⟨k, ⟨a, b⟩, c⟩
theorem gIx_4 {x : Int32} (h : ¬ x < 1) (h2 : x ≤ 4) : ∃ k : Nat, (1 ≤ k ∧ k ≤ 4) ∧ x = nI k := by
  obtain ⟨k, a, b, c⟩ := gIx_up (m := 4) (by decide) h h2
  exact ⟨k, ⟨a, b⟩, c⟩
theorem gIx_5 {x : Int32} (h : ¬ x < 1) (h2 : x ≤ 5) : ∃ k : Nat, (1 ≤ k ∧ k ≤ 5) ∧ x = nI k := by
  obtain ⟨k, a, b, c⟩ := gIx_up (m := 5) (by decide) h h2
  exact ⟨k, ⟨a, b⟩, c⟩
theorem gij {x y : Int32} (h : ¬ x < 1) (h2 : ¬ y ≤ x) (h3 : ¬ 12 < y) : ∃ i j : Nat, 1 ≤ i ∧ i < j ∧ j ≤ 12 ∧ x = nI i ∧ y = nI j := by
  rw [Int32.lt_iff_toInt_lt] at h h3
  rw [Int32.le_iff_toInt_le] at h2
  have e : (1 : Int32).toInt = 1 := by decide
  have e2 : (12 : Int32).toInt = 12 := by decide
  exact ⟨x.toInt.toNat, y.toInt.toNat, by omega, by omega, by omega, nIn x (by omega), nIn y (by omega)⟩
theorem gnw (δ : GD) (P : Nat) : δ.2.2.1 (90 + P % 2) = δ.2.2.1 (82 + (8 + P % 2)) := congrArg _ (by omega)
theorem gnx (δ : GD) (P : Nat) : δ.2.2.1 (90 + P / 2 % 2) = δ.2.2.1 (82 + (8 + P / 2 % 2)) := congrArg _ (by omega)
