-- what the chances of the class leave alone (gSk), what those of the reference do (gSn)
def gSk (σ σ' : GS) : Prop := (∀ q, (q < 44 ∨ 50 ≤ q) → gI σ' q = gI σ q) ∧ (∀ q, (q < 6 ∨ 12 ≤ q) → gL σ' q = gL σ q) ∧ (∀ q, (q < 32 ∨ 33 ≤ q) → gN σ' q = gN σ q) ∧ (∀ q, (10 ≤ q) → gG σ' q = gG σ q)
theorem gSk_r (σ : GS) : gSk σ σ := ⟨fun _ _ => rfl, fun _ _ => rfl, fun _ _ => rfl, fun _ _ => rfl⟩
theorem gSk_t {a b c : GS} (h : gSk a b) (k : gSk b c) : gSk a c := ⟨fun q hq => (k.1 q hq).trans (h.1 q hq), fun q hq => (k.2.1 q hq).trans (h.2.1 q hq), fun q hq => (k.2.2.1 q hq).trans (h.2.2.1 q hq), fun q hq => (k.2.2.2 q hq).trans (h.2.2.2 q hq)⟩
theorem gSk_I {a s : GS} {k : Nat} {f : Nat → Int32} (hk : ¬ (k < 44 ∨ 50 ≤ k)) (h : gSk a s) : gSk a (uI s k f) := ⟨fun q hq => by rw [gI_uI, if_neg (show ¬ q = k by omega)]; exact h.1 q hq, h.2.1, h.2.2.1, h.2.2.2⟩
theorem gSk_L {a s : GS} {k : Nat} {f : Nat → Int64} (hk : ¬ (k < 6 ∨ 12 ≤ k)) (h : gSk a s) : gSk a (uL s k f) := ⟨h.1, fun q hq => by rw [gL_uL, if_neg (show ¬ q = k by omega)]; exact h.2.1 q hq, h.2.2.1, h.2.2.2⟩
theorem gSk_N {a s : GS} {k : Nat} {v : Int32} (hk : ¬ (k < 32 ∨ 33 ≤ k)) (h : gSk a s) : gSk a (uN s k v) := ⟨h.1, h.2.1, fun q hq => by rw [gN_uN, if_neg (show ¬ q = k by omega)]; exact h.2.2.1 q hq, h.2.2.2⟩
theorem gSk_G {a s : GS} {k : Nat} {v : Int64} (hk : ¬ (10 ≤ k)) (h : gSk a s) : gSk a (uG s k v) := ⟨h.1, h.2.1, h.2.2.1, fun q hq => by rw [gG_uG, if_neg (show ¬ q = k by omega)]; exact h.2.2.2 q hq⟩
theorem gSk_P {a s : GS} {v : Nat} (h : gSk a s) : gSk a (uP s v) := h
def gSn (σ σ' : GS) : Prop := (∀ q, (q < 57) → gI σ' q = gI σ q) ∧ (∀ q, (q < 14) → gL σ' q = gL σ q) ∧ (∀ q, (q < 1000) → gN σ' q = gN σ q) ∧ (∀ q, (q < 10) → gG σ' q = gG σ q) ∧ (¬ gG σ 12 = 0 → ¬ gG σ' 12 = 0) ∧ gP σ' = gP σ
theorem gSn_r (σ : GS) : gSn σ σ := ⟨fun _ _ => rfl, fun _ _ => rfl, fun _ _ => rfl, fun _ _ => rfl, fun h => h, rfl⟩
theorem gSn_t {a b c : GS} (h : gSn a b) (k : gSn b c) : gSn a c := ⟨fun q hq => (k.1 q hq).trans (h.1 q hq), fun q hq => (k.2.1 q hq).trans (h.2.1 q hq), fun q hq => (k.2.2.1 q hq).trans (h.2.2.1 q hq), fun q hq => (k.2.2.2.1 q hq).trans (h.2.2.2.1 q hq), fun z => k.2.2.2.2.1 (h.2.2.2.2.1 z), k.2.2.2.2.2.trans h.2.2.2.2.2⟩
theorem gSn_I {a s : GS} {k : Nat} {f : Nat → Int32} (hk : ¬ (k < 57)) (h : gSn a s) : gSn a (uI s k f) := ⟨fun q hq => by rw [gI_uI, if_neg (show ¬ q = k by omega)]; exact h.1 q hq, h.2.1, h.2.2.1, h.2.2.2⟩
theorem gSn_L {a s : GS} {k : Nat} {f : Nat → Int64} (hk : ¬ (k < 14)) (h : gSn a s) : gSn a (uL s k f) := ⟨h.1, fun q hq => by rw [gL_uL, if_neg (show ¬ q = k by omega)]; exact h.2.1 q hq, h.2.2.1, h.2.2.2⟩
theorem gSn_N {a s : GS} {k : Nat} {v : Int32} (hk : ¬ (k < 1000)) (h : gSn a s) : gSn a (uN s k v) := ⟨h.1, h.2.1, fun q hq => by rw [gN_uN, if_neg (show ¬ q = k by omega)]; exact h.2.2.1 q hq, h.2.2.2⟩
theorem gSn_G {a s : GS} {k : Nat} {v : Int64} (hk : ¬ ((k < 10) ∨ k = 12)) (h : gSn a s) : gSn a (uG s k v) := ⟨h.1, h.2.1, h.2.2.1, fun q hq => by rw [gG_uG, if_neg (show ¬ q = k by omega)]; exact h.2.2.2.1 q hq, fun z => by rw [gG_uG, if_neg (show ¬ 12 = k by omega)]; exact h.2.2.2.2.1 z, h.2.2.2.2.2⟩
theorem gSn_D {a s : GS} {v : Int64} (hv : ¬ v = 0) (h : gSn a s) : gSn a (uG s 12 v) := ⟨h.1, h.2.1, h.2.2.1, fun q hq => by rw [gG_uG, if_neg (show ¬ q = 12 by omega)]; exact h.2.2.2.1 q hq, fun _ => by rw [gG_uG, if_pos rfl]; exact hv, h.2.2.2.2.2⟩
theorem gSk.m {a b : GS} (h : gSk a b) : gSm a b := ⟨fun q hq => h.1 q (by omega), fun q hq => h.2.1 q (by omega), fun q hq => h.2.2.1 q (by omega), fun z => by rw [h.2.2.2 12 (by omega)]; exact z⟩
theorem gSn.m {a b : GS} (h : gSn a b) : gSm a b := ⟨fun q hq => h.1 q (by omega), fun q hq => h.2.1 q (by omega), fun q hq => h.2.2.1 q (by omega), h.2.2.2.2.1⟩
theorem gSk_n {a s : GS} (h : gSk a s) {q : Nat} (hq : q < 32 ∨ q = 33 ∨ q = 34) : gN s q = gN a q := gSm_n h.m hq
theorem gSk_i {a s : GS} (h : gSk a s) {q : Nat} (hq : q < 44 ∨ (50 ≤ q ∧ q < 55)) : gI s q = gI a q := gSm_i h.m hq
theorem gSn_n {a s : GS} (h : gSn a s) {q : Nat} (hq : q < 32 ∨ q = 33 ∨ q = 34) : gN s q = gN a q := gSm_n h.m hq
theorem gSn_i {a s : GS} (h : gSn a s) {q : Nat} (hq : q < 44 ∨ (50 ≤ q ∧ q < 55)) : gI s q = gI a q := gSm_i h.m hq
theorem gSn_P {a s : GS} (h : gSn a s) : gSn a (uP s (gP a)) := ⟨h.1, h.2.1, h.2.2.1, h.2.2.2.1, h.2.2.2.2.1, rfl⟩
