-- the answers at numbers; what a row of DRAWS leaves alone; the share's products; told
theorem gTimes_at {v : GV} {u k c q : Nat} (hu : u < 8) (hk : k < 13) (hc : c < 4) (hq : q < 13) : gTimes v (nI u) (nI k) (nI c) (nI q) = fNew 0 (qTm v u k c q) (qD v u k) := by
  unfold gTimes
  rw [tn_n (show u < 2147483648 by omega), tn_n (show k < 2147483648 by omega), tn_n (show c < 2147483648 by omega), tn_n (show q < 2147483648 by omega)]
theorem gLeft_at {v : GV} {u k c : Nat} {x : Int32} (hu : u < 8) (hk : k < 13) (hc : c < 4) : gLeft v (nI u) (nI k) (nI c) x = fNew 0 (if 200 < tn x then 0 else qLf v u k c (tn x)) (qD v u k) := by
  unfold gLeft
  rw [tn_n (show u < 2147483648 by omega), tn_n (show k < 2147483648 by omega), tn_n (show c < 2147483648 by omega)]
theorem gStuck_at {v : GV} {u k : Nat} (hu : u < 8) (hk : k < 13) : gStuck v (nI u) (nI k) = fNew 0 (wE (bS (vS v) u) (tS (vS v) u) alA (vT v u) (vG v u) k) (qD v u k) := by
  unfold gStuck
  rw [tn_n (show u < 2147483648 by omega), tn_n (show k < 2147483648 by omega)]
theorem gMean_at {v : GV} {u k c m : Nat} (hu : u < 8) (hk : k < 13) (hc : c < 4) (hm : m ≤ 3) : gMean v (nI u) (nI k) (nI c) (nI m) = fNew (qMn v u k c m / qD v u k) (qMn v u k c m % qD v u k) (qD v u k) := by
  unfold gMean
  rw [tn_n (show u < 2147483648 by omega), tn_n (show k < 2147483648 by omega), tn_n (show c < 2147483648 by omega), tn_n (show m < 2147483648 by omega)]
theorem gTold_at {v : GV} {u i c j d : Nat} (hu : u < 8) (hi : i ≤ 12) (hc : c < 4) (hj : j ≤ 12) (hd : d < 4) : gTold v (nI u) (nI i) (nI c) (nI j) (nI d) = fNew 0 (qTo v u j (alIJ i c j d)) (qTo v u j (alJ j d)) := by
  unfold gTold
  rw [tn_n (show u < 2147483648 by omega), tn_n (show i < 2147483648 by omega), tn_n (show c < 2147483648 by omega), tn_n (show j < 2147483648 by omega), tn_n (show d < 2147483648 by omega)]
def toldOk (v : GV) (a0 a1 a2 a3 a4 : Int32) : Prop := ((okU v a0 ∧ 1 ≤ a1 ∧ a1 < a3 ∧ a3 ≤ 12) ∧ okC v a0 a2 ∧ okC v a0 a4) ∧ (gEv4 (tS (vS v) (nU a0)) (vC v (nU a0)) ∧ ¬ sumS (vS v) (nU a0) = 0) ∧ dD (vT v (nU a0)) (vG v (nU a0)) (nU a3) ≤ 10000000000000000 ∧ ¬ qTo v (nU a0) (nU a3) (alJ (nU a3) (nU a4)) = 0
theorem toldOk_i {v : GV} {u i c j d : Nat} (hu : u < vM v) (h8 : u < 8) (hi : 1 ≤ i) (hij : i < j) (hj : j ≤ 12) (hc : c < vC v u) (hd : d < vC v u) (h4 : vC v u ≤ 4) : toldOk v (nI u) (nI i) (nI c) (nI j) (nI d) ↔ (gEv4 (tS (vS v) u) (vC v u) ∧ ¬ sumS (vS v) u = 0) ∧ dD (vT v u) (vG v u) j ≤ 10000000000000000 ∧ ¬ qTo v u j (alJ j d) = 0 := by
  unfold toldOk
  rw [nU_n (show u < 2147483648 by omega), nU_n (show j < 2147483648 by omega), nU_n (show d < 2147483648 by omega)]
  exact ⟨fun h => h.2, fun h => ⟨⟨⟨okU_n hu, (nI_leI (a := 1) (b := i) (by decide) (by omega)).mpr hi, (nI_ltI (by omega) (by omega)).mpr hij, (nI_leI (b := 12) (by omega) (by decide)).mpr hj⟩, (okC_n h8).mpr ⟨c, hc, rfl⟩, (okC_n h8).mpr ⟨d, hd, rfl⟩⟩, h⟩⟩
theorem TP_n {σ s : GS} {F G : GF} {P : Prop} (h : ¬ P) (hS : gSk σ s) (hg : ∀ q, q < 4 → gG s q = gG σ q) (hF : CF σ F) (hZ : ZA s) : gSk σ s ∧ CF s (gIf P G F) ∧ ZA s := ⟨hS, by rw [gIf_f h]; exact CF_e (fun q _ h => hg q h) hF, hZ⟩
theorem TP_y {σ s : GS} {F G : GF} {P : Prop} (h : P) (hS : gSk σ s) (hC : CF s G) (hZ : ZA s) : gSk σ s ∧ CF s (gIf P G F) ∧ ZA s := ⟨hS, by rw [gIf_t h]; exact hC, hZ⟩
theorem qTo_f {v : GV} {u k : Nat} {al : Nat → Nat → Prop} : sN (wW false (bS (vS v) u) (tS (vS v) u) al k) 2197 = 0 ↔ qTo v u k al = 0 := by
  have h : ∀ {φ ψ : Nat → Nat}, (∀ x, φ x = 0 → ψ x = 0) → sN φ 2197 = 0 → sN ψ 2197 = 0 := fun {φ ψ} h q => sN_z0 2197 (fun x hx => h x (by have := sN_m (φ := φ) 2197 hx; omega))
  exact ⟨h (fun x q => (wW_pos k x).mpr q), h (fun x q => (wW_pos k x).mp q)⟩
theorem ZA_e2 {a b : GS} (hl : ∀ q, gL b q = gL a q) (hp : gP b = gP a) (h : ZA a) : ZA b := ZA_e hp (fun q _ => hl q) h
-- the share
def pSh (b s : Int32) : Nat → Int64
  | 0 => 1
  | i + 1 => pSh b s i * (b + nI i * s).toInt64
def shN (b s : Int32) : Nat → Nat
  | 0 => 1
  | i + 1 => shN b s i * (b + nI i * s).toInt.toNat
theorem pSh_N {b s : Int32} (hb : 0 ≤ b.toInt ∧ b.toInt ≤ 800) (hs : 0 ≤ s.toInt ∧ s.toInt ≤ 36) : ∀ i, i ≤ 4 → pSh b s i = lN (shN b s i) ∧ shN b s i ≤ 1000 ^ i ∧ (1 ≤ b.toInt → 1 ≤ shN b s i)
  | 0, _ => ⟨rfl, Nat.le_refl _, fun _ => Nat.le_refl _⟩
  | i + 1, h => by
    obtain ⟨h1, h2, h3⟩ := pSh_N hb hs i (by omega)
    have e := zkg hb (show -36 ≤ s.toInt ∧ s.toInt ≤ 36 by omega) (k := i) (by omega)
    have b1 : 0 ≤ (i : Int) * s.toInt ∧ (i : Int) * s.toInt ≤ 108 := by
      rcases (show i = 0 ∨ i = 1 ∨ i = 2 ∨ i = 3 by omega) with rfl | rfl | rfl | rfl <;> omega
    have hn : ¬ (b + nI i * s) < 0 := by
      rw [Int32.lt_iff_toInt_lt, e]
      have : (0 : Int32).toInt = 0 := by decide
      omega
    obtain ⟨n, hn2, en⟩ := nI_of hn
    have ei : (b + nI i * s).toInt = (n : Int) := by rw [en]; exact nI_toInt hn2
    have e3 : (b + nI i * s).toInt.toNat = n := by rw [ei]; rfl
    have hn3 : n ≤ 1000 := by omega
    refine ⟨?_, ?_, fun hb1 => ?_⟩
    · show pSh b s i * (b + nI i * s).toInt64 = lN (shN b s i * (b + nI i * s).toInt.toNat)
      rw [e3, en, nI_l (by omega), h1, lN_mul]
    · show shN b s i * (b + nI i * s).toInt.toNat ≤ 1000 ^ (i + 1)
      rw [e3, Nat.pow_succ]
      exact Nat.mul_le_mul h2 hn3
    · show 1 ≤ shN b s i * (b + nI i * s).toInt.toNat
      rw [e3]
      exact Nat.mul_pos (h3 hb1) (by omega)
noncomputable def gShare (v : GV) (a0 a1 a2 : Int32) : GF := fNew 0 (shN (bS (vS v) (tn a0) (tn a1)) (gGr (tS (vS v) (tn a0)) 0 4) (tn a2)) (shN (sumS (vS v) (tn a0)) (gGr (tS (vS v) (tn a0)) 0 4) (tn a2))
theorem gShare_at {v : GV} {u c m : Nat} (hu : u < 8) (hc : c < 4) (hm : m ≤ 4) : gShare v (nI u) (nI c) (nI m) = fNew 0 (shN (bS (vS v) u c) (gGr (tS (vS v) u) 0 4) m) (shN (sumS (vS v) u) (gGr (tS (vS v) u) 0 4) m) := by
  unfold gShare
  rw [tn_n (show u < 2147483648 by omega), tn_n (show c < 2147483648 by omega), tn_n (show m < 2147483648 by omega)]
theorem sh_b {v : GV} (R : RV v) {u c : Nat} (hu : u < 8) (hc : c < 4) (hs : ¬ gGr (tS (vS v) u) 0 4 ≤ 0) (h0 : ¬ sumS (vS v) u = 0) {m : Nat} (hm : m ≤ 4) : (pSh (bS (vS v) u c) (gGr (tS (vS v) u) 0 4) m = lN (shN (bS (vS v) u c) (gGr (tS (vS v) u) 0 4) m) ∧ shN (bS (vS v) u c) (gGr (tS (vS v) u) 0 4) m < 9223372036854775808) ∧ pSh (sumS (vS v) u) (gGr (tS (vS v) u) 0 4) m = lN (shN (sumS (vS v) u) (gGr (tS (vS v) u) 0 4) m) ∧ shN (sumS (vS v) u) (gGr (tS (vS v) u) 0 4) m < 9223372036854775808 ∧ 1 ≤ shN (sumS (vS v) u) (gGr (tS (vS v) u) 0 4) m := by
  have hg := vG_b R hu
  have hT := vT_b R hu
  unfold vG at hg
  unfold vT at hT
  have hs2 : 0 ≤ (gGr (tS (vS v) u) 0 4).toInt ∧ (gGr (tS (vS v) u) 0 4).toInt ≤ 36 := by
    rw [Int32.le_iff_toInt_le] at hs
    have : (0 : Int32).toInt = 0 := by decide
    omega
  have hb : 0 ≤ (bS (vS v) u c).toInt ∧ (bS (vS v) u c).toInt ≤ 800 := by
    obtain ⟨q1, q2⟩ := VS_B2 R.2.2.1 hu c hc
    rw [Int32.le_iff_toInt_le] at q1 q2
    have : (0 : Int32).toInt = 0 := by decide
    have : (200 : Int32).toInt = 200 := by decide
    omega
  have hT1 : 1 ≤ (sumS (vS v) u).toInt := by
    obtain ⟨T, h1, h2, h3⟩ := VS_sum R.2.2.1 hu
    rw [h2, nI_toInt (by omega)]
    by_cases z : T = 0
    · exact absurd (by rw [h2, z]; rfl) h0
    · omega
  have hp : 1000 ^ m ≤ 1000000000000 := Nat.le_trans (Nat.pow_le_pow_right (by decide) hm) (by decide)
  obtain ⟨x1, x2, -⟩ := pSh_N hb hs2 m hm
  obtain ⟨y1, y2, y3⟩ := pSh_N hT hs2 m hm
  exact ⟨⟨x1, by omega⟩, y1, by omega, y3 hT1⟩
-- a row of DRAWS
def gSr (σ σ' : GS) : Prop := (∀ q, ¬ q = 46 → gI σ' q = gI σ q) ∧ (∀ q, gL σ' q = gL σ q) ∧ (∀ q, ¬ q = 32 → gN σ' q = gN σ q) ∧ (∀ q, (q < 4 ∨ 10 ≤ q) → gG σ' q = gG σ q) ∧ gP σ' = gP σ
theorem gSr_r (σ : GS) : gSr σ σ := ⟨fun _ _ => rfl, fun _ => rfl, fun _ _ => rfl, fun _ _ => rfl, rfl⟩
theorem gSr_t {a b c : GS} (h : gSr a b) (k : gSr b c) : gSr a c := ⟨fun q hq => (k.1 q hq).trans (h.1 q hq), fun q => (k.2.1 q).trans (h.2.1 q), fun q hq => (k.2.2.1 q hq).trans (h.2.2.1 q hq), fun q hq => (k.2.2.2.1 q hq).trans (h.2.2.2.1 q hq), k.2.2.2.2.trans h.2.2.2.2⟩
theorem gSr_I {a s : GS} {k : Nat} {f : Nat → Int32} (hk : k = 46) (h : gSr a s) : gSr a (uI s k f) := ⟨fun q hq => by rw [gI_uI, if_neg (show ¬ q = k by omega)]; exact h.1 q hq, h.2.1, h.2.2.1, h.2.2.2⟩
theorem gSr_N {a s : GS} {k : Nat} {v : Int32} (hk : k = 32) (h : gSr a s) : gSr a (uN s k v) := ⟨h.1, h.2.1, fun q hq => by rw [gN_uN, if_neg (show ¬ q = k by omega)]; exact h.2.2.1 q hq, h.2.2.2⟩
theorem gSr_G {a s : GS} {k : Nat} {v : Int64} (hk : ¬ (k < 4 ∨ 10 ≤ k)) (h : gSr a s) : gSr a (uG s k v) := ⟨h.1, h.2.1, h.2.2.1, fun q hq => by rw [gG_uG, if_neg (show ¬ q = k by omega)]; exact h.2.2.2.1 q hq, h.2.2.2.2⟩
theorem gSr.k {a b : GS} (h : gSr a b) : gSk a b := ⟨fun q hq => h.1 q (by omega), fun q _ => h.2.1 q, fun q hq => h.2.2.1 q (by omega), fun q hq => h.2.2.2.1 q (by omega)⟩
theorem gSr.m {a b : GS} (h : gSr a b) : gSm a b := h.k.m
theorem KC_sr {a b : GS} {v : GV} (F : gSr a b) (K : KC a v) : KC b v := KC_sk F.k K
theorem gSr_n {a s : GS} (h : gSr a s) {q : Nat} (hq : q < 32 ∨ q = 33 ∨ q = 34) : gN s q = gN a q := gSm_n h.m hq
/-- what a row has come to -/
noncomputable def vR (v : GV) (u k w : Nat) : Nat × Nat := gIf (qOn (bS (vS v) u) (tS (vS v) u) w k) (qF (bS (vS v) u) (tS (vS v) u) w k) (0, 1)
noncomputable def gChance (v : GV) (a0 a1 a2 : Int32) : GF := fNew 0 (vR v (tn a0) (tn a1) (tn a2)).1 (vR v (tn a0) (tn a1) (tn a2)).2
theorem gChance_at {v : GV} {u k w : Nat} (hu : u < 8) (hk : k < 13) (hw : w < 2147483648) : gChance v (nI u) (nI k) (nI w) = fNew 0 (vR v u k w).1 (vR v u k w).2 := by
  unfold gChance
  rw [tn_n (show u < 2147483648 by omega), tn_n (show k < 2147483648 by omega), tn_n hw]
theorem vR_y {v : GV} {u k w : Nat} (h : qOn (bS (vS v) u) (tS (vS v) u) w k) : vR v u k w = qF (bS (vS v) u) (tS (vS v) u) w k := gIf_t h
theorem vR_n {v : GV} {u k w : Nat} (h : qStk (bS (vS v) u) (tS (vS v) u) w k) : vR v u k w = (0, 1) := gIf_f (qStk_no h)
theorem vR_b {v : GV} (R : RV v) {u k w : Nat} (hu : u < 8) : 1 ≤ (vR v u k w).2 ∧ (vR v u k w).2 < 9223372036854775808 ∧ (vR v u k w).1 < 9223372036854775808 := by
  by_cases h : qOn (bS (vS v) u) (tS (vS v) u) w k
  · rw [vR_y h]
    have q := qF_b (VS_B2 R.2.2.1 hu) k h
    omega
  · rw [show vR v u k w = (0, 1) from gIf_f h]
    decide
theorem tn200 {x : Int32} (h : ¬ x < 0) (h2 : ¬ x ≤ 200) : 200 < tn x := by
  have a := Int32.not_le.mp h2
  rw [Int32.lt_iff_toInt_lt] at a
  have : (200 : Int32).toInt = 200 := by decide
  unfold tn
  omega
