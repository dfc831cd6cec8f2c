-- D, as both sides reckon it
def dF (T s : Int) (k : Nat) : Nat := if 0 < T + (k : Int) * s then (T + (k : Int) * s).toNat else 1
def dD (T s : Int) : Nat → Nat
  | 0 => 1
  | k + 1 => dD T s k * dF T s k
theorem dF_1 (T s : Int) (k : Nat) : 1 ≤ dF T s k := by
  unfold dF
  split <;> omega
theorem dD_1 (T s : Int) : ∀ k, 1 ≤ dD T s k
  | 0 => Nat.le_refl _
  | k + 1 => Nat.mul_pos (dD_1 T s k) (dF_1 T s k)
theorem dD_s (T s : Int) (k : Nat) : dD T s k ≤ dD T s (k + 1) := Nat.le_mul_of_pos_right _ (dF_1 T s k)
theorem dD_m (T s : Int) (i : Nat) : ∀ d, dD T s i ≤ dD T s (i + d)
  | 0 => Nat.le_refl _
  | d + 1 => Nat.le_trans (dD_m T s i d) (dD_s T s (i + d))
theorem dD_big {T s : Int} {i k N : Nat} (h : N < dD T s (i + 1)) (hi : i < k) : N < dD T s k := by
  have q := dD_m T s (i + 1) (k - (i + 1))
  rw [show i + 1 + (k - (i + 1)) = k by omega] at q
  omega
theorem kg {k : Nat} {g : Int} (hk : k ≤ 12) (h : -36 ≤ g ∧ g ≤ 36) : -432 ≤ (k : Int) * g ∧ (k : Int) * g ≤ 432 := by
  rcases (show k = 0 ∨ k = 1 ∨ k = 2 ∨ k = 3 ∨ k = 4 ∨ k = 5 ∨ k = 6 ∨ k = 7 ∨ k = 8 ∨ k = 9 ∨ k = 10 ∨ k = 11 ∨ k = 12 by omega) with rfl | rfl | rfl | rfl | rfl | rfl | rfl | rfl | rfl | rfl | rfl | rfl | rfl <;> omega
theorem dF_2 {T s : Int} {k : Nat} (hT : 0 ≤ T ∧ T ≤ 800) (hs : -36 ≤ s ∧ s ≤ 36) (hk : k ≤ 12) : dF T s k ≤ 1232 := by
  have q := kg hk hs
  unfold dF
  split <;> omega
def vT (v : GV) (u : Nat) : Int := (sumS (vS v) u).toInt
def vG (v : GV) (u : Nat) : Int := (gGr (tS (vS v) u) 0 4).toInt
theorem vT_b {v : GV} (R : RV v) {u : Nat} (hu : u < 8) : 0 ≤ vT v u ∧ vT v u ≤ 800 := by
  obtain ⟨T, h1, h2, h3⟩ := VS_sum R.2.2.1 hu
  unfold vT
  rw [h2, nI_toInt (by omega)]
  omega
theorem VS_9 {nc : Nat → Nat} {S : Nat → Int32} (V : VS nc S) {u : Nat} (hu : u < 8) : gNT9 (tS S u) := fun j hj => by
  have q := (V.2.1 u hu (j / 4) (by omega) (j % 4) (by omega)).1
  rw [show j / 4 * 4 + j % 4 = j by omega] at q
  exact q
theorem vG_b {v : GV} (R : RV v) {u : Nat} (hu : u < 8) : -36 ≤ vG v u ∧ vG v u ≤ 36 := gNT9_s (VS_9 R.2.2.1 hu) (by omega)
theorem zkg {T g : Int32} {k : Nat} (hT : 0 ≤ T.toInt ∧ T.toInt ≤ 800) (hg : -36 ≤ g.toInt ∧ g.toInt ≤ 36) (hk : k ≤ 12) : (T + nI k * g).toInt = T.toInt + (k : Int) * g.toInt := by
  have q := kg hk hg
  have e1 : (nI k * g).toInt = (k : Int) * g.toInt := by
    rw [Int32.toInt_mul, nI_toInt (by omega)]
    exact Int.bmod_eq_of_le (by omega) (by omega)
  rw [Int32.toInt_add, e1]
  exact Int.bmod_eq_of_le (by omega) (by omega)
theorem gfac_p {T g : Int32} {k : Nat} (hT : 0 ≤ T.toInt ∧ T.toInt ≤ 800) (hg : -36 ≤ g.toInt ∧ g.toInt ≤ 36) (hk : k ≤ 12) (h : ¬ T + nI k * g ≤ 0) : (T + nI k * g).toInt64 = lN (dF T.toInt g.toInt k) := by
  have e := zkg hT hg hk
  have b := dF_2 hT hg hk
  have e0 : (0 : Int32).toInt = 0 := by decide
  rw [Int32.le_iff_toInt_le, e, e0] at h
  rw [← Int64.toInt_inj, gi2l, e, pk_lT (by omega)]
  unfold dF
  rw [if_pos (by omega)]
  omega
theorem gfac_n {T g : Int32} {k : Nat} (hT : 0 ≤ T.toInt ∧ T.toInt ≤ 800) (hg : -36 ≤ g.toInt ∧ g.toInt ≤ 36) (hk : k ≤ 12) (h : T + nI k * g ≤ 0) : (1 : Int64) = lN (dF T.toInt g.toInt k) := by
  have e := zkg hT hg hk
  have e0 : (0 : Int32).toInt = 0 := by decide
  rw [Int32.le_iff_toInt_le, e, e0] at h
  unfold dF
  rw [if_neg (by omega)]
  rfl
theorem mzk {T g : Int32} {k : Nat} (hT : 0 ≤ T.toInt ∧ T.toInt ≤ 800) (hg : -36 ≤ g.toInt ∧ g.toInt ≤ 36) (hk : k ≤ 12) : (T.toInt64 + (nI k).toInt64 * g.toInt64).toInt = T.toInt + (k : Int) * g.toInt := by
  have q := kg hk hg
  have e1 : ((nI k).toInt64 * g.toInt64).toInt = (k : Int) * g.toInt := by
    rw [Int64.toInt_mul, gi2l, gi2l, nI_toInt (by omega)]
    exact Int.bmod_eq_of_le (by omega) (by omega)
  rw [Int64.toInt_add, e1, gi2l]
  exact Int.bmod_eq_of_le (by omega) (by omega)
theorem mfac_p {T g : Int32} {k : Nat} (hT : 0 ≤ T.toInt ∧ T.toInt ≤ 800) (hg : -36 ≤ g.toInt ∧ g.toInt ≤ 36) (hk : k ≤ 12) (h : ¬ T.toInt64 + (nI k).toInt64 * g.toInt64 ≤ 0) : T.toInt64 + (nI k).toInt64 * g.toInt64 = lN (dF T.toInt g.toInt k) := by
  have e := mzk hT hg hk
  have b := dF_2 hT hg hk
  have e0 : (0 : Int64).toInt = 0 := by decide
  rw [Int64.le_iff_toInt_le, e, e0] at h
  rw [← Int64.toInt_inj, e, pk_lT (by omega)]
  unfold dF
  rw [if_pos (by omega)]
  omega
theorem mfac_n {T g : Int32} {k : Nat} (hT : 0 ≤ T.toInt ∧ T.toInt ≤ 800) (hg : -36 ≤ g.toInt ∧ g.toInt ≤ 36) (hk : k ≤ 12) (h : T.toInt64 + (nI k).toInt64 * g.toInt64 ≤ 0) : dD T.toInt g.toInt (k + 1) = dD T.toInt g.toInt k := by
  have e := mzk hT hg hk
  have e0 : (0 : Int64).toInt = 0 := by decide
  rw [Int64.le_iff_toInt_le, e, e0] at h
  show dD _ _ k * dF _ _ k = _
  unfold dF
  rw [if_neg (by omega), Nat.mul_one]
theorem dl_le {D F : Nat} (hD : D ≤ 10000000000000000) (h1 : 1 ≤ F) (h2 : F ≤ 1232) : lN D ≤ 10000000000000000 / lN F ↔ D * F ≤ 10000000000000000 := by
  rw [show (10000000000000000 : Int64) = lN 10000000000000000 from rfl, pk_lDiv (by decide) (by omega) (by omega), pk_lLE (by omega) (Nat.lt_of_le_of_lt (Nat.div_le_self _ _) (by decide)), Nat.le_div_iff_mul_le (by omega)]
theorem lNz {n : Nat} (h : 1 ≤ n) (h2 : n < 2 ^ 63) : ¬ lN n = 0 := fun e => by
  rw [show (0 : Int64) = lN 0 from rfl, pk_lEQ h2 (by decide)] at e
  omega
-- why there are no chances
noncomputable def aEv (v : GV) (u k : Nat) : Int32 := gIf (¬ gEv4 (tS (vS v) u) (vC v u) ∨ sumS (vS v) u = 0) (-2) (gIf (10000000000000000 < dD (vT v u) (vG v u) k) (-6) 0)
theorem aEv_e {v : GV} {u k : Nat} (h : ¬ gEv4 (tS (vS v) u) (vC v u) ∨ sumS (vS v) u = 0) : aEv v u k = -2 := by unfold aEv; rw [gIf_t h]
theorem aEv_b {v : GV} {u k : Nat} (h1 : gEv4 (tS (vS v) u) (vC v u)) (h2 : ¬ sumS (vS v) u = 0) (h : 10000000000000000 < dD (vT v u) (vG v u) k) : aEv v u k = -6 := by unfold aEv; rw [gIf_f (fun z => z.elim (fun q => q h1) h2), gIf_t h]
theorem aEv_0 {v : GV} {u k : Nat} (h1 : gEv4 (tS (vS v) u) (vC v u)) (h2 : ¬ sumS (vS v) u = 0) (h : dD (vT v u) (vG v u) k ≤ 10000000000000000) : aEv v u k = 0 := by unfold aEv; rw [gIf_f (fun z => z.elim (fun q => q h1) h2), gIf_f (by omega)]
theorem aEv_z {v : GV} {u k : Nat} (h : 0 ≤ aEv v u k) : aEv v u k = 0 := by
  by_cases h1 : ¬ gEv4 (tS (vS v) u) (vC v u) ∨ sumS (vS v) u = 0
  · rw [aEv_e h1] at h; exact absurd h (by decide)
  · by_cases h2 : 10000000000000000 < dD (vT v u) (vG v u) k
    · rw [aEv_b (Classical.not_not.mp fun q => h1 (Or.inl q)) (fun q => h1 (Or.inr q)) h2] at h; exact absurd h (by decide)
    · exact aEv_0 (Classical.not_not.mp fun q => h1 (Or.inl q)) (fun q => h1 (Or.inr q)) (by omega)
noncomputable def aTimes (v : GV) (a0 a1 a2 a3 : Int32) : Int32 := gIf ((okU v a0 ∧ gIx a1 13) ∧ okC v a0 a2 ∧ gIx a3 13) (aEv v (nU a0) (nU a1)) (-1)
noncomputable def aLeft (v : GV) (a0 a1 a2 a3 : Int32) : Int32 := gIf ((okU v a0 ∧ gIx a1 13) ∧ okC v a0 a2 ∧ (0 ≤ a3 ∧ a3 ≤ 400)) (aEv v (nU a0) (nU a1)) (-1)
noncomputable def aStuck (v : GV) (a0 a1 : Int32) : Int32 := gIf (okU v a0 ∧ gIx a1 13) (aEv v (nU a0) (nU a1)) (-1)
noncomputable def aMean (v : GV) (a0 a1 a2 a3 : Int32) : Int32 := gIf ((okU v a0 ∧ gIx a1 13) ∧ okC v a0 a2 ∧ (1 ≤ a3 ∧ a3 ≤ 3)) (aEv v (nU a0) (nU a1)) (-1)
noncomputable def aSh (v : GV) (u : Nat) : Int32 := gIf (gLk4 (tS (vS v) u) (vC v u) ∧ ¬ gGr (tS (vS v) u) 0 4 = 0 ∧ ¬ sumS (vS v) u = 0) 0 (-2)
noncomputable def aShare (v : GV) (a0 a1 a2 : Int32) : Int32 := gIf ((okU v a0 ∧ okC v a0 a1) ∧ (1 ≤ a2 ∧ a2 ≤ 4)) (aSh v (nU a0)) (-1)
theorem aTimes_at {v : GV} {u k c : Nat} {x : Int32} (hu : u < vM v) (h8 : u < 8) (hk : k < 13) (hc : c < vC v u) (hx : gIx x 13) : aTimes v (nI u) (nI k) (nI c) x = aEv v u k := by
  unfold aTimes
  rw [gIf_t ⟨⟨okU_n hu, ⟨k, hk, rfl⟩⟩, (okC_n h8).mpr ⟨c, hc, rfl⟩, hx⟩, nU_n (by omega), nU_n (by omega)]
theorem aLeft_at {v : GV} {u k c : Nat} {x : Int32} (hu : u < vM v) (h8 : u < 8) (hk : k < 13) (hc : c < vC v u) (hx : 0 ≤ x ∧ x ≤ 400) : aLeft v (nI u) (nI k) (nI c) x = aEv v u k := by
  unfold aLeft
  rw [gIf_t ⟨⟨okU_n hu, ⟨k, hk, rfl⟩⟩, (okC_n h8).mpr ⟨c, hc, rfl⟩, hx⟩, nU_n (by omega), nU_n (by omega)]
theorem aMean_at {v : GV} {u k c : Nat} {x : Int32} (hu : u < vM v) (h8 : u < 8) (hk : k < 13) (hc : c < vC v u) (hx : 1 ≤ x ∧ x ≤ 3) : aMean v (nI u) (nI k) (nI c) x = aEv v u k := by
  unfold aMean
  rw [gIf_t ⟨⟨okU_n hu, ⟨k, hk, rfl⟩⟩, (okC_n h8).mpr ⟨c, hc, rfl⟩, hx⟩, nU_n (by omega), nU_n (by omega)]
theorem aStuck_at {v : GV} {u k : Nat} (hu : u < vM v) (h8 : u < 8) (hk : k < 13) : aStuck v (nI u) (nI k) = aEv v u k := by
  unfold aStuck
  rw [gIf_t ⟨okU_n hu, ⟨k, hk, rfl⟩⟩, nU_n (by omega), nU_n (by omega)]
theorem aShare_at {v : GV} {u c : Nat} {x : Int32} (hu : u < vM v) (h8 : u < 8) (hc : c < vC v u) (hx : 1 ≤ x ∧ x ≤ 4) : aShare v (nI u) (nI c) x = aSh v u := by
  unfold aShare
  rw [gIf_t ⟨⟨okU_n hu, (okC_n h8).mpr ⟨c, hc, rfl⟩⟩, hx⟩, nU_n (by omega)]
theorem gin400 {x : Int32} : gInL x.toInt64 0 400 ↔ 0 ≤ x ∧ x ≤ 400 := by
  unfold gInL
  rw [Int64.le_iff_toInt_le, Int64.le_iff_toInt_le, gi2l, Int32.le_iff_toInt_le, Int32.le_iff_toInt_le]
  exact Iff.rfl
theorem gin3 {x : Int32} : gInL x.toInt64 1 3 ↔ 1 ≤ x ∧ x ≤ 3 := by
  unfold gInL
  rw [Int64.le_iff_toInt_le, Int64.le_iff_toInt_le, gi2l, Int32.le_iff_toInt_le, Int32.le_iff_toInt_le]
  exact Iff.rfl
theorem gin4 {x : Int32} : gInL x.toInt64 1 4 ↔ 1 ≤ x ∧ x ≤ 4 := by
  unfold gInL
  rw [Int64.le_iff_toInt_le, Int64.le_iff_toInt_le, gi2l, Int32.le_iff_toInt_le, Int32.le_iff_toInt_le]
  exact Iff.rfl
theorem gIx13 {x : Int32} (h : ¬ x < 0) (h2 : x ≤ 12) : gIx x 13 := gIx_12 h (Int32.not_lt.mp (Int32.not_lt.mpr h2))
theorem gIx13n {x : Int32} (h : x < 0 ∨ ¬ x ≤ 12) : ¬ gIx x 13 := h.elim (fun q => gIx_neg (by decide) q) (fun q => gIx_no12 (Int32.not_le.mp q))
