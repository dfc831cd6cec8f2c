-- the reference's answers
theorem TG_n {σ s : GS} {F G : GF} {x y : Int32} (e : x = y) (hx : ¬ x = 0) (hS : gSn σ s) (hM : MF s F) : x = y ∧ gSn σ s ∧ MF s (gFr y G F) := ⟨e, hS, by rw [gFr_n (by rw [← e]; exact hx)]; exact hM⟩
theorem TG_y {σ s : GS} {F G : GF} {x y : Int32} (e : x = y) (hx : x = 0) (hS : gSn σ s) (hM : MF s G) : x = y ∧ gSn σ s ∧ MF s (gFr y G F) := ⟨e, hS, by rw [gFr_y (e.symm.trans hx)]; exact hM⟩
theorem TH_n {σ s : GS} {F G : GF} {P : Prop} (h : ¬ P) (hS : gSn σ s) (hM : MF s F) : gSn σ s ∧ MF s (gIf P G F) := ⟨hS, by rw [gIf_f h]; exact hM⟩
theorem TH_y {σ s : GS} {F G : GF} {P : Prop} (h : P) (hS : gSn σ s) (hM : MF s G) : gSn σ s ∧ MF s (gIf P G F) := ⟨hS, by rw [gIf_t h]; exact hM⟩
theorem MF_15 {σ : GS} {F : GF} {y : Int64} (h : MF σ F) : MF (uG σ 15 y) F := h
theorem nI_s0 {r : Nat} (h : r < 12) : ¬ nI r + 1 = 0 := by
  rw [nI_1]
  exact fun z => absurd ((nI_eq (a := r + 1) (b := 0) (by omega) (by decide)).mp z) (by omega)
theorem nI_sj {r j : Nat} (h : r < 12) (hj : j ≤ 12) : nI r + 1 = nI j ↔ r + 1 = j := by
  rw [nI_1]
  exact nI_eq (by omega) (by omega)
theorem hM_A {k : Nat} (hk : k ≤ 12) : ∀ r, r < k → ∀ e, e < 4 → (((nI r + 1 = 0 → (0 : Int32) = nI e) ∧ (nI r + 1 = 0 → (0 : Int32) = nI e)) ↔ alA r e) := fun r hr e _ => ⟨fun _ => trivial, fun _ => ⟨fun z => absurd z (nI_s0 (by omega)), fun z => absurd z (nI_s0 (by omega))⟩⟩
theorem hM_J {j d : Nat} (hj : j ≤ 12) (hd : d < 4) : ∀ r, r < j → ∀ e, e < 4 → (((nI r + 1 = 0 → (0 : Int32) = nI e) ∧ (nI r + 1 = nI j → nI d = nI e)) ↔ alJ j d r e) := fun r hr e he =>
  ⟨fun h z => ((nI_eq (by omega) (by omega)).mp (h.2 ((nI_sj (by omega) hj).mpr z))).symm, fun h => ⟨fun z => absurd z (nI_s0 (by omega)), fun z => by rw [h ((nI_sj (by omega) hj).mp z)]⟩⟩
theorem hM_IJ {i c j d : Nat} (hi : i < j) (hj : j ≤ 12) (hc : c < 4) (hd : d < 4) : ∀ r, r < j → ∀ e, e < 4 → (((nI r + 1 = nI i → nI c = nI e) ∧ (nI r + 1 = nI j → nI d = nI e)) ↔ alIJ i c j d r e) := fun r hr e he =>
  ⟨fun h => ⟨fun z => ((nI_eq (by omega) (by omega)).mp (h.2 ((nI_sj (by omega) hj).mpr z))).symm, fun z => ((nI_eq (by omega) (by omega)).mp (h.1 ((nI_sj (by omega) (by omega)).mpr z))).symm⟩,
   fun h => ⟨fun z => by rw [h.2 ((nI_sj (by omega) (by omega)).mp z)], fun z => by rw [h.1 ((nI_sj (by omega) hj).mp z)]⟩⟩
theorem tn_e {x : Int32} (h : 0 ≤ x ∧ x ≤ 400) : x = nI (tn x) ∧ tn x ≤ 400 := by
  obtain ⟨n, hn, rfl⟩ := nI_of (Int32.not_lt.mpr h.1)
  rw [tn_n hn]
  exact ⟨rfl, (nI_leI (b := 400) hn (by decide)).mp h.2⟩
theorem qLf_big {v : GV} (R : RV v) {u : Nat} (hu : u < 8) {k c z : Nat} (hk : k ≤ 12) (hc : c < 4) (hz : 200 < z) (hz2 : z ≤ 400) : qLf v u k c z = 0 := by
  refine sN_z0 2197 (fun x _ => ?_)
  by_cases h : wW true (bS (vS v) u) (tS (vS v) u) alA k x = 0
  · exact bX_0 h
  · have q := xB_n (wA_ok R hu hk x h) hc
    unfold bX
    rw [gIf_f]
    intro e
    rw [q.1] at e
    have := (nI_eq (by omega) (by omega)).mp e
    omega
theorem gLeft_q {v : GV} (R : RV v) {u : Nat} (hu : u < 8) {k c z : Nat} (hk : k ≤ 12) (hc : c < 4) (hz : z ≤ 400) : (if 200 < z then 0 else qLf v u k c z) = qLf v u k c z := by
  by_cases h : 200 < z
  · rw [if_pos h, qLf_big R hu hk hc h hz]
  · rw [if_neg h]
noncomputable def mX (f t : Nat → Int32) (W : Nat → Nat) (k c m x : Nat) : Nat := W x * (xB f t k x c).toInt.toNat ^ m
theorem mX_0 {f t : Nat → Int32} {W : Nat → Nat} {k c m x : Nat} (h : W x = 0) : mX f t W k c m x = 0 := by unfold mX; rw [h, Nat.zero_mul]
theorem qMn_e {v : GV} (R : RV v) {u : Nat} (hu : u < 8) {k c m : Nat} (hk : k ≤ 12) (hc : c < 4) : sN (mX (bS (vS v) u) (tS (vS v) u) (wW true (bS (vS v) u) (tS (vS v) u) alA k) k c m) 2197 = qMn v u k c m := by
  unfold qMn qLf
  rw [show (fun z => sN (bX (bS (vS v) u) (tS (vS v) u) (wW true (bS (vS v) u) (tS (vS v) u) alA k) k c z) 2197 * z ^ m) = (fun z => sN (fun x => bX (bS (vS v) u) (tS (vS v) u) (wW true (bS (vS v) u) (tS (vS v) u) alA k) k c z x * z ^ m) 2197) from funext (fun z => (sN_mul _ (z ^ m) 2197).symm),
    sN_swap (fun z x => bX (bS (vS v) u) (tS (vS v) u) (wW true (bS (vS v) u) (tS (vS v) u) alA k) k c z x * z ^ m) 2197 201]
  refine sN_c 2197 (fun x _ => ?_)
  by_cases h : wW true (bS (vS v) u) (tS (vS v) u) alA k x = 0
  · rw [mX_0 h]
    exact (sN_z0 201 (fun z _ => by rw [bX_0 h, Nat.zero_mul])).symm
  · have q := xB_n (wA_ok R hu hk x h) hc
    refine Eq.symm ((sN_c 201 (ψ := fun z => if z = (xB (bS (vS v) u) (tS (vS v) u) k x c).toInt.toNat then mX (bS (vS v) u) (tS (vS v) u) (wW true (bS (vS v) u) (tS (vS v) u) alA k) k c m x else 0) (fun z hz => ?_)).trans ((sN_at _ _ 201).trans (if_pos (by omega))))
    show bX _ _ _ k c z x * z ^ m = if z = (xB (bS (vS v) u) (tS (vS v) u) k x c).toInt.toNat then _ else 0
    unfold bX
    by_cases e : z = (xB (bS (vS v) u) (tS (vS v) u) k x c).toInt.toNat
    · rw [if_pos e, gIf_t (by rw [e]; exact q.1), e]
      rfl
    · rw [if_neg e, gIf_f (fun p => e ((nI_eq (by omega) (by omega)).mp (q.1.symm.trans p)).symm), Nat.zero_mul]
theorem mn_t {a b w r D S p : Nat} (h1 : a * D + b = S) (h2 : w * D + r = p) : (a + (w + (b + r) / D)) * D + (b + r) % D = S + p := by
  have q := Nat.div_add_mod (b + r) D
  rw [Nat.add_mul, Nat.add_mul, Nat.mul_comm ((b + r) / D) D]
  omega
theorem mn_u {a b D M : Nat} (hD : 1 ≤ D) (h : a * D + b = M) (hb : b < D) : a = M / D ∧ b = M % D := by
  rw [← h, Nat.add_comm (a * D) b, Nat.add_mul_div_right _ _ hD, Nat.add_mul_mod_self_right, Nat.div_eq_of_lt hb, Nat.mod_eq_of_lt hb, Nat.zero_add]
  exact ⟨rfl, rfl⟩
-- a row of DRAWS of the reference
def gSv (σ σ' : GS) : Prop := (∀ q, ¬ q = 57 → gI σ' q = gI σ q) ∧ (∀ q, gL σ' q = gL σ q) ∧ (∀ q, gN σ' q = gN σ q) ∧ (∀ q, ¬ (q = 13 ∨ q = 14) → gG σ' q = gG σ q) ∧ gP σ' = gP σ
theorem gSv_r (σ : GS) : gSv σ σ := ⟨fun _ _ => rfl, fun _ => rfl, fun _ => rfl, fun _ _ => rfl, rfl⟩
theorem gSv_t {a b c : GS} (h : gSv a b) (k : gSv b c) : gSv a c := ⟨fun q hq => (k.1 q hq).trans (h.1 q hq), fun q => (k.2.1 q).trans (h.2.1 q), fun q => (k.2.2.1 q).trans (h.2.2.1 q), fun q hq => (k.2.2.2.1 q hq).trans (h.2.2.2.1 q hq), k.2.2.2.2.trans h.2.2.2.2⟩
theorem gSv_I {a s : GS} {k : Nat} {f : Nat → Int32} (hk : k = 57) (h : gSv a s) : gSv a (uI s k f) := ⟨fun q hq => by rw [gI_uI, if_neg (show ¬ q = k by omega)]; exact h.1 q hq, h.2.1, h.2.2.1, h.2.2.2⟩
theorem gSv_G {a s : GS} {k : Nat} {v : Int64} (hk : k = 13 ∨ k = 14) (h : gSv a s) : gSv a (uG s k v) := ⟨h.1, h.2.1, h.2.2.1, fun q hq => by rw [gG_uG, if_neg (show ¬ q = k by omega)]; exact h.2.2.2.1 q hq, h.2.2.2.2⟩
theorem gSv.n {a b : GS} (h : gSv a b) : gSn a b := ⟨fun q hq => h.1 q (by omega), fun q _ => h.2.1 q, fun q _ => h.2.2.1 q, fun q hq => h.2.2.2.1 q (by omega), fun z => by rw [h.2.2.2.1 12 (by omega)]; exact z, h.2.2.2.2⟩
theorem gSv.m {a b : GS} (h : gSv a b) : gSm a b := h.n.m
theorem KM_sv {a b : GS} {v : GV} (F : gSv a b) (K : KM a v) : KM b v := KM_sn F.n K
theorem mT_sv {σ s : GS} (h : gSv σ s) (u : Nat) : mT s u = mT σ u := mT_s h.m u
theorem mB_sv {σ s : GS} (h : gSv σ s) (u : Nat) : mB s u = mB σ u := mB_s h.m u
theorem MF_v {a b : GS} {F : GF} (h : gSv a b) (E : MF a F) : MF b F := MF_e (fun q _ _ => h.2.2.2.1 q (by omega)) E
theorem gin_i {x y : Int32} (h1 : 1 ≤ x) (h2 : x < y) (h3 : y ≤ 12) : gInL x.toInt64 1 12 := by
  unfold gInL
  rw [Int32.le_iff_toInt_le] at h1 h3
  rw [Int32.lt_iff_toInt_lt] at h2
  have e1 : (1 : Int32).toInt = 1 := by decide
  have e2 : (12 : Int32).toInt = 12 := by decide
  have e3 : (1 : Int64).toInt = 1 := by decide
  have e4 : (12 : Int64).toInt = 12 := by decide
  rw [Int64.le_iff_toInt_le, Int64.le_iff_toInt_le, gi2l]
  exact ⟨by omega, by omega⟩
theorem gin_k {x y : Int32} (h : gInL x.toInt64 1 12) (h2 : x < y) (h3 : y ≤ 12) : gInL y.toInt64 (x + 1).toInt64 12 := by
  obtain ⟨k, a1, a2, rfl⟩ := gin13 (m := 12) (by decide) (by decide) (by decide) h
  rw [Int32.le_iff_toInt_le] at h3
  rw [Int32.lt_iff_toInt_lt, nI_toInt (by omega)] at h2
  have e2 : (12 : Int32).toInt = 12 := by decide
  have e4 : (12 : Int64).toInt = 12 := by decide
  unfold gInL
  rw [show nI k + 1 = nI (k + 1) from nI_1 k, Int64.le_iff_toInt_le, Int64.le_iff_toInt_le, gi2l, gi2l, nI_toInt (by omega)]
  exact ⟨by omega, by omega⟩
