-- shake: the view behind d draws
def wSh (v : GV) (u d : Nat) (S : Nat → Nat → Int32) : GV := if d = 0 then v else vSet (vKeep v) (S d)
noncomputable def wQ (v : GV) (u d : Nat) : GV := wSh v u d (pSq (vS v) u)
theorem wQ_S (v : GV) (u d : Nat) : vS (wQ v u d) = pSq (vS v) u d := by
  unfold wQ wSh
  by_cases h : d = 0
  · rw [if_pos h, h]; rfl
  · rw [if_neg h]; rfl
theorem wQ_M (v : GV) (u d : Nat) : vM (wQ v u d) = vM v := by
  unfold wQ wSh
  by_cases h : d = 0
  · rw [if_pos h]
  · rw [if_neg h]; rfl
theorem wQ_C (v : GV) (u d : Nat) : vC (wQ v u d) = vC v := by
  unfold wQ wSh
  by_cases h : d = 0
  · rw [if_pos h]
  · rw [if_neg h]; rfl
theorem wQ_0 (v : GV) (u : Nat) : wQ v u 0 = v := by
  unfold wQ wSh
  rw [if_pos rfl]
theorem wQ_e {v : GV} {u d : Nat} (h : d = 0) : wQ v u d = v := by
  unfold wQ wSh
  rw [if_pos h]
theorem wQ_p {v : GV} {u d : Nat} (h : ¬ d = 0) : wQ v u d = vSet (vKeep v) (pSq (vS v) u d) := by
  unfold wQ wSh
  rw [if_neg h]
theorem wQ_k {v : GV} {u d : Nat} (h : d = 0) : vKeep v = vSet (vKeep v) (pSq (vS v) u d) := by
  rw [h]; rfl
theorem wQ_R {v : GV} {u d : Nat} (R : RV v) (V : VS (vC v) (pSq (vS v) u d)) : RV (wQ v u d) := by
  by_cases h : d = 0
  · rw [wQ_e h]; exact R
  · rw [wQ_p h]; exact RV_set (RV_keep R) V
theorem pSq_n {S : Nat → Int32} {u d len : Nat} (h : pLen (pSq S u d) u (nU (pSq S u d 200)) len) : pSq S u (d + 1) = pEnd (pSq S u d) u (nU (pSq S u d 200)) len := by
  show pEnd _ _ _ (pL _ _ _) = _
  rw [pL_eq h]
theorem wQ_n {v : GV} {u d len : Nat} (h : pLen (pSq (vS v) u d) u (nU (pSq (vS v) u d 200)) len) : vSet (vSet (vKeep v) (pSq (vS v) u d)) (pEnd (pSq (vS v) u d) u (nU (pSq (vS v) u d 200)) len) = wQ v u (d + 1) := by
  rw [wQ_p (Nat.succ_ne_zero d), pSq_n h]
  rfl
theorem pSq_V {nc : Nat → Nat} {S : Nat → Int32} {u d len : Nat} (V : VS nc (pSq S u d)) (h8 : u < 8) (h : pLen (pSq S u d) u (nU (pSq S u d 200)) len) : VS nc (pSq S u (d + 1)) := by
  rw [pSq_n h]
  exact VS_pEnd V h8 (VS_seed V).2 h.1
theorem pSq_N {S : Nat → Int32} {u d len : Nat} (h : pLen (pSq S u d) u (nU (pSq S u d 200)) len) (hns : ∀ i, i < d → ¬ sStk S u i) : ∀ i, i < d + 1 → ¬ sStk S u i := fun i hi =>
  (Nat.lt_succ_iff_lt_or_eq.mp hi).elim (fun q => hns i q) (fun q => by rw [q]; exact pLen_n h)
theorem g150 {x : Int32} (h1 : ¬ x < 1) (h2 : x ≤ 50) : ∃ n : Nat, 1 ≤ n ∧ n ≤ 50 ∧ x = nI n := by
  rw [Int32.lt_iff_toInt_lt] at h1
  rw [Int32.le_iff_toInt_le] at h2
  have e1 : (1 : Int32).toInt = 1 := by decide
  have e2 : (50 : Int32).toInt = 50 := by decide
  exact ⟨x.toInt.toNat, by omega, by omega, nIn x (by omega)⟩
theorem gin50 {x : Int32} : gInL x.toInt64 1 50 ↔ ¬ x < 1 ∧ x ≤ 50 := by
  unfold gInL
  rw [Int64.le_iff_toInt_le, Int64.le_iff_toInt_le, gi2l, Int32.lt_iff_toInt_lt, Int32.le_iff_toInt_le]
  have e1 : (1 : Int32).toInt = 1 := by decide
  have e2 : (50 : Int32).toInt = 50 := by decide
  have e3 : (1 : Int64).toInt = 1 := by decide
  have e4 : (50 : Int64).toInt = 50 := by decide
  rw [e1, e2, e3, e4]
  omega
-- a draw by seed, of the reference
def mTab (σ : GS) (S : Nat → Int32) (u0 s0 len : Nat) : Prop := len ≤ 8 ∧ gN σ 35 = nI len ∧ gN σ 36 = nI (pE S u0 s0 len) ∧ ∀ i, i < len → gI σ 55 i = pA S u0 s0 i ∧ gI σ 56 i = nI (pC S u0 s0 i)
theorem mTab_s {s : GS} {S : Nat → Int32} {u0 s0 i k a : Nat} (h : mTab s S u0 s0 i) (h8 : i < 8) (ea : pA S u0 s0 i = nI a) (ek : k = pC S u0 s0 i) : mTab (uN (uI (uI (uN s 36 (nI (pS (pE S u0 s0 i)))) 55 (upd (gI s 55) i (nI a))) 56 (upd (gI s 56) i (nI k))) 35 (nI (i + 1))) S u0 s0 (i + 1) := by
  obtain ⟨-, h2, h3, h4⟩ := h
  refine ⟨by omega, rfl, rfl, fun j hj => ?_⟩
  rw [gI_uN, gI_uI, if_neg (by decide), gI_uI, if_pos rfl, gI_uN, gI_uI, if_pos rfl]
  by_cases e : j = i
  · subst e
    rw [pk_us, pk_us, ek, ea]
    exact ⟨rfl, rfl⟩
  · rw [pk_un e, pk_un e]
    exact h4 j (by omega)
theorem mTab_d {a b : GS} {S : Nat → Int32} {u0 s0 len : Nat} (h : mTab a S u0 s0 len) (F : FD a b) : mTab b S u0 s0 len := by
  obtain ⟨f1, f2, f3, f4⟩ := F
  unfold mTab
  rw [f1, f2, f3, f4]
  exact h
theorem mRd (s : GS) (y x : Int32) (f g : Nat → Int32) : gI (uN (uI (uI (uN s 36 y) 55 f) 56 g) 35 x) 53 = gI s 53 := rfl
theorem KM_gs {s : GS} {v : GV} (K : KM s v) {a n : Nat} (ha : a < 8) (hn : n ≤ 4) : gsum (mB s a) n = gsum (bS (vS v) a) n := gsum_e n (fun j hj => K.2.2.1 _ (by omega))
theorem mcol {s : GS} {v : GV} (K : KM s v) {a c x : Nat} (ha : a < 8) (hc : c < 4) (h1 : ∀ j, j < c → ¬ nI x < gsum (mB s a) (j + 1)) (h2 : nI x < gsum (mB s a) (c + 1)) : c = pCol (vS v) a x :=
  pCol_of hc (fun j hj => by rw [← KM_gs K ha (by omega)]; exact h1 j hj) (by rw [← KM_gs K ha (by omega)]; exact h2)
