-- rows of the same colours
def gcO (c : Nat) : Nat := if c = 0 then 1 else if c = 1 then 6 else if c = 2 then 36 else 0
def qP (w : Nat) : Nat → Nat
  | 0 => 0
  | i + 1 => qP w i + gstpO (w / 4 ^ i % 4)
def qCd (w : Nat) : Nat → Nat
  | 0 => 0
  | i + 1 => qCd w i + gcO (w / 4 ^ i % 4)
def qK (w c : Nat) : Nat → Nat
  | 0 => 0
  | i + 1 => qK w c i + if w / 4 ^ i % 4 = c then 1 else 0
theorem qK_le (w c : Nat) : ∀ i, qK w c i ≤ i
  | 0 => Nat.le_refl _
  | i + 1 => by
    have ih := qK_le w c i
    show qK w c i + (if w / 4 ^ i % 4 = c then 1 else 0) ≤ i + 1
    split <;> omega
theorem qP_K (w : Nat) : ∀ i, qP w i = 36 * qK w 0 i + 6 * qK w 1 i + qK w 2 i
  | 0 => rfl
  | i + 1 => by
    have ih := qP_K w i
    have hc : w / 4 ^ i % 4 < 4 := Nat.mod_lt _ (by decide)
    show qP w i + gstpO (w / 4 ^ i % 4) = 36 * (qK w 0 i + if w / 4 ^ i % 4 = 0 then 1 else 0) + 6 * (qK w 1 i + if w / 4 ^ i % 4 = 1 then 1 else 0) + (qK w 2 i + if w / 4 ^ i % 4 = 2 then 1 else 0)
    generalize w / 4 ^ i % 4 = c at hc ⊢
    rcases (show c = 0 ∨ c = 1 ∨ c = 2 ∨ c = 3 by omega) with rfl | rfl | rfl | rfl <;> simp [gstpO] <;> omega
theorem qC_K (w : Nat) : ∀ i, qCd w i = qK w 0 i + 6 * qK w 1 i + 36 * qK w 2 i
  | 0 => rfl
  | i + 1 => by
    have ih := qC_K w i
    have hc : w / 4 ^ i % 4 < 4 := Nat.mod_lt _ (by decide)
    show qCd w i + gcO (w / 4 ^ i % 4) = (qK w 0 i + if w / 4 ^ i % 4 = 0 then 1 else 0) + 6 * (qK w 1 i + if w / 4 ^ i % 4 = 1 then 1 else 0) + 36 * (qK w 2 i + if w / 4 ^ i % 4 = 2 then 1 else 0)
    generalize w / 4 ^ i % 4 = c at hc ⊢
    rcases (show c = 0 ∨ c = 1 ∨ c = 2 ∨ c = 3 by omega) with rfl | rfl | rfl | rfl <;> simp [gcO] <;> omega
theorem qPC {k a b : Nat} (hk : k ≤ 5) : qP a k = qP b k ↔ qCd a k = qCd b k := by
  rw [qP_K, qP_K, qC_K, qC_K]
  have a0 := qK_le a 0 k
  have a1 := qK_le a 1 k
  have a2 := qK_le a 2 k
  have b0 := qK_le b 0 k
  have b1 := qK_le b 1 k
  have b2 := qK_le b 2 k
  omega
theorem qP_b {w k : Nat} (hk : k ≤ 5) : qP w k < 216 := by
  rw [qP_K]
  have a0 := qK_le w 0 k
  have a1 := qK_le w 1 k
  have a2 := qK_le w 2 k
  omega
theorem qC_b {w k : Nat} (hk : k ≤ 5) : qCd w k < 216 := by
  rw [qC_K]
  have a0 := qK_le w 0 k
  have a1 := qK_le w 1 k
  have a2 := qK_le w 2 k
  omega
noncomputable def qR (f t : Nat → Int32) (k w : Nat) : Nat × Nat := gIf (qOn f t w k) (qF f t w k) (0, 1)
def qV (n k w : Nat) : Prop := ∀ i, i < k → gDig w i < n
theorem qR_b {f t : Nat → Int32} (hf : gB2 f) (k w : Nat) : (qR f t k w).1 ≤ 1000000000000000000 ∧ 1 ≤ (qR f t k w).2 ∧ (qR f t k w).2 ≤ 1000000000000000000 := by
  unfold qR
  by_cases h : qOn f t w k
  · rw [gIf_t h]
    have q := qF_b hf k h
    exact ⟨q.1.2, q.2⟩
  · rw [gIf_f h]
    exact ⟨by decide, by decide, by decide⟩
theorem qF_5 {f t : Nat → Int32} {w : Nat} (hf : gB2 f) : ∀ i, qOn f t w i → (qF f t w i).1 ≤ 800 ^ i ∧ (qF f t w i).2 ≤ 800 ^ i
  | 0, _ => ⟨Nat.le_refl _, Nat.le_refl _⟩
  | i + 1, h => by
    have h' : qOn f t w i := fun j hj => h j (by omega)
    have ok := qOk_at hf h' (h i (by omega)).1
    obtain ⟨⟨-, p2, p3⟩, -, p5, p6⟩ := qS_b ok
    have ih := qF_5 hf i h'
    rw [Nat.pow_succ]
    exact ⟨Nat.mul_le_mul (Nat.le_trans p2.2 ih.1) (Nat.le_trans p6.2 (by decide)), Nat.mul_le_mul (Nat.le_trans p5.2 ih.2) p3.2⟩
theorem qF_5s {f t : Nat → Int32} {w i : Nat} (hf : gB2 f) (h : qOn f t w i) (g : qGo f t w i) : (qF f t w (i + 1)).1 ≤ 800 ^ (i + 1) ∧ (qF f t w (i + 1)).2 ≤ 800 ^ (i + 1) := by
  have ok := qOk_at hf h g
  obtain ⟨⟨-, p2, p3⟩, -, p5, p6⟩ := qS_b ok
  have ih := qF_5 hf i h
  rw [Nat.pow_succ]
  exact ⟨Nat.mul_le_mul (Nat.le_trans p2.2 ih.1) (Nat.le_trans p6.2 (by decide)), Nat.mul_le_mul (Nat.le_trans p5.2 ih.2) p3.2⟩
theorem qBigs_5 {f t : Nat → Int32} {w k : Nat} (hf : gB2 f) (hk : k ≤ 5) : ¬ qBigs f t w k := by
  rintro ⟨i, hi, h1, h2, h3⟩
  have q := qF_5s hf h1 h2
  have p : 800 ^ (i + 1) ≤ 800 ^ 5 := Nat.pow_le_pow_right (by decide) (by omega)
  have e : 800 ^ 5 ≤ 1000000000000000000 := by decide
  rcases h3 with h3 | h3
  · exact Nat.not_lt.mpr (Nat.le_trans q.1 (Nat.le_trans p e)) h3
  · exact Nat.not_lt.mpr (Nat.le_trans q.2 (Nat.le_trans p e)) h3
theorem qR_of {f t : Nat → Int32} {w k : Nat} {x : Int32} {a b : Int64} (hf : gB2 f) (hk : k ≤ 5) (h : (x = 1 ∧ qOn f t w k ∧ a = lN (qF f t w k).1 ∧ b = lN (qF f t w k).2) ∨ (x = 1 ∧ qStk f t w k ∧ a = 0 ∧ b = 1) ∨ (x = 0 ∧ qBigs f t w k)) : x = 1 ∧ a = lN (qR f t k w).1 ∧ b = lN (qR f t k w).2 := by
  unfold qR
  rcases h with ⟨h0, h1, h2, h3⟩ | ⟨h0, h1, h2, h3⟩ | ⟨h0, h1⟩
  · rw [gIf_t h1]; exact ⟨h0, h2, h3⟩
  · rw [gIf_f (qStk_no h1)]; exact ⟨h0, h2, h3⟩
  · exact absurd h1 (qBigs_5 hf hk)
-- the tables of first rows
def qA (P : Nat → Nat) (V : Nat → Prop) (r : Nat → Nat × Nat) (j : Nat) : Prop := ∀ a, a < j → ∀ b, b < j → V a → V b → P a = P b → r a = r b
def qTab (A B : Nat → Int64) (P : Nat → Nat) (V : Nat → Prop) (r : Nat → Nat × Nat) (j : Nat) : Prop := ∀ p, p < 216 → (B p = 0 ∧ ∀ a, a < j → V a → ¬ P a = p) ∨ (∃ a, a < j ∧ V a ∧ P a = p ∧ A p = lN (r a).1 ∧ B p = lN (r a).2)
def qRb (r : Nat → Nat × Nat) : Prop := ∀ a, (r a).1 ≤ 1000000000000000000 ∧ 1 ≤ (r a).2 ∧ (r a).2 ≤ 1000000000000000000
theorem qA_0 (P : Nat → Nat) (V : Nat → Prop) (r : Nat → Nat × Nat) : qA P V r 0 := fun _ h => absurd h (Nat.not_lt_zero _)
theorem qTab_0 {A B : Nat → Int64} (P : Nat → Nat) (V : Nat → Prop) (r : Nat → Nat × Nat) (h : ∀ p, p < 216 → B p = 0) : qTab A B P V r 0 := fun p hp => Or.inl ⟨h p hp, fun _ h => absurd h (Nat.not_lt_zero _)⟩
theorem qA_mono {P : Nat → Nat} {V : Nat → Prop} {r : Nat → Nat × Nat} {i j : Nat} (h : qA P V r j) (hi : i ≤ j) : qA P V r i := fun a ha b hb => h a (by omega) b (by omega)
theorem qTab_skip {A B : Nat → Int64} {P : Nat → Nat} {V : Nat → Prop} {r : Nat → Nat × Nat} {j : Nat} (hV : ¬ V j) (h : qTab A B P V r j) : qTab A B P V r (j + 1) := fun p hp =>
  (h p hp).elim (fun q => Or.inl ⟨q.1, fun a ha hv => (Nat.lt_succ_iff_lt_or_eq.mp ha).elim (fun z => q.2 a z hv) (fun z => absurd (z ▸ hv) hV)⟩) (fun ⟨a, ha, q⟩ => Or.inr ⟨a, by omega, q⟩)
theorem qA_s_no {P : Nat → Nat} {V : Nat → Prop} {r : Nat → Nat × Nat} {j : Nat} (hV : ¬ V j) : qA P V r (j + 1) ↔ qA P V r j := by
  refine ⟨fun h => qA_mono h (by omega), fun h a ha b hb va vb e => ?_⟩
  have ea : ¬ a = j := fun z => hV (z ▸ va)
  have eb : ¬ b = j := fun z => hV (z ▸ vb)
  exact h a (by omega) b (by omega) va vb e
theorem lN_p {n : Nat} (h : 1 ≤ n) (h2 : n ≤ 1000000000000000000) : ¬ lN n = 0 := lNz h (by omega)
theorem qTab_new {A B : Nat → Int64} {P : Nat → Nat} {V : Nat → Prop} {r : Nat → Nat × Nat} {j : Nat} (hV : V j) (h : qTab A B P V r j) : qTab (vp_updL A (P j) (lN (r j).1)) (vp_updL B (P j) (lN (r j).2)) P V r (j + 1) := fun p hp => by
  by_cases e : p = P j
  · right
    refine ⟨j, by omega, hV, e.symm, ?_, ?_⟩
    · unfold vp_updL; rw [if_pos e]
    · unfold vp_updL; rw [if_pos e]
  · unfold vp_updL
    rw [if_neg e, if_neg e]
    refine (h p hp).elim (fun q => Or.inl ⟨q.1, fun a ha hv => ?_⟩) (fun ⟨a, ha, q⟩ => Or.inr ⟨a, by omega, q⟩)
    rcases Nat.lt_succ_iff_lt_or_eq.mp ha with z | z
    · exact q.2 a z hv
    · rw [z]; exact fun z => e z.symm
theorem qTab_old {A B : Nat → Int64} {P : Nat → Nat} {V : Nat → Prop} {r : Nat → Nat × Nat} {j : Nat} (h0 : ¬ B (P j) = 0) (h : qTab A B P V r j) : qTab A B P V r (j + 1) := fun p hp => by
  refine (h p hp).elim (fun q => Or.inl ⟨q.1, fun a ha hv => ?_⟩) (fun ⟨a, ha, q⟩ => Or.inr ⟨a, by omega, q⟩)
  rcases Nat.lt_succ_iff_lt_or_eq.mp ha with z | z
  · exact q.2 a z hv
  · rw [z]; exact fun e => h0 (by rw [e]; exact q.1)
theorem qA_s_new {A B : Nat → Int64} {P : Nat → Nat} {V : Nat → Prop} {r : Nat → Nat × Nat} {j : Nat} (hr : qRb r) (hp : P j < 216) (h0 : B (P j) = 0) (h : qTab A B P V r j) : qA P V r (j + 1) ↔ qA P V r j := by
  have key : ∀ a, a < j → V a → ¬ P a = P j := by
    rcases h (P j) hp with q | ⟨a, -, -, -, -, e⟩
    · exact q.2
    · exact absurd (e.symm.trans h0) (lN_p (hr a).2.1 (hr a).2.2)
  refine ⟨fun h => qA_mono h (by omega), fun h a ha b hb va vb e => ?_⟩
  rcases Nat.lt_succ_iff_lt_or_eq.mp ha with z | z <;> rcases Nat.lt_succ_iff_lt_or_eq.mp hb with y | y
  · exact h a z b y va vb e
  · exact absurd (by rw [e, y]) (key a z va)
  · exact absurd (by rw [← e, z]) (key b y vb)
  · rw [z, y]
theorem qA_s_old {A B : Nat → Int64} {P : Nat → Nat} {V : Nat → Prop} {r : Nat → Nat × Nat} {j : Nat} (hr : qRb r) (hV : V j) (hp : P j < 216) (h0 : ¬ B (P j) = 0) (h : qTab A B P V r j) : qA P V r (j + 1) ↔ qA P V r j ∧ (A (P j) = lN (r j).1 ∧ B (P j) = lN (r j).2) := by
  obtain ⟨a0, ha0, va0, pa0, eA, eB⟩ : ∃ a, a < j ∧ V a ∧ P a = P j ∧ A (P j) = lN (r a).1 ∧ B (P j) = lN (r a).2 := by
    rcases h (P j) hp with q | q
    · exact absurd q.1 h0
    · exact q
  constructor
  · intro q
    refine ⟨qA_mono q (by omega), ?_⟩
    have e := q a0 (by omega) j (by omega) va0 hV pa0
    rw [eA, eB, e]
    exact ⟨rfl, rfl⟩
  · rintro ⟨q, e1, e2⟩
    rw [eA, pk_lEQ (Nat.lt_of_le_of_lt (hr a0).1 (by decide)) (Nat.lt_of_le_of_lt (hr j).1 (by decide))] at e1
    rw [eB, pk_lEQ (Nat.lt_of_le_of_lt (hr a0).2.2 (by decide)) (Nat.lt_of_le_of_lt (hr j).2.2 (by decide))] at e2
    have e0 : r a0 = r j := Prod.ext e1 e2
    intro a ha b hb va vb e
    rcases Nat.lt_succ_iff_lt_or_eq.mp ha with z | z <;> rcases Nat.lt_succ_iff_lt_or_eq.mp hb with y | y
    · exact q a z b y va vb e
    · subst y
      exact (q a z a0 ha0 va va0 (e.trans pa0.symm)).trans e0
    · subst z
      exact e0.symm.trans (q a0 ha0 b y va0 vb (pa0.trans e))
    · rw [z, y]
theorem qA_e {P P' : Nat → Nat} {V : Nat → Prop} {r : Nat → Nat × Nat} {j : Nat} (h : ∀ a b, P a = P b ↔ P' a = P' b) : qA P V r j ↔ qA P' V r j :=
  ⟨fun q a ha b hb va vb e => q a ha b hb va vb ((h a b).mpr e), fun q a ha b hb va vb e => q a ha b hb va vb ((h a b).mp e)⟩
def qAl (v : GV) (u k : Nat) : Prop := qA (fun w => qP w k) (qV (vC v u) k) (qR (bS (vS v) u) (tS (vS v) u) k) (4 ^ k)
theorem qAl_C {v : GV} {u k : Nat} (hk : k ≤ 5) : qA (fun w => qCd w k) (qV (vC v u) k) (qR (bS (vS v) u) (tS (vS v) u) k) (4 ^ k) ↔ qAl v u k := (qA_e (fun _ _ => qPC hk)).symm
noncomputable def aFree (v : GV) (a0 a1 : Int32) : Int32 := gIf (okU v a0 ∧ (1 ≤ a1 ∧ a1 ≤ 5)) (gIf (sumS (vS v) (nU a0) = 0) (-2) (gIf (qAl v (nU a0) (nU a1)) 1 0)) (-1)
theorem aFree_at {v : GV} {u k : Nat} (hu : u < vM v) (h8 : u < 8) (h1 : 1 ≤ k) (h5 : k ≤ 5) : aFree v (nI u) (nI k) = gIf (sumS (vS v) u = 0) (-2) (gIf (qAl v u k) 1 0) := by
  unfold aFree
  rw [nU_n (show u < 2147483648 by omega), nU_n (show k < 2147483648 by omega), gIf_t ⟨okU_n hu, (nI_leI (a := 1) (by omega) (by omega)).mpr h1, (nI_leI (b := 5) (by omega) (by omega)).mpr h5⟩]
theorem gin5 {x : Int32} : gInL x.toInt64 1 5 ↔ 1 ≤ x ∧ x ≤ 5 := by
  unfold gInL
  rw [Int64.le_iff_toInt_le, Int64.le_iff_toInt_le, gi2l, Int32.le_iff_toInt_le, Int32.le_iff_toInt_le]
  exact Iff.rfl
theorem gco0 {j i : Nat} (h : nI (j / 4 ^ i % 4) = 0) : nI (qCd j i) + 1 = nI (qCd j (i + 1)) := by
  have hc : j / 4 ^ i % 4 < 4 := Nat.mod_lt _ (by decide)
  have e : j / 4 ^ i % 4 = 0 := (nI_eq (b := 0) (by omega) (by decide)).mp h
  show nI (qCd j i) + nI 1 = nI (qCd j i + gcO (j / 4 ^ i % 4))
  rw [nI_add, e]
  rfl
theorem gco1 {j i : Nat} (h : nI (j / 4 ^ i % 4) = 1) : nI (qCd j i) + 6 = nI (qCd j (i + 1)) := by
  have hc : j / 4 ^ i % 4 < 4 := Nat.mod_lt _ (by decide)
  have e : j / 4 ^ i % 4 = 1 := (nI_eq (b := 1) (by omega) (by decide)).mp h
  show nI (qCd j i) + nI 6 = nI (qCd j i + gcO (j / 4 ^ i % 4))
  rw [nI_add, e]
  rfl
theorem gco2 {j i : Nat} (h : nI (j / 4 ^ i % 4) = 2) : nI (qCd j i) + 36 = nI (qCd j (i + 1)) := by
  have hc : j / 4 ^ i % 4 < 4 := Nat.mod_lt _ (by decide)
  have e : j / 4 ^ i % 4 = 2 := (nI_eq (b := 2) (by omega) (by decide)).mp h
  show nI (qCd j i) + nI 36 = nI (qCd j i + gcO (j / 4 ^ i % 4))
  rw [nI_add, e]
  rfl
theorem gco3 {j i : Nat} (h0 : ¬ nI (j / 4 ^ i % 4) = 0) (h1 : ¬ nI (j / 4 ^ i % 4) = 1) (h2 : ¬ nI (j / 4 ^ i % 4) = 2) : nI (qCd j i) + 0 = nI (qCd j (i + 1)) := by
  have hc : j / 4 ^ i % 4 < 4 := Nat.mod_lt _ (by decide)
  have e : j / 4 ^ i % 4 = 3 := by
    rcases (show j / 4 ^ i % 4 = 0 ∨ j / 4 ^ i % 4 = 1 ∨ j / 4 ^ i % 4 = 2 ∨ j / 4 ^ i % 4 = 3 by omega) with q | q | q | q
    · exact absurd (by rw [q]; rfl) h0
    · exact absurd (by rw [q]; rfl) h1
    · exact absurd (by rw [q]; rfl) h2
    · exact q
  show nI (qCd j i) + nI 0 = nI (qCd j i + gcO (j / 4 ^ i % 4))
  rw [nI_add, e]
  rfl
theorem qV_s {n i j : Nat} : qV n (i + 1) j ↔ qV n i j ∧ gDig j i < n := by
  refine ⟨fun h => ⟨fun z hz => h z (by omega), h i (by omega)⟩, fun h z hz => ?_⟩
  rcases Nat.lt_succ_iff_lt_or_eq.mp hz with q | q
  · exact h.1 z q
  · rw [q]; exact h.2
