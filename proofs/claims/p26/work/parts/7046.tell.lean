-- what the chances say, in numbers
def tn (a : Int32) : Nat := a.toInt.toNat
theorem tn_n {u : Nat} (h : u < 2147483648) : tn (nI u) = u := by
  unfold tn
  rw [nI_toInt h]
  rfl
noncomputable def gFr (y : Int32) (G F : GF) : GF := gIf (y = 0) G F
theorem gFr_y {y : Int32} {G F : GF} (h : y = 0) : gFr y G F = G := gIf_t h
theorem gFr_n {y : Int32} {G F : GF} (h : ¬ y = 0) : gFr y G F = F := gIf_f h
theorem TF_n {σ s : GS} {F G : GF} {x y : Int32} (e : x = y) (hx : ¬ x = 0) (hS : gSk σ s) (hg : ∀ q, q < 4 → gG s q = gG σ q) (hF : CF σ F) (hZ : ZA s) : x = y ∧ gSk σ s ∧ CF s (gFr y G F) ∧ ZA s := ⟨e, hS, by rw [gFr_n (by rw [← e]; exact hx)]; exact CF_e (fun q _ h => hg q h) hF, hZ⟩
theorem TF_y {σ s : GS} {F G : GF} {x y : Int32} (e : x = y) (hx : x = 0) (hS : gSk σ s) (hC : CF s G) (hZ : ZA s) : x = y ∧ gSk σ s ∧ CF s (gFr y G F) ∧ ZA s := ⟨e, hS, by rw [gFr_y (e.symm.trans hx)]; exact hC, hZ⟩
theorem ZA_G {σ : GS} {q : Nat} {y : Int64} (h : ZA σ) : ZA (uG σ q y) := h
theorem ZA_I {σ : GS} {q : Nat} {f : Nat → Int32} (h : ZA σ) : ZA (uI σ q f) := h
def alA : Nat → Nat → Prop := fun _ _ => True
def alJ (j d : Nat) : Nat → Nat → Prop := fun s e => s + 1 = j → e = d
def alIJ (i c j d : Nat) : Nat → Nat → Prop := fun s e => (s + 1 = j → e = d) ∧ (s + 1 = i → e = c)
theorem halA {f : Nat → Int32} (h : ∀ j, j < 12 → f j = -1) {k : Nat} (hk : k ≤ 12) : ∀ j, j < k → ∀ c, c < 4 → ((f j < 0 ∨ f j = nI c) ↔ alA j c) := fun j hj c _ => ⟨fun _ => trivial, fun _ => Or.inl (by rw [h j (by omega)]; decide)⟩
theorem halJ {f : Nat → Int32} (h : ∀ j, j < 12 → f j = -1) {k d : Nat} (h1 : 1 ≤ k) (hk : k ≤ 12) (hd : d < 4) : ∀ j, j < k → ∀ c, c < 4 → ((upd f (k - 1) (nI d) j < 0 ∨ upd f (k - 1) (nI d) j = nI c) ↔ alJ k d j c) := by
  intro j hj c hc
  unfold alJ
  by_cases e : j = k - 1
  · rw [show upd f (k - 1) (nI d) j = nI d from if_pos e]
    refine ⟨fun q _ => q.elim (fun w => absurd w (nI_nn (by omega))) (fun w => ((nI_eq (by omega) (by omega)).mp w).symm), fun q => Or.inr (by rw [q (by omega)])⟩
  · rw [show upd f (k - 1) (nI d) j = f j from if_neg e, h j (by omega)]
    exact ⟨fun _ q => absurd q (by omega), fun _ => Or.inl (by decide)⟩
theorem halIJ {f : Nat → Int32} (h : ∀ j, j < 12 → f j = -1) {i c k d : Nat} (hi : 1 ≤ i) (h1 : i < k) (hk : k ≤ 12) (hc : c < 4) (hd : d < 4) : ∀ j, j < k → ∀ e, e < 4 → ((upd (upd f (k - 1) (nI d)) (i - 1) (nI c) j < 0 ∨ upd (upd f (k - 1) (nI d)) (i - 1) (nI c) j = nI e) ↔ alIJ i c k d j e) := by
  intro j hj e he
  unfold alIJ
  by_cases z : j = i - 1
  · rw [show upd (upd f (k - 1) (nI d)) (i - 1) (nI c) j = nI c from if_pos z]
    refine ⟨fun q => ⟨fun w => absurd w (by omega), fun _ => q.elim (fun w => absurd w (nI_nn (by omega))) (fun w => ((nI_eq (by omega) (by omega)).mp w).symm)⟩, fun q => Or.inr (by rw [q.2 (by omega)])⟩
  · rw [show upd (upd f (k - 1) (nI d)) (i - 1) (nI c) j = upd f (k - 1) (nI d) j from if_neg z]
    refine (halJ h (by omega) hk hd j hj e he).trans ⟨fun q => ⟨q, fun w => absurd w (by omega)⟩, fun q => q.1⟩
theorem wA_ok {v : GV} (R : RV v) {u : Nat} (hu : u < 8) {wg : Bool} {al : Nat → Nat → Prop} {k : Nat} (hk : k ≤ 12) : ∀ x, ¬ wW wg (bS (vS v) u) (tS (vS v) u) al k x = 0 → xOk (bS (vS v) u) (tS (vS v) u) (vC v u) k x := wW_ok (VS_B2 R.2.2.1 hu) (fun d hd h => (R.2.2.1.1 u hu d hd).2.1 h) (fun c hc d hd h => (R.2.2.1.2.1 u hu c hc d hd).2 (Or.inr h)) k hk
theorem wA_sm {v : GV} (R : RV v) {u : Nat} (hu : u < 8) (he : gEv4 (tS (vS v) u) (vC v u)) {k : Nat} (hk : k ≤ 12) (al : Nat → Nat → Prop) : sN (wW true (bS (vS v) u) (tS (vS v) u) al k) 2197 + wE (bS (vS v) u) (tS (vS v) u) al (vT v u) (vG v u) k ≤ dD (vT v u) (vG v u) k := wE_b (VS_B2 R.2.2.1 hu) (fun d hd h => (R.2.2.1.1 u hu d hd).2.1 h) (fun c hc d hd h => (R.2.2.1.2.1 u hu c hc d hd).2 (Or.inr h)) he (VS_9 R.2.2.1 hu) k hk
theorem wA_x {v : GV} (R : RV v) {u : Nat} (hu : u < 8) {wg : Bool} {al : Nat → Nat → Prop} {k x : Nat} (hk : k ≤ 12) : wW wg (bS (vS v) u) (tS (vS v) u) al k x ≤ sN (wW wg (bS (vS v) u) (tS (vS v) u) al k) 2197 := by
  by_cases z : wW wg (bS (vS v) u) (tS (vS v) u) al k x = 0
  · omega
  · exact sN_m 2197 (dSum_lt (wA_ok R hu hk x z).1 hk).1
theorem wA_hb {v : GV} (R : RV v) {u : Nat} (hu : u < 8) (he : gEv4 (tS (vS v) u) (vC v u)) {k : Nat} (hk : k ≤ 12) (hD : dD (vT v u) (vG v u) k ≤ 10000000000000000) (al : Nat → Nat → Prop) : ∀ j, j ≤ k → ∀ x, wW true (bS (vS v) u) (tS (vS v) u) al j x < 9223372036854775808 := by
  intro j hj x
  have h1 := wA_x R hu (wg := true) (al := al) (x := x) (show j ≤ 12 by omega)
  have h4 := wA_sm R hu he (k := j) (by omega) al
  have h5 := dD_m (vT v u) (vG v u) j (k - j)
  rw [show j + (k - j) = k by omega] at h5
  omega
theorem wF_hb {v : GV} (R : RV v) {u : Nat} (hu : u < 8) {k : Nat} (hk : k ≤ 12) (al : Nat → Nat → Prop) : ∀ j, j ≤ k → ∀ x, wW false (bS (vS v) u) (tS (vS v) u) al j x < 9223372036854775808 := by
  intro j hj x
  have h1 := wA_x R hu (wg := false) (al := al) (x := x) (show j ≤ 12 by omega)
  have h2 := wW_4 (f := bS (vS v) u) (t := tS (vS v) u) (al := al) (show j ≤ 12 by omega)
  omega
theorem tX_le {W : Nat → Nat} {k c q x : Nat} : tX W k c q x ≤ W x := by unfold tX; split <;> omega
theorem bX_le {f t : Nat → Int32} {W : Nat → Nat} {k c z x : Nat} : bX f t W k c z x ≤ W x := by
  unfold bX
  by_cases p : xB f t k x c = nI z
  · rw [gIf_t p]; exact Nat.le_refl _
  · rw [gIf_f p]; exact Nat.zero_le _
theorem tX_sum {W : Nat → Nat} {k c : Nat} (h : ∀ x, ¬ W x = 0 → d3 k x c < 13) : sN (fun q => sN (tX W k c q) 2197) 13 = sN W 2197 := by
  refine (sN_swap (fun q x => tX W k c q x) 2197 13).trans (sN_c 2197 (fun x _ => ?_))
  refine (sN_c 13 (ψ := fun q => if q = d3 k x c then W x else 0) (fun q _ => ?_)).trans ((sN_at (W x) (d3 k x c) 13).trans ?_)
  · show tX W k c q x = if q = d3 k x c then W x else 0
    unfold tX
    by_cases e : d3 k x c = q
    · rw [if_pos e, if_pos e.symm]
    · rw [if_neg e, if_neg (fun z => e z.symm)]
  · by_cases z : W x = 0
    · rw [z]; split <;> rfl
    · rw [if_pos (h x z)]
theorem wA_13 {v : GV} (R : RV v) {u : Nat} (hu : u < 8) {wg : Bool} {al : Nat → Nat → Prop} {k c : Nat} (hk : k ≤ 12) (hc : c < 4) : ∀ x, ¬ wW wg (bS (vS v) u) (tS (vS v) u) al k x = 0 → d3 k x c < 13 := fun x h => by have := d3_le (k := k) hc (wA_ok R hu hk x h).1; omega
-- the answers
noncomputable def qTm (v : GV) (u k c q : Nat) : Nat := sN (tX (wW true (bS (vS v) u) (tS (vS v) u) alA k) k c q) 2197
noncomputable def qLf (v : GV) (u k c z : Nat) : Nat := sN (bX (bS (vS v) u) (tS (vS v) u) (wW true (bS (vS v) u) (tS (vS v) u) alA k) k c z) 2197
noncomputable def qMn (v : GV) (u k c m : Nat) : Nat := sN (fun z => qLf v u k c z * z ^ m) 201
def qD (v : GV) (u k : Nat) : Nat := dD (vT v u) (vG v u) k
noncomputable def gTimes (v : GV) (a0 a1 a2 a3 : Int32) : GF := fNew 0 (qTm v (tn a0) (tn a1) (tn a2) (tn a3)) (qD v (tn a0) (tn a1))
noncomputable def gLeft (v : GV) (a0 a1 a2 a3 : Int32) : GF := fNew 0 (if 200 < tn a3 then 0 else qLf v (tn a0) (tn a1) (tn a2) (tn a3)) (qD v (tn a0) (tn a1))
noncomputable def gStuck (v : GV) (a0 a1 : Int32) : GF := fNew 0 (wE (bS (vS v) (tn a0)) (tS (vS v) (tn a0)) alA (vT v (tn a0)) (vG v (tn a0)) (tn a1)) (qD v (tn a0) (tn a1))
noncomputable def gMean (v : GV) (a0 a1 a2 a3 : Int32) : GF := fNew (qMn v (tn a0) (tn a1) (tn a2) (tn a3) / qD v (tn a0) (tn a1)) (qMn v (tn a0) (tn a1) (tn a2) (tn a3) % qD v (tn a0) (tn a1)) (qD v (tn a0) (tn a1))
noncomputable def qTo (v : GV) (u k : Nat) (al : Nat → Nat → Prop) : Nat := sN (wW true (bS (vS v) u) (tS (vS v) u) al k) 2197
noncomputable def gTold (v : GV) (a0 a1 a2 a3 a4 : Int32) : GF := fNew 0 (qTo v (tn a0) (tn a3) (alIJ (tn a1) (tn a2) (tn a3) (tn a4))) (qTo v (tn a0) (tn a3) (alJ (tn a3) (tn a4)))
theorem qTm_le {v : GV} (R : RV v) {u : Nat} (hu : u < 8) (he : gEv4 (tS (vS v) u) (vC v u)) {k c q : Nat} (hk : k ≤ 12) : qTm v u k c q ≤ dD (vT v u) (vG v u) k := Nat.le_trans (sN_le 2197 (fun x _ => tX_le)) (by have := wA_sm R hu he hk alA; omega)
theorem qLf_le {v : GV} (R : RV v) {u : Nat} (hu : u < 8) (he : gEv4 (tS (vS v) u) (vC v u)) {k c z : Nat} (hk : k ≤ 12) : qLf v u k c z ≤ dD (vT v u) (vG v u) k := Nat.le_trans (sN_le 2197 (fun x _ => bX_le)) (by have := wA_sm R hu he hk alA; omega)
theorem qSt_le {v : GV} (R : RV v) {u : Nat} (hu : u < 8) (he : gEv4 (tS (vS v) u) (vC v u)) {k : Nat} (hk : k ≤ 12) (al : Nat → Nat → Prop) : wE (bS (vS v) u) (tS (vS v) u) al (vT v u) (vG v u) k ≤ dD (vT v u) (vG v u) k := by have := wA_sm R hu he hk al; omega
theorem qTo_le {v : GV} (R : RV v) {u : Nat} (hu : u < 8) (he : gEv4 (tS (vS v) u) (vC v u)) {k : Nat} (hk : k ≤ 12) (al : Nat → Nat → Prop) : qTo v u k al ≤ dD (vT v u) (vG v u) k := by unfold qTo; have := wA_sm R hu he hk al; omega
-- the mean, one BALLS at a time
theorem mn_w {w r D B x i : Nat} (hD : 1 ≤ D) (h : w * D + r = B * x ^ i) (hB : B ≤ D) (hx : x ≤ 200) (hi : i ≤ 3) : w ≤ 8000000 := by
  have h1 : x ^ i ≤ 8000000 := Nat.le_trans (Nat.pow_le_pow_left hx i) (Nat.le_trans (Nat.pow_le_pow_right (by decide) hi) (by decide))
  have h2 : B * x ^ i ≤ D * 8000000 := Nat.mul_le_mul hB h1
  have h3 : w * D ≤ 8000000 * D := by rw [Nat.mul_comm 8000000]; omega
  exact Nat.le_of_mul_le_mul_right h3 hD
theorem mn_s {w r D B x i : Nat} (h : w * D + r = B * x ^ i) : (w * x + r * x / D) * D + r * x % D = B * x ^ (i + 1) := by
  have q := Nat.div_add_mod (r * x) D
  rw [Nat.pow_succ, ← Nat.mul_assoc, ← h, Nat.add_mul, Nat.add_mul, Nat.mul_comm (r * x / D) D, Nat.add_assoc, q, Nat.mul_right_comm]
theorem mn_0 {w r D B x i m : Nat} (h : w * D + r = B * x ^ i) (hx : 1 ≤ x) (h0 : r + w = 0) : w * D + r = B * x ^ m := by
  have hr : r = 0 := by omega
  have hw : w = 0 := by omega
  subst hr hw
  rw [Nat.zero_mul] at h ⊢
  rcases Nat.mul_eq_zero.mp h.symm with e | e
  · rw [e, Nat.zero_mul]
  · exact absurd e (Nat.pos_iff_ne_zero.mp (Nat.pow_pos hx))
theorem mn_o {S w r D p : Nat} (hD : 1 ≤ D) (h : w * D + r = p) : (S + p) / D = S / D + (w + (S % D + r) / D) ∧ (S + p) % D = (S % D + r) % D := by
  have e : S + p = (S % D + r) + (S / D + w) * D := by
    have q := Nat.div_add_mod S D
    rw [Nat.add_mul, Nat.mul_comm (S / D)]
    omega
  rw [e, Nat.add_mul_div_right _ _ hD, Nat.add_mul_mod_self_right]
  exact ⟨by omega, rfl⟩
theorem u89 {σ : GS} {a b c d : Int64} : uG (uG (uG (uG σ 8 a) 9 b) 8 c) 9 d = uG (uG σ 8 c) 9 d := by
  refine gS_ext (fun _ => rfl) (fun _ => rfl) (fun _ => rfl) (fun j => ?_) rfl
  show (if j = 9 then d else if j = 8 then c else if j = 9 then b else if j = 8 then a else gG σ j) = (if j = 9 then d else if j = 8 then c else gG σ j)
  by_cases h9 : j = 9
  · rw [if_pos h9, if_pos h9]
  · by_cases h8 : j = 8
    · subst h8; rfl
    · simp only [if_neg h9, if_neg h8]
theorem mn_i {B : Nat → Nat} {m : Nat} (h : 1 ≤ m) : sN (fun z => B z * z ^ m) 1 = 0 := by
  show 0 + B 0 * 0 ^ m = 0
  rw [Nat.zero_pow h]
  rfl
theorem lN_le0 {n : Nat} (h : n < 9223372036854775808) : lN n ≤ 0 ↔ n = 0 := by
  refine ⟨fun q => ?_, fun q => by rw [q]; exact Int64.le_refl _⟩
  by_cases z : n = 0
  · exact z
  · exact absurd ((pk_lLE (b := 0) h (by decide)).mp q) (by omega)
