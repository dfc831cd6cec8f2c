-- the class's walk: what stands in its rows of weights
theorem uNX {σ : GS} {N N' : Nat → Int64} {e : Int64} : uL (uG (uL σ (8 + gP σ / 2 % 2) N) 6 e) (8 + gP (uG (uL σ (8 + gP σ / 2 % 2) N) 6 e) / 2 % 2) N' = uG (uL σ (8 + gP σ / 2 % 2) N') 6 e := by
  show uG (uL (uL σ (8 + gP σ / 2 % 2) N) (8 + gP σ / 2 % 2) N') 6 e = _
  rw [uL_uL]
theorem gNX {σ : GS} {N : Nat → Int64} {e : Int64} : gL (uG (uL σ (8 + gP σ / 2 % 2) N) 6 e) (8 + gP (uG (uL σ (8 + gP σ / 2 % 2) N) 6 e) / 2 % 2) = N := if_pos rfl
theorem wK0 (f t : Nat → Int32) (k x c w : Nat) : w * xK false f t k x c = w := by rw [show xK false f t k x c = 1 from if_neg (by decide), Nat.mul_one]
theorem gof3 {f : Nat → Int32} {a b e j c : Nat} (h : a + b + e ≤ j) (hj : j ≤ 12) (hc : c < 4) : upd (upd (upd (upd f 0 (nI a)) 1 (nI b)) 2 (nI e)) 3 (nI j - nI a - nI b - nI e) c = nI (d3 j (a + 13 * b + 169 * e) c) := by
  obtain ⟨e1, e2, e3⟩ := plc_abe (a := a) (b := b) (e := e) (by omega) (by omega)
  unfold d3
  rw [e1, e2, e3]
  rcases (show c = 0 ∨ c = 1 ∨ c = 2 ∨ c = 3 by omega) with rfl | rfl | rfl | rfl
  · rfl
  · rfl
  · rfl
  · show nI j - nI a - nI b - nI e = nI (j - (a + b + e))
    rw [pk_sub (by omega), pk_sub (by omega), pk_sub (by omega)]
    exact congrArg nI (by omega)
theorem hal_of {σ s : GS} {j : Nat} {al : Nat → Nat → Prop} (h : gI s 47 = gI σ 47) (hal : ∀ c, c < 4 → ((gI σ 47 j < 0 ∨ gI σ 47 j = nI c) ↔ al j c)) : ∀ c, c < 4 → ((gI s 47 j < 0 ∨ gI s 47 j = nI c) ↔ al j c) := by rw [h]; exact hal
def StW (σ s : GS) : Prop := gSk σ s ∧ gP s = gP σ ∧ gI s 47 = gI σ 47 ∧ gL s 10 = gL σ 10 ∧ gL s 11 = gL σ 11 ∧ gG s 7 = gG σ 7 ∧ ∀ q, q < 4 → gG s q = gG σ q
def NowI (σ : GS) (W : Nat → Nat) (Pr : Nat → Prop) : Prop := ∀ x, x < 2197 → gL σ (8 + gP σ % 2) (plc x) = gIf (Pr x) 0 (lN (W x))
noncomputable def IW (wg : Bool) (f t : Nat → Int32) (al : Nat → Nat → Prop) (W : Nat → Nat) (j : Nat) (σ s : GS) (Pr : Nat → Prop) : Prop :=
  NowI s W Pr ∧ (∀ y, y < 2197 → gL s (8 + gP s / 2 % 2) (plc y) = lN (sPr (wX wg f t al W j y) Pr)) ∧ gG s 6 = gG σ 6 + lN (sPr (eX wg f t al W j) Pr)
theorem NowI_e {σ : GS} {W : Nat → Nat} {Pr Pr' : Nat → Prop} (h : ∀ x, x < 2197 → ¬ W x = 0 → (Pr x ↔ Pr' x)) (I : NowI σ W Pr) : NowI σ W Pr' := by
  intro x hx
  rw [I x hx]
  by_cases z : W x = 0
  · rw [z]
    show gIf (Pr x) (0 : Int64) 0 = gIf (Pr' x) (0 : Int64) 0
    by_cases p : Pr x <;> by_cases q : Pr' x
    · rw [gIf_t p, gIf_t q]
    · rw [gIf_t p, gIf_f q]
    · rw [gIf_f p, gIf_t q]
    · rw [gIf_f p, gIf_f q]
  · exact gIf_i (h x hx z) _ _
theorem IW_e {wg : Bool} {f t : Nat → Int32} {al : Nat → Nat → Prop} {W : Nat → Nat} {j : Nat} {σ s : GS} {Pr Pr' : Nat → Prop} (h : ∀ x, x < 2197 → ¬ W x = 0 → (Pr x ↔ Pr' x)) (I : IW wg f t al W j σ s Pr) : IW wg f t al W j σ s Pr' := by
  obtain ⟨i1, i2, i3⟩ := I
  refine ⟨NowI_e h i1, fun y hy => ?_, ?_⟩
  · rw [i2 y hy]
    exact congrArg lN (sPr_e (fun x hx hn => h x hx (fun z => hn (wX_0 z y))))
  · rw [i3]
    exact congrArg (fun z => gG σ 6 + lN z) (sPr_e (fun x hx hn => h x hx (fun z => hn (eX_0 z))))
theorem x0_lt {a b e j : Nat} (h : a + b + e ≤ j) (hj : j ≤ 12) : a + 13 * b + 169 * e < 2197 := by omega
theorem NowI_at {σ : GS} {W : Nat → Nat} {a b e j : Nat} (I : NowI σ W (Lx a b e)) (h : a + b + e ≤ j) (hj : j ≤ 12) : gL σ (8 + gP σ % 2) (a * 169 + b * 13 + e * 1) = lN (W (a + 13 * b + 169 * e)) := by
  have q := I _ (x0_lt h hj)
  rw [plc_at (by omega) (by omega), gIf_f (Lx_n (by omega) (by omega))] at q
  rw [← q]
  exact congrArg _ (by omega)
theorem NowI_s {σ s : GS} {W : Nat → Nat} {a b e j : Nat} (I : NowI σ W (Lx a b e)) (h : a + b + e ≤ j) (hj : j ≤ 12) (hs : gL s (8 + gP s % 2) = vp_updL (gL σ (8 + gP σ % 2)) (a * 169 + b * 13 + e * 1) 0) : NowI s W (Lx a b (e + 1)) := by
  intro x hx
  have hp : plc (a + 13 * b + 169 * e) = a * 169 + b * 13 + e * 1 := by rw [plc_at (by omega) (by omega)]; omega
  rw [hs, ← hp]
  unfold vp_updL
  by_cases z : x = a + 13 * b + 169 * e
  · rw [if_pos (by rw [z]), gIf_t ((Lx_s (by omega) (by omega) x).mpr (Or.inr z))]
  · rw [if_neg (fun q => z (plc_inj hx (x0_lt h hj) q)), I x hx]
    exact gIf_i ⟨fun q => (Lx_s (by omega) (by omega) x).mpr (Or.inl q), fun q => ((Lx_s (by omega) (by omega) x).mp q).elim id (fun w => absurd w z)⟩ _ _
theorem sPr_Lx {φ : Nat → Nat} {a b e j : Nat} (h : a + b + e ≤ j) (hj : j ≤ 12) : sPr φ (Lx a b (e + 1)) = sPr φ (Lx a b e) + φ (a + 13 * b + 169 * e) := sPr_add (x0_lt h hj) (Lx_n (by omega) (by omega)) (fun x _ => Lx_s (by omega) (by omega) x)
theorem IW_skip {wg : Bool} {f t : Nat → Int32} {al : Nat → Nat → Prop} {W : Nat → Nat} {j : Nat} {σ s : GS} {a b e : Nat} (hz : W (a + 13 * b + 169 * e) = 0) (h : a + b + e ≤ j) (hj : j ≤ 12) (I : IW wg f t al W j σ s (Lx a b e)) : IW wg f t al W j σ s (Lx a b (e + 1)) :=
  IW_e (fun x _ hn => ⟨fun q => (Lx_s (by omega) (by omega) x).mpr (Or.inl q), fun q => ((Lx_s (by omega) (by omega) x).mp q).elim id (fun w => absurd (w ▸ hz) hn)⟩) I
theorem nwx {P : Nat} (h : P = 1 ∨ P = 2) : ¬ 8 + P / 2 % 2 = 8 + P % 2 := by omega
theorem IW_go {wg : Bool} {f t : Nat → Int32} {al : Nat → Nat → Prop} {W : Nat → Nat} {j : Nat} {σ s : GS} {a b e : Nat} {o g : Nat → Int32} {N : Nat → Int64} {e' : Int64} (hP : gP s = 1 ∨ gP s = 2) (h : a + b + e ≤ j) (hj : j ≤ 12) (I : IW wg f t al W j σ s (Lx a b e))
    (hN : ∀ y, y < 2197 → N (plc y) = gL s (8 + gP s / 2 % 2) (plc y) + lN (wX wg f t al W j y (a + 13 * b + 169 * e))) (he : e' = gG s 6 + lN (eX wg f t al W j (a + 13 * b + 169 * e))) :
    IW wg f t al W j σ (uG (uL (uI (uI (uL s (8 + gP s % 2) (vp_updL (gL s (8 + gP s % 2)) (a * 169 + b * 13 + e * 1) 0)) 48 o) 49 g) (8 + gP s / 2 % 2) N) 6 e') (Lx a b (e + 1)) := by
  obtain ⟨i1, i2, i3⟩ := I
  refine ⟨NowI_s i1 h hj ?_, fun y hy => ?_, ?_⟩
  · show (if 8 + gP s % 2 = 8 + gP s / 2 % 2 then N else if 8 + gP s % 2 = 8 + gP s % 2 then _ else _) = _
    rw [if_neg (fun q => nwx hP q.symm), if_pos rfl]
  · show (if 8 + gP s / 2 % 2 = 8 + gP s / 2 % 2 then N else _) (plc y) = _
    rw [if_pos rfl, hN y hy, i2 y hy, lN_add, sPr_Lx h hj]
  · show e' = _
    rw [he, i3, Int64.add_assoc, lN_add, sPr_Lx h hj]
theorem StW_r (σ : GS) : StW σ σ := ⟨gSk_r σ, rfl, rfl, rfl, rfl, rfl, fun _ _ => rfl⟩
theorem StW_go {σ s : GS} {A N : Nat → Int64} {o g : Nat → Int32} {e' : Int64} (hP : gP s = 1 ∨ gP s = 2) (S : StW σ s) : StW σ (uG (uL (uI (uI (uL s (8 + gP s % 2) A) 48 o) 49 g) (8 + gP s / 2 % 2) N) 6 e') := by
  obtain ⟨h1, h2, h3, h4, h5, h6, h7⟩ := S
  refine ⟨gSk_G (by omega) (gSk_L (by omega) (gSk_I (by omega) (gSk_I (by omega) (gSk_L (by omega) h1)))), h2, h3, ?_, ?_, h6, fun q hq => by rw [gG_uG, if_neg (by omega)]; exact h7 q hq⟩
  · rw [← h4]
    show (if 10 = 8 + gP s / 2 % 2 then N else if 10 = 8 + gP s % 2 then A else gL s 10) = _
    rw [if_neg (by omega), if_neg (by omega)]
  · rw [← h5]
    show (if 11 = 8 + gP s / 2 % 2 then N else if 11 = 8 + gP s % 2 then A else gL s 11) = _
    rw [if_neg (by omega), if_neg (by omega)]
-- the last step: rows by times and by balls
def StV (σ s : GS) : Prop := gSk σ s ∧ gP s = gP σ ∧ gI s 47 = gI σ 47 ∧ gG s 6 = gG σ 6 ∧ gG s 7 = gG σ 7 ∧ ∀ q, q < 4 → gG s q = gG σ q
noncomputable def tX (W : Nat → Nat) (k c q x : Nat) : Nat := if d3 k x c = q then W x else 0
noncomputable def bX (f t : Nat → Int32) (W : Nat → Nat) (k c z x : Nat) : Nat := gIf (xB f t k x c = nI z) (W x) 0
noncomputable def IV (f t : Nat → Int32) (W : Nat → Nat) (k c : Nat) (s : GS) (Pr : Nat → Prop) : Prop :=
  NowI s W Pr ∧ (∀ y, y < 2197 → gL s (8 + gP s / 2 % 2) (plc y) = 0) ∧ (∀ q, q < 13 → gL s 10 q = lN (sPr (tX W k c q) Pr)) ∧ ∀ z, z < 201 → gL s 11 z = lN (sPr (bX f t W k c z) Pr)
theorem tX_0 {W : Nat → Nat} {k c q x : Nat} (h : W x = 0) : tX W k c q x = 0 := by unfold tX; rw [h]; split <;> rfl
theorem bX_0 {f t : Nat → Int32} {W : Nat → Nat} {k c z x : Nat} (h : W x = 0) : bX f t W k c z x = 0 := by
  unfold bX
  rw [h]
  by_cases p : xB f t k x c = nI z
  · rw [gIf_t p]
  · rw [gIf_f p]
theorem IV_e {f t : Nat → Int32} {W : Nat → Nat} {k c : Nat} {s : GS} {Pr Pr' : Nat → Prop} (h : ∀ x, x < 2197 → ¬ W x = 0 → (Pr x ↔ Pr' x)) (I : IV f t W k c s Pr) : IV f t W k c s Pr' := by
  obtain ⟨i1, i2, i3, i4⟩ := I
  refine ⟨NowI_e h i1, i2, fun q hq => ?_, fun z hz => ?_⟩
  · rw [i3 q hq]
    exact congrArg lN (sPr_e (fun x hx hn => h x hx (fun z => hn (tX_0 z))))
  · rw [i4 z hz]
    exact congrArg lN (sPr_e (fun x hx hn => h x hx (fun z => hn (bX_0 z))))
theorem IV_skip {f t : Nat → Int32} {W : Nat → Nat} {k c : Nat} {s : GS} {a b e : Nat} (hz : W (a + 13 * b + 169 * e) = 0) (h : a + b + e ≤ k) (hj : k ≤ 12) (I : IV f t W k c s (Lx a b e)) : IV f t W k c s (Lx a b (e + 1)) :=
  IV_e (fun x _ hn => ⟨fun q => (Lx_s (by omega) (by omega) x).mpr (Or.inl q), fun q => ((Lx_s (by omega) (by omega) x).mp q).elim id (fun w => absurd (w ▸ hz) hn)⟩) I
theorem IV_go {f t : Nat → Int32} {W : Nat → Nat} {k c : Nat} {s : GS} {a b e m : Nat} {o g : Nat → Int32} (hP : gP s = 1 ∨ gP s = 2) (h : a + b + e ≤ k) (hj : k ≤ 12) (I : IV f t W k c s (Lx a b e)) (hm : xB f t k (a + 13 * b + 169 * e) c = nI m) (hm2 : m ≤ 200) :
    IV f t W k c (uL (uL (uI (uI (uL s (8 + gP s % 2) (vp_updL (gL s (8 + gP s % 2)) (a * 169 + b * 13 + e * 1) 0)) 48 o) 49 g) 10 (vp_updL (gL s 10) (d3 k (a + 13 * b + 169 * e) c) (gL s 10 (d3 k (a + 13 * b + 169 * e) c) + lN (W (a + 13 * b + 169 * e))))) 11 (vp_updL (gL s 11) m (gL s 11 m + lN (W (a + 13 * b + 169 * e))))) (Lx a b (e + 1)) := by
  obtain ⟨i1, i2, i3, i4⟩ := I
  refine ⟨NowI_s i1 h hj ?_, fun y hy => ?_, fun q hq => ?_, fun z hz => ?_⟩
  · show (if 8 + gP s % 2 = 11 then _ else if 8 + gP s % 2 = 10 then _ else if 8 + gP s % 2 = 8 + gP s % 2 then _ else _) = _
    rw [if_neg (by omega), if_neg (by omega), if_pos rfl]
  · show (if 8 + gP s / 2 % 2 = 11 then _ else if 8 + gP s / 2 % 2 = 10 then _ else if 8 + gP s / 2 % 2 = 8 + gP s % 2 then _ else gL s (8 + gP s / 2 % 2)) (plc y) = _
    rw [if_neg (by omega), if_neg (by omega), if_neg (nwx hP)]
    exact i2 y hy
  · show (vp_updL (gL s 10) _ _) q = _
    rw [sPr_Lx h hj]
    unfold vp_updL
    by_cases p : q = d3 k (a + 13 * b + 169 * e) c
    · rw [if_pos p, ← p, i3 q hq, lN_add]
      unfold tX
      rw [if_pos p.symm]
    · rw [if_neg p, i3 q hq]
      unfold tX
      rw [if_neg (fun w => p w.symm), Nat.add_zero]
  · show (vp_updL (gL s 11) _ _) z = _
    rw [sPr_Lx h hj]
    unfold vp_updL
    by_cases p : z = m
    · subst p
      rw [if_pos rfl, i4 z hz, lN_add]
      unfold bX
      rw [gIf_t hm]
    · rw [if_neg p, i4 z hz]
      unfold bX
      rw [gIf_f (fun w => p ((nI_eq (by omega) (by omega)).mp (hm.symm.trans w)).symm), Nat.add_zero]
theorem StV_r (σ : GS) : StV σ σ := ⟨gSk_r σ, rfl, rfl, rfl, rfl, fun _ _ => rfl⟩
theorem StV_go {σ s : GS} {A B D : Nat → Int64} {o g : Nat → Int32} (S : StV σ s) : StV σ (uL (uL (uI (uI (uL s (8 + gP s % 2) A) 48 o) 49 g) 10 B) 11 D) := by
  obtain ⟨h1, h2, h3, h4, h5⟩ := S
  exact ⟨gSk_L (by omega) (gSk_L (by omega) (gSk_I (by omega) (gSk_I (by omega) (gSk_L (by omega) h1)))), h2, h3, h4, h5⟩
theorem d3_le {k x c : Nat} (hc : c < 4) (h : dSum x ≤ k) : d3 k x c ≤ k := by
  unfold dSum at h
  unfold d3
  rcases (show c = 0 ∨ c = 1 ∨ c = 2 ∨ c = 3 by omega) with rfl | rfl | rfl | rfl <;> simp <;> omega
theorem uG_id (σ : GS) (k : Nat) : uG σ k (gG σ k) = σ := by
  refine gS_ext (fun _ => rfl) (fun _ => rfl) (fun _ => rfl) (fun j => ?_) rfl
  rw [gG_uG]
  split
  · rename_i h; rw [h]
  · rfl
theorem gN4 {s : GS} {A : Nat → Int64} {o g : Nat → Int32} {N : Nat → Int64} {φ : Nat → Nat} (hP : gP s = 1 ∨ gP s = 2) (h : ∀ y, y < 2197 → N (plc y) = gL (uI (uI (uL s (8 + gP s % 2) A) 48 o) 49 g) (8 + gP s / 2 % 2) (plc y) + lN (φ y)) : ∀ y, y < 2197 → N (plc y) = gL s (8 + gP s / 2 % 2) (plc y) + lN (φ y) := by
  intro y hy
  rw [h y hy]
  show (if 8 + gP s / 2 % 2 = 8 + gP s % 2 then A else gL s (8 + gP s / 2 % 2)) (plc y) + _ = _
  rw [if_neg (nwx hP)]
-- the walk from step to step
def NowF (s : GS) (W : Nat → Nat) : Prop := ∀ x, x < 2197 → gL s (8 + gP s % 2) (plc x) = lN (W x)
def NextZ (s : GS) : Prop := ∀ x, x < 2197 → gL s (8 + gP s / 2 % 2) (plc x) = 0
def Z10 (s : GS) : Prop := (∀ q, q < 13 → gL s 10 q = 0) ∧ ∀ z, z < 201 → gL s 11 z = 0
def StU (σ s : GS) : Prop := gSk σ s ∧ gI s 47 = gI σ 47 ∧ gG s 7 = gG σ 7 ∧ ∀ q, q < 4 → gG s q = gG σ q
theorem IW_0 {wg : Bool} {f t : Nat → Int32} {al : Nat → Nat → Prop} {W : Nat → Nat} {j : Nat} {s : GS} (h1 : NowF s W) (h2 : NextZ s) : IW wg f t al W j s s (Lx 0 0 0) := by
  refine ⟨fun x hx => by rw [h1 x hx, gIf_f (Lx_0 x)], fun y hy => ?_, ?_⟩
  · rw [h2 y hy, sPr_0 (fun x _ => Lx_0 x)]; rfl
  · rw [sPr_0 (fun x _ => Lx_0 x)]; exact (l_az _).symm
theorem IV_0 {f t : Nat → Int32} {W : Nat → Nat} {k c : Nat} {s : GS} (h1 : NowF s W) (h2 : NextZ s) (h3 : Z10 s) : IV f t W k c s (Lx 0 0 0) := by
  refine ⟨fun x hx => by rw [h1 x hx, gIf_f (Lx_0 x)], h2, fun q hq => ?_, fun z hz => ?_⟩
  · rw [h3.1 q hq, sPr_0 (fun x _ => Lx_0 x)]; rfl
  · rw [h3.2 z hz, sPr_0 (fun x _ => Lx_0 x)]; rfl
theorem NowI_z {s : GS} {W : Nat → Nat} {Pr : Nat → Prop} (I : NowI s W Pr) (h : ∀ x, ¬ W x = 0 → Pr x) (x : Nat) (hx : x < 2197) : gL s (8 + gP s % 2) (plc x) = 0 := by
  rw [I x hx]
  by_cases p : Pr x
  · rw [gIf_t p]
  · rw [gIf_f p, Classical.not_not.mp (fun q => p (h x q))]; rfl
theorem swp {P : Nat} (h : P = 1 ∨ P = 2) : 3 * (P / 2 % 2) % 2 + 2 * (P % 2) = 3 - P := by omega
/-- behind a step: the rows change their places -/
theorem walk_next {wg : Bool} {f t : Nat → Int32} {al : Nat → Nat → Prop} {j n : Nat} {σ s : GS} (hP : gP s = 1 ∨ gP s = 2) (hw : ∀ x, ¬ wW wg f t al j x = 0 → xOk f t n j x) (I : IW wg f t al (wW wg f t al j) j σ s (Lx (j + 1) 0 0)) : NowF (uP (uP s (3 * (gP s / 2 % 2))) (gP (uP s (3 * (gP s / 2 % 2))) % 2 + 2 * (gP s % 2))) (wW wg f t al (j + 1)) ∧ NextZ (uP (uP s (3 * (gP s / 2 % 2))) (gP (uP s (3 * (gP s / 2 % 2))) % 2 + 2 * (gP s % 2))) ∧ gG s 6 = gG σ 6 + lN (sN (eX wg f t al (wW wg f t al j) j) 2197) := by
  obtain ⟨i1, i2, i3⟩ := I
  refine ⟨fun x hx => ?_, fun x hx => ?_, ?_⟩
  · show gL s (8 + (3 * (gP s / 2 % 2) % 2 + 2 * (gP s % 2)) % 2) (plc x) = _
    rw [show 8 + (3 * (gP s / 2 % 2) % 2 + 2 * (gP s % 2)) % 2 = 8 + gP s / 2 % 2 by omega, i2 x hx, wW_x]
    exact congrArg lN (sPr_all (fun z hz hn => Lx_e (hw z (fun q => hn (wX_0 q x))).1))
  · show gL s (8 + (3 * (gP s / 2 % 2) % 2 + 2 * (gP s % 2)) / 2 % 2) (plc x) = 0
    rw [show 8 + (3 * (gP s / 2 % 2) % 2 + 2 * (gP s % 2)) / 2 % 2 = 8 + gP s % 2 by omega]
    exact NowI_z i1 (fun z hn => Lx_e (hw z hn).1) x hx
  · rw [i3]
    exact congrArg (fun z => gG σ 6 + lN z) (sPr_all (fun z hz hn => Lx_e (hw z (fun q => hn (eX_0 q))).1))
/-- what the last step leaves -/
def Fin (f t : Nat → Int32) (W : Nat → Nat) (k c : Nat) (s : GS) : Prop := (∀ j, j < 2197 → gL s 8 j = 0 ∧ gL s 9 j = 0) ∧ (∀ q, q < 13 → gL s 10 q = lN (sN (tX W k c q) 2197)) ∧ ∀ z, z < 201 → gL s 11 z = lN (sN (bX f t W k c z) 2197)
theorem walk_end {f t : Nat → Int32} {W : Nat → Nat} {k c n : Nat} {s : GS} (hP : gP s = 1 ∨ gP s = 2) (hw : ∀ x, ¬ W x = 0 → xOk f t n k x) (I : IV f t W k c s (Lx (k + 1) 0 0)) : Fin f t W k c s := by
  obtain ⟨i1, i2, i3, i4⟩ := I
  refine ⟨fun p hp => ?_, fun q hq => ?_, fun z hz => ?_⟩
  · obtain ⟨x, hx, rfl⟩ := plc_sur hp
    have a := NowI_z i1 (fun z hn => Lx_e (hw z hn).1) x hx
    have b := i2 x hx
    rcases hP with e | e
    · rw [e] at a b; exact ⟨b, a⟩
    · rw [e] at a b; exact ⟨a, b⟩
  · rw [i3 q hq]
    exact congrArg lN (sPr_all (fun z hz hn => Lx_e (hw z (fun q => hn (tX_0 q))).1))
  · rw [i4 z hz]
    exact congrArg lN (sPr_all (fun z hz hn => Lx_e (hw z (fun q => hn (bX_0 q))).1))
theorem walk_0 {σ : GS} {wg : Bool} {f t : Nat → Int32} {al : Nat → Nat → Prop} {A B : Nat → Int64} (hZ : ZA σ) (hA : ∀ j, j < 13 → A j = 0) (hB : ∀ j, j < 201 → B j = 0) : NowF (uL (uL (uG (uL σ 10 A) 6 0) 11 B) (8 + gP σ % 2) (vp_updL (gL σ (8 + gP σ % 2)) 0 1)) (wW wg f t al 0) ∧ NextZ (uL (uL (uG (uL σ 10 A) 6 0) 11 B) (8 + gP σ % 2) (vp_updL (gL σ (8 + gP σ % 2)) 0 1)) ∧ Z10 (uL (uL (uG (uL σ 10 A) 6 0) 11 B) (8 + gP σ % 2) (vp_updL (gL σ (8 + gP σ % 2)) 0 1)) := by
  have z : ∀ q, q = 8 ∨ q = 9 → ∀ j, j < 2197 → gL σ q j = 0 := by
    rintro q (rfl | rfl) j hj
    · exact (hZ.2 j hj).1
    · exact (hZ.2 j hj).2
  refine ⟨fun x hx => ?_, fun x hx => ?_, fun q hq => ?_, fun q hq => ?_⟩
  · show (if 8 + gP σ % 2 = 8 + gP σ % 2 then vp_updL (gL σ (8 + gP σ % 2)) 0 1 else _) (plc x) = lN (if x = 0 then 1 else 0)
    rw [if_pos rfl]
    unfold vp_updL
    by_cases e : x = 0
    · subst e
      rw [if_pos rfl, if_pos (show plc 0 = 0 from rfl)]
      rfl
    · rw [if_neg e, if_neg (show ¬ plc x = 0 from fun q => e (plc_inj (y := 0) hx (by decide) q))]
      exact z _ (by omega) _ (plc_lt hx)
  · show (if 8 + gP σ / 2 % 2 = 8 + gP σ % 2 then _ else if 8 + gP σ / 2 % 2 = 11 then B else if 8 + gP σ / 2 % 2 = 10 then A else gL σ (8 + gP σ / 2 % 2)) (plc x) = 0
    rw [if_neg (nwx hZ.1), if_neg (by omega), if_neg (by omega)]
    exact z _ (by omega) _ (plc_lt hx)
  · show (if 10 = 8 + gP σ % 2 then _ else if 10 = 11 then B else if 10 = 10 then A else gL σ 10) q = 0
    rw [if_neg (by omega), if_neg (by decide), if_pos rfl]
    exact hA q hq
  · show (if 11 = 8 + gP σ % 2 then _ else if 11 = 11 then B else if 11 = 10 then A else gL σ 11) q = 0
    rw [if_neg (by omega), if_pos rfl]
    exact hB q hq
theorem Z10_e {a b : GS} (h1 : gL b 10 = gL a 10) (h2 : gL b 11 = gL a 11) (h : Z10 a) : Z10 b := by unfold Z10; rw [h1, h2]; exact h
-- what stands at the loop's head in the walk
def WJ (wg : Bool) (f t : Nat → Int32) (al : Nat → Nat → Prop) (T s : Int) (k c : Nat) (σ : GS) (j : Nat) (b : GS) : Prop :=
  StU σ b ∧ (gP b = 1 ∨ gP b = 2) ∧ ((j ≤ k ∧ NowF b (wW wg f t al j) ∧ NextZ b ∧ Z10 b ∧ (wg = true → gG b 6 = lN (wE f t al T s j))) ∨ (j = k + 1 ∧ Fin f t (wW wg f t al k) k c b ∧ (wg = true → gG b 6 = lN (wE f t al T s k))))
theorem StU_W {σ a b : GS} (h : StU σ a) (k : StW a b) : StU σ b := ⟨gSk_t h.1 k.1, k.2.2.1.trans h.2.1, k.2.2.2.2.2.1.trans h.2.2.1, fun q hq => (k.2.2.2.2.2.2 q hq).trans (h.2.2.2 q hq)⟩
theorem StU_V {σ a b : GS} (h : StU σ a) (k : StV a b) : StU σ b := ⟨gSk_t h.1 k.1, k.2.2.1.trans h.2.1, k.2.2.2.2.1.trans h.2.2.1, fun q hq => (k.2.2.2.2.2 q hq).trans (h.2.2.2 q hq)⟩
theorem lN_E {f t : Nat → Int32} {al : Nat → Nat → Prop} {T s : Int} {j : Nat} : lN (wE f t al T s j) * lN (dF T s j) + lN (sN (eX true f t al (wW true f t al j) j) 2197) = lN (wE f t al T s (j + 1)) := by
  rw [lN_mul, lN_add, ← sS_x]
  rfl
theorem walk_1 {σ : GS} {wg : Bool} {f t : Nat → Int32} {al : Nat → Nat → Prop} {A B : Nat → Int64} (hZ : ZA σ) (hA : ∀ j, j < 13 → A j = 0) (hB : ∀ j, j < 201 → B j = 0) {T s : Int} {k c : Nat} : WJ wg f t al T s k c σ 0 (uL (uL (uG (uL σ 10 A) 6 0) 11 B) (8 + gP (uL (uG (uL σ 10 A) 6 0) 11 B) % 2) (vp_updL (gL (uL (uG (uL σ 10 A) 6 0) 11 B) (8 + gP (uL (uG (uL σ 10 A) 6 0) 11 B) % 2)) 0 1)) := by
  have e : gL (uL (uG (uL σ 10 A) 6 0) 11 B) (8 + gP (uL (uG (uL σ 10 A) 6 0) 11 B) % 2) = gL σ (8 + gP σ % 2) := by
    show (if 8 + gP σ % 2 = 11 then B else if 8 + gP σ % 2 = 10 then A else gL σ (8 + gP σ % 2)) = _
    rw [if_neg (by omega), if_neg (by omega)]
  rw [e]
  obtain ⟨a1, a2, a3⟩ := walk_0 (wg := wg) (f := f) (t := t) (al := al) hZ hA hB
  exact ⟨⟨gSk_L (by omega) (gSk_L (by omega) (gSk_G (by omega) (gSk_L (by omega) (gSk_r σ)))), rfl, rfl, fun q hq => by show (if q = 6 then (0 : Int64) else gG σ q) = _; rw [if_neg (by omega)]⟩, hZ.1, Or.inl ⟨Nat.zero_le _, a1, a2, a3, fun _ => rfl⟩⟩
theorem StU_P {σ b : GS} {p q : Nat} (h : StU σ b) : StU σ (uP (uP b p) q) := h
theorem Fin_P {f t : Nat → Int32} {W : Nat → Nat} {k c : Nat} {b : GS} {p q : Nat} (h : Fin f t W k c b) : Fin f t W k c (uP (uP b p) q) := h
theorem Z10_P {b : GS} {p q : Nat} (h : Z10 b) : Z10 (uP (uP b p) q) := h
theorem swp2 {P : Nat} (h : P = 1 ∨ P = 2) : 3 * (P / 2 % 2) % 2 + 2 * (P % 2) = 1 ∨ 3 * (P / 2 % 2) % 2 + 2 * (P % 2) = 2 := by omega
theorem WJ_next {wg : Bool} {f t : Nat → Int32} {al : Nat → Nat → Prop} {T s : Int} {k c n j : Nat} {σ s1 b : GS} (hU : StU σ s1) (hP : gP s1 = 1 ∨ gP s1 = 2) (hj : j < k) (hw : ∀ x, ¬ wW wg f t al j x = 0 → xOk f t n j x) (h3 : Z10 s1) (h5 : wg = true → gG s1 6 = lN (wE f t al T s j)) (S : StW (uG s1 6 (gG s1 6 * lN (dF T s j))) b) (I : IW wg f t al (wW wg f t al j) j (uG s1 6 (gG s1 6 * lN (dF T s j))) b (Lx (j + 1) 0 0)) : WJ wg f t al T s k c σ (j + 1) (uP (uP b (3 * (gP b / 2 % 2))) (gP (uP b (3 * (gP b / 2 % 2))) % 2 + 2 * (gP b % 2))) := by
  have hPb : gP b = 1 ∨ gP b = 2 := by rw [S.2.1]; exact hP
  obtain ⟨w1, w2, w3⟩ := walk_next hPb hw I
  refine ⟨StU_P (StU_W (a := uG s1 6 (gG s1 6 * lN (dF T s j))) ⟨gSk_G (by omega) hU.1, hU.2.1, hU.2.2.1, fun q hq => by rw [gG_uG, if_neg (by omega)]; exact hU.2.2.2 q hq⟩ S), swp2 hPb, Or.inl ⟨hj, w1, w2, Z10_P (Z10_e (a := s1) S.2.2.2.1 S.2.2.2.2.1 h3), fun e => ?_⟩⟩
  subst e
  show gG b 6 = _
  rw [w3]
  show gG s1 6 * lN (dF T s j) + _ = _
  rw [h5 rfl]
  exact lN_E
theorem WJ_last {wg : Bool} {f t : Nat → Int32} {al : Nat → Nat → Prop} {T s : Int} {k c n j : Nat} {σ s1 b : GS} (hU : StU σ s1) (hP : gP s1 = 1 ∨ gP s1 = 2) (hj : j = k) (hw : ∀ x, ¬ wW wg f t al j x = 0 → xOk f t n j x) (h5 : wg = true → gG s1 6 = lN (wE f t al T s j)) (S : StV s1 b) (I : IV f t (wW wg f t al j) j c b (Lx (j + 1) 0 0)) : WJ wg f t al T s k c σ (j + 1) (uP (uP b (3 * (gP b / 2 % 2))) (gP (uP b (3 * (gP b / 2 % 2))) % 2 + 2 * (gP b % 2))) := by
  have hPb : gP b = 1 ∨ gP b = 2 := by rw [S.2.1]; exact hP
  subst hj
  refine ⟨StU_P (StU_V hU S), swp2 hPb, Or.inr ⟨rfl, Fin_P (walk_end hPb hw I), fun e => ?_⟩⟩
  show gG b 6 = _
  rw [S.2.2.2.1]
  exact h5 e
theorem WJ_in {wg : Bool} {f t : Nat → Int32} {al : Nat → Nat → Prop} {T s : Int} {k c j : Nat} {σ b : GS} (h : WJ wg f t al T s k c σ j b) (hj : j ≤ k) : NowF b (wW wg f t al j) ∧ NextZ b ∧ Z10 b ∧ (wg = true → gG b 6 = lN (wE f t al T s j)) := h.2.2.elim (fun q => q.2) (fun q => absurd q.1 (by omega))
theorem WJ_out {wg : Bool} {f t : Nat → Int32} {al : Nat → Nat → Prop} {T s : Int} {k c j : Nat} {σ b : GS} (h : WJ wg f t al T s k c σ j b) (hj : j = k + 1) : StU σ b ∧ ZA b ∧ Fin f t (wW wg f t al k) k c b ∧ (wg = true → gG b 6 = lN (wE f t al T s k)) := by
  have q : Fin f t (wW wg f t al k) k c b ∧ (wg = true → gG b 6 = lN (wE f t al T s k)) := h.2.2.elim (fun q => absurd q.1 (by omega)) (fun q => q.2)
  exact ⟨h.1, ⟨h.2.1, q.1.1⟩, q.1, q.2⟩
