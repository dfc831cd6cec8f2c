-- about
theorem gGr4 (t : Nat → Int32) (c : Nat) : gGr t c 4 = 0 + t (c * 4 + 0) + t (c * 4 + 1) + t (c * 4 + 2) + t (c * 4 + 3) := rfl
theorem gGr_n {t : Nat → Int32} {c n : Nat} (hn : n ≤ 4) (hz : ∀ d, d < 4 → n ≤ d → t (c * 4 + d) = 0) : gGr t c n = gGr t c 4 := by
  rw [gGr4]
  rcases (show n = 0 ∨ n = 1 ∨ n = 2 ∨ n = 3 ∨ n = 4 by omega) with rfl | rfl | rfl | rfl | rfl
  · rw [hz 0 (by omega) (by omega), hz 1 (by omega) (by omega), hz 2 (by omega) (by omega), hz 3 (by omega) (by omega)]; rfl
  · rw [hz 1 (by omega) (by omega), hz 2 (by omega) (by omega), hz 3 (by omega) (by omega), Int32.add_zero, Int32.add_zero, Int32.add_zero]; rfl
  · rw [hz 2 (by omega) (by omega), hz 3 (by omega) (by omega), Int32.add_zero, Int32.add_zero]; rfl
  · rw [hz 3 (by omega) (by omega), Int32.add_zero]; rfl
  · rfl
theorem gGr_d {t : Nat → Int32} {c : Nat} (hc : c < 4) (hz : ∀ d, d < 4 → d ≠ c → t (c * 4 + d) = 0) : gGr t c 4 = t (c * 4 + c) := by
  rw [gGr4]
  rcases (show c = 0 ∨ c = 1 ∨ c = 2 ∨ c = 3 by omega) with rfl | rfl | rfl | rfl
  · rw [hz 1 (by omega) (by omega), hz 2 (by omega) (by omega), hz 3 (by omega) (by omega), Int32.add_zero, Int32.add_zero, Int32.add_zero, Int32.zero_add]
  · rw [hz 0 (by omega) (by omega), hz 2 (by omega) (by omega), hz 3 (by omega) (by omega), Int32.add_zero, Int32.add_zero, Int32.add_zero, Int32.zero_add]
  · rw [hz 0 (by omega) (by omega), hz 1 (by omega) (by omega), hz 3 (by omega) (by omega), Int32.add_zero, Int32.add_zero, Int32.add_zero, Int32.zero_add]
  · rw [hz 0 (by omega) (by omega), hz 1 (by omega) (by omega), hz 2 (by omega) (by omega), Int32.add_zero, Int32.add_zero, Int32.add_zero, Int32.zero_add]
theorem gGr_e {t t' : Nat → Int32} {c n : Nat} (hc : c < 4) (hn : n ≤ 4) (h : ∀ j, j < 16 → t j = t' j) : gGr t c n = gGr t' c n := by
  have e : ∀ k, k ≤ 4 → gGr t c k = gGr t' c k := by
    intro k
    induction k with
    | zero => intro _; rfl
    | succ k ih =>
      intro hk
      show gGr t c k + t (c * 4 + k) = gGr t' c k + t' (c * 4 + k)
      rw [ih (by omega), h _ (by omega)]
  exact e n hn
def gZ (t : Nat → Int32) (n : Nat) : Prop := ∀ c, c < 4 → ∀ d, d < 4 → (n ≤ c ∨ n ≤ d) → t (c * 4 + d) = 0
theorem gEv_n {t : Nat → Int32} {n : Nat} (hn : n ≤ 4) (hz : gZ t n) : gEv t n ↔ gEv4 t n := by
  unfold gEv gEv4
  refine ⟨fun h c hc h1 => ?_, fun h c h1 hc => ?_⟩
  · rw [← gGr_n hn (fun d hd q => hz c (by omega) d hd (Or.inr q)), ← gGr_n hn (fun d hd q => hz 0 (by omega) d hd (Or.inr q))]
    exact h c h1 hc
  · rw [gGr_n hn (fun d hd q => hz c (by omega) d hd (Or.inr q)), gGr_n hn (fun d hd q => hz 0 (by omega) d hd (Or.inr q))]
    exact h c hc h1
theorem gLk_n {t : Nat → Int32} {n : Nat} (h2 : 2 ≤ n) (hn : n ≤ 4) (hz : gZ t n) : gLk t n ↔ gLk4 t n := by
  unfold gLk gLk4
  refine ⟨fun h => ?_, fun h => ?_⟩
  · have o : ∀ c, c < 4 → ∀ d, d < 4 → (c = d ∨ t (c * 4 + d) = 0) := by
      intro c hc d hd
      by_cases e : c = d
      · exact Or.inl e
      · right
        by_cases q : n ≤ c ∨ n ≤ d
        · exact hz c hc d hd q
        · rw [h.1 c (by omega) d (by omega), if_neg e]
    have dg : ∀ c, c < 4 → gGr t c 4 = t (c * 4 + c) := fun c hc => gGr_d hc (fun d hd e => (o c hc d hd).elim (fun q => absurd q.symm e) id)
    refine ⟨⟨fun c hc h1 => ?_, ?_⟩, o⟩
    · rw [dg c (by omega), dg 0 (by omega), h.1 c hc c hc, if_pos rfl]
    · rw [dg 0 (by omega)]; exact h.2
  · have dg : ∀ c, c < 4 → gGr t c 4 = t (c * 4 + c) := fun c hc => gGr_d hc (fun d hd e => (h.2 c hc d hd).elim (fun q => absurd q.symm e) id)
    refine ⟨fun c hc d hd => ?_, by have := h.1.2; rw [dg 0 (by omega)] at this; exact this⟩
    by_cases e : c = d
    · subst e
      rw [if_pos rfl]
      by_cases e0 : c = 0
      · subst e0; rfl
      · have := h.1.1 c hc (by omega)
        rw [dg c (by omega), dg 0 (by omega)] at this
        exact this
    · rw [if_neg e]
      exact (h.2 c (by omega) d (by omega)).elim (fun q => absurd q e) id
theorem gEv_e {t t' : Nat → Int32} {n : Nat} (hn : n ≤ 4) (h : ∀ j, j < 16 → t j = t' j) : gEv t n ↔ gEv t' n := by
  unfold gEv
  refine ⟨fun z c h1 hc => ?_, fun z c h1 hc => ?_⟩
  · rw [← gGr_e (by omega) hn h, ← gGr_e (by omega) hn h]; exact z c h1 hc
  · rw [gGr_e (by omega) hn h, gGr_e (by omega) hn h]; exact z c h1 hc
theorem gEv4_e {t t' : Nat → Int32} {n : Nat} (hn : n ≤ 4) (h : ∀ j, j < 16 → t j = t' j) : gEv4 t n ↔ gEv4 t' n := by
  unfold gEv4
  refine ⟨fun z c hc h1 => ?_, fun z c hc h1 => ?_⟩
  · rw [← gGr_e (by omega) (by omega) h, ← gGr_e (by omega) (by omega) h]; exact z c hc h1
  · rw [gGr_e (by omega) (by omega) h, gGr_e (by omega) (by omega) h]; exact z c hc h1
theorem gLk_e {t t' : Nat → Int32} {n : Nat} (hn : n ≤ 4) (h : ∀ j, j < 16 → t j = t' j) : gLk t n ↔ gLk t' n := by
  unfold gLk
  rw [h 0 (by omega)]
  refine ⟨fun z => ⟨fun c hc d hd => ?_, z.2⟩, fun z => ⟨fun c hc d hd => ?_, z.2⟩⟩
  · rw [← h _ (by omega)]; exact z.1 c hc d hd
  · rw [h _ (by omega)]; exact z.1 c hc d hd
theorem gLk4_e {t t' : Nat → Int32} {n : Nat} (hn : n ≤ 4) (h : ∀ j, j < 16 → t j = t' j) : gLk4 t n ↔ gLk4 t' n := by
  unfold gLk4
  rw [gEv4_e hn h, gGr_e (by omega) (by omega) h]
  refine ⟨fun z => ⟨z.1, fun c hc d hd => ?_⟩, fun z => ⟨z.1, fun c hc d hd => ?_⟩⟩
  · rw [← h _ (by omega)]; exact z.2 c hc d hd
  · rw [h _ (by omega)]; exact z.2 c hc d hd
theorem VS_gZ {nc : Nat → Nat} {S : Nat → Int32} (V : VS nc S) {u : Nat} (hu : u < 8) : gZ (tS S u) (nc u) := fun c hc d hd h => (V.2.1 u hu c hc d hd).2 h
theorem RV_n {v : GV} (R : RV v) {u : Nat} (hu : u < 8) : vC v u ≤ 4 := by
  by_cases h : u < vM v
  · exact ((R.2.1 u hu).1 h).2
  · rw [(R.2.1 u hu).2 (by omega)]; omega
theorem KC_ev {σ : GS} {v : GV} (K : KC σ v) (R : RV v) {u : Nat} (hu : u < 8) : gEv (gI σ (8 + u)) (vC v u) ↔ gEv4 (tS (vS v) u) (vC v u) := (gEv_e (RV_n R hu) (fun j hj => KC_t K hu hj)).trans (gEv_n (RV_n R hu) (VS_gZ R.2.2.1 hu))
theorem KC_lk {σ : GS} {v : GV} (K : KC σ v) (R : RV v) {u : Nat} (hu : u < 8) (h2 : 2 ≤ vC v u) : gLk (gI σ (8 + u)) (vC v u) ↔ gLk4 (tS (vS v) u) (vC v u) := (gLk_e (RV_n R hu) (fun j hj => KC_t K hu hj)).trans (gLk_n h2 (RV_n R hu) (VS_gZ R.2.2.1 hu))
theorem KC_gr {σ : GS} {v : GV} (K : KC σ v) (R : RV v) {u c : Nat} (hu : u < 8) (hc : c < 4) : gGr (gI σ (8 + u)) c (vC v u) = gGr (tS (vS v) u) c 4 := (gGr_e hc (RV_n R hu) (fun j hj => KC_t K hu hj)).trans (gGr_n (RV_n R hu) (fun d hd q => VS_gZ R.2.2.1 hu c hc d hd (Or.inr q)))
theorem KM_ev {σ : GS} {v : GV} (K : KM σ v) (R : RV v) {u : Nat} (hu : u < 8) : gEv4 (mT σ u) (vC v u) ↔ gEv4 (tS (vS v) u) (vC v u) := gEv4_e (RV_n R hu) (fun j hj => K.2.2.1 _ (by omega))
theorem KM_lk {σ : GS} {v : GV} (K : KM σ v) (R : RV v) {u : Nat} (hu : u < 8) : gLk4 (mT σ u) (vC v u) ↔ gLk4 (tS (vS v) u) (vC v u) := gLk4_e (RV_n R hu) (fun j hj => K.2.2.1 _ (by omega))
theorem KM_gr {σ : GS} {v : GV} (K : KM σ v) {u c : Nat} (hu : u < 8) (hc : c < 4) : gGr (mT σ u) c 4 = gGr (tS (vS v) u) c 4 := gGr_e hc (by omega) (fun j hj => K.2.2.1 _ (by omega))
noncomputable def fAb (v : GV) (k : Nat) (w : Int32) : Int32 := if w = 0 then nI (vC v k) else if w = 1 then sumS (vS v) k else if w = 2 then vS v (25 * k + 24) else if w = 3 then gIf (gEv4 (tS (vS v) k) (vC v k)) 1 0 else if w = 4 then gIf (gEv4 (tS (vS v) k) (vC v k)) (gGr (tS (vS v) k) 0 4) 0 else if w = 5 then gIf (gLk4 (tS (vS v) k) (vC v k)) 1 0 else if 6 ≤ w.toInt ∧ w.toInt < 6 + (vC v k : Int) then vS v (25 * k + (nU w - 6)) else -1000
noncomputable def fAbout (v : GV) (u w : Int32) : Int32 × GV := (gIf (okU v u) (fAb v (nU u) w) (-1000), v)
theorem fAbout_no {v : GV} {u w : Int32} (h : ¬ okU v u) : fAbout v u w = (-1000, v) := by unfold fAbout; rw [gIf_f h]
theorem fAbout_at {v : GV} {u : Nat} {w x : Int32} (hu : u < vM v) (h8 : u < 8) (h : fAb v u w = x) : fAbout v (nI u) w = (x, v) := by
  unfold fAbout
  rw [gIf_t (okU_n hu), nU_n (by omega), h]
theorem fAb_0 {v : GV} {k : Nat} {w : Int32} (h : w = nI 0) : fAb v k w = nI (vC v k) := by subst h; rfl
theorem fAb_1 {v : GV} {k : Nat} {w : Int32} (h : w = nI 1) : fAb v k w = sumS (vS v) k := by subst h; rfl
theorem fAb_2 {v : GV} {k : Nat} {w : Int32} (h : w = nI 2) : fAb v k w = vS v (25 * k + 24) := by subst h; rfl
theorem fAb_3 {v : GV} {k : Nat} {w : Int32} (h : w = nI 3) : fAb v k w = gIf (gEv4 (tS (vS v) k) (vC v k)) 1 0 := by subst h; rfl
theorem fAb_4 {v : GV} {k : Nat} {w : Int32} (h : w = nI 4) : fAb v k w = gIf (gEv4 (tS (vS v) k) (vC v k)) (gGr (tS (vS v) k) 0 4) 0 := by subst h; rfl
theorem fAb_5 {v : GV} {k : Nat} {w : Int32} (h : w = nI 5) : fAb v k w = gIf (gLk4 (tS (vS v) k) (vC v k)) 1 0 := by subst h; rfl
theorem fAb_6 {v : GV} {k : Nat} {w : Int32} (h : w.toInt < 0 ∨ ((5 : Nat) : Int) < w.toInt) : fAb v k w = if 6 ≤ w.toInt ∧ w.toInt < 6 + (vC v k : Int) then vS v (25 * k + (nU w - 6)) else -1000 := by
  have n0 : ∀ j : Nat, j < 6 → ¬ w = nI j := fun j hj e => by rw [e, nI_toInt (by omega)] at h; omega
  unfold fAb
  rw [if_neg (show ¬ w = 0 from n0 0 (by decide)), if_neg (show ¬ w = 1 from n0 1 (by decide)), if_neg (show ¬ w = 2 from n0 2 (by decide)), if_neg (show ¬ w = 3 from n0 3 (by decide)), if_neg (show ¬ w = 4 from n0 4 (by decide)), if_neg (show ¬ w = 5 from n0 5 (by decide))]
theorem fAb_lo {v : GV} {k : Nat} {w : Int32} (h : w.toInt < 0 ∨ ((5 : Nat) : Int) < w.toInt) (h2 : w < 6) : fAb v k w = -1000 := by
  rw [Int32.lt_iff_toInt_lt] at h2
  have e : (6 : Int32).toInt = 6 := by decide
  rw [fAb_6 h, if_neg (by omega)]
theorem fAb_hi {v : GV} {k n : Nat} {w : Int32} (h : w.toInt < 0 ∨ ((5 : Nat) : Int) < w.toInt) (hn : n = vC v k) (h4 : n ≤ 4) (h2 : 6 + nI n ≤ w) : fAb v k w = -1000 := by
  rw [show (6 : Int32) = nI 6 from rfl, nI_add, Int32.le_iff_toInt_le, nI_toInt (by omega)] at h2
  rw [fAb_6 h, if_neg (by omega)]
theorem fAb_in {v : GV} {k n : Nat} {w : Int32} (h : w.toInt < 0 ∨ ((5 : Nat) : Int) < w.toInt) (hn : n = vC v k) (h4 : n ≤ 4) (h1 : ¬ w < 6) (h2 : ¬ 6 + nI n ≤ w) : ∃ j : Nat, j < n ∧ w = nI (6 + j) ∧ fAb v k w = vS v (25 * k + j) := by
  rw [show (6 : Int32) = nI 6 from rfl, nI_add, Int32.le_iff_toInt_le, nI_toInt (by omega)] at h2
  rw [Int32.lt_iff_toInt_lt] at h1
  have e : (6 : Int32).toInt = 6 := by decide
  refine ⟨w.toInt.toNat - 6, by omega, ?_, ?_⟩
  · rw [show 6 + (w.toInt.toNat - 6) = w.toInt.toNat by omega]
    exact nIn w (by omega)
  · rw [fAb_6 h, if_pos (by omega)]
    rfl
theorem fAb_bd {v : GV} {k : Nat} {w : Int32} {n : Nat} (hn : n = vC v k) (h4 : n ≤ 4) (h : ¬ gInL w.toInt64 0 (5 + nI n).toInt64) : fAb v k w = -1000 := by
  unfold gInL at h
  rw [show (5 : Int32) = nI 5 from rfl, nI_add, Int64.le_iff_toInt_le, Int64.le_iff_toInt_le, gi2l, gi2l, nI_toInt (by omega)] at h
  have e : (0 : Int64).toInt = 0 := by decide
  rw [fAb_6 (by omega), if_neg (by omega)]
theorem fAb_bi {v : GV} {k : Nat} {w : Int32} {n : Nat} (hn : n = vC v k) (h4 : n ≤ 4) (h : gInL w.toInt64 0 (5 + nI n).toInt64) (h6 : w.toInt < 0 ∨ ((5 : Nat) : Int) < w.toInt) : ∃ j : Nat, j < n ∧ w = nI (6 + j) ∧ fAb v k w = vS v (25 * k + j) := by
  unfold gInL at h
  rw [show (5 : Int32) = nI 5 from rfl, nI_add, Int64.le_iff_toInt_le, Int64.le_iff_toInt_le, gi2l, gi2l, nI_toInt (by omega)] at h
  have e : (0 : Int64).toInt = 0 := by decide
  refine ⟨w.toInt.toNat - 6, by omega, ?_, ?_⟩
  · rw [show 6 + (w.toInt.toNat - 6) = w.toInt.toNat by omega]
    exact nIn w (by omega)
  · rw [fAb_6 h6, if_pos (by omega)]
    rfl
-- undo
def vPop (v : GV) : GV := (vM v, vC v, vH v (vL v - 1), vL v - 1, vH v)
def fUndo (v : GV) : Int32 × GV := if vL v = 0 then (-2, v) else (1, vPop v)
theorem RV_pop {v : GV} (R : RV v) (h : ¬ vL v = 0) : RV (vPop v) := ⟨R.1, R.2.1, R.2.2.2 _ (by omega), fun k hk => R.2.2.2 k (by have hk : k < vL v - 1 := hk; omega)⟩
def gCf (σ s : GS) (k r : Nat) : Prop := (∀ w, w < k → ∀ i, i < 25 → uRow s w i = gI σ r (25 * w + i)) ∧ (∀ q, 24 ≤ q → gI s q = gI σ q) ∧ (∀ q, ¬ (22 ≤ q ∧ q < 30) → gN s q = gN σ q) ∧ (∀ q, gL s q = gL σ q) ∧ (∀ q, gG s q = gG σ q)
theorem gCf_0 (σ : GS) (r : Nat) : gCf σ σ 0 r := ⟨fun _ h => absurd h (Nat.not_lt_zero _), fun _ _ => rfl, fun _ _ => rfl, fun _ => rfl, fun _ => rfl⟩
theorem gCf_s {σ s : GS} {k r : Nat} (hk : k < 8) (hr : 24 ≤ r) (h : gCf σ s k r) : gCf σ (uN (uI (uI (uI s k (va_cpy (gI s r) (gI s k) (25 * k) 0 4)) (8 + k) (va_cpy (gI s r) (gI s (8 + k)) (25 * k + 4) 0 16)) (16 + k) (va_cpy (gI s r) (gI s (16 + k)) (25 * k + 4 + 16) 0 4)) (22 + k) (gI s r (25 * k + 24))) (k + 1) r := by
  obtain ⟨h1, h2, h3, h4, h5⟩ := h
  have er := h2 r hr
  refine ⟨fun w hw i hi => ?_, fun q hq => ?_, fun q hq => ?_, h4, h5⟩
  · by_cases e : w = k
    · subst e
      unfold uRow
      rw [gI_uN, gI_uI, if_neg (show ¬ w = 16 + w by omega), gI_uI, if_neg (show ¬ w = 8 + w by omega), gI_uI, if_pos rfl, gI_uN, gI_uI, if_neg (show ¬ 8 + w = 16 + w by omega), gI_uI, if_pos rfl, gI_uN, gI_uI, if_pos rfl, gN_uN, if_pos rfl, er]
      by_cases a4 : i < 4
      · rw [if_pos a4, cpy_lo (by omega) (by omega)]; exact congrArg _ (by omega)
      · by_cases a20 : i < 20
        · rw [if_neg a4, if_pos a20, cpy_lo (by omega) (by omega)]; exact congrArg _ (by omega)
        · by_cases a24 : i < 24
          · rw [if_neg a4, if_neg a20, if_pos a24, cpy_lo (by omega) (by omega)]; exact congrArg _ (by omega)
          · rw [if_neg a4, if_neg a20, if_neg a24]; exact congrArg _ (by omega)
    · rw [← h1 w (by omega) i hi, uRow_neN (by omega), uRow_ne (by omega), uRow_ne (by omega), uRow_ne (by omega)]
  · rw [gI_uN, gI_uI, if_neg (by omega), gI_uI, if_neg (by omega), gI_uI, if_neg (by omega)]; exact h2 q hq
  · rw [gN_uN, if_neg (by omega)]; exact h3 q hq
theorem KC_undo {σ s : GS} {v : GV} {kn : Nat} (K : KC σ v) (h0 : ¬ vL v = 0) (hn : kn < 20) (hx : gN σ 31 = nI kn) (h : gCf (uN (uN σ 30 (nI (vL v - 1))) 31 (nI ((kn + 19) % 20))) s 8 (24 + (kn + 19) % 20)) : KC (uN s 1 (gI s (24 + (kn + 19) % 20) 200)) (vPop v) ∧ FC σ (uN s 1 (gI s (24 + (kn + 19) % 20) 200)) := by
  obtain ⟨k1, k2, k3, k4, kn', k5, k6, k7⟩ := K
  have e : kn = kn' := (nI_eq (by omega) (by omega)).mp (hx.symm.trans k6)
  subst e
  obtain ⟨h1, h2, h3, h4, h5⟩ := h
  have hN : ∀ q, ¬ (22 ≤ q ∧ q < 30) → q ≠ 30 → q ≠ 31 → gN s q = gN σ q := fun q a b c => by rw [h3 q a, gN_uN, if_neg c, gN_uN, if_neg b]
  have hI : ∀ q, 24 ≤ q → gI s q = gI σ q := fun q hq => h2 q hq
  have row : ∀ j, j < 201 → gI σ (24 + (kn + 19) % 20) j = vH v (vL v - 1) j := by
    intro j hj
    rw [← k7 (vL v - 1) (by omega) j hj, show (kn + 20 - vL v + (vL v - 1)) % 20 = (kn + 19) % 20 by omega]
  refine ⟨⟨?_, fun u hu => ?_, fun j hj => ?_, ⟨by show vL v - 1 ≤ 20; omega, ?_⟩, (kn + 19) % 20, by omega, ?_, fun k hk j hj => ?_⟩, ⟨fun q hq => ?_, h4, fun q hq => ?_, fun q hq => h5 q⟩⟩
  · rw [gN_uN, if_neg (by decide), hN 0 (by omega) (by decide) (by decide)]; exact k1
  · rw [gN_uN, if_neg (by omega), hN _ (by omega) (by omega) (by omega)]; exact k2 u hu
  · show cS _ j = vH v (vL v - 1) j
    by_cases q : j < 200
    · have ej : j = 25 * (j / 25) + j % 25 := by omega
      rw [← row j hj, ej, cS_at _ (by omega) (by omega), uRow_neN (by omega), h1 _ (by omega) _ (by omega)]
      rfl
    · have ej : j = 200 := by omega
      subst ej
      rw [← row 200 hj, ← hI _ (by omega)]
      rfl
  · rw [gN_uN, if_neg (by decide), h3 30 (by omega)]; rfl
  · rw [gN_uN, if_neg (by decide), h3 31 (by omega)]; rfl
  · have hk : k < vL v - 1 := hk
    show gI s (24 + ((kn + 19) % 20 + 20 - (vL v - 1) + k) % 20) j = vH v k j
    rw [hI _ (by omega), ← k7 k (by omega) j hj, show ((kn + 19) % 20 + 20 - (vL v - 1) + k) % 20 = (kn + 20 - vL v + k) % 20 by omega]
  · rw [gI_uN, hI q (by omega)]
  · rw [gN_uN, if_neg (by omega), hN q (by omega) (by omega) (by omega)]
theorem KM_undo {σ : GS} {v : GV} {f : Nat → Int32} (K : KM σ v) (h0 : ¬ vL v = 0) (hf : ∀ j, j < 202 → f j = gI σ 54 (202 * (vL v - 1) + j)) : KM (uI (uN σ 34 (nI (vL v - 1))) 53 f) (vPop v) := by
  obtain ⟨k1, k2, k3, k4, k5, k6⟩ := K
  have r := k6 (vL v - 1) (by omega)
  refine ⟨k1, k2, fun j hj => (hf j (by omega)).trans (r.1 j hj), (hf 201 (by omega)).trans r.2, ⟨by show vL v - 1 ≤ 20; omega, rfl⟩, fun k hk => k6 k (by have hk : k < vL v - 1 := hk; omega)⟩
