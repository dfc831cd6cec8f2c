-- what stands, of the class or of the reference: how many urns, their colours, the row, the kept rows
abbrev GV : Type := Nat × (Nat → Nat) × (Nat → Int32) × Nat × (Nat → Nat → Int32)
def vM (v : GV) : Nat := v.1
def vC (v : GV) : Nat → Nat := v.2.1
def vS (v : GV) : Nat → Int32 := v.2.2.1
def vL (v : GV) : Nat := v.2.2.2.1
def vH (v : GV) : Nat → Nat → Int32 := v.2.2.2.2
def vKeep (v : GV) : GV := (vM v, vC v, vS v, (if vL v < 20 then vL v + 1 else 20), fun k => if vL v < 20 then (if k = vL v then vS v else vH v k) else if k = 19 then vS v else vH v (k + 1))
def vSet (v : GV) (S : Nat → Int32) : GV := (vM v, vC v, S, vL v, vH v)
def DS (S : Nat → Int32) : Int32 := gsum (fun u => S (25 * u + 24)) 8
def KC (σ : GS) (v : GV) : Prop := gN σ 0 = nI (vM v) ∧ (∀ u, u < 8 → gN σ (14 + u) = nI (vC v u)) ∧ (∀ j, j < 201 → cS σ j = vS v j) ∧ (vL v ≤ 20 ∧ gN σ 30 = nI (vL v)) ∧ ∃ kn : Nat, kn < 20 ∧ gN σ 31 = nI kn ∧ ∀ k, k < vL v → ∀ j, j < 201 → gI σ (24 + (kn + 20 - vL v + k) % 20) j = vH v k j
def KM (σ : GS) (v : GV) : Prop := gN σ 33 = nI (vM v) ∧ (∀ u, u < 8 → gI σ 52 u = nI (vC v u)) ∧ (∀ j, j < 201 → gI σ 53 j = vS v j) ∧ gI σ 53 201 = DS (vS v) ∧ (vL v ≤ 20 ∧ gN σ 34 = nI (vL v)) ∧ ∀ k, k < vL v → (∀ j, j < 201 → gI σ 54 (202 * k + j) = vH v k j) ∧ gI σ 54 (202 * k + 201) = DS (vH v k)
def VS (nc : Nat → Nat) (S : Nat → Int32) : Prop := (∀ u, u < 8 → ∀ c, c < 4 → (0 ≤ S (25 * u + c) ∧ S (25 * u + c) ≤ 200) ∧ (nc u ≤ c → S (25 * u + c) = 0) ∧ (-1 ≤ S (25 * u + 20 + c) ∧ S (25 * u + 20 + c) < nI u)) ∧ (∀ u, u < 8 → ∀ c, c < 4 → ∀ d, d < 4 → (-9 ≤ S (25 * u + 4 + (c * 4 + d)) ∧ S (25 * u + 4 + (c * 4 + d)) ≤ 9) ∧ ((nc u ≤ c ∨ nc u ≤ d) → S (25 * u + 4 + (c * 4 + d)) = 0)) ∧ (0 ≤ S 200 ∧ S 200 < 2147483647)
def RV (v : GV) : Prop := vM v ≤ 8 ∧ (∀ u, u < 8 → (u < vM v → 2 ≤ vC v u ∧ vC v u ≤ 4) ∧ (vM v ≤ u → vC v u = 0)) ∧ VS (vC v) (vS v) ∧ ∀ k, k < vL v → VS (vC v) (vH v k)
def FC (σ σ' : GS) : Prop := (∀ q, 50 ≤ q → gI σ' q = gI σ q) ∧ (∀ q, gL σ' q = gL σ q) ∧ (∀ q, ((2 ≤ q ∧ q < 14) ∨ 33 ≤ q) → gN σ' q = gN σ q) ∧ (∀ q, 1 ≤ q → gG σ' q = gG σ q)
def FM (σ σ' : GS) : Prop := (∀ q, q < 52 → gI σ' q = gI σ q) ∧ (∀ q, gL σ' q = gL σ q) ∧ (∀ q, q < 33 → gN σ' q = gN σ q) ∧ (∀ q, gG σ' q = gG σ q)
theorem FC_r (σ : GS) : FC σ σ := ⟨fun _ _ => rfl, fun _ => rfl, fun _ _ => rfl, fun _ _ => rfl⟩
theorem FM_r (σ : GS) : FM σ σ := ⟨fun _ _ => rfl, fun _ => rfl, fun _ _ => rfl, fun _ => rfl⟩
theorem FC_t {a b c : GS} (h : FC a b) (k : FC b c) : FC a c := ⟨fun q z => (k.1 q z).trans (h.1 q z), fun q => (k.2.1 q).trans (h.2.1 q), fun q z => (k.2.2.1 q z).trans (h.2.2.1 q z), fun q z => (k.2.2.2 q z).trans (h.2.2.2 q z)⟩
theorem FM_t {a b c : GS} (h : FM a b) (k : FM b c) : FM a c := ⟨fun q z => (k.1 q z).trans (h.1 q z), fun q => (k.2.1 q).trans (h.2.1 q), fun q z => (k.2.2.1 q z).trans (h.2.2.1 q z), fun q => (k.2.2.2 q).trans (h.2.2.2 q)⟩
theorem FC_I {a s : GS} {k : Nat} {f : Nat → Int32} (hk : k < 50) (h : FC a s) : FC a (uI s k f) := ⟨fun q z => by rw [gI_uI, if_neg (by omega)]; exact h.1 q z, h.2.1, h.2.2.1, h.2.2.2⟩
theorem FC_N {a s : GS} {k : Nat} {x : Int32} (hk : ¬ ((2 ≤ k ∧ k < 14) ∨ 33 ≤ k)) (h : FC a s) : FC a (uN s k x) := ⟨h.1, h.2.1, fun q z => by rw [gN_uN, if_neg (show ¬ q = k by omega)]; exact h.2.2.1 q z, h.2.2.2⟩
theorem FC_G {a s : GS} {x : Int64} (h : FC a s) : FC a (uG s 0 x) := ⟨h.1, h.2.1, h.2.2.1, fun q z => by rw [gG_uG, if_neg (show ¬ q = 0 by omega)]; exact h.2.2.2 q z⟩
theorem FM_I {a s : GS} {k : Nat} {f : Nat → Int32} (hk : 52 ≤ k) (h : FM a s) : FM a (uI s k f) := ⟨fun q z => by rw [gI_uI, if_neg (by omega)]; exact h.1 q z, h.2.1, h.2.2.1, h.2.2.2⟩
theorem FM_N {a s : GS} {k : Nat} {x : Int32} (hk : 33 ≤ k) (h : FM a s) : FM a (uN s k x) := ⟨h.1, h.2.1, fun q z => by rw [gN_uN, if_neg (show ¬ q = k by omega)]; exact h.2.2.1 q z, h.2.2.2⟩
theorem KM_FC {a b : GS} {v : GV} (F : FC a b) (K : KM a v) : KM b v := by
  obtain ⟨h1, h2, h3, h4, h5, h6⟩ := K
  refine ⟨by rw [F.2.2.1 33 (by omega)]; exact h1, fun u hu => by rw [F.1 52 (by omega)]; exact h2 u hu, fun j hj => by rw [F.1 53 (by omega)]; exact h3 j hj, by rw [F.1 53 (by omega)]; exact h4, ⟨h5.1, by rw [F.2.2.1 34 (by omega)]; exact h5.2⟩, fun k hk => ⟨fun j hj => by rw [F.1 54 (by omega)]; exact (h6 k hk).1 j hj, by rw [F.1 54 (by omega)]; exact (h6 k hk).2⟩⟩
theorem cS_eq {a b : GS} (hI : ∀ q, q < 24 → gI b q = gI a q) (hN : ∀ q, q = 1 ∨ (22 ≤ q ∧ q < 30) → gN b q = gN a q) {j : Nat} (hj : j < 201) : cS b j = cS a j := by
  unfold cS
  by_cases h : j < 200
  · rw [if_pos h, if_pos h]
    unfold uRow
    rw [hI _ (by omega), hI _ (by omega), hI _ (by omega), hN _ (by omega)]
  · rw [if_neg h, if_neg h]
    exact hN 1 (by omega)
theorem KC_FM {a b : GS} {v : GV} (F : FM a b) (K : KC a v) : KC b v := by
  obtain ⟨h1, h2, h3, h4, kn, h5, h6, h7⟩ := K
  refine ⟨by rw [F.2.2.1 0 (by omega)]; exact h1, fun u hu => by rw [F.2.2.1 _ (by omega)]; exact h2 u hu, fun j hj => (cS_eq (fun q hq => F.1 q (by omega)) (fun q hq => F.2.2.1 q (by omega)) hj).trans (h3 j hj), ⟨h4.1, by rw [F.2.2.1 30 (by omega)]; exact h4.2⟩, kn, h5, by rw [F.2.2.1 31 (by omega)]; exact h6, fun k hk j hj => by rw [F.1 _ (by omega)]; exact h7 k hk j hj⟩
theorem KC_sm {a b : GS} {v : GV} (F : gSm a b) (K : KC a v) : KC b v := by
  obtain ⟨h1, h2, h3, h4, kn, h5, h6, h7⟩ := K
  refine ⟨by rw [gSm_n F (by omega)]; exact h1, fun u hu => by rw [gSm_n F (by omega)]; exact h2 u hu, fun j hj => (cS_eq (fun q hq => gSm_i F (by omega)) (fun q hq => gSm_n F (by omega)) hj).trans (h3 j hj), ⟨h4.1, by rw [gSm_n F (by omega)]; exact h4.2⟩, kn, h5, by rw [gSm_n F (by omega)]; exact h6, fun k hk j hj => by rw [gSm_i F (by omega)]; exact h7 k hk j hj⟩
theorem KM_sm {a b : GS} {v : GV} (F : gSm a b) (K : KM a v) : KM b v := by
  obtain ⟨h1, h2, h3, h4, h5, h6⟩ := K
  refine ⟨by rw [gSm_n F (by omega)]; exact h1, fun u hu => by rw [gSm_i F (by omega)]; exact h2 u hu, fun j hj => by rw [gSm_i F (by omega)]; exact h3 j hj, by rw [gSm_i F (by omega)]; exact h4, ⟨h5.1, by rw [gSm_n F (by omega)]; exact h5.2⟩, fun k hk => ⟨fun j hj => by rw [gSm_i F (by omega)]; exact (h6 k hk).1 j hj, by rw [gSm_i F (by omega)]; exact (h6 k hk).2⟩⟩
-- reading the class
theorem KC_at {σ : GS} {v : GV} (K : KC σ v) {u i : Nat} (hu : u < 8) (hi : i < 25) : uRow σ u i = vS v (25 * u + i) := by
  rw [← K.2.2.1 _ (by omega), cS_at σ hu hi]
theorem KC_b {σ : GS} {v : GV} (K : KC σ v) {u c : Nat} (hu : u < 8) (hc : c < 4) : gI σ u c = vS v (25 * u + c) := by
  have h := KC_at K hu (show c < 25 by omega)
  rw [uRow, if_pos hc] at h
  exact h
theorem KC_t {σ : GS} {v : GV} (K : KC σ v) {u j : Nat} (hu : u < 8) (hj : j < 16) : gI σ (8 + u) j = vS v (25 * u + 4 + j) := by
  have h := KC_at K hu (show 4 + j < 25 by omega)
  rw [uRow, if_neg (by omega), if_pos (by omega), show 4 + j - 4 = j by omega] at h
  rw [h]
  exact congrArg _ (by omega)
theorem KC_u {σ : GS} {v : GV} (K : KC σ v) {u c : Nat} (hu : u < 8) (hc : c < 4) : gI σ (16 + u) c = vS v (25 * u + 20 + c) := by
  have h := KC_at K hu (show 20 + c < 25 by omega)
  rw [uRow, if_neg (by omega), if_neg (by omega), if_pos (by omega), show 20 + c - 20 = c by omega] at h
  rw [h]
  exact congrArg _ (by omega)
theorem KC_d {σ : GS} {v : GV} (K : KC σ v) {u : Nat} (hu : u < 8) : gN σ (22 + u) = vS v (25 * u + 24) := by
  have h := KC_at K hu (show 24 < 25 by omega)
  rw [uRow, if_neg (by omega), if_neg (by omega), if_neg (by omega)] at h
  exact h
theorem KC_seed {σ : GS} {v : GV} (K : KC σ v) : gN σ 1 = vS v 200 := K.2.2.1 200 (by omega)
-- writing the class
theorem KC_set {a b : GS} {v : GV} {S : Nat → Int32} (K : KC a v) (hI : ∀ q, 24 ≤ q → q < 44 → gI b q = gI a q) (hN : ∀ q, q = 0 ∨ (14 ≤ q ∧ q < 22) ∨ q = 30 ∨ q = 31 → gN b q = gN a q) (hS : ∀ j, j < 201 → cS b j = S j) : KC b (vSet v S) := by
  obtain ⟨h1, h2, h3, h4, kn, h5, h6, h7⟩ := K
  exact ⟨by rw [hN 0 (by omega)]; exact h1, fun u hu => by rw [hN _ (by omega)]; exact h2 u hu, hS, ⟨h4.1, by rw [hN 30 (by omega)]; exact h4.2⟩, kn, h5, by rw [hN 31 (by omega)]; exact h6, fun k hk j hj => by rw [hI _ (by omega) (by omega)]; exact h7 k hk j hj⟩
/-- one row of urn u replaced -/
theorem cS_row {a b : GS} {S : Nat → Int32} {u : Nat} (hu : u < 8) (ho : ∀ w, w < 8 → w ≠ u → ∀ i, i < 25 → uRow b w i = uRow a w i) (h1 : ∀ i, i < 25 → uRow b u i = S (25 * u + i)) (h2 : ∀ j, j < 201 → (j < 25 * u ∨ 25 * u + 25 ≤ j) → S j = cS a j) (hs : gN b 1 = gN a 1) {j : Nat} (hj : j < 201) : cS b j = S j := by
  by_cases h200 : j < 200
  · by_cases e : j / 25 = u
    · have ej : j = 25 * u + j % 25 := by omega
      rw [ej, cS_at b hu (by omega)]
      exact h1 _ (by omega)
    · rw [h2 j hj (by omega)]
      have ej : j = 25 * (j / 25) + j % 25 := by omega
      rw [ej, cS_at b (by omega) (by omega), cS_at a (by omega) (by omega)]
      exact ho _ (by omega) e _ (by omega)
  · have ej : j = 200 := by omega
    subst ej
    rw [h2 200 (by omega) (by omega)]
    exact hs
theorem uRow_ne {a : GS} {k : Nat} {f : Nat → Int32} {w : Nat} (h : k ≠ w ∧ k ≠ 8 + w ∧ k ≠ 16 + w) (i : Nat) : uRow (uI a k f) w i = uRow a w i := by
  unfold uRow
  rw [gI_uI, if_neg (show ¬ w = k by omega), gI_uI, if_neg (show ¬ 8 + w = k by omega), gI_uI, if_neg (show ¬ 16 + w = k by omega)]
  rfl
theorem uRow_neN {a : GS} {k : Nat} {x : Int32} {w : Nat} (h : k ≠ 22 + w) (i : Nat) : uRow (uN a k x) w i = uRow a w i := by
  unfold uRow
  rw [gN_uN, if_neg (show ¬ 22 + w = k by omega)]
  rfl
theorem KC_wb {σ : GS} {v : GV} (K : KC σ v) {u c : Nat} {x : Int32} (hu : u < 8) (hc : c < 4) : KC (uI σ u (upd (gI σ u) c x)) (vSet v (upd (vS v) (25 * u + c) x)) := by
  refine KC_set K (fun q h1 h2 => by rw [gI_uI, if_neg (by omega)]) (fun q _ => rfl) (fun j hj => cS_row (a := σ) hu (fun w hw e i _ => uRow_ne (by omega) i) (fun i hi => ?_) (fun j hj h => ?_) rfl hj)
  · by_cases e : i = c
    · subst e
      rw [pk_us, uRow, if_pos hc, gI_uI, if_pos rfl, pk_us]
    · rw [pk_un (by omega), ← KC_at K hu hi]
      unfold uRow
      rw [gI_uI, if_pos rfl, pk_un e, gI_uI, if_neg (show ¬ 8 + u = u by omega), gI_uI, if_neg (show ¬ 16 + u = u by omega)]
      rfl
  · rw [pk_un (by omega), K.2.2.1 j hj]
theorem KC_wt {σ : GS} {v : GV} (K : KC σ v) {u z : Nat} {x : Int32} (hu : u < 8) (hz : z < 16) : KC (uI σ (8 + u) (upd (gI σ (8 + u)) z x)) (vSet v (upd (vS v) (25 * u + 4 + z) x)) := by
  refine KC_set K (fun q h1 h2 => by rw [gI_uI, if_neg (by omega)]) (fun q _ => rfl) (fun j hj => cS_row (a := σ) hu (fun w hw e i _ => uRow_ne (by omega) i) (fun i hi => ?_) (fun j hj h => ?_) rfl hj)
  · by_cases e : i = 4 + z
    · subst e
      rw [← Nat.add_assoc, pk_us, uRow, if_neg (by omega), if_pos (by omega), gI_uI, if_pos rfl, show 4 + z - 4 = z by omega, pk_us]
    · rw [pk_un (by omega), ← KC_at K hu hi]
      unfold uRow
      rw [gI_uI, if_neg (show ¬ u = 8 + u by omega), gI_uI, if_pos rfl, gI_uI, if_neg (show ¬ 16 + u = 8 + u by omega)]
      by_cases h4 : i < 4
      · rw [if_pos h4, if_pos h4]
      · by_cases h20 : i < 20
        · rw [if_neg h4, if_pos h20, if_neg h4, if_pos h20, pk_un (by omega)]
        · rw [if_neg h4, if_neg h20, if_neg h4, if_neg h20]
          rfl
  · rw [pk_un (by omega), K.2.2.1 j hj]
theorem KC_wu {σ : GS} {v : GV} (K : KC σ v) {u z : Nat} {x : Int32} (hu : u < 8) (hz : z < 4) : KC (uI σ (16 + u) (upd (gI σ (16 + u)) z x)) (vSet v (upd (vS v) (25 * u + 20 + z) x)) := by
  refine KC_set K (fun q h1 h2 => by rw [gI_uI, if_neg (by omega)]) (fun q _ => rfl) (fun j hj => cS_row (a := σ) hu (fun w hw e i _ => uRow_ne (by omega) i) (fun i hi => ?_) (fun j hj h => ?_) rfl hj)
  · by_cases e : i = 20 + z
    · subst e
      rw [← Nat.add_assoc, pk_us, uRow, if_neg (by omega), if_neg (by omega), if_pos (by omega), gI_uI, if_pos rfl, show 20 + z - 20 = z by omega, pk_us]
    · rw [pk_un (by omega), ← KC_at K hu hi]
      unfold uRow
      rw [gI_uI, if_neg (show ¬ u = 16 + u by omega), gI_uI, if_neg (show ¬ 8 + u = 16 + u by omega), gI_uI, if_pos rfl]
      by_cases h4 : i < 4
      · rw [if_pos h4, if_pos h4]
      · by_cases h20 : i < 20
        · rw [if_neg h4, if_pos h20, if_neg h4, if_pos h20]
        · by_cases h24 : i < 24
          · rw [if_neg h4, if_neg h20, if_pos h24, if_neg h4, if_neg h20, if_pos h24, pk_un (by omega)]
          · rw [if_neg h4, if_neg h20, if_neg h24, if_neg h4, if_neg h20, if_neg h24]
            rfl
  · rw [pk_un (by omega), K.2.2.1 j hj]
theorem KC_ws {σ : GS} {v : GV} (K : KC σ v) {x : Int32} : KC (uN σ 1 x) (vSet v (upd (vS v) 200 x)) := by
  refine KC_set K (fun q _ _ => rfl) (fun q h => by rw [gN_uN, if_neg (by omega)]) (fun j hj => ?_)
  by_cases e : j = 200
  · subst e
    rw [pk_us]
    rfl
  · rw [pk_un e, ← K.2.2.1 j hj]
    unfold cS
    rw [if_pos (by omega), if_pos (by omega), uRow_neN (by omega)]
/-- what a draw leaves -/
def dS (S : Nat → Int32) (u c : Nat) : Nat → Int32 := fun j => if 25 * u ≤ j ∧ j < 25 * u + 4 then S j + S (25 * u + 4 + (c * 4 + (j - 25 * u))) else if j = 25 * u + 24 then S j + 1 else S j
theorem KC_draw {σ : GS} {v : GV} (K : KC σ v) (V : VS (vC v) (vS v)) {u c : Nat} (hu : u < 8) (hc : c < 4) : KC (uN (uI σ u (gGw (gI σ u) (gI σ (8 + u)) c (vC v u))) (22 + u) (gN σ (22 + u) + 1)) (vSet v (dS (vS v) u c)) := by
  refine KC_set K (fun q h1 h2 => by rw [gI_uN, gI_uI, if_neg (by omega)]) (fun q h => by rw [gN_uN, if_neg (by omega)]; rfl) (fun j hj => cS_row (a := σ) hu (fun w hw e i _ => ?_) (fun i hi => ?_) (fun j hj h => ?_) ?_ hj)
  · rw [uRow_neN (by omega), uRow_ne (by omega)]
  · unfold dS
    by_cases h4 : i < 4
    · rw [if_pos (by omega), show 25 * u + i - 25 * u = i by omega, uRow, if_pos h4, gI_uN, gI_uI, if_pos rfl]
      unfold gGw
      by_cases hn : i < vC v u
      · rw [if_pos hn, KC_b K hu h4, KC_t K hu (by omega)]
      · rw [if_neg hn, KC_b K hu h4, (V.2.1 u hu c hc i h4).2 (by omega), Int32.add_zero]
    · rw [if_neg (by omega)]
      by_cases h24 : i = 24
      · subst h24
        rw [if_pos rfl, uRow, if_neg (by omega), if_neg (by omega), if_neg (by omega), gN_uN, if_pos rfl, KC_d K hu]
      · rw [if_neg (by omega), ← KC_at K hu hi]
        unfold uRow
        rw [if_neg h4, if_neg h4, gI_uN, gI_uI, if_neg (show ¬ 8 + u = u by omega), gI_uN, gI_uI, if_neg (show ¬ 16 + u = u by omega), if_pos (show i < 24 by omega), if_pos (show i < 24 by omega)]
  · unfold dS
    rw [if_neg (by omega), if_neg (by omega), K.2.2.1 j hj]
  · rw [gN_uN, if_neg (by omega)]
    rfl
-- keeping, in the class
theorem KC_keep {σ : GS} {v : GV} {kn : Nat} {f : Nat → Int32} (K : KC σ v) (hn : kn < 20) (hx : gN σ 31 = nI kn) (hf : ∀ j, j < 201 → f j = cS σ j) : KC (uI (uN (uN σ 31 (nI ((kn + 1) % 20))) 30 (nI (if vL v < 20 then vL v + 1 else 20))) (24 + kn) f) (vKeep v) := by
  obtain ⟨h1, h2, h3, h4, kn', h5, h6, h7⟩ := K
  have e : kn = kn' := (nI_eq (by omega) (by omega)).mp (hx.symm.trans h6)
  subst e
  have hcs : ∀ j, j < 201 → cS (uI (uN (uN σ 31 (nI ((kn + 1) % 20))) 30 (nI (if vL v < 20 then vL v + 1 else 20))) (24 + kn) f) j = cS σ j := fun j hj =>
    cS_eq (fun q hq => by rw [gI_uI, if_neg (show ¬ q = 24 + kn by omega)]; rfl) (fun q hq => by rw [gN_uI, gN_uN, if_neg (show ¬ q = 30 by omega), gN_uN, if_neg (show ¬ q = 31 by omega)]) hj
  refine ⟨by rw [gN_uI, gN_uN, if_neg (by decide), gN_uN, if_neg (by decide)]; exact h1, fun u hu => by rw [gN_uI, gN_uN, if_neg (show ¬ 14 + u = 30 by omega), gN_uN, if_neg (show ¬ 14 + u = 31 by omega)]; exact h2 u hu, fun j hj => (hcs j hj).trans (h3 j hj), ⟨?_, rfl⟩, (kn + 1) % 20, by omega, rfl, fun k hk j hj => ?_⟩
  · show (if vL v < 20 then vL v + 1 else 20) ≤ 20
    split <;> omega
  · have hk : k < (if vL v < 20 then vL v + 1 else 20) := hk
    show gI (uI _ (24 + kn) f) (24 + ((kn + 1) % 20 + 20 - (if vL v < 20 then vL v + 1 else 20) + k) % 20) j = (if vL v < 20 then (if k = vL v then vS v else vH v k) else if k = 19 then vS v else vH v (k + 1)) j
    by_cases h20 : vL v < 20
    · rw [if_pos h20] at hk ⊢
      rw [if_pos h20]
      by_cases e : k = vL v
      · rw [if_pos e, gI_uI, if_pos (by omega), hf j hj]
        exact h3 j hj
      · rw [if_neg e, gI_uI, if_neg (by omega), ← h7 k (by omega) j hj, show ((kn + 1) % 20 + 20 - (vL v + 1) + k) % 20 = (kn + 20 - vL v + k) % 20 by omega]
        rfl
    · rw [if_neg h20] at hk ⊢
      rw [if_neg h20]
      have eL : vL v = 20 := by omega
      by_cases e : k = 19
      · rw [if_pos e, gI_uI, if_pos (by omega), hf j hj]
        exact h3 j hj
      · rw [if_neg e, gI_uI, if_neg (by omega), ← h7 (k + 1) (by omega) j hj, eL, show ((kn + 1) % 20 + 20 - 20 + k) % 20 = (kn + 20 - 20 + (k + 1)) % 20 by omega]
        rfl
