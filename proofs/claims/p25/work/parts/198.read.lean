-- read
def rS (S : Nat → Int32) (b n : Nat) (f : Nat → Int64) : Nat → Int32 := fun j => if b ≤ j ∧ j < b + n then (f (j - b)).toInt32 else S j
noncomputable def fRead (v : GV) (kd ln : Nat → Int32) (pl : Nat → Nat → Int64) (u rule c r i : Int32) : Int32 × GV :=
  gIf ((okU v u ∧ gIx r 6) ∧ gIx rule 2 ∧ (rule = 1 → okC v u c)) (if kd (nU r) < 0 then (-11, v) else gIf (gRch i (nI (vC v (nU u))) (ln (nU r)).toInt.toNat)
    (gIf (∀ d, d < vC v (nU u) → (if rule = 0 then (0 : Int64) else -9) ≤ pl (nU r) (nU i + d) ∧ pl (nU r) (nU i + d) ≤ (if rule = 0 then (200 : Int64) else 9))
      (0, vSet (vKeep v) (rS (vS v) (25 * nU u + (if rule = 0 then 0 else 4 + 4 * nU c)) (vC v (nU u)) (fun d => pl (nU r) (nU i + d)))) (-15, v)) (-12, v)) (-1, v)
theorem fRead_at {v : GV} {kd ln : Nat → Int32} {pl : Nat → Nat → Int64} {u r m : Nat} {rule c i : Int32} (hu : u < vM v) (h8 : u < 8) (hr : r < 6) (h2 : gIx rule 2) (hc : rule = 1 → gIx c (vC v u)) (hm : ln r = nI m) (h16 : m ≤ 16) : fRead v kd ln pl (nI u) rule c (nI r) i = if kd r < 0 then (-11, v) else gIf (gRch i (nI (vC v u)) m) (gIf (∀ d, d < vC v u → (if rule = 0 then (0 : Int64) else -9) ≤ pl r (nU i + d) ∧ pl r (nU i + d) ≤ (if rule = 0 then (200 : Int64) else 9))
      (0, vSet (vKeep v) (rS (vS v) (25 * u + (if rule = 0 then 0 else 4 + 4 * nU c)) (vC v u) (fun d => pl r (nU i + d)))) (-15, v)) (-12, v) := by
  unfold fRead
  rw [gIf_t ⟨⟨okU_n hu, ⟨r, hr, rfl⟩⟩, h2, fun e => (okC_n h8).mpr (hc e)⟩, nU_n (by omega), nU_n (by omega), hm, nIt (by omega)]
theorem KC_wr {σ : GS} {v : GV} {g : Nat → Int32} {f : Nat → Int64} {u n : Nat} (K : KC σ v) (hu : u < 8) (hn : n ≤ 4) (hg : ∀ j, j < 4 → g j = if j < n then (f j).toInt32 else gI σ u j) : KC (uI σ u g) (vSet v (rS (vS v) (25 * u + 0) n f)) := by
  refine KC_set K (fun q h1 h2 => by rw [gI_uI, if_neg (by omega)]) (fun q _ => rfl) (fun j hj => cS_row (a := σ) hu (fun w hw e i _ => uRow_ne (by omega) i) (fun i hi => ?_) (fun j hj h => ?_) rfl hj)
  · unfold rS
    by_cases h4 : i < 4
    · rw [uRow, if_pos h4, gI_uI, if_pos rfl, hg i h4]
      by_cases q : i < n
      · rw [if_pos q, if_pos (by omega), show 25 * u + i - (25 * u + 0) = i by omega]
      · rw [if_neg q, if_neg (by omega), KC_b K hu h4]
    · rw [if_neg (by omega), ← KC_at K hu hi]
      unfold uRow
      rw [if_neg h4, if_neg h4, gI_uI, if_neg (show ¬ 8 + u = u by omega), gI_uI, if_neg (show ¬ 16 + u = u by omega)]
      rfl
  · unfold rS
    rw [if_neg (by omega), K.2.2.1 j hj]
theorem KC_wr2 {σ : GS} {v : GV} {g : Nat → Int32} {f : Nat → Int64} {u c n : Nat} (K : KC σ v) (hu : u < 8) (hc : c < 4) (hn : n ≤ 4) (hg : ∀ j, j < 16 → g j = if c * 4 ≤ j ∧ j < c * 4 + n then (f (j - c * 4)).toInt32 else gI σ (8 + u) j) : KC (uI σ (8 + u) g) (vSet v (rS (vS v) (25 * u + (4 + 4 * c)) n f)) := by
  refine KC_set K (fun q h1 h2 => by rw [gI_uI, if_neg (by omega)]) (fun q _ => rfl) (fun j hj => cS_row (a := σ) hu (fun w hw e i _ => uRow_ne (by omega) i) (fun i hi => ?_) (fun j hj h => ?_) rfl hj)
  · unfold rS
    by_cases h4 : 4 ≤ i ∧ i < 20
    · rw [uRow, if_neg (by omega), if_pos h4.2, gI_uI, if_pos rfl, hg _ (by omega)]
      by_cases q : c * 4 ≤ i - 4 ∧ i - 4 < c * 4 + n
      · rw [if_pos q, if_pos (by omega), show 25 * u + i - (25 * u + (4 + 4 * c)) = i - 4 - c * 4 by omega]
      · rw [if_neg q, if_neg (by omega), KC_t K hu (by omega), show 25 * u + 4 + (i - 4) = 25 * u + i by omega]
    · rw [if_neg (by omega), ← KC_at K hu hi]
      unfold uRow
      rw [gI_uI, if_neg (show ¬ u = 8 + u by omega), gI_uI, if_pos rfl, gI_uI, if_neg (show ¬ 16 + u = 8 + u by omega)]
      by_cases a4 : i < 4
      · rw [if_pos a4, if_pos a4]
      · rw [if_neg a4, if_neg (show ¬ i < 20 by omega), if_neg a4, if_neg (show ¬ i < 20 by omega)]
        rfl
  · unfold rS
    rw [if_neg (by omega), K.2.2.1 j hj]
theorem rd_step {g h : Nat → Int32} {f : Nat → Int64} {b d : Nat} {y : Int64} (hg : ∀ j, g j = if b ≤ j ∧ j < b + d then (f (j - b)).toInt32 else h j) (e : y = f d) (j : Nat) : upd g (b + d) y.toInt32 j = if b ≤ j ∧ j < b + (d + 1) then (f (j - b)).toInt32 else h j := by
  by_cases q : j = b + d
  · subst q
    rw [pk_us, if_pos (by omega), show b + d - b = d by omega, e]
  · rw [pk_un q, hg]
    by_cases z : b ≤ j ∧ j < b + d
    · rw [if_pos z, if_pos (by omega)]
    · rw [if_neg z, if_neg (by omega)]
theorem gkd_n {k : Int32} (h : -1 ≤ k) : k < 0 ↔ k = -1 := by
  refine ⟨fun q => ?_, fun q => by rw [q]; decide⟩
  rw [Int32.le_iff_toInt_le] at h
  rw [Int32.lt_iff_toInt_lt] at q
  have e : (-1 : Int32).toInt = -1 := by decide
  have e2 : (0 : Int32).toInt = 0 := by decide
  exact Int32.toInt_inj.mp (by omega)
theorem l_100 : (0 : Int32).toInt64 = 0 ∧ (200 : Int32).toInt64 = 200 ∧ (-9 : Int32).toInt64 = -9 ∧ (9 : Int32).toInt64 = 9 := by decide
theorem rd_0 {g h : Nat → Int32} {f : Nat → Int64} {d n : Nat} (hg : ∀ j, g j = if 0 ≤ j ∧ j < 0 + d then (f (j - 0)).toInt32 else h j) (e : n = d) (j : Nat) (_ : j < 4) : g j = if j < n then (f j).toInt32 else h j := by
  subst e
  rw [hg j]
  by_cases q : j < n
  · rw [if_pos q, if_pos (by omega)]; rfl
  · rw [if_neg q, if_neg (by omega)]
theorem gIx_01 {x : Int32} (h : ¬ x < 0) (h2 : x ≤ 1) : gIx x 2 := by
  have h0 := gge0 h
  rw [Int32.le_iff_toInt_le] at h2
  have e : (1 : Int32).toInt = 1 := by decide
  exact ⟨x.toInt.toNat, by omega, nIn x h0⟩
theorem grch_r {i : Int32} {m n : Nat} (hm : m ≤ 16) (hn : n ≤ 4) (h0 : ¬ i < 0) : i ≤ nI m - nI n ↔ gRch i (nI n) m := by
  have h1 := gge0 h0
  unfold gRch
  rw [Int32.le_iff_toInt_le, pk_sub_toInt (by omega) (by omega), nI_toInt (by omega)]
  omega
theorem KM_wr {σ : GS} {v : GV} {g : Nat → Int32} {f : Nat → Int64} {b n d : Nat} (K : KM σ v) (e : n = d) (hb : b + n ≤ 200) (h24 : ∀ w, w < 8 → ¬ (b ≤ 25 * w + 24 ∧ 25 * w + 24 < b + n)) (hg : ∀ j, g j = if b ≤ j ∧ j < b + d then (f (j - b)).toInt32 else gI σ 53 j) : KM (uI σ 53 g) (vSet v (rS (vS v) b n f)) := by
  subst e
  refine KM_st K (fun j hj => ?_) ?_
  · rw [hg]
    unfold rS
    by_cases q : b ≤ j ∧ j < b + n
    · rw [if_pos q, if_pos q]
    · rw [if_neg q, if_neg q, K.2.2.1 j hj]
  · rw [hg, if_neg (by omega), K.2.2.2.1]
    exact DS_congr (fun u hu => by unfold rS; rw [if_neg (h24 u hu)])
theorem g24r {u c n w : Nat} (hc : c < 4) (hn : n ≤ 4) : ¬ (25 * u + (4 + 4 * c) ≤ 25 * w + 24 ∧ 25 * w + 24 < 25 * u + (4 + 4 * c) + n) := by
  intro h
  have h1 : 25 * w + 24 < 25 * u + 20 := by omega
  have h2 : 25 * u + 4 ≤ 25 * w + 24 := by omega
  rcases Nat.lt_trichotomy w u with q | q | q <;> omega
