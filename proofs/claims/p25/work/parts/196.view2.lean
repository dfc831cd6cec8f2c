-- the reference's side
theorem DS_congr {S S' : Nat → Int32} (h : ∀ u, u < 8 → S (25 * u + 24) = S' (25 * u + 24)) : DS S = DS S' := by
  have e : ∀ n, n ≤ 8 → gsum (fun u => S (25 * u + 24)) n = gsum (fun u => S' (25 * u + 24)) n := by
    intro n
    induction n with
    | zero => intro _; rfl
    | succ n ih =>
      intro hn
      show gsum _ n + S (25 * n + 24) = gsum _ n + S' (25 * n + 24)
      rw [ih (by omega), h n (by omega)]
  exact e 8 (by omega)
theorem gsum_one {f g : Nat → Int32} {u : Nat} (hu : g u = f u + 1) (ho : ∀ w, w ≠ u → g w = f w) : ∀ n, gsum g n = if u < n then gsum f n + 1 else gsum f n
  | 0 => rfl
  | n + 1 => by
    have ih := gsum_one hu ho n
    show gsum g n + g n = if u < n + 1 then gsum f n + f n + 1 else gsum f n + f n
    by_cases h : u < n
    · rw [ih, if_pos h, if_pos (by omega), ho n (by omega), Int32.add_assoc, Int32.add_comm 1, ← Int32.add_assoc]
    · rw [ih, if_neg h]
      by_cases e : n = u
      · subst e
        rw [if_pos (by omega), hu, ← Int32.add_assoc]
      · rw [if_neg (by omega), ho n e]
theorem DS_draw (S : Nat → Int32) {u c : Nat} (hu : u < 8) : DS (dS S u c) = DS S + 1 := by
  have e := gsum_one (f := fun u => S (25 * u + 24)) (g := fun w => dS S u c (25 * w + 24)) (u := u) (by
    show dS S u c (25 * u + 24) = S (25 * u + 24) + 1
    unfold dS
    rw [if_neg (by omega), if_pos rfl]) (by
    intro w hw
    show dS S u c (25 * w + 24) = S (25 * w + 24)
    unfold dS
    rw [if_neg (by omega), if_neg (by omega)]) 8
  rw [if_pos hu] at e
  exact e
theorem KM_st {σ : GS} {v : GV} {S : Nat → Int32} {f : Nat → Int32} (K : KM σ v) (h1 : ∀ j, j < 201 → f j = S j) (h2 : f 201 = DS S) : KM (uI σ 53 f) (vSet v S) := by
  obtain ⟨k1, k2, k3, k4, k5, k6⟩ := K
  exact ⟨k1, k2, h1, h2, k5, k6⟩
theorem KM_s1 {σ : GS} {v : GV} {j : Nat} {x : Int32} (K : KM σ v) (hj : j ≤ 200) (h24 : j % 25 ≠ 24) : KM (uI σ 53 (upd (gI σ 53) j x)) (vSet v (upd (vS v) j x)) := by
  refine KM_st K (fun i hi => ?_) ?_
  · by_cases e : i = j
    · rw [e, pk_us, pk_us]
    · rw [pk_un e, pk_un e, K.2.2.1 i hi]
  · rw [pk_un (by omega), K.2.2.2.1]
    exact DS_congr (fun u hu => (pk_un (by omega)).symm)
theorem uN_id (σ : GS) (k : Nat) : uN σ k (gN σ k) = σ := by
  refine gS_ext (fun _ => rfl) (fun _ => rfl) (fun j => ?_) (fun _ => rfl) rfl
  rw [gN_uN]
  split
  · rename_i h; rw [h]
  · rfl
theorem uI_uN (s : GS) (a b : Nat) (x : Int32) (f : Nat → Int32) : uI (uN s a x) b f = uN (uI s b f) a x := rfl
theorem KM_keep {σ : GS} {v : GV} {mm o : Nat} {f g : Nat → Int32} (K : KM σ v) (ho : (vL v < 20 ∧ mm = vL v ∧ o = 0) ∨ (vL v = 20 ∧ mm = 19 ∧ o = 1)) (hf : ∀ k, k < mm → ∀ j, j < 202 → f (202 * k + j) = gI σ 54 (202 * (k + o) + j))
    (hg : ∀ j, j < 202 → g (202 * mm + j) = gI σ 53 j) (hg2 : ∀ k, k < mm → ∀ j, j < 202 → g (202 * k + j) = f (202 * k + j)) : KM (uN (uI σ 54 g) 34 (nI (mm + 1))) (vKeep v) := by
  obtain ⟨k1, k2, k3, k4, k5, k6⟩ := K
  have eL : (if vL v < 20 then vL v + 1 else 20) = mm + 1 := by split <;> omega
  refine ⟨k1, k2, k3, k4, ⟨?_, ?_⟩, fun k hk => ?_⟩
  · show (if vL v < 20 then vL v + 1 else 20) ≤ 20
    split <;> omega
  · show nI (mm + 1) = nI (if vL v < 20 then vL v + 1 else 20)
    rw [eL]
  · have hk : k < (if vL v < 20 then vL v + 1 else 20) := hk
    rw [eL] at hk
    have key : ∀ j, j < 202 → g (202 * k + j) = if k = mm then gI σ 53 j else gI σ 54 (202 * (k + o) + j) := by
      intro j hj
      by_cases e : k = mm
      · rw [if_pos e, e]; exact hg j hj
      · rw [if_neg e, hg2 k (by omega) j hj, hf k (by omega) j hj]
    have hH : vH (vKeep v) k = if k = mm then vS v else vH v (k + o) := by
      show (if vL v < 20 then (if k = vL v then vS v else vH v k) else if k = 19 then vS v else vH v (k + 1)) = _
      rcases ho with ⟨a, rfl, rfl⟩ | ⟨a, rfl, rfl⟩
      · rw [if_pos a]; rfl
      · rw [if_neg (by omega)]
    refine ⟨fun j hj => ?_, ?_⟩
    · show g (202 * k + j) = _
      rw [key j (by omega), hH]
      by_cases e : k = mm
      · rw [if_pos e, if_pos e]; exact k3 j hj
      · rw [if_neg e, if_neg e]; exact (k6 (k + o) (by omega)).1 j hj
    · show g (202 * k + 201) = _
      rw [key 201 (by omega), hH]
      by_cases e : k = mm
      · rw [if_pos e, if_pos e]; exact k4
      · rw [if_neg e, if_neg e]; exact (k6 (k + o) (by omega)).2
-- what the calls answer and leave
noncomputable def gIf {α : Type} (P : Prop) (a b : α) : α := @ite α P (Classical.propDecidable P) a b
theorem gIf_t {α : Type} {P : Prop} {a b : α} (h : P) : gIf P a b = a := by unfold gIf; exact if_pos h
theorem gIf_f {α : Type} {P : Prop} {a b : α} (h : ¬ P) : gIf P a b = b := by unfold gIf; exact if_neg h
theorem gIf_i {α : Type} {P Q : Prop} (h : P ↔ Q) (a b : α) : gIf P a b = gIf Q a b := by rw [propext h]
def nU (x : Int32) : Nat := x.toInt.toNat
theorem nU_n {k : Nat} (h : k < 2147483648) : nU (nI k) = k := nIt h
def okU (v : GV) (u : Int32) : Prop := gIx u (vM v)
def okC (v : GV) (u c : Int32) : Prop := gIx c (vC v (nU u))
theorem okC_n {v : GV} {u : Nat} {c : Int32} (h : u < 8) : okC v (nI u) c ↔ gIx c (vC v u) := by unfold okC; rw [nU_n (by omega)]
noncomputable def fPut (v : GV) (u c n : Int32) : Int32 × GV := gIf ((okU v u ∧ okC v u c) ∧ (0 ≤ n ∧ n ≤ 200)) (vS v (25 * nU u + nU c), vSet (vKeep v) (upd (vS v) (25 * nU u + nU c) n)) (-1, v)
noncomputable def fAdd (v : GV) (u c d n : Int32) : Int32 × GV := gIf ((okU v u ∧ okC v u c ∧ okC v u d) ∧ (-9 ≤ n ∧ n ≤ 9)) (vS v (25 * nU u + 4 + (nU c * 4 + nU d)), vSet (vKeep v) (upd (vS v) (25 * nU u + 4 + (nU c * 4 + nU d)) n)) (-100, v)
noncomputable def fIs (v : GV) (u c n : Int32) : Int32 × GV := gIf ((okU v u ∧ okC v u c) ∧ (-1 ≤ n ∧ n < u)) ((if vS v (25 * nU u + 20 + nU c) < 0 then -4 else vS v (25 * nU u + 20 + nU c)), vSet (vKeep v) (upd (vS v) (25 * nU u + 20 + nU c) n)) (-1, v)
noncomputable def fAdded (v : GV) (u c d : Int32) : Int32 × GV := gIf (okU v u ∧ okC v u c ∧ okC v u d) (vS v (25 * nU u + 4 + (nU c * 4 + nU d)), v) (-100, v)
def bS (S : Nat → Int32) (u : Nat) : Nat → Int32 := fun j => S (25 * u + j)
def tS (S : Nat → Int32) (u : Nat) : Nat → Int32 := fun j => S (25 * u + 4 + j)
def sumS (S : Nat → Int32) (u : Nat) : Int32 := S (25 * u + 0) + S (25 * u + 1) + S (25 * u + 2) + S (25 * u + 3)
noncomputable def fDraw (v : GV) (u c : Int32) : Int32 × GV := gIf (okU v u ∧ okC v u c) (gIf (gLet (bS (vS v) (nU u)) (tS (vS v) (nU u)) (nU c) 4) (sumS (dS (vS v) (nU u) (nU c)) (nU u), vSet (vKeep v) (dS (vS v) (nU u) (nU c))) (-5, v)) (-1, v)
theorem vPostC {σ σ' : GS} {p q : Int32 × GV} {x : Int32} (hz : p = q) (h1 : x = q.1) (h2 : KC σ' q.2) (h3 : FC σ σ') : x = p.1 ∧ KC σ' p.2 ∧ FC σ σ' := by subst hz; exact ⟨h1, h2, h3⟩
theorem vPostM {σ σ' : GS} {p q : Int32 × GV} {x : Int32} (hz : p = q) (h1 : x = q.1) (h2 : KM σ' q.2) (h3 : FM σ σ') : x = p.1 ∧ KM σ' p.2 ∧ FM σ σ' := by subst hz; exact ⟨h1, h2, h3⟩
theorem okU_n {v : GV} {u : Nat} (h : u < vM v) : okU v (nI u) := ⟨u, h, rfl⟩
theorem fPut_ok {v : GV} {u c : Nat} {n : Int32} (hu : u < vM v) (h8 : u < 8) (hc : c < vC v u) (h4 : c < 4) (hn : 0 ≤ n ∧ n ≤ 200) : fPut v (nI u) (nI c) n = (vS v (25 * u + c), vSet (vKeep v) (upd (vS v) (25 * u + c) n)) := by
  unfold fPut
  rw [gIf_t ⟨⟨okU_n hu, (okC_n h8).mpr ⟨c, hc, rfl⟩⟩, hn⟩, nU_n (by omega), nU_n (by omega)]
theorem fAdd_ok {v : GV} {u c d : Nat} {n : Int32} (hu : u < vM v) (h8 : u < 8) (hc : c < vC v u) (h4 : c < 4) (hd : d < vC v u) (h4d : d < 4) (hn : -9 ≤ n ∧ n ≤ 9) : fAdd v (nI u) (nI c) (nI d) n = (vS v (25 * u + 4 + (c * 4 + d)), vSet (vKeep v) (upd (vS v) (25 * u + 4 + (c * 4 + d)) n)) := by
  unfold fAdd
  rw [gIf_t ⟨⟨okU_n hu, (okC_n h8).mpr ⟨c, hc, rfl⟩, (okC_n h8).mpr ⟨d, hd, rfl⟩⟩, hn⟩, nU_n (by omega), nU_n (by omega), nU_n (by omega)]
theorem fIs_ok {v : GV} {u c : Nat} {n : Int32} (hu : u < vM v) (h8 : u < 8) (hc : c < vC v u) (h4 : c < 4) (hn : -1 ≤ n ∧ n < nI u) : fIs v (nI u) (nI c) n = ((if vS v (25 * u + 20 + c) < 0 then -4 else vS v (25 * u + 20 + c)), vSet (vKeep v) (upd (vS v) (25 * u + 20 + c) n)) := by
  unfold fIs
  rw [gIf_t ⟨⟨okU_n hu, (okC_n h8).mpr ⟨c, hc, rfl⟩⟩, hn⟩, nU_n (by omega), nU_n (by omega)]
theorem fAdded_ok {v : GV} {u c d : Nat} (hu : u < vM v) (h8 : u < 8) (hc : c < vC v u) (h4 : c < 4) (hd : d < vC v u) (h4d : d < 4) : fAdded v (nI u) (nI c) (nI d) = (vS v (25 * u + 4 + (c * 4 + d)), v) := by
  unfold fAdded
  rw [gIf_t ⟨okU_n hu, (okC_n h8).mpr ⟨c, hc, rfl⟩, (okC_n h8).mpr ⟨d, hd, rfl⟩⟩, nU_n (by omega), nU_n (by omega), nU_n (by omega)]
theorem fDraw_ok {v : GV} {u c : Nat} (hu : u < vM v) (h8 : u < 8) (hc : c < vC v u) (h4 : c < 4) : fDraw v (nI u) (nI c) = gIf (gLet (bS (vS v) u) (tS (vS v) u) c 4) (sumS (dS (vS v) u c) u, vSet (vKeep v) (dS (vS v) u c)) (-5, v) := by
  unfold fDraw
  rw [gIf_t ⟨okU_n hu, (okC_n h8).mpr ⟨c, hc, rfl⟩⟩, nU_n (by omega), nU_n (by omega)]
theorem gin9 {x : Int32} : gInL x.toInt64 (-9) 9 ↔ -9 ≤ x ∧ x ≤ 9 := by
  unfold gInL
  rw [Int64.le_iff_toInt_le, Int64.le_iff_toInt_le, gi2l, Int32.le_iff_toInt_le, Int32.le_iff_toInt_le]
  exact Iff.rfl
theorem gin_is {x : Int32} {u : Nat} (hu : u < 8) : gInL x.toInt64 (-1) (nI u - 1).toInt64 ↔ -1 ≤ x ∧ x < nI u := by
  unfold gInL
  rw [Int64.le_iff_toInt_le, Int64.le_iff_toInt_le, gm1 (by omega), gi2l, Int32.le_iff_toInt_le, Int32.lt_iff_toInt_lt, nI_toInt (by omega)]
  have e : (-1 : Int64).toInt = -1 := by decide
  have e2 : (-1 : Int32).toInt = -1 := by decide
  rw [e, e2]
  omega
/-- the class asks only the colours that are there -/
theorem gLet_n {f t : Nat → Int32} {c n : Nat} (hn : n ≤ 4) (hf : ∀ d, d < 4 → n ≤ d → f d = 0 ∧ t (c * 4 + d) = 0) : gLet f t c n ↔ gLet f t c 4 := by
  refine ⟨fun h => ⟨h.1, fun d hd => ?_⟩, fun h => ⟨h.1, fun d hd => h.2 d (by omega)⟩⟩
  by_cases q : d < n
  · exact h.2 d q
  · rw [(hf d hd (by omega)).1, (hf d hd (by omega)).2]
    decide
theorem VS_z {nc : Nat → Nat} {S : Nat → Int32} (V : VS nc S) {u c d : Nat} (hu : u < 8) (hc : c < 4) (hd : d < 4) (h : nc u ≤ d) : bS S u d = 0 ∧ tS S u (c * 4 + d) = 0 := ⟨(V.1 u hu d hd).2.1 h, (V.2.1 u hu c hc d hd).2 (Or.inr h)⟩
theorem gLet_e {f t f' t' : Nat → Int32} {c n : Nat} (h1 : ∀ d, d < 4 → f d = f' d) (h2 : ∀ d, d < 16 → t d = t' d) (hc : c < 4) (hn : n ≤ 4) : gLet f t c n ↔ gLet f' t' c n := by
  unfold gLet
  rw [h1 c hc]
  refine ⟨fun h => ⟨h.1, fun d hd => ?_⟩, fun h => ⟨h.1, fun d hd => ?_⟩⟩
  · rw [← h1 d (by omega), ← h2 _ (by omega)]; exact h.2 d hd
  · rw [h1 d (by omega), h2 _ (by omega)]; exact h.2 d hd
theorem KC_let {σ : GS} {v : GV} (K : KC σ v) (R : RV v) {u c : Nat} (hu : u < 8) (hc : c < 4) : gLet (gI σ u) (gI σ (8 + u)) c (vC v u) ↔ gLet (bS (vS v) u) (tS (vS v) u) c 4 := by
  have hn : vC v u ≤ 4 := by
    by_cases h : u < vM v
    · exact ((R.2.1 u hu).1 h).2
    · rw [(R.2.1 u hu).2 (by omega)]; omega
  exact (gLet_e (fun d hd => KC_b K hu hd) (fun d hd => KC_t K hu hd) hc hn).trans (gLet_n hn (fun d hd h => VS_z R.2.2.1 hu hc hd h))
theorem KC_sum {σ : GS} {v : GV} (K : KC σ v) {u : Nat} (hu : u < 8) : gTot σ u = sumS (vS v) u := by
  unfold gTot sumS
  rw [KC_b K hu (by omega), KC_b K hu (by omega), KC_b K hu (by omega), KC_b K hu (by omega)]
theorem RV_keep {v : GV} (R : RV v) : RV (vKeep v) := by
  refine ⟨R.1, R.2.1, R.2.2.1, fun k hk => ?_⟩
  have hk : k < (if vL v < 20 then vL v + 1 else 20) := hk
  show VS (vC v) (if vL v < 20 then (if k = vL v then vS v else vH v k) else if k = 19 then vS v else vH v (k + 1))
  by_cases h : vL v < 20
  · rw [if_pos h] at hk ⊢
    by_cases e : k = vL v
    · rw [if_pos e]; exact R.2.2.1
    · rw [if_neg e]; exact R.2.2.2 k (by omega)
  · rw [if_neg h] at hk ⊢
    by_cases e : k = 19
    · rw [if_pos e]; exact R.2.2.1
    · rw [if_neg e]; exact R.2.2.2 (k + 1) (by omega)
theorem RV_set {v : GV} {S : Nat → Int32} (R : RV v) (V : VS (vC v) S) : RV (vSet v S) := ⟨R.1, R.2.1, V, R.2.2.2⟩
theorem KC_kept {σ σ' : GS} {v : GV} {kn : Nat} (K : KC σ v) (hn : kn < 20) (hx : gN σ 31 = nI kn) (h : ∃ f : Nat → Int32, (∀ j, j < 201 → f j = cS σ j) ∧ σ' = uI (uN (uN σ 31 (nI ((kn + 1) % 20))) 30 (nI (if vL v < 20 then vL v + 1 else 20))) (24 + kn) f) : KC σ' (vKeep v) ∧ FC σ σ' := by
  obtain ⟨f, hf, rfl⟩ := h
  exact ⟨KC_keep K hn hx hf, FC_I (by omega) (FC_N (by omega) (FC_N (by omega) (FC_r σ)))⟩
theorem gfilA {f h : Nat → Int32} {a j : Nat} {v : Int32} (hf : ∀ i, i < j → f (a + i) = h i) (e : v = h j) {i : Nat} (hi : i < j + 1) : upd f (a + j) v (a + i) = h i := by
  by_cases q : i = j
  · subst q
    rw [pk_us]
    exact e
  · rw [pk_un (by omega)]
    exact hf i (by omega)
theorem dS_step {f g : Nat → Int32} {u c d : Nat} (hc : c < 4) (hd : d < 4) (hf : ∀ j, f j = if 25 * u ≤ j ∧ j < 25 * u + d then g j + g (25 * u + 4 + (c * 4 + (j - 25 * u))) else g j) (j : Nat) : upd f (25 * u + d) (f (25 * u + d) + f (25 * u + 4 + (c * 4 + d))) j = if 25 * u ≤ j ∧ j < 25 * u + (d + 1) then g j + g (25 * u + 4 + (c * 4 + (j - 25 * u))) else g j := by
  by_cases e : j = 25 * u + d
  · subst e
    rw [pk_us, hf, hf, if_neg (by omega), if_neg (by omega), if_pos (by omega), show 25 * u + d - 25 * u = d by omega]
  · rw [pk_un e, hf]
    by_cases h : 25 * u ≤ j ∧ j < 25 * u + d
    · rw [if_pos h, if_pos (by omega)]
    · rw [if_neg h, if_neg (by omega)]
theorem KM_draws {σ : GS} {v : GV} {u c : Nat} {f : Nat → Int32} (K : KM σ v) (hu : u < 8) (hc : c < 4) (hf : ∀ j, f j = if 25 * u ≤ j ∧ j < 25 * u + 4 then gI σ 53 j + gI σ 53 (25 * u + 4 + (c * 4 + (j - 25 * u))) else gI σ 53 j) : KM (uI σ 53 (upd (upd f (25 * u + 24) (f (25 * u + 24) + 1)) 201 (upd f (25 * u + 24) (f (25 * u + 24) + 1) 201 + 1))) (vSet v (dS (vS v) u c)) := by
  refine KM_st K (fun j hj => ?_) ?_
  · rw [pk_un (by omega)]
    unfold dS
    by_cases e : j = 25 * u + 24
    · subst e
      rw [pk_us, hf, if_neg (by omega), if_neg (by omega), if_pos rfl, K.2.2.1 _ (by omega)]
    · rw [pk_un e, hf]
      by_cases h : 25 * u ≤ j ∧ j < 25 * u + 4
      · rw [if_pos h, if_pos h, K.2.2.1 _ hj, K.2.2.1 _ (by omega)]
      · rw [if_neg h, if_neg h, if_neg e, K.2.2.1 _ hj]
  · rw [pk_us, pk_un (by omega), hf, if_neg (by omega), K.2.2.2.1, DS_draw _ hu]
theorem KM_let {σ : GS} {v : GV} (K : KM σ v) {u c : Nat} (hu : u < 8) (hc : c < 4) : gLet (mB σ u) (mT σ u) c 4 ↔ gLet (bS (vS v) u) (tS (vS v) u) c 4 :=
  gLet_e (fun d hd => K.2.2.1 _ (by omega)) (fun d hd => K.2.2.1 _ (by omega)) hc (by omega)
theorem KM_sum {σ : GS} {v : GV} (K : KM σ v) {u : Nat} (hu : u < 8) : mB σ u 0 + mB σ u 1 + mB σ u 2 + mB σ u 3 = sumS (vS v) u := by
  unfold mB sumS
  rw [K.2.2.1 _ (by omega), K.2.2.1 _ (by omega), K.2.2.1 _ (by omega), K.2.2.1 _ (by omega)]
theorem g25t {u z : Nat} (h : z < 16) : (25 * u + 4 + z) % 25 ≠ 24 := by omega
