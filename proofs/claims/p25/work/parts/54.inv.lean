-- sheets: kinds, lengths, places
abbrev GW : Type := (Nat → Int32) × (Nat → Nat) × (Nat → Nat → Int64)
def wK (w : GW) : Nat → Int32 := w.1
def wL (w : GW) : Nat → Nat := w.2.1
def wP (w : GW) : Nat → Nat → Int64 := w.2.2
def wI (w : GW) : Nat → Int32 := fun u => nI (wL w u)
def SC (σ : GS) (w : GW) : Prop := ∀ u, u < 6 → gN σ (2 + u) = wK w u ∧ gN σ (8 + u) = nI (wL w u) ∧ ∀ j, j < 16 → gL σ u j = wP w u j
def SM (σ : GS) (w : GW) : Prop := ∀ u, u < 6 → gI σ 50 u = wK w u ∧ gI σ 51 u = nI (wL w u) ∧ ∀ j, j < 16 → gL σ 12 (16 * u + j) = wP w u j
def SW (w : GW) : Prop := ∀ u, u < 6 → -1 ≤ wK w u ∧ wL w u ≤ 16
theorem SC_FC {a b : GS} {w : GW} (F : FC a b) (K : SC a w) : SC b w := fun u hu => ⟨(F.2.2.1 _ (by omega)).trans (K u hu).1, (F.2.2.1 _ (by omega)).trans (K u hu).2.1, fun j hj => by rw [F.2.1]; exact (K u hu).2.2 j hj⟩
theorem SC_FM {a b : GS} {w : GW} (F : FM a b) (K : SC a w) : SC b w := fun u hu => ⟨(F.2.2.1 _ (by omega)).trans (K u hu).1, (F.2.2.1 _ (by omega)).trans (K u hu).2.1, fun j hj => by rw [F.2.1]; exact (K u hu).2.2 j hj⟩
theorem SM_FC {a b : GS} {w : GW} (F : FC a b) (K : SM a w) : SM b w := fun u hu => ⟨by rw [F.1 50 (by omega)]; exact (K u hu).1, by rw [F.1 51 (by omega)]; exact (K u hu).2.1, fun j hj => by rw [F.2.1]; exact (K u hu).2.2 j hj⟩
theorem SM_FM {a b : GS} {w : GW} (F : FM a b) (K : SM a w) : SM b w := fun u hu => ⟨by rw [F.1 50 (by omega)]; exact (K u hu).1, by rw [F.1 51 (by omega)]; exact (K u hu).2.1, fun j hj => by rw [F.2.1]; exact (K u hu).2.2 j hj⟩
theorem SC_sm {a b : GS} {w : GW} (F : gSm a b) (K : SC a w) : SC b w := fun u hu => ⟨(gSm_n F (by omega)).trans (K u hu).1, (gSm_n F (by omega)).trans (K u hu).2.1, fun j hj => by rw [F.2.1 u (by omega)]; exact (K u hu).2.2 j hj⟩
theorem SM_sm {a b : GS} {w : GW} (F : gSm a b) (K : SM a w) : SM b w := fun u hu => ⟨by rw [gSm_i F (by omega)]; exact (K u hu).1, by rw [gSm_i F (by omega)]; exact (K u hu).2.1, fun j hj => by rw [F.2.1 12 (by omega)]; exact (K u hu).2.2 j hj⟩
theorem SC_hk {σ : GS} {w : GW} (K : SC σ w) (V : SW w) (u : Nat) (hu : u < 6) : -1 ≤ gN σ (2 + u) ∧ ∃ m : Nat, m ≤ 16 ∧ gN σ (8 + u) = nI m := ⟨by rw [(K u hu).1]; exact (V u hu).1, wL w u, (V u hu).2, (K u hu).2.1⟩
theorem SM_hm {σ : GS} {w : GW} (K : SM σ w) (V : SW w) (u : Nat) (hu : u < 6) : ∃ m : Nat, m ≤ 16 ∧ (0 ≤ gI σ 50 u → gI σ 51 u = nI m) := ⟨wL w u, (V u hu).2, fun _ => (K u hu).2.1⟩
theorem SM_hk {σ : GS} {w : GW} (K : SM σ w) (V : SW w) (u : Nat) (hu : u < 6) : ∃ m : Nat, m ≤ 16 ∧ gI σ 51 u = nI m := ⟨wL w u, (V u hu).2, (K u hu).2.1⟩
-- the whole of what stands
def Inv (σ : GS) (v : GV) (w : GW) : Prop := (KC σ v ∧ KM σ v ∧ RV v) ∧ (SC σ w ∧ SM σ w ∧ SW w) ∧ ¬ gG σ 12 = 0
def Mid (σ : GS) (v v' : GV) (w w' : GW) : Prop := (KC σ v' ∧ KM σ v ∧ RV v) ∧ (SC σ w' ∧ SM σ w ∧ SW w) ∧ ¬ gG σ 12 = 0
def OX (a b : GS) : Prop := (∀ q, gI b q = gI a q) ∧ (∀ q, ¬ (2 ≤ q ∧ q < 14) → gN b q = gN a q) ∧ (∀ q, 6 ≤ q → gL b q = gL a q) ∧ gG b 12 = gG a 12
def OM (a b : GS) : Prop := (∀ q, ¬ (q = 50 ∨ q = 51) → gI b q = gI a q) ∧ (∀ q, gN b q = gN a q) ∧ (∀ q, q < 6 → gL b q = gL a q) ∧ gG b 12 = gG a 12
theorem OX_r (a : GS) : OX a a := ⟨fun _ => rfl, fun _ _ => rfl, fun _ _ => rfl, rfl⟩
theorem OM_r (a : GS) : OM a a := ⟨fun _ _ => rfl, fun _ => rfl, fun _ _ => rfl, rfl⟩
theorem KC_e {a b : GS} {v : GV} (hI : ∀ q, q < 44 → gI b q = gI a q) (hN : ∀ q, (q < 2 ∨ (14 ≤ q ∧ q < 32)) → gN b q = gN a q) (K : KC a v) : KC b v := by
  obtain ⟨h1, h2, h3, h4, kn, h5, h6, h7⟩ := K
  refine ⟨by rw [hN 0 (by omega)]; exact h1, fun u hu => by rw [hN _ (by omega)]; exact h2 u hu, fun j hj => (cS_eq (fun q hq => hI q (by omega)) (fun q hq => hN q (by omega)) hj).trans (h3 j hj), ⟨h4.1, by rw [hN 30 (by omega)]; exact h4.2⟩, kn, h5, by rw [hN 31 (by omega)]; exact h6, fun k hk j hj => by rw [hI _ (by omega)]; exact h7 k hk j hj⟩
theorem KM_e {a b : GS} {v : GV} (hI : ∀ q, 52 ≤ q → q < 55 → gI b q = gI a q) (hN : ∀ q, (q = 33 ∨ q = 34) → gN b q = gN a q) (K : KM a v) : KM b v := by
  obtain ⟨h1, h2, h3, h4, h5, h6⟩ := K
  refine ⟨by rw [hN 33 (by omega)]; exact h1, fun u hu => by rw [hI 52 (by omega) (by omega)]; exact h2 u hu, fun j hj => by rw [hI 53 (by omega) (by omega)]; exact h3 j hj, by rw [hI 53 (by omega) (by omega)]; exact h4, ⟨h5.1, by rw [hN 34 (by omega)]; exact h5.2⟩, fun k hk => ⟨fun j hj => by rw [hI 54 (by omega) (by omega)]; exact (h6 k hk).1 j hj, by rw [hI 54 (by omega) (by omega)]; exact (h6 k hk).2⟩⟩
theorem i_actC {σ s : GS} {v v' : GV} {w : GW} (I : Inv σ v w) (K : KC s v') (F : FC σ s) : Mid s v v' w w :=
  ⟨⟨K, KM_FC F I.1.2.1, I.1.2.2⟩, ⟨SC_FC F I.2.1.1, SM_FC F I.2.1.2.1, I.2.1.2.2⟩, by rw [F.2.2.2 12 (by omega)]; exact I.2.2⟩
theorem i_actM {s t : GS} {v v' : GV} {w : GW} (I : Mid s v v' w w) (K : KM t v') (F : FM s t) (R : RV v') : Inv t v' w :=
  ⟨⟨KC_FM F I.1.1, K, R⟩, ⟨SC_FM F I.2.1.1, SM_FM F I.2.1.2.1, I.2.1.2.2⟩, by rw [F.2.2.2 12]; exact I.2.2⟩
theorem i_sm {σ s : GS} {v : GV} {w : GW} (I : Inv σ v w) (F : gSm σ s) : Inv s v w :=
  ⟨⟨KC_sm F I.1.1, KM_sm F I.1.2.1, I.1.2.2⟩, ⟨SC_sm F I.2.1.1, SM_sm F I.2.1.2.1, I.2.1.2.2⟩, F.2.2.2 I.2.2⟩
theorem i_shC {σ s : GS} {v : GV} {w w' : GW} (I : Inv σ v w) (S : SC s w') (F : OX σ s) : Mid s v v w w' :=
  ⟨⟨KC_e (fun q _ => F.1 q) (fun q h => F.2.1 q (by omega)) I.1.1, KM_e (fun q _ _ => F.1 q) (fun q h => F.2.1 q (by omega)) I.1.2.1, I.1.2.2⟩, ⟨S, fun u hu => ⟨by rw [F.1]; exact (I.2.1.2.1 u hu).1, by rw [F.1]; exact (I.2.1.2.1 u hu).2.1, fun j hj => by rw [F.2.2.1 12 (by omega)]; exact (I.2.1.2.1 u hu).2.2 j hj⟩, I.2.1.2.2⟩, by rw [F.2.2.2]; exact I.2.2⟩
theorem i_shM {s t : GS} {v : GV} {w w' : GW} (I : Mid s v v w w') (S : SM t w') (F : OM s t) (V : SW w') : Inv t v w' :=
  ⟨⟨KC_e (fun q h => F.1 q (by omega)) (fun q _ => F.2.1 q) I.1.1, KM_e (fun q h _ => F.1 q (by omega)) (fun q _ => F.2.1 q) I.1.2.1, I.1.2.2⟩, ⟨fun u hu => ⟨by rw [F.2.1]; exact (I.2.1.1 u hu).1, by rw [F.2.1]; exact (I.2.1.1 u hu).2.1, fun j hj => by rw [F.2.2.1 u hu]; exact (I.2.1.1 u hu).2.2 j hj⟩, S, V⟩, by rw [F.2.2.2]; exact I.2.2⟩
theorem i_self {σ : GS} {v : GV} {w : GW} (I : Inv σ v w) : Mid σ v v w w := I
theorem i_back {σ : GS} {v : GV} {w : GW} (I : Mid σ v v w w) : Inv σ v w := I
-- sheets: the same answers
theorem fLay_w {kd ln kd' ln' : Nat → Int32} {r i : Int32} (h1 : ∀ u, u < 6 → kd u = kd' u) (h2 : ∀ u, u < 6 → ln u = ln' u) : fLay kd ln r i = fLay kd' ln' r i := by
  unfold fLay
  by_cases h : 0 ≤ r.toInt ∧ r.toInt < 6
  · rw [if_pos h, if_pos h, h1 _ (by omega), h2 _ (by omega)]
  · rw [if_neg h, if_neg h]
theorem fPl_at {k s i : Int32} (h : fPl k s i = 0) : 0 ≤ k ∧ 0 ≤ i.toInt ∧ i.toInt < s.toInt := by
  unfold fPl at h
  by_cases h1 : k < 0
  · rw [if_pos h1] at h; exact absurd h (by decide)
  · rw [if_neg h1] at h
    by_cases h2 : 0 ≤ i.toInt ∧ i.toInt < s.toInt
    · exact ⟨Int32.not_lt.mp h1, h2⟩
    · rw [if_neg h2] at h; exact absurd h (by decide)
theorem fHol_w {kd ln kd' : Nat → Int32} {lw : Nat → Nat} {pl pl' : Nat → Nat → Int64} {r i : Int32} {x : Int64} (h1 : ∀ u, u < 6 → kd u = kd' u) (h2 : ∀ u, u < 6 → ln u = nI (lw u)) (h3 : ∀ u, u < 6 → lw u ≤ 16) (h4 : ∀ u, u < 6 → ∀ j, j < 16 → pl u j = pl' u j) : fHol kd ln pl r i x = fHol kd' (fun u => nI (lw u)) pl' r i x := by
  unfold fHol
  by_cases h : 0 ≤ r.toInt ∧ r.toInt < 6
  · rw [if_pos h, if_pos h, h1 _ (by omega), h2 _ (by omega)]
    by_cases hz : fPl (kd' r.toInt.toNat) (nI (lw r.toInt.toNat)) i = 0
    · obtain ⟨-, q1, q2⟩ := fPl_at hz
      have q3 := h3 r.toInt.toNat (by omega)
      rw [nI_toInt (by omega)] at q2
      rw [if_pos hz, if_pos hz, h4 _ (by omega) _ (by omega)]
    · rw [if_neg hz, if_neg hz]
  · rw [if_neg h, if_neg h]
theorem fCop_w {kd ln kd' ln' : Nat → Int32} {r i t j n : Int32} (h1 : ∀ u, u < 6 → kd u = kd' u) (h2 : ∀ u, u < 6 → ln u = ln' u) : fCop kd ln r i t j n = fCop kd' ln' r i t j n := by
  unfold fCop
  by_cases h : (0 ≤ r.toInt ∧ r.toInt < 6) ∧ (0 ≤ t.toInt ∧ t.toInt < 6)
  · rw [if_pos h, if_pos h, h1 _ (show r.toInt.toNat < 6 by omega), h2 _ (show r.toInt.toNat < 6 by omega), h1 _ (show t.toInt.toNat < 6 by omega), h2 _ (show t.toInt.toNat < 6 by omega)]
  · rw [if_neg h, if_neg h]
def aLay (w : GW) (r i : Int32) : Int32 := fLay (wK w) (wI w) r i
def aHol (w : GW) (r i : Int32) (x : Int64) : Int32 := fHol (wK w) (wI w) (wP w) r i x
def aCop (w : GW) (r i t j n : Int32) : Int32 := fCop (wK w) (wI w) r i t j n
theorem aLayC {σ : GS} {w : GW} (K : SC σ w) (r i : Int32) : fLay (fun u => gN σ (2 + u)) (fun u => gN σ (8 + u)) r i = aLay w r i := fLay_w (fun u hu => (K u hu).1) (fun u hu => (K u hu).2.1)
theorem aLayM {σ : GS} {w : GW} (K : SM σ w) (r i : Int32) : fLay (gI σ 50) (gI σ 51) r i = aLay w r i := fLay_w (fun u hu => (K u hu).1) (fun u hu => (K u hu).2.1)
theorem aHolC {σ : GS} {w : GW} (K : SC σ w) (V : SW w) (r i : Int32) (x : Int64) : fHol (fun u => gN σ (2 + u)) (fun u => gN σ (8 + u)) (gL σ) r i x = aHol w r i x := fHol_w (fun u hu => (K u hu).1) (fun u hu => (K u hu).2.1) (fun u hu => (V u hu).2) (fun u hu => (K u hu).2.2)
theorem aHolM {σ : GS} {w : GW} (K : SM σ w) (V : SW w) (r i : Int32) (x : Int64) : fHol (gI σ 50) (gI σ 51) (fun u j => gL σ 12 (16 * u + j)) r i x = aHol w r i x := fHol_w (fun u hu => (K u hu).1) (fun u hu => (K u hu).2.1) (fun u hu => (V u hu).2) (fun u hu => (K u hu).2.2)
theorem aCopC {σ : GS} {w : GW} (K : SC σ w) (r i t j n : Int32) : fCop (fun u => gN σ (2 + u)) (fun u => gN σ (8 + u)) r i t j n = aCop w r i t j n := fCop_w (fun u hu => (K u hu).1) (fun u hu => (K u hu).2.1)
theorem aCopM {σ : GS} {w : GW} (K : SM σ w) (r i t j n : Int32) : fCop (gI σ 50) (gI σ 51) r i t j n = aCop w r i t j n := fCop_w (fun u hu => (K u hu).1) (fun u hu => (K u hu).2.1)
-- sheets: what is left
def wSet (w : GW) (u : Nat) (k : Int32) (n : Nat) : GW := (fun q => if q = u then k else wK w q, fun q => if q = u then n else wL w q, fun q j => if q = u then 0 else wP w q j)
def bSheet (w : GW) (r k n : Int32) : GW := if fSheet r k n = 0 then wSet w (nU r) k (if k = -1 then 0 else nU n) else w
def wPut (w : GW) (u i : Nat) (x : Int64) : GW := (wK w, wL w, fun q j => if q = u ∧ j = i then x else wP w q j)
def bLay (w : GW) (r i : Int32) (x : Int64) : GW := if aLay w r i = 0 then wPut w (nU r) (nU i) (gCutV (wK w (nU r)) x) else w
def wCop (w : GW) (a i b j n : Nat) : GW := (wK w, wL w, fun q z => if q = b ∧ j ≤ z ∧ z < j + n then wP w a (i + (z - j)) else wP w q z)
def bCop (w : GW) (r i t j n : Int32) : GW := if aCop w r i t j n = 0 then wCop w (nU r) (nU i) (nU t) (nU j) (nU n) else w
theorem fSheet_in {r k n : Int32} (h : fSheet r k n = 0) : -1 ≤ k ∧ (¬ k = -1 → n = nI (nU n) ∧ nU n ≤ 16) := by
  unfold fSheet at h
  by_cases h1 : ¬ (0 ≤ r.toInt ∧ r.toInt < 6) ∨ k < -1 ∨ 2 < k ∨ (¬ k = -1 ∧ 16 < n)
  · rw [if_pos h1] at h; exact absurd h (by decide)
  · rw [if_neg h1] at h
    by_cases h2 : ¬ k = -1 ∧ n < 0
    · rw [if_pos h2] at h; exact absurd h (by decide)
    · refine ⟨Int32.not_lt.mp (fun q => h1 (Or.inr (Or.inl q))), fun hk => ?_⟩
      have q1 : ¬ n < 0 := fun q => h2 ⟨hk, q⟩
      have q2 : ¬ 16 < n := fun q => h1 (Or.inr (Or.inr (Or.inr ⟨hk, q⟩)))
      have q3 := gge0 q1
      rw [Int32.lt_iff_toInt_lt] at q2
      have e : (16 : Int32).toInt = 16 := by decide
      exact ⟨nIn n q3, by unfold nU; omega⟩
theorem bSheet_W {w : GW} (V : SW w) (r k n : Int32) : SW (bSheet w r k n) := by
  unfold bSheet
  by_cases h : fSheet r k n = 0
  · rw [if_pos h]
    obtain ⟨h1, h2⟩ := fSheet_in h
    intro q hq
    show -1 ≤ (if q = nU r then k else wK w q) ∧ (if q = nU r then (if k = -1 then 0 else nU n) else wL w q) ≤ 16
    by_cases e : q = nU r
    · rw [if_pos e, if_pos e]
      refine ⟨h1, ?_⟩
      by_cases hk : k = -1
      · rw [if_pos hk]; omega
      · rw [if_neg hk]; exact (h2 hk).2
    · rw [if_neg e, if_neg e]; exact V q hq
  · rw [if_neg h]; exact V
theorem bLay_W {w : GW} (V : SW w) (r i : Int32) (x : Int64) : SW (bLay w r i x) := by
  unfold bLay
  by_cases h : aLay w r i = 0
  · rw [if_pos h]; exact V
  · rw [if_neg h]; exact V
theorem bCop_W {w : GW} (V : SW w) (r i t j n : Int32) : SW (bCop w r i t j n) := by
  unfold bCop
  by_cases h : aCop w r i t j n = 0
  · rw [if_pos h]; exact V
  · rw [if_neg h]; exact V
theorem x_sheet {σ s : GS} {v : GV} {w : GW} {r k n x : Int32} (I : Inv σ v w) (h : x = fSheet r k n ∧ ((x ≠ 0 ∧ σ = s) ∨ (x = 0 ∧ ∃ (u : Nat) (f : Nat → Int64), u < 6 ∧ r = nI u ∧ (∀ j, j < 16 → f j = 0) ∧ s = uL (uN (uN σ (2 + u) k) (8 + u) (if k = -1 then 0 else n)) u f))) : x = fSheet r k n ∧ Mid s v v w (bSheet w r k n) := by
  obtain ⟨rfl, h⟩ := h
  refine ⟨rfl, ?_⟩
  rcases h with ⟨h0, rfl⟩ | ⟨h0, u, f, hu, rfl, hf, rfl⟩
  · unfold bSheet
    rw [if_neg h0]
    exact I
  · unfold bSheet
    rw [if_pos h0, nU_n (by omega)]
    obtain ⟨-, h2⟩ := fSheet_in h0
    refine i_shC I (fun q hq => ?_) ⟨fun _ => rfl, fun q hq => ?_, fun q hq => ?_, rfl⟩
    · obtain ⟨i1, i2, i3⟩ := I.2.1.1 q hq
      show gN (uL _ u f) (2 + q) = (if q = u then k else wK w q) ∧ gN (uL _ u f) (8 + q) = nI (if q = u then (if k = -1 then 0 else nU n) else wL w q) ∧ ∀ j, j < 16 → gL _ q j = (if q = u then 0 else wP w q j)
      rw [gN_uL, gN_uN, if_neg (by omega), gN_uN, gN_uL, gN_uN, gL_uL]
      by_cases e : q = u
      · subst e
        rw [if_pos rfl, if_pos rfl, if_pos rfl, if_pos rfl, if_pos rfl]
        refine ⟨rfl, ?_, fun j hj => by rw [if_pos rfl]; exact hf j hj⟩
        by_cases hk : k = -1
        · rw [if_pos hk, if_pos hk]; rfl
        · rw [if_neg hk, if_neg hk]; exact (h2 hk).1
      · rw [if_neg (by omega), if_neg e, if_neg (by omega), if_neg e, if_neg e, gN_uN, if_neg (by omega)]
        exact ⟨i1, i2, fun j hj => by rw [if_neg e]; exact i3 j hj⟩
    · rw [gN_uL, gN_uN, if_neg (by omega), gN_uN, if_neg (by omega)]
    · rw [gL_uL, if_neg (by omega)]; rfl
theorem m_sheet {s t : GS} {v : GV} {w : GW} {r k n x : Int32} (I : Mid s v v w (bSheet w r k n)) (h : x = fSheet r k n ∧ ((¬ x = 0 ∧ s = t) ∨ (x = 0 ∧ ∃ (u : Nat) (f : Nat → Int64), u < 6 ∧ r = nI u ∧ (∀ j, j < 16 → f (16 * u + j) = 0) ∧ (∀ j, (j < 16 * u ∨ 16 * u + 16 ≤ j) → f j = gL s 12 j) ∧ t = uL (uI (uI s 50 (upd (gI s 50) u k)) 51 (upd (gI s 51) u (if k < 0 then 0 else n))) 12 f))) : x = fSheet r k n ∧ Inv t v (bSheet w r k n) := by
  obtain ⟨rfl, h⟩ := h
  refine ⟨rfl, ?_⟩
  have V := bSheet_W I.2.1.2.2 r k n
  rcases h with ⟨h0, rfl⟩ | ⟨h0, u, f, hu, rfl, hf, hf2, rfl⟩
  · unfold bSheet at I ⊢
    rw [if_neg h0] at I ⊢
    exact I
  · refine i_shM I (fun q hq => ?_) ⟨fun q hq => ?_, fun _ => rfl, fun q hq => ?_, rfl⟩ V
    · obtain ⟨i1, i2, i3⟩ := I.2.1.2.1 q hq
      obtain ⟨h1, h2⟩ := fSheet_in h0
      unfold bSheet
      rw [if_pos h0, nU_n (by omega)]
      show gI _ 50 q = (if q = u then k else wK w q) ∧ gI _ 51 q = nI (if q = u then (if k = -1 then 0 else nU n) else wL w q) ∧ ∀ j, j < 16 → gL _ 12 (16 * q + j) = (if q = u then 0 else wP w q j)
      rw [gI_uL, gI_uI, if_neg (by decide), gI_uI, if_pos rfl, gI_uL, gI_uI, if_pos rfl, gL_uL, if_pos rfl]
      have ek : (k < 0) ↔ k = -1 := gkd_n h1
      by_cases e : q = u
      · subst e
        rw [pk_us, pk_us, if_pos rfl, if_pos rfl]
        refine ⟨rfl, ?_, fun j hj => by rw [if_pos rfl]; exact hf j hj⟩
        by_cases hk : k = -1
        · rw [if_pos hk, if_pos (ek.mpr hk)]; rfl
        · rw [if_neg hk, if_neg (fun z => hk (ek.mp z))]; exact (h2 hk).1
      · rw [pk_un e, pk_un e, if_neg e, if_neg e]
        exact ⟨i1, i2, fun j hj => by rw [if_neg e, hf2 _ (by omega)]; exact i3 j hj⟩
    · rw [gI_uL, gI_uI, if_neg (by omega), gI_uI, if_neg (by omega)]
    · rw [gL_uL, if_neg (by omega)]; rfl
theorem x_lay {σ s : GS} {v : GV} {w : GW} {r i x : Int32} {y : Int64} (I : Inv σ v w) (h : x = fLay (fun u => gN σ (2 + u)) (fun u => gN σ (8 + u)) r i ∧ ((¬ x = 0 ∧ σ = s) ∨ (x = 0 ∧ ∃ (u j : Nat), u < 6 ∧ r = nI u ∧ j < 16 ∧ i = nI j ∧ s = uL σ u (vp_updL (gL σ u) j (gCutV (gN σ (2 + u)) y))))) : x = aLay w r i ∧ Mid s v v w (bLay w r i y) := by
  obtain ⟨e1, h⟩ := h
  have e1 := e1.trans (aLayC I.2.1.1 r i)
  refine ⟨e1, ?_⟩
  unfold bLay
  rw [← e1]
  rcases h with ⟨h0, rfl⟩ | ⟨h0, u, j, hu, rfl, hj, rfl, rfl⟩
  · rw [if_neg h0]
    exact I
  · rw [if_pos h0, nU_n (by omega), nU_n (by omega)]
    refine i_shC I (fun q hq => ?_) ⟨fun _ => rfl, fun q hq => rfl, fun q hq => ?_, rfl⟩
    · obtain ⟨i1, i2, i3⟩ := I.2.1.1 q hq
      refine ⟨i1, i2, fun z hz => ?_⟩
      show gL (uL σ u _) q z = if q = u ∧ z = j then gCutV (wK w u) y else wP w q z
      rw [gL_uL]
      by_cases e : q = u
      · subst e
        rw [if_pos rfl]
        unfold vp_updL
        by_cases ez : z = j
        · rw [if_pos ez, if_pos ⟨rfl, ez⟩, i1]
        · rw [if_neg ez, if_neg (fun p => ez p.2)]; exact i3 z hz
      · rw [if_neg e, if_neg (fun p => e p.1)]; exact i3 z hz
    · rw [gL_uL, if_neg (by omega)]
theorem m_lay {s t : GS} {v : GV} {w : GW} {r i x : Int32} {y : Int64} (I : Mid s v v w (bLay w r i y)) (h : x = fLay (gI s 50) (gI s 51) r i ∧ ((¬ x = 0 ∧ s = t) ∨ (x = 0 ∧ ∃ (u j : Nat), u < 6 ∧ r = nI u ∧ j < 16 ∧ i = nI j ∧ t = uL s 12 (vp_updL (gL s 12) (16 * u + j) (gCutV (gI s 50 u) y))))) : x = aLay w r i ∧ Inv t v (bLay w r i y) := by
  obtain ⟨e1, h⟩ := h
  have e1 := e1.trans (aLayM I.2.1.2.1 r i)
  have V := bLay_W I.2.1.2.2 r i y
  refine ⟨e1, ?_⟩
  rcases h with ⟨h0, rfl⟩ | ⟨h0, u, j, hu, rfl, hj, rfl, rfl⟩
  · unfold bLay at I ⊢
    rw [← e1, if_neg h0] at I ⊢
    exact I
  · refine i_shM I (fun q hq => ?_) ⟨fun q hq => rfl, fun _ => rfl, fun q hq => ?_, rfl⟩ V
    · obtain ⟨i1, i2, i3⟩ := I.2.1.2.1 q hq
      obtain ⟨k1, -, -⟩ := I.2.1.2.1 u hu
      unfold bLay
      rw [← e1, if_pos h0, nU_n (by omega), nU_n (by omega)]
      refine ⟨i1, i2, fun z hz => ?_⟩
      show gL (uL s 12 _) 12 (16 * q + z) = if q = u ∧ z = j then gCutV (wK w u) y else wP w q z
      rw [gL_uL, if_pos rfl]
      unfold vp_updL
      by_cases e : q = u ∧ z = j
      · rw [if_pos (by omega), if_pos e, k1]
      · rw [if_neg (by omega), if_neg e]; exact i3 z hz
    · rw [gL_uL, if_neg (by omega)]
theorem gRch_u {i n : Int32} {m : Nat} (h : gRch i n m) (hm : m ≤ 16) : nU i + nU n ≤ m := by
  unfold gRch at h
  unfold nU
  omega
theorem x_copy {σ s : GS} {v : GV} {w : GW} {r i t j n x : Int32} (I : Inv σ v w) (h : x = fCop (fun u => gN σ (2 + u)) (fun u => gN σ (8 + u)) r i t j n ∧ ((¬ x = 0 ∧ σ = s) ∨ (x = 0 ∧ ∃ (a b : Nat), a < 6 ∧ b < 6 ∧ r = nI a ∧ t = nI b ∧ gRch i n 16 ∧ gRch j n 16 ∧ s = uL σ b (va_cpy (gL σ a) (gL σ b) i.toInt.toNat j.toInt.toNat n.toInt.toNat)))) : x = aCop w r i t j n ∧ Mid s v v w (bCop w r i t j n) := by
  obtain ⟨e1, h⟩ := h
  have e1 := e1.trans (aCopC I.2.1.1 r i t j n)
  refine ⟨e1, ?_⟩
  unfold bCop
  rw [← e1]
  rcases h with ⟨h0, rfl⟩ | ⟨h0, a, b, ha, hb, rfl, rfl, r1, r2, rfl⟩
  · rw [if_neg h0]
    exact I
  · rw [if_pos h0, nU_n (show a < 2147483648 by omega), nU_n (show b < 2147483648 by omega)]
    have q1 := gRch_u r1 (by omega)
    have q2 := gRch_u r2 (by omega)
    refine i_shC I (fun q hq => ?_) ⟨fun _ => rfl, fun q hq => rfl, fun q hq => ?_, rfl⟩
    · obtain ⟨i1, i2, i3⟩ := I.2.1.1 q hq
      obtain ⟨-, -, k3⟩ := I.2.1.1 a ha
      refine ⟨i1, i2, fun z hz => ?_⟩
      show gL (uL σ b (va_cpy (gL σ a) (gL σ b) (nU i) (nU j) (nU n))) q z = if q = b ∧ nU j ≤ z ∧ z < nU j + nU n then wP w a (nU i + (z - nU j)) else wP w q z
      rw [gL_uL]
      by_cases e : q = b
      · subst e
        rw [if_pos rfl]
        by_cases ez : nU j ≤ z ∧ z < nU j + nU n
        · rw [if_pos ⟨rfl, ez⟩, cpy_lo ez.1 ez.2]; exact k3 _ (by omega)
        · rw [if_neg (fun p => ez p.2), cpy_out (by omega)]; exact i3 z hz
      · rw [if_neg e, if_neg (fun p => e p.1)]; exact i3 z hz
    · rw [gL_uL, if_neg (by omega)]
theorem m_copy {s t' : GS} {v : GV} {w : GW} {r i t j n x : Int32} (I : Mid s v v w (bCop w r i t j n)) (h : x = fCop (gI s 50) (gI s 51) r i t j n ∧ ((¬ x = 0 ∧ s = t') ∨ (x = 0 ∧ ∃ (a b i' j' n' : Nat) (g : Nat → Int64), a < 6 ∧ b < 6 ∧ r = nI a ∧ t = nI b ∧ i = nI i' ∧ j = nI j' ∧ n = nI n' ∧ i' + n' ≤ 16 ∧ j' + n' ≤ 16 ∧ t' = uL (uL s 13 g) 12 (gcp (gL s 12) (gL s 12) (16 * a + i') (16 * b + j') n')))) : x = aCop w r i t j n ∧ Inv t' v (bCop w r i t j n) := by
  obtain ⟨e1, h⟩ := h
  have e1 := e1.trans (aCopM I.2.1.2.1 r i t j n)
  have V := bCop_W I.2.1.2.2 r i t j n
  refine ⟨e1, ?_⟩
  rcases h with ⟨h0, rfl⟩ | ⟨h0, a, b, i', j', n', g, ha, hb, rfl, rfl, rfl, rfl, rfl, q1, q2, rfl⟩
  · unfold bCop at I ⊢
    rw [← e1, if_neg h0] at I ⊢
    exact I
  · refine i_shM I (fun q hq => ?_) ⟨fun q hq => rfl, fun _ => rfl, fun q hq => ?_, rfl⟩ V
    · obtain ⟨i1, i2, i3⟩ := I.2.1.2.1 q hq
      obtain ⟨-, -, k3⟩ := I.2.1.2.1 a ha
      unfold bCop
      rw [← e1, if_pos h0, nU_n (show a < 2147483648 by omega), nU_n (show b < 2147483648 by omega), nU_n (show i' < 2147483648 by omega), nU_n (show j' < 2147483648 by omega), nU_n (show n' < 2147483648 by omega)]
      refine ⟨i1, i2, fun z hz => ?_⟩
      show gL (uL _ 12 _) 12 (16 * q + z) = if q = b ∧ j' ≤ z ∧ z < j' + n' then wP w a (i' + (z - j')) else wP w q z
      rw [gL_uL, if_pos rfl]
      unfold gcp
      by_cases e : q = b ∧ j' ≤ z ∧ z < j' + n'
      · rw [if_pos (by omega), if_pos e, ← k3 _ (by omega)]
        exact congrArg _ (by omega)
      · rw [if_neg (by omega), if_neg e]; exact i3 z hz
    · rw [gL_uL, if_neg (by omega), gL_uL, if_neg (by omega)]
theorem nI_nn {m : Nat} (h : m < 1000) : ¬ nI m < 0 := Int32.not_lt.mpr (nI_pos' (by omega))
