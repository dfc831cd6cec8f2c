-- soundness is kept
theorem g25n {w u x y : Nat} (hx : x < 25) (hy : y < 25) (h : x ≠ y) : 25 * w + x ≠ 25 * u + y := by omega
theorem g25i {w u x a b : Nat} (hx : x < 25) (hb : b ≤ 25) (h : x < a ∨ b ≤ x) : ¬ (25 * u + a ≤ 25 * w + x ∧ 25 * w + x < 25 * u + b) := by omega
theorem rS_w {S : Nat → Int32} {b n : Nat} {f f' : Nat → Int64} (h : ∀ d, d < n → f d = f' d) : rS S b n f = rS S b n f' := by
  funext j
  unfold rS
  by_cases z : b ≤ j ∧ j < b + n
  · rw [if_pos z, if_pos z, h _ (by omega)]
  · rw [if_neg z, if_neg z]
theorem okU_b {v : GV} (R : RV v) {u : Int32} (h : okU v u) : nU u < vM v ∧ nU u < 8 ∧ u = nI (nU u) := by
  obtain ⟨k, hk, rfl⟩ := h
  have := R.1
  rw [nU_n (by omega)]
  exact ⟨hk, by omega, rfl⟩
theorem okC_b {v : GV} (R : RV v) {u : Nat} {c : Int32} (hu : u < 8) (h : gIx c (vC v u)) : nU c < vC v u ∧ nU c < 4 ∧ c = nI (nU c) := by
  obtain ⟨k, hk, rfl⟩ := h
  have := RV_n R hu
  rw [nU_n (by omega)]
  exact ⟨hk, by omega, rfl⟩
theorem VS_b {nc : Nat → Nat} {S : Nat → Int32} {u c : Nat} {x : Int32} (V : VS nc S) (hu : u < 8) (hc : c < 4) (h : c < nc u) (hx : 0 ≤ x ∧ x ≤ 200) : VS nc (upd S (25 * u + c) x) := by
  refine ⟨fun w hw d hd => ⟨?_, fun z => ?_, ?_⟩, fun w hw a ha d hd => ?_, ?_⟩
  · by_cases e : 25 * w + d = 25 * u + c
    · rw [e, pk_us]; exact hx
    · rw [pk_un e]; exact (V.1 w hw d hd).1
  · have e : ¬ 25 * w + d = 25 * u + c := fun e => by
      have e1 : w = u := by omega
      have e2 : d = c := by omega
      subst e1; subst e2
      omega
    rw [pk_un e]; exact (V.1 w hw d hd).2.1 z
  · rw [pk_un (by omega)]; exact (V.1 w hw d hd).2.2
  · rw [pk_un (by have q := g25n (w := w) (u := u) (x := 4 + (a * 4 + d)) (y := c) (by omega) (by omega) (by omega); omega)]; exact V.2.1 w hw a ha d hd
  · rw [pk_un (by omega)]; exact V.2.2
theorem VS_t {nc : Nat → Nat} {S : Nat → Int32} {u c d : Nat} {x : Int32} (V : VS nc S) (hu : u < 8) (hc : c < 4) (hd : d < 4) (h : c < nc u) (h2 : d < nc u) (hx : -9 ≤ x ∧ x ≤ 9) : VS nc (upd S (25 * u + 4 + (c * 4 + d)) x) := by
  refine ⟨fun w hw a ha => ?_, fun w hw a ha b hb => ?_, ?_⟩
  · rw [pk_un (by have q := g25n (w := w) (u := u) (x := a) (y := 4 + (c * 4 + d)) (by omega) (by omega) (by omega); omega), pk_un (by have q := g25n (w := w) (u := u) (x := 20 + a) (y := 4 + (c * 4 + d)) (by omega) (by omega) (by omega); omega)]; exact V.1 w hw a ha
  · by_cases e : 25 * w + 4 + (a * 4 + b) = 25 * u + 4 + (c * 4 + d)
    · rw [e, pk_us]
      refine ⟨hx, fun z => ?_⟩
      have e1 : w = u := by omega
      have e2 : a = c := by omega
      have e3 : b = d := by omega
      subst e1; subst e2; subst e3
      omega
    · rw [pk_un e]; exact V.2.1 w hw a ha b hb
  · rw [pk_un (by omega)]; exact V.2.2
theorem VS_u {nc : Nat → Nat} {S : Nat → Int32} {u c : Nat} {x : Int32} (V : VS nc S) (hu : u < 8) (hc : c < 4) (hx : -1 ≤ x ∧ x < nI u) : VS nc (upd S (25 * u + 20 + c) x) := by
  refine ⟨fun w hw d hd => ⟨?_, fun z => ?_, ?_⟩, fun w hw a ha d hd => ?_, ?_⟩
  · rw [pk_un (by omega)]; exact (V.1 w hw d hd).1
  · rw [pk_un (by omega)]; exact (V.1 w hw d hd).2.1 z
  · by_cases e : 25 * w + 20 + d = 25 * u + 20 + c
    · rw [e, pk_us]
      have e1 : w = u := by omega
      subst e1
      exact hx
    · rw [pk_un e]; exact (V.1 w hw d hd).2.2
  · rw [pk_un (by have q := g25n (w := w) (u := u) (x := 4 + (a * 4 + d)) (y := 20 + c) (by omega) (by omega) (by omega); omega)]; exact V.2.1 w hw a ha d hd
  · rw [pk_un (by omega)]; exact V.2.2
theorem l2i_in {x : Int64} {a b : Int} (h1 : a ≤ x.toInt) (h2 : x.toInt ≤ b) (ha : -1000 ≤ a) (hb : b ≤ 1000) : x.toInt32.toInt = x.toInt := by
  rw [Int64.toInt_toInt32]
  exact Int.bmod_eq_of_le (by omega) (by omega)
theorem l2i_200 {x : Int64} (h : 0 ≤ x ∧ x ≤ 200) : 0 ≤ x.toInt32 ∧ x.toInt32 ≤ 200 := by
  rw [Int64.le_iff_toInt_le, Int64.le_iff_toInt_le] at h
  have e : (200 : Int64).toInt = 200 := by decide
  have e0 : (0 : Int64).toInt = 0 := by decide
  have e2 : (200 : Int32).toInt = 200 := by decide
  have e3 : (0 : Int32).toInt = 0 := by decide
  rw [Int32.le_iff_toInt_le, Int32.le_iff_toInt_le, l2i_in h.1 h.2 (by rw [e0]; decide) (by rw [e]; decide), e2, e3]
  rw [e, e0] at h
  exact h
theorem l2i_9 {x : Int64} (h : -9 ≤ x ∧ x ≤ 9) : -9 ≤ x.toInt32 ∧ x.toInt32 ≤ 9 := by
  rw [Int64.le_iff_toInt_le, Int64.le_iff_toInt_le] at h
  have e : (9 : Int64).toInt = 9 := by decide
  have e0 : (-9 : Int64).toInt = -9 := by decide
  have e2 : (9 : Int32).toInt = 9 := by decide
  have e3 : (-9 : Int32).toInt = -9 := by decide
  rw [Int32.le_iff_toInt_le, Int32.le_iff_toInt_le, l2i_in h.1 h.2 (by rw [e0]; decide) (by rw [e]; decide), e2, e3]
  rw [e, e0] at h
  exact h
theorem VS_r0 {nc : Nat → Nat} {S : Nat → Int32} {u : Nat} {f : Nat → Int64} (V : VS nc S) (hu : u < 8) (h4 : nc u ≤ 4) (hf : ∀ d, d < nc u → (0 : Int64) ≤ f d ∧ f d ≤ 200) : VS nc (rS S (25 * u + 0) (nc u) f) := by
  refine ⟨fun w hw d hd => ⟨?_, fun z => ?_, ?_⟩, fun w hw a ha d hd => ?_, ?_⟩
  · unfold rS
    by_cases e : 25 * u + 0 ≤ 25 * w + d ∧ 25 * w + d < 25 * u + 0 + nc u
    · rw [if_pos e]
      exact l2i_200 (hf _ (by omega))
    · rw [if_neg e]; exact (V.1 w hw d hd).1
  · unfold rS
    have e : ¬ (25 * u + 0 ≤ 25 * w + d ∧ 25 * w + d < 25 * u + 0 + nc u) := fun e => by
      have e1 : w = u := by omega
      subst e1
      omega
    rw [if_neg e]; exact (V.1 w hw d hd).2.1 z
  · unfold rS
    rw [if_neg (by omega)]; exact (V.1 w hw d hd).2.2
  · unfold rS
    rw [if_neg (fun z => g25i (w := w) (u := u) (x := 4 + (a * 4 + d)) (a := 0) (b := nc u) (by omega) (by omega) (by omega) ⟨by omega, by omega⟩)]; exact V.2.1 w hw a ha d hd
  · unfold rS
    rw [if_neg (by omega)]; exact V.2.2
theorem VS_r1 {nc : Nat → Nat} {S : Nat → Int32} {u c : Nat} {f : Nat → Int64} (V : VS nc S) (hu : u < 8) (hc : c < 4) (hcn : c < nc u) (h4 : nc u ≤ 4) (hf : ∀ d, d < nc u → (-9 : Int64) ≤ f d ∧ f d ≤ 9) : VS nc (rS S (25 * u + (4 + 4 * c)) (nc u) f) := by
  have key : ∀ w a b : Nat, a < 4 → b < 4 → 25 * u + (4 + 4 * c) ≤ 25 * w + 4 + (a * 4 + b) → 25 * w + 4 + (a * 4 + b) < 25 * u + (4 + 4 * c) + 4 → w = u ∧ a = c := by
    intro w a b ha hb h1 h2
    have e1 : w = u := by omega
    subst e1
    exact ⟨rfl, by omega⟩
  refine ⟨fun w hw d hd => ⟨?_, fun z => ?_, ?_⟩, fun w hw a ha d hd => ?_, ?_⟩
  · unfold rS
    rw [if_neg (fun z => g25i (w := w) (u := u) (x := d) (a := 4 + 4 * c) (b := 4 + 4 * c + nc u) (by omega) (by omega) (by omega) ⟨by omega, by omega⟩)]; exact (V.1 w hw d hd).1
  · unfold rS
    rw [if_neg (fun z => g25i (w := w) (u := u) (x := d) (a := 4 + 4 * c) (b := 4 + 4 * c + nc u) (by omega) (by omega) (by omega) ⟨by omega, by omega⟩)]; exact (V.1 w hw d hd).2.1 z
  · unfold rS
    rw [if_neg (fun z => g25i (w := w) (u := u) (x := 20 + d) (a := 4 + 4 * c) (b := 4 + 4 * c + nc u) (by omega) (by omega) (by omega) ⟨by omega, by omega⟩)]; exact (V.1 w hw d hd).2.2
  · unfold rS
    by_cases e : 25 * u + (4 + 4 * c) ≤ 25 * w + 4 + (a * 4 + d) ∧ 25 * w + 4 + (a * 4 + d) < 25 * u + (4 + 4 * c) + nc u
    · obtain ⟨e1, e2⟩ := key w a d ha hd e.1 (by omega)
      rw [if_pos e]
      subst e1; subst e2
      exact ⟨l2i_9 (hf _ (by omega)), fun z => by omega⟩
    · rw [if_neg e]; exact V.2.1 w hw a ha d hd
  · unfold rS
    rw [if_neg (by omega)]; exact V.2.2
theorem RV_put {v : GV} (R : RV v) (u c n : Int32) : RV (fPut v u c n).2 := by
  unfold fPut
  by_cases h : (okU v u ∧ okC v u c) ∧ (0 ≤ n ∧ n ≤ 200)
  · rw [gIf_t h]
    obtain ⟨h1, h2, h3⟩ := okU_b R h.1.1
    obtain ⟨k1, k2, k3⟩ := okC_b R h2 h.1.2
    exact RV_set (RV_keep R) (VS_b R.2.2.1 h2 k2 k1 h.2)
  · rw [gIf_f h]; exact R
theorem RV_add {v : GV} (R : RV v) (u c d n : Int32) : RV (fAdd v u c d n).2 := by
  unfold fAdd
  by_cases h : (okU v u ∧ okC v u c ∧ okC v u d) ∧ (-9 ≤ n ∧ n ≤ 9)
  · rw [gIf_t h]
    obtain ⟨h1, h2, h3⟩ := okU_b R h.1.1
    obtain ⟨k1, k2, k3⟩ := okC_b R h2 h.1.2.1
    obtain ⟨l1, l2, l3⟩ := okC_b R h2 h.1.2.2
    exact RV_set (RV_keep R) (VS_t R.2.2.1 h2 k2 l2 k1 l1 h.2)
  · rw [gIf_f h]; exact R
theorem RV_is {v : GV} (R : RV v) (u c n : Int32) : RV (fIs v u c n).2 := by
  unfold fIs
  by_cases h : (okU v u ∧ okC v u c) ∧ (-1 ≤ n ∧ n < u)
  · rw [gIf_t h]
    obtain ⟨h1, h2, h3⟩ := okU_b R h.1.1
    obtain ⟨k1, k2, k3⟩ := okC_b R h2 h.1.2
    exact RV_set (RV_keep R) (VS_u R.2.2.1 h2 k2 (by rw [← h3]; exact h.2))
  · rw [gIf_f h]; exact R
theorem RV_added {v : GV} (R : RV v) (u c d : Int32) : RV (fAdded v u c d).2 := by
  unfold fAdded
  by_cases h : okU v u ∧ okC v u c ∧ okC v u d
  · rw [gIf_t h]; exact R
  · rw [gIf_f h]; exact R
theorem RV_about {v : GV} (R : RV v) (u x : Int32) : RV (fAbout v u x).2 := R
theorem RV_draw {v : GV} (R : RV v) (u c : Int32) : RV (fDraw v u c).2 := by
  unfold fDraw
  by_cases h : okU v u ∧ okC v u c
  · rw [gIf_t h]
    obtain ⟨h1, h2, h3⟩ := okU_b R h.1
    obtain ⟨k1, k2, k3⟩ := okC_b R h2 h.2
    by_cases g : gLet (bS (vS v) (nU u)) (tS (vS v) (nU u)) (nU c) 4
    · rw [gIf_t g]; exact RV_set (RV_keep R) (VS_dS R.2.2.1 h2 k2 g)
    · rw [gIf_f g]; exact R
  · rw [gIf_f h]; exact R
theorem RV_undo {v : GV} (R : RV v) : RV (fUndo v).2 := by
  unfold fUndo
  by_cases h : vL v = 0
  · rw [if_pos h]; exact R
  · rw [if_neg h]; exact RV_pop R h
theorem pLen_ex {nc : Nat → Nat} {S : Nat → Int32} {u0 s0 : Nat} (V : VS nc S) (h8 : u0 < 8) (h : ¬ pStk S u0 s0) : ∃ len, pLen S u0 s0 len := by
  have key : ∀ n, pOn S u0 s0 n ∨ ∃ len, pLen S u0 s0 len := by
    intro n
    induction n with
    | zero => exact Or.inl (pOn_0 _ _ _)
    | succ n ih =>
      rcases ih with hp | hp
      · by_cases h0 : 0 ≤ pA S u0 s0 n
        · by_cases hg : pGo S u0 s0 n
          · exact Or.inl (pOn_s hp h0 hg)
          · exact absurd ⟨n, hp, h0, hg⟩ h
        · exact Or.inr ⟨n, hp, Int32.not_le.mp h0⟩
      · exact Or.inr hp
  rcases key 9 with hp | hp
  · have := (pU_bd V h8 hp (show 8 < 9 by omega)).2
    omega
  · exact hp
theorem RV_drawn {v : GV} (R : RV v) (u : Int32) : RV (fDrawn v u).2 := by
  unfold fDrawn
  by_cases h : okU v u
  · rw [gIf_t h]
    obtain ⟨h1, h2, h3⟩ := okU_b R h
    by_cases g : pStk (vS v) (nU u) (nU (vS v 200))
    · rw [gIf_t g]; exact R
    · rw [gIf_f g]
      obtain ⟨len, hl⟩ := pLen_ex R.2.2.1 h2 g
      rw [pL_eq hl]
      exact RV_set (RV_keep R) (VS_pEnd R.2.2.1 h2 (VS_seed R.2.2.1).2 hl.1)
  · rw [gIf_f h]; exact R
theorem sNum_ns (S : Nat → Int32) (u : Nat) : ∀ n i, i < sNum S u n → ¬ sStk S u i
  | 0, i, h => absurd h (Nat.not_lt_zero _)
  | n + 1, i, h => by
    have h : i < gIf (sNum S u n = n ∧ ¬ sStk S u n) (n + 1) (sNum S u n) := h
    by_cases g : sNum S u n = n ∧ ¬ sStk S u n
    · rw [gIf_t g] at h
      rcases Nat.lt_succ_iff_lt_or_eq.mp h with q | q
      · exact sNum_ns S u n i (by rw [g.1]; exact q)
      · rw [q]; exact g.2
    · rw [gIf_f g] at h
      exact sNum_ns S u n i h
theorem VS_pSq {nc : Nat → Nat} {S : Nat → Int32} {u : Nat} (V : VS nc S) (hu : u < 8) : ∀ d, (∀ i, i < d → ¬ sStk S u i) → VS nc (pSq S u d)
  | 0, _ => V
  | d + 1, h => by
    have ih := VS_pSq V hu d (fun i hi => h i (by omega))
    obtain ⟨len, hl⟩ := pLen_ex ih hu (h d (by omega))
    exact pSq_V ih hu hl
theorem RV_shake {v : GV} (R : RV v) (u n : Int32) : RV (fShake v u n).2 := by
  unfold fShake
  by_cases h : okU v u ∧ ¬ n < 1 ∧ n ≤ 50
  · rw [gIf_t h]
    obtain ⟨h1, h2, h3⟩ := okU_b R h.1
    show RV (if sNum (vS v) (nU u) (nU n) = 0 then v else vSet (vKeep v) (pSq (vS v) (nU u) (sNum (vS v) (nU u) (nU n))))
    by_cases g : sNum (vS v) (nU u) (nU n) = 0
    · rw [if_pos g]; exact R
    · rw [if_neg g]; exact RV_set (RV_keep R) (VS_pSq R.2.2.1 h2 _ (sNum_ns _ _ _))
  · rw [gIf_f h]; exact R
-- read, over the sheets' view
noncomputable def gRead (v : GV) (w : GW) (a0 a1 a2 a3 a4 : Int32) : Int32 × GV := fRead v (wK w) (wI w) (wP w) a0 a1 a2 a3 a4
theorem fRead_w {v : GV} (R : RV v) {kd ln kd' : Nat → Int32} {lw : Nat → Nat} {pl pl' : Nat → Nat → Int64} {a0 a1 a2 a3 a4 : Int32} (h1 : ∀ u, u < 6 → kd u = kd' u) (h2 : ∀ u, u < 6 → ln u = nI (lw u)) (h3 : ∀ u, u < 6 → lw u ≤ 16) (h4 : ∀ u, u < 6 → ∀ j, j < 16 → pl u j = pl' u j) : fRead v kd ln pl a0 a1 a2 a3 a4 = fRead v kd' (fun u => nI (lw u)) pl' a0 a1 a2 a3 a4 := by
  unfold fRead
  by_cases h : (okU v a0 ∧ gIx a3 6) ∧ gIx a1 2 ∧ (a1 = 1 → okC v a0 a2)
  · rw [gIf_t h, gIf_t h]
    obtain ⟨q1, q2, q3⟩ := okU_b R h.1.1
    obtain ⟨r, hr, rfl⟩ := h.1.2
    rw [nU_n (by omega), h1 r hr, h2 r hr]
    by_cases hk : kd' r < 0
    · rw [if_pos hk, if_pos hk]
    · rw [if_neg hk, if_neg hk]
      have h16 := h3 r hr
      have n4 := RV_n R q2
      rw [nIt (by omega)]
      by_cases g : gRch a4 (nI (vC v (nU a0))) (lw r)
      · rw [gIf_t g, gIf_t g]
        have b := gRch_u g h16
        rw [nU_n (by omega)] at b
        have e : ∀ d, d < vC v (nU a0) → pl r (nU a4 + d) = pl' r (nU a4 + d) := fun d hd => h4 r hr _ (by omega)
        have e2 : rS (vS v) (25 * nU a0 + (if a1 = 0 then 0 else 4 + 4 * nU a2)) (vC v (nU a0)) (fun d => pl r (nU a4 + d)) = rS (vS v) (25 * nU a0 + (if a1 = 0 then 0 else 4 + 4 * nU a2)) (vC v (nU a0)) (fun d => pl' r (nU a4 + d)) := rS_w e
        rw [e2]
        refine gIf_i ⟨fun z d hd => ?_, fun z d hd => ?_⟩ _ _
        · rw [← e d hd]; exact z d hd
        · rw [e d hd]; exact z d hd
      · rw [gIf_f g, gIf_f g]
  · rw [gIf_f h, gIf_f h]
theorem fReadC {σ : GS} {v : GV} {w : GW} (R : RV v) (K : SC σ w) (V : SW w) (a0 a1 a2 a3 a4 : Int32) : fRead v (fun u => gN σ (2 + u)) (fun u => gN σ (8 + u)) (gL σ) a0 a1 a2 a3 a4 = gRead v w a0 a1 a2 a3 a4 := fRead_w R (fun u hu => (K u hu).1) (fun u hu => (K u hu).2.1) (fun u hu => (V u hu).2) (fun u hu => (K u hu).2.2)
theorem fReadM {σ : GS} {v : GV} {w : GW} (R : RV v) (K : SM σ w) (V : SW w) (a0 a1 a2 a3 a4 : Int32) : fRead v (gI σ 50) (gI σ 51) (fun u j => gL σ 12 (16 * u + j)) a0 a1 a2 a3 a4 = gRead v w a0 a1 a2 a3 a4 := fRead_w R (fun u hu => (K u hu).1) (fun u hu => (K u hu).2.1) (fun u hu => (V u hu).2) (fun u hu => (K u hu).2.2)
theorem RV_read {v : GV} (R : RV v) (w : GW) (a0 a1 a2 a3 a4 : Int32) : RV (gRead v w a0 a1 a2 a3 a4).2 := by
  unfold gRead fRead
  by_cases h : (okU v a0 ∧ gIx a3 6) ∧ gIx a1 2 ∧ (a1 = 1 → okC v a0 a2)
  · rw [gIf_t h]
    obtain ⟨q1, q2, q3⟩ := okU_b R h.1.1
    by_cases hk : wK w (nU a3) < 0
    · rw [if_pos hk]; exact R
    · rw [if_neg hk]
      by_cases g : gRch a4 (nI (vC v (nU a0))) (wI w (nU a3)).toInt.toNat
      · rw [gIf_t g]
        by_cases z : ∀ d, d < vC v (nU a0) → (if a1 = 0 then (0 : Int64) else -9) ≤ wP w (nU a3) (nU a4 + d) ∧ wP w (nU a3) (nU a4 + d) ≤ (if a1 = 0 then (200 : Int64) else 9)
        · rw [gIf_t z]
          refine RV_set (RV_keep R) ?_
          by_cases e : a1 = 0
          · rw [if_pos e]
            exact VS_r0 R.2.2.1 q2 (RV_n R q2) (fun d hd => by have := z d hd; rw [if_pos e, if_pos e] at this; exact this)
          · rw [if_neg e]
            obtain ⟨k, hk1, rfl⟩ := h.2.1
            have e1 : k = 1 := by
              rcases (show k = 0 ∨ k = 1 by omega) with q | q
              · exact absurd (by rw [q]; rfl) e
              · exact q
            subst e1
            obtain ⟨k1, k2, k3⟩ := okC_b R q2 (h.2.2 rfl)
            exact VS_r1 R.2.2.1 q2 k2 k1 (RV_n R q2) (fun d hd => by have := z d hd; rw [if_neg e, if_neg e] at this; exact this)
        · rw [gIf_f z]; exact R
      · rw [gIf_f g]; exact R
  · rw [gIf_f h]; exact R
-- seed, urn, count
def fSeedV (v : GV) (a : Int32) : GV := if fSeed a = 0 then vSet v (upd (vS v) 200 a) else v
def fUrnV (v : GV) (n : Int32) : GV := if fUrn n (vM v) < 0 then v else (vM v + 1, fun u => if u = vM v then nU n else vC v u, vS v, vL v, vH v)
theorem fSeed_in {a : Int32} (h : fSeed a = 0) : a = nI (nU a) ∧ nU a < 2147483647 := by
  unfold fSeed at h
  by_cases g : a < 1 ∨ 2147483646 < a
  · rw [if_pos g] at h; exact absurd h (by decide)
  · have g1 : ¬ a < 1 := fun q => g (Or.inl q)
    have g2 : ¬ 2147483646 < a := fun q => g (Or.inr q)
    rw [Int32.lt_iff_toInt_lt] at g1 g2
    have e1 : (1 : Int32).toInt = 1 := by decide
    have e2 : (2147483646 : Int32).toInt = 2147483646 := by decide
    exact ⟨nIn a (by omega), by unfold nU; omega⟩
theorem RV_seed {v : GV} (R : RV v) (a : Int32) : RV (fSeedV v a) := by
  unfold fSeedV
  by_cases h : fSeed a = 0
  · rw [if_pos h]
    obtain ⟨h1, h2⟩ := fSeed_in h
    rw [h1]
    exact RV_set R (VS_seedS R.2.2.1 h2)
  · rw [if_neg h]; exact R
theorem fUrn_in {n : Int32} {m : Nat} (h : ¬ fUrn n m < 0) : (n = nI (nU n) ∧ 2 ≤ nU n ∧ nU n ≤ 4) ∧ ¬ m = 8 := by
  unfold fUrn at h
  by_cases g : n < 2 ∨ 4 < n
  · rw [if_pos g] at h; exact absurd (by decide) h
  · have g1 : ¬ n < 2 := fun q => g (Or.inl q)
    have g2 : ¬ 4 < n := fun q => g (Or.inr q)
    rw [if_neg g] at h
    rw [Int32.lt_iff_toInt_lt] at g1 g2
    have e1 : (2 : Int32).toInt = 2 := by decide
    have e2 : (4 : Int32).toInt = 4 := by decide
    refine ⟨⟨nIn n (by omega), by unfold nU; omega, by unfold nU; omega⟩, fun q => ?_⟩
    rw [if_pos q] at h
    exact h (by decide)
theorem VS_mono {nc nc' : Nat → Nat} {S : Nat → Int32} (V : VS nc S) (h : ∀ u, u < 8 → nc u ≤ nc' u) : VS nc' S :=
  ⟨fun u hu c hc => ⟨(V.1 u hu c hc).1, fun z => (V.1 u hu c hc).2.1 (Nat.le_trans (h u hu) z), (V.1 u hu c hc).2.2⟩, fun u hu c hc d hd => ⟨(V.2.1 u hu c hc d hd).1, fun z => (V.2.1 u hu c hc d hd).2 (z.elim (fun q => Or.inl (Nat.le_trans (h u hu) q)) (fun q => Or.inr (Nat.le_trans (h u hu) q)))⟩, V.2.2⟩
theorem RV_urn {v : GV} (R : RV v) (n : Int32) : RV (fUrnV v n) := by
  unfold fUrnV
  by_cases h : fUrn n (vM v) < 0
  · rw [if_pos h]; exact R
  · rw [if_neg h]
    obtain ⟨⟨h1, h2, h3⟩, h4⟩ := fUrn_in h
    have m8 := R.1
    have hle : ∀ u, u < 8 → vC v u ≤ (fun u => if u = vM v then nU n else vC v u) u := by
      intro u hu
      show vC v u ≤ if u = vM v then nU n else vC v u
      by_cases e : u = vM v
      · rw [(R.2.1 u hu).2 (by omega)]; omega
      · rw [if_neg e]; omega
    refine ⟨by show vM v + 1 ≤ 8; omega, fun u hu => ?_, VS_mono R.2.2.1 hle, fun k hk => VS_mono (R.2.2.2 k hk) hle⟩
    show (u < vM v + 1 → 2 ≤ (if u = vM v then nU n else vC v u) ∧ (if u = vM v then nU n else vC v u) ≤ 4) ∧ (vM v + 1 ≤ u → (if u = vM v then nU n else vC v u) = 0)
    by_cases e : u = vM v
    · rw [if_pos e]; exact ⟨fun _ => ⟨h2, h3⟩, fun z => by omega⟩
    · rw [if_neg e]; exact ⟨fun z => (R.2.1 u hu).1 (by omega), fun z => (R.2.1 u hu).2 (by omega)⟩
theorem fUrn_8 {n : Int32} {m : Nat} (h : m < 8) (h2 : fUrn n m < 0) : fUrn n m = -1 := by
  unfold fUrn at h2 ⊢
  by_cases g : n < 2 ∨ 4 < n
  · rw [if_pos g]
  · rw [if_neg g, if_neg (by omega)] at h2
    exact absurd h2 (by rw [Int32.lt_iff_toInt_lt, nI_toInt (by omega)]; have e : (0 : Int32).toInt = 0 := by decide
                        omega)
theorem x_seed {σ s : GS} {v : GV} {w : GW} {a x : Int32} (I : Inv σ v w) (h : x = fSeed a ∧ ((¬ x = 0 ∧ σ = s) ∨ (x = 0 ∧ s = uN σ 1 a))) : x = fSeed a ∧ Mid s v (fSeedV v a) w w := by
  obtain ⟨rfl, h⟩ := h
  refine ⟨rfl, ?_⟩
  unfold fSeedV
  rcases h with ⟨h0, rfl⟩ | ⟨h0, rfl⟩
  · rw [if_neg h0]; exact I
  · rw [if_pos h0]; exact i_actC I (KC_ws I.1.1) (FC_N (by omega) (FC_r _))
theorem m_seed {s t : GS} {v : GV} {w : GW} {a x : Int32} (I : Mid s v (fSeedV v a) w w) (h : x = fSeed a ∧ ((¬ x = 0 ∧ s = t) ∨ (x = 0 ∧ t = uI s 53 (upd (gI s 53) 200 a)))) : x = fSeed a ∧ Inv t (fSeedV v a) w := by
  obtain ⟨rfl, h⟩ := h
  refine ⟨rfl, ?_⟩
  have R := RV_seed I.1.2.2 a
  rcases h with ⟨h0, rfl⟩ | ⟨h0, rfl⟩
  · unfold fSeedV at I ⊢
    rw [if_neg h0] at I ⊢
    exact I
  · refine i_actM I ?_ (FM_I (by omega) (FM_r _)) R
    unfold fSeedV
    rw [if_pos h0]
    exact KM_s1 I.1.2.1 (by omega) (by omega)
theorem x_urn {σ s : GS} {v : GV} {w : GW} {n x : Int32} (I : Inv σ v w) (h : x = fUrn n (vM v) ∧ ((x < 0 ∧ σ = s) ∨ ((¬ x < 0 ∧ vM v < 8) ∧ s = uN (uN σ (14 + vM v) n) 0 (nI (vM v + 1))))) : x = fUrn n (vM v) ∧ Mid s v (fUrnV v n) w w := by
  obtain ⟨rfl, h⟩ := h
  refine ⟨rfl, ?_⟩
  unfold fUrnV
  rcases h with ⟨h0, rfl⟩ | ⟨⟨h0, h8⟩, rfl⟩
  · rw [if_pos h0]; exact I
  · rw [if_neg h0]
    obtain ⟨⟨h1, h2, h3⟩, h4⟩ := fUrn_in h0
    obtain ⟨k1, k2, k3, k4, kn, k5, k6, k7⟩ := I.1.1
    refine i_actC I ⟨rfl, fun u hu => ?_, fun j hj => ?_, ⟨k4.1, ?_⟩, kn, k5, ?_, fun k hk j hj => k7 k hk j hj⟩ (FC_N (by omega) (FC_N (by omega) (FC_r _)))
    · show gN _ (14 + u) = nI (if u = vM v then nU n else vC v u)
      rw [gN_uN, if_neg (by omega), gN_uN]
      by_cases e : u = vM v
      · rw [if_pos (by omega), if_pos e]; exact h1
      · rw [if_neg (by omega), if_neg e]; exact k2 u hu
    · refine (cS_eq (a := σ) (b := uN (uN σ (14 + vM v) n) 0 (nI (vM v + 1))) (fun q hq => rfl) (fun q hq => ?_) hj).trans (k3 j hj)
      rw [gN_uN, if_neg (by omega), gN_uN, if_neg (by omega)]
    · rw [gN_uN, if_neg (by decide), gN_uN, if_neg (by omega)]; exact k4.2
    · rw [gN_uN, if_neg (by decide), gN_uN, if_neg (by omega)]; exact k6
theorem m_urn {s t : GS} {v : GV} {w : GW} {n x : Int32} (I : Mid s v (fUrnV v n) w w) (h : x = fUrn n (vM v) ∧ ((x < 0 ∧ s = t) ∨ ((¬ x < 0 ∧ vM v < 8) ∧ t = uN (uI s 52 (upd (gI s 52) (vM v) n)) 33 (nI (vM v + 1))))) : x = fUrn n (vM v) ∧ Inv t (fUrnV v n) w := by
  obtain ⟨rfl, h⟩ := h
  refine ⟨rfl, ?_⟩
  have R := RV_urn I.1.2.2 n
  rcases h with ⟨h0, rfl⟩ | ⟨⟨h0, h8⟩, rfl⟩
  · unfold fUrnV at I ⊢
    rw [if_pos h0] at I ⊢
    exact I
  · obtain ⟨⟨h1, h2, h3⟩, h4⟩ := fUrn_in h0
    obtain ⟨k1, k2, k3, k4, k5, k6⟩ := I.1.2.1
    refine i_actM I ?_ (FM_N (by omega) (FM_I (by omega) (FM_r _))) R
    unfold fUrnV
    rw [if_neg h0]
    refine ⟨rfl, fun u hu => ?_, k3, k4, k5, k6⟩
    show gI _ 52 u = nI (if u = vM v then nU n else vC v u)
    rw [gI_uN, gI_uI, if_pos rfl]
    by_cases e : u = vM v
    · rw [if_pos e, e, pk_us]; exact h1
    · rw [if_neg e, pk_un e]; exact k2 u hu
theorem gDrw_S {σ : GS} {v : GV} (K : KC σ v) : ∀ n, n ≤ 8 → gDrw σ n = gsum (fun u => vS v (25 * u + 24)) n
  | 0, _ => rfl
  | n + 1, h => by
    show gDrw σ n + gN σ (22 + n) = gsum _ n + vS v (25 * n + 24)
    rw [gDrw_S K n (by omega), KC_d K (by omega)]
def aCnt (v : GV) (x : Int32) : Int32 := fCnt x (nI (vM v)) (nI (vL v)) (DS (vS v)) (vS v 200)
theorem aCntC {σ : GS} {v : GV} (K : KC σ v) (x : Int32) : fCnt x (gN σ 0) (gN σ 30) (gDrw σ 8) (gN σ 1) = aCnt v x := by
  rw [K.1, K.2.2.2.1.2, gDrw_S K 8 (by omega), KC_seed K]
  rfl
theorem aCntM {σ : GS} {v : GV} (K : KM σ v) (x : Int32) : fCnt x (gN σ 33) (gN σ 34) (gI σ 53 201) (gI σ 53 200) = aCnt v x := by
  rw [K.1, K.2.2.2.2.1.2, K.2.2.2.1, K.2.2.1 200 (by omega)]
  rfl
-- the calls as the law makes them
theorem x_act {σ s : GS} {v : GV} {w : GW} {p : Int32 × GV} {x : Int32} (I : Inv σ v w) (h : x = p.1 ∧ KC s p.2 ∧ FC σ s) : x = p.1 ∧ Mid s v p.2 w w := ⟨h.1, i_actC I h.2.1 h.2.2⟩
theorem m_act {s t : GS} {v : GV} {w : GW} {p : Int32 × GV} {x : Int32} (I : Mid s v p.2 w w) (R : RV p.2) (h : x = p.1 ∧ KM t p.2 ∧ FM s t) : x = p.1 ∧ Inv t p.2 w := ⟨h.1, i_actM I h.2.1 h.2.2 R⟩
theorem x_read {σ s : GS} {v : GV} {w : GW} {a0 a1 a2 a3 a4 x : Int32} (I : Inv σ v w) (h : x = (fRead v (fun u => gN σ (2 + u)) (fun u => gN σ (8 + u)) (gL σ) a0 a1 a2 a3 a4).1 ∧ KC s (fRead v (fun u => gN σ (2 + u)) (fun u => gN σ (8 + u)) (gL σ) a0 a1 a2 a3 a4).2 ∧ FC σ s) : x = (gRead v w a0 a1 a2 a3 a4).1 ∧ Mid s v (gRead v w a0 a1 a2 a3 a4).2 w w := by
  rw [fReadC I.1.2.2 I.2.1.1 I.2.1.2.2] at h
  exact x_act I h
theorem m_read {s t : GS} {v : GV} {w : GW} {a0 a1 a2 a3 a4 x : Int32} (I : Mid s v (gRead v w a0 a1 a2 a3 a4).2 w w) (h : x = (fRead v (gI s 50) (gI s 51) (fun u j => gL s 12 (16 * u + j)) a0 a1 a2 a3 a4).1 ∧ KM t (fRead v (gI s 50) (gI s 51) (fun u j => gL s 12 (16 * u + j)) a0 a1 a2 a3 a4).2 ∧ FM s t) : x = (gRead v w a0 a1 a2 a3 a4).1 ∧ Inv t (gRead v w a0 a1 a2 a3 a4).2 w := by
  rw [fReadM I.1.2.2 I.2.1.2.1 I.2.1.2.2] at h
  exact m_act I (RV_read I.1.2.2 w a0 a1 a2 a3 a4) h
theorem hC_of {σ : GS} {v : GV} (K : KC σ v) (R : RV v) : ∀ u, u < vM v → ∃ n : Nat, 2 ≤ n ∧ n ≤ 4 ∧ gN σ (14 + u) = nI n := fun u hu => ⟨vC v u, ((R.2.1 u (by have := R.1; omega)).1 hu).1, ((R.2.1 u (by have := R.1; omega)).1 hu).2, K.2.1 u (by have := R.1; omega)⟩
-- the start
theorem Inv_start {f : Nat → Nat → Int32} (hf : ∀ u, u < 8 → ∀ j, j < 4 → f u j = -1) : Inv (gS0 f) (0, fun _ => 0, kF53, 0, fun _ _ => 0) (fun _ => -1, fun _ => 0, fun _ _ => 0) := by
  have hu8 : ∀ u : Nat, u < 8 → u = 0 ∨ u = 1 ∨ u = 2 ∨ u = 3 ∨ u = 4 ∨ u = 5 ∨ u = 6 ∨ u = 7 := by omega
  have hu6 : ∀ u : Nat, u < 6 → u = 0 ∨ u = 1 ∨ u = 2 ∨ u = 3 ∨ u = 4 ∨ u = 5 := by omega
  have e53 : ∀ u, u < 8 → ∀ i, i < 25 → kF53 (25 * u + i) = if 20 ≤ i ∧ i < 24 then -1 else 0 := by decide +kernel
  have eS : ∀ u, u < 8 → ∀ i, i < 25 → uRow (gS0 f) u i = kF53 (25 * u + i) := by
    intro u hu i hi
    rw [e53 u hu i hi]
    unfold uRow
    by_cases h4 : i < 4
    · rw [if_pos h4, if_neg (by omega)]
      show (if u < 16 then (fun _ => (0 : Int32)) else _) i = 0
      rw [if_pos (by omega)]
    · by_cases h20 : i < 20
      · rw [if_neg h4, if_pos h20, if_neg (by omega)]
        show (if 8 + u < 16 then (fun _ => (0 : Int32)) else _) (i - 4) = 0
        rw [if_pos (by omega)]
      · by_cases h24 : i < 24
        · rw [if_neg h4, if_neg h20, if_pos h24, if_pos (by omega)]
          show (if 16 + u < 16 then (fun _ => (0 : Int32)) else if 16 + u < 24 then f (16 + u - 16) else _) (i - 20) = -1
          rw [if_neg (by omega), if_pos (by omega), show 16 + u - 16 = u by omega]
          exact hf u hu _ (by omega)
        · rw [if_neg h4, if_neg h20, if_neg h24, if_neg (by omega)]
          rcases hu8 u hu with rfl | rfl | rfl | rfl | rfl | rfl | rfl | rfl <;> rfl
  refine ⟨⟨⟨rfl, fun u hu => ?_, fun j hj => ?_, ⟨by show 0 ≤ 20; omega, rfl⟩, 0, by omega, rfl, fun k hk => absurd hk (Nat.not_lt_zero _)⟩, ⟨rfl, fun u hu => rfl, fun j hj => rfl, ?_, ⟨by show 0 ≤ 20; omega, rfl⟩, fun k hk => absurd hk (Nat.not_lt_zero _)⟩, ⟨by show 0 ≤ 8; omega, fun u hu => ⟨fun z => absurd z (Nat.not_lt_zero _), fun _ => rfl⟩, ⟨fun u hu c hc => ⟨?_, fun _ => ?_, ?_⟩, fun u hu c hc d hd => ⟨?_, fun _ => ?_⟩, ?_⟩, fun k hk => absurd hk (Nat.not_lt_zero _)⟩⟩, ⟨fun u hu => ⟨?_, ?_, fun j hj => rfl⟩, fun u hu => ⟨?_, rfl, fun j hj => rfl⟩, fun u hu => ⟨by show (-1 : Int32) ≤ -1; decide, by show 0 ≤ 16; omega⟩⟩, by show ¬ (1 : Int64) = 0; decide⟩
  · rcases hu8 u hu with rfl | rfl | rfl | rfl | rfl | rfl | rfl | rfl <;> rfl
  · show cS _ j = kF53 j
    by_cases q : j < 200
    · have ej : j = 25 * (j / 25) + j % 25 := by omega
      rw [ej, cS_at _ (by omega) (by omega)]
      exact eS _ (by omega) _ (by omega)
    · have ej : j = 200 := by omega
      subst ej
      show (1 : Int32) = kF53 200
      decide +kernel
  · show kF53 201 = DS kF53
    decide +kernel
  · show 0 ≤ kF53 (25 * u + c) ∧ kF53 (25 * u + c) ≤ 200
    rw [e53 u hu c (by omega), if_neg (by omega)]
    decide
  · show kF53 (25 * u + c) = 0
    rw [e53 u hu c (by omega), if_neg (by omega)]
  · show -1 ≤ kF53 (25 * u + 20 + c) ∧ kF53 (25 * u + 20 + c) < nI u
    rw [Nat.add_assoc, e53 u hu (20 + c) (by omega), if_pos (by omega)]
    exact ⟨by decide, by rw [Int32.lt_iff_toInt_lt, nI_toInt (by omega)]; have e : (-1 : Int32).toInt = -1 := by decide
                         omega⟩
  · show -9 ≤ kF53 (25 * u + 4 + (c * 4 + d)) ∧ kF53 (25 * u + 4 + (c * 4 + d)) ≤ 9
    rw [Nat.add_assoc, e53 u hu (4 + (c * 4 + d)) (by omega), if_neg (by omega)]
    decide
  · show kF53 (25 * u + 4 + (c * 4 + d)) = 0
    rw [Nat.add_assoc, e53 u hu (4 + (c * 4 + d)) (by omega), if_neg (by omega)]
  · show 0 ≤ kF53 200 ∧ kF53 200 < 2147483647
    decide +kernel
  · rcases hu6 u hu with rfl | rfl | rfl | rfl | rfl | rfl <;> rfl
  · rcases hu6 u hu with rfl | rfl | rfl | rfl | rfl | rfl <;> rfl
  · rcases hu6 u hu with rfl | rfl | rfl | rfl | rfl | rfl <;> rfl
-- read, for any rule
theorem gIx_2 {x : Int32} (h : gIx x 2) : x = 0 ∨ x = 1 := by
  obtain ⟨k, hk, rfl⟩ := h
  rcases (show k = 0 ∨ k = 1 by omega) with rfl | rfl
  · exact Or.inl rfl
  · exact Or.inr rfl
theorem c_X8_read (l : Launch) (δ : GD) (σ : GS) (a0 a1 a2 a3 a4 : Int32) {v : GV} (K : KC σ v) (R : RV v) (hk : ∀ u, u < 6 → -1 ≤ gN σ (2 + u) ∧ ∃ m : Nat, m ≤ 16 ∧ gN σ (8 + u) = nI m) : gM l δ yX8_read cX8_read 13 (some .int) 3 62 [.ref (δ.2.2.1 0), .int a0, .int a1, .int a2, .int a3, .int a4] σ (gPi (fun x σ' => x = (fRead v (fun u => gN σ (2 + u)) (fun u => gN σ (8 + u)) (gL σ) a0 a1 a2 a3 a4).1 ∧ KC σ' (fRead v (fun u => gN σ (2 + u)) (fun u => gN σ (8 + u)) (gL σ) a0 a1 a2 a3 a4).2 ∧ FC σ σ')) := by
  by_cases h : gIx a1 2
  · rcases gIx_2 h with rfl | rfl
    · exact c_X8_read0 l δ σ a0 a2 a3 a4 K R hk
    · exact c_X8_read1 l δ σ a0 a2 a3 a4 K R hk
  · exact c_X8_readN l δ σ a0 a1 a2 a3 a4 h K R hk
theorem c_X9_read (l : Launch) (δ : GD) (σ : GS) (a0 a1 a2 a3 a4 : Int32) {v : GV} (K : KM σ v) (R : RV v) (hk : ∀ u, u < 6 → ∃ m : Nat, m ≤ 16 ∧ gI σ 51 u = nI m) : gM l δ yX9_read cX9_read 7 (some .int) 2 47 [.ref (δ.2.2.1 1), .int a0, .int a1, .int a2, .int a3, .int a4] σ (gPi (fun x σ' => x = (fRead v (gI σ 50) (gI σ 51) (fun u j => gL σ 12 (16 * u + j)) a0 a1 a2 a3 a4).1 ∧ KM σ' (fRead v (gI σ 50) (gI σ 51) (fun u j => gL σ 12 (16 * u + j)) a0 a1 a2 a3 a4).2 ∧ FM σ σ')) := by
  by_cases h : gIx a1 2
  · rcases gIx_2 h with rfl | rfl
    · exact c_X9_read0 l δ σ a0 a2 a3 a4 K R hk
    · exact c_X9_read1 l δ σ a0 a2 a3 a4 K R hk
  · exact c_X9_readN l δ σ a0 a1 a2 a3 a4 h K R hk
theorem hM_of {σ : GS} {v : GV} (K : KM σ v) (R : RV v) : ∀ u, u < vM v → ∃ n : Nat, 2 ≤ n ∧ n ≤ 4 ∧ gI σ 52 u = nI n := fun u hu => ⟨vC v u, ((R.2.1 u (by have := R.1; omega)).1 hu).1, ((R.2.1 u (by have := R.1; omega)).1 hu).2, K.2.1 u (by have := R.1; omega)⟩
theorem hV_of {σ : GS} {v : GV} (K : KM σ v) (R : RV v) : ∀ u, u < 8 → gB2 (mB σ u) ∧ gNT9 (mT σ u) := fun u hu => by
  refine ⟨fun d hd => ?_, fun j hj => ?_⟩
  · show 0 ≤ gI σ 53 (25 * u + d) ∧ gI σ 53 (25 * u + d) ≤ 200
    rw [K.2.2.1 _ (by omega)]
    exact (R.2.2.1.1 u hu d hd).1
  · show -9 ≤ gI σ 53 (25 * u + 4 + j) ∧ gI σ 53 (25 * u + 4 + j) ≤ 9
    rw [K.2.2.1 _ (by omega)]
    have q := (R.2.2.1.2.1 u hu (j / 4) (by omega) (j % 4) (by omega)).1
    rw [show j / 4 * 4 + j % 4 = j by omega] at q
    exact q
