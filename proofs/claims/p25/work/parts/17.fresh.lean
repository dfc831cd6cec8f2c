-- a fresh object, of the class and of the reference
def Fresh (σ : GS) : Prop := gN σ 0 = nI 0 ∧ gN σ 33 = nI 0 ∧ (∀ u, u < 6 → gN σ (2 + u) = -1 ∧ gN σ (8 + u) = nI 0) ∧ (∀ u, u < 6 → gI σ 50 u = -1) ∧ (gN σ 30 = nI 0 ∧ gN σ 34 = nI 0) ∧ (gN σ 1 = 1 ∧ gI σ 53 200 = 1 ∧ gI σ 53 201 = 0) ∧ (∀ u, u < 8 → gN σ (22 + u) = 0) ∧ (gG σ 1 = 0 ∧ gG σ 2 = 0 ∧ gG σ 3 = 1) ∧ (gG σ 10 = 0 ∧ gG σ 11 = 0 ∧ gG σ 12 = 1)
theorem F_m {σ : GS} (F : Fresh σ) : gN σ 0 = nI 0 := F.1
theorem F_mm {σ : GS} (F : Fresh σ) : gN σ 33 = nI 0 := F.2.1
theorem F_k {σ : GS} (F : Fresh σ) (u : Nat) (hu : u < 6) : gN σ (2 + u) = -1 := (F.2.2.1 u hu).1
theorem F_mk {σ : GS} (F : Fresh σ) (u : Nat) (hu : u < 6) : gI σ 50 u = -1 := F.2.2.2.1 u hu
theorem F_kl {σ : GS} (F : Fresh σ) : gN σ 30 = nI 0 := F.2.2.2.2.1.1
theorem F_kk {σ : GS} (F : Fresh σ) : gN σ 34 = nI 0 := F.2.2.2.2.1.2
theorem F_hk {σ : GS} (F : Fresh σ) (u : Nat) (hu : u < 6) : -1 ≤ gN σ (2 + u) ∧ ∃ m : Nat, m ≤ 16 ∧ gN σ (8 + u) = nI m := ⟨by rw [F_k F u hu]; decide, 0, by omega, (F.2.2.1 u hu).2⟩
theorem F_hm {σ : GS} (F : Fresh σ) (u : Nat) (hu : u < 6) : ∃ m : Nat, m ≤ 16 ∧ (0 ≤ gI σ 50 u → gI σ 51 u = nI m) := ⟨0, by omega, fun h => by rw [F_mk F u hu] at h; exact absurd h (by decide)⟩
theorem F_dn {σ : GS} (F : Fresh σ) : ¬ gG σ 12 = 0 := by rw [F.2.2.2.2.2.2.2.2.2.2]; decide
theorem fLay_f {kd ln : Nat → Int32} {r i : Int32} (h : ∀ u, u < 6 → kd u = -1) : fLay kd ln r i = if 0 ≤ r.toInt ∧ r.toInt < 6 then -11 else -1 := by
  unfold fLay
  by_cases hr : 0 ≤ r.toInt ∧ r.toInt < 6
  · rw [if_pos hr, if_pos hr]
    exact fPl_m (h _ (by omega))
  · rw [if_neg hr, if_neg hr]
theorem fHol_f {kd ln : Nat → Int32} {pl : Nat → Nat → Int64} {r i : Int32} {v : Int64} (h : ∀ u, u < 6 → kd u = -1) : fHol kd ln pl r i v = if 0 ≤ r.toInt ∧ r.toInt < 6 then -11 else -1 := by
  unfold fHol
  by_cases hr : 0 ≤ r.toInt ∧ r.toInt < 6
  · rw [if_pos hr, if_pos hr, fPl_m (h _ (by omega))]
    rfl
  · rw [if_neg hr, if_neg hr]
theorem fCop_f {kd ln : Nat → Int32} {r i t j n : Int32} (h : ∀ u, u < 6 → kd u = -1) : fCop kd ln r i t j n = if (0 ≤ r.toInt ∧ r.toInt < 6) ∧ (0 ≤ t.toInt ∧ t.toInt < 6) then -11 else -1 := by
  unfold fCop
  by_cases hr : (0 ≤ r.toInt ∧ r.toInt < 6) ∧ (0 ≤ t.toInt ∧ t.toInt < 6)
  · rw [if_pos hr, if_pos hr, if_pos]
    left
    rw [h _ (by omega)]
    decide
  · rw [if_neg hr, if_neg hr]
theorem F_lay {σ σ' : GS} {r i x : Int32} {v : Int64} (F : Fresh σ) (h : (¬ x = 0 ∧ σ = σ') ∨ (x = 0 ∧ ∃ (u j : Nat), u < 6 ∧ r = nI u ∧ j < 16 ∧ i = nI j ∧ σ' = uL σ u (vp_updL (gL σ u) j (gCutV (gN σ (2 + u)) v)))) : Fresh σ' := by
  rcases h with ⟨-, rfl⟩ | ⟨-, u, j, -, -, -, -, rfl⟩
  · exact F
  · exact F
theorem F_copy {σ σ' : GS} {r i t j n x : Int32} (F : Fresh σ) (h : (¬ x = 0 ∧ σ = σ') ∨ (x = 0 ∧ ∃ (a b : Nat), a < 6 ∧ b < 6 ∧ r = nI a ∧ t = nI b ∧ gRch i n 16 ∧ gRch j n 16 ∧ σ' = uL σ b (va_cpy (gL σ a) (gL σ b) i.toInt.toNat j.toInt.toNat n.toInt.toNat))) : Fresh σ' := by
  rcases h with ⟨-, rfl⟩ | ⟨-, a, b, -, -, -, -, -, -, rfl⟩
  · exact F
  · exact F
theorem F_urn {σ σ' : GS} {n x : Int32} (F : Fresh σ) (h : (x < 0 ∧ σ = σ') ∨ (0 < 8 ∧ σ' = uN (uN σ (14 + 0) n) 0 (nI (0 + 1)))) : gN σ' 33 = nI 0 := by
  rcases h with ⟨-, rfl⟩ | ⟨-, rfl⟩
  · exact F.2.1
  · rw [gN_uN, if_neg (by decide), gN_uN, if_neg (by decide)]
    exact F.2.1
theorem F_part {σ : GS} (F : Fresh σ) (x : Int32) : fPart x (gG σ 1) (gG σ 2) (gG σ 3) = fPart x 0 0 1 := by
  obtain ⟨-, -, -, -, -, -, -, ⟨h1, h2, h3⟩, -⟩ := F
  rw [h1, h2, h3]
theorem F_partM {σ : GS} (F : Fresh σ) (x : Int32) : fPart x (gG σ 10 + gG σ 11 / gG σ 12) (gG σ 11 - gG σ 11 / gG σ 12 * gG σ 12) (if gG σ 11 - gG σ 11 / gG σ 12 * gG σ 12 = 0 then 1 else gG σ 12) = fPart x 0 0 1 := by
  obtain ⟨-, -, -, -, -, -, -, -, h1, h2, h3⟩ := F
  rw [h1, h2, h3]
  rfl
theorem F_drw {σ : GS} (F : Fresh σ) : gDrw σ 8 = 0 := by
  have h := F.2.2.2.2.2.2.1
  have e : ∀ n, n ≤ 8 → gDrw σ n = 0 := by
    intro n
    induction n with
    | zero => intro _; rfl
    | succ n ih =>
      intro hn
      show gDrw σ n + gN σ (22 + n) = 0
      rw [ih (by omega), h n (by omega)]
      rfl
  exact e 8 (by omega)
theorem F_cnt {σ : GS} (F : Fresh σ) (x : Int32) : fCnt x (gN σ 0) (gN σ 30) (gDrw σ 8) (gN σ 1) = fCnt x 0 0 0 1 := by
  rw [F_drw F, F_m F, F_kl F, F.2.2.2.2.2.1.1]
  rfl
theorem F_cntM {σ : GS} (F : Fresh σ) (x : Int32) : fCnt x (gN σ 33) (gN σ 34) (gI σ 53 201) (gI σ 53 200) = fCnt x 0 0 0 1 := by
  rw [F_mm F, F_kk F, F.2.2.2.2.2.1.2.1, F.2.2.2.2.2.1.2.2]
  rfl
theorem F_start (f : Nat → Nat → Int32) : Fresh (gS0 f) := by
  refine ⟨rfl, rfl, fun u hu => ?_, fun u hu => ?_, ⟨rfl, rfl⟩, ⟨rfl, rfl, rfl⟩, fun u hu => ?_, ⟨rfl, rfl, rfl⟩, ⟨rfl, rfl, rfl⟩⟩
  · rcases (show u = 0 ∨ u = 1 ∨ u = 2 ∨ u = 3 ∨ u = 4 ∨ u = 5 by omega) with rfl | rfl | rfl | rfl | rfl | rfl <;> exact ⟨rfl, rfl⟩
  · rcases (show u = 0 ∨ u = 1 ∨ u = 2 ∨ u = 3 ∨ u = 4 ∨ u = 5 by omega) with rfl | rfl | rfl | rfl | rfl | rfl <;> rfl
  · rcases (show u = 0 ∨ u = 1 ∨ u = 2 ∨ u = 3 ∨ u = 4 ∨ u = 5 ∨ u = 6 ∨ u = 7 by omega) with rfl | rfl | rfl | rfl | rfl | rfl | rfl | rfl <;> rfl
