-- THE FRACTION: what both sides show of it
abbrev GF : Type := Nat × Nat × Nat
def CF (σ : GS) (F : GF) : Prop := gG σ 1 = lN F.1 ∧ gG σ 2 = lN F.2.1 ∧ gG σ 3 = lN F.2.2
def MF (σ : GS) (F : GF) : Prop := gG σ 10 + gG σ 11 / gG σ 12 = lN F.1 ∧ gG σ 11 - gG σ 11 / gG σ 12 * gG σ 12 = lN F.2.1 ∧ (if gG σ 11 - gG σ 11 / gG σ 12 * gG σ 12 = 0 then 1 else gG σ 12) = lN F.2.2
/-- the class's two rows of weights are nothing between two calls -/
def ZA (σ : GS) : Prop := (gP σ = 1 ∨ gP σ = 2) ∧ ∀ j, j < 2197 → gL σ 8 j = 0 ∧ gL σ 9 j = 0
def EF (σ : GS) (F G : GF) : Prop := CF σ F ∧ MF σ G ∧ ZA σ
theorem CF_e {a b : GS} {F : GF} (h : ∀ q, 1 ≤ q → q < 4 → gG b q = gG a q) (E : CF a F) : CF b F := by
  unfold CF
  rw [h 1 (by omega) (by omega), h 2 (by omega) (by omega), h 3 (by omega) (by omega)]
  exact E
theorem MF_e {a b : GS} {F : GF} (h : ∀ q, 10 ≤ q → q < 13 → gG b q = gG a q) (E : MF a F) : MF b F := by
  unfold MF
  rw [h 10 (by omega) (by omega), h 11 (by omega) (by omega), h 12 (by omega) (by omega)]
  exact E
theorem ZA_e {a b : GS} (hp : gP b = gP a) (h : ∀ q, q = 8 ∨ q = 9 → gL b q = gL a q) (E : ZA a) : ZA b := by
  unfold ZA
  rw [hp, h 8 (by omega), h 9 (by omega)]
  exact E
theorem EF_FC {a b : GS} {F G : GF} (h : FC a b) (E : EF a F G) : EF b F G := ⟨CF_e (fun q h1 _ => h.2.2.2.1 q h1) E.1, MF_e (fun q h1 _ => h.2.2.2.1 q (by omega)) E.2.1, ZA_e h.2.2.2.2 (fun q _ => h.2.1 q) E.2.2⟩
theorem EF_FM {a b : GS} {F G : GF} (h : FM a b) (E : EF a F G) : EF b F G := ⟨CF_e (fun q _ _ => h.2.2.2.1 q) E.1, MF_e (fun q _ _ => h.2.2.2.1 q) E.2.1, ZA_e h.2.2.2.2 (fun q _ => h.2.1 q) E.2.2⟩
theorem EF_g {a b : GS} {F G : GF} (hg : ∀ q, gG b q = gG a q) (hp : gP b = gP a) (hl : ∀ q, 6 ≤ q → q < 12 → gL b q = gL a q) (E : EF a F G) : EF b F G := ⟨CF_e (fun q _ _ => hg q) E.1, MF_e (fun q _ _ => hg q) E.2.1, ZA_e hp (fun q h => hl q (by omega) (by omega)) E.2.2⟩
theorem EF_sk {a b : GS} {F F' G : GF} (h : gSk a b) (hc : CF b F') (hz : ZA b) (E : EF a F G) : EF b F' G := ⟨hc, MF_e (fun q h1 _ => h.2.2.2 q h1) E.2.1, hz⟩
theorem EF_sn {a b : GS} {F G G' : GF} (h : gSn a b) (hm : MF b G') (E : EF a F G) : EF b F G' := ⟨CF_e (fun q _ h2 => h.2.2.2.1 q (by omega)) E.1, hm, ZA_e h.2.2.2.2.2 (fun q h1 => h.2.1 q (by omega)) E.2.2⟩
/-- w and a over b, in lowest terms -/
def fNew (w a b : Nat) : GF := (w + a / b, a % b / Nat.gcd a b, b / Nat.gcd a b)
theorem gcd_mod (a b : Nat) : Nat.gcd (a % b) b = Nat.gcd a b := by rw [← Nat.gcd_rec, Nat.gcd_comm]
theorem fNew_m {a b : Nat} (hb : 1 ≤ b) : a / Nat.gcd a b / (b / Nat.gcd a b) = a / b ∧ a / Nat.gcd a b % (b / Nat.gcd a b) = a % b / Nat.gcd a b ∧ (a % b / Nat.gcd a b = 0 → b / Nat.gcd a b = 1) := by
  have hg : 0 < Nat.gcd a b := Nat.gcd_pos_of_pos_right _ hb
  obtain ⟨x, hx⟩ := Nat.gcd_dvd_left a b
  obtain ⟨y, hy⟩ := Nat.gcd_dvd_right a b
  have ex : a / Nat.gcd a b = x := Nat.div_eq_of_eq_mul_right hg hx
  have ey : b / Nat.gcd a b = y := Nat.div_eq_of_eq_mul_right hg hy
  have e1 : a / b = x / y := by
    have h := Nat.mul_div_mul_left x y hg
    rw [← hx, ← hy] at h
    exact h
  have e2 : a % b = Nat.gcd a b * (x % y) := by
    have h := Nat.mul_mod_mul_left (Nat.gcd a b) x y
    rw [← hx, ← hy] at h
    exact h
  have e3 : a % b / Nat.gcd a b = x % y := Nat.div_eq_of_eq_mul_right hg e2
  rw [ex, ey, e1, e3]
  refine ⟨rfl, rfl, fun h => ?_⟩
  have hm : a % b = 0 := by rw [e2, h, Nat.mul_zero]
  have hd : b ∣ a := Nat.dvd_of_mod_eq_zero hm
  have hgb : Nat.gcd a b = b := Nat.gcd_eq_right hd
  rw [← ey, hgb]
  exact Nat.div_self hb
theorem lN_zz : lN 0 = 0 := rfl
theorem MF_new {σ : GS} {w a b : Nat} (hb : 1 ≤ b) (hb2 : b < 9223372036854775808) (ha : a < 9223372036854775808) (h0 : gG σ 10 = lN w) (h1 : gG σ 11 = lN (a / Nat.gcd a b)) (h2 : gG σ 12 = lN (b / Nat.gcd a b)) : MF σ (fNew w a b) := by
  obtain ⟨e1, e2, e3⟩ := fNew_m (a := a) hb
  have q2 := gcd_2 (a := a) hb
  have l1 : a / Nat.gcd a b < 9223372036854775808 := Nat.lt_of_le_of_lt (Nat.div_le_self _ _) ha
  have d := pk_lDiv (a := a / Nat.gcd a b) (b := b / Nat.gcd a b) l1 (by omega) (by omega)
  have r := pk_lRem (a := a / Nat.gcd a b) (b := b / Nat.gcd a b) l1 (by omega) (by omega)
  unfold MF
  rw [h0, h1, h2, r, d, e2, e1, lN_add]
  refine ⟨rfl, rfl, ?_⟩
  have l3 : a % b / Nat.gcd a b < 9223372036854775808 := by
    have := Nat.div_le_self (a % b) (Nat.gcd a b)
    have := Nat.mod_lt a hb
    omega
  by_cases z : a % b / Nat.gcd a b = 0
  · rw [z, if_pos lN_zz]
    show (1 : Int64) = lN (b / Nat.gcd a b)
    rw [e3 z]
    rfl
  · rw [if_neg (fun q => z ((lN_z l3).mp q))]
    rfl
theorem aPartC {σ : GS} {F : GF} (E : CF σ F) (x : Int32) : fPart x (gG σ 1) (gG σ 2) (gG σ 3) = fPart x (lN F.1) (lN F.2.1) (lN F.2.2) := by rw [E.1, E.2.1, E.2.2]
theorem aPartM {σ : GS} {F : GF} (E : MF σ F) (x : Int32) : fPart x (gG σ 10 + gG σ 11 / gG σ 12) (gG σ 11 - gG σ 11 / gG σ 12 * gG σ 12) (if gG σ 11 - gG σ 11 / gG σ 12 * gG σ 12 = 0 then 1 else gG σ 12) = fPart x (lN F.1) (lN F.2.1) (lN F.2.2) := by rw [E.1, E.2.2, E.2.1]
/-- the class's divisor, where the one or the other may be nothing -/
theorem gEu_z {x y : Nat} (h : gEu 200 x y) (h0 : 1 ≤ x ∨ 1 ≤ y) : y = 0 := by
  by_cases hx : 1 ≤ x
  · exact gEu_200 h hx
  · rcases h with h | ⟨j, hj, h1, h2⟩
    · exact absurd h (by decide)
    · omega
