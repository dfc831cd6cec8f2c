-- sums
def sN (φ : Nat → Nat) : Nat → Nat
  | 0 => 0
  | n + 1 => sN φ n + φ n
theorem sN_c {φ ψ : Nat → Nat} : ∀ n, (∀ z, z < n → φ z = ψ z) → sN φ n = sN ψ n
  | 0, _ => rfl
  | n + 1, h => by
    show sN φ n + φ n = sN ψ n + ψ n
    rw [sN_c n (fun z hz => h z (by omega)), h n (by omega)]
theorem sN_le {φ ψ : Nat → Nat} : ∀ n, (∀ z, z < n → φ z ≤ ψ z) → sN φ n ≤ sN ψ n
  | 0, _ => Nat.le_refl _
  | n + 1, h => Nat.add_le_add (sN_le n (fun z hz => h z (by omega))) (h n (by omega))
theorem sN_add (φ ψ : Nat → Nat) : ∀ n, sN (fun z => φ z + ψ z) n = sN φ n + sN ψ n
  | 0 => rfl
  | n + 1 => by
    show sN _ n + (φ n + ψ n) = sN φ n + φ n + (sN ψ n + ψ n)
    rw [sN_add φ ψ n]
    omega
theorem sN_mul (φ : Nat → Nat) (k : Nat) : ∀ n, sN (fun z => φ z * k) n = sN φ n * k
  | 0 => (Nat.zero_mul k).symm
  | n + 1 => by
    show sN _ n + φ n * k = (sN φ n + φ n) * k
    rw [sN_mul φ k n, Nat.add_mul]
theorem sN_0 : ∀ n, sN (fun _ => 0) n = 0
  | 0 => rfl
  | n + 1 => sN_0 n
theorem sN_z0 {φ : Nat → Nat} (n : Nat) (h : ∀ z, z < n → φ z = 0) : sN φ n = 0 := (sN_c n h).trans (sN_0 n)
theorem sN_swap (F : Nat → Nat → Nat) (m : Nat) : ∀ n, sN (fun y => sN (fun z => F y z) m) n = sN (fun z => sN (fun y => F y z) n) m
  | 0 => (sN_0 m).symm
  | n + 1 => by
    show sN (fun y => sN (fun z => F y z) m) n + sN (fun z => F n z) m = sN (fun z => sN (fun y => F y z) n + F n z) m
    rw [sN_swap F m n, sN_add]
theorem sN_one {φ ψ : Nat → Nat} {z0 : Nat} : ∀ n, z0 < n → (∀ z, z < n → z ≠ z0 → ψ z = φ z) → sN ψ n + φ z0 = sN φ n + ψ z0
  | 0, h, _ => absurd h (Nat.not_lt_zero _)
  | n + 1, h, e => by
    show sN ψ n + ψ n + φ z0 = sN φ n + φ n + ψ z0
    by_cases q : z0 = n
    · subst q
      rw [sN_c z0 (fun z hz => e z (by omega) (by omega))]
      omega
    · have ih := sN_one n (by omega) (fun z hz => e z (by omega))
      rw [e n (by omega) (fun w => q w.symm)]
      omega
theorem sN_m {φ : Nat → Nat} {z : Nat} : ∀ n, z < n → φ z ≤ sN φ n
  | 0, h => absurd h (Nat.not_lt_zero _)
  | n + 1, h => by
    show φ z ≤ sN φ n + φ n
    by_cases q : z = n
    · subst q; omega
    · have := sN_m (φ := φ) (z := z) n (by omega)
      omega
theorem sN_ex {φ : Nat → Nat} : ∀ n, ¬ sN φ n = 0 → ∃ z, z < n ∧ ¬ φ z = 0
  | 0, h => absurd rfl h
  | n + 1, h => by
    by_cases q : φ n = 0
    · have h : ¬ sN φ n + φ n = 0 := h
      obtain ⟨z, h1, h2⟩ := sN_ex (φ := φ) n (by omega)
      exact ⟨z, by omega, h2⟩
    · exact ⟨n, by omega, q⟩
theorem sN_at (g t : Nat) : ∀ n, sN (fun y => if y = t then g else 0) n = if t < n then g else 0
  | 0 => by rw [if_neg (Nat.not_lt_zero _)]; rfl
  | n + 1 => by
    show sN (fun y => if y = t then g else 0) n + (if n = t then g else 0) = _
    rw [sN_at g t n]
    by_cases h : n = t
    · rw [if_pos h, if_neg (by omega), if_pos (by omega)]; omega
    · rw [if_neg h]
      by_cases h2 : t < n
      · rw [if_pos h2, if_pos (by omega)]; omega
      · rw [if_neg h2, if_neg (by omega)]
theorem sN_4 (φ : Nat → Nat) : ∀ n, sN φ (4 * n) = sN (fun x => φ (4 * x) + φ (4 * x + 1) + φ (4 * x + 2) + φ (4 * x + 3)) n
  | 0 => rfl
  | n + 1 => by
    show sN φ (4 * n) + φ (4 * n) + φ (4 * n + 1) + φ (4 * n + 2) + φ (4 * n + 3) = sN _ n + (φ (4 * n) + φ (4 * n + 1) + φ (4 * n + 2) + φ (4 * n + 3))
    rw [sN_4 φ n]
    omega
theorem gIf_c {P Q : Prop} {a b a' b' : Nat} (h : P ↔ Q) (ha : P → a = a') (hb : ¬ P → b = b') : gIf P a b = gIf Q a' b' := by
  by_cases p : P
  · rw [gIf_t p, gIf_t (h.mp p)]; exact ha p
  · rw [gIf_f p, gIf_f (fun q => p (h.mpr q))]; exact hb p
-- counts of the colours in a code; what they leave
def d3 (k x c : Nat) : Nat := if c = 0 then x % 13 else if c = 1 then x / 13 % 13 else if c = 2 then x / 169 else k - (x % 13 + x / 13 % 13 + x / 169)
def dSum (x : Nat) : Nat := x % 13 + x / 13 % 13 + x / 169
def xS (f t : Nat → Int32) (k x d : Nat) : Nat → Int32
  | 0 => f d
  | c + 1 => xS f t k x d c + nI (d3 k x c) * t (c * 4 + d)
def xB (f t : Nat → Int32) (k x d : Nat) : Int32 := xS f t k x d 4
def xT (f t : Nat → Int32) (k x : Nat) : Int32 := xB f t k x 0 + xB f t k x 1 + xB f t k x 2 + xB f t k x 3
theorem d169 (x : Nat) : x / 169 = x / 13 / 13 := (Nat.div_div_eq_div_mul x 13 13).symm
theorem dig0 {x : Nat} (h : x % 13 ≤ 11) : (x + 1) % 13 = x % 13 + 1 ∧ (x + 1) / 13 % 13 = x / 13 % 13 ∧ (x + 1) / 169 = x / 169 := by
  have e : (x + 1) / 13 = x / 13 := by omega
  exact ⟨by omega, by rw [e], by rw [d169, d169, e]⟩
theorem dig1 {x : Nat} (h : x / 13 % 13 ≤ 11) : (x + 13) % 13 = x % 13 ∧ (x + 13) / 13 % 13 = x / 13 % 13 + 1 ∧ (x + 13) / 169 = x / 169 := by
  have e : (x + 13) / 13 = x / 13 + 1 := by omega
  refine ⟨by omega, by rw [e]; omega, ?_⟩
  rw [d169, d169, e]
  omega
theorem dig2 (x : Nat) : (x + 169) % 13 = x % 13 ∧ (x + 169) / 13 % 13 = x / 13 % 13 ∧ (x + 169) / 169 = x / 169 + 1 := by
  have e : (x + 169) / 13 = x / 13 + 13 := by omega
  exact ⟨by omega, by rw [e]; omega, by omega⟩
theorem d3_s {k x c : Nat} (hs : dSum x ≤ k) (hk : k ≤ 11) (hc : c < 4) : dSum (x + gmo c) ≤ k + 1 ∧ ∀ b, b < 4 → d3 (k + 1) (x + gmo c) b = d3 k x b + if b = c then 1 else 0 := by
  unfold dSum at hs ⊢
  unfold d3
  rcases (show c = 0 ∨ c = 1 ∨ c = 2 ∨ c = 3 by omega) with rfl | rfl | rfl | rfl
  · obtain ⟨e1, e2, e3⟩ := dig0 (x := x) (by omega)
    rw [show gmo 0 = 1 from rfl, e1, e2, e3]
    generalize x % 13 = p at *
    generalize x / 13 % 13 = q at *
    generalize x / 169 = r at *
    refine ⟨by omega, fun b hb => ?_⟩
    rcases (show b = 0 ∨ b = 1 ∨ b = 2 ∨ b = 3 by omega) with rfl | rfl | rfl | rfl <;> simp <;> omega
  · obtain ⟨e1, e2, e3⟩ := dig1 (x := x) (by omega)
    rw [show gmo 1 = 13 from rfl, e1, e2, e3]
    generalize x % 13 = p at *
    generalize x / 13 % 13 = q at *
    generalize x / 169 = r at *
    refine ⟨by omega, fun b hb => ?_⟩
    rcases (show b = 0 ∨ b = 1 ∨ b = 2 ∨ b = 3 by omega) with rfl | rfl | rfl | rfl <;> simp <;> omega
  · obtain ⟨e1, e2, e3⟩ := dig2 x
    rw [show gmo 2 = 169 from rfl, e1, e2, e3]
    generalize x % 13 = p at *
    generalize x / 13 % 13 = q at *
    generalize x / 169 = r at *
    refine ⟨by omega, fun b hb => ?_⟩
    rcases (show b = 0 ∨ b = 1 ∨ b = 2 ∨ b = 3 by omega) with rfl | rfl | rfl | rfl <;> simp <;> omega
  · rw [show gmo 3 = 0 from rfl, Nat.add_zero]
    generalize x % 13 = p at *
    generalize x / 13 % 13 = q at *
    generalize x / 169 = r at *
    refine ⟨by omega, fun b hb => ?_⟩
    rcases (show b = 0 ∨ b = 1 ∨ b = 2 ∨ b = 3 by omega) with rfl | rfl | rfl | rfl <;> simp <;> omega
theorem nI_m1 (n : Nat) (a : Int32) : nI (n + 1) * a = nI n * a + a := by
  rw [← nI_1, Int32.add_mul, Int32.one_mul]
theorem xB_s {f t : Nat → Int32} {k x c d : Nat} (hs : dSum x ≤ k) (hk : k ≤ 11) (hc : c < 4) : xB f t (k + 1) (x + gmo c) d = xB f t k x d + t (c * 4 + d) := by
  obtain ⟨-, h⟩ := d3_s hs hk hc
  show f d + nI (d3 (k + 1) (x + gmo c) 0) * t (0 * 4 + d) + nI (d3 (k + 1) (x + gmo c) 1) * t (1 * 4 + d) + nI (d3 (k + 1) (x + gmo c) 2) * t (2 * 4 + d) + nI (d3 (k + 1) (x + gmo c) 3) * t (3 * 4 + d) = f d + nI (d3 k x 0) * t (0 * 4 + d) + nI (d3 k x 1) * t (1 * 4 + d) + nI (d3 k x 2) * t (2 * 4 + d) + nI (d3 k x 3) * t (3 * 4 + d) + t (c * 4 + d)
  rw [h 0 (by omega), h 1 (by omega), h 2 (by omega), h 3 (by omega)]
  rcases (show c = 0 ∨ c = 1 ∨ c = 2 ∨ c = 3 by omega) with rfl | rfl | rfl | rfl
  · rw [if_pos rfl, if_neg (by decide), if_neg (by decide), if_neg (by decide), nI_m1]; ac_rfl
  · rw [if_neg (by decide), if_pos rfl, if_neg (by decide), if_neg (by decide), nI_m1]; ac_rfl
  · rw [if_neg (by decide), if_neg (by decide), if_pos rfl, if_neg (by decide), nI_m1]; ac_rfl
  · rw [if_neg (by decide), if_neg (by decide), if_neg (by decide), if_pos rfl, nI_m1]; ac_rfl
-- the weights of counts
def xK (wg : Bool) (f t : Nat → Int32) (k x c : Nat) : Nat := if wg = true then (xB f t k x c).toInt.toNat else 1
def xGo (f t : Nat → Int32) (al : Nat → Nat → Prop) (k x c : Nat) : Prop := gLet (xB f t k x) t c 4 ∧ al k c
noncomputable def wS (wg : Bool) (f t : Nat → Int32) (al : Nat → Nat → Prop) (W : Nat → Nat) (k y z : Nat) : Nat := gIf (z / 4 + gmo (z % 4) = y ∧ xGo f t al k (z / 4) (z % 4)) (W (z / 4) * xK wg f t k (z / 4) (z % 4)) 0
noncomputable def wW (wg : Bool) (f t : Nat → Int32) (al : Nat → Nat → Prop) : Nat → Nat → Nat
  | 0 => fun x => if x = 0 then 1 else 0
  | k + 1 => fun y => sN (wS wg f t al (wW wg f t al k) k y) 8788
theorem wW_0 (wg : Bool) (f t : Nat → Int32) (al : Nat → Nat → Prop) (x : Nat) : wW wg f t al 0 x = if x = 0 then 1 else 0 := rfl
theorem wW_s (wg : Bool) (f t : Nat → Int32) (al : Nat → Nat → Prop) (k y : Nat) : wW wg f t al (k + 1) y = sN (wS wg f t al (wW wg f t al k) k y) 8788 := rfl
theorem wW_ex {wg : Bool} {f t : Nat → Int32} {al : Nat → Nat → Prop} {k y : Nat} (h : ¬ wW wg f t al (k + 1) y = 0) : ∃ x c, x < 2197 ∧ c < 4 ∧ y = x + gmo c ∧ xGo f t al k x c ∧ ¬ wW wg f t al k x = 0 := by
  obtain ⟨z, hz, h2⟩ := sN_ex _ h
  unfold wS at h2
  by_cases q : z / 4 + gmo (z % 4) = y ∧ xGo f t al k (z / 4) (z % 4)
  · rw [gIf_t q] at h2
    exact ⟨z / 4, z % 4, by omega, by omega, q.1.symm, q.2, fun e => h2 (by rw [e, Nat.zero_mul])⟩
  · rw [gIf_f q] at h2; exact absurd rfl h2
/-- what stands where there is weight: counts that fit, colours that are there, balls in their bounds -/
def xOk (f t : Nat → Int32) (n k x : Nat) : Prop := dSum x ≤ k ∧ (∀ c, c < 4 → n ≤ c → d3 k x c = 0) ∧ gB2 (xB f t k x) ∧ ∀ d, d < 4 → n ≤ d → xB f t k x d = 0
theorem xB_0 (f t : Nat → Int32) (d : Nat) : xB f t 0 0 d = f d := by
  show f d + nI 0 * t (0 * 4 + d) + nI 0 * t (1 * 4 + d) + nI 0 * t (2 * 4 + d) + nI 0 * t (3 * 4 + d) = f d
  rw [show nI 0 = 0 from rfl, Int32.zero_mul, Int32.zero_mul, Int32.zero_mul, Int32.zero_mul, Int32.add_zero, Int32.add_zero, Int32.add_zero, Int32.add_zero]
theorem wW_ok {wg : Bool} {f t : Nat → Int32} {al : Nat → Nat → Prop} {n : Nat} (hf : gB2 f) (hz : ∀ d, d < 4 → n ≤ d → f d = 0) (ht : ∀ c, c < 4 → ∀ d, d < 4 → n ≤ d → t (c * 4 + d) = 0) : ∀ k, k ≤ 12 → ∀ x, ¬ wW wg f t al k x = 0 → xOk f t n k x
  | 0, _, x, h => by
    have e : x = 0 := Classical.not_not.mp fun q => h (if_neg q)
    subst e
    refine ⟨Nat.le_refl _, fun c hc _ => ?_, fun d hd => ?_, fun d hd h => ?_⟩
    · rcases (show c = 0 ∨ c = 1 ∨ c = 2 ∨ c = 3 by omega) with rfl | rfl | rfl | rfl <;> rfl
    · rw [xB_0]; exact hf d hd
    · rw [xB_0]; exact hz d hd h
  | k + 1, hk, y, h => by
    obtain ⟨x, c, hx, hc, rfl, hg, hw⟩ := wW_ex h
    obtain ⟨h1, h2, h3, h4⟩ := wW_ok hf hz ht k (by omega) x hw
    obtain ⟨d1, d2⟩ := d3_s h1 (by omega) hc
    have hcn : c < n := Nat.not_le.mp fun q => by
      have := hg.1.1
      rw [h4 c hc q] at this
      exact absurd this (by decide)
    refine ⟨d1, fun b hb hn => ?_, fun d hd => ?_, fun d hd hn => ?_⟩
    · rw [d2 b hb, h2 b hb hn, if_neg (by omega)]
    · rw [xB_s h1 (by omega) hc]; exact hg.1.2 d hd
    · rw [xB_s h1 (by omega) hc, h4 d hd hn, ht c hc d hd hn]; rfl
theorem dSum_lt {x k : Nat} (h : dSum x ≤ k) (hk : k ≤ 12) : x < 2197 ∧ x % 13 ≤ k ∧ x / 13 % 13 ≤ k ∧ x / 169 ≤ k := by
  unfold dSum at h
  omega
-- how much weight there is in all
theorem gmo_b {c : Nat} (hc : c < 4) : gmo c ≤ 169 := gmo_le c
noncomputable def wG4 (wg : Bool) (f t : Nat → Int32) (al : Nat → Nat → Prop) (k x : Nat) : Nat := gIf (xGo f t al k x 0) (xK wg f t k x 0) 0 + gIf (xGo f t al k x 1) (xK wg f t k x 1) 0 + gIf (xGo f t al k x 2) (xK wg f t k x 2) 0 + gIf (xGo f t al k x 3) (xK wg f t k x 3) 0
noncomputable def wPz (wg : Bool) (f t : Nat → Int32) (al : Nat → Nat → Prop) (W : Nat → Nat) (k z : Nat) : Nat := gIf (xGo f t al k (z / 4) (z % 4)) (W (z / 4) * xK wg f t k (z / 4) (z % 4)) 0
theorem wPz_4 (wg : Bool) (f t : Nat → Int32) (al : Nat → Nat → Prop) (W : Nat → Nat) (k x c : Nat) (hc : c < 4) : wPz wg f t al W k (4 * x + c) = W x * gIf (xGo f t al k x c) (xK wg f t k x c) 0 := by
  unfold wPz
  rw [show (4 * x + c) / 4 = x by omega, show (4 * x + c) % 4 = c by omega]
  by_cases h : xGo f t al k x c
  · rw [gIf_t h, gIf_t h]
  · rw [gIf_f h, gIf_f h, Nat.mul_zero]
theorem wW_tot (wg : Bool) (f t : Nat → Int32) (al : Nat → Nat → Prop) (k : Nat) : sN (wW wg f t al (k + 1)) 2197 ≤ sN (fun x => wW wg f t al k x * wG4 wg f t al k x) 2197 := by
  have e1 : sN (wW wg f t al (k + 1)) 2197 = sN (fun z => sN (fun y => wS wg f t al (wW wg f t al k) k y z) 2197) 8788 := sN_swap (fun y z => wS wg f t al (wW wg f t al k) k y z) 8788 2197
  have e2 : ∀ z, sN (fun y => wS wg f t al (wW wg f t al k) k y z) 2197 ≤ wPz wg f t al (wW wg f t al k) k z := by
    intro z
    have q : sN (fun y => wS wg f t al (wW wg f t al k) k y z) 2197 = sN (fun y => if y = z / 4 + gmo (z % 4) then wPz wg f t al (wW wg f t al k) k z else 0) 2197 := by
      refine sN_c _ (fun y _ => ?_)
      unfold wS wPz
      by_cases h : y = z / 4 + gmo (z % 4)
      · rw [if_pos h]
        exact gIf_c ⟨fun w => w.2, fun w => ⟨h.symm, w⟩⟩ (fun _ => rfl) (fun _ => rfl)
      · rw [if_neg h]
        exact gIf_f (fun w => h w.1.symm)
    rw [q, sN_at]
    split <;> omega
  rw [e1]
  refine Nat.le_trans (sN_le _ (fun z _ => e2 z)) (Nat.le_of_eq ?_)
  rw [show 8788 = 4 * 2197 from rfl, sN_4]
  refine sN_c _ (fun x _ => ?_)
  have e0 := wPz_4 wg f t al (wW wg f t al k) k x 0 (by omega)
  rw [Nat.add_zero] at e0
  rw [e0, wPz_4 _ _ _ _ _ _ _ 1 (by omega), wPz_4 _ _ _ _ _ _ _ 2 (by omega), wPz_4 _ _ _ _ _ _ _ 3 (by omega), ← Nat.mul_add, ← Nat.mul_add, ← Nat.mul_add]
  rfl
theorem wW_t0 (wg : Bool) (f t : Nat → Int32) (al : Nat → Nat → Prop) : sN (wW wg f t al 0) 2197 = 1 := (sN_at 1 0 2197).trans rfl
/-- the bound, where each state sends on at most q k -/
theorem wW_b {wg : Bool} {f t : Nat → Int32} {al : Nat → Nat → Prop} {P q : Nat → Nat} (h0 : P 0 = 1) (hP : ∀ k, P (k + 1) = P k * q k) {m : Nat} (h : ∀ k, k < m → ∀ x, ¬ wW wg f t al k x = 0 → wG4 wg f t al k x ≤ q k) : ∀ k, k ≤ m → sN (wW wg f t al k) 2197 ≤ P k
  | 0, _ => by rw [wW_t0, h0]; exact Nat.le_refl _
  | k + 1, hk => by
    have ih := wW_b h0 hP h k (by omega)
    refine Nat.le_trans (wW_tot wg f t al k) ?_
    rw [hP]
    refine Nat.le_trans (sN_le (ψ := fun x => wW wg f t al k x * q k) _ (fun x _ => ?_)) ?_
    · by_cases e : wW wg f t al k x = 0
      · show wW wg f t al k x * _ ≤ wW wg f t al k x * _
        rw [e, Nat.zero_mul, Nat.zero_mul]; exact Nat.le_refl _
      · exact Nat.mul_le_mul_left _ (h k (by omega) x e)
    · rw [sN_mul]; exact Nat.mul_le_mul_right _ ih
