-- an even urn: all rows have the same balls in all
theorem d3_k {k x : Nat} (h : dSum x ≤ k) : d3 k x 0 + d3 k x 1 + d3 k x 2 + d3 k x 3 = k := by
  unfold dSum at h
  unfold d3
  simp
  omega
theorem xT_g (f t : Nat → Int32) (k x : Nat) : xT f t k x = f 0 + f 1 + f 2 + f 3 + nI (d3 k x 0) * gGr t 0 4 + nI (d3 k x 1) * gGr t 1 4 + nI (d3 k x 2) * gGr t 2 4 + nI (d3 k x 3) * gGr t 3 4 := by
  rw [gGr4, gGr4, gGr4, gGr4, Int32.zero_add, Int32.zero_add, Int32.zero_add, Int32.zero_add]
  simp only [Int32.mul_add]
  show (f 0 + nI (d3 k x 0) * t (0 * 4 + 0) + nI (d3 k x 1) * t (1 * 4 + 0) + nI (d3 k x 2) * t (2 * 4 + 0) + nI (d3 k x 3) * t (3 * 4 + 0)) + (f 1 + nI (d3 k x 0) * t (0 * 4 + 1) + nI (d3 k x 1) * t (1 * 4 + 1) + nI (d3 k x 2) * t (2 * 4 + 1) + nI (d3 k x 3) * t (3 * 4 + 1)) + (f 2 + nI (d3 k x 0) * t (0 * 4 + 2) + nI (d3 k x 1) * t (1 * 4 + 2) + nI (d3 k x 2) * t (2 * 4 + 2) + nI (d3 k x 3) * t (3 * 4 + 2)) + (f 3 + nI (d3 k x 0) * t (0 * 4 + 3) + nI (d3 k x 1) * t (1 * 4 + 3) + nI (d3 k x 2) * t (2 * 4 + 3) + nI (d3 k x 3) * t (3 * 4 + 3)) = _
  ac_rfl
theorem xT_k {f t : Nat → Int32} {n k x : Nat} (h : xOk f t n k x) (he : gEv4 t n) : xT f t k x = f 0 + f 1 + f 2 + f 3 + nI k * gGr t 0 4 := by
  have e : ∀ c, 1 ≤ c → c < 4 → nI (d3 k x c) * gGr t c 4 = nI (d3 k x c) * gGr t 0 4 := by
    intro c h1 hc
    by_cases q : c < n
    · rw [he c q h1]
    · rw [h.2.1 c hc (by omega), show nI 0 = 0 from rfl, Int32.zero_mul, Int32.zero_mul]
  rw [xT_g, e 1 (by omega) (by omega), e 2 (by omega) (by omega), e 3 (by omega) (by omega)]
  have s := d3_k h.1
  rw [Int32.add_assoc, Int32.add_assoc, Int32.add_assoc, ← Int32.add_mul, ← Int32.add_mul, ← Int32.add_mul, nI_add, nI_add, nI_add]
  congr 3
  omega
/-- the balls of a state, as numbers -/
theorem xT_i {f t : Nat → Int32} {n k x : Nat} (h : xOk f t n k x) : (xT f t k x).toInt = ((xB f t k x 0).toInt.toNat + (xB f t k x 1).toInt.toNat + (xB f t k x 2).toInt.toNat + (xB f t k x 3).toInt.toNat : Nat) := by
  obtain ⟨s1, s2, s3⟩ := gB2_sum h.2.2.1
  have a : ∀ d, d < 4 → 0 ≤ (xB f t k x d).toInt := by
    intro d hd
    have q := (h.2.2.1 d hd).1
    rw [Int32.le_iff_toInt_le] at q
    exact q
  have a0 := a 0 (by omega)
  have a1 := a 1 (by omega)
  have a2 := a 2 (by omega)
  have a3 := a 3 (by omega)
  show (xB f t k x 0 + xB f t k x 1 + xB f t k x 2 + xB f t k x 3).toInt = _
  rw [s3]
  omega
theorem xT_f {f t : Nat → Int32} {n k x : Nat} (h : xOk f t n k x) (he : gEv4 t n) (hf : gB2 f) (hg : gNT9 t) (hk : k ≤ 12) : (xT f t k x).toInt = (f 0 + f 1 + f 2 + f 3).toInt + (k : Int) * (gGr t 0 4).toInt := by
  have b := gB2_sum hf
  have g := gNT9_s hg (c := 0) (by omega)
  rw [xT_k h he]
  exact zkg ⟨b.1, b.2.1⟩ g hk
def sSt (f t : Nat → Int32) (al : Nat → Nat → Prop) (k x c : Nat) : Prop := (0 < xB f t k x c ∧ ¬ gLet (xB f t k x) t c 4) ∧ al k c
noncomputable def sC (wg : Bool) (f t : Nat → Int32) (al : Nat → Nat → Prop) (k x c : Nat) : Nat := gIf (xT f t k x = 0) (if c = 0 then 1 else 0) (gIf (sSt f t al k x c) (xK wg f t k x c) 0)
noncomputable def sS (wg : Bool) (f t : Nat → Int32) (al : Nat → Nat → Prop) (W : Nat → Nat) (k z : Nat) : Nat := W (z / 4) * sC wg f t al k (z / 4) (z % 4)
theorem xGo_p {f t : Nat → Int32} {al : Nat → Nat → Prop} {k x c : Nat} (h : xGo f t al k x c) : 0 < xB f t k x c := h.1.1
theorem xK_b {f t : Nat → Int32} {k x c : Nat} : xK true f t k x c = (xB f t k x c).toInt.toNat := if_pos rfl
theorem g4_b {f t : Nat → Int32} {al : Nat → Nat → Prop} {k x : Nat} (c : Nat) : gIf (xGo f t al k x c) (xK true f t k x c) 0 + gIf (sSt f t al k x c) (xK true f t k x c) 0 ≤ (xB f t k x c).toInt.toNat := by
  rw [xK_b]
  by_cases h : xGo f t al k x c
  · rw [gIf_t h, gIf_f (fun q => q.1.2 h.1)]; omega
  · rw [gIf_f h]
    by_cases h2 : sSt f t al k x c
    · rw [gIf_t h2]; omega
    · rw [gIf_f h2]; omega
theorem wsG {f t : Nat → Int32} {al : Nat → Nat → Prop} {n k x : Nat} (h : xOk f t n k x) (he : gEv4 t n) (hf : gB2 f) (hg : gNT9 t) (hk : k ≤ 12) : wG4 true f t al k x + (sC true f t al k x 0 + sC true f t al k x 1 + sC true f t al k x 2 + sC true f t al k x 3) ≤ dF (f 0 + f 1 + f 2 + f 3).toInt (gGr t 0 4).toInt k := by
  have e := xT_f h he hf hg hk
  have i := xT_i h
  by_cases z : xT f t k x = 0
  · have e0 : (xT f t k x).toInt = 0 := by rw [z]; rfl
    have p : ∀ c, c < 4 → ¬ xGo f t al k x c := by
      intro c hc g
      have g := xGo_p g
      rw [Int32.lt_iff_toInt_lt] at g
      have e2 : (0 : Int32).toInt = 0 := by decide
      rcases (show c = 0 ∨ c = 1 ∨ c = 2 ∨ c = 3 by omega) with rfl | rfl | rfl | rfl <;> omega
    unfold wG4 sC
    rw [gIf_f (p 0 (by omega)), gIf_f (p 1 (by omega)), gIf_f (p 2 (by omega)), gIf_f (p 3 (by omega)), gIf_t z, gIf_t z, gIf_t z, gIf_t z]
    exact dF_1 _ _ _
  · have b0 := g4_b (f := f) (t := t) (al := al) (k := k) (x := x) 0
    have b1 := g4_b (f := f) (t := t) (al := al) (k := k) (x := x) 1
    have b2 := g4_b (f := f) (t := t) (al := al) (k := k) (x := x) 2
    have b3 := g4_b (f := f) (t := t) (al := al) (k := k) (x := x) 3
    have z2 : ¬ (xT f t k x).toInt = 0 := fun q => z (Int32.toInt_inj.mp q)
    unfold wG4 sC
    rw [gIf_f z, gIf_f z, gIf_f z, gIf_f z]
    unfold dF
    rw [if_pos (by omega)]
    omega
theorem wG_b {f t : Nat → Int32} {al : Nat → Nat → Prop} {n k x : Nat} (h : xOk f t n k x) (he : gEv4 t n) (hf : gB2 f) (hg : gNT9 t) (hk : k ≤ 12) : wG4 true f t al k x ≤ dF (f 0 + f 1 + f 2 + f 3).toInt (gGr t 0 4).toInt k := by
  have := wsG (al := al) h he hf hg hk
  omega
theorem wG_4 (f t : Nat → Int32) (al : Nat → Nat → Prop) (k x : Nat) : wG4 false f t al k x ≤ 4 := by
  have e : ∀ c, gIf (xGo f t al k x c) (xK false f t k x c) 0 ≤ 1 := by
    intro c
    by_cases h : xGo f t al k x c
    · rw [gIf_t h]; exact Nat.le_refl _
    · rw [gIf_f h]; omega
  have a0 := e 0
  have a1 := e 1
  have a2 := e 2
  have a3 := e 3
  unfold wG4
  omega
/-- what has ended, over D -/
noncomputable def wE (f t : Nat → Int32) (al : Nat → Nat → Prop) (T s : Int) : Nat → Nat
  | 0 => 0
  | k + 1 => wE f t al T s k * dF T s k + sN (sS true f t al (wW true f t al k) k) 8788
theorem sS_4 (wg : Bool) (f t : Nat → Int32) (al : Nat → Nat → Prop) (W : Nat → Nat) (k x c : Nat) (hc : c < 4) : sS wg f t al W k (4 * x + c) = W x * sC wg f t al k x c := by
  unfold sS
  rw [show (4 * x + c) / 4 = x by omega, show (4 * x + c) % 4 = c by omega]
theorem sS_tot (wg : Bool) (f t : Nat → Int32) (al : Nat → Nat → Prop) (W : Nat → Nat) (k : Nat) : sN (sS wg f t al W k) 8788 = sN (fun x => W x * (sC wg f t al k x 0 + sC wg f t al k x 1 + sC wg f t al k x 2 + sC wg f t al k x 3)) 2197 := by
  rw [show 8788 = 4 * 2197 from rfl, sN_4]
  refine sN_c _ (fun x _ => ?_)
  have e0 := sS_4 wg f t al W k x 0 (by omega)
  rw [Nat.add_zero] at e0
  rw [e0, sS_4 _ _ _ _ _ _ _ 1 (by omega), sS_4 _ _ _ _ _ _ _ 2 (by omega), sS_4 _ _ _ _ _ _ _ 3 (by omega), ← Nat.mul_add, ← Nat.mul_add, ← Nat.mul_add]
theorem wE_b {f t : Nat → Int32} {al : Nat → Nat → Prop} {n : Nat} (hf : gB2 f) (hz : ∀ d, d < 4 → n ≤ d → f d = 0) (ht : ∀ c, c < 4 → ∀ d, d < 4 → n ≤ d → t (c * 4 + d) = 0) (he : gEv4 t n) (hg : gNT9 t) : ∀ k, k ≤ 12 → sN (wW true f t al k) 2197 + wE f t al (f 0 + f 1 + f 2 + f 3).toInt (gGr t 0 4).toInt k ≤ dD (f 0 + f 1 + f 2 + f 3).toInt (gGr t 0 4).toInt k
  | 0, _ => by rw [wW_t0]; exact Nat.le_refl _
  | k + 1, hk => by
    have ih := wE_b hf hz ht he hg (al := al) k (by omega)
    have q := wW_tot true f t al k
    have key : sN (fun x => wW true f t al k x * wG4 true f t al k x) 2197 + sN (fun x => wW true f t al k x * (sC true f t al k x 0 + sC true f t al k x 1 + sC true f t al k x 2 + sC true f t al k x 3)) 2197 ≤ sN (wW true f t al k) 2197 * dF (f 0 + f 1 + f 2 + f 3).toInt (gGr t 0 4).toInt k := by
      rw [← sN_add, ← sN_mul]
      refine sN_le _ (fun x _ => ?_)
      rw [← Nat.mul_add]
      by_cases e : wW true f t al k x = 0
      · rw [e, Nat.zero_mul, Nat.zero_mul]; exact Nat.le_refl _
      · exact Nat.mul_le_mul_left _ (wsG (wW_ok hf hz ht k (by omega) x e) he hf hg (by omega))
    rw [← sS_tot true f t al (wW true f t al k) k] at key
    show sN (wW true f t al (k + 1)) 2197 + (wE f t al _ _ k * dF _ _ k + sN (sS true f t al (wW true f t al k) k) 8788) ≤ dD _ _ k * dF _ _ k
    have m : (sN (wW true f t al k) 2197 + wE f t al (f 0 + f 1 + f 2 + f 3).toInt (gGr t 0 4).toInt k) * dF (f 0 + f 1 + f 2 + f 3).toInt (gGr t 0 4).toInt k ≤ dD (f 0 + f 1 + f 2 + f 3).toInt (gGr t 0 4).toInt k * dF (f 0 + f 1 + f 2 + f 3).toInt (gGr t 0 4).toInt k := Nat.mul_le_mul_right _ ih
    rw [Nat.add_mul] at m
    omega
theorem wW_4 {f t : Nat → Int32} {al : Nat → Nat → Prop} {k : Nat} (hk : k ≤ 12) : sN (wW false f t al k) 2197 ≤ 16777216 := by
  have q := wW_b (wg := false) (f := f) (t := t) (al := al) (P := fun k => 4 ^ k) (q := fun _ => 4) rfl (fun k => Nat.pow_succ 4 k) (m := 12) (fun k _ x _ => wG_4 f t al k x) k hk
  exact Nat.le_trans q (Nat.le_trans (Nat.pow_le_pow_right (by decide) hk) (by decide))
/-- there is weight where there are rows -/
theorem wW_pos {f t : Nat → Int32} {al : Nat → Nat → Prop} : ∀ k x, wW true f t al k x = 0 ↔ wW false f t al k x = 0
  | 0, x => Iff.rfl
  | k + 1, y => by
    have key : ∀ z, wS true f t al (wW true f t al k) k y z = 0 ↔ wS false f t al (wW false f t al k) k y z = 0 := by
      intro z
      unfold wS
      by_cases h : z / 4 + gmo (z % 4) = y ∧ xGo f t al k (z / 4) (z % 4)
      · rw [gIf_t h, gIf_t h, Nat.mul_eq_zero, Nat.mul_eq_zero, wW_pos k (z / 4)]
        have p := xGo_p h.2
        rw [Int32.lt_iff_toInt_lt] at p
        have e2 : (0 : Int32).toInt = 0 := by decide
        have a : ¬ xK true f t k (z / 4) (z % 4) = 0 := by rw [xK_b]; omega
        have b : ¬ xK false f t k (z / 4) (z % 4) = 0 := by unfold xK; rw [if_neg (by decide)]; decide
        exact ⟨fun q => Or.inl (q.elim id (fun w => absurd w a)), fun q => Or.inl (q.elim id (fun w => absurd w b))⟩
      · rw [gIf_f h, gIf_f h]
    constructor
    · intro h
      refine sN_z0 _ (fun z hz => (key z).mp ?_)
      have := sN_m (φ := wS true f t al (wW true f t al k) k y) 8788 hz
      have h : sN (wS true f t al (wW true f t al k) k y) 8788 = 0 := h
      omega
    · intro h
      refine sN_z0 _ (fun z hz => (key z).mpr ?_)
      have := sN_m (φ := wS false f t al (wW false f t al k) k y) 8788 hz
      have h : sN (wS false f t al (wW false f t al k) k y) 8788 = 0 := h
      omega
