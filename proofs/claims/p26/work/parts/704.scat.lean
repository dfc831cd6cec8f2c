-- places, processed sums
def plc (x : Nat) : Nat := 169 * (x % 13) + 13 * (x / 13 % 13) + x / 169
theorem x13 (x : Nat) : x = x % 13 + 13 * (x / 13 % 13) + 169 * (x / 169) := by
  rw [d169]
  omega
theorem plc_lt {x : Nat} (h : x < 2197) : plc x < 2197 := by unfold plc; omega
theorem plc_abe {a b e : Nat} (ha : a < 13) (hb : b < 13) : (a + 13 * b + 169 * e) % 13 = a ∧ (a + 13 * b + 169 * e) / 13 % 13 = b ∧ (a + 13 * b + 169 * e) / 169 = e := by
  have e1 : (a + 13 * b + 169 * e) / 13 = b + 13 * e := by omega
  refine ⟨by omega, by rw [e1]; omega, ?_⟩
  rw [d169, e1]
  omega
theorem plc_at {a b e : Nat} (ha : a < 13) (hb : b < 13) : plc (a + 13 * b + 169 * e) = 169 * a + 13 * b + e := by
  obtain ⟨e1, e2, e3⟩ := plc_abe (e := e) ha hb
  unfold plc
  rw [e1, e2, e3]
theorem plc_inj {x y : Nat} (hx : x < 2197) (hy : y < 2197) (h : plc x = plc y) : x = y := by
  unfold plc at h
  have a := x13 x
  have b := x13 y
  have c1 : x / 13 % 13 < 13 := Nat.mod_lt _ (by decide)
  have c2 : y / 13 % 13 < 13 := Nat.mod_lt _ (by decide)
  have c3 : x / 169 < 13 := by omega
  have c4 : y / 169 < 13 := by omega
  generalize x / 13 % 13 = p at *
  generalize y / 13 % 13 = q at *
  omega
/-- any place is the place of a code -/
theorem plc_sur {p : Nat} (h : p < 2197) : ∃ x, x < 2197 ∧ plc x = p := by
  refine ⟨p / 169 + 13 * (p / 13 % 13) + 169 * (p % 13), ?_, ?_⟩
  · omega
  · rw [plc_at (by omega) (Nat.mod_lt _ (by decide))]
    have := x13 p
    omega
theorem plc_s {x k c : Nat} (h : dSum x ≤ k) (hk : k ≤ 11) (hc : c < 4) : plc (x + gmo c) = plc x + gstp c ∧ x + gmo c < 2197 := by
  unfold dSum at h
  have hx := x13 x
  rcases (show c = 0 ∨ c = 1 ∨ c = 2 ∨ c = 3 by omega) with rfl | rfl | rfl | rfl
  · obtain ⟨e1, e2, e3⟩ := dig0 (x := x) (by omega)
    rw [show gmo 0 = 1 from rfl, show gstp 0 = 169 from rfl]
    unfold plc
    rw [e1, e2, e3]
    omega
  · obtain ⟨e1, e2, e3⟩ := dig1 (x := x) (by omega)
    rw [show gmo 1 = 13 from rfl, show gstp 1 = 13 from rfl]
    unfold plc
    rw [e1, e2, e3]
    omega
  · obtain ⟨e1, e2, e3⟩ := dig2 x
    rw [show gmo 2 = 169 from rfl, show gstp 2 = 1 from rfl]
    unfold plc
    rw [e1, e2, e3]
    omega
  · rw [show gmo 3 = 0 from rfl, show gstp 3 = 0 from rfl]
    exact ⟨rfl, by omega⟩
noncomputable def sPr (φ : Nat → Nat) (Pr : Nat → Prop) : Nat := sN (fun x => gIf (Pr x) (φ x) 0) 2197
theorem sPr_e {φ : Nat → Nat} {Pr Pr' : Nat → Prop} (h : ∀ x, x < 2197 → ¬ φ x = 0 → (Pr x ↔ Pr' x)) : sPr φ Pr = sPr φ Pr' := by
  refine sN_c _ (fun x hx => ?_)
  by_cases z : φ x = 0
  · rw [z]
    by_cases p : Pr x <;> by_cases q : Pr' x
    · rw [gIf_t p, gIf_t q]
    · rw [gIf_t p, gIf_f q]
    · rw [gIf_f p, gIf_t q]
    · rw [gIf_f p, gIf_f q]
  · exact gIf_c (h x hx z) (fun _ => rfl) (fun _ => rfl)
theorem sPr_0 {φ : Nat → Nat} {Pr : Nat → Prop} (h : ∀ x, x < 2197 → ¬ Pr x) : sPr φ Pr = 0 := sN_z0 _ (fun x hx => gIf_f (h x hx))
theorem sPr_all {φ : Nat → Nat} {Pr : Nat → Prop} (h : ∀ x, x < 2197 → ¬ φ x = 0 → Pr x) : sPr φ Pr = sN φ 2197 := by
  refine sN_c _ (fun x hx => ?_)
  by_cases z : φ x = 0
  · rw [z]
    by_cases p : Pr x
    · rw [gIf_t p]
    · rw [gIf_f p]
  · exact gIf_t (h x hx z)
theorem sN_add1 {φ : Nat → Nat} {Pr Pr' : Nat → Prop} {x0 : Nat} (N : Nat) (hx : x0 < N) (h0 : ¬ Pr x0) (h : ∀ x, x < N → (Pr' x ↔ Pr x ∨ x = x0)) : sN (fun x => gIf (Pr' x) (φ x) 0) N = sN (fun x => gIf (Pr x) (φ x) 0) N + φ x0 := by
  have q := sN_one (φ := fun x => gIf (Pr x) (φ x) 0) (ψ := fun x => gIf (Pr' x) (φ x) 0) N hx (fun z hz hne => gIf_c ((h z hz).trans ⟨fun w => w.elim id (fun w => absurd w hne), Or.inl⟩) (fun _ => rfl) (fun _ => rfl))
  have q : sN (fun x => gIf (Pr' x) (φ x) 0) N + gIf (Pr x0) (φ x0) 0 = sN (fun x => gIf (Pr x) (φ x) 0) N + gIf (Pr' x0) (φ x0) 0 := q
  rw [gIf_f h0, gIf_t ((h x0 hx).mpr (Or.inr rfl))] at q
  exact q
theorem sPr_add {φ : Nat → Nat} {Pr Pr' : Nat → Prop} {x0 : Nat} (hx : x0 < 2197) (h0 : ¬ Pr x0) (h : ∀ x, x < 2197 → (Pr' x ↔ Pr x ∨ x = x0)) : sPr φ Pr' = sPr φ Pr + φ x0 := sN_add1 2197 hx h0 h
theorem sPr_le (φ : Nat → Nat) (Pr : Nat → Prop) : sPr φ Pr ≤ sN φ 2197 := sN_le _ (fun x _ => by
  by_cases p : Pr x
  · rw [gIf_t p]; exact Nat.le_refl _
  · rw [gIf_f p]; exact Nat.zero_le _)
/-- the class's order: by the first digit, the second, the third -/
def Lx (a b e x : Nat) : Prop := x % 13 < a ∨ (x % 13 = a ∧ (x / 13 % 13 < b ∨ (x / 13 % 13 = b ∧ x / 169 < e)))
theorem Lx_0 (x : Nat) : ¬ Lx 0 0 0 x := by unfold Lx; omega
theorem Lx_n {a b e : Nat} (ha : a < 13) (hb : b < 13) : ¬ Lx a b e (a + 13 * b + 169 * e) := by
  obtain ⟨e1, e2, e3⟩ := plc_abe (e := e) ha hb
  unfold Lx
  rw [e1, e2, e3]
  omega
theorem Lx_s {a b e : Nat} (ha : a < 13) (hb : b < 13) (x : Nat) : Lx a b (e + 1) x ↔ Lx a b e x ∨ x = a + 13 * b + 169 * e := by
  obtain ⟨e1, e2, e3⟩ := plc_abe (e := e) ha hb
  have q := x13 x
  unfold Lx
  constructor
  · intro h
    by_cases z : x % 13 = a ∧ x / 13 % 13 = b ∧ x / 169 = e
    · right
      rw [q, z.1, z.2.1, z.2.2]
    · left; omega
  · rintro (h | rfl)
    · omega
    · rw [e1, e2, e3]; omega
theorem Lx_b {a b e j x : Nat} (h : a + b + e = j + 1) (hx : dSum x ≤ j) : Lx a b e x ↔ Lx a (b + 1) 0 x := by
  unfold dSum at hx
  unfold Lx
  omega
theorem Lx_a {a b j x : Nat} (h : a + b = j + 1) (hx : dSum x ≤ j) : Lx a b 0 x ↔ Lx (a + 1) 0 0 x := by
  unfold dSum at hx
  unfold Lx
  omega
theorem Lx_e {j x : Nat} (hx : dSum x ≤ j) : Lx (j + 1) 0 0 x := by
  unfold dSum at hx
  unfold Lx
  omega
-- what one state sends
noncomputable def wX (wg : Bool) (f t : Nat → Int32) (al : Nat → Nat → Prop) (W : Nat → Nat) (k y x : Nat) : Nat := sN (fun c => gIf (x + gmo c = y ∧ xGo f t al k x c) (W x * xK wg f t k x c) 0) 4
noncomputable def eX (wg : Bool) (f t : Nat → Int32) (al : Nat → Nat → Prop) (W : Nat → Nat) (k x : Nat) : Nat := W x * (sC wg f t al k x 0 + sC wg f t al k x 1 + sC wg f t al k x 2 + sC wg f t al k x 3)
theorem sN4 (φ : Nat → Nat) : sN φ 4 = φ 0 + φ 1 + φ 2 + φ 3 := by
  show 0 + φ 0 + φ 1 + φ 2 + φ 3 = _
  omega
theorem wS_4 (wg : Bool) (f t : Nat → Int32) (al : Nat → Nat → Prop) (W : Nat → Nat) (k y x c : Nat) (hc : c < 4) : wS wg f t al W k y (4 * x + c) = gIf (x + gmo c = y ∧ xGo f t al k x c) (W x * xK wg f t k x c) 0 := by
  unfold wS
  rw [show (4 * x + c) / 4 = x by omega, show (4 * x + c) % 4 = c by omega]
theorem wW_x (wg : Bool) (f t : Nat → Int32) (al : Nat → Nat → Prop) (k y : Nat) : wW wg f t al (k + 1) y = sN (wX wg f t al (wW wg f t al k) k y) 2197 := by
  rw [wW_s, show 8788 = 4 * 2197 from rfl, sN_4]
  refine sN_c _ (fun x _ => ?_)
  unfold wX
  rw [sN4]
  have e0 := wS_4 wg f t al (wW wg f t al k) k y x 0 (by omega)
  rw [Nat.add_zero] at e0
  rw [e0, wS_4 _ _ _ _ _ _ _ _ 1 (by omega), wS_4 _ _ _ _ _ _ _ _ 2 (by omega), wS_4 _ _ _ _ _ _ _ _ 3 (by omega)]
theorem sS_x (wg : Bool) (f t : Nat → Int32) (al : Nat → Nat → Prop) (W : Nat → Nat) (k : Nat) : sN (sS wg f t al W k) 8788 = sN (eX wg f t al W k) 2197 := sS_tot wg f t al W k
theorem wX_0 {wg : Bool} {f t : Nat → Int32} {al : Nat → Nat → Prop} {W : Nat → Nat} {k x : Nat} (h : W x = 0) (y : Nat) : wX wg f t al W k y x = 0 := sN_z0 _ (fun c _ => by
  rw [h, Nat.zero_mul]
  by_cases p : x + gmo c = y ∧ xGo f t al k x c
  · rw [gIf_t p]
  · rw [gIf_f p])
theorem eX_0 {wg : Bool} {f t : Nat → Int32} {al : Nat → Nat → Prop} {W : Nat → Nat} {k x : Nat} (h : W x = 0) : eX wg f t al W k x = 0 := by unfold eX; rw [h, Nat.zero_mul]
-- sending, colour by colour
noncomputable def qX (wg : Bool) (f t : Nat → Int32) (al : Nat → Nat → Prop) (w k y x c : Nat) : Nat := sN (fun c => gIf (x + gmo c = y ∧ xGo f t al k x c) (w * xK wg f t k x c) 0) c
noncomputable def qE (wg : Bool) (f t : Nat → Int32) (al : Nat → Nat → Prop) (w k x c : Nat) : Nat := sN (fun c => gIf (sSt f t al k x c) (w * xK wg f t k x c) 0) c
theorem uG_uG (σ : GS) (k : Nat) (x y : Int64) : uG (uG σ k x) k y = uG σ k y := by
  unfold uG
  refine Prod.ext rfl (Prod.ext rfl (Prod.ext rfl (Prod.ext (funext fun j => ?_) rfl)))
  by_cases h : j = k <;> simp [va_up, h]
theorem uL_uG (σ : GS) (k a : Nat) (x : Int64) (f : Nat → Int64) : uL (uG σ k x) a f = uG (uL σ a f) k x := rfl
theorem lN_0 : lN 0 = 0 := rfl
theorem l_az (x : Int64) : x + lN 0 = x := Int64.add_zero x
theorem nx_no {wg : Bool} {f t : Nat → Int32} {al : Nat → Nat → Prop} {w k x c : Nat} {N M : Nat → Int64} (h : ∀ y, y < 2197 → N (plc y) = M (plc y) + lN (qX wg f t al w k y x c)) (hg : ¬ xGo f t al k x c) (y : Nat) (hy : y < 2197) : N (plc y) = M (plc y) + lN (qX wg f t al w k y x (c + 1)) := by
  rw [h y hy]
  show _ = M (plc y) + lN (qX wg f t al w k y x c + gIf (x + gmo c = y ∧ xGo f t al k x c) (w * xK wg f t k x c) 0)
  rw [gIf_f (fun q => hg q.2), Nat.add_zero]
theorem nx_yes {wg : Bool} {f t : Nat → Int32} {al : Nat → Nat → Prop} {w k x c : Nat} {N M : Nat → Int64} (h : ∀ y, y < 2197 → N (plc y) = M (plc y) + lN (qX wg f t al w k y x c)) (hg : xGo f t al k x c) (hd : dSum x ≤ k) (hk : k ≤ 11) (hc : c < 4) (y : Nat) (hy : y < 2197) : vp_updL N (plc x + gstp c) (N (plc x + gstp c) + lN (w * xK wg f t k x c)) (plc y) = M (plc y) + lN (qX wg f t al w k y x (c + 1)) := by
  obtain ⟨p1, p2⟩ := plc_s hd hk hc
  show _ = M (plc y) + lN (qX wg f t al w k y x c + gIf (x + gmo c = y ∧ xGo f t al k x c) (w * xK wg f t k x c) 0)
  unfold vp_updL
  rw [← p1]
  by_cases e : plc y = plc (x + gmo c)
  · have e2 : y = x + gmo c := plc_inj hy p2 e
    subst e2
    rw [if_pos rfl, gIf_t ⟨rfl, hg⟩, h _ hy, Int64.add_assoc, lN_add]
  · rw [if_neg e, gIf_f (fun q => e (by rw [q.1])), Nat.add_zero, h y hy]
theorem en_no {wg : Bool} {f t : Nat → Int32} {al : Nat → Nat → Prop} {w k x c : Nat} {e g : Int64} (h : e = g + lN (qE wg f t al w k x c)) (hs : ¬ sSt f t al k x c) : e = g + lN (qE wg f t al w k x (c + 1)) := by
  rw [h]
  show _ = g + lN (qE wg f t al w k x c + gIf (sSt f t al k x c) (w * xK wg f t k x c) 0)
  rw [gIf_f hs, Nat.add_zero]
theorem en_yes {wg : Bool} {f t : Nat → Int32} {al : Nat → Nat → Prop} {w k x c : Nat} {e g : Int64} (h : e = g + lN (qE wg f t al w k x c)) (hs : sSt f t al k x c) : e + lN (w * xK wg f t k x c) = g + lN (qE wg f t al w k x (c + 1)) := by
  rw [h]
  show _ = g + lN (qE wg f t al w k x c + gIf (sSt f t al k x c) (w * xK wg f t k x c) 0)
  rw [gIf_t hs, Int64.add_assoc, lN_add]
theorem sN_ext {φ : Nat → Nat} {n : Nat} (hn : n ≤ 4) (h : ∀ c, c < 4 → n ≤ c → φ c = 0) : sN φ n = sN φ 4 := by
  rw [sN4]
  rcases (show n = 0 ∨ n = 1 ∨ n = 2 ∨ n = 3 ∨ n = 4 by omega) with rfl | rfl | rfl | rfl | rfl
  · rw [h 0 (by omega) (by omega), h 1 (by omega) (by omega), h 2 (by omega) (by omega), h 3 (by omega) (by omega)]; rfl
  · rw [h 1 (by omega) (by omega), h 2 (by omega) (by omega), h 3 (by omega) (by omega)]; show 0 + φ 0 = _; omega
  · rw [h 2 (by omega) (by omega), h 3 (by omega) (by omega)]; show 0 + φ 0 + φ 1 = _; omega
  · rw [h 3 (by omega) (by omega)]; show 0 + φ 0 + φ 1 + φ 2 = _; omega
  · exact sN4 φ
theorem xNo {f t : Nat → Int32} {al : Nat → Nat → Prop} {k x c : Nat} (h : ¬ 0 < xB f t k x c) : ¬ xGo f t al k x c ∧ ¬ sSt f t al k x c := ⟨fun q => h q.1.1, fun q => h q.1.1⟩
theorem xNa {f t : Nat → Int32} {al : Nat → Nat → Prop} {k x c : Nat} (h : ¬ al k c) : ¬ xGo f t al k x c ∧ ¬ sSt f t al k x c := ⟨fun q => h q.2, fun q => h q.2⟩
theorem qX_n {wg : Bool} {f t : Nat → Int32} {al : Nat → Nat → Prop} {w k y x n : Nat} (hok : xOk f t n k x) (hn : n ≤ 4) : qX wg f t al w k y x n = qX wg f t al w k y x 4 :=
  sN_ext hn (fun c hc h => gIf_f (fun q => (xNo (al := al) (by rw [hok.2.2.2 c hc h]; decide)).1 q.2))
theorem qE_n {wg : Bool} {f t : Nat → Int32} {al : Nat → Nat → Prop} {w k x n : Nat} (hok : xOk f t n k x) (hn : n ≤ 4) : qE wg f t al w k x n = qE wg f t al w k x 4 :=
  sN_ext hn (fun c hc h => gIf_f (fun q => (xNo (al := al) (by rw [hok.2.2.2 c hc h]; decide)).2 q))
theorem qX_W {wg : Bool} {f t : Nat → Int32} {al : Nat → Nat → Prop} {W : Nat → Nat} {w k y x : Nat} (h : W x = w) : qX wg f t al w k y x 4 = wX wg f t al W k y x := by unfold qX wX; rw [h]
theorem gIf_mul {P : Prop} (w a : Nat) : gIf P (w * a) 0 = w * gIf P a 0 := by
  by_cases p : P
  · rw [gIf_t p, gIf_t p]
  · rw [gIf_f p, gIf_f p, Nat.mul_zero]
theorem qE_W {wg : Bool} {f t : Nat → Int32} {al : Nat → Nat → Prop} {W : Nat → Nat} {w k x : Nat} (h : W x = w) (hz : ¬ xT f t k x = 0) : qE wg f t al w k x 4 = eX wg f t al W k x := by
  unfold qE eX sC
  rw [sN4, h, gIf_f hz, gIf_f hz, gIf_f hz, gIf_f hz, Nat.mul_add, Nat.mul_add, Nat.mul_add, gIf_mul, gIf_mul, gIf_mul, gIf_mul]
theorem eX_z {wg : Bool} {f t : Nat → Int32} {al : Nat → Nat → Prop} {W : Nat → Nat} {k x : Nat} (hz : xT f t k x = 0) : eX wg f t al W k x = W x := by
  unfold eX sC
  rw [gIf_t hz, gIf_t hz, gIf_t hz, gIf_t hz]
  show W x * (1 + 0 + 0 + 0) = W x
  omega
theorem qX_z {wg : Bool} {f t : Nat → Int32} {al : Nat → Nat → Prop} {w k y x n : Nat} (hok : xOk f t n k x) (hz : xT f t k x = 0) : qX wg f t al w k y x 4 = 0 := by
  have i := xT_i hok
  have e0 : (xT f t k x).toInt = 0 := by rw [hz]; rfl
  have p : ∀ c, c < 4 → ¬ 0 < xB f t k x c := by
    intro c hc g
    rw [Int32.lt_iff_toInt_lt] at g
    have e2 : (0 : Int32).toInt = 0 := by decide
    rcases (show c = 0 ∨ c = 1 ∨ c = 2 ∨ c = 3 by omega) with rfl | rfl | rfl | rfl <;> omega
  exact sN_z0 _ (fun c hc => gIf_f (fun q => (xNo (al := al) (p c hc)).1 q.2))
theorem xC_let {s : GS} {v : GV} (K : KC s v) (R : RV v) {u k x c : Nat} (hu : u < 8) (hc : c < 4) (hok : xOk (bS (vS v) u) (tS (vS v) u) (vC v u) k x) (hb : ∀ d, d < 4 → gI s 49 d = xB (bS (vS v) u) (tS (vS v) u) k x d) : gLet (gI s 49) (gI s (8 + u)) c (vC v u) ↔ gLet (xB (bS (vS v) u) (tS (vS v) u) k x) (tS (vS v) u) c 4 :=
  (gLet_e hb (fun d hd => KC_t K hu hd) hc (RV_n R hu)).trans (gLet_n (RV_n R hu) (fun d hd h => ⟨hok.2.2.2 d hd h, (R.2.2.1.2.1 u hu c hc d hd).2 (Or.inr h)⟩))
theorem xB_n {f t : Nat → Int32} {n k x c : Nat} (hok : xOk f t n k x) (hc : c < 4) : xB f t k x c = nI (xB f t k x c).toInt.toNat ∧ (xB f t k x c).toInt.toNat ≤ 200 ∧ (¬ xB f t k x c = 0 ↔ 0 < xB f t k x c) := by
  have q := hok.2.2.1 c hc
  have q1 := q.1
  have q2 := q.2
  rw [Int32.le_iff_toInt_le] at q1 q2
  have e0 : (0 : Int32).toInt = 0 := by decide
  have e2 : (200 : Int32).toInt = 200 := by decide
  rw [e0] at q1
  rw [e2] at q2
  refine ⟨nIn _ q1, by omega, ?_⟩
  rw [Int32.lt_iff_toInt_lt, e0]
  constructor
  · intro h
    have : ¬ (xB f t k x c).toInt = 0 := fun z => h (Int32.toInt_inj.mp z)
    omega
  · intro h z
    rw [z, e0] at h
    exact absurd h (by decide)
