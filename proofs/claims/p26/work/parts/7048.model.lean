-- the reference's walk: its frame, its rows of weights
def gSq (σ σ' : GS) : Prop := (∀ q, ¬ (q = 58 ∨ q = 59) → gI σ' q = gI σ q) ∧ (∀ q, ¬ q = 14 → gL σ' q = gL σ q) ∧ (∀ q, gN σ' q = gN σ q) ∧ (∀ q, ¬ q = 16 → gG σ' q = gG σ q) ∧ gP σ' = gP σ
theorem gSq_r (σ : GS) : gSq σ σ := ⟨fun _ _ => rfl, fun _ _ => rfl, fun _ => rfl, fun _ _ => rfl, rfl⟩
theorem gSq_t {a b c : GS} (h : gSq a b) (k : gSq b c) : gSq a c := ⟨fun q hq => (k.1 q hq).trans (h.1 q hq), fun q hq => (k.2.1 q hq).trans (h.2.1 q hq), fun q => (k.2.2.1 q).trans (h.2.2.1 q), fun q hq => (k.2.2.2.1 q hq).trans (h.2.2.2.1 q hq), k.2.2.2.2.trans h.2.2.2.2⟩
theorem gSq_I {a s : GS} {k : Nat} {f : Nat → Int32} (hk : k = 58 ∨ k = 59) (h : gSq a s) : gSq a (uI s k f) := ⟨fun q hq => by rw [gI_uI, if_neg (show ¬ q = k by omega)]; exact h.1 q hq, h.2.1, h.2.2.1, h.2.2.2⟩
theorem gSq_L {a s : GS} {k : Nat} {f : Nat → Int64} (hk : k = 14) (h : gSq a s) : gSq a (uL s k f) := ⟨h.1, fun q hq => by rw [gL_uL, if_neg (show ¬ q = k by omega)]; exact h.2.1 q hq, h.2.2.1, h.2.2.2⟩
theorem gSq_G {a s : GS} {k : Nat} {v : Int64} (hk : k = 16) (h : gSq a s) : gSq a (uG s k v) := ⟨h.1, h.2.1, h.2.2.1, fun q hq => by rw [gG_uG, if_neg (show ¬ q = k by omega)]; exact h.2.2.2.1 q hq, h.2.2.2.2⟩
theorem gSq.n {a b : GS} (h : gSq a b) : gSn a b := ⟨fun q hq => h.1 q (by omega), fun q hq => h.2.1 q (by omega), fun q _ => h.2.2.1 q, fun q hq => h.2.2.2.1 q (by omega), fun z => by rw [h.2.2.2.1 12 (by omega)]; exact z, h.2.2.2.2⟩
theorem KM_sq {a b : GS} {v : GV} (F : gSq a b) (K : KM a v) : KM b v := KM_sn F.n K
theorem MF_q {a b : GS} {F : GF} (h : gSq a b) (E : MF a F) : MF b F := MF_e (fun q _ _ => h.2.2.2.1 q (by omega)) E
theorem dof3 {f : Nat → Int32} {p k c : Nat} (hd : dSum p ≤ k) (hc : c < 4) : upd (upd (upd (upd f 0 (nI (p % 13))) 1 (nI (p / 13 % 13))) 2 (nI (p / 169))) 3 (nI k - nI (p % 13) - nI (p / 13 % 13) - nI (p / 169)) c = nI (d3 k p c) := by
  unfold dSum at hd
  unfold d3
  rcases (show c = 0 ∨ c = 1 ∨ c = 2 ∨ c = 3 by omega) with rfl | rfl | rfl | rfl
  · rfl
  · rfl
  · rfl
  · show nI k - nI (p % 13) - nI (p / 13 % 13) - nI (p / 169) = nI (k - (p % 13 + p / 13 % 13 + p / 169))
    rw [pk_sub (by omega), pk_sub (by omega), pk_sub (by omega)]
    exact congrArg nI (by omega)
def gAl (f t : Nat → Int32) (c n : Nat) : Prop := ∀ d, d < n → 0 ≤ f d + t (c * 4 + d) ∧ f d + t (c * 4 + d) ≤ 200
theorem gAl_0 (f t : Nat → Int32) (c : Nat) : gAl f t c 0 := fun _ h => absurd h (Nat.not_lt_zero _)
theorem gAl_s {f t : Nat → Int32} {c d : Nat} : gAl f t c (d + 1) ↔ gAl f t c d ∧ (0 ≤ f d + t (c * 4 + d) ∧ f d + t (c * 4 + d) ≤ 200) := by
  refine ⟨fun h => ⟨fun e he => h e (by omega), h d (by omega)⟩, fun h e he => ?_⟩
  rcases Nat.lt_succ_iff_lt_or_eq.mp he with q | q
  · exact h.1 e q
  · rw [q]; exact h.2
theorem gmo_13 {x k c : Nat} (h : dSum x ≤ k) (hk : k ≤ 11) (hc : c < 4) : x + gmo c < 2197 := (plc_s h hk hc).2
theorem mx_no {wg : Bool} {f t : Nat → Int32} {al : Nat → Nat → Prop} {w k x c A : Nat} {N M : Nat → Int64} (h : ∀ y, y < 2197 → N (A + y) = M (A + y) + lN (qX wg f t al w k y x c)) (hg : ¬ xGo f t al k x c) (y : Nat) (hy : y < 2197) : N (A + y) = M (A + y) + lN (qX wg f t al w k y x (c + 1)) := by
  rw [h y hy]
  show _ = M (A + y) + lN (qX wg f t al w k y x c + gIf (x + gmo c = y ∧ xGo f t al k x c) (w * xK wg f t k x c) 0)
  rw [gIf_f (fun q => hg q.2), Nat.add_zero]
theorem mx_yes {wg : Bool} {f t : Nat → Int32} {al : Nat → Nat → Prop} {w k x c A : Nat} {N M : Nat → Int64} (h : ∀ y, y < 2197 → N (A + y) = M (A + y) + lN (qX wg f t al w k y x c)) (hg : xGo f t al k x c) (hd : dSum x ≤ k) (hk : k ≤ 11) (hc : c < 4) (y : Nat) (hy : y < 2197) : vp_updL N (A + (x + gmo c)) (N (A + (x + gmo c)) + lN (w * xK wg f t k x c)) (A + y) = M (A + y) + lN (qX wg f t al w k y x (c + 1)) := by
  have p2 := gmo_13 hd hk hc
  show _ = M (A + y) + lN (qX wg f t al w k y x c + gIf (x + gmo c = y ∧ xGo f t al k x c) (w * xK wg f t k x c) 0)
  unfold vp_updL
  by_cases e : A + y = A + (x + gmo c)
  · have e2 : y = x + gmo c := by omega
    subst e2
    rw [if_pos rfl, gIf_t ⟨rfl, hg⟩, h _ hy, Int64.add_assoc, lN_add]
  · rw [if_neg e, gIf_f (fun q => e (by rw [q.1])), Nat.add_zero, h y hy]
theorem mx_off {k i : Nat} {N M : Nat → Int64} {z : Int64} (h : ∀ y, y < 2197 → N (2197 * (k % 2) + y) = M (2197 * (k % 2) + y)) (hi : i < 2197) (y : Nat) (hy : y < 2197) : vp_updL N (2197 * ((k + 1) % 2) + i) z (2197 * (k % 2) + y) = M (2197 * (k % 2) + y) := by
  rw [← h y hy]
  exact pk_uLn (by omega)
theorem me_no {wg : Bool} {f t : Nat → Int32} {al : Nat → Nat → Prop} {w k x c : Nat} {e g r : Int64} (h : e = g + lN (qE wg f t al w k x c) * r) (hs : ¬ sSt f t al k x c) : e = g + lN (qE wg f t al w k x (c + 1)) * r := by
  rw [h]
  show _ = g + lN (qE wg f t al w k x c + gIf (sSt f t al k x c) (w * xK wg f t k x c) 0) * r
  rw [gIf_f hs, Nat.add_zero]
theorem me_yes {wg : Bool} {f t : Nat → Int32} {al : Nat → Nat → Prop} {w k x c : Nat} {e g r : Int64} (h : e = g + lN (qE wg f t al w k x c) * r) (hs : sSt f t al k x c) : e + lN (w * xK wg f t k x c) * r = g + lN (qE wg f t al w k x (c + 1)) * r := by
  rw [h]
  show _ = g + lN (qE wg f t al w k x c + gIf (sSt f t al k x c) (w * xK wg f t k x c) 0) * r
  rw [gIf_t hs, ← lN_add, Int64.add_mul, Int64.add_assoc]
/-- the factors that are still to come -/
def dR (T s : Int) (r : Nat) : Nat → Nat
  | 0 => 1
  | m + 1 => dF T s r * dR T s (r + 1) m
theorem dR_D (T s : Int) : ∀ m r, dD T s r * dR T s r m = dD T s (r + m)
  | 0, r => Nat.mul_one _
  | m + 1, r => by
    show dD T s r * (dF T s r * dR T s (r + 1) m) = _
    rw [← Nat.mul_assoc, show dD T s r * dF T s r = dD T s (r + 1) from rfl, dR_D T s m (r + 1)]
    exact congrArg _ (by omega)
theorem dR_1 (T s : Int) : ∀ m r, 1 ≤ dR T s r m
  | 0, _ => Nat.le_refl _
  | m + 1, r => Nat.mul_pos (dF_1 T s r) (dR_1 T s m (r + 1))
theorem dR_le (T s : Int) (r m : Nat) : dR T s r m ≤ dD T s (r + m) := by
  rw [← dR_D T s m r]
  exact Nat.le_mul_of_pos_left _ (dD_1 T s r)
theorem dR_0 (T s : Int) (k : Nat) : dR T s 0 k = dD T s k := by
  have h := dR_D T s k 0
  rw [show dD T s 0 = 1 from rfl, Nat.one_mul, Nat.zero_add] at h
  exact h
theorem dR_d {T s : Int} {r m : Nat} : dR T s r (m + 1) / dF T s r = dR T s (r + 1) m := Nat.mul_div_cancel_left _ (dF_1 T s r)
def Lq (q x : Nat) : Prop := x < q
theorem Lq_s {φ : Nat → Nat} {q : Nat} (h : q < 2197) : sPr φ (Lq (q + 1)) = sPr φ (Lq q) + φ q := sPr_add h (Nat.lt_irrefl q) (fun x _ => Nat.lt_succ_iff_lt_or_eq)
theorem Lq_0 {φ : Nat → Nat} : sPr φ (Lq 0) = 0 := sPr_0 (fun x _ => Nat.not_lt_zero x)
theorem Lq_e {φ : Nat → Nat} : sPr φ (Lq 2197) = sN φ 2197 := sPr_all (fun x h _ => h)
theorem Lq_z {φ : Nat → Nat} {q : Nat} (h : q < 2197) (h0 : φ q = 0) : sPr φ (Lq (q + 1)) = sPr φ (Lq q) := by rw [Lq_s h, h0, Nat.add_zero]
theorem lN_pos {n : Nat} (h : n < 9223372036854775808) : ¬ lN n ≤ 0 → ¬ n = 0 := fun q z => q ((lN_le0 h).mpr z)
theorem uL_M {σ : GS} {N N' : Nat → Int64} {e : Int64} : uL (uG (uL σ 14 N) 16 e) 14 N' = uG (uL σ 14 N') 16 e := by
  show uG (uL (uL σ 14 N) 14 N') 16 e = _
  rw [uL_uL]
theorem lN_mulr {w : Nat} {e r : Int64} : e + lN w * r = e + lN w * r := rfl
theorem gG_uGs (σ : GS) (k : Nat) (x : Int64) : gG (uG σ k x) k = x := if_pos rfl
theorem tt_z {v : GV} (R : RV v) {u : Nat} (hu : u < 8) (he : gEv4 (tS (vS v) u) (vC v u)) {r x : Nat} (hr : r ≤ 12) (hok : xOk (bS (vS v) u) (tS (vS v) u) (vC v u) r x) : (sumS (vS v) u).toInt64 + (nI r).toInt64 * (gGr (tS (vS v) u) 0 4).toInt64 ≤ 0 ↔ xT (bS (vS v) u) (tS (vS v) u) r x = 0 := by
  have e := mzk (vT_b R hu) (vG_b R hu) hr
  have h1 := xT_f hok he (VS_B2 R.2.2.1 hu) (VS_9 R.2.2.1 hu) hr
  have h2 := xT_i hok
  have h1 : (xT (bS (vS v) u) (tS (vS v) u) r x).toInt = (sumS (vS v) u).toInt + (r : Int) * (gGr (tS (vS v) u) 0 4).toInt := h1
  have z0 : (0 : Int64).toInt = 0 := by decide
  have z1 : (0 : Int32).toInt = 0 := by decide
  rw [Int64.le_iff_toInt_le, e, z0]
  exact ⟨fun h => Int32.toInt_inj.mp (by omega), fun h => by rw [h, z1] at h1; omega⟩
theorem dF_one {T s : Int} {r : Nat} (h : dD T s (r + 1) = dD T s r) : dF T s r = 1 := Nat.eq_of_mul_eq_mul_left (dD_1 T s r) (h.trans (Nat.mul_one _).symm)
theorem RR_s {T s : Int} {r k : Nat} (h : r < k) : dR T s r (k - r) = dF T s r * dR T s (r + 1) (k - (r + 1)) := by
  rw [show k - r = (k - (r + 1)) + 1 by omega]
  rfl
theorem RR_y {v : GV} {u r k : Nat} {y : Int64} (h : r < k) (hk : k ≤ 12) (hb : dR (vT v u) (vG v u) r (k - r) < 9223372036854775808) (hT : 0 ≤ vT v u ∧ vT v u ≤ 800) (hG : -36 ≤ vG v u ∧ vG v u ≤ 36) (c : ¬ (sumS (vS v) u).toInt64 + (nI r).toInt64 * (gGr (tS (vS v) u) 0 4).toInt64 ≤ 0) (hy : y = lN (dR (vT v u) (vG v u) r (k - r)) / ((sumS (vS v) u).toInt64 + (nI r).toInt64 * (gGr (tS (vS v) u) 0 4).toInt64)) : y = lN (dR (vT v u) (vG v u) (r + 1) (k - (r + 1))) := by
  have f2 : dF (sumS (vS v) u).toInt (gGr (tS (vS v) u) 0 4).toInt r ≤ 1232 := dF_2 hT hG (show r ≤ 12 by omega)
  have e := mfac_p hT hG (show r ≤ 12 by omega) c
  rw [hy, e, pk_lDiv hb (dF_1 _ _ _) (by omega), RR_s h]
  exact congrArg lN (Nat.mul_div_cancel_left _ (dF_1 _ _ _))
theorem RR_n {v : GV} {u r k : Nat} (h : r < k) (hk : k ≤ 12) (hT : 0 ≤ vT v u ∧ vT v u ≤ 800) (hG : -36 ≤ vG v u ∧ vG v u ≤ 36) (c : (sumS (vS v) u).toInt64 + (nI r).toInt64 * (gGr (tS (vS v) u) 0 4).toInt64 ≤ 0) : lN (dR (vT v u) (vG v u) r (k - r)) = lN (dR (vT v u) (vG v u) (r + 1) (k - (r + 1))) := by
  have e : dF (vT v u) (vG v u) r = 1 := dF_one (mfac_n hT hG (show r ≤ 12 by omega) c)
  rw [RR_s h, e, Nat.one_mul]
theorem mw_0 {wg : Bool} {f t : Nat → Int32} {al : Nat → Nat → Prop} {g : Nat → Int64} (h : ∀ z, z < 4394 → g z = 0) (y : Nat) (hy : y < 2197) : vp_updL g 0 1 (2197 * (0 % 2) + y) = lN (wW wg f t al 0 y) := by
  rw [show 2197 * (0 % 2) + y = y by omega]
  show _ = lN (if y = 0 then 1 else 0)
  unfold vp_updL
  by_cases e : y = 0
  · rw [if_pos e, if_pos e]; rfl
  · rw [if_neg e, if_neg e, h y (by omega)]; rfl
theorem wE_R {f t : Nat → Int32} {T s : Int} {r k : Nat} (h : r < k) : wE f t alA T s r * dR T s r (k - r) + sN (eX true f t alA (wW true f t alA r) r) 2197 * dR T s (r + 1) (k - (r + 1)) = wE f t alA T s (r + 1) * dR T s (r + 1) (k - (r + 1)) := by
  rw [RR_s h, ← Nat.mul_assoc, ← Nat.add_mul, ← sS_x]
  rfl
