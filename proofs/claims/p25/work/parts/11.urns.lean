-- the urns' words
def gsum (f : Nat → Int32) : Nat → Int32
  | 0 => 0
  | n + 1 => gsum f n + f n
def gGr (t : Nat → Int32) (c n : Nat) : Int32 := gsum (fun d => t (c * 4 + d)) n
def gEv (t : Nat → Int32) (n : Nat) : Prop := ∀ c, 1 ≤ c → c < n → gGr t c n = gGr t 0 n
def gLk (t : Nat → Int32) (n : Nat) : Prop := (∀ c, c < n → ∀ d, d < n → t (c * 4 + d) = if c = d then t 0 else 0) ∧ 0 ≤ t 0
def gLet (f t : Nat → Int32) (c n : Nat) : Prop := 0 < f c ∧ ∀ d, d < n → 0 ≤ f d + t (c * 4 + d) ∧ f d + t (c * 4 + d) ≤ 200
def gGw (f t : Nat → Int32) (c n : Nat) : Nat → Int32 := fun d => if d < n then f d + t (c * 4 + d) else f d
theorem gGw_0 (f t : Nat → Int32) (c : Nat) : gGw f t c 0 = f := by
  funext d
  exact if_neg (by omega)
theorem gGw_s (f t : Nat → Int32) (c k : Nat) : upd (gGw f t c k) k (gGw f t c k k + t (c * 4 + k)) = gGw f t c (k + 1) := by
  funext d
  by_cases h : d = k
  · subst h
    rw [pk_us]
    unfold gGw
    rw [if_neg (by omega), if_pos (by omega)]
  · rw [pk_un h]
    unfold gGw
    by_cases h2 : d < k
    · rw [if_pos h2, if_pos (by omega)]
    · rw [if_neg h2, if_neg (by omega)]
/-- an urn's part of a kept row -/
def uRow (σ : GS) (u j : Nat) : Int32 := if j < 4 then gI σ u j else if j < 20 then gI σ (8 + u) (j - 4) else if j < 24 then gI σ (16 + u) (j - 20) else gN σ (22 + u)
/-- what a kept row holds of the class -/
def cS (σ : GS) (j : Nat) : Int32 := if j < 200 then uRow σ (j / 25) (j % 25) else gN σ 1
theorem cS_at (σ : GS) {u i : Nat} (hu : u < 8) (hi : i < 25) : cS σ (25 * u + i) = uRow σ u i := by
  unfold cS
  rw [if_pos (by omega), show (25 * u + i) / 25 = u by omega, show (25 * u + i) % 25 = i by omega]
def gDig (w i : Nat) : Nat := w / 4 ^ i % 4
theorem gDig_rem {w : Nat} (h : w < 2147483648) : nI w - nI w / 4 * 4 = nI (w % 4) := by
  rw [show (4 : Int32) = nI 4 from rfl]
  exact pk_rem h (by decide) (by decide)
theorem gDig_div {w : Nat} (h : w < 2147483648) : nI w / 4 = nI (w / 4) := by
  rw [show (4 : Int32) = nI 4 from rfl]
  exact pk_div h (by decide) (by decide)
theorem gpow (w i : Nat) : w / 4 ^ i / 4 = w / 4 ^ (i + 1) := by rw [Nat.div_div_eq_div_mul, Nat.pow_succ]
theorem gpowle (w i : Nat) : w / 4 ^ i ≤ w := Nat.div_le_self _ _
section GCN
variable {Γ : GX} {δ : GD} {σ : GS} {cc : ByteArray} {own : String} {nL fr lo pc : Nat} {lv : List (Option Value)} {st : List Value}
theorem g_copyIN (C : gC Γ δ cc own nL fr lo) {index : Nat} {sp dp n : Int32} {b0 b1 a' b' c' q0 q1 : Nat} (d : decode cc pc = .ok (.invokestatic index, 3)) (w : Cond.methodLink own index arraycopyName ∈ gWs) (w1 : Cond.native arraycopyName ∈ gWs) (w2 : Cond.static arraycopyName ∈ gWs) (w3 : Cond.initialized "java/lang/System" ∈ gWs)
    (h0 : q0 < 60) (h1 : q1 < 60) (hb0 : b0 = δ.2.2.1 (22 + q0)) (hb1 : b1 = δ.2.2.1 (22 + q1)) (hlv : lv.length = nL) (hsp : sp = nI a') (hdp : dp = nI b') (hn : n = nI c') (h4 : a' + c' ≤ gLenI q0) (h5 : b' + c' ≤ gLenI q1) (hfr : 1 ≤ fr) (hlo : (st.map fun v => v.category).sum + (nativeFrameWords "java/lang/System" "arraycopy" 5 + 11) ≤ lo)
    (k : gW Γ δ (uI σ q1 (va_cpy (gI σ q0) (gI σ q1) a' b' c')) (pc + 3) lv st) : gW Γ δ σ pc lv (.int n :: .int dp :: .ref b1 :: .int sp :: .ref b0 :: st) := by
  have l0 := gLenI_s q0 h0
  have l1 := gLenI_s q1 h1
  subst hsp
  subst hdp
  subst hn
  have ea : (nI a').toNatClampNeg = a' := nI_clamp (by omega)
  have eb : (nI b').toNatClampNeg = b' := nI_clamp (by omega)
  have ec : (nI c').toNatClampNeg = c' := nI_clamp (by omega)
  refine g_copyI C q0 q1 d w w1 w2 w3 h0 h1 hb0 hb1 hlv (nI_pos (by omega)) (nI_pos (by omega)) (nI_pos (by omega)) (by rw [ea, ec]; exact h4) (by rw [eb, ec]; exact h5) hfr hlo ?_
  rw [ea, eb, ec]
  exact k
end GCN
theorem cpy_lo {α : Type} {f g : Nat → α} {a b n j : Nat} (h1 : b ≤ j) (h2 : j < b + n) : va_cpy f g a b n j = f (a + (j - b)) := if_pos ⟨h1, h2⟩
theorem cpy_out {α : Type} {f g : Nat → α} {a b n j : Nat} (h : j < b ∨ b + n ≤ j) : va_cpy f g a b n j = g j := if_neg (by omega)
/-- a row with an urn laid into it at place b -/
def gLay (σ : GS) (u b : Nat) (f : Nat → Int32) : Nat → Int32 := upd (va_cpy (gI σ (16 + u)) (va_cpy (gI σ (8 + u)) (va_cpy (gI σ u) f 0 b 4) 0 (b + 4) 16) 0 (b + 4 + 16) 4) (b + 24) (gN σ (22 + u))
theorem gLay_in (σ : GS) (u b : Nat) (f : Nat → Int32) {i : Nat} (h : i < 25) : gLay σ u b f (b + i) = uRow σ u i := by
  unfold gLay uRow
  by_cases h24 : i = 24
  · subst h24
    rw [pk_us, if_neg (by omega), if_neg (by omega), if_neg (by omega)]
  · rw [pk_un (by omega)]
    by_cases h20 : 20 ≤ i
    · rw [cpy_lo (by omega) (by omega), if_neg (by omega), if_neg (by omega), if_pos (by omega)]
      exact congrArg _ (by omega)
    · rw [cpy_out (by omega)]
      by_cases h4 : 4 ≤ i
      · rw [cpy_lo (by omega) (by omega), if_neg (by omega), if_pos (by omega)]
        exact congrArg _ (by omega)
      · rw [cpy_out (by omega), cpy_lo (by omega) (by omega), if_pos (by omega)]
        exact congrArg _ (by omega)
theorem gLay_out (σ : GS) (u b : Nat) (f : Nat → Int32) {j : Nat} (h : j < b ∨ b + 25 ≤ j) : gLay σ u b f j = f j := by
  unfold gLay
  rw [pk_un (by omega), cpy_out (by omega), cpy_out (by omega), cpy_out (by omega)]
theorem nI_succm (n : Nat) : nI (n + 1) - 1 = nI n := nI_pred n
theorem gmod20 {k : Nat} (h : k < 100) : nI k - nI k / 20 * 20 = nI (k % 20) := by
  rw [show (20 : Int32) = nI 20 from rfl]
  exact pk_rem (by omega) (by decide) (by decide)
theorem gIx_lt {x n : Nat} (hx : x < 2147483648) (h : gIx (nI x) n) : x < n := by
  obtain ⟨k, hk, e⟩ := h
  by_cases hb : k < 2147483648
  · have := (nI_eq hx hb).mp e
    omega
  · omega
theorem uRow_keep {σ : GS} {kn kl : Nat} {f : Nat → Int32} (u i : Nat) (hu : u < 8) : uRow (uI (uN (uN σ 31 (nI ((kn + 1) % 20))) 30 (nI (if kl < 20 then kl + 1 else 20))) (24 + kn) f) u i = uRow σ u i := by
  unfold uRow
  rw [gI_uI, if_neg (show ¬ u = 24 + kn by omega), gI_uI, if_neg (show ¬ 8 + u = 24 + kn by omega), gI_uI, if_neg (show ¬ 16 + u = 24 + kn by omega), gN_uI, gN_uN, if_neg (show ¬ 22 + u = 30 by omega), gN_uN, if_neg (show ¬ 22 + u = 31 by omega)]
  rfl
theorem gLay_cS {σ : GS} {kn kl k : Nat} {f : Nat → Int32} (hn : kn < 20) (hk : k < 8) (hf : ∀ j, j < 25 * k → f j = cS σ j) {j : Nat} (h : j < 25 * (k + 1)) : gLay (uI (uN (uN σ 31 (nI ((kn + 1) % 20))) 30 (nI (if kl < 20 then kl + 1 else 20))) (24 + kn) f) k (25 * k) f j = cS σ j := by
  by_cases h1 : j < 25 * k
  · rw [gLay_out _ _ _ _ (Or.inl h1)]
    exact hf j h1
  · have e : j = 25 * k + (j - 25 * k) := by omega
    rw [e, gLay_in _ _ _ _ (by omega), uRow_keep _ _ hk, cS_at σ hk (by omega)]
theorem gLay_seed {σ : GS} {f : Nat → Int32} (hf : ∀ j, j < 25 * 8 → f j = cS σ j) {j : Nat} (h : j < 201) : upd f 200 (gN σ 1) j = cS σ j := by
  by_cases e : j = 200
  · subst e
    rw [pk_us]
    rfl
  · rw [pk_un e]
    exact hf j (by omega)
