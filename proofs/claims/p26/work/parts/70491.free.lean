-- what free leaves alone
def gSf (σ σ' : GS) : Prop := (∀ q, ¬ q = 46 → gI σ' q = gI σ q) ∧ (∀ q, ¬ (q = 6 ∨ q = 7) → gL σ' q = gL σ q) ∧ (∀ q, ¬ q = 32 → gN σ' q = gN σ q) ∧ (∀ q, (q < 4 ∨ 6 ≤ q) → gG σ' q = gG σ q) ∧ gP σ' = gP σ
theorem gSf_r (σ : GS) : gSf σ σ := ⟨fun _ _ => rfl, fun _ _ => rfl, fun _ _ => rfl, fun _ _ => rfl, rfl⟩
theorem gSf_t {a b c : GS} (h : gSf a b) (k : gSf b c) : gSf a c := ⟨fun q hq => (k.1 q hq).trans (h.1 q hq), fun q hq => (k.2.1 q hq).trans (h.2.1 q hq), fun q hq => (k.2.2.1 q hq).trans (h.2.2.1 q hq), fun q hq => (k.2.2.2.1 q hq).trans (h.2.2.2.1 q hq), k.2.2.2.2.trans h.2.2.2.2⟩
theorem gSf_I {a s : GS} {k : Nat} {f : Nat → Int32} (hk : k = 46) (h : gSf a s) : gSf a (uI s k f) := ⟨fun q hq => by rw [gI_uI, if_neg (show ¬ q = k by omega)]; exact h.1 q hq, h.2.1, h.2.2.1, h.2.2.2⟩
theorem gSf_L {a s : GS} {k : Nat} {f : Nat → Int64} (hk : k = 6 ∨ k = 7) (h : gSf a s) : gSf a (uL s k f) := ⟨h.1, fun q hq => by rw [gL_uL, if_neg (show ¬ q = k by omega)]; exact h.2.1 q hq, h.2.2.1, h.2.2.2⟩
theorem gSf_N {a s : GS} {k : Nat} {v : Int32} (hk : k = 32) (h : gSf a s) : gSf a (uN s k v) := ⟨h.1, h.2.1, fun q hq => by rw [gN_uN, if_neg (show ¬ q = k by omega)]; exact h.2.2.1 q hq, h.2.2.2⟩
theorem gSf_G {a s : GS} {k : Nat} {v : Int64} (hk : ¬ (k < 4 ∨ 6 ≤ k)) (h : gSf a s) : gSf a (uG s k v) := ⟨h.1, h.2.1, h.2.2.1, fun q hq => by rw [gG_uG, if_neg (show ¬ q = k by omega)]; exact h.2.2.2.1 q hq, h.2.2.2.2⟩
theorem gSf.k {a b : GS} (h : gSf a b) : gSk a b := ⟨fun q hq => h.1 q (by omega), fun q hq => h.2.1 q (by omega), fun q hq => h.2.2.1 q (by omega), fun q hq => h.2.2.2.1 q (by omega)⟩
theorem gSf_n {a s : GS} (h : gSf a s) {q : Nat} (hq : q < 32 ∨ q = 33 ∨ q = 34) : gN s q = gN a q := gSm_n h.k.m hq
theorem EF_sf {a b : GS} {F G : GF} (h : gSf a b) (E : EF a F G) : EF b F G := ⟨CF_e (fun q _ h2 => h.2.2.2.1 q (by omega)) E.1, MF_e (fun q h1 _ => h.2.2.2.1 q (by omega)) E.2.1, ZA_e h.2.2.2.2 (fun q h1 => h.2.1 q (by omega)) E.2.2⟩
def gSg (σ σ' : GS) : Prop := (∀ q, q < 57 → gI σ' q = gI σ q) ∧ (∀ q, q < 14 → gL σ' q = gL σ q) ∧ (∀ q, gN σ' q = gN σ q) ∧ (∀ q, ¬ (q = 13 ∨ q = 14) → gG σ' q = gG σ q) ∧ gP σ' = gP σ
theorem gSg_r (σ : GS) : gSg σ σ := ⟨fun _ _ => rfl, fun _ _ => rfl, fun _ => rfl, fun _ _ => rfl, rfl⟩
theorem gSg_t {a b c : GS} (h : gSg a b) (k : gSg b c) : gSg a c := ⟨fun q hq => (k.1 q hq).trans (h.1 q hq), fun q hq => (k.2.1 q hq).trans (h.2.1 q hq), fun q => (k.2.2.1 q).trans (h.2.2.1 q), fun q hq => (k.2.2.2.1 q hq).trans (h.2.2.2.1 q hq), k.2.2.2.2.trans h.2.2.2.2⟩
theorem gSg_I {a s : GS} {k : Nat} {f : Nat → Int32} (hk : ¬ k < 57) (h : gSg a s) : gSg a (uI s k f) := ⟨fun q hq => by rw [gI_uI, if_neg (show ¬ q = k by omega)]; exact h.1 q hq, h.2.1, h.2.2.1, h.2.2.2⟩
theorem gSg_L {a s : GS} {k : Nat} {f : Nat → Int64} (hk : ¬ k < 14) (h : gSg a s) : gSg a (uL s k f) := ⟨h.1, fun q hq => by rw [gL_uL, if_neg (show ¬ q = k by omega)]; exact h.2.1 q hq, h.2.2.1, h.2.2.2⟩
theorem gSg_G {a s : GS} {k : Nat} {v : Int64} (hk : k = 13 ∨ k = 14) (h : gSg a s) : gSg a (uG s k v) := ⟨h.1, h.2.1, h.2.2.1, fun q hq => by rw [gG_uG, if_neg (show ¬ q = k by omega)]; exact h.2.2.2.1 q hq, h.2.2.2.2⟩
theorem gSg.n {a b : GS} (h : gSg a b) : gSn a b := ⟨fun q hq => h.1 q hq, fun q hq => h.2.1 q hq, fun q _ => h.2.2.1 q, fun q hq => h.2.2.2.1 q (by omega), fun z => by rw [h.2.2.2.1 12 (by omega)]; exact z, h.2.2.2.2⟩
theorem mT_sg {σ s : GS} (h : gSg σ s) (u : Nat) : mT s u = mT σ u := mT_s h.n.m u
theorem mB_sg {σ s : GS} (h : gSg σ s) (u : Nat) : mB s u = mB σ u := mB_s h.n.m u
theorem EF_sg {a b : GS} {F G : GF} (h : gSg a b) (E : EF a F G) : EF b F G := ⟨CF_e (fun q _ h2 => h.2.2.2.1 q (by omega)) E.1, MF_e (fun q h1 _ => h.2.2.2.1 q (by omega)) E.2.1, ZA_e h.2.2.2.2 (fun q h1 => h.2.1 q (by omega)) E.2.2⟩
-- the sheets, the seed, the urn leave THE FRACTION alone
theorem eX_sheet {σ s : GS} {F G : GF} {r k n x : Int32} (E : EF σ F G) (h : x = fSheet r k n ∧ ((x ≠ 0 ∧ σ = s) ∨ (x = 0 ∧ ∃ (u : Nat) (f : Nat → Int64), u < 6 ∧ r = nI u ∧ (∀ j, j < 16 → f j = 0) ∧ s = uL (uN (uN σ (2 + u) k) (8 + u) (if k = -1 then 0 else n)) u f))) : EF s F G := by
  rcases h.2 with ⟨-, rfl⟩ | ⟨-, u, f, hu, -, -, rfl⟩
  · exact E
  · exact EF_g (a := σ) (fun _ => rfl) rfl (fun q h1 h2 => by rw [gL_uL, if_neg (by omega)] <;> rfl) E
theorem eM_sheet {s t : GS} {F G : GF} {P : Prop} {r k n x : Int32} (E : EF s F G) (h : P ∧ ((¬ x = 0 ∧ s = t) ∨ (x = 0 ∧ ∃ (u : Nat) (f : Nat → Int64), u < 6 ∧ r = nI u ∧ (∀ j, j < 16 → f (16 * u + j) = 0) ∧ (∀ j, (j < 16 * u ∨ 16 * u + 16 ≤ j) → f j = gL s 12 j) ∧ t = uL (uI (uI s 50 (upd (gI s 50) u k)) 51 (upd (gI s 51) u (if k < 0 then 0 else n))) 12 f))) : EF t F G := by
  rcases h.2 with ⟨-, rfl⟩ | ⟨-, u, f, hu, -, -, -, rfl⟩
  · exact E
  · exact EF_g (a := s) (fun _ => rfl) rfl (fun q h1 h2 => by rw [gL_uL, if_neg (by omega)] <;> rfl) E
theorem eX_lay {σ s : GS} {F G : GF} {P : Prop} {r i x : Int32} {y : Int64} (E : EF σ F G) (h : P ∧ ((¬ x = 0 ∧ σ = s) ∨ (x = 0 ∧ ∃ (u j : Nat), u < 6 ∧ r = nI u ∧ j < 16 ∧ i = nI j ∧ s = uL σ u (vp_updL (gL σ u) j (gCutV (gN σ (2 + u)) y))))) : EF s F G := by
  rcases h.2 with ⟨-, rfl⟩ | ⟨-, u, j, hu, -, -, -, rfl⟩
  · exact E
  · exact EF_g (a := σ) (fun _ => rfl) rfl (fun q h1 h2 => by rw [gL_uL, if_neg (by omega)]) E
theorem eM_lay {s t : GS} {F G : GF} {P : Prop} {r i x : Int32} {y : Int64} (E : EF s F G) (h : P ∧ ((¬ x = 0 ∧ s = t) ∨ (x = 0 ∧ ∃ (u j : Nat), u < 6 ∧ r = nI u ∧ j < 16 ∧ i = nI j ∧ t = uL s 12 (vp_updL (gL s 12) (16 * u + j) (gCutV (gI s 50 u) y))))) : EF t F G := by
  rcases h.2 with ⟨-, rfl⟩ | ⟨-, u, j, hu, -, -, -, rfl⟩
  · exact E
  · exact EF_g (a := s) (fun _ => rfl) rfl (fun q h1 h2 => by rw [gL_uL, if_neg (by omega)]) E
theorem eX_copy {σ s : GS} {F G : GF} {P : Prop} {r i t j n x : Int32} (E : EF σ F G) (h : P ∧ ((¬ x = 0 ∧ σ = s) ∨ (x = 0 ∧ ∃ (a b : Nat), a < 6 ∧ b < 6 ∧ r = nI a ∧ t = nI b ∧ gRch i n 16 ∧ gRch j n 16 ∧ s = uL σ b (va_cpy (gL σ a) (gL σ b) i.toInt.toNat j.toInt.toNat n.toInt.toNat)))) : EF s F G := by
  rcases h.2 with ⟨-, rfl⟩ | ⟨-, a, b, ha, hb, -, -, -, -, rfl⟩
  · exact E
  · exact EF_g (a := σ) (fun _ => rfl) rfl (fun q h1 h2 => by rw [gL_uL, if_neg (by omega)]) E
theorem eM_copy {s t' : GS} {F G : GF} {P : Prop} {r i t j n x : Int32} (E : EF s F G) (h : P ∧ ((¬ x = 0 ∧ s = t') ∨ (x = 0 ∧ ∃ (a b i' j' n' : Nat) (g : Nat → Int64), a < 6 ∧ b < 6 ∧ r = nI a ∧ t = nI b ∧ i = nI i' ∧ j = nI j' ∧ n = nI n' ∧ i' + n' ≤ 16 ∧ j' + n' ≤ 16 ∧ t' = uL (uL s 13 g) 12 (gcp (gL s 12) (gL s 12) (16 * a + i') (16 * b + j') n')))) : EF t' F G := by
  rcases h.2 with ⟨-, rfl⟩ | ⟨-, a, b, i', j', n', g, -, -, -, -, -, -, -, -, -, rfl⟩
  · exact E
  · exact EF_g (a := s) (fun _ => rfl) rfl (fun q h1 h2 => by rw [gL_uL, if_neg (by omega), gL_uL, if_neg (by omega)]) E
theorem eX_seed {σ s : GS} {F G : GF} {P : Prop} {a x : Int32} (E : EF σ F G) (h : P ∧ ((¬ x = 0 ∧ σ = s) ∨ (x = 0 ∧ s = uN σ 1 a))) : EF s F G := by
  rcases h.2 with ⟨-, rfl⟩ | ⟨-, rfl⟩
  · exact E
  · exact EF_g (a := σ) (fun _ => rfl) rfl (fun _ _ _ => rfl) E
theorem eM_seed {s t : GS} {F G : GF} {P : Prop} {a x : Int32} (E : EF s F G) (h : P ∧ ((¬ x = 0 ∧ s = t) ∨ (x = 0 ∧ t = uI s 53 (upd (gI s 53) 200 a)))) : EF t F G := by
  rcases h.2 with ⟨-, rfl⟩ | ⟨-, rfl⟩
  · exact E
  · exact EF_g (a := s) (fun _ => rfl) rfl (fun _ _ _ => rfl) E
theorem eX_urn {σ s : GS} {F G : GF} {P : Prop} {m : Nat} {n x : Int32} (E : EF σ F G) (h : P ∧ ((x < 0 ∧ σ = s) ∨ ((¬ x < 0 ∧ m < 8) ∧ s = uN (uN σ (14 + m) n) 0 (nI (m + 1))))) : EF s F G := by
  rcases h.2 with ⟨-, rfl⟩ | ⟨-, rfl⟩
  · exact E
  · exact EF_g (a := σ) (fun _ => rfl) rfl (fun _ _ _ => rfl) E
theorem eM_urn {s t : GS} {F G : GF} {P : Prop} {m : Nat} {n x : Int32} (E : EF s F G) (h : P ∧ ((x < 0 ∧ s = t) ∨ ((¬ x < 0 ∧ m < 8) ∧ t = uN (uI s 52 (upd (gI s 52) m n)) 33 (nI (m + 1))))) : EF t F G := by
  rcases h.2 with ⟨-, rfl⟩ | ⟨-, rfl⟩
  · exact E
  · exact EF_g (a := s) (fun _ => rfl) rfl (fun _ _ _ => rfl) E
theorem eX_act {σ s : GS} {F G : GF} {P Q : Prop} (E : EF σ F G) (h : P ∧ Q ∧ FC σ s) : EF s F G := EF_FC h.2.2 E
theorem eM_act {s t : GS} {F G : GF} {P Q : Prop} (E : EF s F G) (h : P ∧ Q ∧ FM s t) : EF t F G := EF_FM h.2.2 E
theorem EF_start (f : Nat → Nat → Int32) : EF (gS0 f) (0, 0, 1) (0, 0, 1) := by
  refine ⟨⟨rfl, rfl, rfl⟩, ⟨?_, ?_, ?_⟩, Or.inr rfl, fun _ _ => ⟨rfl, rfl⟩⟩
  · show (0 : Int64) + 0 / 1 = lN 0
    decide
  · show (0 : Int64) - 0 / 1 * 1 = lN 0
    decide
  · show (if (0 : Int64) - 0 / 1 * 1 = 0 then (1 : Int64) else 1) = lN 1
    decide
