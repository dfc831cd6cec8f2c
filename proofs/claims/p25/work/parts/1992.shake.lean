-- shake: how often, and what is left
noncomputable def pSq (S : Nat → Int32) (u : Nat) : Nat → Nat → Int32
  | 0 => S
  | i + 1 => pEnd (pSq S u i) u (nU (pSq S u i 200)) (pL (pSq S u i) u (nU (pSq S u i 200)))
def sStk (S : Nat → Int32) (u i : Nat) : Prop := pStk (pSq S u i) u (nU (pSq S u i 200))
noncomputable def sNum (S : Nat → Int32) (u : Nat) : Nat → Nat
  | 0 => 0
  | n + 1 => gIf (sNum S u n = n ∧ ¬ sStk S u n) (n + 1) (sNum S u n)
theorem sNum_le (S : Nat → Int32) (u : Nat) : ∀ n, sNum S u n ≤ n
  | 0 => Nat.le_refl _
  | n + 1 => by
    show gIf _ (n + 1) (sNum S u n) ≤ n + 1
    by_cases h : sNum S u n = n ∧ ¬ sStk S u n
    · rw [gIf_t h]; omega
    · rw [gIf_f h]
      have := sNum_le S u n
      omega
theorem sNum_d {S : Nat → Int32} {u d : Nat} : ∀ n, d ≤ n → (∀ i, i < d → ¬ sStk S u i) → (d = n ∨ sStk S u d) → sNum S u n = d
  | 0, h, _, _ => by
    show 0 = d
    omega
  | n + 1, h, h1, h2 => by
    show gIf _ (n + 1) (sNum S u n) = d
    by_cases e : d = n + 1
    · subst e
      have ih := sNum_d (S := S) (u := u) (d := n) n (Nat.le_refl _) (fun i hi => h1 i (by omega)) (Or.inl rfl)
      rw [gIf_t ⟨ih, h1 n (by omega)⟩]
    · have hs : sStk S u d := h2.elim (fun q => absurd q e) id
      have ih := sNum_d (S := S) (u := u) (d := d) n (by omega) h1 (Or.inr hs)
      rw [gIf_f (fun q => by
        have e2 : d = n := ih.symm.trans q.1
        exact q.2 (e2 ▸ hs))]
      exact ih
noncomputable def fShake (v : GV) (u n : Int32) : Int32 × GV := gIf (okU v u ∧ ¬ n < 1 ∧ n ≤ 50) (nI (sNum (vS v) (nU u) (nU n)), if sNum (vS v) (nU u) (nU n) = 0 then v else vSet (vKeep v) (pSq (vS v) (nU u) (sNum (vS v) (nU u) (nU n)))) (-1, v)
theorem fShake_o {v : GV} {u n d : Nat} (hu : u < vM v) (h8 : u < 8) (hn : 1 ≤ n) (hn2 : n ≤ 50) (hd : d ≤ n) (h1 : ∀ i, i < d → ¬ sStk (vS v) u i) (h2 : d = n ∨ sStk (vS v) u d) : fShake v (nI u) (nI n) = (nI d, if d = 0 then v else vSet (vKeep v) (pSq (vS v) u d)) := by
  unfold fShake
  rw [gIf_t ⟨okU_n hu, fun q => absurd ((nI_ltI (b := 1) (by omega) (by omega)).mp q) (by omega), (nI_leI (b := 50) (by omega) (by omega)).mpr hn2⟩, nU_n (by omega), nU_n (by omega), sNum_d n hd h1 h2]
theorem VS_pEnd {nc : Nat → Nat} {S : Nat → Int32} {u0 s0 len : Nat} (V : VS nc S) (h8 : u0 < 8) (hs : s0 < 2147483647) (h : pOn S u0 s0 len) : VS nc (pEnd S u0 s0 len) := VS_seedS (VS_pRow V h8 h len (Nat.le_refl _)) (pE_lt hs len)
/-- what a draw or a keeping of the reference leaves of a draw by seed that was looked for -/
def FD (σ σ' : GS) : Prop := gI σ' 55 = gI σ 55 ∧ gI σ' 56 = gI σ 56 ∧ gN σ' 35 = gN σ 35 ∧ gN σ' 36 = gN σ 36
