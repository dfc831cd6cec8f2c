-- the rows along a path stay sound
theorem dS_ne {S : Nat → Int32} {u c w k : Nat} (h : w ≠ u) (hk : k < 25) : dS S u c (25 * w + k) = S (25 * w + k) := by
  unfold dS
  rw [if_neg (by omega), if_neg (by omega)]
theorem dS_b {S : Nat → Int32} {u c d : Nat} (hd : d < 4) : dS S u c (25 * u + d) = S (25 * u + d) + S (25 * u + 4 + (c * 4 + d)) := by
  unfold dS
  rw [if_pos (by omega), show 25 * u + d - 25 * u = d by omega]
theorem dS_o {S : Nat → Int32} {u c k : Nat} (hk : 4 ≤ k) (h24 : k < 24) : dS S u c (25 * u + k) = S (25 * u + k) := by
  unfold dS
  rw [if_neg (by omega), if_neg (by omega)]
theorem VS_dS {nc : Nat → Nat} {S : Nat → Int32} {u c : Nat} (V : VS nc S) (hu : u < 8) (hc : c < 4) (hL : gLet (bS S u) (tS S u) c 4) : VS nc (dS S u c) := by
  obtain ⟨v1, v2, v3⟩ := V
  refine ⟨fun w hw d hd => ?_, fun w hw a ha d hd => ?_, ?_⟩
  · by_cases e : w = u
    · subst e
      have eo : dS S w c (25 * w + 20 + d) = S (25 * w + 20 + d) := by rw [Nat.add_assoc]; exact dS_o (by omega) (by omega)
      rw [dS_b hd, eo]
      refine ⟨hL.2 d hd, fun h => ?_, (v1 w hw d hd).2.2⟩
      rw [(v1 w hw d hd).2.1 h, (v2 w hw c hc d hd).2 (Or.inr h), Int32.add_zero]
    · have eo : dS S u c (25 * w + 20 + d) = S (25 * w + 20 + d) := by rw [Nat.add_assoc]; exact dS_ne e (by omega)
      rw [dS_ne e (by omega), eo]
      exact v1 w hw d hd
  · have e : dS S u c (25 * w + 4 + (a * 4 + d)) = S (25 * w + 4 + (a * 4 + d)) := by
      rw [Nat.add_assoc]
      by_cases e : w = u
      · subst e
        exact dS_o (by omega) (by omega)
      · exact dS_ne e (by omega)
    rw [e]
    exact v2 w hw a ha d hd
  · have e : dS S u c 200 = S 200 := by
      unfold dS
      rw [if_neg (by omega), if_neg (by omega)]
    rw [e]
    exact v3
theorem pU_s {nc : Nat → Nat} {S : Nat → Int32} {u0 s0 len : Nat} (V : VS nc S) (h8 : u0 < 8) (h : pOn S u0 s0 len) {i : Nat} (hi : i + 1 < len) : pU S u0 s0 (i + 1) < pU S u0 s0 i := by
  obtain ⟨e1, l1⟩ := pU_bd V h8 h (show i < len by omega)
  obtain ⟨e2, l2⟩ := pU_bd V h8 h hi
  have q := (V.1 (pU S u0 s0 i) (by omega) (pC S u0 s0 i) (pC_lt _ _ _ _)).2.2.2
  rw [← pA_s S u0 s0 i, e2] at q
  exact (nI_ltI (by omega) (by omega)).mp q
theorem pU_dec {nc : Nat → Nat} {S : Nat → Int32} {u0 s0 len : Nat} (V : VS nc S) (h8 : u0 < 8) (h : pOn S u0 s0 len) {i : Nat} : ∀ d, i + d + 1 < len → pU S u0 s0 (i + d + 1) < pU S u0 s0 i
  | 0, hj => pU_s V h8 h hj
  | d + 1, hj => Nat.lt_trans (pU_s V h8 h hj) (pU_dec V h8 h d (by omega))
theorem pRow_eq {S : Nat → Int32} {u0 s0 w : Nat} : ∀ i, (∀ j, j < i → w ≠ pU S u0 s0 j) → ∀ k, k < 25 → pRow S u0 s0 i (25 * w + k) = S (25 * w + k)
  | 0, _, _, _ => rfl
  | i + 1, h, k, hk => by
    show dS (pRow S u0 s0 i) (pU S u0 s0 i) (pC S u0 s0 i) (25 * w + k) = _
    rw [dS_ne (h i (by omega)) hk]
    exact pRow_eq i (fun j hj => h j (by omega)) k hk
theorem VS_pRow {nc : Nat → Nat} {S : Nat → Int32} {u0 s0 len : Nat} (V : VS nc S) (h8 : u0 < 8) (h : pOn S u0 s0 len) : ∀ i, i ≤ len → VS nc (pRow S u0 s0 i)
  | 0, _ => V
  | i + 1, hi => by
    obtain ⟨e1, l1⟩ := pU_bd V h8 h (show i < len by omega)
    have hne : ∀ j, j < i → pU S u0 s0 i ≠ pU S u0 s0 j := fun j hj => by
      have q := pU_dec V h8 h (i := j) (i - j - 1) (by omega)
      rw [show j + (i - j - 1) + 1 = i by omega] at q
      omega
    have eq := pRow_eq (S := S) (u0 := u0) (s0 := s0) i hne
    refine VS_dS (VS_pRow V h8 h i (by omega)) (by omega) (pC_lt _ _ _ _) ?_
    refine (gLet_e (fun d hd => eq d (by omega)) (fun d hd => ?_) (pC_lt _ _ _ _) (by omega)).mpr (h i (by omega)).2.2
    show pRow S u0 s0 i (25 * pU S u0 s0 i + 4 + d) = S (25 * pU S u0 s0 i + 4 + d)
    rw [Nat.add_assoc]
    exact eq (4 + d) (by omega)
theorem VS_seedS {nc : Nat → Nat} {S : Nat → Int32} {e : Nat} (V : VS nc S) (h : e < 2147483647) : VS nc (upd S 200 (nI e)) := by
  obtain ⟨v1, v2, v3⟩ := V
  refine ⟨fun w hw d hd => ?_, fun w hw a ha d hd => ?_, ?_⟩
  · rw [pk_un (by omega), pk_un (by omega)]; exact v1 w hw d hd
  · rw [pk_un (by omega)]; exact v2 w hw a ha d hd
  · rw [pk_us]
    exact ⟨nI_pos' (by omega), (nI_ltI (b := 2147483647) (by omega) (by decide)).mpr h⟩
theorem pTab_k {s b : GS} {S : Nat → Int32} {u0 s0 len : Nat} (h : pTab s S u0 s0 len) (h1 : gI b 44 = gI s 44) (h2 : gI b 45 = gI s 45) (h3 : gN b 32 = gN s 32) (h4 : gG b 0 = gG s 0) : pTab b S u0 s0 len := by
  unfold pTab
  rw [h1, h2, h3, h4]
  exact h
theorem pTab_d {s : GS} {S : Nat → Int32} {u0 s0 len u : Nat} {f : Nat → Int32} {x : Int32} (h : pTab s S u0 s0 len) (hu : u < 8) : pTab (uN (uI s u f) (22 + u) x) S u0 s0 len :=
  pTab_k h (by rw [gI_uN, gI_uI, if_neg (by omega)]) (by rw [gI_uN, gI_uI, if_neg (by omega)]) (by rw [gN_uN, if_neg (by omega)]; rfl) rfl
noncomputable def pL (S : Nat → Int32) (u0 s0 : Nat) : Nat := @dite _ (∃ len, pLen S u0 s0 len) (Classical.propDecidable _) (fun h => Classical.choose h) (fun _ => 0)
theorem pL_eq {S : Nat → Int32} {u0 s0 len : Nat} (h : pLen S u0 s0 len) : pL S u0 s0 = len := by
  unfold pL
  rw [dif_pos ⟨len, h⟩]
  exact pLen_u (Classical.choose_spec (⟨len, h⟩ : ∃ len, pLen S u0 s0 len)) h
def pEnd (S : Nat → Int32) (u0 s0 len : Nat) : Nat → Int32 := upd (pRow S u0 s0 len) 200 (nI (pE S u0 s0 len))
noncomputable def fDrawn (v : GV) (u : Int32) : Int32 × GV := gIf (okU v u) (gIf (pStk (vS v) (nU u) (nU (vS v 200))) (-5, v) (pTold (vS v) (nU u) (nU (vS v 200)) (pL (vS v) (nU u) (nU (vS v 200))), vSet (vKeep v) (pEnd (vS v) (nU u) (nU (vS v 200)) (pL (vS v) (nU u) (nU (vS v 200)))))) (-1, v)
theorem fDrawn_s {v : GV} {u : Nat} (hu : u < vM v) (h8 : u < 8) (h : pStk (vS v) u (nU (vS v 200))) : fDrawn v (nI u) = (-5, v) := by
  unfold fDrawn
  rw [gIf_t (okU_n hu), nU_n (by omega), gIf_t h]
theorem fDrawn_o {v : GV} {u len : Nat} (hu : u < vM v) (h8 : u < 8) (h : pLen (vS v) u (nU (vS v 200)) len) : fDrawn v (nI u) = (pTold (vS v) u (nU (vS v 200)) len, vSet (vKeep v) (pEnd (vS v) u (nU (vS v 200)) len)) := by
  unfold fDrawn
  rw [gIf_t (okU_n hu), nU_n (by omega), gIf_f (pLen_n h), pL_eq h]
theorem pTab_keep {σ σ' : GS} {S : Nat → Int32} {u0 s0 len kn kl : Nat} (h : pTab σ S u0 s0 len) (hn : kn < 20) (k : ∃ f : Nat → Int32, (∀ j, j < 201 → f j = cS σ j) ∧ σ' = uI (uN (uN σ 31 (nI ((kn + 1) % 20))) 30 (nI (if kl < 20 then kl + 1 else 20))) (24 + kn) f) : pTab σ' S u0 s0 len := by
  obtain ⟨f, -, rfl⟩ := k
  exact pTab_k h (by rw [gI_uI, if_neg (by omega)]; rfl) (by rw [gI_uI, if_neg (by omega)]; rfl) rfl rfl
