set_option maxRecDepth 100000 in
set_option maxHeartbeats 4000000 in
theorem c_X0_walkb1 (l : Launch) (δ : GD) (σ : GS) {u : Nat} (hu : u < 8) {k c : Nat} (hk : k ≤ 12) (hc : c < 4) {al : Nat → Nat → Prop} (hal : ∀ j, j < k → ∀ c, c < 4 → ((gI σ 47 j < 0 ∨ gI σ 47 j = nI c) ↔ al j c)) (hZ : ZA σ) {v : GV} (K : KC σ v) (R : RV v) (hb : ∀ j, j ≤ k → ∀ x, wW true (bS (vS v) u) (tS (vS v) u) al j x < 9223372036854775808) : gM l δ yX0_walk cX0_walk 7 none 3 84 [.ref (δ.2.2.1 20), .ref (δ.2.2.1 (8 + u)), .int (nI k), .int (nI c), .int 1] σ (gPv (fun σ' => StU σ σ' ∧ ZA σ' ∧ Fin (bS (vS v) u) (tS (vS v) u) (wW true (bS (vS v) u) (tS (vS v) u) al k) k c σ' ∧ (true = true → gG σ' 6 = lN (wE (bS (vS v) u) (tS (vS v) u) al (vT v u) (vG v u) k)))) := by
  refine g_of (lv0 := [some (.ref (δ.2.2.1 20)), some (.ref (δ.2.2.1 (8 + u))), some (.int (nI k)), some (.int (nI c)), some (.int 1), none, none]) (by decide) rfl (Nat.le_of_ble_eq_true rfl) (fun Γ hl C E => ?_)
  subst hl
  have C : gC Γ δ cX0_walk RX0 7 3 84 := C
  have hn := K.2.1 u hu
  have h4 := RV_n R hu
  have hT := vT_b R hu
  have hG := vG_b R hu
  have hw : ∀ j, j ≤ k → ∀ x, ¬ wW true (bS (vS v) u) (tS (vS v) u) al j x = 0 → xOk (bS (vS v) u) (tS (vS v) u) (vC v u) j x := fun j hj => wW_ok (VS_B2 R.2.2.1 hu) (fun d hd h => (R.2.2.1.1 u hu d hd).2.1 h) (fun c hc d hd h => (R.2.2.1.2.1 u hu c hc d hd).2 (Or.inr h)) j (by omega)
  refine g_aload_n C dX0_walk_0 rfl ?_
  refine g_get C dX0_walk_1 iwX0 rfl (wO_A δ _) 5 (Nat.le_of_ble_eq_true rfl) mW113 rfl rfl ?_
  refine g_lconst (v := 0) C dX0_walk_4 (by decide) ?_
  refine g_callSv C sS_X0_77 dX0_walk_5 (c_J7_fill_d0a16 _ δ _ (q := 10) (by omega) _) ⟨by decide, by decide⟩ rfl rfl rfl (Nat.le_of_ble_eq_true rfl) (fun s_5 h_5 => ?_)
  obtain ⟨f, rfl, hf⟩ := h_5
  refine g_aload_n C dX0_walk_8 rfl ?_
  refine g_lconst (v := 0) C dX0_walk_9 (by decide) ?_
  refine g_put C tyX0 dX0_walk_10 iwX0 tyX0_ok nmX0 rfl (wO_A δ _) 7 (Nat.le_of_ble_eq_true rfl) mW117 rfl rfl rfl rfl rfl (Nat.le_of_ble_eq_true rfl) (pG_6 δ _ _) ?_
  refine g_aload_n C dX0_walk_13 rfl ?_
  refine g_get C dX0_walk_14 iwX0 rfl (wO_A δ _) 6 (Nat.le_of_ble_eq_true rfl) mW115 rfl rfl ?_
  refine g_lconst (v := 0) C dX0_walk_17 (by decide) ?_
  refine g_callSv C sS_X0_77 dX0_walk_18 (c_J7_fill_d0a16 _ δ _ (q := 11) (by omega) _) ⟨by decide, by decide⟩ rfl rfl rfl (Nat.le_of_ble_eq_true rfl) (fun s_18 h_18 => ?_)
  obtain ⟨f2, rfl, hf2⟩ := h_18
  refine g_aload_n C dX0_walk_21 rfl ?_
  refine g_get C dX0_walk_22 iwX0 rfl (wO_A δ _) 0 (Nat.le_of_ble_eq_true rfl) mW108 rfl rfl ?_
  refine g_iconst (v := 0) C dX0_walk_25 (by decide) ?_
  refine g_lconst (v := 1) C dX0_walk_26 (by decide) ?_
  refine g_lastN C dX0_walk_27 (k := 0) (q := (8 + gP _ % 2)) (by omega) (gnw _ _) (by first | rfl | assumption | (simp only [glit, nI_add, pk_mul]; done) | (simp only [glit, nI_add, pk_mul]; congr 1; omega) | (simp only [*, glit, nI_add, pk_mul]; congr 1; omega)) (by rw [gLenL_n _]; omega) ?_
  refine g_iconst (v := 0) C dX0_walk_28 (by decide) ?_
  refine g_istore C dX0_walk_29 (Nat.le_of_ble_eq_true rfl) rfl ?_
  refine g_lv [some _, some _, some _, some _, some _, some _, none] (gs_some (gs_some (gs_some (gs_some (gs_some (gs_some (gs_none gs_nil))))))) ?_
  have L_31 : ∀ (nn : Nat) (j : Nat) (s1 : GS) (hj : j ≤ k + 1) (hJ : WJ true (bS (vS v) u) (tS (vS v) u) al (vT v u) (vG v u) k c σ j s1), k + 1 - j < nn → gW Γ δ s1 31 [some (.ref (δ.2.2.1 20)), some (.ref (δ.2.2.1 (8 + u))), some (.int (nI k)), some (.int (nI c)), some (.int 1), some (.int (nI j)), none] [] := by
    intro nn
    induction nn with
    | zero =>
      intro j s1 hj hJ hm_31
      exact absurd hm_31 (Nat.not_lt_zero _)
    | succ nn ih_31 =>
      intro j s1 hj hJ hm_31
      have hU := hJ.1
      have hPp := hJ.2.1
      have hs := hU.1
      have K1 := KC_sk hs K
      refine g_iload C dX0_walk_31 rfl ?_
      refine g_iload_n C dX0_walk_33 rfl ?_
      refine g_icmp_gt C 95 dX0_walk_34 (by decide) (fun c_34 => ?_) (fun c_34 => ?_)
      · have k_34 := glt c_34 (a := k) (b := j) (by first | rfl | assumption | (simp only [glit, nI_add, pk_mul]; done) | (simp only [glit, nI_add, pk_mul]; congr 1; omega) | (simp only [*, glit, nI_add, pk_mul]; congr 1; omega)) (by first | rfl | assumption | (simp only [glit, nI_add, pk_mul]; done) | (simp only [glit, nI_add, pk_mul]; congr 1; omega) | (simp only [*, glit, nI_add, pk_mul]; congr 1; omega)) (by omega) (by omega)
        have hF := WJ_out hJ (show j = k + 1 by omega)
        exact g_vret C E dX0_walk_95 rfl ⟨rfl, hF⟩
      · have k_34 := gnlt c_34 (a := k) (b := j) (by first | rfl | assumption | (simp only [glit, nI_add, pk_mul]; done) | (simp only [glit, nI_add, pk_mul]; congr 1; omega) | (simp only [*, glit, nI_add, pk_mul]; congr 1; omega)) (by first | rfl | assumption | (simp only [glit, nI_add, pk_mul]; done) | (simp only [glit, nI_add, pk_mul]; congr 1; omega) | (simp only [*, glit, nI_add, pk_mul]; congr 1; omega)) (by omega) (by omega)
        obtain ⟨h1, h2, h3, h5⟩ := WJ_in hJ (show j ≤ k by omega)
        refine g_iload C dX0_walk_37 rfl ?_
        refine g_iload_n C dX0_walk_39 rfl ?_
        refine g_icmp_ge C 58 dX0_walk_40 (by decide) (fun c_40 => ?_) (fun c_40 => ?_)
        · have k_40 := gle c_40 (a := k) (b := j) (by first | rfl | assumption | (simp only [glit, nI_add, pk_mul]; done) | (simp only [glit, nI_add, pk_mul]; congr 1; omega) | (simp only [*, glit, nI_add, pk_mul]; congr 1; omega)) (by first | rfl | assumption | (simp only [glit, nI_add, pk_mul]; done) | (simp only [glit, nI_add, pk_mul]; congr 1; omega) | (simp only [*, glit, nI_add, pk_mul]; congr 1; omega)) (by omega) (by omega)
          have ej : j = k := by omega
          refine g_aload_n C dX0_walk_58 rfl ?_
          refine g_aload_n C dX0_walk_59 rfl ?_
          refine g_iload C dX0_walk_60 rfl ?_
          refine g_iload_n C dX0_walk_62 rfl ?_
          refine g_iload_n C dX0_walk_63 rfl ?_
          refine g_iload C dX0_walk_64 rfl ?_
          refine g_callVv C sV_X0_80 dX0_walk_66 (c_X0_walkStepb11 _ δ s1 hu (j := j) (k := k) (c := c) ej hk hc (al := al) hPp K1 R (IV_0 h1 h2 h3) (hb j (by omega))) ⟨by decide, by decide⟩ (wO_A δ _) rfl rfl rfl rfl (Nat.le_of_ble_eq_true rfl) (fun s_66 h_66 => ?_)
          have hJ2 := WJ_last hU hPp ej (hw j (by omega)) h5 h_66.1 h_66.2
          refine g_aload_n C dX0_walk_69 rfl ?_
          refine g_get C dX0_walk_70 iwX0 rfl (wO_A δ _) 0 (Nat.le_of_ble_eq_true rfl) mW108 rfl rfl ?_
          refine g_astore C dX0_walk_73 (Nat.le_of_ble_eq_true rfl) rfl ?_
          refine g_lv [some _, some _, some _, some _, some _, some _, some _] (gs_some (gs_some (gs_some (gs_some (gs_some (gs_some (gs_some gs_nil))))))) ?_
          refine g_aload_n C dX0_walk_75 rfl ?_
          refine g_aload_n C dX0_walk_76 rfl ?_
          refine g_get C dX0_walk_77 iwX0 rfl (wO_A δ _) 1 (Nat.le_of_ble_eq_true rfl) mW109 rfl rfl ?_
          refine g_put C tyX0 dX0_walk_80 iwX0 tyX0_ok nmX0 rfl (wO_A δ _) 0 (Nat.le_of_ble_eq_true rfl) mW108 rfl rfl rfl rfl rfl (Nat.le_of_ble_eq_true rfl) (pPa δ _) ?_
          refine g_aload_n C dX0_walk_83 rfl ?_
          refine g_aload C dX0_walk_84 rfl ?_
          refine g_put C tyX0 dX0_walk_86 iwX0 tyX0_ok nmX0 rfl (wO_A δ _) 1 (Nat.le_of_ble_eq_true rfl) mW109 rfl rfl rfl rfl rfl (Nat.le_of_ble_eq_true rfl) (pPb δ _ _) ?_
          refine g_iinc (v := nI (j + 1)) C dX0_walk_89 rfl (ginc _ 1) rfl ?_
          refine g_lv [some _, some _, some _, some _, some _, some _, some _] (gs_some (gs_some (gs_some (gs_some (gs_some (gs_some (gs_some gs_nil))))))) ?_
          refine g_goto C 31 dX0_walk_92 (by decide) ?_
          refine g_lv [some _, some _, some _, some _, some _, some _, none] (gs_some (gs_some (gs_some (gs_some (gs_some (gs_some (gs_none gs_nil))))))) ?_
          exact ih_31 (j + 1) _ (by omega) hJ2 (by omega)
        · have k_40 := gnle c_40 (a := k) (b := j) (by first | rfl | assumption | (simp only [glit, nI_add, pk_mul]; done) | (simp only [glit, nI_add, pk_mul]; congr 1; omega) | (simp only [*, glit, nI_add, pk_mul]; congr 1; omega)) (by first | rfl | assumption | (simp only [glit, nI_add, pk_mul]; done) | (simp only [glit, nI_add, pk_mul]; congr 1; omega) | (simp only [*, glit, nI_add, pk_mul]; congr 1; omega)) (by omega) (by omega)
          have ej : j < k := by omega
          refine g_aload_n C dX0_walk_43 rfl ?_
          refine g_dup C dX0_walk_44 rfl ?_
          refine g_get C dX0_walk_45 iwX0 rfl (wO_A δ _) 7 (Nat.le_of_ble_eq_true rfl) mW117 rfl rfl ?_
          refine g_aload_n C dX0_walk_48 rfl ?_
          refine g_iload C dX0_walk_49 rfl ?_
          refine g_callSl C sS_X0_53 dX0_walk_51 (c_X0_factorAta _ δ _ hu (k := j) (by omega) K1 R) ⟨by decide, by decide⟩ rfl rfl rfl (Nat.le_of_ble_eq_true rfl) (fun r_51 s_51 h_51 => ?_)
          obtain ⟨rfl, rfl⟩ := h_51
          refine g_lmul C dX0_walk_54 ?_
          refine g_put C tyX0 dX0_walk_55 iwX0 tyX0_ok nmX0 rfl (wO_A δ _) 7 (Nat.le_of_ble_eq_true rfl) mW117 rfl rfl rfl rfl rfl (Nat.le_of_ble_eq_true rfl) (pG_6 δ _ _) ?_
          refine g_aload_n C dX0_walk_58 rfl ?_
          refine g_aload_n C dX0_walk_59 rfl ?_
          refine g_iload C dX0_walk_60 rfl ?_
          refine g_iload_n C dX0_walk_62 rfl ?_
          refine g_iload_n C dX0_walk_63 rfl ?_
          refine g_iload C dX0_walk_64 rfl ?_
          refine g_callVv C sV_X0_80 dX0_walk_66 (c_X0_walkStepb10 _ δ (uG s1 6 (gG s1 6 * lN (dF (vT v u) (vG v u) j))) hu (j := j) (k := k) (c := c) ej hk hc (hal_of (s := (uG s1 6 (gG s1 6 * lN (dF (vT v u) (vG v u) j)))) hU.2.1 (hal j ej)) hPp (KC_sk (a := σ) (gSk_G (by omega) hs) K) R (IW_0 (s := (uG s1 6 (gG s1 6 * lN (dF (vT v u) (vG v u) j)))) h1 h2) (hb j (by omega))) ⟨by decide, by decide⟩ (wO_A δ _) rfl rfl rfl rfl (Nat.le_of_ble_eq_true rfl) (fun s_66 h_66 => ?_)
          have hJ2 := WJ_next (c := c) hU hPp ej (hw j (by omega)) h3 h5 h_66.1 h_66.2
          refine g_aload_n C dX0_walk_69 rfl ?_
          refine g_get C dX0_walk_70 iwX0 rfl (wO_A δ _) 0 (Nat.le_of_ble_eq_true rfl) mW108 rfl rfl ?_
          refine g_astore C dX0_walk_73 (Nat.le_of_ble_eq_true rfl) rfl ?_
          refine g_lv [some _, some _, some _, some _, some _, some _, some _] (gs_some (gs_some (gs_some (gs_some (gs_some (gs_some (gs_some gs_nil))))))) ?_
          refine g_aload_n C dX0_walk_75 rfl ?_
          refine g_aload_n C dX0_walk_76 rfl ?_
          refine g_get C dX0_walk_77 iwX0 rfl (wO_A δ _) 1 (Nat.le_of_ble_eq_true rfl) mW109 rfl rfl ?_
          refine g_put C tyX0 dX0_walk_80 iwX0 tyX0_ok nmX0 rfl (wO_A δ _) 0 (Nat.le_of_ble_eq_true rfl) mW108 rfl rfl rfl rfl rfl (Nat.le_of_ble_eq_true rfl) (pPa δ _) ?_
          refine g_aload_n C dX0_walk_83 rfl ?_
          refine g_aload C dX0_walk_84 rfl ?_
          refine g_put C tyX0 dX0_walk_86 iwX0 tyX0_ok nmX0 rfl (wO_A δ _) 1 (Nat.le_of_ble_eq_true rfl) mW109 rfl rfl rfl rfl rfl (Nat.le_of_ble_eq_true rfl) (pPb δ _ _) ?_
          refine g_iinc (v := nI (j + 1)) C dX0_walk_89 rfl (ginc _ 1) rfl ?_
          refine g_lv [some _, some _, some _, some _, some _, some _, some _] (gs_some (gs_some (gs_some (gs_some (gs_some (gs_some (gs_some gs_nil))))))) ?_
          refine g_goto C 31 dX0_walk_92 (by decide) ?_
          refine g_lv [some _, some _, some _, some _, some _, some _, none] (gs_some (gs_some (gs_some (gs_some (gs_some (gs_some (gs_none gs_nil))))))) ?_
          exact ih_31 (j + 1) _ (by omega) hJ2 (by omega)
  refine g_lv [some _, some _, some _, some _, some _, some _, none] (gs_some (gs_some (gs_some (gs_some (gs_some (gs_some (gs_none gs_nil))))))) ?_
  exact L_31 _ 0 _ (by omega) (walk_1 hZ hf hf2) (Nat.lt_succ_self _)
set_option maxRecDepth 100000 in
set_option maxHeartbeats 4000000 in
theorem c_X0_walkb0 (l : Launch) (δ : GD) (σ : GS) {u : Nat} (hu : u < 8) {k c : Nat} (hk : k ≤ 12) (hc : c < 4) {al : Nat → Nat → Prop} (hal : ∀ j, j < k → ∀ c, c < 4 → ((gI σ 47 j < 0 ∨ gI σ 47 j = nI c) ↔ al j c)) (hZ : ZA σ) {v : GV} (K : KC σ v) (R : RV v) (hb : ∀ j, j ≤ k → ∀ x, wW false (bS (vS v) u) (tS (vS v) u) al j x < 9223372036854775808) : gM l δ yX0_walk cX0_walk 7 none 3 84 [.ref (δ.2.2.1 20), .ref (δ.2.2.1 (8 + u)), .int (nI k), .int (nI c), .int 0] σ (gPv (fun σ' => StU σ σ' ∧ ZA σ' ∧ Fin (bS (vS v) u) (tS (vS v) u) (wW false (bS (vS v) u) (tS (vS v) u) al k) k c σ' ∧ (false = true → gG σ' 6 = lN (wE (bS (vS v) u) (tS (vS v) u) al (vT v u) (vG v u) k)))) := by
  refine g_of (lv0 := [some (.ref (δ.2.2.1 20)), some (.ref (δ.2.2.1 (8 + u))), some (.int (nI k)), some (.int (nI c)), some (.int 0), none, none]) (by decide) rfl (Nat.le_of_ble_eq_true rfl) (fun Γ hl C E => ?_)
  subst hl
  have C : gC Γ δ cX0_walk RX0 7 3 84 := C
  have hn := K.2.1 u hu
  have h4 := RV_n R hu
  have hT := vT_b R hu
  have hG := vG_b R hu
  have hw : ∀ j, j ≤ k → ∀ x, ¬ wW false (bS (vS v) u) (tS (vS v) u) al j x = 0 → xOk (bS (vS v) u) (tS (vS v) u) (vC v u) j x := fun j hj => wW_ok (VS_B2 R.2.2.1 hu) (fun d hd h => (R.2.2.1.1 u hu d hd).2.1 h) (fun c hc d hd h => (R.2.2.1.2.1 u hu c hc d hd).2 (Or.inr h)) j (by omega)
  refine g_aload_n C dX0_walk_0 rfl ?_
  refine g_get C dX0_walk_1 iwX0 rfl (wO_A δ _) 5 (Nat.le_of_ble_eq_true rfl) mW113 rfl rfl ?_
  refine g_lconst (v := 0) C dX0_walk_4 (by decide) ?_
  refine g_callSv C sS_X0_77 dX0_walk_5 (c_J7_fill_d0a16 _ δ _ (q := 10) (by omega) _) ⟨by decide, by decide⟩ rfl rfl rfl (Nat.le_of_ble_eq_true rfl) (fun s_5 h_5 => ?_)
  obtain ⟨f, rfl, hf⟩ := h_5
  refine g_aload_n C dX0_walk_8 rfl ?_
  refine g_lconst (v := 0) C dX0_walk_9 (by decide) ?_
  refine g_put C tyX0 dX0_walk_10 iwX0 tyX0_ok nmX0 rfl (wO_A δ _) 7 (Nat.le_of_ble_eq_true rfl) mW117 rfl rfl rfl rfl rfl (Nat.le_of_ble_eq_true rfl) (pG_6 δ _ _) ?_
  refine g_aload_n C dX0_walk_13 rfl ?_
  refine g_get C dX0_walk_14 iwX0 rfl (wO_A δ _) 6 (Nat.le_of_ble_eq_true rfl) mW115 rfl rfl ?_
  refine g_lconst (v := 0) C dX0_walk_17 (by decide) ?_
  refine g_callSv C sS_X0_77 dX0_walk_18 (c_J7_fill_d0a16 _ δ _ (q := 11) (by omega) _) ⟨by decide, by decide⟩ rfl rfl rfl (Nat.le_of_ble_eq_true rfl) (fun s_18 h_18 => ?_)
  obtain ⟨f2, rfl, hf2⟩ := h_18
  refine g_aload_n C dX0_walk_21 rfl ?_
  refine g_get C dX0_walk_22 iwX0 rfl (wO_A δ _) 0 (Nat.le_of_ble_eq_true rfl) mW108 rfl rfl ?_
  refine g_iconst (v := 0) C dX0_walk_25 (by decide) ?_
  refine g_lconst (v := 1) C dX0_walk_26 (by decide) ?_
  refine g_lastN C dX0_walk_27 (k := 0) (q := (8 + gP _ % 2)) (by omega) (gnw _ _) (by first | rfl | assumption | (simp only [glit, nI_add, pk_mul]; done) | (simp only [glit, nI_add, pk_mul]; congr 1; omega) | (simp only [*, glit, nI_add, pk_mul]; congr 1; omega)) (by rw [gLenL_n _]; omega) ?_
  refine g_iconst (v := 0) C dX0_walk_28 (by decide) ?_
  refine g_istore C dX0_walk_29 (Nat.le_of_ble_eq_true rfl) rfl ?_
  refine g_lv [some _, some _, some _, some _, some _, some _, none] (gs_some (gs_some (gs_some (gs_some (gs_some (gs_some (gs_none gs_nil))))))) ?_
  have L_31 : ∀ (nn : Nat) (j : Nat) (s1 : GS) (hj : j ≤ k + 1) (hJ : WJ false (bS (vS v) u) (tS (vS v) u) al (vT v u) (vG v u) k c σ j s1), k + 1 - j < nn → gW Γ δ s1 31 [some (.ref (δ.2.2.1 20)), some (.ref (δ.2.2.1 (8 + u))), some (.int (nI k)), some (.int (nI c)), some (.int 0), some (.int (nI j)), none] [] := by
    intro nn
    induction nn with
    | zero =>
      intro j s1 hj hJ hm_31
      exact absurd hm_31 (Nat.not_lt_zero _)
    | succ nn ih_31 =>
      intro j s1 hj hJ hm_31
      have hU := hJ.1
      have hPp := hJ.2.1
      have hs := hU.1
      have K1 := KC_sk hs K
      refine g_iload C dX0_walk_31 rfl ?_
      refine g_iload_n C dX0_walk_33 rfl ?_
      refine g_icmp_gt C 95 dX0_walk_34 (by decide) (fun c_34 => ?_) (fun c_34 => ?_)
      · have k_34 := glt c_34 (a := k) (b := j) (by first | rfl | assumption | (simp only [glit, nI_add, pk_mul]; done) | (simp only [glit, nI_add, pk_mul]; congr 1; omega) | (simp only [*, glit, nI_add, pk_mul]; congr 1; omega)) (by first | rfl | assumption | (simp only [glit, nI_add, pk_mul]; done) | (simp only [glit, nI_add, pk_mul]; congr 1; omega) | (simp only [*, glit, nI_add, pk_mul]; congr 1; omega)) (by omega) (by omega)
        have hF := WJ_out hJ (show j = k + 1 by omega)
        exact g_vret C E dX0_walk_95 rfl ⟨rfl, hF⟩
      · have k_34 := gnlt c_34 (a := k) (b := j) (by first | rfl | assumption | (simp only [glit, nI_add, pk_mul]; done) | (simp only [glit, nI_add, pk_mul]; congr 1; omega) | (simp only [*, glit, nI_add, pk_mul]; congr 1; omega)) (by first | rfl | assumption | (simp only [glit, nI_add, pk_mul]; done) | (simp only [glit, nI_add, pk_mul]; congr 1; omega) | (simp only [*, glit, nI_add, pk_mul]; congr 1; omega)) (by omega) (by omega)
        obtain ⟨h1, h2, h3, h5⟩ := WJ_in hJ (show j ≤ k by omega)
        refine g_iload C dX0_walk_37 rfl ?_
        refine g_iload_n C dX0_walk_39 rfl ?_
        refine g_icmp_ge C 58 dX0_walk_40 (by decide) (fun c_40 => ?_) (fun c_40 => ?_)
        · have k_40 := gle c_40 (a := k) (b := j) (by first | rfl | assumption | (simp only [glit, nI_add, pk_mul]; done) | (simp only [glit, nI_add, pk_mul]; congr 1; omega) | (simp only [*, glit, nI_add, pk_mul]; congr 1; omega)) (by first | rfl | assumption | (simp only [glit, nI_add, pk_mul]; done) | (simp only [glit, nI_add, pk_mul]; congr 1; omega) | (simp only [*, glit, nI_add, pk_mul]; congr 1; omega)) (by omega) (by omega)
          have ej : j = k := by omega
          refine g_aload_n C dX0_walk_58 rfl ?_
          refine g_aload_n C dX0_walk_59 rfl ?_
          refine g_iload C dX0_walk_60 rfl ?_
          refine g_iload_n C dX0_walk_62 rfl ?_
          refine g_iload_n C dX0_walk_63 rfl ?_
          refine g_iload C dX0_walk_64 rfl ?_
          refine g_callVv C sV_X0_80 dX0_walk_66 (c_X0_walkStepb01 _ δ s1 hu (j := j) (k := k) (c := c) ej hk hc (al := al) hPp K1 R (IV_0 h1 h2 h3) (hb j (by omega))) ⟨by decide, by decide⟩ (wO_A δ _) rfl rfl rfl rfl (Nat.le_of_ble_eq_true rfl) (fun s_66 h_66 => ?_)
          have hJ2 := WJ_last hU hPp ej (hw j (by omega)) h5 h_66.1 h_66.2
          refine g_aload_n C dX0_walk_69 rfl ?_
          refine g_get C dX0_walk_70 iwX0 rfl (wO_A δ _) 0 (Nat.le_of_ble_eq_true rfl) mW108 rfl rfl ?_
          refine g_astore C dX0_walk_73 (Nat.le_of_ble_eq_true rfl) rfl ?_
          refine g_lv [some _, some _, some _, some _, some _, some _, some _] (gs_some (gs_some (gs_some (gs_some (gs_some (gs_some (gs_some gs_nil))))))) ?_
          refine g_aload_n C dX0_walk_75 rfl ?_
          refine g_aload_n C dX0_walk_76 rfl ?_
          refine g_get C dX0_walk_77 iwX0 rfl (wO_A δ _) 1 (Nat.le_of_ble_eq_true rfl) mW109 rfl rfl ?_
          refine g_put C tyX0 dX0_walk_80 iwX0 tyX0_ok nmX0 rfl (wO_A δ _) 0 (Nat.le_of_ble_eq_true rfl) mW108 rfl rfl rfl rfl rfl (Nat.le_of_ble_eq_true rfl) (pPa δ _) ?_
          refine g_aload_n C dX0_walk_83 rfl ?_
          refine g_aload C dX0_walk_84 rfl ?_
          refine g_put C tyX0 dX0_walk_86 iwX0 tyX0_ok nmX0 rfl (wO_A δ _) 1 (Nat.le_of_ble_eq_true rfl) mW109 rfl rfl rfl rfl rfl (Nat.le_of_ble_eq_true rfl) (pPb δ _ _) ?_
          refine g_iinc (v := nI (j + 1)) C dX0_walk_89 rfl (ginc _ 1) rfl ?_
          refine g_lv [some _, some _, some _, some _, some _, some _, some _] (gs_some (gs_some (gs_some (gs_some (gs_some (gs_some (gs_some gs_nil))))))) ?_
          refine g_goto C 31 dX0_walk_92 (by decide) ?_
          refine g_lv [some _, some _, some _, some _, some _, some _, none] (gs_some (gs_some (gs_some (gs_some (gs_some (gs_some (gs_none gs_nil))))))) ?_
          exact ih_31 (j + 1) _ (by omega) hJ2 (by omega)
        · have k_40 := gnle c_40 (a := k) (b := j) (by first | rfl | assumption | (simp only [glit, nI_add, pk_mul]; done) | (simp only [glit, nI_add, pk_mul]; congr 1; omega) | (simp only [*, glit, nI_add, pk_mul]; congr 1; omega)) (by first | rfl | assumption | (simp only [glit, nI_add, pk_mul]; done) | (simp only [glit, nI_add, pk_mul]; congr 1; omega) | (simp only [*, glit, nI_add, pk_mul]; congr 1; omega)) (by omega) (by omega)
          have ej : j < k := by omega
          refine g_aload_n C dX0_walk_43 rfl ?_
          refine g_dup C dX0_walk_44 rfl ?_
          refine g_get C dX0_walk_45 iwX0 rfl (wO_A δ _) 7 (Nat.le_of_ble_eq_true rfl) mW117 rfl rfl ?_
          refine g_aload_n C dX0_walk_48 rfl ?_
          refine g_iload C dX0_walk_49 rfl ?_
          refine g_callSl C sS_X0_53 dX0_walk_51 (c_X0_factorAta _ δ _ hu (k := j) (by omega) K1 R) ⟨by decide, by decide⟩ rfl rfl rfl (Nat.le_of_ble_eq_true rfl) (fun r_51 s_51 h_51 => ?_)
          obtain ⟨rfl, rfl⟩ := h_51
          refine g_lmul C dX0_walk_54 ?_
          refine g_put C tyX0 dX0_walk_55 iwX0 tyX0_ok nmX0 rfl (wO_A δ _) 7 (Nat.le_of_ble_eq_true rfl) mW117 rfl rfl rfl rfl rfl (Nat.le_of_ble_eq_true rfl) (pG_6 δ _ _) ?_
          refine g_aload_n C dX0_walk_58 rfl ?_
          refine g_aload_n C dX0_walk_59 rfl ?_
          refine g_iload C dX0_walk_60 rfl ?_
          refine g_iload_n C dX0_walk_62 rfl ?_
          refine g_iload_n C dX0_walk_63 rfl ?_
          refine g_iload C dX0_walk_64 rfl ?_
          refine g_callVv C sV_X0_80 dX0_walk_66 (c_X0_walkStepb00 _ δ (uG s1 6 (gG s1 6 * lN (dF (vT v u) (vG v u) j))) hu (j := j) (k := k) (c := c) ej hk hc (hal_of (s := (uG s1 6 (gG s1 6 * lN (dF (vT v u) (vG v u) j)))) hU.2.1 (hal j ej)) hPp (KC_sk (a := σ) (gSk_G (by omega) hs) K) R (IW_0 (s := (uG s1 6 (gG s1 6 * lN (dF (vT v u) (vG v u) j)))) h1 h2) (hb j (by omega))) ⟨by decide, by decide⟩ (wO_A δ _) rfl rfl rfl rfl (Nat.le_of_ble_eq_true rfl) (fun s_66 h_66 => ?_)
          have hJ2 := WJ_next (c := c) hU hPp ej (hw j (by omega)) h3 h5 h_66.1 h_66.2
          refine g_aload_n C dX0_walk_69 rfl ?_
          refine g_get C dX0_walk_70 iwX0 rfl (wO_A δ _) 0 (Nat.le_of_ble_eq_true rfl) mW108 rfl rfl ?_
          refine g_astore C dX0_walk_73 (Nat.le_of_ble_eq_true rfl) rfl ?_
          refine g_lv [some _, some _, some _, some _, some _, some _, some _] (gs_some (gs_some (gs_some (gs_some (gs_some (gs_some (gs_some gs_nil))))))) ?_
          refine g_aload_n C dX0_walk_75 rfl ?_
          refine g_aload_n C dX0_walk_76 rfl ?_
          refine g_get C dX0_walk_77 iwX0 rfl (wO_A δ _) 1 (Nat.le_of_ble_eq_true rfl) mW109 rfl rfl ?_
          refine g_put C tyX0 dX0_walk_80 iwX0 tyX0_ok nmX0 rfl (wO_A δ _) 0 (Nat.le_of_ble_eq_true rfl) mW108 rfl rfl rfl rfl rfl (Nat.le_of_ble_eq_true rfl) (pPa δ _) ?_
          refine g_aload_n C dX0_walk_83 rfl ?_
          refine g_aload C dX0_walk_84 rfl ?_
          refine g_put C tyX0 dX0_walk_86 iwX0 tyX0_ok nmX0 rfl (wO_A δ _) 1 (Nat.le_of_ble_eq_true rfl) mW109 rfl rfl rfl rfl rfl (Nat.le_of_ble_eq_true rfl) (pPb δ _ _) ?_
          refine g_iinc (v := nI (j + 1)) C dX0_walk_89 rfl (ginc _ 1) rfl ?_
          refine g_lv [some _, some _, some _, some _, some _, some _, some _] (gs_some (gs_some (gs_some (gs_some (gs_some (gs_some (gs_some gs_nil))))))) ?_
          refine g_goto C 31 dX0_walk_92 (by decide) ?_
          refine g_lv [some _, some _, some _, some _, some _, some _, none] (gs_some (gs_some (gs_some (gs_some (gs_some (gs_some (gs_none gs_nil))))))) ?_
          exact ih_31 (j + 1) _ (by omega) hJ2 (by omega)
  refine g_lv [some _, some _, some _, some _, some _, some _, none] (gs_some (gs_some (gs_some (gs_some (gs_some (gs_some (gs_none gs_nil))))))) ?_
  exact L_31 _ 0 _ (by omega) (walk_1 hZ hf hf2) (Nat.lt_succ_self _)
