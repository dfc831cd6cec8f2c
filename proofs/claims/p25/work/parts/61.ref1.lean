set_option maxRecDepth 100000 in
set_option maxHeartbeats 4000000 in
theorem c_X0_factorAta (l : Launch) (δ : GD) (σ : GS) {u : Nat} (hu : u < 8) {k : Nat} (hk : k ≤ 12) {v : GV} (K : KC σ v) (R : RV v) : gM l δ yX0_factorAt cX0_factorAt 3 (some .long) 1 23 [.ref (δ.2.2.1 (8 + u)), .int (nI k)] σ (gPl (fun x σ' => σ = σ' ∧ x = lN (dF (vT v u) (vG v u) k))) := by
  refine g_of (lv0 := [some (.ref (δ.2.2.1 (8 + u))), some (.int (nI k)), none]) (by decide) rfl (Nat.le_of_ble_eq_true rfl) (fun Γ hl C E => ?_)
  subst hl
  have C : gC Γ δ cX0_factorAt RX0 3 1 23 := C
  have hn := K.2.1 u hu
  have h4 := RV_n R hu
  have hT := vT_b R hu
  have hG := vG_b R hu
  refine g_aload_n C dX0_factorAt_0 rfl ?_
  refine g_callVi C sV_X0_59 dX0_factorAt_1 (c_X7_total _ δ _ hu) ⟨by decide, by decide⟩ (wO_U δ _ hu) rfl rfl rfl rfl (Nat.le_of_ble_eq_true rfl) (fun r_1 s_1 h_1 => ?_)
  obtain ⟨rfl, rfl⟩ := h_1
  rw [KC_sum K hu]
  refine g_iload_n C dX0_factorAt_4 rfl ?_
  refine g_aload_n C dX0_factorAt_5 rfl ?_
  refine g_iconst (v := 0) C dX0_factorAt_6 (by decide) ?_
  refine g_callVi C sV_X0_65 dX0_factorAt_7 (c_X7_growth _ δ _ hu (c := 0) (by omega) hn h4) ⟨by decide, by decide⟩ (wO_U δ _ hu) rfl rfl rfl rfl (Nat.le_of_ble_eq_true rfl) (fun r_7 s_7 h_7 => ?_)
  obtain ⟨rfl, rfl⟩ := h_7
  rw [KC_gr K R hu (by omega)]
  refine g_imul C dX0_factorAt_10 ?_
  refine g_iadd C dX0_factorAt_11 ?_
  refine g_istore_n C dX0_factorAt_12 (Nat.le_of_ble_eq_true rfl) rfl ?_
  refine g_lv [some _, some _, some _] (gs_some (gs_some (gs_some gs_nil))) ?_
  refine g_iload_n C dX0_factorAt_13 rfl ?_
  refine g_if_le C 22 dX0_factorAt_14 (by decide) (fun c_14 => ?_) (fun c_14 => ?_)
  · refine g_lconst (v := 1) C dX0_factorAt_22 (by decide) ?_
    exact g_lret C E dX0_factorAt_23 rfl ⟨_, rfl, ⟨rfl, by first | exact gfac_p hT hG hk c_14 | exact gfac_n hT hG hk c_14⟩⟩
  · refine g_iload_n C dX0_factorAt_17 rfl ?_
    refine g_i2l C dX0_factorAt_18 ?_
    refine g_goto C 23 dX0_factorAt_19 (by decide) ?_
    exact g_lret C E dX0_factorAt_23 rfl ⟨_, rfl, ⟨rfl, by first | exact gfac_p hT hG hk c_14 | exact gfac_n hT hG hk c_14⟩⟩
set_option maxRecDepth 100000 in
set_option maxHeartbeats 4000000 in
theorem c_X0_findBelowa (l : Launch) (δ : GD) (σ : GS) {u : Nat} (hu : u < 8) {k : Nat} (hk : k ≤ 12) {v : GV} (K : KC σ v) (R : RV v) : gM l δ yX0_findBelow cX0_findBelow 6 (some .boolean) 2 45 [.ref (δ.2.2.1 20), .ref (δ.2.2.1 (8 + u)), .int (nI k)] σ (gPi (fun x σ' => gSm σ σ' ∧ ((x = 1 ∧ dD (vT v u) (vG v u) k ≤ 10000000000000000 ∧ gG σ' 7 = lN (dD (vT v u) (vG v u) k)) ∨ (x = 0 ∧ 10000000000000000 < dD (vT v u) (vG v u) k)))) := by
  refine g_of (lv0 := [some (.ref (δ.2.2.1 20)), some (.ref (δ.2.2.1 (8 + u))), some (.int (nI k)), none, none, none]) (by decide) rfl (Nat.le_of_ble_eq_true rfl) (fun Γ hl C E => ?_)
  subst hl
  have C : gC Γ δ cX0_findBelow RX0 6 2 45 := C
  have hn := K.2.1 u hu
  have h4 := RV_n R hu
  have hT := vT_b R hu
  have hG := vG_b R hu
  refine g_aload_n C dX0_findBelow_0 rfl ?_
  refine g_lconst (v := 1) C dX0_findBelow_1 (by decide) ?_
  refine g_put C tyX0 dX0_findBelow_2 iwX0 tyX0_ok nmX0 rfl (wO_A δ _) 8 (Nat.le_of_ble_eq_true rfl) mW119 rfl rfl rfl rfl rfl (Nat.le_of_ble_eq_true rfl) (pG_7 δ _ _) ?_
  refine g_iconst (v := 0) C dX0_findBelow_5 (by decide) ?_
  refine g_istore_n C dX0_findBelow_6 (Nat.le_of_ble_eq_true rfl) rfl ?_
  refine g_lv [some _, some _, some _, some _, none, none] (gs_some (gs_some (gs_some (gs_some (gs_none (gs_none gs_nil)))))) ?_
  have L_7 : ∀ (nn : Nat) (i : Nat) (s1 : GS) (hi : i ≤ k) (hs : gSm σ s1) (hb : gG s1 7 = lN (dD (vT v u) (vG v u) i)) (hl : dD (vT v u) (vG v u) i ≤ 10000000000000000), k - i < nn → gW Γ δ s1 7 [some (.ref (δ.2.2.1 20)), some (.ref (δ.2.2.1 (8 + u))), some (.int (nI k)), some (.int (nI i)), none, none] [] := by
    intro nn
    induction nn with
    | zero =>
      intro i s1 hi hs hb hl hm_7
      exact absurd hm_7 (Nat.not_lt_zero _)
    | succ nn ih_7 =>
      intro i s1 hi hs hb hl hm_7
      have K1 := KC_sm hs K
      refine g_iload_n C dX0_findBelow_7 rfl ?_
      refine g_iload_n C dX0_findBelow_8 rfl ?_
      refine g_icmp_ge C 52 dX0_findBelow_9 (by decide) (fun c_9 => ?_) (fun c_9 => ?_)
      · have k_9 := gle c_9 (a := k) (b := i) (by first | rfl | assumption | (simp only [glit, nI_add, pk_mul]; done) | (simp only [glit, nI_add, pk_mul]; congr 1; omega) | (simp only [*, glit, nI_add, pk_mul]; congr 1; omega)) (by first | rfl | assumption | (simp only [glit, nI_add, pk_mul]; done) | (simp only [glit, nI_add, pk_mul]; congr 1; omega) | (simp only [*, glit, nI_add, pk_mul]; congr 1; omega)) (by omega) (by omega)
        have ek : k = i := by omega
        subst ek
        refine g_iconst (v := 1) C dX0_findBelow_52 (by decide) ?_
        exact g_iret C E dX0_findBelow_53 rfl rfl ⟨_, rfl, ⟨(by repeat (first | (with_reducible assumption) | (with_reducible exact gSm_r _) | (with_reducible refine gSm_I (by omega) ?_) | (with_reducible refine gSm_L (by omega) ?_) | (with_reducible refine gSm_N (by omega) ?_) | (with_reducible refine gSm_G (by omega) ?_) | (with_reducible refine gSm_P ?_))), Or.inl ⟨rfl, hl, hb⟩⟩⟩
      · have k_9 := gnle c_9 (a := k) (b := i) (by first | rfl | assumption | (simp only [glit, nI_add, pk_mul]; done) | (simp only [glit, nI_add, pk_mul]; congr 1; omega) | (simp only [*, glit, nI_add, pk_mul]; congr 1; omega)) (by first | rfl | assumption | (simp only [glit, nI_add, pk_mul]; done) | (simp only [glit, nI_add, pk_mul]; congr 1; omega) | (simp only [*, glit, nI_add, pk_mul]; congr 1; omega)) (by omega) (by omega)
        refine g_aload_n C dX0_findBelow_12 rfl ?_
        refine g_iload_n C dX0_findBelow_13 rfl ?_
        refine g_callSl C sS_X0_53 dX0_findBelow_14 (c_X0_factorAta _ δ _ hu (k := i) (by omega) K1 R) ⟨by decide, by decide⟩ rfl rfl rfl (Nat.le_of_ble_eq_true rfl) (fun r_14 s_14 h_14 => ?_)
        obtain ⟨rfl, rfl⟩ := h_14
        have f1 := dF_1 (vT v u) (vG v u) i
        have f2 := dF_2 hT hG (show i ≤ 12 by omega)
        refine g_lstore C dX0_findBelow_17 (Nat.le_of_ble_eq_true rfl) rfl ?_
        refine g_lv [some _, some _, some _, some _, some _, none] (gs_some (gs_some (gs_some (gs_some (gs_some (gs_none gs_nil)))))) ?_
        refine g_aload_n C dX0_findBelow_19 rfl ?_
        refine g_get C dX0_findBelow_20 iwX0 rfl (wO_A δ _) 8 (Nat.le_of_ble_eq_true rfl) mW119 rfl rfl ?_
        rw [hb]
        refine g_ldc2 C dX0_findBelow_23 mW462 ?_
        refine g_lload C dX0_findBelow_26 rfl ?_
        refine g_ldiv C dX0_findBelow_28 (lNz f1 (by omega)) ?_
        refine g_lcmp C dX0_findBelow_29 ?_
        refine g_if_le C 35 dX0_findBelow_30 (by decide) (fun c_30 => ?_) (fun c_30 => ?_)
        · rw [lg_cmp_le] at c_30
          rw [dl_le hl f1 f2] at c_30
          refine g_aload_n C dX0_findBelow_35 rfl ?_
          refine g_dup C dX0_findBelow_36 rfl ?_
          refine g_get C dX0_findBelow_37 iwX0 rfl (wO_A δ _) 8 (Nat.le_of_ble_eq_true rfl) mW119 rfl rfl ?_
          rw [hb]
          refine g_lload C dX0_findBelow_40 rfl ?_
          refine g_lmul C dX0_findBelow_42 ?_
          refine g_put C tyX0 dX0_findBelow_43 iwX0 tyX0_ok nmX0 rfl (wO_A δ _) 8 (Nat.le_of_ble_eq_true rfl) mW119 rfl rfl rfl rfl rfl (Nat.le_of_ble_eq_true rfl) (pG_7 δ _ _) ?_
          refine g_iinc (v := nI (i + 1)) C dX0_findBelow_46 rfl (ginc _ 1) rfl ?_
          refine g_lv [some _, some _, some _, some _, some _, none] (gs_some (gs_some (gs_some (gs_some (gs_some (gs_none gs_nil)))))) ?_
          refine g_goto C 7 dX0_findBelow_49 (by decide) ?_
          refine g_lv [some _, some _, some _, some _, none, none] (gs_some (gs_some (gs_some (gs_some (gs_none (gs_none gs_nil)))))) ?_
          exact ih_7 (i + 1) _ (by omega) (by repeat (first | (with_reducible assumption) | (with_reducible exact gSm_r _) | (with_reducible refine gSm_I (by omega) ?_) | (with_reducible refine gSm_L (by omega) ?_) | (with_reducible refine gSm_N (by omega) ?_) | (with_reducible refine gSm_G (by omega) ?_) | (with_reducible refine gSm_P ?_))) (by rw [gG_uG, if_pos rfl]; exact lN_mul _ _) c_30 (by omega)
        · rw [lg_cmp_le] at c_30
          rw [dl_le hl f1 f2] at c_30
          refine g_iconst (v := 0) C dX0_findBelow_33 (by decide) ?_
          exact g_iret C E dX0_findBelow_34 rfl rfl ⟨_, rfl, ⟨(by repeat (first | (with_reducible assumption) | (with_reducible exact gSm_r _) | (with_reducible refine gSm_I (by omega) ?_) | (with_reducible refine gSm_L (by omega) ?_) | (with_reducible refine gSm_N (by omega) ?_) | (with_reducible refine gSm_G (by omega) ?_) | (with_reducible refine gSm_P ?_))), Or.inr ⟨rfl, dD_big (i := i) (Nat.not_le.mp c_30) (by omega)⟩⟩⟩
  refine g_lv [some _, some _, some _, some _, none, none] (gs_some (gs_some (gs_some (gs_some (gs_none (gs_none gs_nil)))))) ?_
  exact L_7 _ 0 _ (by omega) (by repeat (first | (with_reducible assumption) | (with_reducible exact gSm_r _) | (with_reducible refine gSm_I (by omega) ?_) | (with_reducible refine gSm_L (by omega) ?_) | (with_reducible refine gSm_N (by omega) ?_) | (with_reducible refine gSm_G (by omega) ?_) | (with_reducible refine gSm_P ?_))) rfl (show 1 ≤ 10000000000000000 by decide) (Nat.lt_succ_self _)
set_option maxRecDepth 100000 in
set_option maxHeartbeats 4000000 in
theorem c_X8_weighRowsa (l : Launch) (δ : GD) (σ : GS) {u : Nat} (hu : u < 8) {k c : Nat} (hk : k ≤ 12) (hc : c < 4) {v : GV} (K : KC σ v) (R : RV v) : gM l δ yX8_weighRows cX8_weighRows 4 (some .int) 5 133 [.ref (δ.2.2.1 0), .ref (δ.2.2.1 (8 + u)), .int (nI k), .int (nI c)] σ (gPi (fun x σ' => x = aEv v u k ∧ gSm σ σ')) := by
  refine g_of (lv0 := [some (.ref (δ.2.2.1 0)), some (.ref (δ.2.2.1 (8 + u))), some (.int (nI k)), some (.int (nI c))]) (by decide) rfl (Nat.le_of_ble_eq_true rfl) (fun Γ hl C E => ?_)
  subst hl
  have C : gC Γ δ cX8_weighRows RX8 4 5 133 := C
  have hn := K.2.1 u hu
  have h4 := RV_n R hu
  have hT := vT_b R hu
  have hG := vG_b R hu
  refine g_aload_n C dX8_weighRows_0 rfl ?_
  refine g_callVi C sV_X8_136 dX8_weighRows_1 (c_X7_isEven _ δ _ hu hn h4) ⟨by decide, by decide⟩ (wO_U δ _ hu) rfl rfl rfl rfl (Nat.le_of_ble_eq_true rfl) (fun r_1 s_1 h_1 => ?_)
  obtain ⟨rfl, h_1⟩ := h_1
  rcases h_1 with ⟨rfl, h_1⟩ | ⟨rfl, h_1⟩
  · have he := (KC_ev K R hu).mp h_1
    refine g_if_eq C 14 dX8_weighRows_4 (by decide) (fun c_4 => ?_) (fun c_4 => ?_)
    · exact absurd c_4 (by decide)
    · refine g_aload_n C dX8_weighRows_7 rfl ?_
      refine g_callVi C sV_X8_129 dX8_weighRows_8 (c_X7_total _ δ _ hu) ⟨by decide, by decide⟩ (wO_U δ _ hu) rfl rfl rfl rfl (Nat.le_of_ble_eq_true rfl) (fun r_8 s_8 h_8 => ?_)
      obtain ⟨rfl, rfl⟩ := h_8
      rw [KC_sum K hu]
      refine g_if_ne C 17 dX8_weighRows_11 (by decide) (fun c_11 => ?_) (fun c_11 => ?_)
      · refine g_aload_n C dX8_weighRows_17 rfl ?_
        refine g_get C dX8_weighRows_18 iwX8 rfl (wO_X δ _) 6 (Nat.le_of_ble_eq_true rfl) mW223 rfl rfl ?_
        refine g_aload_n C dX8_weighRows_21 rfl ?_
        refine g_iload_n C dX8_weighRows_22 rfl ?_
        refine g_callVi C sV_X8_228 dX8_weighRows_23 (c_X0_findBelowa _ δ _ hu hk K R) ⟨by decide, by decide⟩ (wO_A δ _) rfl rfl rfl rfl (Nat.le_of_ble_eq_true rfl) (fun r_23 s_23 h_23 => ?_)
        obtain ⟨z_23, h_23⟩ := h_23
        rcases h_23 with ⟨rfl, hl, hb⟩ | ⟨rfl, hl⟩
        · skip
          refine g_if_ne C 32 dX8_weighRows_26 (by decide) (fun c_26 => ?_) (fun c_26 => ?_)
          · refine g_aload_n C dX8_weighRows_32 rfl ?_
            refine g_get C dX8_weighRows_33 iwX8 rfl (wO_X δ _) 6 (Nat.le_of_ble_eq_true rfl) mW223 rfl rfl ?_
            refine g_callVv C sV_X8_218 dX8_weighRows_36 (c_X0_letAny _ δ _) ⟨by decide, by decide⟩ (wO_A δ _) rfl rfl rfl rfl (Nat.le_of_ble_eq_true rfl) (fun s_36 h_36 => ?_)
            have z_36 : gSm σ s_36 := gSm_t (by repeat (first | (with_reducible assumption) | (with_reducible exact gSm_r _) | (with_reducible refine gSm_I (by omega) ?_) | (with_reducible refine gSm_L (by omega) ?_) | (with_reducible refine gSm_N (by omega) ?_) | (with_reducible refine gSm_G (by omega) ?_) | (with_reducible refine gSm_P ?_))) h_36
            refine g_aload_n C dX8_weighRows_39 rfl ?_
            refine g_get C dX8_weighRows_40 iwX8 rfl (wO_X δ _) 6 (Nat.le_of_ble_eq_true rfl) mW223 rfl rfl ?_
            refine g_aload_n C dX8_weighRows_43 rfl ?_
            refine g_iload_n C dX8_weighRows_44 rfl ?_
            refine g_iload_n C dX8_weighRows_45 rfl ?_
            refine g_callVv C sV_X8_232 dX8_weighRows_46 (c_X0_weigh _ δ _ hu hk hc ((gSm_n z_36 (by omega)).trans hn) h4) ⟨by decide, by decide⟩ (wO_A δ _) rfl rfl rfl rfl (Nat.le_of_ble_eq_true rfl) (fun s_46 h_46 => ?_)
            have z_46 : gSm σ s_46 := gSm_t (by repeat (first | (with_reducible assumption) | (with_reducible exact gSm_r _) | (with_reducible refine gSm_I (by omega) ?_) | (with_reducible refine gSm_L (by omega) ?_) | (with_reducible refine gSm_N (by omega) ?_) | (with_reducible refine gSm_G (by omega) ?_) | (with_reducible refine gSm_P ?_))) h_46
            refine g_iconst (v := 0) C dX8_weighRows_49 (by decide) ?_
            exact g_iret C E dX8_weighRows_50 rfl rfl ⟨_, rfl, ⟨(aEv_0 he c_11 hl).symm, (by repeat (first | (with_reducible assumption) | (with_reducible exact gSm_r _) | (with_reducible refine gSm_I (by omega) ?_) | (with_reducible refine gSm_L (by omega) ?_) | (with_reducible refine gSm_N (by omega) ?_) | (with_reducible refine gSm_G (by omega) ?_) | (with_reducible refine gSm_P ?_)))⟩⟩
          · exact absurd c_26 (by decide)
        · skip
          refine g_if_ne C 32 dX8_weighRows_26 (by decide) (fun c_26 => ?_) (fun c_26 => ?_)
          · exact absurd c_26 (by decide)
          · refine g_bipush (v := (-6)) C dX8_weighRows_29 (by decide) ?_
            exact g_iret C E dX8_weighRows_31 rfl rfl ⟨_, rfl, ⟨(aEv_b he c_11 hl).symm, (by repeat (first | (with_reducible assumption) | (with_reducible exact gSm_r _) | (with_reducible refine gSm_I (by omega) ?_) | (with_reducible refine gSm_L (by omega) ?_) | (with_reducible refine gSm_N (by omega) ?_) | (with_reducible refine gSm_G (by omega) ?_) | (with_reducible refine gSm_P ?_)))⟩⟩
      · refine g_bipush (v := (-2)) C dX8_weighRows_14 (by decide) ?_
        exact g_iret C E dX8_weighRows_16 rfl rfl ⟨_, rfl, ⟨by first | exact (aEv_e (Or.inl he)).symm | exact (aEv_e (Or.inr c_11)).symm, (by repeat (first | (with_reducible assumption) | (with_reducible exact gSm_r _) | (with_reducible refine gSm_I (by omega) ?_) | (with_reducible refine gSm_L (by omega) ?_) | (with_reducible refine gSm_N (by omega) ?_) | (with_reducible refine gSm_G (by omega) ?_) | (with_reducible refine gSm_P ?_)))⟩⟩
  · have he := fun z => h_1 ((KC_ev K R hu).mpr z)
    refine g_if_eq C 14 dX8_weighRows_4 (by decide) (fun c_4 => ?_) (fun c_4 => ?_)
    · refine g_bipush (v := (-2)) C dX8_weighRows_14 (by decide) ?_
      exact g_iret C E dX8_weighRows_16 rfl rfl ⟨_, rfl, ⟨by first | exact (aEv_e (Or.inl he)).symm | exact (aEv_e (Or.inr c_11)).symm, (by repeat (first | (with_reducible assumption) | (with_reducible exact gSm_r _) | (with_reducible refine gSm_I (by omega) ?_) | (with_reducible refine gSm_L (by omega) ?_) | (with_reducible refine gSm_N (by omega) ?_) | (with_reducible refine gSm_G (by omega) ?_) | (with_reducible refine gSm_P ?_)))⟩⟩
    · exact absurd c_4 (by decide)
set_option maxRecDepth 100000 in
set_option maxHeartbeats 4000000 in
theorem c_X8_timesa (l : Launch) (δ : GD) (σ : GS) (a0 a1 a2 a3 : Int32) {v : GV} (K : KC σ v) (R : RV v) : gM l δ yX8_times cX8_times 7 (some .int) 6 156 [.ref (δ.2.2.1 0), .int a0, .int a1, .int a2, .int a3] σ (gPi (fun x σ' => x = aTimes v a0 a1 a2 a3 ∧ gSm σ σ')) := by
  refine g_of (lv0 := [some (.ref (δ.2.2.1 0)), some (.int a0), some (.int a1), some (.int a2), some (.int a3), none, none]) (by decide) rfl (Nat.le_of_ble_eq_true rfl) (fun Γ hl C E => ?_)
  subst hl
  have C : gC Γ δ cX8_times RX8 7 6 156 := C
  have hm := K.1
  have h8 := R.1
  obtain ⟨kn, hkn, hx, -⟩ := id K.2.2.2.2
  have hl := K.2.2.2.1.2
  have h20 := K.2.2.2.1.1
  refine g_aload_n C dX8_times_0 rfl ?_
  refine g_iload_n C dX8_times_1 rfl ?_
  refine g_callVr C sV_X8_101 dX8_times_2 (c_X8_urnAt _ δ _ _ hm h8) ⟨by decide, by decide⟩ (wO_X δ _) rfl rfl rfl rfl (Nat.le_of_ble_eq_true rfl) (fun r_2 s_2 h_2 => ?_)
  obtain ⟨rfl, h_2⟩ := h_2
  rcases h_2 with ⟨rfl, h_2⟩ | ⟨u_2, hu_2, e_2, rfl⟩
  · skip
    refine g_astoreN C dX8_times_5 (Nat.le_of_ble_eq_true rfl) rfl ?_
    refine g_lv [some _, some _, some _, some _, some _, some _, none] (gs_some (gs_some (gs_some (gs_some (gs_some (gs_some (gs_none gs_nil))))))) ?_
    refine g_aloadN C dX8_times_7 rfl ?_
    refine g_ifnull_n C 40 dX8_times_9 (by decide) ?_
    refine g_iconst (v := (-1)) C dX8_times_40 (by decide) ?_
    exact g_iret C E dX8_times_41 rfl rfl ⟨_, rfl, ⟨(by first | exact (gIf_f (fun z => h_2 z.1.1)).symm | exact (gIf_f (fun z => h_13 z.1.2)).symm | exact (gIf_f (fun z => h_22 ((okC_n hu8).mp z.2.1))).symm | exact (gIf_f (fun z => gIx13n (Or.inl c_30) z.2.2)).symm | exact (gIf_f (fun z => gIx13n (Or.inr c_37) z.2.2)).symm), (by repeat (first | (with_reducible assumption) | (with_reducible exact gSm_r _) | (with_reducible refine gSm_I (by omega) ?_) | (with_reducible refine gSm_L (by omega) ?_) | (with_reducible refine gSm_N (by omega) ?_) | (with_reducible refine gSm_G (by omega) ?_) | (with_reducible refine gSm_P ?_)))⟩⟩
  · have hu8 : u_2 < 8 := by omega
    obtain ⟨h2, h4⟩ := (R.2.1 u_2 hu8).1 hu_2
    have hn := K.2.1 u_2 hu8
    subst e_2
    refine g_astore C dX8_times_5 (Nat.le_of_ble_eq_true rfl) rfl ?_
    refine g_lv [some _, some _, some _, some _, some _, some _, none] (gs_some (gs_some (gs_some (gs_some (gs_some (gs_some (gs_none gs_nil))))))) ?_
    refine g_aload C dX8_times_7 rfl ?_
    refine g_ifnull_r C dX8_times_9 ?_
    refine g_iload_n C dX8_times_12 rfl ?_
    refine g_callSi C sS_X8_192 dX8_times_13 (c_X8_areDraws _ δ _ _) ⟨by decide, by decide⟩ rfl rfl rfl (Nat.le_of_ble_eq_true rfl) (fun r_13 s_13 h_13 => ?_)
    obtain ⟨rfl, h_13⟩ := h_13
    rcases h_13 with ⟨rfl, h_13⟩ | ⟨rfl, h_13⟩
    · obtain ⟨k1, hk1, rfl⟩ := id h_13
      refine g_if_eq C 40 dX8_times_16 (by decide) (fun c_16 => ?_) (fun c_16 => ?_)
      · exact absurd c_16 (by decide)
      · refine g_aload C dX8_times_19 rfl ?_
        refine g_iload_n C dX8_times_21 rfl ?_
        refine g_callVi C sV_X8_105 dX8_times_22 (c_X7_has _ δ _ hu8 _ hn h4) ⟨by decide, by decide⟩ (wO_U δ _ hu8) rfl rfl rfl rfl (Nat.le_of_ble_eq_true rfl) (fun r_22 s_22 h_22 => ?_)
        obtain ⟨rfl, h_22⟩ := h_22
        rcases h_22 with ⟨rfl, h_22⟩ | ⟨rfl, h_22⟩
        · obtain ⟨c1, hc1, rfl⟩ := id h_22
          refine g_if_eq C 40 dX8_times_25 (by decide) (fun c_25 => ?_) (fun c_25 => ?_)
          · exact absurd c_25 (by decide)
          · refine g_iload C dX8_times_28 rfl ?_
            refine g_if_lt C 40 dX8_times_30 (by decide) (fun c_30 => ?_) (fun c_30 => ?_)
            · refine g_iconst (v := (-1)) C dX8_times_40 (by decide) ?_
              exact g_iret C E dX8_times_41 rfl rfl ⟨_, rfl, ⟨(by first | exact (gIf_f (fun z => h_2 z.1.1)).symm | exact (gIf_f (fun z => h_13 z.1.2)).symm | exact (gIf_f (fun z => h_22 ((okC_n hu8).mp z.2.1))).symm | exact (gIf_f (fun z => gIx13n (Or.inl c_30) z.2.2)).symm | exact (gIf_f (fun z => gIx13n (Or.inr c_37) z.2.2)).symm), (by repeat (first | (with_reducible assumption) | (with_reducible exact gSm_r _) | (with_reducible refine gSm_I (by omega) ?_) | (with_reducible refine gSm_L (by omega) ?_) | (with_reducible refine gSm_N (by omega) ?_) | (with_reducible refine gSm_G (by omega) ?_) | (with_reducible refine gSm_P ?_)))⟩⟩
            · refine g_iload C dX8_times_33 rfl ?_
              refine g_bipush (v := 12) C dX8_times_35 (by decide) ?_
              refine g_icmp_le C 42 dX8_times_37 (by decide) (fun c_37 => ?_) (fun c_37 => ?_)
              · obtain ⟨k2, hk2, rfl⟩ := gIx_12 c_30 c_37
                refine g_aload_n C dX8_times_42 rfl ?_
                refine g_aload C dX8_times_43 rfl ?_
                refine g_iload_n C dX8_times_45 rfl ?_
                refine g_iload_n C dX8_times_46 rfl ?_
                refine g_callVi C sV_X8_195 dX8_times_47 (c_X8_weighRowsa _ δ _ hu8 (k := k1) (c := c1) (by omega) (by omega) K R) ⟨by decide, by decide⟩ (wO_X δ _) rfl rfl rfl rfl (Nat.le_of_ble_eq_true rfl) (fun r_47 s_47 h_47 => ?_)
                obtain ⟨h_47, z_47⟩ := h_47
                refine g_istore C dX8_times_50 (Nat.le_of_ble_eq_true rfl) rfl ?_
                refine g_lv [some _, some _, some _, some _, some _, some _, some _] (gs_some (gs_some (gs_some (gs_some (gs_some (gs_some (gs_some gs_nil))))))) ?_
                refine g_iload C dX8_times_52 rfl ?_
                refine g_if_eq C 60 dX8_times_54 (by decide) (fun c_54 => ?_) (fun c_54 => ?_)
                · refine g_aload_n C dX8_times_60 rfl ?_
                  refine g_get C dX8_times_61 iwX8 rfl (wO_X δ _) 7 (Nat.le_of_ble_eq_true rfl) mW224 rfl rfl ?_
                  refine g_lconst (v := 0) C dX8_times_64 (by decide) ?_
                  refine g_aload_n C dX8_times_65 rfl ?_
                  refine g_get C dX8_times_66 iwX8 rfl (wO_X δ _) 6 (Nat.le_of_ble_eq_true rfl) mW223 rfl rfl ?_
                  refine g_get C dX8_times_69 iwX0 rfl (wO_A δ _) 5 (Nat.le_of_ble_eq_true rfl) mW114 rfl rfl ?_
                  refine g_iload C dX8_times_72 rfl ?_
                  refine g_laldN C dX8_times_74 (k := k2) (q := 10) (by decide) rfl (by first | rfl | assumption | (simp only [glit, nI_add, pk_mul]; done) | (simp only [glit, nI_add, pk_mul]; congr 1; omega) | (simp only [*, glit, nI_add, pk_mul]; congr 1; omega)) (show k2 < gLenL 10 from Nat.lt_of_lt_of_eq (show k2 < 13 by omega) rfl) ?_
                  refine g_aload_n C dX8_times_75 rfl ?_
                  refine g_get C dX8_times_76 iwX8 rfl (wO_X δ _) 6 (Nat.le_of_ble_eq_true rfl) mW223 rfl rfl ?_
                  refine g_get C dX8_times_79 iwX0 rfl (wO_A δ _) 8 (Nat.le_of_ble_eq_true rfl) mW120 rfl rfl ?_
                  refine g_callVv C sV_X8_189 dX8_times_82 (c_X1_become _ δ _ _ _ _) ⟨by decide, by decide⟩ (wO_F δ _) rfl rfl rfl rfl (Nat.le_of_ble_eq_true rfl) (fun s_82 h_82 => ?_)
                  have z_82 : gSm σ s_82 := gSm_t (by repeat (first | (with_reducible assumption) | (with_reducible exact gSm_r _) | (with_reducible refine gSm_I (by omega) ?_) | (with_reducible refine gSm_L (by omega) ?_) | (with_reducible refine gSm_N (by omega) ?_) | (with_reducible refine gSm_G (by omega) ?_) | (with_reducible refine gSm_P ?_))) h_82
                  refine g_iconst (v := 0) C dX8_times_85 (by decide) ?_
                  exact g_iret C E dX8_times_86 rfl rfl ⟨_, rfl, ⟨(c_54.symm.trans h_47).trans (aTimes_at hu_2 hu8 hk1 hc1 ⟨k2, hk2, rfl⟩).symm, (by repeat (first | (with_reducible assumption) | (with_reducible exact gSm_r _) | (with_reducible refine gSm_I (by omega) ?_) | (with_reducible refine gSm_L (by omega) ?_) | (with_reducible refine gSm_N (by omega) ?_) | (with_reducible refine gSm_G (by omega) ?_) | (with_reducible refine gSm_P ?_)))⟩⟩
                · refine g_iload C dX8_times_57 rfl ?_
                  exact g_iret C E dX8_times_59 rfl rfl ⟨_, rfl, ⟨h_47.trans (aTimes_at hu_2 hu8 hk1 hc1 ⟨k2, hk2, rfl⟩).symm, (by repeat (first | (with_reducible assumption) | (with_reducible exact gSm_r _) | (with_reducible refine gSm_I (by omega) ?_) | (with_reducible refine gSm_L (by omega) ?_) | (with_reducible refine gSm_N (by omega) ?_) | (with_reducible refine gSm_G (by omega) ?_) | (with_reducible refine gSm_P ?_)))⟩⟩
              · refine g_iconst (v := (-1)) C dX8_times_40 (by decide) ?_
                exact g_iret C E dX8_times_41 rfl rfl ⟨_, rfl, ⟨(by first | exact (gIf_f (fun z => h_2 z.1.1)).symm | exact (gIf_f (fun z => h_13 z.1.2)).symm | exact (gIf_f (fun z => h_22 ((okC_n hu8).mp z.2.1))).symm | exact (gIf_f (fun z => gIx13n (Or.inl c_30) z.2.2)).symm | exact (gIf_f (fun z => gIx13n (Or.inr c_37) z.2.2)).symm), (by repeat (first | (with_reducible assumption) | (with_reducible exact gSm_r _) | (with_reducible refine gSm_I (by omega) ?_) | (with_reducible refine gSm_L (by omega) ?_) | (with_reducible refine gSm_N (by omega) ?_) | (with_reducible refine gSm_G (by omega) ?_) | (with_reducible refine gSm_P ?_)))⟩⟩
        · skip
          refine g_if_eq C 40 dX8_times_25 (by decide) (fun c_25 => ?_) (fun c_25 => ?_)
          · refine g_iconst (v := (-1)) C dX8_times_40 (by decide) ?_
            exact g_iret C E dX8_times_41 rfl rfl ⟨_, rfl, ⟨(by first | exact (gIf_f (fun z => h_2 z.1.1)).symm | exact (gIf_f (fun z => h_13 z.1.2)).symm | exact (gIf_f (fun z => h_22 ((okC_n hu8).mp z.2.1))).symm | exact (gIf_f (fun z => gIx13n (Or.inl c_30) z.2.2)).symm | exact (gIf_f (fun z => gIx13n (Or.inr c_37) z.2.2)).symm), (by repeat (first | (with_reducible assumption) | (with_reducible exact gSm_r _) | (with_reducible refine gSm_I (by omega) ?_) | (with_reducible refine gSm_L (by omega) ?_) | (with_reducible refine gSm_N (by omega) ?_) | (with_reducible refine gSm_G (by omega) ?_) | (with_reducible refine gSm_P ?_)))⟩⟩
          · exact absurd c_25 (by decide)
    · skip
      refine g_if_eq C 40 dX8_times_16 (by decide) (fun c_16 => ?_) (fun c_16 => ?_)
      · refine g_iconst (v := (-1)) C dX8_times_40 (by decide) ?_
        exact g_iret C E dX8_times_41 rfl rfl ⟨_, rfl, ⟨(by first | exact (gIf_f (fun z => h_2 z.1.1)).symm | exact (gIf_f (fun z => h_13 z.1.2)).symm | exact (gIf_f (fun z => h_22 ((okC_n hu8).mp z.2.1))).symm | exact (gIf_f (fun z => gIx13n (Or.inl c_30) z.2.2)).symm | exact (gIf_f (fun z => gIx13n (Or.inr c_37) z.2.2)).symm), (by repeat (first | (with_reducible assumption) | (with_reducible exact gSm_r _) | (with_reducible refine gSm_I (by omega) ?_) | (with_reducible refine gSm_L (by omega) ?_) | (with_reducible refine gSm_N (by omega) ?_) | (with_reducible refine gSm_G (by omega) ?_) | (with_reducible refine gSm_P ?_)))⟩⟩
      · exact absurd c_16 (by decide)
set_option maxRecDepth 100000 in
set_option maxHeartbeats 4000000 in
theorem c_X8_lefta (l : Launch) (δ : GD) (σ : GS) (a0 a1 a2 a3 : Int32) {v : GV} (K : KC σ v) (R : RV v) : gM l δ yX8_left cX8_left 7 (some .int) 6 156 [.ref (δ.2.2.1 0), .int a0, .int a1, .int a2, .int a3] σ (gPi (fun x σ' => x = aLeft v a0 a1 a2 a3 ∧ gSm σ σ')) := by
  refine g_of (lv0 := [some (.ref (δ.2.2.1 0)), some (.int a0), some (.int a1), some (.int a2), some (.int a3), none, none]) (by decide) rfl (Nat.le_of_ble_eq_true rfl) (fun Γ hl C E => ?_)
  subst hl
  have C : gC Γ δ cX8_left RX8 7 6 156 := C
  have hm := K.1
  have h8 := R.1
  obtain ⟨kn, hkn, hx, -⟩ := id K.2.2.2.2
  have hl := K.2.2.2.1.2
  have h20 := K.2.2.2.1.1
  refine g_aload_n C dX8_left_0 rfl ?_
  refine g_iload_n C dX8_left_1 rfl ?_
  refine g_callVr C sV_X8_101 dX8_left_2 (c_X8_urnAt _ δ _ _ hm h8) ⟨by decide, by decide⟩ (wO_X δ _) rfl rfl rfl rfl (Nat.le_of_ble_eq_true rfl) (fun r_2 s_2 h_2 => ?_)
  obtain ⟨rfl, h_2⟩ := h_2
  rcases h_2 with ⟨rfl, h_2⟩ | ⟨u_2, hu_2, e_2, rfl⟩
  · skip
    refine g_astoreN C dX8_left_5 (Nat.le_of_ble_eq_true rfl) rfl ?_
    refine g_lv [some _, some _, some _, some _, some _, some _, none] (gs_some (gs_some (gs_some (gs_some (gs_some (gs_some (gs_none gs_nil))))))) ?_
    refine g_aloadN C dX8_left_7 rfl ?_
    refine g_ifnull_n C 41 dX8_left_9 (by decide) ?_
    refine g_iconst (v := (-1)) C dX8_left_41 (by decide) ?_
    exact g_iret C E dX8_left_42 rfl rfl ⟨_, rfl, ⟨(by first | exact (gIf_f (fun z => h_2 z.1.1)).symm | exact (gIf_f (fun z => h_13 z.1.2)).symm | exact (gIf_f (fun z => h_22 ((okC_n hu8).mp z.2.1))).symm | exact (gIf_f (fun z => Int32.not_le.mpr c_30 z.2.2.1)).symm | exact (gIf_f (fun z => c_38 z.2.2.2)).symm), (by repeat (first | (with_reducible assumption) | (with_reducible exact gSm_r _) | (with_reducible refine gSm_I (by omega) ?_) | (with_reducible refine gSm_L (by omega) ?_) | (with_reducible refine gSm_N (by omega) ?_) | (with_reducible refine gSm_G (by omega) ?_) | (with_reducible refine gSm_P ?_)))⟩⟩
  · have hu8 : u_2 < 8 := by omega
    obtain ⟨h2, h4⟩ := (R.2.1 u_2 hu8).1 hu_2
    have hn := K.2.1 u_2 hu8
    subst e_2
    refine g_astore C dX8_left_5 (Nat.le_of_ble_eq_true rfl) rfl ?_
    refine g_lv [some _, some _, some _, some _, some _, some _, none] (gs_some (gs_some (gs_some (gs_some (gs_some (gs_some (gs_none gs_nil))))))) ?_
    refine g_aload C dX8_left_7 rfl ?_
    refine g_ifnull_r C dX8_left_9 ?_
    refine g_iload_n C dX8_left_12 rfl ?_
    refine g_callSi C sS_X8_192 dX8_left_13 (c_X8_areDraws _ δ _ _) ⟨by decide, by decide⟩ rfl rfl rfl (Nat.le_of_ble_eq_true rfl) (fun r_13 s_13 h_13 => ?_)
    obtain ⟨rfl, h_13⟩ := h_13
    rcases h_13 with ⟨rfl, h_13⟩ | ⟨rfl, h_13⟩
    · obtain ⟨k1, hk1, rfl⟩ := id h_13
      refine g_if_eq C 41 dX8_left_16 (by decide) (fun c_16 => ?_) (fun c_16 => ?_)
      · exact absurd c_16 (by decide)
      · refine g_aload C dX8_left_19 rfl ?_
        refine g_iload_n C dX8_left_21 rfl ?_
        refine g_callVi C sV_X8_105 dX8_left_22 (c_X7_has _ δ _ hu8 _ hn h4) ⟨by decide, by decide⟩ (wO_U δ _ hu8) rfl rfl rfl rfl (Nat.le_of_ble_eq_true rfl) (fun r_22 s_22 h_22 => ?_)
        obtain ⟨rfl, h_22⟩ := h_22
        rcases h_22 with ⟨rfl, h_22⟩ | ⟨rfl, h_22⟩
        · obtain ⟨c1, hc1, rfl⟩ := id h_22
          refine g_if_eq C 41 dX8_left_25 (by decide) (fun c_25 => ?_) (fun c_25 => ?_)
          · exact absurd c_25 (by decide)
          · refine g_iload C dX8_left_28 rfl ?_
            refine g_if_lt C 41 dX8_left_30 (by decide) (fun c_30 => ?_) (fun c_30 => ?_)
            · refine g_iconst (v := (-1)) C dX8_left_41 (by decide) ?_
              exact g_iret C E dX8_left_42 rfl rfl ⟨_, rfl, ⟨(by first | exact (gIf_f (fun z => h_2 z.1.1)).symm | exact (gIf_f (fun z => h_13 z.1.2)).symm | exact (gIf_f (fun z => h_22 ((okC_n hu8).mp z.2.1))).symm | exact (gIf_f (fun z => Int32.not_le.mpr c_30 z.2.2.1)).symm | exact (gIf_f (fun z => c_38 z.2.2.2)).symm), (by repeat (first | (with_reducible assumption) | (with_reducible exact gSm_r _) | (with_reducible refine gSm_I (by omega) ?_) | (with_reducible refine gSm_L (by omega) ?_) | (with_reducible refine gSm_N (by omega) ?_) | (with_reducible refine gSm_G (by omega) ?_) | (with_reducible refine gSm_P ?_)))⟩⟩
            · refine g_iload C dX8_left_33 rfl ?_
              refine g_sipush (v := 400) C dX8_left_35 (by decide) ?_
              refine g_icmp_le C 43 dX8_left_38 (by decide) (fun c_38 => ?_) (fun c_38 => ?_)
              · refine g_aload_n C dX8_left_43 rfl ?_
                refine g_aload C dX8_left_44 rfl ?_
                refine g_iload_n C dX8_left_46 rfl ?_
                refine g_iload_n C dX8_left_47 rfl ?_
                refine g_callVi C sV_X8_195 dX8_left_48 (c_X8_weighRowsa _ δ _ hu8 (k := k1) (c := c1) (by omega) (by omega) K R) ⟨by decide, by decide⟩ (wO_X δ _) rfl rfl rfl rfl (Nat.le_of_ble_eq_true rfl) (fun r_48 s_48 h_48 => ?_)
                obtain ⟨h_48, z_48⟩ := h_48
                refine g_istore C dX8_left_51 (Nat.le_of_ble_eq_true rfl) rfl ?_
                refine g_lv [some _, some _, some _, some _, some _, some _, some _] (gs_some (gs_some (gs_some (gs_some (gs_some (gs_some (gs_some gs_nil))))))) ?_
                refine g_iload C dX8_left_53 rfl ?_
                refine g_if_eq C 61 dX8_left_55 (by decide) (fun c_55 => ?_) (fun c_55 => ?_)
                · refine g_aload_n C dX8_left_61 rfl ?_
                  refine g_get C dX8_left_62 iwX8 rfl (wO_X δ _) 7 (Nat.le_of_ble_eq_true rfl) mW224 rfl rfl ?_
                  refine g_lconst (v := 0) C dX8_left_65 (by decide) ?_
                  refine g_iload C dX8_left_66 rfl ?_
                  refine g_sipush (v := 200) C dX8_left_68 (by decide) ?_
                  refine g_icmp_le C 78 dX8_left_71 (by decide) (fun c_71 => ?_) (fun c_71 => ?_)
                  · obtain ⟨ex, hx⟩ := g200 c_30 c_71
                    refine g_aload_n C dX8_left_78 rfl ?_
                    refine g_get C dX8_left_79 iwX8 rfl (wO_X δ _) 6 (Nat.le_of_ble_eq_true rfl) mW223 rfl rfl ?_
                    refine g_get C dX8_left_82 iwX0 rfl (wO_A δ _) 6 (Nat.le_of_ble_eq_true rfl) mW116 rfl rfl ?_
                    refine g_iload C dX8_left_85 rfl ?_
                    refine g_laldN C dX8_left_87 (k := a3.toInt.toNat) (q := 11) (by decide) rfl ex (show a3.toInt.toNat < gLenL 11 from Nat.lt_of_lt_of_eq (show a3.toInt.toNat < 201 by omega) rfl) ?_
                    refine g_aload_n C dX8_left_88 rfl ?_
                    refine g_get C dX8_left_89 iwX8 rfl (wO_X δ _) 6 (Nat.le_of_ble_eq_true rfl) mW223 rfl rfl ?_
                    refine g_get C dX8_left_92 iwX0 rfl (wO_A δ _) 8 (Nat.le_of_ble_eq_true rfl) mW120 rfl rfl ?_
                    refine g_callVv C sV_X8_189 dX8_left_95 (c_X1_become _ δ _ _ _ _) ⟨by decide, by decide⟩ (wO_F δ _) rfl rfl rfl rfl (Nat.le_of_ble_eq_true rfl) (fun s_95 h_95 => ?_)
                    have z_95 : gSm σ s_95 := gSm_t (by repeat (first | (with_reducible assumption) | (with_reducible exact gSm_r _) | (with_reducible refine gSm_I (by omega) ?_) | (with_reducible refine gSm_L (by omega) ?_) | (with_reducible refine gSm_N (by omega) ?_) | (with_reducible refine gSm_G (by omega) ?_) | (with_reducible refine gSm_P ?_))) h_95
                    refine g_iconst (v := 0) C dX8_left_98 (by decide) ?_
                    exact g_iret C E dX8_left_99 rfl rfl ⟨_, rfl, ⟨(c_55.symm.trans h_48).trans (aLeft_at hu_2 hu8 hk1 hc1 ⟨Int32.not_lt.mp c_30, c_38⟩).symm, (by repeat (first | (with_reducible assumption) | (with_reducible exact gSm_r _) | (with_reducible refine gSm_I (by omega) ?_) | (with_reducible refine gSm_L (by omega) ?_) | (with_reducible refine gSm_N (by omega) ?_) | (with_reducible refine gSm_G (by omega) ?_) | (with_reducible refine gSm_P ?_)))⟩⟩
                  · refine g_lconst (v := 0) C dX8_left_74 (by decide) ?_
                    refine g_goto C 88 dX8_left_75 (by decide) ?_
                    refine g_aload_n C dX8_left_88 rfl ?_
                    refine g_get C dX8_left_89 iwX8 rfl (wO_X δ _) 6 (Nat.le_of_ble_eq_true rfl) mW223 rfl rfl ?_
                    refine g_get C dX8_left_92 iwX0 rfl (wO_A δ _) 8 (Nat.le_of_ble_eq_true rfl) mW120 rfl rfl ?_
                    refine g_callVv C sV_X8_189 dX8_left_95 (c_X1_become _ δ _ _ _ _) ⟨by decide, by decide⟩ (wO_F δ _) rfl rfl rfl rfl (Nat.le_of_ble_eq_true rfl) (fun s_95 h_95 => ?_)
                    have z_95 : gSm σ s_95 := gSm_t (by repeat (first | (with_reducible assumption) | (with_reducible exact gSm_r _) | (with_reducible refine gSm_I (by omega) ?_) | (with_reducible refine gSm_L (by omega) ?_) | (with_reducible refine gSm_N (by omega) ?_) | (with_reducible refine gSm_G (by omega) ?_) | (with_reducible refine gSm_P ?_))) h_95
                    refine g_iconst (v := 0) C dX8_left_98 (by decide) ?_
                    exact g_iret C E dX8_left_99 rfl rfl ⟨_, rfl, ⟨(c_55.symm.trans h_48).trans (aLeft_at hu_2 hu8 hk1 hc1 ⟨Int32.not_lt.mp c_30, c_38⟩).symm, (by repeat (first | (with_reducible assumption) | (with_reducible exact gSm_r _) | (with_reducible refine gSm_I (by omega) ?_) | (with_reducible refine gSm_L (by omega) ?_) | (with_reducible refine gSm_N (by omega) ?_) | (with_reducible refine gSm_G (by omega) ?_) | (with_reducible refine gSm_P ?_)))⟩⟩
                · refine g_iload C dX8_left_58 rfl ?_
                  exact g_iret C E dX8_left_60 rfl rfl ⟨_, rfl, ⟨h_48.trans (aLeft_at hu_2 hu8 hk1 hc1 ⟨Int32.not_lt.mp c_30, c_38⟩).symm, (by repeat (first | (with_reducible assumption) | (with_reducible exact gSm_r _) | (with_reducible refine gSm_I (by omega) ?_) | (with_reducible refine gSm_L (by omega) ?_) | (with_reducible refine gSm_N (by omega) ?_) | (with_reducible refine gSm_G (by omega) ?_) | (with_reducible refine gSm_P ?_)))⟩⟩
              · refine g_iconst (v := (-1)) C dX8_left_41 (by decide) ?_
                exact g_iret C E dX8_left_42 rfl rfl ⟨_, rfl, ⟨(by first | exact (gIf_f (fun z => h_2 z.1.1)).symm | exact (gIf_f (fun z => h_13 z.1.2)).symm | exact (gIf_f (fun z => h_22 ((okC_n hu8).mp z.2.1))).symm | exact (gIf_f (fun z => Int32.not_le.mpr c_30 z.2.2.1)).symm | exact (gIf_f (fun z => c_38 z.2.2.2)).symm), (by repeat (first | (with_reducible assumption) | (with_reducible exact gSm_r _) | (with_reducible refine gSm_I (by omega) ?_) | (with_reducible refine gSm_L (by omega) ?_) | (with_reducible refine gSm_N (by omega) ?_) | (with_reducible refine gSm_G (by omega) ?_) | (with_reducible refine gSm_P ?_)))⟩⟩
        · skip
          refine g_if_eq C 41 dX8_left_25 (by decide) (fun c_25 => ?_) (fun c_25 => ?_)
          · refine g_iconst (v := (-1)) C dX8_left_41 (by decide) ?_
            exact g_iret C E dX8_left_42 rfl rfl ⟨_, rfl, ⟨(by first | exact (gIf_f (fun z => h_2 z.1.1)).symm | exact (gIf_f (fun z => h_13 z.1.2)).symm | exact (gIf_f (fun z => h_22 ((okC_n hu8).mp z.2.1))).symm | exact (gIf_f (fun z => Int32.not_le.mpr c_30 z.2.2.1)).symm | exact (gIf_f (fun z => c_38 z.2.2.2)).symm), (by repeat (first | (with_reducible assumption) | (with_reducible exact gSm_r _) | (with_reducible refine gSm_I (by omega) ?_) | (with_reducible refine gSm_L (by omega) ?_) | (with_reducible refine gSm_N (by omega) ?_) | (with_reducible refine gSm_G (by omega) ?_) | (with_reducible refine gSm_P ?_)))⟩⟩
          · exact absurd c_25 (by decide)
    · skip
      refine g_if_eq C 41 dX8_left_16 (by decide) (fun c_16 => ?_) (fun c_16 => ?_)
      · refine g_iconst (v := (-1)) C dX8_left_41 (by decide) ?_
        exact g_iret C E dX8_left_42 rfl rfl ⟨_, rfl, ⟨(by first | exact (gIf_f (fun z => h_2 z.1.1)).symm | exact (gIf_f (fun z => h_13 z.1.2)).symm | exact (gIf_f (fun z => h_22 ((okC_n hu8).mp z.2.1))).symm | exact (gIf_f (fun z => Int32.not_le.mpr c_30 z.2.2.1)).symm | exact (gIf_f (fun z => c_38 z.2.2.2)).symm), (by repeat (first | (with_reducible assumption) | (with_reducible exact gSm_r _) | (with_reducible refine gSm_I (by omega) ?_) | (with_reducible refine gSm_L (by omega) ?_) | (with_reducible refine gSm_N (by omega) ?_) | (with_reducible refine gSm_G (by omega) ?_) | (with_reducible refine gSm_P ?_)))⟩⟩
      · exact absurd c_16 (by decide)
set_option maxRecDepth 100000 in
set_option maxHeartbeats 4000000 in
theorem c_X8_stucka (l : Launch) (δ : GD) (σ : GS) (a0 a1 : Int32) {v : GV} (K : KC σ v) (R : RV v) : gM l δ yX8_stuck cX8_stuck 5 (some .int) 6 156 [.ref (δ.2.2.1 0), .int a0, .int a1] σ (gPi (fun x σ' => x = aStuck v a0 a1 ∧ gSm σ σ')) := by
  refine g_of (lv0 := [some (.ref (δ.2.2.1 0)), some (.int a0), some (.int a1), none, none]) (by decide) rfl (Nat.le_of_ble_eq_true rfl) (fun Γ hl C E => ?_)
  subst hl
  have C : gC Γ δ cX8_stuck RX8 5 6 156 := C
  have hm := K.1
  have h8 := R.1
  obtain ⟨kn, hkn, hx, -⟩ := id K.2.2.2.2
  have hl := K.2.2.2.1.2
  have h20 := K.2.2.2.1.1
  refine g_aload_n C dX8_stuck_0 rfl ?_
  refine g_iload_n C dX8_stuck_1 rfl ?_
  refine g_callVr C sV_X8_101 dX8_stuck_2 (c_X8_urnAt _ δ _ _ hm h8) ⟨by decide, by decide⟩ (wO_X δ _) rfl rfl rfl rfl (Nat.le_of_ble_eq_true rfl) (fun r_2 s_2 h_2 => ?_)
  obtain ⟨rfl, h_2⟩ := h_2
  rcases h_2 with ⟨rfl, h_2⟩ | ⟨u_2, hu_2, e_2, rfl⟩
  · skip
    refine g_astore_nN C dX8_stuck_5 (Nat.le_of_ble_eq_true rfl) rfl ?_
    refine g_lv [some _, some _, some _, some _, none] (gs_some (gs_some (gs_some (gs_some (gs_none gs_nil))))) ?_
    refine g_aload_nN C dX8_stuck_6 rfl ?_
    refine g_ifnull_n C 17 dX8_stuck_7 (by decide) ?_
    refine g_iconst (v := (-1)) C dX8_stuck_17 (by decide) ?_
    exact g_iret C E dX8_stuck_18 rfl rfl ⟨_, rfl, ⟨(by first | exact (gIf_f (fun z => h_2 z.1)).symm | exact (gIf_f (fun z => h_11 z.2)).symm), (by repeat (first | (with_reducible assumption) | (with_reducible exact gSm_r _) | (with_reducible refine gSm_I (by omega) ?_) | (with_reducible refine gSm_L (by omega) ?_) | (with_reducible refine gSm_N (by omega) ?_) | (with_reducible refine gSm_G (by omega) ?_) | (with_reducible refine gSm_P ?_)))⟩⟩
  · have hu8 : u_2 < 8 := by omega
    obtain ⟨h2, h4⟩ := (R.2.1 u_2 hu8).1 hu_2
    have hn := K.2.1 u_2 hu8
    subst e_2
    refine g_astore_n C dX8_stuck_5 (Nat.le_of_ble_eq_true rfl) rfl ?_
    refine g_lv [some _, some _, some _, some _, none] (gs_some (gs_some (gs_some (gs_some (gs_none gs_nil))))) ?_
    refine g_aload_n C dX8_stuck_6 rfl ?_
    refine g_ifnull_r C dX8_stuck_7 ?_
    refine g_iload_n C dX8_stuck_10 rfl ?_
    refine g_callSi C sS_X8_192 dX8_stuck_11 (c_X8_areDraws _ δ _ _) ⟨by decide, by decide⟩ rfl rfl rfl (Nat.le_of_ble_eq_true rfl) (fun r_11 s_11 h_11 => ?_)
    obtain ⟨rfl, h_11⟩ := h_11
    rcases h_11 with ⟨rfl, h_11⟩ | ⟨rfl, h_11⟩
    · obtain ⟨k1, hk1, rfl⟩ := id h_11
      refine g_if_ne C 19 dX8_stuck_14 (by decide) (fun c_14 => ?_) (fun c_14 => ?_)
      · refine g_aload_n C dX8_stuck_19 rfl ?_
        refine g_aload_n C dX8_stuck_20 rfl ?_
        refine g_iload_n C dX8_stuck_21 rfl ?_
        refine g_iconst (v := 0) C dX8_stuck_22 (by decide) ?_
        refine g_callVi C sV_X8_195 dX8_stuck_23 (c_X8_weighRowsa _ δ _ hu8 (k := k1) (c := 0) (by omega) (by omega) K R) ⟨by decide, by decide⟩ (wO_X δ _) rfl rfl rfl rfl (Nat.le_of_ble_eq_true rfl) (fun r_23 s_23 h_23 => ?_)
        obtain ⟨h_23, z_23⟩ := h_23
        refine g_istore C dX8_stuck_26 (Nat.le_of_ble_eq_true rfl) rfl ?_
        refine g_lv [some _, some _, some _, some _, some _] (gs_some (gs_some (gs_some (gs_some (gs_some gs_nil))))) ?_
        refine g_iload C dX8_stuck_28 rfl ?_
        refine g_if_eq C 36 dX8_stuck_30 (by decide) (fun c_30 => ?_) (fun c_30 => ?_)
        · refine g_aload_n C dX8_stuck_36 rfl ?_
          refine g_get C dX8_stuck_37 iwX8 rfl (wO_X δ _) 7 (Nat.le_of_ble_eq_true rfl) mW224 rfl rfl ?_
          refine g_lconst (v := 0) C dX8_stuck_40 (by decide) ?_
          refine g_aload_n C dX8_stuck_41 rfl ?_
          refine g_get C dX8_stuck_42 iwX8 rfl (wO_X δ _) 6 (Nat.le_of_ble_eq_true rfl) mW223 rfl rfl ?_
          refine g_get C dX8_stuck_45 iwX0 rfl (wO_A δ _) 7 (Nat.le_of_ble_eq_true rfl) mW118 rfl rfl ?_
          refine g_aload_n C dX8_stuck_48 rfl ?_
          refine g_get C dX8_stuck_49 iwX8 rfl (wO_X δ _) 6 (Nat.le_of_ble_eq_true rfl) mW223 rfl rfl ?_
          refine g_get C dX8_stuck_52 iwX0 rfl (wO_A δ _) 8 (Nat.le_of_ble_eq_true rfl) mW120 rfl rfl ?_
          refine g_callVv C sV_X8_189 dX8_stuck_55 (c_X1_become _ δ _ _ _ _) ⟨by decide, by decide⟩ (wO_F δ _) rfl rfl rfl rfl (Nat.le_of_ble_eq_true rfl) (fun s_55 h_55 => ?_)
          have z_55 : gSm σ s_55 := gSm_t (by repeat (first | (with_reducible assumption) | (with_reducible exact gSm_r _) | (with_reducible refine gSm_I (by omega) ?_) | (with_reducible refine gSm_L (by omega) ?_) | (with_reducible refine gSm_N (by omega) ?_) | (with_reducible refine gSm_G (by omega) ?_) | (with_reducible refine gSm_P ?_))) h_55
          refine g_iconst (v := 0) C dX8_stuck_58 (by decide) ?_
          exact g_iret C E dX8_stuck_59 rfl rfl ⟨_, rfl, ⟨(c_30.symm.trans h_23).trans (aStuck_at hu_2 hu8 hk1).symm, (by repeat (first | (with_reducible assumption) | (with_reducible exact gSm_r _) | (with_reducible refine gSm_I (by omega) ?_) | (with_reducible refine gSm_L (by omega) ?_) | (with_reducible refine gSm_N (by omega) ?_) | (with_reducible refine gSm_G (by omega) ?_) | (with_reducible refine gSm_P ?_)))⟩⟩
        · refine g_iload C dX8_stuck_33 rfl ?_
          exact g_iret C E dX8_stuck_35 rfl rfl ⟨_, rfl, ⟨h_23.trans (aStuck_at hu_2 hu8 hk1).symm, (by repeat (first | (with_reducible assumption) | (with_reducible exact gSm_r _) | (with_reducible refine gSm_I (by omega) ?_) | (with_reducible refine gSm_L (by omega) ?_) | (with_reducible refine gSm_N (by omega) ?_) | (with_reducible refine gSm_G (by omega) ?_) | (with_reducible refine gSm_P ?_)))⟩⟩
      · exact absurd c_14 (by decide)
    · skip
      refine g_if_ne C 19 dX8_stuck_14 (by decide) (fun c_14 => ?_) (fun c_14 => ?_)
      · exact absurd c_14 (by decide)
      · refine g_iconst (v := (-1)) C dX8_stuck_17 (by decide) ?_
        exact g_iret C E dX8_stuck_18 rfl rfl ⟨_, rfl, ⟨(by first | exact (gIf_f (fun z => h_2 z.1)).symm | exact (gIf_f (fun z => h_11 z.2)).symm), (by repeat (first | (with_reducible assumption) | (with_reducible exact gSm_r _) | (with_reducible refine gSm_I (by omega) ?_) | (with_reducible refine gSm_L (by omega) ?_) | (with_reducible refine gSm_N (by omega) ?_) | (with_reducible refine gSm_G (by omega) ?_) | (with_reducible refine gSm_P ?_)))⟩⟩
set_option maxRecDepth 100000 in
set_option maxHeartbeats 4000000 in
theorem c_X8_meana (l : Launch) (δ : GD) (σ : GS) (a0 a1 a2 a3 : Int32) {v : GV} (K : KC σ v) (R : RV v) : gM l δ yX8_mean cX8_mean 7 (some .int) 6 156 [.ref (δ.2.2.1 0), .int a0, .int a1, .int a2, .int a3] σ (gPi (fun x σ' => x = aMean v a0 a1 a2 a3 ∧ gSm σ σ')) := by
  refine g_of (lv0 := [some (.ref (δ.2.2.1 0)), some (.int a0), some (.int a1), some (.int a2), some (.int a3), none, none]) (by decide) rfl (Nat.le_of_ble_eq_true rfl) (fun Γ hl C E => ?_)
  subst hl
  have C : gC Γ δ cX8_mean RX8 7 6 156 := C
  have hm := K.1
  have h8 := R.1
  obtain ⟨kn, hkn, hx, -⟩ := id K.2.2.2.2
  have hl := K.2.2.2.1.2
  have h20 := K.2.2.2.1.1
  refine g_aload_n C dX8_mean_0 rfl ?_
  refine g_iload_n C dX8_mean_1 rfl ?_
  refine g_callVr C sV_X8_101 dX8_mean_2 (c_X8_urnAt _ δ _ _ hm h8) ⟨by decide, by decide⟩ (wO_X δ _) rfl rfl rfl rfl (Nat.le_of_ble_eq_true rfl) (fun r_2 s_2 h_2 => ?_)
  obtain ⟨rfl, h_2⟩ := h_2
  rcases h_2 with ⟨rfl, h_2⟩ | ⟨u_2, hu_2, e_2, rfl⟩
  · skip
    refine g_astoreN C dX8_mean_5 (Nat.le_of_ble_eq_true rfl) rfl ?_
    refine g_lv [some _, some _, some _, some _, some _, some _, none] (gs_some (gs_some (gs_some (gs_some (gs_some (gs_some (gs_none gs_nil))))))) ?_
    refine g_aloadN C dX8_mean_7 rfl ?_
    refine g_ifnull_n C 40 dX8_mean_9 (by decide) ?_
    refine g_iconst (v := (-1)) C dX8_mean_40 (by decide) ?_
    exact g_iret C E dX8_mean_41 rfl rfl ⟨_, rfl, ⟨(by first | exact (gIf_f (fun z => h_2 z.1.1)).symm | exact (gIf_f (fun z => h_13 z.1.2)).symm | exact (gIf_f (fun z => h_22 ((okC_n hu8).mp z.2.1))).symm | exact (gIf_f (fun z => Int32.not_le.mpr c_31 z.2.2.1)).symm | exact (gIf_f (fun z => c_37 z.2.2.2)).symm), (by repeat (first | (with_reducible assumption) | (with_reducible exact gSm_r _) | (with_reducible refine gSm_I (by omega) ?_) | (with_reducible refine gSm_L (by omega) ?_) | (with_reducible refine gSm_N (by omega) ?_) | (with_reducible refine gSm_G (by omega) ?_) | (with_reducible refine gSm_P ?_)))⟩⟩
  · have hu8 : u_2 < 8 := by omega
    obtain ⟨h2, h4⟩ := (R.2.1 u_2 hu8).1 hu_2
    have hn := K.2.1 u_2 hu8
    subst e_2
    refine g_astore C dX8_mean_5 (Nat.le_of_ble_eq_true rfl) rfl ?_
    refine g_lv [some _, some _, some _, some _, some _, some _, none] (gs_some (gs_some (gs_some (gs_some (gs_some (gs_some (gs_none gs_nil))))))) ?_
    refine g_aload C dX8_mean_7 rfl ?_
    refine g_ifnull_r C dX8_mean_9 ?_
    refine g_iload_n C dX8_mean_12 rfl ?_
    refine g_callSi C sS_X8_192 dX8_mean_13 (c_X8_areDraws _ δ _ _) ⟨by decide, by decide⟩ rfl rfl rfl (Nat.le_of_ble_eq_true rfl) (fun r_13 s_13 h_13 => ?_)
    obtain ⟨rfl, h_13⟩ := h_13
    rcases h_13 with ⟨rfl, h_13⟩ | ⟨rfl, h_13⟩
    · obtain ⟨k1, hk1, rfl⟩ := id h_13
      refine g_if_eq C 40 dX8_mean_16 (by decide) (fun c_16 => ?_) (fun c_16 => ?_)
      · exact absurd c_16 (by decide)
      · refine g_aload C dX8_mean_19 rfl ?_
        refine g_iload_n C dX8_mean_21 rfl ?_
        refine g_callVi C sV_X8_105 dX8_mean_22 (c_X7_has _ δ _ hu8 _ hn h4) ⟨by decide, by decide⟩ (wO_U δ _ hu8) rfl rfl rfl rfl (Nat.le_of_ble_eq_true rfl) (fun r_22 s_22 h_22 => ?_)
        obtain ⟨rfl, h_22⟩ := h_22
        rcases h_22 with ⟨rfl, h_22⟩ | ⟨rfl, h_22⟩
        · obtain ⟨c1, hc1, rfl⟩ := id h_22
          refine g_if_eq C 40 dX8_mean_25 (by decide) (fun c_25 => ?_) (fun c_25 => ?_)
          · exact absurd c_25 (by decide)
          · refine g_iload C dX8_mean_28 rfl ?_
            refine g_iconst (v := 1) C dX8_mean_30 (by decide) ?_
            refine g_icmp_lt C 40 dX8_mean_31 (by decide) (fun c_31 => ?_) (fun c_31 => ?_)
            · refine g_iconst (v := (-1)) C dX8_mean_40 (by decide) ?_
              exact g_iret C E dX8_mean_41 rfl rfl ⟨_, rfl, ⟨(by first | exact (gIf_f (fun z => h_2 z.1.1)).symm | exact (gIf_f (fun z => h_13 z.1.2)).symm | exact (gIf_f (fun z => h_22 ((okC_n hu8).mp z.2.1))).symm | exact (gIf_f (fun z => Int32.not_le.mpr c_31 z.2.2.1)).symm | exact (gIf_f (fun z => c_37 z.2.2.2)).symm), (by repeat (first | (with_reducible assumption) | (with_reducible exact gSm_r _) | (with_reducible refine gSm_I (by omega) ?_) | (with_reducible refine gSm_L (by omega) ?_) | (with_reducible refine gSm_N (by omega) ?_) | (with_reducible refine gSm_G (by omega) ?_) | (with_reducible refine gSm_P ?_)))⟩⟩
            · refine g_iload C dX8_mean_34 rfl ?_
              refine g_iconst (v := 3) C dX8_mean_36 (by decide) ?_
              refine g_icmp_le C 42 dX8_mean_37 (by decide) (fun c_37 => ?_) (fun c_37 => ?_)
              · have h3b : 1 ≤ a3 ∧ a3 ≤ 3 := ⟨Int32.not_lt.mp c_31, c_37⟩
                obtain ⟨m3, hm3, rfl⟩ := gIx_3 c_31 c_37
                refine g_aload_n C dX8_mean_42 rfl ?_
                refine g_aload C dX8_mean_43 rfl ?_
                refine g_iload_n C dX8_mean_45 rfl ?_
                refine g_iload_n C dX8_mean_46 rfl ?_
                refine g_callVi C sV_X8_195 dX8_mean_47 (c_X8_weighRowsa _ δ _ hu8 (k := k1) (c := c1) (by omega) (by omega) K R) ⟨by decide, by decide⟩ (wO_X δ _) rfl rfl rfl rfl (Nat.le_of_ble_eq_true rfl) (fun r_47 s_47 h_47 => ?_)
                obtain ⟨h_47, z_47⟩ := h_47
                refine g_istore C dX8_mean_50 (Nat.le_of_ble_eq_true rfl) rfl ?_
                refine g_lv [some _, some _, some _, some _, some _, some _, some _] (gs_some (gs_some (gs_some (gs_some (gs_some (gs_some (gs_some gs_nil))))))) ?_
                refine g_iload C dX8_mean_52 rfl ?_
                refine g_if_eq C 60 dX8_mean_54 (by decide) (fun c_54 => ?_) (fun c_54 => ?_)
                · refine g_aload_n C dX8_mean_60 rfl ?_
                  refine g_get C dX8_mean_61 iwX8 rfl (wO_X δ _) 6 (Nat.le_of_ble_eq_true rfl) mW223 rfl rfl ?_
                  refine g_iload C dX8_mean_64 rfl ?_
                  refine g_callVv C sV_X8_209 dX8_mean_66 (c_X0_findMean _ δ _ (m := m3) (by omega)) ⟨by decide, by decide⟩ (wO_A δ _) rfl rfl rfl rfl (Nat.le_of_ble_eq_true rfl) (fun s_66 h_66 => ?_)
                  have z_66 : gSm σ s_66 := gSm_t (by repeat (first | (with_reducible assumption) | (with_reducible exact gSm_r _) | (with_reducible refine gSm_I (by omega) ?_) | (with_reducible refine gSm_L (by omega) ?_) | (with_reducible refine gSm_N (by omega) ?_) | (with_reducible refine gSm_G (by omega) ?_) | (with_reducible refine gSm_P ?_))) h_66
                  refine g_aload_n C dX8_mean_69 rfl ?_
                  refine g_get C dX8_mean_70 iwX8 rfl (wO_X δ _) 7 (Nat.le_of_ble_eq_true rfl) mW224 rfl rfl ?_
                  refine g_aload_n C dX8_mean_73 rfl ?_
                  refine g_get C dX8_mean_74 iwX8 rfl (wO_X δ _) 6 (Nat.le_of_ble_eq_true rfl) mW223 rfl rfl ?_
                  refine g_get C dX8_mean_77 iwX0 rfl (wO_A δ _) 9 (Nat.le_of_ble_eq_true rfl) mW122 rfl rfl ?_
                  refine g_aload_n C dX8_mean_80 rfl ?_
                  refine g_get C dX8_mean_81 iwX8 rfl (wO_X δ _) 6 (Nat.le_of_ble_eq_true rfl) mW223 rfl rfl ?_
                  refine g_get C dX8_mean_84 iwX0 rfl (wO_A δ _) 10 (Nat.le_of_ble_eq_true rfl) mW124 rfl rfl ?_
                  refine g_aload_n C dX8_mean_87 rfl ?_
                  refine g_get C dX8_mean_88 iwX8 rfl (wO_X δ _) 6 (Nat.le_of_ble_eq_true rfl) mW223 rfl rfl ?_
                  refine g_get C dX8_mean_91 iwX0 rfl (wO_A δ _) 8 (Nat.le_of_ble_eq_true rfl) mW120 rfl rfl ?_
                  refine g_callVv C sV_X8_189 dX8_mean_94 (c_X1_become _ δ _ _ _ _) ⟨by decide, by decide⟩ (wO_F δ _) rfl rfl rfl rfl (Nat.le_of_ble_eq_true rfl) (fun s_94 h_94 => ?_)
                  have z_94 : gSm σ s_94 := gSm_t (by repeat (first | (with_reducible assumption) | (with_reducible exact gSm_r _) | (with_reducible refine gSm_I (by omega) ?_) | (with_reducible refine gSm_L (by omega) ?_) | (with_reducible refine gSm_N (by omega) ?_) | (with_reducible refine gSm_G (by omega) ?_) | (with_reducible refine gSm_P ?_))) h_94
                  refine g_iconst (v := 0) C dX8_mean_97 (by decide) ?_
                  exact g_iret C E dX8_mean_98 rfl rfl ⟨_, rfl, ⟨(c_54.symm.trans h_47).trans (aMean_at hu_2 hu8 hk1 hc1 h3b).symm, (by repeat (first | (with_reducible assumption) | (with_reducible exact gSm_r _) | (with_reducible refine gSm_I (by omega) ?_) | (with_reducible refine gSm_L (by omega) ?_) | (with_reducible refine gSm_N (by omega) ?_) | (with_reducible refine gSm_G (by omega) ?_) | (with_reducible refine gSm_P ?_)))⟩⟩
                · refine g_iload C dX8_mean_57 rfl ?_
                  exact g_iret C E dX8_mean_59 rfl rfl ⟨_, rfl, ⟨h_47.trans (aMean_at hu_2 hu8 hk1 hc1 h3b).symm, (by repeat (first | (with_reducible assumption) | (with_reducible exact gSm_r _) | (with_reducible refine gSm_I (by omega) ?_) | (with_reducible refine gSm_L (by omega) ?_) | (with_reducible refine gSm_N (by omega) ?_) | (with_reducible refine gSm_G (by omega) ?_) | (with_reducible refine gSm_P ?_)))⟩⟩
              · refine g_iconst (v := (-1)) C dX8_mean_40 (by decide) ?_
                exact g_iret C E dX8_mean_41 rfl rfl ⟨_, rfl, ⟨(by first | exact (gIf_f (fun z => h_2 z.1.1)).symm | exact (gIf_f (fun z => h_13 z.1.2)).symm | exact (gIf_f (fun z => h_22 ((okC_n hu8).mp z.2.1))).symm | exact (gIf_f (fun z => Int32.not_le.mpr c_31 z.2.2.1)).symm | exact (gIf_f (fun z => c_37 z.2.2.2)).symm), (by repeat (first | (with_reducible assumption) | (with_reducible exact gSm_r _) | (with_reducible refine gSm_I (by omega) ?_) | (with_reducible refine gSm_L (by omega) ?_) | (with_reducible refine gSm_N (by omega) ?_) | (with_reducible refine gSm_G (by omega) ?_) | (with_reducible refine gSm_P ?_)))⟩⟩
        · skip
          refine g_if_eq C 40 dX8_mean_25 (by decide) (fun c_25 => ?_) (fun c_25 => ?_)
          · refine g_iconst (v := (-1)) C dX8_mean_40 (by decide) ?_
            exact g_iret C E dX8_mean_41 rfl rfl ⟨_, rfl, ⟨(by first | exact (gIf_f (fun z => h_2 z.1.1)).symm | exact (gIf_f (fun z => h_13 z.1.2)).symm | exact (gIf_f (fun z => h_22 ((okC_n hu8).mp z.2.1))).symm | exact (gIf_f (fun z => Int32.not_le.mpr c_31 z.2.2.1)).symm | exact (gIf_f (fun z => c_37 z.2.2.2)).symm), (by repeat (first | (with_reducible assumption) | (with_reducible exact gSm_r _) | (with_reducible refine gSm_I (by omega) ?_) | (with_reducible refine gSm_L (by omega) ?_) | (with_reducible refine gSm_N (by omega) ?_) | (with_reducible refine gSm_G (by omega) ?_) | (with_reducible refine gSm_P ?_)))⟩⟩
          · exact absurd c_25 (by decide)
    · skip
      refine g_if_eq C 40 dX8_mean_16 (by decide) (fun c_16 => ?_) (fun c_16 => ?_)
      · refine g_iconst (v := (-1)) C dX8_mean_40 (by decide) ?_
        exact g_iret C E dX8_mean_41 rfl rfl ⟨_, rfl, ⟨(by first | exact (gIf_f (fun z => h_2 z.1.1)).symm | exact (gIf_f (fun z => h_13 z.1.2)).symm | exact (gIf_f (fun z => h_22 ((okC_n hu8).mp z.2.1))).symm | exact (gIf_f (fun z => Int32.not_le.mpr c_31 z.2.2.1)).symm | exact (gIf_f (fun z => c_37 z.2.2.2)).symm), (by repeat (first | (with_reducible assumption) | (with_reducible exact gSm_r _) | (with_reducible refine gSm_I (by omega) ?_) | (with_reducible refine gSm_L (by omega) ?_) | (with_reducible refine gSm_N (by omega) ?_) | (with_reducible refine gSm_G (by omega) ?_) | (with_reducible refine gSm_P ?_)))⟩⟩
      · exact absurd c_16 (by decide)
set_option maxRecDepth 100000 in
set_option maxHeartbeats 4000000 in
theorem c_X8_sharea (l : Launch) (δ : GD) (σ : GS) (a0 a1 a2 : Int32) {v : GV} (K : KC σ v) (R : RV v) : gM l δ yX8_share cX8_share 11 (some .int) 2 60 [.ref (δ.2.2.1 0), .int a0, .int a1, .int a2] σ (gPi (fun x σ' => x = aShare v a0 a1 a2 ∧ gSm σ σ')) := by
  refine g_of (lv0 := [some (.ref (δ.2.2.1 0)), some (.int a0), some (.int a1), some (.int a2), none, none, none, none, none, none, none]) (by decide) rfl (Nat.le_of_ble_eq_true rfl) (fun Γ hl C E => ?_)
  subst hl
  have C : gC Γ δ cX8_share RX8 11 2 60 := C
  have hm := K.1
  have h8 := R.1
  obtain ⟨kn, hkn, hx, -⟩ := id K.2.2.2.2
  have hl := K.2.2.2.1.2
  have h20 := K.2.2.2.1.1
  refine g_aload_n C dX8_share_0 rfl ?_
  refine g_iload_n C dX8_share_1 rfl ?_
  refine g_callVr C sV_X8_101 dX8_share_2 (c_X8_urnAt _ δ _ _ hm h8) ⟨by decide, by decide⟩ (wO_X δ _) rfl rfl rfl rfl (Nat.le_of_ble_eq_true rfl) (fun r_2 s_2 h_2 => ?_)
  obtain ⟨rfl, h_2⟩ := h_2
  rcases h_2 with ⟨rfl, h_2⟩ | ⟨u_2, hu_2, e_2, rfl⟩
  · skip
    refine g_astoreN C dX8_share_5 (Nat.le_of_ble_eq_true rfl) rfl ?_
    refine g_lv [some _, some _, some _, some _, some _, none, none, none, none, none, none] (gs_some (gs_some (gs_some (gs_some (gs_some (gs_none (gs_none (gs_none (gs_none (gs_none (gs_none gs_nil))))))))))) ?_
    refine g_aloadN C dX8_share_7 rfl ?_
    refine g_ifnull_n C 31 dX8_share_9 (by decide) ?_
    refine g_iconst (v := (-1)) C dX8_share_31 (by decide) ?_
    exact g_iret C E dX8_share_32 rfl rfl ⟨_, rfl, ⟨(by first | exact (gIf_f (fun z => h_2 z.1.1)).symm | exact (gIf_f (fun z => h_15 ((okC_n hu8).mp z.1.2))).symm | exact (gIf_f (fun z => Int32.not_le.mpr c_23 z.2.1)).symm | exact (gIf_f (fun z => c_28 z.2.2)).symm), (by repeat (first | (with_reducible assumption) | (with_reducible exact gSm_r _) | (with_reducible refine gSm_I (by omega) ?_) | (with_reducible refine gSm_L (by omega) ?_) | (with_reducible refine gSm_N (by omega) ?_) | (with_reducible refine gSm_G (by omega) ?_) | (with_reducible refine gSm_P ?_)))⟩⟩
  · have hu8 : u_2 < 8 := by omega
    obtain ⟨h2, h4⟩ := (R.2.1 u_2 hu8).1 hu_2
    have hn := K.2.1 u_2 hu8
    subst e_2
    refine g_astore C dX8_share_5 (Nat.le_of_ble_eq_true rfl) rfl ?_
    refine g_lv [some _, some _, some _, some _, some _, none, none, none, none, none, none] (gs_some (gs_some (gs_some (gs_some (gs_some (gs_none (gs_none (gs_none (gs_none (gs_none (gs_none gs_nil))))))))))) ?_
    refine g_aload C dX8_share_7 rfl ?_
    refine g_ifnull_r C dX8_share_9 ?_
    refine g_aload C dX8_share_12 rfl ?_
    refine g_iload_n C dX8_share_14 rfl ?_
    refine g_callVi C sV_X8_105 dX8_share_15 (c_X7_has _ δ _ hu8 _ hn h4) ⟨by decide, by decide⟩ (wO_U δ _ hu8) rfl rfl rfl rfl (Nat.le_of_ble_eq_true rfl) (fun r_15 s_15 h_15 => ?_)
    obtain ⟨rfl, h_15⟩ := h_15
    rcases h_15 with ⟨rfl, h_15⟩ | ⟨rfl, h_15⟩
    · obtain ⟨c1, hc1, rfl⟩ := id h_15
      refine g_if_eq C 31 dX8_share_18 (by decide) (fun c_18 => ?_) (fun c_18 => ?_)
      · exact absurd c_18 (by decide)
      · refine g_iload_n C dX8_share_21 rfl ?_
        refine g_iconst (v := 1) C dX8_share_22 (by decide) ?_
        refine g_icmp_lt C 31 dX8_share_23 (by decide) (fun c_23 => ?_) (fun c_23 => ?_)
        · refine g_iconst (v := (-1)) C dX8_share_31 (by decide) ?_
          exact g_iret C E dX8_share_32 rfl rfl ⟨_, rfl, ⟨(by first | exact (gIf_f (fun z => h_2 z.1.1)).symm | exact (gIf_f (fun z => h_15 ((okC_n hu8).mp z.1.2))).symm | exact (gIf_f (fun z => Int32.not_le.mpr c_23 z.2.1)).symm | exact (gIf_f (fun z => c_28 z.2.2)).symm), (by repeat (first | (with_reducible assumption) | (with_reducible exact gSm_r _) | (with_reducible refine gSm_I (by omega) ?_) | (with_reducible refine gSm_L (by omega) ?_) | (with_reducible refine gSm_N (by omega) ?_) | (with_reducible refine gSm_G (by omega) ?_) | (with_reducible refine gSm_P ?_)))⟩⟩
        · refine g_iload_n C dX8_share_26 rfl ?_
          refine g_iconst (v := 4) C dX8_share_27 (by decide) ?_
          refine g_icmp_le C 33 dX8_share_28 (by decide) (fun c_28 => ?_) (fun c_28 => ?_)
          · have h4b : 1 ≤ a2 ∧ a2 ≤ 4 := ⟨Int32.not_lt.mp c_23, c_28⟩
            obtain ⟨k1, hk1, rfl⟩ := gIx_4 c_23 c_28
            refine g_aload C dX8_share_33 rfl ?_
            refine g_iconst (v := 0) C dX8_share_35 (by decide) ?_
            refine g_callVi C sV_X8_140 dX8_share_36 (c_X7_growth _ δ _ hu8 (c := 0) (by omega) hn h4) ⟨by decide, by decide⟩ (wO_U δ _ hu8) rfl rfl rfl rfl (Nat.le_of_ble_eq_true rfl) (fun r_36 s_36 h_36 => ?_)
            obtain ⟨rfl, rfl⟩ := h_36
            rw [KC_gr K R hu8 (by omega)]
            refine g_istore C dX8_share_39 (Nat.le_of_ble_eq_true rfl) rfl ?_
            refine g_lv [some _, some _, some _, some _, some _, some _, none, none, none, none, none] (gs_some (gs_some (gs_some (gs_some (gs_some (gs_some (gs_none (gs_none (gs_none (gs_none (gs_none gs_nil))))))))))) ?_
            refine g_aload C dX8_share_41 rfl ?_
            refine g_callVi C sV_X8_144 dX8_share_43 (c_X7_isLike _ δ _ hu8 hn h4) ⟨by decide, by decide⟩ (wO_U δ _ hu8) rfl rfl rfl rfl (Nat.le_of_ble_eq_true rfl) (fun r_43 s_43 h_43 => ?_)
            obtain ⟨rfl, h_43⟩ := h_43
            rcases h_43 with ⟨rfl, h_43⟩ | ⟨rfl, h_43⟩
            · have hl := (KC_lk K R hu8 h2).mp h_43
              refine g_if_eq C 62 dX8_share_46 (by decide) (fun c_46 => ?_) (fun c_46 => ?_)
              · exact absurd c_46 (by decide)
              · refine g_iload C dX8_share_49 rfl ?_
                refine g_if_le C 62 dX8_share_51 (by decide) (fun c_51 => ?_) (fun c_51 => ?_)
                · refine g_bipush (v := (-2)) C dX8_share_62 (by decide) ?_
                  exact g_iret C E dX8_share_64 rfl rfl ⟨_, rfl, ⟨((aShare_at hu_2 hu8 hc1 h4b).trans (gIf_f (by first | exact fun z => hl z.1 | exact fun z => z.2.1 (Int32.le_antisymm c_51 hl.1.2) | exact fun z => z.2.2 c_59))).symm, (by repeat (first | (with_reducible assumption) | (with_reducible exact gSm_r _) | (with_reducible refine gSm_I (by omega) ?_) | (with_reducible refine gSm_L (by omega) ?_) | (with_reducible refine gSm_N (by omega) ?_) | (with_reducible refine gSm_G (by omega) ?_) | (with_reducible refine gSm_P ?_)))⟩⟩
                · refine g_aload C dX8_share_54 rfl ?_
                  refine g_callVi C sV_X8_129 dX8_share_56 (c_X7_total _ δ _ hu8) ⟨by decide, by decide⟩ (wO_U δ _ hu8) rfl rfl rfl rfl (Nat.le_of_ble_eq_true rfl) (fun r_56 s_56 h_56 => ?_)
                  obtain ⟨rfl, rfl⟩ := h_56
                  rw [KC_sum K hu8]
                  refine g_if_ne C 65 dX8_share_59 (by decide) (fun c_59 => ?_) (fun c_59 => ?_)
                  · refine g_lconst (v := 1) C dX8_share_65 (by decide) ?_
                    refine g_lstore C dX8_share_66 (Nat.le_of_ble_eq_true rfl) rfl ?_
                    refine g_lv [some _, some _, some _, some _, some _, some _, some _, none, none, none, none] (gs_some (gs_some (gs_some (gs_some (gs_some (gs_some (gs_some (gs_none (gs_none (gs_none (gs_none gs_nil))))))))))) ?_
                    refine g_lconst (v := 1) C dX8_share_68 (by decide) ?_
                    refine g_lstore C dX8_share_69 (Nat.le_of_ble_eq_true rfl) rfl ?_
                    refine g_lv [some _, some _, some _, some _, some _, some _, some _, none, some _, none, none] (gs_some (gs_some (gs_some (gs_some (gs_some (gs_some (gs_some (gs_none (gs_some (gs_none (gs_none gs_nil))))))))))) ?_
                    refine g_iconst (v := 0) C dX8_share_71 (by decide) ?_
                    refine g_istore C dX8_share_72 (Nat.le_of_ble_eq_true rfl) rfl ?_
                    refine g_lv [some _, some _, some _, some _, some _, some _, some _, none, some _, none, some _] (gs_some (gs_some (gs_some (gs_some (gs_some (gs_some (gs_some (gs_none (gs_some (gs_none (gs_some gs_nil))))))))))) ?_
                    have L_74 : ∀ (nn : Nat) (i : Nat) (x y : Int64) (hi : i ≤ k1), k1 - i < nn → gW Γ δ σ 74 [some (.ref (δ.2.2.1 0)), some (.int (nI u_2)), some (.int (nI c1)), some (.int (nI k1)), some (.ref (δ.2.2.1 (8 + u_2))), some (.int (gGr (tS (vS v) u_2) 0 4)), some (.long x), none, some (.long y), none, some (.int (nI i))] [] := by
                      intro nn
                      induction nn with
                      | zero =>
                        intro i x y hi hm_74
                        exact absurd hm_74 (Nat.not_lt_zero _)
                      | succ nn ih_74 =>
                        intro i x y hi hm_74
                        refine g_iload C dX8_share_74 rfl ?_
                        refine g_iload_n C dX8_share_76 rfl ?_
                        refine g_icmp_ge C 122 dX8_share_77 (by decide) (fun c_77 => ?_) (fun c_77 => ?_)
                        · have k_77 := gle c_77 (a := k1) (b := i) (by first | rfl | assumption | (simp only [glit, nI_add, pk_mul]; done) | (simp only [glit, nI_add, pk_mul]; congr 1; omega) | (simp only [*, glit, nI_add, pk_mul]; congr 1; omega)) (by first | rfl | assumption | (simp only [glit, nI_add, pk_mul]; done) | (simp only [glit, nI_add, pk_mul]; congr 1; omega) | (simp only [*, glit, nI_add, pk_mul]; congr 1; omega)) (by omega) (by omega)
                          refine g_aload_n C dX8_share_122 rfl ?_
                          refine g_get C dX8_share_123 iwX8 rfl (wO_X δ _) 7 (Nat.le_of_ble_eq_true rfl) mW224 rfl rfl ?_
                          refine g_lconst (v := 0) C dX8_share_126 (by decide) ?_
                          refine g_lload C dX8_share_127 rfl ?_
                          refine g_lload C dX8_share_129 rfl ?_
                          refine g_callVv C sV_X8_189 dX8_share_131 (c_X1_become _ δ _ _ _ _) ⟨by decide, by decide⟩ (wO_F δ _) rfl rfl rfl rfl (Nat.le_of_ble_eq_true rfl) (fun s_131 h_131 => ?_)
                          have z_131 : gSm σ s_131 := gSm_t (by repeat (first | (with_reducible assumption) | (with_reducible exact gSm_r _) | (with_reducible refine gSm_I (by omega) ?_) | (with_reducible refine gSm_L (by omega) ?_) | (with_reducible refine gSm_N (by omega) ?_) | (with_reducible refine gSm_G (by omega) ?_) | (with_reducible refine gSm_P ?_))) h_131
                          refine g_iconst (v := 0) C dX8_share_134 (by decide) ?_
                          exact g_iret C E dX8_share_135 rfl rfl ⟨_, rfl, ⟨((aShare_at hu_2 hu8 hc1 h4b).trans (gIf_t ⟨hl, fun z => c_51 (by rw [z]; exact Int32.le_refl _), c_59⟩)).symm, (by repeat (first | (with_reducible assumption) | (with_reducible exact gSm_r _) | (with_reducible refine gSm_I (by omega) ?_) | (with_reducible refine gSm_L (by omega) ?_) | (with_reducible refine gSm_N (by omega) ?_) | (with_reducible refine gSm_G (by omega) ?_) | (with_reducible refine gSm_P ?_)))⟩⟩
                        · have k_77 := gnle c_77 (a := k1) (b := i) (by first | rfl | assumption | (simp only [glit, nI_add, pk_mul]; done) | (simp only [glit, nI_add, pk_mul]; congr 1; omega) | (simp only [*, glit, nI_add, pk_mul]; congr 1; omega)) (by first | rfl | assumption | (simp only [glit, nI_add, pk_mul]; done) | (simp only [glit, nI_add, pk_mul]; congr 1; omega) | (simp only [*, glit, nI_add, pk_mul]; congr 1; omega)) (by omega) (by omega)
                          refine g_lload C dX8_share_80 rfl ?_
                          refine g_aload C dX8_share_82 rfl ?_
                          refine g_get C dX8_share_84 iwX7 rfl (wO_U δ _ hu8) 0 (Nat.le_of_ble_eq_true rfl) mW194 rfl rfl ?_
                          refine g_iload_n C dX8_share_87 rfl ?_
                          refine g_ialdN C dX8_share_88 (k := c1) (q := u_2) (by omega) rfl (by first | rfl | assumption | (simp only [glit, nI_add, pk_mul]; done) | (simp only [glit, nI_add, pk_mul]; congr 1; omega) | (simp only [*, glit, nI_add, pk_mul]; congr 1; omega)) (by rw [gLenI_b hu8]; omega) ?_
                          refine g_iload C dX8_share_89 rfl ?_
                          refine g_iload C dX8_share_91 rfl ?_
                          refine g_imul C dX8_share_93 ?_
                          refine g_iadd C dX8_share_94 ?_
                          refine g_i2l C dX8_share_95 ?_
                          refine g_lmul C dX8_share_96 ?_
                          refine g_lstore C dX8_share_97 (Nat.le_of_ble_eq_true rfl) rfl ?_
                          refine g_lv [some _, some _, some _, some _, some _, some _, some _, none, some _, none, some _] (gs_some (gs_some (gs_some (gs_some (gs_some (gs_some (gs_some (gs_none (gs_some (gs_none (gs_some gs_nil))))))))))) ?_
                          refine g_lload C dX8_share_99 rfl ?_
                          refine g_aload C dX8_share_101 rfl ?_
                          refine g_callVi C sV_X8_129 dX8_share_103 (c_X7_total _ δ _ hu8) ⟨by decide, by decide⟩ (wO_U δ _ hu8) rfl rfl rfl rfl (Nat.le_of_ble_eq_true rfl) (fun r_103 s_103 h_103 => ?_)
                          obtain ⟨rfl, h_103⟩ := h_103
                          refine g_iload C dX8_share_106 rfl ?_
                          refine g_iload C dX8_share_108 rfl ?_
                          refine g_imul C dX8_share_110 ?_
                          refine g_iadd C dX8_share_111 ?_
                          refine g_i2l C dX8_share_112 ?_
                          refine g_lmul C dX8_share_113 ?_
                          refine g_lstore C dX8_share_114 (Nat.le_of_ble_eq_true rfl) rfl ?_
                          refine g_lv [some _, some _, some _, some _, some _, some _, some _, none, some _, none, some _] (gs_some (gs_some (gs_some (gs_some (gs_some (gs_some (gs_some (gs_none (gs_some (gs_none (gs_some gs_nil))))))))))) ?_
                          refine g_iinc (v := nI (i + 1)) C dX8_share_116 rfl (ginc _ 1) rfl ?_
                          refine g_lv [some _, some _, some _, some _, some _, some _, some _, none, some _, none, some _] (gs_some (gs_some (gs_some (gs_some (gs_some (gs_some (gs_some (gs_none (gs_some (gs_none (gs_some gs_nil))))))))))) ?_
                          refine g_goto C 74 dX8_share_119 (by decide) ?_
                          refine g_lv [some _, some _, some _, some _, some _, some _, some _, none, some _, none, some _] (gs_some (gs_some (gs_some (gs_some (gs_some (gs_some (gs_some (gs_none (gs_some (gs_none (gs_some gs_nil))))))))))) ?_
                          exact ih_74 (i + 1) _ _ (by omega) (by omega)
                    refine g_lv [some _, some _, some _, some _, some _, some _, some _, none, some _, none, some _] (gs_some (gs_some (gs_some (gs_some (gs_some (gs_some (gs_some (gs_none (gs_some (gs_none (gs_some gs_nil))))))))))) ?_
                    exact L_74 _ 0 _ _ (by omega) (Nat.lt_succ_self _)
                  · refine g_bipush (v := (-2)) C dX8_share_62 (by decide) ?_
                    exact g_iret C E dX8_share_64 rfl rfl ⟨_, rfl, ⟨((aShare_at hu_2 hu8 hc1 h4b).trans (gIf_f (by first | exact fun z => hl z.1 | exact fun z => z.2.1 (Int32.le_antisymm c_51 hl.1.2) | exact fun z => z.2.2 c_59))).symm, (by repeat (first | (with_reducible assumption) | (with_reducible exact gSm_r _) | (with_reducible refine gSm_I (by omega) ?_) | (with_reducible refine gSm_L (by omega) ?_) | (with_reducible refine gSm_N (by omega) ?_) | (with_reducible refine gSm_G (by omega) ?_) | (with_reducible refine gSm_P ?_)))⟩⟩
            · have hl := fun z => h_43 ((KC_lk K R hu8 h2).mpr z)
              refine g_if_eq C 62 dX8_share_46 (by decide) (fun c_46 => ?_) (fun c_46 => ?_)
              · refine g_bipush (v := (-2)) C dX8_share_62 (by decide) ?_
                exact g_iret C E dX8_share_64 rfl rfl ⟨_, rfl, ⟨((aShare_at hu_2 hu8 hc1 h4b).trans (gIf_f (by first | exact fun z => hl z.1 | exact fun z => z.2.1 (Int32.le_antisymm c_51 hl.1.2) | exact fun z => z.2.2 c_59))).symm, (by repeat (first | (with_reducible assumption) | (with_reducible exact gSm_r _) | (with_reducible refine gSm_I (by omega) ?_) | (with_reducible refine gSm_L (by omega) ?_) | (with_reducible refine gSm_N (by omega) ?_) | (with_reducible refine gSm_G (by omega) ?_) | (with_reducible refine gSm_P ?_)))⟩⟩
              · exact absurd c_46 (by decide)
          · refine g_iconst (v := (-1)) C dX8_share_31 (by decide) ?_
            exact g_iret C E dX8_share_32 rfl rfl ⟨_, rfl, ⟨(by first | exact (gIf_f (fun z => h_2 z.1.1)).symm | exact (gIf_f (fun z => h_15 ((okC_n hu8).mp z.1.2))).symm | exact (gIf_f (fun z => Int32.not_le.mpr c_23 z.2.1)).symm | exact (gIf_f (fun z => c_28 z.2.2)).symm), (by repeat (first | (with_reducible assumption) | (with_reducible exact gSm_r _) | (with_reducible refine gSm_I (by omega) ?_) | (with_reducible refine gSm_L (by omega) ?_) | (with_reducible refine gSm_N (by omega) ?_) | (with_reducible refine gSm_G (by omega) ?_) | (with_reducible refine gSm_P ?_)))⟩⟩
    · skip
      refine g_if_eq C 31 dX8_share_18 (by decide) (fun c_18 => ?_) (fun c_18 => ?_)
      · refine g_iconst (v := (-1)) C dX8_share_31 (by decide) ?_
        exact g_iret C E dX8_share_32 rfl rfl ⟨_, rfl, ⟨(by first | exact (gIf_f (fun z => h_2 z.1.1)).symm | exact (gIf_f (fun z => h_15 ((okC_n hu8).mp z.1.2))).symm | exact (gIf_f (fun z => Int32.not_le.mpr c_23 z.2.1)).symm | exact (gIf_f (fun z => c_28 z.2.2)).symm), (by repeat (first | (with_reducible assumption) | (with_reducible exact gSm_r _) | (with_reducible refine gSm_I (by omega) ?_) | (with_reducible refine gSm_L (by omega) ?_) | (with_reducible refine gSm_N (by omega) ?_) | (with_reducible refine gSm_G (by omega) ?_) | (with_reducible refine gSm_P ?_)))⟩⟩
      · exact absurd c_18 (by decide)
