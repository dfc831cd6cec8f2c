set_option maxRecDepth 100000 in
set_option maxHeartbeats 4000000 in
theorem c_X9_evenFaulta (l : Launch) (δ : GD) (σ : GS) {u : Nat} (hu : u < 8) {k : Nat} (hk : k ≤ 12) {v : GV} (K : KM σ v) (R : RV v) : gM l δ yX9_evenFault cX9_evenFault 6 (some .int) 2 47 [.ref (δ.2.2.1 1), .int (nI u), .int (nI k)] σ (gPi (fun x σ' => gSm σ σ' ∧ x = aEv v u k ∧ (¬ x < 0 → ¬ gG σ' 15 = 0) ∧ (¬ x < 0 → gG σ' 15 = lN (dD (vT v u) (vG v u) k)))) := by
  refine g_of (lv0 := [some (.ref (δ.2.2.1 1)), some (.int (nI u)), some (.int (nI k)), none, none, none]) (by decide) rfl (Nat.le_of_ble_eq_true rfl) (fun Γ hl C E => ?_)
  subst hl
  have C : gC Γ δ cX9_evenFault RX9 6 2 47 := C
  have hn := K.2.1 u hu
  have h4 := RV_n R hu
  have hT := vT_b R hu
  have hG := vG_b R hu
  refine g_aload_n C dX9_evenFault_0 rfl ?_
  refine g_iload_n C dX9_evenFault_1 rfl ?_
  refine g_callVi C sV_X9_110 dX9_evenFault_2 (c_X9_isEven _ δ _ hu hn h4) ⟨by decide, by decide⟩ (wO_M δ _) rfl rfl rfl rfl (Nat.le_of_ble_eq_true rfl) (fun r_2 s_2 h_2 => ?_)
  obtain ⟨rfl, h_2⟩ := h_2
  have h_2 := gAcc_i h_2 (KM_ev K R hu)
  refine g_if_eq C 16 dX9_evenFault_5 (by decide) (fun c_5 => ?_) (fun c_5 => ?_)
  · refine g_bipush (v := (-2)) C dX9_evenFault_16 (by decide) ?_
    exact g_iret C E dX9_evenFault_18 rfl rfl ⟨_, rfl, ⟨(by repeat (first | (with_reducible assumption) | (with_reducible exact gSm_r _) | (with_reducible refine gSm_I (by omega) ?_) | (with_reducible refine gSm_L (by omega) ?_) | (with_reducible refine gSm_N (by omega) ?_) | (with_reducible refine gSm_G (by omega) ?_) | (with_reducible refine gSm_P ?_))), by first | exact (aEv_e (Or.inl (gAcc_n h_2 c_5))).symm | exact (aEv_e (Or.inr c_13)).symm, fun h => absurd (by decide) h, fun h => absurd (by decide) h⟩⟩
  · refine g_aload_n C dX9_evenFault_8 rfl ?_
    refine g_iload_n C dX9_evenFault_9 rfl ?_
    refine g_callVi C sV_X9_113 dX9_evenFault_10 (c_X9_balls _ δ _ hu) ⟨by decide, by decide⟩ (wO_M δ _) rfl rfl rfl rfl (Nat.le_of_ble_eq_true rfl) (fun r_10 s_10 h_10 => ?_)
    obtain ⟨rfl, rfl⟩ := h_10
    rw [KM_sum K hu]
    refine g_if_ne C 19 dX9_evenFault_13 (by decide) (fun c_13 => ?_) (fun c_13 => ?_)
    · refine g_aload_n C dX9_evenFault_19 rfl ?_
      refine g_lconst (v := 1) C dX9_evenFault_20 (by decide) ?_
      refine g_put C tyX9 dX9_evenFault_21 iwX9 tyX9_ok nmX9 rfl (wO_M δ _) 20 (Nat.le_of_ble_eq_true rfl) mW592 rfl rfl rfl rfl rfl (Nat.le_of_ble_eq_true rfl) (pG_15 δ _ _) ?_
      refine g_iconst (v := 0) C dX9_evenFault_24 (by decide) ?_
      refine g_istore_n C dX9_evenFault_25 (Nat.le_of_ble_eq_true rfl) rfl ?_
      refine g_lv [some _, some _, some _, some _, none, none] (gs_some (gs_some (gs_some (gs_some (gs_none (gs_none gs_nil)))))) ?_
      have L_26 : ∀ (nn : Nat) (i : Nat) (s1 : GS) (hi : i ≤ k) (hs : gSm σ s1) (hq : gG s1 15 = lN (dD (vT v u) (vG v u) i)) (hl : dD (vT v u) (vG v u) i ≤ 10000000000000000), k - i < nn → gW Γ δ s1 26 [some (.ref (δ.2.2.1 1)), some (.int (nI u)), some (.int (nI k)), some (.int (nI i)), none, none] [] := by
        intro nn
        induction nn with
        | zero =>
          intro i s1 hi hs hq hl hm_26
          exact absurd hm_26 (Nat.not_lt_zero _)
        | succ nn ih_26 =>
          intro i s1 hi hs hq hl hm_26
          have K1 := KM_sm hs K
          have f1 := dF_1 (vT v u) (vG v u) i
          have f2 := dF_2 hT hG (show i ≤ 12 by omega)
          refine g_iload_n C dX9_evenFault_26 rfl ?_
          refine g_iload_n C dX9_evenFault_27 rfl ?_
          refine g_icmp_ge C 91 dX9_evenFault_28 (by decide) (fun c_28 => ?_) (fun c_28 => ?_)
          · have k_28 := gle c_28 (a := k) (b := i) (by first | rfl | assumption | (simp only [glit, nI_add, pk_mul]; done) | (simp only [glit, nI_add, pk_mul]; congr 1; omega) | (simp only [*, glit, nI_add, pk_mul]; congr 1; omega)) (by first | rfl | assumption | (simp only [glit, nI_add, pk_mul]; done) | (simp only [glit, nI_add, pk_mul]; congr 1; omega) | (simp only [*, glit, nI_add, pk_mul]; congr 1; omega)) (by omega) (by omega)
            have ek : k = i := by omega
            subst ek
            refine g_iconst (v := 0) C dX9_evenFault_91 (by decide) ?_
            exact g_iret C E dX9_evenFault_92 rfl rfl ⟨_, rfl, ⟨(by repeat (first | (with_reducible assumption) | (with_reducible exact gSm_r _) | (with_reducible refine gSm_I (by omega) ?_) | (with_reducible refine gSm_L (by omega) ?_) | (with_reducible refine gSm_N (by omega) ?_) | (with_reducible refine gSm_G (by omega) ?_) | (with_reducible refine gSm_P ?_))), (aEv_0 (gAcc_y h_2 c_5) c_13 hl).symm, fun _ => by rw [hq]; exact lNz (dD_1 _ _ _) (by omega), fun _ => hq⟩⟩
          · have k_28 := gnle c_28 (a := k) (b := i) (by first | rfl | assumption | (simp only [glit, nI_add, pk_mul]; done) | (simp only [glit, nI_add, pk_mul]; congr 1; omega) | (simp only [*, glit, nI_add, pk_mul]; congr 1; omega)) (by first | rfl | assumption | (simp only [glit, nI_add, pk_mul]; done) | (simp only [glit, nI_add, pk_mul]; congr 1; omega) | (simp only [*, glit, nI_add, pk_mul]; congr 1; omega)) (by omega) (by omega)
            refine g_aload_n C dX9_evenFault_31 rfl ?_
            refine g_iload_n C dX9_evenFault_32 rfl ?_
            refine g_callVi C sV_X9_113 dX9_evenFault_33 (c_X9_balls _ δ _ hu) ⟨by decide, by decide⟩ (wO_M δ _) rfl rfl rfl rfl (Nat.le_of_ble_eq_true rfl) (fun r_33 s_33 h_33 => ?_)
            obtain ⟨rfl, rfl⟩ := h_33
            rw [KM_sum K1 hu]
            refine g_i2l C dX9_evenFault_36 ?_
            refine g_iload_n C dX9_evenFault_37 rfl ?_
            refine g_i2l C dX9_evenFault_38 ?_
            refine g_aload_n C dX9_evenFault_39 rfl ?_
            refine g_iload_n C dX9_evenFault_40 rfl ?_
            refine g_iconst (v := 0) C dX9_evenFault_41 (by decide) ?_
            refine g_callVi C sV_X9_107 dX9_evenFault_42 (c_X9_addedSum _ δ _ hu (c := 0) (by omega)) ⟨by decide, by decide⟩ (wO_M δ _) rfl rfl rfl rfl (Nat.le_of_ble_eq_true rfl) (fun r_42 s_42 h_42 => ?_)
            obtain ⟨rfl, rfl⟩ := h_42
            rw [KM_gr K1 hu (by omega)]
            refine g_i2l C dX9_evenFault_45 ?_
            refine g_lmul C dX9_evenFault_46 ?_
            refine g_ladd C dX9_evenFault_47 ?_
            refine g_lstore C dX9_evenFault_48 (Nat.le_of_ble_eq_true rfl) rfl ?_
            refine g_lv [some _, some _, some _, some _, some _, none] (gs_some (gs_some (gs_some (gs_some (gs_some (gs_none gs_nil)))))) ?_
            refine g_lload C dX9_evenFault_50 rfl ?_
            refine g_lconst (v := 0) C dX9_evenFault_52 (by decide) ?_
            refine g_lcmp C dX9_evenFault_53 ?_
            refine g_if_le C 85 dX9_evenFault_54 (by decide) (fun c_54 => ?_) (fun c_54 => ?_)
            · rw [lg_cmp_le] at c_54
              refine g_iinc (v := nI (i + 1)) C dX9_evenFault_85 rfl (ginc _ 1) rfl ?_
              refine g_lv [some _, some _, some _, some _, some _, none] (gs_some (gs_some (gs_some (gs_some (gs_some (gs_none gs_nil)))))) ?_
              refine g_goto C 26 dX9_evenFault_88 (by decide) ?_
              refine g_lv [some _, some _, some _, some _, none, none] (gs_some (gs_some (gs_some (gs_some (gs_none (gs_none gs_nil)))))) ?_
              exact ih_26 (i + 1) _ (by omega) (by repeat (first | (with_reducible assumption) | (with_reducible exact gSm_r _) | (with_reducible refine gSm_I (by omega) ?_) | (with_reducible refine gSm_L (by omega) ?_) | (with_reducible refine gSm_N (by omega) ?_) | (with_reducible refine gSm_G (by omega) ?_) | (with_reducible refine gSm_P ?_))) (by first | exact hq.trans (congrArg lN (mfac_n hT hG (by omega) c_54).symm) | (rw [gG_uG, if_pos rfl]; exact lN_mul _ _)) (by first | exact c_68 | (rw [show dD (vT v u) (vG v u) (i + 1) = dD (vT v u) (vG v u) i from mfac_n hT hG (by omega) c_54]; exact hl)) (by omega)
            · rw [lg_cmp_le] at c_54
              have ef : (sumS (vS v) u).toInt64 + (nI i).toInt64 * (gGr (tS (vS v) u) 0 4).toInt64 = lN (dF (vT v u) (vG v u) i) := mfac_p hT hG (show i ≤ 12 by omega) c_54
              rw [ef]
              refine g_aload_n C dX9_evenFault_57 rfl ?_
              refine g_get C dX9_evenFault_58 iwX9 rfl (wO_M δ _) 20 (Nat.le_of_ble_eq_true rfl) mW592 rfl rfl ?_
              rw [hq]
              refine g_ldc2 C dX9_evenFault_61 mW817 ?_
              refine g_lload C dX9_evenFault_64 rfl ?_
              refine g_ldiv C dX9_evenFault_66 (lNz f1 (by omega)) ?_
              refine g_lcmp C dX9_evenFault_67 ?_
              refine g_if_le C 74 dX9_evenFault_68 (by decide) (fun c_68 => ?_) (fun c_68 => ?_)
              · rw [lg_cmp_le] at c_68
                rw [dl_le hl f1 f2] at c_68
                refine g_aload_n C dX9_evenFault_74 rfl ?_
                refine g_dup C dX9_evenFault_75 rfl ?_
                refine g_get C dX9_evenFault_76 iwX9 rfl (wO_M δ _) 20 (Nat.le_of_ble_eq_true rfl) mW592 rfl rfl ?_
                rw [hq]
                refine g_lload C dX9_evenFault_79 rfl ?_
                refine g_lmul C dX9_evenFault_81 ?_
                refine g_put C tyX9 dX9_evenFault_82 iwX9 tyX9_ok nmX9 rfl (wO_M δ _) 20 (Nat.le_of_ble_eq_true rfl) mW592 rfl rfl rfl rfl rfl (Nat.le_of_ble_eq_true rfl) (pG_15 δ _ _) ?_
                refine g_iinc (v := nI (i + 1)) C dX9_evenFault_85 rfl (ginc _ 1) rfl ?_
                refine g_lv [some _, some _, some _, some _, some _, none] (gs_some (gs_some (gs_some (gs_some (gs_some (gs_none gs_nil)))))) ?_
                refine g_goto C 26 dX9_evenFault_88 (by decide) ?_
                refine g_lv [some _, some _, some _, some _, none, none] (gs_some (gs_some (gs_some (gs_some (gs_none (gs_none gs_nil)))))) ?_
                exact ih_26 (i + 1) _ (by omega) (by repeat (first | (with_reducible assumption) | (with_reducible exact gSm_r _) | (with_reducible refine gSm_I (by omega) ?_) | (with_reducible refine gSm_L (by omega) ?_) | (with_reducible refine gSm_N (by omega) ?_) | (with_reducible refine gSm_G (by omega) ?_) | (with_reducible refine gSm_P ?_))) (by first | exact hq.trans (congrArg lN (mfac_n hT hG (by omega) c_54).symm) | (rw [gG_uG, if_pos rfl]; exact lN_mul _ _)) (by first | exact c_68 | (rw [show dD (vT v u) (vG v u) (i + 1) = dD (vT v u) (vG v u) i from mfac_n hT hG (by omega) c_54]; exact hl)) (by omega)
              · rw [lg_cmp_le] at c_68
                rw [dl_le hl f1 f2] at c_68
                refine g_bipush (v := (-6)) C dX9_evenFault_71 (by decide) ?_
                exact g_iret C E dX9_evenFault_73 rfl rfl ⟨_, rfl, ⟨(by repeat (first | (with_reducible assumption) | (with_reducible exact gSm_r _) | (with_reducible refine gSm_I (by omega) ?_) | (with_reducible refine gSm_L (by omega) ?_) | (with_reducible refine gSm_N (by omega) ?_) | (with_reducible refine gSm_G (by omega) ?_) | (with_reducible refine gSm_P ?_))), (aEv_b (gAcc_y h_2 c_5) c_13 (dD_big (i := i) (Nat.not_le.mp c_68) (by omega))).symm, fun h => absurd (by decide) h, fun h => absurd (by decide) h⟩⟩
      refine g_lv [some _, some _, some _, some _, none, none] (gs_some (gs_some (gs_some (gs_some (gs_none (gs_none gs_nil)))))) ?_
      exact L_26 _ 0 _ (by omega) (by repeat (first | (with_reducible assumption) | (with_reducible exact gSm_r _) | (with_reducible refine gSm_I (by omega) ?_) | (with_reducible refine gSm_L (by omega) ?_) | (with_reducible refine gSm_N (by omega) ?_) | (with_reducible refine gSm_G (by omega) ?_) | (with_reducible refine gSm_P ?_))) rfl (show 1 ≤ 10000000000000000 by decide) (Nat.lt_succ_self _)
    · refine g_bipush (v := (-2)) C dX9_evenFault_16 (by decide) ?_
      exact g_iret C E dX9_evenFault_18 rfl rfl ⟨_, rfl, ⟨(by repeat (first | (with_reducible assumption) | (with_reducible exact gSm_r _) | (with_reducible refine gSm_I (by omega) ?_) | (with_reducible refine gSm_L (by omega) ?_) | (with_reducible refine gSm_N (by omega) ?_) | (with_reducible refine gSm_G (by omega) ?_) | (with_reducible refine gSm_P ?_))), by first | exact (aEv_e (Or.inl (gAcc_n h_2 c_5))).symm | exact (aEv_e (Or.inr c_13)).symm, fun h => absurd (by decide) h, fun h => absurd (by decide) h⟩⟩
set_option maxRecDepth 100000 in
set_option maxHeartbeats 4000000 in
theorem c_X9_timesa (l : Launch) (δ : GD) (σ : GS) (a0 a1 a2 a3 : Int32) {v : GV} (K : KM σ v) (R : RV v) : gM l δ yX9_times cX9_times 9 (some .int) 3 91 [.ref (δ.2.2.1 1), .int a0, .int a1, .int a2, .int a3] σ (gPi (fun x σ' => x = aTimes v a0 a1 a2 a3 ∧ gSm σ σ')) := by
  refine g_of (lv0 := [some (.ref (δ.2.2.1 1)), some (.int a0), some (.int a1), some (.int a2), some (.int a3), none, none, none, none]) (by decide) rfl (Nat.le_of_ble_eq_true rfl) (fun Γ hl C E => ?_)
  subst hl
  have C : gC Γ δ cX9_times RX9 9 3 91 := C
  have hm := K.1
  have h8 := R.1
  refine g_aload_n C dX9_times_0 rfl ?_
  refine g_iload_n C dX9_times_1 rfl ?_
  refine g_iload_n C dX9_times_2 rfl ?_
  refine g_callVi C sV_X9_200 dX9_times_3 (c_X9_isAsked _ δ _ _ _ hm h8) ⟨by decide, by decide⟩ (wO_M δ _) rfl rfl rfl rfl (Nat.le_of_ble_eq_true rfl) (fun r_3 s_3 h_3 => ?_)
  obtain ⟨rfl, h_3⟩ := h_3
  rcases h_3 with ⟨rfl, h_3⟩ | ⟨rfl, h_3⟩
  · obtain ⟨⟨u1, hu1, rfl⟩, k1, hk1, rfl⟩ := id h_3
    have hu8 : u1 < 8 := by omega
    obtain ⟨h2, h4⟩ := (R.2.1 u1 hu8).1 hu1
    have hn := K.2.1 u1 hu8
    refine g_if_eq C 31 dX9_times_6 (by decide) (fun c_6 => ?_) (fun c_6 => ?_)
    · exact absurd c_6 (by decide)
    · refine g_aload_n C dX9_times_9 rfl ?_
      refine g_iload_n C dX9_times_10 rfl ?_
      refine g_iload_n C dX9_times_11 rfl ?_
      refine g_callVi C sV_X9_92 dX9_times_12 (c_X9_isColour _ δ _ hu8 _ hn h4) ⟨by decide, by decide⟩ (wO_M δ _) rfl rfl rfl rfl (Nat.le_of_ble_eq_true rfl) (fun r_12 s_12 h_12 => ?_)
      obtain ⟨rfl, h_12⟩ := h_12
      rcases h_12 with ⟨rfl, h_12⟩ | ⟨rfl, h_12⟩
      · obtain ⟨c1, hc1, rfl⟩ := id h_12
        refine g_if_eq C 31 dX9_times_15 (by decide) (fun c_15 => ?_) (fun c_15 => ?_)
        · exact absurd c_15 (by decide)
        · refine g_iload C dX9_times_18 rfl ?_
          refine g_i2l C dX9_times_20 ?_
          refine g_lconst (v := 0) C dX9_times_21 (by decide) ?_
          refine g_ldc2 C dX9_times_22 mW792 ?_
          refine g_callSi C sS_X9_62 dX9_times_25 (c_X9_in _ δ _ _ _ _) ⟨by decide, by decide⟩ rfl rfl rfl (Nat.le_of_ble_eq_true rfl) (fun r_25 s_25 h_25 => ?_)
          obtain ⟨rfl, h_25⟩ := h_25
          rw [gInL_ix (m := 13) (by omega) (by decide)] at h_25
          rcases h_25 with ⟨rfl, h_25⟩ | ⟨rfl, h_25⟩
          · skip
            refine g_if_ne C 33 dX9_times_28 (by decide) (fun c_28 => ?_) (fun c_28 => ?_)
            · refine g_aload_n C dX9_times_33 rfl ?_
              refine g_iload_n C dX9_times_34 rfl ?_
              refine g_iload_n C dX9_times_35 rfl ?_
              refine g_callVi C sV_X9_203 dX9_times_36 (c_X9_evenFaulta _ δ _ hu8 (k := k1) (by omega) K R) ⟨by decide, by decide⟩ (wO_M δ _) rfl rfl rfl rfl (Nat.le_of_ble_eq_true rfl) (fun r_36 s_36 h_36 => ?_)
              obtain ⟨z_36, e_36, d_36, g_36⟩ := h_36
              refine g_istore C dX9_times_39 (Nat.le_of_ble_eq_true rfl) rfl ?_
              refine g_lv [some _, some _, some _, some _, some _, some _, none, none, none] (gs_some (gs_some (gs_some (gs_some (gs_some (gs_some (gs_none (gs_none (gs_none gs_nil))))))))) ?_
              refine g_iload C dX9_times_41 rfl ?_
              refine g_if_ge C 49 dX9_times_43 (by decide) (fun c_43 => ?_) (fun c_43 => ?_)
              · refine g_aload_n C dX9_times_49 rfl ?_
                refine g_iload_n C dX9_times_50 rfl ?_
                refine g_iload_n C dX9_times_51 rfl ?_
                refine g_iconst (v := 0) C dX9_times_52 (by decide) ?_
                refine g_iconst (v := 0) C dX9_times_53 (by decide) ?_
                refine g_iconst (v := 0) C dX9_times_54 (by decide) ?_
                refine g_iconst (v := 0) C dX9_times_55 (by decide) ?_
                refine g_callVv C sV_X9_206 dX9_times_56 (c_X9_goes _ δ _ hu8 (k := k1) (by omega) _ _ _ _) ⟨by decide, by decide⟩ (wO_M δ _) rfl rfl rfl rfl (Nat.le_of_ble_eq_true rfl) (fun s_56 h_56 => ?_)
                have z_56 : gSm σ s_56 := gSm_t z_36 h_56.1
                have d_56 : ¬ gG s_56 15 = 0 := by rw [h_56.2]; exact d_36 (Int32.not_lt.mpr c_43)
                refine g_lconst (v := 0) C dX9_times_59 (by decide) ?_
                refine g_lstore C dX9_times_60 (Nat.le_of_ble_eq_true rfl) rfl ?_
                refine g_lv [some _, some _, some _, some _, some _, some _, some _, none, none] (gs_some (gs_some (gs_some (gs_some (gs_some (gs_some (gs_some (gs_none (gs_none gs_nil))))))))) ?_
                refine g_iconst (v := 0) C dX9_times_62 (by decide) ?_
                refine g_istore C dX9_times_63 (Nat.le_of_ble_eq_true rfl) rfl ?_
                refine g_lv [some _, some _, some _, some _, some _, some _, some _, none, some _] (gs_some (gs_some (gs_some (gs_some (gs_some (gs_some (gs_some (gs_none (gs_some gs_nil))))))))) ?_
                have L_65 : ∀ (nn : Nat) (q : Nat) (x : Int64) (s1 : GS) (hq : q ≤ 2197) (hs : gSm σ s1) (hd : ¬ gG s1 15 = 0), 2197 - q < nn → gW Γ δ s1 65 [some (.ref (δ.2.2.1 1)), some (.int (nI u1)), some (.int (nI k1)), some (.int (nI c1)), some (.int a3), some (.int r_36), some (.long x), none, some (.int (nI q))] [] := by
                  intro nn
                  induction nn with
                  | zero =>
                    intro q x s1 hq hs hd hm_65
                    exact absurd hm_65 (Nat.not_lt_zero _)
                  | succ nn ih_65 =>
                    intro q x s1 hq hs hd hm_65
                    refine g_iload C dX9_times_65 rfl ?_
                    refine g_sipush (v := 2197) C dX9_times_67 (by decide) ?_
                    refine g_icmp_ge C 134 dX9_times_70 (by decide) (fun c_70 => ?_) (fun c_70 => ?_)
                    · have k_70 := gle c_70 (a := 2197) (b := q) (by first | rfl | assumption | (simp only [glit, nI_add, pk_mul]; done) | (simp only [glit, nI_add, pk_mul]; congr 1; omega) | (simp only [*, glit, nI_add, pk_mul]; congr 1; omega)) (by first | rfl | assumption | (simp only [glit, nI_add, pk_mul]; done) | (simp only [glit, nI_add, pk_mul]; congr 1; omega) | (simp only [*, glit, nI_add, pk_mul]; congr 1; omega)) (by omega) (by omega)
                      refine g_aload_n C dX9_times_134 rfl ?_
                      refine g_lload C dX9_times_135 rfl ?_
                      refine g_aload_n C dX9_times_137 rfl ?_
                      refine g_get C dX9_times_138 iwX9 rfl (wO_M δ _) 20 (Nat.le_of_ble_eq_true rfl) mW592 rfl rfl ?_
                      refine g_callVi C sV_X9_174 dX9_times_141 (c_X9_tells _ δ _ _ _ hd) ⟨by decide, by decide⟩ (wO_M δ _) rfl rfl rfl rfl (Nat.le_of_ble_eq_true rfl) (fun r_141 s_141 h_141 => ?_)
                      obtain ⟨rfl, h_141⟩ := h_141
                      have z_141 : gSm σ s_141 := gSm_t (by repeat (first | (with_reducible assumption) | (with_reducible exact gSm_r _) | (with_reducible refine gSm_I (by omega) ?_) | (with_reducible refine gSm_L (by omega) ?_) | (with_reducible refine gSm_N (by omega) ?_) | (with_reducible refine gSm_G (by omega) ?_) | (with_reducible refine gSm_P ?_))) h_141
                      exact g_iret C E dX9_times_144 rfl rfl ⟨_, rfl, ⟨((aTimes_at hu1 hu8 hk1 hc1 h_25).trans (aEv_z (by rw [← e_36]; exact c_43))).symm, (by repeat (first | (with_reducible assumption) | (with_reducible exact gSm_r _) | (with_reducible refine gSm_I (by omega) ?_) | (with_reducible refine gSm_L (by omega) ?_) | (with_reducible refine gSm_N (by omega) ?_) | (with_reducible refine gSm_G (by omega) ?_) | (with_reducible refine gSm_P ?_)))⟩⟩
                    · have k_70 := gnle c_70 (a := 2197) (b := q) (by first | rfl | assumption | (simp only [glit, nI_add, pk_mul]; done) | (simp only [glit, nI_add, pk_mul]; congr 1; omega) | (simp only [*, glit, nI_add, pk_mul]; congr 1; omega)) (by first | rfl | assumption | (simp only [glit, nI_add, pk_mul]; done) | (simp only [glit, nI_add, pk_mul]; congr 1; omega) | (simp only [*, glit, nI_add, pk_mul]; congr 1; omega)) (by omega) (by omega)
                      refine g_aload_n C dX9_times_73 rfl ?_
                      refine g_get C dX9_times_74 iwX9 rfl (wO_M δ _) 19 (Nat.le_of_ble_eq_true rfl) mW591 rfl rfl ?_
                      refine g_iload_n C dX9_times_77 rfl ?_
                      refine g_iload C dX9_times_78 rfl ?_
                      refine g_callSi C sS_X9_186 dX9_times_80 (c_X9_at _ δ _ (r := k1) (p := q) (by omega)) ⟨by decide, by decide⟩ rfl rfl rfl (Nat.le_of_ble_eq_true rfl) (fun r_80 s_80 h_80 => ?_)
                      obtain ⟨rfl, rfl⟩ := h_80
                      refine g_laldN C dX9_times_83 (k := (2197 * ((k1) % 2) + (q))) (q := 14) (by decide) rfl (by first | rfl | assumption | (simp only [glit, nI_add, pk_mul]; done) | (simp only [glit, nI_add, pk_mul]; congr 1; omega) | (simp only [*, glit, nI_add, pk_mul]; congr 1; omega)) (show (2197 * ((k1) % 2) + (q)) < gLenL 14 from Nat.lt_of_lt_of_eq (show (2197 * ((k1) % 2) + (q)) < 4394 by omega) rfl) ?_
                      refine g_lconst (v := 0) C dX9_times_84 (by decide) ?_
                      refine g_lcmp C dX9_times_85 ?_
                      refine g_if_le C 128 dX9_times_86 (by decide) (fun c_86 => ?_) (fun c_86 => ?_)
                      · rw [lg_cmp_le] at c_86
                        refine g_iinc (v := nI (q + 1)) C dX9_times_128 rfl (ginc _ 1) rfl ?_
                        refine g_lv [some _, some _, some _, some _, some _, some _, some _, none, some _] (gs_some (gs_some (gs_some (gs_some (gs_some (gs_some (gs_some (gs_none (gs_some gs_nil))))))))) ?_
                        refine g_goto C 65 dX9_times_131 (by decide) ?_
                        refine g_lv [some _, some _, some _, some _, some _, some _, some _, none, some _] (gs_some (gs_some (gs_some (gs_some (gs_some (gs_some (gs_some (gs_none (gs_some gs_nil))))))))) ?_
                        exact ih_65 (q + 1) _ _ (by omega) (by first | exact hs | exact z_94) (by first | exact hd | exact d_94) (by omega)
                      · rw [lg_cmp_le] at c_86
                        refine g_aload_n C dX9_times_89 rfl ?_
                        refine g_iload_n C dX9_times_90 rfl ?_
                        refine g_iload C dX9_times_91 rfl ?_
                        refine g_iload_n C dX9_times_93 rfl ?_
                        refine g_callVv C sV_X9_189 dX9_times_94 (c_X9_looksAt _ δ _ hu8 (p := q) (k := k1)) ⟨by decide, by decide⟩ (wO_M δ _) rfl rfl rfl rfl (Nat.le_of_ble_eq_true rfl) (fun s_94 h_94 => ?_)
                        have z_94 : gSm σ s_94 := gSm_t hs h_94.1
                        have d_94 : ¬ gG s_94 15 = 0 := by rw [h_94.2.2]; exact hd
                        refine g_lload C dX9_times_97 rfl ?_
                        refine g_aload_n C dX9_times_99 rfl ?_
                        refine g_get C dX9_times_100 iwX9 rfl (wO_M δ _) 22 (Nat.le_of_ble_eq_true rfl) mW594 rfl rfl ?_
                        refine g_iload_n C dX9_times_103 rfl ?_
                        refine g_ialdN C dX9_times_104 (k := c1) (q := 58) (by decide) rfl (by first | rfl | assumption | (simp only [glit, nI_add, pk_mul]; done) | (simp only [glit, nI_add, pk_mul]; congr 1; omega) | (simp only [*, glit, nI_add, pk_mul]; congr 1; omega)) (show c1 < gLenI 58 from Nat.lt_of_lt_of_eq (show c1 < 4 by omega) rfl) ?_
                        refine g_iload C dX9_times_105 rfl ?_
                        refine g_icmp_ne C 124 dX9_times_107 (by decide) (fun c_107 => ?_) (fun c_107 => ?_)
                        · refine g_lconst (v := 0) C dX9_times_124 (by decide) ?_
                          refine g_ladd C dX9_times_125 ?_
                          refine g_lstore C dX9_times_126 (Nat.le_of_ble_eq_true rfl) rfl ?_
                          refine g_lv [some _, some _, some _, some _, some _, some _, some _, none, some _] (gs_some (gs_some (gs_some (gs_some (gs_some (gs_some (gs_some (gs_none (gs_some gs_nil))))))))) ?_
                          refine g_iinc (v := nI (q + 1)) C dX9_times_128 rfl (ginc _ 1) rfl ?_
                          refine g_lv [some _, some _, some _, some _, some _, some _, some _, none, some _] (gs_some (gs_some (gs_some (gs_some (gs_some (gs_some (gs_some (gs_none (gs_some gs_nil))))))))) ?_
                          refine g_goto C 65 dX9_times_131 (by decide) ?_
                          refine g_lv [some _, some _, some _, some _, some _, some _, some _, none, some _] (gs_some (gs_some (gs_some (gs_some (gs_some (gs_some (gs_some (gs_none (gs_some gs_nil))))))))) ?_
                          exact ih_65 (q + 1) _ _ (by omega) (by first | exact hs | exact z_94) (by first | exact hd | exact d_94) (by omega)
                        · refine g_aload_n C dX9_times_110 rfl ?_
                          refine g_get C dX9_times_111 iwX9 rfl (wO_M δ _) 19 (Nat.le_of_ble_eq_true rfl) mW591 rfl rfl ?_
                          refine g_iload_n C dX9_times_114 rfl ?_
                          refine g_iload C dX9_times_115 rfl ?_
                          refine g_callSi C sS_X9_186 dX9_times_117 (c_X9_at _ δ _ (r := k1) (p := q) (by omega)) ⟨by decide, by decide⟩ rfl rfl rfl (Nat.le_of_ble_eq_true rfl) (fun r_117 s_117 h_117 => ?_)
                          obtain ⟨rfl, rfl⟩ := h_117
                          refine g_laldN C dX9_times_120 (k := (2197 * ((k1) % 2) + (q))) (q := 14) (by decide) rfl (by first | rfl | assumption | (simp only [glit, nI_add, pk_mul]; done) | (simp only [glit, nI_add, pk_mul]; congr 1; omega) | (simp only [*, glit, nI_add, pk_mul]; congr 1; omega)) (show (2197 * ((k1) % 2) + (q)) < gLenL 14 from Nat.lt_of_lt_of_eq (show (2197 * ((k1) % 2) + (q)) < 4394 by omega) rfl) ?_
                          refine g_goto C 125 dX9_times_121 (by decide) ?_
                          refine g_ladd C dX9_times_125 ?_
                          refine g_lstore C dX9_times_126 (Nat.le_of_ble_eq_true rfl) rfl ?_
                          refine g_lv [some _, some _, some _, some _, some _, some _, some _, none, some _] (gs_some (gs_some (gs_some (gs_some (gs_some (gs_some (gs_some (gs_none (gs_some gs_nil))))))))) ?_
                          refine g_iinc (v := nI (q + 1)) C dX9_times_128 rfl (ginc _ 1) rfl ?_
                          refine g_lv [some _, some _, some _, some _, some _, some _, some _, none, some _] (gs_some (gs_some (gs_some (gs_some (gs_some (gs_some (gs_some (gs_none (gs_some gs_nil))))))))) ?_
                          refine g_goto C 65 dX9_times_131 (by decide) ?_
                          refine g_lv [some _, some _, some _, some _, some _, some _, some _, none, some _] (gs_some (gs_some (gs_some (gs_some (gs_some (gs_some (gs_some (gs_none (gs_some gs_nil))))))))) ?_
                          exact ih_65 (q + 1) _ _ (by omega) (by first | exact hs | exact z_94) (by first | exact hd | exact d_94) (by omega)
                refine g_lv [some _, some _, some _, some _, some _, some _, some _, none, some _] (gs_some (gs_some (gs_some (gs_some (gs_some (gs_some (gs_some (gs_none (gs_some gs_nil))))))))) ?_
                exact L_65 _ 0 _ _ (by omega) z_56 d_56 (Nat.lt_succ_self _)
              · refine g_iload C dX9_times_46 rfl ?_
                exact g_iret C E dX9_times_48 rfl rfl ⟨_, rfl, ⟨e_36.trans (aTimes_at hu1 hu8 hk1 hc1 h_25).symm, (by repeat (first | (with_reducible assumption) | (with_reducible exact gSm_r _) | (with_reducible refine gSm_I (by omega) ?_) | (with_reducible refine gSm_L (by omega) ?_) | (with_reducible refine gSm_N (by omega) ?_) | (with_reducible refine gSm_G (by omega) ?_) | (with_reducible refine gSm_P ?_)))⟩⟩
            · exact absurd c_28 (by decide)
          · skip
            refine g_if_ne C 33 dX9_times_28 (by decide) (fun c_28 => ?_) (fun c_28 => ?_)
            · exact absurd c_28 (by decide)
            · refine g_iconst (v := (-1)) C dX9_times_31 (by decide) ?_
              exact g_iret C E dX9_times_32 rfl rfl ⟨_, rfl, ⟨(by first | exact (gIf_f (fun z => h_3 z.1)).symm | exact (gIf_f (fun z => h_12 ((okC_n hu8).mp z.2.1))).symm | exact (gIf_f (fun z => h_25 z.2.2)).symm), (by repeat (first | (with_reducible assumption) | (with_reducible exact gSm_r _) | (with_reducible refine gSm_I (by omega) ?_) | (with_reducible refine gSm_L (by omega) ?_) | (with_reducible refine gSm_N (by omega) ?_) | (with_reducible refine gSm_G (by omega) ?_) | (with_reducible refine gSm_P ?_)))⟩⟩
      · skip
        refine g_if_eq C 31 dX9_times_15 (by decide) (fun c_15 => ?_) (fun c_15 => ?_)
        · refine g_iconst (v := (-1)) C dX9_times_31 (by decide) ?_
          exact g_iret C E dX9_times_32 rfl rfl ⟨_, rfl, ⟨(by first | exact (gIf_f (fun z => h_3 z.1)).symm | exact (gIf_f (fun z => h_12 ((okC_n hu8).mp z.2.1))).symm | exact (gIf_f (fun z => h_25 z.2.2)).symm), (by repeat (first | (with_reducible assumption) | (with_reducible exact gSm_r _) | (with_reducible refine gSm_I (by omega) ?_) | (with_reducible refine gSm_L (by omega) ?_) | (with_reducible refine gSm_N (by omega) ?_) | (with_reducible refine gSm_G (by omega) ?_) | (with_reducible refine gSm_P ?_)))⟩⟩
        · exact absurd c_15 (by decide)
  · skip
    refine g_if_eq C 31 dX9_times_6 (by decide) (fun c_6 => ?_) (fun c_6 => ?_)
    · refine g_iconst (v := (-1)) C dX9_times_31 (by decide) ?_
      exact g_iret C E dX9_times_32 rfl rfl ⟨_, rfl, ⟨(by first | exact (gIf_f (fun z => h_3 z.1)).symm | exact (gIf_f (fun z => h_12 ((okC_n hu8).mp z.2.1))).symm | exact (gIf_f (fun z => h_25 z.2.2)).symm), (by repeat (first | (with_reducible assumption) | (with_reducible exact gSm_r _) | (with_reducible refine gSm_I (by omega) ?_) | (with_reducible refine gSm_L (by omega) ?_) | (with_reducible refine gSm_N (by omega) ?_) | (with_reducible refine gSm_G (by omega) ?_) | (with_reducible refine gSm_P ?_)))⟩⟩
    · exact absurd c_6 (by decide)
set_option maxRecDepth 100000 in
set_option maxHeartbeats 4000000 in
theorem c_X9_lefta (l : Launch) (δ : GD) (σ : GS) (a0 a1 a2 a3 : Int32) {v : GV} (K : KM σ v) (R : RV v) : gM l δ yX9_left cX9_left 9 (some .int) 3 91 [.ref (δ.2.2.1 1), .int a0, .int a1, .int a2, .int a3] σ (gPi (fun x σ' => x = aLeft v a0 a1 a2 a3 ∧ gSm σ σ')) := by
  refine g_of (lv0 := [some (.ref (δ.2.2.1 1)), some (.int a0), some (.int a1), some (.int a2), some (.int a3), none, none, none, none]) (by decide) rfl (Nat.le_of_ble_eq_true rfl) (fun Γ hl C E => ?_)
  subst hl
  have C : gC Γ δ cX9_left RX9 9 3 91 := C
  have hm := K.1
  have h8 := R.1
  refine g_aload_n C dX9_left_0 rfl ?_
  refine g_iload_n C dX9_left_1 rfl ?_
  refine g_iload_n C dX9_left_2 rfl ?_
  refine g_callVi C sV_X9_200 dX9_left_3 (c_X9_isAsked _ δ _ _ _ hm h8) ⟨by decide, by decide⟩ (wO_M δ _) rfl rfl rfl rfl (Nat.le_of_ble_eq_true rfl) (fun r_3 s_3 h_3 => ?_)
  obtain ⟨rfl, h_3⟩ := h_3
  rcases h_3 with ⟨rfl, h_3⟩ | ⟨rfl, h_3⟩
  · obtain ⟨⟨u1, hu1, rfl⟩, k1, hk1, rfl⟩ := id h_3
    have hu8 : u1 < 8 := by omega
    obtain ⟨h2, h4⟩ := (R.2.1 u1 hu8).1 hu1
    have hn := K.2.1 u1 hu8
    refine g_if_eq C 31 dX9_left_6 (by decide) (fun c_6 => ?_) (fun c_6 => ?_)
    · exact absurd c_6 (by decide)
    · refine g_aload_n C dX9_left_9 rfl ?_
      refine g_iload_n C dX9_left_10 rfl ?_
      refine g_iload_n C dX9_left_11 rfl ?_
      refine g_callVi C sV_X9_92 dX9_left_12 (c_X9_isColour _ δ _ hu8 _ hn h4) ⟨by decide, by decide⟩ (wO_M δ _) rfl rfl rfl rfl (Nat.le_of_ble_eq_true rfl) (fun r_12 s_12 h_12 => ?_)
      obtain ⟨rfl, h_12⟩ := h_12
      rcases h_12 with ⟨rfl, h_12⟩ | ⟨rfl, h_12⟩
      · obtain ⟨c1, hc1, rfl⟩ := id h_12
        refine g_if_eq C 31 dX9_left_15 (by decide) (fun c_15 => ?_) (fun c_15 => ?_)
        · exact absurd c_15 (by decide)
        · refine g_iload C dX9_left_18 rfl ?_
          refine g_i2l C dX9_left_20 ?_
          refine g_lconst (v := 0) C dX9_left_21 (by decide) ?_
          refine g_ldc2 C dX9_left_22 mW840 ?_
          refine g_callSi C sS_X9_62 dX9_left_25 (c_X9_in _ δ _ _ _ _) ⟨by decide, by decide⟩ rfl rfl rfl (Nat.le_of_ble_eq_true rfl) (fun r_25 s_25 h_25 => ?_)
          obtain ⟨rfl, h_25⟩ := h_25
          rw [gin400] at h_25
          rcases h_25 with ⟨rfl, h_25⟩ | ⟨rfl, h_25⟩
          · skip
            refine g_if_ne C 33 dX9_left_28 (by decide) (fun c_28 => ?_) (fun c_28 => ?_)
            · refine g_aload_n C dX9_left_33 rfl ?_
              refine g_iload_n C dX9_left_34 rfl ?_
              refine g_iload_n C dX9_left_35 rfl ?_
              refine g_callVi C sV_X9_203 dX9_left_36 (c_X9_evenFaulta _ δ _ hu8 (k := k1) (by omega) K R) ⟨by decide, by decide⟩ (wO_M δ _) rfl rfl rfl rfl (Nat.le_of_ble_eq_true rfl) (fun r_36 s_36 h_36 => ?_)
              obtain ⟨z_36, e_36, d_36, g_36⟩ := h_36
              refine g_istore C dX9_left_39 (Nat.le_of_ble_eq_true rfl) rfl ?_
              refine g_lv [some _, some _, some _, some _, some _, some _, none, none, none] (gs_some (gs_some (gs_some (gs_some (gs_some (gs_some (gs_none (gs_none (gs_none gs_nil))))))))) ?_
              refine g_iload C dX9_left_41 rfl ?_
              refine g_if_ge C 49 dX9_left_43 (by decide) (fun c_43 => ?_) (fun c_43 => ?_)
              · refine g_aload_n C dX9_left_49 rfl ?_
                refine g_iload_n C dX9_left_50 rfl ?_
                refine g_iload_n C dX9_left_51 rfl ?_
                refine g_iconst (v := 0) C dX9_left_52 (by decide) ?_
                refine g_iconst (v := 0) C dX9_left_53 (by decide) ?_
                refine g_iconst (v := 0) C dX9_left_54 (by decide) ?_
                refine g_iconst (v := 0) C dX9_left_55 (by decide) ?_
                refine g_callVv C sV_X9_206 dX9_left_56 (c_X9_goes _ δ _ hu8 (k := k1) (by omega) _ _ _ _) ⟨by decide, by decide⟩ (wO_M δ _) rfl rfl rfl rfl (Nat.le_of_ble_eq_true rfl) (fun s_56 h_56 => ?_)
                have z_56 : gSm σ s_56 := gSm_t z_36 h_56.1
                have d_56 : ¬ gG s_56 15 = 0 := by rw [h_56.2]; exact d_36 (Int32.not_lt.mpr c_43)
                refine g_lconst (v := 0) C dX9_left_59 (by decide) ?_
                refine g_lstore C dX9_left_60 (Nat.le_of_ble_eq_true rfl) rfl ?_
                refine g_lv [some _, some _, some _, some _, some _, some _, some _, none, none] (gs_some (gs_some (gs_some (gs_some (gs_some (gs_some (gs_some (gs_none (gs_none gs_nil))))))))) ?_
                refine g_iconst (v := 0) C dX9_left_62 (by decide) ?_
                refine g_istore C dX9_left_63 (Nat.le_of_ble_eq_true rfl) rfl ?_
                refine g_lv [some _, some _, some _, some _, some _, some _, some _, none, some _] (gs_some (gs_some (gs_some (gs_some (gs_some (gs_some (gs_some (gs_none (gs_some gs_nil))))))))) ?_
                have L_65 : ∀ (nn : Nat) (q : Nat) (x : Int64) (s1 : GS) (hq : q ≤ 2197) (hs : gSm σ s1) (hd : ¬ gG s1 15 = 0), 2197 - q < nn → gW Γ δ s1 65 [some (.ref (δ.2.2.1 1)), some (.int (nI u1)), some (.int (nI k1)), some (.int (nI c1)), some (.int a3), some (.int r_36), some (.long x), none, some (.int (nI q))] [] := by
                  intro nn
                  induction nn with
                  | zero =>
                    intro q x s1 hq hs hd hm_65
                    exact absurd hm_65 (Nat.not_lt_zero _)
                  | succ nn ih_65 =>
                    intro q x s1 hq hs hd hm_65
                    refine g_iload C dX9_left_65 rfl ?_
                    refine g_sipush (v := 2197) C dX9_left_67 (by decide) ?_
                    refine g_icmp_ge C 134 dX9_left_70 (by decide) (fun c_70 => ?_) (fun c_70 => ?_)
                    · have k_70 := gle c_70 (a := 2197) (b := q) (by first | rfl | assumption | (simp only [glit, nI_add, pk_mul]; done) | (simp only [glit, nI_add, pk_mul]; congr 1; omega) | (simp only [*, glit, nI_add, pk_mul]; congr 1; omega)) (by first | rfl | assumption | (simp only [glit, nI_add, pk_mul]; done) | (simp only [glit, nI_add, pk_mul]; congr 1; omega) | (simp only [*, glit, nI_add, pk_mul]; congr 1; omega)) (by omega) (by omega)
                      refine g_aload_n C dX9_left_134 rfl ?_
                      refine g_lload C dX9_left_135 rfl ?_
                      refine g_aload_n C dX9_left_137 rfl ?_
                      refine g_get C dX9_left_138 iwX9 rfl (wO_M δ _) 20 (Nat.le_of_ble_eq_true rfl) mW592 rfl rfl ?_
                      refine g_callVi C sV_X9_174 dX9_left_141 (c_X9_tells _ δ _ _ _ hd) ⟨by decide, by decide⟩ (wO_M δ _) rfl rfl rfl rfl (Nat.le_of_ble_eq_true rfl) (fun r_141 s_141 h_141 => ?_)
                      obtain ⟨rfl, h_141⟩ := h_141
                      have z_141 : gSm σ s_141 := gSm_t (by repeat (first | (with_reducible assumption) | (with_reducible exact gSm_r _) | (with_reducible refine gSm_I (by omega) ?_) | (with_reducible refine gSm_L (by omega) ?_) | (with_reducible refine gSm_N (by omega) ?_) | (with_reducible refine gSm_G (by omega) ?_) | (with_reducible refine gSm_P ?_))) h_141
                      exact g_iret C E dX9_left_144 rfl rfl ⟨_, rfl, ⟨((aLeft_at hu1 hu8 hk1 hc1 h_25).trans (aEv_z (by rw [← e_36]; exact c_43))).symm, (by repeat (first | (with_reducible assumption) | (with_reducible exact gSm_r _) | (with_reducible refine gSm_I (by omega) ?_) | (with_reducible refine gSm_L (by omega) ?_) | (with_reducible refine gSm_N (by omega) ?_) | (with_reducible refine gSm_G (by omega) ?_) | (with_reducible refine gSm_P ?_)))⟩⟩
                    · have k_70 := gnle c_70 (a := 2197) (b := q) (by first | rfl | assumption | (simp only [glit, nI_add, pk_mul]; done) | (simp only [glit, nI_add, pk_mul]; congr 1; omega) | (simp only [*, glit, nI_add, pk_mul]; congr 1; omega)) (by first | rfl | assumption | (simp only [glit, nI_add, pk_mul]; done) | (simp only [glit, nI_add, pk_mul]; congr 1; omega) | (simp only [*, glit, nI_add, pk_mul]; congr 1; omega)) (by omega) (by omega)
                      refine g_aload_n C dX9_left_73 rfl ?_
                      refine g_get C dX9_left_74 iwX9 rfl (wO_M δ _) 19 (Nat.le_of_ble_eq_true rfl) mW591 rfl rfl ?_
                      refine g_iload_n C dX9_left_77 rfl ?_
                      refine g_iload C dX9_left_78 rfl ?_
                      refine g_callSi C sS_X9_186 dX9_left_80 (c_X9_at _ δ _ (r := k1) (p := q) (by omega)) ⟨by decide, by decide⟩ rfl rfl rfl (Nat.le_of_ble_eq_true rfl) (fun r_80 s_80 h_80 => ?_)
                      obtain ⟨rfl, rfl⟩ := h_80
                      refine g_laldN C dX9_left_83 (k := (2197 * ((k1) % 2) + (q))) (q := 14) (by decide) rfl (by first | rfl | assumption | (simp only [glit, nI_add, pk_mul]; done) | (simp only [glit, nI_add, pk_mul]; congr 1; omega) | (simp only [*, glit, nI_add, pk_mul]; congr 1; omega)) (show (2197 * ((k1) % 2) + (q)) < gLenL 14 from Nat.lt_of_lt_of_eq (show (2197 * ((k1) % 2) + (q)) < 4394 by omega) rfl) ?_
                      refine g_lconst (v := 0) C dX9_left_84 (by decide) ?_
                      refine g_lcmp C dX9_left_85 ?_
                      refine g_if_le C 128 dX9_left_86 (by decide) (fun c_86 => ?_) (fun c_86 => ?_)
                      · rw [lg_cmp_le] at c_86
                        refine g_iinc (v := nI (q + 1)) C dX9_left_128 rfl (ginc _ 1) rfl ?_
                        refine g_lv [some _, some _, some _, some _, some _, some _, some _, none, some _] (gs_some (gs_some (gs_some (gs_some (gs_some (gs_some (gs_some (gs_none (gs_some gs_nil))))))))) ?_
                        refine g_goto C 65 dX9_left_131 (by decide) ?_
                        refine g_lv [some _, some _, some _, some _, some _, some _, some _, none, some _] (gs_some (gs_some (gs_some (gs_some (gs_some (gs_some (gs_some (gs_none (gs_some gs_nil))))))))) ?_
                        exact ih_65 (q + 1) _ _ (by omega) (by first | exact hs | exact z_94) (by first | exact hd | exact d_94) (by omega)
                      · rw [lg_cmp_le] at c_86
                        refine g_aload_n C dX9_left_89 rfl ?_
                        refine g_iload_n C dX9_left_90 rfl ?_
                        refine g_iload C dX9_left_91 rfl ?_
                        refine g_iload_n C dX9_left_93 rfl ?_
                        refine g_callVv C sV_X9_189 dX9_left_94 (c_X9_looksAt _ δ _ hu8 (p := q) (k := k1)) ⟨by decide, by decide⟩ (wO_M δ _) rfl rfl rfl rfl (Nat.le_of_ble_eq_true rfl) (fun s_94 h_94 => ?_)
                        have z_94 : gSm σ s_94 := gSm_t hs h_94.1
                        have d_94 : ¬ gG s_94 15 = 0 := by rw [h_94.2.2]; exact hd
                        refine g_lload C dX9_left_97 rfl ?_
                        refine g_aload_n C dX9_left_99 rfl ?_
                        refine g_get C dX9_left_100 iwX9 rfl (wO_M δ _) 23 (Nat.le_of_ble_eq_true rfl) mW595 rfl rfl ?_
                        refine g_iload_n C dX9_left_103 rfl ?_
                        refine g_ialdN C dX9_left_104 (k := c1) (q := 59) (by decide) rfl (by first | rfl | assumption | (simp only [glit, nI_add, pk_mul]; done) | (simp only [glit, nI_add, pk_mul]; congr 1; omega) | (simp only [*, glit, nI_add, pk_mul]; congr 1; omega)) (show c1 < gLenI 59 from Nat.lt_of_lt_of_eq (show c1 < 4 by omega) rfl) ?_
                        refine g_iload C dX9_left_105 rfl ?_
                        refine g_icmp_ne C 124 dX9_left_107 (by decide) (fun c_107 => ?_) (fun c_107 => ?_)
                        · refine g_lconst (v := 0) C dX9_left_124 (by decide) ?_
                          refine g_ladd C dX9_left_125 ?_
                          refine g_lstore C dX9_left_126 (Nat.le_of_ble_eq_true rfl) rfl ?_
                          refine g_lv [some _, some _, some _, some _, some _, some _, some _, none, some _] (gs_some (gs_some (gs_some (gs_some (gs_some (gs_some (gs_some (gs_none (gs_some gs_nil))))))))) ?_
                          refine g_iinc (v := nI (q + 1)) C dX9_left_128 rfl (ginc _ 1) rfl ?_
                          refine g_lv [some _, some _, some _, some _, some _, some _, some _, none, some _] (gs_some (gs_some (gs_some (gs_some (gs_some (gs_some (gs_some (gs_none (gs_some gs_nil))))))))) ?_
                          refine g_goto C 65 dX9_left_131 (by decide) ?_
                          refine g_lv [some _, some _, some _, some _, some _, some _, some _, none, some _] (gs_some (gs_some (gs_some (gs_some (gs_some (gs_some (gs_some (gs_none (gs_some gs_nil))))))))) ?_
                          exact ih_65 (q + 1) _ _ (by omega) (by first | exact hs | exact z_94) (by first | exact hd | exact d_94) (by omega)
                        · refine g_aload_n C dX9_left_110 rfl ?_
                          refine g_get C dX9_left_111 iwX9 rfl (wO_M δ _) 19 (Nat.le_of_ble_eq_true rfl) mW591 rfl rfl ?_
                          refine g_iload_n C dX9_left_114 rfl ?_
                          refine g_iload C dX9_left_115 rfl ?_
                          refine g_callSi C sS_X9_186 dX9_left_117 (c_X9_at _ δ _ (r := k1) (p := q) (by omega)) ⟨by decide, by decide⟩ rfl rfl rfl (Nat.le_of_ble_eq_true rfl) (fun r_117 s_117 h_117 => ?_)
                          obtain ⟨rfl, rfl⟩ := h_117
                          refine g_laldN C dX9_left_120 (k := (2197 * ((k1) % 2) + (q))) (q := 14) (by decide) rfl (by first | rfl | assumption | (simp only [glit, nI_add, pk_mul]; done) | (simp only [glit, nI_add, pk_mul]; congr 1; omega) | (simp only [*, glit, nI_add, pk_mul]; congr 1; omega)) (show (2197 * ((k1) % 2) + (q)) < gLenL 14 from Nat.lt_of_lt_of_eq (show (2197 * ((k1) % 2) + (q)) < 4394 by omega) rfl) ?_
                          refine g_goto C 125 dX9_left_121 (by decide) ?_
                          refine g_ladd C dX9_left_125 ?_
                          refine g_lstore C dX9_left_126 (Nat.le_of_ble_eq_true rfl) rfl ?_
                          refine g_lv [some _, some _, some _, some _, some _, some _, some _, none, some _] (gs_some (gs_some (gs_some (gs_some (gs_some (gs_some (gs_some (gs_none (gs_some gs_nil))))))))) ?_
                          refine g_iinc (v := nI (q + 1)) C dX9_left_128 rfl (ginc _ 1) rfl ?_
                          refine g_lv [some _, some _, some _, some _, some _, some _, some _, none, some _] (gs_some (gs_some (gs_some (gs_some (gs_some (gs_some (gs_some (gs_none (gs_some gs_nil))))))))) ?_
                          refine g_goto C 65 dX9_left_131 (by decide) ?_
                          refine g_lv [some _, some _, some _, some _, some _, some _, some _, none, some _] (gs_some (gs_some (gs_some (gs_some (gs_some (gs_some (gs_some (gs_none (gs_some gs_nil))))))))) ?_
                          exact ih_65 (q + 1) _ _ (by omega) (by first | exact hs | exact z_94) (by first | exact hd | exact d_94) (by omega)
                refine g_lv [some _, some _, some _, some _, some _, some _, some _, none, some _] (gs_some (gs_some (gs_some (gs_some (gs_some (gs_some (gs_some (gs_none (gs_some gs_nil))))))))) ?_
                exact L_65 _ 0 _ _ (by omega) z_56 d_56 (Nat.lt_succ_self _)
              · refine g_iload C dX9_left_46 rfl ?_
                exact g_iret C E dX9_left_48 rfl rfl ⟨_, rfl, ⟨e_36.trans (aLeft_at hu1 hu8 hk1 hc1 h_25).symm, (by repeat (first | (with_reducible assumption) | (with_reducible exact gSm_r _) | (with_reducible refine gSm_I (by omega) ?_) | (with_reducible refine gSm_L (by omega) ?_) | (with_reducible refine gSm_N (by omega) ?_) | (with_reducible refine gSm_G (by omega) ?_) | (with_reducible refine gSm_P ?_)))⟩⟩
            · exact absurd c_28 (by decide)
          · skip
            refine g_if_ne C 33 dX9_left_28 (by decide) (fun c_28 => ?_) (fun c_28 => ?_)
            · exact absurd c_28 (by decide)
            · refine g_iconst (v := (-1)) C dX9_left_31 (by decide) ?_
              exact g_iret C E dX9_left_32 rfl rfl ⟨_, rfl, ⟨(by first | exact (gIf_f (fun z => h_3 z.1)).symm | exact (gIf_f (fun z => h_12 ((okC_n hu8).mp z.2.1))).symm | exact (gIf_f (fun z => h_25 z.2.2)).symm), (by repeat (first | (with_reducible assumption) | (with_reducible exact gSm_r _) | (with_reducible refine gSm_I (by omega) ?_) | (with_reducible refine gSm_L (by omega) ?_) | (with_reducible refine gSm_N (by omega) ?_) | (with_reducible refine gSm_G (by omega) ?_) | (with_reducible refine gSm_P ?_)))⟩⟩
      · skip
        refine g_if_eq C 31 dX9_left_15 (by decide) (fun c_15 => ?_) (fun c_15 => ?_)
        · refine g_iconst (v := (-1)) C dX9_left_31 (by decide) ?_
          exact g_iret C E dX9_left_32 rfl rfl ⟨_, rfl, ⟨(by first | exact (gIf_f (fun z => h_3 z.1)).symm | exact (gIf_f (fun z => h_12 ((okC_n hu8).mp z.2.1))).symm | exact (gIf_f (fun z => h_25 z.2.2)).symm), (by repeat (first | (with_reducible assumption) | (with_reducible exact gSm_r _) | (with_reducible refine gSm_I (by omega) ?_) | (with_reducible refine gSm_L (by omega) ?_) | (with_reducible refine gSm_N (by omega) ?_) | (with_reducible refine gSm_G (by omega) ?_) | (with_reducible refine gSm_P ?_)))⟩⟩
        · exact absurd c_15 (by decide)
  · skip
    refine g_if_eq C 31 dX9_left_6 (by decide) (fun c_6 => ?_) (fun c_6 => ?_)
    · refine g_iconst (v := (-1)) C dX9_left_31 (by decide) ?_
      exact g_iret C E dX9_left_32 rfl rfl ⟨_, rfl, ⟨(by first | exact (gIf_f (fun z => h_3 z.1)).symm | exact (gIf_f (fun z => h_12 ((okC_n hu8).mp z.2.1))).symm | exact (gIf_f (fun z => h_25 z.2.2)).symm), (by repeat (first | (with_reducible assumption) | (with_reducible exact gSm_r _) | (with_reducible refine gSm_I (by omega) ?_) | (with_reducible refine gSm_L (by omega) ?_) | (with_reducible refine gSm_N (by omega) ?_) | (with_reducible refine gSm_G (by omega) ?_) | (with_reducible refine gSm_P ?_)))⟩⟩
    · exact absurd c_6 (by decide)
set_option maxRecDepth 100000 in
set_option maxHeartbeats 4000000 in
theorem c_X9_stucka (l : Launch) (δ : GD) (σ : GS) (a0 a1 : Int32) {v : GV} (K : KM σ v) (R : RV v) : gM l δ yX9_stuck cX9_stuck 4 (some .int) 3 91 [.ref (δ.2.2.1 1), .int a0, .int a1] σ (gPi (fun x σ' => x = aStuck v a0 a1 ∧ gSm σ σ')) := by
  refine g_of (lv0 := [some (.ref (δ.2.2.1 1)), some (.int a0), some (.int a1), none]) (by decide) rfl (Nat.le_of_ble_eq_true rfl) (fun Γ hl C E => ?_)
  subst hl
  have C : gC Γ δ cX9_stuck RX9 4 3 91 := C
  have hm := K.1
  have h8 := R.1
  refine g_aload_n C dX9_stuck_0 rfl ?_
  refine g_iload_n C dX9_stuck_1 rfl ?_
  refine g_iload_n C dX9_stuck_2 rfl ?_
  refine g_callVi C sV_X9_200 dX9_stuck_3 (c_X9_isAsked _ δ _ _ _ hm h8) ⟨by decide, by decide⟩ (wO_M δ _) rfl rfl rfl rfl (Nat.le_of_ble_eq_true rfl) (fun r_3 s_3 h_3 => ?_)
  obtain ⟨rfl, h_3⟩ := h_3
  rcases h_3 with ⟨rfl, h_3⟩ | ⟨rfl, h_3⟩
  · obtain ⟨⟨u1, hu1, rfl⟩, k1, hk1, rfl⟩ := id h_3
    have hu8 : u1 < 8 := by omega
    obtain ⟨h2, h4⟩ := (R.2.1 u1 hu8).1 hu1
    have hn := K.2.1 u1 hu8
    refine g_if_ne C 11 dX9_stuck_6 (by decide) (fun c_6 => ?_) (fun c_6 => ?_)
    · refine g_aload_n C dX9_stuck_11 rfl ?_
      refine g_iload_n C dX9_stuck_12 rfl ?_
      refine g_iload_n C dX9_stuck_13 rfl ?_
      refine g_callVi C sV_X9_203 dX9_stuck_14 (c_X9_evenFaulta _ δ _ hu8 (k := k1) (by omega) K R) ⟨by decide, by decide⟩ (wO_M δ _) rfl rfl rfl rfl (Nat.le_of_ble_eq_true rfl) (fun r_14 s_14 h_14 => ?_)
      obtain ⟨z_14, e_14, d_14, g_14⟩ := h_14
      refine g_istore_n C dX9_stuck_17 (Nat.le_of_ble_eq_true rfl) rfl ?_
      refine g_lv [some _, some _, some _, some _] (gs_some (gs_some (gs_some (gs_some gs_nil)))) ?_
      refine g_iload_n C dX9_stuck_18 rfl ?_
      refine g_if_ge C 24 dX9_stuck_19 (by decide) (fun c_19 => ?_) (fun c_19 => ?_)
      · refine g_aload_n C dX9_stuck_24 rfl ?_
        refine g_iload_n C dX9_stuck_25 rfl ?_
        refine g_iload_n C dX9_stuck_26 rfl ?_
        refine g_iconst (v := 0) C dX9_stuck_27 (by decide) ?_
        refine g_iconst (v := 0) C dX9_stuck_28 (by decide) ?_
        refine g_iconst (v := 0) C dX9_stuck_29 (by decide) ?_
        refine g_iconst (v := 0) C dX9_stuck_30 (by decide) ?_
        refine g_callVv C sV_X9_206 dX9_stuck_31 (c_X9_goes _ δ _ hu8 (k := k1) (by omega) _ _ _ _) ⟨by decide, by decide⟩ (wO_M δ _) rfl rfl rfl rfl (Nat.le_of_ble_eq_true rfl) (fun s_31 h_31 => ?_)
        have z_31 : gSm σ s_31 := gSm_t z_14 h_31.1
        have d_31 : ¬ gG s_31 15 = 0 := by rw [h_31.2]; exact d_14 (Int32.not_lt.mpr c_19)
        refine g_aload_n C dX9_stuck_34 rfl ?_
        refine g_aload_n C dX9_stuck_35 rfl ?_
        refine g_get C dX9_stuck_36 iwX9 rfl (wO_M δ _) 21 (Nat.le_of_ble_eq_true rfl) mW593 rfl rfl ?_
        refine g_aload_n C dX9_stuck_39 rfl ?_
        refine g_get C dX9_stuck_40 iwX9 rfl (wO_M δ _) 20 (Nat.le_of_ble_eq_true rfl) mW592 rfl rfl ?_
        refine g_callVi C sV_X9_174 dX9_stuck_43 (c_X9_tells _ δ _ _ _ d_31) ⟨by decide, by decide⟩ (wO_M δ _) rfl rfl rfl rfl (Nat.le_of_ble_eq_true rfl) (fun r_43 s_43 h_43 => ?_)
        obtain ⟨rfl, h_43⟩ := h_43
        have z_43 : gSm σ s_43 := gSm_t (by repeat (first | (with_reducible assumption) | (with_reducible exact gSm_r _) | (with_reducible refine gSm_I (by omega) ?_) | (with_reducible refine gSm_L (by omega) ?_) | (with_reducible refine gSm_N (by omega) ?_) | (with_reducible refine gSm_G (by omega) ?_) | (with_reducible refine gSm_P ?_))) h_43
        exact g_iret C E dX9_stuck_46 rfl rfl ⟨_, rfl, ⟨((aStuck_at hu1 hu8 hk1).trans (aEv_z (by rw [← e_14]; exact c_19))).symm, (by repeat (first | (with_reducible assumption) | (with_reducible exact gSm_r _) | (with_reducible refine gSm_I (by omega) ?_) | (with_reducible refine gSm_L (by omega) ?_) | (with_reducible refine gSm_N (by omega) ?_) | (with_reducible refine gSm_G (by omega) ?_) | (with_reducible refine gSm_P ?_)))⟩⟩
      · refine g_iload_n C dX9_stuck_22 rfl ?_
        exact g_iret C E dX9_stuck_23 rfl rfl ⟨_, rfl, ⟨e_14.trans (aStuck_at hu1 hu8 hk1).symm, (by repeat (first | (with_reducible assumption) | (with_reducible exact gSm_r _) | (with_reducible refine gSm_I (by omega) ?_) | (with_reducible refine gSm_L (by omega) ?_) | (with_reducible refine gSm_N (by omega) ?_) | (with_reducible refine gSm_G (by omega) ?_) | (with_reducible refine gSm_P ?_)))⟩⟩
    · exact absurd c_6 (by decide)
  · skip
    refine g_if_ne C 11 dX9_stuck_6 (by decide) (fun c_6 => ?_) (fun c_6 => ?_)
    · exact absurd c_6 (by decide)
    · refine g_iconst (v := (-1)) C dX9_stuck_9 (by decide) ?_
      exact g_iret C E dX9_stuck_10 rfl rfl ⟨_, rfl, ⟨(by first | exact (gIf_f (fun z => h_3 z)).symm), (by repeat (first | (with_reducible assumption) | (with_reducible exact gSm_r _) | (with_reducible refine gSm_I (by omega) ?_) | (with_reducible refine gSm_L (by omega) ?_) | (with_reducible refine gSm_N (by omega) ?_) | (with_reducible refine gSm_G (by omega) ?_) | (with_reducible refine gSm_P ?_)))⟩⟩
set_option maxRecDepth 100000 in
set_option maxHeartbeats 4000000 in
theorem c_X9_meana (l : Launch) (δ : GD) (σ : GS) (a0 a1 a2 a3 : Int32) {v : GV} (K : KM σ v) (R : RV v) : gM l δ yX9_mean cX9_mean 16 (some .int) 3 91 [.ref (δ.2.2.1 1), .int a0, .int a1, .int a2, .int a3] σ (gPi (fun x σ' => x = aMean v a0 a1 a2 a3 ∧ gSm σ σ')) := by
  refine g_of (lv0 := [some (.ref (δ.2.2.1 1)), some (.int a0), some (.int a1), some (.int a2), some (.int a3), none, none, none, none, none, none, none, none, none, none, none]) (by decide) rfl (Nat.le_of_ble_eq_true rfl) (fun Γ hl C E => ?_)
  subst hl
  have C : gC Γ δ cX9_mean RX9 16 3 91 := C
  have hm := K.1
  have h8 := R.1
  refine g_aload_n C dX9_mean_0 rfl ?_
  refine g_iload_n C dX9_mean_1 rfl ?_
  refine g_iload_n C dX9_mean_2 rfl ?_
  refine g_callVi C sV_X9_200 dX9_mean_3 (c_X9_isAsked _ δ _ _ _ hm h8) ⟨by decide, by decide⟩ (wO_M δ _) rfl rfl rfl rfl (Nat.le_of_ble_eq_true rfl) (fun r_3 s_3 h_3 => ?_)
  obtain ⟨rfl, h_3⟩ := h_3
  rcases h_3 with ⟨rfl, h_3⟩ | ⟨rfl, h_3⟩
  · obtain ⟨⟨u1, hu1, rfl⟩, k1, hk1, rfl⟩ := id h_3
    have hu8 : u1 < 8 := by omega
    obtain ⟨h2, h4⟩ := (R.2.1 u1 hu8).1 hu1
    have hn := K.2.1 u1 hu8
    refine g_if_eq C 31 dX9_mean_6 (by decide) (fun c_6 => ?_) (fun c_6 => ?_)
    · exact absurd c_6 (by decide)
    · refine g_aload_n C dX9_mean_9 rfl ?_
      refine g_iload_n C dX9_mean_10 rfl ?_
      refine g_iload_n C dX9_mean_11 rfl ?_
      refine g_callVi C sV_X9_92 dX9_mean_12 (c_X9_isColour _ δ _ hu8 _ hn h4) ⟨by decide, by decide⟩ (wO_M δ _) rfl rfl rfl rfl (Nat.le_of_ble_eq_true rfl) (fun r_12 s_12 h_12 => ?_)
      obtain ⟨rfl, h_12⟩ := h_12
      rcases h_12 with ⟨rfl, h_12⟩ | ⟨rfl, h_12⟩
      · obtain ⟨c1, hc1, rfl⟩ := id h_12
        refine g_if_eq C 31 dX9_mean_15 (by decide) (fun c_15 => ?_) (fun c_15 => ?_)
        · exact absurd c_15 (by decide)
        · refine g_iload C dX9_mean_18 rfl ?_
          refine g_i2l C dX9_mean_20 ?_
          refine g_lconst (v := 1) C dX9_mean_21 (by decide) ?_
          refine g_ldc2 C dX9_mean_22 mW849 ?_
          refine g_callSi C sS_X9_62 dX9_mean_25 (c_X9_in _ δ _ _ _ _) ⟨by decide, by decide⟩ rfl rfl rfl (Nat.le_of_ble_eq_true rfl) (fun r_25 s_25 h_25 => ?_)
          obtain ⟨rfl, h_25⟩ := h_25
          rcases h_25 with ⟨rfl, h_25⟩ | ⟨rfl, h_25⟩
          · have h3b := gin3.mp h_25
            obtain ⟨m1, -, hm1, rfl⟩ := gin13 (m := 3) (by decide) (by decide) (by decide) h_25
            refine g_if_ne C 33 dX9_mean_28 (by decide) (fun c_28 => ?_) (fun c_28 => ?_)
            · refine g_aload_n C dX9_mean_33 rfl ?_
              refine g_iload_n C dX9_mean_34 rfl ?_
              refine g_iload_n C dX9_mean_35 rfl ?_
              refine g_callVi C sV_X9_203 dX9_mean_36 (c_X9_evenFaulta _ δ _ hu8 (k := k1) (by omega) K R) ⟨by decide, by decide⟩ (wO_M δ _) rfl rfl rfl rfl (Nat.le_of_ble_eq_true rfl) (fun r_36 s_36 h_36 => ?_)
              obtain ⟨z_36, e_36, d_36, g_36⟩ := h_36
              refine g_istore C dX9_mean_39 (Nat.le_of_ble_eq_true rfl) rfl ?_
              refine g_lv [some _, some _, some _, some _, some _, some _, none, none, none, none, none, none, none, none, none, none] (gs_some (gs_some (gs_some (gs_some (gs_some (gs_some (gs_none (gs_none (gs_none (gs_none (gs_none (gs_none (gs_none (gs_none (gs_none (gs_none gs_nil)))))))))))))))) ?_
              refine g_iload C dX9_mean_41 rfl ?_
              refine g_if_ge C 49 dX9_mean_43 (by decide) (fun c_43 => ?_) (fun c_43 => ?_)
              · refine g_aload_n C dX9_mean_49 rfl ?_
                refine g_iload_n C dX9_mean_50 rfl ?_
                refine g_iload_n C dX9_mean_51 rfl ?_
                refine g_iconst (v := 0) C dX9_mean_52 (by decide) ?_
                refine g_iconst (v := 0) C dX9_mean_53 (by decide) ?_
                refine g_iconst (v := 0) C dX9_mean_54 (by decide) ?_
                refine g_iconst (v := 0) C dX9_mean_55 (by decide) ?_
                refine g_callVv C sV_X9_206 dX9_mean_56 (c_X9_goes _ δ _ hu8 (k := k1) (by omega) _ _ _ _) ⟨by decide, by decide⟩ (wO_M δ _) rfl rfl rfl rfl (Nat.le_of_ble_eq_true rfl) (fun s_56 h_56 => ?_)
                have z_56 : gSm σ s_56 := gSm_t z_36 h_56.1
                have d_56 : ¬ gG s_56 15 = 0 := by rw [h_56.2]; exact d_36 (Int32.not_lt.mpr c_43)
                refine g_lconst (v := 0) C dX9_mean_59 (by decide) ?_
                refine g_lstore C dX9_mean_60 (Nat.le_of_ble_eq_true rfl) rfl ?_
                refine g_lv [some _, some _, some _, some _, some _, some _, some _, none, none, none, none, none, none, none, none, none] (gs_some (gs_some (gs_some (gs_some (gs_some (gs_some (gs_some (gs_none (gs_none (gs_none (gs_none (gs_none (gs_none (gs_none (gs_none (gs_none gs_nil)))))))))))))))) ?_
                refine g_lconst (v := 0) C dX9_mean_62 (by decide) ?_
                refine g_lstore C dX9_mean_63 (Nat.le_of_ble_eq_true rfl) rfl ?_
                refine g_lv [some _, some _, some _, some _, some _, some _, some _, none, some _, none, none, none, none, none, none, none] (gs_some (gs_some (gs_some (gs_some (gs_some (gs_some (gs_some (gs_none (gs_some (gs_none (gs_none (gs_none (gs_none (gs_none (gs_none (gs_none gs_nil)))))))))))))))) ?_
                refine g_iconst (v := 0) C dX9_mean_65 (by decide) ?_
                refine g_istore C dX9_mean_66 (Nat.le_of_ble_eq_true rfl) rfl ?_
                refine g_lv [some _, some _, some _, some _, some _, some _, some _, none, some _, none, some _, none, none, none, none, none] (gs_some (gs_some (gs_some (gs_some (gs_some (gs_some (gs_some (gs_none (gs_some (gs_none (gs_some (gs_none (gs_none (gs_none (gs_none (gs_none gs_nil)))))))))))))))) ?_
                have L_68 : ∀ (nn : Nat) (q : Nat) (x y : Int64) (s1 : GS) (hq : q ≤ 2197) (hs : gSm σ s1) (hd : ¬ gG s1 15 = 0), 2197 - q < nn → gW Γ δ s1 68 [some (.ref (δ.2.2.1 1)), some (.int (nI u1)), some (.int (nI k1)), some (.int (nI c1)), some (.int (nI m1)), some (.int r_36), some (.long x), none, some (.long y), none, some (.int (nI q)), none, none, none, none, none] [] := by
                  intro nn
                  induction nn with
                  | zero =>
                    intro q x y s1 hq hs hd hm_68
                    exact absurd hm_68 (Nat.not_lt_zero _)
                  | succ nn ih_68 =>
                    intro q x y s1 hq hs hd hm_68
                    refine g_iload C dX9_mean_68 rfl ?_
                    refine g_sipush (v := 2197) C dX9_mean_70 (by decide) ?_
                    refine g_icmp_ge C 213 dX9_mean_73 (by decide) (fun c_73 => ?_) (fun c_73 => ?_)
                    · have k_73 := gle c_73 (a := 2197) (b := q) (by first | rfl | assumption | (simp only [glit, nI_add, pk_mul]; done) | (simp only [glit, nI_add, pk_mul]; congr 1; omega) | (simp only [*, glit, nI_add, pk_mul]; congr 1; omega)) (by first | rfl | assumption | (simp only [glit, nI_add, pk_mul]; done) | (simp only [glit, nI_add, pk_mul]; congr 1; omega) | (simp only [*, glit, nI_add, pk_mul]; congr 1; omega)) (by omega) (by omega)
                      refine g_aload_n C dX9_mean_213 rfl ?_
                      refine g_lload C dX9_mean_214 rfl ?_
                      refine g_aload_n C dX9_mean_216 rfl ?_
                      refine g_get C dX9_mean_217 iwX9 rfl (wO_M δ _) 20 (Nat.le_of_ble_eq_true rfl) mW592 rfl rfl ?_
                      refine g_callVi C sV_X9_174 dX9_mean_220 (c_X9_tells _ δ _ _ _ hd) ⟨by decide, by decide⟩ (wO_M δ _) rfl rfl rfl rfl (Nat.le_of_ble_eq_true rfl) (fun r_220 s_220 h_220 => ?_)
                      obtain ⟨rfl, h_220⟩ := h_220
                      have z_220 : gSm σ s_220 := gSm_t (by repeat (first | (with_reducible assumption) | (with_reducible exact gSm_r _) | (with_reducible refine gSm_I (by omega) ?_) | (with_reducible refine gSm_L (by omega) ?_) | (with_reducible refine gSm_N (by omega) ?_) | (with_reducible refine gSm_G (by omega) ?_) | (with_reducible refine gSm_P ?_))) h_220
                      refine g_istore C dX9_mean_223 (Nat.le_of_ble_eq_true rfl) rfl ?_
                      refine g_lv [some _, some _, some _, some _, some _, some _, some _, none, some _, none, some _, none, none, none, none, none] (gs_some (gs_some (gs_some (gs_some (gs_some (gs_some (gs_some (gs_none (gs_some (gs_none (gs_some (gs_none (gs_none (gs_none (gs_none (gs_none gs_nil)))))))))))))))) ?_
                      refine g_aload_n C dX9_mean_225 rfl ?_
                      refine g_lload C dX9_mean_226 rfl ?_
                      refine g_put C tyX9 dX9_mean_228 iwX9 tyX9_ok nmX9 rfl (wO_M δ _) 9 (Nat.le_of_ble_eq_true rfl) mW581 rfl rfl rfl rfl rfl (Nat.le_of_ble_eq_true rfl) (pG_10 δ _ _) ?_
                      refine g_iload C dX9_mean_231 rfl ?_
                      exact g_iret C E dX9_mean_233 rfl rfl ⟨_, rfl, ⟨((aMean_at hu1 hu8 hk1 hc1 h3b).trans (aEv_z (by rw [← e_36]; exact c_43))).symm, (by repeat (first | (with_reducible assumption) | (with_reducible exact gSm_r _) | (with_reducible refine gSm_I (by omega) ?_) | (with_reducible refine gSm_L (by omega) ?_) | (with_reducible refine gSm_N (by omega) ?_) | (with_reducible refine gSm_G (by omega) ?_) | (with_reducible refine gSm_P ?_)))⟩⟩
                    · have k_73 := gnle c_73 (a := 2197) (b := q) (by first | rfl | assumption | (simp only [glit, nI_add, pk_mul]; done) | (simp only [glit, nI_add, pk_mul]; congr 1; omega) | (simp only [*, glit, nI_add, pk_mul]; congr 1; omega)) (by first | rfl | assumption | (simp only [glit, nI_add, pk_mul]; done) | (simp only [glit, nI_add, pk_mul]; congr 1; omega) | (simp only [*, glit, nI_add, pk_mul]; congr 1; omega)) (by omega) (by omega)
                      refine g_aload_n C dX9_mean_76 rfl ?_
                      refine g_get C dX9_mean_77 iwX9 rfl (wO_M δ _) 19 (Nat.le_of_ble_eq_true rfl) mW591 rfl rfl ?_
                      refine g_iload_n C dX9_mean_80 rfl ?_
                      refine g_iload C dX9_mean_81 rfl ?_
                      refine g_callSi C sS_X9_186 dX9_mean_83 (c_X9_at _ δ _ (r := k1) (p := q) (by omega)) ⟨by decide, by decide⟩ rfl rfl rfl (Nat.le_of_ble_eq_true rfl) (fun r_83 s_83 h_83 => ?_)
                      obtain ⟨rfl, rfl⟩ := h_83
                      refine g_laldN C dX9_mean_86 (k := (2197 * ((k1) % 2) + (q))) (q := 14) (by decide) rfl (by first | rfl | assumption | (simp only [glit, nI_add, pk_mul]; done) | (simp only [glit, nI_add, pk_mul]; congr 1; omega) | (simp only [*, glit, nI_add, pk_mul]; congr 1; omega)) (show (2197 * ((k1) % 2) + (q)) < gLenL 14 from Nat.lt_of_lt_of_eq (show (2197 * ((k1) % 2) + (q)) < 4394 by omega) rfl) ?_
                      refine g_lconst (v := 0) C dX9_mean_87 (by decide) ?_
                      refine g_lcmp C dX9_mean_88 ?_
                      refine g_if_le C 207 dX9_mean_89 (by decide) (fun c_89 => ?_) (fun c_89 => ?_)
                      · rw [lg_cmp_le] at c_89
                        refine g_iinc (v := nI (q + 1)) C dX9_mean_207 rfl (ginc _ 1) rfl ?_
                        refine g_lv [some _, some _, some _, some _, some _, some _, some _, none, some _, none, some _, none, none, none, none, none] (gs_some (gs_some (gs_some (gs_some (gs_some (gs_some (gs_some (gs_none (gs_some (gs_none (gs_some (gs_none (gs_none (gs_none (gs_none (gs_none gs_nil)))))))))))))))) ?_
                        refine g_goto C 68 dX9_mean_210 (by decide) ?_
                        refine g_lv [some _, some _, some _, some _, some _, some _, some _, none, some _, none, some _, none, none, none, none, none] (gs_some (gs_some (gs_some (gs_some (gs_some (gs_some (gs_some (gs_none (gs_some (gs_none (gs_some (gs_none (gs_none (gs_none (gs_none (gs_none gs_nil)))))))))))))))) ?_
                        exact ih_68 (q + 1) _ _ _ (by omega) (by first | exact hs | exact z_97) (by first | exact hd | exact d_97) (by omega)
                      · rw [lg_cmp_le] at c_89
                        refine g_aload_n C dX9_mean_92 rfl ?_
                        refine g_iload_n C dX9_mean_93 rfl ?_
                        refine g_iload C dX9_mean_94 rfl ?_
                        refine g_iload_n C dX9_mean_96 rfl ?_
                        refine g_callVv C sV_X9_189 dX9_mean_97 (c_X9_looksAt _ δ _ hu8 (p := q) (k := k1)) ⟨by decide, by decide⟩ (wO_M δ _) rfl rfl rfl rfl (Nat.le_of_ble_eq_true rfl) (fun s_97 h_97 => ?_)
                        have z_97 : gSm σ s_97 := gSm_t hs h_97.1
                        have d_97 : ¬ gG s_97 15 = 0 := by rw [h_97.2.2]; exact hd
                        refine g_lconst (v := 0) C dX9_mean_100 (by decide) ?_
                        refine g_lstore C dX9_mean_101 (Nat.le_of_ble_eq_true rfl) rfl ?_
                        refine g_lv [some _, some _, some _, some _, some _, some _, some _, none, some _, none, some _, some _, none, none, none, none] (gs_some (gs_some (gs_some (gs_some (gs_some (gs_some (gs_some (gs_none (gs_some (gs_none (gs_some (gs_some (gs_none (gs_none (gs_none (gs_none gs_nil)))))))))))))))) ?_
                        refine g_aload_n C dX9_mean_103 rfl ?_
                        refine g_get C dX9_mean_104 iwX9 rfl (wO_M δ _) 19 (Nat.le_of_ble_eq_true rfl) mW591 rfl rfl ?_
                        refine g_iload_n C dX9_mean_107 rfl ?_
                        refine g_iload C dX9_mean_108 rfl ?_
                        refine g_callSi C sS_X9_186 dX9_mean_110 (c_X9_at _ δ _ (r := k1) (p := q) (by omega)) ⟨by decide, by decide⟩ rfl rfl rfl (Nat.le_of_ble_eq_true rfl) (fun r_110 s_110 h_110 => ?_)
                        obtain ⟨rfl, rfl⟩ := h_110
                        refine g_laldN C dX9_mean_113 (k := (2197 * ((k1) % 2) + (q))) (q := 14) (by decide) rfl (by first | rfl | assumption | (simp only [glit, nI_add, pk_mul]; done) | (simp only [glit, nI_add, pk_mul]; congr 1; omega) | (simp only [*, glit, nI_add, pk_mul]; congr 1; omega)) (show (2197 * ((k1) % 2) + (q)) < gLenL 14 from Nat.lt_of_lt_of_eq (show (2197 * ((k1) % 2) + (q)) < 4394 by omega) rfl) ?_
                        refine g_lstore C dX9_mean_114 (Nat.le_of_ble_eq_true rfl) rfl ?_
                        refine g_lv [some _, some _, some _, some _, some _, some _, some _, none, some _, none, some _, some _, none, some _, none, none] (gs_some (gs_some (gs_some (gs_some (gs_some (gs_some (gs_some (gs_none (gs_some (gs_none (gs_some (gs_some (gs_none (gs_some (gs_none (gs_none gs_nil)))))))))))))))) ?_
                        refine g_iconst (v := 0) C dX9_mean_116 (by decide) ?_
                        refine g_istore C dX9_mean_117 (Nat.le_of_ble_eq_true rfl) rfl ?_
                        refine g_lv [some _, some _, some _, some _, some _, some _, some _, none, some _, none, some _, some _, none, some _, none, some _] (gs_some (gs_some (gs_some (gs_some (gs_some (gs_some (gs_some (gs_none (gs_some (gs_none (gs_some (gs_some (gs_none (gs_some (gs_none (gs_some gs_nil)))))))))))))))) ?_
                        have L_119 : ∀ (nn : Nat) (i : Nat) (a b : Int64) (hi : i ≤ m1), m1 - i < nn → gW Γ δ s_97 119 [some (.ref (δ.2.2.1 1)), some (.int (nI u1)), some (.int (nI k1)), some (.int (nI c1)), some (.int (nI m1)), some (.int r_36), some (.long x), none, some (.long y), none, some (.int (nI q)), some (.long a), none, some (.long b), none, some (.int (nI i))] [] := by
                          intro nn
                          induction nn with
                          | zero =>
                            intro i a b hi hm_119
                            exact absurd hm_119 (Nat.not_lt_zero _)
                          | succ nn ih_119 =>
                            intro i a b hi hm_119
                            refine g_iload C dX9_mean_119 rfl ?_
                            refine g_iload C dX9_mean_121 rfl ?_
                            refine g_icmp_ge C 177 dX9_mean_123 (by decide) (fun c_123 => ?_) (fun c_123 => ?_)
                            · have k_123 := gle c_123 (a := m1) (b := i) (by first | rfl | assumption | (simp only [glit, nI_add, pk_mul]; done) | (simp only [glit, nI_add, pk_mul]; congr 1; omega) | (simp only [*, glit, nI_add, pk_mul]; congr 1; omega)) (by first | rfl | assumption | (simp only [glit, nI_add, pk_mul]; done) | (simp only [glit, nI_add, pk_mul]; congr 1; omega) | (simp only [*, glit, nI_add, pk_mul]; congr 1; omega)) (by omega) (by omega)
                              refine g_lload C dX9_mean_177 rfl ?_
                              refine g_lload C dX9_mean_179 rfl ?_
                              refine g_lload C dX9_mean_181 rfl ?_
                              refine g_lload C dX9_mean_183 rfl ?_
                              refine g_ladd C dX9_mean_185 ?_
                              refine g_aload_n C dX9_mean_186 rfl ?_
                              refine g_get C dX9_mean_187 iwX9 rfl (wO_M δ _) 20 (Nat.le_of_ble_eq_true rfl) mW592 rfl rfl ?_
                              refine g_ldiv C dX9_mean_190 d_97 ?_
                              refine g_ladd C dX9_mean_191 ?_
                              refine g_ladd C dX9_mean_192 ?_
                              refine g_lstore C dX9_mean_193 (Nat.le_of_ble_eq_true rfl) rfl ?_
                              refine g_lv [some _, some _, some _, some _, some _, some _, some _, none, some _, none, some _, some _, none, some _, none, some _] (gs_some (gs_some (gs_some (gs_some (gs_some (gs_some (gs_some (gs_none (gs_some (gs_none (gs_some (gs_some (gs_none (gs_some (gs_none (gs_some gs_nil)))))))))))))))) ?_
                              refine g_lload C dX9_mean_195 rfl ?_
                              refine g_lload C dX9_mean_197 rfl ?_
                              refine g_ladd C dX9_mean_199 ?_
                              refine g_aload_n C dX9_mean_200 rfl ?_
                              refine g_get C dX9_mean_201 iwX9 rfl (wO_M δ _) 20 (Nat.le_of_ble_eq_true rfl) mW592 rfl rfl ?_
                              refine g_lrem C dX9_mean_204 d_97 ?_
                              refine g_lstore C dX9_mean_205 (Nat.le_of_ble_eq_true rfl) rfl ?_
                              refine g_lv [some _, some _, some _, some _, some _, some _, some _, none, some _, none, some _, some _, none, some _, none, some _] (gs_some (gs_some (gs_some (gs_some (gs_some (gs_some (gs_some (gs_none (gs_some (gs_none (gs_some (gs_some (gs_none (gs_some (gs_none (gs_some gs_nil)))))))))))))))) ?_
                              refine g_iinc (v := nI (q + 1)) C dX9_mean_207 rfl (ginc _ 1) rfl ?_
                              refine g_lv [some _, some _, some _, some _, some _, some _, some _, none, some _, none, some _, some _, none, some _, none, some _] (gs_some (gs_some (gs_some (gs_some (gs_some (gs_some (gs_some (gs_none (gs_some (gs_none (gs_some (gs_some (gs_none (gs_some (gs_none (gs_some gs_nil)))))))))))))))) ?_
                              refine g_goto C 68 dX9_mean_210 (by decide) ?_
                              refine g_lv [some _, some _, some _, some _, some _, some _, some _, none, some _, none, some _, none, none, none, none, none] (gs_some (gs_some (gs_some (gs_some (gs_some (gs_some (gs_some (gs_none (gs_some (gs_none (gs_some (gs_none (gs_none (gs_none (gs_none (gs_none gs_nil)))))))))))))))) ?_
                              exact ih_68 (q + 1) _ _ _ (by omega) (by first | exact hs | exact z_97) (by first | exact hd | exact d_97) (by omega)
                            · have k_123 := gnle c_123 (a := m1) (b := i) (by first | rfl | assumption | (simp only [glit, nI_add, pk_mul]; done) | (simp only [glit, nI_add, pk_mul]; congr 1; omega) | (simp only [*, glit, nI_add, pk_mul]; congr 1; omega)) (by first | rfl | assumption | (simp only [glit, nI_add, pk_mul]; done) | (simp only [glit, nI_add, pk_mul]; congr 1; omega) | (simp only [*, glit, nI_add, pk_mul]; congr 1; omega)) (by omega) (by omega)
                              refine g_lload C dX9_mean_126 rfl ?_
                              refine g_aload_n C dX9_mean_128 rfl ?_
                              refine g_get C dX9_mean_129 iwX9 rfl (wO_M δ _) 23 (Nat.le_of_ble_eq_true rfl) mW595 rfl rfl ?_
                              refine g_iload_n C dX9_mean_132 rfl ?_
                              refine g_ialdN C dX9_mean_133 (k := c1) (q := 59) (by decide) rfl (by first | rfl | assumption | (simp only [glit, nI_add, pk_mul]; done) | (simp only [glit, nI_add, pk_mul]; congr 1; omega) | (simp only [*, glit, nI_add, pk_mul]; congr 1; omega)) (show c1 < gLenI 59 from Nat.lt_of_lt_of_eq (show c1 < 4 by omega) rfl) ?_
                              refine g_i2l C dX9_mean_134 ?_
                              refine g_lmul C dX9_mean_135 ?_
                              refine g_lload C dX9_mean_136 rfl ?_
                              refine g_aload_n C dX9_mean_138 rfl ?_
                              refine g_get C dX9_mean_139 iwX9 rfl (wO_M δ _) 23 (Nat.le_of_ble_eq_true rfl) mW595 rfl rfl ?_
                              refine g_iload_n C dX9_mean_142 rfl ?_
                              refine g_ialdN C dX9_mean_143 (k := c1) (q := 59) (by decide) rfl (by first | rfl | assumption | (simp only [glit, nI_add, pk_mul]; done) | (simp only [glit, nI_add, pk_mul]; congr 1; omega) | (simp only [*, glit, nI_add, pk_mul]; congr 1; omega)) (show c1 < gLenI 59 from Nat.lt_of_lt_of_eq (show c1 < 4 by omega) rfl) ?_
                              refine g_i2l C dX9_mean_144 ?_
                              refine g_lmul C dX9_mean_145 ?_
                              refine g_aload_n C dX9_mean_146 rfl ?_
                              refine g_get C dX9_mean_147 iwX9 rfl (wO_M δ _) 20 (Nat.le_of_ble_eq_true rfl) mW592 rfl rfl ?_
                              refine g_ldiv C dX9_mean_150 d_97 ?_
                              refine g_ladd C dX9_mean_151 ?_
                              refine g_lstore C dX9_mean_152 (Nat.le_of_ble_eq_true rfl) rfl ?_
                              refine g_lv [some _, some _, some _, some _, some _, some _, some _, none, some _, none, some _, some _, none, some _, none, some _] (gs_some (gs_some (gs_some (gs_some (gs_some (gs_some (gs_some (gs_none (gs_some (gs_none (gs_some (gs_some (gs_none (gs_some (gs_none (gs_some gs_nil)))))))))))))))) ?_
                              refine g_lload C dX9_mean_154 rfl ?_
                              refine g_aload_n C dX9_mean_156 rfl ?_
                              refine g_get C dX9_mean_157 iwX9 rfl (wO_M δ _) 23 (Nat.le_of_ble_eq_true rfl) mW595 rfl rfl ?_
                              refine g_iload_n C dX9_mean_160 rfl ?_
                              refine g_ialdN C dX9_mean_161 (k := c1) (q := 59) (by decide) rfl (by first | rfl | assumption | (simp only [glit, nI_add, pk_mul]; done) | (simp only [glit, nI_add, pk_mul]; congr 1; omega) | (simp only [*, glit, nI_add, pk_mul]; congr 1; omega)) (show c1 < gLenI 59 from Nat.lt_of_lt_of_eq (show c1 < 4 by omega) rfl) ?_
                              refine g_i2l C dX9_mean_162 ?_
                              refine g_lmul C dX9_mean_163 ?_
                              refine g_aload_n C dX9_mean_164 rfl ?_
                              refine g_get C dX9_mean_165 iwX9 rfl (wO_M δ _) 20 (Nat.le_of_ble_eq_true rfl) mW592 rfl rfl ?_
                              refine g_lrem C dX9_mean_168 d_97 ?_
                              refine g_lstore C dX9_mean_169 (Nat.le_of_ble_eq_true rfl) rfl ?_
                              refine g_lv [some _, some _, some _, some _, some _, some _, some _, none, some _, none, some _, some _, none, some _, none, some _] (gs_some (gs_some (gs_some (gs_some (gs_some (gs_some (gs_some (gs_none (gs_some (gs_none (gs_some (gs_some (gs_none (gs_some (gs_none (gs_some gs_nil)))))))))))))))) ?_
                              refine g_iinc (v := nI (i + 1)) C dX9_mean_171 rfl (ginc _ 1) rfl ?_
                              refine g_lv [some _, some _, some _, some _, some _, some _, some _, none, some _, none, some _, some _, none, some _, none, some _] (gs_some (gs_some (gs_some (gs_some (gs_some (gs_some (gs_some (gs_none (gs_some (gs_none (gs_some (gs_some (gs_none (gs_some (gs_none (gs_some gs_nil)))))))))))))))) ?_
                              refine g_goto C 119 dX9_mean_174 (by decide) ?_
                              refine g_lv [some _, some _, some _, some _, some _, some _, some _, none, some _, none, some _, some _, none, some _, none, some _] (gs_some (gs_some (gs_some (gs_some (gs_some (gs_some (gs_some (gs_none (gs_some (gs_none (gs_some (gs_some (gs_none (gs_some (gs_none (gs_some gs_nil)))))))))))))))) ?_
                              exact ih_119 (i + 1) _ _ (by omega) (by omega)
                        refine g_lv [some _, some _, some _, some _, some _, some _, some _, none, some _, none, some _, some _, none, some _, none, some _] (gs_some (gs_some (gs_some (gs_some (gs_some (gs_some (gs_some (gs_none (gs_some (gs_none (gs_some (gs_some (gs_none (gs_some (gs_none (gs_some gs_nil)))))))))))))))) ?_
                        exact L_119 _ 0 _ _ (by omega) (Nat.lt_succ_self _)
                refine g_lv [some _, some _, some _, some _, some _, some _, some _, none, some _, none, some _, none, none, none, none, none] (gs_some (gs_some (gs_some (gs_some (gs_some (gs_some (gs_some (gs_none (gs_some (gs_none (gs_some (gs_none (gs_none (gs_none (gs_none (gs_none gs_nil)))))))))))))))) ?_
                exact L_68 _ 0 _ _ _ (by omega) z_56 d_56 (Nat.lt_succ_self _)
              · refine g_iload C dX9_mean_46 rfl ?_
                exact g_iret C E dX9_mean_48 rfl rfl ⟨_, rfl, ⟨e_36.trans (aMean_at hu1 hu8 hk1 hc1 h3b).symm, (by repeat (first | (with_reducible assumption) | (with_reducible exact gSm_r _) | (with_reducible refine gSm_I (by omega) ?_) | (with_reducible refine gSm_L (by omega) ?_) | (with_reducible refine gSm_N (by omega) ?_) | (with_reducible refine gSm_G (by omega) ?_) | (with_reducible refine gSm_P ?_)))⟩⟩
            · exact absurd c_28 (by decide)
          · skip
            refine g_if_ne C 33 dX9_mean_28 (by decide) (fun c_28 => ?_) (fun c_28 => ?_)
            · exact absurd c_28 (by decide)
            · refine g_iconst (v := (-1)) C dX9_mean_31 (by decide) ?_
              exact g_iret C E dX9_mean_32 rfl rfl ⟨_, rfl, ⟨(by first | exact (gIf_f (fun z => h_3 z.1)).symm | exact (gIf_f (fun z => h_12 ((okC_n hu8).mp z.2.1))).symm | exact (gIf_f (fun z => h_25 (gin3.mpr z.2.2))).symm), (by repeat (first | (with_reducible assumption) | (with_reducible exact gSm_r _) | (with_reducible refine gSm_I (by omega) ?_) | (with_reducible refine gSm_L (by omega) ?_) | (with_reducible refine gSm_N (by omega) ?_) | (with_reducible refine gSm_G (by omega) ?_) | (with_reducible refine gSm_P ?_)))⟩⟩
      · skip
        refine g_if_eq C 31 dX9_mean_15 (by decide) (fun c_15 => ?_) (fun c_15 => ?_)
        · refine g_iconst (v := (-1)) C dX9_mean_31 (by decide) ?_
          exact g_iret C E dX9_mean_32 rfl rfl ⟨_, rfl, ⟨(by first | exact (gIf_f (fun z => h_3 z.1)).symm | exact (gIf_f (fun z => h_12 ((okC_n hu8).mp z.2.1))).symm | exact (gIf_f (fun z => h_25 (gin3.mpr z.2.2))).symm), (by repeat (first | (with_reducible assumption) | (with_reducible exact gSm_r _) | (with_reducible refine gSm_I (by omega) ?_) | (with_reducible refine gSm_L (by omega) ?_) | (with_reducible refine gSm_N (by omega) ?_) | (with_reducible refine gSm_G (by omega) ?_) | (with_reducible refine gSm_P ?_)))⟩⟩
        · exact absurd c_15 (by decide)
  · skip
    refine g_if_eq C 31 dX9_mean_6 (by decide) (fun c_6 => ?_) (fun c_6 => ?_)
    · refine g_iconst (v := (-1)) C dX9_mean_31 (by decide) ?_
      exact g_iret C E dX9_mean_32 rfl rfl ⟨_, rfl, ⟨(by first | exact (gIf_f (fun z => h_3 z.1)).symm | exact (gIf_f (fun z => h_12 ((okC_n hu8).mp z.2.1))).symm | exact (gIf_f (fun z => h_25 (gin3.mpr z.2.2))).symm), (by repeat (first | (with_reducible assumption) | (with_reducible exact gSm_r _) | (with_reducible refine gSm_I (by omega) ?_) | (with_reducible refine gSm_L (by omega) ?_) | (with_reducible refine gSm_N (by omega) ?_) | (with_reducible refine gSm_G (by omega) ?_) | (with_reducible refine gSm_P ?_)))⟩⟩
    · exact absurd c_6 (by decide)
set_option maxRecDepth 100000 in
set_option maxHeartbeats 4000000 in
theorem c_X9_sharea (l : Launch) (δ : GD) (σ : GS) (a0 a1 a2 : Int32) {v : GV} (K : KM σ v) (R : RV v) : gM l δ yX9_share cX9_share 10 (some .int) 3 71 [.ref (δ.2.2.1 1), .int a0, .int a1, .int a2] σ (gPi (fun x σ' => x = aShare v a0 a1 a2 ∧ gSm σ σ')) := by
  refine g_of (lv0 := [some (.ref (δ.2.2.1 1)), some (.int a0), some (.int a1), some (.int a2), none, none, none, none, none, none]) (by decide) rfl (Nat.le_of_ble_eq_true rfl) (fun Γ hl C E => ?_)
  subst hl
  have C : gC Γ δ cX9_share RX9 10 3 71 := C
  have hm := K.1
  have h8 := R.1
  have hV := hV_of K R
  refine g_aload_n C dX9_share_0 rfl ?_
  refine g_iload_n C dX9_share_1 rfl ?_
  refine g_callVi C sV_X9_89 dX9_share_2 (c_X9_isUrn _ δ _ _ hm h8) ⟨by decide, by decide⟩ (wO_M δ _) rfl rfl rfl rfl (Nat.le_of_ble_eq_true rfl) (fun r_2 s_2 h_2 => ?_)
  obtain ⟨rfl, h_2⟩ := h_2
  rcases h_2 with ⟨rfl, h_2⟩ | ⟨rfl, h_2⟩
  · obtain ⟨u1, hu1, rfl⟩ := id h_2
    have hu8 : u1 < 8 := by omega
    obtain ⟨h2, h4⟩ := (R.2.1 u1 hu8).1 hu1
    have hn := K.2.1 u1 hu8
    refine g_if_eq C 29 dX9_share_5 (by decide) (fun c_5 => ?_) (fun c_5 => ?_)
    · exact absurd c_5 (by decide)
    · refine g_aload_n C dX9_share_8 rfl ?_
      refine g_iload_n C dX9_share_9 rfl ?_
      refine g_iload_n C dX9_share_10 rfl ?_
      refine g_callVi C sV_X9_92 dX9_share_11 (c_X9_isColour _ δ _ hu8 _ hn h4) ⟨by decide, by decide⟩ (wO_M δ _) rfl rfl rfl rfl (Nat.le_of_ble_eq_true rfl) (fun r_11 s_11 h_11 => ?_)
      obtain ⟨rfl, h_11⟩ := h_11
      rcases h_11 with ⟨rfl, h_11⟩ | ⟨rfl, h_11⟩
      · obtain ⟨c1, hc1, rfl⟩ := id h_11
        refine g_if_eq C 29 dX9_share_14 (by decide) (fun c_14 => ?_) (fun c_14 => ?_)
        · exact absurd c_14 (by decide)
        · refine g_iload_n C dX9_share_17 rfl ?_
          refine g_i2l C dX9_share_18 ?_
          refine g_lconst (v := 1) C dX9_share_19 (by decide) ?_
          refine g_ldc2 C dX9_share_20 mW706 ?_
          refine g_callSi C sS_X9_62 dX9_share_23 (c_X9_in _ δ _ _ _ _) ⟨by decide, by decide⟩ rfl rfl rfl (Nat.le_of_ble_eq_true rfl) (fun r_23 s_23 h_23 => ?_)
          obtain ⟨rfl, h_23⟩ := h_23
          rcases h_23 with ⟨rfl, h_23⟩ | ⟨rfl, h_23⟩
          · have h4b := gin4.mp h_23
            obtain ⟨m1, -, hm1, rfl⟩ := gin13 (m := 4) (by decide) (by decide) (by decide) h_23
            refine g_if_ne C 31 dX9_share_26 (by decide) (fun c_26 => ?_) (fun c_26 => ?_)
            · refine g_aload_n C dX9_share_31 rfl ?_
              refine g_iload_n C dX9_share_32 rfl ?_
              refine g_iconst (v := 0) C dX9_share_33 (by decide) ?_
              refine g_callVi C sV_X9_107 dX9_share_34 (c_X9_addedSum _ δ _ hu8 (c := 0) (by omega)) ⟨by decide, by decide⟩ (wO_M δ _) rfl rfl rfl rfl (Nat.le_of_ble_eq_true rfl) (fun r_34 s_34 h_34 => ?_)
              obtain ⟨rfl, h_34⟩ := h_34
              refine g_istore C dX9_share_37 (Nat.le_of_ble_eq_true rfl) rfl ?_
              refine g_lv [some _, some _, some _, some _, some _, none, none, none, none, none] (gs_some (gs_some (gs_some (gs_some (gs_some (gs_none (gs_none (gs_none (gs_none (gs_none gs_nil)))))))))) ?_
              refine g_aload_n C dX9_share_39 rfl ?_
              refine g_iload_n C dX9_share_40 rfl ?_
              refine g_callVi C sV_X9_117 dX9_share_41 (c_X9_isLike _ δ _ hu8 hn h4) ⟨by decide, by decide⟩ (wO_M δ _) rfl rfl rfl rfl (Nat.le_of_ble_eq_true rfl) (fun r_41 s_41 h_41 => ?_)
              obtain ⟨rfl, h_41⟩ := h_41
              refine g_if_eq C 60 dX9_share_44 (by decide) (fun c_44 => ?_) (fun c_44 => ?_)
              · refine g_bipush (v := (-2)) C dX9_share_60 (by decide) ?_
                exact g_iret C E dX9_share_62 rfl rfl ⟨_, rfl, ⟨((aShare_at hu1 hu8 hc1 h4b).trans (gIf_f (by first | exact fun z => gAcc_n h_41 c_44 ((KM_lk K R hu8).mpr z.1) | exact fun z => z.2.1 ((KM_gr K hu8 (by omega)).symm.trans (h_34.symm.trans c_49)) | exact fun z => z.2.2 ((KM_sum K hu8).symm.trans (h_54.symm.trans c_57))))).symm, (by repeat (first | (with_reducible assumption) | (with_reducible exact gSm_r _) | (with_reducible refine gSm_I (by omega) ?_) | (with_reducible refine gSm_L (by omega) ?_) | (with_reducible refine gSm_N (by omega) ?_) | (with_reducible refine gSm_G (by omega) ?_) | (with_reducible refine gSm_P ?_)))⟩⟩
              · refine g_iload C dX9_share_47 rfl ?_
                refine g_if_eq C 60 dX9_share_49 (by decide) (fun c_49 => ?_) (fun c_49 => ?_)
                · refine g_bipush (v := (-2)) C dX9_share_60 (by decide) ?_
                  exact g_iret C E dX9_share_62 rfl rfl ⟨_, rfl, ⟨((aShare_at hu1 hu8 hc1 h4b).trans (gIf_f (by first | exact fun z => gAcc_n h_41 c_44 ((KM_lk K R hu8).mpr z.1) | exact fun z => z.2.1 ((KM_gr K hu8 (by omega)).symm.trans (h_34.symm.trans c_49)) | exact fun z => z.2.2 ((KM_sum K hu8).symm.trans (h_54.symm.trans c_57))))).symm, (by repeat (first | (with_reducible assumption) | (with_reducible exact gSm_r _) | (with_reducible refine gSm_I (by omega) ?_) | (with_reducible refine gSm_L (by omega) ?_) | (with_reducible refine gSm_N (by omega) ?_) | (with_reducible refine gSm_G (by omega) ?_) | (with_reducible refine gSm_P ?_)))⟩⟩
                · refine g_aload_n C dX9_share_52 rfl ?_
                  refine g_iload_n C dX9_share_53 rfl ?_
                  refine g_callVi C sV_X9_113 dX9_share_54 (c_X9_balls _ δ _ hu8) ⟨by decide, by decide⟩ (wO_M δ _) rfl rfl rfl rfl (Nat.le_of_ble_eq_true rfl) (fun r_54 s_54 h_54 => ?_)
                  obtain ⟨rfl, h_54⟩ := h_54
                  refine g_if_ne C 63 dX9_share_57 (by decide) (fun c_57 => ?_) (fun c_57 => ?_)
                  · rw [h_54] at c_57
                    subst h_34
                    have hl := (gAcc_y h_41 c_44).1.2
                    obtain ⟨b1, b2, -⟩ := gB2_sum (hV u1 hu8).1
                    have b3 := (gNT9_s (hV u1 hu8).2 (c := 0) (by omega)).2
                    refine g_lconst (v := 1) C dX9_share_63 (by decide) ?_
                    refine g_lstore C dX9_share_64 (Nat.le_of_ble_eq_true rfl) rfl ?_
                    refine g_lv [some _, some _, some _, some _, some _, some _, none, none, none, none] (gs_some (gs_some (gs_some (gs_some (gs_some (gs_some (gs_none (gs_none (gs_none (gs_none gs_nil)))))))))) ?_
                    refine g_lconst (v := 1) C dX9_share_66 (by decide) ?_
                    refine g_lstore C dX9_share_67 (Nat.le_of_ble_eq_true rfl) rfl ?_
                    refine g_lv [some _, some _, some _, some _, some _, some _, none, some _, none, none] (gs_some (gs_some (gs_some (gs_some (gs_some (gs_some (gs_none (gs_some (gs_none (gs_none gs_nil)))))))))) ?_
                    refine g_iconst (v := 0) C dX9_share_69 (by decide) ?_
                    refine g_istore C dX9_share_70 (Nat.le_of_ble_eq_true rfl) rfl ?_
                    refine g_lv [some _, some _, some _, some _, some _, some _, none, some _, none, some _] (gs_some (gs_some (gs_some (gs_some (gs_some (gs_some (gs_none (gs_some (gs_none (gs_some gs_nil)))))))))) ?_
                    have L_72 : ∀ (nn : Nat) (i : Nat) (x y : Int64) (hi : i ≤ m1) (hy : 1 ≤ y.toInt ∧ y.toInt ≤ ((1000 ^ i : Nat) : Int)), m1 - i < nn → gW Γ δ σ 72 [some (.ref (δ.2.2.1 1)), some (.int (nI u1)), some (.int (nI c1)), some (.int (nI m1)), some (.int (gGr (mT σ u1) 0 4)), some (.long x), none, some (.long y), none, some (.int (nI i))] [] := by
                      intro nn
                      induction nn with
                      | zero =>
                        intro i x y hi hy hm_72
                        exact absurd hm_72 (Nat.not_lt_zero _)
                      | succ nn ih_72 =>
                        intro i x y hi hy hm_72
                        refine g_iload C dX9_share_72 rfl ?_
                        refine g_iload_n C dX9_share_74 rfl ?_
                        refine g_icmp_ge C 124 dX9_share_75 (by decide) (fun c_75 => ?_) (fun c_75 => ?_)
                        · have k_75 := gle c_75 (a := m1) (b := i) (by first | rfl | assumption | (simp only [glit, nI_add, pk_mul]; done) | (simp only [glit, nI_add, pk_mul]; congr 1; omega) | (simp only [*, glit, nI_add, pk_mul]; congr 1; omega)) (by first | rfl | assumption | (simp only [glit, nI_add, pk_mul]; done) | (simp only [glit, nI_add, pk_mul]; congr 1; omega) | (simp only [*, glit, nI_add, pk_mul]; congr 1; omega)) (by omega) (by omega)
                          refine g_aload_n C dX9_share_124 rfl ?_
                          refine g_lload C dX9_share_125 rfl ?_
                          refine g_lload C dX9_share_127 rfl ?_
                          refine g_callVi C sV_X9_174 dX9_share_129 (c_X9_tells _ δ _ _ _ (gnz1 (l_le1.mpr hy.1))) ⟨by decide, by decide⟩ (wO_M δ _) rfl rfl rfl rfl (Nat.le_of_ble_eq_true rfl) (fun r_129 s_129 h_129 => ?_)
                          obtain ⟨rfl, h_129⟩ := h_129
                          have z_129 : gSm σ s_129 := gSm_t (by repeat (first | (with_reducible assumption) | (with_reducible exact gSm_r _) | (with_reducible refine gSm_I (by omega) ?_) | (with_reducible refine gSm_L (by omega) ?_) | (with_reducible refine gSm_N (by omega) ?_) | (with_reducible refine gSm_G (by omega) ?_) | (with_reducible refine gSm_P ?_))) h_129
                          exact g_iret C E dX9_share_132 rfl rfl ⟨_, rfl, ⟨((aShare_at hu1 hu8 hc1 h4b).trans (gIf_t ⟨(KM_lk K R hu8).mp (gAcc_y h_41 c_44), fun z => c_49 ((KM_gr K hu8 (by omega)).trans z), fun z => c_57 ((KM_sum K hu8).trans z)⟩)).symm, (by repeat (first | (with_reducible assumption) | (with_reducible exact gSm_r _) | (with_reducible refine gSm_I (by omega) ?_) | (with_reducible refine gSm_L (by omega) ?_) | (with_reducible refine gSm_N (by omega) ?_) | (with_reducible refine gSm_G (by omega) ?_) | (with_reducible refine gSm_P ?_)))⟩⟩
                        · have k_75 := gnle c_75 (a := m1) (b := i) (by first | rfl | assumption | (simp only [glit, nI_add, pk_mul]; done) | (simp only [glit, nI_add, pk_mul]; congr 1; omega) | (simp only [*, glit, nI_add, pk_mul]; congr 1; omega)) (by first | rfl | assumption | (simp only [glit, nI_add, pk_mul]; done) | (simp only [glit, nI_add, pk_mul]; congr 1; omega) | (simp only [*, glit, nI_add, pk_mul]; congr 1; omega)) (by omega) (by omega)
                          refine g_lload C dX9_share_78 rfl ?_
                          refine g_aload_n C dX9_share_80 rfl ?_
                          refine g_get C dX9_share_81 iwX9 rfl (wO_M δ _) 6 (Nat.le_of_ble_eq_true rfl) mW578 rfl rfl ?_
                          refine g_bipush (v := 25) C dX9_share_84 (by decide) ?_
                          refine g_iload_n C dX9_share_86 rfl ?_
                          refine g_imul C dX9_share_87 ?_
                          refine g_iload_n C dX9_share_88 rfl ?_
                          refine g_iadd C dX9_share_89 ?_
                          refine g_ialdN C dX9_share_90 (k := ((25 * u1) + c1)) (q := 53) (by decide) rfl (by first | rfl | assumption | (simp only [glit, nI_add, pk_mul]; done) | (simp only [glit, nI_add, pk_mul]; congr 1; omega) | (simp only [*, glit, nI_add, pk_mul]; congr 1; omega)) (show ((25 * u1) + c1) < gLenI 53 from Nat.lt_of_lt_of_eq (show ((25 * u1) + c1) < 202 by omega) rfl) ?_
                          refine g_iload C dX9_share_91 rfl ?_
                          refine g_iload C dX9_share_93 rfl ?_
                          refine g_imul C dX9_share_95 ?_
                          refine g_iadd C dX9_share_96 ?_
                          refine g_i2l C dX9_share_97 ?_
                          refine g_lmul C dX9_share_98 ?_
                          refine g_lstore C dX9_share_99 (Nat.le_of_ble_eq_true rfl) rfl ?_
                          refine g_lv [some _, some _, some _, some _, some _, some _, none, some _, none, some _] (gs_some (gs_some (gs_some (gs_some (gs_some (gs_some (gs_none (gs_some (gs_none (gs_some gs_nil)))))))))) ?_
                          refine g_lload C dX9_share_101 rfl ?_
                          refine g_aload_n C dX9_share_103 rfl ?_
                          refine g_iload_n C dX9_share_104 rfl ?_
                          refine g_callVi C sV_X9_113 dX9_share_105 (c_X9_balls _ δ _ hu8) ⟨by decide, by decide⟩ (wO_M δ _) rfl rfl rfl rfl (Nat.le_of_ble_eq_true rfl) (fun r_105 s_105 h_105 => ?_)
                          obtain ⟨rfl, rfl⟩ := h_105
                          refine g_iload C dX9_share_108 rfl ?_
                          refine g_iload C dX9_share_110 rfl ?_
                          refine g_imul C dX9_share_112 ?_
                          refine g_iadd C dX9_share_113 ?_
                          refine g_i2l C dX9_share_114 ?_
                          refine g_lmul C dX9_share_115 ?_
                          refine g_lstore C dX9_share_116 (Nat.le_of_ble_eq_true rfl) rfl ?_
                          refine g_lv [some _, some _, some _, some _, some _, some _, none, some _, none, some _] (gs_some (gs_some (gs_some (gs_some (gs_some (gs_some (gs_none (gs_some (gs_none (gs_some gs_nil)))))))))) ?_
                          refine g_iinc (v := nI (i + 1)) C dX9_share_118 rfl (ginc _ 1) rfl ?_
                          refine g_lv [some _, some _, some _, some _, some _, some _, none, some _, none, some _] (gs_some (gs_some (gs_some (gs_some (gs_some (gs_some (gs_none (gs_some (gs_none (gs_some gs_nil)))))))))) ?_
                          refine g_goto C 72 dX9_share_121 (by decide) ?_
                          refine g_lv [some _, some _, some _, some _, some _, some _, none, some _, none, some _] (gs_some (gs_some (gs_some (gs_some (gs_some (gs_some (gs_none (gs_some (gs_none (gs_some gs_nil)))))))))) ?_
                          exact ih_72 (i + 1) _ _ (by omega) (gshr_s (by omega) hy.1 hy.2 b1 b2 c_57 hl b3) (by omega)
                    refine g_lv [some _, some _, some _, some _, some _, some _, none, some _, none, some _] (gs_some (gs_some (gs_some (gs_some (gs_some (gs_some (gs_none (gs_some (gs_none (gs_some gs_nil)))))))))) ?_
                    exact L_72 _ 0 _ _ (by omega) (by decide) (Nat.lt_succ_self _)
                  · refine g_bipush (v := (-2)) C dX9_share_60 (by decide) ?_
                    exact g_iret C E dX9_share_62 rfl rfl ⟨_, rfl, ⟨((aShare_at hu1 hu8 hc1 h4b).trans (gIf_f (by first | exact fun z => gAcc_n h_41 c_44 ((KM_lk K R hu8).mpr z.1) | exact fun z => z.2.1 ((KM_gr K hu8 (by omega)).symm.trans (h_34.symm.trans c_49)) | exact fun z => z.2.2 ((KM_sum K hu8).symm.trans (h_54.symm.trans c_57))))).symm, (by repeat (first | (with_reducible assumption) | (with_reducible exact gSm_r _) | (with_reducible refine gSm_I (by omega) ?_) | (with_reducible refine gSm_L (by omega) ?_) | (with_reducible refine gSm_N (by omega) ?_) | (with_reducible refine gSm_G (by omega) ?_) | (with_reducible refine gSm_P ?_)))⟩⟩
            · exact absurd c_26 (by decide)
          · skip
            refine g_if_ne C 31 dX9_share_26 (by decide) (fun c_26 => ?_) (fun c_26 => ?_)
            · exact absurd c_26 (by decide)
            · refine g_iconst (v := (-1)) C dX9_share_29 (by decide) ?_
              exact g_iret C E dX9_share_30 rfl rfl ⟨_, rfl, ⟨(by first | exact (gIf_f (fun z => h_2 z.1.1)).symm | exact (gIf_f (fun z => h_11 ((okC_n hu8).mp z.1.2))).symm | exact (gIf_f (fun z => h_23 (gin4.mpr z.2))).symm), (by repeat (first | (with_reducible assumption) | (with_reducible exact gSm_r _) | (with_reducible refine gSm_I (by omega) ?_) | (with_reducible refine gSm_L (by omega) ?_) | (with_reducible refine gSm_N (by omega) ?_) | (with_reducible refine gSm_G (by omega) ?_) | (with_reducible refine gSm_P ?_)))⟩⟩
      · skip
        refine g_if_eq C 29 dX9_share_14 (by decide) (fun c_14 => ?_) (fun c_14 => ?_)
        · refine g_iconst (v := (-1)) C dX9_share_29 (by decide) ?_
          exact g_iret C E dX9_share_30 rfl rfl ⟨_, rfl, ⟨(by first | exact (gIf_f (fun z => h_2 z.1.1)).symm | exact (gIf_f (fun z => h_11 ((okC_n hu8).mp z.1.2))).symm | exact (gIf_f (fun z => h_23 (gin4.mpr z.2))).symm), (by repeat (first | (with_reducible assumption) | (with_reducible exact gSm_r _) | (with_reducible refine gSm_I (by omega) ?_) | (with_reducible refine gSm_L (by omega) ?_) | (with_reducible refine gSm_N (by omega) ?_) | (with_reducible refine gSm_G (by omega) ?_) | (with_reducible refine gSm_P ?_)))⟩⟩
        · exact absurd c_14 (by decide)
  · skip
    refine g_if_eq C 29 dX9_share_5 (by decide) (fun c_5 => ?_) (fun c_5 => ?_)
    · refine g_iconst (v := (-1)) C dX9_share_29 (by decide) ?_
      exact g_iret C E dX9_share_30 rfl rfl ⟨_, rfl, ⟨(by first | exact (gIf_f (fun z => h_2 z.1.1)).symm | exact (gIf_f (fun z => h_11 ((okC_n hu8).mp z.1.2))).symm | exact (gIf_f (fun z => h_23 (gin4.mpr z.2))).symm), (by repeat (first | (with_reducible assumption) | (with_reducible exact gSm_r _) | (with_reducible refine gSm_I (by omega) ?_) | (with_reducible refine gSm_L (by omega) ?_) | (with_reducible refine gSm_N (by omega) ?_) | (with_reducible refine gSm_G (by omega) ?_) | (with_reducible refine gSm_P ?_)))⟩⟩
    · exact absurd c_5 (by decide)
