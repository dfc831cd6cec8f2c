set_option maxRecDepth 100000 in
set_option maxHeartbeats 4000000 in
theorem c_X8_chanceb (l : Launch) (δ : GD) (σ : GS) (a0 a1 a2 : Int32) {v : GV} (K : KC σ v) (R : RV v) {F : GF} (hF : CF σ F) (hZ : ZA σ) : gM l δ yX8_chance cX8_chance 5 (some .int) 3 88 [.ref (δ.2.2.1 0), .int a0, .int a1, .int a2] σ (gPi (fun x σ' => x = aChance v a0 a1 a2 ∧ gSk σ σ' ∧ CF σ' (gFr (aChance v a0 a1 a2) (gChance v a0 a1 a2) F) ∧ ZA σ')) := by
  refine g_of (lv0 := [some (.ref (δ.2.2.1 0)), some (.int a0), some (.int a1), some (.int a2), none]) (by decide) rfl (Nat.le_of_ble_eq_true rfl) (fun Γ hl C E => ?_)
  subst hl
  have C : gC Γ δ cX8_chance RX8 5 3 88 := C
  have hm := K.1
  have h8 := R.1
  obtain ⟨kn, hkn, hx, -⟩ := id K.2.2.2.2
  have hl := K.2.2.2.1.2
  have h20 := K.2.2.2.1.1
  refine g_aload_n C dX8_chance_0 rfl ?_
  refine g_iload_n C dX8_chance_1 rfl ?_
  refine g_callVr C sV_X8_101 dX8_chance_2 (c_X8_urnAt _ δ _ _ hm h8) ⟨by decide, by decide⟩ (wO_X δ _) rfl rfl rfl rfl (Nat.le_of_ble_eq_true rfl) (fun r_2 s_2 h_2 => ?_)
  obtain ⟨rfl, h_2⟩ := h_2
  rcases h_2 with ⟨rfl, h_2⟩ | ⟨u_2, hu_2, e_2, rfl⟩
  · skip
    refine g_astoreN C dX8_chance_5 (Nat.le_of_ble_eq_true rfl) rfl ?_
    refine g_lv [some _, some _, some _, some _, some _] (gs_some (gs_some (gs_some (gs_some (gs_some gs_nil))))) ?_
    refine g_aloadN C dX8_chance_7 rfl ?_
    refine g_ifnull_n C 36 dX8_chance_9 (by decide) ?_
    refine g_iconst (v := (-1)) C dX8_chance_36 (by decide) ?_
    exact g_iret C E dX8_chance_37 rfl rfl ⟨_, rfl, TF_n (by first | exact (gIf_f (fun z => h_2 z.1.1)).symm | exact (gIf_f (fun z => gIx_neg (n := 13) (by decide) c_13 z.1.2.1)).symm | exact (gIf_f (fun z => gIx_no12 c_19 z.1.2.1)).symm | exact (gIf_f (fun z => Int32.not_le.mpr c_23 z.1.2.2)).symm | exact (gIf_f (fun z => h_30 (fun i hi => by have q := z.2 i (by rw [nU_n (by omega)]; exact hi); rw [nU_n hw1, nU_n (by omega)] at q; exact q))).symm) (by decide) (gSk_r _) (fun _ _ => rfl) hF hZ⟩
  · have hu8 : u_2 < 8 := by omega
    obtain ⟨h2, h4⟩ := (R.2.1 u_2 hu8).1 hu_2
    have hn := K.2.1 u_2 hu8
    subst e_2
    refine g_astore C dX8_chance_5 (Nat.le_of_ble_eq_true rfl) rfl ?_
    refine g_lv [some _, some _, some _, some _, some _] (gs_some (gs_some (gs_some (gs_some (gs_some gs_nil))))) ?_
    refine g_aload C dX8_chance_7 rfl ?_
    refine g_ifnull_r C dX8_chance_9 ?_
    refine g_iload_n C dX8_chance_12 rfl ?_
    refine g_if_lt C 36 dX8_chance_13 (by decide) (fun c_13 => ?_) (fun c_13 => ?_)
    · refine g_iconst (v := (-1)) C dX8_chance_36 (by decide) ?_
      exact g_iret C E dX8_chance_37 rfl rfl ⟨_, rfl, TF_n (by first | exact (gIf_f (fun z => h_2 z.1.1)).symm | exact (gIf_f (fun z => gIx_neg (n := 13) (by decide) c_13 z.1.2.1)).symm | exact (gIf_f (fun z => gIx_no12 c_19 z.1.2.1)).symm | exact (gIf_f (fun z => Int32.not_le.mpr c_23 z.1.2.2)).symm | exact (gIf_f (fun z => h_30 (fun i hi => by have q := z.2 i (by rw [nU_n (by omega)]; exact hi); rw [nU_n hw1, nU_n (by omega)] at q; exact q))).symm) (by decide) (gSk_r _) (fun _ _ => rfl) hF hZ⟩
    · refine g_iload_n C dX8_chance_16 rfl ?_
      refine g_bipush (v := 12) C dX8_chance_17 (by decide) ?_
      refine g_icmp_gt C 36 dX8_chance_19 (by decide) (fun c_19 => ?_) (fun c_19 => ?_)
      · refine g_iconst (v := (-1)) C dX8_chance_36 (by decide) ?_
        exact g_iret C E dX8_chance_37 rfl rfl ⟨_, rfl, TF_n (by first | exact (gIf_f (fun z => h_2 z.1.1)).symm | exact (gIf_f (fun z => gIx_neg (n := 13) (by decide) c_13 z.1.2.1)).symm | exact (gIf_f (fun z => gIx_no12 c_19 z.1.2.1)).symm | exact (gIf_f (fun z => Int32.not_le.mpr c_23 z.1.2.2)).symm | exact (gIf_f (fun z => h_30 (fun i hi => by have q := z.2 i (by rw [nU_n (by omega)]; exact hi); rw [nU_n hw1, nU_n (by omega)] at q; exact q))).symm) (by decide) (gSk_r _) (fun _ _ => rfl) hF hZ⟩
      · obtain ⟨k1, hk1, rfl⟩ := gIx_12 c_13 (Int32.not_lt.mp c_19)
        refine g_iload_n C dX8_chance_22 rfl ?_
        refine g_if_lt C 36 dX8_chance_23 (by decide) (fun c_23 => ?_) (fun c_23 => ?_)
        · refine g_iconst (v := (-1)) C dX8_chance_36 (by decide) ?_
          exact g_iret C E dX8_chance_37 rfl rfl ⟨_, rfl, TF_n (by first | exact (gIf_f (fun z => h_2 z.1.1)).symm | exact (gIf_f (fun z => gIx_neg (n := 13) (by decide) c_13 z.1.2.1)).symm | exact (gIf_f (fun z => gIx_no12 c_19 z.1.2.1)).symm | exact (gIf_f (fun z => Int32.not_le.mpr c_23 z.1.2.2)).symm | exact (gIf_f (fun z => h_30 (fun i hi => by have q := z.2 i (by rw [nU_n (by omega)]; exact hi); rw [nU_n hw1, nU_n (by omega)] at q; exact q))).symm) (by decide) (gSk_r _) (fun _ _ => rfl) hF hZ⟩
        · obtain ⟨w1, hw1, rfl⟩ := nI_of c_23
          refine g_aload C dX8_chance_26 rfl ?_
          refine g_iload_n C dX8_chance_28 rfl ?_
          refine g_iload_n C dX8_chance_29 rfl ?_
          refine g_callVi C sV_X8_175 dX8_chance_30 (c_X7_hasAll _ δ _ hu8 (k := k1) (w := w1) (by omega) hw1 hn h4) ⟨by decide, by decide⟩ (wO_U δ _ hu8) rfl rfl rfl rfl (Nat.le_of_ble_eq_true rfl) (fun r_30 s_30 h_30 => ?_)
          obtain ⟨rfl, h_30⟩ := h_30
          rcases h_30 with ⟨rfl, h_30⟩ | ⟨rfl, h_30⟩
          · skip
            refine g_if_ne C 38 dX8_chance_33 (by decide) (fun c_33 => ?_) (fun c_33 => ?_)
            · refine g_iload_n C dX8_chance_38 rfl ?_
              refine g_if_le C 53 dX8_chance_39 (by decide) (fun c_39 => ?_) (fun c_39 => ?_)
              · refine g_aload_n C dX8_chance_53 rfl ?_
                refine g_get C dX8_chance_54 iwX8 rfl (wO_X δ _) 4 (Nat.le_of_ble_eq_true rfl) mW221 rfl rfl ?_
                refine g_aload C dX8_chance_57 rfl ?_
                refine g_iload_n C dX8_chance_59 rfl ?_
                refine g_iload_n C dX8_chance_60 rfl ?_
                refine g_callVi C sV_X8_178 dX8_chance_61 (c_X5_followb _ δ _ hu8 (k := k1) (w := w1) (by omega) hw1 K R) ⟨by decide, by decide⟩ (wO_R δ _) rfl rfl rfl rfl (Nat.le_of_ble_eq_true rfl) (fun r_61 s_61 h_61 => ?_)
                obtain ⟨z_61, -, h_61⟩ := h_61
                have hZ2 : ZA s_61 := ZA_e2 z_61.2.1 z_61.2.2.2.2 hZ
                rcases h_61 with ⟨rfl, h_61⟩ | ⟨rfl, h_61⟩ | ⟨rfl, h_61⟩
                · have nb := qOn_n h_61.1
                  have e4 : gG s_61 4 = lN (vR v u_2 k1 w1).1 := by rw [vR_y h_61.1]; exact h_61.2.1
                  have e5 : gG s_61 5 = lN (vR v u_2 k1 w1).2 := by rw [vR_y h_61.1]; exact h_61.2.2
                  refine g_if_ne C 70 dX8_chance_64 (by decide) (fun c_64 => ?_) (fun c_64 => ?_)
                  · refine g_aload_n C dX8_chance_70 rfl ?_
                    refine g_get C dX8_chance_71 iwX8 rfl (wO_X δ _) 7 (Nat.le_of_ble_eq_true rfl) mW224 rfl rfl ?_
                    refine g_lconst (v := 0) C dX8_chance_74 (by decide) ?_
                    refine g_aload_n C dX8_chance_75 rfl ?_
                    refine g_get C dX8_chance_76 iwX8 rfl (wO_X δ _) 4 (Nat.le_of_ble_eq_true rfl) mW221 rfl rfl ?_
                    refine g_get C dX8_chance_79 iwX5 rfl (wO_R δ _) 1 (Nat.le_of_ble_eq_true rfl) mW77 rfl rfl ?_
                    rw [e4]
                    refine g_aload_n C dX8_chance_82 rfl ?_
                    refine g_get C dX8_chance_83 iwX8 rfl (wO_X δ _) 4 (Nat.le_of_ble_eq_true rfl) mW221 rfl rfl ?_
                    refine g_get C dX8_chance_86 iwX5 rfl (wO_R δ _) 2 (Nat.le_of_ble_eq_true rfl) mW80 rfl rfl ?_
                    rw [e5]
                    refine g_callVv C sV_X8_189 dX8_chance_89 (c_X1_becomeb _ δ _ (w := 0) (a := (vR v u_2 k1 w1).1) (b := (vR v u_2 k1 w1).2) (vR_b R hu8).1 (vR_b R hu8).2.1 (vR_b R hu8).2.2) ⟨by decide, by decide⟩ (wO_F δ _) rfl rfl rfl rfl (Nat.le_of_ble_eq_true rfl) (fun s_89 h_89 => ?_)
                    obtain ⟨zb, cb, lb, pb⟩ := h_89
                    refine g_iconst (v := 0) C dX8_chance_92 (by decide) ?_
                    exact g_iret C E dX8_chance_93 rfl rfl ⟨_, rfl, TF_y ((aChance_at hu_2 hu8 hk1 hw1 h_30).trans ((gIf_f (by first | exact fun z => c_47 z.2 | exact fun z => Int32.not_lt.mpr c_39 z.1)).trans (gIf_f nb))).symm rfl (gSk_t z_61.k zb) (by rw [gChance_at hu8 (by omega) hw1]; exact cb) (ZA_e2 lb pb hZ2)⟩
                  · exact absurd c_64 (by decide)
                · have nb := qStk_n h_61.1
                  have e4 : gG s_61 4 = lN (vR v u_2 k1 w1).1 := by rw [vR_n h_61.1]; exact h_61.2.1
                  have e5 : gG s_61 5 = lN (vR v u_2 k1 w1).2 := by rw [vR_n h_61.1]; exact h_61.2.2
                  refine g_if_ne C 70 dX8_chance_64 (by decide) (fun c_64 => ?_) (fun c_64 => ?_)
                  · refine g_aload_n C dX8_chance_70 rfl ?_
                    refine g_get C dX8_chance_71 iwX8 rfl (wO_X δ _) 7 (Nat.le_of_ble_eq_true rfl) mW224 rfl rfl ?_
                    refine g_lconst (v := 0) C dX8_chance_74 (by decide) ?_
                    refine g_aload_n C dX8_chance_75 rfl ?_
                    refine g_get C dX8_chance_76 iwX8 rfl (wO_X δ _) 4 (Nat.le_of_ble_eq_true rfl) mW221 rfl rfl ?_
                    refine g_get C dX8_chance_79 iwX5 rfl (wO_R δ _) 1 (Nat.le_of_ble_eq_true rfl) mW77 rfl rfl ?_
                    rw [e4]
                    refine g_aload_n C dX8_chance_82 rfl ?_
                    refine g_get C dX8_chance_83 iwX8 rfl (wO_X δ _) 4 (Nat.le_of_ble_eq_true rfl) mW221 rfl rfl ?_
                    refine g_get C dX8_chance_86 iwX5 rfl (wO_R δ _) 2 (Nat.le_of_ble_eq_true rfl) mW80 rfl rfl ?_
                    rw [e5]
                    refine g_callVv C sV_X8_189 dX8_chance_89 (c_X1_becomeb _ δ _ (w := 0) (a := (vR v u_2 k1 w1).1) (b := (vR v u_2 k1 w1).2) (vR_b R hu8).1 (vR_b R hu8).2.1 (vR_b R hu8).2.2) ⟨by decide, by decide⟩ (wO_F δ _) rfl rfl rfl rfl (Nat.le_of_ble_eq_true rfl) (fun s_89 h_89 => ?_)
                    obtain ⟨zb, cb, lb, pb⟩ := h_89
                    refine g_iconst (v := 0) C dX8_chance_92 (by decide) ?_
                    exact g_iret C E dX8_chance_93 rfl rfl ⟨_, rfl, TF_y ((aChance_at hu_2 hu8 hk1 hw1 h_30).trans ((gIf_f (by first | exact fun z => c_47 z.2 | exact fun z => Int32.not_lt.mpr c_39 z.1)).trans (gIf_f nb))).symm rfl (gSk_t z_61.k zb) (by rw [gChance_at hu8 (by omega) hw1]; exact cb) (ZA_e2 lb pb hZ2)⟩
                  · exact absurd c_64 (by decide)
                · skip
                  refine g_if_ne C 70 dX8_chance_64 (by decide) (fun c_64 => ?_) (fun c_64 => ?_)
                  · exact absurd c_64 (by decide)
                  · refine g_bipush (v := (-6)) C dX8_chance_67 (by decide) ?_
                    exact g_iret C E dX8_chance_69 rfl rfl ⟨_, rfl, TF_n ((aChance_at hu_2 hu8 hk1 hw1 h_30).trans ((gIf_f (by first | exact fun z => c_47 z.2 | exact fun z => Int32.not_lt.mpr c_39 z.1)).trans (gIf_t h_61))).symm (by decide) z_61.k (fun q hq => z_61.2.2.2.1 q (by omega)) hF hZ2⟩
              · refine g_aload C dX8_chance_42 rfl ?_
                refine g_callVi C sV_X8_129 dX8_chance_44 (c_X7_total _ δ _ hu8) ⟨by decide, by decide⟩ (wO_U δ _ hu8) rfl rfl rfl rfl (Nat.le_of_ble_eq_true rfl) (fun r_44 s_44 h_44 => ?_)
                obtain ⟨rfl, rfl⟩ := h_44
                rw [KC_sum K hu8]
                refine g_if_ne C 53 dX8_chance_47 (by decide) (fun c_47 => ?_) (fun c_47 => ?_)
                · refine g_aload_n C dX8_chance_53 rfl ?_
                  refine g_get C dX8_chance_54 iwX8 rfl (wO_X δ _) 4 (Nat.le_of_ble_eq_true rfl) mW221 rfl rfl ?_
                  refine g_aload C dX8_chance_57 rfl ?_
                  refine g_iload_n C dX8_chance_59 rfl ?_
                  refine g_iload_n C dX8_chance_60 rfl ?_
                  refine g_callVi C sV_X8_178 dX8_chance_61 (c_X5_followb _ δ _ hu8 (k := k1) (w := w1) (by omega) hw1 K R) ⟨by decide, by decide⟩ (wO_R δ _) rfl rfl rfl rfl (Nat.le_of_ble_eq_true rfl) (fun r_61 s_61 h_61 => ?_)
                  obtain ⟨z_61, -, h_61⟩ := h_61
                  have hZ2 : ZA s_61 := ZA_e2 z_61.2.1 z_61.2.2.2.2 hZ
                  rcases h_61 with ⟨rfl, h_61⟩ | ⟨rfl, h_61⟩ | ⟨rfl, h_61⟩
                  · have nb := qOn_n h_61.1
                    have e4 : gG s_61 4 = lN (vR v u_2 k1 w1).1 := by rw [vR_y h_61.1]; exact h_61.2.1
                    have e5 : gG s_61 5 = lN (vR v u_2 k1 w1).2 := by rw [vR_y h_61.1]; exact h_61.2.2
                    refine g_if_ne C 70 dX8_chance_64 (by decide) (fun c_64 => ?_) (fun c_64 => ?_)
                    · refine g_aload_n C dX8_chance_70 rfl ?_
                      refine g_get C dX8_chance_71 iwX8 rfl (wO_X δ _) 7 (Nat.le_of_ble_eq_true rfl) mW224 rfl rfl ?_
                      refine g_lconst (v := 0) C dX8_chance_74 (by decide) ?_
                      refine g_aload_n C dX8_chance_75 rfl ?_
                      refine g_get C dX8_chance_76 iwX8 rfl (wO_X δ _) 4 (Nat.le_of_ble_eq_true rfl) mW221 rfl rfl ?_
                      refine g_get C dX8_chance_79 iwX5 rfl (wO_R δ _) 1 (Nat.le_of_ble_eq_true rfl) mW77 rfl rfl ?_
                      rw [e4]
                      refine g_aload_n C dX8_chance_82 rfl ?_
                      refine g_get C dX8_chance_83 iwX8 rfl (wO_X δ _) 4 (Nat.le_of_ble_eq_true rfl) mW221 rfl rfl ?_
                      refine g_get C dX8_chance_86 iwX5 rfl (wO_R δ _) 2 (Nat.le_of_ble_eq_true rfl) mW80 rfl rfl ?_
                      rw [e5]
                      refine g_callVv C sV_X8_189 dX8_chance_89 (c_X1_becomeb _ δ _ (w := 0) (a := (vR v u_2 k1 w1).1) (b := (vR v u_2 k1 w1).2) (vR_b R hu8).1 (vR_b R hu8).2.1 (vR_b R hu8).2.2) ⟨by decide, by decide⟩ (wO_F δ _) rfl rfl rfl rfl (Nat.le_of_ble_eq_true rfl) (fun s_89 h_89 => ?_)
                      obtain ⟨zb, cb, lb, pb⟩ := h_89
                      refine g_iconst (v := 0) C dX8_chance_92 (by decide) ?_
                      exact g_iret C E dX8_chance_93 rfl rfl ⟨_, rfl, TF_y ((aChance_at hu_2 hu8 hk1 hw1 h_30).trans ((gIf_f (by first | exact fun z => c_47 z.2 | exact fun z => Int32.not_lt.mpr c_39 z.1)).trans (gIf_f nb))).symm rfl (gSk_t z_61.k zb) (by rw [gChance_at hu8 (by omega) hw1]; exact cb) (ZA_e2 lb pb hZ2)⟩
                    · exact absurd c_64 (by decide)
                  · have nb := qStk_n h_61.1
                    have e4 : gG s_61 4 = lN (vR v u_2 k1 w1).1 := by rw [vR_n h_61.1]; exact h_61.2.1
                    have e5 : gG s_61 5 = lN (vR v u_2 k1 w1).2 := by rw [vR_n h_61.1]; exact h_61.2.2
                    refine g_if_ne C 70 dX8_chance_64 (by decide) (fun c_64 => ?_) (fun c_64 => ?_)
                    · refine g_aload_n C dX8_chance_70 rfl ?_
                      refine g_get C dX8_chance_71 iwX8 rfl (wO_X δ _) 7 (Nat.le_of_ble_eq_true rfl) mW224 rfl rfl ?_
                      refine g_lconst (v := 0) C dX8_chance_74 (by decide) ?_
                      refine g_aload_n C dX8_chance_75 rfl ?_
                      refine g_get C dX8_chance_76 iwX8 rfl (wO_X δ _) 4 (Nat.le_of_ble_eq_true rfl) mW221 rfl rfl ?_
                      refine g_get C dX8_chance_79 iwX5 rfl (wO_R δ _) 1 (Nat.le_of_ble_eq_true rfl) mW77 rfl rfl ?_
                      rw [e4]
                      refine g_aload_n C dX8_chance_82 rfl ?_
                      refine g_get C dX8_chance_83 iwX8 rfl (wO_X δ _) 4 (Nat.le_of_ble_eq_true rfl) mW221 rfl rfl ?_
                      refine g_get C dX8_chance_86 iwX5 rfl (wO_R δ _) 2 (Nat.le_of_ble_eq_true rfl) mW80 rfl rfl ?_
                      rw [e5]
                      refine g_callVv C sV_X8_189 dX8_chance_89 (c_X1_becomeb _ δ _ (w := 0) (a := (vR v u_2 k1 w1).1) (b := (vR v u_2 k1 w1).2) (vR_b R hu8).1 (vR_b R hu8).2.1 (vR_b R hu8).2.2) ⟨by decide, by decide⟩ (wO_F δ _) rfl rfl rfl rfl (Nat.le_of_ble_eq_true rfl) (fun s_89 h_89 => ?_)
                      obtain ⟨zb, cb, lb, pb⟩ := h_89
                      refine g_iconst (v := 0) C dX8_chance_92 (by decide) ?_
                      exact g_iret C E dX8_chance_93 rfl rfl ⟨_, rfl, TF_y ((aChance_at hu_2 hu8 hk1 hw1 h_30).trans ((gIf_f (by first | exact fun z => c_47 z.2 | exact fun z => Int32.not_lt.mpr c_39 z.1)).trans (gIf_f nb))).symm rfl (gSk_t z_61.k zb) (by rw [gChance_at hu8 (by omega) hw1]; exact cb) (ZA_e2 lb pb hZ2)⟩
                    · exact absurd c_64 (by decide)
                  · skip
                    refine g_if_ne C 70 dX8_chance_64 (by decide) (fun c_64 => ?_) (fun c_64 => ?_)
                    · exact absurd c_64 (by decide)
                    · refine g_bipush (v := (-6)) C dX8_chance_67 (by decide) ?_
                      exact g_iret C E dX8_chance_69 rfl rfl ⟨_, rfl, TF_n ((aChance_at hu_2 hu8 hk1 hw1 h_30).trans ((gIf_f (by first | exact fun z => c_47 z.2 | exact fun z => Int32.not_lt.mpr c_39 z.1)).trans (gIf_t h_61))).symm (by decide) z_61.k (fun q hq => z_61.2.2.2.1 q (by omega)) hF hZ2⟩
                · refine g_bipush (v := (-2)) C dX8_chance_50 (by decide) ?_
                  exact g_iret C E dX8_chance_52 rfl rfl ⟨_, rfl, TF_n ((aChance_at hu_2 hu8 hk1 hw1 h_30).trans (gIf_t ⟨Int32.not_le.mp c_39, c_47⟩)).symm (by decide) (gSk_r _) (fun _ _ => rfl) hF hZ⟩
            · exact absurd c_33 (by decide)
          · skip
            refine g_if_ne C 38 dX8_chance_33 (by decide) (fun c_33 => ?_) (fun c_33 => ?_)
            · exact absurd c_33 (by decide)
            · refine g_iconst (v := (-1)) C dX8_chance_36 (by decide) ?_
              exact g_iret C E dX8_chance_37 rfl rfl ⟨_, rfl, TF_n (by first | exact (gIf_f (fun z => h_2 z.1.1)).symm | exact (gIf_f (fun z => gIx_neg (n := 13) (by decide) c_13 z.1.2.1)).symm | exact (gIf_f (fun z => gIx_no12 c_19 z.1.2.1)).symm | exact (gIf_f (fun z => Int32.not_le.mpr c_23 z.1.2.2)).symm | exact (gIf_f (fun z => h_30 (fun i hi => by have q := z.2 i (by rw [nU_n (by omega)]; exact hi); rw [nU_n hw1, nU_n (by omega)] at q; exact q))).symm) (by decide) (gSk_r _) (fun _ _ => rfl) hF hZ⟩
