theorem sV_X8_116 : gSV RX8 116 yX8_keepAct cX8_keepAct 3 none 0 := ⟨mW302, mW304, mP2, mW1, mW305, ⟨by decide +kernel, by decide +kernel⟩, by decide +kernel⟩
theorem sV_X8_147 : gSV RX8 147 yX7_lets cX7_lets 5 (some .boolean) 2 := ⟨mW360, mW361, mW362, mW9, mW363, ⟨by decide +kernel, by decide +kernel⟩, by decide +kernel⟩
theorem sV_X8_151 : gSV RX8 151 yX7_doDraw cX7_doDraw 2 none 1 := ⟨mW364, mW365, mW366, mW9, mW367, ⟨by decide +kernel, by decide +kernel⟩, by decide +kernel⟩
set_option maxRecDepth 100000 in
set_option maxHeartbeats 4000000 in
theorem c_X8_put (l : Launch) (δ : GD) (σ : GS) (a0 a1 a2 : Int32) {v : GV} (K : KC σ v) (R : RV v) : gM l δ yX8_put cX8_put 6 (some .int) 3 62 [.ref (δ.2.2.1 0), .int a0, .int a1, .int a2] σ (gPi (fun x σ' => x = (fPut v a0 a1 a2).1 ∧ KC σ' (fPut v a0 a1 a2).2 ∧ FC σ σ')) := by
  refine g_of (lv0 := [some (.ref (δ.2.2.1 0)), some (.int a0), some (.int a1), some (.int a2), none, none]) (by decide) rfl (Nat.le_of_ble_eq_true rfl) (fun Γ hl C E => ?_)
  subst hl
  have C : gC Γ δ cX8_put RX8 6 3 62 := C
  have hm := K.1
  have h8 := R.1
  obtain ⟨kn, hkn, hx, -⟩ := id K.2.2.2.2
  have hl := K.2.2.2.1.2
  have h20 := K.2.2.2.1.1
  refine g_aload_n C dX8_put_0 rfl ?_
  refine g_iload_n C dX8_put_1 rfl ?_
  refine g_callVr C sV_X8_101 dX8_put_2 (c_X8_urnAt _ δ _ _ hm h8) ⟨by decide, by decide⟩ (wO_X δ _) rfl rfl rfl rfl (Nat.le_of_ble_eq_true rfl) (fun r_2 s_2 h_2 => ?_)
  obtain ⟨rfl, h_2⟩ := h_2
  rcases h_2 with ⟨rfl, h_2⟩ | ⟨u_2, hu_2, e_2, rfl⟩
  · skip
    refine g_astoreN C dX8_put_5 (Nat.le_of_ble_eq_true rfl) rfl ?_
    refine g_lv [some _, some _, some _, some _, some _, none] (gs_some (gs_some (gs_some (gs_some (gs_some (gs_none gs_nil)))))) ?_
    refine g_aloadN C dX8_put_7 rfl ?_
    refine g_ifnull_n C 32 dX8_put_9 (by decide) ?_
    refine g_iconst (v := (-1)) C dX8_put_32 (by decide) ?_
    exact g_iret C E dX8_put_33 rfl rfl ⟨_, rfl, vPostC (by first | exact gIf_f (fun z => h_2 z.1.1) | exact gIf_f (fun z => h_15 ((okC_n hu8).mp z.1.2)) | exact gIf_f (fun z => Int32.not_le.mpr c_22 z.2.1) | exact gIf_f (fun z => c_29 z.2.2)) rfl K (FC_r _)⟩
  · have hu8 : u_2 < 8 := by omega
    obtain ⟨h2, h4⟩ := (R.2.1 u_2 hu8).1 hu_2
    have hn := K.2.1 u_2 hu8
    subst e_2
    refine g_astore C dX8_put_5 (Nat.le_of_ble_eq_true rfl) rfl ?_
    refine g_lv [some _, some _, some _, some _, some _, none] (gs_some (gs_some (gs_some (gs_some (gs_some (gs_none gs_nil)))))) ?_
    refine g_aload C dX8_put_7 rfl ?_
    refine g_ifnull_r C dX8_put_9 ?_
    refine g_aload C dX8_put_12 rfl ?_
    refine g_iload_n C dX8_put_14 rfl ?_
    refine g_callVi C sV_X8_105 dX8_put_15 (c_X7_has _ δ _ hu8 _ hn h4) ⟨by decide, by decide⟩ (wO_U δ _ hu8) rfl rfl rfl rfl (Nat.le_of_ble_eq_true rfl) (fun r_15 s_15 h_15 => ?_)
    obtain ⟨rfl, h_15⟩ := h_15
    rcases h_15 with ⟨rfl, h_15⟩ | ⟨rfl, h_15⟩
    · obtain ⟨c1, hc1, rfl⟩ := id h_15
      refine g_if_eq C 32 dX8_put_18 (by decide) (fun c_18 => ?_) (fun c_18 => ?_)
      · exact absurd c_18 (by decide)
      · refine g_iload_n C dX8_put_21 rfl ?_
        refine g_if_lt C 32 dX8_put_22 (by decide) (fun c_22 => ?_) (fun c_22 => ?_)
        · refine g_iconst (v := (-1)) C dX8_put_32 (by decide) ?_
          exact g_iret C E dX8_put_33 rfl rfl ⟨_, rfl, vPostC (by first | exact gIf_f (fun z => h_2 z.1.1) | exact gIf_f (fun z => h_15 ((okC_n hu8).mp z.1.2)) | exact gIf_f (fun z => Int32.not_le.mpr c_22 z.2.1) | exact gIf_f (fun z => c_29 z.2.2)) rfl K (FC_r _)⟩
        · refine g_iload_n C dX8_put_25 rfl ?_
          refine g_sipush (v := 200) C dX8_put_26 (by decide) ?_
          refine g_icmp_le C 34 dX8_put_29 (by decide) (fun c_29 => ?_) (fun c_29 => ?_)
          · refine g_aload_n C dX8_put_34 rfl ?_
            refine g_callVv C sV_X8_116 dX8_put_35 (c_X8_keepAct _ δ _ hl hx h20 hkn) ⟨by decide, by decide⟩ (wO_X δ _) rfl rfl rfl rfl (Nat.le_of_ble_eq_true rfl) (fun s_35 h_35 => ?_)
            obtain ⟨K2, F2⟩ := KC_kept K hkn hx h_35
            refine g_aload C dX8_put_38 rfl ?_
            refine g_get C dX8_put_40 iwX7 rfl (wO_U δ _ hu8) 0 (Nat.le_of_ble_eq_true rfl) mW194 rfl rfl ?_
            refine g_iload_n C dX8_put_43 rfl ?_
            refine g_ialdN C dX8_put_44 (k := c1) (q := u_2) (by omega) rfl (by first | rfl | assumption | (simp only [glit, nI_add, pk_mul]; done) | (simp only [glit, nI_add, pk_mul]; congr 1; omega) | (simp only [*, glit, nI_add, pk_mul]; congr 1; omega)) (by rw [gLenI_b hu8]; omega) ?_
            rw [KC_b K2 hu8 (by omega)]
            refine g_istore C dX8_put_45 (Nat.le_of_ble_eq_true rfl) rfl ?_
            refine g_lv [some _, some _, some _, some _, some _, some _] (gs_some (gs_some (gs_some (gs_some (gs_some (gs_some gs_nil)))))) ?_
            refine g_aload C dX8_put_47 rfl ?_
            refine g_get C dX8_put_49 iwX7 rfl (wO_U δ _ hu8) 0 (Nat.le_of_ble_eq_true rfl) mW194 rfl rfl ?_
            refine g_iload_n C dX8_put_52 rfl ?_
            refine g_iload_n C dX8_put_53 rfl ?_
            refine g_iastN C dX8_put_54 (k := c1) (q := u_2) (by omega) rfl (by first | rfl | assumption | (simp only [glit, nI_add, pk_mul]; done) | (simp only [glit, nI_add, pk_mul]; congr 1; omega) | (simp only [*, glit, nI_add, pk_mul]; congr 1; omega)) (by rw [gLenI_b hu8]; omega) ?_
            refine g_iload C dX8_put_55 rfl ?_
            exact g_iret C E dX8_put_57 rfl rfl ⟨_, rfl, vPostC (fPut_ok hu_2 hu8 hc1 (by omega) ⟨Int32.not_lt.mp c_22, c_29⟩) rfl (KC_wb K2 hu8 (by omega)) (FC_I (by omega) F2)⟩
          · refine g_iconst (v := (-1)) C dX8_put_32 (by decide) ?_
            exact g_iret C E dX8_put_33 rfl rfl ⟨_, rfl, vPostC (by first | exact gIf_f (fun z => h_2 z.1.1) | exact gIf_f (fun z => h_15 ((okC_n hu8).mp z.1.2)) | exact gIf_f (fun z => Int32.not_le.mpr c_22 z.2.1) | exact gIf_f (fun z => c_29 z.2.2)) rfl K (FC_r _)⟩
    · skip
      refine g_if_eq C 32 dX8_put_18 (by decide) (fun c_18 => ?_) (fun c_18 => ?_)
      · refine g_iconst (v := (-1)) C dX8_put_32 (by decide) ?_
        exact g_iret C E dX8_put_33 rfl rfl ⟨_, rfl, vPostC (by first | exact gIf_f (fun z => h_2 z.1.1) | exact gIf_f (fun z => h_15 ((okC_n hu8).mp z.1.2)) | exact gIf_f (fun z => Int32.not_le.mpr c_22 z.2.1) | exact gIf_f (fun z => c_29 z.2.2)) rfl K (FC_r _)⟩
      · exact absurd c_18 (by decide)
set_option maxRecDepth 100000 in
set_option maxHeartbeats 4000000 in
theorem c_X8_add (l : Launch) (δ : GD) (σ : GS) (a0 a1 a2 a3 : Int32) {v : GV} (K : KC σ v) (R : RV v) : gM l δ yX8_add cX8_add 7 (some .int) 3 62 [.ref (δ.2.2.1 0), .int a0, .int a1, .int a2, .int a3] σ (gPi (fun x σ' => x = (fAdd v a0 a1 a2 a3).1 ∧ KC σ' (fAdd v a0 a1 a2 a3).2 ∧ FC σ σ')) := by
  refine g_of (lv0 := [some (.ref (δ.2.2.1 0)), some (.int a0), some (.int a1), some (.int a2), some (.int a3), none, none]) (by decide) rfl (Nat.le_of_ble_eq_true rfl) (fun Γ hl C E => ?_)
  subst hl
  have C : gC Γ δ cX8_add RX8 7 3 62 := C
  have hm := K.1
  have h8 := R.1
  obtain ⟨kn, hkn, hx, -⟩ := id K.2.2.2.2
  have hl := K.2.2.2.1.2
  have h20 := K.2.2.2.1.1
  refine g_aload_n C dX8_add_0 rfl ?_
  refine g_iload_n C dX8_add_1 rfl ?_
  refine g_callVr C sV_X8_101 dX8_add_2 (c_X8_urnAt _ δ _ _ hm h8) ⟨by decide, by decide⟩ (wO_X δ _) rfl rfl rfl rfl (Nat.le_of_ble_eq_true rfl) (fun r_2 s_2 h_2 => ?_)
  obtain ⟨rfl, h_2⟩ := h_2
  rcases h_2 with ⟨rfl, h_2⟩ | ⟨u_2, hu_2, e_2, rfl⟩
  · skip
    refine g_astoreN C dX8_add_5 (Nat.le_of_ble_eq_true rfl) rfl ?_
    refine g_lv [some _, some _, some _, some _, some _, some _, none] (gs_some (gs_some (gs_some (gs_some (gs_some (gs_some (gs_none gs_nil))))))) ?_
    refine g_aloadN C dX8_add_7 rfl ?_
    refine g_ifnull_n C 44 dX8_add_9 (by decide) ?_
    refine g_bipush (v := (-100)) C dX8_add_44 (by decide) ?_
    exact g_iret C E dX8_add_46 rfl rfl ⟨_, rfl, vPostC (by first | exact gIf_f (fun z => h_2 z.1.1) | exact gIf_f (fun z => h_15 ((okC_n hu8).mp z.1.2.1)) | exact gIf_f (fun z => h_24 ((okC_n hu8).mp z.1.2.2)) | exact gIf_f (fun z => Int32.not_le.mpr c_34 z.2.1) | exact gIf_f (fun z => c_41 z.2.2)) rfl K (FC_r _)⟩
  · have hu8 : u_2 < 8 := by omega
    obtain ⟨h2, h4⟩ := (R.2.1 u_2 hu8).1 hu_2
    have hn := K.2.1 u_2 hu8
    subst e_2
    refine g_astore C dX8_add_5 (Nat.le_of_ble_eq_true rfl) rfl ?_
    refine g_lv [some _, some _, some _, some _, some _, some _, none] (gs_some (gs_some (gs_some (gs_some (gs_some (gs_some (gs_none gs_nil))))))) ?_
    refine g_aload C dX8_add_7 rfl ?_
    refine g_ifnull_r C dX8_add_9 ?_
    refine g_aload C dX8_add_12 rfl ?_
    refine g_iload_n C dX8_add_14 rfl ?_
    refine g_callVi C sV_X8_105 dX8_add_15 (c_X7_has _ δ _ hu8 _ hn h4) ⟨by decide, by decide⟩ (wO_U δ _ hu8) rfl rfl rfl rfl (Nat.le_of_ble_eq_true rfl) (fun r_15 s_15 h_15 => ?_)
    obtain ⟨rfl, h_15⟩ := h_15
    rcases h_15 with ⟨rfl, h_15⟩ | ⟨rfl, h_15⟩
    · obtain ⟨c1, hc1, rfl⟩ := id h_15
      refine g_if_eq C 44 dX8_add_18 (by decide) (fun c_18 => ?_) (fun c_18 => ?_)
      · exact absurd c_18 (by decide)
      · refine g_aload C dX8_add_21 rfl ?_
        refine g_iload_n C dX8_add_23 rfl ?_
        refine g_callVi C sV_X8_105 dX8_add_24 (c_X7_has _ δ _ hu8 _ hn h4) ⟨by decide, by decide⟩ (wO_U δ _ hu8) rfl rfl rfl rfl (Nat.le_of_ble_eq_true rfl) (fun r_24 s_24 h_24 => ?_)
        obtain ⟨rfl, h_24⟩ := h_24
        rcases h_24 with ⟨rfl, h_24⟩ | ⟨rfl, h_24⟩
        · obtain ⟨d1, hd1, rfl⟩ := id h_24
          refine g_if_eq C 44 dX8_add_27 (by decide) (fun c_27 => ?_) (fun c_27 => ?_)
          · exact absurd c_27 (by decide)
          · refine g_iload C dX8_add_30 rfl ?_
            refine g_bipush (v := (-9)) C dX8_add_32 (by decide) ?_
            refine g_icmp_lt C 44 dX8_add_34 (by decide) (fun c_34 => ?_) (fun c_34 => ?_)
            · refine g_bipush (v := (-100)) C dX8_add_44 (by decide) ?_
              exact g_iret C E dX8_add_46 rfl rfl ⟨_, rfl, vPostC (by first | exact gIf_f (fun z => h_2 z.1.1) | exact gIf_f (fun z => h_15 ((okC_n hu8).mp z.1.2.1)) | exact gIf_f (fun z => h_24 ((okC_n hu8).mp z.1.2.2)) | exact gIf_f (fun z => Int32.not_le.mpr c_34 z.2.1) | exact gIf_f (fun z => c_41 z.2.2)) rfl K (FC_r _)⟩
            · refine g_iload C dX8_add_37 rfl ?_
              refine g_bipush (v := 9) C dX8_add_39 (by decide) ?_
              refine g_icmp_le C 47 dX8_add_41 (by decide) (fun c_41 => ?_) (fun c_41 => ?_)
              · refine g_aload_n C dX8_add_47 rfl ?_
                refine g_callVv C sV_X8_116 dX8_add_48 (c_X8_keepAct _ δ _ hl hx h20 hkn) ⟨by decide, by decide⟩ (wO_X δ _) rfl rfl rfl rfl (Nat.le_of_ble_eq_true rfl) (fun s_48 h_48 => ?_)
                obtain ⟨K2, F2⟩ := KC_kept K hkn hx h_48
                refine g_aload C dX8_add_51 rfl ?_
                refine g_get C dX8_add_53 iwX7 rfl (wO_U δ _ hu8) 1 (Nat.le_of_ble_eq_true rfl) mW197 rfl rfl ?_
                refine g_iload_n C dX8_add_56 rfl ?_
                refine g_iconst (v := 4) C dX8_add_57 (by decide) ?_
                refine g_imul C dX8_add_58 ?_
                refine g_iload_n C dX8_add_59 rfl ?_
                refine g_iadd C dX8_add_60 ?_
                refine g_ialdN C dX8_add_61 (k := (c1 * 4 + d1)) (q := (8 + u_2)) (by omega) (congrArg _ (by omega)) (by first | rfl | assumption | (simp only [glit, nI_add, pk_mul]; done) | (simp only [glit, nI_add, pk_mul]; congr 1; omega) | (simp only [*, glit, nI_add, pk_mul]; congr 1; omega)) (by rw [gLenI_t hu8]; omega) ?_
                rw [KC_t K2 hu8 (by omega)]
                refine g_istore C dX8_add_62 (Nat.le_of_ble_eq_true rfl) rfl ?_
                refine g_lv [some _, some _, some _, some _, some _, some _, some _] (gs_some (gs_some (gs_some (gs_some (gs_some (gs_some (gs_some gs_nil))))))) ?_
                refine g_aload C dX8_add_64 rfl ?_
                refine g_get C dX8_add_66 iwX7 rfl (wO_U δ _ hu8) 1 (Nat.le_of_ble_eq_true rfl) mW197 rfl rfl ?_
                refine g_iload_n C dX8_add_69 rfl ?_
                refine g_iconst (v := 4) C dX8_add_70 (by decide) ?_
                refine g_imul C dX8_add_71 ?_
                refine g_iload_n C dX8_add_72 rfl ?_
                refine g_iadd C dX8_add_73 ?_
                refine g_iload C dX8_add_74 rfl ?_
                refine g_iastN C dX8_add_76 (k := (c1 * 4 + d1)) (q := (8 + u_2)) (by omega) (congrArg _ (by omega)) (by first | rfl | assumption | (simp only [glit, nI_add, pk_mul]; done) | (simp only [glit, nI_add, pk_mul]; congr 1; omega) | (simp only [*, glit, nI_add, pk_mul]; congr 1; omega)) (by rw [gLenI_t hu8]; omega) ?_
                refine g_iload C dX8_add_77 rfl ?_
                exact g_iret C E dX8_add_79 rfl rfl ⟨_, rfl, vPostC (fAdd_ok hu_2 hu8 hc1 (by omega) hd1 (by omega) ⟨Int32.not_lt.mp c_34, c_41⟩) rfl (KC_wt K2 hu8 (by omega)) (FC_I (by omega) F2)⟩
              · refine g_bipush (v := (-100)) C dX8_add_44 (by decide) ?_
                exact g_iret C E dX8_add_46 rfl rfl ⟨_, rfl, vPostC (by first | exact gIf_f (fun z => h_2 z.1.1) | exact gIf_f (fun z => h_15 ((okC_n hu8).mp z.1.2.1)) | exact gIf_f (fun z => h_24 ((okC_n hu8).mp z.1.2.2)) | exact gIf_f (fun z => Int32.not_le.mpr c_34 z.2.1) | exact gIf_f (fun z => c_41 z.2.2)) rfl K (FC_r _)⟩
        · skip
          refine g_if_eq C 44 dX8_add_27 (by decide) (fun c_27 => ?_) (fun c_27 => ?_)
          · refine g_bipush (v := (-100)) C dX8_add_44 (by decide) ?_
            exact g_iret C E dX8_add_46 rfl rfl ⟨_, rfl, vPostC (by first | exact gIf_f (fun z => h_2 z.1.1) | exact gIf_f (fun z => h_15 ((okC_n hu8).mp z.1.2.1)) | exact gIf_f (fun z => h_24 ((okC_n hu8).mp z.1.2.2)) | exact gIf_f (fun z => Int32.not_le.mpr c_34 z.2.1) | exact gIf_f (fun z => c_41 z.2.2)) rfl K (FC_r _)⟩
          · exact absurd c_27 (by decide)
    · skip
      refine g_if_eq C 44 dX8_add_18 (by decide) (fun c_18 => ?_) (fun c_18 => ?_)
      · refine g_bipush (v := (-100)) C dX8_add_44 (by decide) ?_
        exact g_iret C E dX8_add_46 rfl rfl ⟨_, rfl, vPostC (by first | exact gIf_f (fun z => h_2 z.1.1) | exact gIf_f (fun z => h_15 ((okC_n hu8).mp z.1.2.1)) | exact gIf_f (fun z => h_24 ((okC_n hu8).mp z.1.2.2)) | exact gIf_f (fun z => Int32.not_le.mpr c_34 z.2.1) | exact gIf_f (fun z => c_41 z.2.2)) rfl K (FC_r _)⟩
      · exact absurd c_18 (by decide)
set_option maxRecDepth 100000 in
set_option maxHeartbeats 4000000 in
theorem c_X8_is (l : Launch) (δ : GD) (σ : GS) (a0 a1 a2 : Int32) {v : GV} (K : KC σ v) (R : RV v) : gM l δ yX8_is cX8_is 6 (some .int) 3 62 [.ref (δ.2.2.1 0), .int a0, .int a1, .int a2] σ (gPi (fun x σ' => x = (fIs v a0 a1 a2).1 ∧ KC σ' (fIs v a0 a1 a2).2 ∧ FC σ σ')) := by
  refine g_of (lv0 := [some (.ref (δ.2.2.1 0)), some (.int a0), some (.int a1), some (.int a2), none, none]) (by decide) rfl (Nat.le_of_ble_eq_true rfl) (fun Γ hl C E => ?_)
  subst hl
  have C : gC Γ δ cX8_is RX8 6 3 62 := C
  have hm := K.1
  have h8 := R.1
  obtain ⟨kn, hkn, hx, -⟩ := id K.2.2.2.2
  have hl := K.2.2.2.1.2
  have h20 := K.2.2.2.1.1
  refine g_aload_n C dX8_is_0 rfl ?_
  refine g_iload_n C dX8_is_1 rfl ?_
  refine g_callVr C sV_X8_101 dX8_is_2 (c_X8_urnAt _ δ _ _ hm h8) ⟨by decide, by decide⟩ (wO_X δ _) rfl rfl rfl rfl (Nat.le_of_ble_eq_true rfl) (fun r_2 s_2 h_2 => ?_)
  obtain ⟨rfl, h_2⟩ := h_2
  rcases h_2 with ⟨rfl, h_2⟩ | ⟨u_2, hu_2, e_2, rfl⟩
  · skip
    refine g_astoreN C dX8_is_5 (Nat.le_of_ble_eq_true rfl) rfl ?_
    refine g_lv [some _, some _, some _, some _, some _, none] (gs_some (gs_some (gs_some (gs_some (gs_some (gs_none gs_nil)))))) ?_
    refine g_aloadN C dX8_is_7 rfl ?_
    refine g_ifnull_n C 31 dX8_is_9 (by decide) ?_
    refine g_iconst (v := (-1)) C dX8_is_31 (by decide) ?_
    exact g_iret C E dX8_is_32 rfl rfl ⟨_, rfl, vPostC (by first | exact gIf_f (fun z => h_2 z.1.1) | exact gIf_f (fun z => h_15 ((okC_n hu8).mp z.1.2)) | exact gIf_f (fun z => Int32.not_le.mpr c_23 z.2.1) | exact gIf_f (fun z => c_28 z.2.2)) rfl K (FC_r _)⟩
  · have hu8 : u_2 < 8 := by omega
    obtain ⟨h2, h4⟩ := (R.2.1 u_2 hu8).1 hu_2
    have hn := K.2.1 u_2 hu8
    subst e_2
    refine g_astore C dX8_is_5 (Nat.le_of_ble_eq_true rfl) rfl ?_
    refine g_lv [some _, some _, some _, some _, some _, none] (gs_some (gs_some (gs_some (gs_some (gs_some (gs_none gs_nil)))))) ?_
    refine g_aload C dX8_is_7 rfl ?_
    refine g_ifnull_r C dX8_is_9 ?_
    refine g_aload C dX8_is_12 rfl ?_
    refine g_iload_n C dX8_is_14 rfl ?_
    refine g_callVi C sV_X8_105 dX8_is_15 (c_X7_has _ δ _ hu8 _ hn h4) ⟨by decide, by decide⟩ (wO_U δ _ hu8) rfl rfl rfl rfl (Nat.le_of_ble_eq_true rfl) (fun r_15 s_15 h_15 => ?_)
    obtain ⟨rfl, h_15⟩ := h_15
    rcases h_15 with ⟨rfl, h_15⟩ | ⟨rfl, h_15⟩
    · obtain ⟨c1, hc1, rfl⟩ := id h_15
      refine g_if_eq C 31 dX8_is_18 (by decide) (fun c_18 => ?_) (fun c_18 => ?_)
      · exact absurd c_18 (by decide)
      · refine g_iload_n C dX8_is_21 rfl ?_
        refine g_iconst (v := (-1)) C dX8_is_22 (by decide) ?_
        refine g_icmp_lt C 31 dX8_is_23 (by decide) (fun c_23 => ?_) (fun c_23 => ?_)
        · refine g_iconst (v := (-1)) C dX8_is_31 (by decide) ?_
          exact g_iret C E dX8_is_32 rfl rfl ⟨_, rfl, vPostC (by first | exact gIf_f (fun z => h_2 z.1.1) | exact gIf_f (fun z => h_15 ((okC_n hu8).mp z.1.2)) | exact gIf_f (fun z => Int32.not_le.mpr c_23 z.2.1) | exact gIf_f (fun z => c_28 z.2.2)) rfl K (FC_r _)⟩
        · refine g_iload_n C dX8_is_26 rfl ?_
          refine g_iload_n C dX8_is_27 rfl ?_
          refine g_icmp_lt C 33 dX8_is_28 (by decide) (fun c_28 => ?_) (fun c_28 => ?_)
          · refine g_aload_n C dX8_is_33 rfl ?_
            refine g_callVv C sV_X8_116 dX8_is_34 (c_X8_keepAct _ δ _ hl hx h20 hkn) ⟨by decide, by decide⟩ (wO_X δ _) rfl rfl rfl rfl (Nat.le_of_ble_eq_true rfl) (fun s_34 h_34 => ?_)
            obtain ⟨K2, F2⟩ := KC_kept K hkn hx h_34
            refine g_aload C dX8_is_37 rfl ?_
            refine g_get C dX8_is_39 iwX7 rfl (wO_U δ _ hu8) 2 (Nat.le_of_ble_eq_true rfl) mW200 rfl rfl ?_
            refine g_iload_n C dX8_is_42 rfl ?_
            refine g_ialdN C dX8_is_43 (k := c1) (q := (16 + u_2)) (by omega) (congrArg _ (by omega)) (by first | rfl | assumption | (simp only [glit, nI_add, pk_mul]; done) | (simp only [glit, nI_add, pk_mul]; congr 1; omega) | (simp only [*, glit, nI_add, pk_mul]; congr 1; omega)) (by rw [gLenI_u hu8]; omega) ?_
            rw [KC_u K2 hu8 (by omega)]
            refine g_istore C dX8_is_44 (Nat.le_of_ble_eq_true rfl) rfl ?_
            refine g_lv [some _, some _, some _, some _, some _, some _] (gs_some (gs_some (gs_some (gs_some (gs_some (gs_some gs_nil)))))) ?_
            refine g_aload C dX8_is_46 rfl ?_
            refine g_get C dX8_is_48 iwX7 rfl (wO_U δ _ hu8) 2 (Nat.le_of_ble_eq_true rfl) mW200 rfl rfl ?_
            refine g_iload_n C dX8_is_51 rfl ?_
            refine g_iload_n C dX8_is_52 rfl ?_
            refine g_iastN C dX8_is_53 (k := c1) (q := (16 + u_2)) (by omega) (congrArg _ (by omega)) (by first | rfl | assumption | (simp only [glit, nI_add, pk_mul]; done) | (simp only [glit, nI_add, pk_mul]; congr 1; omega) | (simp only [*, glit, nI_add, pk_mul]; congr 1; omega)) (by rw [gLenI_u hu8]; omega) ?_
            refine g_iload C dX8_is_54 rfl ?_
            refine g_if_ge C 64 dX8_is_56 (by decide) (fun c_56 => ?_) (fun c_56 => ?_)
            · refine g_iload C dX8_is_64 rfl ?_
              exact g_iret C E dX8_is_66 rfl rfl ⟨_, rfl, vPostC (fIs_ok hu_2 hu8 hc1 (by omega) ⟨Int32.not_lt.mp c_23, c_28⟩) (by first | exact (if_neg (Int32.not_lt.mpr c_56)).symm | exact (if_pos (Int32.not_le.mp c_56)).symm) (KC_wu K2 hu8 (by omega)) (FC_I (by omega) F2)⟩
            · refine g_bipush (v := (-4)) C dX8_is_59 (by decide) ?_
              refine g_goto C 66 dX8_is_61 (by decide) ?_
              exact g_iret C E dX8_is_66 rfl rfl ⟨_, rfl, vPostC (fIs_ok hu_2 hu8 hc1 (by omega) ⟨Int32.not_lt.mp c_23, c_28⟩) (by first | exact (if_neg (Int32.not_lt.mpr c_56)).symm | exact (if_pos (Int32.not_le.mp c_56)).symm) (KC_wu K2 hu8 (by omega)) (FC_I (by omega) F2)⟩
          · refine g_iconst (v := (-1)) C dX8_is_31 (by decide) ?_
            exact g_iret C E dX8_is_32 rfl rfl ⟨_, rfl, vPostC (by first | exact gIf_f (fun z => h_2 z.1.1) | exact gIf_f (fun z => h_15 ((okC_n hu8).mp z.1.2)) | exact gIf_f (fun z => Int32.not_le.mpr c_23 z.2.1) | exact gIf_f (fun z => c_28 z.2.2)) rfl K (FC_r _)⟩
    · skip
      refine g_if_eq C 31 dX8_is_18 (by decide) (fun c_18 => ?_) (fun c_18 => ?_)
      · refine g_iconst (v := (-1)) C dX8_is_31 (by decide) ?_
        exact g_iret C E dX8_is_32 rfl rfl ⟨_, rfl, vPostC (by first | exact gIf_f (fun z => h_2 z.1.1) | exact gIf_f (fun z => h_15 ((okC_n hu8).mp z.1.2)) | exact gIf_f (fun z => Int32.not_le.mpr c_23 z.2.1) | exact gIf_f (fun z => c_28 z.2.2)) rfl K (FC_r _)⟩
      · exact absurd c_18 (by decide)
set_option maxRecDepth 100000 in
set_option maxHeartbeats 4000000 in
theorem c_X8_added (l : Launch) (δ : GD) (σ : GS) (a0 a1 a2 : Int32) {v : GV} (K : KC σ v) (R : RV v) : gM l δ yX8_added cX8_added 5 (some .int) 1 21 [.ref (δ.2.2.1 0), .int a0, .int a1, .int a2] σ (gPi (fun x σ' => x = (fAdded v a0 a1 a2).1 ∧ KC σ' (fAdded v a0 a1 a2).2 ∧ FC σ σ')) := by
  refine g_of (lv0 := [some (.ref (δ.2.2.1 0)), some (.int a0), some (.int a1), some (.int a2), none]) (by decide) rfl (Nat.le_of_ble_eq_true rfl) (fun Γ hl C E => ?_)
  subst hl
  have C : gC Γ δ cX8_added RX8 5 1 21 := C
  have hm := K.1
  have h8 := R.1
  obtain ⟨kn, hkn, hx, -⟩ := id K.2.2.2.2
  have hl := K.2.2.2.1.2
  have h20 := K.2.2.2.1.1
  refine g_aload_n C dX8_added_0 rfl ?_
  refine g_iload_n C dX8_added_1 rfl ?_
  refine g_callVr C sV_X8_101 dX8_added_2 (c_X8_urnAt _ δ _ _ hm h8) ⟨by decide, by decide⟩ (wO_X δ _) rfl rfl rfl rfl (Nat.le_of_ble_eq_true rfl) (fun r_2 s_2 h_2 => ?_)
  obtain ⟨rfl, h_2⟩ := h_2
  rcases h_2 with ⟨rfl, h_2⟩ | ⟨u_2, hu_2, e_2, rfl⟩
  · skip
    refine g_astoreN C dX8_added_5 (Nat.le_of_ble_eq_true rfl) rfl ?_
    refine g_lv [some _, some _, some _, some _, some _] (gs_some (gs_some (gs_some (gs_some (gs_some gs_nil))))) ?_
    refine g_aloadN C dX8_added_7 rfl ?_
    refine g_ifnull_n C 30 dX8_added_9 (by decide) ?_
    refine g_bipush (v := (-100)) C dX8_added_30 (by decide) ?_
    exact g_iret C E dX8_added_32 rfl rfl ⟨_, rfl, vPostC (by first | exact gIf_f (fun z => h_2 z.1) | exact gIf_f (fun z => h_15 ((okC_n hu8).mp z.2.1)) | exact gIf_f (fun z => h_24 ((okC_n hu8).mp z.2.2))) rfl K (FC_r _)⟩
  · have hu8 : u_2 < 8 := by omega
    obtain ⟨h2, h4⟩ := (R.2.1 u_2 hu8).1 hu_2
    have hn := K.2.1 u_2 hu8
    subst e_2
    refine g_astore C dX8_added_5 (Nat.le_of_ble_eq_true rfl) rfl ?_
    refine g_lv [some _, some _, some _, some _, some _] (gs_some (gs_some (gs_some (gs_some (gs_some gs_nil))))) ?_
    refine g_aload C dX8_added_7 rfl ?_
    refine g_ifnull_r C dX8_added_9 ?_
    refine g_aload C dX8_added_12 rfl ?_
    refine g_iload_n C dX8_added_14 rfl ?_
    refine g_callVi C sV_X8_105 dX8_added_15 (c_X7_has _ δ _ hu8 _ hn h4) ⟨by decide, by decide⟩ (wO_U δ _ hu8) rfl rfl rfl rfl (Nat.le_of_ble_eq_true rfl) (fun r_15 s_15 h_15 => ?_)
    obtain ⟨rfl, h_15⟩ := h_15
    rcases h_15 with ⟨rfl, h_15⟩ | ⟨rfl, h_15⟩
    · obtain ⟨c1, hc1, rfl⟩ := id h_15
      refine g_if_eq C 30 dX8_added_18 (by decide) (fun c_18 => ?_) (fun c_18 => ?_)
      · exact absurd c_18 (by decide)
      · refine g_aload C dX8_added_21 rfl ?_
        refine g_iload_n C dX8_added_23 rfl ?_
        refine g_callVi C sV_X8_105 dX8_added_24 (c_X7_has _ δ _ hu8 _ hn h4) ⟨by decide, by decide⟩ (wO_U δ _ hu8) rfl rfl rfl rfl (Nat.le_of_ble_eq_true rfl) (fun r_24 s_24 h_24 => ?_)
        obtain ⟨rfl, h_24⟩ := h_24
        rcases h_24 with ⟨rfl, h_24⟩ | ⟨rfl, h_24⟩
        · obtain ⟨d1, hd1, rfl⟩ := id h_24
          refine g_if_ne C 33 dX8_added_27 (by decide) (fun c_27 => ?_) (fun c_27 => ?_)
          · refine g_aload C dX8_added_33 rfl ?_
            refine g_get C dX8_added_35 iwX7 rfl (wO_U δ _ hu8) 1 (Nat.le_of_ble_eq_true rfl) mW197 rfl rfl ?_
            refine g_iload_n C dX8_added_38 rfl ?_
            refine g_iconst (v := 4) C dX8_added_39 (by decide) ?_
            refine g_imul C dX8_added_40 ?_
            refine g_iload_n C dX8_added_41 rfl ?_
            refine g_iadd C dX8_added_42 ?_
            refine g_ialdN C dX8_added_43 (k := (c1 * 4 + d1)) (q := (8 + u_2)) (by omega) (congrArg _ (by omega)) (by first | rfl | assumption | (simp only [glit, nI_add, pk_mul]; done) | (simp only [glit, nI_add, pk_mul]; congr 1; omega) | (simp only [*, glit, nI_add, pk_mul]; congr 1; omega)) (by rw [gLenI_t hu8]; omega) ?_
            rw [KC_t K hu8 (by omega)]
            exact g_iret C E dX8_added_44 rfl rfl ⟨_, rfl, vPostC (fAdded_ok hu_2 hu8 hc1 (by omega) hd1 (by omega)) rfl K (FC_r _)⟩
          · exact absurd c_27 (by decide)
        · skip
          refine g_if_ne C 33 dX8_added_27 (by decide) (fun c_27 => ?_) (fun c_27 => ?_)
          · exact absurd c_27 (by decide)
          · refine g_bipush (v := (-100)) C dX8_added_30 (by decide) ?_
            exact g_iret C E dX8_added_32 rfl rfl ⟨_, rfl, vPostC (by first | exact gIf_f (fun z => h_2 z.1) | exact gIf_f (fun z => h_15 ((okC_n hu8).mp z.2.1)) | exact gIf_f (fun z => h_24 ((okC_n hu8).mp z.2.2))) rfl K (FC_r _)⟩
    · skip
      refine g_if_eq C 30 dX8_added_18 (by decide) (fun c_18 => ?_) (fun c_18 => ?_)
      · refine g_bipush (v := (-100)) C dX8_added_30 (by decide) ?_
        exact g_iret C E dX8_added_32 rfl rfl ⟨_, rfl, vPostC (by first | exact gIf_f (fun z => h_2 z.1) | exact gIf_f (fun z => h_15 ((okC_n hu8).mp z.2.1)) | exact gIf_f (fun z => h_24 ((okC_n hu8).mp z.2.2))) rfl K (FC_r _)⟩
      · exact absurd c_18 (by decide)
set_option maxRecDepth 100000 in
set_option maxHeartbeats 4000000 in
theorem c_X8_draw (l : Launch) (δ : GD) (σ : GS) (a0 a1 : Int32) {v : GV} (K : KC σ v) (R : RV v) : gM l δ yX8_draw cX8_draw 4 (some .int) 3 62 [.ref (δ.2.2.1 0), .int a0, .int a1] σ (gPi (fun x σ' => x = (fDraw v a0 a1).1 ∧ KC σ' (fDraw v a0 a1).2 ∧ FC σ σ')) := by
  refine g_of (lv0 := [some (.ref (δ.2.2.1 0)), some (.int a0), some (.int a1), none]) (by decide) rfl (Nat.le_of_ble_eq_true rfl) (fun Γ hl C E => ?_)
  subst hl
  have C : gC Γ δ cX8_draw RX8 4 3 62 := C
  have hm := K.1
  have h8 := R.1
  obtain ⟨kn, hkn, hx, -⟩ := id K.2.2.2.2
  have hl := K.2.2.2.1.2
  have h20 := K.2.2.2.1.1
  refine g_aload_n C dX8_draw_0 rfl ?_
  refine g_iload_n C dX8_draw_1 rfl ?_
  refine g_callVr C sV_X8_101 dX8_draw_2 (c_X8_urnAt _ δ _ _ hm h8) ⟨by decide, by decide⟩ (wO_X δ _) rfl rfl rfl rfl (Nat.le_of_ble_eq_true rfl) (fun r_2 s_2 h_2 => ?_)
  obtain ⟨rfl, h_2⟩ := h_2
  rcases h_2 with ⟨rfl, h_2⟩ | ⟨u_2, hu_2, e_2, rfl⟩
  · skip
    refine g_astore_nN C dX8_draw_5 (Nat.le_of_ble_eq_true rfl) rfl ?_
    refine g_lv [some _, some _, some _, some _] (gs_some (gs_some (gs_some (gs_some gs_nil)))) ?_
    refine g_aload_nN C dX8_draw_6 rfl ?_
    refine g_ifnull_n C 18 dX8_draw_7 (by decide) ?_
    refine g_iconst (v := (-1)) C dX8_draw_18 (by decide) ?_
    exact g_iret C E dX8_draw_19 rfl rfl ⟨_, rfl, vPostC (by first | exact gIf_f (fun z => h_2 z.1) | exact gIf_f (fun z => h_12 ((okC_n hu8).mp z.2))) rfl K (FC_r _)⟩
  · have hu8 : u_2 < 8 := by omega
    obtain ⟨h2, h4⟩ := (R.2.1 u_2 hu8).1 hu_2
    have hn := K.2.1 u_2 hu8
    subst e_2
    refine g_astore_n C dX8_draw_5 (Nat.le_of_ble_eq_true rfl) rfl ?_
    refine g_lv [some _, some _, some _, some _] (gs_some (gs_some (gs_some (gs_some gs_nil)))) ?_
    refine g_aload_n C dX8_draw_6 rfl ?_
    refine g_ifnull_r C dX8_draw_7 ?_
    refine g_aload_n C dX8_draw_10 rfl ?_
    refine g_iload_n C dX8_draw_11 rfl ?_
    refine g_callVi C sV_X8_105 dX8_draw_12 (c_X7_has _ δ _ hu8 _ hn h4) ⟨by decide, by decide⟩ (wO_U δ _ hu8) rfl rfl rfl rfl (Nat.le_of_ble_eq_true rfl) (fun r_12 s_12 h_12 => ?_)
    obtain ⟨rfl, h_12⟩ := h_12
    rcases h_12 with ⟨rfl, h_12⟩ | ⟨rfl, h_12⟩
    · obtain ⟨c1, hc1, rfl⟩ := id h_12
      refine g_if_ne C 20 dX8_draw_15 (by decide) (fun c_15 => ?_) (fun c_15 => ?_)
      · refine g_aload_n C dX8_draw_20 rfl ?_
        refine g_aload_n C dX8_draw_21 rfl ?_
        refine g_get C dX8_draw_22 iwX7 rfl (wO_U δ _ hu8) 0 (Nat.le_of_ble_eq_true rfl) mW194 rfl rfl ?_
        refine g_iload_n C dX8_draw_25 rfl ?_
        refine g_callVi C sV_X8_147 dX8_draw_26 (c_X7_lets _ δ _ hu8 (q := u_2) (by omega) (gLenI_b hu8) (c := c1) (by omega) hn h4) ⟨by decide, by decide⟩ (wO_U δ _ hu8) rfl rfl rfl rfl (Nat.le_of_ble_eq_true rfl) (fun r_26 s_26 h_26 => ?_)
        obtain ⟨rfl, h_26⟩ := h_26
        rw [KC_let K R hu8 (by omega)] at h_26
        rcases h_26 with ⟨rfl, h_26⟩ | ⟨rfl, h_26⟩
        · skip
          refine g_if_ne C 35 dX8_draw_29 (by decide) (fun c_29 => ?_) (fun c_29 => ?_)
          · refine g_aload_n C dX8_draw_35 rfl ?_
            refine g_callVv C sV_X8_116 dX8_draw_36 (c_X8_keepAct _ δ _ hl hx h20 hkn) ⟨by decide, by decide⟩ (wO_X δ _) rfl rfl rfl rfl (Nat.le_of_ble_eq_true rfl) (fun s_36 h_36 => ?_)
            obtain ⟨K2, F2⟩ := KC_kept K hkn hx h_36
            refine g_aload_n C dX8_draw_39 rfl ?_
            refine g_iload_n C dX8_draw_40 rfl ?_
            refine g_callVv C sV_X8_151 dX8_draw_41 (c_X7_doDraw _ δ _ hu8 (c := c1) (by omega) (K2.2.1 u_2 hu8) h4) ⟨by decide, by decide⟩ (wO_U δ _ hu8) rfl rfl rfl rfl (Nat.le_of_ble_eq_true rfl) (fun s_41 h_41 => ?_)
            obtain rfl := h_41
            have K3 := KC_draw K2 (RV_keep R).2.2.1 hu8 (show c1 < 4 by omega)
            refine g_aload_n C dX8_draw_44 rfl ?_
            refine g_callVi C sV_X8_129 dX8_draw_45 (c_X7_total _ δ _ hu8) ⟨by decide, by decide⟩ (wO_U δ _ hu8) rfl rfl rfl rfl (Nat.le_of_ble_eq_true rfl) (fun r_45 s_45 h_45 => ?_)
            obtain ⟨rfl, rfl⟩ := h_45
            exact g_iret C E dX8_draw_48 rfl rfl ⟨_, rfl, vPostC ((fDraw_ok hu_2 hu8 hc1 (by omega)).trans (gIf_t h_26)) (KC_sum K3 hu8) K3 (FC_N (by omega) (FC_I (by omega) F2))⟩
          · exact absurd c_29 (by decide)
        · skip
          refine g_if_ne C 35 dX8_draw_29 (by decide) (fun c_29 => ?_) (fun c_29 => ?_)
          · exact absurd c_29 (by decide)
          · refine g_bipush (v := (-5)) C dX8_draw_32 (by decide) ?_
            exact g_iret C E dX8_draw_34 rfl rfl ⟨_, rfl, vPostC ((fDraw_ok hu_2 hu8 hc1 (by omega)).trans (gIf_f h_26)) rfl K (FC_r _)⟩
      · exact absurd c_15 (by decide)
    · skip
      refine g_if_ne C 20 dX8_draw_15 (by decide) (fun c_15 => ?_) (fun c_15 => ?_)
      · exact absurd c_15 (by decide)
      · refine g_iconst (v := (-1)) C dX8_draw_18 (by decide) ?_
        exact g_iret C E dX8_draw_19 rfl rfl ⟨_, rfl, vPostC (by first | exact gIf_f (fun z => h_2 z.1) | exact gIf_f (fun z => h_12 ((okC_n hu8).mp z.2))) rfl K (FC_r _)⟩
