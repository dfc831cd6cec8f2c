theorem sV_X8_116 : gSV RX8 116 yX8_keepAct cX8_keepAct 3 none 0 := ⟨mW302, mW304, mP2, mW1, mW305, ⟨by decide +kernel, by decide +kernel⟩, by decide +kernel⟩
theorem sV_X8_147 : gSV RX8 147 yX7_lets cX7_lets 5 (some .boolean) 2 := ⟨mW360, mW361, mW362, mW9, mW363, ⟨by decide +kernel, by decide +kernel⟩, by decide +kernel⟩
theorem sV_X8_151 : gSV RX8 151 yX7_doDraw cX7_doDraw 2 none 1 := ⟨mW364, mW365, mW366, mW9, mW367, ⟨by decide +kernel, by decide +kernel⟩, by decide +kernel⟩
theorem sV_X8_167 : gSV RX8 167 yX2_takeLatest cX2_takeLatest 1 (some (.array .int)) 0 := ⟨mW405, mW406, mW407, mW2, mW408, ⟨by decide +kernel, by decide +kernel⟩, by decide +kernel⟩
theorem sV_X8_171 : gSV RX8 171 yX7_comeFrom cX7_comeFrom 3 none 2 := ⟨mW409, mW410, mW411, mW9, mW412, ⟨by decide +kernel, by decide +kernel⟩, by decide +kernel⟩
set_option maxRecDepth 100000 in
set_option maxHeartbeats 4000000 in
theorem c_X8_put (l : Launch) (δ : GD) (σ : GS) (a0 a1 a2 : Int32) {v : GV} (K : KC σ v) (R : RV v) : gM l δ yX8_put cX8_put 6 (some .int) 3 62 [.ref (δ.2.2.1 0), .int a0, .int a1, .int a2] σ (gPi (fun x σ' => x = (fPut v a0 a1 a2).1 ∧ KC σ' (fPut v a0 a1 a2).2 ∧ FC σ σ')) := by
  refine g_of (lv0 := [some (.ref (δ.2.2.1 0)), some (.int a0), some (.int a1), some (.int a2), none, none]) (by decide) rfl (Nat.le_of_ble_eq_true rfl) (fun Γ hl C E => ?_)
  subst hl
  have C : gC Γ δ cX8_put RX8 6 3 62 := C
  have hm := K.1
  have h8 := R.1
  obtain ⟨kn, hkn, hx, -⟩ := id K.2.2.2.2
  have hl := K.2.2.2.1.2
  have h20 := K.2.2.2.1.1
  refine g_aload_n C dX8_put_0 rfl ?_
  refine g_iload_n C dX8_put_1 rfl ?_
  refine g_callVr C sV_X8_101 dX8_put_2 (c_X8_urnAt _ δ _ _ hm h8) ⟨by decide, by decide⟩ (wO_X δ _) rfl rfl rfl rfl (Nat.le_of_ble_eq_true rfl) (fun r_2 s_2 h_2 => ?_)
  obtain ⟨rfl, h_2⟩ := h_2
  rcases h_2 with ⟨rfl, h_2⟩ | ⟨u_2, hu_2, e_2, rfl⟩
  · skip
    refine g_astoreN C dX8_put_5 (Nat.le_of_ble_eq_true rfl) rfl ?_
    refine g_lv [some _, some _, some _, some _, some _, none] (gs_some (gs_some (gs_some (gs_some (gs_some (gs_none gs_nil)))))) ?_
    refine g_aloadN C dX8_put_7 rfl ?_
    refine g_ifnull_n C 32 dX8_put_9 (by decide) ?_
    refine g_iconst (v := (-1)) C dX8_put_32 (by decide) ?_
    exact g_iret C E dX8_put_33 rfl rfl ⟨_, rfl, vPostC (by first | exact gIf_f (fun z => h_2 z.1.1) | exact gIf_f (fun z => h_15 ((okC_n hu8).mp z.1.2)) | exact gIf_f (fun z => Int32.not_le.mpr c_22 z.2.1) | exact gIf_f (fun z => c_29 z.2.2)) rfl K (FC_r _)⟩
  · have hu8 : u_2 < 8 := by omega
    obtain ⟨h2, h4⟩ := (R.2.1 u_2 hu8).1 hu_2
    have hn := K.2.1 u_2 hu8
    subst e_2
    refine g_astore C dX8_put_5 (Nat.le_of_ble_eq_true rfl) rfl ?_
    refine g_lv [some _, some _, some _, some _, some _, none] (gs_some (gs_some (gs_some (gs_some (gs_some (gs_none gs_nil)))))) ?_
    refine g_aload C dX8_put_7 rfl ?_
    refine g_ifnull_r C dX8_put_9 ?_
    refine g_aload C dX8_put_12 rfl ?_
    refine g_iload_n C dX8_put_14 rfl ?_
    refine g_callVi C sV_X8_105 dX8_put_15 (c_X7_has _ δ _ hu8 _ hn h4) ⟨by decide, by decide⟩ (wO_U δ _ hu8) rfl rfl rfl rfl (Nat.le_of_ble_eq_true rfl) (fun r_15 s_15 h_15 => ?_)
    obtain ⟨rfl, h_15⟩ := h_15
    rcases h_15 with ⟨rfl, h_15⟩ | ⟨rfl, h_15⟩
    · obtain ⟨c1, hc1, rfl⟩ := id h_15
      refine g_if_eq C 32 dX8_put_18 (by decide) (fun c_18 => ?_) (fun c_18 => ?_)
      · exact absurd c_18 (by decide)
      · refine g_iload_n C dX8_put_21 rfl ?_
        refine g_if_lt C 32 dX8_put_22 (by decide) (fun c_22 => ?_) (fun c_22 => ?_)
        · refine g_iconst (v := (-1)) C dX8_put_32 (by decide) ?_
          exact g_iret C E dX8_put_33 rfl rfl ⟨_, rfl, vPostC (by first | exact gIf_f (fun z => h_2 z.1.1) | exact gIf_f (fun z => h_15 ((okC_n hu8).mp z.1.2)) | exact gIf_f (fun z => Int32.not_le.mpr c_22 z.2.1) | exact gIf_f (fun z => c_29 z.2.2)) rfl K (FC_r _)⟩
        · refine g_iload_n C dX8_put_25 rfl ?_
          refine g_sipush (v := 200) C dX8_put_26 (by decide) ?_
          refine g_icmp_le C 34 dX8_put_29 (by decide) (fun c_29 => ?_) (fun c_29 => ?_)
          · refine g_aload_n C dX8_put_34 rfl ?_
            refine g_callVv C sV_X8_116 dX8_put_35 (c_X8_keepAct _ δ _ hl hx h20 hkn) ⟨by decide, by decide⟩ (wO_X δ _) rfl rfl rfl rfl (Nat.le_of_ble_eq_true rfl) (fun s_35 h_35 => ?_)
            obtain ⟨K2, F2⟩ := KC_kept K hkn hx h_35
            refine g_aload C dX8_put_38 rfl ?_
            refine g_get C dX8_put_40 iwX7 rfl (wO_U δ _ hu8) 0 (Nat.le_of_ble_eq_true rfl) mW194 rfl rfl ?_
            refine g_iload_n C dX8_put_43 rfl ?_
            refine g_ialdN C dX8_put_44 (k := c1) (q := u_2) (by omega) rfl (by first | rfl | assumption | (simp only [glit, nI_add, pk_mul]; done) | (simp only [glit, nI_add, pk_mul]; congr 1; omega) | (simp only [*, glit, nI_add, pk_mul]; congr 1; omega)) (by rw [gLenI_b hu8]; omega) ?_
            rw [KC_b K2 hu8 (by omega)]
            refine g_istore C dX8_put_45 (Nat.le_of_ble_eq_true rfl) rfl ?_
            refine g_lv [some _, some _, some _, some _, some _, some _] (gs_some (gs_some (gs_some (gs_some (gs_some (gs_some gs_nil)))))) ?_
            refine g_aload C dX8_put_47 rfl ?_
            refine g_get C dX8_put_49 iwX7 rfl (wO_U δ _ hu8) 0 (Nat.le_of_ble_eq_true rfl) mW194 rfl rfl ?_
            refine g_iload_n C dX8_put_52 rfl ?_
            refine g_iload_n C dX8_put_53 rfl ?_
            refine g_iastN C dX8_put_54 (k := c1) (q := u_2) (by omega) rfl (by first | rfl | assumption | (simp only [glit, nI_add, pk_mul]; done) | (simp only [glit, nI_add, pk_mul]; congr 1; omega) | (simp only [*, glit, nI_add, pk_mul]; congr 1; omega)) (by rw [gLenI_b hu8]; omega) ?_
            refine g_iload C dX8_put_55 rfl ?_
            exact g_iret C E dX8_put_57 rfl rfl ⟨_, rfl, vPostC (fPut_ok hu_2 hu8 hc1 (by omega) ⟨Int32.not_lt.mp c_22, c_29⟩) rfl (KC_wb K2 hu8 (by omega)) (FC_I (by omega) F2)⟩
          · refine g_iconst (v := (-1)) C dX8_put_32 (by decide) ?_
            exact g_iret C E dX8_put_33 rfl rfl ⟨_, rfl, vPostC (by first | exact gIf_f (fun z => h_2 z.1.1) | exact gIf_f (fun z => h_15 ((okC_n hu8).mp z.1.2)) | exact gIf_f (fun z => Int32.not_le.mpr c_22 z.2.1) | exact gIf_f (fun z => c_29 z.2.2)) rfl K (FC_r _)⟩
    · skip
      refine g_if_eq C 32 dX8_put_18 (by decide) (fun c_18 => ?_) (fun c_18 => ?_)
      · refine g_iconst (v := (-1)) C dX8_put_32 (by decide) ?_
        exact g_iret C E dX8_put_33 rfl rfl ⟨_, rfl, vPostC (by first | exact gIf_f (fun z => h_2 z.1.1) | exact gIf_f (fun z => h_15 ((okC_n hu8).mp z.1.2)) | exact gIf_f (fun z => Int32.not_le.mpr c_22 z.2.1) | exact gIf_f (fun z => c_29 z.2.2)) rfl K (FC_r _)⟩
      · exact absurd c_18 (by decide)
set_option maxRecDepth 100000 in
set_option maxHeartbeats 4000000 in
theorem c_X8_add (l : Launch) (δ : GD) (σ : GS) (a0 a1 a2 a3 : Int32) {v : GV} (K : KC σ v) (R : RV v) : gM l δ yX8_add cX8_add 7 (some .int) 3 62 [.ref (δ.2.2.1 0), .int a0, .int a1, .int a2, .int a3] σ (gPi (fun x σ' => x = (fAdd v a0 a1 a2 a3).1 ∧ KC σ' (fAdd v a0 a1 a2 a3).2 ∧ FC σ σ')) := by
  refine g_of (lv0 := [some (.ref (δ.2.2.1 0)), some (.int a0), some (.int a1), some (.int a2), some (.int a3), none, none]) (by decide) rfl (Nat.le_of_ble_eq_true rfl) (fun Γ hl C E => ?_)
  subst hl
  have C : gC Γ δ cX8_add RX8 7 3 62 := C
  have hm := K.1
  have h8 := R.1
  obtain ⟨kn, hkn, hx, -⟩ := id K.2.2.2.2
  have hl := K.2.2.2.1.2
  have h20 := K.2.2.2.1.1
  refine g_aload_n C dX8_add_0 rfl ?_
  refine g_iload_n C dX8_add_1 rfl ?_
  refine g_callVr C sV_X8_101 dX8_add_2 (c_X8_urnAt _ δ _ _ hm h8) ⟨by decide, by decide⟩ (wO_X δ _) rfl rfl rfl rfl (Nat.le_of_ble_eq_true rfl) (fun r_2 s_2 h_2 => ?_)
  obtain ⟨rfl, h_2⟩ := h_2
  rcases h_2 with ⟨rfl, h_2⟩ | ⟨u_2, hu_2, e_2, rfl⟩
  · skip
    refine g_astoreN C dX8_add_5 (Nat.le_of_ble_eq_true rfl) rfl ?_
    refine g_lv [some _, some _, some _, some _, some _, some _, none] (gs_some (gs_some (gs_some (gs_some (gs_some (gs_some (gs_none gs_nil))))))) ?_
    refine g_aloadN C dX8_add_7 rfl ?_
    refine g_ifnull_n C 44 dX8_add_9 (by decide) ?_
    refine g_bipush (v := (-100)) C dX8_add_44 (by decide) ?_
    exact g_iret C E dX8_add_46 rfl rfl ⟨_, rfl, vPostC (by first | exact gIf_f (fun z => h_2 z.1.1) | exact gIf_f (fun z => h_15 ((okC_n hu8).mp z.1.2.1)) | exact gIf_f (fun z => h_24 ((okC_n hu8).mp z.1.2.2)) | exact gIf_f (fun z => Int32.not_le.mpr c_34 z.2.1) | exact gIf_f (fun z => c_41 z.2.2)) rfl K (FC_r _)⟩
  · have hu8 : u_2 < 8 := by omega
    obtain ⟨h2, h4⟩ := (R.2.1 u_2 hu8).1 hu_2
    have hn := K.2.1 u_2 hu8
    subst e_2
    refine g_astore C dX8_add_5 (Nat.le_of_ble_eq_true rfl) rfl ?_
    refine g_lv [some _, some _, some _, some _, some _, some _, none] (gs_some (gs_some (gs_some (gs_some (gs_some (gs_some (gs_none gs_nil))))))) ?_
    refine g_aload C dX8_add_7 rfl ?_
    refine g_ifnull_r C dX8_add_9 ?_
    refine g_aload C dX8_add_12 rfl ?_
    refine g_iload_n C dX8_add_14 rfl ?_
    refine g_callVi C sV_X8_105 dX8_add_15 (c_X7_has _ δ _ hu8 _ hn h4) ⟨by decide, by decide⟩ (wO_U δ _ hu8) rfl rfl rfl rfl (Nat.le_of_ble_eq_true rfl) (fun r_15 s_15 h_15 => ?_)
    obtain ⟨rfl, h_15⟩ := h_15
    rcases h_15 with ⟨rfl, h_15⟩ | ⟨rfl, h_15⟩
    · obtain ⟨c1, hc1, rfl⟩ := id h_15
      refine g_if_eq C 44 dX8_add_18 (by decide) (fun c_18 => ?_) (fun c_18 => ?_)
      · exact absurd c_18 (by decide)
      · refine g_aload C dX8_add_21 rfl ?_
        refine g_iload_n C dX8_add_23 rfl ?_
        refine g_callVi C sV_X8_105 dX8_add_24 (c_X7_has _ δ _ hu8 _ hn h4) ⟨by decide, by decide⟩ (wO_U δ _ hu8) rfl rfl rfl rfl (Nat.le_of_ble_eq_true rfl) (fun r_24 s_24 h_24 => ?_)
        obtain ⟨rfl, h_24⟩ := h_24
        rcases h_24 with ⟨rfl, h_24⟩ | ⟨rfl, h_24⟩
        · obtain ⟨d1, hd1, rfl⟩ := id h_24
          refine g_if_eq C 44 dX8_add_27 (by decide) (fun c_27 => ?_) (fun c_27 => ?_)
          · exact absurd c_27 (by decide)
          · refine g_iload C dX8_add_30 rfl ?_
            refine g_bipush (v := (-9)) C dX8_add_32 (by decide) ?_
            refine g_icmp_lt C 44 dX8_add_34 (by decide) (fun c_34 => ?_) (fun c_34 => ?_)
            · refine g_bipush (v := (-100)) C dX8_add_44 (by decide) ?_
              exact g_iret C E dX8_add_46 rfl rfl ⟨_, rfl, vPostC (by first | exact gIf_f (fun z => h_2 z.1.1) | exact gIf_f (fun z => h_15 ((okC_n hu8).mp z.1.2.1)) | exact gIf_f (fun z => h_24 ((okC_n hu8).mp z.1.2.2)) | exact gIf_f (fun z => Int32.not_le.mpr c_34 z.2.1) | exact gIf_f (fun z => c_41 z.2.2)) rfl K (FC_r _)⟩
            · refine g_iload C dX8_add_37 rfl ?_
              refine g_bipush (v := 9) C dX8_add_39 (by decide) ?_
              refine g_icmp_le C 47 dX8_add_41 (by decide) (fun c_41 => ?_) (fun c_41 => ?_)
              · refine g_aload_n C dX8_add_47 rfl ?_
                refine g_callVv C sV_X8_116 dX8_add_48 (c_X8_keepAct _ δ _ hl hx h20 hkn) ⟨by decide, by decide⟩ (wO_X δ _) rfl rfl rfl rfl (Nat.le_of_ble_eq_true rfl) (fun s_48 h_48 => ?_)
                obtain ⟨K2, F2⟩ := KC_kept K hkn hx h_48
                refine g_aload C dX8_add_51 rfl ?_
                refine g_get C dX8_add_53 iwX7 rfl (wO_U δ _ hu8) 1 (Nat.le_of_ble_eq_true rfl) mW197 rfl rfl ?_
                refine g_iload_n C dX8_add_56 rfl ?_
                refine g_iconst (v := 4) C dX8_add_57 (by decide) ?_
                refine g_imul C dX8_add_58 ?_
                refine g_iload_n C dX8_add_59 rfl ?_
                refine g_iadd C dX8_add_60 ?_
                refine g_ialdN C dX8_add_61 (k := (c1 * 4 + d1)) (q := (8 + u_2)) (by omega) (congrArg _ (by omega)) (by first | rfl | assumption | (simp only [glit, nI_add, pk_mul]; done) | (simp only [glit, nI_add, pk_mul]; congr 1; omega) | (simp only [*, glit, nI_add, pk_mul]; congr 1; omega)) (by rw [gLenI_t hu8]; omega) ?_
                rw [KC_t K2 hu8 (by omega)]
                refine g_istore C dX8_add_62 (Nat.le_of_ble_eq_true rfl) rfl ?_
                refine g_lv [some _, some _, some _, some _, some _, some _, some _] (gs_some (gs_some (gs_some (gs_some (gs_some (gs_some (gs_some gs_nil))))))) ?_
                refine g_aload C dX8_add_64 rfl ?_
                refine g_get C dX8_add_66 iwX7 rfl (wO_U δ _ hu8) 1 (Nat.le_of_ble_eq_true rfl) mW197 rfl rfl ?_
                refine g_iload_n C dX8_add_69 rfl ?_
                refine g_iconst (v := 4) C dX8_add_70 (by decide) ?_
                refine g_imul C dX8_add_71 ?_
                refine g_iload_n C dX8_add_72 rfl ?_
                refine g_iadd C dX8_add_73 ?_
                refine g_iload C dX8_add_74 rfl ?_
                refine g_iastN C dX8_add_76 (k := (c1 * 4 + d1)) (q := (8 + u_2)) (by omega) (congrArg _ (by omega)) (by first | rfl | assumption | (simp only [glit, nI_add, pk_mul]; done) | (simp only [glit, nI_add, pk_mul]; congr 1; omega) | (simp only [*, glit, nI_add, pk_mul]; congr 1; omega)) (by rw [gLenI_t hu8]; omega) ?_
                refine g_iload C dX8_add_77 rfl ?_
                exact g_iret C E dX8_add_79 rfl rfl ⟨_, rfl, vPostC (fAdd_ok hu_2 hu8 hc1 (by omega) hd1 (by omega) ⟨Int32.not_lt.mp c_34, c_41⟩) rfl (KC_wt K2 hu8 (by omega)) (FC_I (by omega) F2)⟩
              · refine g_bipush (v := (-100)) C dX8_add_44 (by decide) ?_
                exact g_iret C E dX8_add_46 rfl rfl ⟨_, rfl, vPostC (by first | exact gIf_f (fun z => h_2 z.1.1) | exact gIf_f (fun z => h_15 ((okC_n hu8).mp z.1.2.1)) | exact gIf_f (fun z => h_24 ((okC_n hu8).mp z.1.2.2)) | exact gIf_f (fun z => Int32.not_le.mpr c_34 z.2.1) | exact gIf_f (fun z => c_41 z.2.2)) rfl K (FC_r _)⟩
        · skip
          refine g_if_eq C 44 dX8_add_27 (by decide) (fun c_27 => ?_) (fun c_27 => ?_)
          · refine g_bipush (v := (-100)) C dX8_add_44 (by decide) ?_
            exact g_iret C E dX8_add_46 rfl rfl ⟨_, rfl, vPostC (by first | exact gIf_f (fun z => h_2 z.1.1) | exact gIf_f (fun z => h_15 ((okC_n hu8).mp z.1.2.1)) | exact gIf_f (fun z => h_24 ((okC_n hu8).mp z.1.2.2)) | exact gIf_f (fun z => Int32.not_le.mpr c_34 z.2.1) | exact gIf_f (fun z => c_41 z.2.2)) rfl K (FC_r _)⟩
          · exact absurd c_27 (by decide)
    · skip
      refine g_if_eq C 44 dX8_add_18 (by decide) (fun c_18 => ?_) (fun c_18 => ?_)
      · refine g_bipush (v := (-100)) C dX8_add_44 (by decide) ?_
        exact g_iret C E dX8_add_46 rfl rfl ⟨_, rfl, vPostC (by first | exact gIf_f (fun z => h_2 z.1.1) | exact gIf_f (fun z => h_15 ((okC_n hu8).mp z.1.2.1)) | exact gIf_f (fun z => h_24 ((okC_n hu8).mp z.1.2.2)) | exact gIf_f (fun z => Int32.not_le.mpr c_34 z.2.1) | exact gIf_f (fun z => c_41 z.2.2)) rfl K (FC_r _)⟩
      · exact absurd c_18 (by decide)
set_option maxRecDepth 100000 in
set_option maxHeartbeats 4000000 in
theorem c_X8_is (l : Launch) (δ : GD) (σ : GS) (a0 a1 a2 : Int32) {v : GV} (K : KC σ v) (R : RV v) : gM l δ yX8_is cX8_is 6 (some .int) 3 62 [.ref (δ.2.2.1 0), .int a0, .int a1, .int a2] σ (gPi (fun x σ' => x = (fIs v a0 a1 a2).1 ∧ KC σ' (fIs v a0 a1 a2).2 ∧ FC σ σ')) := by
  refine g_of (lv0 := [some (.ref (δ.2.2.1 0)), some (.int a0), some (.int a1), some (.int a2), none, none]) (by decide) rfl (Nat.le_of_ble_eq_true rfl) (fun Γ hl C E => ?_)
  subst hl
  have C : gC Γ δ cX8_is RX8 6 3 62 := C
  have hm := K.1
  have h8 := R.1
  obtain ⟨kn, hkn, hx, -⟩ := id K.2.2.2.2
  have hl := K.2.2.2.1.2
  have h20 := K.2.2.2.1.1
  refine g_aload_n C dX8_is_0 rfl ?_
  refine g_iload_n C dX8_is_1 rfl ?_
  refine g_callVr C sV_X8_101 dX8_is_2 (c_X8_urnAt _ δ _ _ hm h8) ⟨by decide, by decide⟩ (wO_X δ _) rfl rfl rfl rfl (Nat.le_of_ble_eq_true rfl) (fun r_2 s_2 h_2 => ?_)
  obtain ⟨rfl, h_2⟩ := h_2
  rcases h_2 with ⟨rfl, h_2⟩ | ⟨u_2, hu_2, e_2, rfl⟩
  · skip
    refine g_astoreN C dX8_is_5 (Nat.le_of_ble_eq_true rfl) rfl ?_
    refine g_lv [some _, some _, some _, some _, some _, none] (gs_some (gs_some (gs_some (gs_some (gs_some (gs_none gs_nil)))))) ?_
    refine g_aloadN C dX8_is_7 rfl ?_
    refine g_ifnull_n C 31 dX8_is_9 (by decide) ?_
    refine g_iconst (v := (-1)) C dX8_is_31 (by decide) ?_
    exact g_iret C E dX8_is_32 rfl rfl ⟨_, rfl, vPostC (by first | exact gIf_f (fun z => h_2 z.1.1) | exact gIf_f (fun z => h_15 ((okC_n hu8).mp z.1.2)) | exact gIf_f (fun z => Int32.not_le.mpr c_23 z.2.1) | exact gIf_f (fun z => c_28 z.2.2)) rfl K (FC_r _)⟩
  · have hu8 : u_2 < 8 := by omega
    obtain ⟨h2, h4⟩ := (R.2.1 u_2 hu8).1 hu_2
    have hn := K.2.1 u_2 hu8
    subst e_2
    refine g_astore C dX8_is_5 (Nat.le_of_ble_eq_true rfl) rfl ?_
    refine g_lv [some _, some _, some _, some _, some _, none] (gs_some (gs_some (gs_some (gs_some (gs_some (gs_none gs_nil)))))) ?_
    refine g_aload C dX8_is_7 rfl ?_
    refine g_ifnull_r C dX8_is_9 ?_
    refine g_aload C dX8_is_12 rfl ?_
    refine g_iload_n C dX8_is_14 rfl ?_
    refine g_callVi C sV_X8_105 dX8_is_15 (c_X7_has _ δ _ hu8 _ hn h4) ⟨by decide, by decide⟩ (wO_U δ _ hu8) rfl rfl rfl rfl (Nat.le_of_ble_eq_true rfl) (fun r_15 s_15 h_15 => ?_)
    obtain ⟨rfl, h_15⟩ := h_15
    rcases h_15 with ⟨rfl, h_15⟩ | ⟨rfl, h_15⟩
    · obtain ⟨c1, hc1, rfl⟩ := id h_15
      refine g_if_eq C 31 dX8_is_18 (by decide) (fun c_18 => ?_) (fun c_18 => ?_)
      · exact absurd c_18 (by decide)
      · refine g_iload_n C dX8_is_21 rfl ?_
        refine g_iconst (v := (-1)) C dX8_is_22 (by decide) ?_
        refine g_icmp_lt C 31 dX8_is_23 (by decide) (fun c_23 => ?_) (fun c_23 => ?_)
        · refine g_iconst (v := (-1)) C dX8_is_31 (by decide) ?_
          exact g_iret C E dX8_is_32 rfl rfl ⟨_, rfl, vPostC (by first | exact gIf_f (fun z => h_2 z.1.1) | exact gIf_f (fun z => h_15 ((okC_n hu8).mp z.1.2)) | exact gIf_f (fun z => Int32.not_le.mpr c_23 z.2.1) | exact gIf_f (fun z => c_28 z.2.2)) rfl K (FC_r _)⟩
        · refine g_iload_n C dX8_is_26 rfl ?_
          refine g_iload_n C dX8_is_27 rfl ?_
          refine g_icmp_lt C 33 dX8_is_28 (by decide) (fun c_28 => ?_) (fun c_28 => ?_)
          · refine g_aload_n C dX8_is_33 rfl ?_
            refine g_callVv C sV_X8_116 dX8_is_34 (c_X8_keepAct _ δ _ hl hx h20 hkn) ⟨by decide, by decide⟩ (wO_X δ _) rfl rfl rfl rfl (Nat.le_of_ble_eq_true rfl) (fun s_34 h_34 => ?_)
            obtain ⟨K2, F2⟩ := KC_kept K hkn hx h_34
            refine g_aload C dX8_is_37 rfl ?_
            refine g_get C dX8_is_39 iwX7 rfl (wO_U δ _ hu8) 2 (Nat.le_of_ble_eq_true rfl) mW200 rfl rfl ?_
            refine g_iload_n C dX8_is_42 rfl ?_
            refine g_ialdN C dX8_is_43 (k := c1) (q := (16 + u_2)) (by omega) (congrArg _ (by omega)) (by first | rfl | assumption | (simp only [glit, nI_add, pk_mul]; done) | (simp only [glit, nI_add, pk_mul]; congr 1; omega) | (simp only [*, glit, nI_add, pk_mul]; congr 1; omega)) (by rw [gLenI_u hu8]; omega) ?_
            rw [KC_u K2 hu8 (by omega)]
            refine g_istore C dX8_is_44 (Nat.le_of_ble_eq_true rfl) rfl ?_
            refine g_lv [some _, some _, some _, some _, some _, some _] (gs_some (gs_some (gs_some (gs_some (gs_some (gs_some gs_nil)))))) ?_
            refine g_aload C dX8_is_46 rfl ?_
            refine g_get C dX8_is_48 iwX7 rfl (wO_U δ _ hu8) 2 (Nat.le_of_ble_eq_true rfl) mW200 rfl rfl ?_
            refine g_iload_n C dX8_is_51 rfl ?_
            refine g_iload_n C dX8_is_52 rfl ?_
            refine g_iastN C dX8_is_53 (k := c1) (q := (16 + u_2)) (by omega) (congrArg _ (by omega)) (by first | rfl | assumption | (simp only [glit, nI_add, pk_mul]; done) | (simp only [glit, nI_add, pk_mul]; congr 1; omega) | (simp only [*, glit, nI_add, pk_mul]; congr 1; omega)) (by rw [gLenI_u hu8]; omega) ?_
            refine g_iload C dX8_is_54 rfl ?_
            refine g_if_ge C 64 dX8_is_56 (by decide) (fun c_56 => ?_) (fun c_56 => ?_)
            · refine g_iload C dX8_is_64 rfl ?_
              exact g_iret C E dX8_is_66 rfl rfl ⟨_, rfl, vPostC (fIs_ok hu_2 hu8 hc1 (by omega) ⟨Int32.not_lt.mp c_23, c_28⟩) (by first | exact (if_neg (Int32.not_lt.mpr c_56)).symm | exact (if_pos (Int32.not_le.mp c_56)).symm) (KC_wu K2 hu8 (by omega)) (FC_I (by omega) F2)⟩
            · refine g_bipush (v := (-4)) C dX8_is_59 (by decide) ?_
              refine g_goto C 66 dX8_is_61 (by decide) ?_
              exact g_iret C E dX8_is_66 rfl rfl ⟨_, rfl, vPostC (fIs_ok hu_2 hu8 hc1 (by omega) ⟨Int32.not_lt.mp c_23, c_28⟩) (by first | exact (if_neg (Int32.not_lt.mpr c_56)).symm | exact (if_pos (Int32.not_le.mp c_56)).symm) (KC_wu K2 hu8 (by omega)) (FC_I (by omega) F2)⟩
          · refine g_iconst (v := (-1)) C dX8_is_31 (by decide) ?_
            exact g_iret C E dX8_is_32 rfl rfl ⟨_, rfl, vPostC (by first | exact gIf_f (fun z => h_2 z.1.1) | exact gIf_f (fun z => h_15 ((okC_n hu8).mp z.1.2)) | exact gIf_f (fun z => Int32.not_le.mpr c_23 z.2.1) | exact gIf_f (fun z => c_28 z.2.2)) rfl K (FC_r _)⟩
    · skip
      refine g_if_eq C 31 dX8_is_18 (by decide) (fun c_18 => ?_) (fun c_18 => ?_)
      · refine g_iconst (v := (-1)) C dX8_is_31 (by decide) ?_
        exact g_iret C E dX8_is_32 rfl rfl ⟨_, rfl, vPostC (by first | exact gIf_f (fun z => h_2 z.1.1) | exact gIf_f (fun z => h_15 ((okC_n hu8).mp z.1.2)) | exact gIf_f (fun z => Int32.not_le.mpr c_23 z.2.1) | exact gIf_f (fun z => c_28 z.2.2)) rfl K (FC_r _)⟩
      · exact absurd c_18 (by decide)
set_option maxRecDepth 100000 in
set_option maxHeartbeats 4000000 in
theorem c_X8_added (l : Launch) (δ : GD) (σ : GS) (a0 a1 a2 : Int32) {v : GV} (K : KC σ v) (R : RV v) : gM l δ yX8_added cX8_added 5 (some .int) 1 21 [.ref (δ.2.2.1 0), .int a0, .int a1, .int a2] σ (gPi (fun x σ' => x = (fAdded v a0 a1 a2).1 ∧ KC σ' (fAdded v a0 a1 a2).2 ∧ FC σ σ')) := by
  refine g_of (lv0 := [some (.ref (δ.2.2.1 0)), some (.int a0), some (.int a1), some (.int a2), none]) (by decide) rfl (Nat.le_of_ble_eq_true rfl) (fun Γ hl C E => ?_)
  subst hl
  have C : gC Γ δ cX8_added RX8 5 1 21 := C
  have hm := K.1
  have h8 := R.1
  obtain ⟨kn, hkn, hx, -⟩ := id K.2.2.2.2
  have hl := K.2.2.2.1.2
  have h20 := K.2.2.2.1.1
  refine g_aload_n C dX8_added_0 rfl ?_
  refine g_iload_n C dX8_added_1 rfl ?_
  refine g_callVr C sV_X8_101 dX8_added_2 (c_X8_urnAt _ δ _ _ hm h8) ⟨by decide, by decide⟩ (wO_X δ _) rfl rfl rfl rfl (Nat.le_of_ble_eq_true rfl) (fun r_2 s_2 h_2 => ?_)
  obtain ⟨rfl, h_2⟩ := h_2
  rcases h_2 with ⟨rfl, h_2⟩ | ⟨u_2, hu_2, e_2, rfl⟩
  · skip
    refine g_astoreN C dX8_added_5 (Nat.le_of_ble_eq_true rfl) rfl ?_
    refine g_lv [some _, some _, some _, some _, some _] (gs_some (gs_some (gs_some (gs_some (gs_some gs_nil))))) ?_
    refine g_aloadN C dX8_added_7 rfl ?_
    refine g_ifnull_n C 30 dX8_added_9 (by decide) ?_
    refine g_bipush (v := (-100)) C dX8_added_30 (by decide) ?_
    exact g_iret C E dX8_added_32 rfl rfl ⟨_, rfl, vPostC (by first | exact gIf_f (fun z => h_2 z.1) | exact gIf_f (fun z => h_15 ((okC_n hu8).mp z.2.1)) | exact gIf_f (fun z => h_24 ((okC_n hu8).mp z.2.2))) rfl K (FC_r _)⟩
  · have hu8 : u_2 < 8 := by omega
    obtain ⟨h2, h4⟩ := (R.2.1 u_2 hu8).1 hu_2
    have hn := K.2.1 u_2 hu8
    subst e_2
    refine g_astore C dX8_added_5 (Nat.le_of_ble_eq_true rfl) rfl ?_
    refine g_lv [some _, some _, some _, some _, some _] (gs_some (gs_some (gs_some (gs_some (gs_some gs_nil))))) ?_
    refine g_aload C dX8_added_7 rfl ?_
    refine g_ifnull_r C dX8_added_9 ?_
    refine g_aload C dX8_added_12 rfl ?_
    refine g_iload_n C dX8_added_14 rfl ?_
    refine g_callVi C sV_X8_105 dX8_added_15 (c_X7_has _ δ _ hu8 _ hn h4) ⟨by decide, by decide⟩ (wO_U δ _ hu8) rfl rfl rfl rfl (Nat.le_of_ble_eq_true rfl) (fun r_15 s_15 h_15 => ?_)
    obtain ⟨rfl, h_15⟩ := h_15
    rcases h_15 with ⟨rfl, h_15⟩ | ⟨rfl, h_15⟩
    · obtain ⟨c1, hc1, rfl⟩ := id h_15
      refine g_if_eq C 30 dX8_added_18 (by decide) (fun c_18 => ?_) (fun c_18 => ?_)
      · exact absurd c_18 (by decide)
      · refine g_aload C dX8_added_21 rfl ?_
        refine g_iload_n C dX8_added_23 rfl ?_
        refine g_callVi C sV_X8_105 dX8_added_24 (c_X7_has _ δ _ hu8 _ hn h4) ⟨by decide, by decide⟩ (wO_U δ _ hu8) rfl rfl rfl rfl (Nat.le_of_ble_eq_true rfl) (fun r_24 s_24 h_24 => ?_)
        obtain ⟨rfl, h_24⟩ := h_24
        rcases h_24 with ⟨rfl, h_24⟩ | ⟨rfl, h_24⟩
        · obtain ⟨d1, hd1, rfl⟩ := id h_24
          refine g_if_ne C 33 dX8_added_27 (by decide) (fun c_27 => ?_) (fun c_27 => ?_)
          · refine g_aload C dX8_added_33 rfl ?_
            refine g_get C dX8_added_35 iwX7 rfl (wO_U δ _ hu8) 1 (Nat.le_of_ble_eq_true rfl) mW197 rfl rfl ?_
            refine g_iload_n C dX8_added_38 rfl ?_
            refine g_iconst (v := 4) C dX8_added_39 (by decide) ?_
            refine g_imul C dX8_added_40 ?_
            refine g_iload_n C dX8_added_41 rfl ?_
            refine g_iadd C dX8_added_42 ?_
            refine g_ialdN C dX8_added_43 (k := (c1 * 4 + d1)) (q := (8 + u_2)) (by omega) (congrArg _ (by omega)) (by first | rfl | assumption | (simp only [glit, nI_add, pk_mul]; done) | (simp only [glit, nI_add, pk_mul]; congr 1; omega) | (simp only [*, glit, nI_add, pk_mul]; congr 1; omega)) (by rw [gLenI_t hu8]; omega) ?_
            rw [KC_t K hu8 (by omega)]
            exact g_iret C E dX8_added_44 rfl rfl ⟨_, rfl, vPostC (fAdded_ok hu_2 hu8 hc1 (by omega) hd1 (by omega)) rfl K (FC_r _)⟩
          · exact absurd c_27 (by decide)
        · skip
          refine g_if_ne C 33 dX8_added_27 (by decide) (fun c_27 => ?_) (fun c_27 => ?_)
          · exact absurd c_27 (by decide)
          · refine g_bipush (v := (-100)) C dX8_added_30 (by decide) ?_
            exact g_iret C E dX8_added_32 rfl rfl ⟨_, rfl, vPostC (by first | exact gIf_f (fun z => h_2 z.1) | exact gIf_f (fun z => h_15 ((okC_n hu8).mp z.2.1)) | exact gIf_f (fun z => h_24 ((okC_n hu8).mp z.2.2))) rfl K (FC_r _)⟩
    · skip
      refine g_if_eq C 30 dX8_added_18 (by decide) (fun c_18 => ?_) (fun c_18 => ?_)
      · refine g_bipush (v := (-100)) C dX8_added_30 (by decide) ?_
        exact g_iret C E dX8_added_32 rfl rfl ⟨_, rfl, vPostC (by first | exact gIf_f (fun z => h_2 z.1) | exact gIf_f (fun z => h_15 ((okC_n hu8).mp z.2.1)) | exact gIf_f (fun z => h_24 ((okC_n hu8).mp z.2.2))) rfl K (FC_r _)⟩
      · exact absurd c_18 (by decide)
set_option maxRecDepth 100000 in
set_option maxHeartbeats 4000000 in
theorem c_X8_draw (l : Launch) (δ : GD) (σ : GS) (a0 a1 : Int32) {v : GV} (K : KC σ v) (R : RV v) : gM l δ yX8_draw cX8_draw 4 (some .int) 3 62 [.ref (δ.2.2.1 0), .int a0, .int a1] σ (gPi (fun x σ' => x = (fDraw v a0 a1).1 ∧ KC σ' (fDraw v a0 a1).2 ∧ FC σ σ')) := by
  refine g_of (lv0 := [some (.ref (δ.2.2.1 0)), some (.int a0), some (.int a1), none]) (by decide) rfl (Nat.le_of_ble_eq_true rfl) (fun Γ hl C E => ?_)
  subst hl
  have C : gC Γ δ cX8_draw RX8 4 3 62 := C
  have hm := K.1
  have h8 := R.1
  obtain ⟨kn, hkn, hx, -⟩ := id K.2.2.2.2
  have hl := K.2.2.2.1.2
  have h20 := K.2.2.2.1.1
  refine g_aload_n C dX8_draw_0 rfl ?_
  refine g_iload_n C dX8_draw_1 rfl ?_
  refine g_callVr C sV_X8_101 dX8_draw_2 (c_X8_urnAt _ δ _ _ hm h8) ⟨by decide, by decide⟩ (wO_X δ _) rfl rfl rfl rfl (Nat.le_of_ble_eq_true rfl) (fun r_2 s_2 h_2 => ?_)
  obtain ⟨rfl, h_2⟩ := h_2
  rcases h_2 with ⟨rfl, h_2⟩ | ⟨u_2, hu_2, e_2, rfl⟩
  · skip
    refine g_astore_nN C dX8_draw_5 (Nat.le_of_ble_eq_true rfl) rfl ?_
    refine g_lv [some _, some _, some _, some _] (gs_some (gs_some (gs_some (gs_some gs_nil)))) ?_
    refine g_aload_nN C dX8_draw_6 rfl ?_
    refine g_ifnull_n C 18 dX8_draw_7 (by decide) ?_
    refine g_iconst (v := (-1)) C dX8_draw_18 (by decide) ?_
    exact g_iret C E dX8_draw_19 rfl rfl ⟨_, rfl, vPostC (by first | exact gIf_f (fun z => h_2 z.1) | exact gIf_f (fun z => h_12 ((okC_n hu8).mp z.2))) rfl K (FC_r _)⟩
  · have hu8 : u_2 < 8 := by omega
    obtain ⟨h2, h4⟩ := (R.2.1 u_2 hu8).1 hu_2
    have hn := K.2.1 u_2 hu8
    subst e_2
    refine g_astore_n C dX8_draw_5 (Nat.le_of_ble_eq_true rfl) rfl ?_
    refine g_lv [some _, some _, some _, some _] (gs_some (gs_some (gs_some (gs_some gs_nil)))) ?_
    refine g_aload_n C dX8_draw_6 rfl ?_
    refine g_ifnull_r C dX8_draw_7 ?_
    refine g_aload_n C dX8_draw_10 rfl ?_
    refine g_iload_n C dX8_draw_11 rfl ?_
    refine g_callVi C sV_X8_105 dX8_draw_12 (c_X7_has _ δ _ hu8 _ hn h4) ⟨by decide, by decide⟩ (wO_U δ _ hu8) rfl rfl rfl rfl (Nat.le_of_ble_eq_true rfl) (fun r_12 s_12 h_12 => ?_)
    obtain ⟨rfl, h_12⟩ := h_12
    rcases h_12 with ⟨rfl, h_12⟩ | ⟨rfl, h_12⟩
    · obtain ⟨c1, hc1, rfl⟩ := id h_12
      refine g_if_ne C 20 dX8_draw_15 (by decide) (fun c_15 => ?_) (fun c_15 => ?_)
      · refine g_aload_n C dX8_draw_20 rfl ?_
        refine g_aload_n C dX8_draw_21 rfl ?_
        refine g_get C dX8_draw_22 iwX7 rfl (wO_U δ _ hu8) 0 (Nat.le_of_ble_eq_true rfl) mW194 rfl rfl ?_
        refine g_iload_n C dX8_draw_25 rfl ?_
        refine g_callVi C sV_X8_147 dX8_draw_26 (c_X7_lets _ δ _ hu8 (q := u_2) (by omega) (gLenI_b hu8) (c := c1) (by omega) hn h4) ⟨by decide, by decide⟩ (wO_U δ _ hu8) rfl rfl rfl rfl (Nat.le_of_ble_eq_true rfl) (fun r_26 s_26 h_26 => ?_)
        obtain ⟨rfl, h_26⟩ := h_26
        rw [KC_let K R hu8 (by omega)] at h_26
        rcases h_26 with ⟨rfl, h_26⟩ | ⟨rfl, h_26⟩
        · skip
          refine g_if_ne C 35 dX8_draw_29 (by decide) (fun c_29 => ?_) (fun c_29 => ?_)
          · refine g_aload_n C dX8_draw_35 rfl ?_
            refine g_callVv C sV_X8_116 dX8_draw_36 (c_X8_keepAct _ δ _ hl hx h20 hkn) ⟨by decide, by decide⟩ (wO_X δ _) rfl rfl rfl rfl (Nat.le_of_ble_eq_true rfl) (fun s_36 h_36 => ?_)
            obtain ⟨K2, F2⟩ := KC_kept K hkn hx h_36
            refine g_aload_n C dX8_draw_39 rfl ?_
            refine g_iload_n C dX8_draw_40 rfl ?_
            refine g_callVv C sV_X8_151 dX8_draw_41 (c_X7_doDraw _ δ _ hu8 (c := c1) (by omega) (K2.2.1 u_2 hu8) h4) ⟨by decide, by decide⟩ (wO_U δ _ hu8) rfl rfl rfl rfl (Nat.le_of_ble_eq_true rfl) (fun s_41 h_41 => ?_)
            obtain rfl := h_41
            have K3 := KC_draw K2 (RV_keep R).2.2.1 hu8 (show c1 < 4 by omega)
            refine g_aload_n C dX8_draw_44 rfl ?_
            refine g_callVi C sV_X8_129 dX8_draw_45 (c_X7_total _ δ _ hu8) ⟨by decide, by decide⟩ (wO_U δ _ hu8) rfl rfl rfl rfl (Nat.le_of_ble_eq_true rfl) (fun r_45 s_45 h_45 => ?_)
            obtain ⟨rfl, rfl⟩ := h_45
            exact g_iret C E dX8_draw_48 rfl rfl ⟨_, rfl, vPostC ((fDraw_ok hu_2 hu8 hc1 (by omega)).trans (gIf_t h_26)) (KC_sum K3 hu8) K3 (FC_N (by omega) (FC_I (by omega) F2))⟩
          · exact absurd c_29 (by decide)
        · skip
          refine g_if_ne C 35 dX8_draw_29 (by decide) (fun c_29 => ?_) (fun c_29 => ?_)
          · exact absurd c_29 (by decide)
          · refine g_bipush (v := (-5)) C dX8_draw_32 (by decide) ?_
            exact g_iret C E dX8_draw_34 rfl rfl ⟨_, rfl, vPostC ((fDraw_ok hu_2 hu8 hc1 (by omega)).trans (gIf_f h_26)) rfl K (FC_r _)⟩
      · exact absurd c_15 (by decide)
    · skip
      refine g_if_ne C 20 dX8_draw_15 (by decide) (fun c_15 => ?_) (fun c_15 => ?_)
      · exact absurd c_15 (by decide)
      · refine g_iconst (v := (-1)) C dX8_draw_18 (by decide) ?_
        exact g_iret C E dX8_draw_19 rfl rfl ⟨_, rfl, vPostC (by first | exact gIf_f (fun z => h_2 z.1) | exact gIf_f (fun z => h_12 ((okC_n hu8).mp z.2))) rfl K (FC_r _)⟩
set_option maxRecDepth 100000 in
set_option maxHeartbeats 4000000 in
theorem c_X8_about (l : Launch) (δ : GD) (σ : GS) (a0 a1 : Int32) {v : GV} (K : KC σ v) (R : RV v) : gM l δ yX8_about cX8_about 4 (some .int) 2 44 [.ref (δ.2.2.1 0), .int a0, .int a1] σ (gPi (fun x σ' => x = (fAbout v a0 a1).1 ∧ KC σ' (fAbout v a0 a1).2 ∧ FC σ σ')) := by
  refine g_of (lv0 := [some (.ref (δ.2.2.1 0)), some (.int a0), some (.int a1), none]) (by decide) rfl (Nat.le_of_ble_eq_true rfl) (fun Γ hl C E => ?_)
  subst hl
  have C : gC Γ δ cX8_about RX8 4 2 44 := C
  have hm := K.1
  have h8 := R.1
  obtain ⟨kn, hkn, hx, -⟩ := id K.2.2.2.2
  have hl := K.2.2.2.1.2
  have h20 := K.2.2.2.1.1
  refine g_aload_n C dX8_about_0 rfl ?_
  refine g_iload_n C dX8_about_1 rfl ?_
  refine g_callVr C sV_X8_101 dX8_about_2 (c_X8_urnAt _ δ _ _ hm h8) ⟨by decide, by decide⟩ (wO_X δ _) rfl rfl rfl rfl (Nat.le_of_ble_eq_true rfl) (fun r_2 s_2 h_2 => ?_)
  obtain ⟨rfl, h_2⟩ := h_2
  rcases h_2 with ⟨rfl, h_2⟩ | ⟨u_2, hu_2, e_2, rfl⟩
  · skip
    refine g_astore_nN C dX8_about_5 (Nat.le_of_ble_eq_true rfl) rfl ?_
    refine g_lv [some _, some _, some _, some _] (gs_some (gs_some (gs_some (gs_some gs_nil)))) ?_
    refine g_aload_nN C dX8_about_6 rfl ?_
    refine g_ifnonnull_n C dX8_about_7 ?_
    refine g_sipush (v := (-1000)) C dX8_about_10 (by decide) ?_
    exact g_iret C E dX8_about_13 rfl rfl ⟨_, rfl, vPostC (fAbout_no h_2) rfl K (FC_r _)⟩
  · have hu8 : u_2 < 8 := by omega
    obtain ⟨h2, h4⟩ := (R.2.1 u_2 hu8).1 hu_2
    have hn := K.2.1 u_2 hu8
    subst e_2
    refine g_astore_n C dX8_about_5 (Nat.le_of_ble_eq_true rfl) rfl ?_
    refine g_lv [some _, some _, some _, some _] (gs_some (gs_some (gs_some (gs_some gs_nil)))) ?_
    refine g_aload_n C dX8_about_6 rfl ?_
    refine g_ifnonnull_r C 14 dX8_about_7 (by decide) ?_
    refine g_iload_n C dX8_about_14 rfl ?_
    rcases gsw a1 5 (by omega) with h_15 | h_15
    · refine g_tableOut C 110 dX8_about_15 (by simpa using h_15) (by decide) ?_
      refine g_iload_n C dX8_about_110 rfl ?_
      refine g_bipush (v := 6) C dX8_about_111 (by decide) ?_
      refine g_icmp_lt C 139 dX8_about_113 (by decide) (fun c_113 => ?_) (fun c_113 => ?_)
      · refine g_sipush (v := (-1000)) C dX8_about_139 (by decide) ?_
        exact g_iret C E dX8_about_142 rfl rfl ⟨_, rfl, (by first | exact vPostC (fAbout_at hu_2 hu8 (ex)) (KC_b K hu8 (by omega)) K (FC_r _) | exact vPostC (fAbout_at hu_2 hu8 (fAb_lo h_15 c_113)) (rfl) K (FC_r _) | exact vPostC (fAbout_at hu_2 hu8 (fAb_hi h_15 rfl h4 c_124)) (rfl) K (FC_r _))⟩
      · refine g_iload_n C dX8_about_116 rfl ?_
        refine g_bipush (v := 6) C dX8_about_117 (by decide) ?_
        refine g_aload_n C dX8_about_119 rfl ?_
        refine g_get C dX8_about_120 iwX7 rfl (wO_U δ _ hu8) 3 (Nat.le_of_ble_eq_true rfl) mW202 rfl rfl ?_
        rw [hn]
        refine g_iadd C dX8_about_123 ?_
        refine g_icmp_ge C 139 dX8_about_124 (by decide) (fun c_124 => ?_) (fun c_124 => ?_)
        · refine g_sipush (v := (-1000)) C dX8_about_139 (by decide) ?_
          exact g_iret C E dX8_about_142 rfl rfl ⟨_, rfl, (by first | exact vPostC (fAbout_at hu_2 hu8 (ex)) (KC_b K hu8 (by omega)) K (FC_r _) | exact vPostC (fAbout_at hu_2 hu8 (fAb_lo h_15 c_113)) (rfl) K (FC_r _) | exact vPostC (fAbout_at hu_2 hu8 (fAb_hi h_15 rfl h4 c_124)) (rfl) K (FC_r _))⟩
        · obtain ⟨j1, hj1, ew, ex⟩ := fAb_in (v := v) (k := u_2) h_15 rfl h4 c_113 c_124
          refine g_aload_n C dX8_about_127 rfl ?_
          refine g_get C dX8_about_128 iwX7 rfl (wO_U δ _ hu8) 0 (Nat.le_of_ble_eq_true rfl) mW194 rfl rfl ?_
          refine g_iload_n C dX8_about_131 rfl ?_
          refine g_bipush (v := 6) C dX8_about_132 (by decide) ?_
          refine g_isub C dX8_about_134 ?_
          refine g_ialdN C dX8_about_135 (k := j1) (q := u_2) (by omega) rfl (by rw [ew, show (6 : Int32) = nI 6 from rfl, pk_sub (by omega)]; exact congrArg nI (by omega)) (by rw [gLenI_b hu8]; omega) ?_
          refine g_goto C 142 dX8_about_136 (by decide) ?_
          exact g_iret C E dX8_about_142 rfl rfl ⟨_, rfl, (by first | exact vPostC (fAbout_at hu_2 hu8 (ex)) (KC_b K hu8 (by omega)) K (FC_r _) | exact vPostC (fAbout_at hu_2 hu8 (fAb_lo h_15 c_113)) (rfl) K (FC_r _) | exact vPostC (fAbout_at hu_2 hu8 (fAb_hi h_15 rfl h4 c_124)) (rfl) K (FC_r _))⟩
    · rcases gsw5 a1 h_15 with h_15 | h_15 | h_15 | h_15 | h_15 | h_15
      · rw [h_15]
        refine g_tableIn C 52 dX8_about_15 (by decide) (by decide) rfl (by decide) ?_
        refine g_aload_n C dX8_about_52 rfl ?_
        refine g_get C dX8_about_53 iwX7 rfl (wO_U δ _ hu8) 3 (Nat.le_of_ble_eq_true rfl) mW202 rfl rfl ?_
        exact g_iret C E dX8_about_56 rfl rfl ⟨_, rfl, vPostC (fAbout_at hu_2 hu8 (fAb_0 h_15)) (hn) K (FC_r _)⟩
      · rw [h_15]
        refine g_tableIn C 57 dX8_about_15 (by decide) (by decide) rfl (by decide) ?_
        refine g_aload_n C dX8_about_57 rfl ?_
        refine g_callVi C sV_X8_129 dX8_about_58 (c_X7_total _ δ _ hu8) ⟨by decide, by decide⟩ (wO_U δ _ hu8) rfl rfl rfl rfl (Nat.le_of_ble_eq_true rfl) (fun r_58 s_58 h_58 => ?_)
        obtain ⟨rfl, h_58⟩ := h_58
        exact g_iret C E dX8_about_61 rfl rfl ⟨_, rfl, vPostC (fAbout_at hu_2 hu8 (fAb_1 h_15)) (h_58.trans (KC_sum K hu8)) K (FC_r _)⟩
      · rw [h_15]
        refine g_tableIn C 62 dX8_about_15 (by decide) (by decide) rfl (by decide) ?_
        refine g_aload_n C dX8_about_62 rfl ?_
        refine g_get C dX8_about_63 iwX7 rfl (wO_U δ _ hu8) 4 (Nat.le_of_ble_eq_true rfl) mW205 rfl rfl ?_
        exact g_iret C E dX8_about_66 rfl rfl ⟨_, rfl, vPostC (fAbout_at hu_2 hu8 (fAb_2 h_15)) (KC_d K hu8) K (FC_r _)⟩
      · rw [h_15]
        refine g_tableIn C 67 dX8_about_15 (by decide) (by decide) rfl (by decide) ?_
        refine g_aload_n C dX8_about_67 rfl ?_
        refine g_callVi C sV_X8_136 dX8_about_68 (c_X7_isEven _ δ _ hu8 hn h4) ⟨by decide, by decide⟩ (wO_U δ _ hu8) rfl rfl rfl rfl (Nat.le_of_ble_eq_true rfl) (fun r_68 s_68 h_68 => ?_)
        obtain ⟨rfl, h_68⟩ := h_68
        rcases h_68 with ⟨rfl, h_68⟩ | ⟨rfl, h_68⟩
        · skip
          refine g_if_eq C 78 dX8_about_71 (by decide) (fun c_71 => ?_) (fun c_71 => ?_)
          · exact absurd c_71 (by decide)
          · refine g_iconst (v := 1) C dX8_about_74 (by decide) ?_
            refine g_goto C 79 dX8_about_75 (by decide) ?_
            exact g_iret C E dX8_about_79 rfl rfl ⟨_, rfl, (by first | exact vPostC (fAbout_at hu_2 hu8 (fAb_3 h_15)) ((gIf_t ((KC_ev K R hu8).mp h_68)).symm) K (FC_r _) | exact vPostC (fAbout_at hu_2 hu8 (fAb_3 h_15)) ((gIf_f (fun z => h_68 ((KC_ev K R hu8).mpr z))).symm) K (FC_r _))⟩
        · skip
          refine g_if_eq C 78 dX8_about_71 (by decide) (fun c_71 => ?_) (fun c_71 => ?_)
          · refine g_iconst (v := 0) C dX8_about_78 (by decide) ?_
            exact g_iret C E dX8_about_79 rfl rfl ⟨_, rfl, (by first | exact vPostC (fAbout_at hu_2 hu8 (fAb_3 h_15)) ((gIf_t ((KC_ev K R hu8).mp h_68)).symm) K (FC_r _) | exact vPostC (fAbout_at hu_2 hu8 (fAb_3 h_15)) ((gIf_f (fun z => h_68 ((KC_ev K R hu8).mpr z))).symm) K (FC_r _))⟩
          · exact absurd c_71 (by decide)
      · rw [h_15]
        refine g_tableIn C 80 dX8_about_15 (by decide) (by decide) rfl (by decide) ?_
        refine g_aload_n C dX8_about_80 rfl ?_
        refine g_callVi C sV_X8_136 dX8_about_81 (c_X7_isEven _ δ _ hu8 hn h4) ⟨by decide, by decide⟩ (wO_U δ _ hu8) rfl rfl rfl rfl (Nat.le_of_ble_eq_true rfl) (fun r_81 s_81 h_81 => ?_)
        obtain ⟨rfl, h_81⟩ := h_81
        rcases h_81 with ⟨rfl, h_81⟩ | ⟨rfl, h_81⟩
        · skip
          refine g_if_eq C 95 dX8_about_84 (by decide) (fun c_84 => ?_) (fun c_84 => ?_)
          · exact absurd c_84 (by decide)
          · refine g_aload_n C dX8_about_87 rfl ?_
            refine g_iconst (v := 0) C dX8_about_88 (by decide) ?_
            refine g_callVi C sV_X8_140 dX8_about_89 (c_X7_growth _ δ _ hu8 (c := 0) (by omega) hn h4) ⟨by decide, by decide⟩ (wO_U δ _ hu8) rfl rfl rfl rfl (Nat.le_of_ble_eq_true rfl) (fun r_89 s_89 h_89 => ?_)
            obtain ⟨rfl, h_89⟩ := h_89
            refine g_goto C 96 dX8_about_92 (by decide) ?_
            exact g_iret C E dX8_about_96 rfl rfl ⟨_, rfl, (by first | exact vPostC (fAbout_at hu_2 hu8 (fAb_4 h_15)) (h_89.trans ((KC_gr K R hu8 (by omega)).trans (gIf_t ((KC_ev K R hu8).mp h_81)).symm)) K (FC_r _) | exact vPostC (fAbout_at hu_2 hu8 (fAb_4 h_15)) ((gIf_f (fun z => h_81 ((KC_ev K R hu8).mpr z))).symm) K (FC_r _))⟩
        · skip
          refine g_if_eq C 95 dX8_about_84 (by decide) (fun c_84 => ?_) (fun c_84 => ?_)
          · refine g_iconst (v := 0) C dX8_about_95 (by decide) ?_
            exact g_iret C E dX8_about_96 rfl rfl ⟨_, rfl, (by first | exact vPostC (fAbout_at hu_2 hu8 (fAb_4 h_15)) (h_89.trans ((KC_gr K R hu8 (by omega)).trans (gIf_t ((KC_ev K R hu8).mp h_81)).symm)) K (FC_r _) | exact vPostC (fAbout_at hu_2 hu8 (fAb_4 h_15)) ((gIf_f (fun z => h_81 ((KC_ev K R hu8).mpr z))).symm) K (FC_r _))⟩
          · exact absurd c_84 (by decide)
      · rw [h_15]
        refine g_tableIn C 97 dX8_about_15 (by decide) (by decide) rfl (by decide) ?_
        refine g_aload_n C dX8_about_97 rfl ?_
        refine g_callVi C sV_X8_144 dX8_about_98 (c_X7_isLike _ δ _ hu8 hn h4) ⟨by decide, by decide⟩ (wO_U δ _ hu8) rfl rfl rfl rfl (Nat.le_of_ble_eq_true rfl) (fun r_98 s_98 h_98 => ?_)
        obtain ⟨rfl, h_98⟩ := h_98
        rcases h_98 with ⟨rfl, h_98⟩ | ⟨rfl, h_98⟩
        · skip
          refine g_if_eq C 108 dX8_about_101 (by decide) (fun c_101 => ?_) (fun c_101 => ?_)
          · exact absurd c_101 (by decide)
          · refine g_iconst (v := 1) C dX8_about_104 (by decide) ?_
            refine g_goto C 109 dX8_about_105 (by decide) ?_
            exact g_iret C E dX8_about_109 rfl rfl ⟨_, rfl, (by first | exact vPostC (fAbout_at hu_2 hu8 (fAb_5 h_15)) ((gIf_t ((KC_lk K R hu8 h2).mp h_98)).symm) K (FC_r _) | exact vPostC (fAbout_at hu_2 hu8 (fAb_5 h_15)) ((gIf_f (fun z => h_98 ((KC_lk K R hu8 h2).mpr z))).symm) K (FC_r _))⟩
        · skip
          refine g_if_eq C 108 dX8_about_101 (by decide) (fun c_101 => ?_) (fun c_101 => ?_)
          · refine g_iconst (v := 0) C dX8_about_108 (by decide) ?_
            exact g_iret C E dX8_about_109 rfl rfl ⟨_, rfl, (by first | exact vPostC (fAbout_at hu_2 hu8 (fAb_5 h_15)) ((gIf_t ((KC_lk K R hu8 h2).mp h_98)).symm) K (FC_r _) | exact vPostC (fAbout_at hu_2 hu8 (fAb_5 h_15)) ((gIf_f (fun z => h_98 ((KC_lk K R hu8 h2).mpr z))).symm) K (FC_r _))⟩
          · exact absurd c_101 (by decide)
set_option maxRecDepth 100000 in
set_option maxHeartbeats 4000000 in
theorem c_X2_takeLatest (l : Launch) (δ : GD) (σ : GS) {kl kn : Nat} (hl : gN σ 30 = nI kl) (hx : gN σ 31 = nI kn) (h20 : kl ≤ 20) (hn : kn < 20) : gM l δ yX2_takeLatest cX2_takeLatest 1 (some (.array .int)) 0 0 [.ref (δ.2.2.1 16)] σ (gPr (fun x σ' => (kl = 0 ∧ x = .null ∧ σ = σ') ∨ (¬ kl = 0 ∧ x = .ref (δ.2.2.1 (46 + (kn + 19) % 20)) ∧ σ' = uN (uN σ 30 (nI (kl - 1))) 31 (nI ((kn + 19) % 20))))) := by
  refine g_of (lv0 := [some (.ref (δ.2.2.1 16))]) (by decide) rfl (Nat.le_of_ble_eq_true rfl) (fun Γ hl C E => ?_)
  subst hl
  have C : gC Γ δ cX2_takeLatest RX2 1 0 0 := C
  refine g_aload_n C dX2_takeLatest_0 rfl ?_
  refine g_get C dX2_takeLatest_1 iwX2 rfl (wO_K δ _) 1 (Nat.le_of_ble_eq_true rfl) mW34 rfl rfl ?_
  rw [hl]
  refine g_if_ne C 9 dX2_takeLatest_4 (by decide) (fun c_4 => ?_) (fun c_4 => ?_)
  · have h0 : ¬ kl = 0 := fun e => c_4 (by rw [e]; rfl)
    refine g_aload_n C dX2_takeLatest_9 rfl ?_
    refine g_dup C dX2_takeLatest_10 rfl ?_
    refine g_get C dX2_takeLatest_11 iwX2 rfl (wO_K δ _) 1 (Nat.le_of_ble_eq_true rfl) mW34 rfl rfl ?_
    rw [hl]
    refine g_iconst (v := 1) C dX2_takeLatest_14 (by decide) ?_
    refine g_isub C dX2_takeLatest_15 ?_
    rw [gsub1 (by omega)]
    refine g_put C tyX2 dX2_takeLatest_16 iwX2 tyX2_ok nmX2 rfl (wO_K δ _) 1 (Nat.le_of_ble_eq_true rfl) mW34 rfl rfl rfl rfl rfl (Nat.le_of_ble_eq_true rfl) (pN_30 δ _ _) ?_
    refine g_aload_n C dX2_takeLatest_19 rfl ?_
    refine g_aload_n C dX2_takeLatest_20 rfl ?_
    refine g_get C dX2_takeLatest_21 iwX2 rfl (wO_K δ _) 2 (Nat.le_of_ble_eq_true rfl) mW36 rfl rfl ?_
    rw [gN_uN, if_neg (by decide), hx]
    refine g_bipush (v := 20) C dX2_takeLatest_24 (by decide) ?_
    refine g_iadd C dX2_takeLatest_26 ?_
    refine g_iconst (v := 1) C dX2_takeLatest_27 (by decide) ?_
    refine g_isub C dX2_takeLatest_28 ?_
    rw [show nI kn + 20 - 1 = nI (kn + 19) by rw [show (20 : Int32) = nI 20 from rfl, nI_add]; exact nI_pred (kn + 19)]
    refine g_bipush (v := 20) C dX2_takeLatest_29 (by decide) ?_
    refine g_irem C dX2_takeLatest_31 (by decide) ?_
    rw [gmod20 (by omega)]
    refine g_put C tyX2 dX2_takeLatest_32 iwX2 tyX2_ok nmX2 rfl (wO_K δ _) 2 (Nat.le_of_ble_eq_true rfl) mW36 rfl rfl rfl rfl rfl (Nat.le_of_ble_eq_true rfl) (pN_31 δ _ _) ?_
    refine g_aload_n C dX2_takeLatest_35 rfl ?_
    refine g_get C dX2_takeLatest_36 iwX2 rfl (wO_K δ _) 0 (Nat.le_of_ble_eq_true rfl) mW33 rfl rfl ?_
    refine g_aload_n C dX2_takeLatest_39 rfl ?_
    refine g_get C dX2_takeLatest_40 iwX2 rfl (wO_K δ _) 2 (Nat.le_of_ble_eq_true rfl) mW36 rfl rfl ?_
    rw [gN_uN, if_pos rfl]
    refine g_aaldK C ((kn + 19) % 20) dX2_takeLatest_43 rfl (by omega) (by first | rfl | assumption | (simp only [glit, nI_add, pk_mul]; done) | (simp only [glit, nI_add, pk_mul]; congr 1; omega) | (simp only [*, glit, nI_add, pk_mul]; congr 1; omega)) ?_
    exact g_aret C E dX2_takeLatest_44 rfl (by simp) (Or.inr ⟨_, rfl⟩) ⟨_, rfl, Or.inr ⟨h0, rfl, rfl⟩⟩
  · have h0 : kl = 0 := (nI_eq (by omega) (by omega)).mp c_4
    refine g_null C dX2_takeLatest_7 ?_
    exact g_aret C E dX2_takeLatest_8 rfl (by simp) (Or.inl rfl) ⟨_, rfl, Or.inl ⟨h0, rfl, rfl⟩⟩
set_option maxRecDepth 100000 in
set_option maxHeartbeats 4000000 in
theorem c_X8_undo (l : Launch) (δ : GD) (σ : GS) {v : GV} (K : KC σ v) (R : RV v) : gM l δ yX8_undo cX8_undo 3 (some .int) 2 40 [.ref (δ.2.2.1 0)] σ (gPi (fun x σ' => x = (fUndo v).1 ∧ KC σ' (fUndo v).2 ∧ FC σ σ')) := by
  refine g_of (lv0 := [some (.ref (δ.2.2.1 0)), none, none]) (by decide) rfl (Nat.le_of_ble_eq_true rfl) (fun Γ hl C E => ?_)
  subst hl
  have C : gC Γ δ cX8_undo RX8 3 2 40 := C
  have hm := K.1
  have h8 := R.1
  obtain ⟨kn, hkn, hx, -⟩ := id K.2.2.2.2
  have hl := K.2.2.2.1.2
  have h20 := K.2.2.2.1.1
  refine g_aload_n C dX8_undo_0 rfl ?_
  refine g_get C dX8_undo_1 iwX8 rfl (wO_X δ _) 2 (Nat.le_of_ble_eq_true rfl) mW219 rfl rfl ?_
  refine g_callVr C sV_X8_167 dX8_undo_4 (c_X2_takeLatest _ δ _ hl hx h20 hkn) ⟨by decide, by decide⟩ (wO_K δ _) rfl rfl rfl rfl (Nat.le_of_ble_eq_true rfl) (fun r_4 s_4 h_4 => ?_)
  rcases h_4 with ⟨h0, rfl, rfl⟩ | ⟨h0, rfl, h_4⟩
  · skip
    refine g_astore_nN C dX8_undo_7 (Nat.le_of_ble_eq_true rfl) rfl ?_
    refine g_lv [some _, some _, none] (gs_some (gs_some (gs_none gs_nil))) ?_
    refine g_aload_nN C dX8_undo_8 rfl ?_
    refine g_ifnonnull_n C dX8_undo_9 ?_
    refine g_bipush (v := (-2)) C dX8_undo_12 (by decide) ?_
    exact g_iret C E dX8_undo_14 rfl rfl ⟨_, rfl, vPostC (if_pos h0) rfl K (FC_r _)⟩
  · skip
    refine g_astore_n C dX8_undo_7 (Nat.le_of_ble_eq_true rfl) rfl ?_
    refine g_lv [some _, some _, none] (gs_some (gs_some (gs_none gs_nil))) ?_
    refine g_aload_n C dX8_undo_8 rfl ?_
    refine g_ifnonnull_r C 15 dX8_undo_9 (by decide) ?_
    refine g_iconst (v := 0) C dX8_undo_15 (by decide) ?_
    refine g_istore_n C dX8_undo_16 (Nat.le_of_ble_eq_true rfl) rfl ?_
    refine g_lv [some _, some _, some _] (gs_some (gs_some (gs_some gs_nil))) ?_
    have L_17 : ∀ (nn : Nat) (k : Nat) (s1 : GS) (hk : k ≤ 8) (hc : gCf s_4 s1 k (24 + (kn + 19) % 20)), 8 - k < nn → gW Γ δ s1 17 [some (.ref (δ.2.2.1 0)), some (.ref (δ.2.2.1 (46 + (kn + 19) % 20))), some (.int (nI k))] [] := by
      intro nn
      induction nn with
      | zero =>
        intro k s1 hk hc hm_17
        exact absurd hm_17 (Nat.not_lt_zero _)
      | succ nn ih_17 =>
        intro k s1 hk hc hm_17
        refine g_iload_n C dX8_undo_17 rfl ?_
        refine g_bipush (v := 8) C dX8_undo_18 (by decide) ?_
        refine g_icmp_ge C 43 dX8_undo_20 (by decide) (fun c_20 => ?_) (fun c_20 => ?_)
        · have k_20 := gle c_20 (a := 8) (b := k) (by first | rfl | assumption | (simp only [glit, nI_add, pk_mul]; done) | (simp only [glit, nI_add, pk_mul]; congr 1; omega) | (simp only [*, glit, nI_add, pk_mul]; congr 1; omega)) (by first | rfl | assumption | (simp only [glit, nI_add, pk_mul]; done) | (simp only [glit, nI_add, pk_mul]; congr 1; omega) | (simp only [*, glit, nI_add, pk_mul]; congr 1; omega)) (by omega) (by omega)
          have ek : k = 8 := by omega
          subst ek
          subst h_4
          obtain ⟨K3, F3⟩ := KC_undo K h0 hkn hx hc
          refine g_aload_n C dX8_undo_43 rfl ?_
          refine g_aload_n C dX8_undo_44 rfl ?_
          refine g_sipush (v := 200) C dX8_undo_45 (by decide) ?_
          refine g_ialdN C dX8_undo_48 (k := 200) (q := (24 + (kn + 19) % 20)) (by omega) (congrArg _ (by omega)) (by first | rfl | assumption | (simp only [glit, nI_add, pk_mul]; done) | (simp only [glit, nI_add, pk_mul]; congr 1; omega) | (simp only [*, glit, nI_add, pk_mul]; congr 1; omega)) (by rw [gLenI_k (Nat.mod_lt _ (by decide))]; omega) ?_
          refine g_put C tyX8 dX8_undo_49 iwX8 tyX8_ok nmX8 rfl (wO_X δ _) 9 (Nat.le_of_ble_eq_true rfl) mW226 rfl rfl rfl rfl rfl (Nat.le_of_ble_eq_true rfl) (pN_1 δ _ _) ?_
          refine g_iconst (v := 1) C dX8_undo_52 (by decide) ?_
          exact g_iret C E dX8_undo_53 rfl rfl ⟨_, rfl, vPostC (if_neg h0) rfl K3 F3⟩
        · have k_20 := gnle c_20 (a := 8) (b := k) (by first | rfl | assumption | (simp only [glit, nI_add, pk_mul]; done) | (simp only [glit, nI_add, pk_mul]; congr 1; omega) | (simp only [*, glit, nI_add, pk_mul]; congr 1; omega)) (by first | rfl | assumption | (simp only [glit, nI_add, pk_mul]; done) | (simp only [glit, nI_add, pk_mul]; congr 1; omega) | (simp only [*, glit, nI_add, pk_mul]; congr 1; omega)) (by omega) (by omega)
          refine g_aload_n C dX8_undo_23 rfl ?_
          refine g_get C dX8_undo_24 iwX8 rfl (wO_X δ _) 1 (Nat.le_of_ble_eq_true rfl) mW218 rfl rfl ?_
          refine g_iload_n C dX8_undo_27 rfl ?_
          refine g_aaldU C k dX8_undo_28 rfl (by omega) (by first | rfl | assumption | (simp only [glit, nI_add, pk_mul]; done) | (simp only [glit, nI_add, pk_mul]; congr 1; omega) | (simp only [*, glit, nI_add, pk_mul]; congr 1; omega)) ?_
          refine g_aload_n C dX8_undo_29 rfl ?_
          refine g_iload_n C dX8_undo_30 rfl ?_
          refine g_bipush (v := 25) C dX8_undo_31 (by decide) ?_
          refine g_imul C dX8_undo_33 ?_
          rw [show nI k * 25 = nI (25 * k) by rw [show (25 : Int32) = nI 25 from rfl, pk_mul, Nat.mul_comm]]
          refine g_callVv C sV_X8_171 dX8_undo_34 (c_X7_comeFrom _ δ _ (u := k) (w := (kn + 19) % 20) (b := 25 * k) (by omega) (by omega) (by omega)) ⟨by decide, by decide⟩ (wO_U δ _ (by omega)) rfl rfl rfl rfl (Nat.le_of_ble_eq_true rfl) (fun s_34 h_34 => ?_)
          obtain rfl := h_34
          refine g_iinc (v := nI (k + 1)) C dX8_undo_37 rfl (ginc _ 1) rfl ?_
          refine g_lv [some _, some _, some _] (gs_some (gs_some (gs_some gs_nil))) ?_
          refine g_goto C 17 dX8_undo_40 (by decide) ?_
          refine g_lv [some _, some _, some _] (gs_some (gs_some (gs_some gs_nil))) ?_
          exact ih_17 (k + 1) _ (by omega) (gCf_s (by omega) (by omega) hc) (by omega)
    refine g_lv [some _, some _, some _] (gs_some (gs_some (gs_some gs_nil))) ?_
    exact L_17 _ 0 _ (by omega) (gCf_0 _ _) (Nat.lt_succ_self _)
