set_option maxRecDepth 100000 in
set_option maxHeartbeats 4000000 in
theorem c_X8_timesb (l : Launch) (δ : GD) (σ : GS) (a0 a1 a2 a3 : Int32) {v : GV} (K : KC σ v) (R : RV v) {F : GF} (hF : CF σ F) (hZ : ZA σ) : gM l δ yX8_times cX8_times 7 (some .int) 6 156 [.ref (δ.2.2.1 0), .int a0, .int a1, .int a2, .int a3] σ (gPi (fun x σ' => x = aTimes v a0 a1 a2 a3 ∧ gSk σ σ' ∧ CF σ' (gFr (aTimes v a0 a1 a2 a3) (gTimes v a0 a1 a2 a3) F) ∧ ZA σ')) := by
  refine g_of (lv0 := [some (.ref (δ.2.2.1 0)), some (.int a0), some (.int a1), some (.int a2), some (.int a3), none, none]) (by decide) rfl (Nat.le_of_ble_eq_true rfl) (fun Γ hl C E => ?_)
  subst hl
  have C : gC Γ δ cX8_times RX8 7 6 156 := C
  have hm := K.1
  have h8 := R.1
  obtain ⟨kn, hkn, hx, -⟩ := id K.2.2.2.2
  have hl := K.2.2.2.1.2
  have h20 := K.2.2.2.1.1
  refine g_aload_n C dX8_times_0 rfl ?_
  refine g_iload_n C dX8_times_1 rfl ?_
  refine g_callVr C sV_X8_101 dX8_times_2 (c_X8_urnAt _ δ _ _ hm h8) ⟨by decide, by decide⟩ (wO_X δ _) rfl rfl rfl rfl (Nat.le_of_ble_eq_true rfl) (fun r_2 s_2 h_2 => ?_)
  obtain ⟨rfl, h_2⟩ := h_2
  rcases h_2 with ⟨rfl, h_2⟩ | ⟨u_2, hu_2, e_2, rfl⟩
  · skip
    refine g_astoreN C dX8_times_5 (Nat.le_of_ble_eq_true rfl) rfl ?_
    refine g_lv [some _, some _, some _, some _, some _, some _, none] (gs_some (gs_some (gs_some (gs_some (gs_some (gs_some (gs_none gs_nil))))))) ?_
    refine g_aloadN C dX8_times_7 rfl ?_
    refine g_ifnull_n C 40 dX8_times_9 (by decide) ?_
    refine g_iconst (v := (-1)) C dX8_times_40 (by decide) ?_
    exact g_iret C E dX8_times_41 rfl rfl ⟨_, rfl, TF_n (by first | exact (gIf_f (fun z => h_2 z.1.1)).symm | exact (gIf_f (fun z => h_13 z.1.2)).symm | exact (gIf_f (fun z => h_22 ((okC_n hu8).mp z.2.1))).symm | exact (gIf_f (fun z => gIx13n (Or.inl c_30) z.2.2)).symm | exact (gIf_f (fun z => gIx13n (Or.inr c_37) z.2.2)).symm) (by decide) (gSk_r _) (fun _ _ => rfl) hF hZ⟩
  · have hu8 : u_2 < 8 := by omega
    obtain ⟨h2, h4⟩ := (R.2.1 u_2 hu8).1 hu_2
    have hn := K.2.1 u_2 hu8
    subst e_2
    refine g_astore C dX8_times_5 (Nat.le_of_ble_eq_true rfl) rfl ?_
    refine g_lv [some _, some _, some _, some _, some _, some _, none] (gs_some (gs_some (gs_some (gs_some (gs_some (gs_some (gs_none gs_nil))))))) ?_
    refine g_aload C dX8_times_7 rfl ?_
    refine g_ifnull_r C dX8_times_9 ?_
    refine g_iload_n C dX8_times_12 rfl ?_
    refine g_callSi C sS_X8_192 dX8_times_13 (c_X8_areDraws _ δ _ _) ⟨by decide, by decide⟩ rfl rfl rfl (Nat.le_of_ble_eq_true rfl) (fun r_13 s_13 h_13 => ?_)
    obtain ⟨rfl, h_13⟩ := h_13
    rcases h_13 with ⟨rfl, h_13⟩ | ⟨rfl, h_13⟩
    · obtain ⟨k1, hk1, rfl⟩ := id h_13
      refine g_if_eq C 40 dX8_times_16 (by decide) (fun c_16 => ?_) (fun c_16 => ?_)
      · exact absurd c_16 (by decide)
      · refine g_aload C dX8_times_19 rfl ?_
        refine g_iload_n C dX8_times_21 rfl ?_
        refine g_callVi C sV_X8_105 dX8_times_22 (c_X7_has _ δ _ hu8 _ hn h4) ⟨by decide, by decide⟩ (wO_U δ _ hu8) rfl rfl rfl rfl (Nat.le_of_ble_eq_true rfl) (fun r_22 s_22 h_22 => ?_)
        obtain ⟨rfl, h_22⟩ := h_22
        rcases h_22 with ⟨rfl, h_22⟩ | ⟨rfl, h_22⟩
        · obtain ⟨c1, hc1, rfl⟩ := id h_22
          refine g_if_eq C 40 dX8_times_25 (by decide) (fun c_25 => ?_) (fun c_25 => ?_)
          · exact absurd c_25 (by decide)
          · refine g_iload C dX8_times_28 rfl ?_
            refine g_if_lt C 40 dX8_times_30 (by decide) (fun c_30 => ?_) (fun c_30 => ?_)
            · refine g_iconst (v := (-1)) C dX8_times_40 (by decide) ?_
              exact g_iret C E dX8_times_41 rfl rfl ⟨_, rfl, TF_n (by first | exact (gIf_f (fun z => h_2 z.1.1)).symm | exact (gIf_f (fun z => h_13 z.1.2)).symm | exact (gIf_f (fun z => h_22 ((okC_n hu8).mp z.2.1))).symm | exact (gIf_f (fun z => gIx13n (Or.inl c_30) z.2.2)).symm | exact (gIf_f (fun z => gIx13n (Or.inr c_37) z.2.2)).symm) (by decide) (gSk_r _) (fun _ _ => rfl) hF hZ⟩
            · refine g_iload C dX8_times_33 rfl ?_
              refine g_bipush (v := 12) C dX8_times_35 (by decide) ?_
              refine g_icmp_le C 42 dX8_times_37 (by decide) (fun c_37 => ?_) (fun c_37 => ?_)
              · obtain ⟨k2, hk2, rfl⟩ := gIx_12 c_30 c_37
                refine g_aload_n C dX8_times_42 rfl ?_
                refine g_aload C dX8_times_43 rfl ?_
                refine g_iload_n C dX8_times_45 rfl ?_
                refine g_iload_n C dX8_times_46 rfl ?_
                refine g_callVi C sV_X8_195 dX8_times_47 (c_X8_weighRowsb _ δ _ hu8 (k := k1) (c := c1) (by omega) (by omega) hZ K R) ⟨by decide, by decide⟩ (wO_X δ _) rfl rfl rfl rfl (Nat.le_of_ble_eq_true rfl) (fun r_47 s_47 h_47 => ?_)
                obtain ⟨h_47, z_47, hZ2, g_47, f_47⟩ := h_47
                refine g_istore C dX8_times_50 (Nat.le_of_ble_eq_true rfl) rfl ?_
                refine g_lv [some _, some _, some _, some _, some _, some _, some _] (gs_some (gs_some (gs_some (gs_some (gs_some (gs_some (gs_some gs_nil))))))) ?_
                refine g_iload C dX8_times_52 rfl ?_
                refine g_if_eq C 60 dX8_times_54 (by decide) (fun c_54 => ?_) (fun c_54 => ?_)
                · obtain ⟨he, hl, e7, hFin, e6⟩ := f_47 c_54
                  have d1 : 1 ≤ qD v u_2 k1 := dD_1 _ _ _
                  have hl : qD v u_2 k1 ≤ 10000000000000000 := hl
                  refine g_aload_n C dX8_times_60 rfl ?_
                  refine g_get C dX8_times_61 iwX8 rfl (wO_X δ _) 7 (Nat.le_of_ble_eq_true rfl) mW224 rfl rfl ?_
                  refine g_lconst (v := 0) C dX8_times_64 (by decide) ?_
                  refine g_aload_n C dX8_times_65 rfl ?_
                  refine g_get C dX8_times_66 iwX8 rfl (wO_X δ _) 6 (Nat.le_of_ble_eq_true rfl) mW223 rfl rfl ?_
                  refine g_get C dX8_times_69 iwX0 rfl (wO_A δ _) 5 (Nat.le_of_ble_eq_true rfl) mW114 rfl rfl ?_
                  refine g_iload C dX8_times_72 rfl ?_
                  refine g_laldN C dX8_times_74 (k := k2) (q := 10) (by decide) rfl (by first | rfl | assumption | (simp only [glit, nI_add, pk_mul]; done) | (simp only [glit, nI_add, pk_mul]; congr 1; omega) | (simp only [*, glit, nI_add, pk_mul]; congr 1; omega)) (show k2 < gLenL 10 from Nat.lt_of_lt_of_eq (show k2 < 13 by omega) rfl) ?_
                  rw [show gL s_47 10 k2 = lN (qTm v u_2 k1 c1 k2) from hFin.2.1 k2 (by omega)]
                  refine g_aload_n C dX8_times_75 rfl ?_
                  refine g_get C dX8_times_76 iwX8 rfl (wO_X δ _) 6 (Nat.le_of_ble_eq_true rfl) mW223 rfl rfl ?_
                  refine g_get C dX8_times_79 iwX0 rfl (wO_A δ _) 8 (Nat.le_of_ble_eq_true rfl) mW120 rfl rfl ?_
                  rw [e7]
                  refine g_callVv C sV_X8_189 dX8_times_82 (c_X1_becomeb _ δ _ (w := 0) (a := qTm v u_2 k1 c1 k2) (b := qD v u_2 k1) d1 (by omega) (by have := qTm_le R hu8 he (u := u_2) (k := k1) (c := c1) (q := k2) (by omega); unfold qD at *; omega)) ⟨by decide, by decide⟩ (wO_F δ _) rfl rfl rfl rfl (Nat.le_of_ble_eq_true rfl) (fun s_82 h_82 => ?_)
                  obtain ⟨zb, cb, lb, pb⟩ := h_82
                  refine g_iconst (v := 0) C dX8_times_85 (by decide) ?_
                  exact g_iret C E dX8_times_86 rfl rfl ⟨_, rfl, TF_y ((c_54.symm.trans h_47).trans (aTimes_at hu_2 hu8 hk1 hc1 ⟨k2, hk2, rfl⟩).symm) rfl (gSk_t z_47 zb) (by rw [gTimes_at hu8 hk1 (by omega) hk2]; exact cb) (ZA_e2 lb pb hZ2)⟩
                · refine g_iload C dX8_times_57 rfl ?_
                  exact g_iret C E dX8_times_59 rfl rfl ⟨_, rfl, TF_n (h_47.trans (aTimes_at hu_2 hu8 hk1 hc1 ⟨k2, hk2, rfl⟩).symm) c_54 z_47 g_47 hF hZ2⟩
              · refine g_iconst (v := (-1)) C dX8_times_40 (by decide) ?_
                exact g_iret C E dX8_times_41 rfl rfl ⟨_, rfl, TF_n (by first | exact (gIf_f (fun z => h_2 z.1.1)).symm | exact (gIf_f (fun z => h_13 z.1.2)).symm | exact (gIf_f (fun z => h_22 ((okC_n hu8).mp z.2.1))).symm | exact (gIf_f (fun z => gIx13n (Or.inl c_30) z.2.2)).symm | exact (gIf_f (fun z => gIx13n (Or.inr c_37) z.2.2)).symm) (by decide) (gSk_r _) (fun _ _ => rfl) hF hZ⟩
        · skip
          refine g_if_eq C 40 dX8_times_25 (by decide) (fun c_25 => ?_) (fun c_25 => ?_)
          · refine g_iconst (v := (-1)) C dX8_times_40 (by decide) ?_
            exact g_iret C E dX8_times_41 rfl rfl ⟨_, rfl, TF_n (by first | exact (gIf_f (fun z => h_2 z.1.1)).symm | exact (gIf_f (fun z => h_13 z.1.2)).symm | exact (gIf_f (fun z => h_22 ((okC_n hu8).mp z.2.1))).symm | exact (gIf_f (fun z => gIx13n (Or.inl c_30) z.2.2)).symm | exact (gIf_f (fun z => gIx13n (Or.inr c_37) z.2.2)).symm) (by decide) (gSk_r _) (fun _ _ => rfl) hF hZ⟩
          · exact absurd c_25 (by decide)
    · skip
      refine g_if_eq C 40 dX8_times_16 (by decide) (fun c_16 => ?_) (fun c_16 => ?_)
      · refine g_iconst (v := (-1)) C dX8_times_40 (by decide) ?_
        exact g_iret C E dX8_times_41 rfl rfl ⟨_, rfl, TF_n (by first | exact (gIf_f (fun z => h_2 z.1.1)).symm | exact (gIf_f (fun z => h_13 z.1.2)).symm | exact (gIf_f (fun z => h_22 ((okC_n hu8).mp z.2.1))).symm | exact (gIf_f (fun z => gIx13n (Or.inl c_30) z.2.2)).symm | exact (gIf_f (fun z => gIx13n (Or.inr c_37) z.2.2)).symm) (by decide) (gSk_r _) (fun _ _ => rfl) hF hZ⟩
      · exact absurd c_16 (by decide)
set_option maxRecDepth 100000 in
set_option maxHeartbeats 4000000 in
theorem c_X8_leftb (l : Launch) (δ : GD) (σ : GS) (a0 a1 a2 a3 : Int32) {v : GV} (K : KC σ v) (R : RV v) {F : GF} (hF : CF σ F) (hZ : ZA σ) : gM l δ yX8_left cX8_left 7 (some .int) 6 156 [.ref (δ.2.2.1 0), .int a0, .int a1, .int a2, .int a3] σ (gPi (fun x σ' => x = aLeft v a0 a1 a2 a3 ∧ gSk σ σ' ∧ CF σ' (gFr (aLeft v a0 a1 a2 a3) (gLeft v a0 a1 a2 a3) F) ∧ ZA σ')) := by
  refine g_of (lv0 := [some (.ref (δ.2.2.1 0)), some (.int a0), some (.int a1), some (.int a2), some (.int a3), none, none]) (by decide) rfl (Nat.le_of_ble_eq_true rfl) (fun Γ hl C E => ?_)
  subst hl
  have C : gC Γ δ cX8_left RX8 7 6 156 := C
  have hm := K.1
  have h8 := R.1
  obtain ⟨kn, hkn, hx, -⟩ := id K.2.2.2.2
  have hl := K.2.2.2.1.2
  have h20 := K.2.2.2.1.1
  refine g_aload_n C dX8_left_0 rfl ?_
  refine g_iload_n C dX8_left_1 rfl ?_
  refine g_callVr C sV_X8_101 dX8_left_2 (c_X8_urnAt _ δ _ _ hm h8) ⟨by decide, by decide⟩ (wO_X δ _) rfl rfl rfl rfl (Nat.le_of_ble_eq_true rfl) (fun r_2 s_2 h_2 => ?_)
  obtain ⟨rfl, h_2⟩ := h_2
  rcases h_2 with ⟨rfl, h_2⟩ | ⟨u_2, hu_2, e_2, rfl⟩
  · skip
    refine g_astoreN C dX8_left_5 (Nat.le_of_ble_eq_true rfl) rfl ?_
    refine g_lv [some _, some _, some _, some _, some _, some _, none] (gs_some (gs_some (gs_some (gs_some (gs_some (gs_some (gs_none gs_nil))))))) ?_
    refine g_aloadN C dX8_left_7 rfl ?_
    refine g_ifnull_n C 41 dX8_left_9 (by decide) ?_
    refine g_iconst (v := (-1)) C dX8_left_41 (by decide) ?_
    exact g_iret C E dX8_left_42 rfl rfl ⟨_, rfl, TF_n (by first | exact (gIf_f (fun z => h_2 z.1.1)).symm | exact (gIf_f (fun z => h_13 z.1.2)).symm | exact (gIf_f (fun z => h_22 ((okC_n hu8).mp z.2.1))).symm | exact (gIf_f (fun z => Int32.not_le.mpr c_30 z.2.2.1)).symm | exact (gIf_f (fun z => c_38 z.2.2.2)).symm) (by decide) (gSk_r _) (fun _ _ => rfl) hF hZ⟩
  · have hu8 : u_2 < 8 := by omega
    obtain ⟨h2, h4⟩ := (R.2.1 u_2 hu8).1 hu_2
    have hn := K.2.1 u_2 hu8
    subst e_2
    refine g_astore C dX8_left_5 (Nat.le_of_ble_eq_true rfl) rfl ?_
    refine g_lv [some _, some _, some _, some _, some _, some _, none] (gs_some (gs_some (gs_some (gs_some (gs_some (gs_some (gs_none gs_nil))))))) ?_
    refine g_aload C dX8_left_7 rfl ?_
    refine g_ifnull_r C dX8_left_9 ?_
    refine g_iload_n C dX8_left_12 rfl ?_
    refine g_callSi C sS_X8_192 dX8_left_13 (c_X8_areDraws _ δ _ _) ⟨by decide, by decide⟩ rfl rfl rfl (Nat.le_of_ble_eq_true rfl) (fun r_13 s_13 h_13 => ?_)
    obtain ⟨rfl, h_13⟩ := h_13
    rcases h_13 with ⟨rfl, h_13⟩ | ⟨rfl, h_13⟩
    · obtain ⟨k1, hk1, rfl⟩ := id h_13
      refine g_if_eq C 41 dX8_left_16 (by decide) (fun c_16 => ?_) (fun c_16 => ?_)
      · exact absurd c_16 (by decide)
      · refine g_aload C dX8_left_19 rfl ?_
        refine g_iload_n C dX8_left_21 rfl ?_
        refine g_callVi C sV_X8_105 dX8_left_22 (c_X7_has _ δ _ hu8 _ hn h4) ⟨by decide, by decide⟩ (wO_U δ _ hu8) rfl rfl rfl rfl (Nat.le_of_ble_eq_true rfl) (fun r_22 s_22 h_22 => ?_)
        obtain ⟨rfl, h_22⟩ := h_22
        rcases h_22 with ⟨rfl, h_22⟩ | ⟨rfl, h_22⟩
        · obtain ⟨c1, hc1, rfl⟩ := id h_22
          refine g_if_eq C 41 dX8_left_25 (by decide) (fun c_25 => ?_) (fun c_25 => ?_)
          · exact absurd c_25 (by decide)
          · refine g_iload C dX8_left_28 rfl ?_
            refine g_if_lt C 41 dX8_left_30 (by decide) (fun c_30 => ?_) (fun c_30 => ?_)
            · refine g_iconst (v := (-1)) C dX8_left_41 (by decide) ?_
              exact g_iret C E dX8_left_42 rfl rfl ⟨_, rfl, TF_n (by first | exact (gIf_f (fun z => h_2 z.1.1)).symm | exact (gIf_f (fun z => h_13 z.1.2)).symm | exact (gIf_f (fun z => h_22 ((okC_n hu8).mp z.2.1))).symm | exact (gIf_f (fun z => Int32.not_le.mpr c_30 z.2.2.1)).symm | exact (gIf_f (fun z => c_38 z.2.2.2)).symm) (by decide) (gSk_r _) (fun _ _ => rfl) hF hZ⟩
            · refine g_iload C dX8_left_33 rfl ?_
              refine g_sipush (v := 400) C dX8_left_35 (by decide) ?_
              refine g_icmp_le C 43 dX8_left_38 (by decide) (fun c_38 => ?_) (fun c_38 => ?_)
              · refine g_aload_n C dX8_left_43 rfl ?_
                refine g_aload C dX8_left_44 rfl ?_
                refine g_iload_n C dX8_left_46 rfl ?_
                refine g_iload_n C dX8_left_47 rfl ?_
                refine g_callVi C sV_X8_195 dX8_left_48 (c_X8_weighRowsb _ δ _ hu8 (k := k1) (c := c1) (by omega) (by omega) hZ K R) ⟨by decide, by decide⟩ (wO_X δ _) rfl rfl rfl rfl (Nat.le_of_ble_eq_true rfl) (fun r_48 s_48 h_48 => ?_)
                obtain ⟨h_48, z_48, hZ2, g_48, f_48⟩ := h_48
                refine g_istore C dX8_left_51 (Nat.le_of_ble_eq_true rfl) rfl ?_
                refine g_lv [some _, some _, some _, some _, some _, some _, some _] (gs_some (gs_some (gs_some (gs_some (gs_some (gs_some (gs_some gs_nil))))))) ?_
                refine g_iload C dX8_left_53 rfl ?_
                refine g_if_eq C 61 dX8_left_55 (by decide) (fun c_55 => ?_) (fun c_55 => ?_)
                · obtain ⟨he, hl, e7, hFin, e6⟩ := f_48 c_55
                  have d1 : 1 ≤ qD v u_2 k1 := dD_1 _ _ _
                  have hl : qD v u_2 k1 ≤ 10000000000000000 := hl
                  refine g_aload_n C dX8_left_61 rfl ?_
                  refine g_get C dX8_left_62 iwX8 rfl (wO_X δ _) 7 (Nat.le_of_ble_eq_true rfl) mW224 rfl rfl ?_
                  refine g_lconst (v := 0) C dX8_left_65 (by decide) ?_
                  refine g_iload C dX8_left_66 rfl ?_
                  refine g_sipush (v := 200) C dX8_left_68 (by decide) ?_
                  refine g_icmp_le C 78 dX8_left_71 (by decide) (fun c_71 => ?_) (fun c_71 => ?_)
                  · obtain ⟨ex, hx⟩ := g200 c_30 c_71
                    have ht : ¬ 200 < tn a3 := by unfold tn; omega
                    refine g_aload_n C dX8_left_78 rfl ?_
                    refine g_get C dX8_left_79 iwX8 rfl (wO_X δ _) 6 (Nat.le_of_ble_eq_true rfl) mW223 rfl rfl ?_
                    refine g_get C dX8_left_82 iwX0 rfl (wO_A δ _) 6 (Nat.le_of_ble_eq_true rfl) mW116 rfl rfl ?_
                    refine g_iload C dX8_left_85 rfl ?_
                    refine g_laldN C dX8_left_87 (k := a3.toInt.toNat) (q := 11) (by decide) rfl ex (show a3.toInt.toNat < gLenL 11 from Nat.lt_of_lt_of_eq (show a3.toInt.toNat < 201 by omega) rfl) ?_
                    rw [show gL s_48 11 a3.toInt.toNat = lN (qLf v u_2 k1 c1 (tn a3)) from hFin.2.2 _ (by omega)]
                    refine g_aload_n C dX8_left_88 rfl ?_
                    refine g_get C dX8_left_89 iwX8 rfl (wO_X δ _) 6 (Nat.le_of_ble_eq_true rfl) mW223 rfl rfl ?_
                    refine g_get C dX8_left_92 iwX0 rfl (wO_A δ _) 8 (Nat.le_of_ble_eq_true rfl) mW120 rfl rfl ?_
                    rw [e7]
                    refine g_callVv C sV_X8_189 dX8_left_95 (c_X1_becomeb _ δ _ (w := 0) (a := qLf v u_2 k1 c1 (tn a3)) (b := qD v u_2 k1) d1 (by omega) (by have := qLf_le R hu8 he (u := u_2) (k := k1) (c := c1) (z := tn a3) (by omega); unfold qD at *; omega)) ⟨by decide, by decide⟩ (wO_F δ _) rfl rfl rfl rfl (Nat.le_of_ble_eq_true rfl) (fun s_95 h_95 => ?_)
                    obtain ⟨zb, cb, lb, pb⟩ := h_95
                    refine g_iconst (v := 0) C dX8_left_98 (by decide) ?_
                    exact g_iret C E dX8_left_99 rfl rfl ⟨_, rfl, TF_y ((c_55.symm.trans h_48).trans (aLeft_at hu_2 hu8 hk1 hc1 ⟨Int32.not_lt.mp c_30, c_38⟩).symm) rfl (gSk_t z_48 zb) (by rw [gLeft_at hu8 hk1 (by omega)]; first | (rw [if_neg ht]; exact cb) | (rw [if_pos ht]; exact cb)) (ZA_e2 lb pb hZ2)⟩
                  · have ht : 200 < tn a3 := tn200 c_30 c_71
                    refine g_lconst (v := 0) C dX8_left_74 (by decide) ?_
                    refine g_goto C 88 dX8_left_75 (by decide) ?_
                    refine g_aload_n C dX8_left_88 rfl ?_
                    refine g_get C dX8_left_89 iwX8 rfl (wO_X δ _) 6 (Nat.le_of_ble_eq_true rfl) mW223 rfl rfl ?_
                    refine g_get C dX8_left_92 iwX0 rfl (wO_A δ _) 8 (Nat.le_of_ble_eq_true rfl) mW120 rfl rfl ?_
                    rw [e7]
                    refine g_callVv C sV_X8_189 dX8_left_95 (c_X1_becomeb _ δ _ (w := 0) (a := 0) (b := qD v u_2 k1) d1 (by omega) (by decide)) ⟨by decide, by decide⟩ (wO_F δ _) rfl rfl rfl rfl (Nat.le_of_ble_eq_true rfl) (fun s_95 h_95 => ?_)
                    obtain ⟨zb, cb, lb, pb⟩ := h_95
                    refine g_iconst (v := 0) C dX8_left_98 (by decide) ?_
                    exact g_iret C E dX8_left_99 rfl rfl ⟨_, rfl, TF_y ((c_55.symm.trans h_48).trans (aLeft_at hu_2 hu8 hk1 hc1 ⟨Int32.not_lt.mp c_30, c_38⟩).symm) rfl (gSk_t z_48 zb) (by rw [gLeft_at hu8 hk1 (by omega)]; first | (rw [if_neg ht]; exact cb) | (rw [if_pos ht]; exact cb)) (ZA_e2 lb pb hZ2)⟩
                · refine g_iload C dX8_left_58 rfl ?_
                  exact g_iret C E dX8_left_60 rfl rfl ⟨_, rfl, TF_n (h_48.trans (aLeft_at hu_2 hu8 hk1 hc1 ⟨Int32.not_lt.mp c_30, c_38⟩).symm) c_55 z_48 g_48 hF hZ2⟩
              · refine g_iconst (v := (-1)) C dX8_left_41 (by decide) ?_
                exact g_iret C E dX8_left_42 rfl rfl ⟨_, rfl, TF_n (by first | exact (gIf_f (fun z => h_2 z.1.1)).symm | exact (gIf_f (fun z => h_13 z.1.2)).symm | exact (gIf_f (fun z => h_22 ((okC_n hu8).mp z.2.1))).symm | exact (gIf_f (fun z => Int32.not_le.mpr c_30 z.2.2.1)).symm | exact (gIf_f (fun z => c_38 z.2.2.2)).symm) (by decide) (gSk_r _) (fun _ _ => rfl) hF hZ⟩
        · skip
          refine g_if_eq C 41 dX8_left_25 (by decide) (fun c_25 => ?_) (fun c_25 => ?_)
          · refine g_iconst (v := (-1)) C dX8_left_41 (by decide) ?_
            exact g_iret C E dX8_left_42 rfl rfl ⟨_, rfl, TF_n (by first | exact (gIf_f (fun z => h_2 z.1.1)).symm | exact (gIf_f (fun z => h_13 z.1.2)).symm | exact (gIf_f (fun z => h_22 ((okC_n hu8).mp z.2.1))).symm | exact (gIf_f (fun z => Int32.not_le.mpr c_30 z.2.2.1)).symm | exact (gIf_f (fun z => c_38 z.2.2.2)).symm) (by decide) (gSk_r _) (fun _ _ => rfl) hF hZ⟩
          · exact absurd c_25 (by decide)
    · skip
      refine g_if_eq C 41 dX8_left_16 (by decide) (fun c_16 => ?_) (fun c_16 => ?_)
      · refine g_iconst (v := (-1)) C dX8_left_41 (by decide) ?_
        exact g_iret C E dX8_left_42 rfl rfl ⟨_, rfl, TF_n (by first | exact (gIf_f (fun z => h_2 z.1.1)).symm | exact (gIf_f (fun z => h_13 z.1.2)).symm | exact (gIf_f (fun z => h_22 ((okC_n hu8).mp z.2.1))).symm | exact (gIf_f (fun z => Int32.not_le.mpr c_30 z.2.2.1)).symm | exact (gIf_f (fun z => c_38 z.2.2.2)).symm) (by decide) (gSk_r _) (fun _ _ => rfl) hF hZ⟩
      · exact absurd c_16 (by decide)
set_option maxRecDepth 100000 in
set_option maxHeartbeats 4000000 in
theorem c_X8_stuckb (l : Launch) (δ : GD) (σ : GS) (a0 a1 : Int32) {v : GV} (K : KC σ v) (R : RV v) {F : GF} (hF : CF σ F) (hZ : ZA σ) : gM l δ yX8_stuck cX8_stuck 5 (some .int) 6 156 [.ref (δ.2.2.1 0), .int a0, .int a1] σ (gPi (fun x σ' => x = aStuck v a0 a1 ∧ gSk σ σ' ∧ CF σ' (gFr (aStuck v a0 a1) (gStuck v a0 a1) F) ∧ ZA σ')) := by
  refine g_of (lv0 := [some (.ref (δ.2.2.1 0)), some (.int a0), some (.int a1), none, none]) (by decide) rfl (Nat.le_of_ble_eq_true rfl) (fun Γ hl C E => ?_)
  subst hl
  have C : gC Γ δ cX8_stuck RX8 5 6 156 := C
  have hm := K.1
  have h8 := R.1
  obtain ⟨kn, hkn, hx, -⟩ := id K.2.2.2.2
  have hl := K.2.2.2.1.2
  have h20 := K.2.2.2.1.1
  refine g_aload_n C dX8_stuck_0 rfl ?_
  refine g_iload_n C dX8_stuck_1 rfl ?_
  refine g_callVr C sV_X8_101 dX8_stuck_2 (c_X8_urnAt _ δ _ _ hm h8) ⟨by decide, by decide⟩ (wO_X δ _) rfl rfl rfl rfl (Nat.le_of_ble_eq_true rfl) (fun r_2 s_2 h_2 => ?_)
  obtain ⟨rfl, h_2⟩ := h_2
  rcases h_2 with ⟨rfl, h_2⟩ | ⟨u_2, hu_2, e_2, rfl⟩
  · skip
    refine g_astore_nN C dX8_stuck_5 (Nat.le_of_ble_eq_true rfl) rfl ?_
    refine g_lv [some _, some _, some _, some _, none] (gs_some (gs_some (gs_some (gs_some (gs_none gs_nil))))) ?_
    refine g_aload_nN C dX8_stuck_6 rfl ?_
    refine g_ifnull_n C 17 dX8_stuck_7 (by decide) ?_
    refine g_iconst (v := (-1)) C dX8_stuck_17 (by decide) ?_
    exact g_iret C E dX8_stuck_18 rfl rfl ⟨_, rfl, TF_n (by first | exact (gIf_f (fun z => h_2 z.1)).symm | exact (gIf_f (fun z => h_11 z.2)).symm) (by decide) (gSk_r _) (fun _ _ => rfl) hF hZ⟩
  · have hu8 : u_2 < 8 := by omega
    obtain ⟨h2, h4⟩ := (R.2.1 u_2 hu8).1 hu_2
    have hn := K.2.1 u_2 hu8
    subst e_2
    refine g_astore_n C dX8_stuck_5 (Nat.le_of_ble_eq_true rfl) rfl ?_
    refine g_lv [some _, some _, some _, some _, none] (gs_some (gs_some (gs_some (gs_some (gs_none gs_nil))))) ?_
    refine g_aload_n C dX8_stuck_6 rfl ?_
    refine g_ifnull_r C dX8_stuck_7 ?_
    refine g_iload_n C dX8_stuck_10 rfl ?_
    refine g_callSi C sS_X8_192 dX8_stuck_11 (c_X8_areDraws _ δ _ _) ⟨by decide, by decide⟩ rfl rfl rfl (Nat.le_of_ble_eq_true rfl) (fun r_11 s_11 h_11 => ?_)
    obtain ⟨rfl, h_11⟩ := h_11
    rcases h_11 with ⟨rfl, h_11⟩ | ⟨rfl, h_11⟩
    · obtain ⟨k1, hk1, rfl⟩ := id h_11
      refine g_if_ne C 19 dX8_stuck_14 (by decide) (fun c_14 => ?_) (fun c_14 => ?_)
      · refine g_aload_n C dX8_stuck_19 rfl ?_
        refine g_aload_n C dX8_stuck_20 rfl ?_
        refine g_iload_n C dX8_stuck_21 rfl ?_
        refine g_iconst (v := 0) C dX8_stuck_22 (by decide) ?_
        refine g_callVi C sV_X8_195 dX8_stuck_23 (c_X8_weighRowsb _ δ _ hu8 (k := k1) (c := 0) (by omega) (by omega) hZ K R) ⟨by decide, by decide⟩ (wO_X δ _) rfl rfl rfl rfl (Nat.le_of_ble_eq_true rfl) (fun r_23 s_23 h_23 => ?_)
        obtain ⟨h_23, z_23, hZ2, g_23, f_23⟩ := h_23
        refine g_istore C dX8_stuck_26 (Nat.le_of_ble_eq_true rfl) rfl ?_
        refine g_lv [some _, some _, some _, some _, some _] (gs_some (gs_some (gs_some (gs_some (gs_some gs_nil))))) ?_
        refine g_iload C dX8_stuck_28 rfl ?_
        refine g_if_eq C 36 dX8_stuck_30 (by decide) (fun c_30 => ?_) (fun c_30 => ?_)
        · obtain ⟨he, hl, e7, hFin, e6⟩ := f_23 c_30
          have d1 : 1 ≤ qD v u_2 k1 := dD_1 _ _ _
          have hl : qD v u_2 k1 ≤ 10000000000000000 := hl
          refine g_aload_n C dX8_stuck_36 rfl ?_
          refine g_get C dX8_stuck_37 iwX8 rfl (wO_X δ _) 7 (Nat.le_of_ble_eq_true rfl) mW224 rfl rfl ?_
          refine g_lconst (v := 0) C dX8_stuck_40 (by decide) ?_
          refine g_aload_n C dX8_stuck_41 rfl ?_
          refine g_get C dX8_stuck_42 iwX8 rfl (wO_X δ _) 6 (Nat.le_of_ble_eq_true rfl) mW223 rfl rfl ?_
          refine g_get C dX8_stuck_45 iwX0 rfl (wO_A δ _) 7 (Nat.le_of_ble_eq_true rfl) mW118 rfl rfl ?_
          rw [e6]
          refine g_aload_n C dX8_stuck_48 rfl ?_
          refine g_get C dX8_stuck_49 iwX8 rfl (wO_X δ _) 6 (Nat.le_of_ble_eq_true rfl) mW223 rfl rfl ?_
          refine g_get C dX8_stuck_52 iwX0 rfl (wO_A δ _) 8 (Nat.le_of_ble_eq_true rfl) mW120 rfl rfl ?_
          rw [e7]
          refine g_callVv C sV_X8_189 dX8_stuck_55 (c_X1_becomeb _ δ _ (w := 0) (a := wE (bS (vS v) u_2) (tS (vS v) u_2) alA (vT v u_2) (vG v u_2) k1) (b := qD v u_2 k1) d1 (by omega) (by have := qSt_le R hu8 he (u := u_2) (k := k1) (by omega) alA; unfold qD at *; omega)) ⟨by decide, by decide⟩ (wO_F δ _) rfl rfl rfl rfl (Nat.le_of_ble_eq_true rfl) (fun s_55 h_55 => ?_)
          obtain ⟨zb, cb, lb, pb⟩ := h_55
          refine g_iconst (v := 0) C dX8_stuck_58 (by decide) ?_
          exact g_iret C E dX8_stuck_59 rfl rfl ⟨_, rfl, TF_y ((c_30.symm.trans h_23).trans (aStuck_at hu_2 hu8 hk1).symm) rfl (gSk_t z_23 zb) (by rw [gStuck_at hu8 hk1]; exact cb) (ZA_e2 lb pb hZ2)⟩
        · refine g_iload C dX8_stuck_33 rfl ?_
          exact g_iret C E dX8_stuck_35 rfl rfl ⟨_, rfl, TF_n (h_23.trans (aStuck_at hu_2 hu8 hk1).symm) c_30 z_23 g_23 hF hZ2⟩
      · exact absurd c_14 (by decide)
    · skip
      refine g_if_ne C 19 dX8_stuck_14 (by decide) (fun c_14 => ?_) (fun c_14 => ?_)
      · exact absurd c_14 (by decide)
      · refine g_iconst (v := (-1)) C dX8_stuck_17 (by decide) ?_
        exact g_iret C E dX8_stuck_18 rfl rfl ⟨_, rfl, TF_n (by first | exact (gIf_f (fun z => h_2 z.1)).symm | exact (gIf_f (fun z => h_11 z.2)).symm) (by decide) (gSk_r _) (fun _ _ => rfl) hF hZ⟩
set_option maxRecDepth 100000 in
set_option maxHeartbeats 4000000 in
theorem c_X8_meanb (l : Launch) (δ : GD) (σ : GS) (a0 a1 a2 a3 : Int32) {v : GV} (K : KC σ v) (R : RV v) {F : GF} (hF : CF σ F) (hZ : ZA σ) : gM l δ yX8_mean cX8_mean 7 (some .int) 6 156 [.ref (δ.2.2.1 0), .int a0, .int a1, .int a2, .int a3] σ (gPi (fun x σ' => x = aMean v a0 a1 a2 a3 ∧ gSk σ σ' ∧ CF σ' (gFr (aMean v a0 a1 a2 a3) (gMean v a0 a1 a2 a3) F) ∧ ZA σ')) := by
  refine g_of (lv0 := [some (.ref (δ.2.2.1 0)), some (.int a0), some (.int a1), some (.int a2), some (.int a3), none, none]) (by decide) rfl (Nat.le_of_ble_eq_true rfl) (fun Γ hl C E => ?_)
  subst hl
  have C : gC Γ δ cX8_mean RX8 7 6 156 := C
  have hm := K.1
  have h8 := R.1
  obtain ⟨kn, hkn, hx, -⟩ := id K.2.2.2.2
  have hl := K.2.2.2.1.2
  have h20 := K.2.2.2.1.1
  refine g_aload_n C dX8_mean_0 rfl ?_
  refine g_iload_n C dX8_mean_1 rfl ?_
  refine g_callVr C sV_X8_101 dX8_mean_2 (c_X8_urnAt _ δ _ _ hm h8) ⟨by decide, by decide⟩ (wO_X δ _) rfl rfl rfl rfl (Nat.le_of_ble_eq_true rfl) (fun r_2 s_2 h_2 => ?_)
  obtain ⟨rfl, h_2⟩ := h_2
  rcases h_2 with ⟨rfl, h_2⟩ | ⟨u_2, hu_2, e_2, rfl⟩
  · skip
    refine g_astoreN C dX8_mean_5 (Nat.le_of_ble_eq_true rfl) rfl ?_
    refine g_lv [some _, some _, some _, some _, some _, some _, none] (gs_some (gs_some (gs_some (gs_some (gs_some (gs_some (gs_none gs_nil))))))) ?_
    refine g_aloadN C dX8_mean_7 rfl ?_
    refine g_ifnull_n C 40 dX8_mean_9 (by decide) ?_
    refine g_iconst (v := (-1)) C dX8_mean_40 (by decide) ?_
    exact g_iret C E dX8_mean_41 rfl rfl ⟨_, rfl, TF_n (by first | exact (gIf_f (fun z => h_2 z.1.1)).symm | exact (gIf_f (fun z => h_13 z.1.2)).symm | exact (gIf_f (fun z => h_22 ((okC_n hu8).mp z.2.1))).symm | exact (gIf_f (fun z => Int32.not_le.mpr c_31 z.2.2.1)).symm | exact (gIf_f (fun z => c_37 z.2.2.2)).symm) (by decide) (gSk_r _) (fun _ _ => rfl) hF hZ⟩
  · have hu8 : u_2 < 8 := by omega
    obtain ⟨h2, h4⟩ := (R.2.1 u_2 hu8).1 hu_2
    have hn := K.2.1 u_2 hu8
    subst e_2
    refine g_astore C dX8_mean_5 (Nat.le_of_ble_eq_true rfl) rfl ?_
    refine g_lv [some _, some _, some _, some _, some _, some _, none] (gs_some (gs_some (gs_some (gs_some (gs_some (gs_some (gs_none gs_nil))))))) ?_
    refine g_aload C dX8_mean_7 rfl ?_
    refine g_ifnull_r C dX8_mean_9 ?_
    refine g_iload_n C dX8_mean_12 rfl ?_
    refine g_callSi C sS_X8_192 dX8_mean_13 (c_X8_areDraws _ δ _ _) ⟨by decide, by decide⟩ rfl rfl rfl (Nat.le_of_ble_eq_true rfl) (fun r_13 s_13 h_13 => ?_)
    obtain ⟨rfl, h_13⟩ := h_13
    rcases h_13 with ⟨rfl, h_13⟩ | ⟨rfl, h_13⟩
    · obtain ⟨k1, hk1, rfl⟩ := id h_13
      refine g_if_eq C 40 dX8_mean_16 (by decide) (fun c_16 => ?_) (fun c_16 => ?_)
      · exact absurd c_16 (by decide)
      · refine g_aload C dX8_mean_19 rfl ?_
        refine g_iload_n C dX8_mean_21 rfl ?_
        refine g_callVi C sV_X8_105 dX8_mean_22 (c_X7_has _ δ _ hu8 _ hn h4) ⟨by decide, by decide⟩ (wO_U δ _ hu8) rfl rfl rfl rfl (Nat.le_of_ble_eq_true rfl) (fun r_22 s_22 h_22 => ?_)
        obtain ⟨rfl, h_22⟩ := h_22
        rcases h_22 with ⟨rfl, h_22⟩ | ⟨rfl, h_22⟩
        · obtain ⟨c1, hc1, rfl⟩ := id h_22
          refine g_if_eq C 40 dX8_mean_25 (by decide) (fun c_25 => ?_) (fun c_25 => ?_)
          · exact absurd c_25 (by decide)
          · refine g_iload C dX8_mean_28 rfl ?_
            refine g_iconst (v := 1) C dX8_mean_30 (by decide) ?_
            refine g_icmp_lt C 40 dX8_mean_31 (by decide) (fun c_31 => ?_) (fun c_31 => ?_)
            · refine g_iconst (v := (-1)) C dX8_mean_40 (by decide) ?_
              exact g_iret C E dX8_mean_41 rfl rfl ⟨_, rfl, TF_n (by first | exact (gIf_f (fun z => h_2 z.1.1)).symm | exact (gIf_f (fun z => h_13 z.1.2)).symm | exact (gIf_f (fun z => h_22 ((okC_n hu8).mp z.2.1))).symm | exact (gIf_f (fun z => Int32.not_le.mpr c_31 z.2.2.1)).symm | exact (gIf_f (fun z => c_37 z.2.2.2)).symm) (by decide) (gSk_r _) (fun _ _ => rfl) hF hZ⟩
            · refine g_iload C dX8_mean_34 rfl ?_
              refine g_iconst (v := 3) C dX8_mean_36 (by decide) ?_
              refine g_icmp_le C 42 dX8_mean_37 (by decide) (fun c_37 => ?_) (fun c_37 => ?_)
              · have h3b : 1 ≤ a3 ∧ a3 ≤ 3 := ⟨Int32.not_lt.mp c_31, c_37⟩
                obtain ⟨m3, hm3, rfl⟩ := gIx_3 c_31 c_37
                refine g_aload_n C dX8_mean_42 rfl ?_
                refine g_aload C dX8_mean_43 rfl ?_
                refine g_iload_n C dX8_mean_45 rfl ?_
                refine g_iload_n C dX8_mean_46 rfl ?_
                refine g_callVi C sV_X8_195 dX8_mean_47 (c_X8_weighRowsb _ δ _ hu8 (k := k1) (c := c1) (by omega) (by omega) hZ K R) ⟨by decide, by decide⟩ (wO_X δ _) rfl rfl rfl rfl (Nat.le_of_ble_eq_true rfl) (fun r_47 s_47 h_47 => ?_)
                obtain ⟨h_47, z_47, hZ2, g_47, f_47⟩ := h_47
                refine g_istore C dX8_mean_50 (Nat.le_of_ble_eq_true rfl) rfl ?_
                refine g_lv [some _, some _, some _, some _, some _, some _, some _] (gs_some (gs_some (gs_some (gs_some (gs_some (gs_some (gs_some gs_nil))))))) ?_
                refine g_iload C dX8_mean_52 rfl ?_
                refine g_if_eq C 60 dX8_mean_54 (by decide) (fun c_54 => ?_) (fun c_54 => ?_)
                · obtain ⟨he, hl, e7, hFin, e6⟩ := f_47 c_54
                  have d1 : 1 ≤ qD v u_2 k1 := dD_1 _ _ _
                  have hl : qD v u_2 k1 ≤ 10000000000000000 := hl
                  refine g_aload_n C dX8_mean_60 rfl ?_
                  refine g_get C dX8_mean_61 iwX8 rfl (wO_X δ _) 6 (Nat.le_of_ble_eq_true rfl) mW223 rfl rfl ?_
                  refine g_iload C dX8_mean_64 rfl ?_
                  refine g_callVv C sV_X8_209 dX8_mean_66 (c_X0_findMeanb _ δ _ (m := m3) (D := qD v u_2 k1) (B := fun z => qLf v u_2 k1 c1 z) hm3.1 hm3.2 d1 hl hFin.2.2 (fun z _ => qLf_le R hu8 he (by omega)) e7) ⟨by decide, by decide⟩ (wO_A δ _) rfl rfl rfl rfl (Nat.le_of_ble_eq_true rfl) (fun s_66 h_66 => ?_)
                  obtain rfl := h_66
                  refine g_aload_n C dX8_mean_69 rfl ?_
                  refine g_get C dX8_mean_70 iwX8 rfl (wO_X δ _) 7 (Nat.le_of_ble_eq_true rfl) mW224 rfl rfl ?_
                  refine g_aload_n C dX8_mean_73 rfl ?_
                  refine g_get C dX8_mean_74 iwX8 rfl (wO_X δ _) 6 (Nat.le_of_ble_eq_true rfl) mW223 rfl rfl ?_
                  refine g_get C dX8_mean_77 iwX0 rfl (wO_A δ _) 9 (Nat.le_of_ble_eq_true rfl) mW122 rfl rfl ?_
                  rw [gG_uG, if_neg (by decide), gG_uG, if_pos rfl]
                  refine g_aload_n C dX8_mean_80 rfl ?_
                  refine g_get C dX8_mean_81 iwX8 rfl (wO_X δ _) 6 (Nat.le_of_ble_eq_true rfl) mW223 rfl rfl ?_
                  refine g_get C dX8_mean_84 iwX0 rfl (wO_A δ _) 10 (Nat.le_of_ble_eq_true rfl) mW124 rfl rfl ?_
                  rw [gG_uG, if_pos rfl]
                  refine g_aload_n C dX8_mean_87 rfl ?_
                  refine g_get C dX8_mean_88 iwX8 rfl (wO_X δ _) 6 (Nat.le_of_ble_eq_true rfl) mW223 rfl rfl ?_
                  refine g_get C dX8_mean_91 iwX0 rfl (wO_A δ _) 8 (Nat.le_of_ble_eq_true rfl) mW120 rfl rfl ?_
                  rw [gG_uG, if_neg (by decide), gG_uG, if_neg (by decide), e7]
                  refine g_callVv C sV_X8_189 dX8_mean_94 (c_X1_becomeb _ δ _ (w := qMn v u_2 k1 c1 m3 / qD v u_2 k1) (a := qMn v u_2 k1 c1 m3 % qD v u_2 k1) (b := qD v u_2 k1) d1 (by omega) (Nat.lt_trans (Nat.mod_lt _ d1) (by omega))) ⟨by decide, by decide⟩ (wO_F δ _) rfl rfl rfl rfl (Nat.le_of_ble_eq_true rfl) (fun s_94 h_94 => ?_)
                  obtain ⟨zb, cb, lb, pb⟩ := h_94
                  refine g_iconst (v := 0) C dX8_mean_97 (by decide) ?_
                  exact g_iret C E dX8_mean_98 rfl rfl ⟨_, rfl, TF_y ((c_54.symm.trans h_47).trans (aMean_at hu_2 hu8 hk1 hc1 h3b).symm) rfl (gSk_t (gSk_G (by omega) (gSk_G (by omega) z_47)) zb) (by rw [gMean_at hu8 hk1 (by omega) hm3.2]; exact cb) (ZA_e2 lb pb hZ2)⟩
                · refine g_iload C dX8_mean_57 rfl ?_
                  exact g_iret C E dX8_mean_59 rfl rfl ⟨_, rfl, TF_n (h_47.trans (aMean_at hu_2 hu8 hk1 hc1 h3b).symm) c_54 z_47 g_47 hF hZ2⟩
              · refine g_iconst (v := (-1)) C dX8_mean_40 (by decide) ?_
                exact g_iret C E dX8_mean_41 rfl rfl ⟨_, rfl, TF_n (by first | exact (gIf_f (fun z => h_2 z.1.1)).symm | exact (gIf_f (fun z => h_13 z.1.2)).symm | exact (gIf_f (fun z => h_22 ((okC_n hu8).mp z.2.1))).symm | exact (gIf_f (fun z => Int32.not_le.mpr c_31 z.2.2.1)).symm | exact (gIf_f (fun z => c_37 z.2.2.2)).symm) (by decide) (gSk_r _) (fun _ _ => rfl) hF hZ⟩
        · skip
          refine g_if_eq C 40 dX8_mean_25 (by decide) (fun c_25 => ?_) (fun c_25 => ?_)
          · refine g_iconst (v := (-1)) C dX8_mean_40 (by decide) ?_
            exact g_iret C E dX8_mean_41 rfl rfl ⟨_, rfl, TF_n (by first | exact (gIf_f (fun z => h_2 z.1.1)).symm | exact (gIf_f (fun z => h_13 z.1.2)).symm | exact (gIf_f (fun z => h_22 ((okC_n hu8).mp z.2.1))).symm | exact (gIf_f (fun z => Int32.not_le.mpr c_31 z.2.2.1)).symm | exact (gIf_f (fun z => c_37 z.2.2.2)).symm) (by decide) (gSk_r _) (fun _ _ => rfl) hF hZ⟩
          · exact absurd c_25 (by decide)
    · skip
      refine g_if_eq C 40 dX8_mean_16 (by decide) (fun c_16 => ?_) (fun c_16 => ?_)
      · refine g_iconst (v := (-1)) C dX8_mean_40 (by decide) ?_
        exact g_iret C E dX8_mean_41 rfl rfl ⟨_, rfl, TF_n (by first | exact (gIf_f (fun z => h_2 z.1.1)).symm | exact (gIf_f (fun z => h_13 z.1.2)).symm | exact (gIf_f (fun z => h_22 ((okC_n hu8).mp z.2.1))).symm | exact (gIf_f (fun z => Int32.not_le.mpr c_31 z.2.2.1)).symm | exact (gIf_f (fun z => c_37 z.2.2.2)).symm) (by decide) (gSk_r _) (fun _ _ => rfl) hF hZ⟩
      · exact absurd c_16 (by decide)
set_option maxRecDepth 100000 in
set_option maxHeartbeats 4000000 in
theorem c_X8_toldb (l : Launch) (δ : GD) (σ : GS) (a0 a1 a2 a3 a4 : Int32) {v : GV} (K : KC σ v) (R : RV v) {F : GF} (hF : CF σ F) (hZ : ZA σ) : gM l δ yX8_told cX8_told 9 (some .int) 5 133 [.ref (δ.2.2.1 0), .int a0, .int a1, .int a2, .int a3, .int a4] σ (gPi (fun _ σ' => gSk σ σ' ∧ CF σ' (gIf (toldOk v a0 a1 a2 a3 a4) (gTold v a0 a1 a2 a3 a4) F) ∧ ZA σ')) := by
  refine g_of (lv0 := [some (.ref (δ.2.2.1 0)), some (.int a0), some (.int a1), some (.int a2), some (.int a3), some (.int a4), none, none, none]) (by decide) rfl (Nat.le_of_ble_eq_true rfl) (fun Γ hl C E => ?_)
  subst hl
  have C : gC Γ δ cX8_told RX8 9 5 133 := C
  have hm := K.1
  have h8 := R.1
  obtain ⟨kn, hkn, hx, -⟩ := id K.2.2.2.2
  have hl := K.2.2.2.1.2
  have h20 := K.2.2.2.1.1
  refine g_aload_n C dX8_told_0 rfl ?_
  refine g_iload_n C dX8_told_1 rfl ?_
  refine g_callVr C sV_X8_101 dX8_told_2 (c_X8_urnAt _ δ _ _ hm h8) ⟨by decide, by decide⟩ (wO_X δ _) rfl rfl rfl rfl (Nat.le_of_ble_eq_true rfl) (fun r_2 s_2 h_2 => ?_)
  obtain ⟨rfl, h_2⟩ := h_2
  rcases h_2 with ⟨rfl, h_2⟩ | ⟨u_2, hu_2, e_2, rfl⟩
  · skip
    refine g_astoreN C dX8_told_5 (Nat.le_of_ble_eq_true rfl) rfl ?_
    refine g_lv [some _, some _, some _, some _, some _, some _, some _, none, none] (gs_some (gs_some (gs_some (gs_some (gs_some (gs_some (gs_some (gs_none (gs_none gs_nil))))))))) ?_
    refine g_aloadN C dX8_told_7 rfl ?_
    refine g_ifnull_n C 49 dX8_told_9 (by decide) ?_
    refine g_iconst (v := (-1)) C dX8_told_49 (by decide) ?_
    exact g_iret C E dX8_told_50 rfl rfl ⟨_, rfl, TP_n (by first | exact fun z => h_2 z.1.1.1 | exact fun z => Int32.not_le.mpr c_14 z.1.1.2.1 | exact fun z => Int32.not_lt.mpr c_20 z.1.1.2.2.1 | exact fun z => Int32.not_le.mpr c_27 z.1.1.2.2.2 | exact fun z => h_33 ((okC_n hu8).mp z.1.2.1) | exact fun z => h_43 ((okC_n hu8).mp z.1.2.2)) (gSk_r _) (fun _ _ => rfl) hF hZ⟩
  · have hu8 : u_2 < 8 := by omega
    obtain ⟨h2, h4⟩ := (R.2.1 u_2 hu8).1 hu_2
    have hn := K.2.1 u_2 hu8
    subst e_2
    refine g_astore C dX8_told_5 (Nat.le_of_ble_eq_true rfl) rfl ?_
    refine g_lv [some _, some _, some _, some _, some _, some _, some _, none, none] (gs_some (gs_some (gs_some (gs_some (gs_some (gs_some (gs_some (gs_none (gs_none gs_nil))))))))) ?_
    refine g_aload C dX8_told_7 rfl ?_
    refine g_ifnull_r C dX8_told_9 ?_
    refine g_iload_n C dX8_told_12 rfl ?_
    refine g_iconst (v := 1) C dX8_told_13 (by decide) ?_
    refine g_icmp_lt C 49 dX8_told_14 (by decide) (fun c_14 => ?_) (fun c_14 => ?_)
    · refine g_iconst (v := (-1)) C dX8_told_49 (by decide) ?_
      exact g_iret C E dX8_told_50 rfl rfl ⟨_, rfl, TP_n (by first | exact fun z => h_2 z.1.1.1 | exact fun z => Int32.not_le.mpr c_14 z.1.1.2.1 | exact fun z => Int32.not_lt.mpr c_20 z.1.1.2.2.1 | exact fun z => Int32.not_le.mpr c_27 z.1.1.2.2.2 | exact fun z => h_33 ((okC_n hu8).mp z.1.2.1) | exact fun z => h_43 ((okC_n hu8).mp z.1.2.2)) (gSk_r _) (fun _ _ => rfl) hF hZ⟩
    · refine g_iload C dX8_told_17 rfl ?_
      refine g_iload_n C dX8_told_19 rfl ?_
      refine g_icmp_le C 49 dX8_told_20 (by decide) (fun c_20 => ?_) (fun c_20 => ?_)
      · refine g_iconst (v := (-1)) C dX8_told_49 (by decide) ?_
        exact g_iret C E dX8_told_50 rfl rfl ⟨_, rfl, TP_n (by first | exact fun z => h_2 z.1.1.1 | exact fun z => Int32.not_le.mpr c_14 z.1.1.2.1 | exact fun z => Int32.not_lt.mpr c_20 z.1.1.2.2.1 | exact fun z => Int32.not_le.mpr c_27 z.1.1.2.2.2 | exact fun z => h_33 ((okC_n hu8).mp z.1.2.1) | exact fun z => h_43 ((okC_n hu8).mp z.1.2.2)) (gSk_r _) (fun _ _ => rfl) hF hZ⟩
      · refine g_iload C dX8_told_23 rfl ?_
        refine g_bipush (v := 12) C dX8_told_25 (by decide) ?_
        refine g_icmp_gt C 49 dX8_told_27 (by decide) (fun c_27 => ?_) (fun c_27 => ?_)
        · refine g_iconst (v := (-1)) C dX8_told_49 (by decide) ?_
          exact g_iret C E dX8_told_50 rfl rfl ⟨_, rfl, TP_n (by first | exact fun z => h_2 z.1.1.1 | exact fun z => Int32.not_le.mpr c_14 z.1.1.2.1 | exact fun z => Int32.not_lt.mpr c_20 z.1.1.2.2.1 | exact fun z => Int32.not_le.mpr c_27 z.1.1.2.2.2 | exact fun z => h_33 ((okC_n hu8).mp z.1.2.1) | exact fun z => h_43 ((okC_n hu8).mp z.1.2.2)) (gSk_r _) (fun _ _ => rfl) hF hZ⟩
        · obtain ⟨i1, j1, hi1, hj1, hj2, rfl, rfl⟩ := gij c_14 c_20 c_27
          refine g_aload C dX8_told_30 rfl ?_
          refine g_iload_n C dX8_told_32 rfl ?_
          refine g_callVi C sV_X8_105 dX8_told_33 (c_X7_has _ δ _ hu8 _ hn h4) ⟨by decide, by decide⟩ (wO_U δ _ hu8) rfl rfl rfl rfl (Nat.le_of_ble_eq_true rfl) (fun r_33 s_33 h_33 => ?_)
          obtain ⟨rfl, h_33⟩ := h_33
          rcases h_33 with ⟨rfl, h_33⟩ | ⟨rfl, h_33⟩
          · obtain ⟨c1, hc1, rfl⟩ := id h_33
            refine g_if_eq C 49 dX8_told_36 (by decide) (fun c_36 => ?_) (fun c_36 => ?_)
            · exact absurd c_36 (by decide)
            · refine g_aload C dX8_told_39 rfl ?_
              refine g_iload C dX8_told_41 rfl ?_
              refine g_callVi C sV_X8_105 dX8_told_43 (c_X7_has _ δ _ hu8 _ hn h4) ⟨by decide, by decide⟩ (wO_U δ _ hu8) rfl rfl rfl rfl (Nat.le_of_ble_eq_true rfl) (fun r_43 s_43 h_43 => ?_)
              obtain ⟨rfl, h_43⟩ := h_43
              rcases h_43 with ⟨rfl, h_43⟩ | ⟨rfl, h_43⟩
              · obtain ⟨d1, hd1, rfl⟩ := id h_43
                refine g_if_ne C 51 dX8_told_46 (by decide) (fun c_46 => ?_) (fun c_46 => ?_)
                · refine g_aload C dX8_told_51 rfl ?_
                  refine g_callVi C sV_X8_136 dX8_told_53 (c_X7_isEven _ δ _ hu8 hn h4) ⟨by decide, by decide⟩ (wO_U δ _ hu8) rfl rfl rfl rfl (Nat.le_of_ble_eq_true rfl) (fun r_53 s_53 h_53 => ?_)
                  obtain ⟨rfl, h_53⟩ := h_53
                  rcases h_53 with ⟨rfl, h_53⟩ | ⟨rfl, h_53⟩
                  · have he := (KC_ev K R hu8).mp h_53
                    refine g_if_eq C 67 dX8_told_56 (by decide) (fun c_56 => ?_) (fun c_56 => ?_)
                    · exact absurd c_56 (by decide)
                    · refine g_aload C dX8_told_59 rfl ?_
                      refine g_callVi C sV_X8_129 dX8_told_61 (c_X7_total _ δ _ hu8) ⟨by decide, by decide⟩ (wO_U δ _ hu8) rfl rfl rfl rfl (Nat.le_of_ble_eq_true rfl) (fun r_61 s_61 h_61 => ?_)
                      obtain ⟨rfl, rfl⟩ := h_61
                      rw [KC_sum K hu8]
                      refine g_if_ne C 70 dX8_told_64 (by decide) (fun c_64 => ?_) (fun c_64 => ?_)
                      · refine g_aload_n C dX8_told_70 rfl ?_
                        refine g_get C dX8_told_71 iwX8 rfl (wO_X δ _) 6 (Nat.le_of_ble_eq_true rfl) mW223 rfl rfl ?_
                        refine g_callVv C sV_X8_218 dX8_told_74 (c_X0_letAnyb _ δ _) ⟨by decide, by decide⟩ (wO_A δ _) rfl rfl rfl rfl (Nat.le_of_ble_eq_true rfl) (fun s_74 h_74 => ?_)
                        obtain ⟨f, rfl, hf⟩ := h_74
                        refine g_aload_n C dX8_told_77 rfl ?_
                        refine g_get C dX8_told_78 iwX8 rfl (wO_X δ _) 6 (Nat.le_of_ble_eq_true rfl) mW223 rfl rfl ?_
                        refine g_iload C dX8_told_81 rfl ?_
                        refine g_iload C dX8_told_83 rfl ?_
                        refine g_callVv C sV_X8_221 dX8_told_85 (c_X0_letOnlyb _ δ _ (i := j1) (by omega) (by omega) (nI d1)) ⟨by decide, by decide⟩ (wO_A δ _) rfl rfl rfl rfl (Nat.le_of_ble_eq_true rfl) (fun s_85 h_85 => ?_)
                        obtain rfl := h_85
                        refine g_aload_n C dX8_told_88 rfl ?_
                        refine g_get C dX8_told_89 iwX8 rfl (wO_X δ _) 6 (Nat.le_of_ble_eq_true rfl) mW223 rfl rfl ?_
                        refine g_aload C dX8_told_92 rfl ?_
                        refine g_iload C dX8_told_94 rfl ?_
                        refine g_callVl C sV_X8_224 dX8_told_96 (c_X0_countRowsb _ δ (uI (uI σ 47 f) 47 (upd f (j1 - 1) (nI d1))) hu8 (k := j1) (by omega) (al := alJ j1 d1) (halJ hf (by omega) (by omega) (by omega)) hZ (KC_sk (a := σ) (by repeat (first | (with_reducible assumption) | (with_reducible exact gSk_r _) | (with_reducible refine gSk_I (by omega) ?_) | (with_reducible refine gSk_L (by omega) ?_) | (with_reducible refine gSk_N (by omega) ?_) | (with_reducible refine gSk_G (by omega) ?_) | (with_reducible refine gSk_P ?_))) K) R) ⟨by decide, by decide⟩ (wO_A δ _) rfl rfl rfl rfl (Nat.le_of_ble_eq_true rfl) (fun r_96 s_96 h_96 => ?_)
                        obtain ⟨hU1, hZ3, rfl⟩ := h_96
                        refine g_lconst (v := 0) C dX8_told_99 (by decide) ?_
                        refine g_lcmp C dX8_told_100 ?_
                        refine g_if_ne C 107 dX8_told_101 (by decide) (fun c_101 => ?_) (fun c_101 => ?_)
                        · rw [lg_cmp_eq] at c_101
                          have hq0 : ¬ qTo v u_2 j1 (alJ j1 d1) = 0 := fun z => c_101 (by rw [qTo_f.mpr z]; rfl)
                          refine g_aload_n C dX8_told_107 rfl ?_
                          refine g_get C dX8_told_108 iwX8 rfl (wO_X δ _) 6 (Nat.le_of_ble_eq_true rfl) mW223 rfl rfl ?_
                          refine g_aload C dX8_told_111 rfl ?_
                          refine g_iload C dX8_told_113 rfl ?_
                          refine g_callVi C sV_X8_228 dX8_told_115 (c_X0_findBelowb _ δ _ hu8 (k := j1) (by omega) (KC_sk (a := σ) (gSk_t (by repeat (first | (with_reducible assumption) | (with_reducible exact gSk_r _) | (with_reducible refine gSk_I (by omega) ?_) | (with_reducible refine gSk_L (by omega) ?_) | (with_reducible refine gSk_N (by omega) ?_) | (with_reducible refine gSk_G (by omega) ?_) | (with_reducible refine gSk_P ?_))) hU1.1) K) R) ⟨by decide, by decide⟩ (wO_A δ _) rfl rfl rfl rfl (Nat.le_of_ble_eq_true rfl) (fun r_115 s_115 h_115 => ?_)
                          rcases h_115 with ⟨rfl, hl, rfl⟩ | ⟨rfl, hl, y, rfl⟩
                          · skip
                            refine g_if_ne C 124 dX8_told_118 (by decide) (fun c_118 => ?_) (fun c_118 => ?_)
                            · refine g_aload_n C dX8_told_124 rfl ?_
                              refine g_get C dX8_told_125 iwX8 rfl (wO_X δ _) 6 (Nat.le_of_ble_eq_true rfl) mW223 rfl rfl ?_
                              refine g_aload C dX8_told_128 rfl ?_
                              refine g_iload C dX8_told_130 rfl ?_
                              refine g_iload C dX8_told_132 rfl ?_
                              refine g_callVv C sV_X8_232 dX8_told_134 (c_X0_weighb _ δ (uG s_96 7 (lN (dD (vT v u_2) (vG v u_2) j1))) hu8 (k := j1) (c := d1) (by omega) (by omega) (al := alJ j1 d1) (by rw [show gI (uG s_96 7 (lN (dD (vT v u_2) (vG v u_2) j1))) 47 = upd f (j1 - 1) (nI d1) from hU1.2.1]; exact halJ hf (by omega) (by omega) (by omega)) hZ3 (KC_sk (a := σ) (gSk_G (by omega) (gSk_t (by repeat (first | (with_reducible assumption) | (with_reducible exact gSk_r _) | (with_reducible refine gSk_I (by omega) ?_) | (with_reducible refine gSk_L (by omega) ?_) | (with_reducible refine gSk_N (by omega) ?_) | (with_reducible refine gSk_G (by omega) ?_) | (with_reducible refine gSk_P ?_))) hU1.1)) K) R he hl) ⟨by decide, by decide⟩ (wO_A δ _) rfl rfl rfl rfl (Nat.le_of_ble_eq_true rfl) (fun s_134 h_134 => ?_)
                              obtain ⟨hU2, hZ4, hFa, -⟩ := h_134
                              refine g_aload_n C dX8_told_137 rfl ?_
                              refine g_get C dX8_told_138 iwX8 rfl (wO_X δ _) 6 (Nat.le_of_ble_eq_true rfl) mW223 rfl rfl ?_
                              refine g_callVl C sV_X8_236 dX8_told_141 (c_X0_throughb _ δ _ hFa.2.1) ⟨by decide, by decide⟩ (wO_A δ _) rfl rfl rfl rfl (Nat.le_of_ble_eq_true rfl) (fun r_141 s_141 h_141 => ?_)
                              obtain ⟨rfl, rfl⟩ := h_141
                              rw [tX_sum (wA_13 R hu8 (by omega) (by omega))]
                              refine g_lstore C dX8_told_144 (Nat.le_of_ble_eq_true rfl) rfl ?_
                              refine g_lv [some _, some _, some _, some _, some _, some _, some _, some _, none] (gs_some (gs_some (gs_some (gs_some (gs_some (gs_some (gs_some (gs_some (gs_none gs_nil))))))))) ?_
                              refine g_aload_n C dX8_told_146 rfl ?_
                              refine g_get C dX8_told_147 iwX8 rfl (wO_X δ _) 6 (Nat.le_of_ble_eq_true rfl) mW223 rfl rfl ?_
                              refine g_iload_n C dX8_told_150 rfl ?_
                              refine g_iload_n C dX8_told_151 rfl ?_
                              refine g_callVv C sV_X8_221 dX8_told_152 (c_X0_letOnlyb _ δ _ (i := i1) (by omega) (by omega) (nI c1)) ⟨by decide, by decide⟩ (wO_A δ _) rfl rfl rfl rfl (Nat.le_of_ble_eq_true rfl) (fun s_152 h_152 => ?_)
                              obtain rfl := h_152
                              refine g_aload_n C dX8_told_155 rfl ?_
                              refine g_get C dX8_told_156 iwX8 rfl (wO_X δ _) 6 (Nat.le_of_ble_eq_true rfl) mW223 rfl rfl ?_
                              refine g_aload C dX8_told_159 rfl ?_
                              refine g_iload C dX8_told_161 rfl ?_
                              refine g_iload C dX8_told_163 rfl ?_
                              refine g_callVv C sV_X8_232 dX8_told_165 (c_X0_weighb _ δ (uI s_134 47 (upd (gI s_134 47) (i1 - 1) (nI c1))) hu8 (k := j1) (c := d1) (by omega) (by omega) (al := alIJ i1 c1 j1 d1) (by rw [show gI (uI s_134 47 (upd (gI s_134 47) (i1 - 1) (nI c1))) 47 = upd (upd f (j1 - 1) (nI d1)) (i1 - 1) (nI c1) from by show upd (gI s_134 47) (i1 - 1) (nI c1) = _; rw [show gI s_134 47 = upd f (j1 - 1) (nI d1) from hU2.2.1.trans hU1.2.1]]; exact halIJ hf (by omega) (by omega) (by omega) (by omega) (by omega)) hZ4 (KC_sk (a := σ) (gSk_I (by omega) (gSk_t (gSk_G (by omega) (gSk_t (by repeat (first | (with_reducible assumption) | (with_reducible exact gSk_r _) | (with_reducible refine gSk_I (by omega) ?_) | (with_reducible refine gSk_L (by omega) ?_) | (with_reducible refine gSk_N (by omega) ?_) | (with_reducible refine gSk_G (by omega) ?_) | (with_reducible refine gSk_P ?_))) hU1.1)) hU2.1)) K) R he hl) ⟨by decide, by decide⟩ (wO_A δ _) rfl rfl rfl rfl (Nat.le_of_ble_eq_true rfl) (fun s_165 h_165 => ?_)
                              obtain ⟨hU3, hZ5, hFb, -⟩ := h_165
                              refine g_aload_n C dX8_told_168 rfl ?_
                              refine g_get C dX8_told_169 iwX8 rfl (wO_X δ _) 7 (Nat.le_of_ble_eq_true rfl) mW224 rfl rfl ?_
                              refine g_lconst (v := 0) C dX8_told_172 (by decide) ?_
                              refine g_aload_n C dX8_told_173 rfl ?_
                              refine g_get C dX8_told_174 iwX8 rfl (wO_X δ _) 6 (Nat.le_of_ble_eq_true rfl) mW223 rfl rfl ?_
                              refine g_callVl C sV_X8_236 dX8_told_177 (c_X0_throughb _ δ _ hFb.2.1) ⟨by decide, by decide⟩ (wO_A δ _) rfl rfl rfl rfl (Nat.le_of_ble_eq_true rfl) (fun r_177 s_177 h_177 => ?_)
                              obtain ⟨rfl, rfl⟩ := h_177
                              rw [tX_sum (wA_13 R hu8 (by omega) (by omega))]
                              refine g_lload C dX8_told_180 rfl ?_
                              refine g_callVv C sV_X8_189 dX8_told_182 (c_X1_becomeb _ δ _ (w := 0) (a := qTo v u_2 j1 (alIJ i1 c1 j1 d1)) (b := qTo v u_2 j1 (alJ j1 d1)) (by omega) (by have := qTo_le R hu8 he (u := u_2) (k := j1) (by omega) (alJ j1 d1); omega) (by have := qTo_le R hu8 he (u := u_2) (k := j1) (by omega) (alIJ i1 c1 j1 d1); omega)) ⟨by decide, by decide⟩ (wO_F δ _) rfl rfl rfl rfl (Nat.le_of_ble_eq_true rfl) (fun s_182 h_182 => ?_)
                              obtain ⟨zb, cb, lb, pb⟩ := h_182
                              refine g_iconst (v := 0) C dX8_told_185 (by decide) ?_
                              exact g_iret C E dX8_told_186 rfl rfl ⟨_, rfl, TP_y ((toldOk_i hu_2 hu8 hi1 hj1 hj2 hc1 hd1 h4).mpr ⟨⟨he, c_64⟩, hl, hq0⟩) (gSk_t (gSk_t (gSk_I (by omega) (gSk_t (gSk_G (by omega) (gSk_t (by repeat (first | (with_reducible assumption) | (with_reducible exact gSk_r _) | (with_reducible refine gSk_I (by omega) ?_) | (with_reducible refine gSk_L (by omega) ?_) | (with_reducible refine gSk_N (by omega) ?_) | (with_reducible refine gSk_G (by omega) ?_) | (with_reducible refine gSk_P ?_))) hU1.1)) hU2.1)) hU3.1) zb) (by rw [gTold_at hu8 (by omega) (by omega) hj2 (by omega)]; exact cb) (ZA_e2 lb pb hZ5)⟩
                            · exact absurd c_118 (by decide)
                          · skip
                            refine g_if_ne C 124 dX8_told_118 (by decide) (fun c_118 => ?_) (fun c_118 => ?_)
                            · exact absurd c_118 (by decide)
                            · refine g_bipush (v := (-6)) C dX8_told_121 (by decide) ?_
                              exact g_iret C E dX8_told_123 rfl rfl ⟨_, rfl, TP_n (fun z => Nat.not_le.mpr hl ((toldOk_i hu_2 hu8 hi1 hj1 hj2 hc1 hd1 h4).mp z).2.1) (gSk_G (by omega) (gSk_t (by repeat (first | (with_reducible assumption) | (with_reducible exact gSk_r _) | (with_reducible refine gSk_I (by omega) ?_) | (with_reducible refine gSk_L (by omega) ?_) | (with_reducible refine gSk_N (by omega) ?_) | (with_reducible refine gSk_G (by omega) ?_) | (with_reducible refine gSk_P ?_))) hU1.1)) (fun q hq => (if_neg (show ¬ q = 7 by omega)).trans (hU1.2.2.2 q hq)) hF hZ3⟩
                        · rw [lg_cmp_eq] at c_101
                          have hq0 : qTo v u_2 j1 (alJ j1 d1) = 0 := qTo_f.mp ((lN_z (by have := wW_4 (f := bS (vS v) u_2) (t := tS (vS v) u_2) (al := alJ j1 d1) (show j1 ≤ 12 by omega); omega)).mp c_101)
                          refine g_bipush (v := (-2)) C dX8_told_104 (by decide) ?_
                          exact g_iret C E dX8_told_106 rfl rfl ⟨_, rfl, TP_n (fun z => ((toldOk_i hu_2 hu8 hi1 hj1 hj2 hc1 hd1 h4).mp z).2.2 hq0) (gSk_t (by repeat (first | (with_reducible assumption) | (with_reducible exact gSk_r _) | (with_reducible refine gSk_I (by omega) ?_) | (with_reducible refine gSk_L (by omega) ?_) | (with_reducible refine gSk_N (by omega) ?_) | (with_reducible refine gSk_G (by omega) ?_) | (with_reducible refine gSk_P ?_))) hU1.1) hU1.2.2.2 hF hZ3⟩
                      · refine g_bipush (v := (-2)) C dX8_told_67 (by decide) ?_
                        exact g_iret C E dX8_told_69 rfl rfl ⟨_, rfl, TP_n (by first | exact fun z => he ((toldOk_i hu_2 hu8 hi1 hj1 hj2 hc1 hd1 h4).mp z).1.1 | exact fun z => ((toldOk_i hu_2 hu8 hi1 hj1 hj2 hc1 hd1 h4).mp z).1.2 c_64) (gSk_r _) (fun _ _ => rfl) hF hZ⟩
                  · have he := fun z => h_53 ((KC_ev K R hu8).mpr z)
                    refine g_if_eq C 67 dX8_told_56 (by decide) (fun c_56 => ?_) (fun c_56 => ?_)
                    · refine g_bipush (v := (-2)) C dX8_told_67 (by decide) ?_
                      exact g_iret C E dX8_told_69 rfl rfl ⟨_, rfl, TP_n (by first | exact fun z => he ((toldOk_i hu_2 hu8 hi1 hj1 hj2 hc1 hd1 h4).mp z).1.1 | exact fun z => ((toldOk_i hu_2 hu8 hi1 hj1 hj2 hc1 hd1 h4).mp z).1.2 c_64) (gSk_r _) (fun _ _ => rfl) hF hZ⟩
                    · exact absurd c_56 (by decide)
                · exact absurd c_46 (by decide)
              · skip
                refine g_if_ne C 51 dX8_told_46 (by decide) (fun c_46 => ?_) (fun c_46 => ?_)
                · exact absurd c_46 (by decide)
                · refine g_iconst (v := (-1)) C dX8_told_49 (by decide) ?_
                  exact g_iret C E dX8_told_50 rfl rfl ⟨_, rfl, TP_n (by first | exact fun z => h_2 z.1.1.1 | exact fun z => Int32.not_le.mpr c_14 z.1.1.2.1 | exact fun z => Int32.not_lt.mpr c_20 z.1.1.2.2.1 | exact fun z => Int32.not_le.mpr c_27 z.1.1.2.2.2 | exact fun z => h_33 ((okC_n hu8).mp z.1.2.1) | exact fun z => h_43 ((okC_n hu8).mp z.1.2.2)) (gSk_r _) (fun _ _ => rfl) hF hZ⟩
          · skip
            refine g_if_eq C 49 dX8_told_36 (by decide) (fun c_36 => ?_) (fun c_36 => ?_)
            · refine g_iconst (v := (-1)) C dX8_told_49 (by decide) ?_
              exact g_iret C E dX8_told_50 rfl rfl ⟨_, rfl, TP_n (by first | exact fun z => h_2 z.1.1.1 | exact fun z => Int32.not_le.mpr c_14 z.1.1.2.1 | exact fun z => Int32.not_lt.mpr c_20 z.1.1.2.2.1 | exact fun z => Int32.not_le.mpr c_27 z.1.1.2.2.2 | exact fun z => h_33 ((okC_n hu8).mp z.1.2.1) | exact fun z => h_43 ((okC_n hu8).mp z.1.2.2)) (gSk_r _) (fun _ _ => rfl) hF hZ⟩
            · exact absurd c_36 (by decide)
set_option maxRecDepth 100000 in
set_option maxHeartbeats 4000000 in
theorem c_X8_shareb (l : Launch) (δ : GD) (σ : GS) (a0 a1 a2 : Int32) {v : GV} (K : KC σ v) (R : RV v) {F : GF} (hF : CF σ F) (hZ : ZA σ) : gM l δ yX8_share cX8_share 11 (some .int) 2 60 [.ref (δ.2.2.1 0), .int a0, .int a1, .int a2] σ (gPi (fun x σ' => x = aShare v a0 a1 a2 ∧ gSk σ σ' ∧ CF σ' (gFr (aShare v a0 a1 a2) (gShare v a0 a1 a2) F) ∧ ZA σ')) := by
  refine g_of (lv0 := [some (.ref (δ.2.2.1 0)), some (.int a0), some (.int a1), some (.int a2), none, none, none, none, none, none, none]) (by decide) rfl (Nat.le_of_ble_eq_true rfl) (fun Γ hl C E => ?_)
  subst hl
  have C : gC Γ δ cX8_share RX8 11 2 60 := C
  have hm := K.1
  have h8 := R.1
  obtain ⟨kn, hkn, hx, -⟩ := id K.2.2.2.2
  have hl := K.2.2.2.1.2
  have h20 := K.2.2.2.1.1
  refine g_aload_n C dX8_share_0 rfl ?_
  refine g_iload_n C dX8_share_1 rfl ?_
  refine g_callVr C sV_X8_101 dX8_share_2 (c_X8_urnAt _ δ _ _ hm h8) ⟨by decide, by decide⟩ (wO_X δ _) rfl rfl rfl rfl (Nat.le_of_ble_eq_true rfl) (fun r_2 s_2 h_2 => ?_)
  obtain ⟨rfl, h_2⟩ := h_2
  rcases h_2 with ⟨rfl, h_2⟩ | ⟨u_2, hu_2, e_2, rfl⟩
  · skip
    refine g_astoreN C dX8_share_5 (Nat.le_of_ble_eq_true rfl) rfl ?_
    refine g_lv [some _, some _, some _, some _, some _, none, none, none, none, none, none] (gs_some (gs_some (gs_some (gs_some (gs_some (gs_none (gs_none (gs_none (gs_none (gs_none (gs_none gs_nil))))))))))) ?_
    refine g_aloadN C dX8_share_7 rfl ?_
    refine g_ifnull_n C 31 dX8_share_9 (by decide) ?_
    refine g_iconst (v := (-1)) C dX8_share_31 (by decide) ?_
    exact g_iret C E dX8_share_32 rfl rfl ⟨_, rfl, TF_n (by first | exact (gIf_f (fun z => h_2 z.1.1)).symm | exact (gIf_f (fun z => h_15 ((okC_n hu8).mp z.1.2))).symm | exact (gIf_f (fun z => Int32.not_le.mpr c_23 z.2.1)).symm | exact (gIf_f (fun z => c_28 z.2.2)).symm) (by decide) (gSk_r _) (fun _ _ => rfl) hF hZ⟩
  · have hu8 : u_2 < 8 := by omega
    obtain ⟨h2, h4⟩ := (R.2.1 u_2 hu8).1 hu_2
    have hn := K.2.1 u_2 hu8
    subst e_2
    refine g_astore C dX8_share_5 (Nat.le_of_ble_eq_true rfl) rfl ?_
    refine g_lv [some _, some _, some _, some _, some _, none, none, none, none, none, none] (gs_some (gs_some (gs_some (gs_some (gs_some (gs_none (gs_none (gs_none (gs_none (gs_none (gs_none gs_nil))))))))))) ?_
    refine g_aload C dX8_share_7 rfl ?_
    refine g_ifnull_r C dX8_share_9 ?_
    refine g_aload C dX8_share_12 rfl ?_
    refine g_iload_n C dX8_share_14 rfl ?_
    refine g_callVi C sV_X8_105 dX8_share_15 (c_X7_has _ δ _ hu8 _ hn h4) ⟨by decide, by decide⟩ (wO_U δ _ hu8) rfl rfl rfl rfl (Nat.le_of_ble_eq_true rfl) (fun r_15 s_15 h_15 => ?_)
    obtain ⟨rfl, h_15⟩ := h_15
    rcases h_15 with ⟨rfl, h_15⟩ | ⟨rfl, h_15⟩
    · obtain ⟨c1, hc1, rfl⟩ := id h_15
      refine g_if_eq C 31 dX8_share_18 (by decide) (fun c_18 => ?_) (fun c_18 => ?_)
      · exact absurd c_18 (by decide)
      · refine g_iload_n C dX8_share_21 rfl ?_
        refine g_iconst (v := 1) C dX8_share_22 (by decide) ?_
        refine g_icmp_lt C 31 dX8_share_23 (by decide) (fun c_23 => ?_) (fun c_23 => ?_)
        · refine g_iconst (v := (-1)) C dX8_share_31 (by decide) ?_
          exact g_iret C E dX8_share_32 rfl rfl ⟨_, rfl, TF_n (by first | exact (gIf_f (fun z => h_2 z.1.1)).symm | exact (gIf_f (fun z => h_15 ((okC_n hu8).mp z.1.2))).symm | exact (gIf_f (fun z => Int32.not_le.mpr c_23 z.2.1)).symm | exact (gIf_f (fun z => c_28 z.2.2)).symm) (by decide) (gSk_r _) (fun _ _ => rfl) hF hZ⟩
        · refine g_iload_n C dX8_share_26 rfl ?_
          refine g_iconst (v := 4) C dX8_share_27 (by decide) ?_
          refine g_icmp_le C 33 dX8_share_28 (by decide) (fun c_28 => ?_) (fun c_28 => ?_)
          · have h4b : 1 ≤ a2 ∧ a2 ≤ 4 := ⟨Int32.not_lt.mp c_23, c_28⟩
            obtain ⟨k1, hk1, rfl⟩ := gIx_4 c_23 c_28
            refine g_aload C dX8_share_33 rfl ?_
            refine g_iconst (v := 0) C dX8_share_35 (by decide) ?_
            refine g_callVi C sV_X8_140 dX8_share_36 (c_X7_growth _ δ _ hu8 (c := 0) (by omega) hn h4) ⟨by decide, by decide⟩ (wO_U δ _ hu8) rfl rfl rfl rfl (Nat.le_of_ble_eq_true rfl) (fun r_36 s_36 h_36 => ?_)
            obtain ⟨rfl, rfl⟩ := h_36
            rw [KC_gr K R hu8 (by omega)]
            refine g_istore C dX8_share_39 (Nat.le_of_ble_eq_true rfl) rfl ?_
            refine g_lv [some _, some _, some _, some _, some _, some _, none, none, none, none, none] (gs_some (gs_some (gs_some (gs_some (gs_some (gs_some (gs_none (gs_none (gs_none (gs_none (gs_none gs_nil))))))))))) ?_
            refine g_aload C dX8_share_41 rfl ?_
            refine g_callVi C sV_X8_144 dX8_share_43 (c_X7_isLike _ δ _ hu8 hn h4) ⟨by decide, by decide⟩ (wO_U δ _ hu8) rfl rfl rfl rfl (Nat.le_of_ble_eq_true rfl) (fun r_43 s_43 h_43 => ?_)
            obtain ⟨rfl, h_43⟩ := h_43
            rcases h_43 with ⟨rfl, h_43⟩ | ⟨rfl, h_43⟩
            · have hl := (KC_lk K R hu8 h2).mp h_43
              refine g_if_eq C 62 dX8_share_46 (by decide) (fun c_46 => ?_) (fun c_46 => ?_)
              · exact absurd c_46 (by decide)
              · refine g_iload C dX8_share_49 rfl ?_
                refine g_if_le C 62 dX8_share_51 (by decide) (fun c_51 => ?_) (fun c_51 => ?_)
                · refine g_bipush (v := (-2)) C dX8_share_62 (by decide) ?_
                  exact g_iret C E dX8_share_64 rfl rfl ⟨_, rfl, TF_n ((aShare_at hu_2 hu8 hc1 h4b).trans (gIf_f (by first | exact fun z => hl z.1 | exact fun z => z.2.1 (Int32.le_antisymm c_51 hl.1.2) | exact fun z => z.2.2 c_59))).symm (by decide) (gSk_r _) (fun _ _ => rfl) hF hZ⟩
                · refine g_aload C dX8_share_54 rfl ?_
                  refine g_callVi C sV_X8_129 dX8_share_56 (c_X7_total _ δ _ hu8) ⟨by decide, by decide⟩ (wO_U δ _ hu8) rfl rfl rfl rfl (Nat.le_of_ble_eq_true rfl) (fun r_56 s_56 h_56 => ?_)
                  obtain ⟨rfl, rfl⟩ := h_56
                  rw [KC_sum K hu8]
                  refine g_if_ne C 65 dX8_share_59 (by decide) (fun c_59 => ?_) (fun c_59 => ?_)
                  · refine g_lconst (v := 1) C dX8_share_65 (by decide) ?_
                    refine g_lstore C dX8_share_66 (Nat.le_of_ble_eq_true rfl) rfl ?_
                    refine g_lv [some _, some _, some _, some _, some _, some _, some _, none, none, none, none] (gs_some (gs_some (gs_some (gs_some (gs_some (gs_some (gs_some (gs_none (gs_none (gs_none (gs_none gs_nil))))))))))) ?_
                    refine g_lconst (v := 1) C dX8_share_68 (by decide) ?_
                    refine g_lstore C dX8_share_69 (Nat.le_of_ble_eq_true rfl) rfl ?_
                    refine g_lv [some _, some _, some _, some _, some _, some _, some _, none, some _, none, none] (gs_some (gs_some (gs_some (gs_some (gs_some (gs_some (gs_some (gs_none (gs_some (gs_none (gs_none gs_nil))))))))))) ?_
                    refine g_iconst (v := 0) C dX8_share_71 (by decide) ?_
                    refine g_istore C dX8_share_72 (Nat.le_of_ble_eq_true rfl) rfl ?_
                    refine g_lv [some _, some _, some _, some _, some _, some _, some _, none, some _, none, some _] (gs_some (gs_some (gs_some (gs_some (gs_some (gs_some (gs_some (gs_none (gs_some (gs_none (gs_some gs_nil))))))))))) ?_
                    have L_74 : ∀ (nn : Nat) (i : Nat) (hi : i ≤ k1), k1 - i < nn → gW Γ δ σ 74 [some (.ref (δ.2.2.1 0)), some (.int (nI u_2)), some (.int (nI c1)), some (.int (nI k1)), some (.ref (δ.2.2.1 (8 + u_2))), some (.int (gGr (tS (vS v) u_2) 0 4)), some (.long (pSh (bS (vS v) u_2 c1) (gGr (tS (vS v) u_2) 0 4) i)), none, some (.long (pSh (sumS (vS v) u_2) (gGr (tS (vS v) u_2) 0 4) i)), none, some (.int (nI i))] [] := by
                      intro nn
                      induction nn with
                      | zero =>
                        intro i hi hm_74
                        exact absurd hm_74 (Nat.not_lt_zero _)
                      | succ nn ih_74 =>
                        intro i hi hm_74
                        refine g_iload C dX8_share_74 rfl ?_
                        refine g_iload_n C dX8_share_76 rfl ?_
                        refine g_icmp_ge C 122 dX8_share_77 (by decide) (fun c_77 => ?_) (fun c_77 => ?_)
                        · have k_77 := gle c_77 (a := k1) (b := i) (by first | rfl | assumption | (simp only [glit, nI_add, pk_mul]; done) | (simp only [glit, nI_add, pk_mul]; congr 1; omega) | (simp only [*, glit, nI_add, pk_mul]; congr 1; omega)) (by first | rfl | assumption | (simp only [glit, nI_add, pk_mul]; done) | (simp only [glit, nI_add, pk_mul]; congr 1; omega) | (simp only [*, glit, nI_add, pk_mul]; congr 1; omega)) (by omega) (by omega)
                          have ei : i = k1 := by omega
                          subst ei
                          obtain ⟨⟨p1, p2⟩, p3, p4, p5⟩ := sh_b R hu8 (c := c1) (by omega) c_51 c_59 (m := i) (by omega)
                          rw [p1, p3]
                          refine g_aload_n C dX8_share_122 rfl ?_
                          refine g_get C dX8_share_123 iwX8 rfl (wO_X δ _) 7 (Nat.le_of_ble_eq_true rfl) mW224 rfl rfl ?_
                          refine g_lconst (v := 0) C dX8_share_126 (by decide) ?_
                          refine g_lload C dX8_share_127 rfl ?_
                          refine g_lload C dX8_share_129 rfl ?_
                          refine g_callVv C sV_X8_189 dX8_share_131 (c_X1_becomeb _ δ _ (w := 0) (a := shN (bS (vS v) u_2 c1) (gGr (tS (vS v) u_2) 0 4) i) (b := shN (sumS (vS v) u_2) (gGr (tS (vS v) u_2) 0 4) i) p5 p4 p2) ⟨by decide, by decide⟩ (wO_F δ _) rfl rfl rfl rfl (Nat.le_of_ble_eq_true rfl) (fun s_131 h_131 => ?_)
                          obtain ⟨zb, cb, lb, pb⟩ := h_131
                          refine g_iconst (v := 0) C dX8_share_134 (by decide) ?_
                          exact g_iret C E dX8_share_135 rfl rfl ⟨_, rfl, TF_y ((aShare_at hu_2 hu8 hc1 h4b).trans (gIf_t ⟨hl, fun z => c_51 (by rw [z]; exact Int32.le_refl _), c_59⟩)).symm rfl zb (by rw [gShare_at hu8 (by omega) (by omega)]; exact cb) (ZA_e2 lb pb hZ)⟩
                        · have k_77 := gnle c_77 (a := k1) (b := i) (by first | rfl | assumption | (simp only [glit, nI_add, pk_mul]; done) | (simp only [glit, nI_add, pk_mul]; congr 1; omega) | (simp only [*, glit, nI_add, pk_mul]; congr 1; omega)) (by first | rfl | assumption | (simp only [glit, nI_add, pk_mul]; done) | (simp only [glit, nI_add, pk_mul]; congr 1; omega) | (simp only [*, glit, nI_add, pk_mul]; congr 1; omega)) (by omega) (by omega)
                          refine g_lload C dX8_share_80 rfl ?_
                          refine g_aload C dX8_share_82 rfl ?_
                          refine g_get C dX8_share_84 iwX7 rfl (wO_U δ _ hu8) 0 (Nat.le_of_ble_eq_true rfl) mW194 rfl rfl ?_
                          refine g_iload_n C dX8_share_87 rfl ?_
                          refine g_ialdN C dX8_share_88 (k := c1) (q := u_2) (by omega) rfl (by first | rfl | assumption | (simp only [glit, nI_add, pk_mul]; done) | (simp only [glit, nI_add, pk_mul]; congr 1; omega) | (simp only [*, glit, nI_add, pk_mul]; congr 1; omega)) (by rw [gLenI_b hu8]; omega) ?_
                          rw [KC_b K hu8 (by omega)]
                          refine g_iload C dX8_share_89 rfl ?_
                          refine g_iload C dX8_share_91 rfl ?_
                          refine g_imul C dX8_share_93 ?_
                          refine g_iadd C dX8_share_94 ?_
                          refine g_i2l C dX8_share_95 ?_
                          refine g_lmul C dX8_share_96 ?_
                          refine g_lstore C dX8_share_97 (Nat.le_of_ble_eq_true rfl) rfl ?_
                          refine g_lv [some _, some _, some _, some _, some _, some _, some _, none, some _, none, some _] (gs_some (gs_some (gs_some (gs_some (gs_some (gs_some (gs_some (gs_none (gs_some (gs_none (gs_some gs_nil))))))))))) ?_
                          refine g_lload C dX8_share_99 rfl ?_
                          refine g_aload C dX8_share_101 rfl ?_
                          refine g_callVi C sV_X8_129 dX8_share_103 (c_X7_total _ δ _ hu8) ⟨by decide, by decide⟩ (wO_U δ _ hu8) rfl rfl rfl rfl (Nat.le_of_ble_eq_true rfl) (fun r_103 s_103 h_103 => ?_)
                          obtain ⟨rfl, rfl⟩ := h_103
                          rw [KC_sum K hu8]
                          refine g_iload C dX8_share_106 rfl ?_
                          refine g_iload C dX8_share_108 rfl ?_
                          refine g_imul C dX8_share_110 ?_
                          refine g_iadd C dX8_share_111 ?_
                          refine g_i2l C dX8_share_112 ?_
                          refine g_lmul C dX8_share_113 ?_
                          refine g_lstore C dX8_share_114 (Nat.le_of_ble_eq_true rfl) rfl ?_
                          refine g_lv [some _, some _, some _, some _, some _, some _, some _, none, some _, none, some _] (gs_some (gs_some (gs_some (gs_some (gs_some (gs_some (gs_some (gs_none (gs_some (gs_none (gs_some gs_nil))))))))))) ?_
                          refine g_iinc (v := nI (i + 1)) C dX8_share_116 rfl (ginc _ 1) rfl ?_
                          refine g_lv [some _, some _, some _, some _, some _, some _, some _, none, some _, none, some _] (gs_some (gs_some (gs_some (gs_some (gs_some (gs_some (gs_some (gs_none (gs_some (gs_none (gs_some gs_nil))))))))))) ?_
                          refine g_goto C 74 dX8_share_119 (by decide) ?_
                          refine g_lv [some _, some _, some _, some _, some _, some _, some _, none, some _, none, some _] (gs_some (gs_some (gs_some (gs_some (gs_some (gs_some (gs_some (gs_none (gs_some (gs_none (gs_some gs_nil))))))))))) ?_
                          exact ih_74 (i + 1) (by omega) (by omega)
                    refine g_lv [some _, some _, some _, some _, some _, some _, some _, none, some _, none, some _] (gs_some (gs_some (gs_some (gs_some (gs_some (gs_some (gs_some (gs_none (gs_some (gs_none (gs_some gs_nil))))))))))) ?_
                    exact L_74 _ 0 (by omega) (Nat.lt_succ_self _)
                  · refine g_bipush (v := (-2)) C dX8_share_62 (by decide) ?_
                    exact g_iret C E dX8_share_64 rfl rfl ⟨_, rfl, TF_n ((aShare_at hu_2 hu8 hc1 h4b).trans (gIf_f (by first | exact fun z => hl z.1 | exact fun z => z.2.1 (Int32.le_antisymm c_51 hl.1.2) | exact fun z => z.2.2 c_59))).symm (by decide) (gSk_r _) (fun _ _ => rfl) hF hZ⟩
            · have hl := fun z => h_43 ((KC_lk K R hu8 h2).mpr z)
              refine g_if_eq C 62 dX8_share_46 (by decide) (fun c_46 => ?_) (fun c_46 => ?_)
              · refine g_bipush (v := (-2)) C dX8_share_62 (by decide) ?_
                exact g_iret C E dX8_share_64 rfl rfl ⟨_, rfl, TF_n ((aShare_at hu_2 hu8 hc1 h4b).trans (gIf_f (by first | exact fun z => hl z.1 | exact fun z => z.2.1 (Int32.le_antisymm c_51 hl.1.2) | exact fun z => z.2.2 c_59))).symm (by decide) (gSk_r _) (fun _ _ => rfl) hF hZ⟩
              · exact absurd c_46 (by decide)
          · refine g_iconst (v := (-1)) C dX8_share_31 (by decide) ?_
            exact g_iret C E dX8_share_32 rfl rfl ⟨_, rfl, TF_n (by first | exact (gIf_f (fun z => h_2 z.1.1)).symm | exact (gIf_f (fun z => h_15 ((okC_n hu8).mp z.1.2))).symm | exact (gIf_f (fun z => Int32.not_le.mpr c_23 z.2.1)).symm | exact (gIf_f (fun z => c_28 z.2.2)).symm) (by decide) (gSk_r _) (fun _ _ => rfl) hF hZ⟩
    · skip
      refine g_if_eq C 31 dX8_share_18 (by decide) (fun c_18 => ?_) (fun c_18 => ?_)
      · refine g_iconst (v := (-1)) C dX8_share_31 (by decide) ?_
        exact g_iret C E dX8_share_32 rfl rfl ⟨_, rfl, TF_n (by first | exact (gIf_f (fun z => h_2 z.1.1)).symm | exact (gIf_f (fun z => h_15 ((okC_n hu8).mp z.1.2))).symm | exact (gIf_f (fun z => Int32.not_le.mpr c_23 z.2.1)).symm | exact (gIf_f (fun z => c_28 z.2.2)).symm) (by decide) (gSk_r _) (fun _ _ => rfl) hF hZ⟩
      · exact absurd c_18 (by decide)
