theorem sV_X8_112 : gSV RX8 112 yX6_liesWithin cX6_liesWithin 6 (some .boolean) 4 := ⟨mW298, mW299, mW300, mW8, mW301, ⟨by decide +kernel, by decide +kernel⟩, by decide +kernel⟩
set_option maxRecDepth 100000 in
set_option maxHeartbeats 4000000 in
theorem c_X8_read0 (l : Launch) (δ : GD) (σ : GS) (a0 a2 a3 a4 : Int32) {v : GV} (K : KC σ v) (R : RV v) (hk : ∀ u, u < 6 → -1 ≤ gN σ (2 + u) ∧ ∃ m : Nat, m ≤ 16 ∧ gN σ (8 + u) = nI m) : gM l δ yX8_read cX8_read 13 (some .int) 3 62 [.ref (δ.2.2.1 0), .int a0, .int 0, .int a2, .int a3, .int a4] σ (gPi (fun x σ' => x = (fRead v (fun u => gN σ (2 + u)) (fun u => gN σ (8 + u)) (gL σ) a0 0 a2 a3 a4).1 ∧ KC σ' (fRead v (fun u => gN σ (2 + u)) (fun u => gN σ (8 + u)) (gL σ) a0 0 a2 a3 a4).2 ∧ FC σ σ')) := by
  refine g_of (lv0 := [some (.ref (δ.2.2.1 0)), some (.int a0), some (.int 0), some (.int a2), some (.int a3), some (.int a4), none, none, none, none, none, none, none]) (by decide) rfl (Nat.le_of_ble_eq_true rfl) (fun Γ hl C E => ?_)
  subst hl
  have C : gC Γ δ cX8_read RX8 13 3 62 := C
  have hm := K.1
  have h8 := R.1
  obtain ⟨kn, hkn, hx, -⟩ := id K.2.2.2.2
  have hl := K.2.2.2.1.2
  have h20 := K.2.2.2.1.1
  refine g_aload_n C dX8_read_0 rfl ?_
  refine g_iload_n C dX8_read_1 rfl ?_
  refine g_callVr C sV_X8_101 dX8_read_2 (c_X8_urnAt _ δ _ _ hm h8) ⟨by decide, by decide⟩ (wO_X δ _) rfl rfl rfl rfl (Nat.le_of_ble_eq_true rfl) (fun r_2 s_2 h_2 => ?_)
  obtain ⟨rfl, h_2⟩ := h_2
  rcases h_2 with ⟨rfl, h_2⟩ | ⟨u_2, hu_2, e_2, rfl⟩
  · skip
    refine g_astoreN C dX8_read_5 (Nat.le_of_ble_eq_true rfl) rfl ?_
    refine g_lv [some _, some _, some _, some _, some _, some _, some _, none, none, none, none, none, none] (gs_some (gs_some (gs_some (gs_some (gs_some (gs_some (gs_some (gs_none (gs_none (gs_none (gs_none (gs_none (gs_none gs_nil))))))))))))) ?_
    refine g_aload_n C dX8_read_7 rfl ?_
    refine g_iload C dX8_read_8 rfl ?_
    refine g_callVr C sV_X8_72 dX8_read_10 (c_X8_sheetAt _ δ _ _) ⟨by decide, by decide⟩ (wO_X δ _) rfl rfl rfl rfl (Nat.le_of_ble_eq_true rfl) (fun r_10 s_10 h_10 => ?_)
    obtain ⟨rfl, h_10⟩ := h_10
    rcases h_10 with ⟨rfl, h_10⟩ | ⟨u_10, hu_10, e_10, rfl⟩
    · skip
      refine g_astoreN C dX8_read_13 (Nat.le_of_ble_eq_true rfl) rfl ?_
      refine g_lv [some _, some _, some _, some _, some _, some _, some _, some _, none, none, none, none, none] (gs_some (gs_some (gs_some (gs_some (gs_some (gs_some (gs_some (gs_some (gs_none (gs_none (gs_none (gs_none (gs_none gs_nil))))))))))))) ?_
      refine g_aloadN C dX8_read_15 rfl ?_
      refine g_ifnull_n C 34 dX8_read_17 (by decide) ?_
      refine g_iconst (v := (-1)) C dX8_read_34 (by decide) ?_
      exact g_iret C E dX8_read_35 rfl rfl ⟨_, rfl, vPostC (by first | exact gIf_f (fun z => h_2 z.1.1) | exact gIf_f (fun z => h_10 z.1.2)) rfl K (FC_r _)⟩
    · obtain ⟨hk1, m1, hm1, em1⟩ := hk u_10 hu_10
      subst e_10
      refine g_astore C dX8_read_13 (Nat.le_of_ble_eq_true rfl) rfl ?_
      refine g_lv [some _, some _, some _, some _, some _, some _, some _, some _, none, none, none, none, none] (gs_some (gs_some (gs_some (gs_some (gs_some (gs_some (gs_some (gs_some (gs_none (gs_none (gs_none (gs_none (gs_none gs_nil))))))))))))) ?_
      refine g_aloadN C dX8_read_15 rfl ?_
      refine g_ifnull_n C 34 dX8_read_17 (by decide) ?_
      refine g_iconst (v := (-1)) C dX8_read_34 (by decide) ?_
      exact g_iret C E dX8_read_35 rfl rfl ⟨_, rfl, vPostC (by first | exact gIf_f (fun z => h_2 z.1.1) | exact gIf_f (fun z => h_10 z.1.2)) rfl K (FC_r _)⟩
  · have hu8 : u_2 < 8 := by omega
    obtain ⟨h2, h4⟩ := (R.2.1 u_2 hu8).1 hu_2
    have hn := K.2.1 u_2 hu8
    subst e_2
    refine g_astore C dX8_read_5 (Nat.le_of_ble_eq_true rfl) rfl ?_
    refine g_lv [some _, some _, some _, some _, some _, some _, some _, none, none, none, none, none, none] (gs_some (gs_some (gs_some (gs_some (gs_some (gs_some (gs_some (gs_none (gs_none (gs_none (gs_none (gs_none (gs_none gs_nil))))))))))))) ?_
    refine g_aload_n C dX8_read_7 rfl ?_
    refine g_iload C dX8_read_8 rfl ?_
    refine g_callVr C sV_X8_72 dX8_read_10 (c_X8_sheetAt _ δ _ _) ⟨by decide, by decide⟩ (wO_X δ _) rfl rfl rfl rfl (Nat.le_of_ble_eq_true rfl) (fun r_10 s_10 h_10 => ?_)
    obtain ⟨rfl, h_10⟩ := h_10
    rcases h_10 with ⟨rfl, h_10⟩ | ⟨u_10, hu_10, e_10, rfl⟩
    · skip
      refine g_astoreN C dX8_read_13 (Nat.le_of_ble_eq_true rfl) rfl ?_
      refine g_lv [some _, some _, some _, some _, some _, some _, some _, some _, none, none, none, none, none] (gs_some (gs_some (gs_some (gs_some (gs_some (gs_some (gs_some (gs_some (gs_none (gs_none (gs_none (gs_none (gs_none gs_nil))))))))))))) ?_
      refine g_aload C dX8_read_15 rfl ?_
      refine g_ifnull_r C dX8_read_17 ?_
      refine g_aloadN C dX8_read_20 rfl ?_
      refine g_ifnull_n C 34 dX8_read_22 (by decide) ?_
      refine g_iconst (v := (-1)) C dX8_read_34 (by decide) ?_
      exact g_iret C E dX8_read_35 rfl rfl ⟨_, rfl, vPostC (by first | exact gIf_f (fun z => h_2 z.1.1) | exact gIf_f (fun z => h_10 z.1.2)) rfl K (FC_r _)⟩
    · obtain ⟨hk1, m1, hm1, em1⟩ := hk u_10 hu_10
      subst e_10
      refine g_astore C dX8_read_13 (Nat.le_of_ble_eq_true rfl) rfl ?_
      refine g_lv [some _, some _, some _, some _, some _, some _, some _, some _, none, none, none, none, none] (gs_some (gs_some (gs_some (gs_some (gs_some (gs_some (gs_some (gs_some (gs_none (gs_none (gs_none (gs_none (gs_none gs_nil))))))))))))) ?_
      refine g_aload C dX8_read_15 rfl ?_
      refine g_ifnull_r C dX8_read_17 ?_
      refine g_aload C dX8_read_20 rfl ?_
      refine g_ifnull_r C dX8_read_22 ?_
      refine g_iload_n C dX8_read_25 rfl ?_
      refine g_if_lt C 34 dX8_read_26 (by decide) (fun c_26 => ?_) (fun c_26 => ?_)
      · exact absurd c_26 (by decide)
      · refine g_iload_n C dX8_read_29 rfl ?_
        refine g_iconst (v := 1) C dX8_read_30 (by decide) ?_
        refine g_icmp_le C 36 dX8_read_31 (by decide) (fun c_31 => ?_) (fun c_31 => ?_)
        · have k_31 := gle c_31 (a := 0) (b := 1) (by first | rfl | assumption | (simp only [glit, nI_add, pk_mul]; done) | (simp only [glit, nI_add, pk_mul]; congr 1; omega) | (simp only [*, glit, nI_add, pk_mul]; congr 1; omega)) (by first | rfl | assumption | (simp only [glit, nI_add, pk_mul]; done) | (simp only [glit, nI_add, pk_mul]; congr 1; omega) | (simp only [*, glit, nI_add, pk_mul]; congr 1; omega)) (by omega) (by omega)
          refine g_iload_n C dX8_read_36 rfl ?_
          refine g_iconst (v := 1) C dX8_read_37 (by decide) ?_
          refine g_icmp_ne C 52 dX8_read_38 (by decide) (fun c_38 => ?_) (fun c_38 => ?_)
          · have k_38 := gne c_38 (a := 0) (b := 1) (by first | rfl | assumption | (simp only [glit, nI_add, pk_mul]; done) | (simp only [glit, nI_add, pk_mul]; congr 1; omega) | (simp only [*, glit, nI_add, pk_mul]; congr 1; omega)) (by first | rfl | assumption | (simp only [glit, nI_add, pk_mul]; done) | (simp only [glit, nI_add, pk_mul]; congr 1; omega) | (simp only [*, glit, nI_add, pk_mul]; congr 1; omega)) (by omega) (by omega)
            refine g_aload C dX8_read_52 rfl ?_
            refine g_get C dX8_read_54 iwX6 rfl (wO_S δ _ hu_10) 1 (Nat.le_of_ble_eq_true rfl) mW175 rfl rfl ?_
            refine g_iconst (v := (-1)) C dX8_read_57 (by decide) ?_
            refine g_icmp_ne C 64 dX8_read_58 (by decide) (fun c_58 => ?_) (fun c_58 => ?_)
            · refine g_aload C dX8_read_64 rfl ?_
              refine g_iload C dX8_read_66 rfl ?_
              refine g_aload C dX8_read_68 rfl ?_
              refine g_get C dX8_read_70 iwX7 rfl (wO_U δ _ hu8) 3 (Nat.le_of_ble_eq_true rfl) mW202 rfl rfl ?_
              rw [hn]
              refine g_callVi C sV_X8_83 dX8_read_73 (c_X6_reaches _ δ _ hu_10 _ _ em1 hm1) ⟨by decide, by decide⟩ (wO_S δ _ hu_10) rfl rfl rfl rfl (Nat.le_of_ble_eq_true rfl) (fun r_73 s_73 h_73 => ?_)
              obtain ⟨rfl, h_73⟩ := h_73
              rcases h_73 with ⟨rfl, h_73⟩ | ⟨rfl, h_73⟩
              · skip
                refine g_if_ne C 82 dX8_read_76 (by decide) (fun c_76 => ?_) (fun c_76 => ?_)
                · obtain ⟨i1, n1, rfl, en, hi1⟩ := gRch_nat h_73 hm1
                  have en : vC v u_2 = n1 := (nI_eq (by omega) (by omega)).mp en
                  subst en
                  refine g_iload_n C dX8_read_82 rfl ?_
                  refine g_if_ne C 90 dX8_read_83 (by decide) (fun c_83 => ?_) (fun c_83 => ?_)
                  · exact absurd c_83 (by decide)
                  · refine g_iconst (v := 0) C dX8_read_86 (by decide) ?_
                    refine g_goto C 92 dX8_read_87 (by decide) ?_
                    refine g_istore C dX8_read_92 (Nat.le_of_ble_eq_true rfl) rfl ?_
                    refine g_lv [some _, some _, some _, some _, some _, some _, some _, some _, some _, none, none, none, none] (gs_some (gs_some (gs_some (gs_some (gs_some (gs_some (gs_some (gs_some (gs_some (gs_none (gs_none (gs_none (gs_none gs_nil))))))))))))) ?_
                    refine g_iload_n C dX8_read_94 rfl ?_
                    refine g_if_ne C 104 dX8_read_95 (by decide) (fun c_95 => ?_) (fun c_95 => ?_)
                    · exact absurd c_95 (by decide)
                    · refine g_sipush (v := 200) C dX8_read_98 (by decide) ?_
                      refine g_goto C 106 dX8_read_101 (by decide) ?_
                      refine g_istore C dX8_read_106 (Nat.le_of_ble_eq_true rfl) rfl ?_
                      refine g_lv [some _, some _, some _, some _, some _, some _, some _, some _, some _, some _, none, none, none] (gs_some (gs_some (gs_some (gs_some (gs_some (gs_some (gs_some (gs_some (gs_some (gs_some (gs_none (gs_none (gs_none gs_nil))))))))))))) ?_
                      refine g_aload C dX8_read_108 rfl ?_
                      refine g_iload C dX8_read_110 rfl ?_
                      refine g_aload C dX8_read_112 rfl ?_
                      refine g_get C dX8_read_114 iwX7 rfl (wO_U δ _ hu8) 3 (Nat.le_of_ble_eq_true rfl) mW202 rfl rfl ?_
                      rw [hn]
                      refine g_iload C dX8_read_117 rfl ?_
                      refine g_iload C dX8_read_119 rfl ?_
                      refine g_callVi C sV_X8_112 dX8_read_121 (c_X6_liesWithin _ δ _ hu_10 (i := i1) (k := vC v u_2) (by omega) _ _) ⟨by decide, by decide⟩ (wO_S δ _ hu_10) rfl rfl rfl rfl (Nat.le_of_ble_eq_true rfl) (fun r_121 s_121 h_121 => ?_)
                      obtain ⟨rfl, h_121⟩ := h_121
                      rcases h_121 with ⟨rfl, h_121⟩ | ⟨rfl, h_121⟩
                      · skip
                        refine g_if_ne C 130 dX8_read_124 (by decide) (fun c_124 => ?_) (fun c_124 => ?_)
                        · refine g_aload_n C dX8_read_130 rfl ?_
                          refine g_callVv C sV_X8_116 dX8_read_131 (c_X8_keepAct _ δ _ hl hx h20 hkn) ⟨by decide, by decide⟩ (wO_X δ _) rfl rfl rfl rfl (Nat.le_of_ble_eq_true rfl) (fun s_131 h_131 => ?_)
                          obtain ⟨K2, F2⟩ := KC_kept K hkn hx h_131
                          refine g_iload_n C dX8_read_134 rfl ?_
                          refine g_if_ne C 146 dX8_read_135 (by decide) (fun c_135 => ?_) (fun c_135 => ?_)
                          · exact absurd c_135 (by decide)
                          · refine g_aload C dX8_read_138 rfl ?_
                            refine g_get C dX8_read_140 iwX7 rfl (wO_U δ _ hu8) 0 (Nat.le_of_ble_eq_true rfl) mW194 rfl rfl ?_
                            refine g_goto C 151 dX8_read_143 (by decide) ?_
                            refine g_astore C dX8_read_151 (Nat.le_of_ble_eq_true rfl) rfl ?_
                            refine g_lv [some _, some _, some _, some _, some _, some _, some _, some _, some _, some _, some _, none, none] (gs_some (gs_some (gs_some (gs_some (gs_some (gs_some (gs_some (gs_some (gs_some (gs_some (gs_some (gs_none (gs_none gs_nil))))))))))))) ?_
                            refine g_iload_n C dX8_read_153 rfl ?_
                            refine g_if_ne C 161 dX8_read_154 (by decide) (fun c_154 => ?_) (fun c_154 => ?_)
                            · exact absurd c_154 (by decide)
                            · refine g_iconst (v := 0) C dX8_read_157 (by decide) ?_
                              refine g_goto C 164 dX8_read_158 (by decide) ?_
                              refine g_istore C dX8_read_164 (Nat.le_of_ble_eq_true rfl) rfl ?_
                              refine g_lv [some _, some _, some _, some _, some _, some _, some _, some _, some _, some _, some _, some _, none] (gs_some (gs_some (gs_some (gs_some (gs_some (gs_some (gs_some (gs_some (gs_some (gs_some (gs_some (gs_some (gs_none gs_nil))))))))))))) ?_
                              refine g_iconst (v := 0) C dX8_read_166 (by decide) ?_
                              refine g_istore C dX8_read_167 (Nat.le_of_ble_eq_true rfl) rfl ?_
                              refine g_lv [some _, some _, some _, some _, some _, some _, some _, some _, some _, some _, some _, some _, some _] (gs_some (gs_some (gs_some (gs_some (gs_some (gs_some (gs_some (gs_some (gs_some (gs_some (gs_some (gs_some (gs_some gs_nil))))))))))))) ?_
                              have L_169 : ∀ (nn : Nat) (d : Nat) (g : Nat → Int32) (hd : d ≤ vC v u_2) (hg : ∀ j, g j = if 0 ≤ j ∧ j < 0 + d then (gL σ u_10 (i1 + (j - 0))).toInt32 else gI s_131 u_2 j), vC v u_2 - d < nn → gW Γ δ (uI s_131 u_2 g) 169 [some (.ref (δ.2.2.1 0)), some (.int (nI u_2)), some (.int 0), some (.int a2), some (.int (nI u_10)), some (.int (nI i1)), some (.ref (δ.2.2.1 (8 + u_2))), some (.ref (δ.2.2.1 (2 + u_10))), some (.int 0), some (.int 200), some (.ref (δ.2.2.1 (22 + u_2))), some (.int (nI 0)), some (.int (nI d))] [] := by
                                intro nn
                                induction nn with
                                | zero =>
                                  intro d g hd hg hm_169
                                  exact absurd hm_169 (Nat.not_lt_zero _)
                                | succ nn ih_169 =>
                                  intro d g hd hg hm_169
                                  refine g_iload C dX8_read_169 rfl ?_
                                  refine g_aload C dX8_read_171 rfl ?_
                                  refine g_get C dX8_read_173 iwX7 rfl (wO_U δ _ hu8) 3 (Nat.le_of_ble_eq_true rfl) mW202 rfl rfl ?_
                                  rw [gN_uI, K2.2.1 u_2 hu8]
                                  refine g_icmp_ge C 205 dX8_read_176 (by decide) (fun c_176 => ?_) (fun c_176 => ?_)
                                  · have k_176 := gle c_176 (a := (vC v u_2)) (b := d) (by first | rfl | assumption | (simp only [glit, nI_add, pk_mul]; done) | (simp only [glit, nI_add, pk_mul]; congr 1; omega) | (simp only [*, glit, nI_add, pk_mul]; congr 1; omega)) (by first | rfl | assumption | (simp only [glit, nI_add, pk_mul]; done) | (simp only [glit, nI_add, pk_mul]; congr 1; omega) | (simp only [*, glit, nI_add, pk_mul]; congr 1; omega)) (by omega) (by omega)
                                    have ek : vC v u_2 = d := by omega
                                    have h4d := h4
                                    refine g_iconst (v := 0) C dX8_read_205 (by decide) ?_
                                    exact g_iret C E dX8_read_206 rfl rfl ⟨_, rfl, vPostC ((fRead_at hu_2 hu8 hu_10 ⟨0, by decide, rfl⟩ (fun e => absurd e (by decide)) em1 hm1).trans (((if_neg (fun q => c_58 ((gkd_n hk1).mp q)))).trans ((gIf_t h_73).trans (gIf_t (by rw [nU_n (by omega)]; exact h_121))))) rfl (by rw [nU_n (show i1 < 2147483648 by omega)]; exact KC_wr (f := fun d => gL σ u_10 (i1 + d)) K2 hu8 h4 (rd_0 hg ek)) (FC_I (by omega) F2)⟩
                                  · have k_176 := gnle c_176 (a := (vC v u_2)) (b := d) (by first | rfl | assumption | (simp only [glit, nI_add, pk_mul]; done) | (simp only [glit, nI_add, pk_mul]; congr 1; omega) | (simp only [*, glit, nI_add, pk_mul]; congr 1; omega)) (by first | rfl | assumption | (simp only [glit, nI_add, pk_mul]; done) | (simp only [glit, nI_add, pk_mul]; congr 1; omega) | (simp only [*, glit, nI_add, pk_mul]; congr 1; omega)) (by omega) (by omega)
                                    refine g_aload C dX8_read_179 rfl ?_
                                    refine g_iload C dX8_read_181 rfl ?_
                                    refine g_iload C dX8_read_183 rfl ?_
                                    refine g_iadd C dX8_read_185 ?_
                                    refine g_aload C dX8_read_186 rfl ?_
                                    refine g_get C dX8_read_188 iwX6 rfl (wO_S δ _ hu_10) 0 (Nat.le_of_ble_eq_true rfl) mW173 rfl rfl ?_
                                    refine g_iload C dX8_read_191 rfl ?_
                                    refine g_iload C dX8_read_193 rfl ?_
                                    refine g_iadd C dX8_read_195 ?_
                                    refine g_laldN C dX8_read_196 (k := (i1 + d)) (q := u_10) (by omega) rfl (by first | rfl | assumption | (simp only [glit, nI_add, pk_mul]; done) | (simp only [glit, nI_add, pk_mul]; congr 1; omega) | (simp only [*, glit, nI_add, pk_mul]; congr 1; omega)) (by rw [gLenL_s hu_10]; omega) ?_
                                    rw [gL_uI, F2.2.1]
                                    refine g_l2i C dX8_read_197 ?_
                                    refine g_iastN C dX8_read_198 (k := (0 + d)) (q := u_2) (by omega) rfl (by first | rfl | assumption | (simp only [glit, nI_add, pk_mul]; done) | (simp only [glit, nI_add, pk_mul]; congr 1; omega) | (simp only [*, glit, nI_add, pk_mul]; congr 1; omega)) (by rw [gLenI_b hu8]; omega) ?_
                                    refine g_iinc (v := nI (d + 1)) C dX8_read_199 rfl (ginc _ 1) rfl ?_
                                    refine g_lv [some _, some _, some _, some _, some _, some _, some _, some _, some _, some _, some _, some _, some _] (gs_some (gs_some (gs_some (gs_some (gs_some (gs_some (gs_some (gs_some (gs_some (gs_some (gs_some (gs_some (gs_some gs_nil))))))))))))) ?_
                                    refine g_goto C 169 dX8_read_202 (by decide) ?_
                                    refine g_lv [some _, some _, some _, some _, some _, some _, some _, some _, some _, some _, some _, some _, some _] (gs_some (gs_some (gs_some (gs_some (gs_some (gs_some (gs_some (gs_some (gs_some (gs_some (gs_some (gs_some (gs_some gs_nil))))))))))))) ?_
                                    rw [uI_uI, gI_uI, if_pos rfl]
                                    exact ih_169 (d + 1) _ (by omega) (rd_step (f := fun d => gL σ u_10 (i1 + d)) hg rfl) (by omega)
                              refine g_lv [some _, some _, some _, some _, some _, some _, some _, some _, some _, some _, some _, some _, some _] (gs_some (gs_some (gs_some (gs_some (gs_some (gs_some (gs_some (gs_some (gs_some (gs_some (gs_some (gs_some (gs_some gs_nil))))))))))))) ?_
                              refine g_st (uI_id _ u_2).symm ?_
                              exact L_169 _ 0 _ (Nat.zero_le _) (fun j => (if_neg (by omega)).symm) (Nat.lt_succ_self _)
                        · exact absurd c_124 (by decide)
                      · skip
                        refine g_if_ne C 130 dX8_read_124 (by decide) (fun c_124 => ?_) (fun c_124 => ?_)
                        · exact absurd c_124 (by decide)
                        · refine g_bipush (v := (-15)) C dX8_read_127 (by decide) ?_
                          exact g_iret C E dX8_read_129 rfl rfl ⟨_, rfl, vPostC ((fRead_at hu_2 hu8 hu_10 ⟨0, by decide, rfl⟩ (fun e => absurd e (by decide)) em1 hm1).trans (((if_neg (fun q => c_58 ((gkd_n hk1).mp q)))).trans ((gIf_t h_73).trans (gIf_f (by rw [nU_n (by omega)]; exact h_121))))) rfl K (FC_r _)⟩
                · exact absurd c_76 (by decide)
              · skip
                refine g_if_ne C 82 dX8_read_76 (by decide) (fun c_76 => ?_) (fun c_76 => ?_)
                · exact absurd c_76 (by decide)
                · refine g_bipush (v := (-12)) C dX8_read_79 (by decide) ?_
                  exact g_iret C E dX8_read_81 rfl rfl ⟨_, rfl, vPostC ((fRead_at hu_2 hu8 hu_10 ⟨0, by decide, rfl⟩ (fun e => absurd e (by decide)) em1 hm1).trans (((if_neg (fun q => c_58 ((gkd_n hk1).mp q)))).trans (gIf_f h_73))) rfl K (FC_r _)⟩
            · refine g_bipush (v := (-11)) C dX8_read_61 (by decide) ?_
              exact g_iret C E dX8_read_63 rfl rfl ⟨_, rfl, vPostC ((fRead_at hu_2 hu8 hu_10 ⟨0, by decide, rfl⟩ (fun e => absurd e (by decide)) em1 hm1).trans (if_pos ((gkd_n hk1).mpr c_58))) rfl K (FC_r _)⟩
          · exact absurd c_38 (by decide)
        · exact absurd c_31 (by decide)
set_option maxRecDepth 100000 in
set_option maxHeartbeats 4000000 in
theorem c_X8_read1 (l : Launch) (δ : GD) (σ : GS) (a0 a2 a3 a4 : Int32) {v : GV} (K : KC σ v) (R : RV v) (hk : ∀ u, u < 6 → -1 ≤ gN σ (2 + u) ∧ ∃ m : Nat, m ≤ 16 ∧ gN σ (8 + u) = nI m) : gM l δ yX8_read cX8_read 13 (some .int) 3 62 [.ref (δ.2.2.1 0), .int a0, .int 1, .int a2, .int a3, .int a4] σ (gPi (fun x σ' => x = (fRead v (fun u => gN σ (2 + u)) (fun u => gN σ (8 + u)) (gL σ) a0 1 a2 a3 a4).1 ∧ KC σ' (fRead v (fun u => gN σ (2 + u)) (fun u => gN σ (8 + u)) (gL σ) a0 1 a2 a3 a4).2 ∧ FC σ σ')) := by
  refine g_of (lv0 := [some (.ref (δ.2.2.1 0)), some (.int a0), some (.int 1), some (.int a2), some (.int a3), some (.int a4), none, none, none, none, none, none, none]) (by decide) rfl (Nat.le_of_ble_eq_true rfl) (fun Γ hl C E => ?_)
  subst hl
  have C : gC Γ δ cX8_read RX8 13 3 62 := C
  have hm := K.1
  have h8 := R.1
  obtain ⟨kn, hkn, hx, -⟩ := id K.2.2.2.2
  have hl := K.2.2.2.1.2
  have h20 := K.2.2.2.1.1
  refine g_aload_n C dX8_read_0 rfl ?_
  refine g_iload_n C dX8_read_1 rfl ?_
  refine g_callVr C sV_X8_101 dX8_read_2 (c_X8_urnAt _ δ _ _ hm h8) ⟨by decide, by decide⟩ (wO_X δ _) rfl rfl rfl rfl (Nat.le_of_ble_eq_true rfl) (fun r_2 s_2 h_2 => ?_)
  obtain ⟨rfl, h_2⟩ := h_2
  rcases h_2 with ⟨rfl, h_2⟩ | ⟨u_2, hu_2, e_2, rfl⟩
  · skip
    refine g_astoreN C dX8_read_5 (Nat.le_of_ble_eq_true rfl) rfl ?_
    refine g_lv [some _, some _, some _, some _, some _, some _, some _, none, none, none, none, none, none] (gs_some (gs_some (gs_some (gs_some (gs_some (gs_some (gs_some (gs_none (gs_none (gs_none (gs_none (gs_none (gs_none gs_nil))))))))))))) ?_
    refine g_aload_n C dX8_read_7 rfl ?_
    refine g_iload C dX8_read_8 rfl ?_
    refine g_callVr C sV_X8_72 dX8_read_10 (c_X8_sheetAt _ δ _ _) ⟨by decide, by decide⟩ (wO_X δ _) rfl rfl rfl rfl (Nat.le_of_ble_eq_true rfl) (fun r_10 s_10 h_10 => ?_)
    obtain ⟨rfl, h_10⟩ := h_10
    rcases h_10 with ⟨rfl, h_10⟩ | ⟨u_10, hu_10, e_10, rfl⟩
    · skip
      refine g_astoreN C dX8_read_13 (Nat.le_of_ble_eq_true rfl) rfl ?_
      refine g_lv [some _, some _, some _, some _, some _, some _, some _, some _, none, none, none, none, none] (gs_some (gs_some (gs_some (gs_some (gs_some (gs_some (gs_some (gs_some (gs_none (gs_none (gs_none (gs_none (gs_none gs_nil))))))))))))) ?_
      refine g_aloadN C dX8_read_15 rfl ?_
      refine g_ifnull_n C 34 dX8_read_17 (by decide) ?_
      refine g_iconst (v := (-1)) C dX8_read_34 (by decide) ?_
      exact g_iret C E dX8_read_35 rfl rfl ⟨_, rfl, vPostC (by first | exact gIf_f (fun z => h_2 z.1.1) | exact gIf_f (fun z => h_10 z.1.2) | exact gIf_f (fun z => h_44 ((okC_n hu8).mp (z.2.2 rfl)))) rfl K (FC_r _)⟩
    · obtain ⟨hk1, m1, hm1, em1⟩ := hk u_10 hu_10
      subst e_10
      refine g_astore C dX8_read_13 (Nat.le_of_ble_eq_true rfl) rfl ?_
      refine g_lv [some _, some _, some _, some _, some _, some _, some _, some _, none, none, none, none, none] (gs_some (gs_some (gs_some (gs_some (gs_some (gs_some (gs_some (gs_some (gs_none (gs_none (gs_none (gs_none (gs_none gs_nil))))))))))))) ?_
      refine g_aloadN C dX8_read_15 rfl ?_
      refine g_ifnull_n C 34 dX8_read_17 (by decide) ?_
      refine g_iconst (v := (-1)) C dX8_read_34 (by decide) ?_
      exact g_iret C E dX8_read_35 rfl rfl ⟨_, rfl, vPostC (by first | exact gIf_f (fun z => h_2 z.1.1) | exact gIf_f (fun z => h_10 z.1.2) | exact gIf_f (fun z => h_44 ((okC_n hu8).mp (z.2.2 rfl)))) rfl K (FC_r _)⟩
  · have hu8 : u_2 < 8 := by omega
    obtain ⟨h2, h4⟩ := (R.2.1 u_2 hu8).1 hu_2
    have hn := K.2.1 u_2 hu8
    subst e_2
    refine g_astore C dX8_read_5 (Nat.le_of_ble_eq_true rfl) rfl ?_
    refine g_lv [some _, some _, some _, some _, some _, some _, some _, none, none, none, none, none, none] (gs_some (gs_some (gs_some (gs_some (gs_some (gs_some (gs_some (gs_none (gs_none (gs_none (gs_none (gs_none (gs_none gs_nil))))))))))))) ?_
    refine g_aload_n C dX8_read_7 rfl ?_
    refine g_iload C dX8_read_8 rfl ?_
    refine g_callVr C sV_X8_72 dX8_read_10 (c_X8_sheetAt _ δ _ _) ⟨by decide, by decide⟩ (wO_X δ _) rfl rfl rfl rfl (Nat.le_of_ble_eq_true rfl) (fun r_10 s_10 h_10 => ?_)
    obtain ⟨rfl, h_10⟩ := h_10
    rcases h_10 with ⟨rfl, h_10⟩ | ⟨u_10, hu_10, e_10, rfl⟩
    · skip
      refine g_astoreN C dX8_read_13 (Nat.le_of_ble_eq_true rfl) rfl ?_
      refine g_lv [some _, some _, some _, some _, some _, some _, some _, some _, none, none, none, none, none] (gs_some (gs_some (gs_some (gs_some (gs_some (gs_some (gs_some (gs_some (gs_none (gs_none (gs_none (gs_none (gs_none gs_nil))))))))))))) ?_
      refine g_aload C dX8_read_15 rfl ?_
      refine g_ifnull_r C dX8_read_17 ?_
      refine g_aloadN C dX8_read_20 rfl ?_
      refine g_ifnull_n C 34 dX8_read_22 (by decide) ?_
      refine g_iconst (v := (-1)) C dX8_read_34 (by decide) ?_
      exact g_iret C E dX8_read_35 rfl rfl ⟨_, rfl, vPostC (by first | exact gIf_f (fun z => h_2 z.1.1) | exact gIf_f (fun z => h_10 z.1.2) | exact gIf_f (fun z => h_44 ((okC_n hu8).mp (z.2.2 rfl)))) rfl K (FC_r _)⟩
    · obtain ⟨hk1, m1, hm1, em1⟩ := hk u_10 hu_10
      subst e_10
      refine g_astore C dX8_read_13 (Nat.le_of_ble_eq_true rfl) rfl ?_
      refine g_lv [some _, some _, some _, some _, some _, some _, some _, some _, none, none, none, none, none] (gs_some (gs_some (gs_some (gs_some (gs_some (gs_some (gs_some (gs_some (gs_none (gs_none (gs_none (gs_none (gs_none gs_nil))))))))))))) ?_
      refine g_aload C dX8_read_15 rfl ?_
      refine g_ifnull_r C dX8_read_17 ?_
      refine g_aload C dX8_read_20 rfl ?_
      refine g_ifnull_r C dX8_read_22 ?_
      refine g_iload_n C dX8_read_25 rfl ?_
      refine g_if_lt C 34 dX8_read_26 (by decide) (fun c_26 => ?_) (fun c_26 => ?_)
      · exact absurd c_26 (by decide)
      · refine g_iload_n C dX8_read_29 rfl ?_
        refine g_iconst (v := 1) C dX8_read_30 (by decide) ?_
        refine g_icmp_le C 36 dX8_read_31 (by decide) (fun c_31 => ?_) (fun c_31 => ?_)
        · have k_31 := gle c_31 (a := 1) (b := 1) (by first | rfl | assumption | (simp only [glit, nI_add, pk_mul]; done) | (simp only [glit, nI_add, pk_mul]; congr 1; omega) | (simp only [*, glit, nI_add, pk_mul]; congr 1; omega)) (by first | rfl | assumption | (simp only [glit, nI_add, pk_mul]; done) | (simp only [glit, nI_add, pk_mul]; congr 1; omega) | (simp only [*, glit, nI_add, pk_mul]; congr 1; omega)) (by omega) (by omega)
          refine g_iload_n C dX8_read_36 rfl ?_
          refine g_iconst (v := 1) C dX8_read_37 (by decide) ?_
          refine g_icmp_ne C 52 dX8_read_38 (by decide) (fun c_38 => ?_) (fun c_38 => ?_)
          · exact absurd rfl c_38
          · have k_38 := geq c_38 (a := 1) (b := 1) (by first | rfl | assumption | (simp only [glit, nI_add, pk_mul]; done) | (simp only [glit, nI_add, pk_mul]; congr 1; omega) | (simp only [*, glit, nI_add, pk_mul]; congr 1; omega)) (by first | rfl | assumption | (simp only [glit, nI_add, pk_mul]; done) | (simp only [glit, nI_add, pk_mul]; congr 1; omega) | (simp only [*, glit, nI_add, pk_mul]; congr 1; omega)) (by omega) (by omega)
            refine g_aload C dX8_read_41 rfl ?_
            refine g_iload_n C dX8_read_43 rfl ?_
            refine g_callVi C sV_X8_105 dX8_read_44 (c_X7_has _ δ _ hu8 _ hn h4) ⟨by decide, by decide⟩ (wO_U δ _ hu8) rfl rfl rfl rfl (Nat.le_of_ble_eq_true rfl) (fun r_44 s_44 h_44 => ?_)
            obtain ⟨rfl, h_44⟩ := h_44
            rcases h_44 with ⟨rfl, h_44⟩ | ⟨rfl, h_44⟩
            · obtain ⟨c1, hc1, rfl⟩ := id h_44
              refine g_if_ne C 52 dX8_read_47 (by decide) (fun c_47 => ?_) (fun c_47 => ?_)
              · refine g_aload C dX8_read_52 rfl ?_
                refine g_get C dX8_read_54 iwX6 rfl (wO_S δ _ hu_10) 1 (Nat.le_of_ble_eq_true rfl) mW175 rfl rfl ?_
                refine g_iconst (v := (-1)) C dX8_read_57 (by decide) ?_
                refine g_icmp_ne C 64 dX8_read_58 (by decide) (fun c_58 => ?_) (fun c_58 => ?_)
                · refine g_aload C dX8_read_64 rfl ?_
                  refine g_iload C dX8_read_66 rfl ?_
                  refine g_aload C dX8_read_68 rfl ?_
                  refine g_get C dX8_read_70 iwX7 rfl (wO_U δ _ hu8) 3 (Nat.le_of_ble_eq_true rfl) mW202 rfl rfl ?_
                  rw [hn]
                  refine g_callVi C sV_X8_83 dX8_read_73 (c_X6_reaches _ δ _ hu_10 _ _ em1 hm1) ⟨by decide, by decide⟩ (wO_S δ _ hu_10) rfl rfl rfl rfl (Nat.le_of_ble_eq_true rfl) (fun r_73 s_73 h_73 => ?_)
                  obtain ⟨rfl, h_73⟩ := h_73
                  rcases h_73 with ⟨rfl, h_73⟩ | ⟨rfl, h_73⟩
                  · skip
                    refine g_if_ne C 82 dX8_read_76 (by decide) (fun c_76 => ?_) (fun c_76 => ?_)
                    · obtain ⟨i1, n1, rfl, en, hi1⟩ := gRch_nat h_73 hm1
                      have en : vC v u_2 = n1 := (nI_eq (by omega) (by omega)).mp en
                      subst en
                      refine g_iload_n C dX8_read_82 rfl ?_
                      refine g_if_ne C 90 dX8_read_83 (by decide) (fun c_83 => ?_) (fun c_83 => ?_)
                      · refine g_bipush (v := (-9)) C dX8_read_90 (by decide) ?_
                        refine g_istore C dX8_read_92 (Nat.le_of_ble_eq_true rfl) rfl ?_
                        refine g_lv [some _, some _, some _, some _, some _, some _, some _, some _, some _, none, none, none, none] (gs_some (gs_some (gs_some (gs_some (gs_some (gs_some (gs_some (gs_some (gs_some (gs_none (gs_none (gs_none (gs_none gs_nil))))))))))))) ?_
                        refine g_iload_n C dX8_read_94 rfl ?_
                        refine g_if_ne C 104 dX8_read_95 (by decide) (fun c_95 => ?_) (fun c_95 => ?_)
                        · refine g_bipush (v := 9) C dX8_read_104 (by decide) ?_
                          refine g_istore C dX8_read_106 (Nat.le_of_ble_eq_true rfl) rfl ?_
                          refine g_lv [some _, some _, some _, some _, some _, some _, some _, some _, some _, some _, none, none, none] (gs_some (gs_some (gs_some (gs_some (gs_some (gs_some (gs_some (gs_some (gs_some (gs_some (gs_none (gs_none (gs_none gs_nil))))))))))))) ?_
                          refine g_aload C dX8_read_108 rfl ?_
                          refine g_iload C dX8_read_110 rfl ?_
                          refine g_aload C dX8_read_112 rfl ?_
                          refine g_get C dX8_read_114 iwX7 rfl (wO_U δ _ hu8) 3 (Nat.le_of_ble_eq_true rfl) mW202 rfl rfl ?_
                          rw [hn]
                          refine g_iload C dX8_read_117 rfl ?_
                          refine g_iload C dX8_read_119 rfl ?_
                          refine g_callVi C sV_X8_112 dX8_read_121 (c_X6_liesWithin _ δ _ hu_10 (i := i1) (k := vC v u_2) (by omega) _ _) ⟨by decide, by decide⟩ (wO_S δ _ hu_10) rfl rfl rfl rfl (Nat.le_of_ble_eq_true rfl) (fun r_121 s_121 h_121 => ?_)
                          obtain ⟨rfl, h_121⟩ := h_121
                          rcases h_121 with ⟨rfl, h_121⟩ | ⟨rfl, h_121⟩
                          · skip
                            refine g_if_ne C 130 dX8_read_124 (by decide) (fun c_124 => ?_) (fun c_124 => ?_)
                            · refine g_aload_n C dX8_read_130 rfl ?_
                              refine g_callVv C sV_X8_116 dX8_read_131 (c_X8_keepAct _ δ _ hl hx h20 hkn) ⟨by decide, by decide⟩ (wO_X δ _) rfl rfl rfl rfl (Nat.le_of_ble_eq_true rfl) (fun s_131 h_131 => ?_)
                              obtain ⟨K2, F2⟩ := KC_kept K hkn hx h_131
                              refine g_iload_n C dX8_read_134 rfl ?_
                              refine g_if_ne C 146 dX8_read_135 (by decide) (fun c_135 => ?_) (fun c_135 => ?_)
                              · refine g_aload C dX8_read_146 rfl ?_
                                refine g_get C dX8_read_148 iwX7 rfl (wO_U δ _ hu8) 1 (Nat.le_of_ble_eq_true rfl) mW197 rfl rfl ?_
                                refine g_astore C dX8_read_151 (Nat.le_of_ble_eq_true rfl) rfl ?_
                                refine g_lv [some _, some _, some _, some _, some _, some _, some _, some _, some _, some _, some _, none, none] (gs_some (gs_some (gs_some (gs_some (gs_some (gs_some (gs_some (gs_some (gs_some (gs_some (gs_some (gs_none (gs_none gs_nil))))))))))))) ?_
                                refine g_iload_n C dX8_read_153 rfl ?_
                                refine g_if_ne C 161 dX8_read_154 (by decide) (fun c_154 => ?_) (fun c_154 => ?_)
                                · refine g_iload_n C dX8_read_161 rfl ?_
                                  refine g_iconst (v := 4) C dX8_read_162 (by decide) ?_
                                  refine g_imul C dX8_read_163 ?_
                                  rw [show nI c1 * 4 = nI (c1 * 4) by rw [show (4 : Int32) = nI 4 from rfl, pk_mul]]
                                  refine g_istore C dX8_read_164 (Nat.le_of_ble_eq_true rfl) rfl ?_
                                  refine g_lv [some _, some _, some _, some _, some _, some _, some _, some _, some _, some _, some _, some _, none] (gs_some (gs_some (gs_some (gs_some (gs_some (gs_some (gs_some (gs_some (gs_some (gs_some (gs_some (gs_some (gs_none gs_nil))))))))))))) ?_
                                  refine g_iconst (v := 0) C dX8_read_166 (by decide) ?_
                                  refine g_istore C dX8_read_167 (Nat.le_of_ble_eq_true rfl) rfl ?_
                                  refine g_lv [some _, some _, some _, some _, some _, some _, some _, some _, some _, some _, some _, some _, some _] (gs_some (gs_some (gs_some (gs_some (gs_some (gs_some (gs_some (gs_some (gs_some (gs_some (gs_some (gs_some (gs_some gs_nil))))))))))))) ?_
                                  have L_169 : ∀ (nn : Nat) (d : Nat) (g : Nat → Int32) (hd : d ≤ vC v u_2) (hg : ∀ j, g j = if c1 * 4 ≤ j ∧ j < c1 * 4 + d then (gL σ u_10 (i1 + (j - c1 * 4))).toInt32 else gI s_131 (8 + u_2) j), vC v u_2 - d < nn → gW Γ δ (uI s_131 (8 + u_2) g) 169 [some (.ref (δ.2.2.1 0)), some (.int (nI u_2)), some (.int 1), some (.int (nI c1)), some (.int (nI u_10)), some (.int (nI i1)), some (.ref (δ.2.2.1 (8 + u_2))), some (.ref (δ.2.2.1 (2 + u_10))), some (.int (-9)), some (.int 9), some (.ref (δ.2.2.1 (30 + u_2))), some (.int (nI (c1 * 4))), some (.int (nI d))] [] := by
                                    intro nn
                                    induction nn with
                                    | zero =>
                                      intro d g hd hg hm_169
                                      exact absurd hm_169 (Nat.not_lt_zero _)
                                    | succ nn ih_169 =>
                                      intro d g hd hg hm_169
                                      refine g_iload C dX8_read_169 rfl ?_
                                      refine g_aload C dX8_read_171 rfl ?_
                                      refine g_get C dX8_read_173 iwX7 rfl (wO_U δ _ hu8) 3 (Nat.le_of_ble_eq_true rfl) mW202 rfl rfl ?_
                                      rw [gN_uI, K2.2.1 u_2 hu8]
                                      refine g_icmp_ge C 205 dX8_read_176 (by decide) (fun c_176 => ?_) (fun c_176 => ?_)
                                      · have k_176 := gle c_176 (a := (vC v u_2)) (b := d) (by first | rfl | assumption | (simp only [glit, nI_add, pk_mul]; done) | (simp only [glit, nI_add, pk_mul]; congr 1; omega) | (simp only [*, glit, nI_add, pk_mul]; congr 1; omega)) (by first | rfl | assumption | (simp only [glit, nI_add, pk_mul]; done) | (simp only [glit, nI_add, pk_mul]; congr 1; omega) | (simp only [*, glit, nI_add, pk_mul]; congr 1; omega)) (by omega) (by omega)
                                        have ek : vC v u_2 = d := by omega
                                        have h4d := h4
                                        refine g_iconst (v := 0) C dX8_read_205 (by decide) ?_
                                        exact g_iret C E dX8_read_206 rfl rfl ⟨_, rfl, vPostC ((fRead_at hu_2 hu8 hu_10 ⟨1, by decide, rfl⟩ (fun _ => ⟨c1, hc1, rfl⟩) em1 hm1).trans (((if_neg (fun q => c_58 ((gkd_n hk1).mp q)))).trans ((gIf_t h_73).trans (gIf_t (by rw [nU_n (by omega)]; exact h_121))))) rfl (by rw [nU_n (show i1 < 2147483648 by omega), nU_n (show c1 < 2147483648 by omega)]; exact KC_wr2 (f := fun d => gL σ u_10 (i1 + d)) K2 hu8 (by omega) h4 (fun j hj => by rw [ek]; exact hg j)) (FC_I (by omega) F2)⟩
                                      · have k_176 := gnle c_176 (a := (vC v u_2)) (b := d) (by first | rfl | assumption | (simp only [glit, nI_add, pk_mul]; done) | (simp only [glit, nI_add, pk_mul]; congr 1; omega) | (simp only [*, glit, nI_add, pk_mul]; congr 1; omega)) (by first | rfl | assumption | (simp only [glit, nI_add, pk_mul]; done) | (simp only [glit, nI_add, pk_mul]; congr 1; omega) | (simp only [*, glit, nI_add, pk_mul]; congr 1; omega)) (by omega) (by omega)
                                        refine g_aload C dX8_read_179 rfl ?_
                                        refine g_iload C dX8_read_181 rfl ?_
                                        refine g_iload C dX8_read_183 rfl ?_
                                        refine g_iadd C dX8_read_185 ?_
                                        refine g_aload C dX8_read_186 rfl ?_
                                        refine g_get C dX8_read_188 iwX6 rfl (wO_S δ _ hu_10) 0 (Nat.le_of_ble_eq_true rfl) mW173 rfl rfl ?_
                                        refine g_iload C dX8_read_191 rfl ?_
                                        refine g_iload C dX8_read_193 rfl ?_
                                        refine g_iadd C dX8_read_195 ?_
                                        refine g_laldN C dX8_read_196 (k := (i1 + d)) (q := u_10) (by omega) rfl (by first | rfl | assumption | (simp only [glit, nI_add, pk_mul]; done) | (simp only [glit, nI_add, pk_mul]; congr 1; omega) | (simp only [*, glit, nI_add, pk_mul]; congr 1; omega)) (by rw [gLenL_s hu_10]; omega) ?_
                                        rw [gL_uI, F2.2.1]
                                        refine g_l2i C dX8_read_197 ?_
                                        refine g_iastN C dX8_read_198 (k := (c1 * 4 + d)) (q := (8 + u_2)) (by omega) (congrArg _ (by omega)) (by first | rfl | assumption | (simp only [glit, nI_add, pk_mul]; done) | (simp only [glit, nI_add, pk_mul]; congr 1; omega) | (simp only [*, glit, nI_add, pk_mul]; congr 1; omega)) (by rw [gLenI_t hu8]; omega) ?_
                                        refine g_iinc (v := nI (d + 1)) C dX8_read_199 rfl (ginc _ 1) rfl ?_
                                        refine g_lv [some _, some _, some _, some _, some _, some _, some _, some _, some _, some _, some _, some _, some _] (gs_some (gs_some (gs_some (gs_some (gs_some (gs_some (gs_some (gs_some (gs_some (gs_some (gs_some (gs_some (gs_some gs_nil))))))))))))) ?_
                                        refine g_goto C 169 dX8_read_202 (by decide) ?_
                                        refine g_lv [some _, some _, some _, some _, some _, some _, some _, some _, some _, some _, some _, some _, some _] (gs_some (gs_some (gs_some (gs_some (gs_some (gs_some (gs_some (gs_some (gs_some (gs_some (gs_some (gs_some (gs_some gs_nil))))))))))))) ?_
                                        rw [uI_uI, gI_uI, if_pos rfl]
                                        exact ih_169 (d + 1) _ (by omega) (rd_step (f := fun d => gL σ u_10 (i1 + d)) hg rfl) (by omega)
                                  refine g_lv [some _, some _, some _, some _, some _, some _, some _, some _, some _, some _, some _, some _, some _] (gs_some (gs_some (gs_some (gs_some (gs_some (gs_some (gs_some (gs_some (gs_some (gs_some (gs_some (gs_some (gs_some gs_nil))))))))))))) ?_
                                  refine g_st (uI_id _ (8 + u_2)).symm ?_
                                  exact L_169 _ 0 _ (Nat.zero_le _) (fun j => (if_neg (by omega)).symm) (Nat.lt_succ_self _)
                                · exact absurd c_154 (by decide)
                              · exact absurd c_135 (by decide)
                            · exact absurd c_124 (by decide)
                          · skip
                            refine g_if_ne C 130 dX8_read_124 (by decide) (fun c_124 => ?_) (fun c_124 => ?_)
                            · exact absurd c_124 (by decide)
                            · refine g_bipush (v := (-15)) C dX8_read_127 (by decide) ?_
                              exact g_iret C E dX8_read_129 rfl rfl ⟨_, rfl, vPostC ((fRead_at hu_2 hu8 hu_10 ⟨1, by decide, rfl⟩ (fun _ => ⟨c1, hc1, rfl⟩) em1 hm1).trans (((if_neg (fun q => c_58 ((gkd_n hk1).mp q)))).trans ((gIf_t h_73).trans (gIf_f (by rw [nU_n (by omega)]; exact h_121))))) rfl K (FC_r _)⟩
                        · exact absurd c_95 (by decide)
                      · exact absurd c_83 (by decide)
                    · exact absurd c_76 (by decide)
                  · skip
                    refine g_if_ne C 82 dX8_read_76 (by decide) (fun c_76 => ?_) (fun c_76 => ?_)
                    · exact absurd c_76 (by decide)
                    · refine g_bipush (v := (-12)) C dX8_read_79 (by decide) ?_
                      exact g_iret C E dX8_read_81 rfl rfl ⟨_, rfl, vPostC ((fRead_at hu_2 hu8 hu_10 ⟨1, by decide, rfl⟩ (fun _ => ⟨c1, hc1, rfl⟩) em1 hm1).trans (((if_neg (fun q => c_58 ((gkd_n hk1).mp q)))).trans (gIf_f h_73))) rfl K (FC_r _)⟩
                · refine g_bipush (v := (-11)) C dX8_read_61 (by decide) ?_
                  exact g_iret C E dX8_read_63 rfl rfl ⟨_, rfl, vPostC ((fRead_at hu_2 hu8 hu_10 ⟨1, by decide, rfl⟩ (fun _ => ⟨c1, hc1, rfl⟩) em1 hm1).trans (if_pos ((gkd_n hk1).mpr c_58))) rfl K (FC_r _)⟩
              · exact absurd c_47 (by decide)
            · skip
              refine g_if_ne C 52 dX8_read_47 (by decide) (fun c_47 => ?_) (fun c_47 => ?_)
              · exact absurd c_47 (by decide)
              · refine g_iconst (v := (-1)) C dX8_read_50 (by decide) ?_
                exact g_iret C E dX8_read_51 rfl rfl ⟨_, rfl, vPostC (by first | exact gIf_f (fun z => h_2 z.1.1) | exact gIf_f (fun z => h_10 z.1.2) | exact gIf_f (fun z => h_44 ((okC_n hu8).mp (z.2.2 rfl)))) rfl K (FC_r _)⟩
        · exact absurd c_31 (by decide)
set_option maxRecDepth 100000 in
set_option maxHeartbeats 4000000 in
theorem c_X8_readN (l : Launch) (δ : GD) (σ : GS) (a0 a1 a2 a3 a4 : Int32) (hN : ¬ gIx a1 2) {v : GV} (K : KC σ v) (R : RV v) (hk : ∀ u, u < 6 → -1 ≤ gN σ (2 + u) ∧ ∃ m : Nat, m ≤ 16 ∧ gN σ (8 + u) = nI m) : gM l δ yX8_read cX8_read 13 (some .int) 3 62 [.ref (δ.2.2.1 0), .int a0, .int a1, .int a2, .int a3, .int a4] σ (gPi (fun x σ' => x = (fRead v (fun u => gN σ (2 + u)) (fun u => gN σ (8 + u)) (gL σ) a0 a1 a2 a3 a4).1 ∧ KC σ' (fRead v (fun u => gN σ (2 + u)) (fun u => gN σ (8 + u)) (gL σ) a0 a1 a2 a3 a4).2 ∧ FC σ σ')) := by
  refine g_of (lv0 := [some (.ref (δ.2.2.1 0)), some (.int a0), some (.int a1), some (.int a2), some (.int a3), some (.int a4), none, none, none, none, none, none, none]) (by decide) rfl (Nat.le_of_ble_eq_true rfl) (fun Γ hl C E => ?_)
  subst hl
  have C : gC Γ δ cX8_read RX8 13 3 62 := C
  have hm := K.1
  have h8 := R.1
  obtain ⟨kn, hkn, hx, -⟩ := id K.2.2.2.2
  have hl := K.2.2.2.1.2
  have h20 := K.2.2.2.1.1
  refine g_aload_n C dX8_read_0 rfl ?_
  refine g_iload_n C dX8_read_1 rfl ?_
  refine g_callVr C sV_X8_101 dX8_read_2 (c_X8_urnAt _ δ _ _ hm h8) ⟨by decide, by decide⟩ (wO_X δ _) rfl rfl rfl rfl (Nat.le_of_ble_eq_true rfl) (fun r_2 s_2 h_2 => ?_)
  obtain ⟨rfl, h_2⟩ := h_2
  rcases h_2 with ⟨rfl, h_2⟩ | ⟨u_2, hu_2, e_2, rfl⟩
  · skip
    refine g_astoreN C dX8_read_5 (Nat.le_of_ble_eq_true rfl) rfl ?_
    refine g_lv [some _, some _, some _, some _, some _, some _, some _, none, none, none, none, none, none] (gs_some (gs_some (gs_some (gs_some (gs_some (gs_some (gs_some (gs_none (gs_none (gs_none (gs_none (gs_none (gs_none gs_nil))))))))))))) ?_
    refine g_aload_n C dX8_read_7 rfl ?_
    refine g_iload C dX8_read_8 rfl ?_
    refine g_callVr C sV_X8_72 dX8_read_10 (c_X8_sheetAt _ δ _ _) ⟨by decide, by decide⟩ (wO_X δ _) rfl rfl rfl rfl (Nat.le_of_ble_eq_true rfl) (fun r_10 s_10 h_10 => ?_)
    obtain ⟨rfl, h_10⟩ := h_10
    rcases h_10 with ⟨rfl, h_10⟩ | ⟨u_10, hu_10, e_10, rfl⟩
    · skip
      refine g_astoreN C dX8_read_13 (Nat.le_of_ble_eq_true rfl) rfl ?_
      refine g_lv [some _, some _, some _, some _, some _, some _, some _, some _, none, none, none, none, none] (gs_some (gs_some (gs_some (gs_some (gs_some (gs_some (gs_some (gs_some (gs_none (gs_none (gs_none (gs_none (gs_none gs_nil))))))))))))) ?_
      refine g_aloadN C dX8_read_15 rfl ?_
      refine g_ifnull_n C 34 dX8_read_17 (by decide) ?_
      refine g_iconst (v := (-1)) C dX8_read_34 (by decide) ?_
      exact g_iret C E dX8_read_35 rfl rfl ⟨_, rfl, vPostC (gIf_f (fun z => hN z.2.1)) rfl K (FC_r _)⟩
    · obtain ⟨hk1, m1, hm1, em1⟩ := hk u_10 hu_10
      subst e_10
      refine g_astore C dX8_read_13 (Nat.le_of_ble_eq_true rfl) rfl ?_
      refine g_lv [some _, some _, some _, some _, some _, some _, some _, some _, none, none, none, none, none] (gs_some (gs_some (gs_some (gs_some (gs_some (gs_some (gs_some (gs_some (gs_none (gs_none (gs_none (gs_none (gs_none gs_nil))))))))))))) ?_
      refine g_aloadN C dX8_read_15 rfl ?_
      refine g_ifnull_n C 34 dX8_read_17 (by decide) ?_
      refine g_iconst (v := (-1)) C dX8_read_34 (by decide) ?_
      exact g_iret C E dX8_read_35 rfl rfl ⟨_, rfl, vPostC (gIf_f (fun z => hN z.2.1)) rfl K (FC_r _)⟩
  · have hu8 : u_2 < 8 := by omega
    obtain ⟨h2, h4⟩ := (R.2.1 u_2 hu8).1 hu_2
    have hn := K.2.1 u_2 hu8
    subst e_2
    refine g_astore C dX8_read_5 (Nat.le_of_ble_eq_true rfl) rfl ?_
    refine g_lv [some _, some _, some _, some _, some _, some _, some _, none, none, none, none, none, none] (gs_some (gs_some (gs_some (gs_some (gs_some (gs_some (gs_some (gs_none (gs_none (gs_none (gs_none (gs_none (gs_none gs_nil))))))))))))) ?_
    refine g_aload_n C dX8_read_7 rfl ?_
    refine g_iload C dX8_read_8 rfl ?_
    refine g_callVr C sV_X8_72 dX8_read_10 (c_X8_sheetAt _ δ _ _) ⟨by decide, by decide⟩ (wO_X δ _) rfl rfl rfl rfl (Nat.le_of_ble_eq_true rfl) (fun r_10 s_10 h_10 => ?_)
    obtain ⟨rfl, h_10⟩ := h_10
    rcases h_10 with ⟨rfl, h_10⟩ | ⟨u_10, hu_10, e_10, rfl⟩
    · skip
      refine g_astoreN C dX8_read_13 (Nat.le_of_ble_eq_true rfl) rfl ?_
      refine g_lv [some _, some _, some _, some _, some _, some _, some _, some _, none, none, none, none, none] (gs_some (gs_some (gs_some (gs_some (gs_some (gs_some (gs_some (gs_some (gs_none (gs_none (gs_none (gs_none (gs_none gs_nil))))))))))))) ?_
      refine g_aload C dX8_read_15 rfl ?_
      refine g_ifnull_r C dX8_read_17 ?_
      refine g_aloadN C dX8_read_20 rfl ?_
      refine g_ifnull_n C 34 dX8_read_22 (by decide) ?_
      refine g_iconst (v := (-1)) C dX8_read_34 (by decide) ?_
      exact g_iret C E dX8_read_35 rfl rfl ⟨_, rfl, vPostC (gIf_f (fun z => hN z.2.1)) rfl K (FC_r _)⟩
    · obtain ⟨hk1, m1, hm1, em1⟩ := hk u_10 hu_10
      subst e_10
      refine g_astore C dX8_read_13 (Nat.le_of_ble_eq_true rfl) rfl ?_
      refine g_lv [some _, some _, some _, some _, some _, some _, some _, some _, none, none, none, none, none] (gs_some (gs_some (gs_some (gs_some (gs_some (gs_some (gs_some (gs_some (gs_none (gs_none (gs_none (gs_none (gs_none gs_nil))))))))))))) ?_
      refine g_aload C dX8_read_15 rfl ?_
      refine g_ifnull_r C dX8_read_17 ?_
      refine g_aload C dX8_read_20 rfl ?_
      refine g_ifnull_r C dX8_read_22 ?_
      refine g_iload_n C dX8_read_25 rfl ?_
      refine g_if_lt C 34 dX8_read_26 (by decide) (fun c_26 => ?_) (fun c_26 => ?_)
      · refine g_iconst (v := (-1)) C dX8_read_34 (by decide) ?_
        exact g_iret C E dX8_read_35 rfl rfl ⟨_, rfl, vPostC (gIf_f (fun z => hN z.2.1)) rfl K (FC_r _)⟩
      · refine g_iload_n C dX8_read_29 rfl ?_
        refine g_iconst (v := 1) C dX8_read_30 (by decide) ?_
        refine g_icmp_le C 36 dX8_read_31 (by decide) (fun c_31 => ?_) (fun c_31 => ?_)
        · exact absurd (gIx_01 c_26 c_31) hN
        · refine g_iconst (v := (-1)) C dX8_read_34 (by decide) ?_
          exact g_iret C E dX8_read_35 rfl rfl ⟨_, rfl, vPostC (gIf_f (fun z => hN z.2.1)) rfl K (FC_r _)⟩
