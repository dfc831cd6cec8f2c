set_option maxRecDepth 100000 in
set_option maxHeartbeats 4000000 in
theorem c_X9_read0 (l : Launch) (δ : GD) (σ : GS) (a0 a2 a3 a4 : Int32) {v : GV} (K : KM σ v) (R : RV v) (hk : ∀ u, u < 6 → ∃ m : Nat, m ≤ 16 ∧ gI σ 51 u = nI m) : gM l δ yX9_read cX9_read 7 (some .int) 2 47 [.ref (δ.2.2.1 1), .int a0, .int 0, .int a2, .int a3, .int a4] σ (gPi (fun x σ' => x = (fRead v (gI σ 50) (gI σ 51) (fun u j => gL σ 12 (16 * u + j)) a0 0 a2 a3 a4).1 ∧ KM σ' (fRead v (gI σ 50) (gI σ 51) (fun u j => gL σ 12 (16 * u + j)) a0 0 a2 a3 a4).2 ∧ FM σ σ')) := by
  refine g_of (lv0 := [some (.ref (δ.2.2.1 1)), some (.int a0), some (.int 0), some (.int a2), some (.int a3), some (.int a4), none]) (by decide) rfl (Nat.le_of_ble_eq_true rfl) (fun Γ hl C E => ?_)
  subst hl
  have C : gC Γ δ cX9_read RX9 7 2 47 := C
  have hm := K.1
  have h8 := R.1
  refine g_aload_n C dX9_read_0 rfl ?_
  refine g_iload_n C dX9_read_1 rfl ?_
  refine g_callVi C sV_X9_89 dX9_read_2 (c_X9_isUrn _ δ _ _ hm h8) ⟨by decide, by decide⟩ (wO_M δ _) rfl rfl rfl rfl (Nat.le_of_ble_eq_true rfl) (fun r_2 s_2 h_2 => ?_)
  obtain ⟨rfl, h_2⟩ := h_2
  rcases h_2 with ⟨rfl, h_2⟩ | ⟨rfl, h_2⟩
  · obtain ⟨u1, hu1, rfl⟩ := id h_2
    have hu8 : u1 < 8 := by omega
    obtain ⟨h2, h4⟩ := (R.2.1 u1 hu8).1 hu1
    have hn := K.2.1 u1 hu8
    refine g_if_eq C 40 dX9_read_5 (by decide) (fun c_5 => ?_) (fun c_5 => ?_)
    · exact absurd c_5 (by decide)
    · refine g_iload_n C dX9_read_8 rfl ?_
      refine g_i2l C dX9_read_9 ?_
      refine g_lconst (v := 0) C dX9_read_10 (by decide) ?_
      refine g_lconst (v := 1) C dX9_read_11 (by decide) ?_
      refine g_callSi C sS_X9_62 dX9_read_12 (c_X9_in _ δ _ _ _ _) ⟨by decide, by decide⟩ rfl rfl rfl (Nat.le_of_ble_eq_true rfl) (fun r_12 s_12 h_12 => ?_)
      obtain ⟨rfl, h_12⟩ := h_12
      rcases h_12 with ⟨rfl, h_12⟩ | ⟨rfl, h_12⟩
      · skip
        refine g_if_eq C 40 dX9_read_15 (by decide) (fun c_15 => ?_) (fun c_15 => ?_)
        · exact absurd c_15 (by decide)
        · refine g_iload_n C dX9_read_18 rfl ?_
          refine g_iconst (v := 1) C dX9_read_19 (by decide) ?_
          refine g_icmp_ne C 32 dX9_read_20 (by decide) (fun c_20 => ?_) (fun c_20 => ?_)
          · have k_20 := gne c_20 (a := 0) (b := 1) (by first | rfl | assumption | (simp only [glit, nI_add, pk_mul]; done) | (simp only [glit, nI_add, pk_mul]; congr 1; omega) | (simp only [*, glit, nI_add, pk_mul]; congr 1; omega)) (by first | rfl | assumption | (simp only [glit, nI_add, pk_mul]; done) | (simp only [glit, nI_add, pk_mul]; congr 1; omega) | (simp only [*, glit, nI_add, pk_mul]; congr 1; omega)) (by omega) (by omega)
            refine g_iload C dX9_read_32 rfl ?_
            refine g_callSi C sS_X9_66 dX9_read_34 (c_X9_isSheet _ δ _ _) ⟨by decide, by decide⟩ rfl rfl rfl (Nat.le_of_ble_eq_true rfl) (fun r_34 s_34 h_34 => ?_)
            obtain ⟨rfl, h_34⟩ := h_34
            rcases h_34 with ⟨rfl, h_34⟩ | ⟨rfl, h_34⟩
            · obtain ⟨r1, hr1, rfl⟩ := id h_34
              obtain ⟨m1, hm1, em1⟩ := hk r1 hr1
              refine g_if_ne C 42 dX9_read_37 (by decide) (fun c_37 => ?_) (fun c_37 => ?_)
              · refine g_aload_n C dX9_read_42 rfl ?_
                refine g_get C dX9_read_43 iwX9 rfl (wO_M δ _) 0 (Nat.le_of_ble_eq_true rfl) mW572 rfl rfl ?_
                refine g_iload C dX9_read_46 rfl ?_
                refine g_ialdN C dX9_read_48 (k := r1) (q := 50) (by decide) rfl (by first | rfl | assumption | (simp only [glit, nI_add, pk_mul]; done) | (simp only [glit, nI_add, pk_mul]; congr 1; omega) | (simp only [*, glit, nI_add, pk_mul]; congr 1; omega)) (show r1 < gLenI 50 from Nat.lt_of_lt_of_eq (show r1 < 6 by omega) rfl) ?_
                refine g_if_ge C 55 dX9_read_49 (by decide) (fun c_49 => ?_) (fun c_49 => ?_)
                · refine g_iload C dX9_read_55 rfl ?_
                  refine g_if_lt C 79 dX9_read_57 (by decide) (fun c_57 => ?_) (fun c_57 => ?_)
                  · refine g_bipush (v := (-12)) C dX9_read_79 (by decide) ?_
                    exact g_iret C E dX9_read_81 rfl rfl ⟨_, rfl, vPostM ((fRead_at hu1 hu8 hr1 ⟨0, by decide, rfl⟩ (fun e => absurd e (by decide)) em1 hm1).trans ((if_neg (Int32.not_lt.mpr c_49)).trans (gIf_f (by first | exact gRch_i c_57 | exact c_76)))) rfl K (FM_r _)⟩
                  · refine g_iload C dX9_read_60 rfl ?_
                    refine g_aload_n C dX9_read_62 rfl ?_
                    refine g_get C dX9_read_63 iwX9 rfl (wO_M δ _) 1 (Nat.le_of_ble_eq_true rfl) mW573 rfl rfl ?_
                    refine g_iload C dX9_read_66 rfl ?_
                    refine g_ialdN C dX9_read_68 (k := r1) (q := 51) (by decide) rfl (by first | rfl | assumption | (simp only [glit, nI_add, pk_mul]; done) | (simp only [glit, nI_add, pk_mul]; congr 1; omega) | (simp only [*, glit, nI_add, pk_mul]; congr 1; omega)) (show r1 < gLenI 51 from Nat.lt_of_lt_of_eq (show r1 < 6 by omega) rfl) ?_
                    rw [em1]
                    refine g_aload_n C dX9_read_69 rfl ?_
                    refine g_get C dX9_read_70 iwX9 rfl (wO_M δ _) 5 (Nat.le_of_ble_eq_true rfl) mW577 rfl rfl ?_
                    refine g_iload_n C dX9_read_73 rfl ?_
                    refine g_ialdN C dX9_read_74 (k := u1) (q := 52) (by decide) rfl (by first | rfl | assumption | (simp only [glit, nI_add, pk_mul]; done) | (simp only [glit, nI_add, pk_mul]; congr 1; omega) | (simp only [*, glit, nI_add, pk_mul]; congr 1; omega)) (show u1 < gLenI 52 from Nat.lt_of_lt_of_eq (show u1 < 8 by omega) rfl) ?_
                    rw [hn]
                    refine g_isub C dX9_read_75 ?_
                    refine g_icmp_le C 82 dX9_read_76 (by decide) (fun c_76 => ?_) (fun c_76 => ?_)
                    · rw [grch_r hm1 h4 c_57] at c_76
                      obtain ⟨i1, n1, rfl, en, hi1⟩ := gRch_nat c_76 hm1
                      have en : vC v u1 = n1 := (nI_eq (by omega) (by omega)).mp en
                      subst en
                      refine g_iconst (v := 0) C dX9_read_82 (by decide) ?_
                      refine g_istore C dX9_read_83 (Nat.le_of_ble_eq_true rfl) rfl ?_
                      refine g_lv [some _, some _, some _, some _, some _, some _, some _] (gs_some (gs_some (gs_some (gs_some (gs_some (gs_some (gs_some gs_nil))))))) ?_
                      have L_85 : ∀ (nn : Nat) (d : Nat) (hd : d ≤ vC v u1) (hv : ∀ z, z < d → (0 : Int64) ≤ gL σ 12 (16 * r1 + (i1 + z)) ∧ gL σ 12 (16 * r1 + (i1 + z)) ≤ 200), vC v u1 - d < nn → gW Γ δ σ 85 [some (.ref (δ.2.2.1 1)), some (.int (nI u1)), some (.int 0), some (.int a2), some (.int (nI r1)), some (.int (nI i1)), some (.int (nI d))] [] := by
                        intro nn
                        induction nn with
                        | zero =>
                          intro d hd hv hm_85
                          exact absurd hm_85 (Nat.not_lt_zero _)
                        | succ nn ih_85 =>
                          intro d hd hv hm_85
                          refine g_iload C dX9_read_85 rfl ?_
                          refine g_aload_n C dX9_read_87 rfl ?_
                          refine g_get C dX9_read_88 iwX9 rfl (wO_M δ _) 5 (Nat.le_of_ble_eq_true rfl) mW577 rfl rfl ?_
                          refine g_iload_n C dX9_read_91 rfl ?_
                          refine g_ialdN C dX9_read_92 (k := u1) (q := 52) (by decide) rfl (by first | rfl | assumption | (simp only [glit, nI_add, pk_mul]; done) | (simp only [glit, nI_add, pk_mul]; congr 1; omega) | (simp only [*, glit, nI_add, pk_mul]; congr 1; omega)) (show u1 < gLenI 52 from Nat.lt_of_lt_of_eq (show u1 < 8 by omega) rfl) ?_
                          rw [hn]
                          refine g_icmp_ge C 151 dX9_read_93 (by decide) (fun c_93 => ?_) (fun c_93 => ?_)
                          · have k_93 := gle c_93 (a := (vC v u1)) (b := d) (by first | rfl | assumption | (simp only [glit, nI_add, pk_mul]; done) | (simp only [glit, nI_add, pk_mul]; congr 1; omega) | (simp only [*, glit, nI_add, pk_mul]; congr 1; omega)) (by first | rfl | assumption | (simp only [glit, nI_add, pk_mul]; done) | (simp only [glit, nI_add, pk_mul]; congr 1; omega) | (simp only [*, glit, nI_add, pk_mul]; congr 1; omega)) (by omega) (by omega)
                            have ek : vC v u1 = d := by omega
                            refine g_aload_n C dX9_read_151 rfl ?_
                            refine g_callVv C sV_X9_102 dX9_read_152 (c_X9_keep _ δ _ K) ⟨by decide, by decide⟩ (wO_M δ _) rfl rfl rfl rfl (Nat.le_of_ble_eq_true rfl) (fun s_152 h_152 => ?_)
                            obtain ⟨K2, F2, D2⟩ := h_152
                            refine g_iconst (v := 0) C dX9_read_155 (by decide) ?_
                            refine g_istore C dX9_read_156 (Nat.le_of_ble_eq_true rfl) rfl ?_
                            refine g_lv [some _, some _, some _, some _, some _, some _, some _] (gs_some (gs_some (gs_some (gs_some (gs_some (gs_some (gs_some gs_nil))))))) ?_
                            have L_158 : ∀ (nn : Nat) (d : Nat) (g : Nat → Int32) (hd : d ≤ vC v u1) (hg : ∀ j, g j = if 25 * u1 ≤ j ∧ j < 25 * u1 + d then (gL σ 12 (16 * r1 + (i1 + (j - (25 * u1))))).toInt32 else gI s_152 53 j), vC v u1 - d < nn → gW Γ δ (uI s_152 53 g) 158 [some (.ref (δ.2.2.1 1)), some (.int (nI u1)), some (.int 0), some (.int a2), some (.int (nI r1)), some (.int (nI i1)), some (.int (nI d))] [] := by
                              intro nn
                              induction nn with
                              | zero =>
                                intro d g hd hg hm_158
                                exact absurd hm_158 (Nat.not_lt_zero _)
                              | succ nn ih_158 =>
                                intro d g hd hg hm_158
                                refine g_iload C dX9_read_158 rfl ?_
                                refine g_aload_n C dX9_read_160 rfl ?_
                                refine g_get C dX9_read_161 iwX9 rfl (wO_M δ _) 5 (Nat.le_of_ble_eq_true rfl) mW577 rfl rfl ?_
                                refine g_iload_n C dX9_read_164 rfl ?_
                                refine g_ialdN C dX9_read_165 (k := u1) (q := 52) (by decide) rfl (by first | rfl | assumption | (simp only [glit, nI_add, pk_mul]; done) | (simp only [glit, nI_add, pk_mul]; congr 1; omega) | (simp only [*, glit, nI_add, pk_mul]; congr 1; omega)) (show u1 < gLenI 52 from Nat.lt_of_lt_of_eq (show u1 < 8 by omega) rfl) ?_
                                rw [gI_uI, if_neg (by decide), K2.2.1 u1 hu8]
                                refine g_icmp_ge C 219 dX9_read_166 (by decide) (fun c_166 => ?_) (fun c_166 => ?_)
                                · have k_166 := gle c_166 (a := (vC v u1)) (b := d) (by first | rfl | assumption | (simp only [glit, nI_add, pk_mul]; done) | (simp only [glit, nI_add, pk_mul]; congr 1; omega) | (simp only [*, glit, nI_add, pk_mul]; congr 1; omega)) (by first | rfl | assumption | (simp only [glit, nI_add, pk_mul]; done) | (simp only [glit, nI_add, pk_mul]; congr 1; omega) | (simp only [*, glit, nI_add, pk_mul]; congr 1; omega)) (by omega) (by omega)
                                  have ek2 : vC v u1 = d := by omega
                                  refine g_iconst (v := 0) C dX9_read_219 (by decide) ?_
                                  exact g_iret C E dX9_read_220 rfl rfl ⟨_, rfl, vPostM ((fRead_at hu1 hu8 hr1 ⟨0, by decide, rfl⟩ (fun e => absurd e (by decide)) em1 hm1).trans ((if_neg (Int32.not_lt.mpr c_49)).trans ((gIf_t c_76).trans (gIf_t (by rw [nU_n (by omega)]; exact (fun z hz => hv z (by omega))))))) rfl (by rw [nU_n (show i1 < 2147483648 by omega)]; exact KM_wr (b := 25 * u1 + 0) (f := fun d => gL σ 12 (16 * r1 + (i1 + d))) K2 ek2 (by omega) (fun w hw => by omega) hg) (FM_I (by omega) F2)⟩
                                · have k_166 := gnle c_166 (a := (vC v u1)) (b := d) (by first | rfl | assumption | (simp only [glit, nI_add, pk_mul]; done) | (simp only [glit, nI_add, pk_mul]; congr 1; omega) | (simp only [*, glit, nI_add, pk_mul]; congr 1; omega)) (by first | rfl | assumption | (simp only [glit, nI_add, pk_mul]; done) | (simp only [glit, nI_add, pk_mul]; congr 1; omega) | (simp only [*, glit, nI_add, pk_mul]; congr 1; omega)) (by omega) (by omega)
                                  refine g_aload_n C dX9_read_169 rfl ?_
                                  refine g_get C dX9_read_170 iwX9 rfl (wO_M δ _) 6 (Nat.le_of_ble_eq_true rfl) mW578 rfl rfl ?_
                                  refine g_bipush (v := 25) C dX9_read_173 (by decide) ?_
                                  refine g_iload_n C dX9_read_175 rfl ?_
                                  refine g_imul C dX9_read_176 ?_
                                  refine g_iload_n C dX9_read_177 rfl ?_
                                  refine g_if_ne C 186 dX9_read_178 (by decide) (fun c_178 => ?_) (fun c_178 => ?_)
                                  · exact absurd c_178 (by decide)
                                  · refine g_iload C dX9_read_181 rfl ?_
                                    refine g_goto C 194 dX9_read_183 (by decide) ?_
                                    refine g_iadd C dX9_read_194 ?_
                                    refine g_aload_n C dX9_read_195 rfl ?_
                                    refine g_get C dX9_read_196 iwX9 rfl (wO_M δ _) 2 (Nat.le_of_ble_eq_true rfl) mW574 rfl rfl ?_
                                    refine g_bipush (v := 16) C dX9_read_199 (by decide) ?_
                                    refine g_iload C dX9_read_201 rfl ?_
                                    refine g_imul C dX9_read_203 ?_
                                    refine g_iload C dX9_read_204 rfl ?_
                                    refine g_iadd C dX9_read_206 ?_
                                    refine g_iload C dX9_read_207 rfl ?_
                                    refine g_iadd C dX9_read_209 ?_
                                    refine g_laldN C dX9_read_210 (k := (16 * r1 + (i1 + d))) (q := 12) (by decide) rfl (by first | rfl | assumption | (simp only [glit, nI_add, pk_mul]; done) | (simp only [glit, nI_add, pk_mul]; congr 1; omega) | (simp only [*, glit, nI_add, pk_mul]; congr 1; omega)) (show (16 * r1 + (i1 + d)) < gLenL 12 from Nat.lt_of_lt_of_eq (show (16 * r1 + (i1 + d)) < 96 by omega) rfl) ?_
                                    rw [gL_uI, F2.2.1]
                                    refine g_l2i C dX9_read_211 ?_
                                    refine g_iastN C dX9_read_212 (k := (25 * u1 + d)) (q := 53) (by decide) rfl (by first | rfl | assumption | (simp only [glit, nI_add, pk_mul]; done) | (simp only [glit, nI_add, pk_mul]; congr 1; omega) | (simp only [*, glit, nI_add, pk_mul]; congr 1; omega)) (show (25 * u1 + d) < gLenI 53 from Nat.lt_of_lt_of_eq (show (25 * u1 + d) < 202 by omega) rfl) ?_
                                    refine g_iinc (v := nI (d + 1)) C dX9_read_213 rfl (ginc _ 1) rfl ?_
                                    refine g_lv [some _, some _, some _, some _, some _, some _, some _] (gs_some (gs_some (gs_some (gs_some (gs_some (gs_some (gs_some gs_nil))))))) ?_
                                    refine g_goto C 158 dX9_read_216 (by decide) ?_
                                    refine g_lv [some _, some _, some _, some _, some _, some _, some _] (gs_some (gs_some (gs_some (gs_some (gs_some (gs_some (gs_some gs_nil))))))) ?_
                                    rw [uI_uI, gI_uI, if_pos rfl]
                                    exact ih_158 (d + 1) _ (by omega) (rd_step (f := fun d => gL σ 12 (16 * r1 + (i1 + d))) hg rfl) (by omega)
                            refine g_lv [some _, some _, some _, some _, some _, some _, some _] (gs_some (gs_some (gs_some (gs_some (gs_some (gs_some (gs_some gs_nil))))))) ?_
                            refine g_st (uI_id _ 53).symm ?_
                            exact L_158 _ 0 _ (Nat.zero_le _) (fun j => (if_neg (by omega)).symm) (Nat.lt_succ_self _)
                          · have k_93 := gnle c_93 (a := (vC v u1)) (b := d) (by first | rfl | assumption | (simp only [glit, nI_add, pk_mul]; done) | (simp only [glit, nI_add, pk_mul]; congr 1; omega) | (simp only [*, glit, nI_add, pk_mul]; congr 1; omega)) (by first | rfl | assumption | (simp only [glit, nI_add, pk_mul]; done) | (simp only [glit, nI_add, pk_mul]; congr 1; omega) | (simp only [*, glit, nI_add, pk_mul]; congr 1; omega)) (by omega) (by omega)
                            refine g_aload_n C dX9_read_96 rfl ?_
                            refine g_get C dX9_read_97 iwX9 rfl (wO_M δ _) 2 (Nat.le_of_ble_eq_true rfl) mW574 rfl rfl ?_
                            refine g_bipush (v := 16) C dX9_read_100 (by decide) ?_
                            refine g_iload C dX9_read_102 rfl ?_
                            refine g_imul C dX9_read_104 ?_
                            refine g_iload C dX9_read_105 rfl ?_
                            refine g_iadd C dX9_read_107 ?_
                            refine g_iload C dX9_read_108 rfl ?_
                            refine g_iadd C dX9_read_110 ?_
                            refine g_laldN C dX9_read_111 (k := (16 * r1 + (i1 + d))) (q := 12) (by decide) rfl (by first | rfl | assumption | (simp only [glit, nI_add, pk_mul]; done) | (simp only [glit, nI_add, pk_mul]; congr 1; omega) | (simp only [*, glit, nI_add, pk_mul]; congr 1; omega)) (show (16 * r1 + (i1 + d)) < gLenL 12 from Nat.lt_of_lt_of_eq (show (16 * r1 + (i1 + d)) < 96 by omega) rfl) ?_
                            refine g_iload_n C dX9_read_112 rfl ?_
                            refine g_if_ne C 120 dX9_read_113 (by decide) (fun c_113 => ?_) (fun c_113 => ?_)
                            · exact absurd c_113 (by decide)
                            · refine g_lconst (v := 0) C dX9_read_116 (by decide) ?_
                              refine g_goto C 123 dX9_read_117 (by decide) ?_
                              refine g_iload_n C dX9_read_123 rfl ?_
                              refine g_if_ne C 133 dX9_read_124 (by decide) (fun c_124 => ?_) (fun c_124 => ?_)
                              · exact absurd c_124 (by decide)
                              · refine g_ldc2 C dX9_read_127 mW696 ?_
                                refine g_goto C 136 dX9_read_130 (by decide) ?_
                                refine g_callSi C sS_X9_62 dX9_read_136 (c_X9_in _ δ _ _ _ _) ⟨by decide, by decide⟩ rfl rfl rfl (Nat.le_of_ble_eq_true rfl) (fun r_136 s_136 h_136 => ?_)
                                obtain ⟨rfl, h_136⟩ := h_136
                                rcases h_136 with ⟨rfl, h_136⟩ | ⟨rfl, h_136⟩
                                · skip
                                  refine g_if_ne C 145 dX9_read_139 (by decide) (fun c_139 => ?_) (fun c_139 => ?_)
                                  · refine g_iinc (v := nI (d + 1)) C dX9_read_145 rfl (ginc _ 1) rfl ?_
                                    refine g_lv [some _, some _, some _, some _, some _, some _, some _] (gs_some (gs_some (gs_some (gs_some (gs_some (gs_some (gs_some gs_nil))))))) ?_
                                    refine g_goto C 85 dX9_read_148 (by decide) ?_
                                    refine g_lv [some _, some _, some _, some _, some _, some _, some _] (gs_some (gs_some (gs_some (gs_some (gs_some (gs_some (gs_some gs_nil))))))) ?_
                                    exact ih_85 (d + 1) (by omega) (fun z h => (Nat.lt_succ_iff_lt_or_eq.mp h).elim (fun h => hv z h) (fun h => by rw [h]; exact h_136)) (by omega)
                                  · exact absurd c_139 (by decide)
                                · skip
                                  refine g_if_ne C 145 dX9_read_139 (by decide) (fun c_139 => ?_) (fun c_139 => ?_)
                                  · exact absurd c_139 (by decide)
                                  · refine g_bipush (v := (-15)) C dX9_read_142 (by decide) ?_
                                    exact g_iret C E dX9_read_144 rfl rfl ⟨_, rfl, vPostM ((fRead_at hu1 hu8 hr1 ⟨0, by decide, rfl⟩ (fun e => absurd e (by decide)) em1 hm1).trans ((if_neg (Int32.not_lt.mpr c_49)).trans ((gIf_t c_76).trans (gIf_f (fun z => h_136 (by have q := z d (by omega); rw [nU_n (by omega)] at q; exact q)))))) rfl K (FM_r _)⟩
                      refine g_lv [some _, some _, some _, some _, some _, some _, some _] (gs_some (gs_some (gs_some (gs_some (gs_some (gs_some (gs_some gs_nil))))))) ?_
                      exact L_85 _ 0 (Nat.zero_le _) (fun _ h => absurd h (Nat.not_lt_zero _)) (Nat.lt_succ_self _)
                    · rw [grch_r hm1 h4 c_57] at c_76
                      refine g_bipush (v := (-12)) C dX9_read_79 (by decide) ?_
                      exact g_iret C E dX9_read_81 rfl rfl ⟨_, rfl, vPostM ((fRead_at hu1 hu8 hr1 ⟨0, by decide, rfl⟩ (fun e => absurd e (by decide)) em1 hm1).trans ((if_neg (Int32.not_lt.mpr c_49)).trans (gIf_f (by first | exact gRch_i c_57 | exact c_76)))) rfl K (FM_r _)⟩
                · refine g_bipush (v := (-11)) C dX9_read_52 (by decide) ?_
                  exact g_iret C E dX9_read_54 rfl rfl ⟨_, rfl, vPostM ((fRead_at hu1 hu8 hr1 ⟨0, by decide, rfl⟩ (fun e => absurd e (by decide)) em1 hm1).trans (if_pos (Int32.not_le.mp c_49))) rfl K (FM_r _)⟩
              · exact absurd c_37 (by decide)
            · skip
              refine g_if_ne C 42 dX9_read_37 (by decide) (fun c_37 => ?_) (fun c_37 => ?_)
              · exact absurd c_37 (by decide)
              · refine g_iconst (v := (-1)) C dX9_read_40 (by decide) ?_
                exact g_iret C E dX9_read_41 rfl rfl ⟨_, rfl, vPostM (by first | exact gIf_f (fun z => h_2 z.1.1) | exact gIf_f (fun z => h_34 z.1.2)) rfl K (FM_r _)⟩
          · exact absurd c_20 (by decide)
      · exact absurd ⟨by decide, by decide⟩ h_12
  · skip
    refine g_if_eq C 40 dX9_read_5 (by decide) (fun c_5 => ?_) (fun c_5 => ?_)
    · refine g_iconst (v := (-1)) C dX9_read_40 (by decide) ?_
      exact g_iret C E dX9_read_41 rfl rfl ⟨_, rfl, vPostM (by first | exact gIf_f (fun z => h_2 z.1.1) | exact gIf_f (fun z => h_34 z.1.2)) rfl K (FM_r _)⟩
    · exact absurd c_5 (by decide)
set_option maxRecDepth 100000 in
set_option maxHeartbeats 4000000 in
theorem c_X9_read1 (l : Launch) (δ : GD) (σ : GS) (a0 a2 a3 a4 : Int32) {v : GV} (K : KM σ v) (R : RV v) (hk : ∀ u, u < 6 → ∃ m : Nat, m ≤ 16 ∧ gI σ 51 u = nI m) : gM l δ yX9_read cX9_read 7 (some .int) 2 47 [.ref (δ.2.2.1 1), .int a0, .int 1, .int a2, .int a3, .int a4] σ (gPi (fun x σ' => x = (fRead v (gI σ 50) (gI σ 51) (fun u j => gL σ 12 (16 * u + j)) a0 1 a2 a3 a4).1 ∧ KM σ' (fRead v (gI σ 50) (gI σ 51) (fun u j => gL σ 12 (16 * u + j)) a0 1 a2 a3 a4).2 ∧ FM σ σ')) := by
  refine g_of (lv0 := [some (.ref (δ.2.2.1 1)), some (.int a0), some (.int 1), some (.int a2), some (.int a3), some (.int a4), none]) (by decide) rfl (Nat.le_of_ble_eq_true rfl) (fun Γ hl C E => ?_)
  subst hl
  have C : gC Γ δ cX9_read RX9 7 2 47 := C
  have hm := K.1
  have h8 := R.1
  refine g_aload_n C dX9_read_0 rfl ?_
  refine g_iload_n C dX9_read_1 rfl ?_
  refine g_callVi C sV_X9_89 dX9_read_2 (c_X9_isUrn _ δ _ _ hm h8) ⟨by decide, by decide⟩ (wO_M δ _) rfl rfl rfl rfl (Nat.le_of_ble_eq_true rfl) (fun r_2 s_2 h_2 => ?_)
  obtain ⟨rfl, h_2⟩ := h_2
  rcases h_2 with ⟨rfl, h_2⟩ | ⟨rfl, h_2⟩
  · obtain ⟨u1, hu1, rfl⟩ := id h_2
    have hu8 : u1 < 8 := by omega
    obtain ⟨h2, h4⟩ := (R.2.1 u1 hu8).1 hu1
    have hn := K.2.1 u1 hu8
    refine g_if_eq C 40 dX9_read_5 (by decide) (fun c_5 => ?_) (fun c_5 => ?_)
    · exact absurd c_5 (by decide)
    · refine g_iload_n C dX9_read_8 rfl ?_
      refine g_i2l C dX9_read_9 ?_
      refine g_lconst (v := 0) C dX9_read_10 (by decide) ?_
      refine g_lconst (v := 1) C dX9_read_11 (by decide) ?_
      refine g_callSi C sS_X9_62 dX9_read_12 (c_X9_in _ δ _ _ _ _) ⟨by decide, by decide⟩ rfl rfl rfl (Nat.le_of_ble_eq_true rfl) (fun r_12 s_12 h_12 => ?_)
      obtain ⟨rfl, h_12⟩ := h_12
      rcases h_12 with ⟨rfl, h_12⟩ | ⟨rfl, h_12⟩
      · skip
        refine g_if_eq C 40 dX9_read_15 (by decide) (fun c_15 => ?_) (fun c_15 => ?_)
        · exact absurd c_15 (by decide)
        · refine g_iload_n C dX9_read_18 rfl ?_
          refine g_iconst (v := 1) C dX9_read_19 (by decide) ?_
          refine g_icmp_ne C 32 dX9_read_20 (by decide) (fun c_20 => ?_) (fun c_20 => ?_)
          · exact absurd rfl c_20
          · have k_20 := geq c_20 (a := 1) (b := 1) (by first | rfl | assumption | (simp only [glit, nI_add, pk_mul]; done) | (simp only [glit, nI_add, pk_mul]; congr 1; omega) | (simp only [*, glit, nI_add, pk_mul]; congr 1; omega)) (by first | rfl | assumption | (simp only [glit, nI_add, pk_mul]; done) | (simp only [glit, nI_add, pk_mul]; congr 1; omega) | (simp only [*, glit, nI_add, pk_mul]; congr 1; omega)) (by omega) (by omega)
            refine g_aload_n C dX9_read_23 rfl ?_
            refine g_iload_n C dX9_read_24 rfl ?_
            refine g_iload_n C dX9_read_25 rfl ?_
            refine g_callVi C sV_X9_92 dX9_read_26 (c_X9_isColour _ δ _ hu8 _ hn h4) ⟨by decide, by decide⟩ (wO_M δ _) rfl rfl rfl rfl (Nat.le_of_ble_eq_true rfl) (fun r_26 s_26 h_26 => ?_)
            obtain ⟨rfl, h_26⟩ := h_26
            rcases h_26 with ⟨rfl, h_26⟩ | ⟨rfl, h_26⟩
            · obtain ⟨c1, hc1, rfl⟩ := id h_26
              refine g_if_eq C 40 dX9_read_29 (by decide) (fun c_29 => ?_) (fun c_29 => ?_)
              · exact absurd c_29 (by decide)
              · refine g_iload C dX9_read_32 rfl ?_
                refine g_callSi C sS_X9_66 dX9_read_34 (c_X9_isSheet _ δ _ _) ⟨by decide, by decide⟩ rfl rfl rfl (Nat.le_of_ble_eq_true rfl) (fun r_34 s_34 h_34 => ?_)
                obtain ⟨rfl, h_34⟩ := h_34
                rcases h_34 with ⟨rfl, h_34⟩ | ⟨rfl, h_34⟩
                · obtain ⟨r1, hr1, rfl⟩ := id h_34
                  obtain ⟨m1, hm1, em1⟩ := hk r1 hr1
                  refine g_if_ne C 42 dX9_read_37 (by decide) (fun c_37 => ?_) (fun c_37 => ?_)
                  · refine g_aload_n C dX9_read_42 rfl ?_
                    refine g_get C dX9_read_43 iwX9 rfl (wO_M δ _) 0 (Nat.le_of_ble_eq_true rfl) mW572 rfl rfl ?_
                    refine g_iload C dX9_read_46 rfl ?_
                    refine g_ialdN C dX9_read_48 (k := r1) (q := 50) (by decide) rfl (by first | rfl | assumption | (simp only [glit, nI_add, pk_mul]; done) | (simp only [glit, nI_add, pk_mul]; congr 1; omega) | (simp only [*, glit, nI_add, pk_mul]; congr 1; omega)) (show r1 < gLenI 50 from Nat.lt_of_lt_of_eq (show r1 < 6 by omega) rfl) ?_
                    refine g_if_ge C 55 dX9_read_49 (by decide) (fun c_49 => ?_) (fun c_49 => ?_)
                    · refine g_iload C dX9_read_55 rfl ?_
                      refine g_if_lt C 79 dX9_read_57 (by decide) (fun c_57 => ?_) (fun c_57 => ?_)
                      · refine g_bipush (v := (-12)) C dX9_read_79 (by decide) ?_
                        exact g_iret C E dX9_read_81 rfl rfl ⟨_, rfl, vPostM ((fRead_at hu1 hu8 hr1 ⟨1, by decide, rfl⟩ (fun _ => ⟨c1, hc1, rfl⟩) em1 hm1).trans ((if_neg (Int32.not_lt.mpr c_49)).trans (gIf_f (by first | exact gRch_i c_57 | exact c_76)))) rfl K (FM_r _)⟩
                      · refine g_iload C dX9_read_60 rfl ?_
                        refine g_aload_n C dX9_read_62 rfl ?_
                        refine g_get C dX9_read_63 iwX9 rfl (wO_M δ _) 1 (Nat.le_of_ble_eq_true rfl) mW573 rfl rfl ?_
                        refine g_iload C dX9_read_66 rfl ?_
                        refine g_ialdN C dX9_read_68 (k := r1) (q := 51) (by decide) rfl (by first | rfl | assumption | (simp only [glit, nI_add, pk_mul]; done) | (simp only [glit, nI_add, pk_mul]; congr 1; omega) | (simp only [*, glit, nI_add, pk_mul]; congr 1; omega)) (show r1 < gLenI 51 from Nat.lt_of_lt_of_eq (show r1 < 6 by omega) rfl) ?_
                        rw [em1]
                        refine g_aload_n C dX9_read_69 rfl ?_
                        refine g_get C dX9_read_70 iwX9 rfl (wO_M δ _) 5 (Nat.le_of_ble_eq_true rfl) mW577 rfl rfl ?_
                        refine g_iload_n C dX9_read_73 rfl ?_
                        refine g_ialdN C dX9_read_74 (k := u1) (q := 52) (by decide) rfl (by first | rfl | assumption | (simp only [glit, nI_add, pk_mul]; done) | (simp only [glit, nI_add, pk_mul]; congr 1; omega) | (simp only [*, glit, nI_add, pk_mul]; congr 1; omega)) (show u1 < gLenI 52 from Nat.lt_of_lt_of_eq (show u1 < 8 by omega) rfl) ?_
                        rw [hn]
                        refine g_isub C dX9_read_75 ?_
                        refine g_icmp_le C 82 dX9_read_76 (by decide) (fun c_76 => ?_) (fun c_76 => ?_)
                        · rw [grch_r hm1 h4 c_57] at c_76
                          obtain ⟨i1, n1, rfl, en, hi1⟩ := gRch_nat c_76 hm1
                          have en : vC v u1 = n1 := (nI_eq (by omega) (by omega)).mp en
                          subst en
                          refine g_iconst (v := 0) C dX9_read_82 (by decide) ?_
                          refine g_istore C dX9_read_83 (Nat.le_of_ble_eq_true rfl) rfl ?_
                          refine g_lv [some _, some _, some _, some _, some _, some _, some _] (gs_some (gs_some (gs_some (gs_some (gs_some (gs_some (gs_some gs_nil))))))) ?_
                          have L_85 : ∀ (nn : Nat) (d : Nat) (hd : d ≤ vC v u1) (hv : ∀ z, z < d → ((-9) : Int64) ≤ gL σ 12 (16 * r1 + (i1 + z)) ∧ gL σ 12 (16 * r1 + (i1 + z)) ≤ 9), vC v u1 - d < nn → gW Γ δ σ 85 [some (.ref (δ.2.2.1 1)), some (.int (nI u1)), some (.int 1), some (.int (nI c1)), some (.int (nI r1)), some (.int (nI i1)), some (.int (nI d))] [] := by
                            intro nn
                            induction nn with
                            | zero =>
                              intro d hd hv hm_85
                              exact absurd hm_85 (Nat.not_lt_zero _)
                            | succ nn ih_85 =>
                              intro d hd hv hm_85
                              refine g_iload C dX9_read_85 rfl ?_
                              refine g_aload_n C dX9_read_87 rfl ?_
                              refine g_get C dX9_read_88 iwX9 rfl (wO_M δ _) 5 (Nat.le_of_ble_eq_true rfl) mW577 rfl rfl ?_
                              refine g_iload_n C dX9_read_91 rfl ?_
                              refine g_ialdN C dX9_read_92 (k := u1) (q := 52) (by decide) rfl (by first | rfl | assumption | (simp only [glit, nI_add, pk_mul]; done) | (simp only [glit, nI_add, pk_mul]; congr 1; omega) | (simp only [*, glit, nI_add, pk_mul]; congr 1; omega)) (show u1 < gLenI 52 from Nat.lt_of_lt_of_eq (show u1 < 8 by omega) rfl) ?_
                              rw [hn]
                              refine g_icmp_ge C 151 dX9_read_93 (by decide) (fun c_93 => ?_) (fun c_93 => ?_)
                              · have k_93 := gle c_93 (a := (vC v u1)) (b := d) (by first | rfl | assumption | (simp only [glit, nI_add, pk_mul]; done) | (simp only [glit, nI_add, pk_mul]; congr 1; omega) | (simp only [*, glit, nI_add, pk_mul]; congr 1; omega)) (by first | rfl | assumption | (simp only [glit, nI_add, pk_mul]; done) | (simp only [glit, nI_add, pk_mul]; congr 1; omega) | (simp only [*, glit, nI_add, pk_mul]; congr 1; omega)) (by omega) (by omega)
                                have ek : vC v u1 = d := by omega
                                refine g_aload_n C dX9_read_151 rfl ?_
                                refine g_callVv C sV_X9_102 dX9_read_152 (c_X9_keep _ δ _ K) ⟨by decide, by decide⟩ (wO_M δ _) rfl rfl rfl rfl (Nat.le_of_ble_eq_true rfl) (fun s_152 h_152 => ?_)
                                obtain ⟨K2, F2, D2⟩ := h_152
                                refine g_iconst (v := 0) C dX9_read_155 (by decide) ?_
                                refine g_istore C dX9_read_156 (Nat.le_of_ble_eq_true rfl) rfl ?_
                                refine g_lv [some _, some _, some _, some _, some _, some _, some _] (gs_some (gs_some (gs_some (gs_some (gs_some (gs_some (gs_some gs_nil))))))) ?_
                                have L_158 : ∀ (nn : Nat) (d : Nat) (g : Nat → Int32) (hd : d ≤ vC v u1) (hg : ∀ j, g j = if 25 * u1 + (4 + 4 * c1) ≤ j ∧ j < 25 * u1 + (4 + 4 * c1) + d then (gL σ 12 (16 * r1 + (i1 + (j - (25 * u1 + (4 + 4 * c1)))))).toInt32 else gI s_152 53 j), vC v u1 - d < nn → gW Γ δ (uI s_152 53 g) 158 [some (.ref (δ.2.2.1 1)), some (.int (nI u1)), some (.int 1), some (.int (nI c1)), some (.int (nI r1)), some (.int (nI i1)), some (.int (nI d))] [] := by
                                  intro nn
                                  induction nn with
                                  | zero =>
                                    intro d g hd hg hm_158
                                    exact absurd hm_158 (Nat.not_lt_zero _)
                                  | succ nn ih_158 =>
                                    intro d g hd hg hm_158
                                    refine g_iload C dX9_read_158 rfl ?_
                                    refine g_aload_n C dX9_read_160 rfl ?_
                                    refine g_get C dX9_read_161 iwX9 rfl (wO_M δ _) 5 (Nat.le_of_ble_eq_true rfl) mW577 rfl rfl ?_
                                    refine g_iload_n C dX9_read_164 rfl ?_
                                    refine g_ialdN C dX9_read_165 (k := u1) (q := 52) (by decide) rfl (by first | rfl | assumption | (simp only [glit, nI_add, pk_mul]; done) | (simp only [glit, nI_add, pk_mul]; congr 1; omega) | (simp only [*, glit, nI_add, pk_mul]; congr 1; omega)) (show u1 < gLenI 52 from Nat.lt_of_lt_of_eq (show u1 < 8 by omega) rfl) ?_
                                    rw [gI_uI, if_neg (by decide), K2.2.1 u1 hu8]
                                    refine g_icmp_ge C 219 dX9_read_166 (by decide) (fun c_166 => ?_) (fun c_166 => ?_)
                                    · have k_166 := gle c_166 (a := (vC v u1)) (b := d) (by first | rfl | assumption | (simp only [glit, nI_add, pk_mul]; done) | (simp only [glit, nI_add, pk_mul]; congr 1; omega) | (simp only [*, glit, nI_add, pk_mul]; congr 1; omega)) (by first | rfl | assumption | (simp only [glit, nI_add, pk_mul]; done) | (simp only [glit, nI_add, pk_mul]; congr 1; omega) | (simp only [*, glit, nI_add, pk_mul]; congr 1; omega)) (by omega) (by omega)
                                      have ek2 : vC v u1 = d := by omega
                                      refine g_iconst (v := 0) C dX9_read_219 (by decide) ?_
                                      exact g_iret C E dX9_read_220 rfl rfl ⟨_, rfl, vPostM ((fRead_at hu1 hu8 hr1 ⟨1, by decide, rfl⟩ (fun _ => ⟨c1, hc1, rfl⟩) em1 hm1).trans ((if_neg (Int32.not_lt.mpr c_49)).trans ((gIf_t c_76).trans (gIf_t (by rw [nU_n (by omega)]; exact (fun z hz => hv z (by omega))))))) rfl (by rw [nU_n (show i1 < 2147483648 by omega), nU_n (show c1 < 2147483648 by omega)]; exact KM_wr (b := 25 * u1 + (4 + 4 * c1)) (f := fun d => gL σ 12 (16 * r1 + (i1 + d))) K2 ek2 (by omega) (fun w hw => g24r (by omega) h4) hg) (FM_I (by omega) F2)⟩
                                    · have k_166 := gnle c_166 (a := (vC v u1)) (b := d) (by first | rfl | assumption | (simp only [glit, nI_add, pk_mul]; done) | (simp only [glit, nI_add, pk_mul]; congr 1; omega) | (simp only [*, glit, nI_add, pk_mul]; congr 1; omega)) (by first | rfl | assumption | (simp only [glit, nI_add, pk_mul]; done) | (simp only [glit, nI_add, pk_mul]; congr 1; omega) | (simp only [*, glit, nI_add, pk_mul]; congr 1; omega)) (by omega) (by omega)
                                      refine g_aload_n C dX9_read_169 rfl ?_
                                      refine g_get C dX9_read_170 iwX9 rfl (wO_M δ _) 6 (Nat.le_of_ble_eq_true rfl) mW578 rfl rfl ?_
                                      refine g_bipush (v := 25) C dX9_read_173 (by decide) ?_
                                      refine g_iload_n C dX9_read_175 rfl ?_
                                      refine g_imul C dX9_read_176 ?_
                                      refine g_iload_n C dX9_read_177 rfl ?_
                                      refine g_if_ne C 186 dX9_read_178 (by decide) (fun c_178 => ?_) (fun c_178 => ?_)
                                      · refine g_iconst (v := 4) C dX9_read_186 (by decide) ?_
                                        refine g_iconst (v := 4) C dX9_read_187 (by decide) ?_
                                        refine g_iload_n C dX9_read_188 rfl ?_
                                        refine g_imul C dX9_read_189 ?_
                                        refine g_iadd C dX9_read_190 ?_
                                        refine g_iload C dX9_read_191 rfl ?_
                                        refine g_iadd C dX9_read_193 ?_
                                        refine g_iadd C dX9_read_194 ?_
                                        refine g_aload_n C dX9_read_195 rfl ?_
                                        refine g_get C dX9_read_196 iwX9 rfl (wO_M δ _) 2 (Nat.le_of_ble_eq_true rfl) mW574 rfl rfl ?_
                                        refine g_bipush (v := 16) C dX9_read_199 (by decide) ?_
                                        refine g_iload C dX9_read_201 rfl ?_
                                        refine g_imul C dX9_read_203 ?_
                                        refine g_iload C dX9_read_204 rfl ?_
                                        refine g_iadd C dX9_read_206 ?_
                                        refine g_iload C dX9_read_207 rfl ?_
                                        refine g_iadd C dX9_read_209 ?_
                                        refine g_laldN C dX9_read_210 (k := (16 * r1 + (i1 + d))) (q := 12) (by decide) rfl (by first | rfl | assumption | (simp only [glit, nI_add, pk_mul]; done) | (simp only [glit, nI_add, pk_mul]; congr 1; omega) | (simp only [*, glit, nI_add, pk_mul]; congr 1; omega)) (show (16 * r1 + (i1 + d)) < gLenL 12 from Nat.lt_of_lt_of_eq (show (16 * r1 + (i1 + d)) < 96 by omega) rfl) ?_
                                        rw [gL_uI, F2.2.1]
                                        refine g_l2i C dX9_read_211 ?_
                                        refine g_iastN C dX9_read_212 (k := (25 * u1 + (4 + 4 * c1) + d)) (q := 53) (by decide) rfl (by first | rfl | assumption | (simp only [glit, nI_add, pk_mul]; done) | (simp only [glit, nI_add, pk_mul]; congr 1; omega) | (simp only [*, glit, nI_add, pk_mul]; congr 1; omega)) (show (25 * u1 + (4 + 4 * c1) + d) < gLenI 53 from Nat.lt_of_lt_of_eq (show (25 * u1 + (4 + 4 * c1) + d) < 202 by omega) rfl) ?_
                                        refine g_iinc (v := nI (d + 1)) C dX9_read_213 rfl (ginc _ 1) rfl ?_
                                        refine g_lv [some _, some _, some _, some _, some _, some _, some _] (gs_some (gs_some (gs_some (gs_some (gs_some (gs_some (gs_some gs_nil))))))) ?_
                                        refine g_goto C 158 dX9_read_216 (by decide) ?_
                                        refine g_lv [some _, some _, some _, some _, some _, some _, some _] (gs_some (gs_some (gs_some (gs_some (gs_some (gs_some (gs_some gs_nil))))))) ?_
                                        rw [uI_uI, gI_uI, if_pos rfl]
                                        exact ih_158 (d + 1) _ (by omega) (rd_step (f := fun d => gL σ 12 (16 * r1 + (i1 + d))) hg rfl) (by omega)
                                      · exact absurd c_178 (by decide)
                                refine g_lv [some _, some _, some _, some _, some _, some _, some _] (gs_some (gs_some (gs_some (gs_some (gs_some (gs_some (gs_some gs_nil))))))) ?_
                                refine g_st (uI_id _ 53).symm ?_
                                exact L_158 _ 0 _ (Nat.zero_le _) (fun j => (if_neg (by omega)).symm) (Nat.lt_succ_self _)
                              · have k_93 := gnle c_93 (a := (vC v u1)) (b := d) (by first | rfl | assumption | (simp only [glit, nI_add, pk_mul]; done) | (simp only [glit, nI_add, pk_mul]; congr 1; omega) | (simp only [*, glit, nI_add, pk_mul]; congr 1; omega)) (by first | rfl | assumption | (simp only [glit, nI_add, pk_mul]; done) | (simp only [glit, nI_add, pk_mul]; congr 1; omega) | (simp only [*, glit, nI_add, pk_mul]; congr 1; omega)) (by omega) (by omega)
                                refine g_aload_n C dX9_read_96 rfl ?_
                                refine g_get C dX9_read_97 iwX9 rfl (wO_M δ _) 2 (Nat.le_of_ble_eq_true rfl) mW574 rfl rfl ?_
                                refine g_bipush (v := 16) C dX9_read_100 (by decide) ?_
                                refine g_iload C dX9_read_102 rfl ?_
                                refine g_imul C dX9_read_104 ?_
                                refine g_iload C dX9_read_105 rfl ?_
                                refine g_iadd C dX9_read_107 ?_
                                refine g_iload C dX9_read_108 rfl ?_
                                refine g_iadd C dX9_read_110 ?_
                                refine g_laldN C dX9_read_111 (k := (16 * r1 + (i1 + d))) (q := 12) (by decide) rfl (by first | rfl | assumption | (simp only [glit, nI_add, pk_mul]; done) | (simp only [glit, nI_add, pk_mul]; congr 1; omega) | (simp only [*, glit, nI_add, pk_mul]; congr 1; omega)) (show (16 * r1 + (i1 + d)) < gLenL 12 from Nat.lt_of_lt_of_eq (show (16 * r1 + (i1 + d)) < 96 by omega) rfl) ?_
                                refine g_iload_n C dX9_read_112 rfl ?_
                                refine g_if_ne C 120 dX9_read_113 (by decide) (fun c_113 => ?_) (fun c_113 => ?_)
                                · refine g_ldc2 C dX9_read_120 mW695 ?_
                                  refine g_iload_n C dX9_read_123 rfl ?_
                                  refine g_if_ne C 133 dX9_read_124 (by decide) (fun c_124 => ?_) (fun c_124 => ?_)
                                  · refine g_ldc2 C dX9_read_133 mW697 ?_
                                    refine g_callSi C sS_X9_62 dX9_read_136 (c_X9_in _ δ _ _ _ _) ⟨by decide, by decide⟩ rfl rfl rfl (Nat.le_of_ble_eq_true rfl) (fun r_136 s_136 h_136 => ?_)
                                    obtain ⟨rfl, h_136⟩ := h_136
                                    rcases h_136 with ⟨rfl, h_136⟩ | ⟨rfl, h_136⟩
                                    · skip
                                      refine g_if_ne C 145 dX9_read_139 (by decide) (fun c_139 => ?_) (fun c_139 => ?_)
                                      · refine g_iinc (v := nI (d + 1)) C dX9_read_145 rfl (ginc _ 1) rfl ?_
                                        refine g_lv [some _, some _, some _, some _, some _, some _, some _] (gs_some (gs_some (gs_some (gs_some (gs_some (gs_some (gs_some gs_nil))))))) ?_
                                        refine g_goto C 85 dX9_read_148 (by decide) ?_
                                        refine g_lv [some _, some _, some _, some _, some _, some _, some _] (gs_some (gs_some (gs_some (gs_some (gs_some (gs_some (gs_some gs_nil))))))) ?_
                                        exact ih_85 (d + 1) (by omega) (fun z h => (Nat.lt_succ_iff_lt_or_eq.mp h).elim (fun h => hv z h) (fun h => by rw [h]; exact h_136)) (by omega)
                                      · exact absurd c_139 (by decide)
                                    · skip
                                      refine g_if_ne C 145 dX9_read_139 (by decide) (fun c_139 => ?_) (fun c_139 => ?_)
                                      · exact absurd c_139 (by decide)
                                      · refine g_bipush (v := (-15)) C dX9_read_142 (by decide) ?_
                                        exact g_iret C E dX9_read_144 rfl rfl ⟨_, rfl, vPostM ((fRead_at hu1 hu8 hr1 ⟨1, by decide, rfl⟩ (fun _ => ⟨c1, hc1, rfl⟩) em1 hm1).trans ((if_neg (Int32.not_lt.mpr c_49)).trans ((gIf_t c_76).trans (gIf_f (fun z => h_136 (by have q := z d (by omega); rw [nU_n (by omega)] at q; exact q)))))) rfl K (FM_r _)⟩
                                  · exact absurd c_124 (by decide)
                                · exact absurd c_113 (by decide)
                          refine g_lv [some _, some _, some _, some _, some _, some _, some _] (gs_some (gs_some (gs_some (gs_some (gs_some (gs_some (gs_some gs_nil))))))) ?_
                          exact L_85 _ 0 (Nat.zero_le _) (fun _ h => absurd h (Nat.not_lt_zero _)) (Nat.lt_succ_self _)
                        · rw [grch_r hm1 h4 c_57] at c_76
                          refine g_bipush (v := (-12)) C dX9_read_79 (by decide) ?_
                          exact g_iret C E dX9_read_81 rfl rfl ⟨_, rfl, vPostM ((fRead_at hu1 hu8 hr1 ⟨1, by decide, rfl⟩ (fun _ => ⟨c1, hc1, rfl⟩) em1 hm1).trans ((if_neg (Int32.not_lt.mpr c_49)).trans (gIf_f (by first | exact gRch_i c_57 | exact c_76)))) rfl K (FM_r _)⟩
                    · refine g_bipush (v := (-11)) C dX9_read_52 (by decide) ?_
                      exact g_iret C E dX9_read_54 rfl rfl ⟨_, rfl, vPostM ((fRead_at hu1 hu8 hr1 ⟨1, by decide, rfl⟩ (fun _ => ⟨c1, hc1, rfl⟩) em1 hm1).trans (if_pos (Int32.not_le.mp c_49))) rfl K (FM_r _)⟩
                  · exact absurd c_37 (by decide)
                · skip
                  refine g_if_ne C 42 dX9_read_37 (by decide) (fun c_37 => ?_) (fun c_37 => ?_)
                  · exact absurd c_37 (by decide)
                  · refine g_iconst (v := (-1)) C dX9_read_40 (by decide) ?_
                    exact g_iret C E dX9_read_41 rfl rfl ⟨_, rfl, vPostM (by first | exact gIf_f (fun z => h_2 z.1.1) | exact gIf_f (fun z => h_34 z.1.2) | exact gIf_f (fun z => h_26 ((okC_n hu8).mp (z.2.2 rfl)))) rfl K (FM_r _)⟩
            · skip
              refine g_if_eq C 40 dX9_read_29 (by decide) (fun c_29 => ?_) (fun c_29 => ?_)
              · refine g_iconst (v := (-1)) C dX9_read_40 (by decide) ?_
                exact g_iret C E dX9_read_41 rfl rfl ⟨_, rfl, vPostM (by first | exact gIf_f (fun z => h_2 z.1.1) | exact gIf_f (fun z => h_34 z.1.2) | exact gIf_f (fun z => h_26 ((okC_n hu8).mp (z.2.2 rfl)))) rfl K (FM_r _)⟩
              · exact absurd c_29 (by decide)
      · exact absurd ⟨by decide, by decide⟩ h_12
  · skip
    refine g_if_eq C 40 dX9_read_5 (by decide) (fun c_5 => ?_) (fun c_5 => ?_)
    · refine g_iconst (v := (-1)) C dX9_read_40 (by decide) ?_
      exact g_iret C E dX9_read_41 rfl rfl ⟨_, rfl, vPostM (by first | exact gIf_f (fun z => h_2 z.1.1) | exact gIf_f (fun z => h_34 z.1.2) | exact gIf_f (fun z => h_26 ((okC_n hu8).mp (z.2.2 rfl)))) rfl K (FM_r _)⟩
    · exact absurd c_5 (by decide)
set_option maxRecDepth 100000 in
set_option maxHeartbeats 4000000 in
theorem c_X9_readN (l : Launch) (δ : GD) (σ : GS) (a0 a1 a2 a3 a4 : Int32) (hN : ¬ gIx a1 2) {v : GV} (K : KM σ v) (R : RV v) (hk : ∀ u, u < 6 → ∃ m : Nat, m ≤ 16 ∧ gI σ 51 u = nI m) : gM l δ yX9_read cX9_read 7 (some .int) 2 47 [.ref (δ.2.2.1 1), .int a0, .int a1, .int a2, .int a3, .int a4] σ (gPi (fun x σ' => x = (fRead v (gI σ 50) (gI σ 51) (fun u j => gL σ 12 (16 * u + j)) a0 a1 a2 a3 a4).1 ∧ KM σ' (fRead v (gI σ 50) (gI σ 51) (fun u j => gL σ 12 (16 * u + j)) a0 a1 a2 a3 a4).2 ∧ FM σ σ')) := by
  refine g_of (lv0 := [some (.ref (δ.2.2.1 1)), some (.int a0), some (.int a1), some (.int a2), some (.int a3), some (.int a4), none]) (by decide) rfl (Nat.le_of_ble_eq_true rfl) (fun Γ hl C E => ?_)
  subst hl
  have C : gC Γ δ cX9_read RX9 7 2 47 := C
  have hm := K.1
  have h8 := R.1
  refine g_aload_n C dX9_read_0 rfl ?_
  refine g_iload_n C dX9_read_1 rfl ?_
  refine g_callVi C sV_X9_89 dX9_read_2 (c_X9_isUrn _ δ _ _ hm h8) ⟨by decide, by decide⟩ (wO_M δ _) rfl rfl rfl rfl (Nat.le_of_ble_eq_true rfl) (fun r_2 s_2 h_2 => ?_)
  obtain ⟨rfl, h_2⟩ := h_2
  rcases h_2 with ⟨rfl, h_2⟩ | ⟨rfl, h_2⟩
  · obtain ⟨u1, hu1, rfl⟩ := id h_2
    have hu8 : u1 < 8 := by omega
    obtain ⟨h2, h4⟩ := (R.2.1 u1 hu8).1 hu1
    have hn := K.2.1 u1 hu8
    refine g_if_eq C 40 dX9_read_5 (by decide) (fun c_5 => ?_) (fun c_5 => ?_)
    · exact absurd c_5 (by decide)
    · refine g_iload_n C dX9_read_8 rfl ?_
      refine g_i2l C dX9_read_9 ?_
      refine g_lconst (v := 0) C dX9_read_10 (by decide) ?_
      refine g_lconst (v := 1) C dX9_read_11 (by decide) ?_
      refine g_callSi C sS_X9_62 dX9_read_12 (c_X9_in _ δ _ _ _ _) ⟨by decide, by decide⟩ rfl rfl rfl (Nat.le_of_ble_eq_true rfl) (fun r_12 s_12 h_12 => ?_)
      obtain ⟨rfl, h_12⟩ := h_12
      rw [gInL_ix (m := 2) (by omega) (by decide)] at h_12
      rcases h_12 with ⟨rfl, h_12⟩ | ⟨rfl, h_12⟩
      · exact absurd h_12 hN
      · skip
        refine g_if_eq C 40 dX9_read_15 (by decide) (fun c_15 => ?_) (fun c_15 => ?_)
        · refine g_iconst (v := (-1)) C dX9_read_40 (by decide) ?_
          exact g_iret C E dX9_read_41 rfl rfl ⟨_, rfl, vPostM (gIf_f (fun z => hN z.2.1)) rfl K (FM_r _)⟩
        · exact absurd c_15 (by decide)
  · skip
    refine g_if_eq C 40 dX9_read_5 (by decide) (fun c_5 => ?_) (fun c_5 => ?_)
    · refine g_iconst (v := (-1)) C dX9_read_40 (by decide) ?_
      exact g_iret C E dX9_read_41 rfl rfl ⟨_, rfl, vPostM (gIf_f (fun z => hN z.2.1)) rfl K (FM_r _)⟩
    · exact absurd c_5 (by decide)
