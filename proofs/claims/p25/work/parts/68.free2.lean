set_option maxRecDepth 100000 in
set_option maxHeartbeats 4000000 in
theorem c_X9_freea (l : Launch) (δ : GD) (σ : GS) (a0 a1 : Int32) {v : GV} (K : KM σ v) (R : RV v) : gM l δ yX9_free cX9_free 9 (some .int) 2 66 [.ref (δ.2.2.1 1), .int a0, .int a1] σ (gPi (fun x σ' => x = aFree v a0 a1 ∧ gSm σ σ')) := by
  refine g_of (lv0 := [some (.ref (δ.2.2.1 1)), some (.int a0), some (.int a1), none, none, none, none, none, none]) (by decide) rfl (Nat.le_of_ble_eq_true rfl) (fun Γ hl C E => ?_)
  subst hl
  have C : gC Γ δ cX9_free RX9 9 2 66 := C
  have hm := K.1
  have h8 := R.1
  refine g_aload_n C dX9_free_0 rfl ?_
  refine g_iload_n C dX9_free_1 rfl ?_
  refine g_callVi C sV_X9_89 dX9_free_2 (c_X9_isUrn _ δ _ _ hm h8) ⟨by decide, by decide⟩ (wO_M δ _) rfl rfl rfl rfl (Nat.le_of_ble_eq_true rfl) (fun r_2 s_2 h_2 => ?_)
  obtain ⟨rfl, h_2⟩ := h_2
  rcases h_2 with ⟨rfl, h_2⟩ | ⟨rfl, h_2⟩
  · obtain ⟨u1, hu1, rfl⟩ := id h_2
    have hu8 : u1 < 8 := by omega
    obtain ⟨h2, h4⟩ := (R.2.1 u1 hu8).1 hu1
    have hn := K.2.1 u1 hu8
    refine g_if_eq C 20 dX9_free_5 (by decide) (fun c_5 => ?_) (fun c_5 => ?_)
    · exact absurd c_5 (by decide)
    · refine g_iload_n C dX9_free_8 rfl ?_
      refine g_i2l C dX9_free_9 ?_
      refine g_lconst (v := 1) C dX9_free_10 (by decide) ?_
      refine g_ldc2 C dX9_free_11 mW658 ?_
      refine g_callSi C sS_X9_62 dX9_free_14 (c_X9_in _ δ _ _ _ _) ⟨by decide, by decide⟩ rfl rfl rfl (Nat.le_of_ble_eq_true rfl) (fun r_14 s_14 h_14 => ?_)
      obtain ⟨rfl, h_14⟩ := h_14
      rcases h_14 with ⟨rfl, h_14⟩ | ⟨rfl, h_14⟩
      · have h5b := gin5.mp h_14
        obtain ⟨k1, hk0, hk1, rfl⟩ := gin13 (m := 5) (by decide) (by decide) (by decide) h_14
        have h45 := gp45 hk1
        have hf2 : gB2 (bS (vS v) u1) := VS_B2 R.2.2.1 hu8
        have hr : qRb (qR (bS (vS v) u1) (tS (vS v) u1) k1) := fun a => qR_b hf2 k1 a
        refine g_if_ne C 22 dX9_free_17 (by decide) (fun c_17 => ?_) (fun c_17 => ?_)
        · refine g_aload_n C dX9_free_22 rfl ?_
          refine g_iload_n C dX9_free_23 rfl ?_
          refine g_callVi C sV_X9_113 dX9_free_24 (c_X9_balls _ δ _ hu8) ⟨by decide, by decide⟩ (wO_M δ _) rfl rfl rfl rfl (Nat.le_of_ble_eq_true rfl) (fun r_24 s_24 h_24 => ?_)
          obtain ⟨rfl, rfl⟩ := h_24
          rw [KM_sum K hu8]
          refine g_if_ne C 33 dX9_free_27 (by decide) (fun c_27 => ?_) (fun c_27 => ?_)
          · refine g_iconst (v := 0) C dX9_free_33 (by decide) ?_
            refine g_istore_n C dX9_free_34 (Nat.le_of_ble_eq_true rfl) rfl ?_
            refine g_lv [some _, some _, some _, some _, none, none, none, none, none] (gs_some (gs_some (gs_some (gs_some (gs_none (gs_none (gs_none (gs_none (gs_none gs_nil))))))))) ?_
            have L_35 : ∀ (nn : Nat) (q : Nat) (f : Nat → Int64) (hq : q ≤ 216) (hf : ∀ z, z < q → f z = 0), 216 - q < nn → gW Γ δ (uL σ 16 f) 35 [some (.ref (δ.2.2.1 1)), some (.int (nI u1)), some (.int (nI k1)), some (.int (nI q)), none, none, none, none, none] [] := by
              intro nn
              induction nn with
              | zero =>
                intro q f hq hf hm_35
                exact absurd hm_35 (Nat.not_lt_zero _)
              | succ nn ih_35 =>
                intro q f hq hf hm_35
                refine g_iload_n C dX9_free_35 rfl ?_
                refine g_sipush (v := 216) C dX9_free_36 (by decide) ?_
                refine g_icmp_ge C 55 dX9_free_39 (by decide) (fun c_39 => ?_) (fun c_39 => ?_)
                · have k_39 := gle c_39 (a := 216) (b := q) (by first | rfl | assumption | (simp only [glit, nI_add, pk_mul]; done) | (simp only [glit, nI_add, pk_mul]; congr 1; omega) | (simp only [*, glit, nI_add, pk_mul]; congr 1; omega)) (by first | rfl | assumption | (simp only [glit, nI_add, pk_mul]; done) | (simp only [glit, nI_add, pk_mul]; congr 1; omega) | (simp only [*, glit, nI_add, pk_mul]; congr 1; omega)) (by omega) (by omega)
                  refine g_iconst (v := 1) C dX9_free_55 (by decide) ?_
                  refine g_istore_n C dX9_free_56 (Nat.le_of_ble_eq_true rfl) rfl ?_
                  refine g_lv [some _, some _, some _, some _, none, none, none, none, none] (gs_some (gs_some (gs_some (gs_some (gs_none (gs_none (gs_none (gs_none (gs_none gs_nil))))))))) ?_
                  refine g_iconst (v := 0) C dX9_free_57 (by decide) ?_
                  refine g_istore C dX9_free_58 (Nat.le_of_ble_eq_true rfl) rfl ?_
                  refine g_lv [some _, some _, some _, some _, some _, none, none, none, none] (gs_some (gs_some (gs_some (gs_some (gs_some (gs_none (gs_none (gs_none (gs_none gs_nil))))))))) ?_
                  have L_60 : ∀ (nn : Nat) (j : Nat) (x : Int32) (s1 : GS) (hj : j ≤ 4 ^ k1) (hs : gSm σ s1) (ht : qTab (gL s1 15) (gL s1 16) (fun w => qCd w k1) (qV (vC v u1) k1) (qR (bS (vS v) u1) (tS (vS v) u1) k1) j) (hx : gAcc x (qA (fun w => qCd w k1) (qV (vC v u1) k1) (qR (bS (vS v) u1) (tS (vS v) u1) k1) j)), 4 ^ k1 - j < nn → gW Γ δ s1 60 [some (.ref (δ.2.2.1 1)), some (.int (nI u1)), some (.int (nI k1)), some (.int x), some (.int (nI j)), none, none, none, none] [] := by
                    intro nn
                    induction nn with
                    | zero =>
                      intro j x s1 hj hs ht hx hm_60
                      exact absurd hm_60 (Nat.not_lt_zero _)
                    | succ nn ih_60 =>
                      intro j x s1 hj hs ht hx hm_60
                      have K1 := KM_sm hs K
                      refine g_iload C dX9_free_60 rfl ?_
                      refine g_iconst (v := 1) C dX9_free_62 (by decide) ?_
                      refine g_iconst (v := 2) C dX9_free_63 (by decide) ?_
                      refine g_iload_n C dX9_free_64 rfl ?_
                      refine g_imul C dX9_free_65 ?_
                      refine g_ishl C dX9_free_66 ?_
                      rw [gshl5 (by omega)]
                      refine g_icmp_ge C 257 dX9_free_67 (by decide) (fun c_67 => ?_) (fun c_67 => ?_)
                      · have k_67 := gle c_67 (a := 4 ^ k1) (b := j) rfl rfl (by omega) (by omega)
                        have ej : j = 4 ^ k1 := by omega
                        subst ej
                        refine g_iload_n C dX9_free_257 rfl ?_
                        refine g_if_eq C 265 dX9_free_258 (by decide) (fun c_258 => ?_) (fun c_258 => ?_)
                        · refine g_iconst (v := 0) C dX9_free_265 (by decide) ?_
                          exact g_iret C E dX9_free_266 rfl rfl ⟨_, rfl, ⟨(by first | exact ((aFree_at hu1 hu8 (by omega) (by omega)).trans ((gIf_f c_27).trans (gIf_t ((qAl_C hk1).mp (gAcc_y hx c_258))))).symm | exact ((aFree_at hu1 hu8 (by omega) (by omega)).trans ((gIf_f c_27).trans (gIf_f (fun z => gAcc_n hx c_258 ((qAl_C hk1).mpr z))))).symm), (by repeat (first | (with_reducible assumption) | (with_reducible exact gSm_r _) | (with_reducible refine gSm_I (by omega) ?_) | (with_reducible refine gSm_L (by omega) ?_) | (with_reducible refine gSm_N (by omega) ?_) | (with_reducible refine gSm_G (by omega) ?_) | (with_reducible refine gSm_P ?_)))⟩⟩
                        · refine g_iconst (v := 1) C dX9_free_261 (by decide) ?_
                          refine g_goto C 266 dX9_free_262 (by decide) ?_
                          exact g_iret C E dX9_free_266 rfl rfl ⟨_, rfl, ⟨(by first | exact ((aFree_at hu1 hu8 (by omega) (by omega)).trans ((gIf_f c_27).trans (gIf_t ((qAl_C hk1).mp (gAcc_y hx c_258))))).symm | exact ((aFree_at hu1 hu8 (by omega) (by omega)).trans ((gIf_f c_27).trans (gIf_f (fun z => gAcc_n hx c_258 ((qAl_C hk1).mpr z))))).symm), (by repeat (first | (with_reducible assumption) | (with_reducible exact gSm_r _) | (with_reducible refine gSm_I (by omega) ?_) | (with_reducible refine gSm_L (by omega) ?_) | (with_reducible refine gSm_N (by omega) ?_) | (with_reducible refine gSm_G (by omega) ?_) | (with_reducible refine gSm_P ?_)))⟩⟩
                      · have k_67 := gnle c_67 (a := 4 ^ k1) (b := j) rfl rfl (by omega) (by omega)
                        refine g_iconst (v := 1) C dX9_free_70 (by decide) ?_
                        refine g_istore C dX9_free_71 (Nat.le_of_ble_eq_true rfl) rfl ?_
                        refine g_lv [some _, some _, some _, some _, some _, some _, none, none, none] (gs_some (gs_some (gs_some (gs_some (gs_some (gs_some (gs_none (gs_none (gs_none gs_nil))))))))) ?_
                        refine g_iconst (v := 0) C dX9_free_73 (by decide) ?_
                        refine g_istore C dX9_free_74 (Nat.le_of_ble_eq_true rfl) rfl ?_
                        refine g_lv [some _, some _, some _, some _, some _, some _, some _, none, none] (gs_some (gs_some (gs_some (gs_some (gs_some (gs_some (gs_some (gs_none (gs_none gs_nil))))))))) ?_
                        refine g_iconst (v := 0) C dX9_free_76 (by decide) ?_
                        refine g_istore C dX9_free_77 (Nat.le_of_ble_eq_true rfl) rfl ?_
                        refine g_lv [some _, some _, some _, some _, some _, some _, some _, some _, none] (gs_some (gs_some (gs_some (gs_some (gs_some (gs_some (gs_some (gs_some (gs_none gs_nil))))))))) ?_
                        have L_79 : ∀ (nn : Nat) (i : Nat) (b : Int32) (hi : i ≤ k1) (hb : gAcc b (qV (vC v u1) i j)), k1 - i < nn → gW Γ δ s1 79 [some (.ref (δ.2.2.1 1)), some (.int (nI u1)), some (.int (nI k1)), some (.int x), some (.int (nI j)), some (.int b), some (.int (nI (qCd j i))), some (.int (nI i)), none] [] := by
                          intro nn
                          induction nn with
                          | zero =>
                            intro i b hi hb hm_79
                            exact absurd hm_79 (Nat.not_lt_zero _)
                          | succ nn ih_79 =>
                            intro i b hi hb hm_79
                            refine g_iload C dX9_free_79 rfl ?_
                            refine g_iload_n C dX9_free_81 rfl ?_
                            refine g_icmp_ge C 162 dX9_free_82 (by decide) (fun c_82 => ?_) (fun c_82 => ?_)
                            · have k_82 := gle c_82 (a := k1) (b := i) (by first | rfl | assumption | (simp only [glit, nI_add, pk_mul]; done) | (simp only [glit, nI_add, pk_mul]; congr 1; omega) | (simp only [*, glit, nI_add, pk_mul]; congr 1; omega)) (by first | rfl | assumption | (simp only [glit, nI_add, pk_mul]; done) | (simp only [glit, nI_add, pk_mul]; congr 1; omega) | (simp only [*, glit, nI_add, pk_mul]; congr 1; omega)) (by omega) (by omega)
                              have ei : i = k1 := by omega
                              refine g_iload C dX9_free_162 rfl ?_
                              refine g_if_eq C 251 dX9_free_164 (by decide) (fun c_164 => ?_) (fun c_164 => ?_)
                              · have hnV : ¬ qV (vC v u1) k1 j := by rw [← ei]; exact gAcc_n hb c_164
                                refine g_iinc (v := nI (j + 1)) C dX9_free_251 rfl (ginc _ 1) rfl ?_
                                refine g_lv [some _, some _, some _, some _, some _, some _, some _, some _, none] (gs_some (gs_some (gs_some (gs_some (gs_some (gs_some (gs_some (gs_some (gs_none gs_nil))))))))) ?_
                                refine g_goto C 60 dX9_free_254 (by decide) ?_
                                refine g_lv [some _, some _, some _, some _, some _, none, none, none, none] (gs_some (gs_some (gs_some (gs_some (gs_some (gs_none (gs_none (gs_none (gs_none gs_nil))))))))) ?_
                                exact ih_60 (j + 1) _ _ (by omega) (by first | exact hs2 | exact hs) (by first | exact hT | exact qTab_skip hnV ht) (by first | exact gAcc_i hx (qA_s_no hnV).symm | exact gAcc_0 hx c_212 (fun z => (hA.mp z).1) | exact gAcc_f (fun z => c_227 (hA.mp z).2.1) | exact gAcc_f (fun z => c_242 (hA.mp z).2.2) | exact gAcc_1 hx c_212 (fun z => hA.mpr ⟨z, c_227, c_242⟩)) (by omega)
                              · have hV : qV (vC v u1) k1 j := by rw [← ei]; exact gAcc_y hb c_164
                                have hcb : qCd j k1 < 216 := qC_b hk1
                                have eij : qCd j i = qCd j k1 := by rw [ei]
                                rw [eij]
                                refine g_aload_n C dX9_free_167 rfl ?_
                                refine g_iload_n C dX9_free_168 rfl ?_
                                refine g_iload_n C dX9_free_169 rfl ?_
                                refine g_iload C dX9_free_170 rfl ?_
                                refine g_callVi C sV_X9_170 dX9_free_172 (c_X9_followsa _ δ _ hu8 (k := k1) (w := j) (by omega) (by omega) K1 R) ⟨by decide, by decide⟩ (wO_M δ _) rfl rfl rfl rfl (Nat.le_of_ble_eq_true rfl) (fun r_172 s_172 h_172 => ?_)
                                obtain ⟨z_172, l_172, h_172⟩ := h_172
                                have z_172 : gSm σ s_172 := gSm_t hs z_172
                                obtain ⟨-, e13, e14⟩ := qR_of hf2 hk1 h_172
                                have ht2 : qTab (gL s_172 15) (gL s_172 16) (fun w => qCd w k1) (qV (vC v u1) k1) (qR (bS (vS v) u1) (tS (vS v) u1) k1) j := by rw [l_172, l_172]; exact ht
                                refine g_istore C dX9_free_175 (Nat.le_of_ble_eq_true rfl) rfl ?_
                                refine g_lv [some _, some _, some _, some _, some _, some _, some _, some _, none] (gs_some (gs_some (gs_some (gs_some (gs_some (gs_some (gs_some (gs_some (gs_none gs_nil))))))))) ?_
                                have J_211 : ∀ (s2 : GS) (hs2 : gSm σ s2) (hT : qTab (gL s2 15) (gL s2 16) (fun w => qCd w k1) (qV (vC v u1) k1) (qR (bS (vS v) u1) (tS (vS v) u1) k1) (j + 1)) (hA : qA (fun w => qCd w k1) (qV (vC v u1) k1) (qR (bS (vS v) u1) (tS (vS v) u1) k1) (j + 1) ↔ qA (fun w => qCd w k1) (qV (vC v u1) k1) (qR (bS (vS v) u1) (tS (vS v) u1) k1) j ∧ (gL s2 15 (qCd j k1) = lN (qR (bS (vS v) u1) (tS (vS v) u1) k1 j).1 ∧ gL s2 16 (qCd j k1) = lN (qR (bS (vS v) u1) (tS (vS v) u1) k1 j).2)) (e13 : gG s2 13 = lN (qR (bS (vS v) u1) (tS (vS v) u1) k1 j).1) (e14 : gG s2 14 = lN (qR (bS (vS v) u1) (tS (vS v) u1) k1 j).2), gW Γ δ s2 211 [some (.ref (δ.2.2.1 1)), some (.int (nI u1)), some (.int (nI k1)), some (.int x), some (.int (nI j)), none, some (.int (nI (qCd j k1))), none, none] [] := by
                                  intro s2 hs2 hT hA e13 e14
                                  refine g_iload_n C dX9_free_211 rfl ?_
                                  refine g_if_eq C 249 dX9_free_212 (by decide) (fun c_212 => ?_) (fun c_212 => ?_)
                                  · refine g_iconst (v := 0) C dX9_free_249 (by decide) ?_
                                    refine g_istore_n C dX9_free_250 (Nat.le_of_ble_eq_true rfl) rfl ?_
                                    refine g_lv [some _, some _, some _, some _, some _, none, some _, none, none] (gs_some (gs_some (gs_some (gs_some (gs_some (gs_none (gs_some (gs_none (gs_none gs_nil))))))))) ?_
                                    refine g_iinc (v := nI (j + 1)) C dX9_free_251 rfl (ginc _ 1) rfl ?_
                                    refine g_lv [some _, some _, some _, some _, some _, none, some _, none, none] (gs_some (gs_some (gs_some (gs_some (gs_some (gs_none (gs_some (gs_none (gs_none gs_nil))))))))) ?_
                                    refine g_goto C 60 dX9_free_254 (by decide) ?_
                                    refine g_lv [some _, some _, some _, some _, some _, none, none, none, none] (gs_some (gs_some (gs_some (gs_some (gs_some (gs_none (gs_none (gs_none (gs_none gs_nil))))))))) ?_
                                    exact ih_60 (j + 1) _ _ (by omega) (by first | exact hs2 | exact hs) (by first | exact hT | exact qTab_skip hnV ht) (by first | exact gAcc_i hx (qA_s_no hnV).symm | exact gAcc_0 hx c_212 (fun z => (hA.mp z).1) | exact gAcc_f (fun z => c_227 (hA.mp z).2.1) | exact gAcc_f (fun z => c_242 (hA.mp z).2.2) | exact gAcc_1 hx c_212 (fun z => hA.mpr ⟨z, c_227, c_242⟩)) (by omega)
                                  · refine g_aload_n C dX9_free_215 rfl ?_
                                    refine g_get C dX9_free_216 iwX9 rfl (wO_M δ _) 24 (Nat.le_of_ble_eq_true rfl) mW596 rfl rfl ?_
                                    refine g_iload C dX9_free_219 rfl ?_
                                    refine g_laldN C dX9_free_221 (k := (qCd j k1)) (q := 15) (by decide) rfl (by first | rfl | assumption | (simp only [glit, nI_add, pk_mul]; done) | (simp only [glit, nI_add, pk_mul]; congr 1; omega) | (simp only [*, glit, nI_add, pk_mul]; congr 1; omega)) (show (qCd j k1) < gLenL 15 from Nat.lt_of_lt_of_eq (show (qCd j k1) < 216 by omega) rfl) ?_
                                    refine g_aload_n C dX9_free_222 rfl ?_
                                    refine g_get C dX9_free_223 iwX9 rfl (wO_M δ _) 17 (Nat.le_of_ble_eq_true rfl) mW589 rfl rfl ?_
                                    rw [e13]
                                    refine g_lcmp C dX9_free_226 ?_
                                    refine g_if_ne C 249 dX9_free_227 (by decide) (fun c_227 => ?_) (fun c_227 => ?_)
                                    · rw [lg_cmp_eq] at c_227
                                      refine g_iconst (v := 0) C dX9_free_249 (by decide) ?_
                                      refine g_istore_n C dX9_free_250 (Nat.le_of_ble_eq_true rfl) rfl ?_
                                      refine g_lv [some _, some _, some _, some _, some _, none, some _, none, none] (gs_some (gs_some (gs_some (gs_some (gs_some (gs_none (gs_some (gs_none (gs_none gs_nil))))))))) ?_
                                      refine g_iinc (v := nI (j + 1)) C dX9_free_251 rfl (ginc _ 1) rfl ?_
                                      refine g_lv [some _, some _, some _, some _, some _, none, some _, none, none] (gs_some (gs_some (gs_some (gs_some (gs_some (gs_none (gs_some (gs_none (gs_none gs_nil))))))))) ?_
                                      refine g_goto C 60 dX9_free_254 (by decide) ?_
                                      refine g_lv [some _, some _, some _, some _, some _, none, none, none, none] (gs_some (gs_some (gs_some (gs_some (gs_some (gs_none (gs_none (gs_none (gs_none gs_nil))))))))) ?_
                                      exact ih_60 (j + 1) _ _ (by omega) (by first | exact hs2 | exact hs) (by first | exact hT | exact qTab_skip hnV ht) (by first | exact gAcc_i hx (qA_s_no hnV).symm | exact gAcc_0 hx c_212 (fun z => (hA.mp z).1) | exact gAcc_f (fun z => c_227 (hA.mp z).2.1) | exact gAcc_f (fun z => c_242 (hA.mp z).2.2) | exact gAcc_1 hx c_212 (fun z => hA.mpr ⟨z, c_227, c_242⟩)) (by omega)
                                    · rw [lg_cmp_eq] at c_227
                                      refine g_aload_n C dX9_free_230 rfl ?_
                                      refine g_get C dX9_free_231 iwX9 rfl (wO_M δ _) 25 (Nat.le_of_ble_eq_true rfl) mW597 rfl rfl ?_
                                      refine g_iload C dX9_free_234 rfl ?_
                                      refine g_laldN C dX9_free_236 (k := (qCd j k1)) (q := 16) (by decide) rfl (by first | rfl | assumption | (simp only [glit, nI_add, pk_mul]; done) | (simp only [glit, nI_add, pk_mul]; congr 1; omega) | (simp only [*, glit, nI_add, pk_mul]; congr 1; omega)) (show (qCd j k1) < gLenL 16 from Nat.lt_of_lt_of_eq (show (qCd j k1) < 216 by omega) rfl) ?_
                                      refine g_aload_n C dX9_free_237 rfl ?_
                                      refine g_get C dX9_free_238 iwX9 rfl (wO_M δ _) 18 (Nat.le_of_ble_eq_true rfl) mW590 rfl rfl ?_
                                      rw [e14]
                                      refine g_lcmp C dX9_free_241 ?_
                                      refine g_if_ne C 249 dX9_free_242 (by decide) (fun c_242 => ?_) (fun c_242 => ?_)
                                      · rw [lg_cmp_eq] at c_242
                                        refine g_iconst (v := 0) C dX9_free_249 (by decide) ?_
                                        refine g_istore_n C dX9_free_250 (Nat.le_of_ble_eq_true rfl) rfl ?_
                                        refine g_lv [some _, some _, some _, some _, some _, none, some _, none, none] (gs_some (gs_some (gs_some (gs_some (gs_some (gs_none (gs_some (gs_none (gs_none gs_nil))))))))) ?_
                                        refine g_iinc (v := nI (j + 1)) C dX9_free_251 rfl (ginc _ 1) rfl ?_
                                        refine g_lv [some _, some _, some _, some _, some _, none, some _, none, none] (gs_some (gs_some (gs_some (gs_some (gs_some (gs_none (gs_some (gs_none (gs_none gs_nil))))))))) ?_
                                        refine g_goto C 60 dX9_free_254 (by decide) ?_
                                        refine g_lv [some _, some _, some _, some _, some _, none, none, none, none] (gs_some (gs_some (gs_some (gs_some (gs_some (gs_none (gs_none (gs_none (gs_none gs_nil))))))))) ?_
                                        exact ih_60 (j + 1) _ _ (by omega) (by first | exact hs2 | exact hs) (by first | exact hT | exact qTab_skip hnV ht) (by first | exact gAcc_i hx (qA_s_no hnV).symm | exact gAcc_0 hx c_212 (fun z => (hA.mp z).1) | exact gAcc_f (fun z => c_227 (hA.mp z).2.1) | exact gAcc_f (fun z => c_242 (hA.mp z).2.2) | exact gAcc_1 hx c_212 (fun z => hA.mpr ⟨z, c_227, c_242⟩)) (by omega)
                                      · rw [lg_cmp_eq] at c_242
                                        refine g_iconst (v := 1) C dX9_free_245 (by decide) ?_
                                        refine g_goto C 250 dX9_free_246 (by decide) ?_
                                        refine g_istore_n C dX9_free_250 (Nat.le_of_ble_eq_true rfl) rfl ?_
                                        refine g_lv [some _, some _, some _, some _, some _, none, some _, none, none] (gs_some (gs_some (gs_some (gs_some (gs_some (gs_none (gs_some (gs_none (gs_none gs_nil))))))))) ?_
                                        refine g_iinc (v := nI (j + 1)) C dX9_free_251 rfl (ginc _ 1) rfl ?_
                                        refine g_lv [some _, some _, some _, some _, some _, none, some _, none, none] (gs_some (gs_some (gs_some (gs_some (gs_some (gs_none (gs_some (gs_none (gs_none gs_nil))))))))) ?_
                                        refine g_goto C 60 dX9_free_254 (by decide) ?_
                                        refine g_lv [some _, some _, some _, some _, some _, none, none, none, none] (gs_some (gs_some (gs_some (gs_some (gs_some (gs_none (gs_none (gs_none (gs_none gs_nil))))))))) ?_
                                        exact ih_60 (j + 1) _ _ (by omega) (by first | exact hs2 | exact hs) (by first | exact hT | exact qTab_skip hnV ht) (by first | exact gAcc_i hx (qA_s_no hnV).symm | exact gAcc_0 hx c_212 (fun z => (hA.mp z).1) | exact gAcc_f (fun z => c_227 (hA.mp z).2.1) | exact gAcc_f (fun z => c_242 (hA.mp z).2.2) | exact gAcc_1 hx c_212 (fun z => hA.mpr ⟨z, c_227, c_242⟩)) (by omega)
                                refine g_aload_n C dX9_free_177 rfl ?_
                                refine g_get C dX9_free_178 iwX9 rfl (wO_M δ _) 25 (Nat.le_of_ble_eq_true rfl) mW597 rfl rfl ?_
                                refine g_iload C dX9_free_181 rfl ?_
                                refine g_laldN C dX9_free_183 (k := (qCd j k1)) (q := 16) (by decide) rfl (by first | rfl | assumption | (simp only [glit, nI_add, pk_mul]; done) | (simp only [glit, nI_add, pk_mul]; congr 1; omega) | (simp only [*, glit, nI_add, pk_mul]; congr 1; omega)) (show (qCd j k1) < gLenL 16 from Nat.lt_of_lt_of_eq (show (qCd j k1) < 216 by omega) rfl) ?_
                                refine g_lconst (v := 0) C dX9_free_184 (by decide) ?_
                                refine g_lcmp C dX9_free_185 ?_
                                refine g_if_ne C 211 dX9_free_186 (by decide) (fun c_186 => ?_) (fun c_186 => ?_)
                                · rw [lg_cmp_eq] at c_186
                                  refine g_lv [some _, some _, some _, some _, some _, none, some _, none, none] (gs_some (gs_some (gs_some (gs_some (gs_some (gs_none (gs_some (gs_none (gs_none gs_nil))))))))) ?_
                                  exact J_211 _ z_172 (qTab_old (P := (fun w => qCd w k1)) c_186 ht2) (qA_s_old (V := qV (vC v u1) k1) (P := (fun w => qCd w k1)) hr hV (qC_b hk1) c_186 ht2) e13 e14
                                · rw [lg_cmp_eq] at c_186
                                  refine g_aload_n C dX9_free_189 rfl ?_
                                  refine g_get C dX9_free_190 iwX9 rfl (wO_M δ _) 24 (Nat.le_of_ble_eq_true rfl) mW596 rfl rfl ?_
                                  refine g_iload C dX9_free_193 rfl ?_
                                  refine g_aload_n C dX9_free_195 rfl ?_
                                  refine g_get C dX9_free_196 iwX9 rfl (wO_M δ _) 17 (Nat.le_of_ble_eq_true rfl) mW589 rfl rfl ?_
                                  rw [e13]
                                  refine g_lastN C dX9_free_199 (k := (qCd j k1)) (q := 15) (by decide) rfl (by first | rfl | assumption | (simp only [glit, nI_add, pk_mul]; done) | (simp only [glit, nI_add, pk_mul]; congr 1; omega) | (simp only [*, glit, nI_add, pk_mul]; congr 1; omega)) (show (qCd j k1) < gLenL 15 from Nat.lt_of_lt_of_eq (show (qCd j k1) < 216 by omega) rfl) ?_
                                  refine g_aload_n C dX9_free_200 rfl ?_
                                  refine g_get C dX9_free_201 iwX9 rfl (wO_M δ _) 25 (Nat.le_of_ble_eq_true rfl) mW597 rfl rfl ?_
                                  refine g_iload C dX9_free_204 rfl ?_
                                  refine g_aload_n C dX9_free_206 rfl ?_
                                  refine g_get C dX9_free_207 iwX9 rfl (wO_M δ _) 18 (Nat.le_of_ble_eq_true rfl) mW590 rfl rfl ?_
                                  rw [gG_uL, e14]
                                  refine g_lastN C dX9_free_210 (k := (qCd j k1)) (q := 16) (by decide) rfl (by first | rfl | assumption | (simp only [glit, nI_add, pk_mul]; done) | (simp only [glit, nI_add, pk_mul]; congr 1; omega) | (simp only [*, glit, nI_add, pk_mul]; congr 1; omega)) (show (qCd j k1) < gLenL 16 from Nat.lt_of_lt_of_eq (show (qCd j k1) < 216 by omega) rfl) ?_
                                  refine g_lv [some _, some _, some _, some _, some _, none, some _, none, none] (gs_some (gs_some (gs_some (gs_some (gs_some (gs_none (gs_some (gs_none (gs_none gs_nil))))))))) ?_
                                  exact J_211 _ (by repeat (first | (with_reducible assumption) | (with_reducible exact gSm_r _) | (with_reducible refine gSm_I (by omega) ?_) | (with_reducible refine gSm_L (by omega) ?_) | (with_reducible refine gSm_N (by omega) ?_) | (with_reducible refine gSm_G (by omega) ?_) | (with_reducible refine gSm_P ?_))) (qTab_new (P := (fun w => qCd w k1)) (V := qV (vC v u1) k1) hV ht2) ⟨fun z => ⟨(qA_s_new (P := (fun w => qCd w k1)) hr (qC_b hk1) c_186 ht2).mp z, (if_pos rfl), (if_pos rfl)⟩, fun z => (qA_s_new (P := (fun w => qCd w k1)) hr (qC_b hk1) c_186 ht2).mpr z.1⟩ e13 e14
                            · have k_82 := gnle c_82 (a := k1) (b := i) (by first | rfl | assumption | (simp only [glit, nI_add, pk_mul]; done) | (simp only [glit, nI_add, pk_mul]; congr 1; omega) | (simp only [*, glit, nI_add, pk_mul]; congr 1; omega)) (by first | rfl | assumption | (simp only [glit, nI_add, pk_mul]; done) | (simp only [glit, nI_add, pk_mul]; congr 1; omega) | (simp only [*, glit, nI_add, pk_mul]; congr 1; omega)) (by omega) (by omega)
                              refine g_iload C dX9_free_85 rfl ?_
                              refine g_iconst (v := 2) C dX9_free_87 (by decide) ?_
                              refine g_iload C dX9_free_88 rfl ?_
                              refine g_imul C dX9_free_90 ?_
                              refine g_ishr C dX9_free_91 ?_
                              rw [gshrk (by omega) (by omega)]
                              refine g_iconst (v := 3) C dX9_free_92 (by decide) ?_
                              refine g_iand C dX9_free_93 ?_
                              rw [gand3 (by have := Nat.div_le_self j (4 ^ i); omega)]
                              refine g_istore C dX9_free_94 (Nat.le_of_ble_eq_true rfl) rfl ?_
                              refine g_lv [some _, some _, some _, some _, some _, some _, some _, some _, some _] (gs_some (gs_some (gs_some (gs_some (gs_some (gs_some (gs_some (gs_some (gs_some gs_nil))))))))) ?_
                              refine g_iload C dX9_free_96 rfl ?_
                              refine g_if_eq C 116 dX9_free_98 (by decide) (fun c_98 => ?_) (fun c_98 => ?_)
                              · refine g_iconst (v := 0) C dX9_free_116 (by decide) ?_
                                refine g_istore C dX9_free_117 (Nat.le_of_ble_eq_true rfl) rfl ?_
                                refine g_lv [some _, some _, some _, some _, some _, some _, some _, some _, some _] (gs_some (gs_some (gs_some (gs_some (gs_some (gs_some (gs_some (gs_some (gs_some gs_nil))))))))) ?_
                                refine g_iload C dX9_free_119 rfl ?_
                                refine g_iload C dX9_free_121 rfl ?_
                                refine g_if_ne C 130 dX9_free_123 (by decide) (fun c_123 => ?_) (fun c_123 => ?_)
                                · refine g_iload C dX9_free_130 rfl ?_
                                  refine g_iconst (v := 1) C dX9_free_132 (by decide) ?_
                                  refine g_icmp_ne C 141 dX9_free_133 (by decide) (fun c_133 => ?_) (fun c_133 => ?_)
                                  · refine g_iload C dX9_free_141 rfl ?_
                                    refine g_iconst (v := 2) C dX9_free_143 (by decide) ?_
                                    refine g_icmp_ne C 152 dX9_free_144 (by decide) (fun c_144 => ?_) (fun c_144 => ?_)
                                    · refine g_iconst (v := 0) C dX9_free_152 (by decide) ?_
                                      refine g_iadd C dX9_free_153 ?_
                                      first | rw [gco0 c_123] | rw [gco1 c_133] | rw [gco2 c_144] | rw [gco3 c_123 c_133 c_144]
                                      refine g_istore C dX9_free_154 (Nat.le_of_ble_eq_true rfl) rfl ?_
                                      refine g_lv [some _, some _, some _, some _, some _, some _, some _, some _, some _] (gs_some (gs_some (gs_some (gs_some (gs_some (gs_some (gs_some (gs_some (gs_some gs_nil))))))))) ?_
                                      refine g_iinc (v := nI (i + 1)) C dX9_free_156 rfl (ginc _ 1) rfl ?_
                                      refine g_lv [some _, some _, some _, some _, some _, some _, some _, some _, some _] (gs_some (gs_some (gs_some (gs_some (gs_some (gs_some (gs_some (gs_some (gs_some gs_nil))))))))) ?_
                                      refine g_goto C 79 dX9_free_159 (by decide) ?_
                                      refine g_lv [some _, some _, some _, some _, some _, some _, some _, some _, none] (gs_some (gs_some (gs_some (gs_some (gs_some (gs_some (gs_some (gs_some (gs_none gs_nil))))))))) ?_
                                      exact ih_79 (i + 1) _ (by omega) (by first | exact gAcc_0 hb c_98 (fun z => (qV_s.mp z).1) | exact gAcc_f (fun z => hx2 (qV_s.mp z).2) | exact gAcc_1 hb c_98 (fun z => qV_s.mpr ⟨z, hx2⟩)) (by omega)
                                    · refine g_bipush (v := 36) C dX9_free_147 (by decide) ?_
                                      refine g_goto C 153 dX9_free_149 (by decide) ?_
                                      refine g_iadd C dX9_free_153 ?_
                                      first | rw [gco0 c_123] | rw [gco1 c_133] | rw [gco2 c_144] | rw [gco3 c_123 c_133 c_144]
                                      refine g_istore C dX9_free_154 (Nat.le_of_ble_eq_true rfl) rfl ?_
                                      refine g_lv [some _, some _, some _, some _, some _, some _, some _, some _, some _] (gs_some (gs_some (gs_some (gs_some (gs_some (gs_some (gs_some (gs_some (gs_some gs_nil))))))))) ?_
                                      refine g_iinc (v := nI (i + 1)) C dX9_free_156 rfl (ginc _ 1) rfl ?_
                                      refine g_lv [some _, some _, some _, some _, some _, some _, some _, some _, some _] (gs_some (gs_some (gs_some (gs_some (gs_some (gs_some (gs_some (gs_some (gs_some gs_nil))))))))) ?_
                                      refine g_goto C 79 dX9_free_159 (by decide) ?_
                                      refine g_lv [some _, some _, some _, some _, some _, some _, some _, some _, none] (gs_some (gs_some (gs_some (gs_some (gs_some (gs_some (gs_some (gs_some (gs_none gs_nil))))))))) ?_
                                      exact ih_79 (i + 1) _ (by omega) (by first | exact gAcc_0 hb c_98 (fun z => (qV_s.mp z).1) | exact gAcc_f (fun z => hx2 (qV_s.mp z).2) | exact gAcc_1 hb c_98 (fun z => qV_s.mpr ⟨z, hx2⟩)) (by omega)
                                  · refine g_bipush (v := 6) C dX9_free_136 (by decide) ?_
                                    refine g_goto C 153 dX9_free_138 (by decide) ?_
                                    refine g_iadd C dX9_free_153 ?_
                                    first | rw [gco0 c_123] | rw [gco1 c_133] | rw [gco2 c_144] | rw [gco3 c_123 c_133 c_144]
                                    refine g_istore C dX9_free_154 (Nat.le_of_ble_eq_true rfl) rfl ?_
                                    refine g_lv [some _, some _, some _, some _, some _, some _, some _, some _, some _] (gs_some (gs_some (gs_some (gs_some (gs_some (gs_some (gs_some (gs_some (gs_some gs_nil))))))))) ?_
                                    refine g_iinc (v := nI (i + 1)) C dX9_free_156 rfl (ginc _ 1) rfl ?_
                                    refine g_lv [some _, some _, some _, some _, some _, some _, some _, some _, some _] (gs_some (gs_some (gs_some (gs_some (gs_some (gs_some (gs_some (gs_some (gs_some gs_nil))))))))) ?_
                                    refine g_goto C 79 dX9_free_159 (by decide) ?_
                                    refine g_lv [some _, some _, some _, some _, some _, some _, some _, some _, none] (gs_some (gs_some (gs_some (gs_some (gs_some (gs_some (gs_some (gs_some (gs_none gs_nil))))))))) ?_
                                    exact ih_79 (i + 1) _ (by omega) (by first | exact gAcc_0 hb c_98 (fun z => (qV_s.mp z).1) | exact gAcc_f (fun z => hx2 (qV_s.mp z).2) | exact gAcc_1 hb c_98 (fun z => qV_s.mpr ⟨z, hx2⟩)) (by omega)
                                · refine g_iconst (v := 1) C dX9_free_126 (by decide) ?_
                                  refine g_goto C 153 dX9_free_127 (by decide) ?_
                                  refine g_iadd C dX9_free_153 ?_
                                  first | rw [gco0 c_123] | rw [gco1 c_133] | rw [gco2 c_144] | rw [gco3 c_123 c_133 c_144]
                                  refine g_istore C dX9_free_154 (Nat.le_of_ble_eq_true rfl) rfl ?_
                                  refine g_lv [some _, some _, some _, some _, some _, some _, some _, some _, some _] (gs_some (gs_some (gs_some (gs_some (gs_some (gs_some (gs_some (gs_some (gs_some gs_nil))))))))) ?_
                                  refine g_iinc (v := nI (i + 1)) C dX9_free_156 rfl (ginc _ 1) rfl ?_
                                  refine g_lv [some _, some _, some _, some _, some _, some _, some _, some _, some _] (gs_some (gs_some (gs_some (gs_some (gs_some (gs_some (gs_some (gs_some (gs_some gs_nil))))))))) ?_
                                  refine g_goto C 79 dX9_free_159 (by decide) ?_
                                  refine g_lv [some _, some _, some _, some _, some _, some _, some _, some _, none] (gs_some (gs_some (gs_some (gs_some (gs_some (gs_some (gs_some (gs_some (gs_none gs_nil))))))))) ?_
                                  exact ih_79 (i + 1) _ (by omega) (by first | exact gAcc_0 hb c_98 (fun z => (qV_s.mp z).1) | exact gAcc_f (fun z => hx2 (qV_s.mp z).2) | exact gAcc_1 hb c_98 (fun z => qV_s.mpr ⟨z, hx2⟩)) (by omega)
                              · refine g_iload C dX9_free_101 rfl ?_
                                refine g_aload_n C dX9_free_103 rfl ?_
                                refine g_get C dX9_free_104 iwX9 rfl (wO_M δ _) 5 (Nat.le_of_ble_eq_true rfl) mW577 rfl rfl ?_
                                refine g_iload_n C dX9_free_107 rfl ?_
                                refine g_ialdN C dX9_free_108 (k := u1) (q := 52) (by decide) rfl (by first | rfl | assumption | (simp only [glit, nI_add, pk_mul]; done) | (simp only [glit, nI_add, pk_mul]; congr 1; omega) | (simp only [*, glit, nI_add, pk_mul]; congr 1; omega)) (show u1 < gLenI 52 from Nat.lt_of_lt_of_eq (show u1 < 8 by omega) rfl) ?_
                                rw [(KM_sm hs K).2.1 u1 hu8]
                                refine g_icmp_ge C 116 dX9_free_109 (by decide) (fun c_109 => ?_) (fun c_109 => ?_)
                                · have hx2 : ¬ gDig j i < vC v u1 := fun z => Nat.not_le.mpr z ((nI_leI (a := vC v u1) (b := j / 4 ^ i % 4) (by omega) (by have := Nat.mod_lt (j / 4 ^ i) (show 0 < 4 by decide); omega)).mp c_109)
                                  refine g_iconst (v := 0) C dX9_free_116 (by decide) ?_
                                  refine g_istore C dX9_free_117 (Nat.le_of_ble_eq_true rfl) rfl ?_
                                  refine g_lv [some _, some _, some _, some _, some _, some _, some _, some _, some _] (gs_some (gs_some (gs_some (gs_some (gs_some (gs_some (gs_some (gs_some (gs_some gs_nil))))))))) ?_
                                  refine g_iload C dX9_free_119 rfl ?_
                                  refine g_iload C dX9_free_121 rfl ?_
                                  refine g_if_ne C 130 dX9_free_123 (by decide) (fun c_123 => ?_) (fun c_123 => ?_)
                                  · refine g_iload C dX9_free_130 rfl ?_
                                    refine g_iconst (v := 1) C dX9_free_132 (by decide) ?_
                                    refine g_icmp_ne C 141 dX9_free_133 (by decide) (fun c_133 => ?_) (fun c_133 => ?_)
                                    · refine g_iload C dX9_free_141 rfl ?_
                                      refine g_iconst (v := 2) C dX9_free_143 (by decide) ?_
                                      refine g_icmp_ne C 152 dX9_free_144 (by decide) (fun c_144 => ?_) (fun c_144 => ?_)
                                      · refine g_iconst (v := 0) C dX9_free_152 (by decide) ?_
                                        refine g_iadd C dX9_free_153 ?_
                                        first | rw [gco0 c_123] | rw [gco1 c_133] | rw [gco2 c_144] | rw [gco3 c_123 c_133 c_144]
                                        refine g_istore C dX9_free_154 (Nat.le_of_ble_eq_true rfl) rfl ?_
                                        refine g_lv [some _, some _, some _, some _, some _, some _, some _, some _, some _] (gs_some (gs_some (gs_some (gs_some (gs_some (gs_some (gs_some (gs_some (gs_some gs_nil))))))))) ?_
                                        refine g_iinc (v := nI (i + 1)) C dX9_free_156 rfl (ginc _ 1) rfl ?_
                                        refine g_lv [some _, some _, some _, some _, some _, some _, some _, some _, some _] (gs_some (gs_some (gs_some (gs_some (gs_some (gs_some (gs_some (gs_some (gs_some gs_nil))))))))) ?_
                                        refine g_goto C 79 dX9_free_159 (by decide) ?_
                                        refine g_lv [some _, some _, some _, some _, some _, some _, some _, some _, none] (gs_some (gs_some (gs_some (gs_some (gs_some (gs_some (gs_some (gs_some (gs_none gs_nil))))))))) ?_
                                        exact ih_79 (i + 1) _ (by omega) (by first | exact gAcc_0 hb c_98 (fun z => (qV_s.mp z).1) | exact gAcc_f (fun z => hx2 (qV_s.mp z).2) | exact gAcc_1 hb c_98 (fun z => qV_s.mpr ⟨z, hx2⟩)) (by omega)
                                      · refine g_bipush (v := 36) C dX9_free_147 (by decide) ?_
                                        refine g_goto C 153 dX9_free_149 (by decide) ?_
                                        refine g_iadd C dX9_free_153 ?_
                                        first | rw [gco0 c_123] | rw [gco1 c_133] | rw [gco2 c_144] | rw [gco3 c_123 c_133 c_144]
                                        refine g_istore C dX9_free_154 (Nat.le_of_ble_eq_true rfl) rfl ?_
                                        refine g_lv [some _, some _, some _, some _, some _, some _, some _, some _, some _] (gs_some (gs_some (gs_some (gs_some (gs_some (gs_some (gs_some (gs_some (gs_some gs_nil))))))))) ?_
                                        refine g_iinc (v := nI (i + 1)) C dX9_free_156 rfl (ginc _ 1) rfl ?_
                                        refine g_lv [some _, some _, some _, some _, some _, some _, some _, some _, some _] (gs_some (gs_some (gs_some (gs_some (gs_some (gs_some (gs_some (gs_some (gs_some gs_nil))))))))) ?_
                                        refine g_goto C 79 dX9_free_159 (by decide) ?_
                                        refine g_lv [some _, some _, some _, some _, some _, some _, some _, some _, none] (gs_some (gs_some (gs_some (gs_some (gs_some (gs_some (gs_some (gs_some (gs_none gs_nil))))))))) ?_
                                        exact ih_79 (i + 1) _ (by omega) (by first | exact gAcc_0 hb c_98 (fun z => (qV_s.mp z).1) | exact gAcc_f (fun z => hx2 (qV_s.mp z).2) | exact gAcc_1 hb c_98 (fun z => qV_s.mpr ⟨z, hx2⟩)) (by omega)
                                    · refine g_bipush (v := 6) C dX9_free_136 (by decide) ?_
                                      refine g_goto C 153 dX9_free_138 (by decide) ?_
                                      refine g_iadd C dX9_free_153 ?_
                                      first | rw [gco0 c_123] | rw [gco1 c_133] | rw [gco2 c_144] | rw [gco3 c_123 c_133 c_144]
                                      refine g_istore C dX9_free_154 (Nat.le_of_ble_eq_true rfl) rfl ?_
                                      refine g_lv [some _, some _, some _, some _, some _, some _, some _, some _, some _] (gs_some (gs_some (gs_some (gs_some (gs_some (gs_some (gs_some (gs_some (gs_some gs_nil))))))))) ?_
                                      refine g_iinc (v := nI (i + 1)) C dX9_free_156 rfl (ginc _ 1) rfl ?_
                                      refine g_lv [some _, some _, some _, some _, some _, some _, some _, some _, some _] (gs_some (gs_some (gs_some (gs_some (gs_some (gs_some (gs_some (gs_some (gs_some gs_nil))))))))) ?_
                                      refine g_goto C 79 dX9_free_159 (by decide) ?_
                                      refine g_lv [some _, some _, some _, some _, some _, some _, some _, some _, none] (gs_some (gs_some (gs_some (gs_some (gs_some (gs_some (gs_some (gs_some (gs_none gs_nil))))))))) ?_
                                      exact ih_79 (i + 1) _ (by omega) (by first | exact gAcc_0 hb c_98 (fun z => (qV_s.mp z).1) | exact gAcc_f (fun z => hx2 (qV_s.mp z).2) | exact gAcc_1 hb c_98 (fun z => qV_s.mpr ⟨z, hx2⟩)) (by omega)
                                  · refine g_iconst (v := 1) C dX9_free_126 (by decide) ?_
                                    refine g_goto C 153 dX9_free_127 (by decide) ?_
                                    refine g_iadd C dX9_free_153 ?_
                                    first | rw [gco0 c_123] | rw [gco1 c_133] | rw [gco2 c_144] | rw [gco3 c_123 c_133 c_144]
                                    refine g_istore C dX9_free_154 (Nat.le_of_ble_eq_true rfl) rfl ?_
                                    refine g_lv [some _, some _, some _, some _, some _, some _, some _, some _, some _] (gs_some (gs_some (gs_some (gs_some (gs_some (gs_some (gs_some (gs_some (gs_some gs_nil))))))))) ?_
                                    refine g_iinc (v := nI (i + 1)) C dX9_free_156 rfl (ginc _ 1) rfl ?_
                                    refine g_lv [some _, some _, some _, some _, some _, some _, some _, some _, some _] (gs_some (gs_some (gs_some (gs_some (gs_some (gs_some (gs_some (gs_some (gs_some gs_nil))))))))) ?_
                                    refine g_goto C 79 dX9_free_159 (by decide) ?_
                                    refine g_lv [some _, some _, some _, some _, some _, some _, some _, some _, none] (gs_some (gs_some (gs_some (gs_some (gs_some (gs_some (gs_some (gs_some (gs_none gs_nil))))))))) ?_
                                    exact ih_79 (i + 1) _ (by omega) (by first | exact gAcc_0 hb c_98 (fun z => (qV_s.mp z).1) | exact gAcc_f (fun z => hx2 (qV_s.mp z).2) | exact gAcc_1 hb c_98 (fun z => qV_s.mpr ⟨z, hx2⟩)) (by omega)
                                · have hx2 : gDig j i < vC v u1 := Nat.not_le.mp (fun z => c_109 ((nI_leI (a := vC v u1) (b := j / 4 ^ i % 4) (by omega) (by have := Nat.mod_lt (j / 4 ^ i) (show 0 < 4 by decide); omega)).mpr z))
                                  refine g_iconst (v := 1) C dX9_free_112 (by decide) ?_
                                  refine g_goto C 117 dX9_free_113 (by decide) ?_
                                  refine g_istore C dX9_free_117 (Nat.le_of_ble_eq_true rfl) rfl ?_
                                  refine g_lv [some _, some _, some _, some _, some _, some _, some _, some _, some _] (gs_some (gs_some (gs_some (gs_some (gs_some (gs_some (gs_some (gs_some (gs_some gs_nil))))))))) ?_
                                  refine g_iload C dX9_free_119 rfl ?_
                                  refine g_iload C dX9_free_121 rfl ?_
                                  refine g_if_ne C 130 dX9_free_123 (by decide) (fun c_123 => ?_) (fun c_123 => ?_)
                                  · refine g_iload C dX9_free_130 rfl ?_
                                    refine g_iconst (v := 1) C dX9_free_132 (by decide) ?_
                                    refine g_icmp_ne C 141 dX9_free_133 (by decide) (fun c_133 => ?_) (fun c_133 => ?_)
                                    · refine g_iload C dX9_free_141 rfl ?_
                                      refine g_iconst (v := 2) C dX9_free_143 (by decide) ?_
                                      refine g_icmp_ne C 152 dX9_free_144 (by decide) (fun c_144 => ?_) (fun c_144 => ?_)
                                      · refine g_iconst (v := 0) C dX9_free_152 (by decide) ?_
                                        refine g_iadd C dX9_free_153 ?_
                                        first | rw [gco0 c_123] | rw [gco1 c_133] | rw [gco2 c_144] | rw [gco3 c_123 c_133 c_144]
                                        refine g_istore C dX9_free_154 (Nat.le_of_ble_eq_true rfl) rfl ?_
                                        refine g_lv [some _, some _, some _, some _, some _, some _, some _, some _, some _] (gs_some (gs_some (gs_some (gs_some (gs_some (gs_some (gs_some (gs_some (gs_some gs_nil))))))))) ?_
                                        refine g_iinc (v := nI (i + 1)) C dX9_free_156 rfl (ginc _ 1) rfl ?_
                                        refine g_lv [some _, some _, some _, some _, some _, some _, some _, some _, some _] (gs_some (gs_some (gs_some (gs_some (gs_some (gs_some (gs_some (gs_some (gs_some gs_nil))))))))) ?_
                                        refine g_goto C 79 dX9_free_159 (by decide) ?_
                                        refine g_lv [some _, some _, some _, some _, some _, some _, some _, some _, none] (gs_some (gs_some (gs_some (gs_some (gs_some (gs_some (gs_some (gs_some (gs_none gs_nil))))))))) ?_
                                        exact ih_79 (i + 1) _ (by omega) (by first | exact gAcc_0 hb c_98 (fun z => (qV_s.mp z).1) | exact gAcc_f (fun z => hx2 (qV_s.mp z).2) | exact gAcc_1 hb c_98 (fun z => qV_s.mpr ⟨z, hx2⟩)) (by omega)
                                      · refine g_bipush (v := 36) C dX9_free_147 (by decide) ?_
                                        refine g_goto C 153 dX9_free_149 (by decide) ?_
                                        refine g_iadd C dX9_free_153 ?_
                                        first | rw [gco0 c_123] | rw [gco1 c_133] | rw [gco2 c_144] | rw [gco3 c_123 c_133 c_144]
                                        refine g_istore C dX9_free_154 (Nat.le_of_ble_eq_true rfl) rfl ?_
                                        refine g_lv [some _, some _, some _, some _, some _, some _, some _, some _, some _] (gs_some (gs_some (gs_some (gs_some (gs_some (gs_some (gs_some (gs_some (gs_some gs_nil))))))))) ?_
                                        refine g_iinc (v := nI (i + 1)) C dX9_free_156 rfl (ginc _ 1) rfl ?_
                                        refine g_lv [some _, some _, some _, some _, some _, some _, some _, some _, some _] (gs_some (gs_some (gs_some (gs_some (gs_some (gs_some (gs_some (gs_some (gs_some gs_nil))))))))) ?_
                                        refine g_goto C 79 dX9_free_159 (by decide) ?_
                                        refine g_lv [some _, some _, some _, some _, some _, some _, some _, some _, none] (gs_some (gs_some (gs_some (gs_some (gs_some (gs_some (gs_some (gs_some (gs_none gs_nil))))))))) ?_
                                        exact ih_79 (i + 1) _ (by omega) (by first | exact gAcc_0 hb c_98 (fun z => (qV_s.mp z).1) | exact gAcc_f (fun z => hx2 (qV_s.mp z).2) | exact gAcc_1 hb c_98 (fun z => qV_s.mpr ⟨z, hx2⟩)) (by omega)
                                    · refine g_bipush (v := 6) C dX9_free_136 (by decide) ?_
                                      refine g_goto C 153 dX9_free_138 (by decide) ?_
                                      refine g_iadd C dX9_free_153 ?_
                                      first | rw [gco0 c_123] | rw [gco1 c_133] | rw [gco2 c_144] | rw [gco3 c_123 c_133 c_144]
                                      refine g_istore C dX9_free_154 (Nat.le_of_ble_eq_true rfl) rfl ?_
                                      refine g_lv [some _, some _, some _, some _, some _, some _, some _, some _, some _] (gs_some (gs_some (gs_some (gs_some (gs_some (gs_some (gs_some (gs_some (gs_some gs_nil))))))))) ?_
                                      refine g_iinc (v := nI (i + 1)) C dX9_free_156 rfl (ginc _ 1) rfl ?_
                                      refine g_lv [some _, some _, some _, some _, some _, some _, some _, some _, some _] (gs_some (gs_some (gs_some (gs_some (gs_some (gs_some (gs_some (gs_some (gs_some gs_nil))))))))) ?_
                                      refine g_goto C 79 dX9_free_159 (by decide) ?_
                                      refine g_lv [some _, some _, some _, some _, some _, some _, some _, some _, none] (gs_some (gs_some (gs_some (gs_some (gs_some (gs_some (gs_some (gs_some (gs_none gs_nil))))))))) ?_
                                      exact ih_79 (i + 1) _ (by omega) (by first | exact gAcc_0 hb c_98 (fun z => (qV_s.mp z).1) | exact gAcc_f (fun z => hx2 (qV_s.mp z).2) | exact gAcc_1 hb c_98 (fun z => qV_s.mpr ⟨z, hx2⟩)) (by omega)
                                  · refine g_iconst (v := 1) C dX9_free_126 (by decide) ?_
                                    refine g_goto C 153 dX9_free_127 (by decide) ?_
                                    refine g_iadd C dX9_free_153 ?_
                                    first | rw [gco0 c_123] | rw [gco1 c_133] | rw [gco2 c_144] | rw [gco3 c_123 c_133 c_144]
                                    refine g_istore C dX9_free_154 (Nat.le_of_ble_eq_true rfl) rfl ?_
                                    refine g_lv [some _, some _, some _, some _, some _, some _, some _, some _, some _] (gs_some (gs_some (gs_some (gs_some (gs_some (gs_some (gs_some (gs_some (gs_some gs_nil))))))))) ?_
                                    refine g_iinc (v := nI (i + 1)) C dX9_free_156 rfl (ginc _ 1) rfl ?_
                                    refine g_lv [some _, some _, some _, some _, some _, some _, some _, some _, some _] (gs_some (gs_some (gs_some (gs_some (gs_some (gs_some (gs_some (gs_some (gs_some gs_nil))))))))) ?_
                                    refine g_goto C 79 dX9_free_159 (by decide) ?_
                                    refine g_lv [some _, some _, some _, some _, some _, some _, some _, some _, none] (gs_some (gs_some (gs_some (gs_some (gs_some (gs_some (gs_some (gs_some (gs_none gs_nil))))))))) ?_
                                    exact ih_79 (i + 1) _ (by omega) (by first | exact gAcc_0 hb c_98 (fun z => (qV_s.mp z).1) | exact gAcc_f (fun z => hx2 (qV_s.mp z).2) | exact gAcc_1 hb c_98 (fun z => qV_s.mpr ⟨z, hx2⟩)) (by omega)
                        refine g_lv [some _, some _, some _, some _, some _, some _, some _, some _, none] (gs_some (gs_some (gs_some (gs_some (gs_some (gs_some (gs_some (gs_some (gs_none gs_nil))))))))) ?_
                        exact L_79 _ 0 1 (by omega) (gAcc_t (fun _ h => absurd h (Nat.not_lt_zero _))) (Nat.lt_succ_self _)
                  refine g_lv [some _, some _, some _, some _, some _, none, none, none, none] (gs_some (gs_some (gs_some (gs_some (gs_some (gs_none (gs_none (gs_none (gs_none gs_nil))))))))) ?_
                  exact L_60 _ 0 _ _ (Nat.zero_le _) (by repeat (first | (with_reducible assumption) | (with_reducible exact gSm_r _) | (with_reducible refine gSm_I (by omega) ?_) | (with_reducible refine gSm_L (by omega) ?_) | (with_reducible refine gSm_N (by omega) ?_) | (with_reducible refine gSm_G (by omega) ?_) | (with_reducible refine gSm_P ?_))) (qTab_0 _ _ _ (fun p hp => by rw [gL_uL, if_pos rfl]; exact hf p (by omega))) (gAcc_t (qA_0 _ _ _)) (Nat.lt_succ_self _)
                · have k_39 := gnle c_39 (a := 216) (b := q) (by first | rfl | assumption | (simp only [glit, nI_add, pk_mul]; done) | (simp only [glit, nI_add, pk_mul]; congr 1; omega) | (simp only [*, glit, nI_add, pk_mul]; congr 1; omega)) (by first | rfl | assumption | (simp only [glit, nI_add, pk_mul]; done) | (simp only [glit, nI_add, pk_mul]; congr 1; omega) | (simp only [*, glit, nI_add, pk_mul]; congr 1; omega)) (by omega) (by omega)
                  refine g_aload_n C dX9_free_42 rfl ?_
                  refine g_get C dX9_free_43 iwX9 rfl (wO_M δ _) 25 (Nat.le_of_ble_eq_true rfl) mW597 rfl rfl ?_
                  refine g_iload_n C dX9_free_46 rfl ?_
                  refine g_lconst (v := 0) C dX9_free_47 (by decide) ?_
                  refine g_lastN C dX9_free_48 (k := q) (q := 16) (by decide) rfl (by first | rfl | assumption | (simp only [glit, nI_add, pk_mul]; done) | (simp only [glit, nI_add, pk_mul]; congr 1; omega) | (simp only [*, glit, nI_add, pk_mul]; congr 1; omega)) (show q < gLenL 16 from Nat.lt_of_lt_of_eq (show q < 216 by omega) rfl) ?_
                  refine g_iinc (v := nI (q + 1)) C dX9_free_49 rfl (ginc _ 1) rfl ?_
                  refine g_lv [some _, some _, some _, some _, none, none, none, none, none] (gs_some (gs_some (gs_some (gs_some (gs_none (gs_none (gs_none (gs_none (gs_none gs_nil))))))))) ?_
                  refine g_goto C 35 dX9_free_52 (by decide) ?_
                  refine g_lv [some _, some _, some _, some _, none, none, none, none, none] (gs_some (gs_some (gs_some (gs_some (gs_none (gs_none (gs_none (gs_none (gs_none gs_nil))))))))) ?_
                  rw [uL_uL, gL_uL, if_pos rfl]
                  exact ih_35 (q + 1) _ (by omega) (fun z h => vp_fill hf h) (by omega)
            refine g_lv [some _, some _, some _, some _, none, none, none, none, none] (gs_some (gs_some (gs_some (gs_some (gs_none (gs_none (gs_none (gs_none (gs_none gs_nil))))))))) ?_
            refine g_st (uL_id _ 16).symm ?_
            exact L_35 _ 0 _ (by omega) (fun _ h => absurd h (Nat.not_lt_zero _)) (Nat.lt_succ_self _)
          · refine g_bipush (v := (-2)) C dX9_free_30 (by decide) ?_
            exact g_iret C E dX9_free_32 rfl rfl ⟨_, rfl, ⟨((aFree_at hu1 hu8 (by omega) (by omega)).trans (gIf_t c_27)).symm, (by repeat (first | (with_reducible assumption) | (with_reducible exact gSm_r _) | (with_reducible refine gSm_I (by omega) ?_) | (with_reducible refine gSm_L (by omega) ?_) | (with_reducible refine gSm_N (by omega) ?_) | (with_reducible refine gSm_G (by omega) ?_) | (with_reducible refine gSm_P ?_)))⟩⟩
        · exact absurd c_17 (by decide)
      · skip
        refine g_if_ne C 22 dX9_free_17 (by decide) (fun c_17 => ?_) (fun c_17 => ?_)
        · exact absurd c_17 (by decide)
        · refine g_iconst (v := (-1)) C dX9_free_20 (by decide) ?_
          exact g_iret C E dX9_free_21 rfl rfl ⟨_, rfl, ⟨(by first | exact (gIf_f (fun z => h_2 z.1)).symm | exact (gIf_f (fun z => h_14 (gin5.mpr z.2))).symm), (by repeat (first | (with_reducible assumption) | (with_reducible exact gSm_r _) | (with_reducible refine gSm_I (by omega) ?_) | (with_reducible refine gSm_L (by omega) ?_) | (with_reducible refine gSm_N (by omega) ?_) | (with_reducible refine gSm_G (by omega) ?_) | (with_reducible refine gSm_P ?_)))⟩⟩
  · skip
    refine g_if_eq C 20 dX9_free_5 (by decide) (fun c_5 => ?_) (fun c_5 => ?_)
    · refine g_iconst (v := (-1)) C dX9_free_20 (by decide) ?_
      exact g_iret C E dX9_free_21 rfl rfl ⟨_, rfl, ⟨(by first | exact (gIf_f (fun z => h_2 z.1)).symm | exact (gIf_f (fun z => h_14 (gin5.mpr z.2))).symm), (by repeat (first | (with_reducible assumption) | (with_reducible exact gSm_r _) | (with_reducible refine gSm_I (by omega) ?_) | (with_reducible refine gSm_L (by omega) ?_) | (with_reducible refine gSm_N (by omega) ?_) | (with_reducible refine gSm_G (by omega) ?_) | (with_reducible refine gSm_P ?_)))⟩⟩
    · exact absurd c_5 (by decide)
