set_option maxRecDepth 100000 in
set_option maxHeartbeats 4000000 in
theorem c_X9_followsf (l : Launch) (δ : GD) (σ : GS) {u : Nat} (hu : u < 8) (hB : gB2 (mB σ u)) {k w : Nat} (hk : k ≤ 12) (hw : w < 2147483648) : gM l δ yX9_follows cX9_follows 18 (some .boolean) 1 29 [.ref (δ.2.2.1 1), .int (nI u), .int (nI k), .int (nI w)] σ (gPi (fun _ σ' => gSg σ σ' ∧ ¬ gG σ' 14 = 0)) := by
  refine g_of (lv0 := [some (.ref (δ.2.2.1 1)), some (.int (nI u)), some (.int (nI k)), some (.int (nI w)), none, none, none, none, none, none, none, none, none, none, none, none, none, none]) (by decide) rfl (Nat.le_of_ble_eq_true rfl) (fun Γ hl C E => ?_)
  subst hl
  have C : gC Γ δ cX9_follows RX9 18 1 29 := C
  refine g_aload_n C dX9_follows_0 rfl ?_
  refine g_lconst (v := 1) C dX9_follows_1 (by decide) ?_
  refine g_put C tyX9 dX9_follows_2 iwX9 tyX9_ok nmX9 rfl (wO_M δ _) 17 (Nat.le_of_ble_eq_true rfl) mW589 rfl rfl rfl rfl rfl (Nat.le_of_ble_eq_true rfl) (pG_13 δ _ _) ?_
  refine g_aload_n C dX9_follows_5 rfl ?_
  refine g_lconst (v := 1) C dX9_follows_6 (by decide) ?_
  refine g_put C tyX9 dX9_follows_7 iwX9 tyX9_ok nmX9 rfl (wO_M δ _) 18 (Nat.le_of_ble_eq_true rfl) mW590 rfl rfl rfl rfl rfl (Nat.le_of_ble_eq_true rfl) (pG_14 δ _ _) ?_
  refine g_iconst (v := 0) C dX9_follows_10 (by decide) ?_
  refine g_istore C dX9_follows_11 (Nat.le_of_ble_eq_true rfl) rfl ?_
  refine g_lv [some _, some _, some _, some _, some _, none, none, none, none, none, none, none, none, none, none, none, none, none] (gs_some (gs_some (gs_some (gs_some (gs_some (gs_none (gs_none (gs_none (gs_none (gs_none (gs_none (gs_none (gs_none (gs_none (gs_none (gs_none (gs_none (gs_none gs_nil)))))))))))))))))) ?_
  have L_13 : ∀ (nn : Nat) (d : Nat) (f : Nat → Int32) (hd : d ≤ 4) (hf : ∀ j, j < d → f j = mB σ u j), 4 - d < nn → gW Γ δ (uI (uG (uG σ 13 1) 14 1) 57 f) 13 [some (.ref (δ.2.2.1 1)), some (.int (nI u)), some (.int (nI k)), some (.int (nI w)), some (.int (nI d)), none, none, none, none, none, none, none, none, none, none, none, none, none] [] := by
    intro nn
    induction nn with
    | zero =>
      intro d f hd hf hm_13
      exact absurd hm_13 (Nat.not_lt_zero _)
    | succ nn ih_13 =>
      intro d f hd hf hm_13
      refine g_iload C dX9_follows_13 rfl ?_
      refine g_iconst (v := 4) C dX9_follows_15 (by decide) ?_
      refine g_icmp_ge C 44 dX9_follows_16 (by decide) (fun c_16 => ?_) (fun c_16 => ?_)
      · have k_16 := gle c_16 (a := 4) (b := d) (by first | rfl | assumption | (simp only [glit, nI_add, pk_mul]; done) | (simp only [glit, nI_add, pk_mul]; congr 1; omega) | (simp only [*, glit, nI_add, pk_mul]; congr 1; omega)) (by first | rfl | assumption | (simp only [glit, nI_add, pk_mul]; done) | (simp only [glit, nI_add, pk_mul]; congr 1; omega) | (simp only [*, glit, nI_add, pk_mul]; congr 1; omega)) (by omega) (by omega)
        have ek : d = 4 := by omega
        subst ek
        have hb0 : gB2 f := fun j hj => by rw [hf j hj]; exact hB j hj
        refine g_iload_n C dX9_follows_44 rfl ?_
        refine g_istore C dX9_follows_45 (Nat.le_of_ble_eq_true rfl) rfl ?_
        refine g_lv [some _, some _, some _, some _, some _, none, none, none, none, none, none, none, none, none, none, none, none, none] (gs_some (gs_some (gs_some (gs_some (gs_some (gs_none (gs_none (gs_none (gs_none (gs_none (gs_none (gs_none (gs_none (gs_none (gs_none (gs_none (gs_none (gs_none gs_nil)))))))))))))))))) ?_
        refine g_iconst (v := 0) C dX9_follows_47 (by decide) ?_
        refine g_istore C dX9_follows_48 (Nat.le_of_ble_eq_true rfl) rfl ?_
        refine g_lv [some _, some _, some _, some _, some _, some _, none, none, none, none, none, none, none, none, none, none, none, none] (gs_some (gs_some (gs_some (gs_some (gs_some (gs_some (gs_none (gs_none (gs_none (gs_none (gs_none (gs_none (gs_none (gs_none (gs_none (gs_none (gs_none (gs_none gs_nil)))))))))))))))))) ?_
        have L_50 : ∀ (nn : Nat) (i : Nat) (s1 : GS) (hi : i ≤ k) (hs : gSg σ s1) (hb1 : gB2 (gI s1 57)) (hu1 : 1 ≤ gG s1 13) (hd1 : 1 ≤ gG s1 14), k - i < nn → gW Γ δ s1 50 [some (.ref (δ.2.2.1 1)), some (.int (nI u)), some (.int (nI k)), some (.int (nI w)), some (.int (nI (w / 4 ^ i))), some (.int (nI i)), none, none, none, none, none, none, none, none, none, none, none, none] [] := by
          intro nn
          induction nn with
          | zero =>
            intro i s1 hi hs hb1 hu1 hd1 hm_50
            exact absurd hm_50 (Nat.not_lt_zero _)
          | succ nn ih_50 =>
            intro i s1 hi hs hb1 hu1 hd1 hm_50
            have hl := gpowle w i
            have hd4 : w / 4 ^ i % 4 < 4 := Nat.mod_lt _ (by decide)
            refine g_iload C dX9_follows_50 rfl ?_
            refine g_iload_n C dX9_follows_52 rfl ?_
            refine g_icmp_ge C 352 dX9_follows_53 (by decide) (fun c_53 => ?_) (fun c_53 => ?_)
            · have k_53 := gle c_53 (a := k) (b := i) (by first | rfl | assumption | (simp only [glit, nI_add, pk_mul]; done) | (simp only [glit, nI_add, pk_mul]; congr 1; omega) | (simp only [*, glit, nI_add, pk_mul]; congr 1; omega)) (by first | rfl | assumption | (simp only [glit, nI_add, pk_mul]; done) | (simp only [glit, nI_add, pk_mul]; congr 1; omega) | (simp only [*, glit, nI_add, pk_mul]; congr 1; omega)) (by omega) (by omega)
              refine g_iconst (v := 1) C dX9_follows_352 (by decide) ?_
              exact g_iret C E dX9_follows_353 rfl rfl ⟨_, rfl, ⟨(by repeat (first | (with_reducible assumption) | (with_reducible exact gSg_r _) | (with_reducible refine gSg_I (by omega) ?_) | (with_reducible refine gSg_L (by omega) ?_) | (with_reducible refine gSg_N (by omega) ?_) | (with_reducible refine gSg_G (by omega) ?_) | (with_reducible refine gSg_P ?_))), gnz1 hd1⟩⟩
            · have k_53 := gnle c_53 (a := k) (b := i) (by first | rfl | assumption | (simp only [glit, nI_add, pk_mul]; done) | (simp only [glit, nI_add, pk_mul]; congr 1; omega) | (simp only [*, glit, nI_add, pk_mul]; congr 1; omega)) (by first | rfl | assumption | (simp only [glit, nI_add, pk_mul]; done) | (simp only [glit, nI_add, pk_mul]; congr 1; omega) | (simp only [*, glit, nI_add, pk_mul]; congr 1; omega)) (by omega) (by omega)
              refine g_iload C dX9_follows_56 rfl ?_
              refine g_iconst (v := 3) C dX9_follows_58 (by decide) ?_
              refine g_iand C dX9_follows_59 ?_
              rw [gand3 (by omega)]
              refine g_istore C dX9_follows_60 (Nat.le_of_ble_eq_true rfl) rfl ?_
              refine g_lv [some _, some _, some _, some _, some _, some _, some _, none, none, none, none, none, none, none, none, none, none, none] (gs_some (gs_some (gs_some (gs_some (gs_some (gs_some (gs_some (gs_none (gs_none (gs_none (gs_none (gs_none (gs_none (gs_none (gs_none (gs_none (gs_none (gs_none gs_nil)))))))))))))))))) ?_
              refine g_iload C dX9_follows_62 rfl ?_
              refine g_iconst (v := 2) C dX9_follows_64 (by decide) ?_
              refine g_ishr C dX9_follows_65 ?_
              rw [gshr2 (by omega), gpow]
              refine g_istore C dX9_follows_66 (Nat.le_of_ble_eq_true rfl) rfl ?_
              refine g_lv [some _, some _, some _, some _, some _, some _, some _, none, none, none, none, none, none, none, none, none, none, none] (gs_some (gs_some (gs_some (gs_some (gs_some (gs_some (gs_some (gs_none (gs_none (gs_none (gs_none (gs_none (gs_none (gs_none (gs_none (gs_none (gs_none (gs_none gs_nil)))))))))))))))))) ?_
              refine g_aload_n C dX9_follows_68 rfl ?_
              refine g_get C dX9_follows_69 iwX9 rfl (wO_M δ _) 16 (Nat.le_of_ble_eq_true rfl) mW588 rfl rfl ?_
              refine g_iload C dX9_follows_72 rfl ?_
              refine g_ialdN C dX9_follows_74 (k := (w / 4 ^ i % 4)) (q := 57) (by decide) rfl (by first | rfl | assumption | (simp only [glit, nI_add, pk_mul]; done) | (simp only [glit, nI_add, pk_mul]; congr 1; omega) | (simp only [*, glit, nI_add, pk_mul]; congr 1; omega)) (show (w / 4 ^ i % 4) < gLenI 57 from Nat.lt_of_lt_of_eq (show (w / 4 ^ i % 4) < 4 by exact hd4) rfl) ?_
              refine g_i2l C dX9_follows_75 ?_
              refine g_lstore C dX9_follows_76 (Nat.le_of_ble_eq_true rfl) rfl ?_
              refine g_lv [some _, some _, some _, some _, some _, some _, some _, some _, none, none, none, none, none, none, none, none, none, none] (gs_some (gs_some (gs_some (gs_some (gs_some (gs_some (gs_some (gs_some (gs_none (gs_none (gs_none (gs_none (gs_none (gs_none (gs_none (gs_none (gs_none (gs_none gs_nil)))))))))))))))))) ?_
              refine g_aload_n C dX9_follows_78 rfl ?_
              refine g_get C dX9_follows_79 iwX9 rfl (wO_M δ _) 16 (Nat.le_of_ble_eq_true rfl) mW588 rfl rfl ?_
              refine g_iconst (v := 0) C dX9_follows_82 (by decide) ?_
              refine g_ialdN C dX9_follows_83 (k := 0) (q := 57) (by decide) rfl (by first | rfl | assumption | (simp only [glit, nI_add, pk_mul]; done) | (simp only [glit, nI_add, pk_mul]; congr 1; omega) | (simp only [*, glit, nI_add, pk_mul]; congr 1; omega)) (show 0 < gLenI 57 from Nat.lt_of_lt_of_eq (show 0 < 4 by omega) rfl) ?_
              refine g_aload_n C dX9_follows_84 rfl ?_
              refine g_get C dX9_follows_85 iwX9 rfl (wO_M δ _) 16 (Nat.le_of_ble_eq_true rfl) mW588 rfl rfl ?_
              refine g_iconst (v := 1) C dX9_follows_88 (by decide) ?_
              refine g_ialdN C dX9_follows_89 (k := 1) (q := 57) (by decide) rfl (by first | rfl | assumption | (simp only [glit, nI_add, pk_mul]; done) | (simp only [glit, nI_add, pk_mul]; congr 1; omega) | (simp only [*, glit, nI_add, pk_mul]; congr 1; omega)) (show 1 < gLenI 57 from Nat.lt_of_lt_of_eq (show 1 < 4 by omega) rfl) ?_
              refine g_iadd C dX9_follows_90 ?_
              refine g_aload_n C dX9_follows_91 rfl ?_
              refine g_get C dX9_follows_92 iwX9 rfl (wO_M δ _) 16 (Nat.le_of_ble_eq_true rfl) mW588 rfl rfl ?_
              refine g_iconst (v := 2) C dX9_follows_95 (by decide) ?_
              refine g_ialdN C dX9_follows_96 (k := 2) (q := 57) (by decide) rfl (by first | rfl | assumption | (simp only [glit, nI_add, pk_mul]; done) | (simp only [glit, nI_add, pk_mul]; congr 1; omega) | (simp only [*, glit, nI_add, pk_mul]; congr 1; omega)) (show 2 < gLenI 57 from Nat.lt_of_lt_of_eq (show 2 < 4 by omega) rfl) ?_
              refine g_iadd C dX9_follows_97 ?_
              refine g_aload_n C dX9_follows_98 rfl ?_
              refine g_get C dX9_follows_99 iwX9 rfl (wO_M δ _) 16 (Nat.le_of_ble_eq_true rfl) mW588 rfl rfl ?_
              refine g_iconst (v := 3) C dX9_follows_102 (by decide) ?_
              refine g_ialdN C dX9_follows_103 (k := 3) (q := 57) (by decide) rfl (by first | rfl | assumption | (simp only [glit, nI_add, pk_mul]; done) | (simp only [glit, nI_add, pk_mul]; congr 1; omega) | (simp only [*, glit, nI_add, pk_mul]; congr 1; omega)) (show 3 < gLenI 57 from Nat.lt_of_lt_of_eq (show 3 < 4 by omega) rfl) ?_
              refine g_iadd C dX9_follows_104 ?_
              refine g_i2l C dX9_follows_105 ?_
              refine g_lstore C dX9_follows_106 (Nat.le_of_ble_eq_true rfl) rfl ?_
              refine g_lv [some _, some _, some _, some _, some _, some _, some _, some _, none, some _, none, none, none, none, none, none, none, none] (gs_some (gs_some (gs_some (gs_some (gs_some (gs_some (gs_some (gs_some (gs_none (gs_some (gs_none (gs_none (gs_none (gs_none (gs_none (gs_none (gs_none (gs_none gs_nil)))))))))))))))))) ?_
              have J_120 : ∀ (a : Int32) (ha : gAcc a (0 < gI s1 57 (w / 4 ^ i % 4))), gW Γ δ s1 120 [some (.ref (δ.2.2.1 1)), some (.int (nI u)), some (.int (nI k)), some (.int (nI w)), some (.int (nI (w / 4 ^ (i + 1)))), some (.int (nI i)), some (.int (nI (w / 4 ^ i % 4))), some (.long (gI s1 57 (w / 4 ^ i % 4)).toInt64), none, some (.long (gI s1 57 0 + gI s1 57 1 + gI s1 57 2 + gI s1 57 3).toInt64), none, none, none, none, none, none, none, none] [.int a] := by
                intro a ha
                refine g_istore C dX9_follows_120 (Nat.le_of_ble_eq_true rfl) rfl ?_
                refine g_lv [some _, some _, some _, some _, some _, some _, some _, some _, none, some _, none, some _, none, none, none, none, none, none] (gs_some (gs_some (gs_some (gs_some (gs_some (gs_some (gs_some (gs_some (gs_none (gs_some (gs_none (gs_some (gs_none (gs_none (gs_none (gs_none (gs_none (gs_none gs_nil)))))))))))))))))) ?_
                refine g_iconst (v := 0) C dX9_follows_122 (by decide) ?_
                refine g_istore C dX9_follows_123 (Nat.le_of_ble_eq_true rfl) rfl ?_
                refine g_lv [some _, some _, some _, some _, some _, some _, some _, some _, none, some _, none, some _, some _, none, none, none, none, none] (gs_some (gs_some (gs_some (gs_some (gs_some (gs_some (gs_some (gs_some (gs_none (gs_some (gs_none (gs_some (gs_some (gs_none (gs_none (gs_none (gs_none (gs_none gs_nil)))))))))))))))))) ?_
                have L_125 : ∀ (nn : Nat) (d : Nat) (a : Int32) (hd : d ≤ 4) (ha : gAcc a (gLet (gI s1 57) (mT σ u) (w / 4 ^ i % 4) d)), 4 - d < nn → gW Γ δ (uI s1 57 (gGw (gI s1 57) (mT σ u) (w / 4 ^ i % 4) d)) 125 [some (.ref (δ.2.2.1 1)), some (.int (nI u)), some (.int (nI k)), some (.int (nI w)), some (.int (nI (w / 4 ^ (i + 1)))), some (.int (nI i)), some (.int (nI (w / 4 ^ i % 4))), some (.long (gI s1 57 (w / 4 ^ i % 4)).toInt64), none, some (.long (gI s1 57 0 + gI s1 57 1 + gI s1 57 2 + gI s1 57 3).toInt64), none, some (.int a), some (.int (nI d)), none, none, none, none, none] [] := by
                  intro nn
                  induction nn with
                  | zero =>
                    intro d a hd ha hm_125
                    exact absurd hm_125 (Nat.not_lt_zero _)
                  | succ nn ih_125 =>
                    intro d a hd ha hm_125
                    refine g_iload C dX9_follows_125 rfl ?_
                    refine g_iconst (v := 4) C dX9_follows_127 (by decide) ?_
                    refine g_icmp_ge C 196 dX9_follows_128 (by decide) (fun c_128 => ?_) (fun c_128 => ?_)
                    · have k_128 := gle c_128 (a := 4) (b := d) (by first | rfl | assumption | (simp only [glit, nI_add, pk_mul]; done) | (simp only [glit, nI_add, pk_mul]; congr 1; omega) | (simp only [*, glit, nI_add, pk_mul]; congr 1; omega)) (by first | rfl | assumption | (simp only [glit, nI_add, pk_mul]; done) | (simp only [glit, nI_add, pk_mul]; congr 1; omega) | (simp only [*, glit, nI_add, pk_mul]; congr 1; omega)) (by omega) (by omega)
                      have ek : d = 4 := by omega
                      subst ek
                      refine g_iload C dX9_follows_196 rfl ?_
                      refine g_if_ne C 213 dX9_follows_198 (by decide) (fun c_198 => ?_) (fun c_198 => ?_)
                      · have hL := gAcc_y ha c_198
                        obtain ⟨p1, p2, -, -⟩ := gB2_pos hb1 hd4 hL.1
                        refine g_lload C dX9_follows_213 rfl ?_
                        refine g_lload C dX9_follows_215 rfl ?_
                        refine g_callSl C sS_X9_150 dX9_follows_217 (c_X9_common _ δ _ _ _) ⟨by decide, by decide⟩ rfl rfl rfl (Nat.le_of_ble_eq_true rfl) (fun r_217 s_217 h_217 => ?_)
                        obtain ⟨rfl, h_217⟩ := h_217
                        obtain ⟨q1, q2, q3, q4, q5⟩ := gCm_pos h_217 p1 p2
                        refine g_lstore C dX9_follows_220 (Nat.le_of_ble_eq_true rfl) rfl ?_
                        refine g_lv [some _, some _, some _, some _, some _, some _, some _, some _, none, some _, none, some _, some _, none, none, none, none, none] (gs_some (gs_some (gs_some (gs_some (gs_some (gs_some (gs_some (gs_some (gs_none (gs_some (gs_none (gs_some (gs_some (gs_none (gs_none (gs_none (gs_none (gs_none gs_nil)))))))))))))))))) ?_
                        refine g_lload C dX9_follows_222 rfl ?_
                        refine g_lload C dX9_follows_224 rfl ?_
                        refine g_ldiv C dX9_follows_226 (gnz1 q1) ?_
                        refine g_lstore C dX9_follows_227 (Nat.le_of_ble_eq_true rfl) rfl ?_
                        refine g_lv [some _, some _, some _, some _, some _, some _, some _, some _, none, some _, none, some _, some _, none, none, none, none, none] (gs_some (gs_some (gs_some (gs_some (gs_some (gs_some (gs_some (gs_some (gs_none (gs_some (gs_none (gs_some (gs_some (gs_none (gs_none (gs_none (gs_none (gs_none gs_nil)))))))))))))))))) ?_
                        refine g_lload C dX9_follows_229 rfl ?_
                        refine g_lload C dX9_follows_231 rfl ?_
                        refine g_ldiv C dX9_follows_233 (gnz1 q1) ?_
                        refine g_lstore C dX9_follows_234 (Nat.le_of_ble_eq_true rfl) rfl ?_
                        refine g_lv [some _, some _, some _, some _, some _, some _, some _, some _, none, some _, none, some _, some _, none, none, none, none, none] (gs_some (gs_some (gs_some (gs_some (gs_some (gs_some (gs_some (gs_some (gs_none (gs_some (gs_none (gs_some (gs_some (gs_none (gs_none (gs_none (gs_none (gs_none gs_nil)))))))))))))))))) ?_
                        refine g_aload_n C dX9_follows_236 rfl ?_
                        refine g_get C dX9_follows_237 iwX9 rfl (wO_M δ _) 17 (Nat.le_of_ble_eq_true rfl) mW589 rfl rfl ?_
                        refine g_lload C dX9_follows_240 rfl ?_
                        refine g_callSl C sS_X9_150 dX9_follows_242 (c_X9_common _ δ _ _ _) ⟨by decide, by decide⟩ rfl rfl rfl (Nat.le_of_ble_eq_true rfl) (fun r_242 s_242 h_242 => ?_)
                        obtain ⟨rfl, h_242⟩ := h_242
                        obtain ⟨w1, w2, w3, w4, w5⟩ := gCm_pos h_242 hu1 q3
                        refine g_lstore C dX9_follows_245 (Nat.le_of_ble_eq_true rfl) rfl ?_
                        refine g_lv [some _, some _, some _, some _, some _, some _, some _, some _, none, some _, none, some _, some _, none, some _, none, none, none] (gs_some (gs_some (gs_some (gs_some (gs_some (gs_some (gs_some (gs_some (gs_none (gs_some (gs_none (gs_some (gs_some (gs_none (gs_some (gs_none (gs_none (gs_none gs_nil)))))))))))))))))) ?_
                        refine g_lload C dX9_follows_247 rfl ?_
                        refine g_aload_n C dX9_follows_249 rfl ?_
                        refine g_get C dX9_follows_250 iwX9 rfl (wO_M δ _) 18 (Nat.le_of_ble_eq_true rfl) mW590 rfl rfl ?_
                        refine g_callSl C sS_X9_150 dX9_follows_253 (c_X9_common _ δ _ _ _) ⟨by decide, by decide⟩ rfl rfl rfl (Nat.le_of_ble_eq_true rfl) (fun r_253 s_253 h_253 => ?_)
                        obtain ⟨rfl, h_253⟩ := h_253
                        obtain ⟨y1, y2, y3, y4, y5⟩ := gCm_pos h_253 q2 hd1
                        refine g_lstore C dX9_follows_256 (Nat.le_of_ble_eq_true rfl) rfl ?_
                        refine g_lv [some _, some _, some _, some _, some _, some _, some _, some _, none, some _, none, some _, some _, none, some _, none, some _, none] (gs_some (gs_some (gs_some (gs_some (gs_some (gs_some (gs_some (gs_some (gs_none (gs_some (gs_none (gs_some (gs_some (gs_none (gs_some (gs_none (gs_some (gs_none gs_nil)))))))))))))))))) ?_
                        refine g_aload_n C dX9_follows_258 rfl ?_
                        refine g_dup C dX9_follows_259 rfl ?_
                        refine g_get C dX9_follows_260 iwX9 rfl (wO_M δ _) 17 (Nat.le_of_ble_eq_true rfl) mW589 rfl rfl ?_
                        refine g_lload C dX9_follows_263 rfl ?_
                        refine g_ldiv C dX9_follows_265 (gnz1 w1) ?_
                        refine g_put C tyX9 dX9_follows_266 iwX9 tyX9_ok nmX9 rfl (wO_M δ _) 17 (Nat.le_of_ble_eq_true rfl) mW589 rfl rfl rfl rfl rfl (Nat.le_of_ble_eq_true rfl) (pG_13 δ _ _) ?_
                        refine g_lload C dX9_follows_269 rfl ?_
                        refine g_lload C dX9_follows_271 rfl ?_
                        refine g_ldiv C dX9_follows_273 (gnz1 w1) ?_
                        refine g_lstore C dX9_follows_274 (Nat.le_of_ble_eq_true rfl) rfl ?_
                        refine g_lv [some _, some _, some _, some _, some _, some _, some _, some _, none, some _, none, some _, some _, none, some _, none, some _, none] (gs_some (gs_some (gs_some (gs_some (gs_some (gs_some (gs_some (gs_some (gs_none (gs_some (gs_none (gs_some (gs_some (gs_none (gs_some (gs_none (gs_some (gs_none gs_nil)))))))))))))))))) ?_
                        refine g_lload C dX9_follows_276 rfl ?_
                        refine g_lload C dX9_follows_278 rfl ?_
                        refine g_ldiv C dX9_follows_280 (gnz1 y1) ?_
                        refine g_lstore C dX9_follows_281 (Nat.le_of_ble_eq_true rfl) rfl ?_
                        refine g_lv [some _, some _, some _, some _, some _, some _, some _, some _, none, some _, none, some _, some _, none, some _, none, some _, none] (gs_some (gs_some (gs_some (gs_some (gs_some (gs_some (gs_some (gs_some (gs_none (gs_some (gs_none (gs_some (gs_some (gs_none (gs_some (gs_none (gs_some (gs_none gs_nil)))))))))))))))))) ?_
                        refine g_aload_n C dX9_follows_283 rfl ?_
                        refine g_dup C dX9_follows_284 rfl ?_
                        refine g_get C dX9_follows_285 iwX9 rfl (wO_M δ _) 18 (Nat.le_of_ble_eq_true rfl) mW590 rfl rfl ?_
                        refine g_lload C dX9_follows_288 rfl ?_
                        refine g_ldiv C dX9_follows_290 (gnz1 y1) ?_
                        refine g_put C tyX9 dX9_follows_291 iwX9 tyX9_ok nmX9 rfl (wO_M δ _) 18 (Nat.le_of_ble_eq_true rfl) mW590 rfl rfl rfl rfl rfl (Nat.le_of_ble_eq_true rfl) (pG_14 δ _ _) ?_
                        refine g_aload_n C dX9_follows_294 rfl ?_
                        refine g_get C dX9_follows_295 iwX9 rfl (wO_M δ _) 17 (Nat.le_of_ble_eq_true rfl) mW589 rfl rfl ?_
                        refine g_ldc2 C dX9_follows_298 mW800 ?_
                        refine g_lload C dX9_follows_301 rfl ?_
                        refine g_ldiv C dX9_follows_303 (gnz1 y2) ?_
                        refine g_lcmp C dX9_follows_304 ?_
                        refine g_if_gt C 322 dX9_follows_305 (by decide) (fun c_305 => ?_) (fun c_305 => ?_)
                        · rw [lg_cmp_gt] at c_305
                          refine g_iconst (v := 0) C dX9_follows_322 (by decide) ?_
                          exact g_iret C E dX9_follows_323 rfl rfl ⟨_, rfl, ⟨(by repeat (first | (with_reducible assumption) | (with_reducible exact gSg_r _) | (with_reducible refine gSg_I (by omega) ?_) | (with_reducible refine gSg_L (by omega) ?_) | (with_reducible refine gSg_N (by omega) ?_) | (with_reducible refine gSg_G (by omega) ?_) | (with_reducible refine gSg_P ?_))), gnz1 y3⟩⟩
                        · rw [lg_cmp_gt] at c_305
                          refine g_aload_n C dX9_follows_308 rfl ?_
                          refine g_get C dX9_follows_309 iwX9 rfl (wO_M δ _) 18 (Nat.le_of_ble_eq_true rfl) mW590 rfl rfl ?_
                          refine g_ldc2 C dX9_follows_312 mW800 ?_
                          refine g_lload C dX9_follows_315 rfl ?_
                          refine g_ldiv C dX9_follows_317 (gnz1 w3) ?_
                          refine g_lcmp C dX9_follows_318 ?_
                          refine g_if_le C 324 dX9_follows_319 (by decide) (fun c_319 => ?_) (fun c_319 => ?_)
                          · rw [lg_cmp_le] at c_319
                            refine g_aload_n C dX9_follows_324 rfl ?_
                            refine g_dup C dX9_follows_325 rfl ?_
                            refine g_get C dX9_follows_326 iwX9 rfl (wO_M δ _) 17 (Nat.le_of_ble_eq_true rfl) mW589 rfl rfl ?_
                            refine g_lload C dX9_follows_329 rfl ?_
                            refine g_lmul C dX9_follows_331 ?_
                            refine g_put C tyX9 dX9_follows_332 iwX9 tyX9_ok nmX9 rfl (wO_M δ _) 17 (Nat.le_of_ble_eq_true rfl) mW589 rfl rfl rfl rfl rfl (Nat.le_of_ble_eq_true rfl) (pG_13 δ _ _) ?_
                            refine g_aload_n C dX9_follows_335 rfl ?_
                            refine g_dup C dX9_follows_336 rfl ?_
                            refine g_get C dX9_follows_337 iwX9 rfl (wO_M δ _) 18 (Nat.le_of_ble_eq_true rfl) mW590 rfl rfl ?_
                            refine g_lload C dX9_follows_340 rfl ?_
                            refine g_lmul C dX9_follows_342 ?_
                            refine g_put C tyX9 dX9_follows_343 iwX9 tyX9_ok nmX9 rfl (wO_M δ _) 18 (Nat.le_of_ble_eq_true rfl) mW590 rfl rfl rfl rfl rfl (Nat.le_of_ble_eq_true rfl) (pG_14 δ _ _) ?_
                            refine g_iinc (v := nI (i + 1)) C dX9_follows_346 rfl (ginc _ 1) rfl ?_
                            refine g_lv [some _, some _, some _, some _, some _, some _, some _, some _, none, some _, none, some _, some _, none, some _, none, some _, none] (gs_some (gs_some (gs_some (gs_some (gs_some (gs_some (gs_some (gs_some (gs_none (gs_some (gs_none (gs_some (gs_some (gs_none (gs_some (gs_none (gs_some (gs_none gs_nil)))))))))))))))))) ?_
                            refine g_goto C 50 dX9_follows_349 (by decide) ?_
                            refine g_lv [some _, some _, some _, some _, some _, some _, none, none, none, none, none, none, none, none, none, none, none, none] (gs_some (gs_some (gs_some (gs_some (gs_some (gs_some (gs_none (gs_none (gs_none (gs_none (gs_none (gs_none (gs_none (gs_none (gs_none (gs_none (gs_none (gs_none gs_nil)))))))))))))))))) ?_
                            exact ih_50 (i + 1) _ (by omega) (by repeat (first | (with_reducible assumption) | (with_reducible exact gSg_r _) | (with_reducible refine gSg_I (by omega) ?_) | (with_reducible refine gSg_L (by omega) ?_) | (with_reducible refine gSg_N (by omega) ?_) | (with_reducible refine gSg_G (by omega) ?_) | (with_reducible refine gSg_P ?_))) (gB2_g hL) (l_mulle w2 y2 (by decide) (Int64.not_lt.mp c_305)).1 (l_mulle y3 w3 (by decide) c_319).1 (by omega)
                          · rw [lg_cmp_le] at c_319
                            refine g_iconst (v := 0) C dX9_follows_322 (by decide) ?_
                            exact g_iret C E dX9_follows_323 rfl rfl ⟨_, rfl, ⟨(by repeat (first | (with_reducible assumption) | (with_reducible exact gSg_r _) | (with_reducible refine gSg_I (by omega) ?_) | (with_reducible refine gSg_L (by omega) ?_) | (with_reducible refine gSg_N (by omega) ?_) | (with_reducible refine gSg_G (by omega) ?_) | (with_reducible refine gSg_P ?_))), gnz1 y3⟩⟩
                      · refine g_aload_n C dX9_follows_201 rfl ?_
                        refine g_lconst (v := 0) C dX9_follows_202 (by decide) ?_
                        refine g_put C tyX9 dX9_follows_203 iwX9 tyX9_ok nmX9 rfl (wO_M δ _) 17 (Nat.le_of_ble_eq_true rfl) mW589 rfl rfl rfl rfl rfl (Nat.le_of_ble_eq_true rfl) (pG_13 δ _ _) ?_
                        refine g_aload_n C dX9_follows_206 rfl ?_
                        refine g_lconst (v := 1) C dX9_follows_207 (by decide) ?_
                        refine g_put C tyX9 dX9_follows_208 iwX9 tyX9_ok nmX9 rfl (wO_M δ _) 18 (Nat.le_of_ble_eq_true rfl) mW590 rfl rfl rfl rfl rfl (Nat.le_of_ble_eq_true rfl) (pG_14 δ _ _) ?_
                        refine g_iconst (v := 1) C dX9_follows_211 (by decide) ?_
                        exact g_iret C E dX9_follows_212 rfl rfl ⟨_, rfl, ⟨(by repeat (first | (with_reducible assumption) | (with_reducible exact gSg_r _) | (with_reducible refine gSg_I (by omega) ?_) | (with_reducible refine gSg_L (by omega) ?_) | (with_reducible refine gSg_N (by omega) ?_) | (with_reducible refine gSg_G (by omega) ?_) | (with_reducible refine gSg_P ?_))), (by decide : ¬ (1 : Int64) = 0)⟩⟩
                    · have k_128 := gnle c_128 (a := 4) (b := d) (by first | rfl | assumption | (simp only [glit, nI_add, pk_mul]; done) | (simp only [glit, nI_add, pk_mul]; congr 1; omega) | (simp only [*, glit, nI_add, pk_mul]; congr 1; omega)) (by first | rfl | assumption | (simp only [glit, nI_add, pk_mul]; done) | (simp only [glit, nI_add, pk_mul]; congr 1; omega) | (simp only [*, glit, nI_add, pk_mul]; congr 1; omega)) (by omega) (by omega)
                      refine g_aload_n C dX9_follows_131 rfl ?_
                      refine g_get C dX9_follows_132 iwX9 rfl (wO_M δ _) 16 (Nat.le_of_ble_eq_true rfl) mW588 rfl rfl ?_
                      refine g_iload C dX9_follows_135 rfl ?_
                      refine g_dup2 C dX9_follows_137 rfl rfl ?_
                      refine g_ialdN C dX9_follows_138 (k := d) (q := 57) (by decide) rfl (by first | rfl | assumption | (simp only [glit, nI_add, pk_mul]; done) | (simp only [glit, nI_add, pk_mul]; congr 1; omega) | (simp only [*, glit, nI_add, pk_mul]; congr 1; omega)) (show d < gLenI 57 from Nat.lt_of_lt_of_eq (show d < 4 by omega) rfl) ?_
                      refine g_aload_n C dX9_follows_139 rfl ?_
                      refine g_get C dX9_follows_140 iwX9 rfl (wO_M δ _) 6 (Nat.le_of_ble_eq_true rfl) mW578 rfl rfl ?_
                      refine g_bipush (v := 25) C dX9_follows_143 (by decide) ?_
                      refine g_iload_n C dX9_follows_145 rfl ?_
                      refine g_imul C dX9_follows_146 ?_
                      refine g_iconst (v := 4) C dX9_follows_147 (by decide) ?_
                      refine g_iadd C dX9_follows_148 ?_
                      refine g_iconst (v := 4) C dX9_follows_149 (by decide) ?_
                      refine g_iload C dX9_follows_150 rfl ?_
                      refine g_imul C dX9_follows_152 ?_
                      refine g_iadd C dX9_follows_153 ?_
                      refine g_iload C dX9_follows_154 rfl ?_
                      refine g_iadd C dX9_follows_156 ?_
                      refine g_ialdN C dX9_follows_157 (k := (25 * u + 4 + ((w / 4 ^ i % 4) * 4 + d))) (q := 53) (by decide) rfl (by first | rfl | assumption | (simp only [glit, nI_add, pk_mul]; done) | (simp only [glit, nI_add, pk_mul]; congr 1; omega) | (simp only [*, glit, nI_add, pk_mul]; congr 1; omega)) (show (25 * u + 4 + ((w / 4 ^ i % 4) * 4 + d)) < gLenI 53 from Nat.lt_of_lt_of_eq (show (25 * u + 4 + ((w / 4 ^ i % 4) * 4 + d)) < 202 by omega) rfl) ?_
                      refine g_iadd C dX9_follows_158 ?_
                      refine g_iastN C dX9_follows_159 (k := d) (q := 57) (by decide) rfl (by first | rfl | assumption | (simp only [glit, nI_add, pk_mul]; done) | (simp only [glit, nI_add, pk_mul]; congr 1; omega) | (simp only [*, glit, nI_add, pk_mul]; congr 1; omega)) (show d < gLenI 57 from Nat.lt_of_lt_of_eq (show d < 4 by omega) rfl) ?_
                      rw [uI_uI, gI_uI, if_pos rfl, gI_uI, if_neg (by decide), show gI s1 53 (25 * u + 4 + ((w / 4 ^ i % 4) * 4 + d)) = mT σ u ((w / 4 ^ i % 4) * 4 + d) from congrFun (mT_sg hs u) _, gGw_s]
                      refine g_iload C dX9_follows_160 rfl ?_
                      refine g_if_eq C 187 dX9_follows_162 (by decide) (fun c_162 => ?_) (fun c_162 => ?_)
                      · refine g_iconst (v := 0) C dX9_follows_187 (by decide) ?_
                        refine g_istore C dX9_follows_188 (Nat.le_of_ble_eq_true rfl) rfl ?_
                        refine g_lv [some _, some _, some _, some _, some _, some _, some _, some _, none, some _, none, some _, some _, none, none, none, none, none] (gs_some (gs_some (gs_some (gs_some (gs_some (gs_some (gs_some (gs_some (gs_none (gs_some (gs_none (gs_some (gs_some (gs_none (gs_none (gs_none (gs_none (gs_none gs_nil)))))))))))))))))) ?_
                        refine g_iinc (v := nI (d + 1)) C dX9_follows_190 rfl (ginc _ 1) rfl ?_
                        refine g_lv [some _, some _, some _, some _, some _, some _, some _, some _, none, some _, none, some _, some _, none, none, none, none, none] (gs_some (gs_some (gs_some (gs_some (gs_some (gs_some (gs_some (gs_some (gs_none (gs_some (gs_none (gs_some (gs_some (gs_none (gs_none (gs_none (gs_none (gs_none gs_nil)))))))))))))))))) ?_
                        refine g_goto C 125 dX9_follows_193 (by decide) ?_
                        refine g_lv [some _, some _, some _, some _, some _, some _, some _, some _, none, some _, none, some _, some _, none, none, none, none, none] (gs_some (gs_some (gs_some (gs_some (gs_some (gs_some (gs_some (gs_some (gs_none (gs_some (gs_none (gs_some (gs_some (gs_none (gs_none (gs_none (gs_none (gs_none gs_nil)))))))))))))))))) ?_
                        exact ih_125 (d + 1) _ (by omega) (by first | exact gAcc_0 ha c_162 (fun z => (gLet_s.mp z).1) | exact gAcc_f (fun z => h_177 (gLet_s.mp z).2) | exact gAcc_1 ha c_162 (fun z => gLet_s.mpr ⟨z, h_177⟩)) (by omega)
                      · refine g_aload_n C dX9_follows_165 rfl ?_
                        refine g_get C dX9_follows_166 iwX9 rfl (wO_M δ _) 16 (Nat.le_of_ble_eq_true rfl) mW588 rfl rfl ?_
                        refine g_iload C dX9_follows_169 rfl ?_
                        refine g_ialdN C dX9_follows_171 (k := d) (q := 57) (by decide) rfl (by first | rfl | assumption | (simp only [glit, nI_add, pk_mul]; done) | (simp only [glit, nI_add, pk_mul]; congr 1; omega) | (simp only [*, glit, nI_add, pk_mul]; congr 1; omega)) (show d < gLenI 57 from Nat.lt_of_lt_of_eq (show d < 4 by omega) rfl) ?_
                        rw [gI_uI, if_pos rfl, gGw_at]
                        refine g_i2l C dX9_follows_172 ?_
                        refine g_lconst (v := 0) C dX9_follows_173 (by decide) ?_
                        refine g_ldc2 C dX9_follows_174 mW696 ?_
                        refine g_callSi C sS_X9_62 dX9_follows_177 (c_X9_in _ δ _ _ _ _) ⟨by decide, by decide⟩ rfl rfl rfl (Nat.le_of_ble_eq_true rfl) (fun r_177 s_177 h_177 => ?_)
                        obtain ⟨rfl, h_177⟩ := h_177
                        rw [gin200] at h_177
                        rcases h_177 with ⟨rfl, h_177⟩ | ⟨rfl, h_177⟩
                        · skip
                          refine g_if_eq C 187 dX9_follows_180 (by decide) (fun c_180 => ?_) (fun c_180 => ?_)
                          · exact absurd c_180 (by decide)
                          · refine g_iconst (v := 1) C dX9_follows_183 (by decide) ?_
                            refine g_goto C 188 dX9_follows_184 (by decide) ?_
                            refine g_istore C dX9_follows_188 (Nat.le_of_ble_eq_true rfl) rfl ?_
                            refine g_lv [some _, some _, some _, some _, some _, some _, some _, some _, none, some _, none, some _, some _, none, none, none, none, none] (gs_some (gs_some (gs_some (gs_some (gs_some (gs_some (gs_some (gs_some (gs_none (gs_some (gs_none (gs_some (gs_some (gs_none (gs_none (gs_none (gs_none (gs_none gs_nil)))))))))))))))))) ?_
                            refine g_iinc (v := nI (d + 1)) C dX9_follows_190 rfl (ginc _ 1) rfl ?_
                            refine g_lv [some _, some _, some _, some _, some _, some _, some _, some _, none, some _, none, some _, some _, none, none, none, none, none] (gs_some (gs_some (gs_some (gs_some (gs_some (gs_some (gs_some (gs_some (gs_none (gs_some (gs_none (gs_some (gs_some (gs_none (gs_none (gs_none (gs_none (gs_none gs_nil)))))))))))))))))) ?_
                            refine g_goto C 125 dX9_follows_193 (by decide) ?_
                            refine g_lv [some _, some _, some _, some _, some _, some _, some _, some _, none, some _, none, some _, some _, none, none, none, none, none] (gs_some (gs_some (gs_some (gs_some (gs_some (gs_some (gs_some (gs_some (gs_none (gs_some (gs_none (gs_some (gs_some (gs_none (gs_none (gs_none (gs_none (gs_none gs_nil)))))))))))))))))) ?_
                            exact ih_125 (d + 1) _ (by omega) (by first | exact gAcc_0 ha c_162 (fun z => (gLet_s.mp z).1) | exact gAcc_f (fun z => h_177 (gLet_s.mp z).2) | exact gAcc_1 ha c_162 (fun z => gLet_s.mpr ⟨z, h_177⟩)) (by omega)
                        · skip
                          refine g_if_eq C 187 dX9_follows_180 (by decide) (fun c_180 => ?_) (fun c_180 => ?_)
                          · refine g_iconst (v := 0) C dX9_follows_187 (by decide) ?_
                            refine g_istore C dX9_follows_188 (Nat.le_of_ble_eq_true rfl) rfl ?_
                            refine g_lv [some _, some _, some _, some _, some _, some _, some _, some _, none, some _, none, some _, some _, none, none, none, none, none] (gs_some (gs_some (gs_some (gs_some (gs_some (gs_some (gs_some (gs_some (gs_none (gs_some (gs_none (gs_some (gs_some (gs_none (gs_none (gs_none (gs_none (gs_none gs_nil)))))))))))))))))) ?_
                            refine g_iinc (v := nI (d + 1)) C dX9_follows_190 rfl (ginc _ 1) rfl ?_
                            refine g_lv [some _, some _, some _, some _, some _, some _, some _, some _, none, some _, none, some _, some _, none, none, none, none, none] (gs_some (gs_some (gs_some (gs_some (gs_some (gs_some (gs_some (gs_some (gs_none (gs_some (gs_none (gs_some (gs_some (gs_none (gs_none (gs_none (gs_none (gs_none gs_nil)))))))))))))))))) ?_
                            refine g_goto C 125 dX9_follows_193 (by decide) ?_
                            refine g_lv [some _, some _, some _, some _, some _, some _, some _, some _, none, some _, none, some _, some _, none, none, none, none, none] (gs_some (gs_some (gs_some (gs_some (gs_some (gs_some (gs_some (gs_some (gs_none (gs_some (gs_none (gs_some (gs_some (gs_none (gs_none (gs_none (gs_none (gs_none gs_nil)))))))))))))))))) ?_
                            exact ih_125 (d + 1) _ (by omega) (by first | exact gAcc_0 ha c_162 (fun z => (gLet_s.mp z).1) | exact gAcc_f (fun z => h_177 (gLet_s.mp z).2) | exact gAcc_1 ha c_162 (fun z => gLet_s.mpr ⟨z, h_177⟩)) (by omega)
                          · exact absurd c_180 (by decide)
                refine g_lv [some _, some _, some _, some _, some _, some _, some _, some _, none, some _, none, some _, some _, none, none, none, none, none] (gs_some (gs_some (gs_some (gs_some (gs_some (gs_some (gs_some (gs_some (gs_none (gs_some (gs_none (gs_some (gs_some (gs_none (gs_none (gs_none (gs_none (gs_none gs_nil)))))))))))))))))) ?_
                refine g_st (σ' := uI s1 57 (gGw (gI s1 57) (mT σ u) (w / 4 ^ i % 4) 0)) (by rw [gGw_0]; exact (uI_id s1 57).symm) ?_
                exact L_125 _ 0 _ (by omega) (gAcc_i ha gLet_0.symm) (Nat.lt_succ_self _)
              refine g_lload C dX9_follows_108 rfl ?_
              refine g_lconst (v := 0) C dX9_follows_110 (by decide) ?_
              refine g_lcmp C dX9_follows_111 ?_
              refine g_if_le C 119 dX9_follows_112 (by decide) (fun c_112 => ?_) (fun c_112 => ?_)
              · rw [lg_cmp_le] at c_112
                refine g_iconst (v := 0) C dX9_follows_119 (by decide) ?_
                refine g_lv [some _, some _, some _, some _, some _, some _, some _, some _, none, some _, none, none, none, none, none, none, none, none] (gs_some (gs_some (gs_some (gs_some (gs_some (gs_some (gs_some (gs_some (gs_none (gs_some (gs_none (gs_none (gs_none (gs_none (gs_none (gs_none (gs_none (gs_none gs_nil)))))))))))))))))) ?_
                exact J_120 _ (by first | exact gAcc_t (gpos64 c_112) | exact gAcc_f (gneg64 c_112))
              · rw [lg_cmp_le] at c_112
                refine g_iconst (v := 1) C dX9_follows_115 (by decide) ?_
                refine g_goto C 120 dX9_follows_116 (by decide) ?_
                refine g_lv [some _, some _, some _, some _, some _, some _, some _, some _, none, some _, none, none, none, none, none, none, none, none] (gs_some (gs_some (gs_some (gs_some (gs_some (gs_some (gs_some (gs_some (gs_none (gs_some (gs_none (gs_none (gs_none (gs_none (gs_none (gs_none (gs_none (gs_none gs_nil)))))))))))))))))) ?_
                exact J_120 _ (by first | exact gAcc_t (gpos64 c_112) | exact gAcc_f (gneg64 c_112))
        refine g_lv [some _, some _, some _, some _, some _, some _, none, none, none, none, none, none, none, none, none, none, none, none] (gs_some (gs_some (gs_some (gs_some (gs_some (gs_some (gs_none (gs_none (gs_none (gs_none (gs_none (gs_none (gs_none (gs_none (gs_none (gs_none (gs_none (gs_none gs_nil)))))))))))))))))) ?_
        have e0 : nI w = nI (w / 4 ^ 0) := by rw [Nat.pow_zero, Nat.div_one]
        refine g_lv [some (.ref (δ.2.2.1 1)), some (.int (nI u)), some (.int (nI k)), some (.int (nI w)), some (.int (nI (w / 4 ^ 0))), some (.int (nI 0)), none, none, none, none, none, none, none, none, none, none, none, none] (by rw [← e0]; exact gs_some (gs_some (gs_some (gs_some (gs_some (gs_some (gs_none (gs_none (gs_none (gs_none (gs_none (gs_none (gs_none (gs_none (gs_none (gs_none (gs_none (gs_none gs_nil)))))))))))))))))) ?_
        exact L_50 _ 0 _ (by omega) (by repeat (first | (with_reducible assumption) | (with_reducible exact gSg_r _) | (with_reducible refine gSg_I (by omega) ?_) | (with_reducible refine gSg_L (by omega) ?_) | (with_reducible refine gSg_N (by omega) ?_) | (with_reducible refine gSg_G (by omega) ?_) | (with_reducible refine gSg_P ?_))) hb0 (Int64.le_refl 1) (Int64.le_refl 1) (Nat.lt_succ_self _)
      · have k_16 := gnle c_16 (a := 4) (b := d) (by first | rfl | assumption | (simp only [glit, nI_add, pk_mul]; done) | (simp only [glit, nI_add, pk_mul]; congr 1; omega) | (simp only [*, glit, nI_add, pk_mul]; congr 1; omega)) (by first | rfl | assumption | (simp only [glit, nI_add, pk_mul]; done) | (simp only [glit, nI_add, pk_mul]; congr 1; omega) | (simp only [*, glit, nI_add, pk_mul]; congr 1; omega)) (by omega) (by omega)
        refine g_aload_n C dX9_follows_19 rfl ?_
        refine g_get C dX9_follows_20 iwX9 rfl (wO_M δ _) 16 (Nat.le_of_ble_eq_true rfl) mW588 rfl rfl ?_
        refine g_iload C dX9_follows_23 rfl ?_
        refine g_aload_n C dX9_follows_25 rfl ?_
        refine g_get C dX9_follows_26 iwX9 rfl (wO_M δ _) 6 (Nat.le_of_ble_eq_true rfl) mW578 rfl rfl ?_
        refine g_bipush (v := 25) C dX9_follows_29 (by decide) ?_
        refine g_iload_n C dX9_follows_31 rfl ?_
        refine g_imul C dX9_follows_32 ?_
        refine g_iload C dX9_follows_33 rfl ?_
        refine g_iadd C dX9_follows_35 ?_
        refine g_ialdN C dX9_follows_36 (k := ((25 * u) + d)) (q := 53) (by decide) rfl (by first | rfl | assumption | (simp only [glit, nI_add, pk_mul]; done) | (simp only [glit, nI_add, pk_mul]; congr 1; omega) | (simp only [*, glit, nI_add, pk_mul]; congr 1; omega)) (show ((25 * u) + d) < gLenI 53 from Nat.lt_of_lt_of_eq (show ((25 * u) + d) < 202 by omega) rfl) ?_
        refine g_iastN C dX9_follows_37 (k := d) (q := 57) (by decide) rfl (by first | rfl | assumption | (simp only [glit, nI_add, pk_mul]; done) | (simp only [glit, nI_add, pk_mul]; congr 1; omega) | (simp only [*, glit, nI_add, pk_mul]; congr 1; omega)) (show d < gLenI 57 from Nat.lt_of_lt_of_eq (show d < 4 by omega) rfl) ?_
        refine g_iinc (v := nI (d + 1)) C dX9_follows_38 rfl (ginc _ 1) rfl ?_
        refine g_lv [some _, some _, some _, some _, some _, none, none, none, none, none, none, none, none, none, none, none, none, none] (gs_some (gs_some (gs_some (gs_some (gs_some (gs_none (gs_none (gs_none (gs_none (gs_none (gs_none (gs_none (gs_none (gs_none (gs_none (gs_none (gs_none (gs_none gs_nil)))))))))))))))))) ?_
        refine g_goto C 13 dX9_follows_41 (by decide) ?_
        refine g_lv [some _, some _, some _, some _, some _, none, none, none, none, none, none, none, none, none, none, none, none, none] (gs_some (gs_some (gs_some (gs_some (gs_some (gs_none (gs_none (gs_none (gs_none (gs_none (gs_none (gs_none (gs_none (gs_none (gs_none (gs_none (gs_none (gs_none gs_nil)))))))))))))))))) ?_
        rw [uI_uI, gI_uI, if_pos rfl]
        exact ih_13 (d + 1) _ (by omega) (fun j h => gfilI hf rfl h) (by omega)
  refine g_lv [some _, some _, some _, some _, some _, none, none, none, none, none, none, none, none, none, none, none, none, none] (gs_some (gs_some (gs_some (gs_some (gs_some (gs_none (gs_none (gs_none (gs_none (gs_none (gs_none (gs_none (gs_none (gs_none (gs_none (gs_none (gs_none (gs_none gs_nil)))))))))))))))))) ?_
  refine g_st (uI_id _ 57).symm ?_
  exact L_13 _ 0 _ (by omega) (fun _ h => absurd h (Nat.not_lt_zero _)) (Nat.lt_succ_self _)
set_option maxRecDepth 100000 in
set_option maxHeartbeats 4000000 in
theorem c_X9_freef (l : Launch) (δ : GD) (σ : GS) (a0 a1 : Int32) {m : Nat} (hm : gN σ 33 = nI m) (h8 : m ≤ 8) (hC : ∀ u, u < m → ∃ n : Nat, 2 ≤ n ∧ n ≤ 4 ∧ gI σ 52 u = nI n) (hV : ∀ u, u < 8 → gB2 (mB σ u) ∧ gNT9 (mT σ u)) : gM l δ yX9_free cX9_free 9 (some .int) 2 66 [.ref (δ.2.2.1 1), .int a0, .int a1] σ (gPi (fun _ σ' => gSg σ σ')) := by
  refine g_of (lv0 := [some (.ref (δ.2.2.1 1)), some (.int a0), some (.int a1), none, none, none, none, none, none]) (by decide) rfl (Nat.le_of_ble_eq_true rfl) (fun Γ hl C E => ?_)
  subst hl
  have C : gC Γ δ cX9_free RX9 9 2 66 := C
  refine g_aload_n C dX9_free_0 rfl ?_
  refine g_iload_n C dX9_free_1 rfl ?_
  refine g_callVi C sV_X9_89 dX9_free_2 (c_X9_isUrn _ δ _ _ hm h8) ⟨by decide, by decide⟩ (wO_M δ _) rfl rfl rfl rfl (Nat.le_of_ble_eq_true rfl) (fun r_2 s_2 h_2 => ?_)
  obtain ⟨rfl, h_2⟩ := h_2
  rcases h_2 with ⟨rfl, h_2⟩ | ⟨rfl, h_2⟩
  · obtain ⟨u1, hu1, rfl⟩ := id h_2
    obtain ⟨n, h2, h4, hn⟩ := hC u1 hu1
    have hu8 : u1 < 8 := by omega
    refine g_if_eq C 20 dX9_free_5 (by decide) (fun c_5 => ?_) (fun c_5 => ?_)
    · exact absurd c_5 (by decide)
    · refine g_iload_n C dX9_free_8 rfl ?_
      refine g_i2l C dX9_free_9 ?_
      refine g_lconst (v := 1) C dX9_free_10 (by decide) ?_
      refine g_ldc2 C dX9_free_11 mW658 ?_
      refine g_callSi C sS_X9_62 dX9_free_14 (c_X9_in _ δ _ _ _ _) ⟨by decide, by decide⟩ rfl rfl rfl (Nat.le_of_ble_eq_true rfl) (fun r_14 s_14 h_14 => ?_)
      obtain ⟨rfl, h_14⟩ := h_14
      rcases h_14 with ⟨rfl, h_14⟩ | ⟨rfl, h_14⟩
      · obtain ⟨k1, hk0, hk1, rfl⟩ := gin13 (m := 5) (by decide) (by decide) (by decide) h_14
        have h45 := gp45 hk1
        refine g_if_ne C 22 dX9_free_17 (by decide) (fun c_17 => ?_) (fun c_17 => ?_)
        · refine g_aload_n C dX9_free_22 rfl ?_
          refine g_iload_n C dX9_free_23 rfl ?_
          refine g_callVi C sV_X9_113 dX9_free_24 (c_X9_balls _ δ _ hu8) ⟨by decide, by decide⟩ (wO_M δ _) rfl rfl rfl rfl (Nat.le_of_ble_eq_true rfl) (fun r_24 s_24 h_24 => ?_)
          obtain ⟨rfl, h_24⟩ := h_24
          refine g_if_ne C 33 dX9_free_27 (by decide) (fun c_27 => ?_) (fun c_27 => ?_)
          · refine g_iconst (v := 0) C dX9_free_33 (by decide) ?_
            refine g_istore_n C dX9_free_34 (Nat.le_of_ble_eq_true rfl) rfl ?_
            refine g_lv [some _, some _, some _, some _, none, none, none, none, none] (gs_some (gs_some (gs_some (gs_some (gs_none (gs_none (gs_none (gs_none (gs_none gs_nil))))))))) ?_
            have L_35 : ∀ (nn : Nat) (q : Nat) (s0 : GS) (hq : q ≤ 216) (hs0 : gSg σ s0), 216 - q < nn → gW Γ δ s0 35 [some (.ref (δ.2.2.1 1)), some (.int (nI u1)), some (.int (nI k1)), some (.int (nI q)), none, none, none, none, none] [] := by
              intro nn
              induction nn with
              | zero =>
                intro q s0 hq hs0 hm_35
                exact absurd hm_35 (Nat.not_lt_zero _)
              | succ nn ih_35 =>
                intro q s0 hq hs0 hm_35
                refine g_iload_n C dX9_free_35 rfl ?_
                refine g_sipush (v := 216) C dX9_free_36 (by decide) ?_
                refine g_icmp_ge C 55 dX9_free_39 (by decide) (fun c_39 => ?_) (fun c_39 => ?_)
                · have k_39 := gle c_39 (a := 216) (b := q) (by first | rfl | assumption | (simp only [glit, nI_add, pk_mul]; done) | (simp only [glit, nI_add, pk_mul]; congr 1; omega) | (simp only [*, glit, nI_add, pk_mul]; congr 1; omega)) (by first | rfl | assumption | (simp only [glit, nI_add, pk_mul]; done) | (simp only [glit, nI_add, pk_mul]; congr 1; omega) | (simp only [*, glit, nI_add, pk_mul]; congr 1; omega)) (by omega) (by omega)
                  refine g_iconst (v := 1) C dX9_free_55 (by decide) ?_
                  refine g_istore_n C dX9_free_56 (Nat.le_of_ble_eq_true rfl) rfl ?_
                  refine g_lv [some _, some _, some _, some _, none, none, none, none, none] (gs_some (gs_some (gs_some (gs_some (gs_none (gs_none (gs_none (gs_none (gs_none gs_nil))))))))) ?_
                  refine g_iconst (v := 0) C dX9_free_57 (by decide) ?_
                  refine g_istore C dX9_free_58 (Nat.le_of_ble_eq_true rfl) rfl ?_
                  refine g_lv [some _, some _, some _, some _, some _, none, none, none, none] (gs_some (gs_some (gs_some (gs_some (gs_some (gs_none (gs_none (gs_none (gs_none gs_nil))))))))) ?_
                  have L_60 : ∀ (nn : Nat) (j : Nat) (x : Int32) (s1 : GS) (hj : j ≤ 4 ^ k1) (hs : gSg σ s1), 4 ^ k1 - j < nn → gW Γ δ s1 60 [some (.ref (δ.2.2.1 1)), some (.int (nI u1)), some (.int (nI k1)), some (.int x), some (.int (nI j)), none, none, none, none] [] := by
                    intro nn
                    induction nn with
                    | zero =>
                      intro j x s1 hj hs hm_60
                      exact absurd hm_60 (Nat.not_lt_zero _)
                    | succ nn ih_60 =>
                      intro j x s1 hj hs hm_60
                      refine g_iload C dX9_free_60 rfl ?_
                      refine g_iconst (v := 1) C dX9_free_62 (by decide) ?_
                      refine g_iconst (v := 2) C dX9_free_63 (by decide) ?_
                      refine g_iload_n C dX9_free_64 rfl ?_
                      refine g_imul C dX9_free_65 ?_
                      refine g_ishl C dX9_free_66 ?_
                      rw [gshl5 (by omega)]
                      refine g_icmp_ge C 257 dX9_free_67 (by decide) (fun c_67 => ?_) (fun c_67 => ?_)
                      · refine g_iload_n C dX9_free_257 rfl ?_
                        refine g_if_eq C 265 dX9_free_258 (by decide) (fun c_258 => ?_) (fun c_258 => ?_)
                        · refine g_iconst (v := 0) C dX9_free_265 (by decide) ?_
                          exact g_iret C E dX9_free_266 rfl rfl ⟨_, rfl, (by repeat (first | (with_reducible assumption) | (with_reducible exact gSg_r _) | (with_reducible refine gSg_I (by omega) ?_) | (with_reducible refine gSg_L (by omega) ?_) | (with_reducible refine gSg_N (by omega) ?_) | (with_reducible refine gSg_G (by omega) ?_) | (with_reducible refine gSg_P ?_)))⟩
                        · refine g_iconst (v := 1) C dX9_free_261 (by decide) ?_
                          refine g_goto C 266 dX9_free_262 (by decide) ?_
                          exact g_iret C E dX9_free_266 rfl rfl ⟨_, rfl, (by repeat (first | (with_reducible assumption) | (with_reducible exact gSg_r _) | (with_reducible refine gSg_I (by omega) ?_) | (with_reducible refine gSg_L (by omega) ?_) | (with_reducible refine gSg_N (by omega) ?_) | (with_reducible refine gSg_G (by omega) ?_) | (with_reducible refine gSg_P ?_)))⟩
                      · have k_67 := gnle c_67 (a := 4 ^ k1) (b := j) rfl rfl (by omega) (by omega)
                        refine g_iconst (v := 1) C dX9_free_70 (by decide) ?_
                        refine g_istore C dX9_free_71 (Nat.le_of_ble_eq_true rfl) rfl ?_
                        refine g_lv [some _, some _, some _, some _, some _, some _, none, none, none] (gs_some (gs_some (gs_some (gs_some (gs_some (gs_some (gs_none (gs_none (gs_none gs_nil))))))))) ?_
                        refine g_iconst (v := 0) C dX9_free_73 (by decide) ?_
                        refine g_istore C dX9_free_74 (Nat.le_of_ble_eq_true rfl) rfl ?_
                        refine g_lv [some _, some _, some _, some _, some _, some _, some _, none, none] (gs_some (gs_some (gs_some (gs_some (gs_some (gs_some (gs_some (gs_none (gs_none gs_nil))))))))) ?_
                        refine g_iconst (v := 0) C dX9_free_76 (by decide) ?_
                        refine g_istore C dX9_free_77 (Nat.le_of_ble_eq_true rfl) rfl ?_
                        refine g_lv [some _, some _, some _, some _, some _, some _, some _, some _, none] (gs_some (gs_some (gs_some (gs_some (gs_some (gs_some (gs_some (gs_some (gs_none gs_nil))))))))) ?_
                        have L_79 : ∀ (nn : Nat) (i p : Nat) (b : Int32) (hi : i ≤ k1) (hp : p ≤ 36 * i), k1 - i < nn → gW Γ δ s1 79 [some (.ref (δ.2.2.1 1)), some (.int (nI u1)), some (.int (nI k1)), some (.int x), some (.int (nI j)), some (.int b), some (.int (nI p)), some (.int (nI i)), none] [] := by
                          intro nn
                          induction nn with
                          | zero =>
                            intro i p b hi hp hm_79
                            exact absurd hm_79 (Nat.not_lt_zero _)
                          | succ nn ih_79 =>
                            intro i p b hi hp hm_79
                            refine g_iload C dX9_free_79 rfl ?_
                            refine g_iload_n C dX9_free_81 rfl ?_
                            refine g_icmp_ge C 162 dX9_free_82 (by decide) (fun c_82 => ?_) (fun c_82 => ?_)
                            · have k_82 := gle c_82 (a := k1) (b := i) (by first | rfl | assumption | (simp only [glit, nI_add, pk_mul]; done) | (simp only [glit, nI_add, pk_mul]; congr 1; omega) | (simp only [*, glit, nI_add, pk_mul]; congr 1; omega)) (by first | rfl | assumption | (simp only [glit, nI_add, pk_mul]; done) | (simp only [glit, nI_add, pk_mul]; congr 1; omega) | (simp only [*, glit, nI_add, pk_mul]; congr 1; omega)) (by omega) (by omega)
                              refine g_iload C dX9_free_162 rfl ?_
                              refine g_if_eq C 251 dX9_free_164 (by decide) (fun c_164 => ?_) (fun c_164 => ?_)
                              · refine g_iinc (v := nI (j + 1)) C dX9_free_251 rfl (ginc _ 1) rfl ?_
                                refine g_lv [some _, some _, some _, some _, some _, some _, some _, some _, none] (gs_some (gs_some (gs_some (gs_some (gs_some (gs_some (gs_some (gs_some (gs_none gs_nil))))))))) ?_
                                refine g_goto C 60 dX9_free_254 (by decide) ?_
                                refine g_lv [some _, some _, some _, some _, some _, none, none, none, none] (gs_some (gs_some (gs_some (gs_some (gs_some (gs_none (gs_none (gs_none (gs_none gs_nil))))))))) ?_
                                exact ih_60 (j + 1) _ _ (by omega) (by repeat (first | (with_reducible assumption) | (with_reducible exact gSg_r _) | (with_reducible refine gSg_I (by omega) ?_) | (with_reducible refine gSg_L (by omega) ?_) | (with_reducible refine gSg_N (by omega) ?_) | (with_reducible refine gSg_G (by omega) ?_) | (with_reducible refine gSg_P ?_))) (by omega)
                              · refine g_aload_n C dX9_free_167 rfl ?_
                                refine g_iload_n C dX9_free_168 rfl ?_
                                refine g_iload_n C dX9_free_169 rfl ?_
                                refine g_iload C dX9_free_170 rfl ?_
                                refine g_callVi C sV_X9_170 dX9_free_172 (c_X9_followsf _ δ _ hu8 (by rw [mB_sg hs]; exact (hV u1 hu8).1) (k := k1) (w := j) (by omega) (by omega)) ⟨by decide, by decide⟩ (wO_M δ _) rfl rfl rfl rfl (Nat.le_of_ble_eq_true rfl) (fun r_172 s_172 h_172 => ?_)
                                have z_172 : gSg σ s_172 := gSg_t hs h_172.1
                                refine g_istore C dX9_free_175 (Nat.le_of_ble_eq_true rfl) rfl ?_
                                refine g_lv [some _, some _, some _, some _, some _, some _, some _, some _, none] (gs_some (gs_some (gs_some (gs_some (gs_some (gs_some (gs_some (gs_some (gs_none gs_nil))))))))) ?_
                                refine g_aload_n C dX9_free_177 rfl ?_
                                refine g_get C dX9_free_178 iwX9 rfl (wO_M δ _) 25 (Nat.le_of_ble_eq_true rfl) mW597 rfl rfl ?_
                                refine g_iload C dX9_free_181 rfl ?_
                                refine g_laldN C dX9_free_183 (k := p) (q := 16) (by decide) rfl (by first | rfl | assumption | (simp only [glit, nI_add, pk_mul]; done) | (simp only [glit, nI_add, pk_mul]; congr 1; omega) | (simp only [*, glit, nI_add, pk_mul]; congr 1; omega)) (show p < gLenL 16 from Nat.lt_of_lt_of_eq (show p < 216 by omega) rfl) ?_
                                refine g_lconst (v := 0) C dX9_free_184 (by decide) ?_
                                refine g_lcmp C dX9_free_185 ?_
                                refine g_if_ne C 211 dX9_free_186 (by decide) (fun c_186 => ?_) (fun c_186 => ?_)
                                · rw [lg_cmp_eq] at c_186
                                  refine g_iload_n C dX9_free_211 rfl ?_
                                  refine g_if_eq C 249 dX9_free_212 (by decide) (fun c_212 => ?_) (fun c_212 => ?_)
                                  · refine g_iconst (v := 0) C dX9_free_249 (by decide) ?_
                                    refine g_istore_n C dX9_free_250 (Nat.le_of_ble_eq_true rfl) rfl ?_
                                    refine g_lv [some _, some _, some _, some _, some _, some _, some _, some _, none] (gs_some (gs_some (gs_some (gs_some (gs_some (gs_some (gs_some (gs_some (gs_none gs_nil))))))))) ?_
                                    refine g_iinc (v := nI (j + 1)) C dX9_free_251 rfl (ginc _ 1) rfl ?_
                                    refine g_lv [some _, some _, some _, some _, some _, some _, some _, some _, none] (gs_some (gs_some (gs_some (gs_some (gs_some (gs_some (gs_some (gs_some (gs_none gs_nil))))))))) ?_
                                    refine g_goto C 60 dX9_free_254 (by decide) ?_
                                    refine g_lv [some _, some _, some _, some _, some _, none, none, none, none] (gs_some (gs_some (gs_some (gs_some (gs_some (gs_none (gs_none (gs_none (gs_none gs_nil))))))))) ?_
                                    exact ih_60 (j + 1) _ _ (by omega) (by repeat (first | (with_reducible assumption) | (with_reducible exact gSg_r _) | (with_reducible refine gSg_I (by omega) ?_) | (with_reducible refine gSg_L (by omega) ?_) | (with_reducible refine gSg_N (by omega) ?_) | (with_reducible refine gSg_G (by omega) ?_) | (with_reducible refine gSg_P ?_))) (by omega)
                                  · refine g_aload_n C dX9_free_215 rfl ?_
                                    refine g_get C dX9_free_216 iwX9 rfl (wO_M δ _) 24 (Nat.le_of_ble_eq_true rfl) mW596 rfl rfl ?_
                                    refine g_iload C dX9_free_219 rfl ?_
                                    refine g_laldN C dX9_free_221 (k := p) (q := 15) (by decide) rfl (by first | rfl | assumption | (simp only [glit, nI_add, pk_mul]; done) | (simp only [glit, nI_add, pk_mul]; congr 1; omega) | (simp only [*, glit, nI_add, pk_mul]; congr 1; omega)) (show p < gLenL 15 from Nat.lt_of_lt_of_eq (show p < 216 by omega) rfl) ?_
                                    refine g_aload_n C dX9_free_222 rfl ?_
                                    refine g_get C dX9_free_223 iwX9 rfl (wO_M δ _) 17 (Nat.le_of_ble_eq_true rfl) mW589 rfl rfl ?_
                                    refine g_lcmp C dX9_free_226 ?_
                                    refine g_if_ne C 249 dX9_free_227 (by decide) (fun c_227 => ?_) (fun c_227 => ?_)
                                    · rw [lg_cmp_eq] at c_227
                                      refine g_iconst (v := 0) C dX9_free_249 (by decide) ?_
                                      refine g_istore_n C dX9_free_250 (Nat.le_of_ble_eq_true rfl) rfl ?_
                                      refine g_lv [some _, some _, some _, some _, some _, some _, some _, some _, none] (gs_some (gs_some (gs_some (gs_some (gs_some (gs_some (gs_some (gs_some (gs_none gs_nil))))))))) ?_
                                      refine g_iinc (v := nI (j + 1)) C dX9_free_251 rfl (ginc _ 1) rfl ?_
                                      refine g_lv [some _, some _, some _, some _, some _, some _, some _, some _, none] (gs_some (gs_some (gs_some (gs_some (gs_some (gs_some (gs_some (gs_some (gs_none gs_nil))))))))) ?_
                                      refine g_goto C 60 dX9_free_254 (by decide) ?_
                                      refine g_lv [some _, some _, some _, some _, some _, none, none, none, none] (gs_some (gs_some (gs_some (gs_some (gs_some (gs_none (gs_none (gs_none (gs_none gs_nil))))))))) ?_
                                      exact ih_60 (j + 1) _ _ (by omega) (by repeat (first | (with_reducible assumption) | (with_reducible exact gSg_r _) | (with_reducible refine gSg_I (by omega) ?_) | (with_reducible refine gSg_L (by omega) ?_) | (with_reducible refine gSg_N (by omega) ?_) | (with_reducible refine gSg_G (by omega) ?_) | (with_reducible refine gSg_P ?_))) (by omega)
                                    · rw [lg_cmp_eq] at c_227
                                      refine g_aload_n C dX9_free_230 rfl ?_
                                      refine g_get C dX9_free_231 iwX9 rfl (wO_M δ _) 25 (Nat.le_of_ble_eq_true rfl) mW597 rfl rfl ?_
                                      refine g_iload C dX9_free_234 rfl ?_
                                      refine g_laldN C dX9_free_236 (k := p) (q := 16) (by decide) rfl (by first | rfl | assumption | (simp only [glit, nI_add, pk_mul]; done) | (simp only [glit, nI_add, pk_mul]; congr 1; omega) | (simp only [*, glit, nI_add, pk_mul]; congr 1; omega)) (show p < gLenL 16 from Nat.lt_of_lt_of_eq (show p < 216 by omega) rfl) ?_
                                      refine g_aload_n C dX9_free_237 rfl ?_
                                      refine g_get C dX9_free_238 iwX9 rfl (wO_M δ _) 18 (Nat.le_of_ble_eq_true rfl) mW590 rfl rfl ?_
                                      refine g_lcmp C dX9_free_241 ?_
                                      refine g_if_ne C 249 dX9_free_242 (by decide) (fun c_242 => ?_) (fun c_242 => ?_)
                                      · rw [lg_cmp_eq] at c_242
                                        refine g_iconst (v := 0) C dX9_free_249 (by decide) ?_
                                        refine g_istore_n C dX9_free_250 (Nat.le_of_ble_eq_true rfl) rfl ?_
                                        refine g_lv [some _, some _, some _, some _, some _, some _, some _, some _, none] (gs_some (gs_some (gs_some (gs_some (gs_some (gs_some (gs_some (gs_some (gs_none gs_nil))))))))) ?_
                                        refine g_iinc (v := nI (j + 1)) C dX9_free_251 rfl (ginc _ 1) rfl ?_
                                        refine g_lv [some _, some _, some _, some _, some _, some _, some _, some _, none] (gs_some (gs_some (gs_some (gs_some (gs_some (gs_some (gs_some (gs_some (gs_none gs_nil))))))))) ?_
                                        refine g_goto C 60 dX9_free_254 (by decide) ?_
                                        refine g_lv [some _, some _, some _, some _, some _, none, none, none, none] (gs_some (gs_some (gs_some (gs_some (gs_some (gs_none (gs_none (gs_none (gs_none gs_nil))))))))) ?_
                                        exact ih_60 (j + 1) _ _ (by omega) (by repeat (first | (with_reducible assumption) | (with_reducible exact gSg_r _) | (with_reducible refine gSg_I (by omega) ?_) | (with_reducible refine gSg_L (by omega) ?_) | (with_reducible refine gSg_N (by omega) ?_) | (with_reducible refine gSg_G (by omega) ?_) | (with_reducible refine gSg_P ?_))) (by omega)
                                      · rw [lg_cmp_eq] at c_242
                                        refine g_iconst (v := 1) C dX9_free_245 (by decide) ?_
                                        refine g_goto C 250 dX9_free_246 (by decide) ?_
                                        refine g_istore_n C dX9_free_250 (Nat.le_of_ble_eq_true rfl) rfl ?_
                                        refine g_lv [some _, some _, some _, some _, some _, some _, some _, some _, none] (gs_some (gs_some (gs_some (gs_some (gs_some (gs_some (gs_some (gs_some (gs_none gs_nil))))))))) ?_
                                        refine g_iinc (v := nI (j + 1)) C dX9_free_251 rfl (ginc _ 1) rfl ?_
                                        refine g_lv [some _, some _, some _, some _, some _, some _, some _, some _, none] (gs_some (gs_some (gs_some (gs_some (gs_some (gs_some (gs_some (gs_some (gs_none gs_nil))))))))) ?_
                                        refine g_goto C 60 dX9_free_254 (by decide) ?_
                                        refine g_lv [some _, some _, some _, some _, some _, none, none, none, none] (gs_some (gs_some (gs_some (gs_some (gs_some (gs_none (gs_none (gs_none (gs_none gs_nil))))))))) ?_
                                        exact ih_60 (j + 1) _ _ (by omega) (by repeat (first | (with_reducible assumption) | (with_reducible exact gSg_r _) | (with_reducible refine gSg_I (by omega) ?_) | (with_reducible refine gSg_L (by omega) ?_) | (with_reducible refine gSg_N (by omega) ?_) | (with_reducible refine gSg_G (by omega) ?_) | (with_reducible refine gSg_P ?_))) (by omega)
                                · rw [lg_cmp_eq] at c_186
                                  refine g_aload_n C dX9_free_189 rfl ?_
                                  refine g_get C dX9_free_190 iwX9 rfl (wO_M δ _) 24 (Nat.le_of_ble_eq_true rfl) mW596 rfl rfl ?_
                                  refine g_iload C dX9_free_193 rfl ?_
                                  refine g_aload_n C dX9_free_195 rfl ?_
                                  refine g_get C dX9_free_196 iwX9 rfl (wO_M δ _) 17 (Nat.le_of_ble_eq_true rfl) mW589 rfl rfl ?_
                                  refine g_lastN C dX9_free_199 (k := p) (q := 15) (by decide) rfl (by first | rfl | assumption | (simp only [glit, nI_add, pk_mul]; done) | (simp only [glit, nI_add, pk_mul]; congr 1; omega) | (simp only [*, glit, nI_add, pk_mul]; congr 1; omega)) (show p < gLenL 15 from Nat.lt_of_lt_of_eq (show p < 216 by omega) rfl) ?_
                                  refine g_aload_n C dX9_free_200 rfl ?_
                                  refine g_get C dX9_free_201 iwX9 rfl (wO_M δ _) 25 (Nat.le_of_ble_eq_true rfl) mW597 rfl rfl ?_
                                  refine g_iload C dX9_free_204 rfl ?_
                                  refine g_aload_n C dX9_free_206 rfl ?_
                                  refine g_get C dX9_free_207 iwX9 rfl (wO_M δ _) 18 (Nat.le_of_ble_eq_true rfl) mW590 rfl rfl ?_
                                  refine g_lastN C dX9_free_210 (k := p) (q := 16) (by decide) rfl (by first | rfl | assumption | (simp only [glit, nI_add, pk_mul]; done) | (simp only [glit, nI_add, pk_mul]; congr 1; omega) | (simp only [*, glit, nI_add, pk_mul]; congr 1; omega)) (show p < gLenL 16 from Nat.lt_of_lt_of_eq (show p < 216 by omega) rfl) ?_
                                  refine g_iload_n C dX9_free_211 rfl ?_
                                  refine g_if_eq C 249 dX9_free_212 (by decide) (fun c_212 => ?_) (fun c_212 => ?_)
                                  · refine g_iconst (v := 0) C dX9_free_249 (by decide) ?_
                                    refine g_istore_n C dX9_free_250 (Nat.le_of_ble_eq_true rfl) rfl ?_
                                    refine g_lv [some _, some _, some _, some _, some _, some _, some _, some _, none] (gs_some (gs_some (gs_some (gs_some (gs_some (gs_some (gs_some (gs_some (gs_none gs_nil))))))))) ?_
                                    refine g_iinc (v := nI (j + 1)) C dX9_free_251 rfl (ginc _ 1) rfl ?_
                                    refine g_lv [some _, some _, some _, some _, some _, some _, some _, some _, none] (gs_some (gs_some (gs_some (gs_some (gs_some (gs_some (gs_some (gs_some (gs_none gs_nil))))))))) ?_
                                    refine g_goto C 60 dX9_free_254 (by decide) ?_
                                    refine g_lv [some _, some _, some _, some _, some _, none, none, none, none] (gs_some (gs_some (gs_some (gs_some (gs_some (gs_none (gs_none (gs_none (gs_none gs_nil))))))))) ?_
                                    exact ih_60 (j + 1) _ _ (by omega) (by repeat (first | (with_reducible assumption) | (with_reducible exact gSg_r _) | (with_reducible refine gSg_I (by omega) ?_) | (with_reducible refine gSg_L (by omega) ?_) | (with_reducible refine gSg_N (by omega) ?_) | (with_reducible refine gSg_G (by omega) ?_) | (with_reducible refine gSg_P ?_))) (by omega)
                                  · refine g_aload_n C dX9_free_215 rfl ?_
                                    refine g_get C dX9_free_216 iwX9 rfl (wO_M δ _) 24 (Nat.le_of_ble_eq_true rfl) mW596 rfl rfl ?_
                                    refine g_iload C dX9_free_219 rfl ?_
                                    refine g_laldN C dX9_free_221 (k := p) (q := 15) (by decide) rfl (by first | rfl | assumption | (simp only [glit, nI_add, pk_mul]; done) | (simp only [glit, nI_add, pk_mul]; congr 1; omega) | (simp only [*, glit, nI_add, pk_mul]; congr 1; omega)) (show p < gLenL 15 from Nat.lt_of_lt_of_eq (show p < 216 by omega) rfl) ?_
                                    refine g_aload_n C dX9_free_222 rfl ?_
                                    refine g_get C dX9_free_223 iwX9 rfl (wO_M δ _) 17 (Nat.le_of_ble_eq_true rfl) mW589 rfl rfl ?_
                                    refine g_lcmp C dX9_free_226 ?_
                                    refine g_if_ne C 249 dX9_free_227 (by decide) (fun c_227 => ?_) (fun c_227 => ?_)
                                    · rw [lg_cmp_eq] at c_227
                                      refine g_iconst (v := 0) C dX9_free_249 (by decide) ?_
                                      refine g_istore_n C dX9_free_250 (Nat.le_of_ble_eq_true rfl) rfl ?_
                                      refine g_lv [some _, some _, some _, some _, some _, some _, some _, some _, none] (gs_some (gs_some (gs_some (gs_some (gs_some (gs_some (gs_some (gs_some (gs_none gs_nil))))))))) ?_
                                      refine g_iinc (v := nI (j + 1)) C dX9_free_251 rfl (ginc _ 1) rfl ?_
                                      refine g_lv [some _, some _, some _, some _, some _, some _, some _, some _, none] (gs_some (gs_some (gs_some (gs_some (gs_some (gs_some (gs_some (gs_some (gs_none gs_nil))))))))) ?_
                                      refine g_goto C 60 dX9_free_254 (by decide) ?_
                                      refine g_lv [some _, some _, some _, some _, some _, none, none, none, none] (gs_some (gs_some (gs_some (gs_some (gs_some (gs_none (gs_none (gs_none (gs_none gs_nil))))))))) ?_
                                      exact ih_60 (j + 1) _ _ (by omega) (by repeat (first | (with_reducible assumption) | (with_reducible exact gSg_r _) | (with_reducible refine gSg_I (by omega) ?_) | (with_reducible refine gSg_L (by omega) ?_) | (with_reducible refine gSg_N (by omega) ?_) | (with_reducible refine gSg_G (by omega) ?_) | (with_reducible refine gSg_P ?_))) (by omega)
                                    · rw [lg_cmp_eq] at c_227
                                      refine g_aload_n C dX9_free_230 rfl ?_
                                      refine g_get C dX9_free_231 iwX9 rfl (wO_M δ _) 25 (Nat.le_of_ble_eq_true rfl) mW597 rfl rfl ?_
                                      refine g_iload C dX9_free_234 rfl ?_
                                      refine g_laldN C dX9_free_236 (k := p) (q := 16) (by decide) rfl (by first | rfl | assumption | (simp only [glit, nI_add, pk_mul]; done) | (simp only [glit, nI_add, pk_mul]; congr 1; omega) | (simp only [*, glit, nI_add, pk_mul]; congr 1; omega)) (show p < gLenL 16 from Nat.lt_of_lt_of_eq (show p < 216 by omega) rfl) ?_
                                      refine g_aload_n C dX9_free_237 rfl ?_
                                      refine g_get C dX9_free_238 iwX9 rfl (wO_M δ _) 18 (Nat.le_of_ble_eq_true rfl) mW590 rfl rfl ?_
                                      refine g_lcmp C dX9_free_241 ?_
                                      refine g_if_ne C 249 dX9_free_242 (by decide) (fun c_242 => ?_) (fun c_242 => ?_)
                                      · rw [lg_cmp_eq] at c_242
                                        refine g_iconst (v := 0) C dX9_free_249 (by decide) ?_
                                        refine g_istore_n C dX9_free_250 (Nat.le_of_ble_eq_true rfl) rfl ?_
                                        refine g_lv [some _, some _, some _, some _, some _, some _, some _, some _, none] (gs_some (gs_some (gs_some (gs_some (gs_some (gs_some (gs_some (gs_some (gs_none gs_nil))))))))) ?_
                                        refine g_iinc (v := nI (j + 1)) C dX9_free_251 rfl (ginc _ 1) rfl ?_
                                        refine g_lv [some _, some _, some _, some _, some _, some _, some _, some _, none] (gs_some (gs_some (gs_some (gs_some (gs_some (gs_some (gs_some (gs_some (gs_none gs_nil))))))))) ?_
                                        refine g_goto C 60 dX9_free_254 (by decide) ?_
                                        refine g_lv [some _, some _, some _, some _, some _, none, none, none, none] (gs_some (gs_some (gs_some (gs_some (gs_some (gs_none (gs_none (gs_none (gs_none gs_nil))))))))) ?_
                                        exact ih_60 (j + 1) _ _ (by omega) (by repeat (first | (with_reducible assumption) | (with_reducible exact gSg_r _) | (with_reducible refine gSg_I (by omega) ?_) | (with_reducible refine gSg_L (by omega) ?_) | (with_reducible refine gSg_N (by omega) ?_) | (with_reducible refine gSg_G (by omega) ?_) | (with_reducible refine gSg_P ?_))) (by omega)
                                      · rw [lg_cmp_eq] at c_242
                                        refine g_iconst (v := 1) C dX9_free_245 (by decide) ?_
                                        refine g_goto C 250 dX9_free_246 (by decide) ?_
                                        refine g_istore_n C dX9_free_250 (Nat.le_of_ble_eq_true rfl) rfl ?_
                                        refine g_lv [some _, some _, some _, some _, some _, some _, some _, some _, none] (gs_some (gs_some (gs_some (gs_some (gs_some (gs_some (gs_some (gs_some (gs_none gs_nil))))))))) ?_
                                        refine g_iinc (v := nI (j + 1)) C dX9_free_251 rfl (ginc _ 1) rfl ?_
                                        refine g_lv [some _, some _, some _, some _, some _, some _, some _, some _, none] (gs_some (gs_some (gs_some (gs_some (gs_some (gs_some (gs_some (gs_some (gs_none gs_nil))))))))) ?_
                                        refine g_goto C 60 dX9_free_254 (by decide) ?_
                                        refine g_lv [some _, some _, some _, some _, some _, none, none, none, none] (gs_some (gs_some (gs_some (gs_some (gs_some (gs_none (gs_none (gs_none (gs_none gs_nil))))))))) ?_
                                        exact ih_60 (j + 1) _ _ (by omega) (by repeat (first | (with_reducible assumption) | (with_reducible exact gSg_r _) | (with_reducible refine gSg_I (by omega) ?_) | (with_reducible refine gSg_L (by omega) ?_) | (with_reducible refine gSg_N (by omega) ?_) | (with_reducible refine gSg_G (by omega) ?_) | (with_reducible refine gSg_P ?_))) (by omega)
                            · have k_82 := gnle c_82 (a := k1) (b := i) (by first | rfl | assumption | (simp only [glit, nI_add, pk_mul]; done) | (simp only [glit, nI_add, pk_mul]; congr 1; omega) | (simp only [*, glit, nI_add, pk_mul]; congr 1; omega)) (by first | rfl | assumption | (simp only [glit, nI_add, pk_mul]; done) | (simp only [glit, nI_add, pk_mul]; congr 1; omega) | (simp only [*, glit, nI_add, pk_mul]; congr 1; omega)) (by omega) (by omega)
                              refine g_iload C dX9_free_85 rfl ?_
                              refine g_iconst (v := 2) C dX9_free_87 (by decide) ?_
                              refine g_iload C dX9_free_88 rfl ?_
                              refine g_imul C dX9_free_90 ?_
                              refine g_ishr C dX9_free_91 ?_
                              rw [gshrk (by omega) (by omega)]
                              refine g_iconst (v := 3) C dX9_free_92 (by decide) ?_
                              refine g_iand C dX9_free_93 ?_
                              rw [gand3 (by have := Nat.div_le_self j (4 ^ i); omega)]
                              refine g_istore C dX9_free_94 (Nat.le_of_ble_eq_true rfl) rfl ?_
                              refine g_lv [some _, some _, some _, some _, some _, some _, some _, some _, some _] (gs_some (gs_some (gs_some (gs_some (gs_some (gs_some (gs_some (gs_some (gs_some gs_nil))))))))) ?_
                              refine g_iload C dX9_free_96 rfl ?_
                              refine g_if_eq C 116 dX9_free_98 (by decide) (fun c_98 => ?_) (fun c_98 => ?_)
                              · refine g_iconst (v := 0) C dX9_free_116 (by decide) ?_
                                refine g_istore C dX9_free_117 (Nat.le_of_ble_eq_true rfl) rfl ?_
                                refine g_lv [some _, some _, some _, some _, some _, some _, some _, some _, some _] (gs_some (gs_some (gs_some (gs_some (gs_some (gs_some (gs_some (gs_some (gs_some gs_nil))))))))) ?_
                                refine g_iload C dX9_free_119 rfl ?_
                                refine g_iload C dX9_free_121 rfl ?_
                                refine g_if_ne C 130 dX9_free_123 (by decide) (fun c_123 => ?_) (fun c_123 => ?_)
                                · refine g_iload C dX9_free_130 rfl ?_
                                  refine g_iconst (v := 1) C dX9_free_132 (by decide) ?_
                                  refine g_icmp_ne C 141 dX9_free_133 (by decide) (fun c_133 => ?_) (fun c_133 => ?_)
                                  · refine g_iload C dX9_free_141 rfl ?_
                                    refine g_iconst (v := 2) C dX9_free_143 (by decide) ?_
                                    refine g_icmp_ne C 152 dX9_free_144 (by decide) (fun c_144 => ?_) (fun c_144 => ?_)
                                    · refine g_iconst (v := 0) C dX9_free_152 (by decide) ?_
                                      refine g_iadd C dX9_free_153 ?_
                                      first | rw [show nI p + 1 = nI (p + 1) from nI_add p 1] | rw [show nI p + 6 = nI (p + 6) from nI_add p 6] | rw [show nI p + 36 = nI (p + 36) from nI_add p 36] | rw [show nI p + 0 = nI (p + 0) from nI_add p 0]
                                      refine g_istore C dX9_free_154 (Nat.le_of_ble_eq_true rfl) rfl ?_
                                      refine g_lv [some _, some _, some _, some _, some _, some _, some _, some _, some _] (gs_some (gs_some (gs_some (gs_some (gs_some (gs_some (gs_some (gs_some (gs_some gs_nil))))))))) ?_
                                      refine g_iinc (v := nI (i + 1)) C dX9_free_156 rfl (ginc _ 1) rfl ?_
                                      refine g_lv [some _, some _, some _, some _, some _, some _, some _, some _, some _] (gs_some (gs_some (gs_some (gs_some (gs_some (gs_some (gs_some (gs_some (gs_some gs_nil))))))))) ?_
                                      refine g_goto C 79 dX9_free_159 (by decide) ?_
                                      refine g_lv [some _, some _, some _, some _, some _, some _, some _, some _, none] (gs_some (gs_some (gs_some (gs_some (gs_some (gs_some (gs_some (gs_some (gs_none gs_nil))))))))) ?_
                                      exact ih_79 (i + 1) _ _ (by omega) (by omega) (by omega)
                                    · refine g_bipush (v := 36) C dX9_free_147 (by decide) ?_
                                      refine g_goto C 153 dX9_free_149 (by decide) ?_
                                      refine g_iadd C dX9_free_153 ?_
                                      first | rw [show nI p + 1 = nI (p + 1) from nI_add p 1] | rw [show nI p + 6 = nI (p + 6) from nI_add p 6] | rw [show nI p + 36 = nI (p + 36) from nI_add p 36] | rw [show nI p + 0 = nI (p + 0) from nI_add p 0]
                                      refine g_istore C dX9_free_154 (Nat.le_of_ble_eq_true rfl) rfl ?_
                                      refine g_lv [some _, some _, some _, some _, some _, some _, some _, some _, some _] (gs_some (gs_some (gs_some (gs_some (gs_some (gs_some (gs_some (gs_some (gs_some gs_nil))))))))) ?_
                                      refine g_iinc (v := nI (i + 1)) C dX9_free_156 rfl (ginc _ 1) rfl ?_
                                      refine g_lv [some _, some _, some _, some _, some _, some _, some _, some _, some _] (gs_some (gs_some (gs_some (gs_some (gs_some (gs_some (gs_some (gs_some (gs_some gs_nil))))))))) ?_
                                      refine g_goto C 79 dX9_free_159 (by decide) ?_
                                      refine g_lv [some _, some _, some _, some _, some _, some _, some _, some _, none] (gs_some (gs_some (gs_some (gs_some (gs_some (gs_some (gs_some (gs_some (gs_none gs_nil))))))))) ?_
                                      exact ih_79 (i + 1) _ _ (by omega) (by omega) (by omega)
                                  · refine g_bipush (v := 6) C dX9_free_136 (by decide) ?_
                                    refine g_goto C 153 dX9_free_138 (by decide) ?_
                                    refine g_iadd C dX9_free_153 ?_
                                    first | rw [show nI p + 1 = nI (p + 1) from nI_add p 1] | rw [show nI p + 6 = nI (p + 6) from nI_add p 6] | rw [show nI p + 36 = nI (p + 36) from nI_add p 36] | rw [show nI p + 0 = nI (p + 0) from nI_add p 0]
                                    refine g_istore C dX9_free_154 (Nat.le_of_ble_eq_true rfl) rfl ?_
                                    refine g_lv [some _, some _, some _, some _, some _, some _, some _, some _, some _] (gs_some (gs_some (gs_some (gs_some (gs_some (gs_some (gs_some (gs_some (gs_some gs_nil))))))))) ?_
                                    refine g_iinc (v := nI (i + 1)) C dX9_free_156 rfl (ginc _ 1) rfl ?_
                                    refine g_lv [some _, some _, some _, some _, some _, some _, some _, some _, some _] (gs_some (gs_some (gs_some (gs_some (gs_some (gs_some (gs_some (gs_some (gs_some gs_nil))))))))) ?_
                                    refine g_goto C 79 dX9_free_159 (by decide) ?_
                                    refine g_lv [some _, some _, some _, some _, some _, some _, some _, some _, none] (gs_some (gs_some (gs_some (gs_some (gs_some (gs_some (gs_some (gs_some (gs_none gs_nil))))))))) ?_
                                    exact ih_79 (i + 1) _ _ (by omega) (by omega) (by omega)
                                · refine g_iconst (v := 1) C dX9_free_126 (by decide) ?_
                                  refine g_goto C 153 dX9_free_127 (by decide) ?_
                                  refine g_iadd C dX9_free_153 ?_
                                  first | rw [show nI p + 1 = nI (p + 1) from nI_add p 1] | rw [show nI p + 6 = nI (p + 6) from nI_add p 6] | rw [show nI p + 36 = nI (p + 36) from nI_add p 36] | rw [show nI p + 0 = nI (p + 0) from nI_add p 0]
                                  refine g_istore C dX9_free_154 (Nat.le_of_ble_eq_true rfl) rfl ?_
                                  refine g_lv [some _, some _, some _, some _, some _, some _, some _, some _, some _] (gs_some (gs_some (gs_some (gs_some (gs_some (gs_some (gs_some (gs_some (gs_some gs_nil))))))))) ?_
                                  refine g_iinc (v := nI (i + 1)) C dX9_free_156 rfl (ginc _ 1) rfl ?_
                                  refine g_lv [some _, some _, some _, some _, some _, some _, some _, some _, some _] (gs_some (gs_some (gs_some (gs_some (gs_some (gs_some (gs_some (gs_some (gs_some gs_nil))))))))) ?_
                                  refine g_goto C 79 dX9_free_159 (by decide) ?_
                                  refine g_lv [some _, some _, some _, some _, some _, some _, some _, some _, none] (gs_some (gs_some (gs_some (gs_some (gs_some (gs_some (gs_some (gs_some (gs_none gs_nil))))))))) ?_
                                  exact ih_79 (i + 1) _ _ (by omega) (by omega) (by omega)
                              · refine g_iload C dX9_free_101 rfl ?_
                                refine g_aload_n C dX9_free_103 rfl ?_
                                refine g_get C dX9_free_104 iwX9 rfl (wO_M δ _) 5 (Nat.le_of_ble_eq_true rfl) mW577 rfl rfl ?_
                                refine g_iload_n C dX9_free_107 rfl ?_
                                refine g_ialdN C dX9_free_108 (k := u1) (q := 52) (by decide) rfl (by first | rfl | assumption | (simp only [glit, nI_add, pk_mul]; done) | (simp only [glit, nI_add, pk_mul]; congr 1; omega) | (simp only [*, glit, nI_add, pk_mul]; congr 1; omega)) (show u1 < gLenI 52 from Nat.lt_of_lt_of_eq (show u1 < 8 by omega) rfl) ?_
                                refine g_icmp_ge C 116 dX9_free_109 (by decide) (fun c_109 => ?_) (fun c_109 => ?_)
                                · refine g_iconst (v := 0) C dX9_free_116 (by decide) ?_
                                  refine g_istore C dX9_free_117 (Nat.le_of_ble_eq_true rfl) rfl ?_
                                  refine g_lv [some _, some _, some _, some _, some _, some _, some _, some _, some _] (gs_some (gs_some (gs_some (gs_some (gs_some (gs_some (gs_some (gs_some (gs_some gs_nil))))))))) ?_
                                  refine g_iload C dX9_free_119 rfl ?_
                                  refine g_iload C dX9_free_121 rfl ?_
                                  refine g_if_ne C 130 dX9_free_123 (by decide) (fun c_123 => ?_) (fun c_123 => ?_)
                                  · refine g_iload C dX9_free_130 rfl ?_
                                    refine g_iconst (v := 1) C dX9_free_132 (by decide) ?_
                                    refine g_icmp_ne C 141 dX9_free_133 (by decide) (fun c_133 => ?_) (fun c_133 => ?_)
                                    · refine g_iload C dX9_free_141 rfl ?_
                                      refine g_iconst (v := 2) C dX9_free_143 (by decide) ?_
                                      refine g_icmp_ne C 152 dX9_free_144 (by decide) (fun c_144 => ?_) (fun c_144 => ?_)
                                      · refine g_iconst (v := 0) C dX9_free_152 (by decide) ?_
                                        refine g_iadd C dX9_free_153 ?_
                                        first | rw [show nI p + 1 = nI (p + 1) from nI_add p 1] | rw [show nI p + 6 = nI (p + 6) from nI_add p 6] | rw [show nI p + 36 = nI (p + 36) from nI_add p 36] | rw [show nI p + 0 = nI (p + 0) from nI_add p 0]
                                        refine g_istore C dX9_free_154 (Nat.le_of_ble_eq_true rfl) rfl ?_
                                        refine g_lv [some _, some _, some _, some _, some _, some _, some _, some _, some _] (gs_some (gs_some (gs_some (gs_some (gs_some (gs_some (gs_some (gs_some (gs_some gs_nil))))))))) ?_
                                        refine g_iinc (v := nI (i + 1)) C dX9_free_156 rfl (ginc _ 1) rfl ?_
                                        refine g_lv [some _, some _, some _, some _, some _, some _, some _, some _, some _] (gs_some (gs_some (gs_some (gs_some (gs_some (gs_some (gs_some (gs_some (gs_some gs_nil))))))))) ?_
                                        refine g_goto C 79 dX9_free_159 (by decide) ?_
                                        refine g_lv [some _, some _, some _, some _, some _, some _, some _, some _, none] (gs_some (gs_some (gs_some (gs_some (gs_some (gs_some (gs_some (gs_some (gs_none gs_nil))))))))) ?_
                                        exact ih_79 (i + 1) _ _ (by omega) (by omega) (by omega)
                                      · refine g_bipush (v := 36) C dX9_free_147 (by decide) ?_
                                        refine g_goto C 153 dX9_free_149 (by decide) ?_
                                        refine g_iadd C dX9_free_153 ?_
                                        first | rw [show nI p + 1 = nI (p + 1) from nI_add p 1] | rw [show nI p + 6 = nI (p + 6) from nI_add p 6] | rw [show nI p + 36 = nI (p + 36) from nI_add p 36] | rw [show nI p + 0 = nI (p + 0) from nI_add p 0]
                                        refine g_istore C dX9_free_154 (Nat.le_of_ble_eq_true rfl) rfl ?_
                                        refine g_lv [some _, some _, some _, some _, some _, some _, some _, some _, some _] (gs_some (gs_some (gs_some (gs_some (gs_some (gs_some (gs_some (gs_some (gs_some gs_nil))))))))) ?_
                                        refine g_iinc (v := nI (i + 1)) C dX9_free_156 rfl (ginc _ 1) rfl ?_
                                        refine g_lv [some _, some _, some _, some _, some _, some _, some _, some _, some _] (gs_some (gs_some (gs_some (gs_some (gs_some (gs_some (gs_some (gs_some (gs_some gs_nil))))))))) ?_
                                        refine g_goto C 79 dX9_free_159 (by decide) ?_
                                        refine g_lv [some _, some _, some _, some _, some _, some _, some _, some _, none] (gs_some (gs_some (gs_some (gs_some (gs_some (gs_some (gs_some (gs_some (gs_none gs_nil))))))))) ?_
                                        exact ih_79 (i + 1) _ _ (by omega) (by omega) (by omega)
                                    · refine g_bipush (v := 6) C dX9_free_136 (by decide) ?_
                                      refine g_goto C 153 dX9_free_138 (by decide) ?_
                                      refine g_iadd C dX9_free_153 ?_
                                      first | rw [show nI p + 1 = nI (p + 1) from nI_add p 1] | rw [show nI p + 6 = nI (p + 6) from nI_add p 6] | rw [show nI p + 36 = nI (p + 36) from nI_add p 36] | rw [show nI p + 0 = nI (p + 0) from nI_add p 0]
                                      refine g_istore C dX9_free_154 (Nat.le_of_ble_eq_true rfl) rfl ?_
                                      refine g_lv [some _, some _, some _, some _, some _, some _, some _, some _, some _] (gs_some (gs_some (gs_some (gs_some (gs_some (gs_some (gs_some (gs_some (gs_some gs_nil))))))))) ?_
                                      refine g_iinc (v := nI (i + 1)) C dX9_free_156 rfl (ginc _ 1) rfl ?_
                                      refine g_lv [some _, some _, some _, some _, some _, some _, some _, some _, some _] (gs_some (gs_some (gs_some (gs_some (gs_some (gs_some (gs_some (gs_some (gs_some gs_nil))))))))) ?_
                                      refine g_goto C 79 dX9_free_159 (by decide) ?_
                                      refine g_lv [some _, some _, some _, some _, some _, some _, some _, some _, none] (gs_some (gs_some (gs_some (gs_some (gs_some (gs_some (gs_some (gs_some (gs_none gs_nil))))))))) ?_
                                      exact ih_79 (i + 1) _ _ (by omega) (by omega) (by omega)
                                  · refine g_iconst (v := 1) C dX9_free_126 (by decide) ?_
                                    refine g_goto C 153 dX9_free_127 (by decide) ?_
                                    refine g_iadd C dX9_free_153 ?_
                                    first | rw [show nI p + 1 = nI (p + 1) from nI_add p 1] | rw [show nI p + 6 = nI (p + 6) from nI_add p 6] | rw [show nI p + 36 = nI (p + 36) from nI_add p 36] | rw [show nI p + 0 = nI (p + 0) from nI_add p 0]
                                    refine g_istore C dX9_free_154 (Nat.le_of_ble_eq_true rfl) rfl ?_
                                    refine g_lv [some _, some _, some _, some _, some _, some _, some _, some _, some _] (gs_some (gs_some (gs_some (gs_some (gs_some (gs_some (gs_some (gs_some (gs_some gs_nil))))))))) ?_
                                    refine g_iinc (v := nI (i + 1)) C dX9_free_156 rfl (ginc _ 1) rfl ?_
                                    refine g_lv [some _, some _, some _, some _, some _, some _, some _, some _, some _] (gs_some (gs_some (gs_some (gs_some (gs_some (gs_some (gs_some (gs_some (gs_some gs_nil))))))))) ?_
                                    refine g_goto C 79 dX9_free_159 (by decide) ?_
                                    refine g_lv [some _, some _, some _, some _, some _, some _, some _, some _, none] (gs_some (gs_some (gs_some (gs_some (gs_some (gs_some (gs_some (gs_some (gs_none gs_nil))))))))) ?_
                                    exact ih_79 (i + 1) _ _ (by omega) (by omega) (by omega)
                                · refine g_iconst (v := 1) C dX9_free_112 (by decide) ?_
                                  refine g_goto C 117 dX9_free_113 (by decide) ?_
                                  refine g_istore C dX9_free_117 (Nat.le_of_ble_eq_true rfl) rfl ?_
                                  refine g_lv [some _, some _, some _, some _, some _, some _, some _, some _, some _] (gs_some (gs_some (gs_some (gs_some (gs_some (gs_some (gs_some (gs_some (gs_some gs_nil))))))))) ?_
                                  refine g_iload C dX9_free_119 rfl ?_
                                  refine g_iload C dX9_free_121 rfl ?_
                                  refine g_if_ne C 130 dX9_free_123 (by decide) (fun c_123 => ?_) (fun c_123 => ?_)
                                  · refine g_iload C dX9_free_130 rfl ?_
                                    refine g_iconst (v := 1) C dX9_free_132 (by decide) ?_
                                    refine g_icmp_ne C 141 dX9_free_133 (by decide) (fun c_133 => ?_) (fun c_133 => ?_)
                                    · refine g_iload C dX9_free_141 rfl ?_
                                      refine g_iconst (v := 2) C dX9_free_143 (by decide) ?_
                                      refine g_icmp_ne C 152 dX9_free_144 (by decide) (fun c_144 => ?_) (fun c_144 => ?_)
                                      · refine g_iconst (v := 0) C dX9_free_152 (by decide) ?_
                                        refine g_iadd C dX9_free_153 ?_
                                        first | rw [show nI p + 1 = nI (p + 1) from nI_add p 1] | rw [show nI p + 6 = nI (p + 6) from nI_add p 6] | rw [show nI p + 36 = nI (p + 36) from nI_add p 36] | rw [show nI p + 0 = nI (p + 0) from nI_add p 0]
                                        refine g_istore C dX9_free_154 (Nat.le_of_ble_eq_true rfl) rfl ?_
                                        refine g_lv [some _, some _, some _, some _, some _, some _, some _, some _, some _] (gs_some (gs_some (gs_some (gs_some (gs_some (gs_some (gs_some (gs_some (gs_some gs_nil))))))))) ?_
                                        refine g_iinc (v := nI (i + 1)) C dX9_free_156 rfl (ginc _ 1) rfl ?_
                                        refine g_lv [some _, some _, some _, some _, some _, some _, some _, some _, some _] (gs_some (gs_some (gs_some (gs_some (gs_some (gs_some (gs_some (gs_some (gs_some gs_nil))))))))) ?_
                                        refine g_goto C 79 dX9_free_159 (by decide) ?_
                                        refine g_lv [some _, some _, some _, some _, some _, some _, some _, some _, none] (gs_some (gs_some (gs_some (gs_some (gs_some (gs_some (gs_some (gs_some (gs_none gs_nil))))))))) ?_
                                        exact ih_79 (i + 1) _ _ (by omega) (by omega) (by omega)
                                      · refine g_bipush (v := 36) C dX9_free_147 (by decide) ?_
                                        refine g_goto C 153 dX9_free_149 (by decide) ?_
                                        refine g_iadd C dX9_free_153 ?_
                                        first | rw [show nI p + 1 = nI (p + 1) from nI_add p 1] | rw [show nI p + 6 = nI (p + 6) from nI_add p 6] | rw [show nI p + 36 = nI (p + 36) from nI_add p 36] | rw [show nI p + 0 = nI (p + 0) from nI_add p 0]
                                        refine g_istore C dX9_free_154 (Nat.le_of_ble_eq_true rfl) rfl ?_
                                        refine g_lv [some _, some _, some _, some _, some _, some _, some _, some _, some _] (gs_some (gs_some (gs_some (gs_some (gs_some (gs_some (gs_some (gs_some (gs_some gs_nil))))))))) ?_
                                        refine g_iinc (v := nI (i + 1)) C dX9_free_156 rfl (ginc _ 1) rfl ?_
                                        refine g_lv [some _, some _, some _, some _, some _, some _, some _, some _, some _] (gs_some (gs_some (gs_some (gs_some (gs_some (gs_some (gs_some (gs_some (gs_some gs_nil))))))))) ?_
                                        refine g_goto C 79 dX9_free_159 (by decide) ?_
                                        refine g_lv [some _, some _, some _, some _, some _, some _, some _, some _, none] (gs_some (gs_some (gs_some (gs_some (gs_some (gs_some (gs_some (gs_some (gs_none gs_nil))))))))) ?_
                                        exact ih_79 (i + 1) _ _ (by omega) (by omega) (by omega)
                                    · refine g_bipush (v := 6) C dX9_free_136 (by decide) ?_
                                      refine g_goto C 153 dX9_free_138 (by decide) ?_
                                      refine g_iadd C dX9_free_153 ?_
                                      first | rw [show nI p + 1 = nI (p + 1) from nI_add p 1] | rw [show nI p + 6 = nI (p + 6) from nI_add p 6] | rw [show nI p + 36 = nI (p + 36) from nI_add p 36] | rw [show nI p + 0 = nI (p + 0) from nI_add p 0]
                                      refine g_istore C dX9_free_154 (Nat.le_of_ble_eq_true rfl) rfl ?_
                                      refine g_lv [some _, some _, some _, some _, some _, some _, some _, some _, some _] (gs_some (gs_some (gs_some (gs_some (gs_some (gs_some (gs_some (gs_some (gs_some gs_nil))))))))) ?_
                                      refine g_iinc (v := nI (i + 1)) C dX9_free_156 rfl (ginc _ 1) rfl ?_
                                      refine g_lv [some _, some _, some _, some _, some _, some _, some _, some _, some _] (gs_some (gs_some (gs_some (gs_some (gs_some (gs_some (gs_some (gs_some (gs_some gs_nil))))))))) ?_
                                      refine g_goto C 79 dX9_free_159 (by decide) ?_
                                      refine g_lv [some _, some _, some _, some _, some _, some _, some _, some _, none] (gs_some (gs_some (gs_some (gs_some (gs_some (gs_some (gs_some (gs_some (gs_none gs_nil))))))))) ?_
                                      exact ih_79 (i + 1) _ _ (by omega) (by omega) (by omega)
                                  · refine g_iconst (v := 1) C dX9_free_126 (by decide) ?_
                                    refine g_goto C 153 dX9_free_127 (by decide) ?_
                                    refine g_iadd C dX9_free_153 ?_
                                    first | rw [show nI p + 1 = nI (p + 1) from nI_add p 1] | rw [show nI p + 6 = nI (p + 6) from nI_add p 6] | rw [show nI p + 36 = nI (p + 36) from nI_add p 36] | rw [show nI p + 0 = nI (p + 0) from nI_add p 0]
                                    refine g_istore C dX9_free_154 (Nat.le_of_ble_eq_true rfl) rfl ?_
                                    refine g_lv [some _, some _, some _, some _, some _, some _, some _, some _, some _] (gs_some (gs_some (gs_some (gs_some (gs_some (gs_some (gs_some (gs_some (gs_some gs_nil))))))))) ?_
                                    refine g_iinc (v := nI (i + 1)) C dX9_free_156 rfl (ginc _ 1) rfl ?_
                                    refine g_lv [some _, some _, some _, some _, some _, some _, some _, some _, some _] (gs_some (gs_some (gs_some (gs_some (gs_some (gs_some (gs_some (gs_some (gs_some gs_nil))))))))) ?_
                                    refine g_goto C 79 dX9_free_159 (by decide) ?_
                                    refine g_lv [some _, some _, some _, some _, some _, some _, some _, some _, none] (gs_some (gs_some (gs_some (gs_some (gs_some (gs_some (gs_some (gs_some (gs_none gs_nil))))))))) ?_
                                    exact ih_79 (i + 1) _ _ (by omega) (by omega) (by omega)
                        refine g_lv [some _, some _, some _, some _, some _, some _, some _, some _, none] (gs_some (gs_some (gs_some (gs_some (gs_some (gs_some (gs_some (gs_some (gs_none gs_nil))))))))) ?_
                        exact L_79 _ 0 0 _ (by omega) (by omega) (Nat.lt_succ_self _)
                  refine g_lv [some _, some _, some _, some _, some _, none, none, none, none] (gs_some (gs_some (gs_some (gs_some (gs_some (gs_none (gs_none (gs_none (gs_none gs_nil))))))))) ?_
                  exact L_60 _ 0 _ _ (Nat.zero_le _) hs0 (Nat.lt_succ_self _)
                · have k_39 := gnle c_39 (a := 216) (b := q) (by first | rfl | assumption | (simp only [glit, nI_add, pk_mul]; done) | (simp only [glit, nI_add, pk_mul]; congr 1; omega) | (simp only [*, glit, nI_add, pk_mul]; congr 1; omega)) (by first | rfl | assumption | (simp only [glit, nI_add, pk_mul]; done) | (simp only [glit, nI_add, pk_mul]; congr 1; omega) | (simp only [*, glit, nI_add, pk_mul]; congr 1; omega)) (by omega) (by omega)
                  refine g_aload_n C dX9_free_42 rfl ?_
                  refine g_get C dX9_free_43 iwX9 rfl (wO_M δ _) 25 (Nat.le_of_ble_eq_true rfl) mW597 rfl rfl ?_
                  refine g_iload_n C dX9_free_46 rfl ?_
                  refine g_lconst (v := 0) C dX9_free_47 (by decide) ?_
                  refine g_lastN C dX9_free_48 (k := q) (q := 16) (by decide) rfl (by first | rfl | assumption | (simp only [glit, nI_add, pk_mul]; done) | (simp only [glit, nI_add, pk_mul]; congr 1; omega) | (simp only [*, glit, nI_add, pk_mul]; congr 1; omega)) (show q < gLenL 16 from Nat.lt_of_lt_of_eq (show q < 216 by omega) rfl) ?_
                  refine g_iinc (v := nI (q + 1)) C dX9_free_49 rfl (ginc _ 1) rfl ?_
                  refine g_lv [some _, some _, some _, some _, none, none, none, none, none] (gs_some (gs_some (gs_some (gs_some (gs_none (gs_none (gs_none (gs_none (gs_none gs_nil))))))))) ?_
                  refine g_goto C 35 dX9_free_52 (by decide) ?_
                  refine g_lv [some _, some _, some _, some _, none, none, none, none, none] (gs_some (gs_some (gs_some (gs_some (gs_none (gs_none (gs_none (gs_none (gs_none gs_nil))))))))) ?_
                  exact ih_35 (q + 1) _ (by omega) (by repeat (first | (with_reducible assumption) | (with_reducible exact gSg_r _) | (with_reducible refine gSg_I (by omega) ?_) | (with_reducible refine gSg_L (by omega) ?_) | (with_reducible refine gSg_N (by omega) ?_) | (with_reducible refine gSg_G (by omega) ?_) | (with_reducible refine gSg_P ?_))) (by omega)
            refine g_lv [some _, some _, some _, some _, none, none, none, none, none] (gs_some (gs_some (gs_some (gs_some (gs_none (gs_none (gs_none (gs_none (gs_none gs_nil))))))))) ?_
            exact L_35 _ 0 _ (by omega) (gSg_r _) (Nat.lt_succ_self _)
          · refine g_bipush (v := (-2)) C dX9_free_30 (by decide) ?_
            exact g_iret C E dX9_free_32 rfl rfl ⟨_, rfl, (by repeat (first | (with_reducible assumption) | (with_reducible exact gSg_r _) | (with_reducible refine gSg_I (by omega) ?_) | (with_reducible refine gSg_L (by omega) ?_) | (with_reducible refine gSg_N (by omega) ?_) | (with_reducible refine gSg_G (by omega) ?_) | (with_reducible refine gSg_P ?_)))⟩
        · exact absurd c_17 (by decide)
      · skip
        refine g_if_ne C 22 dX9_free_17 (by decide) (fun c_17 => ?_) (fun c_17 => ?_)
        · exact absurd c_17 (by decide)
        · refine g_iconst (v := (-1)) C dX9_free_20 (by decide) ?_
          exact g_iret C E dX9_free_21 rfl rfl ⟨_, rfl, (by repeat (first | (with_reducible assumption) | (with_reducible exact gSg_r _) | (with_reducible refine gSg_I (by omega) ?_) | (with_reducible refine gSg_L (by omega) ?_) | (with_reducible refine gSg_N (by omega) ?_) | (with_reducible refine gSg_G (by omega) ?_) | (with_reducible refine gSg_P ?_)))⟩
  · skip
    refine g_if_eq C 20 dX9_free_5 (by decide) (fun c_5 => ?_) (fun c_5 => ?_)
    · refine g_iconst (v := (-1)) C dX9_free_20 (by decide) ?_
      exact g_iret C E dX9_free_21 rfl rfl ⟨_, rfl, (by repeat (first | (with_reducible assumption) | (with_reducible exact gSg_r _) | (with_reducible refine gSg_I (by omega) ?_) | (with_reducible refine gSg_L (by omega) ?_) | (with_reducible refine gSg_N (by omega) ?_) | (with_reducible refine gSg_G (by omega) ?_) | (with_reducible refine gSg_P ?_)))⟩
    · exact absurd c_5 (by decide)
