set_option maxRecDepth 100000 in
set_option maxHeartbeats 4000000 in
theorem c_X9_followsa (l : Launch) (δ : GD) (σ : GS) {u : Nat} (hu : u < 8) {k w : Nat} (hk : k ≤ 12) (hw : w < 2147483648) {v : GV} (K : KM σ v) (R : RV v) : gM l δ yX9_follows cX9_follows 18 (some .boolean) 1 29 [.ref (δ.2.2.1 1), .int (nI u), .int (nI k), .int (nI w)] σ (gPi (fun x σ' => gSm σ σ' ∧ (∀ q, gL σ' q = gL σ q) ∧ ((x = 1 ∧ qOn (bS (vS v) u) (tS (vS v) u) w k ∧ gG σ' 13 = lN (qF (bS (vS v) u) (tS (vS v) u) w k).1 ∧ gG σ' 14 = lN (qF (bS (vS v) u) (tS (vS v) u) w k).2) ∨ (x = 1 ∧ qStk (bS (vS v) u) (tS (vS v) u) w k ∧ gG σ' 13 = 0 ∧ gG σ' 14 = 1) ∨ (x = 0 ∧ qBigs (bS (vS v) u) (tS (vS v) u) w k)))) := by
  refine g_of (lv0 := [some (.ref (δ.2.2.1 1)), some (.int (nI u)), some (.int (nI k)), some (.int (nI w)), none, none, none, none, none, none, none, none, none, none, none, none, none, none]) (by decide) rfl (Nat.le_of_ble_eq_true rfl) (fun Γ hl C E => ?_)
  subst hl
  have C : gC Γ δ cX9_follows RX9 18 1 29 := C
  have hf : gB2 (bS (vS v) u) := VS_B2 R.2.2.1 hu
  refine g_aload_n C dX9_follows_0 rfl ?_
  refine g_lconst (v := 1) C dX9_follows_1 (by decide) ?_
  refine g_put C tyX9 dX9_follows_2 iwX9 tyX9_ok nmX9 rfl (wO_M δ _) 17 (Nat.le_of_ble_eq_true rfl) mW589 rfl rfl rfl rfl rfl (Nat.le_of_ble_eq_true rfl) (pG_13 δ _ _) ?_
  refine g_aload_n C dX9_follows_5 rfl ?_
  refine g_lconst (v := 1) C dX9_follows_6 (by decide) ?_
  refine g_put C tyX9 dX9_follows_7 iwX9 tyX9_ok nmX9 rfl (wO_M δ _) 18 (Nat.le_of_ble_eq_true rfl) mW590 rfl rfl rfl rfl rfl (Nat.le_of_ble_eq_true rfl) (pG_14 δ _ _) ?_
  refine g_iconst (v := 0) C dX9_follows_10 (by decide) ?_
  refine g_istore C dX9_follows_11 (Nat.le_of_ble_eq_true rfl) rfl ?_
  refine g_lv [some _, some _, some _, some _, some _, none, none, none, none, none, none, none, none, none, none, none, none, none] (gs_some (gs_some (gs_some (gs_some (gs_some (gs_none (gs_none (gs_none (gs_none (gs_none (gs_none (gs_none (gs_none (gs_none (gs_none (gs_none (gs_none (gs_none gs_nil)))))))))))))))))) ?_
  have L_13 : ∀ (nn : Nat) (d : Nat) (f : Nat → Int32) (hd : d ≤ 4) (hf2 : ∀ j, j < d → f j = mB σ u j), 4 - d < nn → gW Γ δ (uI (uG (uG σ 13 1) 14 1) 57 f) 13 [some (.ref (δ.2.2.1 1)), some (.int (nI u)), some (.int (nI k)), some (.int (nI w)), some (.int (nI d)), none, none, none, none, none, none, none, none, none, none, none, none, none] [] := by
    intro nn
    induction nn with
    | zero =>
      intro d f hd hf2 hm_13
      exact absurd hm_13 (Nat.not_lt_zero _)
    | succ nn ih_13 =>
      intro d f hd hf2 hm_13
      refine g_iload C dX9_follows_13 rfl ?_
      refine g_iconst (v := 4) C dX9_follows_15 (by decide) ?_
      refine g_icmp_ge C 44 dX9_follows_16 (by decide) (fun c_16 => ?_) (fun c_16 => ?_)
      · have k_16 := gle c_16 (a := 4) (b := d) (by first | rfl | assumption | (simp only [glit, nI_add, pk_mul]; done) | (simp only [glit, nI_add, pk_mul]; congr 1; omega) | (simp only [*, glit, nI_add, pk_mul]; congr 1; omega)) (by first | rfl | assumption | (simp only [glit, nI_add, pk_mul]; done) | (simp only [glit, nI_add, pk_mul]; congr 1; omega) | (simp only [*, glit, nI_add, pk_mul]; congr 1; omega)) (by omega) (by omega)
        have ek : d = 4 := by omega
        subst ek
        have hb0 : ∀ j, j < 4 → f j = qB (bS (vS v) u) (tS (vS v) u) w 0 j := fun j hj => (hf2 j hj).trans (K.2.2.1 _ (by omega))
        refine g_iload_n C dX9_follows_44 rfl ?_
        refine g_istore C dX9_follows_45 (Nat.le_of_ble_eq_true rfl) rfl ?_
        refine g_lv [some _, some _, some _, some _, some _, none, none, none, none, none, none, none, none, none, none, none, none, none] (gs_some (gs_some (gs_some (gs_some (gs_some (gs_none (gs_none (gs_none (gs_none (gs_none (gs_none (gs_none (gs_none (gs_none (gs_none (gs_none (gs_none (gs_none gs_nil)))))))))))))))))) ?_
        refine g_iconst (v := 0) C dX9_follows_47 (by decide) ?_
        refine g_istore C dX9_follows_48 (Nat.le_of_ble_eq_true rfl) rfl ?_
        refine g_lv [some _, some _, some _, some _, some _, some _, none, none, none, none, none, none, none, none, none, none, none, none] (gs_some (gs_some (gs_some (gs_some (gs_some (gs_some (gs_none (gs_none (gs_none (gs_none (gs_none (gs_none (gs_none (gs_none (gs_none (gs_none (gs_none (gs_none gs_nil)))))))))))))))))) ?_
        have L_50 : ∀ (nn : Nat) (i : Nat) (s1 : GS) (hi : i ≤ k) (hs : gSm σ s1) (hls : ∀ q, gL s1 q = gL σ q) (hq : qOn (bS (vS v) u) (tS (vS v) u) w i) (hb : ∀ j, j < 4 → gI s1 57 j = qB (bS (vS v) u) (tS (vS v) u) w i j) (e4 : gG s1 13 = lN (qF (bS (vS v) u) (tS (vS v) u) w i).1) (e5 : gG s1 14 = lN (qF (bS (vS v) u) (tS (vS v) u) w i).2), k - i < nn → gW Γ δ s1 50 [some (.ref (δ.2.2.1 1)), some (.int (nI u)), some (.int (nI k)), some (.int (nI w)), some (.int (nI (w / 4 ^ i))), some (.int (nI i)), none, none, none, none, none, none, none, none, none, none, none, none] [] := by
          intro nn
          induction nn with
          | zero =>
            intro i s1 hi hs hls hq hb e4 e5 hm_50
            exact absurd hm_50 (Nat.not_lt_zero _)
          | succ nn ih_50 =>
            intro i s1 hi hs hls hq hb e4 e5 hm_50
            have hl := gpowle w i
            have hd4 : w / 4 ^ i % 4 < 4 := Nat.mod_lt _ (by decide)
            have K1 := KM_sm hs K
            refine g_iload C dX9_follows_50 rfl ?_
            refine g_iload_n C dX9_follows_52 rfl ?_
            refine g_icmp_ge C 352 dX9_follows_53 (by decide) (fun c_53 => ?_) (fun c_53 => ?_)
            · have k_53 := gle c_53 (a := k) (b := i) (by first | rfl | assumption | (simp only [glit, nI_add, pk_mul]; done) | (simp only [glit, nI_add, pk_mul]; congr 1; omega) | (simp only [*, glit, nI_add, pk_mul]; congr 1; omega)) (by first | rfl | assumption | (simp only [glit, nI_add, pk_mul]; done) | (simp only [glit, nI_add, pk_mul]; congr 1; omega) | (simp only [*, glit, nI_add, pk_mul]; congr 1; omega)) (by omega) (by omega)
              have ek : k = i := by omega
              subst ek
              refine g_iconst (v := 1) C dX9_follows_352 (by decide) ?_
              exact g_iret C E dX9_follows_353 rfl rfl ⟨_, rfl, ⟨(by repeat (first | (with_reducible assumption) | (with_reducible exact gSm_r _) | (with_reducible refine gSm_I (by omega) ?_) | (with_reducible refine gSm_L (by omega) ?_) | (with_reducible refine gSm_N (by omega) ?_) | (with_reducible refine gSm_G (by omega) ?_) | (with_reducible refine gSm_P ?_))), hls, Or.inl ⟨rfl, hq, e4, e5⟩⟩⟩
            · have k_53 := gnle c_53 (a := k) (b := i) (by first | rfl | assumption | (simp only [glit, nI_add, pk_mul]; done) | (simp only [glit, nI_add, pk_mul]; congr 1; omega) | (simp only [*, glit, nI_add, pk_mul]; congr 1; omega)) (by first | rfl | assumption | (simp only [glit, nI_add, pk_mul]; done) | (simp only [glit, nI_add, pk_mul]; congr 1; omega) | (simp only [*, glit, nI_add, pk_mul]; congr 1; omega)) (by omega) (by omega)
              refine g_iload C dX9_follows_56 rfl ?_
              refine g_iconst (v := 3) C dX9_follows_58 (by decide) ?_
              refine g_iand C dX9_follows_59 ?_
              rw [gand3 (by omega)]
              refine g_istore C dX9_follows_60 (Nat.le_of_ble_eq_true rfl) rfl ?_
              refine g_lv [some _, some _, some _, some _, some _, some _, some _, none, none, none, none, none, none, none, none, none, none, none] (gs_some (gs_some (gs_some (gs_some (gs_some (gs_some (gs_some (gs_none (gs_none (gs_none (gs_none (gs_none (gs_none (gs_none (gs_none (gs_none (gs_none (gs_none gs_nil)))))))))))))))))) ?_
              refine g_iload C dX9_follows_62 rfl ?_
              refine g_iconst (v := 2) C dX9_follows_64 (by decide) ?_
              refine g_ishr C dX9_follows_65 ?_
              rw [gshr2 (by omega), gpow]
              refine g_istore C dX9_follows_66 (Nat.le_of_ble_eq_true rfl) rfl ?_
              refine g_lv [some _, some _, some _, some _, some _, some _, some _, none, none, none, none, none, none, none, none, none, none, none] (gs_some (gs_some (gs_some (gs_some (gs_some (gs_some (gs_some (gs_none (gs_none (gs_none (gs_none (gs_none (gs_none (gs_none (gs_none (gs_none (gs_none (gs_none gs_nil)))))))))))))))))) ?_
              refine g_aload_n C dX9_follows_68 rfl ?_
              refine g_get C dX9_follows_69 iwX9 rfl (wO_M δ _) 16 (Nat.le_of_ble_eq_true rfl) mW588 rfl rfl ?_
              refine g_iload C dX9_follows_72 rfl ?_
              refine g_ialdN C dX9_follows_74 (k := (w / 4 ^ i % 4)) (q := 57) (by decide) rfl (by first | rfl | assumption | (simp only [glit, nI_add, pk_mul]; done) | (simp only [glit, nI_add, pk_mul]; congr 1; omega) | (simp only [*, glit, nI_add, pk_mul]; congr 1; omega)) (show (w / 4 ^ i % 4) < gLenI 57 from Nat.lt_of_lt_of_eq (show (w / 4 ^ i % 4) < 4 by exact hd4) rfl) ?_
              refine g_i2l C dX9_follows_75 ?_
              refine g_lstore C dX9_follows_76 (Nat.le_of_ble_eq_true rfl) rfl ?_
              refine g_lv [some _, some _, some _, some _, some _, some _, some _, some _, none, none, none, none, none, none, none, none, none, none] (gs_some (gs_some (gs_some (gs_some (gs_some (gs_some (gs_some (gs_some (gs_none (gs_none (gs_none (gs_none (gs_none (gs_none (gs_none (gs_none (gs_none (gs_none gs_nil)))))))))))))))))) ?_
              refine g_aload_n C dX9_follows_78 rfl ?_
              refine g_get C dX9_follows_79 iwX9 rfl (wO_M δ _) 16 (Nat.le_of_ble_eq_true rfl) mW588 rfl rfl ?_
              refine g_iconst (v := 0) C dX9_follows_82 (by decide) ?_
              refine g_ialdN C dX9_follows_83 (k := 0) (q := 57) (by decide) rfl (by first | rfl | assumption | (simp only [glit, nI_add, pk_mul]; done) | (simp only [glit, nI_add, pk_mul]; congr 1; omega) | (simp only [*, glit, nI_add, pk_mul]; congr 1; omega)) (show 0 < gLenI 57 from Nat.lt_of_lt_of_eq (show 0 < 4 by omega) rfl) ?_
              refine g_aload_n C dX9_follows_84 rfl ?_
              refine g_get C dX9_follows_85 iwX9 rfl (wO_M δ _) 16 (Nat.le_of_ble_eq_true rfl) mW588 rfl rfl ?_
              refine g_iconst (v := 1) C dX9_follows_88 (by decide) ?_
              refine g_ialdN C dX9_follows_89 (k := 1) (q := 57) (by decide) rfl (by first | rfl | assumption | (simp only [glit, nI_add, pk_mul]; done) | (simp only [glit, nI_add, pk_mul]; congr 1; omega) | (simp only [*, glit, nI_add, pk_mul]; congr 1; omega)) (show 1 < gLenI 57 from Nat.lt_of_lt_of_eq (show 1 < 4 by omega) rfl) ?_
              refine g_iadd C dX9_follows_90 ?_
              refine g_aload_n C dX9_follows_91 rfl ?_
              refine g_get C dX9_follows_92 iwX9 rfl (wO_M δ _) 16 (Nat.le_of_ble_eq_true rfl) mW588 rfl rfl ?_
              refine g_iconst (v := 2) C dX9_follows_95 (by decide) ?_
              refine g_ialdN C dX9_follows_96 (k := 2) (q := 57) (by decide) rfl (by first | rfl | assumption | (simp only [glit, nI_add, pk_mul]; done) | (simp only [glit, nI_add, pk_mul]; congr 1; omega) | (simp only [*, glit, nI_add, pk_mul]; congr 1; omega)) (show 2 < gLenI 57 from Nat.lt_of_lt_of_eq (show 2 < 4 by omega) rfl) ?_
              refine g_iadd C dX9_follows_97 ?_
              refine g_aload_n C dX9_follows_98 rfl ?_
              refine g_get C dX9_follows_99 iwX9 rfl (wO_M δ _) 16 (Nat.le_of_ble_eq_true rfl) mW588 rfl rfl ?_
              refine g_iconst (v := 3) C dX9_follows_102 (by decide) ?_
              refine g_ialdN C dX9_follows_103 (k := 3) (q := 57) (by decide) rfl (by first | rfl | assumption | (simp only [glit, nI_add, pk_mul]; done) | (simp only [glit, nI_add, pk_mul]; congr 1; omega) | (simp only [*, glit, nI_add, pk_mul]; congr 1; omega)) (show 3 < gLenI 57 from Nat.lt_of_lt_of_eq (show 3 < 4 by omega) rfl) ?_
              refine g_iadd C dX9_follows_104 ?_
              refine g_i2l C dX9_follows_105 ?_
              refine g_lstore C dX9_follows_106 (Nat.le_of_ble_eq_true rfl) rfl ?_
              refine g_lv [some _, some _, some _, some _, some _, some _, some _, some _, none, some _, none, none, none, none, none, none, none, none] (gs_some (gs_some (gs_some (gs_some (gs_some (gs_some (gs_some (gs_some (gs_none (gs_some (gs_none (gs_none (gs_none (gs_none (gs_none (gs_none (gs_none (gs_none gs_nil)))))))))))))))))) ?_
              have J_120 : ∀ (a : Int32) (ha : gAcc a (0 < gI s1 57 (w / 4 ^ i % 4))), gW Γ δ s1 120 [some (.ref (δ.2.2.1 1)), some (.int (nI u)), some (.int (nI k)), some (.int (nI w)), some (.int (nI (w / 4 ^ (i + 1)))), some (.int (nI i)), some (.int (nI (w / 4 ^ i % 4))), some (.long (gI s1 57 (w / 4 ^ i % 4)).toInt64), none, some (.long (gI s1 57 0 + gI s1 57 1 + gI s1 57 2 + gI s1 57 3).toInt64), none, none, none, none, none, none, none, none] [.int a] := by
                intro a ha
                refine g_istore C dX9_follows_120 (Nat.le_of_ble_eq_true rfl) rfl ?_
                refine g_lv [some _, some _, some _, some _, some _, some _, some _, some _, none, some _, none, some _, none, none, none, none, none, none] (gs_some (gs_some (gs_some (gs_some (gs_some (gs_some (gs_some (gs_some (gs_none (gs_some (gs_none (gs_some (gs_none (gs_none (gs_none (gs_none (gs_none (gs_none gs_nil)))))))))))))))))) ?_
                refine g_iconst (v := 0) C dX9_follows_122 (by decide) ?_
                refine g_istore C dX9_follows_123 (Nat.le_of_ble_eq_true rfl) rfl ?_
                refine g_lv [some _, some _, some _, some _, some _, some _, some _, some _, none, some _, none, some _, some _, none, none, none, none, none] (gs_some (gs_some (gs_some (gs_some (gs_some (gs_some (gs_some (gs_some (gs_none (gs_some (gs_none (gs_some (gs_some (gs_none (gs_none (gs_none (gs_none (gs_none gs_nil)))))))))))))))))) ?_
                have L_125 : ∀ (nn : Nat) (d : Nat) (a : Int32) (hd : d ≤ 4) (ha : gAcc a (gLet (gI s1 57) (mT σ u) (w / 4 ^ i % 4) d)), 4 - d < nn → gW Γ δ (uI s1 57 (gGw (gI s1 57) (mT σ u) (w / 4 ^ i % 4) d)) 125 [some (.ref (δ.2.2.1 1)), some (.int (nI u)), some (.int (nI k)), some (.int (nI w)), some (.int (nI (w / 4 ^ (i + 1)))), some (.int (nI i)), some (.int (nI (w / 4 ^ i % 4))), some (.long (gI s1 57 (w / 4 ^ i % 4)).toInt64), none, some (.long (gI s1 57 0 + gI s1 57 1 + gI s1 57 2 + gI s1 57 3).toInt64), none, some (.int a), some (.int (nI d)), none, none, none, none, none] [] := by
                  intro nn
                  induction nn with
                  | zero =>
                    intro d a hd ha hm_125
                    exact absurd hm_125 (Nat.not_lt_zero _)
                  | succ nn ih_125 =>
                    intro d a hd ha hm_125
                    refine g_iload C dX9_follows_125 rfl ?_
                    refine g_iconst (v := 4) C dX9_follows_127 (by decide) ?_
                    refine g_icmp_ge C 196 dX9_follows_128 (by decide) (fun c_128 => ?_) (fun c_128 => ?_)
                    · have k_128 := gle c_128 (a := 4) (b := d) (by first | rfl | assumption | (simp only [glit, nI_add, pk_mul]; done) | (simp only [glit, nI_add, pk_mul]; congr 1; omega) | (simp only [*, glit, nI_add, pk_mul]; congr 1; omega)) (by first | rfl | assumption | (simp only [glit, nI_add, pk_mul]; done) | (simp only [glit, nI_add, pk_mul]; congr 1; omega) | (simp only [*, glit, nI_add, pk_mul]; congr 1; omega)) (by omega) (by omega)
                      have ek : d = 4 := by omega
                      subst ek
                      refine g_iload C dX9_follows_196 rfl ?_
                      refine g_if_ne C 213 dX9_follows_198 (by decide) (fun c_198 => ?_) (fun c_198 => ?_)
                      · have hG : qGo (bS (vS v) u) (tS (vS v) u) w i := (qM_let K1 hu hb).mp (by rw [mT_s hs]; exact gAcc_y ha c_198)
                        have eN := qN_e hf hq hG
                        have ok := qOk_at hf hq hG
                        obtain ⟨p1, p2, p3⟩ := qM_b ok
                        obtain ⟨⟨q1, q2, q3⟩, q4, q5, q6⟩ := qS_b ok
                        obtain ⟨o1, o2, o3, o4⟩ := id ok
                        rw [show (gI s1 57 (w / 4 ^ i % 4)).toInt64 = lN (qN (bS (vS v) u) (tS (vS v) u) w i) by rw [hb _ hd4, eN.1]; exact nI_l (by omega), show (gI s1 57 0 + gI s1 57 1 + gI s1 57 2 + gI s1 57 3).toInt64 = lN (qT (bS (vS v) u) (tS (vS v) u) w i) by rw [hb 0 (by omega), hb 1 (by omega), hb 2 (by omega), hb 3 (by omega), eN.2]; exact nI_l (by omega)]
                        refine g_lload C dX9_follows_213 rfl ?_
                        refine g_lload C dX9_follows_215 rfl ?_
                        refine g_callSl C sS_X9_150 dX9_follows_217 (c_X9_common _ δ _ _ _) ⟨by decide, by decide⟩ rfl rfl rfl (Nat.le_of_ble_eq_true rfl) (fun r_217 s_217 h_217 => ?_)
                        obtain ⟨rfl, h_217⟩ := h_217
                        obtain rfl := gCm_N h_217 (by omega) (by omega)
                        refine g_lstore C dX9_follows_220 (Nat.le_of_ble_eq_true rfl) rfl ?_
                        refine g_lv [some _, some _, some _, some _, some _, some _, some _, some _, none, some _, none, some _, some _, none, none, none, none, none] (gs_some (gs_some (gs_some (gs_some (gs_some (gs_some (gs_some (gs_some (gs_none (gs_some (gs_none (gs_some (gs_some (gs_none (gs_none (gs_none (gs_none (gs_none gs_nil)))))))))))))))))) ?_
                        refine g_lload C dX9_follows_222 rfl ?_
                        refine g_lload C dX9_follows_224 rfl ?_
                        refine g_ldiv C dX9_follows_226 (lNz p1.1 (by omega)) ?_
                        rw [pk_lDiv (by omega) (by omega) (by omega), show (qN (bS (vS v) u) (tS (vS v) u) w i) / Nat.gcd (qN (bS (vS v) u) (tS (vS v) u) w i) (qT (bS (vS v) u) (tS (vS v) u) w i) = qM (qN (bS (vS v) u) (tS (vS v) u) w i) (qT (bS (vS v) u) (tS (vS v) u) w i) from rfl]
                        refine g_lstore C dX9_follows_227 (Nat.le_of_ble_eq_true rfl) rfl ?_
                        refine g_lv [some _, some _, some _, some _, some _, some _, some _, some _, none, some _, none, some _, some _, none, none, none, none, none] (gs_some (gs_some (gs_some (gs_some (gs_some (gs_some (gs_some (gs_some (gs_none (gs_some (gs_none (gs_some (gs_some (gs_none (gs_none (gs_none (gs_none (gs_none gs_nil)))))))))))))))))) ?_
                        refine g_lload C dX9_follows_229 rfl ?_
                        refine g_lload C dX9_follows_231 rfl ?_
                        refine g_ldiv C dX9_follows_233 (lNz p1.1 (by omega)) ?_
                        rw [pk_lDiv (by omega) (by omega) (by omega), show (qT (bS (vS v) u) (tS (vS v) u) w i) / Nat.gcd (qN (bS (vS v) u) (tS (vS v) u) w i) (qT (bS (vS v) u) (tS (vS v) u) w i) = qL (qN (bS (vS v) u) (tS (vS v) u) w i) (qT (bS (vS v) u) (tS (vS v) u) w i) from rfl]
                        refine g_lstore C dX9_follows_234 (Nat.le_of_ble_eq_true rfl) rfl ?_
                        refine g_lv [some _, some _, some _, some _, some _, some _, some _, some _, none, some _, none, some _, some _, none, none, none, none, none] (gs_some (gs_some (gs_some (gs_some (gs_some (gs_some (gs_some (gs_some (gs_none (gs_some (gs_none (gs_some (gs_some (gs_none (gs_none (gs_none (gs_none (gs_none gs_nil)))))))))))))))))) ?_
                        refine g_aload_n C dX9_follows_236 rfl ?_
                        refine g_get C dX9_follows_237 iwX9 rfl (wO_M δ _) 17 (Nat.le_of_ble_eq_true rfl) mW589 rfl rfl ?_
                        rw [gG_uI, e4]
                        refine g_lload C dX9_follows_240 rfl ?_
                        refine g_callSl C sS_X9_150 dX9_follows_242 (c_X9_common _ δ _ _ _) ⟨by decide, by decide⟩ rfl rfl rfl (Nat.le_of_ble_eq_true rfl) (fun r_242 s_242 h_242 => ?_)
                        obtain ⟨rfl, h_242⟩ := h_242
                        obtain rfl := gCm_N h_242 (by omega) (by omega)
                        refine g_lstore C dX9_follows_245 (Nat.le_of_ble_eq_true rfl) rfl ?_
                        refine g_lv [some _, some _, some _, some _, some _, some _, some _, some _, none, some _, none, some _, some _, none, some _, none, none, none] (gs_some (gs_some (gs_some (gs_some (gs_some (gs_some (gs_some (gs_some (gs_none (gs_some (gs_none (gs_some (gs_some (gs_none (gs_some (gs_none (gs_none (gs_none gs_nil)))))))))))))))))) ?_
                        refine g_lload C dX9_follows_247 rfl ?_
                        refine g_aload_n C dX9_follows_249 rfl ?_
                        refine g_get C dX9_follows_250 iwX9 rfl (wO_M δ _) 18 (Nat.le_of_ble_eq_true rfl) mW590 rfl rfl ?_
                        rw [gG_uI, e5]
                        refine g_callSl C sS_X9_150 dX9_follows_253 (c_X9_common _ δ _ _ _) ⟨by decide, by decide⟩ rfl rfl rfl (Nat.le_of_ble_eq_true rfl) (fun r_253 s_253 h_253 => ?_)
                        obtain ⟨rfl, h_253⟩ := h_253
                        obtain rfl := gCm_N h_253 (by omega) (by omega)
                        refine g_lstore C dX9_follows_256 (Nat.le_of_ble_eq_true rfl) rfl ?_
                        refine g_lv [some _, some _, some _, some _, some _, some _, some _, some _, none, some _, none, some _, some _, none, some _, none, some _, none] (gs_some (gs_some (gs_some (gs_some (gs_some (gs_some (gs_some (gs_some (gs_none (gs_some (gs_none (gs_some (gs_some (gs_none (gs_some (gs_none (gs_some (gs_none gs_nil)))))))))))))))))) ?_
                        refine g_aload_n C dX9_follows_258 rfl ?_
                        refine g_dup C dX9_follows_259 rfl ?_
                        refine g_get C dX9_follows_260 iwX9 rfl (wO_M δ _) 17 (Nat.le_of_ble_eq_true rfl) mW589 rfl rfl ?_
                        rw [gG_uI, e4]
                        refine g_lload C dX9_follows_263 rfl ?_
                        refine g_ldiv C dX9_follows_265 (lNz q1.1 (by omega)) ?_
                        rw [pk_lDiv (by omega) (by omega) (by omega)]
                        refine g_put C tyX9 dX9_follows_266 iwX9 tyX9_ok nmX9 rfl (wO_M δ _) 17 (Nat.le_of_ble_eq_true rfl) mW589 rfl rfl rfl rfl rfl (Nat.le_of_ble_eq_true rfl) (pG_13 δ _ _) ?_
                        refine g_lload C dX9_follows_269 rfl ?_
                        refine g_lload C dX9_follows_271 rfl ?_
                        refine g_ldiv C dX9_follows_273 (lNz q1.1 (by omega)) ?_
                        rw [pk_lDiv (by omega) (by omega) (by omega)]
                        refine g_lstore C dX9_follows_274 (Nat.le_of_ble_eq_true rfl) rfl ?_
                        refine g_lv [some _, some _, some _, some _, some _, some _, some _, some _, none, some _, none, some _, some _, none, some _, none, some _, none] (gs_some (gs_some (gs_some (gs_some (gs_some (gs_some (gs_some (gs_some (gs_none (gs_some (gs_none (gs_some (gs_some (gs_none (gs_some (gs_none (gs_some (gs_none gs_nil)))))))))))))))))) ?_
                        refine g_lload C dX9_follows_276 rfl ?_
                        refine g_lload C dX9_follows_278 rfl ?_
                        refine g_ldiv C dX9_follows_280 (lNz q4.1 (by omega)) ?_
                        rw [pk_lDiv (by omega) (by omega) (by omega)]
                        refine g_lstore C dX9_follows_281 (Nat.le_of_ble_eq_true rfl) rfl ?_
                        refine g_lv [some _, some _, some _, some _, some _, some _, some _, some _, none, some _, none, some _, some _, none, some _, none, some _, none] (gs_some (gs_some (gs_some (gs_some (gs_some (gs_some (gs_some (gs_some (gs_none (gs_some (gs_none (gs_some (gs_some (gs_none (gs_some (gs_none (gs_some (gs_none gs_nil)))))))))))))))))) ?_
                        refine g_aload_n C dX9_follows_283 rfl ?_
                        refine g_dup C dX9_follows_284 rfl ?_
                        refine g_get C dX9_follows_285 iwX9 rfl (wO_M δ _) 18 (Nat.le_of_ble_eq_true rfl) mW590 rfl rfl ?_
                        rw [gG_uG, if_neg (by decide), gG_uI, e5]
                        refine g_lload C dX9_follows_288 rfl ?_
                        refine g_ldiv C dX9_follows_290 (lNz q4.1 (by omega)) ?_
                        rw [pk_lDiv (by omega) (by omega) (by omega)]
                        refine g_put C tyX9 dX9_follows_291 iwX9 tyX9_ok nmX9 rfl (wO_M δ _) 18 (Nat.le_of_ble_eq_true rfl) mW590 rfl rfl rfl rfl rfl (Nat.le_of_ble_eq_true rfl) (pG_14 δ _ _) ?_
                        refine g_aload_n C dX9_follows_294 rfl ?_
                        refine g_get C dX9_follows_295 iwX9 rfl (wO_M δ _) 17 (Nat.le_of_ble_eq_true rfl) mW589 rfl rfl ?_
                        rw [gG_uG, if_neg (by decide), gG_uG, if_pos rfl]
                        refine g_ldc2 C dX9_follows_298 mW800 ?_
                        refine g_lload C dX9_follows_301 rfl ?_
                        refine g_ldiv C dX9_follows_303 (lNz q6.1 (by omega)) ?_
                        refine g_lcmp C dX9_follows_304 ?_
                        refine g_if_gt C 322 dX9_follows_305 (by decide) (fun c_305 => ?_) (fun c_305 => ?_)
                        · rw [lg_cmp_gt] at c_305
                          have w1 := (hl_lt (by omega) q6.1 (by omega)).mp c_305
                          refine g_iconst (v := 0) C dX9_follows_322 (by decide) ?_
                          exact g_iret C E dX9_follows_323 rfl rfl ⟨_, rfl, ⟨(by repeat (first | (with_reducible assumption) | (with_reducible exact gSm_r _) | (with_reducible refine gSm_I (by omega) ?_) | (with_reducible refine gSm_L (by omega) ?_) | (with_reducible refine gSm_N (by omega) ?_) | (with_reducible refine gSm_G (by omega) ?_) | (with_reducible refine gSm_P ?_))), hls, Or.inr (Or.inr ⟨rfl, i, by omega, hq, hG, by first | exact Or.inl w1 | exact Or.inr (Nat.not_le.mp w2)⟩)⟩⟩
                        · rw [lg_cmp_gt] at c_305
                          have w1 := fun z => c_305 ((hl_lt (D := (qF (bS (vS v) u) (tS (vS v) u) w i).1 / Nat.gcd (qF (bS (vS v) u) (tS (vS v) u) w i).1 (qL (qN (bS (vS v) u) (tS (vS v) u) w i) (qT (bS (vS v) u) (tS (vS v) u) w i))) (by omega) q6.1 (by omega)).mpr z)
                          refine g_aload_n C dX9_follows_308 rfl ?_
                          refine g_get C dX9_follows_309 iwX9 rfl (wO_M δ _) 18 (Nat.le_of_ble_eq_true rfl) mW590 rfl rfl ?_
                          rw [gG_uG, if_pos rfl]
                          refine g_ldc2 C dX9_follows_312 mW800 ?_
                          refine g_lload C dX9_follows_315 rfl ?_
                          refine g_ldiv C dX9_follows_317 (lNz q3.1 (by omega)) ?_
                          refine g_lcmp C dX9_follows_318 ?_
                          refine g_if_le C 324 dX9_follows_319 (by decide) (fun c_319 => ?_) (fun c_319 => ?_)
                          · rw [lg_cmp_le] at c_319
                            have w2 := (hl_le (by omega) q3.1 (by omega)).mp c_319
                            have hnb : ¬ qBig (bS (vS v) u) (tS (vS v) u) w i := fun z => z.elim w1 (Nat.not_lt.mpr w2)
                            refine g_aload_n C dX9_follows_324 rfl ?_
                            refine g_dup C dX9_follows_325 rfl ?_
                            refine g_get C dX9_follows_326 iwX9 rfl (wO_M δ _) 17 (Nat.le_of_ble_eq_true rfl) mW589 rfl rfl ?_
                            rw [gG_uG, if_neg (by decide), gG_uG, if_pos rfl]
                            refine g_lload C dX9_follows_329 rfl ?_
                            refine g_lmul C dX9_follows_331 ?_
                            refine g_put C tyX9 dX9_follows_332 iwX9 tyX9_ok nmX9 rfl (wO_M δ _) 17 (Nat.le_of_ble_eq_true rfl) mW589 rfl rfl rfl rfl rfl (Nat.le_of_ble_eq_true rfl) (pG_13 δ _ _) ?_
                            refine g_aload_n C dX9_follows_335 rfl ?_
                            refine g_dup C dX9_follows_336 rfl ?_
                            refine g_get C dX9_follows_337 iwX9 rfl (wO_M δ _) 18 (Nat.le_of_ble_eq_true rfl) mW590 rfl rfl ?_
                            rw [gG_uG, if_neg (by decide), gG_uG, if_pos rfl]
                            refine g_lload C dX9_follows_340 rfl ?_
                            refine g_lmul C dX9_follows_342 ?_
                            refine g_put C tyX9 dX9_follows_343 iwX9 tyX9_ok nmX9 rfl (wO_M δ _) 18 (Nat.le_of_ble_eq_true rfl) mW590 rfl rfl rfl rfl rfl (Nat.le_of_ble_eq_true rfl) (pG_14 δ _ _) ?_
                            refine g_iinc (v := nI (i + 1)) C dX9_follows_346 rfl (ginc _ 1) rfl ?_
                            refine g_lv [some _, some _, some _, some _, some _, some _, some _, some _, none, some _, none, some _, some _, none, some _, none, some _, none] (gs_some (gs_some (gs_some (gs_some (gs_some (gs_some (gs_some (gs_some (gs_none (gs_some (gs_none (gs_some (gs_some (gs_none (gs_some (gs_none (gs_some (gs_none gs_nil)))))))))))))))))) ?_
                            refine g_goto C 50 dX9_follows_349 (by decide) ?_
                            refine g_lv [some _, some _, some _, some _, some _, some _, none, none, none, none, none, none, none, none, none, none, none, none] (gs_some (gs_some (gs_some (gs_some (gs_some (gs_some (gs_none (gs_none (gs_none (gs_none (gs_none (gs_none (gs_none (gs_none (gs_none (gs_none (gs_none (gs_none gs_nil)))))))))))))))))) ?_
                            exact ih_50 (i + 1) _ (by omega) (by repeat (first | (with_reducible assumption) | (with_reducible exact gSm_r _) | (with_reducible refine gSm_I (by omega) ?_) | (with_reducible refine gSm_L (by omega) ?_) | (with_reducible refine gSm_N (by omega) ?_) | (with_reducible refine gSm_G (by omega) ?_) | (with_reducible refine gSm_P ?_))) hls (qOn_s hq hG hnb) (fun j hj => qB_r K1 hu hb hs j hj) (by rw [gG_uG, if_neg (by decide), gG_uG, if_pos rfl]; exact lN_mul _ _) (by rw [gG_uG, if_pos rfl]; exact lN_mul _ _) (by omega)
                          · rw [lg_cmp_le] at c_319
                            have w2 := fun z => c_319 ((hl_le (D := (qF (bS (vS v) u) (tS (vS v) u) w i).2 / Nat.gcd (qM (qN (bS (vS v) u) (tS (vS v) u) w i) (qT (bS (vS v) u) (tS (vS v) u) w i)) (qF (bS (vS v) u) (tS (vS v) u) w i).2) (by omega) q3.1 (by omega)).mpr z)
                            refine g_iconst (v := 0) C dX9_follows_322 (by decide) ?_
                            exact g_iret C E dX9_follows_323 rfl rfl ⟨_, rfl, ⟨(by repeat (first | (with_reducible assumption) | (with_reducible exact gSm_r _) | (with_reducible refine gSm_I (by omega) ?_) | (with_reducible refine gSm_L (by omega) ?_) | (with_reducible refine gSm_N (by omega) ?_) | (with_reducible refine gSm_G (by omega) ?_) | (with_reducible refine gSm_P ?_))), hls, Or.inr (Or.inr ⟨rfl, i, by omega, hq, hG, by first | exact Or.inl w1 | exact Or.inr (Nat.not_le.mp w2)⟩)⟩⟩
                      · have hG : ¬ qGo (bS (vS v) u) (tS (vS v) u) w i := fun z => gAcc_n ha c_198 (by have q := (qM_let K1 hu hb).mpr z; rw [mT_s hs] at q; exact q)
                        refine g_aload_n C dX9_follows_201 rfl ?_
                        refine g_lconst (v := 0) C dX9_follows_202 (by decide) ?_
                        refine g_put C tyX9 dX9_follows_203 iwX9 tyX9_ok nmX9 rfl (wO_M δ _) 17 (Nat.le_of_ble_eq_true rfl) mW589 rfl rfl rfl rfl rfl (Nat.le_of_ble_eq_true rfl) (pG_13 δ _ _) ?_
                        refine g_aload_n C dX9_follows_206 rfl ?_
                        refine g_lconst (v := 1) C dX9_follows_207 (by decide) ?_
                        refine g_put C tyX9 dX9_follows_208 iwX9 tyX9_ok nmX9 rfl (wO_M δ _) 18 (Nat.le_of_ble_eq_true rfl) mW590 rfl rfl rfl rfl rfl (Nat.le_of_ble_eq_true rfl) (pG_14 δ _ _) ?_
                        refine g_iconst (v := 1) C dX9_follows_211 (by decide) ?_
                        exact g_iret C E dX9_follows_212 rfl rfl ⟨_, rfl, ⟨(by repeat (first | (with_reducible assumption) | (with_reducible exact gSm_r _) | (with_reducible refine gSm_I (by omega) ?_) | (with_reducible refine gSm_L (by omega) ?_) | (with_reducible refine gSm_N (by omega) ?_) | (with_reducible refine gSm_G (by omega) ?_) | (with_reducible refine gSm_P ?_))), hls, Or.inr (Or.inl ⟨rfl, ⟨i, by omega, hq, hG⟩, rfl, rfl⟩)⟩⟩
                    · have k_128 := gnle c_128 (a := 4) (b := d) (by first | rfl | assumption | (simp only [glit, nI_add, pk_mul]; done) | (simp only [glit, nI_add, pk_mul]; congr 1; omega) | (simp only [*, glit, nI_add, pk_mul]; congr 1; omega)) (by first | rfl | assumption | (simp only [glit, nI_add, pk_mul]; done) | (simp only [glit, nI_add, pk_mul]; congr 1; omega) | (simp only [*, glit, nI_add, pk_mul]; congr 1; omega)) (by omega) (by omega)
                      refine g_aload_n C dX9_follows_131 rfl ?_
                      refine g_get C dX9_follows_132 iwX9 rfl (wO_M δ _) 16 (Nat.le_of_ble_eq_true rfl) mW588 rfl rfl ?_
                      refine g_iload C dX9_follows_135 rfl ?_
                      refine g_dup2 C dX9_follows_137 rfl rfl ?_
                      refine g_ialdN C dX9_follows_138 (k := d) (q := 57) (by decide) rfl (by first | rfl | assumption | (simp only [glit, nI_add, pk_mul]; done) | (simp only [glit, nI_add, pk_mul]; congr 1; omega) | (simp only [*, glit, nI_add, pk_mul]; congr 1; omega)) (show d < gLenI 57 from Nat.lt_of_lt_of_eq (show d < 4 by omega) rfl) ?_
                      refine g_aload_n C dX9_follows_139 rfl ?_
                      refine g_get C dX9_follows_140 iwX9 rfl (wO_M δ _) 6 (Nat.le_of_ble_eq_true rfl) mW578 rfl rfl ?_
                      refine g_bipush (v := 25) C dX9_follows_143 (by decide) ?_
                      refine g_iload_n C dX9_follows_145 rfl ?_
                      refine g_imul C dX9_follows_146 ?_
                      refine g_iconst (v := 4) C dX9_follows_147 (by decide) ?_
                      refine g_iadd C dX9_follows_148 ?_
                      refine g_iconst (v := 4) C dX9_follows_149 (by decide) ?_
                      refine g_iload C dX9_follows_150 rfl ?_
                      refine g_imul C dX9_follows_152 ?_
                      refine g_iadd C dX9_follows_153 ?_
                      refine g_iload C dX9_follows_154 rfl ?_
                      refine g_iadd C dX9_follows_156 ?_
                      refine g_ialdN C dX9_follows_157 (k := (25 * u + 4 + ((w / 4 ^ i % 4) * 4 + d))) (q := 53) (by decide) rfl (by first | rfl | assumption | (simp only [glit, nI_add, pk_mul]; done) | (simp only [glit, nI_add, pk_mul]; congr 1; omega) | (simp only [*, glit, nI_add, pk_mul]; congr 1; omega)) (show (25 * u + 4 + ((w / 4 ^ i % 4) * 4 + d)) < gLenI 53 from Nat.lt_of_lt_of_eq (show (25 * u + 4 + ((w / 4 ^ i % 4) * 4 + d)) < 202 by omega) rfl) ?_
                      refine g_iadd C dX9_follows_158 ?_
                      refine g_iastN C dX9_follows_159 (k := d) (q := 57) (by decide) rfl (by first | rfl | assumption | (simp only [glit, nI_add, pk_mul]; done) | (simp only [glit, nI_add, pk_mul]; congr 1; omega) | (simp only [*, glit, nI_add, pk_mul]; congr 1; omega)) (show d < gLenI 57 from Nat.lt_of_lt_of_eq (show d < 4 by omega) rfl) ?_
                      rw [uI_uI, gI_uI, if_pos rfl, gI_uI, if_neg (by decide), show gI s1 53 (25 * u + 4 + ((w / 4 ^ i % 4) * 4 + d)) = mT σ u ((w / 4 ^ i % 4) * 4 + d) from congrFun (mT_s hs u) _, gGw_s]
                      refine g_iload C dX9_follows_160 rfl ?_
                      refine g_if_eq C 187 dX9_follows_162 (by decide) (fun c_162 => ?_) (fun c_162 => ?_)
                      · refine g_iconst (v := 0) C dX9_follows_187 (by decide) ?_
                        refine g_istore C dX9_follows_188 (Nat.le_of_ble_eq_true rfl) rfl ?_
                        refine g_lv [some _, some _, some _, some _, some _, some _, some _, some _, none, some _, none, some _, some _, none, none, none, none, none] (gs_some (gs_some (gs_some (gs_some (gs_some (gs_some (gs_some (gs_some (gs_none (gs_some (gs_none (gs_some (gs_some (gs_none (gs_none (gs_none (gs_none (gs_none gs_nil)))))))))))))))))) ?_
                        refine g_iinc (v := nI (d + 1)) C dX9_follows_190 rfl (ginc _ 1) rfl ?_
                        refine g_lv [some _, some _, some _, some _, some _, some _, some _, some _, none, some _, none, some _, some _, none, none, none, none, none] (gs_some (gs_some (gs_some (gs_some (gs_some (gs_some (gs_some (gs_some (gs_none (gs_some (gs_none (gs_some (gs_some (gs_none (gs_none (gs_none (gs_none (gs_none gs_nil)))))))))))))))))) ?_
                        refine g_goto C 125 dX9_follows_193 (by decide) ?_
                        refine g_lv [some _, some _, some _, some _, some _, some _, some _, some _, none, some _, none, some _, some _, none, none, none, none, none] (gs_some (gs_some (gs_some (gs_some (gs_some (gs_some (gs_some (gs_some (gs_none (gs_some (gs_none (gs_some (gs_some (gs_none (gs_none (gs_none (gs_none (gs_none gs_nil)))))))))))))))))) ?_
                        exact ih_125 (d + 1) _ (by omega) (by first | exact gAcc_0 ha c_162 (fun z => (gLet_s.mp z).1) | exact gAcc_f (fun z => h_177 (gLet_s.mp z).2) | exact gAcc_1 ha c_162 (fun z => gLet_s.mpr ⟨z, h_177⟩)) (by omega)
                      · refine g_aload_n C dX9_follows_165 rfl ?_
                        refine g_get C dX9_follows_166 iwX9 rfl (wO_M δ _) 16 (Nat.le_of_ble_eq_true rfl) mW588 rfl rfl ?_
                        refine g_iload C dX9_follows_169 rfl ?_
                        refine g_ialdN C dX9_follows_171 (k := d) (q := 57) (by decide) rfl (by first | rfl | assumption | (simp only [glit, nI_add, pk_mul]; done) | (simp only [glit, nI_add, pk_mul]; congr 1; omega) | (simp only [*, glit, nI_add, pk_mul]; congr 1; omega)) (show d < gLenI 57 from Nat.lt_of_lt_of_eq (show d < 4 by omega) rfl) ?_
                        rw [gI_uI, if_pos rfl, gGw_at]
                        refine g_i2l C dX9_follows_172 ?_
                        refine g_lconst (v := 0) C dX9_follows_173 (by decide) ?_
                        refine g_ldc2 C dX9_follows_174 mW696 ?_
                        refine g_callSi C sS_X9_62 dX9_follows_177 (c_X9_in _ δ _ _ _ _) ⟨by decide, by decide⟩ rfl rfl rfl (Nat.le_of_ble_eq_true rfl) (fun r_177 s_177 h_177 => ?_)
                        obtain ⟨rfl, h_177⟩ := h_177
                        rw [gin200] at h_177
                        rcases h_177 with ⟨rfl, h_177⟩ | ⟨rfl, h_177⟩
                        · skip
                          refine g_if_eq C 187 dX9_follows_180 (by decide) (fun c_180 => ?_) (fun c_180 => ?_)
                          · exact absurd c_180 (by decide)
                          · refine g_iconst (v := 1) C dX9_follows_183 (by decide) ?_
                            refine g_goto C 188 dX9_follows_184 (by decide) ?_
                            refine g_istore C dX9_follows_188 (Nat.le_of_ble_eq_true rfl) rfl ?_
                            refine g_lv [some _, some _, some _, some _, some _, some _, some _, some _, none, some _, none, some _, some _, none, none, none, none, none] (gs_some (gs_some (gs_some (gs_some (gs_some (gs_some (gs_some (gs_some (gs_none (gs_some (gs_none (gs_some (gs_some (gs_none (gs_none (gs_none (gs_none (gs_none gs_nil)))))))))))))))))) ?_
                            refine g_iinc (v := nI (d + 1)) C dX9_follows_190 rfl (ginc _ 1) rfl ?_
                            refine g_lv [some _, some _, some _, some _, some _, some _, some _, some _, none, some _, none, some _, some _, none, none, none, none, none] (gs_some (gs_some (gs_some (gs_some (gs_some (gs_some (gs_some (gs_some (gs_none (gs_some (gs_none (gs_some (gs_some (gs_none (gs_none (gs_none (gs_none (gs_none gs_nil)))))))))))))))))) ?_
                            refine g_goto C 125 dX9_follows_193 (by decide) ?_
                            refine g_lv [some _, some _, some _, some _, some _, some _, some _, some _, none, some _, none, some _, some _, none, none, none, none, none] (gs_some (gs_some (gs_some (gs_some (gs_some (gs_some (gs_some (gs_some (gs_none (gs_some (gs_none (gs_some (gs_some (gs_none (gs_none (gs_none (gs_none (gs_none gs_nil)))))))))))))))))) ?_
                            exact ih_125 (d + 1) _ (by omega) (by first | exact gAcc_0 ha c_162 (fun z => (gLet_s.mp z).1) | exact gAcc_f (fun z => h_177 (gLet_s.mp z).2) | exact gAcc_1 ha c_162 (fun z => gLet_s.mpr ⟨z, h_177⟩)) (by omega)
                        · skip
                          refine g_if_eq C 187 dX9_follows_180 (by decide) (fun c_180 => ?_) (fun c_180 => ?_)
                          · refine g_iconst (v := 0) C dX9_follows_187 (by decide) ?_
                            refine g_istore C dX9_follows_188 (Nat.le_of_ble_eq_true rfl) rfl ?_
                            refine g_lv [some _, some _, some _, some _, some _, some _, some _, some _, none, some _, none, some _, some _, none, none, none, none, none] (gs_some (gs_some (gs_some (gs_some (gs_some (gs_some (gs_some (gs_some (gs_none (gs_some (gs_none (gs_some (gs_some (gs_none (gs_none (gs_none (gs_none (gs_none gs_nil)))))))))))))))))) ?_
                            refine g_iinc (v := nI (d + 1)) C dX9_follows_190 rfl (ginc _ 1) rfl ?_
                            refine g_lv [some _, some _, some _, some _, some _, some _, some _, some _, none, some _, none, some _, some _, none, none, none, none, none] (gs_some (gs_some (gs_some (gs_some (gs_some (gs_some (gs_some (gs_some (gs_none (gs_some (gs_none (gs_some (gs_some (gs_none (gs_none (gs_none (gs_none (gs_none gs_nil)))))))))))))))))) ?_
                            refine g_goto C 125 dX9_follows_193 (by decide) ?_
                            refine g_lv [some _, some _, some _, some _, some _, some _, some _, some _, none, some _, none, some _, some _, none, none, none, none, none] (gs_some (gs_some (gs_some (gs_some (gs_some (gs_some (gs_some (gs_some (gs_none (gs_some (gs_none (gs_some (gs_some (gs_none (gs_none (gs_none (gs_none (gs_none gs_nil)))))))))))))))))) ?_
                            exact ih_125 (d + 1) _ (by omega) (by first | exact gAcc_0 ha c_162 (fun z => (gLet_s.mp z).1) | exact gAcc_f (fun z => h_177 (gLet_s.mp z).2) | exact gAcc_1 ha c_162 (fun z => gLet_s.mpr ⟨z, h_177⟩)) (by omega)
                          · exact absurd c_180 (by decide)
                refine g_lv [some _, some _, some _, some _, some _, some _, some _, some _, none, some _, none, some _, some _, none, none, none, none, none] (gs_some (gs_some (gs_some (gs_some (gs_some (gs_some (gs_some (gs_some (gs_none (gs_some (gs_none (gs_some (gs_some (gs_none (gs_none (gs_none (gs_none (gs_none gs_nil)))))))))))))))))) ?_
                refine g_st (σ' := uI s1 57 (gGw (gI s1 57) (mT σ u) (w / 4 ^ i % 4) 0)) (by rw [gGw_0]; exact (uI_id s1 57).symm) ?_
                exact L_125 _ 0 _ (by omega) (gAcc_i ha gLet_0.symm) (Nat.lt_succ_self _)
              refine g_lload C dX9_follows_108 rfl ?_
              refine g_lconst (v := 0) C dX9_follows_110 (by decide) ?_
              refine g_lcmp C dX9_follows_111 ?_
              refine g_if_le C 119 dX9_follows_112 (by decide) (fun c_112 => ?_) (fun c_112 => ?_)
              · rw [lg_cmp_le] at c_112
                refine g_iconst (v := 0) C dX9_follows_119 (by decide) ?_
                refine g_lv [some _, some _, some _, some _, some _, some _, some _, some _, none, some _, none, none, none, none, none, none, none, none] (gs_some (gs_some (gs_some (gs_some (gs_some (gs_some (gs_some (gs_some (gs_none (gs_some (gs_none (gs_none (gs_none (gs_none (gs_none (gs_none (gs_none (gs_none gs_nil)))))))))))))))))) ?_
                exact J_120 _ (by first | exact gAcc_t (gpos64 c_112) | exact gAcc_f (gneg64 c_112))
              · rw [lg_cmp_le] at c_112
                refine g_iconst (v := 1) C dX9_follows_115 (by decide) ?_
                refine g_goto C 120 dX9_follows_116 (by decide) ?_
                refine g_lv [some _, some _, some _, some _, some _, some _, some _, some _, none, some _, none, none, none, none, none, none, none, none] (gs_some (gs_some (gs_some (gs_some (gs_some (gs_some (gs_some (gs_some (gs_none (gs_some (gs_none (gs_none (gs_none (gs_none (gs_none (gs_none (gs_none (gs_none gs_nil)))))))))))))))))) ?_
                exact J_120 _ (by first | exact gAcc_t (gpos64 c_112) | exact gAcc_f (gneg64 c_112))
        refine g_lv [some _, some _, some _, some _, some _, some _, none, none, none, none, none, none, none, none, none, none, none, none] (gs_some (gs_some (gs_some (gs_some (gs_some (gs_some (gs_none (gs_none (gs_none (gs_none (gs_none (gs_none (gs_none (gs_none (gs_none (gs_none (gs_none (gs_none gs_nil)))))))))))))))))) ?_
        have e0 : nI w = nI (w / 4 ^ 0) := by rw [Nat.pow_zero, Nat.div_one]
        refine g_lv [some (.ref (δ.2.2.1 1)), some (.int (nI u)), some (.int (nI k)), some (.int (nI w)), some (.int (nI (w / 4 ^ 0))), some (.int (nI 0)), none, none, none, none, none, none, none, none, none, none, none, none] (by rw [← e0]; exact gs_some (gs_some (gs_some (gs_some (gs_some (gs_some (gs_none (gs_none (gs_none (gs_none (gs_none (gs_none (gs_none (gs_none (gs_none (gs_none (gs_none (gs_none gs_nil)))))))))))))))))) ?_
        exact L_50 _ 0 _ (by omega) (by repeat (first | (with_reducible assumption) | (with_reducible exact gSm_r _) | (with_reducible refine gSm_I (by omega) ?_) | (with_reducible refine gSm_L (by omega) ?_) | (with_reducible refine gSm_N (by omega) ?_) | (with_reducible refine gSm_G (by omega) ?_) | (with_reducible refine gSm_P ?_))) (fun _ => rfl) (qOn_0 _ _ _) (fun j hj => by rw [gI_uI, if_pos rfl]; exact hb0 j hj) rfl rfl (Nat.lt_succ_self _)
      · have k_16 := gnle c_16 (a := 4) (b := d) (by first | rfl | assumption | (simp only [glit, nI_add, pk_mul]; done) | (simp only [glit, nI_add, pk_mul]; congr 1; omega) | (simp only [*, glit, nI_add, pk_mul]; congr 1; omega)) (by first | rfl | assumption | (simp only [glit, nI_add, pk_mul]; done) | (simp only [glit, nI_add, pk_mul]; congr 1; omega) | (simp only [*, glit, nI_add, pk_mul]; congr 1; omega)) (by omega) (by omega)
        refine g_aload_n C dX9_follows_19 rfl ?_
        refine g_get C dX9_follows_20 iwX9 rfl (wO_M δ _) 16 (Nat.le_of_ble_eq_true rfl) mW588 rfl rfl ?_
        refine g_iload C dX9_follows_23 rfl ?_
        refine g_aload_n C dX9_follows_25 rfl ?_
        refine g_get C dX9_follows_26 iwX9 rfl (wO_M δ _) 6 (Nat.le_of_ble_eq_true rfl) mW578 rfl rfl ?_
        refine g_bipush (v := 25) C dX9_follows_29 (by decide) ?_
        refine g_iload_n C dX9_follows_31 rfl ?_
        refine g_imul C dX9_follows_32 ?_
        refine g_iload C dX9_follows_33 rfl ?_
        refine g_iadd C dX9_follows_35 ?_
        refine g_ialdN C dX9_follows_36 (k := ((25 * u) + d)) (q := 53) (by decide) rfl (by first | rfl | assumption | (simp only [glit, nI_add, pk_mul]; done) | (simp only [glit, nI_add, pk_mul]; congr 1; omega) | (simp only [*, glit, nI_add, pk_mul]; congr 1; omega)) (show ((25 * u) + d) < gLenI 53 from Nat.lt_of_lt_of_eq (show ((25 * u) + d) < 202 by omega) rfl) ?_
        refine g_iastN C dX9_follows_37 (k := d) (q := 57) (by decide) rfl (by first | rfl | assumption | (simp only [glit, nI_add, pk_mul]; done) | (simp only [glit, nI_add, pk_mul]; congr 1; omega) | (simp only [*, glit, nI_add, pk_mul]; congr 1; omega)) (show d < gLenI 57 from Nat.lt_of_lt_of_eq (show d < 4 by omega) rfl) ?_
        refine g_iinc (v := nI (d + 1)) C dX9_follows_38 rfl (ginc _ 1) rfl ?_
        refine g_lv [some _, some _, some _, some _, some _, none, none, none, none, none, none, none, none, none, none, none, none, none] (gs_some (gs_some (gs_some (gs_some (gs_some (gs_none (gs_none (gs_none (gs_none (gs_none (gs_none (gs_none (gs_none (gs_none (gs_none (gs_none (gs_none (gs_none gs_nil)))))))))))))))))) ?_
        refine g_goto C 13 dX9_follows_41 (by decide) ?_
        refine g_lv [some _, some _, some _, some _, some _, none, none, none, none, none, none, none, none, none, none, none, none, none] (gs_some (gs_some (gs_some (gs_some (gs_some (gs_none (gs_none (gs_none (gs_none (gs_none (gs_none (gs_none (gs_none (gs_none (gs_none (gs_none (gs_none (gs_none gs_nil)))))))))))))))))) ?_
        rw [uI_uI, gI_uI, if_pos rfl]
        exact ih_13 (d + 1) _ (by omega) (fun j h => gfilI hf2 rfl h) (by omega)
  refine g_lv [some _, some _, some _, some _, some _, none, none, none, none, none, none, none, none, none, none, none, none, none] (gs_some (gs_some (gs_some (gs_some (gs_some (gs_none (gs_none (gs_none (gs_none (gs_none (gs_none (gs_none (gs_none (gs_none (gs_none (gs_none (gs_none (gs_none gs_nil)))))))))))))))))) ?_
  refine g_st (uI_id _ 57).symm ?_
  exact L_13 _ 0 _ (by omega) (fun _ h => absurd h (Nat.not_lt_zero _)) (Nat.lt_succ_self _)
set_option maxRecDepth 100000 in
set_option maxHeartbeats 4000000 in
theorem c_X9_chancea (l : Launch) (δ : GD) (σ : GS) (a0 a1 a2 : Int32) {v : GV} (K : KM σ v) (R : RV v) : gM l δ yX9_chance cX9_chance 5 (some .int) 2 66 [.ref (δ.2.2.1 1), .int a0, .int a1, .int a2] σ (gPi (fun x σ' => x = aChance v a0 a1 a2 ∧ gSm σ σ')) := by
  refine g_of (lv0 := [some (.ref (δ.2.2.1 1)), some (.int a0), some (.int a1), some (.int a2), none]) (by decide) rfl (Nat.le_of_ble_eq_true rfl) (fun Γ hl C E => ?_)
  subst hl
  have C : gC Γ δ cX9_chance RX9 5 2 66 := C
  have hm := K.1
  have h8 := R.1
  refine g_aload_n C dX9_chance_0 rfl ?_
  refine g_iload_n C dX9_chance_1 rfl ?_
  refine g_callVi C sV_X9_89 dX9_chance_2 (c_X9_isUrn _ δ _ _ hm h8) ⟨by decide, by decide⟩ (wO_M δ _) rfl rfl rfl rfl (Nat.le_of_ble_eq_true rfl) (fun r_2 s_2 h_2 => ?_)
  obtain ⟨rfl, h_2⟩ := h_2
  rcases h_2 with ⟨rfl, h_2⟩ | ⟨rfl, h_2⟩
  · obtain ⟨u1, hu1, rfl⟩ := id h_2
    have hu8 : u1 < 8 := by omega
    obtain ⟨h2, h4⟩ := (R.2.1 u1 hu8).1 hu1
    have hn := K.2.1 u1 hu8
    refine g_if_eq C 24 dX9_chance_5 (by decide) (fun c_5 => ?_) (fun c_5 => ?_)
    · exact absurd c_5 (by decide)
    · refine g_iload_n C dX9_chance_8 rfl ?_
      refine g_i2l C dX9_chance_9 ?_
      refine g_lconst (v := 0) C dX9_chance_10 (by decide) ?_
      refine g_ldc2 C dX9_chance_11 mW792 ?_
      refine g_callSi C sS_X9_62 dX9_chance_14 (c_X9_in _ δ _ _ _ _) ⟨by decide, by decide⟩ rfl rfl rfl (Nat.le_of_ble_eq_true rfl) (fun r_14 s_14 h_14 => ?_)
      obtain ⟨rfl, h_14⟩ := h_14
      rw [gInL_ix (m := 13) (by omega) (by decide)] at h_14
      rcases h_14 with ⟨rfl, h_14⟩ | ⟨rfl, h_14⟩
      · obtain ⟨k1, hk1, rfl⟩ := id h_14
        refine g_if_eq C 24 dX9_chance_17 (by decide) (fun c_17 => ?_) (fun c_17 => ?_)
        · exact absurd c_17 (by decide)
        · refine g_iload_n C dX9_chance_20 rfl ?_
          refine g_if_ge C 26 dX9_chance_21 (by decide) (fun c_21 => ?_) (fun c_21 => ?_)
          · obtain ⟨w1, hw1, rfl⟩ := nI_of (Int32.not_lt.mpr c_21)
            refine g_iconst (v := 0) C dX9_chance_26 (by decide) ?_
            refine g_istore C dX9_chance_27 (Nat.le_of_ble_eq_true rfl) rfl ?_
            refine g_lv [some _, some _, some _, some _, some _] (gs_some (gs_some (gs_some (gs_some (gs_some gs_nil))))) ?_
            have L_29 : ∀ (nn : Nat) (i : Nat) (hi : i ≤ k1) (hd : ∀ j, j < i → gDig w1 j < vC v u1), k1 - i < nn → gW Γ δ σ 29 [some (.ref (δ.2.2.1 1)), some (.int (nI u1)), some (.int (nI k1)), some (.int (nI w1)), some (.int (nI i))] [] := by
              intro nn
              induction nn with
              | zero =>
                intro i hi hd hm_29
                exact absurd hm_29 (Nat.not_lt_zero _)
              | succ nn ih_29 =>
                intro i hi hd hm_29
                refine g_iload C dX9_chance_29 rfl ?_
                refine g_iload_n C dX9_chance_31 rfl ?_
                refine g_icmp_ge C 60 dX9_chance_32 (by decide) (fun c_32 => ?_) (fun c_32 => ?_)
                · have k_32 := gle c_32 (a := k1) (b := i) (by first | rfl | assumption | (simp only [glit, nI_add, pk_mul]; done) | (simp only [glit, nI_add, pk_mul]; congr 1; omega) | (simp only [*, glit, nI_add, pk_mul]; congr 1; omega)) (by first | rfl | assumption | (simp only [glit, nI_add, pk_mul]; done) | (simp only [glit, nI_add, pk_mul]; congr 1; omega) | (simp only [*, glit, nI_add, pk_mul]; congr 1; omega)) (by omega) (by omega)
                  have ek : k1 = i := by omega
                  subst ek
                  refine g_iload_n C dX9_chance_60 rfl ?_
                  refine g_if_le C 75 dX9_chance_61 (by decide) (fun c_61 => ?_) (fun c_61 => ?_)
                  · refine g_aload_n C dX9_chance_75 rfl ?_
                    refine g_iload_n C dX9_chance_76 rfl ?_
                    refine g_iload_n C dX9_chance_77 rfl ?_
                    refine g_iload_n C dX9_chance_78 rfl ?_
                    refine g_callVi C sV_X9_170 dX9_chance_79 (c_X9_followsa _ δ _ hu8 (k := k1) (w := w1) (by omega) hw1 K R) ⟨by decide, by decide⟩ (wO_M δ _) rfl rfl rfl rfl (Nat.le_of_ble_eq_true rfl) (fun r_79 s_79 h_79 => ?_)
                    obtain ⟨z_79, -, h_79⟩ := h_79
                    rcases h_79 with ⟨rfl, h_79⟩ | ⟨rfl, h_79⟩ | ⟨rfl, h_79⟩
                    · have nb := qOn_n h_79.1
                      have nz : ¬ gG s_79 14 = 0 := by rw [h_79.2.2]; have q := (qF_b (VS_B2 R.2.2.1 hu8) k1 h_79.1).2; exact lNz q.1 (by omega)
                      refine g_if_eq C 100 dX9_chance_82 (by decide) (fun c_82 => ?_) (fun c_82 => ?_)
                      · exact absurd c_82 (by decide)
                      · refine g_aload_n C dX9_chance_85 rfl ?_
                        refine g_aload_n C dX9_chance_86 rfl ?_
                        refine g_get C dX9_chance_87 iwX9 rfl (wO_M δ _) 17 (Nat.le_of_ble_eq_true rfl) mW589 rfl rfl ?_
                        refine g_aload_n C dX9_chance_90 rfl ?_
                        refine g_get C dX9_chance_91 iwX9 rfl (wO_M δ _) 18 (Nat.le_of_ble_eq_true rfl) mW590 rfl rfl ?_
                        refine g_callVi C sV_X9_174 dX9_chance_94 (c_X9_tells _ δ _ _ _ nz) ⟨by decide, by decide⟩ (wO_M δ _) rfl rfl rfl rfl (Nat.le_of_ble_eq_true rfl) (fun r_94 s_94 h_94 => ?_)
                        obtain ⟨rfl, h_94⟩ := h_94
                        have z_94 : gSm σ s_94 := gSm_t (by repeat (first | (with_reducible assumption) | (with_reducible exact gSm_r _) | (with_reducible refine gSm_I (by omega) ?_) | (with_reducible refine gSm_L (by omega) ?_) | (with_reducible refine gSm_N (by omega) ?_) | (with_reducible refine gSm_G (by omega) ?_) | (with_reducible refine gSm_P ?_))) h_94
                        refine g_goto C 102 dX9_chance_97 (by decide) ?_
                        exact g_iret C E dX9_chance_102 rfl rfl ⟨_, rfl, ⟨(by first | exact ((aChance_at hu1 hu8 hk1 hw1 hd).trans ((gIf_f (by first | exact fun z => c_69 z.2 | exact fun z => Int32.not_lt.mpr c_61 z.1)).trans (gIf_f nb))).symm | exact ((aChance_at hu1 hu8 hk1 hw1 hd).trans ((gIf_f (by first | exact fun z => c_69 z.2 | exact fun z => Int32.not_lt.mpr c_61 z.1)).trans (gIf_t h_79))).symm), (by repeat (first | (with_reducible assumption) | (with_reducible exact gSm_r _) | (with_reducible refine gSm_I (by omega) ?_) | (with_reducible refine gSm_L (by omega) ?_) | (with_reducible refine gSm_N (by omega) ?_) | (with_reducible refine gSm_G (by omega) ?_) | (with_reducible refine gSm_P ?_)))⟩⟩
                    · have nb := qStk_n h_79.1
                      have nz : ¬ gG s_79 14 = 0 := by rw [h_79.2.2]; decide
                      refine g_if_eq C 100 dX9_chance_82 (by decide) (fun c_82 => ?_) (fun c_82 => ?_)
                      · exact absurd c_82 (by decide)
                      · refine g_aload_n C dX9_chance_85 rfl ?_
                        refine g_aload_n C dX9_chance_86 rfl ?_
                        refine g_get C dX9_chance_87 iwX9 rfl (wO_M δ _) 17 (Nat.le_of_ble_eq_true rfl) mW589 rfl rfl ?_
                        refine g_aload_n C dX9_chance_90 rfl ?_
                        refine g_get C dX9_chance_91 iwX9 rfl (wO_M δ _) 18 (Nat.le_of_ble_eq_true rfl) mW590 rfl rfl ?_
                        refine g_callVi C sV_X9_174 dX9_chance_94 (c_X9_tells _ δ _ _ _ nz) ⟨by decide, by decide⟩ (wO_M δ _) rfl rfl rfl rfl (Nat.le_of_ble_eq_true rfl) (fun r_94 s_94 h_94 => ?_)
                        obtain ⟨rfl, h_94⟩ := h_94
                        have z_94 : gSm σ s_94 := gSm_t (by repeat (first | (with_reducible assumption) | (with_reducible exact gSm_r _) | (with_reducible refine gSm_I (by omega) ?_) | (with_reducible refine gSm_L (by omega) ?_) | (with_reducible refine gSm_N (by omega) ?_) | (with_reducible refine gSm_G (by omega) ?_) | (with_reducible refine gSm_P ?_))) h_94
                        refine g_goto C 102 dX9_chance_97 (by decide) ?_
                        exact g_iret C E dX9_chance_102 rfl rfl ⟨_, rfl, ⟨(by first | exact ((aChance_at hu1 hu8 hk1 hw1 hd).trans ((gIf_f (by first | exact fun z => c_69 z.2 | exact fun z => Int32.not_lt.mpr c_61 z.1)).trans (gIf_f nb))).symm | exact ((aChance_at hu1 hu8 hk1 hw1 hd).trans ((gIf_f (by first | exact fun z => c_69 z.2 | exact fun z => Int32.not_lt.mpr c_61 z.1)).trans (gIf_t h_79))).symm), (by repeat (first | (with_reducible assumption) | (with_reducible exact gSm_r _) | (with_reducible refine gSm_I (by omega) ?_) | (with_reducible refine gSm_L (by omega) ?_) | (with_reducible refine gSm_N (by omega) ?_) | (with_reducible refine gSm_G (by omega) ?_) | (with_reducible refine gSm_P ?_)))⟩⟩
                    · skip
                      refine g_if_eq C 100 dX9_chance_82 (by decide) (fun c_82 => ?_) (fun c_82 => ?_)
                      · refine g_bipush (v := (-6)) C dX9_chance_100 (by decide) ?_
                        exact g_iret C E dX9_chance_102 rfl rfl ⟨_, rfl, ⟨(by first | exact ((aChance_at hu1 hu8 hk1 hw1 hd).trans ((gIf_f (by first | exact fun z => c_69 z.2 | exact fun z => Int32.not_lt.mpr c_61 z.1)).trans (gIf_f nb))).symm | exact ((aChance_at hu1 hu8 hk1 hw1 hd).trans ((gIf_f (by first | exact fun z => c_69 z.2 | exact fun z => Int32.not_lt.mpr c_61 z.1)).trans (gIf_t h_79))).symm), (by repeat (first | (with_reducible assumption) | (with_reducible exact gSm_r _) | (with_reducible refine gSm_I (by omega) ?_) | (with_reducible refine gSm_L (by omega) ?_) | (with_reducible refine gSm_N (by omega) ?_) | (with_reducible refine gSm_G (by omega) ?_) | (with_reducible refine gSm_P ?_)))⟩⟩
                      · exact absurd c_82 (by decide)
                  · refine g_aload_n C dX9_chance_64 rfl ?_
                    refine g_iload_n C dX9_chance_65 rfl ?_
                    refine g_callVi C sV_X9_113 dX9_chance_66 (c_X9_balls _ δ _ hu8) ⟨by decide, by decide⟩ (wO_M δ _) rfl rfl rfl rfl (Nat.le_of_ble_eq_true rfl) (fun r_66 s_66 h_66 => ?_)
                    obtain ⟨rfl, rfl⟩ := h_66
                    rw [KM_sum K hu8]
                    refine g_if_ne C 75 dX9_chance_69 (by decide) (fun c_69 => ?_) (fun c_69 => ?_)
                    · refine g_aload_n C dX9_chance_75 rfl ?_
                      refine g_iload_n C dX9_chance_76 rfl ?_
                      refine g_iload_n C dX9_chance_77 rfl ?_
                      refine g_iload_n C dX9_chance_78 rfl ?_
                      refine g_callVi C sV_X9_170 dX9_chance_79 (c_X9_followsa _ δ _ hu8 (k := k1) (w := w1) (by omega) hw1 K R) ⟨by decide, by decide⟩ (wO_M δ _) rfl rfl rfl rfl (Nat.le_of_ble_eq_true rfl) (fun r_79 s_79 h_79 => ?_)
                      obtain ⟨z_79, -, h_79⟩ := h_79
                      rcases h_79 with ⟨rfl, h_79⟩ | ⟨rfl, h_79⟩ | ⟨rfl, h_79⟩
                      · have nb := qOn_n h_79.1
                        have nz : ¬ gG s_79 14 = 0 := by rw [h_79.2.2]; have q := (qF_b (VS_B2 R.2.2.1 hu8) k1 h_79.1).2; exact lNz q.1 (by omega)
                        refine g_if_eq C 100 dX9_chance_82 (by decide) (fun c_82 => ?_) (fun c_82 => ?_)
                        · exact absurd c_82 (by decide)
                        · refine g_aload_n C dX9_chance_85 rfl ?_
                          refine g_aload_n C dX9_chance_86 rfl ?_
                          refine g_get C dX9_chance_87 iwX9 rfl (wO_M δ _) 17 (Nat.le_of_ble_eq_true rfl) mW589 rfl rfl ?_
                          refine g_aload_n C dX9_chance_90 rfl ?_
                          refine g_get C dX9_chance_91 iwX9 rfl (wO_M δ _) 18 (Nat.le_of_ble_eq_true rfl) mW590 rfl rfl ?_
                          refine g_callVi C sV_X9_174 dX9_chance_94 (c_X9_tells _ δ _ _ _ nz) ⟨by decide, by decide⟩ (wO_M δ _) rfl rfl rfl rfl (Nat.le_of_ble_eq_true rfl) (fun r_94 s_94 h_94 => ?_)
                          obtain ⟨rfl, h_94⟩ := h_94
                          have z_94 : gSm σ s_94 := gSm_t (by repeat (first | (with_reducible assumption) | (with_reducible exact gSm_r _) | (with_reducible refine gSm_I (by omega) ?_) | (with_reducible refine gSm_L (by omega) ?_) | (with_reducible refine gSm_N (by omega) ?_) | (with_reducible refine gSm_G (by omega) ?_) | (with_reducible refine gSm_P ?_))) h_94
                          refine g_goto C 102 dX9_chance_97 (by decide) ?_
                          exact g_iret C E dX9_chance_102 rfl rfl ⟨_, rfl, ⟨(by first | exact ((aChance_at hu1 hu8 hk1 hw1 hd).trans ((gIf_f (by first | exact fun z => c_69 z.2 | exact fun z => Int32.not_lt.mpr c_61 z.1)).trans (gIf_f nb))).symm | exact ((aChance_at hu1 hu8 hk1 hw1 hd).trans ((gIf_f (by first | exact fun z => c_69 z.2 | exact fun z => Int32.not_lt.mpr c_61 z.1)).trans (gIf_t h_79))).symm), (by repeat (first | (with_reducible assumption) | (with_reducible exact gSm_r _) | (with_reducible refine gSm_I (by omega) ?_) | (with_reducible refine gSm_L (by omega) ?_) | (with_reducible refine gSm_N (by omega) ?_) | (with_reducible refine gSm_G (by omega) ?_) | (with_reducible refine gSm_P ?_)))⟩⟩
                      · have nb := qStk_n h_79.1
                        have nz : ¬ gG s_79 14 = 0 := by rw [h_79.2.2]; decide
                        refine g_if_eq C 100 dX9_chance_82 (by decide) (fun c_82 => ?_) (fun c_82 => ?_)
                        · exact absurd c_82 (by decide)
                        · refine g_aload_n C dX9_chance_85 rfl ?_
                          refine g_aload_n C dX9_chance_86 rfl ?_
                          refine g_get C dX9_chance_87 iwX9 rfl (wO_M δ _) 17 (Nat.le_of_ble_eq_true rfl) mW589 rfl rfl ?_
                          refine g_aload_n C dX9_chance_90 rfl ?_
                          refine g_get C dX9_chance_91 iwX9 rfl (wO_M δ _) 18 (Nat.le_of_ble_eq_true rfl) mW590 rfl rfl ?_
                          refine g_callVi C sV_X9_174 dX9_chance_94 (c_X9_tells _ δ _ _ _ nz) ⟨by decide, by decide⟩ (wO_M δ _) rfl rfl rfl rfl (Nat.le_of_ble_eq_true rfl) (fun r_94 s_94 h_94 => ?_)
                          obtain ⟨rfl, h_94⟩ := h_94
                          have z_94 : gSm σ s_94 := gSm_t (by repeat (first | (with_reducible assumption) | (with_reducible exact gSm_r _) | (with_reducible refine gSm_I (by omega) ?_) | (with_reducible refine gSm_L (by omega) ?_) | (with_reducible refine gSm_N (by omega) ?_) | (with_reducible refine gSm_G (by omega) ?_) | (with_reducible refine gSm_P ?_))) h_94
                          refine g_goto C 102 dX9_chance_97 (by decide) ?_
                          exact g_iret C E dX9_chance_102 rfl rfl ⟨_, rfl, ⟨(by first | exact ((aChance_at hu1 hu8 hk1 hw1 hd).trans ((gIf_f (by first | exact fun z => c_69 z.2 | exact fun z => Int32.not_lt.mpr c_61 z.1)).trans (gIf_f nb))).symm | exact ((aChance_at hu1 hu8 hk1 hw1 hd).trans ((gIf_f (by first | exact fun z => c_69 z.2 | exact fun z => Int32.not_lt.mpr c_61 z.1)).trans (gIf_t h_79))).symm), (by repeat (first | (with_reducible assumption) | (with_reducible exact gSm_r _) | (with_reducible refine gSm_I (by omega) ?_) | (with_reducible refine gSm_L (by omega) ?_) | (with_reducible refine gSm_N (by omega) ?_) | (with_reducible refine gSm_G (by omega) ?_) | (with_reducible refine gSm_P ?_)))⟩⟩
                      · skip
                        refine g_if_eq C 100 dX9_chance_82 (by decide) (fun c_82 => ?_) (fun c_82 => ?_)
                        · refine g_bipush (v := (-6)) C dX9_chance_100 (by decide) ?_
                          exact g_iret C E dX9_chance_102 rfl rfl ⟨_, rfl, ⟨(by first | exact ((aChance_at hu1 hu8 hk1 hw1 hd).trans ((gIf_f (by first | exact fun z => c_69 z.2 | exact fun z => Int32.not_lt.mpr c_61 z.1)).trans (gIf_f nb))).symm | exact ((aChance_at hu1 hu8 hk1 hw1 hd).trans ((gIf_f (by first | exact fun z => c_69 z.2 | exact fun z => Int32.not_lt.mpr c_61 z.1)).trans (gIf_t h_79))).symm), (by repeat (first | (with_reducible assumption) | (with_reducible exact gSm_r _) | (with_reducible refine gSm_I (by omega) ?_) | (with_reducible refine gSm_L (by omega) ?_) | (with_reducible refine gSm_N (by omega) ?_) | (with_reducible refine gSm_G (by omega) ?_) | (with_reducible refine gSm_P ?_)))⟩⟩
                        · exact absurd c_82 (by decide)
                    · refine g_bipush (v := (-2)) C dX9_chance_72 (by decide) ?_
                      exact g_iret C E dX9_chance_74 rfl rfl ⟨_, rfl, ⟨((aChance_at hu1 hu8 hk1 hw1 hd).trans (gIf_t ⟨Int32.not_le.mp c_61, c_69⟩)).symm, (by repeat (first | (with_reducible assumption) | (with_reducible exact gSm_r _) | (with_reducible refine gSm_I (by omega) ?_) | (with_reducible refine gSm_L (by omega) ?_) | (with_reducible refine gSm_N (by omega) ?_) | (with_reducible refine gSm_G (by omega) ?_) | (with_reducible refine gSm_P ?_)))⟩⟩
                · have k_32 := gnle c_32 (a := k1) (b := i) (by first | rfl | assumption | (simp only [glit, nI_add, pk_mul]; done) | (simp only [glit, nI_add, pk_mul]; congr 1; omega) | (simp only [*, glit, nI_add, pk_mul]; congr 1; omega)) (by first | rfl | assumption | (simp only [glit, nI_add, pk_mul]; done) | (simp only [glit, nI_add, pk_mul]; congr 1; omega) | (simp only [*, glit, nI_add, pk_mul]; congr 1; omega)) (by omega) (by omega)
                  refine g_iload_n C dX9_chance_35 rfl ?_
                  refine g_iconst (v := 2) C dX9_chance_36 (by decide) ?_
                  refine g_iload C dX9_chance_37 rfl ?_
                  refine g_imul C dX9_chance_39 ?_
                  refine g_ishr C dX9_chance_40 ?_
                  rw [gshrk hw1 (by omega)]
                  refine g_iconst (v := 3) C dX9_chance_41 (by decide) ?_
                  refine g_iand C dX9_chance_42 ?_
                  rw [gand3 (by have := Nat.div_le_self w1 (4 ^ i); omega)]
                  refine g_aload_n C dX9_chance_43 rfl ?_
                  refine g_get C dX9_chance_44 iwX9 rfl (wO_M δ _) 5 (Nat.le_of_ble_eq_true rfl) mW577 rfl rfl ?_
                  refine g_iload_n C dX9_chance_47 rfl ?_
                  refine g_ialdN C dX9_chance_48 (k := u1) (q := 52) (by decide) rfl (by first | rfl | assumption | (simp only [glit, nI_add, pk_mul]; done) | (simp only [glit, nI_add, pk_mul]; congr 1; omega) | (simp only [*, glit, nI_add, pk_mul]; congr 1; omega)) (show u1 < gLenI 52 from Nat.lt_of_lt_of_eq (show u1 < 8 by omega) rfl) ?_
                  rw [hn]
                  refine g_icmp_lt C 54 dX9_chance_49 (by decide) (fun c_49 => ?_) (fun c_49 => ?_)
                  · have hx : gDig w1 i < vC v u1 := (nI_ltI (a := w1 / 4 ^ i % 4) (b := vC v u1) (by have := Nat.mod_lt (w1 / 4 ^ i) (show 0 < 4 by decide); omega) (by omega)).mp c_49
                    refine g_iinc (v := nI (i + 1)) C dX9_chance_54 rfl (ginc _ 1) rfl ?_
                    refine g_lv [some _, some _, some _, some _, some _] (gs_some (gs_some (gs_some (gs_some (gs_some gs_nil))))) ?_
                    refine g_goto C 29 dX9_chance_57 (by decide) ?_
                    refine g_lv [some _, some _, some _, some _, some _] (gs_some (gs_some (gs_some (gs_some (gs_some gs_nil))))) ?_
                    exact ih_29 (i + 1) (by omega) (fun j h => (Nat.lt_succ_iff_lt_or_eq.mp h).elim (fun h => hd j h) (fun h => by rw [h]; exact hx)) (by omega)
                  · have hx : ¬ gDig w1 i < vC v u1 := fun z => c_49 ((nI_ltI (a := w1 / 4 ^ i % 4) (b := vC v u1) (by have := Nat.mod_lt (w1 / 4 ^ i) (show 0 < 4 by decide); omega) (by omega)).mpr z)
                    refine g_iconst (v := (-1)) C dX9_chance_52 (by decide) ?_
                    exact g_iret C E dX9_chance_53 rfl rfl ⟨_, rfl, ⟨(gIf_f (fun z => hx (by have q := z.2 i (by rw [nU_n (by omega)]; omega); rw [nU_n hw1, nU_n (by omega)] at q; exact q))).symm, (by repeat (first | (with_reducible assumption) | (with_reducible exact gSm_r _) | (with_reducible refine gSm_I (by omega) ?_) | (with_reducible refine gSm_L (by omega) ?_) | (with_reducible refine gSm_N (by omega) ?_) | (with_reducible refine gSm_G (by omega) ?_) | (with_reducible refine gSm_P ?_)))⟩⟩
            refine g_lv [some _, some _, some _, some _, some _] (gs_some (gs_some (gs_some (gs_some (gs_some gs_nil))))) ?_
            exact L_29 _ 0 (by omega) (fun _ h => absurd h (Nat.not_lt_zero _)) (Nat.lt_succ_self _)
          · refine g_iconst (v := (-1)) C dX9_chance_24 (by decide) ?_
            exact g_iret C E dX9_chance_25 rfl rfl ⟨_, rfl, ⟨(by first | exact (gIf_f (fun z => h_2 z.1.1)).symm | exact (gIf_f (fun z => h_14 z.1.2.1)).symm | exact (gIf_f (fun z => c_21 z.1.2.2)).symm), (by repeat (first | (with_reducible assumption) | (with_reducible exact gSm_r _) | (with_reducible refine gSm_I (by omega) ?_) | (with_reducible refine gSm_L (by omega) ?_) | (with_reducible refine gSm_N (by omega) ?_) | (with_reducible refine gSm_G (by omega) ?_) | (with_reducible refine gSm_P ?_)))⟩⟩
      · skip
        refine g_if_eq C 24 dX9_chance_17 (by decide) (fun c_17 => ?_) (fun c_17 => ?_)
        · refine g_iconst (v := (-1)) C dX9_chance_24 (by decide) ?_
          exact g_iret C E dX9_chance_25 rfl rfl ⟨_, rfl, ⟨(by first | exact (gIf_f (fun z => h_2 z.1.1)).symm | exact (gIf_f (fun z => h_14 z.1.2.1)).symm | exact (gIf_f (fun z => c_21 z.1.2.2)).symm), (by repeat (first | (with_reducible assumption) | (with_reducible exact gSm_r _) | (with_reducible refine gSm_I (by omega) ?_) | (with_reducible refine gSm_L (by omega) ?_) | (with_reducible refine gSm_N (by omega) ?_) | (with_reducible refine gSm_G (by omega) ?_) | (with_reducible refine gSm_P ?_)))⟩⟩
        · exact absurd c_17 (by decide)
  · skip
    refine g_if_eq C 24 dX9_chance_5 (by decide) (fun c_5 => ?_) (fun c_5 => ?_)
    · refine g_iconst (v := (-1)) C dX9_chance_24 (by decide) ?_
      exact g_iret C E dX9_chance_25 rfl rfl ⟨_, rfl, ⟨(by first | exact (gIf_f (fun z => h_2 z.1.1)).symm | exact (gIf_f (fun z => h_14 z.1.2.1)).symm | exact (gIf_f (fun z => c_21 z.1.2.2)).symm), (by repeat (first | (with_reducible assumption) | (with_reducible exact gSm_r _) | (with_reducible refine gSm_I (by omega) ?_) | (with_reducible refine gSm_L (by omega) ?_) | (with_reducible refine gSm_N (by omega) ?_) | (with_reducible refine gSm_G (by omega) ?_) | (with_reducible refine gSm_P ?_)))⟩⟩
    · exact absurd c_5 (by decide)
