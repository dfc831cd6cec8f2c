set_option maxRecDepth 100000 in
set_option maxHeartbeats 4000000 in
theorem c_X5_comeTimesb (l : Launch) (δ : GD) (σ : GS) {a b m n : Nat} (ok : qOk a b m n) (e1 : gG σ 4 = lN a) (e2 : gG σ 5 = lN b) : gM l δ yX5_comeTimes cX5_comeTimes 13 (some .boolean) 1 30 [.ref (δ.2.2.1 18), .int (nI m), .int (nI n)] σ (gPi (fun x σ' => gSr σ σ' ∧ gI σ' 46 = gI σ 46 ∧ (∀ q, gL σ' q = gL σ q) ∧ ((x = 1 ∧ ((qS a b m n).1 ≤ 1000000000000000000 ∧ (qS a b m n).2 ≤ 1000000000000000000) ∧ gG σ' 4 = lN (qS a b m n).1 ∧ gG σ' 5 = lN (qS a b m n).2) ∨ (x = 0 ∧ (1000000000000000000 < (qS a b m n).1 ∨ 1000000000000000000 < (qS a b m n).2))))) := by
  refine g_of (lv0 := [some (.ref (δ.2.2.1 18)), some (.int (nI m)), some (.int (nI n)), none, none, none, none, none, none, none, none, none, none]) (by decide) rfl (Nat.le_of_ble_eq_true rfl) (fun Γ hl C E => ?_)
  subst hl
  have C : gC Γ δ cX5_comeTimes RX5 13 1 30 := C
  obtain ⟨p1, p2, p3⟩ := qM_b ok
  obtain ⟨⟨q1, q2, q3⟩, q4, q5, q6⟩ := qS_b ok
  obtain ⟨o1, o2, o3, o4⟩ := id ok
  refine g_iload_n C dX5_comeTimes_0 rfl ?_
  refine g_i2l C dX5_comeTimes_1 ?_
  rw [nI_l (by omega)]
  refine g_iload_n C dX5_comeTimes_2 rfl ?_
  refine g_i2l C dX5_comeTimes_3 ?_
  rw [nI_l (by omega)]
  refine g_callNl C sN_X5_43 C.2.2.2.2.2.2.2.2.1.1 dX5_comeTimes_4 (c_X8_commona _ δ _ (m := m) (n := n) (by omega) (by omega) (by omega)) ⟨by decide, by decide⟩ rfl rfl rfl (Nat.le_of_ble_eq_true rfl) (fun r_4 s_4 h_4 => ?_)
  obtain ⟨rfl, rfl⟩ := h_4
  refine g_lstore_n C dX5_comeTimes_7 (Nat.le_of_ble_eq_true rfl) rfl ?_
  refine g_lv [some _, some _, some _, some _, none, none, none, none, none, none, none, none, none] (gs_some (gs_some (gs_some (gs_some (gs_none (gs_none (gs_none (gs_none (gs_none (gs_none (gs_none (gs_none (gs_none gs_nil))))))))))))) ?_
  refine g_iload_n C dX5_comeTimes_8 rfl ?_
  refine g_i2l C dX5_comeTimes_9 ?_
  rw [nI_l (by omega)]
  refine g_lload_n C dX5_comeTimes_10 rfl ?_
  refine g_ldiv C dX5_comeTimes_11 (lNz p1.1 (by omega)) ?_
  rw [pk_lDiv (by omega) (by omega) (by omega), show m / Nat.gcd m n = qM m n from rfl]
  refine g_lstore C dX5_comeTimes_12 (Nat.le_of_ble_eq_true rfl) rfl ?_
  refine g_lv [some _, some _, some _, some _, none, some _, none, none, none, none, none, none, none] (gs_some (gs_some (gs_some (gs_some (gs_none (gs_some (gs_none (gs_none (gs_none (gs_none (gs_none (gs_none (gs_none gs_nil))))))))))))) ?_
  refine g_iload_n C dX5_comeTimes_14 rfl ?_
  refine g_i2l C dX5_comeTimes_15 ?_
  rw [nI_l (by omega)]
  refine g_lload_n C dX5_comeTimes_16 rfl ?_
  refine g_ldiv C dX5_comeTimes_17 (lNz p1.1 (by omega)) ?_
  rw [pk_lDiv (by omega) (by omega) (by omega), show n / Nat.gcd m n = qL m n from rfl]
  refine g_lstore C dX5_comeTimes_18 (Nat.le_of_ble_eq_true rfl) rfl ?_
  refine g_lv [some _, some _, some _, some _, none, some _, none, some _, none, none, none, none, none] (gs_some (gs_some (gs_some (gs_some (gs_none (gs_some (gs_none (gs_some (gs_none (gs_none (gs_none (gs_none (gs_none gs_nil))))))))))))) ?_
  refine g_aload_n C dX5_comeTimes_20 rfl ?_
  refine g_get C dX5_comeTimes_21 iwX5 rfl (wO_R δ _) 1 (Nat.le_of_ble_eq_true rfl) mW75 rfl rfl ?_
  rw [e1]
  refine g_lload C dX5_comeTimes_24 rfl ?_
  refine g_callNl C sN_X5_43 C.2.2.2.2.2.2.2.2.1.1 dX5_comeTimes_26 (c_X8_commona _ δ _ (m := a) (n := qL m n) (by omega) (by omega) (by omega)) ⟨by decide, by decide⟩ rfl rfl rfl (Nat.le_of_ble_eq_true rfl) (fun r_26 s_26 h_26 => ?_)
  obtain ⟨rfl, rfl⟩ := h_26
  refine g_lstore C dX5_comeTimes_29 (Nat.le_of_ble_eq_true rfl) rfl ?_
  refine g_lv [some _, some _, some _, some _, none, some _, none, some _, none, some _, none, none, none] (gs_some (gs_some (gs_some (gs_some (gs_none (gs_some (gs_none (gs_some (gs_none (gs_some (gs_none (gs_none (gs_none gs_nil))))))))))))) ?_
  refine g_lload C dX5_comeTimes_31 rfl ?_
  refine g_aload_n C dX5_comeTimes_33 rfl ?_
  refine g_get C dX5_comeTimes_34 iwX5 rfl (wO_R δ _) 2 (Nat.le_of_ble_eq_true rfl) mW78 rfl rfl ?_
  rw [e2]
  refine g_callNl C sN_X5_43 C.2.2.2.2.2.2.2.2.1.1 dX5_comeTimes_37 (c_X8_commona _ δ _ (m := qM m n) (n := b) (by omega) (by omega) (by omega)) ⟨by decide, by decide⟩ rfl rfl rfl (Nat.le_of_ble_eq_true rfl) (fun r_37 s_37 h_37 => ?_)
  obtain ⟨rfl, rfl⟩ := h_37
  refine g_lstore C dX5_comeTimes_40 (Nat.le_of_ble_eq_true rfl) rfl ?_
  refine g_lv [some _, some _, some _, some _, none, some _, none, some _, none, some _, none, some _, none] (gs_some (gs_some (gs_some (gs_some (gs_none (gs_some (gs_none (gs_some (gs_none (gs_some (gs_none (gs_some (gs_none gs_nil))))))))))))) ?_
  refine g_aload_n C dX5_comeTimes_42 rfl ?_
  refine g_dup C dX5_comeTimes_43 rfl ?_
  refine g_get C dX5_comeTimes_44 iwX5 rfl (wO_R δ _) 1 (Nat.le_of_ble_eq_true rfl) mW75 rfl rfl ?_
  rw [e1]
  refine g_lload C dX5_comeTimes_47 rfl ?_
  refine g_ldiv C dX5_comeTimes_49 (lNz q1.1 (by omega)) ?_
  rw [pk_lDiv (by omega) (by omega) (by omega)]
  refine g_put C tyX5 dX5_comeTimes_50 iwX5 tyX5_ok nmX5 rfl (wO_R δ _) 1 (Nat.le_of_ble_eq_true rfl) mW75 rfl rfl rfl rfl rfl (Nat.le_of_ble_eq_true rfl) (pG_4 δ _ _) ?_
  refine g_lload C dX5_comeTimes_53 rfl ?_
  refine g_lload C dX5_comeTimes_55 rfl ?_
  refine g_ldiv C dX5_comeTimes_57 (lNz q1.1 (by omega)) ?_
  rw [pk_lDiv (by omega) (by omega) (by omega)]
  refine g_lstore C dX5_comeTimes_58 (Nat.le_of_ble_eq_true rfl) rfl ?_
  refine g_lv [some _, some _, some _, some _, none, some _, none, some _, none, some _, none, some _, none] (gs_some (gs_some (gs_some (gs_some (gs_none (gs_some (gs_none (gs_some (gs_none (gs_some (gs_none (gs_some (gs_none gs_nil))))))))))))) ?_
  refine g_aload_n C dX5_comeTimes_60 rfl ?_
  refine g_dup C dX5_comeTimes_61 rfl ?_
  refine g_get C dX5_comeTimes_62 iwX5 rfl (wO_R δ _) 2 (Nat.le_of_ble_eq_true rfl) mW78 rfl rfl ?_
  rw [gG_uG, if_neg (by decide), e2]
  refine g_lload C dX5_comeTimes_65 rfl ?_
  refine g_ldiv C dX5_comeTimes_67 (lNz q4.1 (by omega)) ?_
  rw [pk_lDiv (by omega) (by omega) (by omega)]
  refine g_put C tyX5 dX5_comeTimes_68 iwX5 tyX5_ok nmX5 rfl (wO_R δ _) 2 (Nat.le_of_ble_eq_true rfl) mW78 rfl rfl rfl rfl rfl (Nat.le_of_ble_eq_true rfl) (pG_5 δ _ _) ?_
  refine g_lload C dX5_comeTimes_71 rfl ?_
  refine g_lload C dX5_comeTimes_73 rfl ?_
  refine g_ldiv C dX5_comeTimes_75 (lNz q4.1 (by omega)) ?_
  rw [pk_lDiv (by omega) (by omega) (by omega)]
  refine g_lstore C dX5_comeTimes_76 (Nat.le_of_ble_eq_true rfl) rfl ?_
  refine g_lv [some _, some _, some _, some _, none, some _, none, some _, none, some _, none, some _, none] (gs_some (gs_some (gs_some (gs_some (gs_none (gs_some (gs_none (gs_some (gs_none (gs_some (gs_none (gs_some (gs_none gs_nil))))))))))))) ?_
  refine g_lload C dX5_comeTimes_78 rfl ?_
  refine g_lconst (v := 1) C dX5_comeTimes_80 (by decide) ?_
  refine g_lcmp C dX5_comeTimes_81 ?_
  refine g_if_lt C 120 dX5_comeTimes_82 (by decide) (fun c_82 => ?_) (fun c_82 => ?_)
  · exact absurd ((lg_cmp_lt _ _).mp c_82) (lN_n1 q6.1 (by omega))
  · rw [lg_cmp_lt] at c_82
    refine g_lload C dX5_comeTimes_85 rfl ?_
    refine g_lconst (v := 1) C dX5_comeTimes_87 (by decide) ?_
    refine g_lcmp C dX5_comeTimes_88 ?_
    refine g_if_lt C 120 dX5_comeTimes_89 (by decide) (fun c_89 => ?_) (fun c_89 => ?_)
    · exact absurd ((lg_cmp_lt _ _).mp c_89) (lN_n1 q3.1 (by omega))
    · rw [lg_cmp_lt] at c_89
      refine g_aload_n C dX5_comeTimes_92 rfl ?_
      refine g_get C dX5_comeTimes_93 iwX5 rfl (wO_R δ _) 1 (Nat.le_of_ble_eq_true rfl) mW75 rfl rfl ?_
      rw [gG_uG, if_neg (by decide), gG_uG, if_pos rfl]
      refine g_ldc2 C dX5_comeTimes_96 mW435 ?_
      refine g_lload C dX5_comeTimes_99 rfl ?_
      refine g_ldiv C dX5_comeTimes_101 (lNz q6.1 (by omega)) ?_
      refine g_lcmp C dX5_comeTimes_102 ?_
      refine g_if_gt C 120 dX5_comeTimes_103 (by decide) (fun c_103 => ?_) (fun c_103 => ?_)
      · rw [lg_cmp_gt] at c_103
        have w1 := (hl_lt (by omega) q6.1 (by omega)).mp c_103
        refine g_iconst (v := 0) C dX5_comeTimes_120 (by decide) ?_
        exact g_iret C E dX5_comeTimes_121 rfl rfl ⟨_, rfl, ⟨(by repeat (first | (with_reducible assumption) | (with_reducible exact gSr_r _) | (with_reducible refine gSr_I (by omega) ?_) | (with_reducible refine gSr_L (by omega) ?_) | (with_reducible refine gSr_N (by omega) ?_) | (with_reducible refine gSr_G (by omega) ?_) | (with_reducible refine gSr_P ?_))), rfl, fun _ => rfl, Or.inr ⟨rfl, by first | exact Or.inl w1 | exact Or.inr (Nat.not_le.mp w2)⟩⟩⟩
      · rw [lg_cmp_gt] at c_103
        have w1 := fun z => c_103 ((hl_lt (D := a / Nat.gcd a (qL m n)) (by omega) q6.1 (by omega)).mpr z)
        refine g_aload_n C dX5_comeTimes_106 rfl ?_
        refine g_get C dX5_comeTimes_107 iwX5 rfl (wO_R δ _) 2 (Nat.le_of_ble_eq_true rfl) mW78 rfl rfl ?_
        rw [gG_uG, if_pos rfl]
        refine g_ldc2 C dX5_comeTimes_110 mW435 ?_
        refine g_lload C dX5_comeTimes_113 rfl ?_
        refine g_ldiv C dX5_comeTimes_115 (lNz q3.1 (by omega)) ?_
        refine g_lcmp C dX5_comeTimes_116 ?_
        refine g_if_le C 122 dX5_comeTimes_117 (by decide) (fun c_117 => ?_) (fun c_117 => ?_)
        · rw [lg_cmp_le] at c_117
          have w2 := (hl_le (by omega) q3.1 (by omega)).mp c_117
          refine g_aload_n C dX5_comeTimes_122 rfl ?_
          refine g_dup C dX5_comeTimes_123 rfl ?_
          refine g_get C dX5_comeTimes_124 iwX5 rfl (wO_R δ _) 1 (Nat.le_of_ble_eq_true rfl) mW75 rfl rfl ?_
          rw [gG_uG, if_neg (by decide), gG_uG, if_pos rfl]
          refine g_lload C dX5_comeTimes_127 rfl ?_
          refine g_lmul C dX5_comeTimes_129 ?_
          rw [lN_mul]
          refine g_put C tyX5 dX5_comeTimes_130 iwX5 tyX5_ok nmX5 rfl (wO_R δ _) 1 (Nat.le_of_ble_eq_true rfl) mW75 rfl rfl rfl rfl rfl (Nat.le_of_ble_eq_true rfl) (pG_4 δ _ _) ?_
          refine g_aload_n C dX5_comeTimes_133 rfl ?_
          refine g_dup C dX5_comeTimes_134 rfl ?_
          refine g_get C dX5_comeTimes_135 iwX5 rfl (wO_R δ _) 2 (Nat.le_of_ble_eq_true rfl) mW78 rfl rfl ?_
          rw [gG_uG, if_neg (by decide), gG_uG, if_pos rfl]
          refine g_lload C dX5_comeTimes_138 rfl ?_
          refine g_lmul C dX5_comeTimes_140 ?_
          rw [lN_mul]
          refine g_put C tyX5 dX5_comeTimes_141 iwX5 tyX5_ok nmX5 rfl (wO_R δ _) 2 (Nat.le_of_ble_eq_true rfl) mW78 rfl rfl rfl rfl rfl (Nat.le_of_ble_eq_true rfl) (pG_5 δ _ _) ?_
          refine g_iconst (v := 1) C dX5_comeTimes_144 (by decide) ?_
          exact g_iret C E dX5_comeTimes_145 rfl rfl ⟨_, rfl, ⟨(by repeat (first | (with_reducible assumption) | (with_reducible exact gSr_r _) | (with_reducible refine gSr_I (by omega) ?_) | (with_reducible refine gSr_L (by omega) ?_) | (with_reducible refine gSr_N (by omega) ?_) | (with_reducible refine gSr_G (by omega) ?_) | (with_reducible refine gSr_P ?_))), rfl, fun _ => rfl, Or.inl ⟨rfl, ⟨Nat.not_lt.mp w1, w2⟩, rfl, rfl⟩⟩⟩
        · rw [lg_cmp_le] at c_117
          have w2 := fun z => c_117 ((hl_le (D := b / Nat.gcd (qM m n) b) (by omega) q3.1 (by omega)).mpr z)
          refine g_iconst (v := 0) C dX5_comeTimes_120 (by decide) ?_
          exact g_iret C E dX5_comeTimes_121 rfl rfl ⟨_, rfl, ⟨(by repeat (first | (with_reducible assumption) | (with_reducible exact gSr_r _) | (with_reducible refine gSr_I (by omega) ?_) | (with_reducible refine gSr_L (by omega) ?_) | (with_reducible refine gSr_N (by omega) ?_) | (with_reducible refine gSr_G (by omega) ?_) | (with_reducible refine gSr_P ?_))), rfl, fun _ => rfl, Or.inr ⟨rfl, by first | exact Or.inl w1 | exact Or.inr (Nat.not_le.mp w2)⟩⟩⟩
set_option maxRecDepth 100000 in
set_option maxHeartbeats 4000000 in
theorem c_X5_followb (l : Launch) (δ : GD) (σ : GS) {u : Nat} (hu : u < 8) {k w : Nat} (hk : k ≤ 12) (hw : w < 2147483648) {v : GV} (K : KC σ v) (R : RV v) : gM l δ yX5_follow cX5_follow 7 (some .boolean) 2 62 [.ref (δ.2.2.1 18), .ref (δ.2.2.1 (8 + u)), .int (nI k), .int (nI w)] σ (gPi (fun x σ' => gSr σ σ' ∧ (∀ q, gL σ' q = gL σ q) ∧ ((x = 1 ∧ qOn (bS (vS v) u) (tS (vS v) u) w k ∧ gG σ' 4 = lN (qF (bS (vS v) u) (tS (vS v) u) w k).1 ∧ gG σ' 5 = lN (qF (bS (vS v) u) (tS (vS v) u) w k).2) ∨ (x = 1 ∧ qStk (bS (vS v) u) (tS (vS v) u) w k ∧ gG σ' 4 = 0 ∧ gG σ' 5 = 1) ∨ (x = 0 ∧ qBigs (bS (vS v) u) (tS (vS v) u) w k)))) := by
  refine g_of (lv0 := [some (.ref (δ.2.2.1 18)), some (.ref (δ.2.2.1 (8 + u))), some (.int (nI k)), some (.int (nI w)), none, none, none]) (by decide) rfl (Nat.le_of_ble_eq_true rfl) (fun Γ hl C E => ?_)
  subst hl
  have C : gC Γ δ cX5_follow RX5 7 2 62 := C
  have hn := K.2.1 u hu
  have h4 := RV_n R hu
  have hf : gB2 (bS (vS v) u) := VS_B2 R.2.2.1 hu
  refine g_aload_n C dX5_follow_0 rfl ?_
  refine g_get C dX5_follow_1 iwX7 rfl (wO_U δ _ hu) 0 (Nat.le_of_ble_eq_true rfl) mW193 rfl rfl ?_
  refine g_iconst (v := 0) C dX5_follow_4 (by decide) ?_
  refine g_aload_n C dX5_follow_5 rfl ?_
  refine g_get C dX5_follow_6 iwX5 rfl (wO_R δ _) 0 (Nat.le_of_ble_eq_true rfl) mW74 rfl rfl ?_
  refine g_iconst (v := 0) C dX5_follow_9 (by decide) ?_
  refine g_iconst (v := 4) C dX5_follow_10 (by decide) ?_
  refine g_copyIN C (q0 := u) (q1 := 46) (a' := 0) (b' := 0) (c' := 4) dX5_follow_11 mW426 mW281 mW280 mW12 (by omega) (by decide) rfl rfl rfl (by first | rfl | assumption | (simp only [glit, nI_add, pk_mul]; done) | (simp only [glit, nI_add, pk_mul]; congr 1; omega) | (simp only [*, glit, nI_add, pk_mul]; congr 1; omega)) (by first | rfl | assumption | (simp only [glit, nI_add, pk_mul]; done) | (simp only [glit, nI_add, pk_mul]; congr 1; omega) | (simp only [*, glit, nI_add, pk_mul]; congr 1; omega)) (by first | rfl | assumption | (simp only [glit, nI_add, pk_mul]; done) | (simp only [glit, nI_add, pk_mul]; congr 1; omega) | (simp only [*, glit, nI_add, pk_mul]; congr 1; omega)) (by rw [gLenI_b hu]; omega) (show 0 + 4 ≤ gLenI 46 from Nat.le_trans (show 0 + 4 ≤ 4 by omega) (Nat.le_of_eq rfl)) (by decide) (Nat.le_of_ble_eq_true rfl) ?_
  refine g_aload_n C dX5_follow_14 rfl ?_
  refine g_lconst (v := 1) C dX5_follow_15 (by decide) ?_
  refine g_put C tyX5 dX5_follow_16 iwX5 tyX5_ok nmX5 rfl (wO_R δ _) 1 (Nat.le_of_ble_eq_true rfl) mW75 rfl rfl rfl rfl rfl (Nat.le_of_ble_eq_true rfl) (pG_4 δ _ _) ?_
  refine g_aload_n C dX5_follow_19 rfl ?_
  refine g_lconst (v := 1) C dX5_follow_20 (by decide) ?_
  refine g_put C tyX5 dX5_follow_21 iwX5 tyX5_ok nmX5 rfl (wO_R δ _) 2 (Nat.le_of_ble_eq_true rfl) mW78 rfl rfl rfl rfl rfl (Nat.le_of_ble_eq_true rfl) (pG_5 δ _ _) ?_
  refine g_iload_n C dX5_follow_24 rfl ?_
  refine g_istore C dX5_follow_25 (Nat.le_of_ble_eq_true rfl) rfl ?_
  refine g_lv [some _, some _, some _, some _, some _, none, none] (gs_some (gs_some (gs_some (gs_some (gs_some (gs_none (gs_none gs_nil))))))) ?_
  refine g_iconst (v := 0) C dX5_follow_27 (by decide) ?_
  refine g_istore C dX5_follow_28 (Nat.le_of_ble_eq_true rfl) rfl ?_
  refine g_lv [some _, some _, some _, some _, some _, some _, none] (gs_some (gs_some (gs_some (gs_some (gs_some (gs_some (gs_none gs_nil))))))) ?_
  have L_30 : ∀ (nn : Nat) (i : Nat) (s1 : GS) (hi : i ≤ k) (hs : gSr σ s1) (hls : ∀ q, gL s1 q = gL σ q) (hq : qOn (bS (vS v) u) (tS (vS v) u) w i) (hb : ∀ j, j < 4 → gI s1 46 j = qB (bS (vS v) u) (tS (vS v) u) w i j) (e4 : gG s1 4 = lN (qF (bS (vS v) u) (tS (vS v) u) w i).1) (e5 : gG s1 5 = lN (qF (bS (vS v) u) (tS (vS v) u) w i).2), k - i < nn → gW Γ δ s1 30 [some (.ref (δ.2.2.1 18)), some (.ref (δ.2.2.1 (8 + u))), some (.int (nI k)), some (.int (nI w)), some (.int (nI (w / 4 ^ i))), some (.int (nI i)), none] [] := by
    intro nn
    induction nn with
    | zero =>
      intro i s1 hi hs hls hq hb e4 e5 hm_30
      exact absurd hm_30 (Nat.not_lt_zero _)
    | succ nn ih_30 =>
      intro i s1 hi hs hls hq hb e4 e5 hm_30
      have hl := gpowle w i
      have hd4 : w / 4 ^ i % 4 < 4 := Nat.mod_lt _ (by decide)
      have K1 := KC_sr hs K
      have hn_s1 := K1.2.1 u hu
      refine g_iload C dX5_follow_30 rfl ?_
      refine g_iload_n C dX5_follow_32 rfl ?_
      refine g_icmp_ge C 132 dX5_follow_33 (by decide) (fun c_33 => ?_) (fun c_33 => ?_)
      · have k_33 := gle c_33 (a := k) (b := i) (by first | rfl | assumption | (simp only [glit, nI_add, pk_mul]; done) | (simp only [glit, nI_add, pk_mul]; congr 1; omega) | (simp only [*, glit, nI_add, pk_mul]; congr 1; omega)) (by first | rfl | assumption | (simp only [glit, nI_add, pk_mul]; done) | (simp only [glit, nI_add, pk_mul]; congr 1; omega) | (simp only [*, glit, nI_add, pk_mul]; congr 1; omega)) (by omega) (by omega)
        have ek : k = i := by omega
        subst ek
        refine g_iconst (v := 1) C dX5_follow_132 (by decide) ?_
        exact g_iret C E dX5_follow_133 rfl rfl ⟨_, rfl, ⟨(by repeat (first | (with_reducible assumption) | (with_reducible exact gSr_r _) | (with_reducible refine gSr_I (by omega) ?_) | (with_reducible refine gSr_L (by omega) ?_) | (with_reducible refine gSr_N (by omega) ?_) | (with_reducible refine gSr_G (by omega) ?_) | (with_reducible refine gSr_P ?_))), hls, Or.inl ⟨rfl, hq, e4, e5⟩⟩⟩
      · have k_33 := gnle c_33 (a := k) (b := i) (by first | rfl | assumption | (simp only [glit, nI_add, pk_mul]; done) | (simp only [glit, nI_add, pk_mul]; congr 1; omega) | (simp only [*, glit, nI_add, pk_mul]; congr 1; omega)) (by first | rfl | assumption | (simp only [glit, nI_add, pk_mul]; done) | (simp only [glit, nI_add, pk_mul]; congr 1; omega) | (simp only [*, glit, nI_add, pk_mul]; congr 1; omega)) (by omega) (by omega)
        refine g_iload C dX5_follow_36 rfl ?_
        refine g_iconst (v := 4) C dX5_follow_38 (by decide) ?_
        refine g_irem C dX5_follow_39 (by decide) ?_
        rw [gDig_rem (by omega)]
        refine g_istore C dX5_follow_40 (Nat.le_of_ble_eq_true rfl) rfl ?_
        refine g_lv [some _, some _, some _, some _, some _, some _, some _] (gs_some (gs_some (gs_some (gs_some (gs_some (gs_some (gs_some gs_nil))))))) ?_
        refine g_aload_n C dX5_follow_42 rfl ?_
        refine g_aload_n C dX5_follow_43 rfl ?_
        refine g_get C dX5_follow_44 iwX5 rfl (wO_R δ _) 0 (Nat.le_of_ble_eq_true rfl) mW74 rfl rfl ?_
        refine g_iload C dX5_follow_47 rfl ?_
        refine g_callVi C sV_X5_31 dX5_follow_49 (c_X7_lets _ δ _ hu (q := 46) (by omega) rfl (c := w / 4 ^ i % 4) hd4 hn_s1 h4) ⟨by decide, by decide⟩ (wO_U δ _ hu) rfl rfl rfl rfl (Nat.le_of_ble_eq_true rfl) (fun r_49 s_49 h_49 => ?_)
        obtain ⟨rfl, h_49⟩ := h_49
        rw [qC_let K1 R hu hb] at h_49
        rcases h_49 with ⟨rfl, h_49⟩ | ⟨rfl, h_49⟩
        · have eN := qN_e hf hq h_49
          have ok := qOk_at hf hq h_49
          refine g_if_ne C 67 dX5_follow_52 (by decide) (fun c_52 => ?_) (fun c_52 => ?_)
          · refine g_aload_n C dX5_follow_67 rfl ?_
            refine g_aload_n C dX5_follow_68 rfl ?_
            refine g_get C dX5_follow_69 iwX5 rfl (wO_R δ _) 0 (Nat.le_of_ble_eq_true rfl) mW74 rfl rfl ?_
            refine g_iload C dX5_follow_72 rfl ?_
            refine g_ialdN C dX5_follow_74 (k := (w / 4 ^ i % 4)) (q := 46) (by decide) rfl (by first | rfl | assumption | (simp only [glit, nI_add, pk_mul]; done) | (simp only [glit, nI_add, pk_mul]; congr 1; omega) | (simp only [*, glit, nI_add, pk_mul]; congr 1; omega)) (show (w / 4 ^ i % 4) < gLenI 46 from Nat.lt_of_lt_of_eq (show (w / 4 ^ i % 4) < 4 by exact hd4) rfl) ?_
            rw [hb _ hd4, eN.1]
            refine g_aload_n C dX5_follow_75 rfl ?_
            refine g_get C dX5_follow_76 iwX5 rfl (wO_R δ _) 0 (Nat.le_of_ble_eq_true rfl) mW74 rfl rfl ?_
            refine g_iconst (v := 0) C dX5_follow_79 (by decide) ?_
            refine g_ialdN C dX5_follow_80 (k := 0) (q := 46) (by decide) rfl (by first | rfl | assumption | (simp only [glit, nI_add, pk_mul]; done) | (simp only [glit, nI_add, pk_mul]; congr 1; omega) | (simp only [*, glit, nI_add, pk_mul]; congr 1; omega)) (show 0 < gLenI 46 from Nat.lt_of_lt_of_eq (show 0 < 4 by omega) rfl) ?_
            rw [hb 0 (by omega)]
            refine g_aload_n C dX5_follow_81 rfl ?_
            refine g_get C dX5_follow_82 iwX5 rfl (wO_R δ _) 0 (Nat.le_of_ble_eq_true rfl) mW74 rfl rfl ?_
            refine g_iconst (v := 1) C dX5_follow_85 (by decide) ?_
            refine g_ialdN C dX5_follow_86 (k := 1) (q := 46) (by decide) rfl (by first | rfl | assumption | (simp only [glit, nI_add, pk_mul]; done) | (simp only [glit, nI_add, pk_mul]; congr 1; omega) | (simp only [*, glit, nI_add, pk_mul]; congr 1; omega)) (show 1 < gLenI 46 from Nat.lt_of_lt_of_eq (show 1 < 4 by omega) rfl) ?_
            rw [hb 1 (by omega)]
            refine g_iadd C dX5_follow_87 ?_
            refine g_aload_n C dX5_follow_88 rfl ?_
            refine g_get C dX5_follow_89 iwX5 rfl (wO_R δ _) 0 (Nat.le_of_ble_eq_true rfl) mW74 rfl rfl ?_
            refine g_iconst (v := 2) C dX5_follow_92 (by decide) ?_
            refine g_ialdN C dX5_follow_93 (k := 2) (q := 46) (by decide) rfl (by first | rfl | assumption | (simp only [glit, nI_add, pk_mul]; done) | (simp only [glit, nI_add, pk_mul]; congr 1; omega) | (simp only [*, glit, nI_add, pk_mul]; congr 1; omega)) (show 2 < gLenI 46 from Nat.lt_of_lt_of_eq (show 2 < 4 by omega) rfl) ?_
            rw [hb 2 (by omega)]
            refine g_iadd C dX5_follow_94 ?_
            refine g_aload_n C dX5_follow_95 rfl ?_
            refine g_get C dX5_follow_96 iwX5 rfl (wO_R δ _) 0 (Nat.le_of_ble_eq_true rfl) mW74 rfl rfl ?_
            refine g_iconst (v := 3) C dX5_follow_99 (by decide) ?_
            refine g_ialdN C dX5_follow_100 (k := 3) (q := 46) (by decide) rfl (by first | rfl | assumption | (simp only [glit, nI_add, pk_mul]; done) | (simp only [glit, nI_add, pk_mul]; congr 1; omega) | (simp only [*, glit, nI_add, pk_mul]; congr 1; omega)) (show 3 < gLenI 46 from Nat.lt_of_lt_of_eq (show 3 < 4 by omega) rfl) ?_
            rw [hb 3 (by omega)]
            refine g_iadd C dX5_follow_101 ?_
            rw [eN.2]
            refine g_callVi C sV_X5_35 dX5_follow_102 (c_X5_comeTimesb _ δ _ ok e4 e5) ⟨by decide, by decide⟩ (wO_R δ _) rfl rfl rfl rfl (Nat.le_of_ble_eq_true rfl) (fun r_102 s_102 h_102 => ?_)
            obtain ⟨z_102, b_102, l_102, h_102⟩ := h_102
            have z_102 : gSr σ s_102 := gSr_t hs z_102
            have K2 := KC_sr z_102 K
            have hb2 : ∀ j, j < 4 → gI s_102 46 j = qB (bS (vS v) u) (tS (vS v) u) w i j := fun j hj => by rw [b_102]; exact hb j hj
            rcases h_102 with ⟨rfl, h_102⟩ | ⟨rfl, h_102⟩
            · have hnb : ¬ qBig (bS (vS v) u) (tS (vS v) u) w i := fun z => z.elim (Nat.not_lt.mpr h_102.1.1) (Nat.not_lt.mpr h_102.1.2)
              refine g_if_ne C 110 dX5_follow_105 (by decide) (fun c_105 => ?_) (fun c_105 => ?_)
              · refine g_aload_n C dX5_follow_110 rfl ?_
                refine g_aload_n C dX5_follow_111 rfl ?_
                refine g_get C dX5_follow_112 iwX5 rfl (wO_R δ _) 0 (Nat.le_of_ble_eq_true rfl) mW74 rfl rfl ?_
                refine g_iload C dX5_follow_115 rfl ?_
                refine g_callVv C sV_X5_39 dX5_follow_117 (c_X7_grow _ δ _ hu (q := 46) (by omega) rfl (by omega) (c := w / 4 ^ i % 4) hd4 (K2.2.1 u hu) h4) ⟨by decide, by decide⟩ (wO_U δ _ hu) rfl rfl rfl rfl (Nat.le_of_ble_eq_true rfl) (fun s_117 h_117 => ?_)
                obtain rfl := h_117
                refine g_iload C dX5_follow_120 rfl ?_
                refine g_iconst (v := 4) C dX5_follow_122 (by decide) ?_
                refine g_idiv C dX5_follow_123 (by decide) ?_
                rw [gDig_div (by omega), gpow]
                refine g_istore C dX5_follow_124 (Nat.le_of_ble_eq_true rfl) rfl ?_
                refine g_lv [some _, some _, some _, some _, some _, some _, some _] (gs_some (gs_some (gs_some (gs_some (gs_some (gs_some (gs_some gs_nil))))))) ?_
                refine g_iinc (v := nI (i + 1)) C dX5_follow_126 rfl (ginc _ 1) rfl ?_
                refine g_lv [some _, some _, some _, some _, some _, some _, some _] (gs_some (gs_some (gs_some (gs_some (gs_some (gs_some (gs_some gs_nil))))))) ?_
                refine g_goto C 30 dX5_follow_129 (by decide) ?_
                refine g_lv [some _, some _, some _, some _, some _, some _, none] (gs_some (gs_some (gs_some (gs_some (gs_some (gs_some (gs_none gs_nil))))))) ?_
                exact ih_30 (i + 1) _ (by omega) (by repeat (first | (with_reducible assumption) | (with_reducible exact gSr_r _) | (with_reducible refine gSr_I (by omega) ?_) | (with_reducible refine gSr_L (by omega) ?_) | (with_reducible refine gSr_N (by omega) ?_) | (with_reducible refine gSr_G (by omega) ?_) | (with_reducible refine gSr_P ?_))) (fun q => (l_102 q).trans (hls q)) (qOn_s hq h_49 hnb) (fun j hj => by rw [gI_uI, if_pos rfl]; exact qC_grow K2 R hu hb2 j hj) h_102.2.1 h_102.2.2 (by omega)
              · exact absurd c_105 (by decide)
            · skip
              refine g_if_ne C 110 dX5_follow_105 (by decide) (fun c_105 => ?_) (fun c_105 => ?_)
              · exact absurd c_105 (by decide)
              · refine g_iconst (v := 0) C dX5_follow_108 (by decide) ?_
                exact g_iret C E dX5_follow_109 rfl rfl ⟨_, rfl, ⟨(by repeat (first | (with_reducible assumption) | (with_reducible exact gSr_r _) | (with_reducible refine gSr_I (by omega) ?_) | (with_reducible refine gSr_L (by omega) ?_) | (with_reducible refine gSr_N (by omega) ?_) | (with_reducible refine gSr_G (by omega) ?_) | (with_reducible refine gSr_P ?_))), fun q => (l_102 q).trans (hls q), Or.inr (Or.inr ⟨rfl, i, by omega, hq, h_49, h_102⟩)⟩⟩
          · exact absurd c_52 (by decide)
        · skip
          refine g_if_ne C 67 dX5_follow_52 (by decide) (fun c_52 => ?_) (fun c_52 => ?_)
          · exact absurd c_52 (by decide)
          · refine g_aload_n C dX5_follow_55 rfl ?_
            refine g_lconst (v := 0) C dX5_follow_56 (by decide) ?_
            refine g_put C tyX5 dX5_follow_57 iwX5 tyX5_ok nmX5 rfl (wO_R δ _) 1 (Nat.le_of_ble_eq_true rfl) mW75 rfl rfl rfl rfl rfl (Nat.le_of_ble_eq_true rfl) (pG_4 δ _ _) ?_
            refine g_aload_n C dX5_follow_60 rfl ?_
            refine g_lconst (v := 1) C dX5_follow_61 (by decide) ?_
            refine g_put C tyX5 dX5_follow_62 iwX5 tyX5_ok nmX5 rfl (wO_R δ _) 2 (Nat.le_of_ble_eq_true rfl) mW78 rfl rfl rfl rfl rfl (Nat.le_of_ble_eq_true rfl) (pG_5 δ _ _) ?_
            refine g_iconst (v := 1) C dX5_follow_65 (by decide) ?_
            exact g_iret C E dX5_follow_66 rfl rfl ⟨_, rfl, ⟨(by repeat (first | (with_reducible assumption) | (with_reducible exact gSr_r _) | (with_reducible refine gSr_I (by omega) ?_) | (with_reducible refine gSr_L (by omega) ?_) | (with_reducible refine gSr_N (by omega) ?_) | (with_reducible refine gSr_G (by omega) ?_) | (with_reducible refine gSr_P ?_))), hls, Or.inr (Or.inl ⟨rfl, ⟨i, by omega, hq, h_49⟩, rfl, rfl⟩)⟩⟩
  refine g_lv [some _, some _, some _, some _, some _, some _, none] (gs_some (gs_some (gs_some (gs_some (gs_some (gs_some (gs_none gs_nil))))))) ?_
  have e0 : nI w = nI (w / 4 ^ 0) := by rw [Nat.pow_zero, Nat.div_one]
  refine g_lv [some (.ref (δ.2.2.1 18)), some (.ref (δ.2.2.1 (8 + u))), some (.int (nI k)), some (.int (nI w)), some (.int (nI (w / 4 ^ 0))), some (.int (nI 0)), none] (by rw [← e0]; exact gs_some (gs_some (gs_some (gs_some (gs_some (gs_some (gs_none gs_nil))))))) ?_
  exact L_30 _ 0 _ (by omega) (by repeat (first | (with_reducible assumption) | (with_reducible exact gSr_r _) | (with_reducible refine gSr_I (by omega) ?_) | (with_reducible refine gSr_L (by omega) ?_) | (with_reducible refine gSr_N (by omega) ?_) | (with_reducible refine gSr_G (by omega) ?_) | (with_reducible refine gSr_P ?_))) (fun _ => rfl) (qOn_0 _ _ _) (fun j hj => by rw [gI_uG, gI_uG, gI_uI, if_pos rfl]; exact (cpy_lo (by omega) (by omega)).trans ((congrArg _ (by omega)).trans (KC_b K hu hj))) rfl rfl (Nat.lt_succ_self _)
