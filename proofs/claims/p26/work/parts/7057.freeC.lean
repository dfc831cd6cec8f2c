set_option maxRecDepth 100000 in
set_option maxHeartbeats 4000000 in
theorem c_X5_comeTimesf (l : Launch) (δ : GD) (σ : GS) (a b : Int32) : gM l δ yX5_comeTimes cX5_comeTimes 13 (some .boolean) 1 30 [.ref (δ.2.2.1 18), .int a, .int b] σ (gPi (fun _ σ' => gSf σ σ')) := by
  refine g_of (lv0 := [some (.ref (δ.2.2.1 18)), some (.int a), some (.int b), none, none, none, none, none, none, none, none, none, none]) (by decide) rfl (Nat.le_of_ble_eq_true rfl) (fun Γ hl C E => ?_)
  subst hl
  have C : gC Γ δ cX5_comeTimes RX5 13 1 30 := C
  refine g_iload_n C dX5_comeTimes_0 rfl ?_
  refine g_i2l C dX5_comeTimes_1 ?_
  refine g_iload_n C dX5_comeTimes_2 rfl ?_
  refine g_i2l C dX5_comeTimes_3 ?_
  refine g_callNl C sN_X5_43 C.2.2.2.2.2.2.2.2.1.1 dX5_comeTimes_4 (c_X8_common _ δ _ _ _) ⟨by decide, by decide⟩ rfl rfl rfl (Nat.le_of_ble_eq_true rfl) (fun r_4 s_4 h_4 => ?_)
  obtain ⟨rfl, h_4⟩ := h_4
  refine g_lstore_n C dX5_comeTimes_7 (Nat.le_of_ble_eq_true rfl) rfl ?_
  refine g_lv [some _, some _, some _, some _, none, none, none, none, none, none, none, none, none] (gs_some (gs_some (gs_some (gs_some (gs_none (gs_none (gs_none (gs_none (gs_none (gs_none (gs_none (gs_none (gs_none gs_nil))))))))))))) ?_
  refine g_iload_n C dX5_comeTimes_8 rfl ?_
  refine g_i2l C dX5_comeTimes_9 ?_
  refine g_lload_n C dX5_comeTimes_10 rfl ?_
  refine g_ldiv C dX5_comeTimes_11 (gnz1 h_4) ?_
  refine g_lstore C dX5_comeTimes_12 (Nat.le_of_ble_eq_true rfl) rfl ?_
  refine g_lv [some _, some _, some _, some _, none, some _, none, none, none, none, none, none, none] (gs_some (gs_some (gs_some (gs_some (gs_none (gs_some (gs_none (gs_none (gs_none (gs_none (gs_none (gs_none (gs_none gs_nil))))))))))))) ?_
  refine g_iload_n C dX5_comeTimes_14 rfl ?_
  refine g_i2l C dX5_comeTimes_15 ?_
  refine g_lload_n C dX5_comeTimes_16 rfl ?_
  refine g_ldiv C dX5_comeTimes_17 (gnz1 h_4) ?_
  refine g_lstore C dX5_comeTimes_18 (Nat.le_of_ble_eq_true rfl) rfl ?_
  refine g_lv [some _, some _, some _, some _, none, some _, none, some _, none, none, none, none, none] (gs_some (gs_some (gs_some (gs_some (gs_none (gs_some (gs_none (gs_some (gs_none (gs_none (gs_none (gs_none (gs_none gs_nil))))))))))))) ?_
  refine g_aload_n C dX5_comeTimes_20 rfl ?_
  refine g_get C dX5_comeTimes_21 iwX5 rfl (wO_R δ _) 1 (Nat.le_of_ble_eq_true rfl) mW75 rfl rfl ?_
  refine g_lload C dX5_comeTimes_24 rfl ?_
  refine g_callNl C sN_X5_43 C.2.2.2.2.2.2.2.2.1.1 dX5_comeTimes_26 (c_X8_common _ δ _ _ _) ⟨by decide, by decide⟩ rfl rfl rfl (Nat.le_of_ble_eq_true rfl) (fun r_26 s_26 h_26 => ?_)
  obtain ⟨rfl, h_26⟩ := h_26
  refine g_lstore C dX5_comeTimes_29 (Nat.le_of_ble_eq_true rfl) rfl ?_
  refine g_lv [some _, some _, some _, some _, none, some _, none, some _, none, some _, none, none, none] (gs_some (gs_some (gs_some (gs_some (gs_none (gs_some (gs_none (gs_some (gs_none (gs_some (gs_none (gs_none (gs_none gs_nil))))))))))))) ?_
  refine g_lload C dX5_comeTimes_31 rfl ?_
  refine g_aload_n C dX5_comeTimes_33 rfl ?_
  refine g_get C dX5_comeTimes_34 iwX5 rfl (wO_R δ _) 2 (Nat.le_of_ble_eq_true rfl) mW78 rfl rfl ?_
  refine g_callNl C sN_X5_43 C.2.2.2.2.2.2.2.2.1.1 dX5_comeTimes_37 (c_X8_common _ δ _ _ _) ⟨by decide, by decide⟩ rfl rfl rfl (Nat.le_of_ble_eq_true rfl) (fun r_37 s_37 h_37 => ?_)
  obtain ⟨rfl, h_37⟩ := h_37
  refine g_lstore C dX5_comeTimes_40 (Nat.le_of_ble_eq_true rfl) rfl ?_
  refine g_lv [some _, some _, some _, some _, none, some _, none, some _, none, some _, none, some _, none] (gs_some (gs_some (gs_some (gs_some (gs_none (gs_some (gs_none (gs_some (gs_none (gs_some (gs_none (gs_some (gs_none gs_nil))))))))))))) ?_
  refine g_aload_n C dX5_comeTimes_42 rfl ?_
  refine g_dup C dX5_comeTimes_43 rfl ?_
  refine g_get C dX5_comeTimes_44 iwX5 rfl (wO_R δ _) 1 (Nat.le_of_ble_eq_true rfl) mW75 rfl rfl ?_
  refine g_lload C dX5_comeTimes_47 rfl ?_
  refine g_ldiv C dX5_comeTimes_49 (gnz1 h_26) ?_
  refine g_put C tyX5 dX5_comeTimes_50 iwX5 tyX5_ok nmX5 rfl (wO_R δ _) 1 (Nat.le_of_ble_eq_true rfl) mW75 rfl rfl rfl rfl rfl (Nat.le_of_ble_eq_true rfl) (pG_4 δ _ _) ?_
  refine g_lload C dX5_comeTimes_53 rfl ?_
  refine g_lload C dX5_comeTimes_55 rfl ?_
  refine g_ldiv C dX5_comeTimes_57 (gnz1 h_26) ?_
  refine g_lstore C dX5_comeTimes_58 (Nat.le_of_ble_eq_true rfl) rfl ?_
  refine g_lv [some _, some _, some _, some _, none, some _, none, some _, none, some _, none, some _, none] (gs_some (gs_some (gs_some (gs_some (gs_none (gs_some (gs_none (gs_some (gs_none (gs_some (gs_none (gs_some (gs_none gs_nil))))))))))))) ?_
  refine g_aload_n C dX5_comeTimes_60 rfl ?_
  refine g_dup C dX5_comeTimes_61 rfl ?_
  refine g_get C dX5_comeTimes_62 iwX5 rfl (wO_R δ _) 2 (Nat.le_of_ble_eq_true rfl) mW78 rfl rfl ?_
  refine g_lload C dX5_comeTimes_65 rfl ?_
  refine g_ldiv C dX5_comeTimes_67 (gnz1 h_37) ?_
  refine g_put C tyX5 dX5_comeTimes_68 iwX5 tyX5_ok nmX5 rfl (wO_R δ _) 2 (Nat.le_of_ble_eq_true rfl) mW78 rfl rfl rfl rfl rfl (Nat.le_of_ble_eq_true rfl) (pG_5 δ _ _) ?_
  refine g_lload C dX5_comeTimes_71 rfl ?_
  refine g_lload C dX5_comeTimes_73 rfl ?_
  refine g_ldiv C dX5_comeTimes_75 (gnz1 h_37) ?_
  refine g_lstore C dX5_comeTimes_76 (Nat.le_of_ble_eq_true rfl) rfl ?_
  refine g_lv [some _, some _, some _, some _, none, some _, none, some _, none, some _, none, some _, none] (gs_some (gs_some (gs_some (gs_some (gs_none (gs_some (gs_none (gs_some (gs_none (gs_some (gs_none (gs_some (gs_none gs_nil))))))))))))) ?_
  refine g_lload C dX5_comeTimes_78 rfl ?_
  refine g_lconst (v := 1) C dX5_comeTimes_80 (by decide) ?_
  refine g_lcmp C dX5_comeTimes_81 ?_
  refine g_if_lt C 120 dX5_comeTimes_82 (by decide) (fun c_82 => ?_) (fun c_82 => ?_)
  · rw [lg_cmp_lt] at c_82
    refine g_iconst (v := 0) C dX5_comeTimes_120 (by decide) ?_
    exact g_iret C E dX5_comeTimes_121 rfl rfl ⟨_, rfl, (by repeat (first | (with_reducible assumption) | (with_reducible exact gSf_r _) | (with_reducible refine gSf_I (by omega) ?_) | (with_reducible refine gSf_L (by omega) ?_) | (with_reducible refine gSf_N (by omega) ?_) | (with_reducible refine gSf_G (by omega) ?_) | (with_reducible refine gSf_P ?_)))⟩
  · rw [lg_cmp_lt] at c_82
    refine g_lload C dX5_comeTimes_85 rfl ?_
    refine g_lconst (v := 1) C dX5_comeTimes_87 (by decide) ?_
    refine g_lcmp C dX5_comeTimes_88 ?_
    refine g_if_lt C 120 dX5_comeTimes_89 (by decide) (fun c_89 => ?_) (fun c_89 => ?_)
    · rw [lg_cmp_lt] at c_89
      refine g_iconst (v := 0) C dX5_comeTimes_120 (by decide) ?_
      exact g_iret C E dX5_comeTimes_121 rfl rfl ⟨_, rfl, (by repeat (first | (with_reducible assumption) | (with_reducible exact gSf_r _) | (with_reducible refine gSf_I (by omega) ?_) | (with_reducible refine gSf_L (by omega) ?_) | (with_reducible refine gSf_N (by omega) ?_) | (with_reducible refine gSf_G (by omega) ?_) | (with_reducible refine gSf_P ?_)))⟩
    · rw [lg_cmp_lt] at c_89
      refine g_aload_n C dX5_comeTimes_92 rfl ?_
      refine g_get C dX5_comeTimes_93 iwX5 rfl (wO_R δ _) 1 (Nat.le_of_ble_eq_true rfl) mW75 rfl rfl ?_
      refine g_ldc2 C dX5_comeTimes_96 mW435 ?_
      refine g_lload C dX5_comeTimes_99 rfl ?_
      refine g_ldiv C dX5_comeTimes_101 (gnz2 c_82) ?_
      refine g_lcmp C dX5_comeTimes_102 ?_
      refine g_if_gt C 120 dX5_comeTimes_103 (by decide) (fun c_103 => ?_) (fun c_103 => ?_)
      · rw [lg_cmp_gt] at c_103
        refine g_iconst (v := 0) C dX5_comeTimes_120 (by decide) ?_
        exact g_iret C E dX5_comeTimes_121 rfl rfl ⟨_, rfl, (by repeat (first | (with_reducible assumption) | (with_reducible exact gSf_r _) | (with_reducible refine gSf_I (by omega) ?_) | (with_reducible refine gSf_L (by omega) ?_) | (with_reducible refine gSf_N (by omega) ?_) | (with_reducible refine gSf_G (by omega) ?_) | (with_reducible refine gSf_P ?_)))⟩
      · rw [lg_cmp_gt] at c_103
        refine g_aload_n C dX5_comeTimes_106 rfl ?_
        refine g_get C dX5_comeTimes_107 iwX5 rfl (wO_R δ _) 2 (Nat.le_of_ble_eq_true rfl) mW78 rfl rfl ?_
        refine g_ldc2 C dX5_comeTimes_110 mW435 ?_
        refine g_lload C dX5_comeTimes_113 rfl ?_
        refine g_ldiv C dX5_comeTimes_115 (gnz2 c_89) ?_
        refine g_lcmp C dX5_comeTimes_116 ?_
        refine g_if_le C 122 dX5_comeTimes_117 (by decide) (fun c_117 => ?_) (fun c_117 => ?_)
        · rw [lg_cmp_le] at c_117
          refine g_aload_n C dX5_comeTimes_122 rfl ?_
          refine g_dup C dX5_comeTimes_123 rfl ?_
          refine g_get C dX5_comeTimes_124 iwX5 rfl (wO_R δ _) 1 (Nat.le_of_ble_eq_true rfl) mW75 rfl rfl ?_
          refine g_lload C dX5_comeTimes_127 rfl ?_
          refine g_lmul C dX5_comeTimes_129 ?_
          refine g_put C tyX5 dX5_comeTimes_130 iwX5 tyX5_ok nmX5 rfl (wO_R δ _) 1 (Nat.le_of_ble_eq_true rfl) mW75 rfl rfl rfl rfl rfl (Nat.le_of_ble_eq_true rfl) (pG_4 δ _ _) ?_
          refine g_aload_n C dX5_comeTimes_133 rfl ?_
          refine g_dup C dX5_comeTimes_134 rfl ?_
          refine g_get C dX5_comeTimes_135 iwX5 rfl (wO_R δ _) 2 (Nat.le_of_ble_eq_true rfl) mW78 rfl rfl ?_
          refine g_lload C dX5_comeTimes_138 rfl ?_
          refine g_lmul C dX5_comeTimes_140 ?_
          refine g_put C tyX5 dX5_comeTimes_141 iwX5 tyX5_ok nmX5 rfl (wO_R δ _) 2 (Nat.le_of_ble_eq_true rfl) mW78 rfl rfl rfl rfl rfl (Nat.le_of_ble_eq_true rfl) (pG_5 δ _ _) ?_
          refine g_iconst (v := 1) C dX5_comeTimes_144 (by decide) ?_
          exact g_iret C E dX5_comeTimes_145 rfl rfl ⟨_, rfl, (by repeat (first | (with_reducible assumption) | (with_reducible exact gSf_r _) | (with_reducible refine gSf_I (by omega) ?_) | (with_reducible refine gSf_L (by omega) ?_) | (with_reducible refine gSf_N (by omega) ?_) | (with_reducible refine gSf_G (by omega) ?_) | (with_reducible refine gSf_P ?_)))⟩
        · rw [lg_cmp_le] at c_117
          refine g_iconst (v := 0) C dX5_comeTimes_120 (by decide) ?_
          exact g_iret C E dX5_comeTimes_121 rfl rfl ⟨_, rfl, (by repeat (first | (with_reducible assumption) | (with_reducible exact gSf_r _) | (with_reducible refine gSf_I (by omega) ?_) | (with_reducible refine gSf_L (by omega) ?_) | (with_reducible refine gSf_N (by omega) ?_) | (with_reducible refine gSf_G (by omega) ?_) | (with_reducible refine gSf_P ?_)))⟩
set_option maxRecDepth 100000 in
set_option maxHeartbeats 4000000 in
theorem c_X5_followf (l : Launch) (δ : GD) (σ : GS) {u : Nat} (hu : u < 8) {k w : Nat} (hk : k ≤ 12) (hw : w < 2147483648) {n : Nat} (hn : gN σ (14 + u) = nI n) (h4 : n ≤ 4) : gM l δ yX5_follow cX5_follow 7 (some .boolean) 2 62 [.ref (δ.2.2.1 18), .ref (δ.2.2.1 (8 + u)), .int (nI k), .int (nI w)] σ (gPi (fun _ σ' => gSf σ σ')) := by
  refine g_of (lv0 := [some (.ref (δ.2.2.1 18)), some (.ref (δ.2.2.1 (8 + u))), some (.int (nI k)), some (.int (nI w)), none, none, none]) (by decide) rfl (Nat.le_of_ble_eq_true rfl) (fun Γ hl C E => ?_)
  subst hl
  have C : gC Γ δ cX5_follow RX5 7 2 62 := C
  refine g_aload_n C dX5_follow_0 rfl ?_
  refine g_get C dX5_follow_1 iwX7 rfl (wO_U δ _ hu) 0 (Nat.le_of_ble_eq_true rfl) mW193 rfl rfl ?_
  refine g_iconst (v := 0) C dX5_follow_4 (by decide) ?_
  refine g_aload_n C dX5_follow_5 rfl ?_
  refine g_get C dX5_follow_6 iwX5 rfl (wO_R δ _) 0 (Nat.le_of_ble_eq_true rfl) mW74 rfl rfl ?_
  refine g_iconst (v := 0) C dX5_follow_9 (by decide) ?_
  refine g_iconst (v := 4) C dX5_follow_10 (by decide) ?_
  refine g_copyIN C (q0 := u) (q1 := 46) (a' := 0) (b' := 0) (c' := 4) dX5_follow_11 mW426 mW281 mW280 mW12 (by omega) (by decide) rfl rfl rfl (by first | rfl | assumption | (simp only [glit, nI_add, pk_mul]; done) | (simp only [glit, nI_add, pk_mul]; congr 1; omega) | (simp only [*, glit, nI_add, pk_mul]; congr 1; omega)) (by first | rfl | assumption | (simp only [glit, nI_add, pk_mul]; done) | (simp only [glit, nI_add, pk_mul]; congr 1; omega) | (simp only [*, glit, nI_add, pk_mul]; congr 1; omega)) (by first | rfl | assumption | (simp only [glit, nI_add, pk_mul]; done) | (simp only [glit, nI_add, pk_mul]; congr 1; omega) | (simp only [*, glit, nI_add, pk_mul]; congr 1; omega)) (by rw [gLenI_b hu]; omega) (show 0 + 4 ≤ gLenI 46 from Nat.le_trans (show 0 + 4 ≤ 4 by omega) (Nat.le_of_eq rfl)) (by decide) (Nat.le_of_ble_eq_true rfl) ?_
  refine g_aload_n C dX5_follow_14 rfl ?_
  refine g_lconst (v := 1) C dX5_follow_15 (by decide) ?_
  refine g_put C tyX5 dX5_follow_16 iwX5 tyX5_ok nmX5 rfl (wO_R δ _) 1 (Nat.le_of_ble_eq_true rfl) mW75 rfl rfl rfl rfl rfl (Nat.le_of_ble_eq_true rfl) (pG_4 δ _ _) ?_
  refine g_aload_n C dX5_follow_19 rfl ?_
  refine g_lconst (v := 1) C dX5_follow_20 (by decide) ?_
  refine g_put C tyX5 dX5_follow_21 iwX5 tyX5_ok nmX5 rfl (wO_R δ _) 2 (Nat.le_of_ble_eq_true rfl) mW78 rfl rfl rfl rfl rfl (Nat.le_of_ble_eq_true rfl) (pG_5 δ _ _) ?_
  refine g_iload_n C dX5_follow_24 rfl ?_
  refine g_istore C dX5_follow_25 (Nat.le_of_ble_eq_true rfl) rfl ?_
  refine g_lv [some _, some _, some _, some _, some _, none, none] (gs_some (gs_some (gs_some (gs_some (gs_some (gs_none (gs_none gs_nil))))))) ?_
  refine g_iconst (v := 0) C dX5_follow_27 (by decide) ?_
  refine g_istore C dX5_follow_28 (Nat.le_of_ble_eq_true rfl) rfl ?_
  refine g_lv [some _, some _, some _, some _, some _, some _, none] (gs_some (gs_some (gs_some (gs_some (gs_some (gs_some (gs_none gs_nil))))))) ?_
  have L_30 : ∀ (nn : Nat) (i : Nat) (s1 : GS) (hi : i ≤ k) (hs : gSf σ s1), k - i < nn → gW Γ δ s1 30 [some (.ref (δ.2.2.1 18)), some (.ref (δ.2.2.1 (8 + u))), some (.int (nI k)), some (.int (nI w)), some (.int (nI (w / 4 ^ i))), some (.int (nI i)), none] [] := by
    intro nn
    induction nn with
    | zero =>
      intro i s1 hi hs hm_30
      exact absurd hm_30 (Nat.not_lt_zero _)
    | succ nn ih_30 =>
      intro i s1 hi hs hm_30
      have hl := gpowle w i
      have hd4 : w / 4 ^ i % 4 < 4 := Nat.mod_lt _ (by decide)
      have hn_s1 : gN s1 (14 + u) = nI n := (gSf_n hs (by omega)).trans hn
      refine g_iload C dX5_follow_30 rfl ?_
      refine g_iload_n C dX5_follow_32 rfl ?_
      refine g_icmp_ge C 132 dX5_follow_33 (by decide) (fun c_33 => ?_) (fun c_33 => ?_)
      · have k_33 := gle c_33 (a := k) (b := i) (by first | rfl | assumption | (simp only [glit, nI_add, pk_mul]; done) | (simp only [glit, nI_add, pk_mul]; congr 1; omega) | (simp only [*, glit, nI_add, pk_mul]; congr 1; omega)) (by first | rfl | assumption | (simp only [glit, nI_add, pk_mul]; done) | (simp only [glit, nI_add, pk_mul]; congr 1; omega) | (simp only [*, glit, nI_add, pk_mul]; congr 1; omega)) (by omega) (by omega)
        refine g_iconst (v := 1) C dX5_follow_132 (by decide) ?_
        exact g_iret C E dX5_follow_133 rfl rfl ⟨_, rfl, (by repeat (first | (with_reducible assumption) | (with_reducible exact gSf_r _) | (with_reducible refine gSf_I (by omega) ?_) | (with_reducible refine gSf_L (by omega) ?_) | (with_reducible refine gSf_N (by omega) ?_) | (with_reducible refine gSf_G (by omega) ?_) | (with_reducible refine gSf_P ?_)))⟩
      · have k_33 := gnle c_33 (a := k) (b := i) (by first | rfl | assumption | (simp only [glit, nI_add, pk_mul]; done) | (simp only [glit, nI_add, pk_mul]; congr 1; omega) | (simp only [*, glit, nI_add, pk_mul]; congr 1; omega)) (by first | rfl | assumption | (simp only [glit, nI_add, pk_mul]; done) | (simp only [glit, nI_add, pk_mul]; congr 1; omega) | (simp only [*, glit, nI_add, pk_mul]; congr 1; omega)) (by omega) (by omega)
        refine g_iload C dX5_follow_36 rfl ?_
        refine g_iconst (v := 4) C dX5_follow_38 (by decide) ?_
        refine g_irem C dX5_follow_39 (by decide) ?_
        rw [gDig_rem (by omega)]
        refine g_istore C dX5_follow_40 (Nat.le_of_ble_eq_true rfl) rfl ?_
        refine g_lv [some _, some _, some _, some _, some _, some _, some _] (gs_some (gs_some (gs_some (gs_some (gs_some (gs_some (gs_some gs_nil))))))) ?_
        refine g_aload_n C dX5_follow_42 rfl ?_
        refine g_aload_n C dX5_follow_43 rfl ?_
        refine g_get C dX5_follow_44 iwX5 rfl (wO_R δ _) 0 (Nat.le_of_ble_eq_true rfl) mW74 rfl rfl ?_
        refine g_iload C dX5_follow_47 rfl ?_
        refine g_callVi C sV_X5_31 dX5_follow_49 (c_X7_lets _ δ _ hu (q := 46) (by omega) rfl (c := w / 4 ^ i % 4) hd4 hn_s1 h4) ⟨by decide, by decide⟩ (wO_U δ _ hu) rfl rfl rfl rfl (Nat.le_of_ble_eq_true rfl) (fun r_49 s_49 h_49 => ?_)
        obtain ⟨rfl, h_49⟩ := h_49
        rcases h_49 with ⟨rfl, h_49⟩ | ⟨rfl, h_49⟩
        · skip
          refine g_if_ne C 67 dX5_follow_52 (by decide) (fun c_52 => ?_) (fun c_52 => ?_)
          · refine g_aload_n C dX5_follow_67 rfl ?_
            refine g_aload_n C dX5_follow_68 rfl ?_
            refine g_get C dX5_follow_69 iwX5 rfl (wO_R δ _) 0 (Nat.le_of_ble_eq_true rfl) mW74 rfl rfl ?_
            refine g_iload C dX5_follow_72 rfl ?_
            refine g_ialdN C dX5_follow_74 (k := (w / 4 ^ i % 4)) (q := 46) (by decide) rfl (by first | rfl | assumption | (simp only [glit, nI_add, pk_mul]; done) | (simp only [glit, nI_add, pk_mul]; congr 1; omega) | (simp only [*, glit, nI_add, pk_mul]; congr 1; omega)) (show (w / 4 ^ i % 4) < gLenI 46 from Nat.lt_of_lt_of_eq (show (w / 4 ^ i % 4) < 4 by exact hd4) rfl) ?_
            refine g_aload_n C dX5_follow_75 rfl ?_
            refine g_get C dX5_follow_76 iwX5 rfl (wO_R δ _) 0 (Nat.le_of_ble_eq_true rfl) mW74 rfl rfl ?_
            refine g_iconst (v := 0) C dX5_follow_79 (by decide) ?_
            refine g_ialdN C dX5_follow_80 (k := 0) (q := 46) (by decide) rfl (by first | rfl | assumption | (simp only [glit, nI_add, pk_mul]; done) | (simp only [glit, nI_add, pk_mul]; congr 1; omega) | (simp only [*, glit, nI_add, pk_mul]; congr 1; omega)) (show 0 < gLenI 46 from Nat.lt_of_lt_of_eq (show 0 < 4 by omega) rfl) ?_
            refine g_aload_n C dX5_follow_81 rfl ?_
            refine g_get C dX5_follow_82 iwX5 rfl (wO_R δ _) 0 (Nat.le_of_ble_eq_true rfl) mW74 rfl rfl ?_
            refine g_iconst (v := 1) C dX5_follow_85 (by decide) ?_
            refine g_ialdN C dX5_follow_86 (k := 1) (q := 46) (by decide) rfl (by first | rfl | assumption | (simp only [glit, nI_add, pk_mul]; done) | (simp only [glit, nI_add, pk_mul]; congr 1; omega) | (simp only [*, glit, nI_add, pk_mul]; congr 1; omega)) (show 1 < gLenI 46 from Nat.lt_of_lt_of_eq (show 1 < 4 by omega) rfl) ?_
            refine g_iadd C dX5_follow_87 ?_
            refine g_aload_n C dX5_follow_88 rfl ?_
            refine g_get C dX5_follow_89 iwX5 rfl (wO_R δ _) 0 (Nat.le_of_ble_eq_true rfl) mW74 rfl rfl ?_
            refine g_iconst (v := 2) C dX5_follow_92 (by decide) ?_
            refine g_ialdN C dX5_follow_93 (k := 2) (q := 46) (by decide) rfl (by first | rfl | assumption | (simp only [glit, nI_add, pk_mul]; done) | (simp only [glit, nI_add, pk_mul]; congr 1; omega) | (simp only [*, glit, nI_add, pk_mul]; congr 1; omega)) (show 2 < gLenI 46 from Nat.lt_of_lt_of_eq (show 2 < 4 by omega) rfl) ?_
            refine g_iadd C dX5_follow_94 ?_
            refine g_aload_n C dX5_follow_95 rfl ?_
            refine g_get C dX5_follow_96 iwX5 rfl (wO_R δ _) 0 (Nat.le_of_ble_eq_true rfl) mW74 rfl rfl ?_
            refine g_iconst (v := 3) C dX5_follow_99 (by decide) ?_
            refine g_ialdN C dX5_follow_100 (k := 3) (q := 46) (by decide) rfl (by first | rfl | assumption | (simp only [glit, nI_add, pk_mul]; done) | (simp only [glit, nI_add, pk_mul]; congr 1; omega) | (simp only [*, glit, nI_add, pk_mul]; congr 1; omega)) (show 3 < gLenI 46 from Nat.lt_of_lt_of_eq (show 3 < 4 by omega) rfl) ?_
            refine g_iadd C dX5_follow_101 ?_
            refine g_callVi C sV_X5_35 dX5_follow_102 (c_X5_comeTimesf _ δ _ _ _) ⟨by decide, by decide⟩ (wO_R δ _) rfl rfl rfl rfl (Nat.le_of_ble_eq_true rfl) (fun r_102 s_102 h_102 => ?_)
            have z_102 : gSf σ s_102 := gSf_t (by repeat (first | (with_reducible assumption) | (with_reducible exact gSf_r _) | (with_reducible refine gSf_I (by omega) ?_) | (with_reducible refine gSf_L (by omega) ?_) | (with_reducible refine gSf_N (by omega) ?_) | (with_reducible refine gSf_G (by omega) ?_) | (with_reducible refine gSf_P ?_))) h_102
            refine g_if_ne C 110 dX5_follow_105 (by decide) (fun c_105 => ?_) (fun c_105 => ?_)
            · refine g_aload_n C dX5_follow_110 rfl ?_
              refine g_aload_n C dX5_follow_111 rfl ?_
              refine g_get C dX5_follow_112 iwX5 rfl (wO_R δ _) 0 (Nat.le_of_ble_eq_true rfl) mW74 rfl rfl ?_
              refine g_iload C dX5_follow_115 rfl ?_
              refine g_callVv C sV_X5_39 dX5_follow_117 (c_X7_grow _ δ _ hu (q := 46) (by omega) rfl (by omega) (c := w / 4 ^ i % 4) hd4 ((gSf_n z_102 (by omega)).trans hn) h4) ⟨by decide, by decide⟩ (wO_U δ _ hu) rfl rfl rfl rfl (Nat.le_of_ble_eq_true rfl) (fun s_117 h_117 => ?_)
              obtain rfl := h_117
              refine g_iload C dX5_follow_120 rfl ?_
              refine g_iconst (v := 4) C dX5_follow_122 (by decide) ?_
              refine g_idiv C dX5_follow_123 (by decide) ?_
              rw [gDig_div (by omega), gpow]
              refine g_istore C dX5_follow_124 (Nat.le_of_ble_eq_true rfl) rfl ?_
              refine g_lv [some _, some _, some _, some _, some _, some _, some _] (gs_some (gs_some (gs_some (gs_some (gs_some (gs_some (gs_some gs_nil))))))) ?_
              refine g_iinc (v := nI (i + 1)) C dX5_follow_126 rfl (ginc _ 1) rfl ?_
              refine g_lv [some _, some _, some _, some _, some _, some _, some _] (gs_some (gs_some (gs_some (gs_some (gs_some (gs_some (gs_some gs_nil))))))) ?_
              refine g_goto C 30 dX5_follow_129 (by decide) ?_
              refine g_lv [some _, some _, some _, some _, some _, some _, none] (gs_some (gs_some (gs_some (gs_some (gs_some (gs_some (gs_none gs_nil))))))) ?_
              exact ih_30 (i + 1) _ (by omega) (by repeat (first | (with_reducible assumption) | (with_reducible exact gSf_r _) | (with_reducible refine gSf_I (by omega) ?_) | (with_reducible refine gSf_L (by omega) ?_) | (with_reducible refine gSf_N (by omega) ?_) | (with_reducible refine gSf_G (by omega) ?_) | (with_reducible refine gSf_P ?_))) (by omega)
            · refine g_iconst (v := 0) C dX5_follow_108 (by decide) ?_
              exact g_iret C E dX5_follow_109 rfl rfl ⟨_, rfl, (by repeat (first | (with_reducible assumption) | (with_reducible exact gSf_r _) | (with_reducible refine gSf_I (by omega) ?_) | (with_reducible refine gSf_L (by omega) ?_) | (with_reducible refine gSf_N (by omega) ?_) | (with_reducible refine gSf_G (by omega) ?_) | (with_reducible refine gSf_P ?_)))⟩
          · exact absurd c_52 (by decide)
        · skip
          refine g_if_ne C 67 dX5_follow_52 (by decide) (fun c_52 => ?_) (fun c_52 => ?_)
          · exact absurd c_52 (by decide)
          · refine g_aload_n C dX5_follow_55 rfl ?_
            refine g_lconst (v := 0) C dX5_follow_56 (by decide) ?_
            refine g_put C tyX5 dX5_follow_57 iwX5 tyX5_ok nmX5 rfl (wO_R δ _) 1 (Nat.le_of_ble_eq_true rfl) mW75 rfl rfl rfl rfl rfl (Nat.le_of_ble_eq_true rfl) (pG_4 δ _ _) ?_
            refine g_aload_n C dX5_follow_60 rfl ?_
            refine g_lconst (v := 1) C dX5_follow_61 (by decide) ?_
            refine g_put C tyX5 dX5_follow_62 iwX5 tyX5_ok nmX5 rfl (wO_R δ _) 2 (Nat.le_of_ble_eq_true rfl) mW78 rfl rfl rfl rfl rfl (Nat.le_of_ble_eq_true rfl) (pG_5 δ _ _) ?_
            refine g_iconst (v := 1) C dX5_follow_65 (by decide) ?_
            exact g_iret C E dX5_follow_66 rfl rfl ⟨_, rfl, (by repeat (first | (with_reducible assumption) | (with_reducible exact gSf_r _) | (with_reducible refine gSf_I (by omega) ?_) | (with_reducible refine gSf_L (by omega) ?_) | (with_reducible refine gSf_N (by omega) ?_) | (with_reducible refine gSf_G (by omega) ?_) | (with_reducible refine gSf_P ?_)))⟩
  refine g_lv [some _, some _, some _, some _, some _, some _, none] (gs_some (gs_some (gs_some (gs_some (gs_some (gs_some (gs_none gs_nil))))))) ?_
  have e0 : nI w = nI (w / 4 ^ 0) := by rw [Nat.pow_zero, Nat.div_one]
  refine g_lv [some (.ref (δ.2.2.1 18)), some (.ref (δ.2.2.1 (8 + u))), some (.int (nI k)), some (.int (nI w)), some (.int (nI (w / 4 ^ 0))), some (.int (nI 0)), none] (by rw [← e0]; exact gs_some (gs_some (gs_some (gs_some (gs_some (gs_some (gs_none gs_nil))))))) ?_
  exact L_30 _ 0 _ (by omega) (by repeat (first | (with_reducible assumption) | (with_reducible exact gSf_r _) | (with_reducible refine gSf_I (by omega) ?_) | (with_reducible refine gSf_L (by omega) ?_) | (with_reducible refine gSf_N (by omega) ?_) | (with_reducible refine gSf_G (by omega) ?_) | (with_reducible refine gSf_P ?_))) (Nat.lt_succ_self _)
set_option maxRecDepth 100000 in
set_option maxHeartbeats 4000000 in
theorem c_X3_isAsAheadf (l : Launch) (δ : GD) (σ : GS) {p : Nat} (hp : p < 216) : gM l δ yX3_isAsAhead cX3_isAsAhead 3 (some .boolean) 0 0 [.ref (δ.2.2.1 19), .int (nI p), .ref (δ.2.2.1 18)] σ (gPi (fun _ σ' => gSf σ σ')) := by
  refine g_of (lv0 := [some (.ref (δ.2.2.1 19)), some (.int (nI p)), some (.ref (δ.2.2.1 18))]) (by decide) rfl (Nat.le_of_ble_eq_true rfl) (fun Γ hl C E => ?_)
  subst hl
  have C : gC Γ δ cX3_isAsAhead RX3 3 0 0 := C
  refine g_aload_n C dX3_isAsAhead_0 rfl ?_
  refine g_get C dX3_isAsAhead_1 iwX3 rfl (wO_O δ _) 1 (Nat.le_of_ble_eq_true rfl) mW95 rfl rfl ?_
  refine g_iload_n C dX3_isAsAhead_4 rfl ?_
  refine g_laldN C dX3_isAsAhead_5 (k := p) (q := 7) (by decide) rfl (by first | rfl | assumption | (simp only [glit, nI_add, pk_mul]; done) | (simp only [glit, nI_add, pk_mul]; congr 1; omega) | (simp only [*, glit, nI_add, pk_mul]; congr 1; omega)) (show p < gLenL 7 from Nat.lt_of_lt_of_eq (show p < 216 by omega) rfl) ?_
  refine g_lconst (v := 0) C dX3_isAsAhead_6 (by decide) ?_
  refine g_lcmp C dX3_isAsAhead_7 ?_
  refine g_if_ne C 33 dX3_isAsAhead_8 (by decide) (fun c_8 => ?_) (fun c_8 => ?_)
  · rw [lg_cmp_eq] at c_8
    refine g_aload_n C dX3_isAsAhead_33 rfl ?_
    refine g_get C dX3_isAsAhead_34 iwX3 rfl (wO_O δ _) 0 (Nat.le_of_ble_eq_true rfl) mW94 rfl rfl ?_
    refine g_iload_n C dX3_isAsAhead_37 rfl ?_
    refine g_laldN C dX3_isAsAhead_38 (k := p) (q := 6) (by decide) rfl (by first | rfl | assumption | (simp only [glit, nI_add, pk_mul]; done) | (simp only [glit, nI_add, pk_mul]; congr 1; omega) | (simp only [*, glit, nI_add, pk_mul]; congr 1; omega)) (show p < gLenL 6 from Nat.lt_of_lt_of_eq (show p < 216 by omega) rfl) ?_
    refine g_aload_n C dX3_isAsAhead_39 rfl ?_
    refine g_get C dX3_isAsAhead_40 iwX5 rfl (wO_R δ _) 1 (Nat.le_of_ble_eq_true rfl) mW76 rfl rfl ?_
    refine g_lcmp C dX3_isAsAhead_43 ?_
    refine g_if_ne C 65 dX3_isAsAhead_44 (by decide) (fun c_44 => ?_) (fun c_44 => ?_)
    · rw [lg_cmp_eq] at c_44
      refine g_iconst (v := 0) C dX3_isAsAhead_65 (by decide) ?_
      exact g_iret C E dX3_isAsAhead_66 rfl rfl ⟨_, rfl, (by repeat (first | (with_reducible assumption) | (with_reducible exact gSf_r _) | (with_reducible refine gSf_I (by omega) ?_) | (with_reducible refine gSf_L (by omega) ?_) | (with_reducible refine gSf_N (by omega) ?_) | (with_reducible refine gSf_G (by omega) ?_) | (with_reducible refine gSf_P ?_)))⟩
    · rw [lg_cmp_eq] at c_44
      refine g_aload_n C dX3_isAsAhead_47 rfl ?_
      refine g_get C dX3_isAsAhead_48 iwX3 rfl (wO_O δ _) 1 (Nat.le_of_ble_eq_true rfl) mW95 rfl rfl ?_
      refine g_iload_n C dX3_isAsAhead_51 rfl ?_
      refine g_laldN C dX3_isAsAhead_52 (k := p) (q := 7) (by decide) rfl (by first | rfl | assumption | (simp only [glit, nI_add, pk_mul]; done) | (simp only [glit, nI_add, pk_mul]; congr 1; omega) | (simp only [*, glit, nI_add, pk_mul]; congr 1; omega)) (show p < gLenL 7 from Nat.lt_of_lt_of_eq (show p < 216 by omega) rfl) ?_
      refine g_aload_n C dX3_isAsAhead_53 rfl ?_
      refine g_get C dX3_isAsAhead_54 iwX5 rfl (wO_R δ _) 2 (Nat.le_of_ble_eq_true rfl) mW79 rfl rfl ?_
      refine g_lcmp C dX3_isAsAhead_57 ?_
      refine g_if_ne C 65 dX3_isAsAhead_58 (by decide) (fun c_58 => ?_) (fun c_58 => ?_)
      · rw [lg_cmp_eq] at c_58
        refine g_iconst (v := 0) C dX3_isAsAhead_65 (by decide) ?_
        exact g_iret C E dX3_isAsAhead_66 rfl rfl ⟨_, rfl, (by repeat (first | (with_reducible assumption) | (with_reducible exact gSf_r _) | (with_reducible refine gSf_I (by omega) ?_) | (with_reducible refine gSf_L (by omega) ?_) | (with_reducible refine gSf_N (by omega) ?_) | (with_reducible refine gSf_G (by omega) ?_) | (with_reducible refine gSf_P ?_)))⟩
      · rw [lg_cmp_eq] at c_58
        refine g_iconst (v := 1) C dX3_isAsAhead_61 (by decide) ?_
        refine g_goto C 66 dX3_isAsAhead_62 (by decide) ?_
        exact g_iret C E dX3_isAsAhead_66 rfl rfl ⟨_, rfl, (by repeat (first | (with_reducible assumption) | (with_reducible exact gSf_r _) | (with_reducible refine gSf_I (by omega) ?_) | (with_reducible refine gSf_L (by omega) ?_) | (with_reducible refine gSf_N (by omega) ?_) | (with_reducible refine gSf_G (by omega) ?_) | (with_reducible refine gSf_P ?_)))⟩
  · rw [lg_cmp_eq] at c_8
    refine g_aload_n C dX3_isAsAhead_11 rfl ?_
    refine g_get C dX3_isAsAhead_12 iwX3 rfl (wO_O δ _) 0 (Nat.le_of_ble_eq_true rfl) mW94 rfl rfl ?_
    refine g_iload_n C dX3_isAsAhead_15 rfl ?_
    refine g_aload_n C dX3_isAsAhead_16 rfl ?_
    refine g_get C dX3_isAsAhead_17 iwX5 rfl (wO_R δ _) 1 (Nat.le_of_ble_eq_true rfl) mW76 rfl rfl ?_
    refine g_lastN C dX3_isAsAhead_20 (k := p) (q := 6) (by decide) rfl (by first | rfl | assumption | (simp only [glit, nI_add, pk_mul]; done) | (simp only [glit, nI_add, pk_mul]; congr 1; omega) | (simp only [*, glit, nI_add, pk_mul]; congr 1; omega)) (show p < gLenL 6 from Nat.lt_of_lt_of_eq (show p < 216 by omega) rfl) ?_
    refine g_aload_n C dX3_isAsAhead_21 rfl ?_
    refine g_get C dX3_isAsAhead_22 iwX3 rfl (wO_O δ _) 1 (Nat.le_of_ble_eq_true rfl) mW95 rfl rfl ?_
    refine g_iload_n C dX3_isAsAhead_25 rfl ?_
    refine g_aload_n C dX3_isAsAhead_26 rfl ?_
    refine g_get C dX3_isAsAhead_27 iwX5 rfl (wO_R δ _) 2 (Nat.le_of_ble_eq_true rfl) mW79 rfl rfl ?_
    refine g_lastN C dX3_isAsAhead_30 (k := p) (q := 7) (by decide) rfl (by first | rfl | assumption | (simp only [glit, nI_add, pk_mul]; done) | (simp only [glit, nI_add, pk_mul]; congr 1; omega) | (simp only [*, glit, nI_add, pk_mul]; congr 1; omega)) (show p < gLenL 7 from Nat.lt_of_lt_of_eq (show p < 216 by omega) rfl) ?_
    refine g_iconst (v := 1) C dX3_isAsAhead_31 (by decide) ?_
    exact g_iret C E dX3_isAsAhead_32 rfl rfl ⟨_, rfl, (by repeat (first | (with_reducible assumption) | (with_reducible exact gSf_r _) | (with_reducible refine gSf_I (by omega) ?_) | (with_reducible refine gSf_L (by omega) ?_) | (with_reducible refine gSf_N (by omega) ?_) | (with_reducible refine gSf_G (by omega) ?_) | (with_reducible refine gSf_P ?_)))⟩
set_option maxRecDepth 100000 in
set_option maxHeartbeats 4000000 in
theorem c_X3_areAlikef (l : Launch) (δ : GD) (σ : GS) {u : Nat} (hu : u < 8) {k : Nat} (hk : k ≤ 5) {n : Nat} (hn : gN σ (14 + u) = nI n) (h4 : n ≤ 4) : gM l δ yX3_areAlike cX3_areAlike 6 (some .boolean) 3 88 [.ref (δ.2.2.1 19), .ref (δ.2.2.1 (8 + u)), .int (nI k), .ref (δ.2.2.1 18)] σ (gPi (fun _ σ' => gSf σ σ')) := by
  refine g_of (lv0 := [some (.ref (δ.2.2.1 19)), some (.ref (δ.2.2.1 (8 + u))), some (.int (nI k)), some (.ref (δ.2.2.1 18)), none, none]) (by decide) rfl (Nat.le_of_ble_eq_true rfl) (fun Γ hl C E => ?_)
  subst hl
  have C : gC Γ δ cX3_areAlike RX3 6 3 88 := C
  have h45 := gp45 hk
  refine g_aload_n C dX3_areAlike_0 rfl ?_
  refine g_get C dX3_areAlike_1 iwX3 rfl (wO_O δ _) 1 (Nat.le_of_ble_eq_true rfl) mW95 rfl rfl ?_
  refine g_lconst (v := 0) C dX3_areAlike_4 (by decide) ?_
  refine g_callSv C sS_X3_18 dX3_areAlike_5 (c_J7_fill_d0a16 _ δ _ (q := 7) (by omega) _) ⟨by decide, by decide⟩ rfl rfl rfl (Nat.le_of_ble_eq_true rfl) (fun s_5 h_5 => ?_)
  obtain ⟨f, rfl, -⟩ := h_5
  refine g_iconst (v := 1) C dX3_areAlike_8 (by decide) ?_
  refine g_istore C dX3_areAlike_9 (Nat.le_of_ble_eq_true rfl) rfl ?_
  refine g_lv [some _, some _, some _, some _, some _, none] (gs_some (gs_some (gs_some (gs_some (gs_some (gs_none gs_nil)))))) ?_
  refine g_iconst (v := 0) C dX3_areAlike_11 (by decide) ?_
  refine g_istore C dX3_areAlike_12 (Nat.le_of_ble_eq_true rfl) rfl ?_
  refine g_lv [some _, some _, some _, some _, some _, some _] (gs_some (gs_some (gs_some (gs_some (gs_some (gs_some gs_nil)))))) ?_
  have L_14 : ∀ (nn : Nat) (i : Nat) (hi : i ≤ k), k - i < nn → gW Γ δ (uL σ 7 f) 14 [some (.ref (δ.2.2.1 19)), some (.ref (δ.2.2.1 (8 + u))), some (.int (nI k)), some (.ref (δ.2.2.1 18)), some (.int (nI (4 ^ i))), some (.int (nI i))] [] := by
    intro nn
    induction nn with
    | zero =>
      intro i hi hm_14
      exact absurd hm_14 (Nat.not_lt_zero _)
    | succ nn ih_14 =>
      intro i hi hm_14
      refine g_iload C dX3_areAlike_14 rfl ?_
      refine g_iload_n C dX3_areAlike_16 rfl ?_
      refine g_icmp_ge C 32 dX3_areAlike_17 (by decide) (fun c_17 => ?_) (fun c_17 => ?_)
      · have k_17 := gle c_17 (a := k) (b := i) (by first | rfl | assumption | (simp only [glit, nI_add, pk_mul]; done) | (simp only [glit, nI_add, pk_mul]; congr 1; omega) | (simp only [*, glit, nI_add, pk_mul]; congr 1; omega)) (by first | rfl | assumption | (simp only [glit, nI_add, pk_mul]; done) | (simp only [glit, nI_add, pk_mul]; congr 1; omega) | (simp only [*, glit, nI_add, pk_mul]; congr 1; omega)) (by omega) (by omega)
        have ek : k = i := by omega
        subst ek
        refine g_iconst (v := 0) C dX3_areAlike_32 (by decide) ?_
        refine g_istore C dX3_areAlike_33 (Nat.le_of_ble_eq_true rfl) rfl ?_
        refine g_lv [some _, some _, some _, some _, some _, some _] (gs_some (gs_some (gs_some (gs_some (gs_some (gs_some gs_nil)))))) ?_
        have L_35 : ∀ (nn : Nat) (j : Nat) (s1 : GS) (hj : j ≤ 4 ^ k) (hs : gSf σ s1), 4 ^ k - j < nn → gW Γ δ s1 35 [some (.ref (δ.2.2.1 19)), some (.ref (δ.2.2.1 (8 + u))), some (.int (nI k)), some (.ref (δ.2.2.1 18)), some (.int (nI (4 ^ k))), some (.int (nI j))] [] := by
          intro nn
          induction nn with
          | zero =>
            intro j s1 hj hs hm_35
            exact absurd hm_35 (Nat.not_lt_zero _)
          | succ nn ih_35 =>
            intro j s1 hj hs hm_35
            have hn_s1 : gN s1 (14 + u) = nI n := (gSf_n hs (by omega)).trans hn
            refine g_iload C dX3_areAlike_35 rfl ?_
            refine g_iload C dX3_areAlike_37 rfl ?_
            refine g_icmp_ge C 85 dX3_areAlike_39 (by decide) (fun c_39 => ?_) (fun c_39 => ?_)
            · have k_39 := gle c_39 (a := (4 ^ k)) (b := j) (by first | rfl | assumption | (simp only [glit, nI_add, pk_mul]; done) | (simp only [glit, nI_add, pk_mul]; congr 1; omega) | (simp only [*, glit, nI_add, pk_mul]; congr 1; omega)) (by first | rfl | assumption | (simp only [glit, nI_add, pk_mul]; done) | (simp only [glit, nI_add, pk_mul]; congr 1; omega) | (simp only [*, glit, nI_add, pk_mul]; congr 1; omega)) (by omega) (by omega)
              refine g_iconst (v := 1) C dX3_areAlike_85 (by decide) ?_
              exact g_iret C E dX3_areAlike_86 rfl rfl ⟨_, rfl, (by repeat (first | (with_reducible assumption) | (with_reducible exact gSf_r _) | (with_reducible refine gSf_I (by omega) ?_) | (with_reducible refine gSf_L (by omega) ?_) | (with_reducible refine gSf_N (by omega) ?_) | (with_reducible refine gSf_G (by omega) ?_) | (with_reducible refine gSf_P ?_)))⟩
            · have k_39 := gnle c_39 (a := (4 ^ k)) (b := j) (by first | rfl | assumption | (simp only [glit, nI_add, pk_mul]; done) | (simp only [glit, nI_add, pk_mul]; congr 1; omega) | (simp only [*, glit, nI_add, pk_mul]; congr 1; omega)) (by first | rfl | assumption | (simp only [glit, nI_add, pk_mul]; done) | (simp only [glit, nI_add, pk_mul]; congr 1; omega) | (simp only [*, glit, nI_add, pk_mul]; congr 1; omega)) (by omega) (by omega)
              refine g_aload_n C dX3_areAlike_42 rfl ?_
              refine g_iload_n C dX3_areAlike_43 rfl ?_
              refine g_iload C dX3_areAlike_44 rfl ?_
              refine g_callVi C sV_X3_24 dX3_areAlike_46 (c_X7_hasAll _ δ _ hu (k := k) (w := j) (by omega) (by omega) hn_s1 h4) ⟨by decide, by decide⟩ (wO_U δ _ hu) rfl rfl rfl rfl (Nat.le_of_ble_eq_true rfl) (fun r_46 s_46 h_46 => ?_)
              obtain ⟨rfl, h_46⟩ := h_46
              rcases h_46 with ⟨rfl, h_46⟩ | ⟨rfl, h_46⟩
              · skip
                refine g_if_eq C 79 dX3_areAlike_49 (by decide) (fun c_49 => ?_) (fun c_49 => ?_)
                · exact absurd c_49 (by decide)
                · refine g_aload_n C dX3_areAlike_52 rfl ?_
                  refine g_aload_n C dX3_areAlike_53 rfl ?_
                  refine g_iload_n C dX3_areAlike_54 rfl ?_
                  refine g_iload C dX3_areAlike_55 rfl ?_
                  refine g_callVi C sV_X3_30 dX3_areAlike_57 (c_X5_followf _ δ _ hu (k := k) (w := j) (by omega) (by omega) hn_s1 h4) ⟨by decide, by decide⟩ (wO_R δ _) rfl rfl rfl rfl (Nat.le_of_ble_eq_true rfl) (fun r_57 s_57 h_57 => ?_)
                  have z_57 : gSf σ s_57 := gSf_t (by repeat (first | (with_reducible assumption) | (with_reducible exact gSf_r _) | (with_reducible refine gSf_I (by omega) ?_) | (with_reducible refine gSf_L (by omega) ?_) | (with_reducible refine gSf_N (by omega) ?_) | (with_reducible refine gSf_G (by omega) ?_) | (with_reducible refine gSf_P ?_))) h_57
                  refine g_if_eq C 79 dX3_areAlike_60 (by decide) (fun c_60 => ?_) (fun c_60 => ?_)
                  · refine g_iinc (v := nI (j + 1)) C dX3_areAlike_79 rfl (ginc _ 1) rfl ?_
                    refine g_lv [some _, some _, some _, some _, some _, some _] (gs_some (gs_some (gs_some (gs_some (gs_some (gs_some gs_nil)))))) ?_
                    refine g_goto C 35 dX3_areAlike_82 (by decide) ?_
                    refine g_lv [some _, some _, some _, some _, some _, some _] (gs_some (gs_some (gs_some (gs_some (gs_some (gs_some gs_nil)))))) ?_
                    exact ih_35 (j + 1) _ (by omega) (by repeat (first | (with_reducible assumption) | (with_reducible exact gSf_r _) | (with_reducible refine gSf_I (by omega) ?_) | (with_reducible refine gSf_L (by omega) ?_) | (with_reducible refine gSf_N (by omega) ?_) | (with_reducible refine gSf_G (by omega) ?_) | (with_reducible refine gSf_P ?_))) (by omega)
                  · refine g_aload_n C dX3_areAlike_63 rfl ?_
                    refine g_iload_n C dX3_areAlike_64 rfl ?_
                    refine g_iload C dX3_areAlike_65 rfl ?_
                    refine g_callSi C sS_X3_36 dX3_areAlike_67 (c_X3_placeOf _ δ _ (k := k) (w := j) (by omega) (by omega)) ⟨by decide, by decide⟩ rfl rfl rfl (Nat.le_of_ble_eq_true rfl) (fun r_67 s_67 h_67 => ?_)
                    obtain ⟨rfl, p, hp, rfl⟩ := h_67
                    refine g_aload_n C dX3_areAlike_70 rfl ?_
                    refine g_callVi C sV_X3_40 dX3_areAlike_71 (c_X3_isAsAheadf _ δ _ (p := p) (by omega)) ⟨by decide, by decide⟩ (wO_O δ _) rfl rfl rfl rfl (Nat.le_of_ble_eq_true rfl) (fun r_71 s_71 h_71 => ?_)
                    have z_71 : gSf σ s_71 := gSf_t (by repeat (first | (with_reducible assumption) | (with_reducible exact gSf_r _) | (with_reducible refine gSf_I (by omega) ?_) | (with_reducible refine gSf_L (by omega) ?_) | (with_reducible refine gSf_N (by omega) ?_) | (with_reducible refine gSf_G (by omega) ?_) | (with_reducible refine gSf_P ?_))) h_71
                    refine g_if_ne C 79 dX3_areAlike_74 (by decide) (fun c_74 => ?_) (fun c_74 => ?_)
                    · refine g_iinc (v := nI (j + 1)) C dX3_areAlike_79 rfl (ginc _ 1) rfl ?_
                      refine g_lv [some _, some _, some _, some _, some _, some _] (gs_some (gs_some (gs_some (gs_some (gs_some (gs_some gs_nil)))))) ?_
                      refine g_goto C 35 dX3_areAlike_82 (by decide) ?_
                      refine g_lv [some _, some _, some _, some _, some _, some _] (gs_some (gs_some (gs_some (gs_some (gs_some (gs_some gs_nil)))))) ?_
                      exact ih_35 (j + 1) _ (by omega) (by repeat (first | (with_reducible assumption) | (with_reducible exact gSf_r _) | (with_reducible refine gSf_I (by omega) ?_) | (with_reducible refine gSf_L (by omega) ?_) | (with_reducible refine gSf_N (by omega) ?_) | (with_reducible refine gSf_G (by omega) ?_) | (with_reducible refine gSf_P ?_))) (by omega)
                    · refine g_iconst (v := 0) C dX3_areAlike_77 (by decide) ?_
                      exact g_iret C E dX3_areAlike_78 rfl rfl ⟨_, rfl, (by repeat (first | (with_reducible assumption) | (with_reducible exact gSf_r _) | (with_reducible refine gSf_I (by omega) ?_) | (with_reducible refine gSf_L (by omega) ?_) | (with_reducible refine gSf_N (by omega) ?_) | (with_reducible refine gSf_G (by omega) ?_) | (with_reducible refine gSf_P ?_)))⟩
              · skip
                refine g_if_eq C 79 dX3_areAlike_49 (by decide) (fun c_49 => ?_) (fun c_49 => ?_)
                · refine g_iinc (v := nI (j + 1)) C dX3_areAlike_79 rfl (ginc _ 1) rfl ?_
                  refine g_lv [some _, some _, some _, some _, some _, some _] (gs_some (gs_some (gs_some (gs_some (gs_some (gs_some gs_nil)))))) ?_
                  refine g_goto C 35 dX3_areAlike_82 (by decide) ?_
                  refine g_lv [some _, some _, some _, some _, some _, some _] (gs_some (gs_some (gs_some (gs_some (gs_some (gs_some gs_nil)))))) ?_
                  exact ih_35 (j + 1) _ (by omega) (by repeat (first | (with_reducible assumption) | (with_reducible exact gSf_r _) | (with_reducible refine gSf_I (by omega) ?_) | (with_reducible refine gSf_L (by omega) ?_) | (with_reducible refine gSf_N (by omega) ?_) | (with_reducible refine gSf_G (by omega) ?_) | (with_reducible refine gSf_P ?_))) (by omega)
                · exact absurd c_49 (by decide)
        refine g_lv [some _, some _, some _, some _, some _, some _] (gs_some (gs_some (gs_some (gs_some (gs_some (gs_some gs_nil)))))) ?_
        exact L_35 _ 0 _ (Nat.zero_le _) (by repeat (first | (with_reducible assumption) | (with_reducible exact gSf_r _) | (with_reducible refine gSf_I (by omega) ?_) | (with_reducible refine gSf_L (by omega) ?_) | (with_reducible refine gSf_N (by omega) ?_) | (with_reducible refine gSf_G (by omega) ?_) | (with_reducible refine gSf_P ?_))) (Nat.lt_succ_self _)
      · have k_17 := gnle c_17 (a := k) (b := i) (by first | rfl | assumption | (simp only [glit, nI_add, pk_mul]; done) | (simp only [glit, nI_add, pk_mul]; congr 1; omega) | (simp only [*, glit, nI_add, pk_mul]; congr 1; omega)) (by first | rfl | assumption | (simp only [glit, nI_add, pk_mul]; done) | (simp only [glit, nI_add, pk_mul]; congr 1; omega) | (simp only [*, glit, nI_add, pk_mul]; congr 1; omega)) (by omega) (by omega)
        refine g_iload C dX3_areAlike_20 rfl ?_
        refine g_iconst (v := 4) C dX3_areAlike_22 (by decide) ?_
        refine g_imul C dX3_areAlike_23 ?_
        rw [gp4s]
        refine g_istore C dX3_areAlike_24 (Nat.le_of_ble_eq_true rfl) rfl ?_
        refine g_lv [some _, some _, some _, some _, some _, some _] (gs_some (gs_some (gs_some (gs_some (gs_some (gs_some gs_nil)))))) ?_
        refine g_iinc (v := nI (i + 1)) C dX3_areAlike_26 rfl (ginc _ 1) rfl ?_
        refine g_lv [some _, some _, some _, some _, some _, some _] (gs_some (gs_some (gs_some (gs_some (gs_some (gs_some gs_nil)))))) ?_
        refine g_goto C 14 dX3_areAlike_29 (by decide) ?_
        refine g_lv [some _, some _, some _, some _, some _, some _] (gs_some (gs_some (gs_some (gs_some (gs_some (gs_some gs_nil)))))) ?_
        exact ih_14 (i + 1) (by omega) (by omega)
  refine g_lv [some _, some _, some _, some _, some _, some _] (gs_some (gs_some (gs_some (gs_some (gs_some (gs_some gs_nil)))))) ?_
  exact L_14 _ 0 (by omega) (Nat.lt_succ_self _)
set_option maxRecDepth 100000 in
set_option maxHeartbeats 4000000 in
theorem c_X8_freef (l : Launch) (δ : GD) (σ : GS) (a0 a1 : Int32) {m : Nat} (hm : gN σ 0 = nI m) (h8 : m ≤ 8) (hC : ∀ u, u < m → ∃ n : Nat, 2 ≤ n ∧ n ≤ 4 ∧ gN σ (14 + u) = nI n) : gM l δ yX8_free cX8_free 4 (some .int) 4 113 [.ref (δ.2.2.1 0), .int a0, .int a1] σ (gPi (fun _ σ' => gSf σ σ')) := by
  refine g_of (lv0 := [some (.ref (δ.2.2.1 0)), some (.int a0), some (.int a1), none]) (by decide) rfl (Nat.le_of_ble_eq_true rfl) (fun Γ hl C E => ?_)
  subst hl
  have C : gC Γ δ cX8_free RX8 4 4 113 := C
  refine g_aload_n C dX8_free_0 rfl ?_
  refine g_iload_n C dX8_free_1 rfl ?_
  refine g_callVr C sV_X8_101 dX8_free_2 (c_X8_urnAt _ δ _ _ hm h8) ⟨by decide, by decide⟩ (wO_X δ _) rfl rfl rfl rfl (Nat.le_of_ble_eq_true rfl) (fun r_2 s_2 h_2 => ?_)
  obtain ⟨rfl, h_2⟩ := h_2
  rcases h_2 with ⟨rfl, h_2⟩ | ⟨u_2, hu_2, e_2, rfl⟩
  · skip
    refine g_astore_nN C dX8_free_5 (Nat.le_of_ble_eq_true rfl) rfl ?_
    refine g_lv [some _, some _, some _, some _] (gs_some (gs_some (gs_some (gs_some gs_nil)))) ?_
    refine g_aload_nN C dX8_free_6 rfl ?_
    refine g_ifnull_n C 20 dX8_free_7 (by decide) ?_
    refine g_iconst (v := (-1)) C dX8_free_20 (by decide) ?_
    exact g_iret C E dX8_free_21 rfl rfl ⟨_, rfl, (by repeat (first | (with_reducible assumption) | (with_reducible exact gSf_r _) | (with_reducible refine gSf_I (by omega) ?_) | (with_reducible refine gSf_L (by omega) ?_) | (with_reducible refine gSf_N (by omega) ?_) | (with_reducible refine gSf_G (by omega) ?_) | (with_reducible refine gSf_P ?_)))⟩
  · obtain ⟨n, h2, h4, hn⟩ := hC u_2 hu_2
    have hu8 : u_2 < 8 := by omega
    refine g_astore_n C dX8_free_5 (Nat.le_of_ble_eq_true rfl) rfl ?_
    refine g_lv [some _, some _, some _, some _] (gs_some (gs_some (gs_some (gs_some gs_nil)))) ?_
    refine g_aload_n C dX8_free_6 rfl ?_
    refine g_ifnull_r C dX8_free_7 ?_
    refine g_iload_n C dX8_free_10 rfl ?_
    refine g_iconst (v := 1) C dX8_free_11 (by decide) ?_
    refine g_icmp_lt C 20 dX8_free_12 (by decide) (fun c_12 => ?_) (fun c_12 => ?_)
    · refine g_iconst (v := (-1)) C dX8_free_20 (by decide) ?_
      exact g_iret C E dX8_free_21 rfl rfl ⟨_, rfl, (by repeat (first | (with_reducible assumption) | (with_reducible exact gSf_r _) | (with_reducible refine gSf_I (by omega) ?_) | (with_reducible refine gSf_L (by omega) ?_) | (with_reducible refine gSf_N (by omega) ?_) | (with_reducible refine gSf_G (by omega) ?_) | (with_reducible refine gSf_P ?_)))⟩
    · refine g_iload_n C dX8_free_15 rfl ?_
      refine g_iconst (v := 5) C dX8_free_16 (by decide) ?_
      refine g_icmp_le C 22 dX8_free_17 (by decide) (fun c_17 => ?_) (fun c_17 => ?_)
      · obtain ⟨k1, hk1, rfl⟩ := gIx_5 c_12 c_17
        refine g_aload_n C dX8_free_22 rfl ?_
        refine g_callVi C sV_X8_129 dX8_free_23 (c_X7_total _ δ _ hu8) ⟨by decide, by decide⟩ (wO_U δ _ hu8) rfl rfl rfl rfl (Nat.le_of_ble_eq_true rfl) (fun r_23 s_23 h_23 => ?_)
        obtain ⟨rfl, h_23⟩ := h_23
        refine g_if_ne C 32 dX8_free_26 (by decide) (fun c_26 => ?_) (fun c_26 => ?_)
        · refine g_aload_n C dX8_free_32 rfl ?_
          refine g_get C dX8_free_33 iwX8 rfl (wO_X δ _) 5 (Nat.le_of_ble_eq_true rfl) mW222 rfl rfl ?_
          refine g_aload_n C dX8_free_36 rfl ?_
          refine g_iload_n C dX8_free_37 rfl ?_
          refine g_aload_n C dX8_free_38 rfl ?_
          refine g_get C dX8_free_39 iwX8 rfl (wO_X δ _) 4 (Nat.le_of_ble_eq_true rfl) mW221 rfl rfl ?_
          refine g_callVi C sV_X8_240 dX8_free_42 (c_X3_areAlikef _ δ _ hu8 (k := k1) (by omega) hn h4) ⟨by decide, by decide⟩ (wO_O δ _) rfl rfl rfl rfl (Nat.le_of_ble_eq_true rfl) (fun r_42 s_42 h_42 => ?_)
          have z_42 : gSf σ s_42 := gSf_t (by repeat (first | (with_reducible assumption) | (with_reducible exact gSf_r _) | (with_reducible refine gSf_I (by omega) ?_) | (with_reducible refine gSf_L (by omega) ?_) | (with_reducible refine gSf_N (by omega) ?_) | (with_reducible refine gSf_G (by omega) ?_) | (with_reducible refine gSf_P ?_))) h_42
          refine g_if_eq C 52 dX8_free_45 (by decide) (fun c_45 => ?_) (fun c_45 => ?_)
          · refine g_iconst (v := 0) C dX8_free_52 (by decide) ?_
            exact g_iret C E dX8_free_53 rfl rfl ⟨_, rfl, (by repeat (first | (with_reducible assumption) | (with_reducible exact gSf_r _) | (with_reducible refine gSf_I (by omega) ?_) | (with_reducible refine gSf_L (by omega) ?_) | (with_reducible refine gSf_N (by omega) ?_) | (with_reducible refine gSf_G (by omega) ?_) | (with_reducible refine gSf_P ?_)))⟩
          · refine g_iconst (v := 1) C dX8_free_48 (by decide) ?_
            refine g_goto C 53 dX8_free_49 (by decide) ?_
            exact g_iret C E dX8_free_53 rfl rfl ⟨_, rfl, (by repeat (first | (with_reducible assumption) | (with_reducible exact gSf_r _) | (with_reducible refine gSf_I (by omega) ?_) | (with_reducible refine gSf_L (by omega) ?_) | (with_reducible refine gSf_N (by omega) ?_) | (with_reducible refine gSf_G (by omega) ?_) | (with_reducible refine gSf_P ?_)))⟩
        · refine g_bipush (v := (-2)) C dX8_free_29 (by decide) ?_
          exact g_iret C E dX8_free_31 rfl rfl ⟨_, rfl, (by repeat (first | (with_reducible assumption) | (with_reducible exact gSf_r _) | (with_reducible refine gSf_I (by omega) ?_) | (with_reducible refine gSf_L (by omega) ?_) | (with_reducible refine gSf_N (by omega) ?_) | (with_reducible refine gSf_G (by omega) ?_) | (with_reducible refine gSf_P ?_)))⟩
      · refine g_iconst (v := (-1)) C dX8_free_20 (by decide) ?_
        exact g_iret C E dX8_free_21 rfl rfl ⟨_, rfl, (by repeat (first | (with_reducible assumption) | (with_reducible exact gSf_r _) | (with_reducible refine gSf_I (by omega) ?_) | (with_reducible refine gSf_L (by omega) ?_) | (with_reducible refine gSf_N (by omega) ?_) | (with_reducible refine gSf_G (by omega) ?_) | (with_reducible refine gSf_P ?_)))⟩
