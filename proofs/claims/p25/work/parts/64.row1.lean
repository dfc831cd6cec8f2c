set_option maxRecDepth 100000 in
set_option maxHeartbeats 4000000 in
theorem c_X8_commona (l : Launch) (δ : GD) (σ : GS) {m n : Nat} (hm : 1 ≤ m) (hm2 : m < 9223372036854775808) (hn : n < 9223372036854775808) : gM l δ yX8_common cX8_common 11 (some .long) 0 0 [.long (lN m), .long (lN n)] σ (gPl (fun r σ' => σ = σ' ∧ r = lN (Nat.gcd m n))) := by
  refine g_of (lv0 := [some (.long (lN m)), none, some (.long (lN n)), none, none, none, none, none, none, none, none]) (by decide) rfl (Nat.le_of_ble_eq_true rfl) (fun Γ hl C E => ?_)
  subst hl
  have C : gC Γ δ cX8_common RX8 11 0 0 := C
  refine g_lload_n C dX8_common_0 rfl ?_
  refine g_lstore C dX8_common_1 (Nat.le_of_ble_eq_true rfl) rfl ?_
  refine g_lv [some _, none, some _, none, some _, none, none, none, none, none, none] (gs_some (gs_none (gs_some (gs_none (gs_some (gs_none (gs_none (gs_none (gs_none (gs_none (gs_none gs_nil))))))))))) ?_
  refine g_lload_n C dX8_common_3 rfl ?_
  refine g_lstore C dX8_common_4 (Nat.le_of_ble_eq_true rfl) rfl ?_
  refine g_lv [some _, none, some _, none, some _, none, some _, none, none, none, none] (gs_some (gs_none (gs_some (gs_none (gs_some (gs_none (gs_some (gs_none (gs_none (gs_none (gs_none gs_nil))))))))))) ?_
  refine g_iconst (v := 0) C dX8_common_6 (by decide) ?_
  refine g_istore C dX8_common_7 (Nat.le_of_ble_eq_true rfl) rfl ?_
  refine g_lv [some _, none, some _, none, some _, none, some _, none, some _, none, none] (gs_some (gs_none (gs_some (gs_none (gs_some (gs_none (gs_some (gs_none (gs_some (gs_none (gs_none gs_nil))))))))))) ?_
  have L_9 : ∀ (nn : Nat) (t x y : Nat) (ht : t ≤ 200) (hx : 1 ≤ x) (hx2 : x < 9223372036854775808) (hy : y < 9223372036854775808) (hg : Nat.gcd x y = Nat.gcd m n) (hp : gEu t x y), 201 - t < nn → gW Γ δ σ 9 [some (.long (lN m)), none, some (.long (lN n)), none, some (.long (lN x)), none, some (.long (lN y)), none, some (.int (nI t)), none, none] [] := by
    intro nn
    induction nn with
    | zero =>
      intro t x y ht hx hx2 hy hg hp hm_9
      exact absurd hm_9 (Nat.not_lt_zero _)
    | succ nn ih_9 =>
      intro t x y ht hx hx2 hy hg hp hm_9
      refine g_iload C dX8_common_9 rfl ?_
      refine g_sipush (v := 200) C dX8_common_11 (by decide) ?_
      refine g_icmp_ge C 45 dX8_common_14 (by decide) (fun c_14 => ?_) (fun c_14 => ?_)
      · have k_14 := gle c_14 (a := 200) (b := t) (by first | rfl | assumption | (simp only [glit, nI_add, pk_mul]; done) | (simp only [glit, nI_add, pk_mul]; congr 1; omega) | (simp only [*, glit, nI_add, pk_mul]; congr 1; omega)) (by first | rfl | assumption | (simp only [glit, nI_add, pk_mul]; done) | (simp only [glit, nI_add, pk_mul]; congr 1; omega) | (simp only [*, glit, nI_add, pk_mul]; congr 1; omega)) (by omega) (by omega)
        have et : t = 200 := by omega
        have hy0 : y = 0 := gEu_200 (et ▸ hp) hx
        refine g_lload C dX8_common_45 rfl ?_
        refine g_lconst (v := 1) C dX8_common_47 (by decide) ?_
        refine g_lcmp C dX8_common_48 ?_
        refine g_if_ge C 56 dX8_common_49 (by decide) (fun c_49 => ?_) (fun c_49 => ?_)
        · rw [lg_cmp_ge] at c_49
          refine g_lload C dX8_common_56 rfl ?_
          exact g_lret C E dX8_common_58 rfl ⟨_, rfl, ⟨rfl, by rw [← hg, hy0, Nat.gcd_zero_right]⟩⟩
        · exact absurd ((lg_cmp_ge _ _).mpr (lN_1le hx hx2)) c_49
      · have k_14 := gnle c_14 (a := 200) (b := t) (by first | rfl | assumption | (simp only [glit, nI_add, pk_mul]; done) | (simp only [glit, nI_add, pk_mul]; congr 1; omega) | (simp only [*, glit, nI_add, pk_mul]; congr 1; omega)) (by first | rfl | assumption | (simp only [glit, nI_add, pk_mul]; done) | (simp only [glit, nI_add, pk_mul]; congr 1; omega) | (simp only [*, glit, nI_add, pk_mul]; congr 1; omega)) (by omega) (by omega)
        refine g_lload C dX8_common_17 rfl ?_
        refine g_lconst (v := 0) C dX8_common_19 (by decide) ?_
        refine g_lcmp C dX8_common_20 ?_
        refine g_if_eq C 45 dX8_common_21 (by decide) (fun c_21 => ?_) (fun c_21 => ?_)
        · rw [lg_cmp_eq] at c_21
          have hy0 : y = 0 := (lN_z hy).mp c_21
          refine g_lload C dX8_common_45 rfl ?_
          refine g_lconst (v := 1) C dX8_common_47 (by decide) ?_
          refine g_lcmp C dX8_common_48 ?_
          refine g_if_ge C 56 dX8_common_49 (by decide) (fun c_49 => ?_) (fun c_49 => ?_)
          · rw [lg_cmp_ge] at c_49
            refine g_lload C dX8_common_56 rfl ?_
            exact g_lret C E dX8_common_58 rfl ⟨_, rfl, ⟨rfl, by rw [← hg, hy0, Nat.gcd_zero_right]⟩⟩
          · exact absurd ((lg_cmp_ge _ _).mpr (lN_1le hx hx2)) c_49
        · rw [lg_cmp_eq] at c_21
          have hy1 : 1 ≤ y := Nat.pos_of_ne_zero (fun e => c_21 ((lN_z hy).mpr e))
          refine g_lload C dX8_common_24 rfl ?_
          refine g_lload C dX8_common_26 rfl ?_
          refine g_lrem C dX8_common_28 (fun e => c_21 e) ?_
          rw [pk_lRem hx2 hy1 hy]
          refine g_lstore C dX8_common_29 (Nat.le_of_ble_eq_true rfl) rfl ?_
          refine g_lv [some _, none, some _, none, some _, none, some _, none, some _, some _, none] (gs_some (gs_none (gs_some (gs_none (gs_some (gs_none (gs_some (gs_none (gs_some (gs_some (gs_none gs_nil))))))))))) ?_
          refine g_lload C dX8_common_31 rfl ?_
          refine g_lstore C dX8_common_33 (Nat.le_of_ble_eq_true rfl) rfl ?_
          refine g_lv [some _, none, some _, none, some _, none, some _, none, some _, some _, none] (gs_some (gs_none (gs_some (gs_none (gs_some (gs_none (gs_some (gs_none (gs_some (gs_some (gs_none gs_nil))))))))))) ?_
          refine g_lload C dX8_common_35 rfl ?_
          refine g_lstore C dX8_common_37 (Nat.le_of_ble_eq_true rfl) rfl ?_
          refine g_lv [some _, none, some _, none, some _, none, some _, none, some _, some _, none] (gs_some (gs_none (gs_some (gs_none (gs_some (gs_none (gs_some (gs_none (gs_some (gs_some (gs_none gs_nil))))))))))) ?_
          refine g_iinc (v := nI (t + 1)) C dX8_common_39 rfl (ginc _ 1) rfl ?_
          refine g_lv [some _, none, some _, none, some _, none, some _, none, some _, some _, none] (gs_some (gs_none (gs_some (gs_none (gs_some (gs_none (gs_some (gs_none (gs_some (gs_some (gs_none gs_nil))))))))))) ?_
          refine g_goto C 9 dX8_common_42 (by decide) ?_
          refine g_lv [some _, none, some _, none, some _, none, some _, none, some _, none, none] (gs_some (gs_none (gs_some (gs_none (gs_some (gs_none (gs_some (gs_none (gs_some (gs_none (gs_none gs_nil))))))))))) ?_
          exact ih_9 (t + 1) y (x % y) (by omega) hy1 hy (Nat.lt_trans (Nat.mod_lt _ hy1) hy) (by rw [← hg, Nat.gcd_comm y (x % y), ← Nat.gcd_rec y x, Nat.gcd_comm]) (gEu_s hp hy1 hx2 hy) (by omega)
  refine g_lv [some _, none, some _, none, some _, none, some _, none, some _, none, none] (gs_some (gs_none (gs_some (gs_none (gs_some (gs_none (gs_some (gs_none (gs_some (gs_none (gs_none gs_nil))))))))))) ?_
  exact L_9 _ 0 m n (by omega) hm hm2 hn rfl (Or.inl rfl) (Nat.lt_succ_self _)
set_option maxRecDepth 100000 in
set_option maxHeartbeats 4000000 in
theorem c_X5_comeTimesa (l : Launch) (δ : GD) (σ : GS) {a b m n : Nat} (ok : qOk a b m n) (e1 : gG σ 4 = lN a) (e2 : gG σ 5 = lN b) : gM l δ yX5_comeTimes cX5_comeTimes 13 (some .boolean) 1 30 [.ref (δ.2.2.1 18), .int (nI m), .int (nI n)] σ (gPi (fun x σ' => gSm σ σ' ∧ gI σ' 46 = gI σ 46 ∧ (∀ q, gL σ' q = gL σ q) ∧ ((x = 1 ∧ ((qS a b m n).1 ≤ 1000000000000000000 ∧ (qS a b m n).2 ≤ 1000000000000000000) ∧ gG σ' 4 = lN (qS a b m n).1 ∧ gG σ' 5 = lN (qS a b m n).2) ∨ (x = 0 ∧ (1000000000000000000 < (qS a b m n).1 ∨ 1000000000000000000 < (qS a b m n).2))))) := by
  refine g_of (lv0 := [some (.ref (δ.2.2.1 18)), some (.int (nI m)), some (.int (nI n)), none, none, none, none, none, none, none, none, none, none]) (by decide) rfl (Nat.le_of_ble_eq_true rfl) (fun Γ hl C E => ?_)
  subst hl
  have C : gC Γ δ cX5_comeTimes RX5 13 1 30 := C
  obtain ⟨p1, p2, p3⟩ := qM_b ok
  obtain ⟨⟨q1, q2, q3⟩, q4, q5, q6⟩ := qS_b ok
  obtain ⟨o1, o2, o3, o4⟩ := id ok
  refine g_iload_n C dX5_comeTimes_0 rfl ?_
  refine g_i2l C dX5_comeTimes_1 ?_
  rw [nI_l (by omega)]
  refine g_iload_n C dX5_comeTimes_2 rfl ?_
  refine g_i2l C dX5_comeTimes_3 ?_
  rw [nI_l (by omega)]
  refine g_callNl C sN_X5_43 C.2.2.2.2.2.2.2.2.1.1 dX5_comeTimes_4 (c_X8_commona _ δ _ (m := m) (n := n) (by omega) (by omega) (by omega)) ⟨by decide, by decide⟩ rfl rfl rfl (Nat.le_of_ble_eq_true rfl) (fun r_4 s_4 h_4 => ?_)
  obtain ⟨rfl, rfl⟩ := h_4
  refine g_lstore_n C dX5_comeTimes_7 (Nat.le_of_ble_eq_true rfl) rfl ?_
  refine g_lv [some _, some _, some _, some _, none, none, none, none, none, none, none, none, none] (gs_some (gs_some (gs_some (gs_some (gs_none (gs_none (gs_none (gs_none (gs_none (gs_none (gs_none (gs_none (gs_none gs_nil))))))))))))) ?_
  refine g_iload_n C dX5_comeTimes_8 rfl ?_
  refine g_i2l C dX5_comeTimes_9 ?_
  rw [nI_l (by omega)]
  refine g_lload_n C dX5_comeTimes_10 rfl ?_
  refine g_ldiv C dX5_comeTimes_11 (lNz p1.1 (by omega)) ?_
  rw [pk_lDiv (by omega) (by omega) (by omega), show m / Nat.gcd m n = qM m n from rfl]
  refine g_lstore C dX5_comeTimes_12 (Nat.le_of_ble_eq_true rfl) rfl ?_
  refine g_lv [some _, some _, some _, some _, none, some _, none, none, none, none, none, none, none] (gs_some (gs_some (gs_some (gs_some (gs_none (gs_some (gs_none (gs_none (gs_none (gs_none (gs_none (gs_none (gs_none gs_nil))))))))))))) ?_
  refine g_iload_n C dX5_comeTimes_14 rfl ?_
  refine g_i2l C dX5_comeTimes_15 ?_
  rw [nI_l (by omega)]
  refine g_lload_n C dX5_comeTimes_16 rfl ?_
  refine g_ldiv C dX5_comeTimes_17 (lNz p1.1 (by omega)) ?_
  rw [pk_lDiv (by omega) (by omega) (by omega), show n / Nat.gcd m n = qL m n from rfl]
  refine g_lstore C dX5_comeTimes_18 (Nat.le_of_ble_eq_true rfl) rfl ?_
  refine g_lv [some _, some _, some _, some _, none, some _, none, some _, none, none, none, none, none] (gs_some (gs_some (gs_some (gs_some (gs_none (gs_some (gs_none (gs_some (gs_none (gs_none (gs_none (gs_none (gs_none gs_nil))))))))))))) ?_
  refine g_aload_n C dX5_comeTimes_20 rfl ?_
  refine g_get C dX5_comeTimes_21 iwX5 rfl (wO_R δ _) 1 (Nat.le_of_ble_eq_true rfl) mW75 rfl rfl ?_
  rw [e1]
  refine g_lload C dX5_comeTimes_24 rfl ?_
  refine g_callNl C sN_X5_43 C.2.2.2.2.2.2.2.2.1.1 dX5_comeTimes_26 (c_X8_commona _ δ _ (m := a) (n := qL m n) (by omega) (by omega) (by omega)) ⟨by decide, by decide⟩ rfl rfl rfl (Nat.le_of_ble_eq_true rfl) (fun r_26 s_26 h_26 => ?_)
  obtain ⟨rfl, rfl⟩ := h_26
  refine g_lstore C dX5_comeTimes_29 (Nat.le_of_ble_eq_true rfl) rfl ?_
  refine g_lv [some _, some _, some _, some _, none, some _, none, some _, none, some _, none, none, none] (gs_some (gs_some (gs_some (gs_some (gs_none (gs_some (gs_none (gs_some (gs_none (gs_some (gs_none (gs_none (gs_none gs_nil))))))))))))) ?_
  refine g_lload C dX5_comeTimes_31 rfl ?_
  refine g_aload_n C dX5_comeTimes_33 rfl ?_
  refine g_get C dX5_comeTimes_34 iwX5 rfl (wO_R δ _) 2 (Nat.le_of_ble_eq_true rfl) mW78 rfl rfl ?_
  rw [e2]
  refine g_callNl C sN_X5_43 C.2.2.2.2.2.2.2.2.1.1 dX5_comeTimes_37 (c_X8_commona _ δ _ (m := qM m n) (n := b) (by omega) (by omega) (by omega)) ⟨by decide, by decide⟩ rfl rfl rfl (Nat.le_of_ble_eq_true rfl) (fun r_37 s_37 h_37 => ?_)
  obtain ⟨rfl, rfl⟩ := h_37
  refine g_lstore C dX5_comeTimes_40 (Nat.le_of_ble_eq_true rfl) rfl ?_
  refine g_lv [some _, some _, some _, some _, none, some _, none, some _, none, some _, none, some _, none] (gs_some (gs_some (gs_some (gs_some (gs_none (gs_some (gs_none (gs_some (gs_none (gs_some (gs_none (gs_some (gs_none gs_nil))))))))))))) ?_
  refine g_aload_n C dX5_comeTimes_42 rfl ?_
  refine g_dup C dX5_comeTimes_43 rfl ?_
  refine g_get C dX5_comeTimes_44 iwX5 rfl (wO_R δ _) 1 (Nat.le_of_ble_eq_true rfl) mW75 rfl rfl ?_
  rw [e1]
  refine g_lload C dX5_comeTimes_47 rfl ?_
  refine g_ldiv C dX5_comeTimes_49 (lNz q1.1 (by omega)) ?_
  rw [pk_lDiv (by omega) (by omega) (by omega)]
  refine g_put C tyX5 dX5_comeTimes_50 iwX5 tyX5_ok nmX5 rfl (wO_R δ _) 1 (Nat.le_of_ble_eq_true rfl) mW75 rfl rfl rfl rfl rfl (Nat.le_of_ble_eq_true rfl) (pG_4 δ _ _) ?_
  refine g_lload C dX5_comeTimes_53 rfl ?_
  refine g_lload C dX5_comeTimes_55 rfl ?_
  refine g_ldiv C dX5_comeTimes_57 (lNz q1.1 (by omega)) ?_
  rw [pk_lDiv (by omega) (by omega) (by omega)]
  refine g_lstore C dX5_comeTimes_58 (Nat.le_of_ble_eq_true rfl) rfl ?_
  refine g_lv [some _, some _, some _, some _, none, some _, none, some _, none, some _, none, some _, none] (gs_some (gs_some (gs_some (gs_some (gs_none (gs_some (gs_none (gs_some (gs_none (gs_some (gs_none (gs_some (gs_none gs_nil))))))))))))) ?_
  refine g_aload_n C dX5_comeTimes_60 rfl ?_
  refine g_dup C dX5_comeTimes_61 rfl ?_
  refine g_get C dX5_comeTimes_62 iwX5 rfl (wO_R δ _) 2 (Nat.le_of_ble_eq_true rfl) mW78 rfl rfl ?_
  rw [gG_uG, if_neg (by decide), e2]
  refine g_lload C dX5_comeTimes_65 rfl ?_
  refine g_ldiv C dX5_comeTimes_67 (lNz q4.1 (by omega)) ?_
  rw [pk_lDiv (by omega) (by omega) (by omega)]
  refine g_put C tyX5 dX5_comeTimes_68 iwX5 tyX5_ok nmX5 rfl (wO_R δ _) 2 (Nat.le_of_ble_eq_true rfl) mW78 rfl rfl rfl rfl rfl (Nat.le_of_ble_eq_true rfl) (pG_5 δ _ _) ?_
  refine g_lload C dX5_comeTimes_71 rfl ?_
  refine g_lload C dX5_comeTimes_73 rfl ?_
  refine g_ldiv C dX5_comeTimes_75 (lNz q4.1 (by omega)) ?_
  rw [pk_lDiv (by omega) (by omega) (by omega)]
  refine g_lstore C dX5_comeTimes_76 (Nat.le_of_ble_eq_true rfl) rfl ?_
  refine g_lv [some _, some _, some _, some _, none, some _, none, some _, none, some _, none, some _, none] (gs_some (gs_some (gs_some (gs_some (gs_none (gs_some (gs_none (gs_some (gs_none (gs_some (gs_none (gs_some (gs_none gs_nil))))))))))))) ?_
  refine g_lload C dX5_comeTimes_78 rfl ?_
  refine g_lconst (v := 1) C dX5_comeTimes_80 (by decide) ?_
  refine g_lcmp C dX5_comeTimes_81 ?_
  refine g_if_lt C 120 dX5_comeTimes_82 (by decide) (fun c_82 => ?_) (fun c_82 => ?_)
  · exact absurd ((lg_cmp_lt _ _).mp c_82) (lN_n1 q6.1 (by omega))
  · rw [lg_cmp_lt] at c_82
    refine g_lload C dX5_comeTimes_85 rfl ?_
    refine g_lconst (v := 1) C dX5_comeTimes_87 (by decide) ?_
    refine g_lcmp C dX5_comeTimes_88 ?_
    refine g_if_lt C 120 dX5_comeTimes_89 (by decide) (fun c_89 => ?_) (fun c_89 => ?_)
    · exact absurd ((lg_cmp_lt _ _).mp c_89) (lN_n1 q3.1 (by omega))
    · rw [lg_cmp_lt] at c_89
      refine g_aload_n C dX5_comeTimes_92 rfl ?_
      refine g_get C dX5_comeTimes_93 iwX5 rfl (wO_R δ _) 1 (Nat.le_of_ble_eq_true rfl) mW75 rfl rfl ?_
      rw [gG_uG, if_neg (by decide), gG_uG, if_pos rfl]
      refine g_ldc2 C dX5_comeTimes_96 mW435 ?_
      refine g_lload C dX5_comeTimes_99 rfl ?_
      refine g_ldiv C dX5_comeTimes_101 (lNz q6.1 (by omega)) ?_
      refine g_lcmp C dX5_comeTimes_102 ?_
      refine g_if_gt C 120 dX5_comeTimes_103 (by decide) (fun c_103 => ?_) (fun c_103 => ?_)
      · rw [lg_cmp_gt] at c_103
        have w1 := (hl_lt (by omega) q6.1 (by omega)).mp c_103
        refine g_iconst (v := 0) C dX5_comeTimes_120 (by decide) ?_
        exact g_iret C E dX5_comeTimes_121 rfl rfl ⟨_, rfl, ⟨(by repeat (first | (with_reducible assumption) | (with_reducible exact gSm_r _) | (with_reducible refine gSm_I (by omega) ?_) | (with_reducible refine gSm_L (by omega) ?_) | (with_reducible refine gSm_N (by omega) ?_) | (with_reducible refine gSm_G (by omega) ?_) | (with_reducible refine gSm_P ?_))), rfl, fun _ => rfl, Or.inr ⟨rfl, by first | exact Or.inl w1 | exact Or.inr (Nat.not_le.mp w2)⟩⟩⟩
      · rw [lg_cmp_gt] at c_103
        have w1 := fun z => c_103 ((hl_lt (D := a / Nat.gcd a (qL m n)) (by omega) q6.1 (by omega)).mpr z)
        refine g_aload_n C dX5_comeTimes_106 rfl ?_
        refine g_get C dX5_comeTimes_107 iwX5 rfl (wO_R δ _) 2 (Nat.le_of_ble_eq_true rfl) mW78 rfl rfl ?_
        rw [gG_uG, if_pos rfl]
        refine g_ldc2 C dX5_comeTimes_110 mW435 ?_
        refine g_lload C dX5_comeTimes_113 rfl ?_
        refine g_ldiv C dX5_comeTimes_115 (lNz q3.1 (by omega)) ?_
        refine g_lcmp C dX5_comeTimes_116 ?_
        refine g_if_le C 122 dX5_comeTimes_117 (by decide) (fun c_117 => ?_) (fun c_117 => ?_)
        · rw [lg_cmp_le] at c_117
          have w2 := (hl_le (by omega) q3.1 (by omega)).mp c_117
          refine g_aload_n C dX5_comeTimes_122 rfl ?_
          refine g_dup C dX5_comeTimes_123 rfl ?_
          refine g_get C dX5_comeTimes_124 iwX5 rfl (wO_R δ _) 1 (Nat.le_of_ble_eq_true rfl) mW75 rfl rfl ?_
          rw [gG_uG, if_neg (by decide), gG_uG, if_pos rfl]
          refine g_lload C dX5_comeTimes_127 rfl ?_
          refine g_lmul C dX5_comeTimes_129 ?_
          rw [lN_mul]
          refine g_put C tyX5 dX5_comeTimes_130 iwX5 tyX5_ok nmX5 rfl (wO_R δ _) 1 (Nat.le_of_ble_eq_true rfl) mW75 rfl rfl rfl rfl rfl (Nat.le_of_ble_eq_true rfl) (pG_4 δ _ _) ?_
          refine g_aload_n C dX5_comeTimes_133 rfl ?_
          refine g_dup C dX5_comeTimes_134 rfl ?_
          refine g_get C dX5_comeTimes_135 iwX5 rfl (wO_R δ _) 2 (Nat.le_of_ble_eq_true rfl) mW78 rfl rfl ?_
          rw [gG_uG, if_neg (by decide), gG_uG, if_pos rfl]
          refine g_lload C dX5_comeTimes_138 rfl ?_
          refine g_lmul C dX5_comeTimes_140 ?_
          rw [lN_mul]
          refine g_put C tyX5 dX5_comeTimes_141 iwX5 tyX5_ok nmX5 rfl (wO_R δ _) 2 (Nat.le_of_ble_eq_true rfl) mW78 rfl rfl rfl rfl rfl (Nat.le_of_ble_eq_true rfl) (pG_5 δ _ _) ?_
          refine g_iconst (v := 1) C dX5_comeTimes_144 (by decide) ?_
          exact g_iret C E dX5_comeTimes_145 rfl rfl ⟨_, rfl, ⟨(by repeat (first | (with_reducible assumption) | (with_reducible exact gSm_r _) | (with_reducible refine gSm_I (by omega) ?_) | (with_reducible refine gSm_L (by omega) ?_) | (with_reducible refine gSm_N (by omega) ?_) | (with_reducible refine gSm_G (by omega) ?_) | (with_reducible refine gSm_P ?_))), rfl, fun _ => rfl, Or.inl ⟨rfl, ⟨Nat.not_lt.mp w1, w2⟩, rfl, rfl⟩⟩⟩
        · rw [lg_cmp_le] at c_117
          have w2 := fun z => c_117 ((hl_le (D := b / Nat.gcd (qM m n) b) (by omega) q3.1 (by omega)).mpr z)
          refine g_iconst (v := 0) C dX5_comeTimes_120 (by decide) ?_
          exact g_iret C E dX5_comeTimes_121 rfl rfl ⟨_, rfl, ⟨(by repeat (first | (with_reducible assumption) | (with_reducible exact gSm_r _) | (with_reducible refine gSm_I (by omega) ?_) | (with_reducible refine gSm_L (by omega) ?_) | (with_reducible refine gSm_N (by omega) ?_) | (with_reducible refine gSm_G (by omega) ?_) | (with_reducible refine gSm_P ?_))), rfl, fun _ => rfl, Or.inr ⟨rfl, by first | exact Or.inl w1 | exact Or.inr (Nat.not_le.mp w2)⟩⟩⟩
set_option maxRecDepth 100000 in
set_option maxHeartbeats 4000000 in
theorem c_X5_followa (l : Launch) (δ : GD) (σ : GS) {u : Nat} (hu : u < 8) {k w : Nat} (hk : k ≤ 12) (hw : w < 2147483648) {v : GV} (K : KC σ v) (R : RV v) : gM l δ yX5_follow cX5_follow 7 (some .boolean) 2 62 [.ref (δ.2.2.1 18), .ref (δ.2.2.1 (8 + u)), .int (nI k), .int (nI w)] σ (gPi (fun x σ' => gSm σ σ' ∧ (∀ q, gL σ' q = gL σ q) ∧ ((x = 1 ∧ qOn (bS (vS v) u) (tS (vS v) u) w k ∧ gG σ' 4 = lN (qF (bS (vS v) u) (tS (vS v) u) w k).1 ∧ gG σ' 5 = lN (qF (bS (vS v) u) (tS (vS v) u) w k).2) ∨ (x = 1 ∧ qStk (bS (vS v) u) (tS (vS v) u) w k ∧ gG σ' 4 = 0 ∧ gG σ' 5 = 1) ∨ (x = 0 ∧ qBigs (bS (vS v) u) (tS (vS v) u) w k)))) := by
  refine g_of (lv0 := [some (.ref (δ.2.2.1 18)), some (.ref (δ.2.2.1 (8 + u))), some (.int (nI k)), some (.int (nI w)), none, none, none]) (by decide) rfl (Nat.le_of_ble_eq_true rfl) (fun Γ hl C E => ?_)
  subst hl
  have C : gC Γ δ cX5_follow RX5 7 2 62 := C
  have hn := K.2.1 u hu
  have h4 := RV_n R hu
  have hf : gB2 (bS (vS v) u) := VS_B2 R.2.2.1 hu
  refine g_aload_n C dX5_follow_0 rfl ?_
  refine g_get C dX5_follow_1 iwX7 rfl (wO_U δ _ hu) 0 (Nat.le_of_ble_eq_true rfl) mW193 rfl rfl ?_
  refine g_iconst (v := 0) C dX5_follow_4 (by decide) ?_
  refine g_aload_n C dX5_follow_5 rfl ?_
  refine g_get C dX5_follow_6 iwX5 rfl (wO_R δ _) 0 (Nat.le_of_ble_eq_true rfl) mW74 rfl rfl ?_
  refine g_iconst (v := 0) C dX5_follow_9 (by decide) ?_
  refine g_iconst (v := 4) C dX5_follow_10 (by decide) ?_
  refine g_copyIN C (q0 := u) (q1 := 46) (a' := 0) (b' := 0) (c' := 4) dX5_follow_11 mW426 mW281 mW280 mW12 (by omega) (by decide) rfl rfl rfl (by first | rfl | assumption | (simp only [glit, nI_add, pk_mul]; done) | (simp only [glit, nI_add, pk_mul]; congr 1; omega) | (simp only [*, glit, nI_add, pk_mul]; congr 1; omega)) (by first | rfl | assumption | (simp only [glit, nI_add, pk_mul]; done) | (simp only [glit, nI_add, pk_mul]; congr 1; omega) | (simp only [*, glit, nI_add, pk_mul]; congr 1; omega)) (by first | rfl | assumption | (simp only [glit, nI_add, pk_mul]; done) | (simp only [glit, nI_add, pk_mul]; congr 1; omega) | (simp only [*, glit, nI_add, pk_mul]; congr 1; omega)) (by rw [gLenI_b hu]; omega) (show 0 + 4 ≤ gLenI 46 from Nat.le_trans (show 0 + 4 ≤ 4 by omega) (Nat.le_of_eq rfl)) (by decide) (Nat.le_of_ble_eq_true rfl) ?_
  refine g_aload_n C dX5_follow_14 rfl ?_
  refine g_lconst (v := 1) C dX5_follow_15 (by decide) ?_
  refine g_put C tyX5 dX5_follow_16 iwX5 tyX5_ok nmX5 rfl (wO_R δ _) 1 (Nat.le_of_ble_eq_true rfl) mW75 rfl rfl rfl rfl rfl (Nat.le_of_ble_eq_true rfl) (pG_4 δ _ _) ?_
  refine g_aload_n C dX5_follow_19 rfl ?_
  refine g_lconst (v := 1) C dX5_follow_20 (by decide) ?_
  refine g_put C tyX5 dX5_follow_21 iwX5 tyX5_ok nmX5 rfl (wO_R δ _) 2 (Nat.le_of_ble_eq_true rfl) mW78 rfl rfl rfl rfl rfl (Nat.le_of_ble_eq_true rfl) (pG_5 δ _ _) ?_
  refine g_iload_n C dX5_follow_24 rfl ?_
  refine g_istore C dX5_follow_25 (Nat.le_of_ble_eq_true rfl) rfl ?_
  refine g_lv [some _, some _, some _, some _, some _, none, none] (gs_some (gs_some (gs_some (gs_some (gs_some (gs_none (gs_none gs_nil))))))) ?_
  refine g_iconst (v := 0) C dX5_follow_27 (by decide) ?_
  refine g_istore C dX5_follow_28 (Nat.le_of_ble_eq_true rfl) rfl ?_
  refine g_lv [some _, some _, some _, some _, some _, some _, none] (gs_some (gs_some (gs_some (gs_some (gs_some (gs_some (gs_none gs_nil))))))) ?_
  have L_30 : ∀ (nn : Nat) (i : Nat) (s1 : GS) (hi : i ≤ k) (hs : gSm σ s1) (hls : ∀ q, gL s1 q = gL σ q) (hq : qOn (bS (vS v) u) (tS (vS v) u) w i) (hb : ∀ j, j < 4 → gI s1 46 j = qB (bS (vS v) u) (tS (vS v) u) w i j) (e4 : gG s1 4 = lN (qF (bS (vS v) u) (tS (vS v) u) w i).1) (e5 : gG s1 5 = lN (qF (bS (vS v) u) (tS (vS v) u) w i).2), k - i < nn → gW Γ δ s1 30 [some (.ref (δ.2.2.1 18)), some (.ref (δ.2.2.1 (8 + u))), some (.int (nI k)), some (.int (nI w)), some (.int (nI (w / 4 ^ i))), some (.int (nI i)), none] [] := by
    intro nn
    induction nn with
    | zero =>
      intro i s1 hi hs hls hq hb e4 e5 hm_30
      exact absurd hm_30 (Nat.not_lt_zero _)
    | succ nn ih_30 =>
      intro i s1 hi hs hls hq hb e4 e5 hm_30
      have hl := gpowle w i
      have hd4 : w / 4 ^ i % 4 < 4 := Nat.mod_lt _ (by decide)
      have K1 := KC_sm hs K
      have hn_s1 := K1.2.1 u hu
      refine g_iload C dX5_follow_30 rfl ?_
      refine g_iload_n C dX5_follow_32 rfl ?_
      refine g_icmp_ge C 132 dX5_follow_33 (by decide) (fun c_33 => ?_) (fun c_33 => ?_)
      · have k_33 := gle c_33 (a := k) (b := i) (by first | rfl | assumption | (simp only [glit, nI_add, pk_mul]; done) | (simp only [glit, nI_add, pk_mul]; congr 1; omega) | (simp only [*, glit, nI_add, pk_mul]; congr 1; omega)) (by first | rfl | assumption | (simp only [glit, nI_add, pk_mul]; done) | (simp only [glit, nI_add, pk_mul]; congr 1; omega) | (simp only [*, glit, nI_add, pk_mul]; congr 1; omega)) (by omega) (by omega)
        have ek : k = i := by omega
        subst ek
        refine g_iconst (v := 1) C dX5_follow_132 (by decide) ?_
        exact g_iret C E dX5_follow_133 rfl rfl ⟨_, rfl, ⟨(by repeat (first | (with_reducible assumption) | (with_reducible exact gSm_r _) | (with_reducible refine gSm_I (by omega) ?_) | (with_reducible refine gSm_L (by omega) ?_) | (with_reducible refine gSm_N (by omega) ?_) | (with_reducible refine gSm_G (by omega) ?_) | (with_reducible refine gSm_P ?_))), hls, Or.inl ⟨rfl, hq, e4, e5⟩⟩⟩
      · have k_33 := gnle c_33 (a := k) (b := i) (by first | rfl | assumption | (simp only [glit, nI_add, pk_mul]; done) | (simp only [glit, nI_add, pk_mul]; congr 1; omega) | (simp only [*, glit, nI_add, pk_mul]; congr 1; omega)) (by first | rfl | assumption | (simp only [glit, nI_add, pk_mul]; done) | (simp only [glit, nI_add, pk_mul]; congr 1; omega) | (simp only [*, glit, nI_add, pk_mul]; congr 1; omega)) (by omega) (by omega)
        refine g_iload C dX5_follow_36 rfl ?_
        refine g_iconst (v := 4) C dX5_follow_38 (by decide) ?_
        refine g_irem C dX5_follow_39 (by decide) ?_
        rw [gDig_rem (by omega)]
        refine g_istore C dX5_follow_40 (Nat.le_of_ble_eq_true rfl) rfl ?_
        refine g_lv [some _, some _, some _, some _, some _, some _, some _] (gs_some (gs_some (gs_some (gs_some (gs_some (gs_some (gs_some gs_nil))))))) ?_
        refine g_aload_n C dX5_follow_42 rfl ?_
        refine g_aload_n C dX5_follow_43 rfl ?_
        refine g_get C dX5_follow_44 iwX5 rfl (wO_R δ _) 0 (Nat.le_of_ble_eq_true rfl) mW74 rfl rfl ?_
        refine g_iload C dX5_follow_47 rfl ?_
        refine g_callVi C sV_X5_31 dX5_follow_49 (c_X7_lets _ δ _ hu (q := 46) (by omega) rfl (c := w / 4 ^ i % 4) hd4 hn_s1 h4) ⟨by decide, by decide⟩ (wO_U δ _ hu) rfl rfl rfl rfl (Nat.le_of_ble_eq_true rfl) (fun r_49 s_49 h_49 => ?_)
        obtain ⟨rfl, h_49⟩ := h_49
        rw [qC_let K1 R hu hb] at h_49
        rcases h_49 with ⟨rfl, h_49⟩ | ⟨rfl, h_49⟩
        · have eN := qN_e hf hq h_49
          have ok := qOk_at hf hq h_49
          refine g_if_ne C 67 dX5_follow_52 (by decide) (fun c_52 => ?_) (fun c_52 => ?_)
          · refine g_aload_n C dX5_follow_67 rfl ?_
            refine g_aload_n C dX5_follow_68 rfl ?_
            refine g_get C dX5_follow_69 iwX5 rfl (wO_R δ _) 0 (Nat.le_of_ble_eq_true rfl) mW74 rfl rfl ?_
            refine g_iload C dX5_follow_72 rfl ?_
            refine g_ialdN C dX5_follow_74 (k := (w / 4 ^ i % 4)) (q := 46) (by decide) rfl (by first | rfl | assumption | (simp only [glit, nI_add, pk_mul]; done) | (simp only [glit, nI_add, pk_mul]; congr 1; omega) | (simp only [*, glit, nI_add, pk_mul]; congr 1; omega)) (show (w / 4 ^ i % 4) < gLenI 46 from Nat.lt_of_lt_of_eq (show (w / 4 ^ i % 4) < 4 by exact hd4) rfl) ?_
            rw [hb _ hd4, eN.1]
            refine g_aload_n C dX5_follow_75 rfl ?_
            refine g_get C dX5_follow_76 iwX5 rfl (wO_R δ _) 0 (Nat.le_of_ble_eq_true rfl) mW74 rfl rfl ?_
            refine g_iconst (v := 0) C dX5_follow_79 (by decide) ?_
            refine g_ialdN C dX5_follow_80 (k := 0) (q := 46) (by decide) rfl (by first | rfl | assumption | (simp only [glit, nI_add, pk_mul]; done) | (simp only [glit, nI_add, pk_mul]; congr 1; omega) | (simp only [*, glit, nI_add, pk_mul]; congr 1; omega)) (show 0 < gLenI 46 from Nat.lt_of_lt_of_eq (show 0 < 4 by omega) rfl) ?_
            rw [hb 0 (by omega)]
            refine g_aload_n C dX5_follow_81 rfl ?_
            refine g_get C dX5_follow_82 iwX5 rfl (wO_R δ _) 0 (Nat.le_of_ble_eq_true rfl) mW74 rfl rfl ?_
            refine g_iconst (v := 1) C dX5_follow_85 (by decide) ?_
            refine g_ialdN C dX5_follow_86 (k := 1) (q := 46) (by decide) rfl (by first | rfl | assumption | (simp only [glit, nI_add, pk_mul]; done) | (simp only [glit, nI_add, pk_mul]; congr 1; omega) | (simp only [*, glit, nI_add, pk_mul]; congr 1; omega)) (show 1 < gLenI 46 from Nat.lt_of_lt_of_eq (show 1 < 4 by omega) rfl) ?_
            rw [hb 1 (by omega)]
            refine g_iadd C dX5_follow_87 ?_
            refine g_aload_n C dX5_follow_88 rfl ?_
            refine g_get C dX5_follow_89 iwX5 rfl (wO_R δ _) 0 (Nat.le_of_ble_eq_true rfl) mW74 rfl rfl ?_
            refine g_iconst (v := 2) C dX5_follow_92 (by decide) ?_
            refine g_ialdN C dX5_follow_93 (k := 2) (q := 46) (by decide) rfl (by first | rfl | assumption | (simp only [glit, nI_add, pk_mul]; done) | (simp only [glit, nI_add, pk_mul]; congr 1; omega) | (simp only [*, glit, nI_add, pk_mul]; congr 1; omega)) (show 2 < gLenI 46 from Nat.lt_of_lt_of_eq (show 2 < 4 by omega) rfl) ?_
            rw [hb 2 (by omega)]
            refine g_iadd C dX5_follow_94 ?_
            refine g_aload_n C dX5_follow_95 rfl ?_
            refine g_get C dX5_follow_96 iwX5 rfl (wO_R δ _) 0 (Nat.le_of_ble_eq_true rfl) mW74 rfl rfl ?_
            refine g_iconst (v := 3) C dX5_follow_99 (by decide) ?_
            refine g_ialdN C dX5_follow_100 (k := 3) (q := 46) (by decide) rfl (by first | rfl | assumption | (simp only [glit, nI_add, pk_mul]; done) | (simp only [glit, nI_add, pk_mul]; congr 1; omega) | (simp only [*, glit, nI_add, pk_mul]; congr 1; omega)) (show 3 < gLenI 46 from Nat.lt_of_lt_of_eq (show 3 < 4 by omega) rfl) ?_
            rw [hb 3 (by omega)]
            refine g_iadd C dX5_follow_101 ?_
            rw [eN.2]
            refine g_callVi C sV_X5_35 dX5_follow_102 (c_X5_comeTimesa _ δ _ ok e4 e5) ⟨by decide, by decide⟩ (wO_R δ _) rfl rfl rfl rfl (Nat.le_of_ble_eq_true rfl) (fun r_102 s_102 h_102 => ?_)
            obtain ⟨z_102, b_102, l_102, h_102⟩ := h_102
            have z_102 : gSm σ s_102 := gSm_t hs z_102
            have K2 := KC_sm z_102 K
            have hb2 : ∀ j, j < 4 → gI s_102 46 j = qB (bS (vS v) u) (tS (vS v) u) w i j := fun j hj => by rw [b_102]; exact hb j hj
            rcases h_102 with ⟨rfl, h_102⟩ | ⟨rfl, h_102⟩
            · have hnb : ¬ qBig (bS (vS v) u) (tS (vS v) u) w i := fun z => z.elim (Nat.not_lt.mpr h_102.1.1) (Nat.not_lt.mpr h_102.1.2)
              refine g_if_ne C 110 dX5_follow_105 (by decide) (fun c_105 => ?_) (fun c_105 => ?_)
              · refine g_aload_n C dX5_follow_110 rfl ?_
                refine g_aload_n C dX5_follow_111 rfl ?_
                refine g_get C dX5_follow_112 iwX5 rfl (wO_R δ _) 0 (Nat.le_of_ble_eq_true rfl) mW74 rfl rfl ?_
                refine g_iload C dX5_follow_115 rfl ?_
                refine g_callVv C sV_X5_39 dX5_follow_117 (c_X7_grow _ δ _ hu (q := 46) (by omega) rfl (by omega) (c := w / 4 ^ i % 4) hd4 (K2.2.1 u hu) h4) ⟨by decide, by decide⟩ (wO_U δ _ hu) rfl rfl rfl rfl (Nat.le_of_ble_eq_true rfl) (fun s_117 h_117 => ?_)
                obtain rfl := h_117
                refine g_iload C dX5_follow_120 rfl ?_
                refine g_iconst (v := 4) C dX5_follow_122 (by decide) ?_
                refine g_idiv C dX5_follow_123 (by decide) ?_
                rw [gDig_div (by omega), gpow]
                refine g_istore C dX5_follow_124 (Nat.le_of_ble_eq_true rfl) rfl ?_
                refine g_lv [some _, some _, some _, some _, some _, some _, some _] (gs_some (gs_some (gs_some (gs_some (gs_some (gs_some (gs_some gs_nil))))))) ?_
                refine g_iinc (v := nI (i + 1)) C dX5_follow_126 rfl (ginc _ 1) rfl ?_
                refine g_lv [some _, some _, some _, some _, some _, some _, some _] (gs_some (gs_some (gs_some (gs_some (gs_some (gs_some (gs_some gs_nil))))))) ?_
                refine g_goto C 30 dX5_follow_129 (by decide) ?_
                refine g_lv [some _, some _, some _, some _, some _, some _, none] (gs_some (gs_some (gs_some (gs_some (gs_some (gs_some (gs_none gs_nil))))))) ?_
                exact ih_30 (i + 1) _ (by omega) (by repeat (first | (with_reducible assumption) | (with_reducible exact gSm_r _) | (with_reducible refine gSm_I (by omega) ?_) | (with_reducible refine gSm_L (by omega) ?_) | (with_reducible refine gSm_N (by omega) ?_) | (with_reducible refine gSm_G (by omega) ?_) | (with_reducible refine gSm_P ?_))) (fun q => (l_102 q).trans (hls q)) (qOn_s hq h_49 hnb) (fun j hj => by rw [gI_uI, if_pos rfl]; exact qC_grow K2 R hu hb2 j hj) h_102.2.1 h_102.2.2 (by omega)
              · exact absurd c_105 (by decide)
            · skip
              refine g_if_ne C 110 dX5_follow_105 (by decide) (fun c_105 => ?_) (fun c_105 => ?_)
              · exact absurd c_105 (by decide)
              · refine g_iconst (v := 0) C dX5_follow_108 (by decide) ?_
                exact g_iret C E dX5_follow_109 rfl rfl ⟨_, rfl, ⟨(by repeat (first | (with_reducible assumption) | (with_reducible exact gSm_r _) | (with_reducible refine gSm_I (by omega) ?_) | (with_reducible refine gSm_L (by omega) ?_) | (with_reducible refine gSm_N (by omega) ?_) | (with_reducible refine gSm_G (by omega) ?_) | (with_reducible refine gSm_P ?_))), fun q => (l_102 q).trans (hls q), Or.inr (Or.inr ⟨rfl, i, by omega, hq, h_49, h_102⟩)⟩⟩
          · exact absurd c_52 (by decide)
        · skip
          refine g_if_ne C 67 dX5_follow_52 (by decide) (fun c_52 => ?_) (fun c_52 => ?_)
          · exact absurd c_52 (by decide)
          · refine g_aload_n C dX5_follow_55 rfl ?_
            refine g_lconst (v := 0) C dX5_follow_56 (by decide) ?_
            refine g_put C tyX5 dX5_follow_57 iwX5 tyX5_ok nmX5 rfl (wO_R δ _) 1 (Nat.le_of_ble_eq_true rfl) mW75 rfl rfl rfl rfl rfl (Nat.le_of_ble_eq_true rfl) (pG_4 δ _ _) ?_
            refine g_aload_n C dX5_follow_60 rfl ?_
            refine g_lconst (v := 1) C dX5_follow_61 (by decide) ?_
            refine g_put C tyX5 dX5_follow_62 iwX5 tyX5_ok nmX5 rfl (wO_R δ _) 2 (Nat.le_of_ble_eq_true rfl) mW78 rfl rfl rfl rfl rfl (Nat.le_of_ble_eq_true rfl) (pG_5 δ _ _) ?_
            refine g_iconst (v := 1) C dX5_follow_65 (by decide) ?_
            exact g_iret C E dX5_follow_66 rfl rfl ⟨_, rfl, ⟨(by repeat (first | (with_reducible assumption) | (with_reducible exact gSm_r _) | (with_reducible refine gSm_I (by omega) ?_) | (with_reducible refine gSm_L (by omega) ?_) | (with_reducible refine gSm_N (by omega) ?_) | (with_reducible refine gSm_G (by omega) ?_) | (with_reducible refine gSm_P ?_))), hls, Or.inr (Or.inl ⟨rfl, ⟨i, by omega, hq, h_49⟩, rfl, rfl⟩)⟩⟩
  refine g_lv [some _, some _, some _, some _, some _, some _, none] (gs_some (gs_some (gs_some (gs_some (gs_some (gs_some (gs_none gs_nil))))))) ?_
  have e0 : nI w = nI (w / 4 ^ 0) := by rw [Nat.pow_zero, Nat.div_one]
  refine g_lv [some (.ref (δ.2.2.1 18)), some (.ref (δ.2.2.1 (8 + u))), some (.int (nI k)), some (.int (nI w)), some (.int (nI (w / 4 ^ 0))), some (.int (nI 0)), none] (by rw [← e0]; exact gs_some (gs_some (gs_some (gs_some (gs_some (gs_some (gs_none gs_nil))))))) ?_
  exact L_30 _ 0 _ (by omega) (by repeat (first | (with_reducible assumption) | (with_reducible exact gSm_r _) | (with_reducible refine gSm_I (by omega) ?_) | (with_reducible refine gSm_L (by omega) ?_) | (with_reducible refine gSm_N (by omega) ?_) | (with_reducible refine gSm_G (by omega) ?_) | (with_reducible refine gSm_P ?_))) (fun _ => rfl) (qOn_0 _ _ _) (fun j hj => by rw [gI_uG, gI_uG, gI_uI, if_pos rfl]; exact (cpy_lo (by omega) (by omega)).trans ((congrArg _ (by omega)).trans (KC_b K hu hj))) rfl rfl (Nat.lt_succ_self _)
set_option maxRecDepth 100000 in
set_option maxHeartbeats 4000000 in
theorem c_X8_chancea (l : Launch) (δ : GD) (σ : GS) (a0 a1 a2 : Int32) {v : GV} (K : KC σ v) (R : RV v) : gM l δ yX8_chance cX8_chance 5 (some .int) 3 88 [.ref (δ.2.2.1 0), .int a0, .int a1, .int a2] σ (gPi (fun x σ' => x = aChance v a0 a1 a2 ∧ gSm σ σ')) := by
  refine g_of (lv0 := [some (.ref (δ.2.2.1 0)), some (.int a0), some (.int a1), some (.int a2), none]) (by decide) rfl (Nat.le_of_ble_eq_true rfl) (fun Γ hl C E => ?_)
  subst hl
  have C : gC Γ δ cX8_chance RX8 5 3 88 := C
  have hm := K.1
  have h8 := R.1
  obtain ⟨kn, hkn, hx, -⟩ := id K.2.2.2.2
  have hl := K.2.2.2.1.2
  have h20 := K.2.2.2.1.1
  refine g_aload_n C dX8_chance_0 rfl ?_
  refine g_iload_n C dX8_chance_1 rfl ?_
  refine g_callVr C sV_X8_101 dX8_chance_2 (c_X8_urnAt _ δ _ _ hm h8) ⟨by decide, by decide⟩ (wO_X δ _) rfl rfl rfl rfl (Nat.le_of_ble_eq_true rfl) (fun r_2 s_2 h_2 => ?_)
  obtain ⟨rfl, h_2⟩ := h_2
  rcases h_2 with ⟨rfl, h_2⟩ | ⟨u_2, hu_2, e_2, rfl⟩
  · skip
    refine g_astoreN C dX8_chance_5 (Nat.le_of_ble_eq_true rfl) rfl ?_
    refine g_lv [some _, some _, some _, some _, some _] (gs_some (gs_some (gs_some (gs_some (gs_some gs_nil))))) ?_
    refine g_aloadN C dX8_chance_7 rfl ?_
    refine g_ifnull_n C 36 dX8_chance_9 (by decide) ?_
    refine g_iconst (v := (-1)) C dX8_chance_36 (by decide) ?_
    exact g_iret C E dX8_chance_37 rfl rfl ⟨_, rfl, ⟨(by first | exact (gIf_f (fun z => h_2 z.1.1)).symm | exact (gIf_f (fun z => gIx_neg (n := 13) (by decide) c_13 z.1.2.1)).symm | exact (gIf_f (fun z => gIx_no12 c_19 z.1.2.1)).symm | exact (gIf_f (fun z => Int32.not_le.mpr c_23 z.1.2.2)).symm | exact (gIf_f (fun z => h_30 (fun i hi => by have q := z.2 i (by rw [nU_n (by omega)]; exact hi); rw [nU_n hw1, nU_n (by omega)] at q; exact q))).symm), (by repeat (first | (with_reducible assumption) | (with_reducible exact gSm_r _) | (with_reducible refine gSm_I (by omega) ?_) | (with_reducible refine gSm_L (by omega) ?_) | (with_reducible refine gSm_N (by omega) ?_) | (with_reducible refine gSm_G (by omega) ?_) | (with_reducible refine gSm_P ?_)))⟩⟩
  · have hu8 : u_2 < 8 := by omega
    obtain ⟨h2, h4⟩ := (R.2.1 u_2 hu8).1 hu_2
    have hn := K.2.1 u_2 hu8
    subst e_2
    refine g_astore C dX8_chance_5 (Nat.le_of_ble_eq_true rfl) rfl ?_
    refine g_lv [some _, some _, some _, some _, some _] (gs_some (gs_some (gs_some (gs_some (gs_some gs_nil))))) ?_
    refine g_aload C dX8_chance_7 rfl ?_
    refine g_ifnull_r C dX8_chance_9 ?_
    refine g_iload_n C dX8_chance_12 rfl ?_
    refine g_if_lt C 36 dX8_chance_13 (by decide) (fun c_13 => ?_) (fun c_13 => ?_)
    · refine g_iconst (v := (-1)) C dX8_chance_36 (by decide) ?_
      exact g_iret C E dX8_chance_37 rfl rfl ⟨_, rfl, ⟨(by first | exact (gIf_f (fun z => h_2 z.1.1)).symm | exact (gIf_f (fun z => gIx_neg (n := 13) (by decide) c_13 z.1.2.1)).symm | exact (gIf_f (fun z => gIx_no12 c_19 z.1.2.1)).symm | exact (gIf_f (fun z => Int32.not_le.mpr c_23 z.1.2.2)).symm | exact (gIf_f (fun z => h_30 (fun i hi => by have q := z.2 i (by rw [nU_n (by omega)]; exact hi); rw [nU_n hw1, nU_n (by omega)] at q; exact q))).symm), (by repeat (first | (with_reducible assumption) | (with_reducible exact gSm_r _) | (with_reducible refine gSm_I (by omega) ?_) | (with_reducible refine gSm_L (by omega) ?_) | (with_reducible refine gSm_N (by omega) ?_) | (with_reducible refine gSm_G (by omega) ?_) | (with_reducible refine gSm_P ?_)))⟩⟩
    · refine g_iload_n C dX8_chance_16 rfl ?_
      refine g_bipush (v := 12) C dX8_chance_17 (by decide) ?_
      refine g_icmp_gt C 36 dX8_chance_19 (by decide) (fun c_19 => ?_) (fun c_19 => ?_)
      · refine g_iconst (v := (-1)) C dX8_chance_36 (by decide) ?_
        exact g_iret C E dX8_chance_37 rfl rfl ⟨_, rfl, ⟨(by first | exact (gIf_f (fun z => h_2 z.1.1)).symm | exact (gIf_f (fun z => gIx_neg (n := 13) (by decide) c_13 z.1.2.1)).symm | exact (gIf_f (fun z => gIx_no12 c_19 z.1.2.1)).symm | exact (gIf_f (fun z => Int32.not_le.mpr c_23 z.1.2.2)).symm | exact (gIf_f (fun z => h_30 (fun i hi => by have q := z.2 i (by rw [nU_n (by omega)]; exact hi); rw [nU_n hw1, nU_n (by omega)] at q; exact q))).symm), (by repeat (first | (with_reducible assumption) | (with_reducible exact gSm_r _) | (with_reducible refine gSm_I (by omega) ?_) | (with_reducible refine gSm_L (by omega) ?_) | (with_reducible refine gSm_N (by omega) ?_) | (with_reducible refine gSm_G (by omega) ?_) | (with_reducible refine gSm_P ?_)))⟩⟩
      · obtain ⟨k1, hk1, rfl⟩ := gIx_12 c_13 (Int32.not_lt.mp c_19)
        refine g_iload_n C dX8_chance_22 rfl ?_
        refine g_if_lt C 36 dX8_chance_23 (by decide) (fun c_23 => ?_) (fun c_23 => ?_)
        · refine g_iconst (v := (-1)) C dX8_chance_36 (by decide) ?_
          exact g_iret C E dX8_chance_37 rfl rfl ⟨_, rfl, ⟨(by first | exact (gIf_f (fun z => h_2 z.1.1)).symm | exact (gIf_f (fun z => gIx_neg (n := 13) (by decide) c_13 z.1.2.1)).symm | exact (gIf_f (fun z => gIx_no12 c_19 z.1.2.1)).symm | exact (gIf_f (fun z => Int32.not_le.mpr c_23 z.1.2.2)).symm | exact (gIf_f (fun z => h_30 (fun i hi => by have q := z.2 i (by rw [nU_n (by omega)]; exact hi); rw [nU_n hw1, nU_n (by omega)] at q; exact q))).symm), (by repeat (first | (with_reducible assumption) | (with_reducible exact gSm_r _) | (with_reducible refine gSm_I (by omega) ?_) | (with_reducible refine gSm_L (by omega) ?_) | (with_reducible refine gSm_N (by omega) ?_) | (with_reducible refine gSm_G (by omega) ?_) | (with_reducible refine gSm_P ?_)))⟩⟩
        · obtain ⟨w1, hw1, rfl⟩ := nI_of c_23
          refine g_aload C dX8_chance_26 rfl ?_
          refine g_iload_n C dX8_chance_28 rfl ?_
          refine g_iload_n C dX8_chance_29 rfl ?_
          refine g_callVi C sV_X8_175 dX8_chance_30 (c_X7_hasAll _ δ _ hu8 (k := k1) (w := w1) (by omega) hw1 hn h4) ⟨by decide, by decide⟩ (wO_U δ _ hu8) rfl rfl rfl rfl (Nat.le_of_ble_eq_true rfl) (fun r_30 s_30 h_30 => ?_)
          obtain ⟨rfl, h_30⟩ := h_30
          rcases h_30 with ⟨rfl, h_30⟩ | ⟨rfl, h_30⟩
          · skip
            refine g_if_ne C 38 dX8_chance_33 (by decide) (fun c_33 => ?_) (fun c_33 => ?_)
            · refine g_iload_n C dX8_chance_38 rfl ?_
              refine g_if_le C 53 dX8_chance_39 (by decide) (fun c_39 => ?_) (fun c_39 => ?_)
              · refine g_aload_n C dX8_chance_53 rfl ?_
                refine g_get C dX8_chance_54 iwX8 rfl (wO_X δ _) 4 (Nat.le_of_ble_eq_true rfl) mW221 rfl rfl ?_
                refine g_aload C dX8_chance_57 rfl ?_
                refine g_iload_n C dX8_chance_59 rfl ?_
                refine g_iload_n C dX8_chance_60 rfl ?_
                refine g_callVi C sV_X8_178 dX8_chance_61 (c_X5_followa _ δ _ hu8 (k := k1) (w := w1) (by omega) hw1 K R) ⟨by decide, by decide⟩ (wO_R δ _) rfl rfl rfl rfl (Nat.le_of_ble_eq_true rfl) (fun r_61 s_61 h_61 => ?_)
                obtain ⟨z_61, -, h_61⟩ := h_61
                rcases h_61 with ⟨rfl, h_61⟩ | ⟨rfl, h_61⟩ | ⟨rfl, h_61⟩
                · have nb := qOn_n h_61.1
                  refine g_if_ne C 70 dX8_chance_64 (by decide) (fun c_64 => ?_) (fun c_64 => ?_)
                  · refine g_aload_n C dX8_chance_70 rfl ?_
                    refine g_get C dX8_chance_71 iwX8 rfl (wO_X δ _) 7 (Nat.le_of_ble_eq_true rfl) mW224 rfl rfl ?_
                    refine g_lconst (v := 0) C dX8_chance_74 (by decide) ?_
                    refine g_aload_n C dX8_chance_75 rfl ?_
                    refine g_get C dX8_chance_76 iwX8 rfl (wO_X δ _) 4 (Nat.le_of_ble_eq_true rfl) mW221 rfl rfl ?_
                    refine g_get C dX8_chance_79 iwX5 rfl (wO_R δ _) 1 (Nat.le_of_ble_eq_true rfl) mW77 rfl rfl ?_
                    refine g_aload_n C dX8_chance_82 rfl ?_
                    refine g_get C dX8_chance_83 iwX8 rfl (wO_X δ _) 4 (Nat.le_of_ble_eq_true rfl) mW221 rfl rfl ?_
                    refine g_get C dX8_chance_86 iwX5 rfl (wO_R δ _) 2 (Nat.le_of_ble_eq_true rfl) mW80 rfl rfl ?_
                    refine g_callVv C sV_X8_189 dX8_chance_89 (c_X1_become _ δ _ _ _ _) ⟨by decide, by decide⟩ (wO_F δ _) rfl rfl rfl rfl (Nat.le_of_ble_eq_true rfl) (fun s_89 h_89 => ?_)
                    have z_89 : gSm σ s_89 := gSm_t (by repeat (first | (with_reducible assumption) | (with_reducible exact gSm_r _) | (with_reducible refine gSm_I (by omega) ?_) | (with_reducible refine gSm_L (by omega) ?_) | (with_reducible refine gSm_N (by omega) ?_) | (with_reducible refine gSm_G (by omega) ?_) | (with_reducible refine gSm_P ?_))) h_89
                    refine g_iconst (v := 0) C dX8_chance_92 (by decide) ?_
                    exact g_iret C E dX8_chance_93 rfl rfl ⟨_, rfl, ⟨((aChance_at hu_2 hu8 hk1 hw1 h_30).trans ((gIf_f (by first | exact fun z => c_47 z.2 | exact fun z => Int32.not_lt.mpr c_39 z.1)).trans (gIf_f nb))).symm, (by repeat (first | (with_reducible assumption) | (with_reducible exact gSm_r _) | (with_reducible refine gSm_I (by omega) ?_) | (with_reducible refine gSm_L (by omega) ?_) | (with_reducible refine gSm_N (by omega) ?_) | (with_reducible refine gSm_G (by omega) ?_) | (with_reducible refine gSm_P ?_)))⟩⟩
                  · exact absurd c_64 (by decide)
                · have nb := qStk_n h_61.1
                  refine g_if_ne C 70 dX8_chance_64 (by decide) (fun c_64 => ?_) (fun c_64 => ?_)
                  · refine g_aload_n C dX8_chance_70 rfl ?_
                    refine g_get C dX8_chance_71 iwX8 rfl (wO_X δ _) 7 (Nat.le_of_ble_eq_true rfl) mW224 rfl rfl ?_
                    refine g_lconst (v := 0) C dX8_chance_74 (by decide) ?_
                    refine g_aload_n C dX8_chance_75 rfl ?_
                    refine g_get C dX8_chance_76 iwX8 rfl (wO_X δ _) 4 (Nat.le_of_ble_eq_true rfl) mW221 rfl rfl ?_
                    refine g_get C dX8_chance_79 iwX5 rfl (wO_R δ _) 1 (Nat.le_of_ble_eq_true rfl) mW77 rfl rfl ?_
                    refine g_aload_n C dX8_chance_82 rfl ?_
                    refine g_get C dX8_chance_83 iwX8 rfl (wO_X δ _) 4 (Nat.le_of_ble_eq_true rfl) mW221 rfl rfl ?_
                    refine g_get C dX8_chance_86 iwX5 rfl (wO_R δ _) 2 (Nat.le_of_ble_eq_true rfl) mW80 rfl rfl ?_
                    refine g_callVv C sV_X8_189 dX8_chance_89 (c_X1_become _ δ _ _ _ _) ⟨by decide, by decide⟩ (wO_F δ _) rfl rfl rfl rfl (Nat.le_of_ble_eq_true rfl) (fun s_89 h_89 => ?_)
                    have z_89 : gSm σ s_89 := gSm_t (by repeat (first | (with_reducible assumption) | (with_reducible exact gSm_r _) | (with_reducible refine gSm_I (by omega) ?_) | (with_reducible refine gSm_L (by omega) ?_) | (with_reducible refine gSm_N (by omega) ?_) | (with_reducible refine gSm_G (by omega) ?_) | (with_reducible refine gSm_P ?_))) h_89
                    refine g_iconst (v := 0) C dX8_chance_92 (by decide) ?_
                    exact g_iret C E dX8_chance_93 rfl rfl ⟨_, rfl, ⟨((aChance_at hu_2 hu8 hk1 hw1 h_30).trans ((gIf_f (by first | exact fun z => c_47 z.2 | exact fun z => Int32.not_lt.mpr c_39 z.1)).trans (gIf_f nb))).symm, (by repeat (first | (with_reducible assumption) | (with_reducible exact gSm_r _) | (with_reducible refine gSm_I (by omega) ?_) | (with_reducible refine gSm_L (by omega) ?_) | (with_reducible refine gSm_N (by omega) ?_) | (with_reducible refine gSm_G (by omega) ?_) | (with_reducible refine gSm_P ?_)))⟩⟩
                  · exact absurd c_64 (by decide)
                · skip
                  refine g_if_ne C 70 dX8_chance_64 (by decide) (fun c_64 => ?_) (fun c_64 => ?_)
                  · exact absurd c_64 (by decide)
                  · refine g_bipush (v := (-6)) C dX8_chance_67 (by decide) ?_
                    exact g_iret C E dX8_chance_69 rfl rfl ⟨_, rfl, ⟨((aChance_at hu_2 hu8 hk1 hw1 h_30).trans ((gIf_f (by first | exact fun z => c_47 z.2 | exact fun z => Int32.not_lt.mpr c_39 z.1)).trans (gIf_t h_61))).symm, (by repeat (first | (with_reducible assumption) | (with_reducible exact gSm_r _) | (with_reducible refine gSm_I (by omega) ?_) | (with_reducible refine gSm_L (by omega) ?_) | (with_reducible refine gSm_N (by omega) ?_) | (with_reducible refine gSm_G (by omega) ?_) | (with_reducible refine gSm_P ?_)))⟩⟩
              · refine g_aload C dX8_chance_42 rfl ?_
                refine g_callVi C sV_X8_129 dX8_chance_44 (c_X7_total _ δ _ hu8) ⟨by decide, by decide⟩ (wO_U δ _ hu8) rfl rfl rfl rfl (Nat.le_of_ble_eq_true rfl) (fun r_44 s_44 h_44 => ?_)
                obtain ⟨rfl, rfl⟩ := h_44
                rw [KC_sum K hu8]
                refine g_if_ne C 53 dX8_chance_47 (by decide) (fun c_47 => ?_) (fun c_47 => ?_)
                · refine g_aload_n C dX8_chance_53 rfl ?_
                  refine g_get C dX8_chance_54 iwX8 rfl (wO_X δ _) 4 (Nat.le_of_ble_eq_true rfl) mW221 rfl rfl ?_
                  refine g_aload C dX8_chance_57 rfl ?_
                  refine g_iload_n C dX8_chance_59 rfl ?_
                  refine g_iload_n C dX8_chance_60 rfl ?_
                  refine g_callVi C sV_X8_178 dX8_chance_61 (c_X5_followa _ δ _ hu8 (k := k1) (w := w1) (by omega) hw1 K R) ⟨by decide, by decide⟩ (wO_R δ _) rfl rfl rfl rfl (Nat.le_of_ble_eq_true rfl) (fun r_61 s_61 h_61 => ?_)
                  obtain ⟨z_61, -, h_61⟩ := h_61
                  rcases h_61 with ⟨rfl, h_61⟩ | ⟨rfl, h_61⟩ | ⟨rfl, h_61⟩
                  · have nb := qOn_n h_61.1
                    refine g_if_ne C 70 dX8_chance_64 (by decide) (fun c_64 => ?_) (fun c_64 => ?_)
                    · refine g_aload_n C dX8_chance_70 rfl ?_
                      refine g_get C dX8_chance_71 iwX8 rfl (wO_X δ _) 7 (Nat.le_of_ble_eq_true rfl) mW224 rfl rfl ?_
                      refine g_lconst (v := 0) C dX8_chance_74 (by decide) ?_
                      refine g_aload_n C dX8_chance_75 rfl ?_
                      refine g_get C dX8_chance_76 iwX8 rfl (wO_X δ _) 4 (Nat.le_of_ble_eq_true rfl) mW221 rfl rfl ?_
                      refine g_get C dX8_chance_79 iwX5 rfl (wO_R δ _) 1 (Nat.le_of_ble_eq_true rfl) mW77 rfl rfl ?_
                      refine g_aload_n C dX8_chance_82 rfl ?_
                      refine g_get C dX8_chance_83 iwX8 rfl (wO_X δ _) 4 (Nat.le_of_ble_eq_true rfl) mW221 rfl rfl ?_
                      refine g_get C dX8_chance_86 iwX5 rfl (wO_R δ _) 2 (Nat.le_of_ble_eq_true rfl) mW80 rfl rfl ?_
                      refine g_callVv C sV_X8_189 dX8_chance_89 (c_X1_become _ δ _ _ _ _) ⟨by decide, by decide⟩ (wO_F δ _) rfl rfl rfl rfl (Nat.le_of_ble_eq_true rfl) (fun s_89 h_89 => ?_)
                      have z_89 : gSm σ s_89 := gSm_t (by repeat (first | (with_reducible assumption) | (with_reducible exact gSm_r _) | (with_reducible refine gSm_I (by omega) ?_) | (with_reducible refine gSm_L (by omega) ?_) | (with_reducible refine gSm_N (by omega) ?_) | (with_reducible refine gSm_G (by omega) ?_) | (with_reducible refine gSm_P ?_))) h_89
                      refine g_iconst (v := 0) C dX8_chance_92 (by decide) ?_
                      exact g_iret C E dX8_chance_93 rfl rfl ⟨_, rfl, ⟨((aChance_at hu_2 hu8 hk1 hw1 h_30).trans ((gIf_f (by first | exact fun z => c_47 z.2 | exact fun z => Int32.not_lt.mpr c_39 z.1)).trans (gIf_f nb))).symm, (by repeat (first | (with_reducible assumption) | (with_reducible exact gSm_r _) | (with_reducible refine gSm_I (by omega) ?_) | (with_reducible refine gSm_L (by omega) ?_) | (with_reducible refine gSm_N (by omega) ?_) | (with_reducible refine gSm_G (by omega) ?_) | (with_reducible refine gSm_P ?_)))⟩⟩
                    · exact absurd c_64 (by decide)
                  · have nb := qStk_n h_61.1
                    refine g_if_ne C 70 dX8_chance_64 (by decide) (fun c_64 => ?_) (fun c_64 => ?_)
                    · refine g_aload_n C dX8_chance_70 rfl ?_
                      refine g_get C dX8_chance_71 iwX8 rfl (wO_X δ _) 7 (Nat.le_of_ble_eq_true rfl) mW224 rfl rfl ?_
                      refine g_lconst (v := 0) C dX8_chance_74 (by decide) ?_
                      refine g_aload_n C dX8_chance_75 rfl ?_
                      refine g_get C dX8_chance_76 iwX8 rfl (wO_X δ _) 4 (Nat.le_of_ble_eq_true rfl) mW221 rfl rfl ?_
                      refine g_get C dX8_chance_79 iwX5 rfl (wO_R δ _) 1 (Nat.le_of_ble_eq_true rfl) mW77 rfl rfl ?_
                      refine g_aload_n C dX8_chance_82 rfl ?_
                      refine g_get C dX8_chance_83 iwX8 rfl (wO_X δ _) 4 (Nat.le_of_ble_eq_true rfl) mW221 rfl rfl ?_
                      refine g_get C dX8_chance_86 iwX5 rfl (wO_R δ _) 2 (Nat.le_of_ble_eq_true rfl) mW80 rfl rfl ?_
                      refine g_callVv C sV_X8_189 dX8_chance_89 (c_X1_become _ δ _ _ _ _) ⟨by decide, by decide⟩ (wO_F δ _) rfl rfl rfl rfl (Nat.le_of_ble_eq_true rfl) (fun s_89 h_89 => ?_)
                      have z_89 : gSm σ s_89 := gSm_t (by repeat (first | (with_reducible assumption) | (with_reducible exact gSm_r _) | (with_reducible refine gSm_I (by omega) ?_) | (with_reducible refine gSm_L (by omega) ?_) | (with_reducible refine gSm_N (by omega) ?_) | (with_reducible refine gSm_G (by omega) ?_) | (with_reducible refine gSm_P ?_))) h_89
                      refine g_iconst (v := 0) C dX8_chance_92 (by decide) ?_
                      exact g_iret C E dX8_chance_93 rfl rfl ⟨_, rfl, ⟨((aChance_at hu_2 hu8 hk1 hw1 h_30).trans ((gIf_f (by first | exact fun z => c_47 z.2 | exact fun z => Int32.not_lt.mpr c_39 z.1)).trans (gIf_f nb))).symm, (by repeat (first | (with_reducible assumption) | (with_reducible exact gSm_r _) | (with_reducible refine gSm_I (by omega) ?_) | (with_reducible refine gSm_L (by omega) ?_) | (with_reducible refine gSm_N (by omega) ?_) | (with_reducible refine gSm_G (by omega) ?_) | (with_reducible refine gSm_P ?_)))⟩⟩
                    · exact absurd c_64 (by decide)
                  · skip
                    refine g_if_ne C 70 dX8_chance_64 (by decide) (fun c_64 => ?_) (fun c_64 => ?_)
                    · exact absurd c_64 (by decide)
                    · refine g_bipush (v := (-6)) C dX8_chance_67 (by decide) ?_
                      exact g_iret C E dX8_chance_69 rfl rfl ⟨_, rfl, ⟨((aChance_at hu_2 hu8 hk1 hw1 h_30).trans ((gIf_f (by first | exact fun z => c_47 z.2 | exact fun z => Int32.not_lt.mpr c_39 z.1)).trans (gIf_t h_61))).symm, (by repeat (first | (with_reducible assumption) | (with_reducible exact gSm_r _) | (with_reducible refine gSm_I (by omega) ?_) | (with_reducible refine gSm_L (by omega) ?_) | (with_reducible refine gSm_N (by omega) ?_) | (with_reducible refine gSm_G (by omega) ?_) | (with_reducible refine gSm_P ?_)))⟩⟩
                · refine g_bipush (v := (-2)) C dX8_chance_50 (by decide) ?_
                  exact g_iret C E dX8_chance_52 rfl rfl ⟨_, rfl, ⟨((aChance_at hu_2 hu8 hk1 hw1 h_30).trans (gIf_t ⟨Int32.not_le.mp c_39, c_47⟩)).symm, (by repeat (first | (with_reducible assumption) | (with_reducible exact gSm_r _) | (with_reducible refine gSm_I (by omega) ?_) | (with_reducible refine gSm_L (by omega) ?_) | (with_reducible refine gSm_N (by omega) ?_) | (with_reducible refine gSm_G (by omega) ?_) | (with_reducible refine gSm_P ?_)))⟩⟩
            · exact absurd c_33 (by decide)
          · skip
            refine g_if_ne C 38 dX8_chance_33 (by decide) (fun c_33 => ?_) (fun c_33 => ?_)
            · exact absurd c_33 (by decide)
            · refine g_iconst (v := (-1)) C dX8_chance_36 (by decide) ?_
              exact g_iret C E dX8_chance_37 rfl rfl ⟨_, rfl, ⟨(by first | exact (gIf_f (fun z => h_2 z.1.1)).symm | exact (gIf_f (fun z => gIx_neg (n := 13) (by decide) c_13 z.1.2.1)).symm | exact (gIf_f (fun z => gIx_no12 c_19 z.1.2.1)).symm | exact (gIf_f (fun z => Int32.not_le.mpr c_23 z.1.2.2)).symm | exact (gIf_f (fun z => h_30 (fun i hi => by have q := z.2 i (by rw [nU_n (by omega)]; exact hi); rw [nU_n hw1, nU_n (by omega)] at q; exact q))).symm), (by repeat (first | (with_reducible assumption) | (with_reducible exact gSm_r _) | (with_reducible refine gSm_I (by omega) ?_) | (with_reducible refine gSm_L (by omega) ?_) | (with_reducible refine gSm_N (by omega) ?_) | (with_reducible refine gSm_G (by omega) ?_) | (with_reducible refine gSm_P ?_)))⟩⟩
