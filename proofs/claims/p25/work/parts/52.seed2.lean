theorem sV_X9_141 : gSV RX9 141 yX9_looks cX9_looks 7 (some .boolean) 1 := ⟨mW764, mW766, mP23, mW11, mW767, ⟨by decide +kernel, by decide +kernel⟩, by decide +kernel⟩
theorem sV_X9_144 : gSV RX9 144 yX9_doesDraws cX9_doesDraws 3 (some .int) 0 := ⟨mW771, mW773, mP24, mW11, mW774, ⟨by decide +kernel, by decide +kernel⟩, by decide +kernel⟩
set_option maxRecDepth 100000 in
set_option maxHeartbeats 4000000 in
theorem c_X9_looks (l : Launch) (δ : GD) (σ : GS) {u0 : Nat} {v : GV} (K : KM σ v) (R : RV v) (hu0 : u0 < vM v) : gM l δ yX9_looks cX9_looks 7 (some .boolean) 2 49 [.ref (δ.2.2.1 1), .int (nI u0)] σ (gPi (fun x σ' => gSm σ σ' ∧ FM σ σ' ∧ ((x = 1 ∧ ∃ len, pLen (vS v) u0 (nU (vS v 200)) len ∧ mTab σ' (vS v) u0 (nU (vS v 200)) len) ∨ (x = 0 ∧ pStk (vS v) u0 (nU (vS v 200)))))) := by
  refine g_of (lv0 := [some (.ref (δ.2.2.1 1)), some (.int (nI u0)), none, none, none, none, none]) (by decide) rfl (Nat.le_of_ble_eq_true rfl) (fun Γ hl C E => ?_)
  subst hl
  have C : gC Γ δ cX9_looks RX9 7 2 49 := C
  have hm := K.1
  have h8 := R.1
  have V := R.2.2.1
  obtain ⟨es, ls⟩ := VS_seed V
  have hs0 : gI σ 53 200 = nI (nU (vS v 200)) := (K.2.2.1 200 (by omega)).trans es
  refine g_aload_n C dX9_looks_0 rfl ?_
  refine g_iconst (v := 0) C dX9_looks_1 (by decide) ?_
  refine g_put C tyX9 dX9_looks_2 iwX9 tyX9_ok nmX9 rfl (wO_M δ _) 12 (Nat.le_of_ble_eq_true rfl) mW584 rfl rfl rfl rfl rfl (Nat.le_of_ble_eq_true rfl) (pN_35 δ _ _) ?_
  refine g_aload_n C dX9_looks_5 rfl ?_
  refine g_aload_n C dX9_looks_6 rfl ?_
  refine g_get C dX9_looks_7 iwX9 rfl (wO_M δ _) 6 (Nat.le_of_ble_eq_true rfl) mW578 rfl rfl ?_
  refine g_sipush (v := 200) C dX9_looks_10 (by decide) ?_
  refine g_ialdN C dX9_looks_13 (k := 200) (q := 53) (by decide) rfl (by first | rfl | assumption | (simp only [glit, nI_add, pk_mul]; done) | (simp only [glit, nI_add, pk_mul]; congr 1; omega) | (simp only [*, glit, nI_add, pk_mul]; congr 1; omega)) (show 200 < gLenI 53 from Nat.lt_of_lt_of_eq (show 200 < 202 by omega) rfl) ?_
  rw [gI_uN, hs0]
  refine g_put C tyX9 dX9_looks_14 iwX9 tyX9_ok nmX9 rfl (wO_M δ _) 15 (Nat.le_of_ble_eq_true rfl) mW587 rfl rfl rfl rfl rfl (Nat.le_of_ble_eq_true rfl) (pN_36 δ _ _) ?_
  refine g_iload_n C dX9_looks_17 rfl ?_
  refine g_istore_n C dX9_looks_18 (Nat.le_of_ble_eq_true rfl) rfl ?_
  refine g_lv [some _, some _, some _, none, none, none, none] (gs_some (gs_some (gs_some (gs_none (gs_none (gs_none (gs_none gs_nil))))))) ?_
  have L_19 : ∀ (nn : Nat) (i : Nat) (s1 : GS) (hi : pOn (vS v) u0 (nU (vS v 200)) i) (hs : gSm σ s1) (hF : FM σ s1) (ht : mTab s1 (vS v) u0 (nU (vS v 200)) i), 9 - i < nn → gW Γ δ s1 19 [some (.ref (δ.2.2.1 1)), some (.int (nI u0)), some (.int (pA (vS v) u0 (nU (vS v 200)) i)), none, none, none, none] [] := by
    intro nn
    induction nn with
    | zero =>
      intro i s1 hi hs hF ht hm_19
      exact absurd hm_19 (Nat.not_lt_zero _)
    | succ nn ih_19 =>
      intro i s1 hi hs hF ht hm_19
      have K1 := KM_sm hs K
      refine g_iload_n C dX9_looks_19 rfl ?_
      refine g_if_lt C 174 dX9_looks_20 (by decide) (fun c_20 => ?_) (fun c_20 => ?_)
      · refine g_iconst (v := 1) C dX9_looks_174 (by decide) ?_
        exact g_iret C E dX9_looks_175 rfl rfl ⟨_, rfl, ⟨(by repeat (first | (with_reducible assumption) | (with_reducible exact gSm_r _) | (with_reducible refine gSm_I (by omega) ?_) | (with_reducible refine gSm_L (by omega) ?_) | (with_reducible refine gSm_N (by omega) ?_) | (with_reducible refine gSm_G (by omega) ?_) | (with_reducible refine gSm_P ?_))), (by repeat (first | (with_reducible assumption) | (with_reducible exact FM_r _) | (with_reducible refine FM_I (by omega) ?_) | (with_reducible refine FM_N (by omega) ?_))), Or.inl ⟨rfl, i, ⟨hi, c_20⟩, ht⟩⟩⟩
      · obtain ⟨a, ea, la⟩ := pA_bd V (show u0 < 8 by omega) i (fun j hj => (hi j hj).1) (Int32.not_lt.mp c_20)
        have ha8 : a < 8 := by omega
        have eU : pU (vS v) u0 (nU (vS v 200)) i = a := by unfold pU; rw [ea, nU_n (by omega)]
        obtain ⟨T, hT, eT, eT2⟩ := VS_sum V ha8
        refine g_lv [some (.ref (δ.2.2.1 1)), some (.int (nI u0)), some (.int (nI a)), none, none, none, none] (by rw [← ea]; exact gs_some (gs_some (gs_some (gs_none (gs_none (gs_none (gs_none gs_nil))))))) ?_
        refine g_aload_n C dX9_looks_23 rfl ?_
        refine g_iload_n C dX9_looks_24 rfl ?_
        refine g_callVi C sV_X9_113 dX9_looks_25 (c_X9_balls _ δ _ ha8) ⟨by decide, by decide⟩ (wO_M δ _) rfl rfl rfl rfl (Nat.le_of_ble_eq_true rfl) (fun r_25 s_25 h_25 => ?_)
        obtain ⟨rfl, rfl⟩ := h_25
        rw [KM_sum K1 ha8, eT]
        refine g_istore_n C dX9_looks_28 (Nat.le_of_ble_eq_true rfl) rfl ?_
        refine g_lv [some _, some _, some _, some _, none, none, none] (gs_some (gs_some (gs_some (gs_some (gs_none (gs_none (gs_none gs_nil))))))) ?_
        refine g_iload_n C dX9_looks_29 rfl ?_
        refine g_if_ne C 35 dX9_looks_30 (by decide) (fun c_30 => ?_) (fun c_30 => ?_)
        · have hT0 : 0 < T := Nat.pos_of_ne_zero (fun e => c_30 (by rw [e]; rfl))
          have hz : ¬ sumS (vS v) a = 0 := by rw [eT]; exact c_30
          have hX4 : nI (pS (pE (vS v) u0 (nU (vS v 200)) i) / 16 % T) < gsum (mB s1 a) 4 := by rw [KM_gs K1 ha8 (by omega), gsum_4, eT]; exact nI_lt (Nat.mod_lt _ hT0) (by omega)
          refine g_aload_n C dX9_looks_35 rfl ?_
          refine g_aload_n C dX9_looks_36 rfl ?_
          refine g_get C dX9_looks_37 iwX9 rfl (wO_M δ _) 15 (Nat.le_of_ble_eq_true rfl) mW587 rfl rfl ?_
          rw [ht.2.2.1]
          refine g_i2l C dX9_looks_40 ?_
          refine g_ldc2 C dX9_looks_41 mW768 ?_
          refine g_lmul C dX9_looks_44 ?_
          refine g_ldc2 C dX9_looks_45 mW769 ?_
          refine g_ladd C dX9_looks_48 ?_
          refine g_ldc2 C dX9_looks_49 mW770 ?_
          refine g_lrem C dX9_looks_52 (by decide) ?_
          refine g_l2i C dX9_looks_53 ?_
          rw [mseed (pE_lt ls i)]
          refine g_put C tyX9 dX9_looks_54 iwX9 tyX9_ok nmX9 rfl (wO_M δ _) 15 (Nat.le_of_ble_eq_true rfl) mW587 rfl rfl rfl rfl rfl (Nat.le_of_ble_eq_true rfl) (pN_36 δ _ _) ?_
          refine g_aload_n C dX9_looks_57 rfl ?_
          refine g_get C dX9_looks_58 iwX9 rfl (wO_M δ _) 15 (Nat.le_of_ble_eq_true rfl) mW587 rfl rfl ?_
          rw [gN_uN, if_pos rfl]
          refine g_bipush (v := 16) C dX9_looks_61 (by decide) ?_
          refine g_idiv C dX9_looks_63 (by decide) ?_
          refine g_iload_n C dX9_looks_64 rfl ?_
          refine g_irem C dX9_looks_65 c_30 ?_
          rw [mnum (pS_lt _) hT0 hT]
          refine g_istore C dX9_looks_66 (Nat.le_of_ble_eq_true rfl) rfl ?_
          refine g_lv [some _, some _, some _, some _, some _, none, none] (gs_some (gs_some (gs_some (gs_some (gs_some (gs_none (gs_none gs_nil))))))) ?_
          refine g_iconst (v := 0) C dX9_looks_68 (by decide) ?_
          refine g_istore C dX9_looks_69 (Nat.le_of_ble_eq_true rfl) rfl ?_
          refine g_lv [some _, some _, some _, some _, some _, some _, none] (gs_some (gs_some (gs_some (gs_some (gs_some (gs_some (gs_none gs_nil))))))) ?_
          refine g_aload_n C dX9_looks_71 rfl ?_
          refine g_get C dX9_looks_72 iwX9 rfl (wO_M δ _) 6 (Nat.le_of_ble_eq_true rfl) mW578 rfl rfl ?_
          refine g_bipush (v := 25) C dX9_looks_75 (by decide) ?_
          refine g_iload_n C dX9_looks_77 rfl ?_
          refine g_imul C dX9_looks_78 ?_
          refine g_ialdN C dX9_looks_79 (k := (25 * a)) (q := 53) (by decide) rfl (by first | rfl | assumption | (simp only [glit, nI_add, pk_mul]; done) | (simp only [glit, nI_add, pk_mul]; congr 1; omega) | (simp only [*, glit, nI_add, pk_mul]; congr 1; omega)) (show (25 * a) < gLenI 53 from Nat.lt_of_lt_of_eq (show (25 * a) < 202 by omega) rfl) ?_
          rw [gI_uN, show gI s1 53 (25 * a) = gsum (mB s1 a) (0 + 1) from (Int32.zero_add _).symm]
          refine g_istore C dX9_looks_80 (Nat.le_of_ble_eq_true rfl) rfl ?_
          refine g_lv [some _, some _, some _, some _, some _, some _, some _] (gs_some (gs_some (gs_some (gs_some (gs_some (gs_some (gs_some gs_nil))))))) ?_
          have L_82 : ∀ (nn : Nat) (c : Nat) (hc : c < 4) (hv : ∀ j, j < c → ¬ nI (pS (pE (vS v) u0 (nU (vS v 200)) i) / 16 % T) < gsum (mB s1 a) (j + 1)), 4 - c < nn → gW Γ δ (uN s1 36 (nI (pS (pE (vS v) u0 (nU (vS v 200)) i)))) 82 [some (.ref (δ.2.2.1 1)), some (.int (nI u0)), some (.int (nI a)), some (.int (nI T)), some (.int (nI (pS (pE (vS v) u0 (nU (vS v 200)) i) / 16 % T))), some (.int (nI c)), some (.int (gsum (mB s1 a) (c + 1)))] [] := by
            intro nn
            induction nn with
            | zero =>
              intro c hc hv hm_82
              exact absurd hm_82 (Nat.not_lt_zero _)
            | succ nn ih_82 =>
              intro c hc hv hm_82
              refine g_iload C dX9_looks_82 rfl ?_
              refine g_iload C dX9_looks_84 rfl ?_
              refine g_icmp_lt C 112 dX9_looks_86 (by decide) (fun c_86 => ?_) (fun c_86 => ?_)
              · have ek : c = pC (vS v) u0 (nU (vS v 200)) i := by unfold pC pN; rw [eU, eT2]; exact mcol K1 ha8 hc hv c_86
                refine g_aload_n C dX9_looks_112 rfl ?_
                refine g_iload_n C dX9_looks_113 rfl ?_
                refine g_iload C dX9_looks_114 rfl ?_
                refine g_callVi C sV_X9_120 dX9_looks_116 (c_X9_canDraw _ δ _ ha8 (c := c) hc) ⟨by decide, by decide⟩ (wO_M δ _) rfl rfl rfl rfl (Nat.le_of_ble_eq_true rfl) (fun r_116 s_116 h_116 => ?_)
                obtain ⟨rfl, h_116⟩ := h_116
                have h_116 := gAcc_i h_116 (KM_let (σ := (uN s1 36 (nI (pS (pE (vS v) u0 (nU (vS v 200)) i))))) (v := v) (KM_sm (by repeat (first | (with_reducible assumption) | (with_reducible exact gSm_r _) | (with_reducible refine gSm_I (by omega) ?_) | (with_reducible refine gSm_L (by omega) ?_) | (with_reducible refine gSm_N (by omega) ?_) | (with_reducible refine gSm_G (by omega) ?_) | (with_reducible refine gSm_P ?_))) K) ha8 hc)
                refine g_if_ne C 124 dX9_looks_119 (by decide) (fun c_119 => ?_) (fun c_119 => ?_)
                · have hg := gAcc_y h_116 c_119
                  refine g_aload_n C dX9_looks_124 rfl ?_
                  refine g_get C dX9_looks_125 iwX9 rfl (wO_M δ _) 13 (Nat.le_of_ble_eq_true rfl) mW585 rfl rfl ?_
                  refine g_aload_n C dX9_looks_128 rfl ?_
                  refine g_get C dX9_looks_129 iwX9 rfl (wO_M δ _) 12 (Nat.le_of_ble_eq_true rfl) mW584 rfl rfl ?_
                  rw [gN_uN, if_neg (by decide), ht.2.1]
                  refine g_iload_n C dX9_looks_132 rfl ?_
                  refine g_iastN C dX9_looks_133 (k := i) (q := 55) (by decide) rfl (by first | rfl | assumption | (simp only [glit, nI_add, pk_mul]; done) | (simp only [glit, nI_add, pk_mul]; congr 1; omega) | (simp only [*, glit, nI_add, pk_mul]; congr 1; omega)) (show i < gLenI 55 from Nat.lt_of_lt_of_eq (show i < 8 by omega) rfl) ?_
                  refine g_aload_n C dX9_looks_134 rfl ?_
                  refine g_get C dX9_looks_135 iwX9 rfl (wO_M δ _) 14 (Nat.le_of_ble_eq_true rfl) mW586 rfl rfl ?_
                  refine g_aload_n C dX9_looks_138 rfl ?_
                  refine g_get C dX9_looks_139 iwX9 rfl (wO_M δ _) 12 (Nat.le_of_ble_eq_true rfl) mW584 rfl rfl ?_
                  rw [gN_uI, gN_uN, if_neg (by decide), ht.2.1]
                  refine g_iload C dX9_looks_142 rfl ?_
                  refine g_iastN C dX9_looks_144 (k := i) (q := 56) (by decide) rfl (by first | rfl | assumption | (simp only [glit, nI_add, pk_mul]; done) | (simp only [glit, nI_add, pk_mul]; congr 1; omega) | (simp only [*, glit, nI_add, pk_mul]; congr 1; omega)) (show i < gLenI 56 from Nat.lt_of_lt_of_eq (show i < 8 by omega) rfl) ?_
                  refine g_aload_n C dX9_looks_145 rfl ?_
                  refine g_dup C dX9_looks_146 rfl ?_
                  refine g_get C dX9_looks_147 iwX9 rfl (wO_M δ _) 12 (Nat.le_of_ble_eq_true rfl) mW584 rfl rfl ?_
                  rw [gN_uI, gN_uI, gN_uN, if_neg (by decide), ht.2.1]
                  refine g_iconst (v := 1) C dX9_looks_150 (by decide) ?_
                  refine g_iadd C dX9_looks_151 ?_
                  rw [show nI i + 1 = nI (i + 1) from nI_1 i]
                  refine g_put C tyX9 dX9_looks_152 iwX9 tyX9_ok nmX9 rfl (wO_M δ _) 12 (Nat.le_of_ble_eq_true rfl) mW584 rfl rfl rfl rfl rfl (Nat.le_of_ble_eq_true rfl) (pN_35 δ _ _) ?_
                  refine g_aload_n C dX9_looks_155 rfl ?_
                  refine g_get C dX9_looks_156 iwX9 rfl (wO_M δ _) 6 (Nat.le_of_ble_eq_true rfl) mW578 rfl rfl ?_
                  refine g_bipush (v := 25) C dX9_looks_159 (by decide) ?_
                  refine g_iload_n C dX9_looks_161 rfl ?_
                  refine g_imul C dX9_looks_162 ?_
                  refine g_bipush (v := 20) C dX9_looks_163 (by decide) ?_
                  refine g_iadd C dX9_looks_165 ?_
                  refine g_iload C dX9_looks_166 rfl ?_
                  refine g_iadd C dX9_looks_168 ?_
                  refine g_ialdN C dX9_looks_169 (k := (25 * a + 20 + c)) (q := 53) (by decide) rfl (by first | rfl | assumption | (simp only [glit, nI_add, pk_mul]; done) | (simp only [glit, nI_add, pk_mul]; congr 1; omega) | (simp only [*, glit, nI_add, pk_mul]; congr 1; omega)) (show (25 * a + 20 + c) < gLenI 53 from Nat.lt_of_lt_of_eq (show (25 * a + 20 + c) < 202 by omega) rfl) ?_
                  rw [mRd, K1.2.2.1 _ (by omega), show vS v (25 * a + 20 + c) = pA (vS v) u0 (nU (vS v 200)) (i + 1) by rw [pA_s, eU, ← ek]]
                  refine g_istore_n C dX9_looks_170 (Nat.le_of_ble_eq_true rfl) rfl ?_
                  refine g_lv [some _, some _, some _, some _, some _, some _, some _] (gs_some (gs_some (gs_some (gs_some (gs_some (gs_some (gs_some gs_nil))))))) ?_
                  refine g_goto C 19 dX9_looks_171 (by decide) ?_
                  refine g_lv [some _, some _, some _, none, none, none, none] (gs_some (gs_some (gs_some (gs_none (gs_none (gs_none (gs_none gs_nil))))))) ?_
                  exact ih_19 (i + 1) _ (pOn_s hi (Int32.not_lt.mp c_20) ⟨by rw [eU]; exact hz, by rw [eU, ← ek]; exact hg⟩) (by repeat (first | (with_reducible assumption) | (with_reducible exact gSm_r _) | (with_reducible refine gSm_I (by omega) ?_) | (with_reducible refine gSm_L (by omega) ?_) | (with_reducible refine gSm_N (by omega) ?_) | (with_reducible refine gSm_G (by omega) ?_) | (with_reducible refine gSm_P ?_))) (by repeat (first | (with_reducible assumption) | (with_reducible exact FM_r _) | (with_reducible refine FM_I (by omega) ?_) | (with_reducible refine FM_N (by omega) ?_))) (mTab_s ht (by omega) ea ek) (by omega)
                · refine g_iconst (v := 0) C dX9_looks_122 (by decide) ?_
                  exact g_iret C E dX9_looks_123 rfl rfl ⟨_, rfl, ⟨(by repeat (first | (with_reducible assumption) | (with_reducible exact gSm_r _) | (with_reducible refine gSm_I (by omega) ?_) | (with_reducible refine gSm_L (by omega) ?_) | (with_reducible refine gSm_N (by omega) ?_) | (with_reducible refine gSm_G (by omega) ?_) | (with_reducible refine gSm_P ?_))), (by repeat (first | (with_reducible assumption) | (with_reducible exact FM_r _) | (with_reducible refine FM_I (by omega) ?_) | (with_reducible refine FM_N (by omega) ?_))), Or.inr ⟨rfl, i, hi, Int32.not_lt.mp c_20, fun z => gAcc_n h_116 c_119 (by have z2 := z.2; rw [eU, ← ek] at z2; exact z2)⟩⟩⟩
              · have hc3 : c < 3 := Nat.lt_of_not_le (fun q => c_86 (by have e : c = 3 := (by omega); rw [e]; exact hX4))
                refine g_iinc (v := nI (c + 1)) C dX9_looks_89 rfl (ginc _ 1) rfl ?_
                refine g_lv [some _, some _, some _, some _, some _, some _, some _] (gs_some (gs_some (gs_some (gs_some (gs_some (gs_some (gs_some gs_nil))))))) ?_
                refine g_iload C dX9_looks_92 rfl ?_
                refine g_aload_n C dX9_looks_94 rfl ?_
                refine g_get C dX9_looks_95 iwX9 rfl (wO_M δ _) 6 (Nat.le_of_ble_eq_true rfl) mW578 rfl rfl ?_
                refine g_bipush (v := 25) C dX9_looks_98 (by decide) ?_
                refine g_iload_n C dX9_looks_100 rfl ?_
                refine g_imul C dX9_looks_101 ?_
                refine g_iload C dX9_looks_102 rfl ?_
                refine g_iadd C dX9_looks_104 ?_
                refine g_ialdN C dX9_looks_105 (k := (25 * a + (c + 1))) (q := 53) (by decide) rfl (by first | rfl | assumption | (simp only [glit, nI_add, pk_mul]; done) | (simp only [glit, nI_add, pk_mul]; congr 1; omega) | (simp only [*, glit, nI_add, pk_mul]; congr 1; omega)) (show (25 * a + (c + 1)) < gLenI 53 from Nat.lt_of_lt_of_eq (show (25 * a + (c + 1)) < 202 by omega) rfl) ?_
                refine g_iadd C dX9_looks_106 ?_
                refine g_istore C dX9_looks_107 (Nat.le_of_ble_eq_true rfl) rfl ?_
                refine g_lv [some _, some _, some _, some _, some _, some _, some _] (gs_some (gs_some (gs_some (gs_some (gs_some (gs_some (gs_some gs_nil))))))) ?_
                refine g_goto C 82 dX9_looks_109 (by decide) ?_
                refine g_lv [some _, some _, some _, some _, some _, some _, some _] (gs_some (gs_some (gs_some (gs_some (gs_some (gs_some (gs_some gs_nil))))))) ?_
                exact ih_82 (c + 1) (by omega) (fun j h => (Nat.lt_succ_iff_lt_or_eq.mp h).elim (fun h => hv j h) (fun h => by rw [h]; exact c_86)) (by omega)
          refine g_lv [some _, some _, some _, some _, some _, some _, some _] (gs_some (gs_some (gs_some (gs_some (gs_some (gs_some (gs_some gs_nil))))))) ?_
          exact L_82 _ 0 (by omega) (fun _ h => absurd h (Nat.not_lt_zero _)) (Nat.lt_succ_self _)
        · refine g_iconst (v := 0) C dX9_looks_33 (by decide) ?_
          exact g_iret C E dX9_looks_34 rfl rfl ⟨_, rfl, ⟨(by repeat (first | (with_reducible assumption) | (with_reducible exact gSm_r _) | (with_reducible refine gSm_I (by omega) ?_) | (with_reducible refine gSm_L (by omega) ?_) | (with_reducible refine gSm_N (by omega) ?_) | (with_reducible refine gSm_G (by omega) ?_) | (with_reducible refine gSm_P ?_))), (by repeat (first | (with_reducible assumption) | (with_reducible exact FM_r _) | (with_reducible refine FM_I (by omega) ?_) | (with_reducible refine FM_N (by omega) ?_))), Or.inr ⟨rfl, i, hi, Int32.not_lt.mp c_20, fun z => z.1 (by rw [eU, eT]; exact c_30)⟩⟩⟩
  refine g_lv [some _, some _, some _, none, none, none, none] (gs_some (gs_some (gs_some (gs_none (gs_none (gs_none (gs_none gs_nil))))))) ?_
  exact L_19 _ 0 _ (pOn_0 _ _ _) (by repeat (first | (with_reducible assumption) | (with_reducible exact gSm_r _) | (with_reducible refine gSm_I (by omega) ?_) | (with_reducible refine gSm_L (by omega) ?_) | (with_reducible refine gSm_N (by omega) ?_) | (with_reducible refine gSm_G (by omega) ?_) | (with_reducible refine gSm_P ?_))) (by repeat (first | (with_reducible assumption) | (with_reducible exact FM_r _) | (with_reducible refine FM_I (by omega) ?_) | (with_reducible refine FM_N (by omega) ?_))) ⟨by omega, rfl, rfl, fun _ h => absurd h (Nat.not_lt_zero _)⟩ (Nat.lt_succ_self _)
set_option maxRecDepth 100000 in
set_option maxHeartbeats 4000000 in
theorem c_X9_doesDraws (l : Launch) (δ : GD) (σ : GS) {v : GV} (K : KM σ v) (V : VS (vC v) (vS v)) {u0 s0 len : Nat} (h8 : u0 < 8) (hL : pOn (vS v) u0 s0 len) (ht : mTab σ (vS v) u0 s0 len) : gM l δ yX9_doesDraws cX9_doesDraws 3 (some .int) 1 23 [.ref (δ.2.2.1 1)] σ (gPi (fun x σ' => x = pTold (vS v) u0 s0 len ∧ KM σ' (vSet v (pEnd (vS v) u0 s0 len)) ∧ FM σ σ')) := by
  refine g_of (lv0 := [some (.ref (δ.2.2.1 1)), none, none]) (by decide) rfl (Nat.le_of_ble_eq_true rfl) (fun Γ hl C E => ?_)
  subst hl
  have C : gC Γ δ cX9_doesDraws RX9 3 1 23 := C
  refine g_iconst (v := 1) C dX9_doesDraws_0 (by decide) ?_
  refine g_istore_n C dX9_doesDraws_1 (Nat.le_of_ble_eq_true rfl) rfl ?_
  refine g_lv [some _, some _, none] (gs_some (gs_some (gs_none gs_nil))) ?_
  refine g_iconst (v := 0) C dX9_doesDraws_2 (by decide) ?_
  refine g_istore_n C dX9_doesDraws_3 (Nat.le_of_ble_eq_true rfl) rfl ?_
  refine g_lv [some _, some _, some _] (gs_some (gs_some (gs_some gs_nil))) ?_
  have L_4 : ∀ (nn : Nat) (i : Nat) (s1 : GS) (hi : i ≤ len) (K1 : KM s1 (vSet v (pRow (vS v) u0 s0 i))) (hF : FM σ s1) (ht1 : mTab s1 (vS v) u0 s0 len), len - i < nn → gW Γ δ s1 4 [some (.ref (δ.2.2.1 1)), some (.int (pTold (vS v) u0 s0 i)), some (.int (nI i))] [] := by
    intro nn
    induction nn with
    | zero =>
      intro i s1 hi K1 hF ht1 hm_4
      exact absurd hm_4 (Nat.not_lt_zero _)
    | succ nn ih_4 =>
      intro i s1 hi K1 hF ht1 hm_4
      have l8 := ht1.1
      refine g_iload_n C dX9_doesDraws_4 rfl ?_
      refine g_aload_n C dX9_doesDraws_5 rfl ?_
      refine g_get C dX9_doesDraws_6 iwX9 rfl (wO_M δ _) 12 (Nat.le_of_ble_eq_true rfl) mW584 rfl rfl ?_
      rw [ht1.2.1]
      refine g_icmp_ge C 46 dX9_doesDraws_9 (by decide) (fun c_9 => ?_) (fun c_9 => ?_)
      · have k_9 := gle c_9 (a := len) (b := i) (by first | rfl | assumption | (simp only [glit, nI_add, pk_mul]; done) | (simp only [glit, nI_add, pk_mul]; congr 1; omega) | (simp only [*, glit, nI_add, pk_mul]; congr 1; omega)) (by first | rfl | assumption | (simp only [glit, nI_add, pk_mul]; done) | (simp only [glit, nI_add, pk_mul]; congr 1; omega) | (simp only [*, glit, nI_add, pk_mul]; congr 1; omega)) (by omega) (by omega)
        have ek : i = len := by omega
        subst ek
        refine g_aload_n C dX9_doesDraws_46 rfl ?_
        refine g_get C dX9_doesDraws_47 iwX9 rfl (wO_M δ _) 6 (Nat.le_of_ble_eq_true rfl) mW578 rfl rfl ?_
        refine g_sipush (v := 200) C dX9_doesDraws_50 (by decide) ?_
        refine g_aload_n C dX9_doesDraws_53 rfl ?_
        refine g_get C dX9_doesDraws_54 iwX9 rfl (wO_M δ _) 15 (Nat.le_of_ble_eq_true rfl) mW587 rfl rfl ?_
        rw [ht1.2.2.1]
        refine g_iastN C dX9_doesDraws_57 (k := 200) (q := 53) (by decide) rfl (by first | rfl | assumption | (simp only [glit, nI_add, pk_mul]; done) | (simp only [glit, nI_add, pk_mul]; congr 1; omega) | (simp only [*, glit, nI_add, pk_mul]; congr 1; omega)) (show 200 < gLenI 53 from Nat.lt_of_lt_of_eq (show 200 < 202 by omega) rfl) ?_
        refine g_iload_n C dX9_doesDraws_58 rfl ?_
        exact g_iret C E dX9_doesDraws_59 rfl rfl ⟨_, rfl, ⟨rfl, KM_s1 K1 (by omega) (by omega), FM_I (by omega) hF⟩⟩
      · have k_9 := gnle c_9 (a := len) (b := i) (by first | rfl | assumption | (simp only [glit, nI_add, pk_mul]; done) | (simp only [glit, nI_add, pk_mul]; congr 1; omega) | (simp only [*, glit, nI_add, pk_mul]; congr 1; omega)) (by first | rfl | assumption | (simp only [glit, nI_add, pk_mul]; done) | (simp only [glit, nI_add, pk_mul]; congr 1; omega) | (simp only [*, glit, nI_add, pk_mul]; congr 1; omega)) (by omega) (by omega)
        obtain ⟨eA, lA⟩ := pU_bd V h8 hL (show i < len by omega)
        have hp8 : pU (vS v) u0 s0 i < 8 := by omega
        refine g_aload_n C dX9_doesDraws_12 rfl ?_
        refine g_aload_n C dX9_doesDraws_13 rfl ?_
        refine g_get C dX9_doesDraws_14 iwX9 rfl (wO_M δ _) 13 (Nat.le_of_ble_eq_true rfl) mW585 rfl rfl ?_
        refine g_iload_n C dX9_doesDraws_17 rfl ?_
        refine g_ialdN C dX9_doesDraws_18 (k := i) (q := 55) (by decide) rfl (by first | rfl | assumption | (simp only [glit, nI_add, pk_mul]; done) | (simp only [glit, nI_add, pk_mul]; congr 1; omega) | (simp only [*, glit, nI_add, pk_mul]; congr 1; omega)) (show i < gLenI 55 from Nat.lt_of_lt_of_eq (show i < 8 by omega) rfl) ?_
        rw [(ht1.2.2.2 i (by omega)).1, eA]
        refine g_aload_n C dX9_doesDraws_19 rfl ?_
        refine g_get C dX9_doesDraws_20 iwX9 rfl (wO_M δ _) 14 (Nat.le_of_ble_eq_true rfl) mW586 rfl rfl ?_
        refine g_iload_n C dX9_doesDraws_23 rfl ?_
        refine g_ialdN C dX9_doesDraws_24 (k := i) (q := 56) (by decide) rfl (by first | rfl | assumption | (simp only [glit, nI_add, pk_mul]; done) | (simp only [glit, nI_add, pk_mul]; congr 1; omega) | (simp only [*, glit, nI_add, pk_mul]; congr 1; omega)) (show i < gLenI 56 from Nat.lt_of_lt_of_eq (show i < 8 by omega) rfl) ?_
        rw [(ht1.2.2.2 i (by omega)).2]
        refine g_callVv C sV_X9_123 dX9_doesDraws_25 (c_X9_draws _ δ _ hp8 (c := pC (vS v) u0 s0 i) (pC_lt _ _ _ _) K1) ⟨by decide, by decide⟩ (wO_M δ _) rfl rfl rfl rfl (Nat.le_of_ble_eq_true rfl) (fun s_25 h_25 => ?_)
        obtain ⟨K2, F2, D2⟩ := h_25
        refine g_bipush (v := 10) C dX9_doesDraws_28 (by decide) ?_
        refine g_iload_n C dX9_doesDraws_30 rfl ?_
        refine g_imul C dX9_doesDraws_31 ?_
        rw [Int32.mul_comm]
        refine g_aload_n C dX9_doesDraws_32 rfl ?_
        refine g_get C dX9_doesDraws_33 iwX9 rfl (wO_M δ _) 14 (Nat.le_of_ble_eq_true rfl) mW586 rfl rfl ?_
        refine g_iload_n C dX9_doesDraws_36 rfl ?_
        refine g_ialdN C dX9_doesDraws_37 (k := i) (q := 56) (by decide) rfl (by first | rfl | assumption | (simp only [glit, nI_add, pk_mul]; done) | (simp only [glit, nI_add, pk_mul]; congr 1; omega) | (simp only [*, glit, nI_add, pk_mul]; congr 1; omega)) (show i < gLenI 56 from Nat.lt_of_lt_of_eq (show i < 8 by omega) rfl) ?_
        rw [((mTab_d ht1 D2).2.2.2 i (by omega)).2]
        refine g_iadd C dX9_doesDraws_38 ?_
        refine g_istore_n C dX9_doesDraws_39 (Nat.le_of_ble_eq_true rfl) rfl ?_
        refine g_lv [some _, some _, some _] (gs_some (gs_some (gs_some gs_nil))) ?_
        refine g_iinc (v := nI (i + 1)) C dX9_doesDraws_40 rfl (ginc _ 1) rfl ?_
        refine g_lv [some _, some _, some _] (gs_some (gs_some (gs_some gs_nil))) ?_
        refine g_goto C 4 dX9_doesDraws_43 (by decide) ?_
        refine g_lv [some _, some _, some _] (gs_some (gs_some (gs_some gs_nil))) ?_
        exact ih_4 (i + 1) _ (by omega) K2 (FM_t hF F2) (mTab_d ht1 D2) (by omega)
  refine g_lv [some _, some _, some _] (gs_some (gs_some (gs_some gs_nil))) ?_
  exact L_4 _ 0 _ (Nat.zero_le _) K (FM_r _) ht (Nat.lt_succ_self _)
set_option maxRecDepth 100000 in
set_option maxHeartbeats 4000000 in
theorem c_X9_drawn (l : Launch) (δ : GD) (σ : GS) (a0 : Int32) {v : GV} (K : KM σ v) (R : RV v) : gM l δ yX9_drawn cX9_drawn 2 (some .int) 3 75 [.ref (δ.2.2.1 1), .int a0] σ (gPi (fun x σ' => x = (fDrawn v a0).1 ∧ KM σ' (fDrawn v a0).2 ∧ FM σ σ')) := by
  refine g_of (lv0 := [some (.ref (δ.2.2.1 1)), some (.int a0)]) (by decide) rfl (Nat.le_of_ble_eq_true rfl) (fun Γ hl C E => ?_)
  subst hl
  have C : gC Γ δ cX9_drawn RX9 2 3 75 := C
  have hm := K.1
  have h8 := R.1
  refine g_aload_n C dX9_drawn_0 rfl ?_
  refine g_iload_n C dX9_drawn_1 rfl ?_
  refine g_callVi C sV_X9_89 dX9_drawn_2 (c_X9_isUrn _ δ _ _ hm h8) ⟨by decide, by decide⟩ (wO_M δ _) rfl rfl rfl rfl (Nat.le_of_ble_eq_true rfl) (fun r_2 s_2 h_2 => ?_)
  obtain ⟨rfl, h_2⟩ := h_2
  rcases h_2 with ⟨rfl, h_2⟩ | ⟨rfl, h_2⟩
  · obtain ⟨u1, hu1, rfl⟩ := id h_2
    have hu8 : u1 < 8 := by omega
    obtain ⟨h2, h4⟩ := (R.2.1 u1 hu8).1 hu1
    have hn := K.2.1 u1 hu8
    refine g_if_ne C 10 dX9_drawn_5 (by decide) (fun c_5 => ?_) (fun c_5 => ?_)
    · refine g_aload_n C dX9_drawn_10 rfl ?_
      refine g_iload_n C dX9_drawn_11 rfl ?_
      refine g_callVi C sV_X9_141 dX9_drawn_12 (c_X9_looks _ δ _ (u0 := u1) K R hu1) ⟨by decide, by decide⟩ (wO_M δ _) rfl rfl rfl rfl (Nat.le_of_ble_eq_true rfl) (fun r_12 s_12 h_12 => ?_)
      obtain ⟨z_12, F1, h_12⟩ := h_12
      rcases h_12 with ⟨rfl, len, hL, ht⟩ | ⟨rfl, hS⟩
      · have K1 := KM_sm z_12 K
        refine g_if_ne C 21 dX9_drawn_15 (by decide) (fun c_15 => ?_) (fun c_15 => ?_)
        · refine g_aload_n C dX9_drawn_21 rfl ?_
          refine g_callVv C sV_X9_102 dX9_drawn_22 (c_X9_keep _ δ _ K1) ⟨by decide, by decide⟩ (wO_M δ _) rfl rfl rfl rfl (Nat.le_of_ble_eq_true rfl) (fun s_22 h_22 => ?_)
          obtain ⟨K2, F2, D2⟩ := h_22
          refine g_aload_n C dX9_drawn_25 rfl ?_
          refine g_callVi C sV_X9_144 dX9_drawn_26 (c_X9_doesDraws _ δ _ K2 (RV_keep R).2.2.1 (u0 := u1) (s0 := nU (vS v 200)) (len := len) hu8 hL.1 (mTab_d ht D2)) ⟨by decide, by decide⟩ (wO_M δ _) rfl rfl rfl rfl (Nat.le_of_ble_eq_true rfl) (fun r_26 s_26 h_26 => ?_)
          obtain ⟨e3, K3, F3⟩ := h_26
          exact g_iret C E dX9_drawn_29 rfl rfl ⟨_, rfl, vPostM (fDrawn_o hu1 hu8 hL) e3 K3 (FM_t F1 (FM_t F2 F3))⟩
        · exact absurd c_15 (by decide)
      · skip
        refine g_if_ne C 21 dX9_drawn_15 (by decide) (fun c_15 => ?_) (fun c_15 => ?_)
        · exact absurd c_15 (by decide)
        · refine g_bipush (v := (-5)) C dX9_drawn_18 (by decide) ?_
          exact g_iret C E dX9_drawn_20 rfl rfl ⟨_, rfl, vPostM (fDrawn_s hu1 hu8 hS) rfl (KM_sm z_12 K) F1⟩
    · exact absurd c_5 (by decide)
  · skip
    refine g_if_ne C 10 dX9_drawn_5 (by decide) (fun c_5 => ?_) (fun c_5 => ?_)
    · exact absurd c_5 (by decide)
    · refine g_iconst (v := (-1)) C dX9_drawn_8 (by decide) ?_
      exact g_iret C E dX9_drawn_9 rfl rfl ⟨_, rfl, vPostM (gIf_f h_2) rfl K (FM_r _)⟩
set_option maxRecDepth 100000 in
set_option maxHeartbeats 4000000 in
theorem c_X9_shake (l : Launch) (δ : GD) (σ : GS) (a0 a1 : Int32) {v : GV} (K : KM σ v) (R : RV v) : gM l δ yX9_shake cX9_shake 5 (some .int) 3 75 [.ref (δ.2.2.1 1), .int a0, .int a1] σ (gPi (fun x σ' => x = (fShake v a0 a1).1 ∧ KM σ' (fShake v a0 a1).2 ∧ FM σ σ')) := by
  refine g_of (lv0 := [some (.ref (δ.2.2.1 1)), some (.int a0), some (.int a1), none, none]) (by decide) rfl (Nat.le_of_ble_eq_true rfl) (fun Γ hl C E => ?_)
  subst hl
  have C : gC Γ δ cX9_shake RX9 5 3 75 := C
  have hm := K.1
  have h8 := R.1
  refine g_aload_n C dX9_shake_0 rfl ?_
  refine g_iload_n C dX9_shake_1 rfl ?_
  refine g_callVi C sV_X9_89 dX9_shake_2 (c_X9_isUrn _ δ _ _ hm h8) ⟨by decide, by decide⟩ (wO_M δ _) rfl rfl rfl rfl (Nat.le_of_ble_eq_true rfl) (fun r_2 s_2 h_2 => ?_)
  obtain ⟨rfl, h_2⟩ := h_2
  rcases h_2 with ⟨rfl, h_2⟩ | ⟨rfl, h_2⟩
  · obtain ⟨u1, hu1, rfl⟩ := id h_2
    have hu8 : u1 < 8 := by omega
    obtain ⟨h2, h4⟩ := (R.2.1 u1 hu8).1 hu1
    have hn := K.2.1 u1 hu8
    refine g_if_eq C 20 dX9_shake_5 (by decide) (fun c_5 => ?_) (fun c_5 => ?_)
    · exact absurd c_5 (by decide)
    · refine g_iload_n C dX9_shake_8 rfl ?_
      refine g_i2l C dX9_shake_9 ?_
      refine g_lconst (v := 1) C dX9_shake_10 (by decide) ?_
      refine g_ldc2 C dX9_shake_11 mW779 ?_
      refine g_callSi C sS_X9_62 dX9_shake_14 (c_X9_in _ δ _ _ _ _) ⟨by decide, by decide⟩ rfl rfl rfl (Nat.le_of_ble_eq_true rfl) (fun r_14 s_14 h_14 => ?_)
      obtain ⟨rfl, h_14⟩ := h_14
      rw [gin50] at h_14
      rcases h_14 with ⟨rfl, h_14⟩ | ⟨rfl, h_14⟩
      · obtain ⟨n1, hn1, hn2, rfl⟩ := g150 h_14.1 h_14.2
        refine g_if_ne C 22 dX9_shake_17 (by decide) (fun c_17 => ?_) (fun c_17 => ?_)
        · refine g_iconst (v := 0) C dX9_shake_22 (by decide) ?_
          refine g_istore_n C dX9_shake_23 (Nat.le_of_ble_eq_true rfl) rfl ?_
          refine g_lv [some _, some _, some _, some _, none] (gs_some (gs_some (gs_some (gs_some (gs_none gs_nil))))) ?_
          have L_24 : ∀ (nn : Nat) (d : Nat) (s1 : GS) (hd : d ≤ n1) (hK : KM s1 (wQ v u1 d)) (hF : FM σ s1) (hV : VS (vC v) (pSq (vS v) u1 d)) (hns : ∀ i, i < d → ¬ sStk (vS v) u1 i), n1 - d < nn → gW Γ δ s1 24 [some (.ref (δ.2.2.1 1)), some (.int (nI u1)), some (.int (nI n1)), some (.int (nI d)), none] [] := by
            intro nn
            induction nn with
            | zero =>
              intro d s1 hd hK hF hV hns hm_24
              exact absurd hm_24 (Nat.not_lt_zero _)
            | succ nn ih_24 =>
              intro d s1 hd hK hF hV hns hm_24
              refine g_iload_n C dX9_shake_24 rfl ?_
              refine g_iload_n C dX9_shake_25 rfl ?_
              refine g_icmp_ge C 57 dX9_shake_26 (by decide) (fun c_26 => ?_) (fun c_26 => ?_)
              · have k_26 := gle c_26 (a := n1) (b := d) (by first | rfl | assumption | (simp only [glit, nI_add, pk_mul]; done) | (simp only [glit, nI_add, pk_mul]; congr 1; omega) | (simp only [*, glit, nI_add, pk_mul]; congr 1; omega)) (by first | rfl | assumption | (simp only [glit, nI_add, pk_mul]; done) | (simp only [glit, nI_add, pk_mul]; congr 1; omega) | (simp only [*, glit, nI_add, pk_mul]; congr 1; omega)) (by omega) (by omega)
                refine g_iload_n C dX9_shake_57 rfl ?_
                exact g_iret C E dX9_shake_58 rfl rfl ⟨_, rfl, (by first | exact vPostM (fShake_o hu1 hu8 hn1 hn2 hd hns (Or.inl (by omega))) rfl hK hF | exact vPostM (fShake_o hu1 hu8 hn1 hn2 hd hns (Or.inr hS)) rfl (KM_sm z_31 hK) (FM_t hF F1))⟩
              · have k_26 := gnle c_26 (a := n1) (b := d) (by first | rfl | assumption | (simp only [glit, nI_add, pk_mul]; done) | (simp only [glit, nI_add, pk_mul]; congr 1; omega) | (simp only [*, glit, nI_add, pk_mul]; congr 1; omega)) (by first | rfl | assumption | (simp only [glit, nI_add, pk_mul]; done) | (simp only [glit, nI_add, pk_mul]; congr 1; omega) | (simp only [*, glit, nI_add, pk_mul]; congr 1; omega)) (by omega) (by omega)
                refine g_aload_n C dX9_shake_29 rfl ?_
                refine g_iload_n C dX9_shake_30 rfl ?_
                refine g_callVi C sV_X9_141 dX9_shake_31 (c_X9_looks _ δ _ (u0 := u1) hK (wQ_R R hV) (by rw [wQ_M]; exact hu1)) ⟨by decide, by decide⟩ (wO_M δ _) rfl rfl rfl rfl (Nat.le_of_ble_eq_true rfl) (fun r_31 s_31 h_31 => ?_)
                obtain ⟨z_31, F1, h_31⟩ := h_31
                simp only [wQ_S] at h_31
                rcases h_31 with ⟨rfl, len, hL, ht⟩ | ⟨rfl, hS⟩
                · have K1 := KM_sm z_31 hK
                  refine g_if_eq C 57 dX9_shake_34 (by decide) (fun c_34 => ?_) (fun c_34 => ?_)
                  · exact absurd c_34 (by decide)
                  · have J_45 : ∀ (s4 : GS) (K4 : KM s4 (vSet (vKeep v) (pSq (vS v) u1 d))) (F4 : FM σ s4) (ht4 : mTab s4 (pSq (vS v) u1 d) u1 (nU (pSq (vS v) u1 d 200)) len), gW Γ δ s4 45 [some (.ref (δ.2.2.1 1)), some (.int (nI u1)), some (.int (nI n1)), some (.int (nI d)), none] [] := by
                      intro s4 K4 F4 ht4
                      refine g_aload_n C dX9_shake_45 rfl ?_
                      refine g_callVi C sV_X9_144 dX9_shake_46 (c_X9_doesDraws _ δ _ K4 hV (u0 := u1) (s0 := nU (pSq (vS v) u1 d 200)) (len := len) hu8 hL.1 ht4) ⟨by decide, by decide⟩ (wO_M δ _) rfl rfl rfl rfl (Nat.le_of_ble_eq_true rfl) (fun r_46 s_46 h_46 => ?_)
                      obtain ⟨-, K5, F5⟩ := h_46
                      refine g_istore C dX9_shake_49 (Nat.le_of_ble_eq_true rfl) rfl ?_
                      refine g_lv [some _, some _, some _, some _, some _] (gs_some (gs_some (gs_some (gs_some (gs_some gs_nil))))) ?_
                      refine g_iinc (v := nI (d + 1)) C dX9_shake_51 rfl (ginc _ 1) rfl ?_
                      refine g_lv [some _, some _, some _, some _, some _] (gs_some (gs_some (gs_some (gs_some (gs_some gs_nil))))) ?_
                      refine g_goto C 24 dX9_shake_54 (by decide) ?_
                      refine g_lv [some _, some _, some _, some _, none] (gs_some (gs_some (gs_some (gs_some (gs_none gs_nil))))) ?_
                      exact ih_24 (d + 1) _ (by omega) (by rw [← wQ_n hL]; exact K5) (FM_t F4 F5) (pSq_V hV hu8 hL) (pSq_N hL hns) (by omega)
                    refine g_iload_n C dX9_shake_37 rfl ?_
                    refine g_if_ne C 45 dX9_shake_38 (by decide) (fun c_38 => ?_) (fun c_38 => ?_)
                    · have ed : ¬ d = 0 := fun e => c_38 (by rw [e]; rfl)
                      rw [wQ_p ed] at K1
                      refine g_lv [some _, some _, some _, some _, none] (gs_some (gs_some (gs_some (gs_some (gs_none gs_nil))))) ?_
                      exact J_45 _ K1 (FM_t hF F1) ht
                    · have ed : d = 0 := (nI_eq (b := 0) (by omega) (by decide)).mp c_38
                      rw [wQ_e ed] at K1
                      refine g_aload_n C dX9_shake_41 rfl ?_
                      refine g_callVv C sV_X9_102 dX9_shake_42 (c_X9_keep _ δ _ K1) ⟨by decide, by decide⟩ (wO_M δ _) rfl rfl rfl rfl (Nat.le_of_ble_eq_true rfl) (fun s_42 h_42 => ?_)
                      obtain ⟨K2, F2, D2⟩ := h_42
                      refine g_lv [some _, some _, some _, some _, none] (gs_some (gs_some (gs_some (gs_some (gs_none gs_nil))))) ?_
                      exact J_45 _ (by rw [← wQ_k ed]; exact K2) (FM_t hF (FM_t F1 F2)) (mTab_d ht D2)
                · skip
                  refine g_if_eq C 57 dX9_shake_34 (by decide) (fun c_34 => ?_) (fun c_34 => ?_)
                  · refine g_iload_n C dX9_shake_57 rfl ?_
                    exact g_iret C E dX9_shake_58 rfl rfl ⟨_, rfl, (by first | exact vPostM (fShake_o hu1 hu8 hn1 hn2 hd hns (Or.inl (by omega))) rfl hK hF | exact vPostM (fShake_o hu1 hu8 hn1 hn2 hd hns (Or.inr hS)) rfl (KM_sm z_31 hK) (FM_t hF F1))⟩
                  · exact absurd c_34 (by decide)
          refine g_lv [some _, some _, some _, some _, none] (gs_some (gs_some (gs_some (gs_some (gs_none gs_nil))))) ?_
          exact L_24 _ 0 _ (Nat.zero_le _) (by rw [wQ_0]; exact K) (FM_r _) R.2.2.1 (fun _ h => absurd h (Nat.not_lt_zero _)) (Nat.lt_succ_self _)
        · exact absurd c_17 (by decide)
      · skip
        refine g_if_ne C 22 dX9_shake_17 (by decide) (fun c_17 => ?_) (fun c_17 => ?_)
        · exact absurd c_17 (by decide)
        · refine g_iconst (v := (-1)) C dX9_shake_20 (by decide) ?_
          exact g_iret C E dX9_shake_21 rfl rfl ⟨_, rfl, vPostM (by first | exact gIf_f (fun z => h_2 z.1) | exact gIf_f (fun z => h_14 z.2)) rfl K (FM_r _)⟩
  · skip
    refine g_if_eq C 20 dX9_shake_5 (by decide) (fun c_5 => ?_) (fun c_5 => ?_)
    · refine g_iconst (v := (-1)) C dX9_shake_20 (by decide) ?_
      exact g_iret C E dX9_shake_21 rfl rfl ⟨_, rfl, vPostM (by first | exact gIf_f (fun z => h_2 z.1) | exact gIf_f (fun z => h_14 z.2)) rfl K (FM_r _)⟩
    · exact absurd c_5 (by decide)
