theorem sV_X8_271 : gSV RX8 271 yX7_colourOf cX7_colourOf 4 (some .int) 1 := ⟨mW389, mW390, mW391, mW9, mW392, ⟨by decide +kernel, by decide +kernel⟩, by decide +kernel⟩
theorem sV_X8_156 : gSV RX8 156 yX8_findPath cX8_findPath 6 (some .boolean) 1 := ⟨mW381, mW383, mP3, mW1, mW384, ⟨by decide +kernel, by decide +kernel⟩, by decide +kernel⟩
theorem sV_X8_159 : gSV RX8 159 yX8_goPath cX8_goPath 2 none 0 := ⟨mW393, mW395, mP4, mW1, mW396, ⟨by decide +kernel, by decide +kernel⟩, by decide +kernel⟩
set_option maxRecDepth 100000 in
set_option maxHeartbeats 4000000 in
theorem c_X8_findPath (l : Launch) (δ : GD) (σ : GS) {u0 : Nat} {v : GV} (K : KC σ v) (R : RV v) (hu0 : u0 < vM v) : gM l δ yX8_findPath cX8_findPath 6 (some .boolean) 1 24 [.ref (δ.2.2.1 0), .int (nI u0)] σ (gPi (fun x σ' => gSm σ σ' ∧ FC σ σ' ∧ ((x = 1 ∧ ∃ len, pLen (vS v) u0 (nU (vS v 200)) len ∧ pTab σ' (vS v) u0 (nU (vS v 200)) len) ∨ (x = 0 ∧ pStk (vS v) u0 (nU (vS v 200)))))) := by
  refine g_of (lv0 := [some (.ref (δ.2.2.1 0)), some (.int (nI u0)), none, none, none, none]) (by decide) rfl (Nat.le_of_ble_eq_true rfl) (fun Γ hl C E => ?_)
  subst hl
  have C : gC Γ δ cX8_findPath RX8 6 1 24 := C
  have hm := K.1
  have h8 := R.1
  obtain ⟨kn, hkn, hx, -⟩ := id K.2.2.2.2
  have hl := K.2.2.2.1.2
  have h20 := K.2.2.2.1.1
  have V := R.2.2.1
  obtain ⟨es, ls⟩ := VS_seed V
  have hs0 : (gN σ 1).toInt64 = lN (nU (vS v 200)) := by rw [KC_seed K]; conv => lhs; rw [es]
                                                         exact nI_l (by omega)
  refine g_iload_n C dX8_findPath_0 rfl ?_
  refine g_istore_n C dX8_findPath_1 (Nat.le_of_ble_eq_true rfl) rfl ?_
  refine g_lv [some _, some _, some _, none, none, none] (gs_some (gs_some (gs_some (gs_none (gs_none (gs_none gs_nil)))))) ?_
  refine g_aload_n C dX8_findPath_2 rfl ?_
  refine g_get C dX8_findPath_3 iwX8 rfl (wO_X δ _) 3 (Nat.le_of_ble_eq_true rfl) mW220 rfl rfl ?_
  refine g_iconst (v := 0) C dX8_findPath_6 (by decide) ?_
  refine g_put C tyX4 dX8_findPath_7 iwX4 tyX4_ok nmX4 rfl (wO_P δ _) 2 (Nat.le_of_ble_eq_true rfl) mW56 rfl rfl rfl rfl rfl (Nat.le_of_ble_eq_true rfl) (pN_32 δ _ _) ?_
  refine g_aload_n C dX8_findPath_10 rfl ?_
  refine g_get C dX8_findPath_11 iwX8 rfl (wO_X δ _) 3 (Nat.le_of_ble_eq_true rfl) mW220 rfl rfl ?_
  refine g_aload_n C dX8_findPath_14 rfl ?_
  refine g_get C dX8_findPath_15 iwX8 rfl (wO_X δ _) 9 (Nat.le_of_ble_eq_true rfl) mW226 rfl rfl ?_
  refine g_i2l C dX8_findPath_18 ?_
  refine g_put C tyX4 dX8_findPath_19 iwX4 tyX4_ok nmX4 rfl (wO_P δ _) 3 (Nat.le_of_ble_eq_true rfl) mW58 rfl rfl rfl rfl rfl (Nat.le_of_ble_eq_true rfl) (pG_0 δ _ _) ?_
  have L_22 : ∀ (nn : Nat) (i : Nat) (s1 : GS) (hi : pOn (vS v) u0 (nU (vS v 200)) i) (hs : gSm σ s1) (hF : FC σ s1) (ht : pTab s1 (vS v) u0 (nU (vS v 200)) i), 9 - i < nn → gW Γ δ s1 22 [some (.ref (δ.2.2.1 0)), some (.int (nI u0)), some (.int (pA (vS v) u0 (nU (vS v 200)) i)), none, none, none] [] := by
    intro nn
    induction nn with
    | zero =>
      intro i s1 hi hs hF ht hm_22
      exact absurd hm_22 (Nat.not_lt_zero _)
    | succ nn ih_22 =>
      intro i s1 hi hs hF ht hm_22
      have K1 := KC_sm hs K
      refine g_iload_n C dX8_findPath_22 rfl ?_
      refine g_if_lt C 186 dX8_findPath_23 (by decide) (fun c_23 => ?_) (fun c_23 => ?_)
      · refine g_iconst (v := 1) C dX8_findPath_186 (by decide) ?_
        exact g_iret C E dX8_findPath_187 rfl rfl ⟨_, rfl, ⟨(by repeat (first | (with_reducible assumption) | (with_reducible exact gSm_r _) | (with_reducible refine gSm_I (by omega) ?_) | (with_reducible refine gSm_L (by omega) ?_) | (with_reducible refine gSm_N (by omega) ?_) | (with_reducible refine gSm_G (by omega) ?_) | (with_reducible refine gSm_P ?_))), (by repeat (first | (with_reducible assumption) | (with_reducible exact FC_r _) | (with_reducible refine FC_I (by omega) ?_) | (with_reducible refine FC_N (by omega) ?_) | (with_reducible refine FC_G ?_))), Or.inl ⟨rfl, i, ⟨hi, c_23⟩, ht⟩⟩⟩
      · obtain ⟨a, ea, la⟩ := pA_bd V (show u0 < 8 by omega) i (fun j hj => (hi j hj).1) (Int32.not_lt.mp c_23)
        have ha8 : a < 8 := by omega
        have eU : pU (vS v) u0 (nU (vS v 200)) i = a := by unfold pU; rw [ea, nU_n (by omega)]
        obtain ⟨h2, h4⟩ := (R.2.1 a ha8).1 (by omega)
        have hn1 := K1.2.1 a ha8
        obtain ⟨T, hT, eT, eT2⟩ := VS_sum V ha8
        refine g_iload_n C dX8_findPath_26 rfl ?_
        refine g_aload_n C dX8_findPath_27 rfl ?_
        refine g_get C dX8_findPath_28 iwX8 rfl (wO_X δ _) 8 (Nat.le_of_ble_eq_true rfl) mW225 rfl rfl ?_
        refine g_icmp_ge C 186 dX8_findPath_31 (by decide) (fun c_31 => ?_) (fun c_31 => ?_)
        · exact absurd c_31 (by rw [gSm_n hs (by omega), hm, ea]; exact nI_ge (by omega) (by omega))
        · refine g_aload_n C dX8_findPath_34 rfl ?_
          refine g_get C dX8_findPath_35 iwX8 rfl (wO_X δ _) 3 (Nat.le_of_ble_eq_true rfl) mW220 rfl rfl ?_
          refine g_get C dX8_findPath_38 iwX4 rfl (wO_P δ _) 2 (Nat.le_of_ble_eq_true rfl) mW56 rfl rfl ?_
          refine g_bipush (v := 8) C dX8_findPath_41 (by decide) ?_
          refine g_icmp_ge C 186 dX8_findPath_43 (by decide) (fun c_43 => ?_) (fun c_43 => ?_)
          · exact absurd c_43 (by rw [ht.2.1]; exact nI_ge (a := i) (b := 8) (by omega) (by decide))
          · refine g_aload_n C dX8_findPath_46 rfl ?_
            refine g_get C dX8_findPath_47 iwX8 rfl (wO_X δ _) 1 (Nat.le_of_ble_eq_true rfl) mW218 rfl rfl ?_
            refine g_iload_n C dX8_findPath_50 rfl ?_
            refine g_aaldU C a dX8_findPath_51 rfl ha8 (by first | rfl | assumption | (simp only [glit, nI_add, pk_mul]; done) | (simp only [glit, nI_add, pk_mul]; congr 1; omega) | (simp only [*, glit, nI_add, pk_mul]; congr 1; omega)) ?_
            refine g_astore_n C dX8_findPath_52 (Nat.le_of_ble_eq_true rfl) rfl ?_
            refine g_lv [some _, some _, some _, some _, none, none] (gs_some (gs_some (gs_some (gs_some (gs_none (gs_none gs_nil)))))) ?_
            refine g_aload_n C dX8_findPath_53 rfl ?_
            refine g_callVi C sV_X8_129 dX8_findPath_54 (c_X7_total _ δ _ ha8) ⟨by decide, by decide⟩ (wO_U δ _ ha8) rfl rfl rfl rfl (Nat.le_of_ble_eq_true rfl) (fun r_54 s_54 h_54 => ?_)
            obtain ⟨rfl, rfl⟩ := h_54
            rw [KC_sum K1 ha8, eT]
            refine g_istore C dX8_findPath_57 (Nat.le_of_ble_eq_true rfl) rfl ?_
            refine g_lv [some _, some _, some _, some _, some _, none] (gs_some (gs_some (gs_some (gs_some (gs_some (gs_none gs_nil)))))) ?_
            refine g_iload C dX8_findPath_59 rfl ?_
            refine g_if_gt C 66 dX8_findPath_61 (by decide) (fun c_61 => ?_) (fun c_61 => ?_)
            · have hT0 := nI_pp c_61 hT
              have hz : ¬ sumS (vS v) a = 0 := by rw [eT]; exact nI_ne0 hT0 (by omega)
              refine g_aload_n C dX8_findPath_66 rfl ?_
              refine g_get C dX8_findPath_67 iwX8 rfl (wO_X δ _) 3 (Nat.le_of_ble_eq_true rfl) mW220 rfl rfl ?_
              refine g_aload_n C dX8_findPath_70 rfl ?_
              refine g_get C dX8_findPath_71 iwX8 rfl (wO_X δ _) 3 (Nat.le_of_ble_eq_true rfl) mW220 rfl rfl ?_
              refine g_get C dX8_findPath_74 iwX4 rfl (wO_P δ _) 3 (Nat.le_of_ble_eq_true rfl) mW58 rfl rfl ?_
              rw [ht.2.2.1]
              refine g_ldc2 C dX8_findPath_77 mW385 ?_
              refine g_lmul C dX8_findPath_80 ?_
              refine g_ldc2 C dX8_findPath_81 mW386 ?_
              refine g_ladd C dX8_findPath_84 ?_
              refine g_ldc2 C dX8_findPath_85 mW387 ?_
              refine g_lrem C dX8_findPath_88 (by decide) ?_
              rw [lseed (pE_lt ls i)]
              refine g_put C tyX4 dX8_findPath_89 iwX4 tyX4_ok nmX4 rfl (wO_P δ _) 3 (Nat.le_of_ble_eq_true rfl) mW58 rfl rfl rfl rfl rfl (Nat.le_of_ble_eq_true rfl) (pG_0 δ _ _) ?_
              refine g_aload_n C dX8_findPath_92 rfl ?_
              refine g_aload_n C dX8_findPath_93 rfl ?_
              refine g_get C dX8_findPath_94 iwX8 rfl (wO_X δ _) 3 (Nat.le_of_ble_eq_true rfl) mW220 rfl rfl ?_
              refine g_get C dX8_findPath_97 iwX4 rfl (wO_P δ _) 3 (Nat.le_of_ble_eq_true rfl) mW58 rfl rfl ?_
              rw [gG_uG, if_pos rfl]
              refine g_ldc2 C dX8_findPath_100 mW388 ?_
              refine g_ldiv C dX8_findPath_103 (by decide) ?_
              refine g_iload C dX8_findPath_104 rfl ?_
              refine g_i2l C dX8_findPath_106 ?_
              refine g_lrem C dX8_findPath_107 (lT0 hT0 hT) ?_
              refine g_l2i C dX8_findPath_108 ?_
              rw [lnum (pS_lt _) hT0 hT]
              refine g_callVi C sV_X8_271 dX8_findPath_109 (c_X7_colourOf _ δ _ ha8 _ (n := vC v a - 1) (show gN s1 (14 + a) = nI (vC v a - 1 + 1) by rw [hn1, Nat.sub_add_cancel (by omega)]) (by omega)) ⟨by decide, by decide⟩ (wO_U δ _ ha8) rfl rfl rfl rfl (Nat.le_of_ble_eq_true rfl) (fun r_109 s_109 h_109 => ?_)
              obtain ⟨rfl, k, hk, rfl, hk1, hk2⟩ := h_109
              have ek : k = pC (vS v) u0 (nU (vS v 200)) i := by
                    unfold pC pN
                    rw [eU, eT2]
                    exact KC_col K1 R ha8 (n := vC v a - 1) (by omega) hk hk1 hk2 (by rw [eT]; exact nI_lt (Nat.mod_lt _ hT0) (by omega))
              refine g_istore C dX8_findPath_112 (Nat.le_of_ble_eq_true rfl) rfl ?_
              refine g_lv [some _, some _, some _, some _, some _, some _] (gs_some (gs_some (gs_some (gs_some (gs_some (gs_some gs_nil)))))) ?_
              refine g_aload_n C dX8_findPath_114 rfl ?_
              refine g_aload_n C dX8_findPath_115 rfl ?_
              refine g_get C dX8_findPath_116 iwX7 rfl (wO_U δ _ ha8) 0 (Nat.le_of_ble_eq_true rfl) mW194 rfl rfl ?_
              refine g_iload C dX8_findPath_119 rfl ?_
              refine g_callVi C sV_X8_147 dX8_findPath_121 (c_X7_lets _ δ _ ha8 (q := a) (by omega) (gLenI_b ha8) (c := k) (by omega) hn1 h4) ⟨by decide, by decide⟩ (wO_U δ _ ha8) rfl rfl rfl rfl (Nat.le_of_ble_eq_true rfl) (fun r_121 s_121 h_121 => ?_)
              obtain ⟨rfl, h_121⟩ := h_121
              rcases h_121 with ⟨rfl, h_121⟩ | ⟨rfl, h_121⟩
              · have h_121 := (KC_let K1 R ha8 (show k < 4 by omega)).mp h_121
                refine g_if_ne C 129 dX8_findPath_124 (by decide) (fun c_124 => ?_) (fun c_124 => ?_)
                · refine g_aload_n C dX8_findPath_129 rfl ?_
                  refine g_get C dX8_findPath_130 iwX8 rfl (wO_X δ _) 3 (Nat.le_of_ble_eq_true rfl) mW220 rfl rfl ?_
                  refine g_get C dX8_findPath_133 iwX4 rfl (wO_P δ _) 0 (Nat.le_of_ble_eq_true rfl) mW52 rfl rfl ?_
                  refine g_aload_n C dX8_findPath_136 rfl ?_
                  refine g_get C dX8_findPath_137 iwX8 rfl (wO_X δ _) 3 (Nat.le_of_ble_eq_true rfl) mW220 rfl rfl ?_
                  refine g_get C dX8_findPath_140 iwX4 rfl (wO_P δ _) 2 (Nat.le_of_ble_eq_true rfl) mW56 rfl rfl ?_
                  rw [gN_uG, ht.2.1]
                  refine g_iload_n C dX8_findPath_143 rfl ?_
                  refine g_iastN C dX8_findPath_144 (k := i) (q := 44) (by decide) rfl (by first | rfl | assumption | (simp only [glit, nI_add, pk_mul]; done) | (simp only [glit, nI_add, pk_mul]; congr 1; omega) | (simp only [*, glit, nI_add, pk_mul]; congr 1; omega)) (show i < gLenI 44 from Nat.lt_of_lt_of_eq (show i < 8 by omega) rfl) ?_
                  refine g_aload_n C dX8_findPath_145 rfl ?_
                  refine g_get C dX8_findPath_146 iwX8 rfl (wO_X δ _) 3 (Nat.le_of_ble_eq_true rfl) mW220 rfl rfl ?_
                  refine g_get C dX8_findPath_149 iwX4 rfl (wO_P δ _) 1 (Nat.le_of_ble_eq_true rfl) mW54 rfl rfl ?_
                  refine g_aload_n C dX8_findPath_152 rfl ?_
                  refine g_get C dX8_findPath_153 iwX8 rfl (wO_X δ _) 3 (Nat.le_of_ble_eq_true rfl) mW220 rfl rfl ?_
                  refine g_get C dX8_findPath_156 iwX4 rfl (wO_P δ _) 2 (Nat.le_of_ble_eq_true rfl) mW56 rfl rfl ?_
                  rw [gN_uI, gN_uG, ht.2.1]
                  refine g_iload C dX8_findPath_159 rfl ?_
                  refine g_iastN C dX8_findPath_161 (k := i) (q := 45) (by decide) rfl (by first | rfl | assumption | (simp only [glit, nI_add, pk_mul]; done) | (simp only [glit, nI_add, pk_mul]; congr 1; omega) | (simp only [*, glit, nI_add, pk_mul]; congr 1; omega)) (show i < gLenI 45 from Nat.lt_of_lt_of_eq (show i < 8 by omega) rfl) ?_
                  refine g_aload_n C dX8_findPath_162 rfl ?_
                  refine g_get C dX8_findPath_163 iwX8 rfl (wO_X δ _) 3 (Nat.le_of_ble_eq_true rfl) mW220 rfl rfl ?_
                  refine g_dup C dX8_findPath_166 rfl ?_
                  refine g_get C dX8_findPath_167 iwX4 rfl (wO_P δ _) 2 (Nat.le_of_ble_eq_true rfl) mW56 rfl rfl ?_
                  rw [gN_uI, gN_uI, gN_uG, ht.2.1]
                  refine g_iconst (v := 1) C dX8_findPath_170 (by decide) ?_
                  refine g_iadd C dX8_findPath_171 ?_
                  rw [show nI i + 1 = nI (i + 1) from nI_1 i]
                  refine g_put C tyX4 dX8_findPath_172 iwX4 tyX4_ok nmX4 rfl (wO_P δ _) 2 (Nat.le_of_ble_eq_true rfl) mW56 rfl rfl rfl rfl rfl (Nat.le_of_ble_eq_true rfl) (pN_32 δ _ _) ?_
                  refine g_aload_n C dX8_findPath_175 rfl ?_
                  refine g_get C dX8_findPath_176 iwX7 rfl (wO_U δ _ ha8) 2 (Nat.le_of_ble_eq_true rfl) mW200 rfl rfl ?_
                  refine g_iload C dX8_findPath_179 rfl ?_
                  refine g_ialdN C dX8_findPath_181 (k := k) (q := (16 + a)) (by omega) (congrArg _ (by omega)) (by first | rfl | assumption | (simp only [glit, nI_add, pk_mul]; done) | (simp only [glit, nI_add, pk_mul]; congr 1; omega) | (simp only [*, glit, nI_add, pk_mul]; congr 1; omega)) (by rw [gLenI_u ha8]; omega) ?_
                  rw [pRd _ _ _ _ _ ha8, KC_u K1 ha8 (show k < 4 by omega), show vS v (25 * a + 20 + k) = pA (vS v) u0 (nU (vS v 200)) (i + 1) by rw [pA_s, eU, ← ek]]
                  refine g_istore_n C dX8_findPath_182 (Nat.le_of_ble_eq_true rfl) rfl ?_
                  refine g_lv [some _, some _, some _, some _, some _, some _] (gs_some (gs_some (gs_some (gs_some (gs_some (gs_some gs_nil)))))) ?_
                  refine g_goto C 22 dX8_findPath_183 (by decide) ?_
                  refine g_lv [some _, some _, some _, none, none, none] (gs_some (gs_some (gs_some (gs_none (gs_none (gs_none gs_nil)))))) ?_
                  exact ih_22 (i + 1) _ (pOn_s hi (Int32.not_lt.mp c_23) ⟨by rw [eU]; exact hz, by rw [eU, ← ek]; exact h_121⟩) (by repeat (first | (with_reducible assumption) | (with_reducible exact gSm_r _) | (with_reducible refine gSm_I (by omega) ?_) | (with_reducible refine gSm_L (by omega) ?_) | (with_reducible refine gSm_N (by omega) ?_) | (with_reducible refine gSm_G (by omega) ?_) | (with_reducible refine gSm_P ?_))) (by repeat (first | (with_reducible assumption) | (with_reducible exact FC_r _) | (with_reducible refine FC_I (by omega) ?_) | (with_reducible refine FC_N (by omega) ?_) | (with_reducible refine FC_G ?_))) (pTab_s ht (by omega) ek) (by omega)
                · exact absurd c_124 (by decide)
              · have h_121 := fun z => h_121 ((KC_let K1 R ha8 (show k < 4 by omega)).mpr z)
                refine g_if_ne C 129 dX8_findPath_124 (by decide) (fun c_124 => ?_) (fun c_124 => ?_)
                · exact absurd c_124 (by decide)
                · refine g_iconst (v := 0) C dX8_findPath_127 (by decide) ?_
                  exact g_iret C E dX8_findPath_128 rfl rfl ⟨_, rfl, ⟨(by repeat (first | (with_reducible assumption) | (with_reducible exact gSm_r _) | (with_reducible refine gSm_I (by omega) ?_) | (with_reducible refine gSm_L (by omega) ?_) | (with_reducible refine gSm_N (by omega) ?_) | (with_reducible refine gSm_G (by omega) ?_) | (with_reducible refine gSm_P ?_))), (by repeat (first | (with_reducible assumption) | (with_reducible exact FC_r _) | (with_reducible refine FC_I (by omega) ?_) | (with_reducible refine FC_N (by omega) ?_) | (with_reducible refine FC_G ?_))), Or.inr ⟨rfl, i, hi, Int32.not_lt.mp c_23, fun z => h_121 (by have z2 := z.2; rw [eU, ← ek] at z2; exact z2)⟩⟩⟩
            · refine g_iconst (v := 0) C dX8_findPath_64 (by decide) ?_
              exact g_iret C E dX8_findPath_65 rfl rfl ⟨_, rfl, ⟨(by repeat (first | (with_reducible assumption) | (with_reducible exact gSm_r _) | (with_reducible refine gSm_I (by omega) ?_) | (with_reducible refine gSm_L (by omega) ?_) | (with_reducible refine gSm_N (by omega) ?_) | (with_reducible refine gSm_G (by omega) ?_) | (with_reducible refine gSm_P ?_))), (by repeat (first | (with_reducible assumption) | (with_reducible exact FC_r _) | (with_reducible refine FC_I (by omega) ?_) | (with_reducible refine FC_N (by omega) ?_) | (with_reducible refine FC_G ?_))), Or.inr ⟨rfl, i, hi, Int32.not_lt.mp c_23, fun z => z.1 (by rw [eU, eT, nI_np c_61 hT]; rfl)⟩⟩⟩
  refine g_lv [some _, some _, some _, none, none, none] (gs_some (gs_some (gs_some (gs_none (gs_none (gs_none gs_nil)))))) ?_
  exact L_22 _ 0 _ (pOn_0 _ _ _) (by repeat (first | (with_reducible assumption) | (with_reducible exact gSm_r _) | (with_reducible refine gSm_I (by omega) ?_) | (with_reducible refine gSm_L (by omega) ?_) | (with_reducible refine gSm_N (by omega) ?_) | (with_reducible refine gSm_G (by omega) ?_) | (with_reducible refine gSm_P ?_))) (by repeat (first | (with_reducible assumption) | (with_reducible exact FC_r _) | (with_reducible refine FC_I (by omega) ?_) | (with_reducible refine FC_N (by omega) ?_) | (with_reducible refine FC_G ?_))) ⟨by omega, rfl, hs0, fun _ h => absurd h (Nat.not_lt_zero _)⟩ (Nat.lt_succ_self _)
set_option maxRecDepth 100000 in
set_option maxHeartbeats 4000000 in
theorem c_X8_goPath (l : Launch) (δ : GD) (σ : GS) {v : GV} (K : KC σ v) (V : VS (vC v) (vS v)) (hn4 : ∀ u, u < 8 → vC v u ≤ 4) {u0 s0 len : Nat} (h8 : u0 < 8) (hL : pOn (vS v) u0 s0 len) (ht : pTab σ (vS v) u0 s0 len) : gM l δ yX8_goPath cX8_goPath 2 none 2 44 [.ref (δ.2.2.1 0)] σ (gPv (fun σ' => KC σ' (vSet v (upd (pRow (vS v) u0 s0 len) 200 (nI (pE (vS v) u0 s0 len)))) ∧ FC σ σ' ∧ pTab σ' (vS v) u0 s0 len)) := by
  refine g_of (lv0 := [some (.ref (δ.2.2.1 0)), none]) (by decide) rfl (Nat.le_of_ble_eq_true rfl) (fun Γ hl C E => ?_)
  subst hl
  have C : gC Γ δ cX8_goPath RX8 2 2 44 := C
  refine g_iconst (v := 0) C dX8_goPath_0 (by decide) ?_
  refine g_istore_n C dX8_goPath_1 (Nat.le_of_ble_eq_true rfl) rfl ?_
  refine g_lv [some _, some _] (gs_some (gs_some gs_nil)) ?_
  have L_2 : ∀ (nn : Nat) (i : Nat) (s1 : GS) (hi : i ≤ len) (K1 : KC s1 (vSet v (pRow (vS v) u0 s0 i))) (hF : FC σ s1) (ht1 : pTab s1 (vS v) u0 s0 len), len - i < nn → gW Γ δ s1 2 [some (.ref (δ.2.2.1 0)), some (.int (nI i))] [] := by
    intro nn
    induction nn with
    | zero =>
      intro i s1 hi K1 hF ht1 hm_2
      exact absurd hm_2 (Nat.not_lt_zero _)
    | succ nn ih_2 =>
      intro i s1 hi K1 hF ht1 hm_2
      have l8 := ht1.1
      refine g_iload_n C dX8_goPath_2 rfl ?_
      refine g_aload_n C dX8_goPath_3 rfl ?_
      refine g_get C dX8_goPath_4 iwX8 rfl (wO_X δ _) 3 (Nat.le_of_ble_eq_true rfl) mW220 rfl rfl ?_
      refine g_get C dX8_goPath_7 iwX4 rfl (wO_P δ _) 2 (Nat.le_of_ble_eq_true rfl) mW56 rfl rfl ?_
      rw [ht1.2.1]
      refine g_icmp_ge C 45 dX8_goPath_10 (by decide) (fun c_10 => ?_) (fun c_10 => ?_)
      · have k_10 := gle c_10 (a := len) (b := i) (by first | rfl | assumption | (simp only [glit, nI_add, pk_mul]; done) | (simp only [glit, nI_add, pk_mul]; congr 1; omega) | (simp only [*, glit, nI_add, pk_mul]; congr 1; omega)) (by first | rfl | assumption | (simp only [glit, nI_add, pk_mul]; done) | (simp only [glit, nI_add, pk_mul]; congr 1; omega) | (simp only [*, glit, nI_add, pk_mul]; congr 1; omega)) (by omega) (by omega)
        have ek : i = len := by omega
        subst ek
        refine g_aload_n C dX8_goPath_45 rfl ?_
        refine g_aload_n C dX8_goPath_46 rfl ?_
        refine g_get C dX8_goPath_47 iwX8 rfl (wO_X δ _) 3 (Nat.le_of_ble_eq_true rfl) mW220 rfl rfl ?_
        refine g_get C dX8_goPath_50 iwX4 rfl (wO_P δ _) 3 (Nat.le_of_ble_eq_true rfl) mW58 rfl rfl ?_
        rw [ht1.2.2.1]
        refine g_l2i C dX8_goPath_53 ?_
        rw [lN_i]
        refine g_put C tyX8 dX8_goPath_54 iwX8 tyX8_ok nmX8 rfl (wO_X δ _) 9 (Nat.le_of_ble_eq_true rfl) mW226 rfl rfl rfl rfl rfl (Nat.le_of_ble_eq_true rfl) (pN_1 δ _ _) ?_
        exact g_vret C E dX8_goPath_57 rfl ⟨rfl, ⟨KC_ws K1, FC_N (by omega) hF, pTab_k ht1 rfl rfl rfl rfl⟩⟩
      · have k_10 := gnle c_10 (a := len) (b := i) (by first | rfl | assumption | (simp only [glit, nI_add, pk_mul]; done) | (simp only [glit, nI_add, pk_mul]; congr 1; omega) | (simp only [*, glit, nI_add, pk_mul]; congr 1; omega)) (by first | rfl | assumption | (simp only [glit, nI_add, pk_mul]; done) | (simp only [glit, nI_add, pk_mul]; congr 1; omega) | (simp only [*, glit, nI_add, pk_mul]; congr 1; omega)) (by omega) (by omega)
        obtain ⟨eA, lA⟩ := pU_bd V h8 hL (show i < len by omega)
        have hp8 : pU (vS v) u0 s0 i < 8 := by omega
        refine g_aload_n C dX8_goPath_13 rfl ?_
        refine g_get C dX8_goPath_14 iwX8 rfl (wO_X δ _) 1 (Nat.le_of_ble_eq_true rfl) mW218 rfl rfl ?_
        refine g_aload_n C dX8_goPath_17 rfl ?_
        refine g_get C dX8_goPath_18 iwX8 rfl (wO_X δ _) 3 (Nat.le_of_ble_eq_true rfl) mW220 rfl rfl ?_
        refine g_get C dX8_goPath_21 iwX4 rfl (wO_P δ _) 0 (Nat.le_of_ble_eq_true rfl) mW52 rfl rfl ?_
        refine g_iload_n C dX8_goPath_24 rfl ?_
        refine g_ialdN C dX8_goPath_25 (k := i) (q := 44) (by decide) rfl (by first | rfl | assumption | (simp only [glit, nI_add, pk_mul]; done) | (simp only [glit, nI_add, pk_mul]; congr 1; omega) | (simp only [*, glit, nI_add, pk_mul]; congr 1; omega)) (show i < gLenI 44 from Nat.lt_of_lt_of_eq (show i < 8 by omega) rfl) ?_
        rw [(ht1.2.2.2 i (by omega)).1, eA]
        refine g_aaldU C (pU (vS v) u0 s0 i) dX8_goPath_26 rfl hp8 (by first | rfl | assumption | (simp only [glit, nI_add, pk_mul]; done) | (simp only [glit, nI_add, pk_mul]; congr 1; omega) | (simp only [*, glit, nI_add, pk_mul]; congr 1; omega)) ?_
        refine g_aload_n C dX8_goPath_27 rfl ?_
        refine g_get C dX8_goPath_28 iwX8 rfl (wO_X δ _) 3 (Nat.le_of_ble_eq_true rfl) mW220 rfl rfl ?_
        refine g_get C dX8_goPath_31 iwX4 rfl (wO_P δ _) 1 (Nat.le_of_ble_eq_true rfl) mW54 rfl rfl ?_
        refine g_iload_n C dX8_goPath_34 rfl ?_
        refine g_ialdN C dX8_goPath_35 (k := i) (q := 45) (by decide) rfl (by first | rfl | assumption | (simp only [glit, nI_add, pk_mul]; done) | (simp only [glit, nI_add, pk_mul]; congr 1; omega) | (simp only [*, glit, nI_add, pk_mul]; congr 1; omega)) (show i < gLenI 45 from Nat.lt_of_lt_of_eq (show i < 8 by omega) rfl) ?_
        rw [(ht1.2.2.2 i (by omega)).2]
        refine g_callVv C sV_X8_151 dX8_goPath_36 (c_X7_doDraw _ δ _ hp8 (c := pC (vS v) u0 s0 i) (pC_lt _ _ _ _) (K1.2.1 _ hp8) (hn4 _ hp8)) ⟨by decide, by decide⟩ (wO_U δ _ hp8) rfl rfl rfl rfl (Nat.le_of_ble_eq_true rfl) (fun s_36 h_36 => ?_)
        obtain rfl := h_36
        have K2 := KC_draw K1 (VS_pRow V h8 hL i (by omega)) hp8 (pC_lt (vS v) u0 s0 i)
        refine g_iinc (v := nI (i + 1)) C dX8_goPath_39 rfl (ginc _ 1) rfl ?_
        refine g_lv [some _, some _] (gs_some (gs_some gs_nil)) ?_
        refine g_goto C 2 dX8_goPath_42 (by decide) ?_
        refine g_lv [some _, some _] (gs_some (gs_some gs_nil)) ?_
        exact ih_2 (i + 1) _ (by omega) K2 (FC_N (by omega) (FC_I (by omega) hF)) (pTab_d ht1 hp8) (by omega)
  refine g_lv [some _, some _] (gs_some (gs_some gs_nil)) ?_
  exact L_2 _ 0 _ (Nat.zero_le _) K (FC_r _) ht (Nat.lt_succ_self _)
set_option maxRecDepth 100000 in
set_option maxHeartbeats 4000000 in
theorem c_X8_drawn (l : Launch) (δ : GD) (σ : GS) (a0 : Int32) {v : GV} (K : KC σ v) (R : RV v) : gM l δ yX8_drawn cX8_drawn 4 (some .int) 3 65 [.ref (δ.2.2.1 0), .int a0] σ (gPi (fun x σ' => x = (fDrawn v a0).1 ∧ KC σ' (fDrawn v a0).2 ∧ FC σ σ')) := by
  refine g_of (lv0 := [some (.ref (δ.2.2.1 0)), some (.int a0), none, none]) (by decide) rfl (Nat.le_of_ble_eq_true rfl) (fun Γ hl C E => ?_)
  subst hl
  have C : gC Γ δ cX8_drawn RX8 4 3 65 := C
  have hm := K.1
  have h8 := R.1
  obtain ⟨kn, hkn, hx, -⟩ := id K.2.2.2.2
  have hl := K.2.2.2.1.2
  have h20 := K.2.2.2.1.1
  refine g_aload_n C dX8_drawn_0 rfl ?_
  refine g_iload_n C dX8_drawn_1 rfl ?_
  refine g_callVr C sV_X8_101 dX8_drawn_2 (c_X8_urnAt _ δ _ _ hm h8) ⟨by decide, by decide⟩ (wO_X δ _) rfl rfl rfl rfl (Nat.le_of_ble_eq_true rfl) (fun r_2 s_2 h_2 => ?_)
  obtain ⟨rfl, h_2⟩ := h_2
  rcases h_2 with ⟨rfl, h_2⟩ | ⟨u_2, hu_2, e_2, rfl⟩
  · skip
    refine g_ifnonnull_n C dX8_drawn_5 ?_
    refine g_iconst (v := (-1)) C dX8_drawn_8 (by decide) ?_
    exact g_iret C E dX8_drawn_9 rfl rfl ⟨_, rfl, vPostC (gIf_f h_2) rfl K (FC_r _)⟩
  · have hu8 : u_2 < 8 := by omega
    obtain ⟨h2, h4⟩ := (R.2.1 u_2 hu8).1 hu_2
    have hn := K.2.1 u_2 hu8
    subst e_2
    refine g_ifnonnull_r C 10 dX8_drawn_5 (by decide) ?_
    refine g_aload_n C dX8_drawn_10 rfl ?_
    refine g_iload_n C dX8_drawn_11 rfl ?_
    refine g_callVi C sV_X8_156 dX8_drawn_12 (c_X8_findPath _ δ _ (u0 := u_2) K R hu_2) ⟨by decide, by decide⟩ (wO_X δ _) rfl rfl rfl rfl (Nat.le_of_ble_eq_true rfl) (fun r_12 s_12 h_12 => ?_)
    obtain ⟨z_12, F1, h_12⟩ := h_12
    rcases h_12 with ⟨rfl, len, hL, ht⟩ | ⟨rfl, hS⟩
    · have K1 := KC_sm z_12 K
      obtain ⟨kn1, hkn1, hx1, -⟩ := id K1.2.2.2.2
      refine g_if_ne C 21 dX8_drawn_15 (by decide) (fun c_15 => ?_) (fun c_15 => ?_)
      · refine g_aload_n C dX8_drawn_21 rfl ?_
        refine g_callVv C sV_X8_116 dX8_drawn_22 (c_X8_keepAct _ δ _ K1.2.2.2.1.2 hx1 K1.2.2.2.1.1 hkn1) ⟨by decide, by decide⟩ (wO_X δ _) rfl rfl rfl rfl (Nat.le_of_ble_eq_true rfl) (fun s_22 h_22 => ?_)
        obtain ⟨K2, F2⟩ := KC_kept K1 hkn1 hx1 h_22
        have ht2 := pTab_keep ht hkn1 h_22
        refine g_aload_n C dX8_drawn_25 rfl ?_
        refine g_callVv C sV_X8_159 dX8_drawn_26 (c_X8_goPath _ δ _ K2 (RV_keep R).2.2.1 (fun u hu => RV_n R hu) (u0 := u_2) (s0 := nU (vS v 200)) (len := len) hu8 hL.1 ht2) ⟨by decide, by decide⟩ (wO_X δ _) rfl rfl rfl rfl (Nat.le_of_ble_eq_true rfl) (fun s_26 h_26 => ?_)
        obtain ⟨K3, F3, ht3⟩ := h_26
        refine g_iconst (v := 1) C dX8_drawn_29 (by decide) ?_
        refine g_istore_n C dX8_drawn_30 (Nat.le_of_ble_eq_true rfl) rfl ?_
        refine g_lv [some _, some _, some _, none] (gs_some (gs_some (gs_some (gs_none gs_nil)))) ?_
        refine g_iconst (v := 0) C dX8_drawn_31 (by decide) ?_
        refine g_istore_n C dX8_drawn_32 (Nat.le_of_ble_eq_true rfl) rfl ?_
        refine g_lv [some _, some _, some _, some _] (gs_some (gs_some (gs_some (gs_some gs_nil)))) ?_
        have L_33 : ∀ (nn : Nat) (i : Nat) (hi : i ≤ len), len - i < nn → gW Γ δ s_26 33 [some (.ref (δ.2.2.1 0)), some (.int (nI u_2)), some (.int (pTold (vS v) u_2 (nU (vS v 200)) i)), some (.int (nI i))] [] := by
          intro nn
          induction nn with
          | zero =>
            intro i hi hm_33
            exact absurd hm_33 (Nat.not_lt_zero _)
          | succ nn ih_33 =>
            intro i hi hm_33
            have l8 := ht3.1
            refine g_iload_n C dX8_drawn_33 rfl ?_
            refine g_aload_n C dX8_drawn_34 rfl ?_
            refine g_get C dX8_drawn_35 iwX8 rfl (wO_X δ _) 3 (Nat.le_of_ble_eq_true rfl) mW220 rfl rfl ?_
            refine g_get C dX8_drawn_38 iwX4 rfl (wO_P δ _) 2 (Nat.le_of_ble_eq_true rfl) mW56 rfl rfl ?_
            rw [ht3.2.1]
            refine g_icmp_ge C 65 dX8_drawn_41 (by decide) (fun c_41 => ?_) (fun c_41 => ?_)
            · have k_41 := gle c_41 (a := len) (b := i) (by first | rfl | assumption | (simp only [glit, nI_add, pk_mul]; done) | (simp only [glit, nI_add, pk_mul]; congr 1; omega) | (simp only [*, glit, nI_add, pk_mul]; congr 1; omega)) (by first | rfl | assumption | (simp only [glit, nI_add, pk_mul]; done) | (simp only [glit, nI_add, pk_mul]; congr 1; omega) | (simp only [*, glit, nI_add, pk_mul]; congr 1; omega)) (by omega) (by omega)
              have ek : i = len := by omega
              subst ek
              refine g_iload_n C dX8_drawn_65 rfl ?_
              exact g_iret C E dX8_drawn_66 rfl rfl ⟨_, rfl, vPostC (fDrawn_o hu_2 hu8 hL) rfl K3 (FC_t F1 (FC_t F2 F3))⟩
            · have k_41 := gnle c_41 (a := len) (b := i) (by first | rfl | assumption | (simp only [glit, nI_add, pk_mul]; done) | (simp only [glit, nI_add, pk_mul]; congr 1; omega) | (simp only [*, glit, nI_add, pk_mul]; congr 1; omega)) (by first | rfl | assumption | (simp only [glit, nI_add, pk_mul]; done) | (simp only [glit, nI_add, pk_mul]; congr 1; omega) | (simp only [*, glit, nI_add, pk_mul]; congr 1; omega)) (by omega) (by omega)
              refine g_iload_n C dX8_drawn_44 rfl ?_
              refine g_bipush (v := 10) C dX8_drawn_45 (by decide) ?_
              refine g_imul C dX8_drawn_47 ?_
              refine g_aload_n C dX8_drawn_48 rfl ?_
              refine g_get C dX8_drawn_49 iwX8 rfl (wO_X δ _) 3 (Nat.le_of_ble_eq_true rfl) mW220 rfl rfl ?_
              refine g_get C dX8_drawn_52 iwX4 rfl (wO_P δ _) 1 (Nat.le_of_ble_eq_true rfl) mW54 rfl rfl ?_
              refine g_iload_n C dX8_drawn_55 rfl ?_
              refine g_ialdN C dX8_drawn_56 (k := i) (q := 45) (by decide) rfl (by first | rfl | assumption | (simp only [glit, nI_add, pk_mul]; done) | (simp only [glit, nI_add, pk_mul]; congr 1; omega) | (simp only [*, glit, nI_add, pk_mul]; congr 1; omega)) (show i < gLenI 45 from Nat.lt_of_lt_of_eq (show i < 8 by omega) rfl) ?_
              rw [(ht3.2.2.2 i (by omega)).2]
              refine g_iadd C dX8_drawn_57 ?_
              refine g_istore_n C dX8_drawn_58 (Nat.le_of_ble_eq_true rfl) rfl ?_
              refine g_lv [some _, some _, some _, some _] (gs_some (gs_some (gs_some (gs_some gs_nil)))) ?_
              refine g_iinc (v := nI (i + 1)) C dX8_drawn_59 rfl (ginc _ 1) rfl ?_
              refine g_lv [some _, some _, some _, some _] (gs_some (gs_some (gs_some (gs_some gs_nil)))) ?_
              refine g_goto C 33 dX8_drawn_62 (by decide) ?_
              refine g_lv [some _, some _, some _, some _] (gs_some (gs_some (gs_some (gs_some gs_nil)))) ?_
              exact ih_33 (i + 1) (by omega) (by omega)
        refine g_lv [some _, some _, some _, some _] (gs_some (gs_some (gs_some (gs_some gs_nil)))) ?_
        exact L_33 _ 0 (Nat.zero_le _) (Nat.lt_succ_self _)
      · exact absurd c_15 (by decide)
    · skip
      refine g_if_ne C 21 dX8_drawn_15 (by decide) (fun c_15 => ?_) (fun c_15 => ?_)
      · exact absurd c_15 (by decide)
      · refine g_bipush (v := (-5)) C dX8_drawn_18 (by decide) ?_
        exact g_iret C E dX8_drawn_20 rfl rfl ⟨_, rfl, vPostC (fDrawn_s hu_2 hu8 hS) rfl (KC_sm z_12 K) F1⟩
