theorem sV_L_13 : gSV RL 13 yX8_sheet cX8_sheet 5 (some .int) 3 := ⟨mW248, mW249, mW250, mW1, mW251, ⟨by decide +kernel, by decide +kernel⟩, by decide +kernel⟩
theorem sV_L_17 : gSV RL 17 yX9_sheet cX9_sheet 5 (some .int) 3 := ⟨mW651, mW652, mW653, mW11, mW654, ⟨by decide +kernel, by decide +kernel⟩, by decide +kernel⟩
theorem sV_L_20 : gSV RL 20 yX8_lay cX8_lay 6 (some .int) 3 := ⟨mW263, mW264, mW265, mW1, mW266, ⟨by decide +kernel, by decide +kernel⟩, by decide +kernel⟩
theorem sV_L_24 : gSV RL 24 yX9_lay cX9_lay 6 (some .int) 3 := ⟨mW664, mW665, mW666, mW11, mW667, ⟨by decide +kernel, by decide +kernel⟩, by decide +kernel⟩
theorem sV_L_25 : gSV RL 25 yX8_copy cX8_copy 8 (some .int) 5 := ⟨mW275, mW276, mW277, mW1, mW278, ⟨by decide +kernel, by decide +kernel⟩, by decide +kernel⟩
theorem sV_L_29 : gSV RL 29 yX9_copy cX9_copy 7 (some .int) 5 := ⟨mW675, mW676, mW677, mW11, mW678, ⟨by decide +kernel, by decide +kernel⟩, by decide +kernel⟩
theorem sV_L_30 : gSV RL 30 yX8_holds cX8_holds 6 (some .int) 3 := ⟨mW282, mW283, mW284, mW1, mW285, ⟨by decide +kernel, by decide +kernel⟩, by decide +kernel⟩
theorem sV_L_33 : gSV RL 33 yX9_holds cX9_holds 6 (some .int) 3 := ⟨mW679, mW680, mW681, mW11, mW682, ⟨by decide +kernel, by decide +kernel⟩, by decide +kernel⟩
theorem sV_L_34 : gSV RL 34 yX8_read cX8_read 13 (some .int) 5 := ⟨mW286, mW287, mW288, mW1, mW289, ⟨by decide +kernel, by decide +kernel⟩, by decide +kernel⟩
theorem sV_L_37 : gSV RL 37 yX9_read cX9_read 7 (some .int) 5 := ⟨mW683, mW684, mW685, mW11, mW686, ⟨by decide +kernel, by decide +kernel⟩, by decide +kernel⟩
theorem sV_L_38 : gSV RL 38 yX8_urn cX8_urn 2 (some .int) 1 := ⟨mW315, mW316, mW317, mW1, mW318, ⟨by decide +kernel, by decide +kernel⟩, by decide +kernel⟩
theorem sV_L_42 : gSV RL 42 yX9_urn cX9_urn 2 (some .int) 1 := ⟨mW702, mW703, mW704, mW11, mW705, ⟨by decide +kernel, by decide +kernel⟩, by decide +kernel⟩
theorem sV_L_43 : gSV RL 43 yX8_put cX8_put 6 (some .int) 3 := ⟨mW319, mW320, mW321, mW1, mW322, ⟨by decide +kernel, by decide +kernel⟩, by decide +kernel⟩
theorem sV_L_46 : gSV RL 46 yX9_put cX9_put 5 (some .int) 3 := ⟨mW707, mW708, mW709, mW11, mW710, ⟨by decide +kernel, by decide +kernel⟩, by decide +kernel⟩
theorem sV_L_47 : gSV RL 47 yX8_add cX8_add 7 (some .int) 4 := ⟨mW323, mW324, mW325, mW1, mW326, ⟨by decide +kernel, by decide +kernel⟩, by decide +kernel⟩
theorem sV_L_51 : gSV RL 51 yX9_add cX9_add 7 (some .int) 4 := ⟨mW711, mW712, mW713, mW11, mW714, ⟨by decide +kernel, by decide +kernel⟩, by decide +kernel⟩
theorem sV_L_52 : gSV RL 52 yX8_is cX8_is 6 (some .int) 3 := ⟨mW327, mW328, mW329, mW1, mW330, ⟨by decide +kernel, by decide +kernel⟩, by decide +kernel⟩
theorem sV_L_55 : gSV RL 55 yX9_is cX9_is 6 (some .int) 3 := ⟨mW715, mW716, mW717, mW11, mW718, ⟨by decide +kernel, by decide +kernel⟩, by decide +kernel⟩
theorem sV_L_56 : gSV RL 56 yX8_about cX8_about 4 (some .int) 2 := ⟨mW331, mW332, mW333, mW1, mW334, ⟨by decide +kernel, by decide +kernel⟩, by decide +kernel⟩
theorem sV_L_60 : gSV RL 60 yX9_about cX9_about 3 (some .int) 2 := ⟨mW719, mW720, mW721, mW11, mW722, ⟨by decide +kernel, by decide +kernel⟩, by decide +kernel⟩
theorem sV_L_61 : gSV RL 61 yX8_added cX8_added 5 (some .int) 3 := ⟨mW352, mW353, mW354, mW1, mW355, ⟨by decide +kernel, by decide +kernel⟩, by decide +kernel⟩
theorem sV_L_64 : gSV RL 64 yX9_added cX9_added 4 (some .int) 3 := ⟨mW739, mW740, mW741, mW11, mW742, ⟨by decide +kernel, by decide +kernel⟩, by decide +kernel⟩
theorem sV_L_65 : gSV RL 65 yX8_draw cX8_draw 4 (some .int) 2 := ⟨mW356, mW357, mW358, mW1, mW359, ⟨by decide +kernel, by decide +kernel⟩, by decide +kernel⟩
theorem sV_L_68 : gSV RL 68 yX9_draw cX9_draw 3 (some .int) 2 := ⟨mW743, mW744, mW745, mW11, mW746, ⟨by decide +kernel, by decide +kernel⟩, by decide +kernel⟩
theorem sV_L_69 : gSV RL 69 yX8_seed cX8_seed 2 (some .int) 1 := ⟨mW372, mW373, mW374, mW1, mW375, ⟨by decide +kernel, by decide +kernel⟩, by decide +kernel⟩
theorem sV_L_72 : gSV RL 72 yX9_seed cX9_seed 2 (some .int) 1 := ⟨mW755, mW756, mW757, mW11, mW758, ⟨by decide +kernel, by decide +kernel⟩, by decide +kernel⟩
theorem sV_L_73 : gSV RL 73 yX8_drawn cX8_drawn 4 (some .int) 1 := ⟨mW377, mW378, mW379, mW1, mW380, ⟨by decide +kernel, by decide +kernel⟩, by decide +kernel⟩
theorem sV_L_76 : gSV RL 76 yX9_drawn cX9_drawn 2 (some .int) 1 := ⟨mW760, mW761, mW762, mW11, mW763, ⟨by decide +kernel, by decide +kernel⟩, by decide +kernel⟩
theorem sV_L_77 : gSV RL 77 yX8_shake cX8_shake 4 (some .int) 2 := ⟨mW397, mW398, mW399, mW1, mW400, ⟨by decide +kernel, by decide +kernel⟩, by decide +kernel⟩
theorem sV_L_80 : gSV RL 80 yX9_shake cX9_shake 5 (some .int) 2 := ⟨mW775, mW776, mW777, mW11, mW778, ⟨by decide +kernel, by decide +kernel⟩, by decide +kernel⟩
theorem sV_L_81 : gSV RL 81 yX8_undo cX8_undo 3 (some .int) 0 := ⟨mW401, mW402, mW403, mW1, mW404, ⟨by decide +kernel, by decide +kernel⟩, by decide +kernel⟩
theorem sV_L_85 : gSV RL 85 yX9_undo cX9_undo 2 (some .int) 0 := ⟨mW780, mW781, mW782, mW11, mW783, ⟨by decide +kernel, by decide +kernel⟩, by decide +kernel⟩
theorem sV_L_86 : gSV RL 86 yX8_chance cX8_chance 5 (some .int) 3 := ⟨mW413, mW414, mW415, mW1, mW416, ⟨by decide +kernel, by decide +kernel⟩, by decide +kernel⟩
theorem sV_L_89 : gSV RL 89 yX9_chance cX9_chance 5 (some .int) 3 := ⟨mW788, mW789, mW790, mW11, mW791, ⟨by decide +kernel, by decide +kernel⟩, by decide +kernel⟩
theorem sV_L_90 : gSV RL 90 yX8_times cX8_times 7 (some .int) 4 := ⟨mW442, mW443, mW444, mW1, mW445, ⟨by decide +kernel, by decide +kernel⟩, by decide +kernel⟩
theorem sV_L_93 : gSV RL 93 yX9_times cX9_times 9 (some .int) 4 := ⟨mW805, mW806, mW807, mW11, mW808, ⟨by decide +kernel, by decide +kernel⟩, by decide +kernel⟩
theorem sV_L_94 : gSV RL 94 yX8_left cX8_left 7 (some .int) 4 := ⟨mW496, mW497, mW498, mW1, mW499, ⟨by decide +kernel, by decide +kernel⟩, by decide +kernel⟩
theorem sV_L_97 : gSV RL 97 yX9_left cX9_left 9 (some .int) 4 := ⟨mW836, mW837, mW838, mW11, mW839, ⟨by decide +kernel, by decide +kernel⟩, by decide +kernel⟩
theorem sV_L_98 : gSV RL 98 yX8_stuck cX8_stuck 5 (some .int) 2 := ⟨mW500, mW501, mW502, mW1, mW503, ⟨by decide +kernel, by decide +kernel⟩, by decide +kernel⟩
theorem sV_L_101 : gSV RL 101 yX9_stuck cX9_stuck 4 (some .int) 2 := ⟨mW841, mW842, mW843, mW11, mW844, ⟨by decide +kernel, by decide +kernel⟩, by decide +kernel⟩
theorem sV_L_102 : gSV RL 102 yX8_mean cX8_mean 7 (some .int) 4 := ⟨mW504, mW505, mW506, mW1, mW507, ⟨by decide +kernel, by decide +kernel⟩, by decide +kernel⟩
theorem sV_L_105 : gSV RL 105 yX9_mean cX9_mean 16 (some .int) 4 := ⟨mW845, mW846, mW847, mW11, mW848, ⟨by decide +kernel, by decide +kernel⟩, by decide +kernel⟩
theorem sV_L_106 : gSV RL 106 yX8_told cX8_told 9 (some .int) 5 := ⟨mW512, mW513, mW514, mW1, mW515, ⟨by decide +kernel, by decide +kernel⟩, by decide +kernel⟩
theorem sV_L_109 : gSV RL 109 yX9_told cX9_told 9 (some .int) 5 := ⟨mW850, mW851, mW852, mW11, mW853, ⟨by decide +kernel, by decide +kernel⟩, by decide +kernel⟩
theorem sV_L_110 : gSV RL 110 yX8_share cX8_share 11 (some .int) 3 := ⟨mW529, mW530, mW531, mW1, mW532, ⟨by decide +kernel, by decide +kernel⟩, by decide +kernel⟩
theorem sV_L_113 : gSV RL 113 yX9_share cX9_share 10 (some .int) 3 := ⟨mW858, mW859, mW860, mW11, mW861, ⟨by decide +kernel, by decide +kernel⟩, by decide +kernel⟩
theorem sV_L_114 : gSV RL 114 yX8_free cX8_free 4 (some .int) 2 := ⟨mW533, mW534, mW535, mW1, mW536, ⟨by decide +kernel, by decide +kernel⟩, by decide +kernel⟩
theorem sV_L_117 : gSV RL 117 yX9_free cX9_free 9 (some .int) 2 := ⟨mW862, mW863, mW864, mW11, mW865, ⟨by decide +kernel, by decide +kernel⟩, by decide +kernel⟩
theorem sV_L_118 : gSV RL 118 yX8_part cX8_part 2 (some .long) 1 := ⟨mW553, mW554, mW555, mW1, mW556, ⟨by decide +kernel, by decide +kernel⟩, by decide +kernel⟩
theorem sV_L_122 : gSV RL 122 yX9_part cX9_part 2 (some .long) 1 := ⟨mW784, mW785, mW786, mW11, mW787, ⟨by decide +kernel, by decide +kernel⟩, by decide +kernel⟩
theorem sV_L_123 : gSV RL 123 yX8_count cX8_count 2 (some .int) 1 := ⟨mW558, mW559, mW560, mW1, mW561, ⟨by decide +kernel, by decide +kernel⟩, by decide +kernel⟩
theorem sV_L_126 : gSV RL 126 yX9_count cX9_count 2 (some .int) 1 := ⟨mW866, mW867, mW868, mW11, mW869, ⟨by decide +kernel, by decide +kernel⟩, by decide +kernel⟩
set_option maxRecDepth 100000 in
set_option maxHeartbeats 40000000 in
theorem law_go {Γ : GX} {δ : GD} {b L : Nat} {xs : Nat → Int32} (hL : L ≤ 3072) (C : gC Γ δ cL_law RL 4 9 366) (hX : va_X b L xs Γ.2.1.1 Γ.2.1.1.heap) (hbl : b < Γ.2.1.1.heap.size) (hbA : ¬ gA δ Γ.2.1.1.heap.size b) (hfin : ∀ (σ : GS) (lv : List (Option Value)), gW Γ δ σ 1256 lv []) (σ : GS) {v : GV} {w : GW} (I0 : Inv σ v w) : gW Γ δ σ 18 [some (.ref b), some (.ref (δ.2.2.1 0)), some (.ref (δ.2.2.1 1)), some (.int 0)] [] := by
  have L_18 : ∀ (nn : Nat) (k : Nat) (σ : GS) (v : GV) (w : GW) (hk : k ≤ L + 6) (I : Inv σ v w), L + 7 - k < nn → gW Γ δ σ 18 [some (.ref b), some (.ref (δ.2.2.1 0)), some (.ref (δ.2.2.1 1)), some (.int (nI k))] [] := by
    intro nn
    induction nn with
    | zero =>
      intro k σ v w hk I hm_18
      exact absurd hm_18 (Nat.not_lt_zero _)
    | succ nn ih_18 =>
      intro k σ v w hk I hm_18
      have J := I
      refine g_iload_n C dL_law_18 rfl ?_
      refine g_aload_n C dL_law_19 rfl ?_
      refine g_slen C hX hbl hbA dL_law_20 ?_
      refine g_bipush (v := 6) C dL_law_21 (by decide) ?_
      refine g_isub C dL_law_23 ?_
      refine g_icmp_gt C 1256 dL_law_24 (by decide) (fun c_24 => ?_) (fun c_24 => ?_)
      · exact hfin _ _
      · rw [glim (by omega) (by omega)] at c_24
        have hkL : k + 6 ≤ L := by omega
        refine g_aload_n C dL_law_27 rfl ?_
        refine g_iload_n C dL_law_28 rfl ?_
        refine g_sldN C hX hbl hbA (by omega) (k := k) dL_law_29 (by first | rfl | assumption | (simp only [glit, nI_add, pk_mul]; done) | (simp only [glit, nI_add, pk_mul]; congr 1; omega) | (simp only [*, glit, nI_add, pk_mul]; congr 1; omega)) (by omega) ?_
        refine g_bipush (v := 31) C dL_law_30 (by decide) ?_
        refine g_iand C dL_law_32 ?_
        rcases gsw (xs k &&& 31) 25 (by omega) with h_33 | h_33
        · refine g_tableOut C 1250 dL_law_33 (by simpa using h_33) (by decide) ?_
          refine g_iinc (v := nI (k + 6)) C dL_law_1250 rfl (ginc _ 6) rfl ?_
          refine g_lv [some _, some _, some _, some _] (gs_some (gs_some (gs_some (gs_some gs_nil)))) ?_
          refine g_goto C 18 dL_law_1253 (by decide) ?_
          refine g_lv [some _, some _, some _, some _] (gs_some (gs_some (gs_some (gs_some gs_nil)))) ?_
          exact ih_18 (k + 6) _ _ _ (by omega) J (by omega)
        · rcases gsw25 (xs k &&& 31) h_33 with h_33 | h_33 | h_33 | h_33 | h_33 | h_33 | h_33 | h_33 | h_33 | h_33 | h_33 | h_33 | h_33 | h_33 | h_33 | h_33 | h_33 | h_33 | h_33 | h_33 | h_33 | h_33 | h_33 | h_33 | h_33 | h_33
          · rw [h_33]
            refine g_tableIn C 152 dL_law_33 (by decide) (by decide) rfl (by decide) ?_
            refine g_aload_n C dL_law_152 rfl ?_
            refine g_aload_n C dL_law_153 rfl ?_
            refine g_iload_n C dL_law_154 rfl ?_
            refine g_iconst (v := 1) C dL_law_155 (by decide) ?_
            refine g_iadd C dL_law_156 ?_
            refine g_sldN C hX hbl hbA (by omega) (k := (k + 1)) dL_law_157 (by first | rfl | assumption | (simp only [glit, nI_add, pk_mul]; done) | (simp only [glit, nI_add, pk_mul]; congr 1; omega) | (simp only [*, glit, nI_add, pk_mul]; congr 1; omega)) (by omega) ?_
            refine g_aload_n C dL_law_158 rfl ?_
            refine g_iload_n C dL_law_159 rfl ?_
            refine g_iconst (v := 2) C dL_law_160 (by decide) ?_
            refine g_iadd C dL_law_161 ?_
            refine g_sldN C hX hbl hbA (by omega) (k := (k + 2)) dL_law_162 (by first | rfl | assumption | (simp only [glit, nI_add, pk_mul]; done) | (simp only [glit, nI_add, pk_mul]; congr 1; omega) | (simp only [*, glit, nI_add, pk_mul]; congr 1; omega)) (by omega) ?_
            refine g_aload_n C dL_law_163 rfl ?_
            refine g_iload_n C dL_law_164 rfl ?_
            refine g_iconst (v := 3) C dL_law_165 (by decide) ?_
            refine g_iadd C dL_law_166 ?_
            refine g_sldN C hX hbl hbA (by omega) (k := (k + 3)) dL_law_167 (by first | rfl | assumption | (simp only [glit, nI_add, pk_mul]; done) | (simp only [glit, nI_add, pk_mul]; congr 1; omega) | (simp only [*, glit, nI_add, pk_mul]; congr 1; omega)) (by omega) ?_
            refine g_callVi C sV_L_13 dL_law_168 (c_X8_sheet _ δ _ _ _ _) ⟨by decide, by decide⟩ (wO_X δ _) rfl rfl rfl rfl (Nat.le_of_ble_eq_true rfl) (fun r_168 s_168 h_168 => ?_)
            obtain ⟨h_168, M⟩ := x_sheet I h_168
            refine g_pop C dL_law_171 rfl ?_
            refine g_aload_n C dL_law_172 rfl ?_
            refine g_aload_n C dL_law_173 rfl ?_
            refine g_iload_n C dL_law_174 rfl ?_
            refine g_iconst (v := 1) C dL_law_175 (by decide) ?_
            refine g_iadd C dL_law_176 ?_
            refine g_sldN C hX hbl hbA (by omega) (k := (k + 1)) dL_law_177 (by first | rfl | assumption | (simp only [glit, nI_add, pk_mul]; done) | (simp only [glit, nI_add, pk_mul]; congr 1; omega) | (simp only [*, glit, nI_add, pk_mul]; congr 1; omega)) (by omega) ?_
            refine g_aload_n C dL_law_178 rfl ?_
            refine g_iload_n C dL_law_179 rfl ?_
            refine g_iconst (v := 2) C dL_law_180 (by decide) ?_
            refine g_iadd C dL_law_181 ?_
            refine g_sldN C hX hbl hbA (by omega) (k := (k + 2)) dL_law_182 (by first | rfl | assumption | (simp only [glit, nI_add, pk_mul]; done) | (simp only [glit, nI_add, pk_mul]; congr 1; omega) | (simp only [*, glit, nI_add, pk_mul]; congr 1; omega)) (by omega) ?_
            refine g_aload_n C dL_law_183 rfl ?_
            refine g_iload_n C dL_law_184 rfl ?_
            refine g_iconst (v := 3) C dL_law_185 (by decide) ?_
            refine g_iadd C dL_law_186 ?_
            refine g_sldN C hX hbl hbA (by omega) (k := (k + 3)) dL_law_187 (by first | rfl | assumption | (simp only [glit, nI_add, pk_mul]; done) | (simp only [glit, nI_add, pk_mul]; congr 1; omega) | (simp only [*, glit, nI_add, pk_mul]; congr 1; omega)) (by omega) ?_
            refine g_callVi C sV_L_17 dL_law_188 (c_X9_sheet _ δ _ _ _ _) ⟨by decide, by decide⟩ (wO_M δ _) rfl rfl rfl rfl (Nat.le_of_ble_eq_true rfl) (fun r_188 s_188 h_188 => ?_)
            obtain ⟨h_188, J⟩ := m_sheet M h_188
            refine g_pop C dL_law_191 rfl ?_
            refine g_goto C 1250 dL_law_192 (by decide) ?_
            refine g_iinc (v := nI (k + 6)) C dL_law_1250 rfl (ginc _ 6) rfl ?_
            refine g_lv [some _, some _, some _, some _] (gs_some (gs_some (gs_some (gs_some gs_nil)))) ?_
            refine g_goto C 18 dL_law_1253 (by decide) ?_
            refine g_lv [some _, some _, some _, some _] (gs_some (gs_some (gs_some (gs_some gs_nil)))) ?_
            exact ih_18 (k + 6) _ _ _ (by omega) J (by omega)
          · rw [h_33]
            refine g_tableIn C 195 dL_law_33 (by decide) (by decide) rfl (by decide) ?_
            refine g_aload_n C dL_law_195 rfl ?_
            refine g_aload_n C dL_law_196 rfl ?_
            refine g_iload_n C dL_law_197 rfl ?_
            refine g_iconst (v := 1) C dL_law_198 (by decide) ?_
            refine g_iadd C dL_law_199 ?_
            refine g_sldN C hX hbl hbA (by omega) (k := (k + 1)) dL_law_200 (by first | rfl | assumption | (simp only [glit, nI_add, pk_mul]; done) | (simp only [glit, nI_add, pk_mul]; congr 1; omega) | (simp only [*, glit, nI_add, pk_mul]; congr 1; omega)) (by omega) ?_
            refine g_aload_n C dL_law_201 rfl ?_
            refine g_iload_n C dL_law_202 rfl ?_
            refine g_iconst (v := 2) C dL_law_203 (by decide) ?_
            refine g_iadd C dL_law_204 ?_
            refine g_sldN C hX hbl hbA (by omega) (k := (k + 2)) dL_law_205 (by first | rfl | assumption | (simp only [glit, nI_add, pk_mul]; done) | (simp only [glit, nI_add, pk_mul]; congr 1; omega) | (simp only [*, glit, nI_add, pk_mul]; congr 1; omega)) (by omega) ?_
            refine g_aload_n C dL_law_206 rfl ?_
            refine g_iload_n C dL_law_207 rfl ?_
            refine g_iconst (v := 3) C dL_law_208 (by decide) ?_
            refine g_iadd C dL_law_209 ?_
            refine g_sldN C hX hbl hbA (by omega) (k := (k + 3)) dL_law_210 (by first | rfl | assumption | (simp only [glit, nI_add, pk_mul]; done) | (simp only [glit, nI_add, pk_mul]; congr 1; omega) | (simp only [*, glit, nI_add, pk_mul]; congr 1; omega)) (by omega) ?_
            refine g_i2l C dL_law_211 ?_
            refine g_bipush (v := 32) C dL_law_212 (by decide) ?_
            refine g_lshl C dL_law_214 ?_
            refine g_aload_n C dL_law_215 rfl ?_
            refine g_iload_n C dL_law_216 rfl ?_
            refine g_iconst (v := 4) C dL_law_217 (by decide) ?_
            refine g_iadd C dL_law_218 ?_
            refine g_sldN C hX hbl hbA (by omega) (k := (k + 4)) dL_law_219 (by first | rfl | assumption | (simp only [glit, nI_add, pk_mul]; done) | (simp only [glit, nI_add, pk_mul]; congr 1; omega) | (simp only [*, glit, nI_add, pk_mul]; congr 1; omega)) (by omega) ?_
            refine g_i2l C dL_law_220 ?_
            refine g_ldc2 C dL_law_221 mW870 ?_
            refine g_land C dL_law_224 ?_
            refine g_lor C dL_law_225 ?_
            refine g_callVi C sV_L_20 dL_law_226 (c_X8_lay _ δ _ _ _ _ (SC_hk I.2.1.1 I.2.1.2.2)) ⟨by decide, by decide⟩ (wO_X δ _) rfl rfl rfl rfl (Nat.le_of_ble_eq_true rfl) (fun r_226 s_226 h_226 => ?_)
            obtain ⟨h_226, M⟩ := x_lay I h_226
            refine g_pop C dL_law_229 rfl ?_
            refine g_aload_n C dL_law_230 rfl ?_
            refine g_aload_n C dL_law_231 rfl ?_
            refine g_iload_n C dL_law_232 rfl ?_
            refine g_iconst (v := 1) C dL_law_233 (by decide) ?_
            refine g_iadd C dL_law_234 ?_
            refine g_sldN C hX hbl hbA (by omega) (k := (k + 1)) dL_law_235 (by first | rfl | assumption | (simp only [glit, nI_add, pk_mul]; done) | (simp only [glit, nI_add, pk_mul]; congr 1; omega) | (simp only [*, glit, nI_add, pk_mul]; congr 1; omega)) (by omega) ?_
            refine g_aload_n C dL_law_236 rfl ?_
            refine g_iload_n C dL_law_237 rfl ?_
            refine g_iconst (v := 2) C dL_law_238 (by decide) ?_
            refine g_iadd C dL_law_239 ?_
            refine g_sldN C hX hbl hbA (by omega) (k := (k + 2)) dL_law_240 (by first | rfl | assumption | (simp only [glit, nI_add, pk_mul]; done) | (simp only [glit, nI_add, pk_mul]; congr 1; omega) | (simp only [*, glit, nI_add, pk_mul]; congr 1; omega)) (by omega) ?_
            refine g_aload_n C dL_law_241 rfl ?_
            refine g_iload_n C dL_law_242 rfl ?_
            refine g_iconst (v := 3) C dL_law_243 (by decide) ?_
            refine g_iadd C dL_law_244 ?_
            refine g_sldN C hX hbl hbA (by omega) (k := (k + 3)) dL_law_245 (by first | rfl | assumption | (simp only [glit, nI_add, pk_mul]; done) | (simp only [glit, nI_add, pk_mul]; congr 1; omega) | (simp only [*, glit, nI_add, pk_mul]; congr 1; omega)) (by omega) ?_
            refine g_i2l C dL_law_246 ?_
            refine g_bipush (v := 32) C dL_law_247 (by decide) ?_
            refine g_lshl C dL_law_249 ?_
            refine g_aload_n C dL_law_250 rfl ?_
            refine g_iload_n C dL_law_251 rfl ?_
            refine g_iconst (v := 4) C dL_law_252 (by decide) ?_
            refine g_iadd C dL_law_253 ?_
            refine g_sldN C hX hbl hbA (by omega) (k := (k + 4)) dL_law_254 (by first | rfl | assumption | (simp only [glit, nI_add, pk_mul]; done) | (simp only [glit, nI_add, pk_mul]; congr 1; omega) | (simp only [*, glit, nI_add, pk_mul]; congr 1; omega)) (by omega) ?_
            refine g_i2l C dL_law_255 ?_
            refine g_ldc2 C dL_law_256 mW870 ?_
            refine g_land C dL_law_259 ?_
            refine g_lor C dL_law_260 ?_
            refine g_callVi C sV_L_24 dL_law_261 (c_X9_lay _ δ _ _ _ _ (SM_hm M.2.1.2.1 M.2.1.2.2)) ⟨by decide, by decide⟩ (wO_M δ _) rfl rfl rfl rfl (Nat.le_of_ble_eq_true rfl) (fun r_261 s_261 h_261 => ?_)
            obtain ⟨h_261, J⟩ := m_lay M h_261
            refine g_pop C dL_law_264 rfl ?_
            refine g_goto C 1250 dL_law_265 (by decide) ?_
            refine g_iinc (v := nI (k + 6)) C dL_law_1250 rfl (ginc _ 6) rfl ?_
            refine g_lv [some _, some _, some _, some _] (gs_some (gs_some (gs_some (gs_some gs_nil)))) ?_
            refine g_goto C 18 dL_law_1253 (by decide) ?_
            refine g_lv [some _, some _, some _, some _] (gs_some (gs_some (gs_some (gs_some gs_nil)))) ?_
            exact ih_18 (k + 6) _ _ _ (by omega) J (by omega)
          · rw [h_33]
            refine g_tableIn C 268 dL_law_33 (by decide) (by decide) rfl (by decide) ?_
            refine g_aload_n C dL_law_268 rfl ?_
            refine g_aload_n C dL_law_269 rfl ?_
            refine g_iload_n C dL_law_270 rfl ?_
            refine g_iconst (v := 1) C dL_law_271 (by decide) ?_
            refine g_iadd C dL_law_272 ?_
            refine g_sldN C hX hbl hbA (by omega) (k := (k + 1)) dL_law_273 (by first | rfl | assumption | (simp only [glit, nI_add, pk_mul]; done) | (simp only [glit, nI_add, pk_mul]; congr 1; omega) | (simp only [*, glit, nI_add, pk_mul]; congr 1; omega)) (by omega) ?_
            refine g_aload_n C dL_law_274 rfl ?_
            refine g_iload_n C dL_law_275 rfl ?_
            refine g_iconst (v := 2) C dL_law_276 (by decide) ?_
            refine g_iadd C dL_law_277 ?_
            refine g_sldN C hX hbl hbA (by omega) (k := (k + 2)) dL_law_278 (by first | rfl | assumption | (simp only [glit, nI_add, pk_mul]; done) | (simp only [glit, nI_add, pk_mul]; congr 1; omega) | (simp only [*, glit, nI_add, pk_mul]; congr 1; omega)) (by omega) ?_
            refine g_aload_n C dL_law_279 rfl ?_
            refine g_iload_n C dL_law_280 rfl ?_
            refine g_iconst (v := 3) C dL_law_281 (by decide) ?_
            refine g_iadd C dL_law_282 ?_
            refine g_sldN C hX hbl hbA (by omega) (k := (k + 3)) dL_law_283 (by first | rfl | assumption | (simp only [glit, nI_add, pk_mul]; done) | (simp only [glit, nI_add, pk_mul]; congr 1; omega) | (simp only [*, glit, nI_add, pk_mul]; congr 1; omega)) (by omega) ?_
            refine g_aload_n C dL_law_284 rfl ?_
            refine g_iload_n C dL_law_285 rfl ?_
            refine g_iconst (v := 4) C dL_law_286 (by decide) ?_
            refine g_iadd C dL_law_287 ?_
            refine g_sldN C hX hbl hbA (by omega) (k := (k + 4)) dL_law_288 (by first | rfl | assumption | (simp only [glit, nI_add, pk_mul]; done) | (simp only [glit, nI_add, pk_mul]; congr 1; omega) | (simp only [*, glit, nI_add, pk_mul]; congr 1; omega)) (by omega) ?_
            refine g_aload_n C dL_law_289 rfl ?_
            refine g_iload_n C dL_law_290 rfl ?_
            refine g_iconst (v := 5) C dL_law_291 (by decide) ?_
            refine g_iadd C dL_law_292 ?_
            refine g_sldN C hX hbl hbA (by omega) (k := (k + 5)) dL_law_293 (by first | rfl | assumption | (simp only [glit, nI_add, pk_mul]; done) | (simp only [glit, nI_add, pk_mul]; congr 1; omega) | (simp only [*, glit, nI_add, pk_mul]; congr 1; omega)) (by omega) ?_
            refine g_callVi C sV_L_25 dL_law_294 (c_X8_copy _ δ _ _ _ _ _ _ (SC_hk I.2.1.1 I.2.1.2.2)) ⟨by decide, by decide⟩ (wO_X δ _) rfl rfl rfl rfl (Nat.le_of_ble_eq_true rfl) (fun r_294 s_294 h_294 => ?_)
            obtain ⟨h_294, M⟩ := x_copy I h_294
            refine g_pop C dL_law_297 rfl ?_
            refine g_aload_n C dL_law_298 rfl ?_
            refine g_aload_n C dL_law_299 rfl ?_
            refine g_iload_n C dL_law_300 rfl ?_
            refine g_iconst (v := 1) C dL_law_301 (by decide) ?_
            refine g_iadd C dL_law_302 ?_
            refine g_sldN C hX hbl hbA (by omega) (k := (k + 1)) dL_law_303 (by first | rfl | assumption | (simp only [glit, nI_add, pk_mul]; done) | (simp only [glit, nI_add, pk_mul]; congr 1; omega) | (simp only [*, glit, nI_add, pk_mul]; congr 1; omega)) (by omega) ?_
            refine g_aload_n C dL_law_304 rfl ?_
            refine g_iload_n C dL_law_305 rfl ?_
            refine g_iconst (v := 2) C dL_law_306 (by decide) ?_
            refine g_iadd C dL_law_307 ?_
            refine g_sldN C hX hbl hbA (by omega) (k := (k + 2)) dL_law_308 (by first | rfl | assumption | (simp only [glit, nI_add, pk_mul]; done) | (simp only [glit, nI_add, pk_mul]; congr 1; omega) | (simp only [*, glit, nI_add, pk_mul]; congr 1; omega)) (by omega) ?_
            refine g_aload_n C dL_law_309 rfl ?_
            refine g_iload_n C dL_law_310 rfl ?_
            refine g_iconst (v := 3) C dL_law_311 (by decide) ?_
            refine g_iadd C dL_law_312 ?_
            refine g_sldN C hX hbl hbA (by omega) (k := (k + 3)) dL_law_313 (by first | rfl | assumption | (simp only [glit, nI_add, pk_mul]; done) | (simp only [glit, nI_add, pk_mul]; congr 1; omega) | (simp only [*, glit, nI_add, pk_mul]; congr 1; omega)) (by omega) ?_
            refine g_aload_n C dL_law_314 rfl ?_
            refine g_iload_n C dL_law_315 rfl ?_
            refine g_iconst (v := 4) C dL_law_316 (by decide) ?_
            refine g_iadd C dL_law_317 ?_
            refine g_sldN C hX hbl hbA (by omega) (k := (k + 4)) dL_law_318 (by first | rfl | assumption | (simp only [glit, nI_add, pk_mul]; done) | (simp only [glit, nI_add, pk_mul]; congr 1; omega) | (simp only [*, glit, nI_add, pk_mul]; congr 1; omega)) (by omega) ?_
            refine g_aload_n C dL_law_319 rfl ?_
            refine g_iload_n C dL_law_320 rfl ?_
            refine g_iconst (v := 5) C dL_law_321 (by decide) ?_
            refine g_iadd C dL_law_322 ?_
            refine g_sldN C hX hbl hbA (by omega) (k := (k + 5)) dL_law_323 (by first | rfl | assumption | (simp only [glit, nI_add, pk_mul]; done) | (simp only [glit, nI_add, pk_mul]; congr 1; omega) | (simp only [*, glit, nI_add, pk_mul]; congr 1; omega)) (by omega) ?_
            refine g_callVi C sV_L_29 dL_law_324 (c_X9_copy _ δ _ _ _ _ _ _ (SM_hm M.2.1.2.1 M.2.1.2.2)) ⟨by decide, by decide⟩ (wO_M δ _) rfl rfl rfl rfl (Nat.le_of_ble_eq_true rfl) (fun r_324 s_324 h_324 => ?_)
            obtain ⟨h_324, J⟩ := m_copy M h_324
            refine g_pop C dL_law_327 rfl ?_
            refine g_goto C 1250 dL_law_328 (by decide) ?_
            refine g_iinc (v := nI (k + 6)) C dL_law_1250 rfl (ginc _ 6) rfl ?_
            refine g_lv [some _, some _, some _, some _] (gs_some (gs_some (gs_some (gs_some gs_nil)))) ?_
            refine g_goto C 18 dL_law_1253 (by decide) ?_
            refine g_lv [some _, some _, some _, some _] (gs_some (gs_some (gs_some (gs_some gs_nil)))) ?_
            exact ih_18 (k + 6) _ _ _ (by omega) J (by omega)
          · rw [h_33]
            refine g_tableIn C 331 dL_law_33 (by decide) (by decide) rfl (by decide) ?_
            refine g_aload_n C dL_law_331 rfl ?_
            refine g_aload_n C dL_law_332 rfl ?_
            refine g_iload_n C dL_law_333 rfl ?_
            refine g_iconst (v := 1) C dL_law_334 (by decide) ?_
            refine g_iadd C dL_law_335 ?_
            refine g_sldN C hX hbl hbA (by omega) (k := (k + 1)) dL_law_336 (by first | rfl | assumption | (simp only [glit, nI_add, pk_mul]; done) | (simp only [glit, nI_add, pk_mul]; congr 1; omega) | (simp only [*, glit, nI_add, pk_mul]; congr 1; omega)) (by omega) ?_
            refine g_aload_n C dL_law_337 rfl ?_
            refine g_iload_n C dL_law_338 rfl ?_
            refine g_iconst (v := 2) C dL_law_339 (by decide) ?_
            refine g_iadd C dL_law_340 ?_
            refine g_sldN C hX hbl hbA (by omega) (k := (k + 2)) dL_law_341 (by first | rfl | assumption | (simp only [glit, nI_add, pk_mul]; done) | (simp only [glit, nI_add, pk_mul]; congr 1; omega) | (simp only [*, glit, nI_add, pk_mul]; congr 1; omega)) (by omega) ?_
            refine g_aload_n C dL_law_342 rfl ?_
            refine g_iload_n C dL_law_343 rfl ?_
            refine g_iconst (v := 3) C dL_law_344 (by decide) ?_
            refine g_iadd C dL_law_345 ?_
            refine g_sldN C hX hbl hbA (by omega) (k := (k + 3)) dL_law_346 (by first | rfl | assumption | (simp only [glit, nI_add, pk_mul]; done) | (simp only [glit, nI_add, pk_mul]; congr 1; omega) | (simp only [*, glit, nI_add, pk_mul]; congr 1; omega)) (by omega) ?_
            refine g_i2l C dL_law_347 ?_
            refine g_bipush (v := 32) C dL_law_348 (by decide) ?_
            refine g_lshl C dL_law_350 ?_
            refine g_aload_n C dL_law_351 rfl ?_
            refine g_iload_n C dL_law_352 rfl ?_
            refine g_iconst (v := 4) C dL_law_353 (by decide) ?_
            refine g_iadd C dL_law_354 ?_
            refine g_sldN C hX hbl hbA (by omega) (k := (k + 4)) dL_law_355 (by first | rfl | assumption | (simp only [glit, nI_add, pk_mul]; done) | (simp only [glit, nI_add, pk_mul]; congr 1; omega) | (simp only [*, glit, nI_add, pk_mul]; congr 1; omega)) (by omega) ?_
            refine g_i2l C dL_law_356 ?_
            refine g_ldc2 C dL_law_357 mW870 ?_
            refine g_land C dL_law_360 ?_
            refine g_lor C dL_law_361 ?_
            refine g_callVi C sV_L_30 dL_law_362 (c_X8_holds _ δ _ _ _ _ (SC_hk I.2.1.1 I.2.1.2.2)) ⟨by decide, by decide⟩ (wO_X δ _) rfl rfl rfl rfl (Nat.le_of_ble_eq_true rfl) (fun r_362 s_362 h_362 => ?_)
            obtain ⟨rfl, h_362⟩ := h_362
            refine g_pop C dL_law_365 rfl ?_
            refine g_aload_n C dL_law_366 rfl ?_
            refine g_aload_n C dL_law_367 rfl ?_
            refine g_iload_n C dL_law_368 rfl ?_
            refine g_iconst (v := 1) C dL_law_369 (by decide) ?_
            refine g_iadd C dL_law_370 ?_
            refine g_sldN C hX hbl hbA (by omega) (k := (k + 1)) dL_law_371 (by first | rfl | assumption | (simp only [glit, nI_add, pk_mul]; done) | (simp only [glit, nI_add, pk_mul]; congr 1; omega) | (simp only [*, glit, nI_add, pk_mul]; congr 1; omega)) (by omega) ?_
            refine g_aload_n C dL_law_372 rfl ?_
            refine g_iload_n C dL_law_373 rfl ?_
            refine g_iconst (v := 2) C dL_law_374 (by decide) ?_
            refine g_iadd C dL_law_375 ?_
            refine g_sldN C hX hbl hbA (by omega) (k := (k + 2)) dL_law_376 (by first | rfl | assumption | (simp only [glit, nI_add, pk_mul]; done) | (simp only [glit, nI_add, pk_mul]; congr 1; omega) | (simp only [*, glit, nI_add, pk_mul]; congr 1; omega)) (by omega) ?_
            refine g_aload_n C dL_law_377 rfl ?_
            refine g_iload_n C dL_law_378 rfl ?_
            refine g_iconst (v := 3) C dL_law_379 (by decide) ?_
            refine g_iadd C dL_law_380 ?_
            refine g_sldN C hX hbl hbA (by omega) (k := (k + 3)) dL_law_381 (by first | rfl | assumption | (simp only [glit, nI_add, pk_mul]; done) | (simp only [glit, nI_add, pk_mul]; congr 1; omega) | (simp only [*, glit, nI_add, pk_mul]; congr 1; omega)) (by omega) ?_
            refine g_i2l C dL_law_382 ?_
            refine g_bipush (v := 32) C dL_law_383 (by decide) ?_
            refine g_lshl C dL_law_385 ?_
            refine g_aload_n C dL_law_386 rfl ?_
            refine g_iload_n C dL_law_387 rfl ?_
            refine g_iconst (v := 4) C dL_law_388 (by decide) ?_
            refine g_iadd C dL_law_389 ?_
            refine g_sldN C hX hbl hbA (by omega) (k := (k + 4)) dL_law_390 (by first | rfl | assumption | (simp only [glit, nI_add, pk_mul]; done) | (simp only [glit, nI_add, pk_mul]; congr 1; omega) | (simp only [*, glit, nI_add, pk_mul]; congr 1; omega)) (by omega) ?_
            refine g_i2l C dL_law_391 ?_
            refine g_ldc2 C dL_law_392 mW870 ?_
            refine g_land C dL_law_395 ?_
            refine g_lor C dL_law_396 ?_
            refine g_callVi C sV_L_33 dL_law_397 (c_X9_holds _ δ _ _ _ _ (SM_hm I.2.1.2.1 I.2.1.2.2)) ⟨by decide, by decide⟩ (wO_M δ _) rfl rfl rfl rfl (Nat.le_of_ble_eq_true rfl) (fun r_397 s_397 h_397 => ?_)
            obtain ⟨rfl, h_397⟩ := h_397
            refine g_pop C dL_law_400 rfl ?_
            refine g_goto C 1250 dL_law_401 (by decide) ?_
            refine g_iinc (v := nI (k + 6)) C dL_law_1250 rfl (ginc _ 6) rfl ?_
            refine g_lv [some _, some _, some _, some _] (gs_some (gs_some (gs_some (gs_some gs_nil)))) ?_
            refine g_goto C 18 dL_law_1253 (by decide) ?_
            refine g_lv [some _, some _, some _, some _] (gs_some (gs_some (gs_some (gs_some gs_nil)))) ?_
            exact ih_18 (k + 6) _ _ _ (by omega) J (by omega)
          · rw [h_33]
            refine g_tableIn C 404 dL_law_33 (by decide) (by decide) rfl (by decide) ?_
            refine g_aload_n C dL_law_404 rfl ?_
            refine g_aload_n C dL_law_405 rfl ?_
            refine g_iload_n C dL_law_406 rfl ?_
            refine g_iconst (v := 1) C dL_law_407 (by decide) ?_
            refine g_iadd C dL_law_408 ?_
            refine g_sldN C hX hbl hbA (by omega) (k := (k + 1)) dL_law_409 (by first | rfl | assumption | (simp only [glit, nI_add, pk_mul]; done) | (simp only [glit, nI_add, pk_mul]; congr 1; omega) | (simp only [*, glit, nI_add, pk_mul]; congr 1; omega)) (by omega) ?_
            refine g_aload_n C dL_law_410 rfl ?_
            refine g_iload_n C dL_law_411 rfl ?_
            refine g_iconst (v := 2) C dL_law_412 (by decide) ?_
            refine g_iadd C dL_law_413 ?_
            refine g_sldN C hX hbl hbA (by omega) (k := (k + 2)) dL_law_414 (by first | rfl | assumption | (simp only [glit, nI_add, pk_mul]; done) | (simp only [glit, nI_add, pk_mul]; congr 1; omega) | (simp only [*, glit, nI_add, pk_mul]; congr 1; omega)) (by omega) ?_
            refine g_aload_n C dL_law_415 rfl ?_
            refine g_iload_n C dL_law_416 rfl ?_
            refine g_iconst (v := 3) C dL_law_417 (by decide) ?_
            refine g_iadd C dL_law_418 ?_
            refine g_sldN C hX hbl hbA (by omega) (k := (k + 3)) dL_law_419 (by first | rfl | assumption | (simp only [glit, nI_add, pk_mul]; done) | (simp only [glit, nI_add, pk_mul]; congr 1; omega) | (simp only [*, glit, nI_add, pk_mul]; congr 1; omega)) (by omega) ?_
            refine g_aload_n C dL_law_420 rfl ?_
            refine g_iload_n C dL_law_421 rfl ?_
            refine g_iconst (v := 4) C dL_law_422 (by decide) ?_
            refine g_iadd C dL_law_423 ?_
            refine g_sldN C hX hbl hbA (by omega) (k := (k + 4)) dL_law_424 (by first | rfl | assumption | (simp only [glit, nI_add, pk_mul]; done) | (simp only [glit, nI_add, pk_mul]; congr 1; omega) | (simp only [*, glit, nI_add, pk_mul]; congr 1; omega)) (by omega) ?_
            refine g_aload_n C dL_law_425 rfl ?_
            refine g_iload_n C dL_law_426 rfl ?_
            refine g_iconst (v := 5) C dL_law_427 (by decide) ?_
            refine g_iadd C dL_law_428 ?_
            refine g_sldN C hX hbl hbA (by omega) (k := (k + 5)) dL_law_429 (by first | rfl | assumption | (simp only [glit, nI_add, pk_mul]; done) | (simp only [glit, nI_add, pk_mul]; congr 1; omega) | (simp only [*, glit, nI_add, pk_mul]; congr 1; omega)) (by omega) ?_
            refine g_callVi C sV_L_34 dL_law_430 (c_X8_read _ δ _ _ _ _ _ _ I.1.1 I.1.2.2 (SC_hk I.2.1.1 I.2.1.2.2)) ⟨by decide, by decide⟩ (wO_X δ _) rfl rfl rfl rfl (Nat.le_of_ble_eq_true rfl) (fun r_430 s_430 h_430 => ?_)
            obtain ⟨h_430, M⟩ := x_read I h_430
            refine g_pop C dL_law_433 rfl ?_
            refine g_aload_n C dL_law_434 rfl ?_
            refine g_aload_n C dL_law_435 rfl ?_
            refine g_iload_n C dL_law_436 rfl ?_
            refine g_iconst (v := 1) C dL_law_437 (by decide) ?_
            refine g_iadd C dL_law_438 ?_
            refine g_sldN C hX hbl hbA (by omega) (k := (k + 1)) dL_law_439 (by first | rfl | assumption | (simp only [glit, nI_add, pk_mul]; done) | (simp only [glit, nI_add, pk_mul]; congr 1; omega) | (simp only [*, glit, nI_add, pk_mul]; congr 1; omega)) (by omega) ?_
            refine g_aload_n C dL_law_440 rfl ?_
            refine g_iload_n C dL_law_441 rfl ?_
            refine g_iconst (v := 2) C dL_law_442 (by decide) ?_
            refine g_iadd C dL_law_443 ?_
            refine g_sldN C hX hbl hbA (by omega) (k := (k + 2)) dL_law_444 (by first | rfl | assumption | (simp only [glit, nI_add, pk_mul]; done) | (simp only [glit, nI_add, pk_mul]; congr 1; omega) | (simp only [*, glit, nI_add, pk_mul]; congr 1; omega)) (by omega) ?_
            refine g_aload_n C dL_law_445 rfl ?_
            refine g_iload_n C dL_law_446 rfl ?_
            refine g_iconst (v := 3) C dL_law_447 (by decide) ?_
            refine g_iadd C dL_law_448 ?_
            refine g_sldN C hX hbl hbA (by omega) (k := (k + 3)) dL_law_449 (by first | rfl | assumption | (simp only [glit, nI_add, pk_mul]; done) | (simp only [glit, nI_add, pk_mul]; congr 1; omega) | (simp only [*, glit, nI_add, pk_mul]; congr 1; omega)) (by omega) ?_
            refine g_aload_n C dL_law_450 rfl ?_
            refine g_iload_n C dL_law_451 rfl ?_
            refine g_iconst (v := 4) C dL_law_452 (by decide) ?_
            refine g_iadd C dL_law_453 ?_
            refine g_sldN C hX hbl hbA (by omega) (k := (k + 4)) dL_law_454 (by first | rfl | assumption | (simp only [glit, nI_add, pk_mul]; done) | (simp only [glit, nI_add, pk_mul]; congr 1; omega) | (simp only [*, glit, nI_add, pk_mul]; congr 1; omega)) (by omega) ?_
            refine g_aload_n C dL_law_455 rfl ?_
            refine g_iload_n C dL_law_456 rfl ?_
            refine g_iconst (v := 5) C dL_law_457 (by decide) ?_
            refine g_iadd C dL_law_458 ?_
            refine g_sldN C hX hbl hbA (by omega) (k := (k + 5)) dL_law_459 (by first | rfl | assumption | (simp only [glit, nI_add, pk_mul]; done) | (simp only [glit, nI_add, pk_mul]; congr 1; omega) | (simp only [*, glit, nI_add, pk_mul]; congr 1; omega)) (by omega) ?_
            refine g_callVi C sV_L_37 dL_law_460 (c_X9_read _ δ _ _ _ _ _ _ M.1.2.1 M.1.2.2 (SM_hk M.2.1.2.1 M.2.1.2.2)) ⟨by decide, by decide⟩ (wO_M δ _) rfl rfl rfl rfl (Nat.le_of_ble_eq_true rfl) (fun r_460 s_460 h_460 => ?_)
            obtain ⟨h_460, J⟩ := m_read M h_460
            refine g_pop C dL_law_463 rfl ?_
            refine g_goto C 1250 dL_law_464 (by decide) ?_
            refine g_iinc (v := nI (k + 6)) C dL_law_1250 rfl (ginc _ 6) rfl ?_
            refine g_lv [some _, some _, some _, some _] (gs_some (gs_some (gs_some (gs_some gs_nil)))) ?_
            refine g_goto C 18 dL_law_1253 (by decide) ?_
            refine g_lv [some _, some _, some _, some _] (gs_some (gs_some (gs_some (gs_some gs_nil)))) ?_
            exact ih_18 (k + 6) _ _ _ (by omega) J (by omega)
          · rw [h_33]
            refine g_tableIn C 467 dL_law_33 (by decide) (by decide) rfl (by decide) ?_
            refine g_aload_n C dL_law_467 rfl ?_
            refine g_aload_n C dL_law_468 rfl ?_
            refine g_iload_n C dL_law_469 rfl ?_
            refine g_iconst (v := 1) C dL_law_470 (by decide) ?_
            refine g_iadd C dL_law_471 ?_
            refine g_sldN C hX hbl hbA (by omega) (k := (k + 1)) dL_law_472 (by first | rfl | assumption | (simp only [glit, nI_add, pk_mul]; done) | (simp only [glit, nI_add, pk_mul]; congr 1; omega) | (simp only [*, glit, nI_add, pk_mul]; congr 1; omega)) (by omega) ?_
            refine g_callVi C sV_L_38 dL_law_473 (c_X8_urn2 _ δ _ _ I.1.1.1 I.1.2.2.1) ⟨by decide, by decide⟩ (wO_X δ _) rfl rfl rfl rfl (Nat.le_of_ble_eq_true rfl) (fun r_473 s_473 h_473 => ?_)
            obtain ⟨h_473, M⟩ := x_urn I h_473
            refine g_pop C dL_law_476 rfl ?_
            refine g_aload_n C dL_law_477 rfl ?_
            refine g_aload_n C dL_law_478 rfl ?_
            refine g_iload_n C dL_law_479 rfl ?_
            refine g_iconst (v := 1) C dL_law_480 (by decide) ?_
            refine g_iadd C dL_law_481 ?_
            refine g_sldN C hX hbl hbA (by omega) (k := (k + 1)) dL_law_482 (by first | rfl | assumption | (simp only [glit, nI_add, pk_mul]; done) | (simp only [glit, nI_add, pk_mul]; congr 1; omega) | (simp only [*, glit, nI_add, pk_mul]; congr 1; omega)) (by omega) ?_
            refine g_callVi C sV_L_42 dL_law_483 (c_X9_urn2 _ δ _ _ M.1.2.1.1 M.1.2.2.1) ⟨by decide, by decide⟩ (wO_M δ _) rfl rfl rfl rfl (Nat.le_of_ble_eq_true rfl) (fun r_483 s_483 h_483 => ?_)
            obtain ⟨h_483, J⟩ := m_urn M h_483
            refine g_pop C dL_law_486 rfl ?_
            refine g_goto C 1250 dL_law_487 (by decide) ?_
            refine g_iinc (v := nI (k + 6)) C dL_law_1250 rfl (ginc _ 6) rfl ?_
            refine g_lv [some _, some _, some _, some _] (gs_some (gs_some (gs_some (gs_some gs_nil)))) ?_
            refine g_goto C 18 dL_law_1253 (by decide) ?_
            refine g_lv [some _, some _, some _, some _] (gs_some (gs_some (gs_some (gs_some gs_nil)))) ?_
            exact ih_18 (k + 6) _ _ _ (by omega) J (by omega)
          · rw [h_33]
            refine g_tableIn C 490 dL_law_33 (by decide) (by decide) rfl (by decide) ?_
            refine g_aload_n C dL_law_490 rfl ?_
            refine g_aload_n C dL_law_491 rfl ?_
            refine g_iload_n C dL_law_492 rfl ?_
            refine g_iconst (v := 1) C dL_law_493 (by decide) ?_
            refine g_iadd C dL_law_494 ?_
            refine g_sldN C hX hbl hbA (by omega) (k := (k + 1)) dL_law_495 (by first | rfl | assumption | (simp only [glit, nI_add, pk_mul]; done) | (simp only [glit, nI_add, pk_mul]; congr 1; omega) | (simp only [*, glit, nI_add, pk_mul]; congr 1; omega)) (by omega) ?_
            refine g_aload_n C dL_law_496 rfl ?_
            refine g_iload_n C dL_law_497 rfl ?_
            refine g_iconst (v := 2) C dL_law_498 (by decide) ?_
            refine g_iadd C dL_law_499 ?_
            refine g_sldN C hX hbl hbA (by omega) (k := (k + 2)) dL_law_500 (by first | rfl | assumption | (simp only [glit, nI_add, pk_mul]; done) | (simp only [glit, nI_add, pk_mul]; congr 1; omega) | (simp only [*, glit, nI_add, pk_mul]; congr 1; omega)) (by omega) ?_
            refine g_aload_n C dL_law_501 rfl ?_
            refine g_iload_n C dL_law_502 rfl ?_
            refine g_iconst (v := 3) C dL_law_503 (by decide) ?_
            refine g_iadd C dL_law_504 ?_
            refine g_sldN C hX hbl hbA (by omega) (k := (k + 3)) dL_law_505 (by first | rfl | assumption | (simp only [glit, nI_add, pk_mul]; done) | (simp only [glit, nI_add, pk_mul]; congr 1; omega) | (simp only [*, glit, nI_add, pk_mul]; congr 1; omega)) (by omega) ?_
            refine g_callVi C sV_L_43 dL_law_506 (c_X8_put _ δ _ _ _ _ I.1.1 I.1.2.2) ⟨by decide, by decide⟩ (wO_X δ _) rfl rfl rfl rfl (Nat.le_of_ble_eq_true rfl) (fun r_506 s_506 h_506 => ?_)
            obtain ⟨h_506, M⟩ := x_act I h_506
            refine g_pop C dL_law_509 rfl ?_
            refine g_aload_n C dL_law_510 rfl ?_
            refine g_aload_n C dL_law_511 rfl ?_
            refine g_iload_n C dL_law_512 rfl ?_
            refine g_iconst (v := 1) C dL_law_513 (by decide) ?_
            refine g_iadd C dL_law_514 ?_
            refine g_sldN C hX hbl hbA (by omega) (k := (k + 1)) dL_law_515 (by first | rfl | assumption | (simp only [glit, nI_add, pk_mul]; done) | (simp only [glit, nI_add, pk_mul]; congr 1; omega) | (simp only [*, glit, nI_add, pk_mul]; congr 1; omega)) (by omega) ?_
            refine g_aload_n C dL_law_516 rfl ?_
            refine g_iload_n C dL_law_517 rfl ?_
            refine g_iconst (v := 2) C dL_law_518 (by decide) ?_
            refine g_iadd C dL_law_519 ?_
            refine g_sldN C hX hbl hbA (by omega) (k := (k + 2)) dL_law_520 (by first | rfl | assumption | (simp only [glit, nI_add, pk_mul]; done) | (simp only [glit, nI_add, pk_mul]; congr 1; omega) | (simp only [*, glit, nI_add, pk_mul]; congr 1; omega)) (by omega) ?_
            refine g_aload_n C dL_law_521 rfl ?_
            refine g_iload_n C dL_law_522 rfl ?_
            refine g_iconst (v := 3) C dL_law_523 (by decide) ?_
            refine g_iadd C dL_law_524 ?_
            refine g_sldN C hX hbl hbA (by omega) (k := (k + 3)) dL_law_525 (by first | rfl | assumption | (simp only [glit, nI_add, pk_mul]; done) | (simp only [glit, nI_add, pk_mul]; congr 1; omega) | (simp only [*, glit, nI_add, pk_mul]; congr 1; omega)) (by omega) ?_
            refine g_callVi C sV_L_46 dL_law_526 (c_X9_put _ δ _ _ _ _ M.1.2.1 M.1.2.2) ⟨by decide, by decide⟩ (wO_M δ _) rfl rfl rfl rfl (Nat.le_of_ble_eq_true rfl) (fun r_526 s_526 h_526 => ?_)
            obtain ⟨h_526, J⟩ := m_act M (RV_put I.1.2.2 _ _ _) h_526
            refine g_pop C dL_law_529 rfl ?_
            refine g_goto C 1250 dL_law_530 (by decide) ?_
            refine g_iinc (v := nI (k + 6)) C dL_law_1250 rfl (ginc _ 6) rfl ?_
            refine g_lv [some _, some _, some _, some _] (gs_some (gs_some (gs_some (gs_some gs_nil)))) ?_
            refine g_goto C 18 dL_law_1253 (by decide) ?_
            refine g_lv [some _, some _, some _, some _] (gs_some (gs_some (gs_some (gs_some gs_nil)))) ?_
            exact ih_18 (k + 6) _ _ _ (by omega) J (by omega)
          · rw [h_33]
            refine g_tableIn C 533 dL_law_33 (by decide) (by decide) rfl (by decide) ?_
            refine g_aload_n C dL_law_533 rfl ?_
            refine g_aload_n C dL_law_534 rfl ?_
            refine g_iload_n C dL_law_535 rfl ?_
            refine g_iconst (v := 1) C dL_law_536 (by decide) ?_
            refine g_iadd C dL_law_537 ?_
            refine g_sldN C hX hbl hbA (by omega) (k := (k + 1)) dL_law_538 (by first | rfl | assumption | (simp only [glit, nI_add, pk_mul]; done) | (simp only [glit, nI_add, pk_mul]; congr 1; omega) | (simp only [*, glit, nI_add, pk_mul]; congr 1; omega)) (by omega) ?_
            refine g_aload_n C dL_law_539 rfl ?_
            refine g_iload_n C dL_law_540 rfl ?_
            refine g_iconst (v := 2) C dL_law_541 (by decide) ?_
            refine g_iadd C dL_law_542 ?_
            refine g_sldN C hX hbl hbA (by omega) (k := (k + 2)) dL_law_543 (by first | rfl | assumption | (simp only [glit, nI_add, pk_mul]; done) | (simp only [glit, nI_add, pk_mul]; congr 1; omega) | (simp only [*, glit, nI_add, pk_mul]; congr 1; omega)) (by omega) ?_
            refine g_aload_n C dL_law_544 rfl ?_
            refine g_iload_n C dL_law_545 rfl ?_
            refine g_iconst (v := 3) C dL_law_546 (by decide) ?_
            refine g_iadd C dL_law_547 ?_
            refine g_sldN C hX hbl hbA (by omega) (k := (k + 3)) dL_law_548 (by first | rfl | assumption | (simp only [glit, nI_add, pk_mul]; done) | (simp only [glit, nI_add, pk_mul]; congr 1; omega) | (simp only [*, glit, nI_add, pk_mul]; congr 1; omega)) (by omega) ?_
            refine g_aload_n C dL_law_549 rfl ?_
            refine g_iload_n C dL_law_550 rfl ?_
            refine g_iconst (v := 4) C dL_law_551 (by decide) ?_
            refine g_iadd C dL_law_552 ?_
            refine g_sldN C hX hbl hbA (by omega) (k := (k + 4)) dL_law_553 (by first | rfl | assumption | (simp only [glit, nI_add, pk_mul]; done) | (simp only [glit, nI_add, pk_mul]; congr 1; omega) | (simp only [*, glit, nI_add, pk_mul]; congr 1; omega)) (by omega) ?_
            refine g_callVi C sV_L_47 dL_law_554 (c_X8_add _ δ _ _ _ _ _ I.1.1 I.1.2.2) ⟨by decide, by decide⟩ (wO_X δ _) rfl rfl rfl rfl (Nat.le_of_ble_eq_true rfl) (fun r_554 s_554 h_554 => ?_)
            obtain ⟨h_554, M⟩ := x_act I h_554
            refine g_pop C dL_law_557 rfl ?_
            refine g_aload_n C dL_law_558 rfl ?_
            refine g_aload_n C dL_law_559 rfl ?_
            refine g_iload_n C dL_law_560 rfl ?_
            refine g_iconst (v := 1) C dL_law_561 (by decide) ?_
            refine g_iadd C dL_law_562 ?_
            refine g_sldN C hX hbl hbA (by omega) (k := (k + 1)) dL_law_563 (by first | rfl | assumption | (simp only [glit, nI_add, pk_mul]; done) | (simp only [glit, nI_add, pk_mul]; congr 1; omega) | (simp only [*, glit, nI_add, pk_mul]; congr 1; omega)) (by omega) ?_
            refine g_aload_n C dL_law_564 rfl ?_
            refine g_iload_n C dL_law_565 rfl ?_
            refine g_iconst (v := 2) C dL_law_566 (by decide) ?_
            refine g_iadd C dL_law_567 ?_
            refine g_sldN C hX hbl hbA (by omega) (k := (k + 2)) dL_law_568 (by first | rfl | assumption | (simp only [glit, nI_add, pk_mul]; done) | (simp only [glit, nI_add, pk_mul]; congr 1; omega) | (simp only [*, glit, nI_add, pk_mul]; congr 1; omega)) (by omega) ?_
            refine g_aload_n C dL_law_569 rfl ?_
            refine g_iload_n C dL_law_570 rfl ?_
            refine g_iconst (v := 3) C dL_law_571 (by decide) ?_
            refine g_iadd C dL_law_572 ?_
            refine g_sldN C hX hbl hbA (by omega) (k := (k + 3)) dL_law_573 (by first | rfl | assumption | (simp only [glit, nI_add, pk_mul]; done) | (simp only [glit, nI_add, pk_mul]; congr 1; omega) | (simp only [*, glit, nI_add, pk_mul]; congr 1; omega)) (by omega) ?_
            refine g_aload_n C dL_law_574 rfl ?_
            refine g_iload_n C dL_law_575 rfl ?_
            refine g_iconst (v := 4) C dL_law_576 (by decide) ?_
            refine g_iadd C dL_law_577 ?_
            refine g_sldN C hX hbl hbA (by omega) (k := (k + 4)) dL_law_578 (by first | rfl | assumption | (simp only [glit, nI_add, pk_mul]; done) | (simp only [glit, nI_add, pk_mul]; congr 1; omega) | (simp only [*, glit, nI_add, pk_mul]; congr 1; omega)) (by omega) ?_
            refine g_callVi C sV_L_51 dL_law_579 (c_X9_add _ δ _ _ _ _ _ M.1.2.1 M.1.2.2) ⟨by decide, by decide⟩ (wO_M δ _) rfl rfl rfl rfl (Nat.le_of_ble_eq_true rfl) (fun r_579 s_579 h_579 => ?_)
            obtain ⟨h_579, J⟩ := m_act M (RV_add I.1.2.2 _ _ _ _) h_579
            refine g_pop C dL_law_582 rfl ?_
            refine g_goto C 1250 dL_law_583 (by decide) ?_
            refine g_iinc (v := nI (k + 6)) C dL_law_1250 rfl (ginc _ 6) rfl ?_
            refine g_lv [some _, some _, some _, some _] (gs_some (gs_some (gs_some (gs_some gs_nil)))) ?_
            refine g_goto C 18 dL_law_1253 (by decide) ?_
            refine g_lv [some _, some _, some _, some _] (gs_some (gs_some (gs_some (gs_some gs_nil)))) ?_
            exact ih_18 (k + 6) _ _ _ (by omega) J (by omega)
          · rw [h_33]
            refine g_tableIn C 586 dL_law_33 (by decide) (by decide) rfl (by decide) ?_
            refine g_aload_n C dL_law_586 rfl ?_
            refine g_aload_n C dL_law_587 rfl ?_
            refine g_iload_n C dL_law_588 rfl ?_
            refine g_iconst (v := 1) C dL_law_589 (by decide) ?_
            refine g_iadd C dL_law_590 ?_
            refine g_sldN C hX hbl hbA (by omega) (k := (k + 1)) dL_law_591 (by first | rfl | assumption | (simp only [glit, nI_add, pk_mul]; done) | (simp only [glit, nI_add, pk_mul]; congr 1; omega) | (simp only [*, glit, nI_add, pk_mul]; congr 1; omega)) (by omega) ?_
            refine g_aload_n C dL_law_592 rfl ?_
            refine g_iload_n C dL_law_593 rfl ?_
            refine g_iconst (v := 2) C dL_law_594 (by decide) ?_
            refine g_iadd C dL_law_595 ?_
            refine g_sldN C hX hbl hbA (by omega) (k := (k + 2)) dL_law_596 (by first | rfl | assumption | (simp only [glit, nI_add, pk_mul]; done) | (simp only [glit, nI_add, pk_mul]; congr 1; omega) | (simp only [*, glit, nI_add, pk_mul]; congr 1; omega)) (by omega) ?_
            refine g_aload_n C dL_law_597 rfl ?_
            refine g_iload_n C dL_law_598 rfl ?_
            refine g_iconst (v := 3) C dL_law_599 (by decide) ?_
            refine g_iadd C dL_law_600 ?_
            refine g_sldN C hX hbl hbA (by omega) (k := (k + 3)) dL_law_601 (by first | rfl | assumption | (simp only [glit, nI_add, pk_mul]; done) | (simp only [glit, nI_add, pk_mul]; congr 1; omega) | (simp only [*, glit, nI_add, pk_mul]; congr 1; omega)) (by omega) ?_
            refine g_callVi C sV_L_52 dL_law_602 (c_X8_is _ δ _ _ _ _ I.1.1 I.1.2.2) ⟨by decide, by decide⟩ (wO_X δ _) rfl rfl rfl rfl (Nat.le_of_ble_eq_true rfl) (fun r_602 s_602 h_602 => ?_)
            obtain ⟨h_602, M⟩ := x_act I h_602
            refine g_pop C dL_law_605 rfl ?_
            refine g_aload_n C dL_law_606 rfl ?_
            refine g_aload_n C dL_law_607 rfl ?_
            refine g_iload_n C dL_law_608 rfl ?_
            refine g_iconst (v := 1) C dL_law_609 (by decide) ?_
            refine g_iadd C dL_law_610 ?_
            refine g_sldN C hX hbl hbA (by omega) (k := (k + 1)) dL_law_611 (by first | rfl | assumption | (simp only [glit, nI_add, pk_mul]; done) | (simp only [glit, nI_add, pk_mul]; congr 1; omega) | (simp only [*, glit, nI_add, pk_mul]; congr 1; omega)) (by omega) ?_
            refine g_aload_n C dL_law_612 rfl ?_
            refine g_iload_n C dL_law_613 rfl ?_
            refine g_iconst (v := 2) C dL_law_614 (by decide) ?_
            refine g_iadd C dL_law_615 ?_
            refine g_sldN C hX hbl hbA (by omega) (k := (k + 2)) dL_law_616 (by first | rfl | assumption | (simp only [glit, nI_add, pk_mul]; done) | (simp only [glit, nI_add, pk_mul]; congr 1; omega) | (simp only [*, glit, nI_add, pk_mul]; congr 1; omega)) (by omega) ?_
            refine g_aload_n C dL_law_617 rfl ?_
            refine g_iload_n C dL_law_618 rfl ?_
            refine g_iconst (v := 3) C dL_law_619 (by decide) ?_
            refine g_iadd C dL_law_620 ?_
            refine g_sldN C hX hbl hbA (by omega) (k := (k + 3)) dL_law_621 (by first | rfl | assumption | (simp only [glit, nI_add, pk_mul]; done) | (simp only [glit, nI_add, pk_mul]; congr 1; omega) | (simp only [*, glit, nI_add, pk_mul]; congr 1; omega)) (by omega) ?_
            refine g_callVi C sV_L_55 dL_law_622 (c_X9_is _ δ _ _ _ _ M.1.2.1 M.1.2.2) ⟨by decide, by decide⟩ (wO_M δ _) rfl rfl rfl rfl (Nat.le_of_ble_eq_true rfl) (fun r_622 s_622 h_622 => ?_)
            obtain ⟨h_622, J⟩ := m_act M (RV_is I.1.2.2 _ _ _) h_622
            refine g_pop C dL_law_625 rfl ?_
            refine g_goto C 1250 dL_law_626 (by decide) ?_
            refine g_iinc (v := nI (k + 6)) C dL_law_1250 rfl (ginc _ 6) rfl ?_
            refine g_lv [some _, some _, some _, some _] (gs_some (gs_some (gs_some (gs_some gs_nil)))) ?_
            refine g_goto C 18 dL_law_1253 (by decide) ?_
            refine g_lv [some _, some _, some _, some _] (gs_some (gs_some (gs_some (gs_some gs_nil)))) ?_
            exact ih_18 (k + 6) _ _ _ (by omega) J (by omega)
          · rw [h_33]
            refine g_tableIn C 629 dL_law_33 (by decide) (by decide) rfl (by decide) ?_
            refine g_aload_n C dL_law_629 rfl ?_
            refine g_aload_n C dL_law_630 rfl ?_
            refine g_iload_n C dL_law_631 rfl ?_
            refine g_iconst (v := 1) C dL_law_632 (by decide) ?_
            refine g_iadd C dL_law_633 ?_
            refine g_sldN C hX hbl hbA (by omega) (k := (k + 1)) dL_law_634 (by first | rfl | assumption | (simp only [glit, nI_add, pk_mul]; done) | (simp only [glit, nI_add, pk_mul]; congr 1; omega) | (simp only [*, glit, nI_add, pk_mul]; congr 1; omega)) (by omega) ?_
            refine g_aload_n C dL_law_635 rfl ?_
            refine g_iload_n C dL_law_636 rfl ?_
            refine g_iconst (v := 2) C dL_law_637 (by decide) ?_
            refine g_iadd C dL_law_638 ?_
            refine g_sldN C hX hbl hbA (by omega) (k := (k + 2)) dL_law_639 (by first | rfl | assumption | (simp only [glit, nI_add, pk_mul]; done) | (simp only [glit, nI_add, pk_mul]; congr 1; omega) | (simp only [*, glit, nI_add, pk_mul]; congr 1; omega)) (by omega) ?_
            refine g_callVi C sV_L_56 dL_law_640 (c_X8_about _ δ _ _ _ I.1.1 I.1.2.2) ⟨by decide, by decide⟩ (wO_X δ _) rfl rfl rfl rfl (Nat.le_of_ble_eq_true rfl) (fun r_640 s_640 h_640 => ?_)
            obtain ⟨h_640, M⟩ := x_act I h_640
            refine g_pop C dL_law_643 rfl ?_
            refine g_aload_n C dL_law_644 rfl ?_
            refine g_aload_n C dL_law_645 rfl ?_
            refine g_iload_n C dL_law_646 rfl ?_
            refine g_iconst (v := 1) C dL_law_647 (by decide) ?_
            refine g_iadd C dL_law_648 ?_
            refine g_sldN C hX hbl hbA (by omega) (k := (k + 1)) dL_law_649 (by first | rfl | assumption | (simp only [glit, nI_add, pk_mul]; done) | (simp only [glit, nI_add, pk_mul]; congr 1; omega) | (simp only [*, glit, nI_add, pk_mul]; congr 1; omega)) (by omega) ?_
            refine g_aload_n C dL_law_650 rfl ?_
            refine g_iload_n C dL_law_651 rfl ?_
            refine g_iconst (v := 2) C dL_law_652 (by decide) ?_
            refine g_iadd C dL_law_653 ?_
            refine g_sldN C hX hbl hbA (by omega) (k := (k + 2)) dL_law_654 (by first | rfl | assumption | (simp only [glit, nI_add, pk_mul]; done) | (simp only [glit, nI_add, pk_mul]; congr 1; omega) | (simp only [*, glit, nI_add, pk_mul]; congr 1; omega)) (by omega) ?_
            refine g_callVi C sV_L_60 dL_law_655 (c_X9_about _ δ _ _ _ M.1.2.1 M.1.2.2) ⟨by decide, by decide⟩ (wO_M δ _) rfl rfl rfl rfl (Nat.le_of_ble_eq_true rfl) (fun r_655 s_655 h_655 => ?_)
            obtain ⟨h_655, J⟩ := m_act M (RV_about I.1.2.2 _ _) h_655
            refine g_pop C dL_law_658 rfl ?_
            refine g_goto C 1250 dL_law_659 (by decide) ?_
            refine g_iinc (v := nI (k + 6)) C dL_law_1250 rfl (ginc _ 6) rfl ?_
            refine g_lv [some _, some _, some _, some _] (gs_some (gs_some (gs_some (gs_some gs_nil)))) ?_
            refine g_goto C 18 dL_law_1253 (by decide) ?_
            refine g_lv [some _, some _, some _, some _] (gs_some (gs_some (gs_some (gs_some gs_nil)))) ?_
            exact ih_18 (k + 6) _ _ _ (by omega) J (by omega)
          · rw [h_33]
            refine g_tableIn C 662 dL_law_33 (by decide) (by decide) rfl (by decide) ?_
            refine g_aload_n C dL_law_662 rfl ?_
            refine g_aload_n C dL_law_663 rfl ?_
            refine g_iload_n C dL_law_664 rfl ?_
            refine g_iconst (v := 1) C dL_law_665 (by decide) ?_
            refine g_iadd C dL_law_666 ?_
            refine g_sldN C hX hbl hbA (by omega) (k := (k + 1)) dL_law_667 (by first | rfl | assumption | (simp only [glit, nI_add, pk_mul]; done) | (simp only [glit, nI_add, pk_mul]; congr 1; omega) | (simp only [*, glit, nI_add, pk_mul]; congr 1; omega)) (by omega) ?_
            refine g_aload_n C dL_law_668 rfl ?_
            refine g_iload_n C dL_law_669 rfl ?_
            refine g_iconst (v := 2) C dL_law_670 (by decide) ?_
            refine g_iadd C dL_law_671 ?_
            refine g_sldN C hX hbl hbA (by omega) (k := (k + 2)) dL_law_672 (by first | rfl | assumption | (simp only [glit, nI_add, pk_mul]; done) | (simp only [glit, nI_add, pk_mul]; congr 1; omega) | (simp only [*, glit, nI_add, pk_mul]; congr 1; omega)) (by omega) ?_
            refine g_aload_n C dL_law_673 rfl ?_
            refine g_iload_n C dL_law_674 rfl ?_
            refine g_iconst (v := 3) C dL_law_675 (by decide) ?_
            refine g_iadd C dL_law_676 ?_
            refine g_sldN C hX hbl hbA (by omega) (k := (k + 3)) dL_law_677 (by first | rfl | assumption | (simp only [glit, nI_add, pk_mul]; done) | (simp only [glit, nI_add, pk_mul]; congr 1; omega) | (simp only [*, glit, nI_add, pk_mul]; congr 1; omega)) (by omega) ?_
            refine g_callVi C sV_L_61 dL_law_678 (c_X8_added _ δ _ _ _ _ I.1.1 I.1.2.2) ⟨by decide, by decide⟩ (wO_X δ _) rfl rfl rfl rfl (Nat.le_of_ble_eq_true rfl) (fun r_678 s_678 h_678 => ?_)
            obtain ⟨h_678, M⟩ := x_act I h_678
            refine g_pop C dL_law_681 rfl ?_
            refine g_aload_n C dL_law_682 rfl ?_
            refine g_aload_n C dL_law_683 rfl ?_
            refine g_iload_n C dL_law_684 rfl ?_
            refine g_iconst (v := 1) C dL_law_685 (by decide) ?_
            refine g_iadd C dL_law_686 ?_
            refine g_sldN C hX hbl hbA (by omega) (k := (k + 1)) dL_law_687 (by first | rfl | assumption | (simp only [glit, nI_add, pk_mul]; done) | (simp only [glit, nI_add, pk_mul]; congr 1; omega) | (simp only [*, glit, nI_add, pk_mul]; congr 1; omega)) (by omega) ?_
            refine g_aload_n C dL_law_688 rfl ?_
            refine g_iload_n C dL_law_689 rfl ?_
            refine g_iconst (v := 2) C dL_law_690 (by decide) ?_
            refine g_iadd C dL_law_691 ?_
            refine g_sldN C hX hbl hbA (by omega) (k := (k + 2)) dL_law_692 (by first | rfl | assumption | (simp only [glit, nI_add, pk_mul]; done) | (simp only [glit, nI_add, pk_mul]; congr 1; omega) | (simp only [*, glit, nI_add, pk_mul]; congr 1; omega)) (by omega) ?_
            refine g_aload_n C dL_law_693 rfl ?_
            refine g_iload_n C dL_law_694 rfl ?_
            refine g_iconst (v := 3) C dL_law_695 (by decide) ?_
            refine g_iadd C dL_law_696 ?_
            refine g_sldN C hX hbl hbA (by omega) (k := (k + 3)) dL_law_697 (by first | rfl | assumption | (simp only [glit, nI_add, pk_mul]; done) | (simp only [glit, nI_add, pk_mul]; congr 1; omega) | (simp only [*, glit, nI_add, pk_mul]; congr 1; omega)) (by omega) ?_
            refine g_callVi C sV_L_64 dL_law_698 (c_X9_added _ δ _ _ _ _ M.1.2.1 M.1.2.2) ⟨by decide, by decide⟩ (wO_M δ _) rfl rfl rfl rfl (Nat.le_of_ble_eq_true rfl) (fun r_698 s_698 h_698 => ?_)
            obtain ⟨h_698, J⟩ := m_act M (RV_added I.1.2.2 _ _ _) h_698
            refine g_pop C dL_law_701 rfl ?_
            refine g_goto C 1250 dL_law_702 (by decide) ?_
            refine g_iinc (v := nI (k + 6)) C dL_law_1250 rfl (ginc _ 6) rfl ?_
            refine g_lv [some _, some _, some _, some _] (gs_some (gs_some (gs_some (gs_some gs_nil)))) ?_
            refine g_goto C 18 dL_law_1253 (by decide) ?_
            refine g_lv [some _, some _, some _, some _] (gs_some (gs_some (gs_some (gs_some gs_nil)))) ?_
            exact ih_18 (k + 6) _ _ _ (by omega) J (by omega)
          · rw [h_33]
            refine g_tableIn C 705 dL_law_33 (by decide) (by decide) rfl (by decide) ?_
            refine g_aload_n C dL_law_705 rfl ?_
            refine g_aload_n C dL_law_706 rfl ?_
            refine g_iload_n C dL_law_707 rfl ?_
            refine g_iconst (v := 1) C dL_law_708 (by decide) ?_
            refine g_iadd C dL_law_709 ?_
            refine g_sldN C hX hbl hbA (by omega) (k := (k + 1)) dL_law_710 (by first | rfl | assumption | (simp only [glit, nI_add, pk_mul]; done) | (simp only [glit, nI_add, pk_mul]; congr 1; omega) | (simp only [*, glit, nI_add, pk_mul]; congr 1; omega)) (by omega) ?_
            refine g_aload_n C dL_law_711 rfl ?_
            refine g_iload_n C dL_law_712 rfl ?_
            refine g_iconst (v := 2) C dL_law_713 (by decide) ?_
            refine g_iadd C dL_law_714 ?_
            refine g_sldN C hX hbl hbA (by omega) (k := (k + 2)) dL_law_715 (by first | rfl | assumption | (simp only [glit, nI_add, pk_mul]; done) | (simp only [glit, nI_add, pk_mul]; congr 1; omega) | (simp only [*, glit, nI_add, pk_mul]; congr 1; omega)) (by omega) ?_
            refine g_callVi C sV_L_65 dL_law_716 (c_X8_draw _ δ _ _ _ I.1.1 I.1.2.2) ⟨by decide, by decide⟩ (wO_X δ _) rfl rfl rfl rfl (Nat.le_of_ble_eq_true rfl) (fun r_716 s_716 h_716 => ?_)
            obtain ⟨h_716, M⟩ := x_act I h_716
            refine g_pop C dL_law_719 rfl ?_
            refine g_aload_n C dL_law_720 rfl ?_
            refine g_aload_n C dL_law_721 rfl ?_
            refine g_iload_n C dL_law_722 rfl ?_
            refine g_iconst (v := 1) C dL_law_723 (by decide) ?_
            refine g_iadd C dL_law_724 ?_
            refine g_sldN C hX hbl hbA (by omega) (k := (k + 1)) dL_law_725 (by first | rfl | assumption | (simp only [glit, nI_add, pk_mul]; done) | (simp only [glit, nI_add, pk_mul]; congr 1; omega) | (simp only [*, glit, nI_add, pk_mul]; congr 1; omega)) (by omega) ?_
            refine g_aload_n C dL_law_726 rfl ?_
            refine g_iload_n C dL_law_727 rfl ?_
            refine g_iconst (v := 2) C dL_law_728 (by decide) ?_
            refine g_iadd C dL_law_729 ?_
            refine g_sldN C hX hbl hbA (by omega) (k := (k + 2)) dL_law_730 (by first | rfl | assumption | (simp only [glit, nI_add, pk_mul]; done) | (simp only [glit, nI_add, pk_mul]; congr 1; omega) | (simp only [*, glit, nI_add, pk_mul]; congr 1; omega)) (by omega) ?_
            refine g_callVi C sV_L_68 dL_law_731 (c_X9_draw _ δ _ _ _ M.1.2.1 M.1.2.2) ⟨by decide, by decide⟩ (wO_M δ _) rfl rfl rfl rfl (Nat.le_of_ble_eq_true rfl) (fun r_731 s_731 h_731 => ?_)
            obtain ⟨h_731, J⟩ := m_act M (RV_draw I.1.2.2 _ _) h_731
            refine g_pop C dL_law_734 rfl ?_
            refine g_goto C 1250 dL_law_735 (by decide) ?_
            refine g_iinc (v := nI (k + 6)) C dL_law_1250 rfl (ginc _ 6) rfl ?_
            refine g_lv [some _, some _, some _, some _] (gs_some (gs_some (gs_some (gs_some gs_nil)))) ?_
            refine g_goto C 18 dL_law_1253 (by decide) ?_
            refine g_lv [some _, some _, some _, some _] (gs_some (gs_some (gs_some (gs_some gs_nil)))) ?_
            exact ih_18 (k + 6) _ _ _ (by omega) J (by omega)
          · rw [h_33]
            refine g_tableIn C 738 dL_law_33 (by decide) (by decide) rfl (by decide) ?_
            refine g_aload_n C dL_law_738 rfl ?_
            refine g_aload_n C dL_law_739 rfl ?_
            refine g_iload_n C dL_law_740 rfl ?_
            refine g_iconst (v := 1) C dL_law_741 (by decide) ?_
            refine g_iadd C dL_law_742 ?_
            refine g_sldN C hX hbl hbA (by omega) (k := (k + 1)) dL_law_743 (by first | rfl | assumption | (simp only [glit, nI_add, pk_mul]; done) | (simp only [glit, nI_add, pk_mul]; congr 1; omega) | (simp only [*, glit, nI_add, pk_mul]; congr 1; omega)) (by omega) ?_
            refine g_callVi C sV_L_69 dL_law_744 (c_X8_seed _ δ _ _) ⟨by decide, by decide⟩ (wO_X δ _) rfl rfl rfl rfl (Nat.le_of_ble_eq_true rfl) (fun r_744 s_744 h_744 => ?_)
            obtain ⟨h_744, M⟩ := x_seed I h_744
            refine g_pop C dL_law_747 rfl ?_
            refine g_aload_n C dL_law_748 rfl ?_
            refine g_aload_n C dL_law_749 rfl ?_
            refine g_iload_n C dL_law_750 rfl ?_
            refine g_iconst (v := 1) C dL_law_751 (by decide) ?_
            refine g_iadd C dL_law_752 ?_
            refine g_sldN C hX hbl hbA (by omega) (k := (k + 1)) dL_law_753 (by first | rfl | assumption | (simp only [glit, nI_add, pk_mul]; done) | (simp only [glit, nI_add, pk_mul]; congr 1; omega) | (simp only [*, glit, nI_add, pk_mul]; congr 1; omega)) (by omega) ?_
            refine g_callVi C sV_L_72 dL_law_754 (c_X9_seed _ δ _ _) ⟨by decide, by decide⟩ (wO_M δ _) rfl rfl rfl rfl (Nat.le_of_ble_eq_true rfl) (fun r_754 s_754 h_754 => ?_)
            obtain ⟨h_754, J⟩ := m_seed M h_754
            refine g_pop C dL_law_757 rfl ?_
            refine g_goto C 1250 dL_law_758 (by decide) ?_
            refine g_iinc (v := nI (k + 6)) C dL_law_1250 rfl (ginc _ 6) rfl ?_
            refine g_lv [some _, some _, some _, some _] (gs_some (gs_some (gs_some (gs_some gs_nil)))) ?_
            refine g_goto C 18 dL_law_1253 (by decide) ?_
            refine g_lv [some _, some _, some _, some _] (gs_some (gs_some (gs_some (gs_some gs_nil)))) ?_
            exact ih_18 (k + 6) _ _ _ (by omega) J (by omega)
          · rw [h_33]
            refine g_tableIn C 761 dL_law_33 (by decide) (by decide) rfl (by decide) ?_
            refine g_aload_n C dL_law_761 rfl ?_
            refine g_aload_n C dL_law_762 rfl ?_
            refine g_iload_n C dL_law_763 rfl ?_
            refine g_iconst (v := 1) C dL_law_764 (by decide) ?_
            refine g_iadd C dL_law_765 ?_
            refine g_sldN C hX hbl hbA (by omega) (k := (k + 1)) dL_law_766 (by first | rfl | assumption | (simp only [glit, nI_add, pk_mul]; done) | (simp only [glit, nI_add, pk_mul]; congr 1; omega) | (simp only [*, glit, nI_add, pk_mul]; congr 1; omega)) (by omega) ?_
            refine g_callVi C sV_L_73 dL_law_767 (c_X8_drawn _ δ _ _ I.1.1 I.1.2.2) ⟨by decide, by decide⟩ (wO_X δ _) rfl rfl rfl rfl (Nat.le_of_ble_eq_true rfl) (fun r_767 s_767 h_767 => ?_)
            obtain ⟨h_767, M⟩ := x_act I h_767
            refine g_pop C dL_law_770 rfl ?_
            refine g_aload_n C dL_law_771 rfl ?_
            refine g_aload_n C dL_law_772 rfl ?_
            refine g_iload_n C dL_law_773 rfl ?_
            refine g_iconst (v := 1) C dL_law_774 (by decide) ?_
            refine g_iadd C dL_law_775 ?_
            refine g_sldN C hX hbl hbA (by omega) (k := (k + 1)) dL_law_776 (by first | rfl | assumption | (simp only [glit, nI_add, pk_mul]; done) | (simp only [glit, nI_add, pk_mul]; congr 1; omega) | (simp only [*, glit, nI_add, pk_mul]; congr 1; omega)) (by omega) ?_
            refine g_callVi C sV_L_76 dL_law_777 (c_X9_drawn _ δ _ _ M.1.2.1 M.1.2.2) ⟨by decide, by decide⟩ (wO_M δ _) rfl rfl rfl rfl (Nat.le_of_ble_eq_true rfl) (fun r_777 s_777 h_777 => ?_)
            obtain ⟨h_777, J⟩ := m_act M (RV_drawn I.1.2.2 _) h_777
            refine g_pop C dL_law_780 rfl ?_
            refine g_goto C 1250 dL_law_781 (by decide) ?_
            refine g_iinc (v := nI (k + 6)) C dL_law_1250 rfl (ginc _ 6) rfl ?_
            refine g_lv [some _, some _, some _, some _] (gs_some (gs_some (gs_some (gs_some gs_nil)))) ?_
            refine g_goto C 18 dL_law_1253 (by decide) ?_
            refine g_lv [some _, some _, some _, some _] (gs_some (gs_some (gs_some (gs_some gs_nil)))) ?_
            exact ih_18 (k + 6) _ _ _ (by omega) J (by omega)
          · rw [h_33]
            refine g_tableIn C 784 dL_law_33 (by decide) (by decide) rfl (by decide) ?_
            refine g_aload_n C dL_law_784 rfl ?_
            refine g_aload_n C dL_law_785 rfl ?_
            refine g_iload_n C dL_law_786 rfl ?_
            refine g_iconst (v := 1) C dL_law_787 (by decide) ?_
            refine g_iadd C dL_law_788 ?_
            refine g_sldN C hX hbl hbA (by omega) (k := (k + 1)) dL_law_789 (by first | rfl | assumption | (simp only [glit, nI_add, pk_mul]; done) | (simp only [glit, nI_add, pk_mul]; congr 1; omega) | (simp only [*, glit, nI_add, pk_mul]; congr 1; omega)) (by omega) ?_
            refine g_aload_n C dL_law_790 rfl ?_
            refine g_iload_n C dL_law_791 rfl ?_
            refine g_iconst (v := 2) C dL_law_792 (by decide) ?_
            refine g_iadd C dL_law_793 ?_
            refine g_sldN C hX hbl hbA (by omega) (k := (k + 2)) dL_law_794 (by first | rfl | assumption | (simp only [glit, nI_add, pk_mul]; done) | (simp only [glit, nI_add, pk_mul]; congr 1; omega) | (simp only [*, glit, nI_add, pk_mul]; congr 1; omega)) (by omega) ?_
            refine g_callVi C sV_L_77 dL_law_795 (c_X8_shake _ δ _ _ _ I.1.1 I.1.2.2) ⟨by decide, by decide⟩ (wO_X δ _) rfl rfl rfl rfl (Nat.le_of_ble_eq_true rfl) (fun r_795 s_795 h_795 => ?_)
            obtain ⟨h_795, M⟩ := x_act I h_795
            refine g_pop C dL_law_798 rfl ?_
            refine g_aload_n C dL_law_799 rfl ?_
            refine g_aload_n C dL_law_800 rfl ?_
            refine g_iload_n C dL_law_801 rfl ?_
            refine g_iconst (v := 1) C dL_law_802 (by decide) ?_
            refine g_iadd C dL_law_803 ?_
            refine g_sldN C hX hbl hbA (by omega) (k := (k + 1)) dL_law_804 (by first | rfl | assumption | (simp only [glit, nI_add, pk_mul]; done) | (simp only [glit, nI_add, pk_mul]; congr 1; omega) | (simp only [*, glit, nI_add, pk_mul]; congr 1; omega)) (by omega) ?_
            refine g_aload_n C dL_law_805 rfl ?_
            refine g_iload_n C dL_law_806 rfl ?_
            refine g_iconst (v := 2) C dL_law_807 (by decide) ?_
            refine g_iadd C dL_law_808 ?_
            refine g_sldN C hX hbl hbA (by omega) (k := (k + 2)) dL_law_809 (by first | rfl | assumption | (simp only [glit, nI_add, pk_mul]; done) | (simp only [glit, nI_add, pk_mul]; congr 1; omega) | (simp only [*, glit, nI_add, pk_mul]; congr 1; omega)) (by omega) ?_
            refine g_callVi C sV_L_80 dL_law_810 (c_X9_shake _ δ _ _ _ M.1.2.1 M.1.2.2) ⟨by decide, by decide⟩ (wO_M δ _) rfl rfl rfl rfl (Nat.le_of_ble_eq_true rfl) (fun r_810 s_810 h_810 => ?_)
            obtain ⟨h_810, J⟩ := m_act M (RV_shake I.1.2.2 _ _) h_810
            refine g_pop C dL_law_813 rfl ?_
            refine g_goto C 1250 dL_law_814 (by decide) ?_
            refine g_iinc (v := nI (k + 6)) C dL_law_1250 rfl (ginc _ 6) rfl ?_
            refine g_lv [some _, some _, some _, some _] (gs_some (gs_some (gs_some (gs_some gs_nil)))) ?_
            refine g_goto C 18 dL_law_1253 (by decide) ?_
            refine g_lv [some _, some _, some _, some _] (gs_some (gs_some (gs_some (gs_some gs_nil)))) ?_
            exact ih_18 (k + 6) _ _ _ (by omega) J (by omega)
          · rw [h_33]
            refine g_tableIn C 817 dL_law_33 (by decide) (by decide) rfl (by decide) ?_
            refine g_aload_n C dL_law_817 rfl ?_
            refine g_callVi C sV_L_81 dL_law_818 (c_X8_undo _ δ _  I.1.1 I.1.2.2) ⟨by decide, by decide⟩ (wO_X δ _) rfl rfl rfl rfl (Nat.le_of_ble_eq_true rfl) (fun r_818 s_818 h_818 => ?_)
            obtain ⟨h_818, M⟩ := x_act I h_818
            refine g_pop C dL_law_821 rfl ?_
            refine g_aload_n C dL_law_822 rfl ?_
            refine g_callVi C sV_L_85 dL_law_823 (c_X9_undo _ δ _  M.1.2.1) ⟨by decide, by decide⟩ (wO_M δ _) rfl rfl rfl rfl (Nat.le_of_ble_eq_true rfl) (fun r_823 s_823 h_823 => ?_)
            obtain ⟨h_823, J⟩ := m_act M (RV_undo I.1.2.2 ) h_823
            refine g_pop C dL_law_826 rfl ?_
            refine g_goto C 1250 dL_law_827 (by decide) ?_
            refine g_iinc (v := nI (k + 6)) C dL_law_1250 rfl (ginc _ 6) rfl ?_
            refine g_lv [some _, some _, some _, some _] (gs_some (gs_some (gs_some (gs_some gs_nil)))) ?_
            refine g_goto C 18 dL_law_1253 (by decide) ?_
            refine g_lv [some _, some _, some _, some _] (gs_some (gs_some (gs_some (gs_some gs_nil)))) ?_
            exact ih_18 (k + 6) _ _ _ (by omega) J (by omega)
          · rw [h_33]
            refine g_tableIn C 830 dL_law_33 (by decide) (by decide) rfl (by decide) ?_
            refine g_aload_n C dL_law_830 rfl ?_
            refine g_aload_n C dL_law_831 rfl ?_
            refine g_iload_n C dL_law_832 rfl ?_
            refine g_iconst (v := 1) C dL_law_833 (by decide) ?_
            refine g_iadd C dL_law_834 ?_
            refine g_sldN C hX hbl hbA (by omega) (k := (k + 1)) dL_law_835 (by first | rfl | assumption | (simp only [glit, nI_add, pk_mul]; done) | (simp only [glit, nI_add, pk_mul]; congr 1; omega) | (simp only [*, glit, nI_add, pk_mul]; congr 1; omega)) (by omega) ?_
            refine g_aload_n C dL_law_836 rfl ?_
            refine g_iload_n C dL_law_837 rfl ?_
            refine g_iconst (v := 2) C dL_law_838 (by decide) ?_
            refine g_iadd C dL_law_839 ?_
            refine g_sldN C hX hbl hbA (by omega) (k := (k + 2)) dL_law_840 (by first | rfl | assumption | (simp only [glit, nI_add, pk_mul]; done) | (simp only [glit, nI_add, pk_mul]; congr 1; omega) | (simp only [*, glit, nI_add, pk_mul]; congr 1; omega)) (by omega) ?_
            refine g_aload_n C dL_law_841 rfl ?_
            refine g_iload_n C dL_law_842 rfl ?_
            refine g_iconst (v := 3) C dL_law_843 (by decide) ?_
            refine g_iadd C dL_law_844 ?_
            refine g_sldN C hX hbl hbA (by omega) (k := (k + 3)) dL_law_845 (by first | rfl | assumption | (simp only [glit, nI_add, pk_mul]; done) | (simp only [glit, nI_add, pk_mul]; congr 1; omega) | (simp only [*, glit, nI_add, pk_mul]; congr 1; omega)) (by omega) ?_
            refine g_callVi C sV_L_86 dL_law_846 (c_X8_chancea _ δ _ _ _ _ I.1.1 I.1.2.2) ⟨by decide, by decide⟩ (wO_X δ _) rfl rfl rfl rfl (Nat.le_of_ble_eq_true rfl) (fun r_846 s_846 h_846 => ?_)
            obtain ⟨h_846, z_846⟩ := h_846
            have M : Inv s_846 v w := i_sm I z_846
            refine g_pop C dL_law_849 rfl ?_
            refine g_aload_n C dL_law_850 rfl ?_
            refine g_aload_n C dL_law_851 rfl ?_
            refine g_iload_n C dL_law_852 rfl ?_
            refine g_iconst (v := 1) C dL_law_853 (by decide) ?_
            refine g_iadd C dL_law_854 ?_
            refine g_sldN C hX hbl hbA (by omega) (k := (k + 1)) dL_law_855 (by first | rfl | assumption | (simp only [glit, nI_add, pk_mul]; done) | (simp only [glit, nI_add, pk_mul]; congr 1; omega) | (simp only [*, glit, nI_add, pk_mul]; congr 1; omega)) (by omega) ?_
            refine g_aload_n C dL_law_856 rfl ?_
            refine g_iload_n C dL_law_857 rfl ?_
            refine g_iconst (v := 2) C dL_law_858 (by decide) ?_
            refine g_iadd C dL_law_859 ?_
            refine g_sldN C hX hbl hbA (by omega) (k := (k + 2)) dL_law_860 (by first | rfl | assumption | (simp only [glit, nI_add, pk_mul]; done) | (simp only [glit, nI_add, pk_mul]; congr 1; omega) | (simp only [*, glit, nI_add, pk_mul]; congr 1; omega)) (by omega) ?_
            refine g_aload_n C dL_law_861 rfl ?_
            refine g_iload_n C dL_law_862 rfl ?_
            refine g_iconst (v := 3) C dL_law_863 (by decide) ?_
            refine g_iadd C dL_law_864 ?_
            refine g_sldN C hX hbl hbA (by omega) (k := (k + 3)) dL_law_865 (by first | rfl | assumption | (simp only [glit, nI_add, pk_mul]; done) | (simp only [glit, nI_add, pk_mul]; congr 1; omega) | (simp only [*, glit, nI_add, pk_mul]; congr 1; omega)) (by omega) ?_
            refine g_callVi C sV_L_89 dL_law_866 (c_X9_chancea _ δ _ _ _ _ M.1.2.1 M.1.2.2) ⟨by decide, by decide⟩ (wO_M δ _) rfl rfl rfl rfl (Nat.le_of_ble_eq_true rfl) (fun r_866 s_866 h_866 => ?_)
            obtain ⟨h_866, z_866⟩ := h_866
            have J : Inv s_866 v w := i_sm M z_866
            refine g_pop C dL_law_869 rfl ?_
            refine g_goto C 1250 dL_law_870 (by decide) ?_
            refine g_iinc (v := nI (k + 6)) C dL_law_1250 rfl (ginc _ 6) rfl ?_
            refine g_lv [some _, some _, some _, some _] (gs_some (gs_some (gs_some (gs_some gs_nil)))) ?_
            refine g_goto C 18 dL_law_1253 (by decide) ?_
            refine g_lv [some _, some _, some _, some _] (gs_some (gs_some (gs_some (gs_some gs_nil)))) ?_
            exact ih_18 (k + 6) _ _ _ (by omega) J (by omega)
          · rw [h_33]
            refine g_tableIn C 873 dL_law_33 (by decide) (by decide) rfl (by decide) ?_
            refine g_aload_n C dL_law_873 rfl ?_
            refine g_aload_n C dL_law_874 rfl ?_
            refine g_iload_n C dL_law_875 rfl ?_
            refine g_iconst (v := 1) C dL_law_876 (by decide) ?_
            refine g_iadd C dL_law_877 ?_
            refine g_sldN C hX hbl hbA (by omega) (k := (k + 1)) dL_law_878 (by first | rfl | assumption | (simp only [glit, nI_add, pk_mul]; done) | (simp only [glit, nI_add, pk_mul]; congr 1; omega) | (simp only [*, glit, nI_add, pk_mul]; congr 1; omega)) (by omega) ?_
            refine g_aload_n C dL_law_879 rfl ?_
            refine g_iload_n C dL_law_880 rfl ?_
            refine g_iconst (v := 2) C dL_law_881 (by decide) ?_
            refine g_iadd C dL_law_882 ?_
            refine g_sldN C hX hbl hbA (by omega) (k := (k + 2)) dL_law_883 (by first | rfl | assumption | (simp only [glit, nI_add, pk_mul]; done) | (simp only [glit, nI_add, pk_mul]; congr 1; omega) | (simp only [*, glit, nI_add, pk_mul]; congr 1; omega)) (by omega) ?_
            refine g_aload_n C dL_law_884 rfl ?_
            refine g_iload_n C dL_law_885 rfl ?_
            refine g_iconst (v := 3) C dL_law_886 (by decide) ?_
            refine g_iadd C dL_law_887 ?_
            refine g_sldN C hX hbl hbA (by omega) (k := (k + 3)) dL_law_888 (by first | rfl | assumption | (simp only [glit, nI_add, pk_mul]; done) | (simp only [glit, nI_add, pk_mul]; congr 1; omega) | (simp only [*, glit, nI_add, pk_mul]; congr 1; omega)) (by omega) ?_
            refine g_aload_n C dL_law_889 rfl ?_
            refine g_iload_n C dL_law_890 rfl ?_
            refine g_iconst (v := 4) C dL_law_891 (by decide) ?_
            refine g_iadd C dL_law_892 ?_
            refine g_sldN C hX hbl hbA (by omega) (k := (k + 4)) dL_law_893 (by first | rfl | assumption | (simp only [glit, nI_add, pk_mul]; done) | (simp only [glit, nI_add, pk_mul]; congr 1; omega) | (simp only [*, glit, nI_add, pk_mul]; congr 1; omega)) (by omega) ?_
            refine g_callVi C sV_L_90 dL_law_894 (c_X8_timesa _ δ _ _ _ _ _ I.1.1 I.1.2.2) ⟨by decide, by decide⟩ (wO_X δ _) rfl rfl rfl rfl (Nat.le_of_ble_eq_true rfl) (fun r_894 s_894 h_894 => ?_)
            obtain ⟨h_894, z_894⟩ := h_894
            have M : Inv s_894 v w := i_sm I z_894
            refine g_pop C dL_law_897 rfl ?_
            refine g_aload_n C dL_law_898 rfl ?_
            refine g_aload_n C dL_law_899 rfl ?_
            refine g_iload_n C dL_law_900 rfl ?_
            refine g_iconst (v := 1) C dL_law_901 (by decide) ?_
            refine g_iadd C dL_law_902 ?_
            refine g_sldN C hX hbl hbA (by omega) (k := (k + 1)) dL_law_903 (by first | rfl | assumption | (simp only [glit, nI_add, pk_mul]; done) | (simp only [glit, nI_add, pk_mul]; congr 1; omega) | (simp only [*, glit, nI_add, pk_mul]; congr 1; omega)) (by omega) ?_
            refine g_aload_n C dL_law_904 rfl ?_
            refine g_iload_n C dL_law_905 rfl ?_
            refine g_iconst (v := 2) C dL_law_906 (by decide) ?_
            refine g_iadd C dL_law_907 ?_
            refine g_sldN C hX hbl hbA (by omega) (k := (k + 2)) dL_law_908 (by first | rfl | assumption | (simp only [glit, nI_add, pk_mul]; done) | (simp only [glit, nI_add, pk_mul]; congr 1; omega) | (simp only [*, glit, nI_add, pk_mul]; congr 1; omega)) (by omega) ?_
            refine g_aload_n C dL_law_909 rfl ?_
            refine g_iload_n C dL_law_910 rfl ?_
            refine g_iconst (v := 3) C dL_law_911 (by decide) ?_
            refine g_iadd C dL_law_912 ?_
            refine g_sldN C hX hbl hbA (by omega) (k := (k + 3)) dL_law_913 (by first | rfl | assumption | (simp only [glit, nI_add, pk_mul]; done) | (simp only [glit, nI_add, pk_mul]; congr 1; omega) | (simp only [*, glit, nI_add, pk_mul]; congr 1; omega)) (by omega) ?_
            refine g_aload_n C dL_law_914 rfl ?_
            refine g_iload_n C dL_law_915 rfl ?_
            refine g_iconst (v := 4) C dL_law_916 (by decide) ?_
            refine g_iadd C dL_law_917 ?_
            refine g_sldN C hX hbl hbA (by omega) (k := (k + 4)) dL_law_918 (by first | rfl | assumption | (simp only [glit, nI_add, pk_mul]; done) | (simp only [glit, nI_add, pk_mul]; congr 1; omega) | (simp only [*, glit, nI_add, pk_mul]; congr 1; omega)) (by omega) ?_
            refine g_callVi C sV_L_93 dL_law_919 (c_X9_timesa _ δ _ _ _ _ _ M.1.2.1 M.1.2.2) ⟨by decide, by decide⟩ (wO_M δ _) rfl rfl rfl rfl (Nat.le_of_ble_eq_true rfl) (fun r_919 s_919 h_919 => ?_)
            obtain ⟨h_919, z_919⟩ := h_919
            have J : Inv s_919 v w := i_sm M z_919
            refine g_pop C dL_law_922 rfl ?_
            refine g_goto C 1250 dL_law_923 (by decide) ?_
            refine g_iinc (v := nI (k + 6)) C dL_law_1250 rfl (ginc _ 6) rfl ?_
            refine g_lv [some _, some _, some _, some _] (gs_some (gs_some (gs_some (gs_some gs_nil)))) ?_
            refine g_goto C 18 dL_law_1253 (by decide) ?_
            refine g_lv [some _, some _, some _, some _] (gs_some (gs_some (gs_some (gs_some gs_nil)))) ?_
            exact ih_18 (k + 6) _ _ _ (by omega) J (by omega)
          · rw [h_33]
            refine g_tableIn C 926 dL_law_33 (by decide) (by decide) rfl (by decide) ?_
            refine g_aload_n C dL_law_926 rfl ?_
            refine g_aload_n C dL_law_927 rfl ?_
            refine g_iload_n C dL_law_928 rfl ?_
            refine g_iconst (v := 1) C dL_law_929 (by decide) ?_
            refine g_iadd C dL_law_930 ?_
            refine g_sldN C hX hbl hbA (by omega) (k := (k + 1)) dL_law_931 (by first | rfl | assumption | (simp only [glit, nI_add, pk_mul]; done) | (simp only [glit, nI_add, pk_mul]; congr 1; omega) | (simp only [*, glit, nI_add, pk_mul]; congr 1; omega)) (by omega) ?_
            refine g_aload_n C dL_law_932 rfl ?_
            refine g_iload_n C dL_law_933 rfl ?_
            refine g_iconst (v := 2) C dL_law_934 (by decide) ?_
            refine g_iadd C dL_law_935 ?_
            refine g_sldN C hX hbl hbA (by omega) (k := (k + 2)) dL_law_936 (by first | rfl | assumption | (simp only [glit, nI_add, pk_mul]; done) | (simp only [glit, nI_add, pk_mul]; congr 1; omega) | (simp only [*, glit, nI_add, pk_mul]; congr 1; omega)) (by omega) ?_
            refine g_aload_n C dL_law_937 rfl ?_
            refine g_iload_n C dL_law_938 rfl ?_
            refine g_iconst (v := 3) C dL_law_939 (by decide) ?_
            refine g_iadd C dL_law_940 ?_
            refine g_sldN C hX hbl hbA (by omega) (k := (k + 3)) dL_law_941 (by first | rfl | assumption | (simp only [glit, nI_add, pk_mul]; done) | (simp only [glit, nI_add, pk_mul]; congr 1; omega) | (simp only [*, glit, nI_add, pk_mul]; congr 1; omega)) (by omega) ?_
            refine g_aload_n C dL_law_942 rfl ?_
            refine g_iload_n C dL_law_943 rfl ?_
            refine g_iconst (v := 4) C dL_law_944 (by decide) ?_
            refine g_iadd C dL_law_945 ?_
            refine g_sldN C hX hbl hbA (by omega) (k := (k + 4)) dL_law_946 (by first | rfl | assumption | (simp only [glit, nI_add, pk_mul]; done) | (simp only [glit, nI_add, pk_mul]; congr 1; omega) | (simp only [*, glit, nI_add, pk_mul]; congr 1; omega)) (by omega) ?_
            refine g_callVi C sV_L_94 dL_law_947 (c_X8_lefta _ δ _ _ _ _ _ I.1.1 I.1.2.2) ⟨by decide, by decide⟩ (wO_X δ _) rfl rfl rfl rfl (Nat.le_of_ble_eq_true rfl) (fun r_947 s_947 h_947 => ?_)
            obtain ⟨h_947, z_947⟩ := h_947
            have M : Inv s_947 v w := i_sm I z_947
            refine g_pop C dL_law_950 rfl ?_
            refine g_aload_n C dL_law_951 rfl ?_
            refine g_aload_n C dL_law_952 rfl ?_
            refine g_iload_n C dL_law_953 rfl ?_
            refine g_iconst (v := 1) C dL_law_954 (by decide) ?_
            refine g_iadd C dL_law_955 ?_
            refine g_sldN C hX hbl hbA (by omega) (k := (k + 1)) dL_law_956 (by first | rfl | assumption | (simp only [glit, nI_add, pk_mul]; done) | (simp only [glit, nI_add, pk_mul]; congr 1; omega) | (simp only [*, glit, nI_add, pk_mul]; congr 1; omega)) (by omega) ?_
            refine g_aload_n C dL_law_957 rfl ?_
            refine g_iload_n C dL_law_958 rfl ?_
            refine g_iconst (v := 2) C dL_law_959 (by decide) ?_
            refine g_iadd C dL_law_960 ?_
            refine g_sldN C hX hbl hbA (by omega) (k := (k + 2)) dL_law_961 (by first | rfl | assumption | (simp only [glit, nI_add, pk_mul]; done) | (simp only [glit, nI_add, pk_mul]; congr 1; omega) | (simp only [*, glit, nI_add, pk_mul]; congr 1; omega)) (by omega) ?_
            refine g_aload_n C dL_law_962 rfl ?_
            refine g_iload_n C dL_law_963 rfl ?_
            refine g_iconst (v := 3) C dL_law_964 (by decide) ?_
            refine g_iadd C dL_law_965 ?_
            refine g_sldN C hX hbl hbA (by omega) (k := (k + 3)) dL_law_966 (by first | rfl | assumption | (simp only [glit, nI_add, pk_mul]; done) | (simp only [glit, nI_add, pk_mul]; congr 1; omega) | (simp only [*, glit, nI_add, pk_mul]; congr 1; omega)) (by omega) ?_
            refine g_aload_n C dL_law_967 rfl ?_
            refine g_iload_n C dL_law_968 rfl ?_
            refine g_iconst (v := 4) C dL_law_969 (by decide) ?_
            refine g_iadd C dL_law_970 ?_
            refine g_sldN C hX hbl hbA (by omega) (k := (k + 4)) dL_law_971 (by first | rfl | assumption | (simp only [glit, nI_add, pk_mul]; done) | (simp only [glit, nI_add, pk_mul]; congr 1; omega) | (simp only [*, glit, nI_add, pk_mul]; congr 1; omega)) (by omega) ?_
            refine g_callVi C sV_L_97 dL_law_972 (c_X9_lefta _ δ _ _ _ _ _ M.1.2.1 M.1.2.2) ⟨by decide, by decide⟩ (wO_M δ _) rfl rfl rfl rfl (Nat.le_of_ble_eq_true rfl) (fun r_972 s_972 h_972 => ?_)
            obtain ⟨h_972, z_972⟩ := h_972
            have J : Inv s_972 v w := i_sm M z_972
            refine g_pop C dL_law_975 rfl ?_
            refine g_goto C 1250 dL_law_976 (by decide) ?_
            refine g_iinc (v := nI (k + 6)) C dL_law_1250 rfl (ginc _ 6) rfl ?_
            refine g_lv [some _, some _, some _, some _] (gs_some (gs_some (gs_some (gs_some gs_nil)))) ?_
            refine g_goto C 18 dL_law_1253 (by decide) ?_
            refine g_lv [some _, some _, some _, some _] (gs_some (gs_some (gs_some (gs_some gs_nil)))) ?_
            exact ih_18 (k + 6) _ _ _ (by omega) J (by omega)
          · rw [h_33]
            refine g_tableIn C 979 dL_law_33 (by decide) (by decide) rfl (by decide) ?_
            refine g_aload_n C dL_law_979 rfl ?_
            refine g_aload_n C dL_law_980 rfl ?_
            refine g_iload_n C dL_law_981 rfl ?_
            refine g_iconst (v := 1) C dL_law_982 (by decide) ?_
            refine g_iadd C dL_law_983 ?_
            refine g_sldN C hX hbl hbA (by omega) (k := (k + 1)) dL_law_984 (by first | rfl | assumption | (simp only [glit, nI_add, pk_mul]; done) | (simp only [glit, nI_add, pk_mul]; congr 1; omega) | (simp only [*, glit, nI_add, pk_mul]; congr 1; omega)) (by omega) ?_
            refine g_aload_n C dL_law_985 rfl ?_
            refine g_iload_n C dL_law_986 rfl ?_
            refine g_iconst (v := 2) C dL_law_987 (by decide) ?_
            refine g_iadd C dL_law_988 ?_
            refine g_sldN C hX hbl hbA (by omega) (k := (k + 2)) dL_law_989 (by first | rfl | assumption | (simp only [glit, nI_add, pk_mul]; done) | (simp only [glit, nI_add, pk_mul]; congr 1; omega) | (simp only [*, glit, nI_add, pk_mul]; congr 1; omega)) (by omega) ?_
            refine g_callVi C sV_L_98 dL_law_990 (c_X8_stucka _ δ _ _ _ I.1.1 I.1.2.2) ⟨by decide, by decide⟩ (wO_X δ _) rfl rfl rfl rfl (Nat.le_of_ble_eq_true rfl) (fun r_990 s_990 h_990 => ?_)
            obtain ⟨h_990, z_990⟩ := h_990
            have M : Inv s_990 v w := i_sm I z_990
            refine g_pop C dL_law_993 rfl ?_
            refine g_aload_n C dL_law_994 rfl ?_
            refine g_aload_n C dL_law_995 rfl ?_
            refine g_iload_n C dL_law_996 rfl ?_
            refine g_iconst (v := 1) C dL_law_997 (by decide) ?_
            refine g_iadd C dL_law_998 ?_
            refine g_sldN C hX hbl hbA (by omega) (k := (k + 1)) dL_law_999 (by first | rfl | assumption | (simp only [glit, nI_add, pk_mul]; done) | (simp only [glit, nI_add, pk_mul]; congr 1; omega) | (simp only [*, glit, nI_add, pk_mul]; congr 1; omega)) (by omega) ?_
            refine g_aload_n C dL_law_1000 rfl ?_
            refine g_iload_n C dL_law_1001 rfl ?_
            refine g_iconst (v := 2) C dL_law_1002 (by decide) ?_
            refine g_iadd C dL_law_1003 ?_
            refine g_sldN C hX hbl hbA (by omega) (k := (k + 2)) dL_law_1004 (by first | rfl | assumption | (simp only [glit, nI_add, pk_mul]; done) | (simp only [glit, nI_add, pk_mul]; congr 1; omega) | (simp only [*, glit, nI_add, pk_mul]; congr 1; omega)) (by omega) ?_
            refine g_callVi C sV_L_101 dL_law_1005 (c_X9_stucka _ δ _ _ _ M.1.2.1 M.1.2.2) ⟨by decide, by decide⟩ (wO_M δ _) rfl rfl rfl rfl (Nat.le_of_ble_eq_true rfl) (fun r_1005 s_1005 h_1005 => ?_)
            obtain ⟨h_1005, z_1005⟩ := h_1005
            have J : Inv s_1005 v w := i_sm M z_1005
            refine g_pop C dL_law_1008 rfl ?_
            refine g_goto C 1250 dL_law_1009 (by decide) ?_
            refine g_iinc (v := nI (k + 6)) C dL_law_1250 rfl (ginc _ 6) rfl ?_
            refine g_lv [some _, some _, some _, some _] (gs_some (gs_some (gs_some (gs_some gs_nil)))) ?_
            refine g_goto C 18 dL_law_1253 (by decide) ?_
            refine g_lv [some _, some _, some _, some _] (gs_some (gs_some (gs_some (gs_some gs_nil)))) ?_
            exact ih_18 (k + 6) _ _ _ (by omega) J (by omega)
          · rw [h_33]
            refine g_tableIn C 1012 dL_law_33 (by decide) (by decide) rfl (by decide) ?_
            refine g_aload_n C dL_law_1012 rfl ?_
            refine g_aload_n C dL_law_1013 rfl ?_
            refine g_iload_n C dL_law_1014 rfl ?_
            refine g_iconst (v := 1) C dL_law_1015 (by decide) ?_
            refine g_iadd C dL_law_1016 ?_
            refine g_sldN C hX hbl hbA (by omega) (k := (k + 1)) dL_law_1017 (by first | rfl | assumption | (simp only [glit, nI_add, pk_mul]; done) | (simp only [glit, nI_add, pk_mul]; congr 1; omega) | (simp only [*, glit, nI_add, pk_mul]; congr 1; omega)) (by omega) ?_
            refine g_aload_n C dL_law_1018 rfl ?_
            refine g_iload_n C dL_law_1019 rfl ?_
            refine g_iconst (v := 2) C dL_law_1020 (by decide) ?_
            refine g_iadd C dL_law_1021 ?_
            refine g_sldN C hX hbl hbA (by omega) (k := (k + 2)) dL_law_1022 (by first | rfl | assumption | (simp only [glit, nI_add, pk_mul]; done) | (simp only [glit, nI_add, pk_mul]; congr 1; omega) | (simp only [*, glit, nI_add, pk_mul]; congr 1; omega)) (by omega) ?_
            refine g_aload_n C dL_law_1023 rfl ?_
            refine g_iload_n C dL_law_1024 rfl ?_
            refine g_iconst (v := 3) C dL_law_1025 (by decide) ?_
            refine g_iadd C dL_law_1026 ?_
            refine g_sldN C hX hbl hbA (by omega) (k := (k + 3)) dL_law_1027 (by first | rfl | assumption | (simp only [glit, nI_add, pk_mul]; done) | (simp only [glit, nI_add, pk_mul]; congr 1; omega) | (simp only [*, glit, nI_add, pk_mul]; congr 1; omega)) (by omega) ?_
            refine g_aload_n C dL_law_1028 rfl ?_
            refine g_iload_n C dL_law_1029 rfl ?_
            refine g_iconst (v := 4) C dL_law_1030 (by decide) ?_
            refine g_iadd C dL_law_1031 ?_
            refine g_sldN C hX hbl hbA (by omega) (k := (k + 4)) dL_law_1032 (by first | rfl | assumption | (simp only [glit, nI_add, pk_mul]; done) | (simp only [glit, nI_add, pk_mul]; congr 1; omega) | (simp only [*, glit, nI_add, pk_mul]; congr 1; omega)) (by omega) ?_
            refine g_callVi C sV_L_102 dL_law_1033 (c_X8_meana _ δ _ _ _ _ _ I.1.1 I.1.2.2) ⟨by decide, by decide⟩ (wO_X δ _) rfl rfl rfl rfl (Nat.le_of_ble_eq_true rfl) (fun r_1033 s_1033 h_1033 => ?_)
            obtain ⟨h_1033, z_1033⟩ := h_1033
            have M : Inv s_1033 v w := i_sm I z_1033
            refine g_pop C dL_law_1036 rfl ?_
            refine g_aload_n C dL_law_1037 rfl ?_
            refine g_aload_n C dL_law_1038 rfl ?_
            refine g_iload_n C dL_law_1039 rfl ?_
            refine g_iconst (v := 1) C dL_law_1040 (by decide) ?_
            refine g_iadd C dL_law_1041 ?_
            refine g_sldN C hX hbl hbA (by omega) (k := (k + 1)) dL_law_1042 (by first | rfl | assumption | (simp only [glit, nI_add, pk_mul]; done) | (simp only [glit, nI_add, pk_mul]; congr 1; omega) | (simp only [*, glit, nI_add, pk_mul]; congr 1; omega)) (by omega) ?_
            refine g_aload_n C dL_law_1043 rfl ?_
            refine g_iload_n C dL_law_1044 rfl ?_
            refine g_iconst (v := 2) C dL_law_1045 (by decide) ?_
            refine g_iadd C dL_law_1046 ?_
            refine g_sldN C hX hbl hbA (by omega) (k := (k + 2)) dL_law_1047 (by first | rfl | assumption | (simp only [glit, nI_add, pk_mul]; done) | (simp only [glit, nI_add, pk_mul]; congr 1; omega) | (simp only [*, glit, nI_add, pk_mul]; congr 1; omega)) (by omega) ?_
            refine g_aload_n C dL_law_1048 rfl ?_
            refine g_iload_n C dL_law_1049 rfl ?_
            refine g_iconst (v := 3) C dL_law_1050 (by decide) ?_
            refine g_iadd C dL_law_1051 ?_
            refine g_sldN C hX hbl hbA (by omega) (k := (k + 3)) dL_law_1052 (by first | rfl | assumption | (simp only [glit, nI_add, pk_mul]; done) | (simp only [glit, nI_add, pk_mul]; congr 1; omega) | (simp only [*, glit, nI_add, pk_mul]; congr 1; omega)) (by omega) ?_
            refine g_aload_n C dL_law_1053 rfl ?_
            refine g_iload_n C dL_law_1054 rfl ?_
            refine g_iconst (v := 4) C dL_law_1055 (by decide) ?_
            refine g_iadd C dL_law_1056 ?_
            refine g_sldN C hX hbl hbA (by omega) (k := (k + 4)) dL_law_1057 (by first | rfl | assumption | (simp only [glit, nI_add, pk_mul]; done) | (simp only [glit, nI_add, pk_mul]; congr 1; omega) | (simp only [*, glit, nI_add, pk_mul]; congr 1; omega)) (by omega) ?_
            refine g_callVi C sV_L_105 dL_law_1058 (c_X9_meana _ δ _ _ _ _ _ M.1.2.1 M.1.2.2) ⟨by decide, by decide⟩ (wO_M δ _) rfl rfl rfl rfl (Nat.le_of_ble_eq_true rfl) (fun r_1058 s_1058 h_1058 => ?_)
            obtain ⟨h_1058, z_1058⟩ := h_1058
            have J : Inv s_1058 v w := i_sm M z_1058
            refine g_pop C dL_law_1061 rfl ?_
            refine g_goto C 1250 dL_law_1062 (by decide) ?_
            refine g_iinc (v := nI (k + 6)) C dL_law_1250 rfl (ginc _ 6) rfl ?_
            refine g_lv [some _, some _, some _, some _] (gs_some (gs_some (gs_some (gs_some gs_nil)))) ?_
            refine g_goto C 18 dL_law_1253 (by decide) ?_
            refine g_lv [some _, some _, some _, some _] (gs_some (gs_some (gs_some (gs_some gs_nil)))) ?_
            exact ih_18 (k + 6) _ _ _ (by omega) J (by omega)
          · rw [h_33]
            refine g_tableIn C 1065 dL_law_33 (by decide) (by decide) rfl (by decide) ?_
            refine g_aload_n C dL_law_1065 rfl ?_
            refine g_aload_n C dL_law_1066 rfl ?_
            refine g_iload_n C dL_law_1067 rfl ?_
            refine g_iconst (v := 1) C dL_law_1068 (by decide) ?_
            refine g_iadd C dL_law_1069 ?_
            refine g_sldN C hX hbl hbA (by omega) (k := (k + 1)) dL_law_1070 (by first | rfl | assumption | (simp only [glit, nI_add, pk_mul]; done) | (simp only [glit, nI_add, pk_mul]; congr 1; omega) | (simp only [*, glit, nI_add, pk_mul]; congr 1; omega)) (by omega) ?_
            refine g_aload_n C dL_law_1071 rfl ?_
            refine g_iload_n C dL_law_1072 rfl ?_
            refine g_iconst (v := 2) C dL_law_1073 (by decide) ?_
            refine g_iadd C dL_law_1074 ?_
            refine g_sldN C hX hbl hbA (by omega) (k := (k + 2)) dL_law_1075 (by first | rfl | assumption | (simp only [glit, nI_add, pk_mul]; done) | (simp only [glit, nI_add, pk_mul]; congr 1; omega) | (simp only [*, glit, nI_add, pk_mul]; congr 1; omega)) (by omega) ?_
            refine g_aload_n C dL_law_1076 rfl ?_
            refine g_iload_n C dL_law_1077 rfl ?_
            refine g_iconst (v := 3) C dL_law_1078 (by decide) ?_
            refine g_iadd C dL_law_1079 ?_
            refine g_sldN C hX hbl hbA (by omega) (k := (k + 3)) dL_law_1080 (by first | rfl | assumption | (simp only [glit, nI_add, pk_mul]; done) | (simp only [glit, nI_add, pk_mul]; congr 1; omega) | (simp only [*, glit, nI_add, pk_mul]; congr 1; omega)) (by omega) ?_
            refine g_aload_n C dL_law_1081 rfl ?_
            refine g_iload_n C dL_law_1082 rfl ?_
            refine g_iconst (v := 4) C dL_law_1083 (by decide) ?_
            refine g_iadd C dL_law_1084 ?_
            refine g_sldN C hX hbl hbA (by omega) (k := (k + 4)) dL_law_1085 (by first | rfl | assumption | (simp only [glit, nI_add, pk_mul]; done) | (simp only [glit, nI_add, pk_mul]; congr 1; omega) | (simp only [*, glit, nI_add, pk_mul]; congr 1; omega)) (by omega) ?_
            refine g_aload_n C dL_law_1086 rfl ?_
            refine g_iload_n C dL_law_1087 rfl ?_
            refine g_iconst (v := 5) C dL_law_1088 (by decide) ?_
            refine g_iadd C dL_law_1089 ?_
            refine g_sldN C hX hbl hbA (by omega) (k := (k + 5)) dL_law_1090 (by first | rfl | assumption | (simp only [glit, nI_add, pk_mul]; done) | (simp only [glit, nI_add, pk_mul]; congr 1; omega) | (simp only [*, glit, nI_add, pk_mul]; congr 1; omega)) (by omega) ?_
            refine g_callVi C sV_L_106 dL_law_1091 (c_X8_told _ δ _ _ _ _ _ _ I.1.1.1 I.1.2.2.1 (hC_of I.1.1 I.1.2.2)) ⟨by decide, by decide⟩ (wO_X δ _) rfl rfl rfl rfl (Nat.le_of_ble_eq_true rfl) (fun r_1091 s_1091 h_1091 => ?_)
            have M : Inv s_1091 v w := i_sm I h_1091
            refine g_pop C dL_law_1094 rfl ?_
            refine g_aload_n C dL_law_1095 rfl ?_
            refine g_aload_n C dL_law_1096 rfl ?_
            refine g_iload_n C dL_law_1097 rfl ?_
            refine g_iconst (v := 1) C dL_law_1098 (by decide) ?_
            refine g_iadd C dL_law_1099 ?_
            refine g_sldN C hX hbl hbA (by omega) (k := (k + 1)) dL_law_1100 (by first | rfl | assumption | (simp only [glit, nI_add, pk_mul]; done) | (simp only [glit, nI_add, pk_mul]; congr 1; omega) | (simp only [*, glit, nI_add, pk_mul]; congr 1; omega)) (by omega) ?_
            refine g_aload_n C dL_law_1101 rfl ?_
            refine g_iload_n C dL_law_1102 rfl ?_
            refine g_iconst (v := 2) C dL_law_1103 (by decide) ?_
            refine g_iadd C dL_law_1104 ?_
            refine g_sldN C hX hbl hbA (by omega) (k := (k + 2)) dL_law_1105 (by first | rfl | assumption | (simp only [glit, nI_add, pk_mul]; done) | (simp only [glit, nI_add, pk_mul]; congr 1; omega) | (simp only [*, glit, nI_add, pk_mul]; congr 1; omega)) (by omega) ?_
            refine g_aload_n C dL_law_1106 rfl ?_
            refine g_iload_n C dL_law_1107 rfl ?_
            refine g_iconst (v := 3) C dL_law_1108 (by decide) ?_
            refine g_iadd C dL_law_1109 ?_
            refine g_sldN C hX hbl hbA (by omega) (k := (k + 3)) dL_law_1110 (by first | rfl | assumption | (simp only [glit, nI_add, pk_mul]; done) | (simp only [glit, nI_add, pk_mul]; congr 1; omega) | (simp only [*, glit, nI_add, pk_mul]; congr 1; omega)) (by omega) ?_
            refine g_aload_n C dL_law_1111 rfl ?_
            refine g_iload_n C dL_law_1112 rfl ?_
            refine g_iconst (v := 4) C dL_law_1113 (by decide) ?_
            refine g_iadd C dL_law_1114 ?_
            refine g_sldN C hX hbl hbA (by omega) (k := (k + 4)) dL_law_1115 (by first | rfl | assumption | (simp only [glit, nI_add, pk_mul]; done) | (simp only [glit, nI_add, pk_mul]; congr 1; omega) | (simp only [*, glit, nI_add, pk_mul]; congr 1; omega)) (by omega) ?_
            refine g_aload_n C dL_law_1116 rfl ?_
            refine g_iload_n C dL_law_1117 rfl ?_
            refine g_iconst (v := 5) C dL_law_1118 (by decide) ?_
            refine g_iadd C dL_law_1119 ?_
            refine g_sldN C hX hbl hbA (by omega) (k := (k + 5)) dL_law_1120 (by first | rfl | assumption | (simp only [glit, nI_add, pk_mul]; done) | (simp only [glit, nI_add, pk_mul]; congr 1; omega) | (simp only [*, glit, nI_add, pk_mul]; congr 1; omega)) (by omega) ?_
            refine g_callVi C sV_L_109 dL_law_1121 (c_X9_told _ δ _ _ _ _ _ _ M.1.2.1.1 M.1.2.2.1 (hM_of M.1.2.1 M.1.2.2)) ⟨by decide, by decide⟩ (wO_M δ _) rfl rfl rfl rfl (Nat.le_of_ble_eq_true rfl) (fun r_1121 s_1121 h_1121 => ?_)
            have J : Inv s_1121 v w := i_sm M h_1121
            refine g_pop C dL_law_1124 rfl ?_
            refine g_goto C 1250 dL_law_1125 (by decide) ?_
            refine g_iinc (v := nI (k + 6)) C dL_law_1250 rfl (ginc _ 6) rfl ?_
            refine g_lv [some _, some _, some _, some _] (gs_some (gs_some (gs_some (gs_some gs_nil)))) ?_
            refine g_goto C 18 dL_law_1253 (by decide) ?_
            refine g_lv [some _, some _, some _, some _] (gs_some (gs_some (gs_some (gs_some gs_nil)))) ?_
            exact ih_18 (k + 6) _ _ _ (by omega) J (by omega)
          · rw [h_33]
            refine g_tableIn C 1128 dL_law_33 (by decide) (by decide) rfl (by decide) ?_
            refine g_aload_n C dL_law_1128 rfl ?_
            refine g_aload_n C dL_law_1129 rfl ?_
            refine g_iload_n C dL_law_1130 rfl ?_
            refine g_iconst (v := 1) C dL_law_1131 (by decide) ?_
            refine g_iadd C dL_law_1132 ?_
            refine g_sldN C hX hbl hbA (by omega) (k := (k + 1)) dL_law_1133 (by first | rfl | assumption | (simp only [glit, nI_add, pk_mul]; done) | (simp only [glit, nI_add, pk_mul]; congr 1; omega) | (simp only [*, glit, nI_add, pk_mul]; congr 1; omega)) (by omega) ?_
            refine g_aload_n C dL_law_1134 rfl ?_
            refine g_iload_n C dL_law_1135 rfl ?_
            refine g_iconst (v := 2) C dL_law_1136 (by decide) ?_
            refine g_iadd C dL_law_1137 ?_
            refine g_sldN C hX hbl hbA (by omega) (k := (k + 2)) dL_law_1138 (by first | rfl | assumption | (simp only [glit, nI_add, pk_mul]; done) | (simp only [glit, nI_add, pk_mul]; congr 1; omega) | (simp only [*, glit, nI_add, pk_mul]; congr 1; omega)) (by omega) ?_
            refine g_aload_n C dL_law_1139 rfl ?_
            refine g_iload_n C dL_law_1140 rfl ?_
            refine g_iconst (v := 3) C dL_law_1141 (by decide) ?_
            refine g_iadd C dL_law_1142 ?_
            refine g_sldN C hX hbl hbA (by omega) (k := (k + 3)) dL_law_1143 (by first | rfl | assumption | (simp only [glit, nI_add, pk_mul]; done) | (simp only [glit, nI_add, pk_mul]; congr 1; omega) | (simp only [*, glit, nI_add, pk_mul]; congr 1; omega)) (by omega) ?_
            refine g_callVi C sV_L_110 dL_law_1144 (c_X8_sharea _ δ _ _ _ _ I.1.1 I.1.2.2) ⟨by decide, by decide⟩ (wO_X δ _) rfl rfl rfl rfl (Nat.le_of_ble_eq_true rfl) (fun r_1144 s_1144 h_1144 => ?_)
            obtain ⟨h_1144, z_1144⟩ := h_1144
            have M : Inv s_1144 v w := i_sm I z_1144
            refine g_pop C dL_law_1147 rfl ?_
            refine g_aload_n C dL_law_1148 rfl ?_
            refine g_aload_n C dL_law_1149 rfl ?_
            refine g_iload_n C dL_law_1150 rfl ?_
            refine g_iconst (v := 1) C dL_law_1151 (by decide) ?_
            refine g_iadd C dL_law_1152 ?_
            refine g_sldN C hX hbl hbA (by omega) (k := (k + 1)) dL_law_1153 (by first | rfl | assumption | (simp only [glit, nI_add, pk_mul]; done) | (simp only [glit, nI_add, pk_mul]; congr 1; omega) | (simp only [*, glit, nI_add, pk_mul]; congr 1; omega)) (by omega) ?_
            refine g_aload_n C dL_law_1154 rfl ?_
            refine g_iload_n C dL_law_1155 rfl ?_
            refine g_iconst (v := 2) C dL_law_1156 (by decide) ?_
            refine g_iadd C dL_law_1157 ?_
            refine g_sldN C hX hbl hbA (by omega) (k := (k + 2)) dL_law_1158 (by first | rfl | assumption | (simp only [glit, nI_add, pk_mul]; done) | (simp only [glit, nI_add, pk_mul]; congr 1; omega) | (simp only [*, glit, nI_add, pk_mul]; congr 1; omega)) (by omega) ?_
            refine g_aload_n C dL_law_1159 rfl ?_
            refine g_iload_n C dL_law_1160 rfl ?_
            refine g_iconst (v := 3) C dL_law_1161 (by decide) ?_
            refine g_iadd C dL_law_1162 ?_
            refine g_sldN C hX hbl hbA (by omega) (k := (k + 3)) dL_law_1163 (by first | rfl | assumption | (simp only [glit, nI_add, pk_mul]; done) | (simp only [glit, nI_add, pk_mul]; congr 1; omega) | (simp only [*, glit, nI_add, pk_mul]; congr 1; omega)) (by omega) ?_
            refine g_callVi C sV_L_113 dL_law_1164 (c_X9_sharea _ δ _ _ _ _ M.1.2.1 M.1.2.2) ⟨by decide, by decide⟩ (wO_M δ _) rfl rfl rfl rfl (Nat.le_of_ble_eq_true rfl) (fun r_1164 s_1164 h_1164 => ?_)
            obtain ⟨h_1164, z_1164⟩ := h_1164
            have J : Inv s_1164 v w := i_sm M z_1164
            refine g_pop C dL_law_1167 rfl ?_
            refine g_goto C 1250 dL_law_1168 (by decide) ?_
            refine g_iinc (v := nI (k + 6)) C dL_law_1250 rfl (ginc _ 6) rfl ?_
            refine g_lv [some _, some _, some _, some _] (gs_some (gs_some (gs_some (gs_some gs_nil)))) ?_
            refine g_goto C 18 dL_law_1253 (by decide) ?_
            refine g_lv [some _, some _, some _, some _] (gs_some (gs_some (gs_some (gs_some gs_nil)))) ?_
            exact ih_18 (k + 6) _ _ _ (by omega) J (by omega)
          · rw [h_33]
            refine g_tableIn C 1171 dL_law_33 (by decide) (by decide) rfl (by decide) ?_
            refine g_aload_n C dL_law_1171 rfl ?_
            refine g_aload_n C dL_law_1172 rfl ?_
            refine g_iload_n C dL_law_1173 rfl ?_
            refine g_iconst (v := 1) C dL_law_1174 (by decide) ?_
            refine g_iadd C dL_law_1175 ?_
            refine g_sldN C hX hbl hbA (by omega) (k := (k + 1)) dL_law_1176 (by first | rfl | assumption | (simp only [glit, nI_add, pk_mul]; done) | (simp only [glit, nI_add, pk_mul]; congr 1; omega) | (simp only [*, glit, nI_add, pk_mul]; congr 1; omega)) (by omega) ?_
            refine g_aload_n C dL_law_1177 rfl ?_
            refine g_iload_n C dL_law_1178 rfl ?_
            refine g_iconst (v := 2) C dL_law_1179 (by decide) ?_
            refine g_iadd C dL_law_1180 ?_
            refine g_sldN C hX hbl hbA (by omega) (k := (k + 2)) dL_law_1181 (by first | rfl | assumption | (simp only [glit, nI_add, pk_mul]; done) | (simp only [glit, nI_add, pk_mul]; congr 1; omega) | (simp only [*, glit, nI_add, pk_mul]; congr 1; omega)) (by omega) ?_
            refine g_callVi C sV_L_114 dL_law_1182 (c_X8_freea _ δ _ _ _ I.1.1 I.1.2.2) ⟨by decide, by decide⟩ (wO_X δ _) rfl rfl rfl rfl (Nat.le_of_ble_eq_true rfl) (fun r_1182 s_1182 h_1182 => ?_)
            obtain ⟨h_1182, z_1182⟩ := h_1182
            have M : Inv s_1182 v w := i_sm I z_1182
            refine g_aload_n C dL_law_1185 rfl ?_
            refine g_aload_n C dL_law_1186 rfl ?_
            refine g_iload_n C dL_law_1187 rfl ?_
            refine g_iconst (v := 1) C dL_law_1188 (by decide) ?_
            refine g_iadd C dL_law_1189 ?_
            refine g_sldN C hX hbl hbA (by omega) (k := (k + 1)) dL_law_1190 (by first | rfl | assumption | (simp only [glit, nI_add, pk_mul]; done) | (simp only [glit, nI_add, pk_mul]; congr 1; omega) | (simp only [*, glit, nI_add, pk_mul]; congr 1; omega)) (by omega) ?_
            refine g_aload_n C dL_law_1191 rfl ?_
            refine g_iload_n C dL_law_1192 rfl ?_
            refine g_iconst (v := 2) C dL_law_1193 (by decide) ?_
            refine g_iadd C dL_law_1194 ?_
            refine g_sldN C hX hbl hbA (by omega) (k := (k + 2)) dL_law_1195 (by first | rfl | assumption | (simp only [glit, nI_add, pk_mul]; done) | (simp only [glit, nI_add, pk_mul]; congr 1; omega) | (simp only [*, glit, nI_add, pk_mul]; congr 1; omega)) (by omega) ?_
            refine g_callVi C sV_L_117 dL_law_1196 (c_X9_freea _ δ _ _ _ M.1.2.1 M.1.2.2) ⟨by decide, by decide⟩ (wO_M δ _) rfl rfl rfl rfl (Nat.le_of_ble_eq_true rfl) (fun r_1196 s_1196 h_1196 => ?_)
            obtain ⟨h_1196, z_1196⟩ := h_1196
            have J : Inv s_1196 v w := i_sm M z_1196
            refine g_icmp_eq C 1250 dL_law_1199 (by decide) (fun c_1199 => ?_) (fun c_1199 => ?_)
            · refine g_iinc (v := nI (k + 6)) C dL_law_1250 rfl (ginc _ 6) rfl ?_
              refine g_lv [some _, some _, some _, some _] (gs_some (gs_some (gs_some (gs_some gs_nil)))) ?_
              refine g_goto C 18 dL_law_1253 (by decide) ?_
              refine g_lv [some _, some _, some _, some _] (gs_some (gs_some (gs_some (gs_some gs_nil)))) ?_
              exact ih_18 (k + 6) _ _ _ (by omega) J (by omega)
            · exact absurd (h_1182.trans h_1196.symm) c_1199
          · rw [h_33]
            refine g_tableIn C 1204 dL_law_33 (by decide) (by decide) rfl (by decide) ?_
            refine g_aload_n C dL_law_1204 rfl ?_
            refine g_aload_n C dL_law_1205 rfl ?_
            refine g_iload_n C dL_law_1206 rfl ?_
            refine g_iconst (v := 1) C dL_law_1207 (by decide) ?_
            refine g_iadd C dL_law_1208 ?_
            refine g_sldN C hX hbl hbA (by omega) (k := (k + 1)) dL_law_1209 (by first | rfl | assumption | (simp only [glit, nI_add, pk_mul]; done) | (simp only [glit, nI_add, pk_mul]; congr 1; omega) | (simp only [*, glit, nI_add, pk_mul]; congr 1; omega)) (by omega) ?_
            refine g_callVl C sV_L_118 dL_law_1210 (c_X8_part _ δ _ _) ⟨by decide, by decide⟩ (wO_X δ _) rfl rfl rfl rfl (Nat.le_of_ble_eq_true rfl) (fun r_1210 s_1210 h_1210 => ?_)
            obtain ⟨rfl, h_1210⟩ := h_1210
            refine g_pop2 C dL_law_1213 rfl ?_
            refine g_aload_n C dL_law_1214 rfl ?_
            refine g_aload_n C dL_law_1215 rfl ?_
            refine g_iload_n C dL_law_1216 rfl ?_
            refine g_iconst (v := 1) C dL_law_1217 (by decide) ?_
            refine g_iadd C dL_law_1218 ?_
            refine g_sldN C hX hbl hbA (by omega) (k := (k + 1)) dL_law_1219 (by first | rfl | assumption | (simp only [glit, nI_add, pk_mul]; done) | (simp only [glit, nI_add, pk_mul]; congr 1; omega) | (simp only [*, glit, nI_add, pk_mul]; congr 1; omega)) (by omega) ?_
            refine g_callVl C sV_L_122 dL_law_1220 (c_X9_part _ δ _ _ I.2.2) ⟨by decide, by decide⟩ (wO_M δ _) rfl rfl rfl rfl (Nat.le_of_ble_eq_true rfl) (fun r_1220 s_1220 h_1220 => ?_)
            obtain ⟨rfl, h_1220⟩ := h_1220
            refine g_pop2 C dL_law_1223 rfl ?_
            refine g_goto C 1250 dL_law_1224 (by decide) ?_
            refine g_iinc (v := nI (k + 6)) C dL_law_1250 rfl (ginc _ 6) rfl ?_
            refine g_lv [some _, some _, some _, some _] (gs_some (gs_some (gs_some (gs_some gs_nil)))) ?_
            refine g_goto C 18 dL_law_1253 (by decide) ?_
            refine g_lv [some _, some _, some _, some _] (gs_some (gs_some (gs_some (gs_some gs_nil)))) ?_
            exact ih_18 (k + 6) _ _ _ (by omega) J (by omega)
          · rw [h_33]
            refine g_tableIn C 1227 dL_law_33 (by decide) (by decide) rfl (by decide) ?_
            refine g_aload_n C dL_law_1227 rfl ?_
            refine g_aload_n C dL_law_1228 rfl ?_
            refine g_iload_n C dL_law_1229 rfl ?_
            refine g_iconst (v := 1) C dL_law_1230 (by decide) ?_
            refine g_iadd C dL_law_1231 ?_
            refine g_sldN C hX hbl hbA (by omega) (k := (k + 1)) dL_law_1232 (by first | rfl | assumption | (simp only [glit, nI_add, pk_mul]; done) | (simp only [glit, nI_add, pk_mul]; congr 1; omega) | (simp only [*, glit, nI_add, pk_mul]; congr 1; omega)) (by omega) ?_
            refine g_callVi C sV_L_123 dL_law_1233 (c_X8_count _ δ _ _) ⟨by decide, by decide⟩ (wO_X δ _) rfl rfl rfl rfl (Nat.le_of_ble_eq_true rfl) (fun r_1233 s_1233 h_1233 => ?_)
            obtain ⟨rfl, h_1233⟩ := h_1233
            refine g_pop C dL_law_1236 rfl ?_
            refine g_aload_n C dL_law_1237 rfl ?_
            refine g_aload_n C dL_law_1238 rfl ?_
            refine g_iload_n C dL_law_1239 rfl ?_
            refine g_iconst (v := 1) C dL_law_1240 (by decide) ?_
            refine g_iadd C dL_law_1241 ?_
            refine g_sldN C hX hbl hbA (by omega) (k := (k + 1)) dL_law_1242 (by first | rfl | assumption | (simp only [glit, nI_add, pk_mul]; done) | (simp only [glit, nI_add, pk_mul]; congr 1; omega) | (simp only [*, glit, nI_add, pk_mul]; congr 1; omega)) (by omega) ?_
            refine g_callVi C sV_L_126 dL_law_1243 (c_X9_count _ δ _ _) ⟨by decide, by decide⟩ (wO_M δ _) rfl rfl rfl rfl (Nat.le_of_ble_eq_true rfl) (fun r_1243 s_1243 h_1243 => ?_)
            obtain ⟨rfl, h_1243⟩ := h_1243
            refine g_pop C dL_law_1246 rfl ?_
            refine g_goto C 1250 dL_law_1247 (by decide) ?_
            refine g_iinc (v := nI (k + 6)) C dL_law_1250 rfl (ginc _ 6) rfl ?_
            refine g_lv [some _, some _, some _, some _] (gs_some (gs_some (gs_some (gs_some gs_nil)))) ?_
            refine g_goto C 18 dL_law_1253 (by decide) ?_
            refine g_lv [some _, some _, some _, some _] (gs_some (gs_some (gs_some (gs_some gs_nil)))) ?_
            exact ih_18 (k + 6) _ _ _ (by omega) J (by omega)
  refine g_lv [some _, some _, some _, some _] (gs_some (gs_some (gs_some (gs_some gs_nil)))) ?_
  exact L_18 _ 0 σ v w (Nat.zero_le _) I0 (Nat.lt_succ_self _)
