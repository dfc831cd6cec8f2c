theorem sN_X5_43 : Cond.static yX8_common ∈ gWs ∧ Cond.initialized yX8_common.cls ∈ gWs ∧ Cond.code yX8_common cX8_common 11 (some .long) ∈ gWs ∧ (yX8_common.cls ≠ "java/lang/invoke/MethodHandle" ∧ yX8_common.cls ≠ "java/lang/invoke/VarHandle") ∧ (parseMethodDescriptor yX8_common.desc).map (fun d => d.parameters.length) = some 2 := ⟨mW433, mW1, mW434, ⟨by decide +kernel, by decide +kernel⟩, by decide +kernel⟩
theorem sV_X5_31 : gSV RX5 31 yX7_lets cX7_lets 5 (some .boolean) 2 := ⟨mW427, mW361, mW362, mW9, mW363, ⟨by decide +kernel, by decide +kernel⟩, by decide +kernel⟩
theorem sV_X5_35 : gSV RX5 35 yX5_comeTimes cX5_comeTimes 13 (some .boolean) 2 := ⟨mW428, mW429, mW430, mW4, mW431, ⟨by decide +kernel, by decide +kernel⟩, by decide +kernel⟩
theorem sV_X5_39 : gSV RX5 39 yX7_grow cX7_grow 4 none 2 := ⟨mW436, mW369, mW370, mW9, mW371, ⟨by decide +kernel, by decide +kernel⟩, by decide +kernel⟩
theorem sS_X3_18 : gSS RX3 18 yJ7_fill_d0a16 cJ7_fill_d0a16 5 none 2 := ⟨mW541, mW261, mW10, mW262, ⟨by decide +kernel, by decide +kernel⟩, by decide +kernel⟩
theorem sV_X3_24 : gSV RX3 24 yX7_hasAll cX7_hasAll 5 (some .boolean) 2 := ⟨mW542, mW418, mW419, mW9, mW420, ⟨by decide +kernel, by decide +kernel⟩, by decide +kernel⟩
theorem sV_X3_30 : gSV RX3 30 yX5_follow cX5_follow 7 (some .boolean) 3 := ⟨mW543, mW423, mW424, mW4, mW425, ⟨by decide +kernel, by decide +kernel⟩, by decide +kernel⟩
theorem sS_X3_36 : gSS RX3 36 yX3_placeOf cX3_placeOf 5 (some .int) 2 := ⟨mW544, mW545, mW5, mW546, ⟨by decide +kernel, by decide +kernel⟩, by decide +kernel⟩
theorem sV_X3_40 : gSV RX3 40 yX3_isAsAhead cX3_isAsAhead 3 (some .boolean) 2 := ⟨mW549, mW551, mP11, mW5, mW552, ⟨by decide +kernel, by decide +kernel⟩, by decide +kernel⟩
theorem sV_X0_59 : gSV RX0 59 yX7_total cX7_total 1 (some .int) 0 := ⟨mW460, mW336, mW337, mW9, mW338, ⟨by decide +kernel, by decide +kernel⟩, by decide +kernel⟩
theorem sV_X0_65 : gSV RX0 65 yX7_growth cX7_growth 4 (some .int) 1 := ⟨mW461, mW344, mW345, mW9, mW346, ⟨by decide +kernel, by decide +kernel⟩, by decide +kernel⟩
theorem sS_X0_53 : gSS RX0 53 yX0_factorAt cX0_factorAt 3 (some .long) 2 := ⟨mW457, mW458, mW6, mW459, ⟨by decide +kernel, by decide +kernel⟩, by decide +kernel⟩
theorem sS_X0_47 : gSS RX0 47 yJ7_fill_53178 cJ7_fill_53178 4 none 2 := ⟨mW467, mW190, mW10, mW191, ⟨by decide +kernel, by decide +kernel⟩, by decide +kernel⟩
theorem sV_X0_107 : gSV RX0 107 yX7_lets cX7_lets 5 (some .boolean) 2 := ⟨mW495, mW361, mW362, mW9, mW363, ⟨by decide +kernel, by decide +kernel⟩, by decide +kernel⟩
theorem sV_X0_87 : gSV RX0 87 yX0_findBalls cX0_findBalls 4 none 1 := ⟨mW483, mW485, mP8, mW6, mW486, ⟨by decide +kernel, by decide +kernel⟩, by decide +kernel⟩
theorem sV_X0_95 : gSV RX0 95 yX0_spread cX0_spread 10 none 5 := ⟨mW491, mW493, mP10, mW6, mW494, ⟨by decide +kernel, by decide +kernel⟩, by decide +kernel⟩
theorem sV_X0_91 : gSV RX0 91 yX0_settle cX0_settle 5 none 3 := ⟨mW487, mW489, mP9, mW6, mW490, ⟨by decide +kernel, by decide +kernel⟩, by decide +kernel⟩
theorem sS_X0_77 : gSS RX0 77 yJ7_fill_d0a16 cJ7_fill_d0a16 5 none 2 := ⟨mW476, mW261, mW10, mW262, ⟨by decide +kernel, by decide +kernel⟩, by decide +kernel⟩
theorem sV_X0_80 : gSV RX0 80 yX0_walkStep cX0_walkStep 12 none 5 := ⟨mW477, mW479, mP7, mW6, mW480, ⟨by decide +kernel, by decide +kernel⟩, by decide +kernel⟩
theorem sV_X0_69 : gSV RX0 69 yX0_walk cX0_walk 7 none 4 := ⟨mW472, mW474, mP6, mW6, mW475, ⟨by decide +kernel, by decide +kernel⟩, by decide +kernel⟩
theorem sV_X0_73 : gSV RX0 73 yX0_through cX0_through 8 (some .long) 0 := ⟨mW524, mW525, mW526, mW6, mW527, ⟨by decide +kernel, by decide +kernel⟩, by decide +kernel⟩
theorem sN_X1_19 : Cond.static yX8_common ∈ gWs ∧ Cond.initialized yX8_common.cls ∈ gWs ∧ Cond.code yX8_common cX8_common 11 (some .long) ∈ gWs ∧ (yX8_common.cls ≠ "java/lang/invoke/MethodHandle" ∧ yX8_common.cls ≠ "java/lang/invoke/VarHandle") ∧ (parseMethodDescriptor yX8_common.desc).map (fun d => d.parameters.length) = some 2 := ⟨mW433, mW1, mW434, ⟨by decide +kernel, by decide +kernel⟩, by decide +kernel⟩
theorem sV_X8_136 : gSV RX8 136 yX7_isEven cX7_isEven 2 (some .boolean) 0 := ⟨mW339, mW340, mW341, mW9, mW342, ⟨by decide +kernel, by decide +kernel⟩, by decide +kernel⟩
theorem sV_X8_129 : gSV RX8 129 yX7_total cX7_total 1 (some .int) 0 := ⟨mW335, mW336, mW337, mW9, mW338, ⟨by decide +kernel, by decide +kernel⟩, by decide +kernel⟩
theorem sV_X8_228 : gSV RX8 228 yX0_findBelow cX0_findBelow 6 (some .boolean) 2 := ⟨mW453, mW454, mW455, mW6, mW456, ⟨by decide +kernel, by decide +kernel⟩, by decide +kernel⟩
theorem sV_X8_218 : gSV RX8 218 yX0_letAny cX0_letAny 1 none 0 := ⟨mW463, mW464, mW465, mW6, mW466, ⟨by decide +kernel, by decide +kernel⟩, by decide +kernel⟩
theorem sV_X8_232 : gSV RX8 232 yX0_weigh cX0_weigh 4 none 3 := ⟨mW468, mW469, mW470, mW6, mW471, ⟨by decide +kernel, by decide +kernel⟩, by decide +kernel⟩
theorem sV_X8_101 : gSV RX8 101 yX8_urnAt cX8_urnAt 2 (some (.object "GrowingUrns$Urn")) 1 := ⟨mW290, mW292, mP1, mW1, mW293, ⟨by decide +kernel, by decide +kernel⟩, by decide +kernel⟩
theorem sV_X8_175 : gSV RX8 175 yX7_hasAll cX7_hasAll 5 (some .boolean) 2 := ⟨mW417, mW418, mW419, mW9, mW420, ⟨by decide +kernel, by decide +kernel⟩, by decide +kernel⟩
theorem sV_X8_178 : gSV RX8 178 yX5_follow cX5_follow 7 (some .boolean) 3 := ⟨mW422, mW423, mW424, mW4, mW425, ⟨by decide +kernel, by decide +kernel⟩, by decide +kernel⟩
theorem sV_X8_189 : gSV RX8 189 yX1_become cX1_become 11 none 3 := ⟨mW437, mW438, mW439, mW7, mW440, ⟨by decide +kernel, by decide +kernel⟩, by decide +kernel⟩
theorem sS_X8_192 : gSS RX8 192 yX8_areDraws cX8_areDraws 1 (some .boolean) 1 := ⟨mW446, mW447, mW1, mW448, ⟨by decide +kernel, by decide +kernel⟩, by decide +kernel⟩
theorem sV_X8_105 : gSV RX8 105 yX7_has cX7_has 2 (some .boolean) 1 := ⟨mW294, mW295, mW296, mW9, mW297, ⟨by decide +kernel, by decide +kernel⟩, by decide +kernel⟩
theorem sV_X8_195 : gSV RX8 195 yX8_weighRows cX8_weighRows 4 (some .int) 3 := ⟨mW449, mW451, mP5, mW1, mW452, ⟨by decide +kernel, by decide +kernel⟩, by decide +kernel⟩
theorem sV_X8_209 : gSV RX8 209 yX0_findMean cX0_findMean 10 none 1 := ⟨mW508, mW509, mW510, mW6, mW511, ⟨by decide +kernel, by decide +kernel⟩, by decide +kernel⟩
theorem sV_X8_221 : gSV RX8 221 yX0_letOnly cX0_letOnly 3 none 2 := ⟨mW516, mW517, mW518, mW6, mW519, ⟨by decide +kernel, by decide +kernel⟩, by decide +kernel⟩
theorem sV_X8_224 : gSV RX8 224 yX0_countRows cX0_countRows 3 (some .long) 2 := ⟨mW520, mW521, mW522, mW6, mW523, ⟨by decide +kernel, by decide +kernel⟩, by decide +kernel⟩
theorem sV_X8_236 : gSV RX8 236 yX0_through cX0_through 8 (some .long) 0 := ⟨mW528, mW525, mW526, mW6, mW527, ⟨by decide +kernel, by decide +kernel⟩, by decide +kernel⟩
theorem sV_X8_140 : gSV RX8 140 yX7_growth cX7_growth 4 (some .int) 1 := ⟨mW347, mW344, mW345, mW9, mW346, ⟨by decide +kernel, by decide +kernel⟩, by decide +kernel⟩
theorem sV_X8_144 : gSV RX8 144 yX7_isLike cX7_isLike 4 (some .boolean) 0 := ⟨mW348, mW349, mW350, mW9, mW351, ⟨by decide +kernel, by decide +kernel⟩, by decide +kernel⟩
theorem sV_X8_240 : gSV RX8 240 yX3_areAlike cX3_areAlike 6 (some .boolean) 3 := ⟨mW537, mW538, mW539, mW5, mW540, ⟨by decide +kernel, by decide +kernel⟩, by decide +kernel⟩
set_option maxRecDepth 100000 in
set_option maxHeartbeats 4000000 in
theorem c_X8_common (l : Launch) (δ : GD) (σ : GS) (a b : Int64) : gM l δ yX8_common cX8_common 11 (some .long) 0 0 [.long a, .long b] σ (gPl (fun r σ' => σ = σ' ∧ 1 ≤ r)) := by
  refine g_of (lv0 := [some (.long a), none, some (.long b), none, none, none, none, none, none, none, none]) (by decide) rfl (Nat.le_of_ble_eq_true rfl) (fun Γ hl C E => ?_)
  subst hl
  have C : gC Γ δ cX8_common RX8 11 0 0 := C
  refine g_lload_n C dX8_common_0 rfl ?_
  refine g_lstore C dX8_common_1 (Nat.le_of_ble_eq_true rfl) rfl ?_
  refine g_lv [some _, none, some _, none, some _, none, none, none, none, none, none] (gs_some (gs_none (gs_some (gs_none (gs_some (gs_none (gs_none (gs_none (gs_none (gs_none (gs_none gs_nil))))))))))) ?_
  refine g_lload_n C dX8_common_3 rfl ?_
  refine g_lstore C dX8_common_4 (Nat.le_of_ble_eq_true rfl) rfl ?_
  refine g_lv [some _, none, some _, none, some _, none, some _, none, none, none, none] (gs_some (gs_none (gs_some (gs_none (gs_some (gs_none (gs_some (gs_none (gs_none (gs_none (gs_none gs_nil))))))))))) ?_
  refine g_iconst (v := 0) C dX8_common_6 (by decide) ?_
  refine g_istore C dX8_common_7 (Nat.le_of_ble_eq_true rfl) rfl ?_
  refine g_lv [some _, none, some _, none, some _, none, some _, none, some _, none, none] (gs_some (gs_none (gs_some (gs_none (gs_some (gs_none (gs_some (gs_none (gs_some (gs_none (gs_none gs_nil))))))))))) ?_
  have L_9 : ∀ (nn : Nat) (t : Nat) (x y : Int64) (ht : t ≤ 200), 201 - t < nn → gW Γ δ σ 9 [some (.long a), none, some (.long b), none, some (.long x), none, some (.long y), none, some (.int (nI t)), none, none] [] := by
    intro nn
    induction nn with
    | zero =>
      intro t x y ht hm_9
      exact absurd hm_9 (Nat.not_lt_zero _)
    | succ nn ih_9 =>
      intro t x y ht hm_9
      refine g_iload C dX8_common_9 rfl ?_
      refine g_sipush (v := 200) C dX8_common_11 (by decide) ?_
      refine g_icmp_ge C 45 dX8_common_14 (by decide) (fun c_14 => ?_) (fun c_14 => ?_)
      · have k_14 := gle c_14 (a := 200) (b := t) (by first | rfl | assumption | (simp only [glit, nI_add, pk_mul]; done) | (simp only [glit, nI_add, pk_mul]; congr 1; omega) | (simp only [*, glit, nI_add, pk_mul]; congr 1; omega)) (by first | rfl | assumption | (simp only [glit, nI_add, pk_mul]; done) | (simp only [glit, nI_add, pk_mul]; congr 1; omega) | (simp only [*, glit, nI_add, pk_mul]; congr 1; omega)) (by omega) (by omega)
        refine g_lload C dX8_common_45 rfl ?_
        refine g_lconst (v := 1) C dX8_common_47 (by decide) ?_
        refine g_lcmp C dX8_common_48 ?_
        refine g_if_ge C 56 dX8_common_49 (by decide) (fun c_49 => ?_) (fun c_49 => ?_)
        · rw [lg_cmp_ge] at c_49
          refine g_lload C dX8_common_56 rfl ?_
          exact g_lret C E dX8_common_58 rfl ⟨_, rfl, ⟨rfl, by first | exact c_49 | exact Int64.le_refl _⟩⟩
        · rw [lg_cmp_ge] at c_49
          refine g_lconst (v := 1) C dX8_common_52 (by decide) ?_
          refine g_goto C 58 dX8_common_53 (by decide) ?_
          exact g_lret C E dX8_common_58 rfl ⟨_, rfl, ⟨rfl, by first | exact c_49 | exact Int64.le_refl _⟩⟩
      · have k_14 := gnle c_14 (a := 200) (b := t) (by first | rfl | assumption | (simp only [glit, nI_add, pk_mul]; done) | (simp only [glit, nI_add, pk_mul]; congr 1; omega) | (simp only [*, glit, nI_add, pk_mul]; congr 1; omega)) (by first | rfl | assumption | (simp only [glit, nI_add, pk_mul]; done) | (simp only [glit, nI_add, pk_mul]; congr 1; omega) | (simp only [*, glit, nI_add, pk_mul]; congr 1; omega)) (by omega) (by omega)
        refine g_lload C dX8_common_17 rfl ?_
        refine g_lconst (v := 0) C dX8_common_19 (by decide) ?_
        refine g_lcmp C dX8_common_20 ?_
        refine g_if_eq C 45 dX8_common_21 (by decide) (fun c_21 => ?_) (fun c_21 => ?_)
        · rw [lg_cmp_eq] at c_21
          refine g_lload C dX8_common_45 rfl ?_
          refine g_lconst (v := 1) C dX8_common_47 (by decide) ?_
          refine g_lcmp C dX8_common_48 ?_
          refine g_if_ge C 56 dX8_common_49 (by decide) (fun c_49 => ?_) (fun c_49 => ?_)
          · rw [lg_cmp_ge] at c_49
            refine g_lload C dX8_common_56 rfl ?_
            exact g_lret C E dX8_common_58 rfl ⟨_, rfl, ⟨rfl, by first | exact c_49 | exact Int64.le_refl _⟩⟩
          · rw [lg_cmp_ge] at c_49
            refine g_lconst (v := 1) C dX8_common_52 (by decide) ?_
            refine g_goto C 58 dX8_common_53 (by decide) ?_
            exact g_lret C E dX8_common_58 rfl ⟨_, rfl, ⟨rfl, by first | exact c_49 | exact Int64.le_refl _⟩⟩
        · rw [lg_cmp_eq] at c_21
          refine g_lload C dX8_common_24 rfl ?_
          refine g_lload C dX8_common_26 rfl ?_
          refine g_lrem C dX8_common_28 c_21 ?_
          refine g_lstore C dX8_common_29 (Nat.le_of_ble_eq_true rfl) rfl ?_
          refine g_lv [some _, none, some _, none, some _, none, some _, none, some _, some _, none] (gs_some (gs_none (gs_some (gs_none (gs_some (gs_none (gs_some (gs_none (gs_some (gs_some (gs_none gs_nil))))))))))) ?_
          refine g_lload C dX8_common_31 rfl ?_
          refine g_lstore C dX8_common_33 (Nat.le_of_ble_eq_true rfl) rfl ?_
          refine g_lv [some _, none, some _, none, some _, none, some _, none, some _, some _, none] (gs_some (gs_none (gs_some (gs_none (gs_some (gs_none (gs_some (gs_none (gs_some (gs_some (gs_none gs_nil))))))))))) ?_
          refine g_lload C dX8_common_35 rfl ?_
          refine g_lstore C dX8_common_37 (Nat.le_of_ble_eq_true rfl) rfl ?_
          refine g_lv [some _, none, some _, none, some _, none, some _, none, some _, some _, none] (gs_some (gs_none (gs_some (gs_none (gs_some (gs_none (gs_some (gs_none (gs_some (gs_some (gs_none gs_nil))))))))))) ?_
          refine g_iinc (v := nI (t + 1)) C dX8_common_39 rfl (ginc _ 1) rfl ?_
          refine g_lv [some _, none, some _, none, some _, none, some _, none, some _, some _, none] (gs_some (gs_none (gs_some (gs_none (gs_some (gs_none (gs_some (gs_none (gs_some (gs_some (gs_none gs_nil))))))))))) ?_
          refine g_goto C 9 dX8_common_42 (by decide) ?_
          refine g_lv [some _, none, some _, none, some _, none, some _, none, some _, none, none] (gs_some (gs_none (gs_some (gs_none (gs_some (gs_none (gs_some (gs_none (gs_some (gs_none (gs_none gs_nil))))))))))) ?_
          exact ih_9 (t + 1) _ _ (by omega) (by omega)
  refine g_lv [some _, none, some _, none, some _, none, some _, none, some _, none, none] (gs_some (gs_none (gs_some (gs_none (gs_some (gs_none (gs_some (gs_none (gs_some (gs_none (gs_none gs_nil))))))))))) ?_
  exact L_9 _ 0 _ _ (by omega) (Nat.lt_succ_self _)
set_option maxRecDepth 100000 in
set_option maxHeartbeats 4000000 in
theorem c_X5_comeTimes (l : Launch) (δ : GD) (σ : GS) (a b : Int32) : gM l δ yX5_comeTimes cX5_comeTimes 13 (some .boolean) 1 30 [.ref (δ.2.2.1 18), .int a, .int b] σ (gPi (fun _ σ' => gSm σ σ')) := by
  refine g_of (lv0 := [some (.ref (δ.2.2.1 18)), some (.int a), some (.int b), none, none, none, none, none, none, none, none, none, none]) (by decide) rfl (Nat.le_of_ble_eq_true rfl) (fun Γ hl C E => ?_)
  subst hl
  have C : gC Γ δ cX5_comeTimes RX5 13 1 30 := C
  refine g_iload_n C dX5_comeTimes_0 rfl ?_
  refine g_i2l C dX5_comeTimes_1 ?_
  refine g_iload_n C dX5_comeTimes_2 rfl ?_
  refine g_i2l C dX5_comeTimes_3 ?_
  refine g_callNl C sN_X5_43 C.2.2.2.2.2.2.2.2.1.1 dX5_comeTimes_4 (c_X8_common _ δ _ _ _) ⟨by decide, by decide⟩ rfl rfl rfl (Nat.le_of_ble_eq_true rfl) (fun r_4 s_4 h_4 => ?_)
  obtain ⟨rfl, h_4⟩ := h_4
  refine g_lstore_n C dX5_comeTimes_7 (Nat.le_of_ble_eq_true rfl) rfl ?_
  refine g_lv [some _, some _, some _, some _, none, none, none, none, none, none, none, none, none] (gs_some (gs_some (gs_some (gs_some (gs_none (gs_none (gs_none (gs_none (gs_none (gs_none (gs_none (gs_none (gs_none gs_nil))))))))))))) ?_
  refine g_iload_n C dX5_comeTimes_8 rfl ?_
  refine g_i2l C dX5_comeTimes_9 ?_
  refine g_lload_n C dX5_comeTimes_10 rfl ?_
  refine g_ldiv C dX5_comeTimes_11 (gnz1 h_4) ?_
  refine g_lstore C dX5_comeTimes_12 (Nat.le_of_ble_eq_true rfl) rfl ?_
  refine g_lv [some _, some _, some _, some _, none, some _, none, none, none, none, none, none, none] (gs_some (gs_some (gs_some (gs_some (gs_none (gs_some (gs_none (gs_none (gs_none (gs_none (gs_none (gs_none (gs_none gs_nil))))))))))))) ?_
  refine g_iload_n C dX5_comeTimes_14 rfl ?_
  refine g_i2l C dX5_comeTimes_15 ?_
  refine g_lload_n C dX5_comeTimes_16 rfl ?_
  refine g_ldiv C dX5_comeTimes_17 (gnz1 h_4) ?_
  refine g_lstore C dX5_comeTimes_18 (Nat.le_of_ble_eq_true rfl) rfl ?_
  refine g_lv [some _, some _, some _, some _, none, some _, none, some _, none, none, none, none, none] (gs_some (gs_some (gs_some (gs_some (gs_none (gs_some (gs_none (gs_some (gs_none (gs_none (gs_none (gs_none (gs_none gs_nil))))))))))))) ?_
  refine g_aload_n C dX5_comeTimes_20 rfl ?_
  refine g_get C dX5_comeTimes_21 iwX5 rfl (wO_R δ _) 1 (Nat.le_of_ble_eq_true rfl) mW75 rfl rfl ?_
  refine g_lload C dX5_comeTimes_24 rfl ?_
  refine g_callNl C sN_X5_43 C.2.2.2.2.2.2.2.2.1.1 dX5_comeTimes_26 (c_X8_common _ δ _ _ _) ⟨by decide, by decide⟩ rfl rfl rfl (Nat.le_of_ble_eq_true rfl) (fun r_26 s_26 h_26 => ?_)
  obtain ⟨rfl, h_26⟩ := h_26
  refine g_lstore C dX5_comeTimes_29 (Nat.le_of_ble_eq_true rfl) rfl ?_
  refine g_lv [some _, some _, some _, some _, none, some _, none, some _, none, some _, none, none, none] (gs_some (gs_some (gs_some (gs_some (gs_none (gs_some (gs_none (gs_some (gs_none (gs_some (gs_none (gs_none (gs_none gs_nil))))))))))))) ?_
  refine g_lload C dX5_comeTimes_31 rfl ?_
  refine g_aload_n C dX5_comeTimes_33 rfl ?_
  refine g_get C dX5_comeTimes_34 iwX5 rfl (wO_R δ _) 2 (Nat.le_of_ble_eq_true rfl) mW78 rfl rfl ?_
  refine g_callNl C sN_X5_43 C.2.2.2.2.2.2.2.2.1.1 dX5_comeTimes_37 (c_X8_common _ δ _ _ _) ⟨by decide, by decide⟩ rfl rfl rfl (Nat.le_of_ble_eq_true rfl) (fun r_37 s_37 h_37 => ?_)
  obtain ⟨rfl, h_37⟩ := h_37
  refine g_lstore C dX5_comeTimes_40 (Nat.le_of_ble_eq_true rfl) rfl ?_
  refine g_lv [some _, some _, some _, some _, none, some _, none, some _, none, some _, none, some _, none] (gs_some (gs_some (gs_some (gs_some (gs_none (gs_some (gs_none (gs_some (gs_none (gs_some (gs_none (gs_some (gs_none gs_nil))))))))))))) ?_
  refine g_aload_n C dX5_comeTimes_42 rfl ?_
  refine g_dup C dX5_comeTimes_43 rfl ?_
  refine g_get C dX5_comeTimes_44 iwX5 rfl (wO_R δ _) 1 (Nat.le_of_ble_eq_true rfl) mW75 rfl rfl ?_
  refine g_lload C dX5_comeTimes_47 rfl ?_
  refine g_ldiv C dX5_comeTimes_49 (gnz1 h_26) ?_
  refine g_put C tyX5 dX5_comeTimes_50 iwX5 tyX5_ok nmX5 rfl (wO_R δ _) 1 (Nat.le_of_ble_eq_true rfl) mW75 rfl rfl rfl rfl rfl (Nat.le_of_ble_eq_true rfl) (pG_4 δ _ _) ?_
  refine g_lload C dX5_comeTimes_53 rfl ?_
  refine g_lload C dX5_comeTimes_55 rfl ?_
  refine g_ldiv C dX5_comeTimes_57 (gnz1 h_26) ?_
  refine g_lstore C dX5_comeTimes_58 (Nat.le_of_ble_eq_true rfl) rfl ?_
  refine g_lv [some _, some _, some _, some _, none, some _, none, some _, none, some _, none, some _, none] (gs_some (gs_some (gs_some (gs_some (gs_none (gs_some (gs_none (gs_some (gs_none (gs_some (gs_none (gs_some (gs_none gs_nil))))))))))))) ?_
  refine g_aload_n C dX5_comeTimes_60 rfl ?_
  refine g_dup C dX5_comeTimes_61 rfl ?_
  refine g_get C dX5_comeTimes_62 iwX5 rfl (wO_R δ _) 2 (Nat.le_of_ble_eq_true rfl) mW78 rfl rfl ?_
  refine g_lload C dX5_comeTimes_65 rfl ?_
  refine g_ldiv C dX5_comeTimes_67 (gnz1 h_37) ?_
  refine g_put C tyX5 dX5_comeTimes_68 iwX5 tyX5_ok nmX5 rfl (wO_R δ _) 2 (Nat.le_of_ble_eq_true rfl) mW78 rfl rfl rfl rfl rfl (Nat.le_of_ble_eq_true rfl) (pG_5 δ _ _) ?_
  refine g_lload C dX5_comeTimes_71 rfl ?_
  refine g_lload C dX5_comeTimes_73 rfl ?_
  refine g_ldiv C dX5_comeTimes_75 (gnz1 h_37) ?_
  refine g_lstore C dX5_comeTimes_76 (Nat.le_of_ble_eq_true rfl) rfl ?_
  refine g_lv [some _, some _, some _, some _, none, some _, none, some _, none, some _, none, some _, none] (gs_some (gs_some (gs_some (gs_some (gs_none (gs_some (gs_none (gs_some (gs_none (gs_some (gs_none (gs_some (gs_none gs_nil))))))))))))) ?_
  refine g_lload C dX5_comeTimes_78 rfl ?_
  refine g_lconst (v := 1) C dX5_comeTimes_80 (by decide) ?_
  refine g_lcmp C dX5_comeTimes_81 ?_
  refine g_if_lt C 120 dX5_comeTimes_82 (by decide) (fun c_82 => ?_) (fun c_82 => ?_)
  · rw [lg_cmp_lt] at c_82
    refine g_iconst (v := 0) C dX5_comeTimes_120 (by decide) ?_
    exact g_iret C E dX5_comeTimes_121 rfl rfl ⟨_, rfl, (by repeat (first | (with_reducible assumption) | (with_reducible exact gSm_r _) | (with_reducible refine gSm_I (by omega) ?_) | (with_reducible refine gSm_L (by omega) ?_) | (with_reducible refine gSm_N (by omega) ?_) | (with_reducible refine gSm_G (by omega) ?_) | (with_reducible refine gSm_P ?_)))⟩
  · rw [lg_cmp_lt] at c_82
    refine g_lload C dX5_comeTimes_85 rfl ?_
    refine g_lconst (v := 1) C dX5_comeTimes_87 (by decide) ?_
    refine g_lcmp C dX5_comeTimes_88 ?_
    refine g_if_lt C 120 dX5_comeTimes_89 (by decide) (fun c_89 => ?_) (fun c_89 => ?_)
    · rw [lg_cmp_lt] at c_89
      refine g_iconst (v := 0) C dX5_comeTimes_120 (by decide) ?_
      exact g_iret C E dX5_comeTimes_121 rfl rfl ⟨_, rfl, (by repeat (first | (with_reducible assumption) | (with_reducible exact gSm_r _) | (with_reducible refine gSm_I (by omega) ?_) | (with_reducible refine gSm_L (by omega) ?_) | (with_reducible refine gSm_N (by omega) ?_) | (with_reducible refine gSm_G (by omega) ?_) | (with_reducible refine gSm_P ?_)))⟩
    · rw [lg_cmp_lt] at c_89
      refine g_aload_n C dX5_comeTimes_92 rfl ?_
      refine g_get C dX5_comeTimes_93 iwX5 rfl (wO_R δ _) 1 (Nat.le_of_ble_eq_true rfl) mW75 rfl rfl ?_
      refine g_ldc2 C dX5_comeTimes_96 mW435 ?_
      refine g_lload C dX5_comeTimes_99 rfl ?_
      refine g_ldiv C dX5_comeTimes_101 (gnz2 c_82) ?_
      refine g_lcmp C dX5_comeTimes_102 ?_
      refine g_if_gt C 120 dX5_comeTimes_103 (by decide) (fun c_103 => ?_) (fun c_103 => ?_)
      · rw [lg_cmp_gt] at c_103
        refine g_iconst (v := 0) C dX5_comeTimes_120 (by decide) ?_
        exact g_iret C E dX5_comeTimes_121 rfl rfl ⟨_, rfl, (by repeat (first | (with_reducible assumption) | (with_reducible exact gSm_r _) | (with_reducible refine gSm_I (by omega) ?_) | (with_reducible refine gSm_L (by omega) ?_) | (with_reducible refine gSm_N (by omega) ?_) | (with_reducible refine gSm_G (by omega) ?_) | (with_reducible refine gSm_P ?_)))⟩
      · rw [lg_cmp_gt] at c_103
        refine g_aload_n C dX5_comeTimes_106 rfl ?_
        refine g_get C dX5_comeTimes_107 iwX5 rfl (wO_R δ _) 2 (Nat.le_of_ble_eq_true rfl) mW78 rfl rfl ?_
        refine g_ldc2 C dX5_comeTimes_110 mW435 ?_
        refine g_lload C dX5_comeTimes_113 rfl ?_
        refine g_ldiv C dX5_comeTimes_115 (gnz2 c_89) ?_
        refine g_lcmp C dX5_comeTimes_116 ?_
        refine g_if_le C 122 dX5_comeTimes_117 (by decide) (fun c_117 => ?_) (fun c_117 => ?_)
        · rw [lg_cmp_le] at c_117
          refine g_aload_n C dX5_comeTimes_122 rfl ?_
          refine g_dup C dX5_comeTimes_123 rfl ?_
          refine g_get C dX5_comeTimes_124 iwX5 rfl (wO_R δ _) 1 (Nat.le_of_ble_eq_true rfl) mW75 rfl rfl ?_
          refine g_lload C dX5_comeTimes_127 rfl ?_
          refine g_lmul C dX5_comeTimes_129 ?_
          refine g_put C tyX5 dX5_comeTimes_130 iwX5 tyX5_ok nmX5 rfl (wO_R δ _) 1 (Nat.le_of_ble_eq_true rfl) mW75 rfl rfl rfl rfl rfl (Nat.le_of_ble_eq_true rfl) (pG_4 δ _ _) ?_
          refine g_aload_n C dX5_comeTimes_133 rfl ?_
          refine g_dup C dX5_comeTimes_134 rfl ?_
          refine g_get C dX5_comeTimes_135 iwX5 rfl (wO_R δ _) 2 (Nat.le_of_ble_eq_true rfl) mW78 rfl rfl ?_
          refine g_lload C dX5_comeTimes_138 rfl ?_
          refine g_lmul C dX5_comeTimes_140 ?_
          refine g_put C tyX5 dX5_comeTimes_141 iwX5 tyX5_ok nmX5 rfl (wO_R δ _) 2 (Nat.le_of_ble_eq_true rfl) mW78 rfl rfl rfl rfl rfl (Nat.le_of_ble_eq_true rfl) (pG_5 δ _ _) ?_
          refine g_iconst (v := 1) C dX5_comeTimes_144 (by decide) ?_
          exact g_iret C E dX5_comeTimes_145 rfl rfl ⟨_, rfl, (by repeat (first | (with_reducible assumption) | (with_reducible exact gSm_r _) | (with_reducible refine gSm_I (by omega) ?_) | (with_reducible refine gSm_L (by omega) ?_) | (with_reducible refine gSm_N (by omega) ?_) | (with_reducible refine gSm_G (by omega) ?_) | (with_reducible refine gSm_P ?_)))⟩
        · rw [lg_cmp_le] at c_117
          refine g_iconst (v := 0) C dX5_comeTimes_120 (by decide) ?_
          exact g_iret C E dX5_comeTimes_121 rfl rfl ⟨_, rfl, (by repeat (first | (with_reducible assumption) | (with_reducible exact gSm_r _) | (with_reducible refine gSm_I (by omega) ?_) | (with_reducible refine gSm_L (by omega) ?_) | (with_reducible refine gSm_N (by omega) ?_) | (with_reducible refine gSm_G (by omega) ?_) | (with_reducible refine gSm_P ?_)))⟩
set_option maxRecDepth 100000 in
set_option maxHeartbeats 4000000 in
theorem c_X5_follow (l : Launch) (δ : GD) (σ : GS) {u : Nat} (hu : u < 8) {k w : Nat} (hk : k ≤ 12) (hw : w < 2147483648) {n : Nat} (hn : gN σ (14 + u) = nI n) (h4 : n ≤ 4) : gM l δ yX5_follow cX5_follow 7 (some .boolean) 2 62 [.ref (δ.2.2.1 18), .ref (δ.2.2.1 (8 + u)), .int (nI k), .int (nI w)] σ (gPi (fun _ σ' => gSm σ σ')) := by
  refine g_of (lv0 := [some (.ref (δ.2.2.1 18)), some (.ref (δ.2.2.1 (8 + u))), some (.int (nI k)), some (.int (nI w)), none, none, none]) (by decide) rfl (Nat.le_of_ble_eq_true rfl) (fun Γ hl C E => ?_)
  subst hl
  have C : gC Γ δ cX5_follow RX5 7 2 62 := C
  refine g_aload_n C dX5_follow_0 rfl ?_
  refine g_get C dX5_follow_1 iwX7 rfl (wO_U δ _ hu) 0 (Nat.le_of_ble_eq_true rfl) mW193 rfl rfl ?_
  refine g_iconst (v := 0) C dX5_follow_4 (by decide) ?_
  refine g_aload_n C dX5_follow_5 rfl ?_
  refine g_get C dX5_follow_6 iwX5 rfl (wO_R δ _) 0 (Nat.le_of_ble_eq_true rfl) mW74 rfl rfl ?_
  refine g_iconst (v := 0) C dX5_follow_9 (by decide) ?_
  refine g_iconst (v := 4) C dX5_follow_10 (by decide) ?_
  refine g_copyIN C (q0 := u) (q1 := 46) (a' := 0) (b' := 0) (c' := 4) dX5_follow_11 mW426 mW281 mW280 mW12 (by omega) (by decide) rfl rfl rfl (by first | rfl | assumption | (simp only [glit, nI_add, pk_mul]; done) | (simp only [glit, nI_add, pk_mul]; congr 1; omega) | (simp only [*, glit, nI_add, pk_mul]; congr 1; omega)) (by first | rfl | assumption | (simp only [glit, nI_add, pk_mul]; done) | (simp only [glit, nI_add, pk_mul]; congr 1; omega) | (simp only [*, glit, nI_add, pk_mul]; congr 1; omega)) (by first | rfl | assumption | (simp only [glit, nI_add, pk_mul]; done) | (simp only [glit, nI_add, pk_mul]; congr 1; omega) | (simp only [*, glit, nI_add, pk_mul]; congr 1; omega)) (by rw [gLenI_b hu]; omega) (show 0 + 4 ≤ gLenI 46 from Nat.le_trans (show 0 + 4 ≤ 4 by omega) (Nat.le_of_eq rfl)) (by decide) (Nat.le_of_ble_eq_true rfl) ?_
  refine g_aload_n C dX5_follow_14 rfl ?_
  refine g_lconst (v := 1) C dX5_follow_15 (by decide) ?_
  refine g_put C tyX5 dX5_follow_16 iwX5 tyX5_ok nmX5 rfl (wO_R δ _) 1 (Nat.le_of_ble_eq_true rfl) mW75 rfl rfl rfl rfl rfl (Nat.le_of_ble_eq_true rfl) (pG_4 δ _ _) ?_
  refine g_aload_n C dX5_follow_19 rfl ?_
  refine g_lconst (v := 1) C dX5_follow_20 (by decide) ?_
  refine g_put C tyX5 dX5_follow_21 iwX5 tyX5_ok nmX5 rfl (wO_R δ _) 2 (Nat.le_of_ble_eq_true rfl) mW78 rfl rfl rfl rfl rfl (Nat.le_of_ble_eq_true rfl) (pG_5 δ _ _) ?_
  refine g_iload_n C dX5_follow_24 rfl ?_
  refine g_istore C dX5_follow_25 (Nat.le_of_ble_eq_true rfl) rfl ?_
  refine g_lv [some _, some _, some _, some _, some _, none, none] (gs_some (gs_some (gs_some (gs_some (gs_some (gs_none (gs_none gs_nil))))))) ?_
  refine g_iconst (v := 0) C dX5_follow_27 (by decide) ?_
  refine g_istore C dX5_follow_28 (Nat.le_of_ble_eq_true rfl) rfl ?_
  refine g_lv [some _, some _, some _, some _, some _, some _, none] (gs_some (gs_some (gs_some (gs_some (gs_some (gs_some (gs_none gs_nil))))))) ?_
  have L_30 : ∀ (nn : Nat) (i : Nat) (s1 : GS) (hi : i ≤ k) (hs : gSm σ s1), k - i < nn → gW Γ δ s1 30 [some (.ref (δ.2.2.1 18)), some (.ref (δ.2.2.1 (8 + u))), some (.int (nI k)), some (.int (nI w)), some (.int (nI (w / 4 ^ i))), some (.int (nI i)), none] [] := by
    intro nn
    induction nn with
    | zero =>
      intro i s1 hi hs hm_30
      exact absurd hm_30 (Nat.not_lt_zero _)
    | succ nn ih_30 =>
      intro i s1 hi hs hm_30
      have hl := gpowle w i
      have hd4 : w / 4 ^ i % 4 < 4 := Nat.mod_lt _ (by decide)
      have hn_s1 : gN s1 (14 + u) = nI n := (gSm_n hs (by omega)).trans hn
      refine g_iload C dX5_follow_30 rfl ?_
      refine g_iload_n C dX5_follow_32 rfl ?_
      refine g_icmp_ge C 132 dX5_follow_33 (by decide) (fun c_33 => ?_) (fun c_33 => ?_)
      · have k_33 := gle c_33 (a := k) (b := i) (by first | rfl | assumption | (simp only [glit, nI_add, pk_mul]; done) | (simp only [glit, nI_add, pk_mul]; congr 1; omega) | (simp only [*, glit, nI_add, pk_mul]; congr 1; omega)) (by first | rfl | assumption | (simp only [glit, nI_add, pk_mul]; done) | (simp only [glit, nI_add, pk_mul]; congr 1; omega) | (simp only [*, glit, nI_add, pk_mul]; congr 1; omega)) (by omega) (by omega)
        refine g_iconst (v := 1) C dX5_follow_132 (by decide) ?_
        exact g_iret C E dX5_follow_133 rfl rfl ⟨_, rfl, (by repeat (first | (with_reducible assumption) | (with_reducible exact gSm_r _) | (with_reducible refine gSm_I (by omega) ?_) | (with_reducible refine gSm_L (by omega) ?_) | (with_reducible refine gSm_N (by omega) ?_) | (with_reducible refine gSm_G (by omega) ?_) | (with_reducible refine gSm_P ?_)))⟩
      · have k_33 := gnle c_33 (a := k) (b := i) (by first | rfl | assumption | (simp only [glit, nI_add, pk_mul]; done) | (simp only [glit, nI_add, pk_mul]; congr 1; omega) | (simp only [*, glit, nI_add, pk_mul]; congr 1; omega)) (by first | rfl | assumption | (simp only [glit, nI_add, pk_mul]; done) | (simp only [glit, nI_add, pk_mul]; congr 1; omega) | (simp only [*, glit, nI_add, pk_mul]; congr 1; omega)) (by omega) (by omega)
        refine g_iload C dX5_follow_36 rfl ?_
        refine g_iconst (v := 4) C dX5_follow_38 (by decide) ?_
        refine g_irem C dX5_follow_39 (by decide) ?_
        rw [gDig_rem (by omega)]
        refine g_istore C dX5_follow_40 (Nat.le_of_ble_eq_true rfl) rfl ?_
        refine g_lv [some _, some _, some _, some _, some _, some _, some _] (gs_some (gs_some (gs_some (gs_some (gs_some (gs_some (gs_some gs_nil))))))) ?_
        refine g_aload_n C dX5_follow_42 rfl ?_
        refine g_aload_n C dX5_follow_43 rfl ?_
        refine g_get C dX5_follow_44 iwX5 rfl (wO_R δ _) 0 (Nat.le_of_ble_eq_true rfl) mW74 rfl rfl ?_
        refine g_iload C dX5_follow_47 rfl ?_
        refine g_callVi C sV_X5_31 dX5_follow_49 (c_X7_lets _ δ _ hu (q := 46) (by omega) rfl (c := w / 4 ^ i % 4) hd4 hn_s1 h4) ⟨by decide, by decide⟩ (wO_U δ _ hu) rfl rfl rfl rfl (Nat.le_of_ble_eq_true rfl) (fun r_49 s_49 h_49 => ?_)
        obtain ⟨rfl, h_49⟩ := h_49
        rcases h_49 with ⟨rfl, h_49⟩ | ⟨rfl, h_49⟩
        · skip
          refine g_if_ne C 67 dX5_follow_52 (by decide) (fun c_52 => ?_) (fun c_52 => ?_)
          · refine g_aload_n C dX5_follow_67 rfl ?_
            refine g_aload_n C dX5_follow_68 rfl ?_
            refine g_get C dX5_follow_69 iwX5 rfl (wO_R δ _) 0 (Nat.le_of_ble_eq_true rfl) mW74 rfl rfl ?_
            refine g_iload C dX5_follow_72 rfl ?_
            refine g_ialdN C dX5_follow_74 (k := (w / 4 ^ i % 4)) (q := 46) (by decide) rfl (by first | rfl | assumption | (simp only [glit, nI_add, pk_mul]; done) | (simp only [glit, nI_add, pk_mul]; congr 1; omega) | (simp only [*, glit, nI_add, pk_mul]; congr 1; omega)) (show (w / 4 ^ i % 4) < gLenI 46 from Nat.lt_of_lt_of_eq (show (w / 4 ^ i % 4) < 4 by exact hd4) rfl) ?_
            refine g_aload_n C dX5_follow_75 rfl ?_
            refine g_get C dX5_follow_76 iwX5 rfl (wO_R δ _) 0 (Nat.le_of_ble_eq_true rfl) mW74 rfl rfl ?_
            refine g_iconst (v := 0) C dX5_follow_79 (by decide) ?_
            refine g_ialdN C dX5_follow_80 (k := 0) (q := 46) (by decide) rfl (by first | rfl | assumption | (simp only [glit, nI_add, pk_mul]; done) | (simp only [glit, nI_add, pk_mul]; congr 1; omega) | (simp only [*, glit, nI_add, pk_mul]; congr 1; omega)) (show 0 < gLenI 46 from Nat.lt_of_lt_of_eq (show 0 < 4 by omega) rfl) ?_
            refine g_aload_n C dX5_follow_81 rfl ?_
            refine g_get C dX5_follow_82 iwX5 rfl (wO_R δ _) 0 (Nat.le_of_ble_eq_true rfl) mW74 rfl rfl ?_
            refine g_iconst (v := 1) C dX5_follow_85 (by decide) ?_
            refine g_ialdN C dX5_follow_86 (k := 1) (q := 46) (by decide) rfl (by first | rfl | assumption | (simp only [glit, nI_add, pk_mul]; done) | (simp only [glit, nI_add, pk_mul]; congr 1; omega) | (simp only [*, glit, nI_add, pk_mul]; congr 1; omega)) (show 1 < gLenI 46 from Nat.lt_of_lt_of_eq (show 1 < 4 by omega) rfl) ?_
            refine g_iadd C dX5_follow_87 ?_
            refine g_aload_n C dX5_follow_88 rfl ?_
            refine g_get C dX5_follow_89 iwX5 rfl (wO_R δ _) 0 (Nat.le_of_ble_eq_true rfl) mW74 rfl rfl ?_
            refine g_iconst (v := 2) C dX5_follow_92 (by decide) ?_
            refine g_ialdN C dX5_follow_93 (k := 2) (q := 46) (by decide) rfl (by first | rfl | assumption | (simp only [glit, nI_add, pk_mul]; done) | (simp only [glit, nI_add, pk_mul]; congr 1; omega) | (simp only [*, glit, nI_add, pk_mul]; congr 1; omega)) (show 2 < gLenI 46 from Nat.lt_of_lt_of_eq (show 2 < 4 by omega) rfl) ?_
            refine g_iadd C dX5_follow_94 ?_
            refine g_aload_n C dX5_follow_95 rfl ?_
            refine g_get C dX5_follow_96 iwX5 rfl (wO_R δ _) 0 (Nat.le_of_ble_eq_true rfl) mW74 rfl rfl ?_
            refine g_iconst (v := 3) C dX5_follow_99 (by decide) ?_
            refine g_ialdN C dX5_follow_100 (k := 3) (q := 46) (by decide) rfl (by first | rfl | assumption | (simp only [glit, nI_add, pk_mul]; done) | (simp only [glit, nI_add, pk_mul]; congr 1; omega) | (simp only [*, glit, nI_add, pk_mul]; congr 1; omega)) (show 3 < gLenI 46 from Nat.lt_of_lt_of_eq (show 3 < 4 by omega) rfl) ?_
            refine g_iadd C dX5_follow_101 ?_
            refine g_callVi C sV_X5_35 dX5_follow_102 (c_X5_comeTimes _ δ _ _ _) ⟨by decide, by decide⟩ (wO_R δ _) rfl rfl rfl rfl (Nat.le_of_ble_eq_true rfl) (fun r_102 s_102 h_102 => ?_)
            have z_102 : gSm σ s_102 := gSm_t (by repeat (first | (with_reducible assumption) | (with_reducible exact gSm_r _) | (with_reducible refine gSm_I (by omega) ?_) | (with_reducible refine gSm_L (by omega) ?_) | (with_reducible refine gSm_N (by omega) ?_) | (with_reducible refine gSm_G (by omega) ?_) | (with_reducible refine gSm_P ?_))) h_102
            refine g_if_ne C 110 dX5_follow_105 (by decide) (fun c_105 => ?_) (fun c_105 => ?_)
            · refine g_aload_n C dX5_follow_110 rfl ?_
              refine g_aload_n C dX5_follow_111 rfl ?_
              refine g_get C dX5_follow_112 iwX5 rfl (wO_R δ _) 0 (Nat.le_of_ble_eq_true rfl) mW74 rfl rfl ?_
              refine g_iload C dX5_follow_115 rfl ?_
              refine g_callVv C sV_X5_39 dX5_follow_117 (c_X7_grow _ δ _ hu (q := 46) (by omega) rfl (by omega) (c := w / 4 ^ i % 4) hd4 ((gSm_n z_102 (by omega)).trans hn) h4) ⟨by decide, by decide⟩ (wO_U δ _ hu) rfl rfl rfl rfl (Nat.le_of_ble_eq_true rfl) (fun s_117 h_117 => ?_)
              obtain rfl := h_117
              refine g_iload C dX5_follow_120 rfl ?_
              refine g_iconst (v := 4) C dX5_follow_122 (by decide) ?_
              refine g_idiv C dX5_follow_123 (by decide) ?_
              rw [gDig_div (by omega), gpow]
              refine g_istore C dX5_follow_124 (Nat.le_of_ble_eq_true rfl) rfl ?_
              refine g_lv [some _, some _, some _, some _, some _, some _, some _] (gs_some (gs_some (gs_some (gs_some (gs_some (gs_some (gs_some gs_nil))))))) ?_
              refine g_iinc (v := nI (i + 1)) C dX5_follow_126 rfl (ginc _ 1) rfl ?_
              refine g_lv [some _, some _, some _, some _, some _, some _, some _] (gs_some (gs_some (gs_some (gs_some (gs_some (gs_some (gs_some gs_nil))))))) ?_
              refine g_goto C 30 dX5_follow_129 (by decide) ?_
              refine g_lv [some _, some _, some _, some _, some _, some _, none] (gs_some (gs_some (gs_some (gs_some (gs_some (gs_some (gs_none gs_nil))))))) ?_
              exact ih_30 (i + 1) _ (by omega) (by repeat (first | (with_reducible assumption) | (with_reducible exact gSm_r _) | (with_reducible refine gSm_I (by omega) ?_) | (with_reducible refine gSm_L (by omega) ?_) | (with_reducible refine gSm_N (by omega) ?_) | (with_reducible refine gSm_G (by omega) ?_) | (with_reducible refine gSm_P ?_))) (by omega)
            · refine g_iconst (v := 0) C dX5_follow_108 (by decide) ?_
              exact g_iret C E dX5_follow_109 rfl rfl ⟨_, rfl, (by repeat (first | (with_reducible assumption) | (with_reducible exact gSm_r _) | (with_reducible refine gSm_I (by omega) ?_) | (with_reducible refine gSm_L (by omega) ?_) | (with_reducible refine gSm_N (by omega) ?_) | (with_reducible refine gSm_G (by omega) ?_) | (with_reducible refine gSm_P ?_)))⟩
          · exact absurd c_52 (by decide)
        · skip
          refine g_if_ne C 67 dX5_follow_52 (by decide) (fun c_52 => ?_) (fun c_52 => ?_)
          · exact absurd c_52 (by decide)
          · refine g_aload_n C dX5_follow_55 rfl ?_
            refine g_lconst (v := 0) C dX5_follow_56 (by decide) ?_
            refine g_put C tyX5 dX5_follow_57 iwX5 tyX5_ok nmX5 rfl (wO_R δ _) 1 (Nat.le_of_ble_eq_true rfl) mW75 rfl rfl rfl rfl rfl (Nat.le_of_ble_eq_true rfl) (pG_4 δ _ _) ?_
            refine g_aload_n C dX5_follow_60 rfl ?_
            refine g_lconst (v := 1) C dX5_follow_61 (by decide) ?_
            refine g_put C tyX5 dX5_follow_62 iwX5 tyX5_ok nmX5 rfl (wO_R δ _) 2 (Nat.le_of_ble_eq_true rfl) mW78 rfl rfl rfl rfl rfl (Nat.le_of_ble_eq_true rfl) (pG_5 δ _ _) ?_
            refine g_iconst (v := 1) C dX5_follow_65 (by decide) ?_
            exact g_iret C E dX5_follow_66 rfl rfl ⟨_, rfl, (by repeat (first | (with_reducible assumption) | (with_reducible exact gSm_r _) | (with_reducible refine gSm_I (by omega) ?_) | (with_reducible refine gSm_L (by omega) ?_) | (with_reducible refine gSm_N (by omega) ?_) | (with_reducible refine gSm_G (by omega) ?_) | (with_reducible refine gSm_P ?_)))⟩
  refine g_lv [some _, some _, some _, some _, some _, some _, none] (gs_some (gs_some (gs_some (gs_some (gs_some (gs_some (gs_none gs_nil))))))) ?_
  have e0 : nI w = nI (w / 4 ^ 0) := by rw [Nat.pow_zero, Nat.div_one]
  refine g_lv [some (.ref (δ.2.2.1 18)), some (.ref (δ.2.2.1 (8 + u))), some (.int (nI k)), some (.int (nI w)), some (.int (nI (w / 4 ^ 0))), some (.int (nI 0)), none] (by rw [← e0]; exact gs_some (gs_some (gs_some (gs_some (gs_some (gs_some (gs_none gs_nil))))))) ?_
  exact L_30 _ 0 _ (by omega) (by repeat (first | (with_reducible assumption) | (with_reducible exact gSm_r _) | (with_reducible refine gSm_I (by omega) ?_) | (with_reducible refine gSm_L (by omega) ?_) | (with_reducible refine gSm_N (by omega) ?_) | (with_reducible refine gSm_G (by omega) ?_) | (with_reducible refine gSm_P ?_))) (Nat.lt_succ_self _)
set_option maxRecDepth 100000 in
set_option maxHeartbeats 4000000 in
theorem c_X3_placeOf (l : Launch) (δ : GD) (σ : GS) {k w : Nat} (hk : k ≤ 12) (hw : w < 2147483648) : gM l δ yX3_placeOf cX3_placeOf 5 (some .int) 0 0 [.int (nI k), .int (nI w)] σ (gPi (fun x σ' => σ = σ' ∧ ∃ p : Nat, p ≤ 36 * k ∧ x = nI p)) := by
  refine g_of (lv0 := [some (.int (nI k)), some (.int (nI w)), none, none, none]) (by decide) rfl (Nat.le_of_ble_eq_true rfl) (fun Γ hl C E => ?_)
  subst hl
  have C : gC Γ δ cX3_placeOf RX3 5 0 0 := C
  refine g_iconst (v := 0) C dX3_placeOf_0 (by decide) ?_
  refine g_istore_n C dX3_placeOf_1 (Nat.le_of_ble_eq_true rfl) rfl ?_
  refine g_lv [some _, some _, some _, none, none] (gs_some (gs_some (gs_some (gs_none (gs_none gs_nil))))) ?_
  refine g_iload_n C dX3_placeOf_2 rfl ?_
  refine g_istore_n C dX3_placeOf_3 (Nat.le_of_ble_eq_true rfl) rfl ?_
  refine g_lv [some _, some _, some _, some _, none] (gs_some (gs_some (gs_some (gs_some (gs_none gs_nil))))) ?_
  refine g_iconst (v := 0) C dX3_placeOf_4 (by decide) ?_
  refine g_istore C dX3_placeOf_5 (Nat.le_of_ble_eq_true rfl) rfl ?_
  refine g_lv [some _, some _, some _, some _, some _] (gs_some (gs_some (gs_some (gs_some (gs_some gs_nil))))) ?_
  have L_7 : ∀ (nn : Nat) (i p : Nat) (hi : i ≤ k) (hp : p ≤ 36 * i), k - i < nn → gW Γ δ σ 7 [some (.int (nI k)), some (.int (nI w)), some (.int (nI p)), some (.int (nI (w / 4 ^ i))), some (.int (nI i))] [] := by
    intro nn
    induction nn with
    | zero =>
      intro i p hi hp hm_7
      exact absurd hm_7 (Nat.not_lt_zero _)
    | succ nn ih_7 =>
      intro i p hi hp hm_7
      have hl := gpowle w i
      have hd4 : w / 4 ^ i % 4 < 4 := Nat.mod_lt _ (by decide)
      have hst := gstpO_le (w / 4 ^ i % 4)
      refine g_iload C dX3_placeOf_7 rfl ?_
      refine g_iload_n C dX3_placeOf_9 rfl ?_
      refine g_icmp_ge C 33 dX3_placeOf_10 (by decide) (fun c_10 => ?_) (fun c_10 => ?_)
      · have k_10 := gle c_10 (a := k) (b := i) (by first | rfl | assumption | (simp only [glit, nI_add, pk_mul]; done) | (simp only [glit, nI_add, pk_mul]; congr 1; omega) | (simp only [*, glit, nI_add, pk_mul]; congr 1; omega)) (by first | rfl | assumption | (simp only [glit, nI_add, pk_mul]; done) | (simp only [glit, nI_add, pk_mul]; congr 1; omega) | (simp only [*, glit, nI_add, pk_mul]; congr 1; omega)) (by omega) (by omega)
        have ek : k = i := by omega
        subst ek
        refine g_iload_n C dX3_placeOf_33 rfl ?_
        exact g_iret C E dX3_placeOf_34 rfl rfl ⟨_, rfl, ⟨rfl, p, hp, rfl⟩⟩
      · have k_10 := gnle c_10 (a := k) (b := i) (by first | rfl | assumption | (simp only [glit, nI_add, pk_mul]; done) | (simp only [glit, nI_add, pk_mul]; congr 1; omega) | (simp only [*, glit, nI_add, pk_mul]; congr 1; omega)) (by first | rfl | assumption | (simp only [glit, nI_add, pk_mul]; done) | (simp only [glit, nI_add, pk_mul]; congr 1; omega) | (simp only [*, glit, nI_add, pk_mul]; congr 1; omega)) (by omega) (by omega)
        refine g_iload_n C dX3_placeOf_13 rfl ?_
        refine g_getsO C dX3_placeOf_14 mW547 ?_
        refine g_iload_n C dX3_placeOf_17 rfl ?_
        refine g_iconst (v := 4) C dX3_placeOf_18 (by decide) ?_
        refine g_irem C dX3_placeOf_19 (by decide) ?_
        rw [gDig_rem (by omega)]
        refine g_staldON C dX3_placeOf_20 (k := (w / 4 ^ i % 4)) (by first | rfl | assumption | (simp only [glit, nI_add, pk_mul]; done) | (simp only [glit, nI_add, pk_mul]; congr 1; omega) | (simp only [*, glit, nI_add, pk_mul]; congr 1; omega)) (by omega) ?_
        refine g_iadd C dX3_placeOf_21 ?_
        rw [nI_add]
        refine g_istore_n C dX3_placeOf_22 (Nat.le_of_ble_eq_true rfl) rfl ?_
        refine g_lv [some _, some _, some _, some _, some _] (gs_some (gs_some (gs_some (gs_some (gs_some gs_nil))))) ?_
        refine g_iload_n C dX3_placeOf_23 rfl ?_
        refine g_iconst (v := 4) C dX3_placeOf_24 (by decide) ?_
        refine g_idiv C dX3_placeOf_25 (by decide) ?_
        rw [gDig_div (by omega), gpow]
        refine g_istore_n C dX3_placeOf_26 (Nat.le_of_ble_eq_true rfl) rfl ?_
        refine g_lv [some _, some _, some _, some _, some _] (gs_some (gs_some (gs_some (gs_some (gs_some gs_nil))))) ?_
        refine g_iinc (v := nI (i + 1)) C dX3_placeOf_27 rfl (ginc _ 1) rfl ?_
        refine g_lv [some _, some _, some _, some _, some _] (gs_some (gs_some (gs_some (gs_some (gs_some gs_nil))))) ?_
        refine g_goto C 7 dX3_placeOf_30 (by decide) ?_
        refine g_lv [some _, some _, some _, some _, some _] (gs_some (gs_some (gs_some (gs_some (gs_some gs_nil))))) ?_
        exact ih_7 (i + 1) _ (by omega) (by omega) (by omega)
  refine g_lv [some _, some _, some _, some _, some _] (gs_some (gs_some (gs_some (gs_some (gs_some gs_nil))))) ?_
  have e0 : nI w = nI (w / 4 ^ 0) := by rw [Nat.pow_zero, Nat.div_one]
  refine g_lv [some (.int (nI k)), some (.int (nI w)), some (.int (nI 0)), some (.int (nI (w / 4 ^ 0))), some (.int (nI 0))] (by rw [← e0]; exact gs_some (gs_some (gs_some (gs_some (gs_some gs_nil))))) ?_
  exact L_7 _ 0 0 (by omega) (by omega) (Nat.lt_succ_self _)
set_option maxRecDepth 100000 in
set_option maxHeartbeats 4000000 in
theorem c_X3_isAsAhead (l : Launch) (δ : GD) (σ : GS) {p : Nat} (hp : p < 216) : gM l δ yX3_isAsAhead cX3_isAsAhead 3 (some .boolean) 0 0 [.ref (δ.2.2.1 19), .int (nI p), .ref (δ.2.2.1 18)] σ (gPi (fun _ σ' => gSm σ σ')) := by
  refine g_of (lv0 := [some (.ref (δ.2.2.1 19)), some (.int (nI p)), some (.ref (δ.2.2.1 18))]) (by decide) rfl (Nat.le_of_ble_eq_true rfl) (fun Γ hl C E => ?_)
  subst hl
  have C : gC Γ δ cX3_isAsAhead RX3 3 0 0 := C
  refine g_aload_n C dX3_isAsAhead_0 rfl ?_
  refine g_get C dX3_isAsAhead_1 iwX3 rfl (wO_O δ _) 1 (Nat.le_of_ble_eq_true rfl) mW95 rfl rfl ?_
  refine g_iload_n C dX3_isAsAhead_4 rfl ?_
  refine g_laldN C dX3_isAsAhead_5 (k := p) (q := 7) (by decide) rfl (by first | rfl | assumption | (simp only [glit, nI_add, pk_mul]; done) | (simp only [glit, nI_add, pk_mul]; congr 1; omega) | (simp only [*, glit, nI_add, pk_mul]; congr 1; omega)) (show p < gLenL 7 from Nat.lt_of_lt_of_eq (show p < 216 by omega) rfl) ?_
  refine g_lconst (v := 0) C dX3_isAsAhead_6 (by decide) ?_
  refine g_lcmp C dX3_isAsAhead_7 ?_
  refine g_if_ne C 33 dX3_isAsAhead_8 (by decide) (fun c_8 => ?_) (fun c_8 => ?_)
  · rw [lg_cmp_eq] at c_8
    refine g_aload_n C dX3_isAsAhead_33 rfl ?_
    refine g_get C dX3_isAsAhead_34 iwX3 rfl (wO_O δ _) 0 (Nat.le_of_ble_eq_true rfl) mW94 rfl rfl ?_
    refine g_iload_n C dX3_isAsAhead_37 rfl ?_
    refine g_laldN C dX3_isAsAhead_38 (k := p) (q := 6) (by decide) rfl (by first | rfl | assumption | (simp only [glit, nI_add, pk_mul]; done) | (simp only [glit, nI_add, pk_mul]; congr 1; omega) | (simp only [*, glit, nI_add, pk_mul]; congr 1; omega)) (show p < gLenL 6 from Nat.lt_of_lt_of_eq (show p < 216 by omega) rfl) ?_
    refine g_aload_n C dX3_isAsAhead_39 rfl ?_
    refine g_get C dX3_isAsAhead_40 iwX5 rfl (wO_R δ _) 1 (Nat.le_of_ble_eq_true rfl) mW76 rfl rfl ?_
    refine g_lcmp C dX3_isAsAhead_43 ?_
    refine g_if_ne C 65 dX3_isAsAhead_44 (by decide) (fun c_44 => ?_) (fun c_44 => ?_)
    · rw [lg_cmp_eq] at c_44
      refine g_iconst (v := 0) C dX3_isAsAhead_65 (by decide) ?_
      exact g_iret C E dX3_isAsAhead_66 rfl rfl ⟨_, rfl, (by repeat (first | (with_reducible assumption) | (with_reducible exact gSm_r _) | (with_reducible refine gSm_I (by omega) ?_) | (with_reducible refine gSm_L (by omega) ?_) | (with_reducible refine gSm_N (by omega) ?_) | (with_reducible refine gSm_G (by omega) ?_) | (with_reducible refine gSm_P ?_)))⟩
    · rw [lg_cmp_eq] at c_44
      refine g_aload_n C dX3_isAsAhead_47 rfl ?_
      refine g_get C dX3_isAsAhead_48 iwX3 rfl (wO_O δ _) 1 (Nat.le_of_ble_eq_true rfl) mW95 rfl rfl ?_
      refine g_iload_n C dX3_isAsAhead_51 rfl ?_
      refine g_laldN C dX3_isAsAhead_52 (k := p) (q := 7) (by decide) rfl (by first | rfl | assumption | (simp only [glit, nI_add, pk_mul]; done) | (simp only [glit, nI_add, pk_mul]; congr 1; omega) | (simp only [*, glit, nI_add, pk_mul]; congr 1; omega)) (show p < gLenL 7 from Nat.lt_of_lt_of_eq (show p < 216 by omega) rfl) ?_
      refine g_aload_n C dX3_isAsAhead_53 rfl ?_
      refine g_get C dX3_isAsAhead_54 iwX5 rfl (wO_R δ _) 2 (Nat.le_of_ble_eq_true rfl) mW79 rfl rfl ?_
      refine g_lcmp C dX3_isAsAhead_57 ?_
      refine g_if_ne C 65 dX3_isAsAhead_58 (by decide) (fun c_58 => ?_) (fun c_58 => ?_)
      · rw [lg_cmp_eq] at c_58
        refine g_iconst (v := 0) C dX3_isAsAhead_65 (by decide) ?_
        exact g_iret C E dX3_isAsAhead_66 rfl rfl ⟨_, rfl, (by repeat (first | (with_reducible assumption) | (with_reducible exact gSm_r _) | (with_reducible refine gSm_I (by omega) ?_) | (with_reducible refine gSm_L (by omega) ?_) | (with_reducible refine gSm_N (by omega) ?_) | (with_reducible refine gSm_G (by omega) ?_) | (with_reducible refine gSm_P ?_)))⟩
      · rw [lg_cmp_eq] at c_58
        refine g_iconst (v := 1) C dX3_isAsAhead_61 (by decide) ?_
        refine g_goto C 66 dX3_isAsAhead_62 (by decide) ?_
        exact g_iret C E dX3_isAsAhead_66 rfl rfl ⟨_, rfl, (by repeat (first | (with_reducible assumption) | (with_reducible exact gSm_r _) | (with_reducible refine gSm_I (by omega) ?_) | (with_reducible refine gSm_L (by omega) ?_) | (with_reducible refine gSm_N (by omega) ?_) | (with_reducible refine gSm_G (by omega) ?_) | (with_reducible refine gSm_P ?_)))⟩
  · rw [lg_cmp_eq] at c_8
    refine g_aload_n C dX3_isAsAhead_11 rfl ?_
    refine g_get C dX3_isAsAhead_12 iwX3 rfl (wO_O δ _) 0 (Nat.le_of_ble_eq_true rfl) mW94 rfl rfl ?_
    refine g_iload_n C dX3_isAsAhead_15 rfl ?_
    refine g_aload_n C dX3_isAsAhead_16 rfl ?_
    refine g_get C dX3_isAsAhead_17 iwX5 rfl (wO_R δ _) 1 (Nat.le_of_ble_eq_true rfl) mW76 rfl rfl ?_
    refine g_lastN C dX3_isAsAhead_20 (k := p) (q := 6) (by decide) rfl (by first | rfl | assumption | (simp only [glit, nI_add, pk_mul]; done) | (simp only [glit, nI_add, pk_mul]; congr 1; omega) | (simp only [*, glit, nI_add, pk_mul]; congr 1; omega)) (show p < gLenL 6 from Nat.lt_of_lt_of_eq (show p < 216 by omega) rfl) ?_
    refine g_aload_n C dX3_isAsAhead_21 rfl ?_
    refine g_get C dX3_isAsAhead_22 iwX3 rfl (wO_O δ _) 1 (Nat.le_of_ble_eq_true rfl) mW95 rfl rfl ?_
    refine g_iload_n C dX3_isAsAhead_25 rfl ?_
    refine g_aload_n C dX3_isAsAhead_26 rfl ?_
    refine g_get C dX3_isAsAhead_27 iwX5 rfl (wO_R δ _) 2 (Nat.le_of_ble_eq_true rfl) mW79 rfl rfl ?_
    refine g_lastN C dX3_isAsAhead_30 (k := p) (q := 7) (by decide) rfl (by first | rfl | assumption | (simp only [glit, nI_add, pk_mul]; done) | (simp only [glit, nI_add, pk_mul]; congr 1; omega) | (simp only [*, glit, nI_add, pk_mul]; congr 1; omega)) (show p < gLenL 7 from Nat.lt_of_lt_of_eq (show p < 216 by omega) rfl) ?_
    refine g_iconst (v := 1) C dX3_isAsAhead_31 (by decide) ?_
    exact g_iret C E dX3_isAsAhead_32 rfl rfl ⟨_, rfl, (by repeat (first | (with_reducible assumption) | (with_reducible exact gSm_r _) | (with_reducible refine gSm_I (by omega) ?_) | (with_reducible refine gSm_L (by omega) ?_) | (with_reducible refine gSm_N (by omega) ?_) | (with_reducible refine gSm_G (by omega) ?_) | (with_reducible refine gSm_P ?_)))⟩
set_option maxRecDepth 100000 in
set_option maxHeartbeats 4000000 in
theorem c_X3_areAlike (l : Launch) (δ : GD) (σ : GS) {u : Nat} (hu : u < 8) {k : Nat} (hk : k ≤ 5) {n : Nat} (hn : gN σ (14 + u) = nI n) (h4 : n ≤ 4) : gM l δ yX3_areAlike cX3_areAlike 6 (some .boolean) 3 88 [.ref (δ.2.2.1 19), .ref (δ.2.2.1 (8 + u)), .int (nI k), .ref (δ.2.2.1 18)] σ (gPi (fun _ σ' => gSm σ σ')) := by
  refine g_of (lv0 := [some (.ref (δ.2.2.1 19)), some (.ref (δ.2.2.1 (8 + u))), some (.int (nI k)), some (.ref (δ.2.2.1 18)), none, none]) (by decide) rfl (Nat.le_of_ble_eq_true rfl) (fun Γ hl C E => ?_)
  subst hl
  have C : gC Γ δ cX3_areAlike RX3 6 3 88 := C
  have h45 := gp45 hk
  refine g_aload_n C dX3_areAlike_0 rfl ?_
  refine g_get C dX3_areAlike_1 iwX3 rfl (wO_O δ _) 1 (Nat.le_of_ble_eq_true rfl) mW95 rfl rfl ?_
  refine g_lconst (v := 0) C dX3_areAlike_4 (by decide) ?_
  refine g_callSv C sS_X3_18 dX3_areAlike_5 (c_J7_fill_d0a16 _ δ _ (q := 7) (by omega) _) ⟨by decide, by decide⟩ rfl rfl rfl (Nat.le_of_ble_eq_true rfl) (fun s_5 h_5 => ?_)
  obtain ⟨f, rfl, -⟩ := h_5
  refine g_iconst (v := 1) C dX3_areAlike_8 (by decide) ?_
  refine g_istore C dX3_areAlike_9 (Nat.le_of_ble_eq_true rfl) rfl ?_
  refine g_lv [some _, some _, some _, some _, some _, none] (gs_some (gs_some (gs_some (gs_some (gs_some (gs_none gs_nil)))))) ?_
  refine g_iconst (v := 0) C dX3_areAlike_11 (by decide) ?_
  refine g_istore C dX3_areAlike_12 (Nat.le_of_ble_eq_true rfl) rfl ?_
  refine g_lv [some _, some _, some _, some _, some _, some _] (gs_some (gs_some (gs_some (gs_some (gs_some (gs_some gs_nil)))))) ?_
  have L_14 : ∀ (nn : Nat) (i : Nat) (hi : i ≤ k), k - i < nn → gW Γ δ (uL σ 7 f) 14 [some (.ref (δ.2.2.1 19)), some (.ref (δ.2.2.1 (8 + u))), some (.int (nI k)), some (.ref (δ.2.2.1 18)), some (.int (nI (4 ^ i))), some (.int (nI i))] [] := by
    intro nn
    induction nn with
    | zero =>
      intro i hi hm_14
      exact absurd hm_14 (Nat.not_lt_zero _)
    | succ nn ih_14 =>
      intro i hi hm_14
      refine g_iload C dX3_areAlike_14 rfl ?_
      refine g_iload_n C dX3_areAlike_16 rfl ?_
      refine g_icmp_ge C 32 dX3_areAlike_17 (by decide) (fun c_17 => ?_) (fun c_17 => ?_)
      · have k_17 := gle c_17 (a := k) (b := i) (by first | rfl | assumption | (simp only [glit, nI_add, pk_mul]; done) | (simp only [glit, nI_add, pk_mul]; congr 1; omega) | (simp only [*, glit, nI_add, pk_mul]; congr 1; omega)) (by first | rfl | assumption | (simp only [glit, nI_add, pk_mul]; done) | (simp only [glit, nI_add, pk_mul]; congr 1; omega) | (simp only [*, glit, nI_add, pk_mul]; congr 1; omega)) (by omega) (by omega)
        have ek : k = i := by omega
        subst ek
        refine g_iconst (v := 0) C dX3_areAlike_32 (by decide) ?_
        refine g_istore C dX3_areAlike_33 (Nat.le_of_ble_eq_true rfl) rfl ?_
        refine g_lv [some _, some _, some _, some _, some _, some _] (gs_some (gs_some (gs_some (gs_some (gs_some (gs_some gs_nil)))))) ?_
        have L_35 : ∀ (nn : Nat) (j : Nat) (s1 : GS) (hj : j ≤ 4 ^ k) (hs : gSm σ s1), 4 ^ k - j < nn → gW Γ δ s1 35 [some (.ref (δ.2.2.1 19)), some (.ref (δ.2.2.1 (8 + u))), some (.int (nI k)), some (.ref (δ.2.2.1 18)), some (.int (nI (4 ^ k))), some (.int (nI j))] [] := by
          intro nn
          induction nn with
          | zero =>
            intro j s1 hj hs hm_35
            exact absurd hm_35 (Nat.not_lt_zero _)
          | succ nn ih_35 =>
            intro j s1 hj hs hm_35
            have hn_s1 : gN s1 (14 + u) = nI n := (gSm_n hs (by omega)).trans hn
            refine g_iload C dX3_areAlike_35 rfl ?_
            refine g_iload C dX3_areAlike_37 rfl ?_
            refine g_icmp_ge C 85 dX3_areAlike_39 (by decide) (fun c_39 => ?_) (fun c_39 => ?_)
            · have k_39 := gle c_39 (a := (4 ^ k)) (b := j) (by first | rfl | assumption | (simp only [glit, nI_add, pk_mul]; done) | (simp only [glit, nI_add, pk_mul]; congr 1; omega) | (simp only [*, glit, nI_add, pk_mul]; congr 1; omega)) (by first | rfl | assumption | (simp only [glit, nI_add, pk_mul]; done) | (simp only [glit, nI_add, pk_mul]; congr 1; omega) | (simp only [*, glit, nI_add, pk_mul]; congr 1; omega)) (by omega) (by omega)
              refine g_iconst (v := 1) C dX3_areAlike_85 (by decide) ?_
              exact g_iret C E dX3_areAlike_86 rfl rfl ⟨_, rfl, (by repeat (first | (with_reducible assumption) | (with_reducible exact gSm_r _) | (with_reducible refine gSm_I (by omega) ?_) | (with_reducible refine gSm_L (by omega) ?_) | (with_reducible refine gSm_N (by omega) ?_) | (with_reducible refine gSm_G (by omega) ?_) | (with_reducible refine gSm_P ?_)))⟩
            · have k_39 := gnle c_39 (a := (4 ^ k)) (b := j) (by first | rfl | assumption | (simp only [glit, nI_add, pk_mul]; done) | (simp only [glit, nI_add, pk_mul]; congr 1; omega) | (simp only [*, glit, nI_add, pk_mul]; congr 1; omega)) (by first | rfl | assumption | (simp only [glit, nI_add, pk_mul]; done) | (simp only [glit, nI_add, pk_mul]; congr 1; omega) | (simp only [*, glit, nI_add, pk_mul]; congr 1; omega)) (by omega) (by omega)
              refine g_aload_n C dX3_areAlike_42 rfl ?_
              refine g_iload_n C dX3_areAlike_43 rfl ?_
              refine g_iload C dX3_areAlike_44 rfl ?_
              refine g_callVi C sV_X3_24 dX3_areAlike_46 (c_X7_hasAll _ δ _ hu (k := k) (w := j) (by omega) (by omega) hn_s1 h4) ⟨by decide, by decide⟩ (wO_U δ _ hu) rfl rfl rfl rfl (Nat.le_of_ble_eq_true rfl) (fun r_46 s_46 h_46 => ?_)
              obtain ⟨rfl, h_46⟩ := h_46
              rcases h_46 with ⟨rfl, h_46⟩ | ⟨rfl, h_46⟩
              · skip
                refine g_if_eq C 79 dX3_areAlike_49 (by decide) (fun c_49 => ?_) (fun c_49 => ?_)
                · exact absurd c_49 (by decide)
                · refine g_aload_n C dX3_areAlike_52 rfl ?_
                  refine g_aload_n C dX3_areAlike_53 rfl ?_
                  refine g_iload_n C dX3_areAlike_54 rfl ?_
                  refine g_iload C dX3_areAlike_55 rfl ?_
                  refine g_callVi C sV_X3_30 dX3_areAlike_57 (c_X5_follow _ δ _ hu (k := k) (w := j) (by omega) (by omega) hn_s1 h4) ⟨by decide, by decide⟩ (wO_R δ _) rfl rfl rfl rfl (Nat.le_of_ble_eq_true rfl) (fun r_57 s_57 h_57 => ?_)
                  have z_57 : gSm σ s_57 := gSm_t (by repeat (first | (with_reducible assumption) | (with_reducible exact gSm_r _) | (with_reducible refine gSm_I (by omega) ?_) | (with_reducible refine gSm_L (by omega) ?_) | (with_reducible refine gSm_N (by omega) ?_) | (with_reducible refine gSm_G (by omega) ?_) | (with_reducible refine gSm_P ?_))) h_57
                  refine g_if_eq C 79 dX3_areAlike_60 (by decide) (fun c_60 => ?_) (fun c_60 => ?_)
                  · refine g_iinc (v := nI (j + 1)) C dX3_areAlike_79 rfl (ginc _ 1) rfl ?_
                    refine g_lv [some _, some _, some _, some _, some _, some _] (gs_some (gs_some (gs_some (gs_some (gs_some (gs_some gs_nil)))))) ?_
                    refine g_goto C 35 dX3_areAlike_82 (by decide) ?_
                    refine g_lv [some _, some _, some _, some _, some _, some _] (gs_some (gs_some (gs_some (gs_some (gs_some (gs_some gs_nil)))))) ?_
                    exact ih_35 (j + 1) _ (by omega) (by repeat (first | (with_reducible assumption) | (with_reducible exact gSm_r _) | (with_reducible refine gSm_I (by omega) ?_) | (with_reducible refine gSm_L (by omega) ?_) | (with_reducible refine gSm_N (by omega) ?_) | (with_reducible refine gSm_G (by omega) ?_) | (with_reducible refine gSm_P ?_))) (by omega)
                  · refine g_aload_n C dX3_areAlike_63 rfl ?_
                    refine g_iload_n C dX3_areAlike_64 rfl ?_
                    refine g_iload C dX3_areAlike_65 rfl ?_
                    refine g_callSi C sS_X3_36 dX3_areAlike_67 (c_X3_placeOf _ δ _ (k := k) (w := j) (by omega) (by omega)) ⟨by decide, by decide⟩ rfl rfl rfl (Nat.le_of_ble_eq_true rfl) (fun r_67 s_67 h_67 => ?_)
                    obtain ⟨rfl, p, hp, rfl⟩ := h_67
                    refine g_aload_n C dX3_areAlike_70 rfl ?_
                    refine g_callVi C sV_X3_40 dX3_areAlike_71 (c_X3_isAsAhead _ δ _ (p := p) (by omega)) ⟨by decide, by decide⟩ (wO_O δ _) rfl rfl rfl rfl (Nat.le_of_ble_eq_true rfl) (fun r_71 s_71 h_71 => ?_)
                    have z_71 : gSm σ s_71 := gSm_t (by repeat (first | (with_reducible assumption) | (with_reducible exact gSm_r _) | (with_reducible refine gSm_I (by omega) ?_) | (with_reducible refine gSm_L (by omega) ?_) | (with_reducible refine gSm_N (by omega) ?_) | (with_reducible refine gSm_G (by omega) ?_) | (with_reducible refine gSm_P ?_))) h_71
                    refine g_if_ne C 79 dX3_areAlike_74 (by decide) (fun c_74 => ?_) (fun c_74 => ?_)
                    · refine g_iinc (v := nI (j + 1)) C dX3_areAlike_79 rfl (ginc _ 1) rfl ?_
                      refine g_lv [some _, some _, some _, some _, some _, some _] (gs_some (gs_some (gs_some (gs_some (gs_some (gs_some gs_nil)))))) ?_
                      refine g_goto C 35 dX3_areAlike_82 (by decide) ?_
                      refine g_lv [some _, some _, some _, some _, some _, some _] (gs_some (gs_some (gs_some (gs_some (gs_some (gs_some gs_nil)))))) ?_
                      exact ih_35 (j + 1) _ (by omega) (by repeat (first | (with_reducible assumption) | (with_reducible exact gSm_r _) | (with_reducible refine gSm_I (by omega) ?_) | (with_reducible refine gSm_L (by omega) ?_) | (with_reducible refine gSm_N (by omega) ?_) | (with_reducible refine gSm_G (by omega) ?_) | (with_reducible refine gSm_P ?_))) (by omega)
                    · refine g_iconst (v := 0) C dX3_areAlike_77 (by decide) ?_
                      exact g_iret C E dX3_areAlike_78 rfl rfl ⟨_, rfl, (by repeat (first | (with_reducible assumption) | (with_reducible exact gSm_r _) | (with_reducible refine gSm_I (by omega) ?_) | (with_reducible refine gSm_L (by omega) ?_) | (with_reducible refine gSm_N (by omega) ?_) | (with_reducible refine gSm_G (by omega) ?_) | (with_reducible refine gSm_P ?_)))⟩
              · skip
                refine g_if_eq C 79 dX3_areAlike_49 (by decide) (fun c_49 => ?_) (fun c_49 => ?_)
                · refine g_iinc (v := nI (j + 1)) C dX3_areAlike_79 rfl (ginc _ 1) rfl ?_
                  refine g_lv [some _, some _, some _, some _, some _, some _] (gs_some (gs_some (gs_some (gs_some (gs_some (gs_some gs_nil)))))) ?_
                  refine g_goto C 35 dX3_areAlike_82 (by decide) ?_
                  refine g_lv [some _, some _, some _, some _, some _, some _] (gs_some (gs_some (gs_some (gs_some (gs_some (gs_some gs_nil)))))) ?_
                  exact ih_35 (j + 1) _ (by omega) (by repeat (first | (with_reducible assumption) | (with_reducible exact gSm_r _) | (with_reducible refine gSm_I (by omega) ?_) | (with_reducible refine gSm_L (by omega) ?_) | (with_reducible refine gSm_N (by omega) ?_) | (with_reducible refine gSm_G (by omega) ?_) | (with_reducible refine gSm_P ?_))) (by omega)
                · exact absurd c_49 (by decide)
        refine g_lv [some _, some _, some _, some _, some _, some _] (gs_some (gs_some (gs_some (gs_some (gs_some (gs_some gs_nil)))))) ?_
        exact L_35 _ 0 _ (Nat.zero_le _) (by repeat (first | (with_reducible assumption) | (with_reducible exact gSm_r _) | (with_reducible refine gSm_I (by omega) ?_) | (with_reducible refine gSm_L (by omega) ?_) | (with_reducible refine gSm_N (by omega) ?_) | (with_reducible refine gSm_G (by omega) ?_) | (with_reducible refine gSm_P ?_))) (Nat.lt_succ_self _)
      · have k_17 := gnle c_17 (a := k) (b := i) (by first | rfl | assumption | (simp only [glit, nI_add, pk_mul]; done) | (simp only [glit, nI_add, pk_mul]; congr 1; omega) | (simp only [*, glit, nI_add, pk_mul]; congr 1; omega)) (by first | rfl | assumption | (simp only [glit, nI_add, pk_mul]; done) | (simp only [glit, nI_add, pk_mul]; congr 1; omega) | (simp only [*, glit, nI_add, pk_mul]; congr 1; omega)) (by omega) (by omega)
        refine g_iload C dX3_areAlike_20 rfl ?_
        refine g_iconst (v := 4) C dX3_areAlike_22 (by decide) ?_
        refine g_imul C dX3_areAlike_23 ?_
        rw [gp4s]
        refine g_istore C dX3_areAlike_24 (Nat.le_of_ble_eq_true rfl) rfl ?_
        refine g_lv [some _, some _, some _, some _, some _, some _] (gs_some (gs_some (gs_some (gs_some (gs_some (gs_some gs_nil)))))) ?_
        refine g_iinc (v := nI (i + 1)) C dX3_areAlike_26 rfl (ginc _ 1) rfl ?_
        refine g_lv [some _, some _, some _, some _, some _, some _] (gs_some (gs_some (gs_some (gs_some (gs_some (gs_some gs_nil)))))) ?_
        refine g_goto C 14 dX3_areAlike_29 (by decide) ?_
        refine g_lv [some _, some _, some _, some _, some _, some _] (gs_some (gs_some (gs_some (gs_some (gs_some (gs_some gs_nil)))))) ?_
        exact ih_14 (i + 1) (by omega) (by omega)
  refine g_lv [some _, some _, some _, some _, some _, some _] (gs_some (gs_some (gs_some (gs_some (gs_some (gs_some gs_nil)))))) ?_
  exact L_14 _ 0 (by omega) (Nat.lt_succ_self _)
set_option maxRecDepth 100000 in
set_option maxHeartbeats 4000000 in
theorem c_X0_factorAt (l : Launch) (δ : GD) (σ : GS) {u : Nat} (hu : u < 8) (j : Int32) {n : Nat} (hn : gN σ (14 + u) = nI n) (h4 : n ≤ 4) : gM l δ yX0_factorAt cX0_factorAt 3 (some .long) 1 23 [.ref (δ.2.2.1 (8 + u)), .int j] σ (gPl (fun x σ' => σ = σ' ∧ 1 ≤ x)) := by
  refine g_of (lv0 := [some (.ref (δ.2.2.1 (8 + u))), some (.int j), none]) (by decide) rfl (Nat.le_of_ble_eq_true rfl) (fun Γ hl C E => ?_)
  subst hl
  have C : gC Γ δ cX0_factorAt RX0 3 1 23 := C
  refine g_aload_n C dX0_factorAt_0 rfl ?_
  refine g_callVi C sV_X0_59 dX0_factorAt_1 (c_X7_total _ δ _ hu) ⟨by decide, by decide⟩ (wO_U δ _ hu) rfl rfl rfl rfl (Nat.le_of_ble_eq_true rfl) (fun r_1 s_1 h_1 => ?_)
  obtain ⟨rfl, h_1⟩ := h_1
  refine g_iload_n C dX0_factorAt_4 rfl ?_
  refine g_aload_n C dX0_factorAt_5 rfl ?_
  refine g_iconst (v := 0) C dX0_factorAt_6 (by decide) ?_
  refine g_callVi C sV_X0_65 dX0_factorAt_7 (c_X7_growth _ δ _ hu (c := 0) (by omega) hn h4) ⟨by decide, by decide⟩ (wO_U δ _ hu) rfl rfl rfl rfl (Nat.le_of_ble_eq_true rfl) (fun r_7 s_7 h_7 => ?_)
  obtain ⟨rfl, h_7⟩ := h_7
  refine g_imul C dX0_factorAt_10 ?_
  refine g_iadd C dX0_factorAt_11 ?_
  refine g_istore_n C dX0_factorAt_12 (Nat.le_of_ble_eq_true rfl) rfl ?_
  refine g_lv [some _, some _, some _] (gs_some (gs_some (gs_some gs_nil))) ?_
  refine g_iload_n C dX0_factorAt_13 rfl ?_
  refine g_if_le C 22 dX0_factorAt_14 (by decide) (fun c_14 => ?_) (fun c_14 => ?_)
  · refine g_lconst (v := 1) C dX0_factorAt_22 (by decide) ?_
    exact g_lret C E dX0_factorAt_23 rfl ⟨_, rfl, ⟨rfl, by first | exact gi2l1 c_14 | decide⟩⟩
  · refine g_iload_n C dX0_factorAt_17 rfl ?_
    refine g_i2l C dX0_factorAt_18 ?_
    refine g_goto C 23 dX0_factorAt_19 (by decide) ?_
    exact g_lret C E dX0_factorAt_23 rfl ⟨_, rfl, ⟨rfl, by first | exact gi2l1 c_14 | decide⟩⟩
set_option maxRecDepth 100000 in
set_option maxHeartbeats 4000000 in
theorem c_X0_findBelow (l : Launch) (δ : GD) (σ : GS) {u : Nat} (hu : u < 8) {k : Nat} (hk : k ≤ 12) {n : Nat} (hn : gN σ (14 + u) = nI n) (h4 : n ≤ 4) : gM l δ yX0_findBelow cX0_findBelow 6 (some .boolean) 2 45 [.ref (δ.2.2.1 20), .ref (δ.2.2.1 (8 + u)), .int (nI k)] σ (gPi (fun _ σ' => gSm σ σ')) := by
  refine g_of (lv0 := [some (.ref (δ.2.2.1 20)), some (.ref (δ.2.2.1 (8 + u))), some (.int (nI k)), none, none, none]) (by decide) rfl (Nat.le_of_ble_eq_true rfl) (fun Γ hl C E => ?_)
  subst hl
  have C : gC Γ δ cX0_findBelow RX0 6 2 45 := C
  refine g_aload_n C dX0_findBelow_0 rfl ?_
  refine g_lconst (v := 1) C dX0_findBelow_1 (by decide) ?_
  refine g_put C tyX0 dX0_findBelow_2 iwX0 tyX0_ok nmX0 rfl (wO_A δ _) 8 (Nat.le_of_ble_eq_true rfl) mW119 rfl rfl rfl rfl rfl (Nat.le_of_ble_eq_true rfl) (pG_7 δ _ _) ?_
  refine g_iconst (v := 0) C dX0_findBelow_5 (by decide) ?_
  refine g_istore_n C dX0_findBelow_6 (Nat.le_of_ble_eq_true rfl) rfl ?_
  refine g_lv [some _, some _, some _, some _, none, none] (gs_some (gs_some (gs_some (gs_some (gs_none (gs_none gs_nil)))))) ?_
  have L_7 : ∀ (nn : Nat) (i : Nat) (s1 : GS) (hi : i ≤ k) (hs : gSm σ s1), k - i < nn → gW Γ δ s1 7 [some (.ref (δ.2.2.1 20)), some (.ref (δ.2.2.1 (8 + u))), some (.int (nI k)), some (.int (nI i)), none, none] [] := by
    intro nn
    induction nn with
    | zero =>
      intro i s1 hi hs hm_7
      exact absurd hm_7 (Nat.not_lt_zero _)
    | succ nn ih_7 =>
      intro i s1 hi hs hm_7
      have hn_s1 : gN s1 (14 + u) = nI n := (gSm_n hs (by omega)).trans hn
      refine g_iload_n C dX0_findBelow_7 rfl ?_
      refine g_iload_n C dX0_findBelow_8 rfl ?_
      refine g_icmp_ge C 52 dX0_findBelow_9 (by decide) (fun c_9 => ?_) (fun c_9 => ?_)
      · have k_9 := gle c_9 (a := k) (b := i) (by first | rfl | assumption | (simp only [glit, nI_add, pk_mul]; done) | (simp only [glit, nI_add, pk_mul]; congr 1; omega) | (simp only [*, glit, nI_add, pk_mul]; congr 1; omega)) (by first | rfl | assumption | (simp only [glit, nI_add, pk_mul]; done) | (simp only [glit, nI_add, pk_mul]; congr 1; omega) | (simp only [*, glit, nI_add, pk_mul]; congr 1; omega)) (by omega) (by omega)
        refine g_iconst (v := 1) C dX0_findBelow_52 (by decide) ?_
        exact g_iret C E dX0_findBelow_53 rfl rfl ⟨_, rfl, (by repeat (first | (with_reducible assumption) | (with_reducible exact gSm_r _) | (with_reducible refine gSm_I (by omega) ?_) | (with_reducible refine gSm_L (by omega) ?_) | (with_reducible refine gSm_N (by omega) ?_) | (with_reducible refine gSm_G (by omega) ?_) | (with_reducible refine gSm_P ?_)))⟩
      · have k_9 := gnle c_9 (a := k) (b := i) (by first | rfl | assumption | (simp only [glit, nI_add, pk_mul]; done) | (simp only [glit, nI_add, pk_mul]; congr 1; omega) | (simp only [*, glit, nI_add, pk_mul]; congr 1; omega)) (by first | rfl | assumption | (simp only [glit, nI_add, pk_mul]; done) | (simp only [glit, nI_add, pk_mul]; congr 1; omega) | (simp only [*, glit, nI_add, pk_mul]; congr 1; omega)) (by omega) (by omega)
        refine g_aload_n C dX0_findBelow_12 rfl ?_
        refine g_iload_n C dX0_findBelow_13 rfl ?_
        refine g_callSl C sS_X0_53 dX0_findBelow_14 (c_X0_factorAt _ δ _ hu _ hn_s1 h4) ⟨by decide, by decide⟩ rfl rfl rfl (Nat.le_of_ble_eq_true rfl) (fun r_14 s_14 h_14 => ?_)
        obtain ⟨rfl, h_14⟩ := h_14
        refine g_lstore C dX0_findBelow_17 (Nat.le_of_ble_eq_true rfl) rfl ?_
        refine g_lv [some _, some _, some _, some _, some _, none] (gs_some (gs_some (gs_some (gs_some (gs_some (gs_none gs_nil)))))) ?_
        refine g_aload_n C dX0_findBelow_19 rfl ?_
        refine g_get C dX0_findBelow_20 iwX0 rfl (wO_A δ _) 8 (Nat.le_of_ble_eq_true rfl) mW119 rfl rfl ?_
        refine g_ldc2 C dX0_findBelow_23 mW462 ?_
        refine g_lload C dX0_findBelow_26 rfl ?_
        refine g_ldiv C dX0_findBelow_28 (gnz1 h_14) ?_
        refine g_lcmp C dX0_findBelow_29 ?_
        refine g_if_le C 35 dX0_findBelow_30 (by decide) (fun c_30 => ?_) (fun c_30 => ?_)
        · rw [lg_cmp_le] at c_30
          refine g_aload_n C dX0_findBelow_35 rfl ?_
          refine g_dup C dX0_findBelow_36 rfl ?_
          refine g_get C dX0_findBelow_37 iwX0 rfl (wO_A δ _) 8 (Nat.le_of_ble_eq_true rfl) mW119 rfl rfl ?_
          refine g_lload C dX0_findBelow_40 rfl ?_
          refine g_lmul C dX0_findBelow_42 ?_
          refine g_put C tyX0 dX0_findBelow_43 iwX0 tyX0_ok nmX0 rfl (wO_A δ _) 8 (Nat.le_of_ble_eq_true rfl) mW119 rfl rfl rfl rfl rfl (Nat.le_of_ble_eq_true rfl) (pG_7 δ _ _) ?_
          refine g_iinc (v := nI (i + 1)) C dX0_findBelow_46 rfl (ginc _ 1) rfl ?_
          refine g_lv [some _, some _, some _, some _, some _, none] (gs_some (gs_some (gs_some (gs_some (gs_some (gs_none gs_nil)))))) ?_
          refine g_goto C 7 dX0_findBelow_49 (by decide) ?_
          refine g_lv [some _, some _, some _, some _, none, none] (gs_some (gs_some (gs_some (gs_some (gs_none (gs_none gs_nil)))))) ?_
          exact ih_7 (i + 1) _ (by omega) (by repeat (first | (with_reducible assumption) | (with_reducible exact gSm_r _) | (with_reducible refine gSm_I (by omega) ?_) | (with_reducible refine gSm_L (by omega) ?_) | (with_reducible refine gSm_N (by omega) ?_) | (with_reducible refine gSm_G (by omega) ?_) | (with_reducible refine gSm_P ?_))) (by omega)
        · rw [lg_cmp_le] at c_30
          refine g_iconst (v := 0) C dX0_findBelow_33 (by decide) ?_
          exact g_iret C E dX0_findBelow_34 rfl rfl ⟨_, rfl, (by repeat (first | (with_reducible assumption) | (with_reducible exact gSm_r _) | (with_reducible refine gSm_I (by omega) ?_) | (with_reducible refine gSm_L (by omega) ?_) | (with_reducible refine gSm_N (by omega) ?_) | (with_reducible refine gSm_G (by omega) ?_) | (with_reducible refine gSm_P ?_)))⟩
  refine g_lv [some _, some _, some _, some _, none, none] (gs_some (gs_some (gs_some (gs_some (gs_none (gs_none gs_nil)))))) ?_
  exact L_7 _ 0 _ (by omega) (by repeat (first | (with_reducible assumption) | (with_reducible exact gSm_r _) | (with_reducible refine gSm_I (by omega) ?_) | (with_reducible refine gSm_L (by omega) ?_) | (with_reducible refine gSm_N (by omega) ?_) | (with_reducible refine gSm_G (by omega) ?_) | (with_reducible refine gSm_P ?_))) (Nat.lt_succ_self _)
set_option maxRecDepth 100000 in
set_option maxHeartbeats 4000000 in
theorem c_X0_letAny (l : Launch) (δ : GD) (σ : GS)  : gM l δ yX0_letAny cX0_letAny 1 none 1 23 [.ref (δ.2.2.1 20)] σ (gPv (fun σ' => gSm σ σ')) := by
  refine g_of (lv0 := [some (.ref (δ.2.2.1 20))]) (by decide) rfl (Nat.le_of_ble_eq_true rfl) (fun Γ hl C E => ?_)
  subst hl
  have C : gC Γ δ cX0_letAny RX0 1 1 23 := C
  refine g_aload_n C dX0_letAny_0 rfl ?_
  refine g_get C dX0_letAny_1 iwX0 rfl (wO_A δ _) 2 (Nat.le_of_ble_eq_true rfl) mW110 rfl rfl ?_
  refine g_iconst (v := (-1)) C dX0_letAny_4 (by decide) ?_
  refine g_callSv C sS_X0_47 dX0_letAny_5 (c_J7_fill_53178 _ δ _ (q := 47) (by omega) _) ⟨by decide, by decide⟩ rfl rfl rfl (Nat.le_of_ble_eq_true rfl) (fun s_5 h_5 => ?_)
  obtain ⟨f, rfl, -⟩ := h_5
  exact g_vret C E dX0_letAny_8 rfl ⟨rfl, (by repeat (first | (with_reducible assumption) | (with_reducible exact gSm_r _) | (with_reducible refine gSm_I (by omega) ?_) | (with_reducible refine gSm_L (by omega) ?_) | (with_reducible refine gSm_N (by omega) ?_) | (with_reducible refine gSm_G (by omega) ?_) | (with_reducible refine gSm_P ?_)))⟩
set_option maxRecDepth 100000 in
set_option maxHeartbeats 4000000 in
theorem c_X0_letOnly (l : Launch) (δ : GD) (σ : GS) {i : Nat} (h1 : 1 ≤ i) (hi : i ≤ 12) (c : Int32) : gM l δ yX0_letOnly cX0_letOnly 3 none 0 0 [.ref (δ.2.2.1 20), .int (nI i), .int c] σ (gPv (fun σ' => gSm σ σ')) := by
  refine g_of (lv0 := [some (.ref (δ.2.2.1 20)), some (.int (nI i)), some (.int c)]) (by decide) rfl (Nat.le_of_ble_eq_true rfl) (fun Γ hl C E => ?_)
  subst hl
  have C : gC Γ δ cX0_letOnly RX0 3 0 0 := C
  refine g_aload_n C dX0_letOnly_0 rfl ?_
  refine g_get C dX0_letOnly_1 iwX0 rfl (wO_A δ _) 2 (Nat.le_of_ble_eq_true rfl) mW110 rfl rfl ?_
  refine g_iload_n C dX0_letOnly_4 rfl ?_
  refine g_iconst (v := 1) C dX0_letOnly_5 (by decide) ?_
  refine g_isub C dX0_letOnly_6 ?_
  refine g_iload_n C dX0_letOnly_7 rfl ?_
  refine g_iastN C dX0_letOnly_8 (k := (i - 1)) (q := 47) (by decide) rfl (gsub1 h1) (show (i - 1) < gLenI 47 from Nat.lt_of_lt_of_eq (show (i - 1) < 12 by omega) rfl) ?_
  exact g_vret C E dX0_letOnly_9 rfl ⟨rfl, (by repeat (first | (with_reducible assumption) | (with_reducible exact gSm_r _) | (with_reducible refine gSm_I (by omega) ?_) | (with_reducible refine gSm_L (by omega) ?_) | (with_reducible refine gSm_N (by omega) ?_) | (with_reducible refine gSm_G (by omega) ?_) | (with_reducible refine gSm_P ?_)))⟩
set_option maxRecDepth 100000 in
set_option maxHeartbeats 4000000 in
theorem c_X0_settle (l : Launch) (δ : GD) (σ : GS) (w : Int64) {k : Nat} (hk : k ≤ 12) (x : Int32) : gM l δ yX0_settle cX0_settle 5 none 0 0 [.ref (δ.2.2.1 20), .long w, .int (nI k), .int x] σ (gPv (fun σ' => gSm σ σ')) := by
  refine g_of (lv0 := [some (.ref (δ.2.2.1 20)), some (.long w), none, some (.int (nI k)), some (.int x)]) (by decide) rfl (Nat.le_of_ble_eq_true rfl) (fun Γ hl C E => ?_)
  subst hl
  have C : gC Γ δ cX0_settle RX0 5 0 0 := C
  refine g_aload_n C dX0_settle_0 rfl ?_
  refine g_get C dX0_settle_1 iwX0 rfl (wO_A δ _) 5 (Nat.le_of_ble_eq_true rfl) mW113 rfl rfl ?_
  refine g_iload_n C dX0_settle_4 rfl ?_
  refine g_dup2 C dX0_settle_5 rfl rfl ?_
  refine g_laldN C dX0_settle_6 (k := k) (q := 10) (by decide) rfl (by first | rfl | assumption | (simp only [glit, nI_add, pk_mul]; done) | (simp only [glit, nI_add, pk_mul]; congr 1; omega) | (simp only [*, glit, nI_add, pk_mul]; congr 1; omega)) (show k < gLenL 10 from Nat.lt_of_lt_of_eq (show k < 13 by omega) rfl) ?_
  refine g_lload_n C dX0_settle_7 rfl ?_
  refine g_ladd C dX0_settle_8 ?_
  refine g_lastN C dX0_settle_9 (k := k) (q := 10) (by decide) rfl (by first | rfl | assumption | (simp only [glit, nI_add, pk_mul]; done) | (simp only [glit, nI_add, pk_mul]; congr 1; omega) | (simp only [*, glit, nI_add, pk_mul]; congr 1; omega)) (show k < gLenL 10 from Nat.lt_of_lt_of_eq (show k < 13 by omega) rfl) ?_
  refine g_iload C dX0_settle_10 rfl ?_
  refine g_if_lt C 34 dX0_settle_12 (by decide) (fun c_12 => ?_) (fun c_12 => ?_)
  · exact g_vret C E dX0_settle_34 rfl ⟨rfl, (by repeat (first | (with_reducible assumption) | (with_reducible exact gSm_r _) | (with_reducible refine gSm_I (by omega) ?_) | (with_reducible refine gSm_L (by omega) ?_) | (with_reducible refine gSm_N (by omega) ?_) | (with_reducible refine gSm_G (by omega) ?_) | (with_reducible refine gSm_P ?_)))⟩
  · refine g_iload C dX0_settle_15 rfl ?_
    refine g_sipush (v := 200) C dX0_settle_17 (by decide) ?_
    refine g_icmp_gt C 34 dX0_settle_20 (by decide) (fun c_20 => ?_) (fun c_20 => ?_)
    · exact g_vret C E dX0_settle_34 rfl ⟨rfl, (by repeat (first | (with_reducible assumption) | (with_reducible exact gSm_r _) | (with_reducible refine gSm_I (by omega) ?_) | (with_reducible refine gSm_L (by omega) ?_) | (with_reducible refine gSm_N (by omega) ?_) | (with_reducible refine gSm_G (by omega) ?_) | (with_reducible refine gSm_P ?_)))⟩
    · obtain ⟨ex, hx⟩ := g200 c_12 (Int32.not_lt.mp c_20)
      refine g_aload_n C dX0_settle_23 rfl ?_
      refine g_get C dX0_settle_24 iwX0 rfl (wO_A δ _) 6 (Nat.le_of_ble_eq_true rfl) mW115 rfl rfl ?_
      refine g_iload C dX0_settle_27 rfl ?_
      refine g_dup2 C dX0_settle_29 rfl rfl ?_
      refine g_laldN C dX0_settle_30 (k := x.toInt.toNat) (q := 11) (by decide) rfl ex (show x.toInt.toNat < gLenL 11 from Nat.lt_of_lt_of_eq (show x.toInt.toNat < 201 by omega) rfl) ?_
      refine g_lload_n C dX0_settle_31 rfl ?_
      refine g_ladd C dX0_settle_32 ?_
      refine g_lastN C dX0_settle_33 (k := x.toInt.toNat) (q := 11) (by decide) rfl ex (show x.toInt.toNat < gLenL 11 from Nat.lt_of_lt_of_eq (show x.toInt.toNat < 201 by omega) rfl) ?_
      exact g_vret C E dX0_settle_34 rfl ⟨rfl, (by repeat (first | (with_reducible assumption) | (with_reducible exact gSm_r _) | (with_reducible refine gSm_I (by omega) ?_) | (with_reducible refine gSm_L (by omega) ?_) | (with_reducible refine gSm_N (by omega) ?_) | (with_reducible refine gSm_G (by omega) ?_) | (with_reducible refine gSm_P ?_)))⟩
set_option maxRecDepth 100000 in
set_option maxHeartbeats 4000000 in
theorem c_X0_findBalls (l : Launch) (δ : GD) (σ : GS) {u : Nat} (hu : u < 8)  : gM l δ yX0_findBalls cX0_findBalls 4 none 0 0 [.ref (δ.2.2.1 20), .ref (δ.2.2.1 (8 + u))] σ (gPv (fun σ' => gSm σ σ' ∧ gI σ' 48 = gI σ 48)) := by
  refine g_of (lv0 := [some (.ref (δ.2.2.1 20)), some (.ref (δ.2.2.1 (8 + u))), none, none]) (by decide) rfl (Nat.le_of_ble_eq_true rfl) (fun Γ hl C E => ?_)
  subst hl
  have C : gC Γ δ cX0_findBalls RX0 4 0 0 := C
  refine g_iconst (v := 0) C dX0_findBalls_0 (by decide) ?_
  refine g_istore_n C dX0_findBalls_1 (Nat.le_of_ble_eq_true rfl) rfl ?_
  refine g_lv [some _, some _, some _, none] (gs_some (gs_some (gs_some (gs_none gs_nil)))) ?_
  have L_2 : ∀ (nn : Nat) (d : Nat) (s1 : GS) (hd : d ≤ 4) (hs : gSm σ s1) (he : gI s1 48 = gI σ 48), 4 - d < nn → gW Γ δ s1 2 [some (.ref (δ.2.2.1 20)), some (.ref (δ.2.2.1 (8 + u))), some (.int (nI d)), none] [] := by
    intro nn
    induction nn with
    | zero =>
      intro d s1 hd hs he hm_2
      exact absurd hm_2 (Nat.not_lt_zero _)
    | succ nn ih_2 =>
      intro d s1 hd hs he hm_2
      refine g_iload_n C dX0_findBalls_2 rfl ?_
      refine g_iconst (v := 4) C dX0_findBalls_3 (by decide) ?_
      refine g_icmp_ge C 64 dX0_findBalls_4 (by decide) (fun c_4 => ?_) (fun c_4 => ?_)
      · have k_4 := gle c_4 (a := 4) (b := d) (by first | rfl | assumption | (simp only [glit, nI_add, pk_mul]; done) | (simp only [glit, nI_add, pk_mul]; congr 1; omega) | (simp only [*, glit, nI_add, pk_mul]; congr 1; omega)) (by first | rfl | assumption | (simp only [glit, nI_add, pk_mul]; done) | (simp only [glit, nI_add, pk_mul]; congr 1; omega) | (simp only [*, glit, nI_add, pk_mul]; congr 1; omega)) (by omega) (by omega)
        exact g_vret C E dX0_findBalls_64 rfl ⟨rfl, ⟨hs, he⟩⟩
      · have k_4 := gnle c_4 (a := 4) (b := d) (by first | rfl | assumption | (simp only [glit, nI_add, pk_mul]; done) | (simp only [glit, nI_add, pk_mul]; congr 1; omega) | (simp only [*, glit, nI_add, pk_mul]; congr 1; omega)) (by first | rfl | assumption | (simp only [glit, nI_add, pk_mul]; done) | (simp only [glit, nI_add, pk_mul]; congr 1; omega) | (simp only [*, glit, nI_add, pk_mul]; congr 1; omega)) (by omega) (by omega)
        refine g_aload_n C dX0_findBalls_7 rfl ?_
        refine g_get C dX0_findBalls_8 iwX0 rfl (wO_A δ _) 4 (Nat.le_of_ble_eq_true rfl) mW112 rfl rfl ?_
        refine g_iload_n C dX0_findBalls_11 rfl ?_
        refine g_aload_n C dX0_findBalls_12 rfl ?_
        refine g_get C dX0_findBalls_13 iwX7 rfl (wO_U δ _ hu) 0 (Nat.le_of_ble_eq_true rfl) mW195 rfl rfl ?_
        refine g_iload_n C dX0_findBalls_16 rfl ?_
        refine g_ialdN C dX0_findBalls_17 (k := d) (q := u) (by omega) rfl (by first | rfl | assumption | (simp only [glit, nI_add, pk_mul]; done) | (simp only [glit, nI_add, pk_mul]; congr 1; omega) | (simp only [*, glit, nI_add, pk_mul]; congr 1; omega)) (by rw [gLenI_b hu]; omega) ?_
        refine g_iastN C dX0_findBalls_18 (k := d) (q := 49) (by decide) rfl (by first | rfl | assumption | (simp only [glit, nI_add, pk_mul]; done) | (simp only [glit, nI_add, pk_mul]; congr 1; omega) | (simp only [*, glit, nI_add, pk_mul]; congr 1; omega)) (show d < gLenI 49 from Nat.lt_of_lt_of_eq (show d < 4 by omega) rfl) ?_
        refine g_iconst (v := 0) C dX0_findBalls_19 (by decide) ?_
        refine g_istore_n C dX0_findBalls_20 (Nat.le_of_ble_eq_true rfl) rfl ?_
        refine g_lv [some _, some _, some _, some _] (gs_some (gs_some (gs_some (gs_some gs_nil)))) ?_
        have L_21 : ∀ (nn : Nat) (c : Nat) (s2 : GS) (hc : c ≤ 4) (ht : gSm σ s2) (ht2 : gI s2 48 = gI σ 48), 4 - c < nn → gW Γ δ s2 21 [some (.ref (δ.2.2.1 20)), some (.ref (δ.2.2.1 (8 + u))), some (.int (nI d)), some (.int (nI c))] [] := by
          intro nn
          induction nn with
          | zero =>
            intro c s2 hc ht ht2 hm_21
            exact absurd hm_21 (Nat.not_lt_zero _)
          | succ nn ih_21 =>
            intro c s2 hc ht ht2 hm_21
            refine g_iload_n C dX0_findBalls_21 rfl ?_
            refine g_iconst (v := 4) C dX0_findBalls_22 (by decide) ?_
            refine g_icmp_ge C 58 dX0_findBalls_23 (by decide) (fun c_23 => ?_) (fun c_23 => ?_)
            · have k_23 := gle c_23 (a := 4) (b := c) (by first | rfl | assumption | (simp only [glit, nI_add, pk_mul]; done) | (simp only [glit, nI_add, pk_mul]; congr 1; omega) | (simp only [*, glit, nI_add, pk_mul]; congr 1; omega)) (by first | rfl | assumption | (simp only [glit, nI_add, pk_mul]; done) | (simp only [glit, nI_add, pk_mul]; congr 1; omega) | (simp only [*, glit, nI_add, pk_mul]; congr 1; omega)) (by omega) (by omega)
              refine g_iinc (v := nI (d + 1)) C dX0_findBalls_58 rfl (ginc _ 1) rfl ?_
              refine g_lv [some _, some _, some _, some _] (gs_some (gs_some (gs_some (gs_some gs_nil)))) ?_
              refine g_goto C 2 dX0_findBalls_61 (by decide) ?_
              refine g_lv [some _, some _, some _, none] (gs_some (gs_some (gs_some (gs_none gs_nil)))) ?_
              exact ih_2 (d + 1) _ (by omega) (by repeat (first | (with_reducible assumption) | (with_reducible exact gSm_r _) | (with_reducible refine gSm_I (by omega) ?_) | (with_reducible refine gSm_L (by omega) ?_) | (with_reducible refine gSm_N (by omega) ?_) | (with_reducible refine gSm_G (by omega) ?_) | (with_reducible refine gSm_P ?_))) ht2 (by omega)
            · have k_23 := gnle c_23 (a := 4) (b := c) (by first | rfl | assumption | (simp only [glit, nI_add, pk_mul]; done) | (simp only [glit, nI_add, pk_mul]; congr 1; omega) | (simp only [*, glit, nI_add, pk_mul]; congr 1; omega)) (by first | rfl | assumption | (simp only [glit, nI_add, pk_mul]; done) | (simp only [glit, nI_add, pk_mul]; congr 1; omega) | (simp only [*, glit, nI_add, pk_mul]; congr 1; omega)) (by omega) (by omega)
              refine g_aload_n C dX0_findBalls_26 rfl ?_
              refine g_get C dX0_findBalls_27 iwX0 rfl (wO_A δ _) 4 (Nat.le_of_ble_eq_true rfl) mW112 rfl rfl ?_
              refine g_iload_n C dX0_findBalls_30 rfl ?_
              refine g_dup2 C dX0_findBalls_31 rfl rfl ?_
              refine g_ialdN C dX0_findBalls_32 (k := d) (q := 49) (by decide) rfl (by first | rfl | assumption | (simp only [glit, nI_add, pk_mul]; done) | (simp only [glit, nI_add, pk_mul]; congr 1; omega) | (simp only [*, glit, nI_add, pk_mul]; congr 1; omega)) (show d < gLenI 49 from Nat.lt_of_lt_of_eq (show d < 4 by omega) rfl) ?_
              refine g_aload_n C dX0_findBalls_33 rfl ?_
              refine g_get C dX0_findBalls_34 iwX0 rfl (wO_A δ _) 3 (Nat.le_of_ble_eq_true rfl) mW111 rfl rfl ?_
              refine g_iload_n C dX0_findBalls_37 rfl ?_
              refine g_ialdN C dX0_findBalls_38 (k := c) (q := 48) (by decide) rfl (by first | rfl | assumption | (simp only [glit, nI_add, pk_mul]; done) | (simp only [glit, nI_add, pk_mul]; congr 1; omega) | (simp only [*, glit, nI_add, pk_mul]; congr 1; omega)) (show c < gLenI 48 from Nat.lt_of_lt_of_eq (show c < 4 by omega) rfl) ?_
              refine g_aload_n C dX0_findBalls_39 rfl ?_
              refine g_get C dX0_findBalls_40 iwX7 rfl (wO_U δ _ hu) 1 (Nat.le_of_ble_eq_true rfl) mW198 rfl rfl ?_
              refine g_iload_n C dX0_findBalls_43 rfl ?_
              refine g_iconst (v := 4) C dX0_findBalls_44 (by decide) ?_
              refine g_imul C dX0_findBalls_45 ?_
              refine g_iload_n C dX0_findBalls_46 rfl ?_
              refine g_iadd C dX0_findBalls_47 ?_
              refine g_ialdN C dX0_findBalls_48 (k := (c * 4 + d)) (q := (8 + u)) (by omega) (congrArg _ (by omega)) (by first | rfl | assumption | (simp only [glit, nI_add, pk_mul]; done) | (simp only [glit, nI_add, pk_mul]; congr 1; omega) | (simp only [*, glit, nI_add, pk_mul]; congr 1; omega)) (by rw [gLenI_t hu]; omega) ?_
              refine g_imul C dX0_findBalls_49 ?_
              refine g_iadd C dX0_findBalls_50 ?_
              refine g_iastN C dX0_findBalls_51 (k := d) (q := 49) (by decide) rfl (by first | rfl | assumption | (simp only [glit, nI_add, pk_mul]; done) | (simp only [glit, nI_add, pk_mul]; congr 1; omega) | (simp only [*, glit, nI_add, pk_mul]; congr 1; omega)) (show d < gLenI 49 from Nat.lt_of_lt_of_eq (show d < 4 by omega) rfl) ?_
              refine g_iinc (v := nI (c + 1)) C dX0_findBalls_52 rfl (ginc _ 1) rfl ?_
              refine g_lv [some _, some _, some _, some _] (gs_some (gs_some (gs_some (gs_some gs_nil)))) ?_
              refine g_goto C 21 dX0_findBalls_55 (by decide) ?_
              refine g_lv [some _, some _, some _, some _] (gs_some (gs_some (gs_some (gs_some gs_nil)))) ?_
              exact ih_21 (c + 1) _ (by omega) (by repeat (first | (with_reducible assumption) | (with_reducible exact gSm_r _) | (with_reducible refine gSm_I (by omega) ?_) | (with_reducible refine gSm_L (by omega) ?_) | (with_reducible refine gSm_N (by omega) ?_) | (with_reducible refine gSm_G (by omega) ?_) | (with_reducible refine gSm_P ?_))) ht2 (by omega)
        refine g_lv [some _, some _, some _, some _] (gs_some (gs_some (gs_some (gs_some gs_nil)))) ?_
        exact L_21 _ 0 _ (by omega) (by repeat (first | (with_reducible assumption) | (with_reducible exact gSm_r _) | (with_reducible refine gSm_I (by omega) ?_) | (with_reducible refine gSm_L (by omega) ?_) | (with_reducible refine gSm_N (by omega) ?_) | (with_reducible refine gSm_G (by omega) ?_) | (with_reducible refine gSm_P ?_))) he (Nat.lt_succ_self _)
  refine g_lv [some _, some _, some _, none] (gs_some (gs_some (gs_some (gs_none gs_nil)))) ?_
  exact L_2 _ 0 _ (by omega) (gSm_r _) rfl (Nat.lt_succ_self _)
set_option maxRecDepth 100000 in
set_option maxHeartbeats 4000000 in
theorem c_X0_spread (l : Launch) (δ : GD) (σ : GS) {u : Nat} (hu : u < 8) {p : Nat} (hp : p + 169 < 2197) (w : Int64) (o g : Int32) {n : Nat} (hn : gN σ (14 + u) = nI n) (h4 : n ≤ 4) : gM l δ yX0_spread cX0_spread 10 none 1 24 [.ref (δ.2.2.1 20), .ref (δ.2.2.1 (8 + u)), .int (nI p), .long w, .int o, .int g] σ (gPv (fun σ' => gSm σ σ')) := by
  refine g_of (lv0 := [some (.ref (δ.2.2.1 20)), some (.ref (δ.2.2.1 (8 + u))), some (.int (nI p)), some (.long w), none, some (.int o), some (.int g), none, none, none]) (by decide) rfl (Nat.le_of_ble_eq_true rfl) (fun Γ hl C E => ?_)
  subst hl
  have C : gC Γ δ cX0_spread RX0 10 1 24 := C
  refine g_aload_n C dX0_spread_0 rfl ?_
  refine g_get C dX0_spread_1 iwX0 rfl (wO_A δ _) 4 (Nat.le_of_ble_eq_true rfl) mW112 rfl rfl ?_
  refine g_iconst (v := 0) C dX0_spread_4 (by decide) ?_
  refine g_ialdN C dX0_spread_5 (k := 0) (q := 49) (by decide) rfl (by first | rfl | assumption | (simp only [glit, nI_add, pk_mul]; done) | (simp only [glit, nI_add, pk_mul]; congr 1; omega) | (simp only [*, glit, nI_add, pk_mul]; congr 1; omega)) (show 0 < gLenI 49 from Nat.lt_of_lt_of_eq (show 0 < 4 by omega) rfl) ?_
  refine g_aload_n C dX0_spread_6 rfl ?_
  refine g_get C dX0_spread_7 iwX0 rfl (wO_A δ _) 4 (Nat.le_of_ble_eq_true rfl) mW112 rfl rfl ?_
  refine g_iconst (v := 1) C dX0_spread_10 (by decide) ?_
  refine g_ialdN C dX0_spread_11 (k := 1) (q := 49) (by decide) rfl (by first | rfl | assumption | (simp only [glit, nI_add, pk_mul]; done) | (simp only [glit, nI_add, pk_mul]; congr 1; omega) | (simp only [*, glit, nI_add, pk_mul]; congr 1; omega)) (show 1 < gLenI 49 from Nat.lt_of_lt_of_eq (show 1 < 4 by omega) rfl) ?_
  refine g_iadd C dX0_spread_12 ?_
  refine g_aload_n C dX0_spread_13 rfl ?_
  refine g_get C dX0_spread_14 iwX0 rfl (wO_A δ _) 4 (Nat.le_of_ble_eq_true rfl) mW112 rfl rfl ?_
  refine g_iconst (v := 2) C dX0_spread_17 (by decide) ?_
  refine g_ialdN C dX0_spread_18 (k := 2) (q := 49) (by decide) rfl (by first | rfl | assumption | (simp only [glit, nI_add, pk_mul]; done) | (simp only [glit, nI_add, pk_mul]; congr 1; omega) | (simp only [*, glit, nI_add, pk_mul]; congr 1; omega)) (show 2 < gLenI 49 from Nat.lt_of_lt_of_eq (show 2 < 4 by omega) rfl) ?_
  refine g_iadd C dX0_spread_19 ?_
  refine g_aload_n C dX0_spread_20 rfl ?_
  refine g_get C dX0_spread_21 iwX0 rfl (wO_A δ _) 4 (Nat.le_of_ble_eq_true rfl) mW112 rfl rfl ?_
  refine g_iconst (v := 3) C dX0_spread_24 (by decide) ?_
  refine g_ialdN C dX0_spread_25 (k := 3) (q := 49) (by decide) rfl (by first | rfl | assumption | (simp only [glit, nI_add, pk_mul]; done) | (simp only [glit, nI_add, pk_mul]; congr 1; omega) | (simp only [*, glit, nI_add, pk_mul]; congr 1; omega)) (show 3 < gLenI 49 from Nat.lt_of_lt_of_eq (show 3 < 4 by omega) rfl) ?_
  refine g_iadd C dX0_spread_26 ?_
  refine g_if_ne C 41 dX0_spread_27 (by decide) (fun c_27 => ?_) (fun c_27 => ?_)
  · refine g_iconst (v := 0) C dX0_spread_41 (by decide) ?_
    refine g_istore C dX0_spread_42 (Nat.le_of_ble_eq_true rfl) rfl ?_
    refine g_lv [some _, some _, some _, some _, none, some _, some _, some _, none, none] (gs_some (gs_some (gs_some (gs_some (gs_none (gs_some (gs_some (gs_some (gs_none (gs_none gs_nil)))))))))) ?_
    have L_44 : ∀ (nn : Nat) (c : Nat) (s1 : GS) (hc : c ≤ n) (hs : gSm σ s1), n - c < nn → gW Γ δ s1 44 [some (.ref (δ.2.2.1 20)), some (.ref (δ.2.2.1 (8 + u))), some (.int (nI p)), some (.long w), none, some (.int o), some (.int g), some (.int (nI c)), none, none] [] := by
      intro nn
      induction nn with
      | zero =>
        intro c s1 hc hs hm_44
        exact absurd hm_44 (Nat.not_lt_zero _)
      | succ nn ih_44 =>
        intro c s1 hc hs hm_44
        have hn_s1 : gN s1 (14 + u) = nI n := (gSm_n hs (by omega)).trans hn
        have hst := gstp_le c
        refine g_iload C dX0_spread_44 rfl ?_
        refine g_aload_n C dX0_spread_46 rfl ?_
        refine g_get C dX0_spread_47 iwX7 rfl (wO_U δ _ hu) 3 (Nat.le_of_ble_eq_true rfl) mW203 rfl rfl ?_
        rw [hn_s1]
        refine g_icmp_ge C 150 dX0_spread_50 (by decide) (fun c_50 => ?_) (fun c_50 => ?_)
        · have k_50 := gle c_50 (a := n) (b := c) (by first | rfl | assumption | (simp only [glit, nI_add, pk_mul]; done) | (simp only [glit, nI_add, pk_mul]; congr 1; omega) | (simp only [*, glit, nI_add, pk_mul]; congr 1; omega)) (by first | rfl | assumption | (simp only [glit, nI_add, pk_mul]; done) | (simp only [glit, nI_add, pk_mul]; congr 1; omega) | (simp only [*, glit, nI_add, pk_mul]; congr 1; omega)) (by omega) (by omega)
          exact g_vret C E dX0_spread_150 rfl ⟨rfl, (by repeat (first | (with_reducible assumption) | (with_reducible exact gSm_r _) | (with_reducible refine gSm_I (by omega) ?_) | (with_reducible refine gSm_L (by omega) ?_) | (with_reducible refine gSm_N (by omega) ?_) | (with_reducible refine gSm_G (by omega) ?_) | (with_reducible refine gSm_P ?_)))⟩
        · have k_50 := gnle c_50 (a := n) (b := c) (by first | rfl | assumption | (simp only [glit, nI_add, pk_mul]; done) | (simp only [glit, nI_add, pk_mul]; congr 1; omega) | (simp only [*, glit, nI_add, pk_mul]; congr 1; omega)) (by first | rfl | assumption | (simp only [glit, nI_add, pk_mul]; done) | (simp only [glit, nI_add, pk_mul]; congr 1; omega) | (simp only [*, glit, nI_add, pk_mul]; congr 1; omega)) (by omega) (by omega)
          refine g_aload_n C dX0_spread_53 rfl ?_
          refine g_get C dX0_spread_54 iwX0 rfl (wO_A δ _) 4 (Nat.le_of_ble_eq_true rfl) mW112 rfl rfl ?_
          refine g_iload C dX0_spread_57 rfl ?_
          refine g_ialdN C dX0_spread_59 (k := c) (q := 49) (by decide) rfl (by first | rfl | assumption | (simp only [glit, nI_add, pk_mul]; done) | (simp only [glit, nI_add, pk_mul]; congr 1; omega) | (simp only [*, glit, nI_add, pk_mul]; congr 1; omega)) (show c < gLenI 49 from Nat.lt_of_lt_of_eq (show c < 4 by omega) rfl) ?_
          refine g_if_eq C 144 dX0_spread_60 (by decide) (fun c_60 => ?_) (fun c_60 => ?_)
          · refine g_iinc (v := nI (c + 1)) C dX0_spread_144 rfl (ginc _ 1) rfl ?_
            refine g_lv [some _, some _, some _, some _, none, some _, some _, some _, none, none] (gs_some (gs_some (gs_some (gs_some (gs_none (gs_some (gs_some (gs_some (gs_none (gs_none gs_nil)))))))))) ?_
            refine g_goto C 44 dX0_spread_147 (by decide) ?_
            refine g_lv [some _, some _, some _, some _, none, some _, some _, some _, none, none] (gs_some (gs_some (gs_some (gs_some (gs_none (gs_some (gs_some (gs_some (gs_none (gs_none gs_nil)))))))))) ?_
            exact ih_44 (c + 1) _ (by omega) (by repeat (first | (with_reducible assumption) | (with_reducible exact gSm_r _) | (with_reducible refine gSm_I (by omega) ?_) | (with_reducible refine gSm_L (by omega) ?_) | (with_reducible refine gSm_N (by omega) ?_) | (with_reducible refine gSm_G (by omega) ?_) | (with_reducible refine gSm_P ?_))) (by omega)
          · refine g_iload C dX0_spread_63 rfl ?_
            refine g_if_lt C 78 dX0_spread_65 (by decide) (fun c_65 => ?_) (fun c_65 => ?_)
            · refine g_iload C dX0_spread_78 rfl ?_
              refine g_if_eq C 96 dX0_spread_80 (by decide) (fun c_80 => ?_) (fun c_80 => ?_)
              · refine g_lload_n C dX0_spread_96 rfl ?_
                refine g_lstore C dX0_spread_97 (Nat.le_of_ble_eq_true rfl) rfl ?_
                refine g_lv [some _, some _, some _, some _, none, some _, some _, some _, some _, none] (gs_some (gs_some (gs_some (gs_some (gs_none (gs_some (gs_some (gs_some (gs_some (gs_none gs_nil)))))))))) ?_
                refine g_aload_n C dX0_spread_99 rfl ?_
                refine g_aload_n C dX0_spread_100 rfl ?_
                refine g_get C dX0_spread_101 iwX0 rfl (wO_A δ _) 4 (Nat.le_of_ble_eq_true rfl) mW112 rfl rfl ?_
                refine g_iload C dX0_spread_104 rfl ?_
                refine g_callVi C sV_X0_107 dX0_spread_106 (c_X7_lets _ δ _ hu (q := 49) (by omega) rfl (c := c) (by omega) hn_s1 h4) ⟨by decide, by decide⟩ (wO_U δ _ hu) rfl rfl rfl rfl (Nat.le_of_ble_eq_true rfl) (fun r_106 s_106 h_106 => ?_)
                obtain ⟨rfl, h_106⟩ := h_106
                rcases h_106 with ⟨rfl, h_106⟩ | ⟨rfl, h_106⟩
                · skip
                  refine g_if_eq C 133 dX0_spread_109 (by decide) (fun c_109 => ?_) (fun c_109 => ?_)
                  · exact absurd c_109 (by decide)
                  · refine g_aload_n C dX0_spread_112 rfl ?_
                    refine g_get C dX0_spread_113 iwX0 rfl (wO_A δ _) 1 (Nat.le_of_ble_eq_true rfl) mW109 rfl rfl ?_
                    refine g_iload_n C dX0_spread_116 rfl ?_
                    refine g_gets C dX0_spread_117 mW481 ?_
                    refine g_iload C dX0_spread_120 rfl ?_
                    refine g_staldN C dX0_spread_122 (k := c) (by first | rfl | assumption | (simp only [glit, nI_add, pk_mul]; done) | (simp only [glit, nI_add, pk_mul]; congr 1; omega) | (simp only [*, glit, nI_add, pk_mul]; congr 1; omega)) (by omega) ?_
                    refine g_iadd C dX0_spread_123 ?_
                    refine g_dup2 C dX0_spread_124 rfl rfl ?_
                    refine g_laldN C dX0_spread_125 (k := (p + (gstp c))) (q := (8 + gP _ / 2 % 2)) (by omega) (gnx _ _) (by first | rfl | assumption | (simp only [glit, nI_add, pk_mul]; done) | (simp only [glit, nI_add, pk_mul]; congr 1; omega) | (simp only [*, glit, nI_add, pk_mul]; congr 1; omega)) (by rw [gLenL_n2 _]; omega) ?_
                    refine g_lload C dX0_spread_126 rfl ?_
                    refine g_ladd C dX0_spread_128 ?_
                    refine g_lastN C dX0_spread_129 (k := (p + (gstp c))) (q := (8 + gP _ / 2 % 2)) (by omega) (gnx _ _) (by first | rfl | assumption | (simp only [glit, nI_add, pk_mul]; done) | (simp only [glit, nI_add, pk_mul]; congr 1; omega) | (simp only [*, glit, nI_add, pk_mul]; congr 1; omega)) (by rw [gLenL_n2 _]; omega) ?_
                    refine g_goto C 144 dX0_spread_130 (by decide) ?_
                    refine g_iinc (v := nI (c + 1)) C dX0_spread_144 rfl (ginc _ 1) rfl ?_
                    refine g_lv [some _, some _, some _, some _, none, some _, some _, some _, some _, none] (gs_some (gs_some (gs_some (gs_some (gs_none (gs_some (gs_some (gs_some (gs_some (gs_none gs_nil)))))))))) ?_
                    refine g_goto C 44 dX0_spread_147 (by decide) ?_
                    refine g_lv [some _, some _, some _, some _, none, some _, some _, some _, none, none] (gs_some (gs_some (gs_some (gs_some (gs_none (gs_some (gs_some (gs_some (gs_none (gs_none gs_nil)))))))))) ?_
                    exact ih_44 (c + 1) _ (by omega) (by repeat (first | (with_reducible assumption) | (with_reducible exact gSm_r _) | (with_reducible refine gSm_I (by omega) ?_) | (with_reducible refine gSm_L (by omega) ?_) | (with_reducible refine gSm_N (by omega) ?_) | (with_reducible refine gSm_G (by omega) ?_) | (with_reducible refine gSm_P ?_))) (by omega)
                · skip
                  refine g_if_eq C 133 dX0_spread_109 (by decide) (fun c_109 => ?_) (fun c_109 => ?_)
                  · refine g_aload_n C dX0_spread_133 rfl ?_
                    refine g_dup C dX0_spread_134 rfl ?_
                    refine g_get C dX0_spread_135 iwX0 rfl (wO_A δ _) 7 (Nat.le_of_ble_eq_true rfl) mW117 rfl rfl ?_
                    refine g_lload C dX0_spread_138 rfl ?_
                    refine g_ladd C dX0_spread_140 ?_
                    refine g_put C tyX0 dX0_spread_141 iwX0 tyX0_ok nmX0 rfl (wO_A δ _) 7 (Nat.le_of_ble_eq_true rfl) mW117 rfl rfl rfl rfl rfl (Nat.le_of_ble_eq_true rfl) (pG_6 δ _ _) ?_
                    refine g_iinc (v := nI (c + 1)) C dX0_spread_144 rfl (ginc _ 1) rfl ?_
                    refine g_lv [some _, some _, some _, some _, none, some _, some _, some _, some _, none] (gs_some (gs_some (gs_some (gs_some (gs_none (gs_some (gs_some (gs_some (gs_some (gs_none gs_nil)))))))))) ?_
                    refine g_goto C 44 dX0_spread_147 (by decide) ?_
                    refine g_lv [some _, some _, some _, some _, none, some _, some _, some _, none, none] (gs_some (gs_some (gs_some (gs_some (gs_none (gs_some (gs_some (gs_some (gs_none (gs_none gs_nil)))))))))) ?_
                    exact ih_44 (c + 1) _ (by omega) (by repeat (first | (with_reducible assumption) | (with_reducible exact gSm_r _) | (with_reducible refine gSm_I (by omega) ?_) | (with_reducible refine gSm_L (by omega) ?_) | (with_reducible refine gSm_N (by omega) ?_) | (with_reducible refine gSm_G (by omega) ?_) | (with_reducible refine gSm_P ?_))) (by omega)
                  · exact absurd c_109 (by decide)
              · refine g_lload_n C dX0_spread_83 rfl ?_
                refine g_aload_n C dX0_spread_84 rfl ?_
                refine g_get C dX0_spread_85 iwX0 rfl (wO_A δ _) 4 (Nat.le_of_ble_eq_true rfl) mW112 rfl rfl ?_
                refine g_iload C dX0_spread_88 rfl ?_
                refine g_ialdN C dX0_spread_90 (k := c) (q := 49) (by decide) rfl (by first | rfl | assumption | (simp only [glit, nI_add, pk_mul]; done) | (simp only [glit, nI_add, pk_mul]; congr 1; omega) | (simp only [*, glit, nI_add, pk_mul]; congr 1; omega)) (show c < gLenI 49 from Nat.lt_of_lt_of_eq (show c < 4 by omega) rfl) ?_
                refine g_i2l C dX0_spread_91 ?_
                refine g_lmul C dX0_spread_92 ?_
                refine g_goto C 97 dX0_spread_93 (by decide) ?_
                refine g_lstore C dX0_spread_97 (Nat.le_of_ble_eq_true rfl) rfl ?_
                refine g_lv [some _, some _, some _, some _, none, some _, some _, some _, some _, none] (gs_some (gs_some (gs_some (gs_some (gs_none (gs_some (gs_some (gs_some (gs_some (gs_none gs_nil)))))))))) ?_
                refine g_aload_n C dX0_spread_99 rfl ?_
                refine g_aload_n C dX0_spread_100 rfl ?_
                refine g_get C dX0_spread_101 iwX0 rfl (wO_A δ _) 4 (Nat.le_of_ble_eq_true rfl) mW112 rfl rfl ?_
                refine g_iload C dX0_spread_104 rfl ?_
                refine g_callVi C sV_X0_107 dX0_spread_106 (c_X7_lets _ δ _ hu (q := 49) (by omega) rfl (c := c) (by omega) hn_s1 h4) ⟨by decide, by decide⟩ (wO_U δ _ hu) rfl rfl rfl rfl (Nat.le_of_ble_eq_true rfl) (fun r_106 s_106 h_106 => ?_)
                obtain ⟨rfl, h_106⟩ := h_106
                rcases h_106 with ⟨rfl, h_106⟩ | ⟨rfl, h_106⟩
                · skip
                  refine g_if_eq C 133 dX0_spread_109 (by decide) (fun c_109 => ?_) (fun c_109 => ?_)
                  · exact absurd c_109 (by decide)
                  · refine g_aload_n C dX0_spread_112 rfl ?_
                    refine g_get C dX0_spread_113 iwX0 rfl (wO_A δ _) 1 (Nat.le_of_ble_eq_true rfl) mW109 rfl rfl ?_
                    refine g_iload_n C dX0_spread_116 rfl ?_
                    refine g_gets C dX0_spread_117 mW481 ?_
                    refine g_iload C dX0_spread_120 rfl ?_
                    refine g_staldN C dX0_spread_122 (k := c) (by first | rfl | assumption | (simp only [glit, nI_add, pk_mul]; done) | (simp only [glit, nI_add, pk_mul]; congr 1; omega) | (simp only [*, glit, nI_add, pk_mul]; congr 1; omega)) (by omega) ?_
                    refine g_iadd C dX0_spread_123 ?_
                    refine g_dup2 C dX0_spread_124 rfl rfl ?_
                    refine g_laldN C dX0_spread_125 (k := (p + (gstp c))) (q := (8 + gP _ / 2 % 2)) (by omega) (gnx _ _) (by first | rfl | assumption | (simp only [glit, nI_add, pk_mul]; done) | (simp only [glit, nI_add, pk_mul]; congr 1; omega) | (simp only [*, glit, nI_add, pk_mul]; congr 1; omega)) (by rw [gLenL_n2 _]; omega) ?_
                    refine g_lload C dX0_spread_126 rfl ?_
                    refine g_ladd C dX0_spread_128 ?_
                    refine g_lastN C dX0_spread_129 (k := (p + (gstp c))) (q := (8 + gP _ / 2 % 2)) (by omega) (gnx _ _) (by first | rfl | assumption | (simp only [glit, nI_add, pk_mul]; done) | (simp only [glit, nI_add, pk_mul]; congr 1; omega) | (simp only [*, glit, nI_add, pk_mul]; congr 1; omega)) (by rw [gLenL_n2 _]; omega) ?_
                    refine g_goto C 144 dX0_spread_130 (by decide) ?_
                    refine g_iinc (v := nI (c + 1)) C dX0_spread_144 rfl (ginc _ 1) rfl ?_
                    refine g_lv [some _, some _, some _, some _, none, some _, some _, some _, some _, none] (gs_some (gs_some (gs_some (gs_some (gs_none (gs_some (gs_some (gs_some (gs_some (gs_none gs_nil)))))))))) ?_
                    refine g_goto C 44 dX0_spread_147 (by decide) ?_
                    refine g_lv [some _, some _, some _, some _, none, some _, some _, some _, none, none] (gs_some (gs_some (gs_some (gs_some (gs_none (gs_some (gs_some (gs_some (gs_none (gs_none gs_nil)))))))))) ?_
                    exact ih_44 (c + 1) _ (by omega) (by repeat (first | (with_reducible assumption) | (with_reducible exact gSm_r _) | (with_reducible refine gSm_I (by omega) ?_) | (with_reducible refine gSm_L (by omega) ?_) | (with_reducible refine gSm_N (by omega) ?_) | (with_reducible refine gSm_G (by omega) ?_) | (with_reducible refine gSm_P ?_))) (by omega)
                · skip
                  refine g_if_eq C 133 dX0_spread_109 (by decide) (fun c_109 => ?_) (fun c_109 => ?_)
                  · refine g_aload_n C dX0_spread_133 rfl ?_
                    refine g_dup C dX0_spread_134 rfl ?_
                    refine g_get C dX0_spread_135 iwX0 rfl (wO_A δ _) 7 (Nat.le_of_ble_eq_true rfl) mW117 rfl rfl ?_
                    refine g_lload C dX0_spread_138 rfl ?_
                    refine g_ladd C dX0_spread_140 ?_
                    refine g_put C tyX0 dX0_spread_141 iwX0 tyX0_ok nmX0 rfl (wO_A δ _) 7 (Nat.le_of_ble_eq_true rfl) mW117 rfl rfl rfl rfl rfl (Nat.le_of_ble_eq_true rfl) (pG_6 δ _ _) ?_
                    refine g_iinc (v := nI (c + 1)) C dX0_spread_144 rfl (ginc _ 1) rfl ?_
                    refine g_lv [some _, some _, some _, some _, none, some _, some _, some _, some _, none] (gs_some (gs_some (gs_some (gs_some (gs_none (gs_some (gs_some (gs_some (gs_some (gs_none gs_nil)))))))))) ?_
                    refine g_goto C 44 dX0_spread_147 (by decide) ?_
                    refine g_lv [some _, some _, some _, some _, none, some _, some _, some _, none, none] (gs_some (gs_some (gs_some (gs_some (gs_none (gs_some (gs_some (gs_some (gs_none (gs_none gs_nil)))))))))) ?_
                    exact ih_44 (c + 1) _ (by omega) (by repeat (first | (with_reducible assumption) | (with_reducible exact gSm_r _) | (with_reducible refine gSm_I (by omega) ?_) | (with_reducible refine gSm_L (by omega) ?_) | (with_reducible refine gSm_N (by omega) ?_) | (with_reducible refine gSm_G (by omega) ?_) | (with_reducible refine gSm_P ?_))) (by omega)
                  · exact absurd c_109 (by decide)
            · refine g_iload C dX0_spread_68 rfl ?_
              refine g_iload C dX0_spread_70 rfl ?_
              refine g_icmp_eq C 78 dX0_spread_72 (by decide) (fun c_72 => ?_) (fun c_72 => ?_)
              · refine g_iload C dX0_spread_78 rfl ?_
                refine g_if_eq C 96 dX0_spread_80 (by decide) (fun c_80 => ?_) (fun c_80 => ?_)
                · refine g_lload_n C dX0_spread_96 rfl ?_
                  refine g_lstore C dX0_spread_97 (Nat.le_of_ble_eq_true rfl) rfl ?_
                  refine g_lv [some _, some _, some _, some _, none, some _, some _, some _, some _, none] (gs_some (gs_some (gs_some (gs_some (gs_none (gs_some (gs_some (gs_some (gs_some (gs_none gs_nil)))))))))) ?_
                  refine g_aload_n C dX0_spread_99 rfl ?_
                  refine g_aload_n C dX0_spread_100 rfl ?_
                  refine g_get C dX0_spread_101 iwX0 rfl (wO_A δ _) 4 (Nat.le_of_ble_eq_true rfl) mW112 rfl rfl ?_
                  refine g_iload C dX0_spread_104 rfl ?_
                  refine g_callVi C sV_X0_107 dX0_spread_106 (c_X7_lets _ δ _ hu (q := 49) (by omega) rfl (c := c) (by omega) hn_s1 h4) ⟨by decide, by decide⟩ (wO_U δ _ hu) rfl rfl rfl rfl (Nat.le_of_ble_eq_true rfl) (fun r_106 s_106 h_106 => ?_)
                  obtain ⟨rfl, h_106⟩ := h_106
                  rcases h_106 with ⟨rfl, h_106⟩ | ⟨rfl, h_106⟩
                  · skip
                    refine g_if_eq C 133 dX0_spread_109 (by decide) (fun c_109 => ?_) (fun c_109 => ?_)
                    · exact absurd c_109 (by decide)
                    · refine g_aload_n C dX0_spread_112 rfl ?_
                      refine g_get C dX0_spread_113 iwX0 rfl (wO_A δ _) 1 (Nat.le_of_ble_eq_true rfl) mW109 rfl rfl ?_
                      refine g_iload_n C dX0_spread_116 rfl ?_
                      refine g_gets C dX0_spread_117 mW481 ?_
                      refine g_iload C dX0_spread_120 rfl ?_
                      refine g_staldN C dX0_spread_122 (k := c) (by first | rfl | assumption | (simp only [glit, nI_add, pk_mul]; done) | (simp only [glit, nI_add, pk_mul]; congr 1; omega) | (simp only [*, glit, nI_add, pk_mul]; congr 1; omega)) (by omega) ?_
                      refine g_iadd C dX0_spread_123 ?_
                      refine g_dup2 C dX0_spread_124 rfl rfl ?_
                      refine g_laldN C dX0_spread_125 (k := (p + (gstp c))) (q := (8 + gP _ / 2 % 2)) (by omega) (gnx _ _) (by first | rfl | assumption | (simp only [glit, nI_add, pk_mul]; done) | (simp only [glit, nI_add, pk_mul]; congr 1; omega) | (simp only [*, glit, nI_add, pk_mul]; congr 1; omega)) (by rw [gLenL_n2 _]; omega) ?_
                      refine g_lload C dX0_spread_126 rfl ?_
                      refine g_ladd C dX0_spread_128 ?_
                      refine g_lastN C dX0_spread_129 (k := (p + (gstp c))) (q := (8 + gP _ / 2 % 2)) (by omega) (gnx _ _) (by first | rfl | assumption | (simp only [glit, nI_add, pk_mul]; done) | (simp only [glit, nI_add, pk_mul]; congr 1; omega) | (simp only [*, glit, nI_add, pk_mul]; congr 1; omega)) (by rw [gLenL_n2 _]; omega) ?_
                      refine g_goto C 144 dX0_spread_130 (by decide) ?_
                      refine g_iinc (v := nI (c + 1)) C dX0_spread_144 rfl (ginc _ 1) rfl ?_
                      refine g_lv [some _, some _, some _, some _, none, some _, some _, some _, some _, none] (gs_some (gs_some (gs_some (gs_some (gs_none (gs_some (gs_some (gs_some (gs_some (gs_none gs_nil)))))))))) ?_
                      refine g_goto C 44 dX0_spread_147 (by decide) ?_
                      refine g_lv [some _, some _, some _, some _, none, some _, some _, some _, none, none] (gs_some (gs_some (gs_some (gs_some (gs_none (gs_some (gs_some (gs_some (gs_none (gs_none gs_nil)))))))))) ?_
                      exact ih_44 (c + 1) _ (by omega) (by repeat (first | (with_reducible assumption) | (with_reducible exact gSm_r _) | (with_reducible refine gSm_I (by omega) ?_) | (with_reducible refine gSm_L (by omega) ?_) | (with_reducible refine gSm_N (by omega) ?_) | (with_reducible refine gSm_G (by omega) ?_) | (with_reducible refine gSm_P ?_))) (by omega)
                  · skip
                    refine g_if_eq C 133 dX0_spread_109 (by decide) (fun c_109 => ?_) (fun c_109 => ?_)
                    · refine g_aload_n C dX0_spread_133 rfl ?_
                      refine g_dup C dX0_spread_134 rfl ?_
                      refine g_get C dX0_spread_135 iwX0 rfl (wO_A δ _) 7 (Nat.le_of_ble_eq_true rfl) mW117 rfl rfl ?_
                      refine g_lload C dX0_spread_138 rfl ?_
                      refine g_ladd C dX0_spread_140 ?_
                      refine g_put C tyX0 dX0_spread_141 iwX0 tyX0_ok nmX0 rfl (wO_A δ _) 7 (Nat.le_of_ble_eq_true rfl) mW117 rfl rfl rfl rfl rfl (Nat.le_of_ble_eq_true rfl) (pG_6 δ _ _) ?_
                      refine g_iinc (v := nI (c + 1)) C dX0_spread_144 rfl (ginc _ 1) rfl ?_
                      refine g_lv [some _, some _, some _, some _, none, some _, some _, some _, some _, none] (gs_some (gs_some (gs_some (gs_some (gs_none (gs_some (gs_some (gs_some (gs_some (gs_none gs_nil)))))))))) ?_
                      refine g_goto C 44 dX0_spread_147 (by decide) ?_
                      refine g_lv [some _, some _, some _, some _, none, some _, some _, some _, none, none] (gs_some (gs_some (gs_some (gs_some (gs_none (gs_some (gs_some (gs_some (gs_none (gs_none gs_nil)))))))))) ?_
                      exact ih_44 (c + 1) _ (by omega) (by repeat (first | (with_reducible assumption) | (with_reducible exact gSm_r _) | (with_reducible refine gSm_I (by omega) ?_) | (with_reducible refine gSm_L (by omega) ?_) | (with_reducible refine gSm_N (by omega) ?_) | (with_reducible refine gSm_G (by omega) ?_) | (with_reducible refine gSm_P ?_))) (by omega)
                    · exact absurd c_109 (by decide)
                · refine g_lload_n C dX0_spread_83 rfl ?_
                  refine g_aload_n C dX0_spread_84 rfl ?_
                  refine g_get C dX0_spread_85 iwX0 rfl (wO_A δ _) 4 (Nat.le_of_ble_eq_true rfl) mW112 rfl rfl ?_
                  refine g_iload C dX0_spread_88 rfl ?_
                  refine g_ialdN C dX0_spread_90 (k := c) (q := 49) (by decide) rfl (by first | rfl | assumption | (simp only [glit, nI_add, pk_mul]; done) | (simp only [glit, nI_add, pk_mul]; congr 1; omega) | (simp only [*, glit, nI_add, pk_mul]; congr 1; omega)) (show c < gLenI 49 from Nat.lt_of_lt_of_eq (show c < 4 by omega) rfl) ?_
                  refine g_i2l C dX0_spread_91 ?_
                  refine g_lmul C dX0_spread_92 ?_
                  refine g_goto C 97 dX0_spread_93 (by decide) ?_
                  refine g_lstore C dX0_spread_97 (Nat.le_of_ble_eq_true rfl) rfl ?_
                  refine g_lv [some _, some _, some _, some _, none, some _, some _, some _, some _, none] (gs_some (gs_some (gs_some (gs_some (gs_none (gs_some (gs_some (gs_some (gs_some (gs_none gs_nil)))))))))) ?_
                  refine g_aload_n C dX0_spread_99 rfl ?_
                  refine g_aload_n C dX0_spread_100 rfl ?_
                  refine g_get C dX0_spread_101 iwX0 rfl (wO_A δ _) 4 (Nat.le_of_ble_eq_true rfl) mW112 rfl rfl ?_
                  refine g_iload C dX0_spread_104 rfl ?_
                  refine g_callVi C sV_X0_107 dX0_spread_106 (c_X7_lets _ δ _ hu (q := 49) (by omega) rfl (c := c) (by omega) hn_s1 h4) ⟨by decide, by decide⟩ (wO_U δ _ hu) rfl rfl rfl rfl (Nat.le_of_ble_eq_true rfl) (fun r_106 s_106 h_106 => ?_)
                  obtain ⟨rfl, h_106⟩ := h_106
                  rcases h_106 with ⟨rfl, h_106⟩ | ⟨rfl, h_106⟩
                  · skip
                    refine g_if_eq C 133 dX0_spread_109 (by decide) (fun c_109 => ?_) (fun c_109 => ?_)
                    · exact absurd c_109 (by decide)
                    · refine g_aload_n C dX0_spread_112 rfl ?_
                      refine g_get C dX0_spread_113 iwX0 rfl (wO_A δ _) 1 (Nat.le_of_ble_eq_true rfl) mW109 rfl rfl ?_
                      refine g_iload_n C dX0_spread_116 rfl ?_
                      refine g_gets C dX0_spread_117 mW481 ?_
                      refine g_iload C dX0_spread_120 rfl ?_
                      refine g_staldN C dX0_spread_122 (k := c) (by first | rfl | assumption | (simp only [glit, nI_add, pk_mul]; done) | (simp only [glit, nI_add, pk_mul]; congr 1; omega) | (simp only [*, glit, nI_add, pk_mul]; congr 1; omega)) (by omega) ?_
                      refine g_iadd C dX0_spread_123 ?_
                      refine g_dup2 C dX0_spread_124 rfl rfl ?_
                      refine g_laldN C dX0_spread_125 (k := (p + (gstp c))) (q := (8 + gP _ / 2 % 2)) (by omega) (gnx _ _) (by first | rfl | assumption | (simp only [glit, nI_add, pk_mul]; done) | (simp only [glit, nI_add, pk_mul]; congr 1; omega) | (simp only [*, glit, nI_add, pk_mul]; congr 1; omega)) (by rw [gLenL_n2 _]; omega) ?_
                      refine g_lload C dX0_spread_126 rfl ?_
                      refine g_ladd C dX0_spread_128 ?_
                      refine g_lastN C dX0_spread_129 (k := (p + (gstp c))) (q := (8 + gP _ / 2 % 2)) (by omega) (gnx _ _) (by first | rfl | assumption | (simp only [glit, nI_add, pk_mul]; done) | (simp only [glit, nI_add, pk_mul]; congr 1; omega) | (simp only [*, glit, nI_add, pk_mul]; congr 1; omega)) (by rw [gLenL_n2 _]; omega) ?_
                      refine g_goto C 144 dX0_spread_130 (by decide) ?_
                      refine g_iinc (v := nI (c + 1)) C dX0_spread_144 rfl (ginc _ 1) rfl ?_
                      refine g_lv [some _, some _, some _, some _, none, some _, some _, some _, some _, none] (gs_some (gs_some (gs_some (gs_some (gs_none (gs_some (gs_some (gs_some (gs_some (gs_none gs_nil)))))))))) ?_
                      refine g_goto C 44 dX0_spread_147 (by decide) ?_
                      refine g_lv [some _, some _, some _, some _, none, some _, some _, some _, none, none] (gs_some (gs_some (gs_some (gs_some (gs_none (gs_some (gs_some (gs_some (gs_none (gs_none gs_nil)))))))))) ?_
                      exact ih_44 (c + 1) _ (by omega) (by repeat (first | (with_reducible assumption) | (with_reducible exact gSm_r _) | (with_reducible refine gSm_I (by omega) ?_) | (with_reducible refine gSm_L (by omega) ?_) | (with_reducible refine gSm_N (by omega) ?_) | (with_reducible refine gSm_G (by omega) ?_) | (with_reducible refine gSm_P ?_))) (by omega)
                  · skip
                    refine g_if_eq C 133 dX0_spread_109 (by decide) (fun c_109 => ?_) (fun c_109 => ?_)
                    · refine g_aload_n C dX0_spread_133 rfl ?_
                      refine g_dup C dX0_spread_134 rfl ?_
                      refine g_get C dX0_spread_135 iwX0 rfl (wO_A δ _) 7 (Nat.le_of_ble_eq_true rfl) mW117 rfl rfl ?_
                      refine g_lload C dX0_spread_138 rfl ?_
                      refine g_ladd C dX0_spread_140 ?_
                      refine g_put C tyX0 dX0_spread_141 iwX0 tyX0_ok nmX0 rfl (wO_A δ _) 7 (Nat.le_of_ble_eq_true rfl) mW117 rfl rfl rfl rfl rfl (Nat.le_of_ble_eq_true rfl) (pG_6 δ _ _) ?_
                      refine g_iinc (v := nI (c + 1)) C dX0_spread_144 rfl (ginc _ 1) rfl ?_
                      refine g_lv [some _, some _, some _, some _, none, some _, some _, some _, some _, none] (gs_some (gs_some (gs_some (gs_some (gs_none (gs_some (gs_some (gs_some (gs_some (gs_none gs_nil)))))))))) ?_
                      refine g_goto C 44 dX0_spread_147 (by decide) ?_
                      refine g_lv [some _, some _, some _, some _, none, some _, some _, some _, none, none] (gs_some (gs_some (gs_some (gs_some (gs_none (gs_some (gs_some (gs_some (gs_none (gs_none gs_nil)))))))))) ?_
                      exact ih_44 (c + 1) _ (by omega) (by repeat (first | (with_reducible assumption) | (with_reducible exact gSm_r _) | (with_reducible refine gSm_I (by omega) ?_) | (with_reducible refine gSm_L (by omega) ?_) | (with_reducible refine gSm_N (by omega) ?_) | (with_reducible refine gSm_G (by omega) ?_) | (with_reducible refine gSm_P ?_))) (by omega)
                    · exact absurd c_109 (by decide)
              · refine g_goto C 144 dX0_spread_75 (by decide) ?_
                refine g_iinc (v := nI (c + 1)) C dX0_spread_144 rfl (ginc _ 1) rfl ?_
                refine g_lv [some _, some _, some _, some _, none, some _, some _, some _, none, none] (gs_some (gs_some (gs_some (gs_some (gs_none (gs_some (gs_some (gs_some (gs_none (gs_none gs_nil)))))))))) ?_
                refine g_goto C 44 dX0_spread_147 (by decide) ?_
                refine g_lv [some _, some _, some _, some _, none, some _, some _, some _, none, none] (gs_some (gs_some (gs_some (gs_some (gs_none (gs_some (gs_some (gs_some (gs_none (gs_none gs_nil)))))))))) ?_
                exact ih_44 (c + 1) _ (by omega) (by repeat (first | (with_reducible assumption) | (with_reducible exact gSm_r _) | (with_reducible refine gSm_I (by omega) ?_) | (with_reducible refine gSm_L (by omega) ?_) | (with_reducible refine gSm_N (by omega) ?_) | (with_reducible refine gSm_G (by omega) ?_) | (with_reducible refine gSm_P ?_))) (by omega)
    refine g_lv [some _, some _, some _, some _, none, some _, some _, some _, none, none] (gs_some (gs_some (gs_some (gs_some (gs_none (gs_some (gs_some (gs_some (gs_none (gs_none gs_nil)))))))))) ?_
    exact L_44 _ 0 _ (by omega) (by repeat (first | (with_reducible assumption) | (with_reducible exact gSm_r _) | (with_reducible refine gSm_I (by omega) ?_) | (with_reducible refine gSm_L (by omega) ?_) | (with_reducible refine gSm_N (by omega) ?_) | (with_reducible refine gSm_G (by omega) ?_) | (with_reducible refine gSm_P ?_))) (Nat.lt_succ_self _)
  · refine g_aload_n C dX0_spread_30 rfl ?_
    refine g_dup C dX0_spread_31 rfl ?_
    refine g_get C dX0_spread_32 iwX0 rfl (wO_A δ _) 7 (Nat.le_of_ble_eq_true rfl) mW117 rfl rfl ?_
    refine g_lload_n C dX0_spread_35 rfl ?_
    refine g_ladd C dX0_spread_36 ?_
    refine g_put C tyX0 dX0_spread_37 iwX0 tyX0_ok nmX0 rfl (wO_A δ _) 7 (Nat.le_of_ble_eq_true rfl) mW117 rfl rfl rfl rfl rfl (Nat.le_of_ble_eq_true rfl) (pG_6 δ _ _) ?_
    exact g_vret C E dX0_spread_40 rfl ⟨rfl, (by repeat (first | (with_reducible assumption) | (with_reducible exact gSm_r _) | (with_reducible refine gSm_I (by omega) ?_) | (with_reducible refine gSm_L (by omega) ?_) | (with_reducible refine gSm_N (by omega) ?_) | (with_reducible refine gSm_G (by omega) ?_) | (with_reducible refine gSm_P ?_)))⟩
set_option maxRecDepth 100000 in
set_option maxHeartbeats 4000000 in
theorem c_X0_walkStep (l : Launch) (δ : GD) (σ : GS) {u : Nat} (hu : u < 8) {j k c : Nat} (hj : j ≤ k) (hk : k ≤ 12) (hc : c < 4) (g : Int32) {n : Nat} (hn : gN σ (14 + u) = nI n) (h4 : n ≤ 4) : gM l δ yX0_walkStep cX0_walkStep 12 none 2 53 [.ref (δ.2.2.1 20), .ref (δ.2.2.1 (8 + u)), .int (nI j), .int (nI k), .int (nI c), .int g] σ (gPv (fun σ' => gSm σ σ')) := by
  refine g_of (lv0 := [some (.ref (δ.2.2.1 20)), some (.ref (δ.2.2.1 (8 + u))), some (.int (nI j)), some (.int (nI k)), some (.int (nI c)), some (.int g), none, none, none, none, none, none]) (by decide) rfl (Nat.le_of_ble_eq_true rfl) (fun Γ hl C E => ?_)
  subst hl
  have C : gC Γ δ cX0_walkStep RX0 12 2 53 := C
  refine g_iconst (v := 0) C dX0_walkStep_0 (by decide) ?_
  refine g_istore C dX0_walkStep_1 (Nat.le_of_ble_eq_true rfl) rfl ?_
  refine g_lv [some _, some _, some _, some _, some _, some _, some _, none, none, none, none, none] (gs_some (gs_some (gs_some (gs_some (gs_some (gs_some (gs_some (gs_none (gs_none (gs_none (gs_none (gs_none gs_nil)))))))))))) ?_
  have L_3 : ∀ (nn : Nat) (a : Nat) (s1 : GS) (ha : a ≤ j + 1) (hs : gSm σ s1), j + 1 - a < nn → gW Γ δ s1 3 [some (.ref (δ.2.2.1 20)), some (.ref (δ.2.2.1 (8 + u))), some (.int (nI j)), some (.int (nI k)), some (.int (nI c)), some (.int g), some (.int (nI a)), none, none, none, none, none] [] := by
    intro nn
    induction nn with
    | zero =>
      intro a s1 ha hs hm_3
      exact absurd hm_3 (Nat.not_lt_zero _)
    | succ nn ih_3 =>
      intro a s1 ha hs hm_3
      refine g_iload C dX0_walkStep_3 rfl ?_
      refine g_iload_n C dX0_walkStep_5 rfl ?_
      refine g_icmp_gt C 199 dX0_walkStep_6 (by decide) (fun c_6 => ?_) (fun c_6 => ?_)
      · have k_6 := glt c_6 (a := j) (b := a) (by first | rfl | assumption | (simp only [glit, nI_add, pk_mul]; done) | (simp only [glit, nI_add, pk_mul]; congr 1; omega) | (simp only [*, glit, nI_add, pk_mul]; congr 1; omega)) (by first | rfl | assumption | (simp only [glit, nI_add, pk_mul]; done) | (simp only [glit, nI_add, pk_mul]; congr 1; omega) | (simp only [*, glit, nI_add, pk_mul]; congr 1; omega)) (by omega) (by omega)
        exact g_vret C E dX0_walkStep_199 rfl ⟨rfl, (by repeat (first | (with_reducible assumption) | (with_reducible exact gSm_r _) | (with_reducible refine gSm_I (by omega) ?_) | (with_reducible refine gSm_L (by omega) ?_) | (with_reducible refine gSm_N (by omega) ?_) | (with_reducible refine gSm_G (by omega) ?_) | (with_reducible refine gSm_P ?_)))⟩
      · have k_6 := gnlt c_6 (a := j) (b := a) (by first | rfl | assumption | (simp only [glit, nI_add, pk_mul]; done) | (simp only [glit, nI_add, pk_mul]; congr 1; omega) | (simp only [*, glit, nI_add, pk_mul]; congr 1; omega)) (by first | rfl | assumption | (simp only [glit, nI_add, pk_mul]; done) | (simp only [glit, nI_add, pk_mul]; congr 1; omega) | (simp only [*, glit, nI_add, pk_mul]; congr 1; omega)) (by omega) (by omega)
        refine g_iconst (v := 0) C dX0_walkStep_9 (by decide) ?_
        refine g_istore C dX0_walkStep_10 (Nat.le_of_ble_eq_true rfl) rfl ?_
        refine g_lv [some _, some _, some _, some _, some _, some _, some _, some _, none, none, none, none] (gs_some (gs_some (gs_some (gs_some (gs_some (gs_some (gs_some (gs_some (gs_none (gs_none (gs_none (gs_none gs_nil)))))))))))) ?_
        have L_12 : ∀ (nn : Nat) (b : Nat) (s2 : GS) (hb : a + b ≤ j + 1) (hs2 : gSm σ s2), j + 1 - b < nn → gW Γ δ s2 12 [some (.ref (δ.2.2.1 20)), some (.ref (δ.2.2.1 (8 + u))), some (.int (nI j)), some (.int (nI k)), some (.int (nI c)), some (.int g), some (.int (nI a)), some (.int (nI b)), none, none, none, none] [] := by
          intro nn
          induction nn with
          | zero =>
            intro b s2 hb hs2 hm_12
            exact absurd hm_12 (Nat.not_lt_zero _)
          | succ nn ih_12 =>
            intro b s2 hb hs2 hm_12
            refine g_iload C dX0_walkStep_12 rfl ?_
            refine g_iload C dX0_walkStep_14 rfl ?_
            refine g_iadd C dX0_walkStep_16 ?_
            refine g_iload_n C dX0_walkStep_17 rfl ?_
            refine g_icmp_gt C 193 dX0_walkStep_18 (by decide) (fun c_18 => ?_) (fun c_18 => ?_)
            · have k_18 := glt c_18 (a := j) (b := (a + b)) (by first | rfl | assumption | (simp only [glit, nI_add, pk_mul]; done) | (simp only [glit, nI_add, pk_mul]; congr 1; omega) | (simp only [*, glit, nI_add, pk_mul]; congr 1; omega)) (by first | rfl | assumption | (simp only [glit, nI_add, pk_mul]; done) | (simp only [glit, nI_add, pk_mul]; congr 1; omega) | (simp only [*, glit, nI_add, pk_mul]; congr 1; omega)) (by omega) (by omega)
              refine g_iinc (v := nI (a + 1)) C dX0_walkStep_193 rfl (ginc _ 1) rfl ?_
              refine g_lv [some _, some _, some _, some _, some _, some _, some _, some _, none, none, none, none] (gs_some (gs_some (gs_some (gs_some (gs_some (gs_some (gs_some (gs_some (gs_none (gs_none (gs_none (gs_none gs_nil)))))))))))) ?_
              refine g_goto C 3 dX0_walkStep_196 (by decide) ?_
              refine g_lv [some _, some _, some _, some _, some _, some _, some _, none, none, none, none, none] (gs_some (gs_some (gs_some (gs_some (gs_some (gs_some (gs_some (gs_none (gs_none (gs_none (gs_none (gs_none gs_nil)))))))))))) ?_
              exact ih_3 (a + 1) _ (by omega) (by repeat (first | (with_reducible assumption) | (with_reducible exact gSm_r _) | (with_reducible refine gSm_I (by omega) ?_) | (with_reducible refine gSm_L (by omega) ?_) | (with_reducible refine gSm_N (by omega) ?_) | (with_reducible refine gSm_G (by omega) ?_) | (with_reducible refine gSm_P ?_))) (by omega)
            · have k_18 := gnlt c_18 (a := j) (b := (a + b)) (by first | rfl | assumption | (simp only [glit, nI_add, pk_mul]; done) | (simp only [glit, nI_add, pk_mul]; congr 1; omega) | (simp only [*, glit, nI_add, pk_mul]; congr 1; omega)) (by first | rfl | assumption | (simp only [glit, nI_add, pk_mul]; done) | (simp only [glit, nI_add, pk_mul]; congr 1; omega) | (simp only [*, glit, nI_add, pk_mul]; congr 1; omega)) (by omega) (by omega)
              refine g_iconst (v := 0) C dX0_walkStep_21 (by decide) ?_
              refine g_istore C dX0_walkStep_22 (Nat.le_of_ble_eq_true rfl) rfl ?_
              refine g_lv [some _, some _, some _, some _, some _, some _, some _, some _, some _, none, none, none] (gs_some (gs_some (gs_some (gs_some (gs_some (gs_some (gs_some (gs_some (gs_some (gs_none (gs_none (gs_none gs_nil)))))))))))) ?_
              have L_24 : ∀ (nn : Nat) (e : Nat) (s3 : GS) (he : a + b + e ≤ j + 1) (hs3 : gSm σ s3), j + 1 - e < nn → gW Γ δ s3 24 [some (.ref (δ.2.2.1 20)), some (.ref (δ.2.2.1 (8 + u))), some (.int (nI j)), some (.int (nI k)), some (.int (nI c)), some (.int g), some (.int (nI a)), some (.int (nI b)), some (.int (nI e)), none, none, none] [] := by
                intro nn
                induction nn with
                | zero =>
                  intro e s3 he hs3 hm_24
                  exact absurd hm_24 (Nat.not_lt_zero _)
                | succ nn ih_24 =>
                  intro e s3 he hs3 hm_24
                  refine g_iload C dX0_walkStep_24 rfl ?_
                  refine g_iload C dX0_walkStep_26 rfl ?_
                  refine g_iadd C dX0_walkStep_28 ?_
                  refine g_iload C dX0_walkStep_29 rfl ?_
                  refine g_iadd C dX0_walkStep_31 ?_
                  refine g_iload_n C dX0_walkStep_32 rfl ?_
                  refine g_icmp_gt C 187 dX0_walkStep_33 (by decide) (fun c_33 => ?_) (fun c_33 => ?_)
                  · have k_33 := glt c_33 (a := j) (b := ((a + b) + e)) (by first | rfl | assumption | (simp only [glit, nI_add, pk_mul]; done) | (simp only [glit, nI_add, pk_mul]; congr 1; omega) | (simp only [*, glit, nI_add, pk_mul]; congr 1; omega)) (by first | rfl | assumption | (simp only [glit, nI_add, pk_mul]; done) | (simp only [glit, nI_add, pk_mul]; congr 1; omega) | (simp only [*, glit, nI_add, pk_mul]; congr 1; omega)) (by omega) (by omega)
                    refine g_iinc (v := nI (b + 1)) C dX0_walkStep_187 rfl (ginc _ 1) rfl ?_
                    refine g_lv [some _, some _, some _, some _, some _, some _, some _, some _, some _, none, none, none] (gs_some (gs_some (gs_some (gs_some (gs_some (gs_some (gs_some (gs_some (gs_some (gs_none (gs_none (gs_none gs_nil)))))))))))) ?_
                    refine g_goto C 12 dX0_walkStep_190 (by decide) ?_
                    refine g_lv [some _, some _, some _, some _, some _, some _, some _, some _, none, none, none, none] (gs_some (gs_some (gs_some (gs_some (gs_some (gs_some (gs_some (gs_some (gs_none (gs_none (gs_none (gs_none gs_nil)))))))))))) ?_
                    exact ih_12 (b + 1) _ (by omega) (by repeat (first | (with_reducible assumption) | (with_reducible exact gSm_r _) | (with_reducible refine gSm_I (by omega) ?_) | (with_reducible refine gSm_L (by omega) ?_) | (with_reducible refine gSm_N (by omega) ?_) | (with_reducible refine gSm_G (by omega) ?_) | (with_reducible refine gSm_P ?_))) (by omega)
                  · have k_33 := gnlt c_33 (a := j) (b := ((a + b) + e)) (by first | rfl | assumption | (simp only [glit, nI_add, pk_mul]; done) | (simp only [glit, nI_add, pk_mul]; congr 1; omega) | (simp only [*, glit, nI_add, pk_mul]; congr 1; omega)) (by first | rfl | assumption | (simp only [glit, nI_add, pk_mul]; done) | (simp only [glit, nI_add, pk_mul]; congr 1; omega) | (simp only [*, glit, nI_add, pk_mul]; congr 1; omega)) (by omega) (by omega)
                    refine g_iload C dX0_walkStep_36 rfl ?_
                    refine g_gets C dX0_walkStep_38 mW481 ?_
                    refine g_iconst (v := 0) C dX0_walkStep_41 (by decide) ?_
                    refine g_staldN C dX0_walkStep_42 (k := 0) (by first | rfl | assumption | (simp only [glit, nI_add, pk_mul]; done) | (simp only [glit, nI_add, pk_mul]; congr 1; omega) | (simp only [*, glit, nI_add, pk_mul]; congr 1; omega)) (by omega) ?_
                    rw [show gstp 0 = 169 from rfl]
                    refine g_imul C dX0_walkStep_43 ?_
                    refine g_iload C dX0_walkStep_44 rfl ?_
                    refine g_gets C dX0_walkStep_46 mW481 ?_
                    refine g_iconst (v := 1) C dX0_walkStep_49 (by decide) ?_
                    refine g_staldN C dX0_walkStep_50 (k := 1) (by first | rfl | assumption | (simp only [glit, nI_add, pk_mul]; done) | (simp only [glit, nI_add, pk_mul]; congr 1; omega) | (simp only [*, glit, nI_add, pk_mul]; congr 1; omega)) (by omega) ?_
                    refine g_imul C dX0_walkStep_51 ?_
                    rw [show gstp 1 = 13 from rfl]
                    refine g_iadd C dX0_walkStep_52 ?_
                    refine g_iload C dX0_walkStep_53 rfl ?_
                    refine g_gets C dX0_walkStep_55 mW481 ?_
                    refine g_iconst (v := 2) C dX0_walkStep_58 (by decide) ?_
                    refine g_staldN C dX0_walkStep_59 (k := 2) (by first | rfl | assumption | (simp only [glit, nI_add, pk_mul]; done) | (simp only [glit, nI_add, pk_mul]; congr 1; omega) | (simp only [*, glit, nI_add, pk_mul]; congr 1; omega)) (by omega) ?_
                    refine g_imul C dX0_walkStep_60 ?_
                    rw [show gstp 2 = 1 from rfl]
                    refine g_iadd C dX0_walkStep_61 ?_
                    rw [pk_mul, pk_mul, pk_mul, nI_add, nI_add]
                    refine g_istore C dX0_walkStep_62 (Nat.le_of_ble_eq_true rfl) rfl ?_
                    refine g_lv [some _, some _, some _, some _, some _, some _, some _, some _, some _, some _, none, none] (gs_some (gs_some (gs_some (gs_some (gs_some (gs_some (gs_some (gs_some (gs_some (gs_some (gs_none (gs_none gs_nil)))))))))))) ?_
                    refine g_aload_n C dX0_walkStep_64 rfl ?_
                    refine g_get C dX0_walkStep_65 iwX0 rfl (wO_A δ _) 0 (Nat.le_of_ble_eq_true rfl) mW108 rfl rfl ?_
                    refine g_iload C dX0_walkStep_68 rfl ?_
                    refine g_laldN C dX0_walkStep_70 (k := (a * 169 + b * 13 + e * 1)) (q := (8 + gP _ % 2)) (by omega) (gnw _ _) (by first | rfl | assumption | (simp only [glit, nI_add, pk_mul]; done) | (simp only [glit, nI_add, pk_mul]; congr 1; omega) | (simp only [*, glit, nI_add, pk_mul]; congr 1; omega)) (by rw [gLenL_n _]; omega) ?_
                    refine g_lstore C dX0_walkStep_71 (Nat.le_of_ble_eq_true rfl) rfl ?_
                    refine g_lv [some _, some _, some _, some _, some _, some _, some _, some _, some _, some _, some _, none] (gs_some (gs_some (gs_some (gs_some (gs_some (gs_some (gs_some (gs_some (gs_some (gs_some (gs_some (gs_none gs_nil)))))))))))) ?_
                    refine g_lload C dX0_walkStep_73 rfl ?_
                    refine g_lconst (v := 0) C dX0_walkStep_75 (by decide) ?_
                    refine g_lcmp C dX0_walkStep_76 ?_
                    refine g_if_ne C 83 dX0_walkStep_77 (by decide) (fun c_77 => ?_) (fun c_77 => ?_)
                    · rw [lg_cmp_eq] at c_77
                      refine g_aload_n C dX0_walkStep_83 rfl ?_
                      refine g_get C dX0_walkStep_84 iwX0 rfl (wO_A δ _) 0 (Nat.le_of_ble_eq_true rfl) mW108 rfl rfl ?_
                      refine g_iload C dX0_walkStep_87 rfl ?_
                      refine g_lconst (v := 0) C dX0_walkStep_89 (by decide) ?_
                      refine g_lastN C dX0_walkStep_90 (k := (a * 169 + b * 13 + e * 1)) (q := (8 + gP _ % 2)) (by omega) (gnw _ _) (by first | rfl | assumption | (simp only [glit, nI_add, pk_mul]; done) | (simp only [glit, nI_add, pk_mul]; congr 1; omega) | (simp only [*, glit, nI_add, pk_mul]; congr 1; omega)) (by rw [gLenL_n _]; omega) ?_
                      refine g_aload_n C dX0_walkStep_91 rfl ?_
                      refine g_get C dX0_walkStep_92 iwX0 rfl (wO_A δ _) 3 (Nat.le_of_ble_eq_true rfl) mW111 rfl rfl ?_
                      refine g_iconst (v := 0) C dX0_walkStep_95 (by decide) ?_
                      refine g_iload C dX0_walkStep_96 rfl ?_
                      refine g_iastN C dX0_walkStep_98 (k := 0) (q := 48) (by decide) rfl (by first | rfl | assumption | (simp only [glit, nI_add, pk_mul]; done) | (simp only [glit, nI_add, pk_mul]; congr 1; omega) | (simp only [*, glit, nI_add, pk_mul]; congr 1; omega)) (show 0 < gLenI 48 from Nat.lt_of_lt_of_eq (show 0 < 4 by omega) rfl) ?_
                      refine g_aload_n C dX0_walkStep_99 rfl ?_
                      refine g_get C dX0_walkStep_100 iwX0 rfl (wO_A δ _) 3 (Nat.le_of_ble_eq_true rfl) mW111 rfl rfl ?_
                      refine g_iconst (v := 1) C dX0_walkStep_103 (by decide) ?_
                      refine g_iload C dX0_walkStep_104 rfl ?_
                      refine g_iastN C dX0_walkStep_106 (k := 1) (q := 48) (by decide) rfl (by first | rfl | assumption | (simp only [glit, nI_add, pk_mul]; done) | (simp only [glit, nI_add, pk_mul]; congr 1; omega) | (simp only [*, glit, nI_add, pk_mul]; congr 1; omega)) (show 1 < gLenI 48 from Nat.lt_of_lt_of_eq (show 1 < 4 by omega) rfl) ?_
                      rw [uI_uI, gI_uI, if_pos rfl]
                      refine g_aload_n C dX0_walkStep_107 rfl ?_
                      refine g_get C dX0_walkStep_108 iwX0 rfl (wO_A δ _) 3 (Nat.le_of_ble_eq_true rfl) mW111 rfl rfl ?_
                      refine g_iconst (v := 2) C dX0_walkStep_111 (by decide) ?_
                      refine g_iload C dX0_walkStep_112 rfl ?_
                      refine g_iastN C dX0_walkStep_114 (k := 2) (q := 48) (by decide) rfl (by first | rfl | assumption | (simp only [glit, nI_add, pk_mul]; done) | (simp only [glit, nI_add, pk_mul]; congr 1; omega) | (simp only [*, glit, nI_add, pk_mul]; congr 1; omega)) (show 2 < gLenI 48 from Nat.lt_of_lt_of_eq (show 2 < 4 by omega) rfl) ?_
                      rw [uI_uI, gI_uI, if_pos rfl]
                      refine g_aload_n C dX0_walkStep_115 rfl ?_
                      refine g_get C dX0_walkStep_116 iwX0 rfl (wO_A δ _) 3 (Nat.le_of_ble_eq_true rfl) mW111 rfl rfl ?_
                      refine g_iconst (v := 3) C dX0_walkStep_119 (by decide) ?_
                      refine g_iload_n C dX0_walkStep_120 rfl ?_
                      refine g_iload C dX0_walkStep_121 rfl ?_
                      refine g_isub C dX0_walkStep_123 ?_
                      refine g_iload C dX0_walkStep_124 rfl ?_
                      refine g_isub C dX0_walkStep_126 ?_
                      refine g_iload C dX0_walkStep_127 rfl ?_
                      refine g_isub C dX0_walkStep_129 ?_
                      refine g_iastN C dX0_walkStep_130 (k := 3) (q := 48) (by decide) rfl (by first | rfl | assumption | (simp only [glit, nI_add, pk_mul]; done) | (simp only [glit, nI_add, pk_mul]; congr 1; omega) | (simp only [*, glit, nI_add, pk_mul]; congr 1; omega)) (show 3 < gLenI 48 from Nat.lt_of_lt_of_eq (show 3 < 4 by omega) rfl) ?_
                      rw [uI_uI, gI_uI, if_pos rfl]
                      refine g_aload_n C dX0_walkStep_131 rfl ?_
                      refine g_aload_n C dX0_walkStep_132 rfl ?_
                      refine g_callVv C sV_X0_87 dX0_walkStep_133 (c_X0_findBalls _ δ _ hu) ⟨by decide, by decide⟩ (wO_A δ _) rfl rfl rfl rfl (Nat.le_of_ble_eq_true rfl) (fun s_133 h_133 => ?_)
                      have z_133 : gSm σ s_133 := gSm_t (by repeat (first | (with_reducible assumption) | (with_reducible exact gSm_r _) | (with_reducible refine gSm_I (by omega) ?_) | (with_reducible refine gSm_L (by omega) ?_) | (with_reducible refine gSm_N (by omega) ?_) | (with_reducible refine gSm_G (by omega) ?_) | (with_reducible refine gSm_P ?_))) h_133.1
                      obtain ⟨k1, hk1, ek1⟩ := gof4 (f := gI s3 48) (a := a) (b := b) (e := e) (j := j) (c := c) (by omega) (by omega) hc
                      have ek1 : gI s_133 48 c = nI k1 := (congrFun h_133.2 c).trans ek1
                      refine g_iload_n C dX0_walkStep_136 rfl ?_
                      refine g_iload_n C dX0_walkStep_137 rfl ?_
                      refine g_icmp_ne C 164 dX0_walkStep_138 (by decide) (fun c_138 => ?_) (fun c_138 => ?_)
                      · have k_138 := gne c_138 (a := j) (b := k) (by first | rfl | assumption | (simp only [glit, nI_add, pk_mul]; done) | (simp only [glit, nI_add, pk_mul]; congr 1; omega) | (simp only [*, glit, nI_add, pk_mul]; congr 1; omega)) (by first | rfl | assumption | (simp only [glit, nI_add, pk_mul]; done) | (simp only [glit, nI_add, pk_mul]; congr 1; omega) | (simp only [*, glit, nI_add, pk_mul]; congr 1; omega)) (by omega) (by omega)
                        refine g_aload_n C dX0_walkStep_164 rfl ?_
                        refine g_aload_n C dX0_walkStep_165 rfl ?_
                        refine g_iload C dX0_walkStep_166 rfl ?_
                        refine g_lload C dX0_walkStep_168 rfl ?_
                        refine g_aload_n C dX0_walkStep_170 rfl ?_
                        refine g_get C dX0_walkStep_171 iwX0 rfl (wO_A δ _) 2 (Nat.le_of_ble_eq_true rfl) mW110 rfl rfl ?_
                        refine g_iload_n C dX0_walkStep_174 rfl ?_
                        refine g_ialdN C dX0_walkStep_175 (k := j) (q := 47) (by decide) rfl (by first | rfl | assumption | (simp only [glit, nI_add, pk_mul]; done) | (simp only [glit, nI_add, pk_mul]; congr 1; omega) | (simp only [*, glit, nI_add, pk_mul]; congr 1; omega)) (show j < gLenI 47 from Nat.lt_of_lt_of_eq (show j < 12 by omega) rfl) ?_
                        refine g_iload C dX0_walkStep_176 rfl ?_
                        refine g_callVv C sV_X0_95 dX0_walkStep_178 (c_X0_spread _ δ _ hu (p := (a * 169 + b * 13 + e * 1)) (by omega) _ _ _ ((gSm_n z_133 (by omega)).trans hn) h4) ⟨by decide, by decide⟩ (wO_A δ _) rfl rfl rfl rfl (Nat.le_of_ble_eq_true rfl) (fun s_178 h_178 => ?_)
                        have z_178 : gSm σ s_178 := gSm_t (by repeat (first | (with_reducible assumption) | (with_reducible exact gSm_r _) | (with_reducible refine gSm_I (by omega) ?_) | (with_reducible refine gSm_L (by omega) ?_) | (with_reducible refine gSm_N (by omega) ?_) | (with_reducible refine gSm_G (by omega) ?_) | (with_reducible refine gSm_P ?_))) h_178
                        refine g_iinc (v := nI (e + 1)) C dX0_walkStep_181 rfl (ginc _ 1) rfl ?_
                        refine g_lv [some _, some _, some _, some _, some _, some _, some _, some _, some _, some _, some _, none] (gs_some (gs_some (gs_some (gs_some (gs_some (gs_some (gs_some (gs_some (gs_some (gs_some (gs_some (gs_none gs_nil)))))))))))) ?_
                        refine g_goto C 24 dX0_walkStep_184 (by decide) ?_
                        refine g_lv [some _, some _, some _, some _, some _, some _, some _, some _, some _, none, none, none] (gs_some (gs_some (gs_some (gs_some (gs_some (gs_some (gs_some (gs_some (gs_some (gs_none (gs_none (gs_none gs_nil)))))))))))) ?_
                        exact ih_24 (e + 1) _ (by omega) (by repeat (first | (with_reducible assumption) | (with_reducible exact gSm_r _) | (with_reducible refine gSm_I (by omega) ?_) | (with_reducible refine gSm_L (by omega) ?_) | (with_reducible refine gSm_N (by omega) ?_) | (with_reducible refine gSm_G (by omega) ?_) | (with_reducible refine gSm_P ?_))) (by omega)
                      · have k_138 := geq c_138 (a := j) (b := k) (by first | rfl | assumption | (simp only [glit, nI_add, pk_mul]; done) | (simp only [glit, nI_add, pk_mul]; congr 1; omega) | (simp only [*, glit, nI_add, pk_mul]; congr 1; omega)) (by first | rfl | assumption | (simp only [glit, nI_add, pk_mul]; done) | (simp only [glit, nI_add, pk_mul]; congr 1; omega) | (simp only [*, glit, nI_add, pk_mul]; congr 1; omega)) (by omega) (by omega)
                        refine g_aload_n C dX0_walkStep_141 rfl ?_
                        refine g_lload C dX0_walkStep_142 rfl ?_
                        refine g_aload_n C dX0_walkStep_144 rfl ?_
                        refine g_get C dX0_walkStep_145 iwX0 rfl (wO_A δ _) 3 (Nat.le_of_ble_eq_true rfl) mW111 rfl rfl ?_
                        refine g_iload C dX0_walkStep_148 rfl ?_
                        refine g_ialdN C dX0_walkStep_150 (k := c) (q := 48) (by decide) rfl (by first | rfl | assumption | (simp only [glit, nI_add, pk_mul]; done) | (simp only [glit, nI_add, pk_mul]; congr 1; omega) | (simp only [*, glit, nI_add, pk_mul]; congr 1; omega)) (show c < gLenI 48 from Nat.lt_of_lt_of_eq (show c < 4 by omega) rfl) ?_
                        rw [ek1]
                        refine g_aload_n C dX0_walkStep_151 rfl ?_
                        refine g_get C dX0_walkStep_152 iwX0 rfl (wO_A δ _) 4 (Nat.le_of_ble_eq_true rfl) mW112 rfl rfl ?_
                        refine g_iload C dX0_walkStep_155 rfl ?_
                        refine g_ialdN C dX0_walkStep_157 (k := c) (q := 49) (by decide) rfl (by first | rfl | assumption | (simp only [glit, nI_add, pk_mul]; done) | (simp only [glit, nI_add, pk_mul]; congr 1; omega) | (simp only [*, glit, nI_add, pk_mul]; congr 1; omega)) (show c < gLenI 49 from Nat.lt_of_lt_of_eq (show c < 4 by omega) rfl) ?_
                        refine g_callVv C sV_X0_91 dX0_walkStep_158 (c_X0_settle _ δ _ _ hk1 _) ⟨by decide, by decide⟩ (wO_A δ _) rfl rfl rfl rfl (Nat.le_of_ble_eq_true rfl) (fun s_158 h_158 => ?_)
                        have z_158 : gSm σ s_158 := gSm_t (by repeat (first | (with_reducible assumption) | (with_reducible exact gSm_r _) | (with_reducible refine gSm_I (by omega) ?_) | (with_reducible refine gSm_L (by omega) ?_) | (with_reducible refine gSm_N (by omega) ?_) | (with_reducible refine gSm_G (by omega) ?_) | (with_reducible refine gSm_P ?_))) h_158
                        refine g_goto C 181 dX0_walkStep_161 (by decide) ?_
                        refine g_iinc (v := nI (e + 1)) C dX0_walkStep_181 rfl (ginc _ 1) rfl ?_
                        refine g_lv [some _, some _, some _, some _, some _, some _, some _, some _, some _, some _, some _, none] (gs_some (gs_some (gs_some (gs_some (gs_some (gs_some (gs_some (gs_some (gs_some (gs_some (gs_some (gs_none gs_nil)))))))))))) ?_
                        refine g_goto C 24 dX0_walkStep_184 (by decide) ?_
                        refine g_lv [some _, some _, some _, some _, some _, some _, some _, some _, some _, none, none, none] (gs_some (gs_some (gs_some (gs_some (gs_some (gs_some (gs_some (gs_some (gs_some (gs_none (gs_none (gs_none gs_nil)))))))))))) ?_
                        exact ih_24 (e + 1) _ (by omega) (by repeat (first | (with_reducible assumption) | (with_reducible exact gSm_r _) | (with_reducible refine gSm_I (by omega) ?_) | (with_reducible refine gSm_L (by omega) ?_) | (with_reducible refine gSm_N (by omega) ?_) | (with_reducible refine gSm_G (by omega) ?_) | (with_reducible refine gSm_P ?_))) (by omega)
                    · rw [lg_cmp_eq] at c_77
                      refine g_goto C 181 dX0_walkStep_80 (by decide) ?_
                      refine g_iinc (v := nI (e + 1)) C dX0_walkStep_181 rfl (ginc _ 1) rfl ?_
                      refine g_lv [some _, some _, some _, some _, some _, some _, some _, some _, some _, some _, some _, none] (gs_some (gs_some (gs_some (gs_some (gs_some (gs_some (gs_some (gs_some (gs_some (gs_some (gs_some (gs_none gs_nil)))))))))))) ?_
                      refine g_goto C 24 dX0_walkStep_184 (by decide) ?_
                      refine g_lv [some _, some _, some _, some _, some _, some _, some _, some _, some _, none, none, none] (gs_some (gs_some (gs_some (gs_some (gs_some (gs_some (gs_some (gs_some (gs_some (gs_none (gs_none (gs_none gs_nil)))))))))))) ?_
                      exact ih_24 (e + 1) _ (by omega) (by repeat (first | (with_reducible assumption) | (with_reducible exact gSm_r _) | (with_reducible refine gSm_I (by omega) ?_) | (with_reducible refine gSm_L (by omega) ?_) | (with_reducible refine gSm_N (by omega) ?_) | (with_reducible refine gSm_G (by omega) ?_) | (with_reducible refine gSm_P ?_))) (by omega)
              refine g_lv [some _, some _, some _, some _, some _, some _, some _, some _, some _, none, none, none] (gs_some (gs_some (gs_some (gs_some (gs_some (gs_some (gs_some (gs_some (gs_some (gs_none (gs_none (gs_none gs_nil)))))))))))) ?_
              exact L_24 _ 0 _ (by omega) (by repeat (first | (with_reducible assumption) | (with_reducible exact gSm_r _) | (with_reducible refine gSm_I (by omega) ?_) | (with_reducible refine gSm_L (by omega) ?_) | (with_reducible refine gSm_N (by omega) ?_) | (with_reducible refine gSm_G (by omega) ?_) | (with_reducible refine gSm_P ?_))) (Nat.lt_succ_self _)
        refine g_lv [some _, some _, some _, some _, some _, some _, some _, some _, none, none, none, none] (gs_some (gs_some (gs_some (gs_some (gs_some (gs_some (gs_some (gs_some (gs_none (gs_none (gs_none (gs_none gs_nil)))))))))))) ?_
        exact L_12 _ 0 _ (by omega) (by repeat (first | (with_reducible assumption) | (with_reducible exact gSm_r _) | (with_reducible refine gSm_I (by omega) ?_) | (with_reducible refine gSm_L (by omega) ?_) | (with_reducible refine gSm_N (by omega) ?_) | (with_reducible refine gSm_G (by omega) ?_) | (with_reducible refine gSm_P ?_))) (Nat.lt_succ_self _)
  refine g_lv [some _, some _, some _, some _, some _, some _, some _, none, none, none, none, none] (gs_some (gs_some (gs_some (gs_some (gs_some (gs_some (gs_some (gs_none (gs_none (gs_none (gs_none (gs_none gs_nil)))))))))))) ?_
  exact L_3 _ 0 _ (by omega) (gSm_r _) (Nat.lt_succ_self _)
set_option maxRecDepth 100000 in
set_option maxHeartbeats 4000000 in
theorem c_X0_walk (l : Launch) (δ : GD) (σ : GS) {u : Nat} (hu : u < 8) {k c : Nat} (hk : k ≤ 12) (hc : c < 4) (g : Int32) {n : Nat} (hn : gN σ (14 + u) = nI n) (h4 : n ≤ 4) : gM l δ yX0_walk cX0_walk 7 none 3 84 [.ref (δ.2.2.1 20), .ref (δ.2.2.1 (8 + u)), .int (nI k), .int (nI c), .int g] σ (gPv (fun σ' => gSm σ σ')) := by
  refine g_of (lv0 := [some (.ref (δ.2.2.1 20)), some (.ref (δ.2.2.1 (8 + u))), some (.int (nI k)), some (.int (nI c)), some (.int g), none, none]) (by decide) rfl (Nat.le_of_ble_eq_true rfl) (fun Γ hl C E => ?_)
  subst hl
  have C : gC Γ δ cX0_walk RX0 7 3 84 := C
  refine g_aload_n C dX0_walk_0 rfl ?_
  refine g_get C dX0_walk_1 iwX0 rfl (wO_A δ _) 5 (Nat.le_of_ble_eq_true rfl) mW113 rfl rfl ?_
  refine g_lconst (v := 0) C dX0_walk_4 (by decide) ?_
  refine g_callSv C sS_X0_77 dX0_walk_5 (c_J7_fill_d0a16 _ δ _ (q := 10) (by omega) _) ⟨by decide, by decide⟩ rfl rfl rfl (Nat.le_of_ble_eq_true rfl) (fun s_5 h_5 => ?_)
  obtain ⟨f, rfl, -⟩ := h_5
  refine g_aload_n C dX0_walk_8 rfl ?_
  refine g_lconst (v := 0) C dX0_walk_9 (by decide) ?_
  refine g_put C tyX0 dX0_walk_10 iwX0 tyX0_ok nmX0 rfl (wO_A δ _) 7 (Nat.le_of_ble_eq_true rfl) mW117 rfl rfl rfl rfl rfl (Nat.le_of_ble_eq_true rfl) (pG_6 δ _ _) ?_
  refine g_aload_n C dX0_walk_13 rfl ?_
  refine g_get C dX0_walk_14 iwX0 rfl (wO_A δ _) 6 (Nat.le_of_ble_eq_true rfl) mW115 rfl rfl ?_
  refine g_lconst (v := 0) C dX0_walk_17 (by decide) ?_
  refine g_callSv C sS_X0_77 dX0_walk_18 (c_J7_fill_d0a16 _ δ _ (q := 11) (by omega) _) ⟨by decide, by decide⟩ rfl rfl rfl (Nat.le_of_ble_eq_true rfl) (fun s_18 h_18 => ?_)
  obtain ⟨f2, rfl, -⟩ := h_18
  refine g_aload_n C dX0_walk_21 rfl ?_
  refine g_get C dX0_walk_22 iwX0 rfl (wO_A δ _) 0 (Nat.le_of_ble_eq_true rfl) mW108 rfl rfl ?_
  refine g_iconst (v := 0) C dX0_walk_25 (by decide) ?_
  refine g_lconst (v := 1) C dX0_walk_26 (by decide) ?_
  refine g_lastN C dX0_walk_27 (k := 0) (q := (8 + gP _ % 2)) (by omega) (gnw _ _) (by first | rfl | assumption | (simp only [glit, nI_add, pk_mul]; done) | (simp only [glit, nI_add, pk_mul]; congr 1; omega) | (simp only [*, glit, nI_add, pk_mul]; congr 1; omega)) (by rw [gLenL_n _]; omega) ?_
  refine g_iconst (v := 0) C dX0_walk_28 (by decide) ?_
  refine g_istore C dX0_walk_29 (Nat.le_of_ble_eq_true rfl) rfl ?_
  refine g_lv [some _, some _, some _, some _, some _, some _, none] (gs_some (gs_some (gs_some (gs_some (gs_some (gs_some (gs_none gs_nil))))))) ?_
  have L_31 : ∀ (nn : Nat) (j : Nat) (s1 : GS) (hj : j ≤ k + 1) (hs : gSm σ s1), k + 1 - j < nn → gW Γ δ s1 31 [some (.ref (δ.2.2.1 20)), some (.ref (δ.2.2.1 (8 + u))), some (.int (nI k)), some (.int (nI c)), some (.int g), some (.int (nI j)), none] [] := by
    intro nn
    induction nn with
    | zero =>
      intro j s1 hj hs hm_31
      exact absurd hm_31 (Nat.not_lt_zero _)
    | succ nn ih_31 =>
      intro j s1 hj hs hm_31
      have hn_s1 : gN s1 (14 + u) = nI n := (gSm_n hs (by omega)).trans hn
      refine g_iload C dX0_walk_31 rfl ?_
      refine g_iload_n C dX0_walk_33 rfl ?_
      refine g_icmp_gt C 95 dX0_walk_34 (by decide) (fun c_34 => ?_) (fun c_34 => ?_)
      · have k_34 := glt c_34 (a := k) (b := j) (by first | rfl | assumption | (simp only [glit, nI_add, pk_mul]; done) | (simp only [glit, nI_add, pk_mul]; congr 1; omega) | (simp only [*, glit, nI_add, pk_mul]; congr 1; omega)) (by first | rfl | assumption | (simp only [glit, nI_add, pk_mul]; done) | (simp only [glit, nI_add, pk_mul]; congr 1; omega) | (simp only [*, glit, nI_add, pk_mul]; congr 1; omega)) (by omega) (by omega)
        exact g_vret C E dX0_walk_95 rfl ⟨rfl, (by repeat (first | (with_reducible assumption) | (with_reducible exact gSm_r _) | (with_reducible refine gSm_I (by omega) ?_) | (with_reducible refine gSm_L (by omega) ?_) | (with_reducible refine gSm_N (by omega) ?_) | (with_reducible refine gSm_G (by omega) ?_) | (with_reducible refine gSm_P ?_)))⟩
      · have k_34 := gnlt c_34 (a := k) (b := j) (by first | rfl | assumption | (simp only [glit, nI_add, pk_mul]; done) | (simp only [glit, nI_add, pk_mul]; congr 1; omega) | (simp only [*, glit, nI_add, pk_mul]; congr 1; omega)) (by first | rfl | assumption | (simp only [glit, nI_add, pk_mul]; done) | (simp only [glit, nI_add, pk_mul]; congr 1; omega) | (simp only [*, glit, nI_add, pk_mul]; congr 1; omega)) (by omega) (by omega)
        refine g_iload C dX0_walk_37 rfl ?_
        refine g_iload_n C dX0_walk_39 rfl ?_
        refine g_icmp_ge C 58 dX0_walk_40 (by decide) (fun c_40 => ?_) (fun c_40 => ?_)
        · have k_40 := gle c_40 (a := k) (b := j) (by first | rfl | assumption | (simp only [glit, nI_add, pk_mul]; done) | (simp only [glit, nI_add, pk_mul]; congr 1; omega) | (simp only [*, glit, nI_add, pk_mul]; congr 1; omega)) (by first | rfl | assumption | (simp only [glit, nI_add, pk_mul]; done) | (simp only [glit, nI_add, pk_mul]; congr 1; omega) | (simp only [*, glit, nI_add, pk_mul]; congr 1; omega)) (by omega) (by omega)
          refine g_aload_n C dX0_walk_58 rfl ?_
          refine g_aload_n C dX0_walk_59 rfl ?_
          refine g_iload C dX0_walk_60 rfl ?_
          refine g_iload_n C dX0_walk_62 rfl ?_
          refine g_iload_n C dX0_walk_63 rfl ?_
          refine g_iload C dX0_walk_64 rfl ?_
          refine g_callVv C sV_X0_80 dX0_walk_66 (c_X0_walkStep _ δ _ hu (j := j) (k := k) (by omega) hk hc _ hn_s1 h4) ⟨by decide, by decide⟩ (wO_A δ _) rfl rfl rfl rfl (Nat.le_of_ble_eq_true rfl) (fun s_66 h_66 => ?_)
          have z_66 : gSm σ s_66 := gSm_t (by repeat (first | (with_reducible assumption) | (with_reducible exact gSm_r _) | (with_reducible refine gSm_I (by omega) ?_) | (with_reducible refine gSm_L (by omega) ?_) | (with_reducible refine gSm_N (by omega) ?_) | (with_reducible refine gSm_G (by omega) ?_) | (with_reducible refine gSm_P ?_))) h_66
          refine g_aload_n C dX0_walk_69 rfl ?_
          refine g_get C dX0_walk_70 iwX0 rfl (wO_A δ _) 0 (Nat.le_of_ble_eq_true rfl) mW108 rfl rfl ?_
          refine g_astore C dX0_walk_73 (Nat.le_of_ble_eq_true rfl) rfl ?_
          refine g_lv [some _, some _, some _, some _, some _, some _, some _] (gs_some (gs_some (gs_some (gs_some (gs_some (gs_some (gs_some gs_nil))))))) ?_
          refine g_aload_n C dX0_walk_75 rfl ?_
          refine g_aload_n C dX0_walk_76 rfl ?_
          refine g_get C dX0_walk_77 iwX0 rfl (wO_A δ _) 1 (Nat.le_of_ble_eq_true rfl) mW109 rfl rfl ?_
          refine g_put C tyX0 dX0_walk_80 iwX0 tyX0_ok nmX0 rfl (wO_A δ _) 0 (Nat.le_of_ble_eq_true rfl) mW108 rfl rfl rfl rfl rfl (Nat.le_of_ble_eq_true rfl) (pPa δ _) ?_
          refine g_aload_n C dX0_walk_83 rfl ?_
          refine g_aload C dX0_walk_84 rfl ?_
          refine g_put C tyX0 dX0_walk_86 iwX0 tyX0_ok nmX0 rfl (wO_A δ _) 1 (Nat.le_of_ble_eq_true rfl) mW109 rfl rfl rfl rfl rfl (Nat.le_of_ble_eq_true rfl) (pPb δ _ _) ?_
          refine g_iinc (v := nI (j + 1)) C dX0_walk_89 rfl (ginc _ 1) rfl ?_
          refine g_lv [some _, some _, some _, some _, some _, some _, some _] (gs_some (gs_some (gs_some (gs_some (gs_some (gs_some (gs_some gs_nil))))))) ?_
          refine g_goto C 31 dX0_walk_92 (by decide) ?_
          refine g_lv [some _, some _, some _, some _, some _, some _, none] (gs_some (gs_some (gs_some (gs_some (gs_some (gs_some (gs_none gs_nil))))))) ?_
          exact ih_31 (j + 1) _ (by omega) (by repeat (first | (with_reducible assumption) | (with_reducible exact gSm_r _) | (with_reducible refine gSm_I (by omega) ?_) | (with_reducible refine gSm_L (by omega) ?_) | (with_reducible refine gSm_N (by omega) ?_) | (with_reducible refine gSm_G (by omega) ?_) | (with_reducible refine gSm_P ?_))) (by omega)
        · have k_40 := gnle c_40 (a := k) (b := j) (by first | rfl | assumption | (simp only [glit, nI_add, pk_mul]; done) | (simp only [glit, nI_add, pk_mul]; congr 1; omega) | (simp only [*, glit, nI_add, pk_mul]; congr 1; omega)) (by first | rfl | assumption | (simp only [glit, nI_add, pk_mul]; done) | (simp only [glit, nI_add, pk_mul]; congr 1; omega) | (simp only [*, glit, nI_add, pk_mul]; congr 1; omega)) (by omega) (by omega)
          refine g_aload_n C dX0_walk_43 rfl ?_
          refine g_dup C dX0_walk_44 rfl ?_
          refine g_get C dX0_walk_45 iwX0 rfl (wO_A δ _) 7 (Nat.le_of_ble_eq_true rfl) mW117 rfl rfl ?_
          refine g_aload_n C dX0_walk_48 rfl ?_
          refine g_iload C dX0_walk_49 rfl ?_
          refine g_callSl C sS_X0_53 dX0_walk_51 (c_X0_factorAt _ δ _ hu _ hn_s1 h4) ⟨by decide, by decide⟩ rfl rfl rfl (Nat.le_of_ble_eq_true rfl) (fun r_51 s_51 h_51 => ?_)
          obtain ⟨rfl, h_51⟩ := h_51
          refine g_lmul C dX0_walk_54 ?_
          refine g_put C tyX0 dX0_walk_55 iwX0 tyX0_ok nmX0 rfl (wO_A δ _) 7 (Nat.le_of_ble_eq_true rfl) mW117 rfl rfl rfl rfl rfl (Nat.le_of_ble_eq_true rfl) (pG_6 δ _ _) ?_
          refine g_aload_n C dX0_walk_58 rfl ?_
          refine g_aload_n C dX0_walk_59 rfl ?_
          refine g_iload C dX0_walk_60 rfl ?_
          refine g_iload_n C dX0_walk_62 rfl ?_
          refine g_iload_n C dX0_walk_63 rfl ?_
          refine g_iload C dX0_walk_64 rfl ?_
          refine g_callVv C sV_X0_80 dX0_walk_66 (c_X0_walkStep _ δ _ hu (j := j) (k := k) (by omega) hk hc _ hn_s1 h4) ⟨by decide, by decide⟩ (wO_A δ _) rfl rfl rfl rfl (Nat.le_of_ble_eq_true rfl) (fun s_66 h_66 => ?_)
          have z_66 : gSm σ s_66 := gSm_t (by repeat (first | (with_reducible assumption) | (with_reducible exact gSm_r _) | (with_reducible refine gSm_I (by omega) ?_) | (with_reducible refine gSm_L (by omega) ?_) | (with_reducible refine gSm_N (by omega) ?_) | (with_reducible refine gSm_G (by omega) ?_) | (with_reducible refine gSm_P ?_))) h_66
          refine g_aload_n C dX0_walk_69 rfl ?_
          refine g_get C dX0_walk_70 iwX0 rfl (wO_A δ _) 0 (Nat.le_of_ble_eq_true rfl) mW108 rfl rfl ?_
          refine g_astore C dX0_walk_73 (Nat.le_of_ble_eq_true rfl) rfl ?_
          refine g_lv [some _, some _, some _, some _, some _, some _, some _] (gs_some (gs_some (gs_some (gs_some (gs_some (gs_some (gs_some gs_nil))))))) ?_
          refine g_aload_n C dX0_walk_75 rfl ?_
          refine g_aload_n C dX0_walk_76 rfl ?_
          refine g_get C dX0_walk_77 iwX0 rfl (wO_A δ _) 1 (Nat.le_of_ble_eq_true rfl) mW109 rfl rfl ?_
          refine g_put C tyX0 dX0_walk_80 iwX0 tyX0_ok nmX0 rfl (wO_A δ _) 0 (Nat.le_of_ble_eq_true rfl) mW108 rfl rfl rfl rfl rfl (Nat.le_of_ble_eq_true rfl) (pPa δ _) ?_
          refine g_aload_n C dX0_walk_83 rfl ?_
          refine g_aload C dX0_walk_84 rfl ?_
          refine g_put C tyX0 dX0_walk_86 iwX0 tyX0_ok nmX0 rfl (wO_A δ _) 1 (Nat.le_of_ble_eq_true rfl) mW109 rfl rfl rfl rfl rfl (Nat.le_of_ble_eq_true rfl) (pPb δ _ _) ?_
          refine g_iinc (v := nI (j + 1)) C dX0_walk_89 rfl (ginc _ 1) rfl ?_
          refine g_lv [some _, some _, some _, some _, some _, some _, some _] (gs_some (gs_some (gs_some (gs_some (gs_some (gs_some (gs_some gs_nil))))))) ?_
          refine g_goto C 31 dX0_walk_92 (by decide) ?_
          refine g_lv [some _, some _, some _, some _, some _, some _, none] (gs_some (gs_some (gs_some (gs_some (gs_some (gs_some (gs_none gs_nil))))))) ?_
          exact ih_31 (j + 1) _ (by omega) (by repeat (first | (with_reducible assumption) | (with_reducible exact gSm_r _) | (with_reducible refine gSm_I (by omega) ?_) | (with_reducible refine gSm_L (by omega) ?_) | (with_reducible refine gSm_N (by omega) ?_) | (with_reducible refine gSm_G (by omega) ?_) | (with_reducible refine gSm_P ?_))) (by omega)
  refine g_lv [some _, some _, some _, some _, some _, some _, none] (gs_some (gs_some (gs_some (gs_some (gs_some (gs_some (gs_none gs_nil))))))) ?_
  exact L_31 _ 0 _ (by omega) (by repeat (first | (with_reducible assumption) | (with_reducible exact gSm_r _) | (with_reducible refine gSm_I (by omega) ?_) | (with_reducible refine gSm_L (by omega) ?_) | (with_reducible refine gSm_N (by omega) ?_) | (with_reducible refine gSm_G (by omega) ?_) | (with_reducible refine gSm_P ?_))) (Nat.lt_succ_self _)
set_option maxRecDepth 100000 in
set_option maxHeartbeats 4000000 in
theorem c_X0_through (l : Launch) (δ : GD) (σ : GS)  : gM l δ yX0_through cX0_through 8 (some .long) 0 0 [.ref (δ.2.2.1 20)] σ (gPl (fun _ σ' => σ = σ')) := by
  refine g_of (lv0 := [some (.ref (δ.2.2.1 20)), none, none, none, none, none, none, none]) (by decide) rfl (Nat.le_of_ble_eq_true rfl) (fun Γ hl C E => ?_)
  subst hl
  have C : gC Γ δ cX0_through RX0 8 0 0 := C
  refine g_lconst (v := 0) C dX0_through_0 (by decide) ?_
  refine g_lstore_n C dX0_through_1 (Nat.le_of_ble_eq_true rfl) rfl ?_
  refine g_lv [some _, some _, none, none, none, none, none, none] (gs_some (gs_some (gs_none (gs_none (gs_none (gs_none (gs_none (gs_none gs_nil)))))))) ?_
  refine g_aload_n C dX0_through_2 rfl ?_
  refine g_get C dX0_through_3 iwX0 rfl (wO_A δ _) 5 (Nat.le_of_ble_eq_true rfl) mW113 rfl rfl ?_
  refine g_astore_n C dX0_through_6 (Nat.le_of_ble_eq_true rfl) rfl ?_
  refine g_lv [some _, some _, none, some _, none, none, none, none] (gs_some (gs_some (gs_none (gs_some (gs_none (gs_none (gs_none (gs_none gs_nil)))))))) ?_
  refine g_aload_n C dX0_through_7 rfl ?_
  refine g_alenL C 10 dX0_through_8 (by decide) rfl ?_
  refine g_istore C dX0_through_9 (Nat.le_of_ble_eq_true rfl) rfl ?_
  refine g_lv [some _, some _, none, some _, some _, none, none, none] (gs_some (gs_some (gs_none (gs_some (gs_some (gs_none (gs_none (gs_none gs_nil)))))))) ?_
  refine g_iconst (v := 0) C dX0_through_11 (by decide) ?_
  refine g_istore C dX0_through_12 (Nat.le_of_ble_eq_true rfl) rfl ?_
  refine g_lv [some _, some _, none, some _, some _, some _, none, none] (gs_some (gs_some (gs_none (gs_some (gs_some (gs_some (gs_none (gs_none gs_nil)))))))) ?_
  have L_14 : ∀ (nn : Nat) (i : Nat) (x : Int64) (hi : i ≤ 13), 13 - i < nn → gW Γ δ σ 14 [some (.ref (δ.2.2.1 20)), some (.long x), none, some (.ref (δ.2.2.1 92)), some (.int (nI 13)), some (.int (nI i)), none, none] [] := by
    intro nn
    induction nn with
    | zero =>
      intro i x hi hm_14
      exact absurd hm_14 (Nat.not_lt_zero _)
    | succ nn ih_14 =>
      intro i x hi hm_14
      refine g_iload C dX0_through_14 rfl ?_
      refine g_iload C dX0_through_16 rfl ?_
      refine g_icmp_ge C 38 dX0_through_18 (by decide) (fun c_18 => ?_) (fun c_18 => ?_)
      · have k_18 := gle c_18 (a := 13) (b := i) (by first | rfl | assumption | (simp only [glit, nI_add, pk_mul]; done) | (simp only [glit, nI_add, pk_mul]; congr 1; omega) | (simp only [*, glit, nI_add, pk_mul]; congr 1; omega)) (by first | rfl | assumption | (simp only [glit, nI_add, pk_mul]; done) | (simp only [glit, nI_add, pk_mul]; congr 1; omega) | (simp only [*, glit, nI_add, pk_mul]; congr 1; omega)) (by omega) (by omega)
        refine g_lload_n C dX0_through_38 rfl ?_
        exact g_lret C E dX0_through_39 rfl ⟨_, rfl, rfl⟩
      · have k_18 := gnle c_18 (a := 13) (b := i) (by first | rfl | assumption | (simp only [glit, nI_add, pk_mul]; done) | (simp only [glit, nI_add, pk_mul]; congr 1; omega) | (simp only [*, glit, nI_add, pk_mul]; congr 1; omega)) (by first | rfl | assumption | (simp only [glit, nI_add, pk_mul]; done) | (simp only [glit, nI_add, pk_mul]; congr 1; omega) | (simp only [*, glit, nI_add, pk_mul]; congr 1; omega)) (by omega) (by omega)
        refine g_aload_n C dX0_through_21 rfl ?_
        refine g_iload C dX0_through_22 rfl ?_
        refine g_laldN C dX0_through_24 (k := i) (q := 10) (by decide) rfl (by first | rfl | assumption | (simp only [glit, nI_add, pk_mul]; done) | (simp only [glit, nI_add, pk_mul]; congr 1; omega) | (simp only [*, glit, nI_add, pk_mul]; congr 1; omega)) (show i < gLenL 10 from Nat.lt_of_lt_of_eq (show i < 13 by omega) rfl) ?_
        refine g_lstore C dX0_through_25 (Nat.le_of_ble_eq_true rfl) rfl ?_
        refine g_lv [some _, some _, none, some _, some _, some _, some _, none] (gs_some (gs_some (gs_none (gs_some (gs_some (gs_some (gs_some (gs_none gs_nil)))))))) ?_
        refine g_lload_n C dX0_through_27 rfl ?_
        refine g_lload C dX0_through_28 rfl ?_
        refine g_ladd C dX0_through_30 ?_
        refine g_lstore_n C dX0_through_31 (Nat.le_of_ble_eq_true rfl) rfl ?_
        refine g_lv [some _, some _, none, some _, some _, some _, some _, none] (gs_some (gs_some (gs_none (gs_some (gs_some (gs_some (gs_some (gs_none gs_nil)))))))) ?_
        refine g_iinc (v := nI (i + 1)) C dX0_through_32 rfl (ginc _ 1) rfl ?_
        refine g_lv [some _, some _, none, some _, some _, some _, some _, none] (gs_some (gs_some (gs_none (gs_some (gs_some (gs_some (gs_some (gs_none gs_nil)))))))) ?_
        refine g_goto C 14 dX0_through_35 (by decide) ?_
        refine g_lv [some _, some _, none, some _, some _, some _, none, none] (gs_some (gs_some (gs_none (gs_some (gs_some (gs_some (gs_none (gs_none gs_nil)))))))) ?_
        exact ih_14 (i + 1) _ (by omega) (by omega)
  refine g_lv [some _, some _, none, some _, some _, some _, none, none] (gs_some (gs_some (gs_none (gs_some (gs_some (gs_some (gs_none (gs_none gs_nil)))))))) ?_
  exact L_14 _ 0 _ (by omega) (Nat.lt_succ_self _)
set_option maxRecDepth 100000 in
set_option maxHeartbeats 4000000 in
theorem c_X0_countRows (l : Launch) (δ : GD) (σ : GS) {u : Nat} (hu : u < 8) {k : Nat} (hk : k ≤ 12) {n : Nat} (hn : gN σ (14 + u) = nI n) (h4 : n ≤ 4) : gM l δ yX0_countRows cX0_countRows 3 (some .long) 4 110 [.ref (δ.2.2.1 20), .ref (δ.2.2.1 (8 + u)), .int (nI k)] σ (gPl (fun _ σ' => gSm σ σ')) := by
  refine g_of (lv0 := [some (.ref (δ.2.2.1 20)), some (.ref (δ.2.2.1 (8 + u))), some (.int (nI k))]) (by decide) rfl (Nat.le_of_ble_eq_true rfl) (fun Γ hl C E => ?_)
  subst hl
  have C : gC Γ δ cX0_countRows RX0 3 4 110 := C
  refine g_aload_n C dX0_countRows_0 rfl ?_
  refine g_aload_n C dX0_countRows_1 rfl ?_
  refine g_iload_n C dX0_countRows_2 rfl ?_
  refine g_iconst (v := 0) C dX0_countRows_3 (by decide) ?_
  refine g_iconst (v := 0) C dX0_countRows_4 (by decide) ?_
  refine g_callVv C sV_X0_69 dX0_countRows_5 (c_X0_walk _ δ _ hu (c := 0) hk (by omega) _ hn h4) ⟨by decide, by decide⟩ (wO_A δ _) rfl rfl rfl rfl (Nat.le_of_ble_eq_true rfl) (fun s_5 h_5 => ?_)
  have z_5 : gSm σ s_5 := gSm_t (by repeat (first | (with_reducible assumption) | (with_reducible exact gSm_r _) | (with_reducible refine gSm_I (by omega) ?_) | (with_reducible refine gSm_L (by omega) ?_) | (with_reducible refine gSm_N (by omega) ?_) | (with_reducible refine gSm_G (by omega) ?_) | (with_reducible refine gSm_P ?_))) h_5
  refine g_aload_n C dX0_countRows_8 rfl ?_
  refine g_callVl C sV_X0_73 dX0_countRows_9 (c_X0_through _ δ _) ⟨by decide, by decide⟩ (wO_A δ _) rfl rfl rfl rfl (Nat.le_of_ble_eq_true rfl) (fun r_9 s_9 h_9 => ?_)
  obtain rfl := h_9
  exact g_lret C E dX0_countRows_12 rfl ⟨_, rfl, (by repeat (first | (with_reducible assumption) | (with_reducible exact gSm_r _) | (with_reducible refine gSm_I (by omega) ?_) | (with_reducible refine gSm_L (by omega) ?_) | (with_reducible refine gSm_N (by omega) ?_) | (with_reducible refine gSm_G (by omega) ?_) | (with_reducible refine gSm_P ?_)))⟩
set_option maxRecDepth 100000 in
set_option maxHeartbeats 4000000 in
theorem c_X0_weigh (l : Launch) (δ : GD) (σ : GS) {u : Nat} (hu : u < 8) {k c : Nat} (hk : k ≤ 12) (hc : c < 4) {n : Nat} (hn : gN σ (14 + u) = nI n) (h4 : n ≤ 4) : gM l δ yX0_weigh cX0_weigh 4 none 4 110 [.ref (δ.2.2.1 20), .ref (δ.2.2.1 (8 + u)), .int (nI k), .int (nI c)] σ (gPv (fun σ' => gSm σ σ')) := by
  refine g_of (lv0 := [some (.ref (δ.2.2.1 20)), some (.ref (δ.2.2.1 (8 + u))), some (.int (nI k)), some (.int (nI c))]) (by decide) rfl (Nat.le_of_ble_eq_true rfl) (fun Γ hl C E => ?_)
  subst hl
  have C : gC Γ δ cX0_weigh RX0 4 4 110 := C
  refine g_aload_n C dX0_weigh_0 rfl ?_
  refine g_aload_n C dX0_weigh_1 rfl ?_
  refine g_iload_n C dX0_weigh_2 rfl ?_
  refine g_iload_n C dX0_weigh_3 rfl ?_
  refine g_iconst (v := 1) C dX0_weigh_4 (by decide) ?_
  refine g_callVv C sV_X0_69 dX0_weigh_5 (c_X0_walk _ δ _ hu hk hc _ hn h4) ⟨by decide, by decide⟩ (wO_A δ _) rfl rfl rfl rfl (Nat.le_of_ble_eq_true rfl) (fun s_5 h_5 => ?_)
  have z_5 : gSm σ s_5 := gSm_t (by repeat (first | (with_reducible assumption) | (with_reducible exact gSm_r _) | (with_reducible refine gSm_I (by omega) ?_) | (with_reducible refine gSm_L (by omega) ?_) | (with_reducible refine gSm_N (by omega) ?_) | (with_reducible refine gSm_G (by omega) ?_) | (with_reducible refine gSm_P ?_))) h_5
  exact g_vret C E dX0_weigh_8 rfl ⟨rfl, (by repeat (first | (with_reducible assumption) | (with_reducible exact gSm_r _) | (with_reducible refine gSm_I (by omega) ?_) | (with_reducible refine gSm_L (by omega) ?_) | (with_reducible refine gSm_N (by omega) ?_) | (with_reducible refine gSm_G (by omega) ?_) | (with_reducible refine gSm_P ?_)))⟩
set_option maxRecDepth 100000 in
set_option maxHeartbeats 4000000 in
theorem c_X0_findMean (l : Launch) (δ : GD) (σ : GS) {m : Nat} (hm : m ≤ 3) : gM l δ yX0_findMean cX0_findMean 10 none 0 0 [.ref (δ.2.2.1 20), .int (nI m)] σ (gPv (fun σ' => gSm σ σ')) := by
  refine g_of (lv0 := [some (.ref (δ.2.2.1 20)), some (.int (nI m)), none, none, none, none, none, none, none, none]) (by decide) rfl (Nat.le_of_ble_eq_true rfl) (fun Γ hl C E => ?_)
  subst hl
  have C : gC Γ δ cX0_findMean RX0 10 0 0 := C
  refine g_aload_n C dX0_findMean_0 rfl ?_
  refine g_lconst (v := 0) C dX0_findMean_1 (by decide) ?_
  refine g_put C tyX0 dX0_findMean_2 iwX0 tyX0_ok nmX0 rfl (wO_A δ _) 9 (Nat.le_of_ble_eq_true rfl) mW121 rfl rfl rfl rfl rfl (Nat.le_of_ble_eq_true rfl) (pG_8 δ _ _) ?_
  refine g_aload_n C dX0_findMean_5 rfl ?_
  refine g_lconst (v := 0) C dX0_findMean_6 (by decide) ?_
  refine g_put C tyX0 dX0_findMean_7 iwX0 tyX0_ok nmX0 rfl (wO_A δ _) 10 (Nat.le_of_ble_eq_true rfl) mW123 rfl rfl rfl rfl rfl (Nat.le_of_ble_eq_true rfl) (pG_9 δ _ _) ?_
  refine g_aload_n C dX0_findMean_10 rfl ?_
  refine g_get C dX0_findMean_11 iwX0 rfl (wO_A δ _) 8 (Nat.le_of_ble_eq_true rfl) mW119 rfl rfl ?_
  refine g_lconst (v := 1) C dX0_findMean_14 (by decide) ?_
  refine g_lcmp C dX0_findMean_15 ?_
  refine g_if_ge C 20 dX0_findMean_16 (by decide) (fun c_16 => ?_) (fun c_16 => ?_)
  · rw [lg_cmp_ge] at c_16
    have hb0 : ¬ gG σ 7 = 0 := gnz1 c_16
    refine g_iconst (v := 1) C dX0_findMean_20 (by decide) ?_
    refine g_istore_n C dX0_findMean_21 (Nat.le_of_ble_eq_true rfl) rfl ?_
    refine g_lv [some _, some _, some _, none, none, none, none, none, none, none] (gs_some (gs_some (gs_some (gs_none (gs_none (gs_none (gs_none (gs_none (gs_none (gs_none gs_nil)))))))))) ?_
    have L_22 : ∀ (nn : Nat) (x : Nat) (s1 : GS) (hx : 1 ≤ x) (hx2 : x ≤ 201) (hs : gSm σ s1) (hz : ¬ gG s1 7 = 0), 201 - x < nn → gW Γ δ s1 22 [some (.ref (δ.2.2.1 20)), some (.int (nI m)), some (.int (nI x)), none, none, none, none, none, none, none] [] := by
      intro nn
      induction nn with
      | zero =>
        intro x s1 hx hx2 hs hz hm_22
        exact absurd hm_22 (Nat.not_lt_zero _)
      | succ nn ih_22 =>
        intro x s1 hx hx2 hs hz hm_22
        refine g_iload_n C dX0_findMean_22 rfl ?_
        refine g_sipush (v := 200) C dX0_findMean_23 (by decide) ?_
        refine g_icmp_gt C 137 dX0_findMean_26 (by decide) (fun c_26 => ?_) (fun c_26 => ?_)
        · have k_26 := glt c_26 (a := 200) (b := x) (by first | rfl | assumption | (simp only [glit, nI_add, pk_mul]; done) | (simp only [glit, nI_add, pk_mul]; congr 1; omega) | (simp only [*, glit, nI_add, pk_mul]; congr 1; omega)) (by first | rfl | assumption | (simp only [glit, nI_add, pk_mul]; done) | (simp only [glit, nI_add, pk_mul]; congr 1; omega) | (simp only [*, glit, nI_add, pk_mul]; congr 1; omega)) (by omega) (by omega)
          exact g_vret C E dX0_findMean_137 rfl ⟨rfl, (by repeat (first | (with_reducible assumption) | (with_reducible exact gSm_r _) | (with_reducible refine gSm_I (by omega) ?_) | (with_reducible refine gSm_L (by omega) ?_) | (with_reducible refine gSm_N (by omega) ?_) | (with_reducible refine gSm_G (by omega) ?_) | (with_reducible refine gSm_P ?_)))⟩
        · have k_26 := gnlt c_26 (a := 200) (b := x) (by first | rfl | assumption | (simp only [glit, nI_add, pk_mul]; done) | (simp only [glit, nI_add, pk_mul]; congr 1; omega) | (simp only [*, glit, nI_add, pk_mul]; congr 1; omega)) (by first | rfl | assumption | (simp only [glit, nI_add, pk_mul]; done) | (simp only [glit, nI_add, pk_mul]; congr 1; omega) | (simp only [*, glit, nI_add, pk_mul]; congr 1; omega)) (by omega) (by omega)
          refine g_lconst (v := 0) C dX0_findMean_29 (by decide) ?_
          refine g_lstore_n C dX0_findMean_30 (Nat.le_of_ble_eq_true rfl) rfl ?_
          refine g_lv [some _, some _, some _, some _, none, none, none, none, none, none] (gs_some (gs_some (gs_some (gs_some (gs_none (gs_none (gs_none (gs_none (gs_none (gs_none gs_nil)))))))))) ?_
          refine g_aload_n C dX0_findMean_31 rfl ?_
          refine g_get C dX0_findMean_32 iwX0 rfl (wO_A δ _) 6 (Nat.le_of_ble_eq_true rfl) mW115 rfl rfl ?_
          refine g_iload_n C dX0_findMean_35 rfl ?_
          refine g_laldN C dX0_findMean_36 (k := x) (q := 11) (by decide) rfl (by first | rfl | assumption | (simp only [glit, nI_add, pk_mul]; done) | (simp only [glit, nI_add, pk_mul]; congr 1; omega) | (simp only [*, glit, nI_add, pk_mul]; congr 1; omega)) (show x < gLenL 11 from Nat.lt_of_lt_of_eq (show x < 201 by omega) rfl) ?_
          refine g_lstore C dX0_findMean_37 (Nat.le_of_ble_eq_true rfl) rfl ?_
          refine g_lv [some _, some _, some _, some _, none, some _, none, none, none, none] (gs_some (gs_some (gs_some (gs_some (gs_none (gs_some (gs_none (gs_none (gs_none (gs_none gs_nil)))))))))) ?_
          refine g_iconst (v := 0) C dX0_findMean_39 (by decide) ?_
          refine g_istore C dX0_findMean_40 (Nat.le_of_ble_eq_true rfl) rfl ?_
          refine g_lv [some _, some _, some _, some _, none, some _, none, some _, none, none] (gs_some (gs_some (gs_some (gs_some (gs_none (gs_some (gs_none (gs_some (gs_none (gs_none gs_nil)))))))))) ?_
          have L_42 : ∀ (nn : Nat) (i : Nat) (w r : Int64) (hi : i ≤ m), m - i < nn → gW Γ δ s1 42 [some (.ref (δ.2.2.1 20)), some (.int (nI m)), some (.int (nI x)), some (.long w), none, some (.long r), none, some (.int (nI i)), none, none] [] := by
            intro nn
            induction nn with
            | zero =>
              intro i w r hi hm_42
              exact absurd hm_42 (Nat.not_lt_zero _)
            | succ nn ih_42 =>
              intro i w r hi hm_42
              refine g_iload C dX0_findMean_42 rfl ?_
              refine g_iload_n C dX0_findMean_44 rfl ?_
              refine g_icmp_ge C 92 dX0_findMean_45 (by decide) (fun c_45 => ?_) (fun c_45 => ?_)
              · have k_45 := gle c_45 (a := m) (b := i) (by first | rfl | assumption | (simp only [glit, nI_add, pk_mul]; done) | (simp only [glit, nI_add, pk_mul]; congr 1; omega) | (simp only [*, glit, nI_add, pk_mul]; congr 1; omega)) (by first | rfl | assumption | (simp only [glit, nI_add, pk_mul]; done) | (simp only [glit, nI_add, pk_mul]; congr 1; omega) | (simp only [*, glit, nI_add, pk_mul]; congr 1; omega)) (by omega) (by omega)
                refine g_aload_n C dX0_findMean_92 rfl ?_
                refine g_dup C dX0_findMean_93 rfl ?_
                refine g_get C dX0_findMean_94 iwX0 rfl (wO_A δ _) 9 (Nat.le_of_ble_eq_true rfl) mW121 rfl rfl ?_
                refine g_lload_n C dX0_findMean_97 rfl ?_
                refine g_aload_n C dX0_findMean_98 rfl ?_
                refine g_get C dX0_findMean_99 iwX0 rfl (wO_A δ _) 10 (Nat.le_of_ble_eq_true rfl) mW123 rfl rfl ?_
                refine g_lload C dX0_findMean_102 rfl ?_
                refine g_ladd C dX0_findMean_104 ?_
                refine g_aload_n C dX0_findMean_105 rfl ?_
                refine g_get C dX0_findMean_106 iwX0 rfl (wO_A δ _) 8 (Nat.le_of_ble_eq_true rfl) mW119 rfl rfl ?_
                refine g_ldiv C dX0_findMean_109 hz ?_
                refine g_ladd C dX0_findMean_110 ?_
                refine g_ladd C dX0_findMean_111 ?_
                refine g_put C tyX0 dX0_findMean_112 iwX0 tyX0_ok nmX0 rfl (wO_A δ _) 9 (Nat.le_of_ble_eq_true rfl) mW121 rfl rfl rfl rfl rfl (Nat.le_of_ble_eq_true rfl) (pG_8 δ _ _) ?_
                refine g_aload_n C dX0_findMean_115 rfl ?_
                refine g_aload_n C dX0_findMean_116 rfl ?_
                refine g_get C dX0_findMean_117 iwX0 rfl (wO_A δ _) 10 (Nat.le_of_ble_eq_true rfl) mW123 rfl rfl ?_
                refine g_lload C dX0_findMean_120 rfl ?_
                refine g_ladd C dX0_findMean_122 ?_
                refine g_aload_n C dX0_findMean_123 rfl ?_
                refine g_get C dX0_findMean_124 iwX0 rfl (wO_A δ _) 8 (Nat.le_of_ble_eq_true rfl) mW119 rfl rfl ?_
                refine g_lrem C dX0_findMean_127 hz ?_
                refine g_put C tyX0 dX0_findMean_128 iwX0 tyX0_ok nmX0 rfl (wO_A δ _) 10 (Nat.le_of_ble_eq_true rfl) mW123 rfl rfl rfl rfl rfl (Nat.le_of_ble_eq_true rfl) (pG_9 δ _ _) ?_
                refine g_iinc (v := nI (x + 1)) C dX0_findMean_131 rfl (ginc _ 1) rfl ?_
                refine g_lv [some _, some _, some _, some _, none, some _, none, some _, none, none] (gs_some (gs_some (gs_some (gs_some (gs_none (gs_some (gs_none (gs_some (gs_none (gs_none gs_nil)))))))))) ?_
                refine g_goto C 22 dX0_findMean_134 (by decide) ?_
                refine g_lv [some _, some _, some _, none, none, none, none, none, none, none] (gs_some (gs_some (gs_some (gs_none (gs_none (gs_none (gs_none (gs_none (gs_none (gs_none gs_nil)))))))))) ?_
                exact ih_22 (x + 1) _ (by omega) (by omega) (by repeat (first | (with_reducible assumption) | (with_reducible exact gSm_r _) | (with_reducible refine gSm_I (by omega) ?_) | (with_reducible refine gSm_L (by omega) ?_) | (with_reducible refine gSm_N (by omega) ?_) | (with_reducible refine gSm_G (by omega) ?_) | (with_reducible refine gSm_P ?_))) hz (by omega)
              · have k_45 := gnle c_45 (a := m) (b := i) (by first | rfl | assumption | (simp only [glit, nI_add, pk_mul]; done) | (simp only [glit, nI_add, pk_mul]; congr 1; omega) | (simp only [*, glit, nI_add, pk_mul]; congr 1; omega)) (by first | rfl | assumption | (simp only [glit, nI_add, pk_mul]; done) | (simp only [glit, nI_add, pk_mul]; congr 1; omega) | (simp only [*, glit, nI_add, pk_mul]; congr 1; omega)) (by omega) (by omega)
                refine g_lload C dX0_findMean_48 rfl ?_
                refine g_lload_n C dX0_findMean_50 rfl ?_
                refine g_ladd C dX0_findMean_51 ?_
                refine g_lconst (v := 0) C dX0_findMean_52 (by decide) ?_
                refine g_lcmp C dX0_findMean_53 ?_
                refine g_if_le C 92 dX0_findMean_54 (by decide) (fun c_54 => ?_) (fun c_54 => ?_)
                · rw [lg_cmp_le] at c_54
                  refine g_aload_n C dX0_findMean_92 rfl ?_
                  refine g_dup C dX0_findMean_93 rfl ?_
                  refine g_get C dX0_findMean_94 iwX0 rfl (wO_A δ _) 9 (Nat.le_of_ble_eq_true rfl) mW121 rfl rfl ?_
                  refine g_lload_n C dX0_findMean_97 rfl ?_
                  refine g_aload_n C dX0_findMean_98 rfl ?_
                  refine g_get C dX0_findMean_99 iwX0 rfl (wO_A δ _) 10 (Nat.le_of_ble_eq_true rfl) mW123 rfl rfl ?_
                  refine g_lload C dX0_findMean_102 rfl ?_
                  refine g_ladd C dX0_findMean_104 ?_
                  refine g_aload_n C dX0_findMean_105 rfl ?_
                  refine g_get C dX0_findMean_106 iwX0 rfl (wO_A δ _) 8 (Nat.le_of_ble_eq_true rfl) mW119 rfl rfl ?_
                  refine g_ldiv C dX0_findMean_109 hz ?_
                  refine g_ladd C dX0_findMean_110 ?_
                  refine g_ladd C dX0_findMean_111 ?_
                  refine g_put C tyX0 dX0_findMean_112 iwX0 tyX0_ok nmX0 rfl (wO_A δ _) 9 (Nat.le_of_ble_eq_true rfl) mW121 rfl rfl rfl rfl rfl (Nat.le_of_ble_eq_true rfl) (pG_8 δ _ _) ?_
                  refine g_aload_n C dX0_findMean_115 rfl ?_
                  refine g_aload_n C dX0_findMean_116 rfl ?_
                  refine g_get C dX0_findMean_117 iwX0 rfl (wO_A δ _) 10 (Nat.le_of_ble_eq_true rfl) mW123 rfl rfl ?_
                  refine g_lload C dX0_findMean_120 rfl ?_
                  refine g_ladd C dX0_findMean_122 ?_
                  refine g_aload_n C dX0_findMean_123 rfl ?_
                  refine g_get C dX0_findMean_124 iwX0 rfl (wO_A δ _) 8 (Nat.le_of_ble_eq_true rfl) mW119 rfl rfl ?_
                  refine g_lrem C dX0_findMean_127 hz ?_
                  refine g_put C tyX0 dX0_findMean_128 iwX0 tyX0_ok nmX0 rfl (wO_A δ _) 10 (Nat.le_of_ble_eq_true rfl) mW123 rfl rfl rfl rfl rfl (Nat.le_of_ble_eq_true rfl) (pG_9 δ _ _) ?_
                  refine g_iinc (v := nI (x + 1)) C dX0_findMean_131 rfl (ginc _ 1) rfl ?_
                  refine g_lv [some _, some _, some _, some _, none, some _, none, some _, none, none] (gs_some (gs_some (gs_some (gs_some (gs_none (gs_some (gs_none (gs_some (gs_none (gs_none gs_nil)))))))))) ?_
                  refine g_goto C 22 dX0_findMean_134 (by decide) ?_
                  refine g_lv [some _, some _, some _, none, none, none, none, none, none, none] (gs_some (gs_some (gs_some (gs_none (gs_none (gs_none (gs_none (gs_none (gs_none (gs_none gs_nil)))))))))) ?_
                  exact ih_22 (x + 1) _ (by omega) (by omega) (by repeat (first | (with_reducible assumption) | (with_reducible exact gSm_r _) | (with_reducible refine gSm_I (by omega) ?_) | (with_reducible refine gSm_L (by omega) ?_) | (with_reducible refine gSm_N (by omega) ?_) | (with_reducible refine gSm_G (by omega) ?_) | (with_reducible refine gSm_P ?_))) hz (by omega)
                · rw [lg_cmp_le] at c_54
                  refine g_lload C dX0_findMean_57 rfl ?_
                  refine g_iload_n C dX0_findMean_59 rfl ?_
                  refine g_i2l C dX0_findMean_60 ?_
                  refine g_lmul C dX0_findMean_61 ?_
                  refine g_lstore C dX0_findMean_62 (Nat.le_of_ble_eq_true rfl) rfl ?_
                  refine g_lv [some _, some _, some _, some _, none, some _, none, some _, some _, none] (gs_some (gs_some (gs_some (gs_some (gs_none (gs_some (gs_none (gs_some (gs_some (gs_none gs_nil)))))))))) ?_
                  refine g_lload_n C dX0_findMean_64 rfl ?_
                  refine g_iload_n C dX0_findMean_65 rfl ?_
                  refine g_i2l C dX0_findMean_66 ?_
                  refine g_lmul C dX0_findMean_67 ?_
                  refine g_lload C dX0_findMean_68 rfl ?_
                  refine g_aload_n C dX0_findMean_70 rfl ?_
                  refine g_get C dX0_findMean_71 iwX0 rfl (wO_A δ _) 8 (Nat.le_of_ble_eq_true rfl) mW119 rfl rfl ?_
                  refine g_ldiv C dX0_findMean_74 hz ?_
                  refine g_ladd C dX0_findMean_75 ?_
                  refine g_lstore_n C dX0_findMean_76 (Nat.le_of_ble_eq_true rfl) rfl ?_
                  refine g_lv [some _, some _, some _, some _, none, some _, none, some _, some _, none] (gs_some (gs_some (gs_some (gs_some (gs_none (gs_some (gs_none (gs_some (gs_some (gs_none gs_nil)))))))))) ?_
                  refine g_lload C dX0_findMean_77 rfl ?_
                  refine g_aload_n C dX0_findMean_79 rfl ?_
                  refine g_get C dX0_findMean_80 iwX0 rfl (wO_A δ _) 8 (Nat.le_of_ble_eq_true rfl) mW119 rfl rfl ?_
                  refine g_lrem C dX0_findMean_83 hz ?_
                  refine g_lstore C dX0_findMean_84 (Nat.le_of_ble_eq_true rfl) rfl ?_
                  refine g_lv [some _, some _, some _, some _, none, some _, none, some _, some _, none] (gs_some (gs_some (gs_some (gs_some (gs_none (gs_some (gs_none (gs_some (gs_some (gs_none gs_nil)))))))))) ?_
                  refine g_iinc (v := nI (i + 1)) C dX0_findMean_86 rfl (ginc _ 1) rfl ?_
                  refine g_lv [some _, some _, some _, some _, none, some _, none, some _, some _, none] (gs_some (gs_some (gs_some (gs_some (gs_none (gs_some (gs_none (gs_some (gs_some (gs_none gs_nil)))))))))) ?_
                  refine g_goto C 42 dX0_findMean_89 (by decide) ?_
                  refine g_lv [some _, some _, some _, some _, none, some _, none, some _, none, none] (gs_some (gs_some (gs_some (gs_some (gs_none (gs_some (gs_none (gs_some (gs_none (gs_none gs_nil)))))))))) ?_
                  exact ih_42 (i + 1) _ _ (by omega) (by omega)
          refine g_lv [some _, some _, some _, some _, none, some _, none, some _, none, none] (gs_some (gs_some (gs_some (gs_some (gs_none (gs_some (gs_none (gs_some (gs_none (gs_none gs_nil)))))))))) ?_
          exact L_42 _ 0 _ _ (by omega) (Nat.lt_succ_self _)
    refine g_lv [some _, some _, some _, none, none, none, none, none, none, none] (gs_some (gs_some (gs_some (gs_none (gs_none (gs_none (gs_none (gs_none (gs_none (gs_none gs_nil)))))))))) ?_
    exact L_22 _ 1 _ (by omega) (by omega) (by repeat (first | (with_reducible assumption) | (with_reducible exact gSm_r _) | (with_reducible refine gSm_I (by omega) ?_) | (with_reducible refine gSm_L (by omega) ?_) | (with_reducible refine gSm_N (by omega) ?_) | (with_reducible refine gSm_G (by omega) ?_) | (with_reducible refine gSm_P ?_))) hb0 (Nat.lt_succ_self _)
  · rw [lg_cmp_ge] at c_16
    exact g_vret C E dX0_findMean_19 rfl ⟨rfl, (by repeat (first | (with_reducible assumption) | (with_reducible exact gSm_r _) | (with_reducible refine gSm_I (by omega) ?_) | (with_reducible refine gSm_L (by omega) ?_) | (with_reducible refine gSm_N (by omega) ?_) | (with_reducible refine gSm_G (by omega) ?_) | (with_reducible refine gSm_P ?_)))⟩
set_option maxRecDepth 100000 in
set_option maxHeartbeats 4000000 in
theorem c_X1_become (l : Launch) (δ : GD) (σ : GS) (a b c : Int64) : gM l δ yX1_become cX1_become 11 none 1 30 [.ref (δ.2.2.1 21), .long a, .long b, .long c] σ (gPv (fun σ' => gSm σ σ')) := by
  refine g_of (lv0 := [some (.ref (δ.2.2.1 21)), some (.long a), none, some (.long b), none, some (.long c), none, none, none, none, none]) (by decide) rfl (Nat.le_of_ble_eq_true rfl) (fun Γ hl C E => ?_)
  subst hl
  have C : gC Γ δ cX1_become RX1 11 1 30 := C
  refine g_lload C dX1_become_0 rfl ?_
  refine g_lconst (v := 1) C dX1_become_2 (by decide) ?_
  refine g_lcmp C dX1_become_3 ?_
  refine g_if_ge C 8 dX1_become_4 (by decide) (fun c_4 => ?_) (fun c_4 => ?_)
  · rw [lg_cmp_ge] at c_4
    refine g_lload_n C dX1_become_8 rfl ?_
    refine g_lload C dX1_become_9 rfl ?_
    refine g_lrem C dX1_become_11 (gnz1 c_4) ?_
    refine g_lstore C dX1_become_12 (Nat.le_of_ble_eq_true rfl) rfl ?_
    refine g_lv [some _, some _, none, some _, none, some _, none, some _, none, none, none] (gs_some (gs_some (gs_none (gs_some (gs_none (gs_some (gs_none (gs_some (gs_none (gs_none (gs_none gs_nil))))))))))) ?_
    refine g_lload C dX1_become_14 rfl ?_
    refine g_lload C dX1_become_16 rfl ?_
    refine g_callNl C sN_X1_19 C.2.2.2.2.2.2.2.2.1.2 dX1_become_18 (c_X8_common _ δ _ _ _) ⟨by decide, by decide⟩ rfl rfl rfl (Nat.le_of_ble_eq_true rfl) (fun r_18 s_18 h_18 => ?_)
    obtain ⟨rfl, h_18⟩ := h_18
    refine g_lstore C dX1_become_21 (Nat.le_of_ble_eq_true rfl) rfl ?_
    refine g_lv [some _, some _, none, some _, none, some _, none, some _, none, some _, none] (gs_some (gs_some (gs_none (gs_some (gs_none (gs_some (gs_none (gs_some (gs_none (gs_some (gs_none gs_nil))))))))))) ?_
    refine g_aload_n C dX1_become_23 rfl ?_
    refine g_lload_n C dX1_become_24 rfl ?_
    refine g_lload_n C dX1_become_25 rfl ?_
    refine g_lload C dX1_become_26 rfl ?_
    refine g_ldiv C dX1_become_28 (gnz1 c_4) ?_
    refine g_ladd C dX1_become_29 ?_
    refine g_put C tyX1 dX1_become_30 iwX1 tyX1_ok nmX1 rfl (wO_F δ _) 0 (Nat.le_of_ble_eq_true rfl) mW154 rfl rfl rfl rfl rfl (Nat.le_of_ble_eq_true rfl) (pG_1 δ _ _) ?_
    refine g_aload_n C dX1_become_33 rfl ?_
    refine g_lload C dX1_become_34 rfl ?_
    refine g_lload C dX1_become_36 rfl ?_
    refine g_ldiv C dX1_become_38 (gnz1 h_18) ?_
    refine g_put C tyX1 dX1_become_39 iwX1 tyX1_ok nmX1 rfl (wO_F δ _) 1 (Nat.le_of_ble_eq_true rfl) mW156 rfl rfl rfl rfl rfl (Nat.le_of_ble_eq_true rfl) (pG_2 δ _ _) ?_
    refine g_aload_n C dX1_become_42 rfl ?_
    refine g_lload C dX1_become_43 rfl ?_
    refine g_lload C dX1_become_45 rfl ?_
    refine g_ldiv C dX1_become_47 (gnz1 h_18) ?_
    refine g_put C tyX1 dX1_become_48 iwX1 tyX1_ok nmX1 rfl (wO_F δ _) 2 (Nat.le_of_ble_eq_true rfl) mW158 rfl rfl rfl rfl rfl (Nat.le_of_ble_eq_true rfl) (pG_3 δ _ _) ?_
    exact g_vret C E dX1_become_51 rfl ⟨rfl, (by repeat (first | (with_reducible assumption) | (with_reducible exact gSm_r _) | (with_reducible refine gSm_I (by omega) ?_) | (with_reducible refine gSm_L (by omega) ?_) | (with_reducible refine gSm_N (by omega) ?_) | (with_reducible refine gSm_G (by omega) ?_) | (with_reducible refine gSm_P ?_)))⟩
  · rw [lg_cmp_ge] at c_4
    exact g_vret C E dX1_become_7 rfl ⟨rfl, (by repeat (first | (with_reducible assumption) | (with_reducible exact gSm_r _) | (with_reducible refine gSm_I (by omega) ?_) | (with_reducible refine gSm_L (by omega) ?_) | (with_reducible refine gSm_N (by omega) ?_) | (with_reducible refine gSm_G (by omega) ?_) | (with_reducible refine gSm_P ?_)))⟩
set_option maxRecDepth 100000 in
set_option maxHeartbeats 4000000 in
theorem c_X8_weighRows (l : Launch) (δ : GD) (σ : GS) {u : Nat} (hu : u < 8) {k c : Nat} (hk : k ≤ 12) (hc : c < 4) {n : Nat} (hn : gN σ (14 + u) = nI n) (h4 : n ≤ 4) : gM l δ yX8_weighRows cX8_weighRows 4 (some .int) 5 133 [.ref (δ.2.2.1 0), .ref (δ.2.2.1 (8 + u)), .int (nI k), .int (nI c)] σ (gPi (fun _ σ' => gSm σ σ')) := by
  refine g_of (lv0 := [some (.ref (δ.2.2.1 0)), some (.ref (δ.2.2.1 (8 + u))), some (.int (nI k)), some (.int (nI c))]) (by decide) rfl (Nat.le_of_ble_eq_true rfl) (fun Γ hl C E => ?_)
  subst hl
  have C : gC Γ δ cX8_weighRows RX8 4 5 133 := C
  refine g_aload_n C dX8_weighRows_0 rfl ?_
  refine g_callVi C sV_X8_136 dX8_weighRows_1 (c_X7_isEven _ δ _ hu hn h4) ⟨by decide, by decide⟩ (wO_U δ _ hu) rfl rfl rfl rfl (Nat.le_of_ble_eq_true rfl) (fun r_1 s_1 h_1 => ?_)
  obtain ⟨rfl, h_1⟩ := h_1
  rcases h_1 with ⟨rfl, h_1⟩ | ⟨rfl, h_1⟩
  · skip
    refine g_if_eq C 14 dX8_weighRows_4 (by decide) (fun c_4 => ?_) (fun c_4 => ?_)
    · exact absurd c_4 (by decide)
    · refine g_aload_n C dX8_weighRows_7 rfl ?_
      refine g_callVi C sV_X8_129 dX8_weighRows_8 (c_X7_total _ δ _ hu) ⟨by decide, by decide⟩ (wO_U δ _ hu) rfl rfl rfl rfl (Nat.le_of_ble_eq_true rfl) (fun r_8 s_8 h_8 => ?_)
      obtain ⟨rfl, h_8⟩ := h_8
      refine g_if_ne C 17 dX8_weighRows_11 (by decide) (fun c_11 => ?_) (fun c_11 => ?_)
      · refine g_aload_n C dX8_weighRows_17 rfl ?_
        refine g_get C dX8_weighRows_18 iwX8 rfl (wO_X δ _) 6 (Nat.le_of_ble_eq_true rfl) mW223 rfl rfl ?_
        refine g_aload_n C dX8_weighRows_21 rfl ?_
        refine g_iload_n C dX8_weighRows_22 rfl ?_
        refine g_callVi C sV_X8_228 dX8_weighRows_23 (c_X0_findBelow _ δ _ hu hk hn h4) ⟨by decide, by decide⟩ (wO_A δ _) rfl rfl rfl rfl (Nat.le_of_ble_eq_true rfl) (fun r_23 s_23 h_23 => ?_)
        have z_23 : gSm σ s_23 := gSm_t (by repeat (first | (with_reducible assumption) | (with_reducible exact gSm_r _) | (with_reducible refine gSm_I (by omega) ?_) | (with_reducible refine gSm_L (by omega) ?_) | (with_reducible refine gSm_N (by omega) ?_) | (with_reducible refine gSm_G (by omega) ?_) | (with_reducible refine gSm_P ?_))) h_23
        refine g_if_ne C 32 dX8_weighRows_26 (by decide) (fun c_26 => ?_) (fun c_26 => ?_)
        · refine g_aload_n C dX8_weighRows_32 rfl ?_
          refine g_get C dX8_weighRows_33 iwX8 rfl (wO_X δ _) 6 (Nat.le_of_ble_eq_true rfl) mW223 rfl rfl ?_
          refine g_callVv C sV_X8_218 dX8_weighRows_36 (c_X0_letAny _ δ _) ⟨by decide, by decide⟩ (wO_A δ _) rfl rfl rfl rfl (Nat.le_of_ble_eq_true rfl) (fun s_36 h_36 => ?_)
          have z_36 : gSm σ s_36 := gSm_t (by repeat (first | (with_reducible assumption) | (with_reducible exact gSm_r _) | (with_reducible refine gSm_I (by omega) ?_) | (with_reducible refine gSm_L (by omega) ?_) | (with_reducible refine gSm_N (by omega) ?_) | (with_reducible refine gSm_G (by omega) ?_) | (with_reducible refine gSm_P ?_))) h_36
          refine g_aload_n C dX8_weighRows_39 rfl ?_
          refine g_get C dX8_weighRows_40 iwX8 rfl (wO_X δ _) 6 (Nat.le_of_ble_eq_true rfl) mW223 rfl rfl ?_
          refine g_aload_n C dX8_weighRows_43 rfl ?_
          refine g_iload_n C dX8_weighRows_44 rfl ?_
          refine g_iload_n C dX8_weighRows_45 rfl ?_
          refine g_callVv C sV_X8_232 dX8_weighRows_46 (c_X0_weigh _ δ _ hu hk hc ((gSm_n z_36 (by omega)).trans hn) h4) ⟨by decide, by decide⟩ (wO_A δ _) rfl rfl rfl rfl (Nat.le_of_ble_eq_true rfl) (fun s_46 h_46 => ?_)
          have z_46 : gSm σ s_46 := gSm_t (by repeat (first | (with_reducible assumption) | (with_reducible exact gSm_r _) | (with_reducible refine gSm_I (by omega) ?_) | (with_reducible refine gSm_L (by omega) ?_) | (with_reducible refine gSm_N (by omega) ?_) | (with_reducible refine gSm_G (by omega) ?_) | (with_reducible refine gSm_P ?_))) h_46
          refine g_iconst (v := 0) C dX8_weighRows_49 (by decide) ?_
          exact g_iret C E dX8_weighRows_50 rfl rfl ⟨_, rfl, (by repeat (first | (with_reducible assumption) | (with_reducible exact gSm_r _) | (with_reducible refine gSm_I (by omega) ?_) | (with_reducible refine gSm_L (by omega) ?_) | (with_reducible refine gSm_N (by omega) ?_) | (with_reducible refine gSm_G (by omega) ?_) | (with_reducible refine gSm_P ?_)))⟩
        · refine g_bipush (v := (-6)) C dX8_weighRows_29 (by decide) ?_
          exact g_iret C E dX8_weighRows_31 rfl rfl ⟨_, rfl, (by repeat (first | (with_reducible assumption) | (with_reducible exact gSm_r _) | (with_reducible refine gSm_I (by omega) ?_) | (with_reducible refine gSm_L (by omega) ?_) | (with_reducible refine gSm_N (by omega) ?_) | (with_reducible refine gSm_G (by omega) ?_) | (with_reducible refine gSm_P ?_)))⟩
      · refine g_bipush (v := (-2)) C dX8_weighRows_14 (by decide) ?_
        exact g_iret C E dX8_weighRows_16 rfl rfl ⟨_, rfl, (by repeat (first | (with_reducible assumption) | (with_reducible exact gSm_r _) | (with_reducible refine gSm_I (by omega) ?_) | (with_reducible refine gSm_L (by omega) ?_) | (with_reducible refine gSm_N (by omega) ?_) | (with_reducible refine gSm_G (by omega) ?_) | (with_reducible refine gSm_P ?_)))⟩
  · skip
    refine g_if_eq C 14 dX8_weighRows_4 (by decide) (fun c_4 => ?_) (fun c_4 => ?_)
    · refine g_bipush (v := (-2)) C dX8_weighRows_14 (by decide) ?_
      exact g_iret C E dX8_weighRows_16 rfl rfl ⟨_, rfl, (by repeat (first | (with_reducible assumption) | (with_reducible exact gSm_r _) | (with_reducible refine gSm_I (by omega) ?_) | (with_reducible refine gSm_L (by omega) ?_) | (with_reducible refine gSm_N (by omega) ?_) | (with_reducible refine gSm_G (by omega) ?_) | (with_reducible refine gSm_P ?_)))⟩
    · exact absurd c_4 (by decide)
set_option maxRecDepth 100000 in
set_option maxHeartbeats 4000000 in
theorem c_X8_areDraws (l : Launch) (δ : GD) (σ : GS) (n : Int32) : gM l δ yX8_areDraws cX8_areDraws 1 (some .boolean) 0 0 [.int n] σ (gPi (fun x σ' => σ = σ' ∧ ((x = 1 ∧ gIx n 13) ∨ (x = 0 ∧ ¬ gIx n 13)))) := by
  refine g_of (lv0 := [some (.int n)]) (by decide) rfl (Nat.le_of_ble_eq_true rfl) (fun Γ hl C E => ?_)
  subst hl
  have C : gC Γ δ cX8_areDraws RX8 1 0 0 := C
  refine g_iload_n C dX8_areDraws_0 rfl ?_
  refine g_if_lt C 14 dX8_areDraws_1 (by decide) (fun c_1 => ?_) (fun c_1 => ?_)
  · have hx : ¬ gIx n 13 := gIx_neg (by omega) c_1
    refine g_iconst (v := 0) C dX8_areDraws_14 (by decide) ?_
    exact g_iret C E dX8_areDraws_15 rfl rfl ⟨_, rfl, ⟨rfl, by first | exact Or.inl ⟨rfl, hy⟩ | exact Or.inr ⟨rfl, hx⟩⟩⟩
  · refine g_iload_n C dX8_areDraws_4 rfl ?_
    refine g_bipush (v := 12) C dX8_areDraws_5 (by decide) ?_
    refine g_icmp_gt C 14 dX8_areDraws_7 (by decide) (fun c_7 => ?_) (fun c_7 => ?_)
    · have hx : ¬ gIx n 13 := gIx_no12 c_7
      refine g_iconst (v := 0) C dX8_areDraws_14 (by decide) ?_
      exact g_iret C E dX8_areDraws_15 rfl rfl ⟨_, rfl, ⟨rfl, by first | exact Or.inl ⟨rfl, hy⟩ | exact Or.inr ⟨rfl, hx⟩⟩⟩
    · have hy : gIx n 13 := gIx_12 c_1 (Int32.not_lt.mp c_7)
      refine g_iconst (v := 1) C dX8_areDraws_10 (by decide) ?_
      refine g_goto C 15 dX8_areDraws_11 (by decide) ?_
      exact g_iret C E dX8_areDraws_15 rfl rfl ⟨_, rfl, ⟨rfl, by first | exact Or.inl ⟨rfl, hy⟩ | exact Or.inr ⟨rfl, hx⟩⟩⟩
set_option maxRecDepth 100000 in
set_option maxHeartbeats 4000000 in
theorem c_X8_chance (l : Launch) (δ : GD) (σ : GS) (a0 a1 a2 : Int32) {m : Nat} (hm : gN σ 0 = nI m) (h8 : m ≤ 8) (hC : ∀ u, u < m → ∃ n : Nat, 2 ≤ n ∧ n ≤ 4 ∧ gN σ (14 + u) = nI n) : gM l δ yX8_chance cX8_chance 5 (some .int) 3 88 [.ref (δ.2.2.1 0), .int a0, .int a1, .int a2] σ (gPi (fun _ σ' => gSm σ σ')) := by
  refine g_of (lv0 := [some (.ref (δ.2.2.1 0)), some (.int a0), some (.int a1), some (.int a2), none]) (by decide) rfl (Nat.le_of_ble_eq_true rfl) (fun Γ hl C E => ?_)
  subst hl
  have C : gC Γ δ cX8_chance RX8 5 3 88 := C
  refine g_aload_n C dX8_chance_0 rfl ?_
  refine g_iload_n C dX8_chance_1 rfl ?_
  refine g_callVr C sV_X8_101 dX8_chance_2 (c_X8_urnAt _ δ _ _ hm h8) ⟨by decide, by decide⟩ (wO_X δ _) rfl rfl rfl rfl (Nat.le_of_ble_eq_true rfl) (fun r_2 s_2 h_2 => ?_)
  obtain ⟨rfl, h_2⟩ := h_2
  rcases h_2 with ⟨rfl, h_2⟩ | ⟨u_2, hu_2, e_2, rfl⟩
  · skip
    refine g_astoreN C dX8_chance_5 (Nat.le_of_ble_eq_true rfl) rfl ?_
    refine g_lv [some _, some _, some _, some _, some _] (gs_some (gs_some (gs_some (gs_some (gs_some gs_nil))))) ?_
    refine g_aloadN C dX8_chance_7 rfl ?_
    refine g_ifnull_n C 36 dX8_chance_9 (by decide) ?_
    refine g_iconst (v := (-1)) C dX8_chance_36 (by decide) ?_
    exact g_iret C E dX8_chance_37 rfl rfl ⟨_, rfl, (by repeat (first | (with_reducible assumption) | (with_reducible exact gSm_r _) | (with_reducible refine gSm_I (by omega) ?_) | (with_reducible refine gSm_L (by omega) ?_) | (with_reducible refine gSm_N (by omega) ?_) | (with_reducible refine gSm_G (by omega) ?_) | (with_reducible refine gSm_P ?_)))⟩
  · obtain ⟨n, h2, h4, hn⟩ := hC u_2 hu_2
    have hu8 : u_2 < 8 := by omega
    refine g_astore C dX8_chance_5 (Nat.le_of_ble_eq_true rfl) rfl ?_
    refine g_lv [some _, some _, some _, some _, some _] (gs_some (gs_some (gs_some (gs_some (gs_some gs_nil))))) ?_
    refine g_aload C dX8_chance_7 rfl ?_
    refine g_ifnull_r C dX8_chance_9 ?_
    refine g_iload_n C dX8_chance_12 rfl ?_
    refine g_if_lt C 36 dX8_chance_13 (by decide) (fun c_13 => ?_) (fun c_13 => ?_)
    · refine g_iconst (v := (-1)) C dX8_chance_36 (by decide) ?_
      exact g_iret C E dX8_chance_37 rfl rfl ⟨_, rfl, (by repeat (first | (with_reducible assumption) | (with_reducible exact gSm_r _) | (with_reducible refine gSm_I (by omega) ?_) | (with_reducible refine gSm_L (by omega) ?_) | (with_reducible refine gSm_N (by omega) ?_) | (with_reducible refine gSm_G (by omega) ?_) | (with_reducible refine gSm_P ?_)))⟩
    · refine g_iload_n C dX8_chance_16 rfl ?_
      refine g_bipush (v := 12) C dX8_chance_17 (by decide) ?_
      refine g_icmp_gt C 36 dX8_chance_19 (by decide) (fun c_19 => ?_) (fun c_19 => ?_)
      · refine g_iconst (v := (-1)) C dX8_chance_36 (by decide) ?_
        exact g_iret C E dX8_chance_37 rfl rfl ⟨_, rfl, (by repeat (first | (with_reducible assumption) | (with_reducible exact gSm_r _) | (with_reducible refine gSm_I (by omega) ?_) | (with_reducible refine gSm_L (by omega) ?_) | (with_reducible refine gSm_N (by omega) ?_) | (with_reducible refine gSm_G (by omega) ?_) | (with_reducible refine gSm_P ?_)))⟩
      · obtain ⟨k1, hk1, rfl⟩ := gIx_12 c_13 (Int32.not_lt.mp c_19)
        refine g_iload_n C dX8_chance_22 rfl ?_
        refine g_if_lt C 36 dX8_chance_23 (by decide) (fun c_23 => ?_) (fun c_23 => ?_)
        · refine g_iconst (v := (-1)) C dX8_chance_36 (by decide) ?_
          exact g_iret C E dX8_chance_37 rfl rfl ⟨_, rfl, (by repeat (first | (with_reducible assumption) | (with_reducible exact gSm_r _) | (with_reducible refine gSm_I (by omega) ?_) | (with_reducible refine gSm_L (by omega) ?_) | (with_reducible refine gSm_N (by omega) ?_) | (with_reducible refine gSm_G (by omega) ?_) | (with_reducible refine gSm_P ?_)))⟩
        · obtain ⟨w1, hw1, rfl⟩ := nI_of c_23
          refine g_aload C dX8_chance_26 rfl ?_
          refine g_iload_n C dX8_chance_28 rfl ?_
          refine g_iload_n C dX8_chance_29 rfl ?_
          refine g_callVi C sV_X8_175 dX8_chance_30 (c_X7_hasAll _ δ _ hu8 (k := k1) (w := w1) (by omega) hw1 hn h4) ⟨by decide, by decide⟩ (wO_U δ _ hu8) rfl rfl rfl rfl (Nat.le_of_ble_eq_true rfl) (fun r_30 s_30 h_30 => ?_)
          obtain ⟨rfl, h_30⟩ := h_30
          rcases h_30 with ⟨rfl, h_30⟩ | ⟨rfl, h_30⟩
          · skip
            refine g_if_ne C 38 dX8_chance_33 (by decide) (fun c_33 => ?_) (fun c_33 => ?_)
            · refine g_iload_n C dX8_chance_38 rfl ?_
              refine g_if_le C 53 dX8_chance_39 (by decide) (fun c_39 => ?_) (fun c_39 => ?_)
              · refine g_aload_n C dX8_chance_53 rfl ?_
                refine g_get C dX8_chance_54 iwX8 rfl (wO_X δ _) 4 (Nat.le_of_ble_eq_true rfl) mW221 rfl rfl ?_
                refine g_aload C dX8_chance_57 rfl ?_
                refine g_iload_n C dX8_chance_59 rfl ?_
                refine g_iload_n C dX8_chance_60 rfl ?_
                refine g_callVi C sV_X8_178 dX8_chance_61 (c_X5_follow _ δ _ hu8 (k := k1) (w := w1) (by omega) hw1 hn h4) ⟨by decide, by decide⟩ (wO_R δ _) rfl rfl rfl rfl (Nat.le_of_ble_eq_true rfl) (fun r_61 s_61 h_61 => ?_)
                have z_61 : gSm σ s_61 := gSm_t (by repeat (first | (with_reducible assumption) | (with_reducible exact gSm_r _) | (with_reducible refine gSm_I (by omega) ?_) | (with_reducible refine gSm_L (by omega) ?_) | (with_reducible refine gSm_N (by omega) ?_) | (with_reducible refine gSm_G (by omega) ?_) | (with_reducible refine gSm_P ?_))) h_61
                refine g_if_ne C 70 dX8_chance_64 (by decide) (fun c_64 => ?_) (fun c_64 => ?_)
                · refine g_aload_n C dX8_chance_70 rfl ?_
                  refine g_get C dX8_chance_71 iwX8 rfl (wO_X δ _) 7 (Nat.le_of_ble_eq_true rfl) mW224 rfl rfl ?_
                  refine g_lconst (v := 0) C dX8_chance_74 (by decide) ?_
                  refine g_aload_n C dX8_chance_75 rfl ?_
                  refine g_get C dX8_chance_76 iwX8 rfl (wO_X δ _) 4 (Nat.le_of_ble_eq_true rfl) mW221 rfl rfl ?_
                  refine g_get C dX8_chance_79 iwX5 rfl (wO_R δ _) 1 (Nat.le_of_ble_eq_true rfl) mW77 rfl rfl ?_
                  refine g_aload_n C dX8_chance_82 rfl ?_
                  refine g_get C dX8_chance_83 iwX8 rfl (wO_X δ _) 4 (Nat.le_of_ble_eq_true rfl) mW221 rfl rfl ?_
                  refine g_get C dX8_chance_86 iwX5 rfl (wO_R δ _) 2 (Nat.le_of_ble_eq_true rfl) mW80 rfl rfl ?_
                  refine g_callVv C sV_X8_189 dX8_chance_89 (c_X1_become _ δ _ _ _ _) ⟨by decide, by decide⟩ (wO_F δ _) rfl rfl rfl rfl (Nat.le_of_ble_eq_true rfl) (fun s_89 h_89 => ?_)
                  have z_89 : gSm σ s_89 := gSm_t (by repeat (first | (with_reducible assumption) | (with_reducible exact gSm_r _) | (with_reducible refine gSm_I (by omega) ?_) | (with_reducible refine gSm_L (by omega) ?_) | (with_reducible refine gSm_N (by omega) ?_) | (with_reducible refine gSm_G (by omega) ?_) | (with_reducible refine gSm_P ?_))) h_89
                  refine g_iconst (v := 0) C dX8_chance_92 (by decide) ?_
                  exact g_iret C E dX8_chance_93 rfl rfl ⟨_, rfl, (by repeat (first | (with_reducible assumption) | (with_reducible exact gSm_r _) | (with_reducible refine gSm_I (by omega) ?_) | (with_reducible refine gSm_L (by omega) ?_) | (with_reducible refine gSm_N (by omega) ?_) | (with_reducible refine gSm_G (by omega) ?_) | (with_reducible refine gSm_P ?_)))⟩
                · refine g_bipush (v := (-6)) C dX8_chance_67 (by decide) ?_
                  exact g_iret C E dX8_chance_69 rfl rfl ⟨_, rfl, (by repeat (first | (with_reducible assumption) | (with_reducible exact gSm_r _) | (with_reducible refine gSm_I (by omega) ?_) | (with_reducible refine gSm_L (by omega) ?_) | (with_reducible refine gSm_N (by omega) ?_) | (with_reducible refine gSm_G (by omega) ?_) | (with_reducible refine gSm_P ?_)))⟩
              · refine g_aload C dX8_chance_42 rfl ?_
                refine g_callVi C sV_X8_129 dX8_chance_44 (c_X7_total _ δ _ hu8) ⟨by decide, by decide⟩ (wO_U δ _ hu8) rfl rfl rfl rfl (Nat.le_of_ble_eq_true rfl) (fun r_44 s_44 h_44 => ?_)
                obtain ⟨rfl, h_44⟩ := h_44
                refine g_if_ne C 53 dX8_chance_47 (by decide) (fun c_47 => ?_) (fun c_47 => ?_)
                · refine g_aload_n C dX8_chance_53 rfl ?_
                  refine g_get C dX8_chance_54 iwX8 rfl (wO_X δ _) 4 (Nat.le_of_ble_eq_true rfl) mW221 rfl rfl ?_
                  refine g_aload C dX8_chance_57 rfl ?_
                  refine g_iload_n C dX8_chance_59 rfl ?_
                  refine g_iload_n C dX8_chance_60 rfl ?_
                  refine g_callVi C sV_X8_178 dX8_chance_61 (c_X5_follow _ δ _ hu8 (k := k1) (w := w1) (by omega) hw1 hn h4) ⟨by decide, by decide⟩ (wO_R δ _) rfl rfl rfl rfl (Nat.le_of_ble_eq_true rfl) (fun r_61 s_61 h_61 => ?_)
                  have z_61 : gSm σ s_61 := gSm_t (by repeat (first | (with_reducible assumption) | (with_reducible exact gSm_r _) | (with_reducible refine gSm_I (by omega) ?_) | (with_reducible refine gSm_L (by omega) ?_) | (with_reducible refine gSm_N (by omega) ?_) | (with_reducible refine gSm_G (by omega) ?_) | (with_reducible refine gSm_P ?_))) h_61
                  refine g_if_ne C 70 dX8_chance_64 (by decide) (fun c_64 => ?_) (fun c_64 => ?_)
                  · refine g_aload_n C dX8_chance_70 rfl ?_
                    refine g_get C dX8_chance_71 iwX8 rfl (wO_X δ _) 7 (Nat.le_of_ble_eq_true rfl) mW224 rfl rfl ?_
                    refine g_lconst (v := 0) C dX8_chance_74 (by decide) ?_
                    refine g_aload_n C dX8_chance_75 rfl ?_
                    refine g_get C dX8_chance_76 iwX8 rfl (wO_X δ _) 4 (Nat.le_of_ble_eq_true rfl) mW221 rfl rfl ?_
                    refine g_get C dX8_chance_79 iwX5 rfl (wO_R δ _) 1 (Nat.le_of_ble_eq_true rfl) mW77 rfl rfl ?_
                    refine g_aload_n C dX8_chance_82 rfl ?_
                    refine g_get C dX8_chance_83 iwX8 rfl (wO_X δ _) 4 (Nat.le_of_ble_eq_true rfl) mW221 rfl rfl ?_
                    refine g_get C dX8_chance_86 iwX5 rfl (wO_R δ _) 2 (Nat.le_of_ble_eq_true rfl) mW80 rfl rfl ?_
                    refine g_callVv C sV_X8_189 dX8_chance_89 (c_X1_become _ δ _ _ _ _) ⟨by decide, by decide⟩ (wO_F δ _) rfl rfl rfl rfl (Nat.le_of_ble_eq_true rfl) (fun s_89 h_89 => ?_)
                    have z_89 : gSm σ s_89 := gSm_t (by repeat (first | (with_reducible assumption) | (with_reducible exact gSm_r _) | (with_reducible refine gSm_I (by omega) ?_) | (with_reducible refine gSm_L (by omega) ?_) | (with_reducible refine gSm_N (by omega) ?_) | (with_reducible refine gSm_G (by omega) ?_) | (with_reducible refine gSm_P ?_))) h_89
                    refine g_iconst (v := 0) C dX8_chance_92 (by decide) ?_
                    exact g_iret C E dX8_chance_93 rfl rfl ⟨_, rfl, (by repeat (first | (with_reducible assumption) | (with_reducible exact gSm_r _) | (with_reducible refine gSm_I (by omega) ?_) | (with_reducible refine gSm_L (by omega) ?_) | (with_reducible refine gSm_N (by omega) ?_) | (with_reducible refine gSm_G (by omega) ?_) | (with_reducible refine gSm_P ?_)))⟩
                  · refine g_bipush (v := (-6)) C dX8_chance_67 (by decide) ?_
                    exact g_iret C E dX8_chance_69 rfl rfl ⟨_, rfl, (by repeat (first | (with_reducible assumption) | (with_reducible exact gSm_r _) | (with_reducible refine gSm_I (by omega) ?_) | (with_reducible refine gSm_L (by omega) ?_) | (with_reducible refine gSm_N (by omega) ?_) | (with_reducible refine gSm_G (by omega) ?_) | (with_reducible refine gSm_P ?_)))⟩
                · refine g_bipush (v := (-2)) C dX8_chance_50 (by decide) ?_
                  exact g_iret C E dX8_chance_52 rfl rfl ⟨_, rfl, (by repeat (first | (with_reducible assumption) | (with_reducible exact gSm_r _) | (with_reducible refine gSm_I (by omega) ?_) | (with_reducible refine gSm_L (by omega) ?_) | (with_reducible refine gSm_N (by omega) ?_) | (with_reducible refine gSm_G (by omega) ?_) | (with_reducible refine gSm_P ?_)))⟩
            · exact absurd c_33 (by decide)
          · skip
            refine g_if_ne C 38 dX8_chance_33 (by decide) (fun c_33 => ?_) (fun c_33 => ?_)
            · exact absurd c_33 (by decide)
            · refine g_iconst (v := (-1)) C dX8_chance_36 (by decide) ?_
              exact g_iret C E dX8_chance_37 rfl rfl ⟨_, rfl, (by repeat (first | (with_reducible assumption) | (with_reducible exact gSm_r _) | (with_reducible refine gSm_I (by omega) ?_) | (with_reducible refine gSm_L (by omega) ?_) | (with_reducible refine gSm_N (by omega) ?_) | (with_reducible refine gSm_G (by omega) ?_) | (with_reducible refine gSm_P ?_)))⟩
set_option maxRecDepth 100000 in
set_option maxHeartbeats 4000000 in
theorem c_X8_times (l : Launch) (δ : GD) (σ : GS) (a0 a1 a2 a3 : Int32) {m : Nat} (hm : gN σ 0 = nI m) (h8 : m ≤ 8) (hC : ∀ u, u < m → ∃ n : Nat, 2 ≤ n ∧ n ≤ 4 ∧ gN σ (14 + u) = nI n) : gM l δ yX8_times cX8_times 7 (some .int) 6 156 [.ref (δ.2.2.1 0), .int a0, .int a1, .int a2, .int a3] σ (gPi (fun _ σ' => gSm σ σ')) := by
  refine g_of (lv0 := [some (.ref (δ.2.2.1 0)), some (.int a0), some (.int a1), some (.int a2), some (.int a3), none, none]) (by decide) rfl (Nat.le_of_ble_eq_true rfl) (fun Γ hl C E => ?_)
  subst hl
  have C : gC Γ δ cX8_times RX8 7 6 156 := C
  refine g_aload_n C dX8_times_0 rfl ?_
  refine g_iload_n C dX8_times_1 rfl ?_
  refine g_callVr C sV_X8_101 dX8_times_2 (c_X8_urnAt _ δ _ _ hm h8) ⟨by decide, by decide⟩ (wO_X δ _) rfl rfl rfl rfl (Nat.le_of_ble_eq_true rfl) (fun r_2 s_2 h_2 => ?_)
  obtain ⟨rfl, h_2⟩ := h_2
  rcases h_2 with ⟨rfl, h_2⟩ | ⟨u_2, hu_2, e_2, rfl⟩
  · skip
    refine g_astoreN C dX8_times_5 (Nat.le_of_ble_eq_true rfl) rfl ?_
    refine g_lv [some _, some _, some _, some _, some _, some _, none] (gs_some (gs_some (gs_some (gs_some (gs_some (gs_some (gs_none gs_nil))))))) ?_
    refine g_aloadN C dX8_times_7 rfl ?_
    refine g_ifnull_n C 40 dX8_times_9 (by decide) ?_
    refine g_iconst (v := (-1)) C dX8_times_40 (by decide) ?_
    exact g_iret C E dX8_times_41 rfl rfl ⟨_, rfl, (by repeat (first | (with_reducible assumption) | (with_reducible exact gSm_r _) | (with_reducible refine gSm_I (by omega) ?_) | (with_reducible refine gSm_L (by omega) ?_) | (with_reducible refine gSm_N (by omega) ?_) | (with_reducible refine gSm_G (by omega) ?_) | (with_reducible refine gSm_P ?_)))⟩
  · obtain ⟨n, h2, h4, hn⟩ := hC u_2 hu_2
    have hu8 : u_2 < 8 := by omega
    refine g_astore C dX8_times_5 (Nat.le_of_ble_eq_true rfl) rfl ?_
    refine g_lv [some _, some _, some _, some _, some _, some _, none] (gs_some (gs_some (gs_some (gs_some (gs_some (gs_some (gs_none gs_nil))))))) ?_
    refine g_aload C dX8_times_7 rfl ?_
    refine g_ifnull_r C dX8_times_9 ?_
    refine g_iload_n C dX8_times_12 rfl ?_
    refine g_callSi C sS_X8_192 dX8_times_13 (c_X8_areDraws _ δ _ _) ⟨by decide, by decide⟩ rfl rfl rfl (Nat.le_of_ble_eq_true rfl) (fun r_13 s_13 h_13 => ?_)
    obtain ⟨rfl, h_13⟩ := h_13
    rcases h_13 with ⟨rfl, h_13⟩ | ⟨rfl, h_13⟩
    · obtain ⟨k1, hk1, rfl⟩ := id h_13
      refine g_if_eq C 40 dX8_times_16 (by decide) (fun c_16 => ?_) (fun c_16 => ?_)
      · exact absurd c_16 (by decide)
      · refine g_aload C dX8_times_19 rfl ?_
        refine g_iload_n C dX8_times_21 rfl ?_
        refine g_callVi C sV_X8_105 dX8_times_22 (c_X7_has _ δ _ hu8 _ hn h4) ⟨by decide, by decide⟩ (wO_U δ _ hu8) rfl rfl rfl rfl (Nat.le_of_ble_eq_true rfl) (fun r_22 s_22 h_22 => ?_)
        obtain ⟨rfl, h_22⟩ := h_22
        rcases h_22 with ⟨rfl, h_22⟩ | ⟨rfl, h_22⟩
        · obtain ⟨c1, hc1, rfl⟩ := id h_22
          refine g_if_eq C 40 dX8_times_25 (by decide) (fun c_25 => ?_) (fun c_25 => ?_)
          · exact absurd c_25 (by decide)
          · refine g_iload C dX8_times_28 rfl ?_
            refine g_if_lt C 40 dX8_times_30 (by decide) (fun c_30 => ?_) (fun c_30 => ?_)
            · refine g_iconst (v := (-1)) C dX8_times_40 (by decide) ?_
              exact g_iret C E dX8_times_41 rfl rfl ⟨_, rfl, (by repeat (first | (with_reducible assumption) | (with_reducible exact gSm_r _) | (with_reducible refine gSm_I (by omega) ?_) | (with_reducible refine gSm_L (by omega) ?_) | (with_reducible refine gSm_N (by omega) ?_) | (with_reducible refine gSm_G (by omega) ?_) | (with_reducible refine gSm_P ?_)))⟩
            · refine g_iload C dX8_times_33 rfl ?_
              refine g_bipush (v := 12) C dX8_times_35 (by decide) ?_
              refine g_icmp_le C 42 dX8_times_37 (by decide) (fun c_37 => ?_) (fun c_37 => ?_)
              · obtain ⟨k2, hk2, rfl⟩ := gIx_12 c_30 c_37
                refine g_aload_n C dX8_times_42 rfl ?_
                refine g_aload C dX8_times_43 rfl ?_
                refine g_iload_n C dX8_times_45 rfl ?_
                refine g_iload_n C dX8_times_46 rfl ?_
                refine g_callVi C sV_X8_195 dX8_times_47 (c_X8_weighRows _ δ _ hu8 (k := k1) (c := c1) (by omega) (by omega) hn h4) ⟨by decide, by decide⟩ (wO_X δ _) rfl rfl rfl rfl (Nat.le_of_ble_eq_true rfl) (fun r_47 s_47 h_47 => ?_)
                have z_47 : gSm σ s_47 := gSm_t (by repeat (first | (with_reducible assumption) | (with_reducible exact gSm_r _) | (with_reducible refine gSm_I (by omega) ?_) | (with_reducible refine gSm_L (by omega) ?_) | (with_reducible refine gSm_N (by omega) ?_) | (with_reducible refine gSm_G (by omega) ?_) | (with_reducible refine gSm_P ?_))) h_47
                refine g_istore C dX8_times_50 (Nat.le_of_ble_eq_true rfl) rfl ?_
                refine g_lv [some _, some _, some _, some _, some _, some _, some _] (gs_some (gs_some (gs_some (gs_some (gs_some (gs_some (gs_some gs_nil))))))) ?_
                refine g_iload C dX8_times_52 rfl ?_
                refine g_if_eq C 60 dX8_times_54 (by decide) (fun c_54 => ?_) (fun c_54 => ?_)
                · refine g_aload_n C dX8_times_60 rfl ?_
                  refine g_get C dX8_times_61 iwX8 rfl (wO_X δ _) 7 (Nat.le_of_ble_eq_true rfl) mW224 rfl rfl ?_
                  refine g_lconst (v := 0) C dX8_times_64 (by decide) ?_
                  refine g_aload_n C dX8_times_65 rfl ?_
                  refine g_get C dX8_times_66 iwX8 rfl (wO_X δ _) 6 (Nat.le_of_ble_eq_true rfl) mW223 rfl rfl ?_
                  refine g_get C dX8_times_69 iwX0 rfl (wO_A δ _) 5 (Nat.le_of_ble_eq_true rfl) mW114 rfl rfl ?_
                  refine g_iload C dX8_times_72 rfl ?_
                  refine g_laldN C dX8_times_74 (k := k2) (q := 10) (by decide) rfl (by first | rfl | assumption | (simp only [glit, nI_add, pk_mul]; done) | (simp only [glit, nI_add, pk_mul]; congr 1; omega) | (simp only [*, glit, nI_add, pk_mul]; congr 1; omega)) (show k2 < gLenL 10 from Nat.lt_of_lt_of_eq (show k2 < 13 by omega) rfl) ?_
                  refine g_aload_n C dX8_times_75 rfl ?_
                  refine g_get C dX8_times_76 iwX8 rfl (wO_X δ _) 6 (Nat.le_of_ble_eq_true rfl) mW223 rfl rfl ?_
                  refine g_get C dX8_times_79 iwX0 rfl (wO_A δ _) 8 (Nat.le_of_ble_eq_true rfl) mW120 rfl rfl ?_
                  refine g_callVv C sV_X8_189 dX8_times_82 (c_X1_become _ δ _ _ _ _) ⟨by decide, by decide⟩ (wO_F δ _) rfl rfl rfl rfl (Nat.le_of_ble_eq_true rfl) (fun s_82 h_82 => ?_)
                  have z_82 : gSm σ s_82 := gSm_t (by repeat (first | (with_reducible assumption) | (with_reducible exact gSm_r _) | (with_reducible refine gSm_I (by omega) ?_) | (with_reducible refine gSm_L (by omega) ?_) | (with_reducible refine gSm_N (by omega) ?_) | (with_reducible refine gSm_G (by omega) ?_) | (with_reducible refine gSm_P ?_))) h_82
                  refine g_iconst (v := 0) C dX8_times_85 (by decide) ?_
                  exact g_iret C E dX8_times_86 rfl rfl ⟨_, rfl, (by repeat (first | (with_reducible assumption) | (with_reducible exact gSm_r _) | (with_reducible refine gSm_I (by omega) ?_) | (with_reducible refine gSm_L (by omega) ?_) | (with_reducible refine gSm_N (by omega) ?_) | (with_reducible refine gSm_G (by omega) ?_) | (with_reducible refine gSm_P ?_)))⟩
                · refine g_iload C dX8_times_57 rfl ?_
                  exact g_iret C E dX8_times_59 rfl rfl ⟨_, rfl, (by repeat (first | (with_reducible assumption) | (with_reducible exact gSm_r _) | (with_reducible refine gSm_I (by omega) ?_) | (with_reducible refine gSm_L (by omega) ?_) | (with_reducible refine gSm_N (by omega) ?_) | (with_reducible refine gSm_G (by omega) ?_) | (with_reducible refine gSm_P ?_)))⟩
              · refine g_iconst (v := (-1)) C dX8_times_40 (by decide) ?_
                exact g_iret C E dX8_times_41 rfl rfl ⟨_, rfl, (by repeat (first | (with_reducible assumption) | (with_reducible exact gSm_r _) | (with_reducible refine gSm_I (by omega) ?_) | (with_reducible refine gSm_L (by omega) ?_) | (with_reducible refine gSm_N (by omega) ?_) | (with_reducible refine gSm_G (by omega) ?_) | (with_reducible refine gSm_P ?_)))⟩
        · skip
          refine g_if_eq C 40 dX8_times_25 (by decide) (fun c_25 => ?_) (fun c_25 => ?_)
          · refine g_iconst (v := (-1)) C dX8_times_40 (by decide) ?_
            exact g_iret C E dX8_times_41 rfl rfl ⟨_, rfl, (by repeat (first | (with_reducible assumption) | (with_reducible exact gSm_r _) | (with_reducible refine gSm_I (by omega) ?_) | (with_reducible refine gSm_L (by omega) ?_) | (with_reducible refine gSm_N (by omega) ?_) | (with_reducible refine gSm_G (by omega) ?_) | (with_reducible refine gSm_P ?_)))⟩
          · exact absurd c_25 (by decide)
    · skip
      refine g_if_eq C 40 dX8_times_16 (by decide) (fun c_16 => ?_) (fun c_16 => ?_)
      · refine g_iconst (v := (-1)) C dX8_times_40 (by decide) ?_
        exact g_iret C E dX8_times_41 rfl rfl ⟨_, rfl, (by repeat (first | (with_reducible assumption) | (with_reducible exact gSm_r _) | (with_reducible refine gSm_I (by omega) ?_) | (with_reducible refine gSm_L (by omega) ?_) | (with_reducible refine gSm_N (by omega) ?_) | (with_reducible refine gSm_G (by omega) ?_) | (with_reducible refine gSm_P ?_)))⟩
      · exact absurd c_16 (by decide)
set_option maxRecDepth 100000 in
set_option maxHeartbeats 4000000 in
theorem c_X8_left (l : Launch) (δ : GD) (σ : GS) (a0 a1 a2 a3 : Int32) {m : Nat} (hm : gN σ 0 = nI m) (h8 : m ≤ 8) (hC : ∀ u, u < m → ∃ n : Nat, 2 ≤ n ∧ n ≤ 4 ∧ gN σ (14 + u) = nI n) : gM l δ yX8_left cX8_left 7 (some .int) 6 156 [.ref (δ.2.2.1 0), .int a0, .int a1, .int a2, .int a3] σ (gPi (fun _ σ' => gSm σ σ')) := by
  refine g_of (lv0 := [some (.ref (δ.2.2.1 0)), some (.int a0), some (.int a1), some (.int a2), some (.int a3), none, none]) (by decide) rfl (Nat.le_of_ble_eq_true rfl) (fun Γ hl C E => ?_)
  subst hl
  have C : gC Γ δ cX8_left RX8 7 6 156 := C
  refine g_aload_n C dX8_left_0 rfl ?_
  refine g_iload_n C dX8_left_1 rfl ?_
  refine g_callVr C sV_X8_101 dX8_left_2 (c_X8_urnAt _ δ _ _ hm h8) ⟨by decide, by decide⟩ (wO_X δ _) rfl rfl rfl rfl (Nat.le_of_ble_eq_true rfl) (fun r_2 s_2 h_2 => ?_)
  obtain ⟨rfl, h_2⟩ := h_2
  rcases h_2 with ⟨rfl, h_2⟩ | ⟨u_2, hu_2, e_2, rfl⟩
  · skip
    refine g_astoreN C dX8_left_5 (Nat.le_of_ble_eq_true rfl) rfl ?_
    refine g_lv [some _, some _, some _, some _, some _, some _, none] (gs_some (gs_some (gs_some (gs_some (gs_some (gs_some (gs_none gs_nil))))))) ?_
    refine g_aloadN C dX8_left_7 rfl ?_
    refine g_ifnull_n C 41 dX8_left_9 (by decide) ?_
    refine g_iconst (v := (-1)) C dX8_left_41 (by decide) ?_
    exact g_iret C E dX8_left_42 rfl rfl ⟨_, rfl, (by repeat (first | (with_reducible assumption) | (with_reducible exact gSm_r _) | (with_reducible refine gSm_I (by omega) ?_) | (with_reducible refine gSm_L (by omega) ?_) | (with_reducible refine gSm_N (by omega) ?_) | (with_reducible refine gSm_G (by omega) ?_) | (with_reducible refine gSm_P ?_)))⟩
  · obtain ⟨n, h2, h4, hn⟩ := hC u_2 hu_2
    have hu8 : u_2 < 8 := by omega
    refine g_astore C dX8_left_5 (Nat.le_of_ble_eq_true rfl) rfl ?_
    refine g_lv [some _, some _, some _, some _, some _, some _, none] (gs_some (gs_some (gs_some (gs_some (gs_some (gs_some (gs_none gs_nil))))))) ?_
    refine g_aload C dX8_left_7 rfl ?_
    refine g_ifnull_r C dX8_left_9 ?_
    refine g_iload_n C dX8_left_12 rfl ?_
    refine g_callSi C sS_X8_192 dX8_left_13 (c_X8_areDraws _ δ _ _) ⟨by decide, by decide⟩ rfl rfl rfl (Nat.le_of_ble_eq_true rfl) (fun r_13 s_13 h_13 => ?_)
    obtain ⟨rfl, h_13⟩ := h_13
    rcases h_13 with ⟨rfl, h_13⟩ | ⟨rfl, h_13⟩
    · obtain ⟨k1, hk1, rfl⟩ := id h_13
      refine g_if_eq C 41 dX8_left_16 (by decide) (fun c_16 => ?_) (fun c_16 => ?_)
      · exact absurd c_16 (by decide)
      · refine g_aload C dX8_left_19 rfl ?_
        refine g_iload_n C dX8_left_21 rfl ?_
        refine g_callVi C sV_X8_105 dX8_left_22 (c_X7_has _ δ _ hu8 _ hn h4) ⟨by decide, by decide⟩ (wO_U δ _ hu8) rfl rfl rfl rfl (Nat.le_of_ble_eq_true rfl) (fun r_22 s_22 h_22 => ?_)
        obtain ⟨rfl, h_22⟩ := h_22
        rcases h_22 with ⟨rfl, h_22⟩ | ⟨rfl, h_22⟩
        · obtain ⟨c1, hc1, rfl⟩ := id h_22
          refine g_if_eq C 41 dX8_left_25 (by decide) (fun c_25 => ?_) (fun c_25 => ?_)
          · exact absurd c_25 (by decide)
          · refine g_iload C dX8_left_28 rfl ?_
            refine g_if_lt C 41 dX8_left_30 (by decide) (fun c_30 => ?_) (fun c_30 => ?_)
            · refine g_iconst (v := (-1)) C dX8_left_41 (by decide) ?_
              exact g_iret C E dX8_left_42 rfl rfl ⟨_, rfl, (by repeat (first | (with_reducible assumption) | (with_reducible exact gSm_r _) | (with_reducible refine gSm_I (by omega) ?_) | (with_reducible refine gSm_L (by omega) ?_) | (with_reducible refine gSm_N (by omega) ?_) | (with_reducible refine gSm_G (by omega) ?_) | (with_reducible refine gSm_P ?_)))⟩
            · refine g_iload C dX8_left_33 rfl ?_
              refine g_sipush (v := 400) C dX8_left_35 (by decide) ?_
              refine g_icmp_le C 43 dX8_left_38 (by decide) (fun c_38 => ?_) (fun c_38 => ?_)
              · refine g_aload_n C dX8_left_43 rfl ?_
                refine g_aload C dX8_left_44 rfl ?_
                refine g_iload_n C dX8_left_46 rfl ?_
                refine g_iload_n C dX8_left_47 rfl ?_
                refine g_callVi C sV_X8_195 dX8_left_48 (c_X8_weighRows _ δ _ hu8 (k := k1) (c := c1) (by omega) (by omega) hn h4) ⟨by decide, by decide⟩ (wO_X δ _) rfl rfl rfl rfl (Nat.le_of_ble_eq_true rfl) (fun r_48 s_48 h_48 => ?_)
                have z_48 : gSm σ s_48 := gSm_t (by repeat (first | (with_reducible assumption) | (with_reducible exact gSm_r _) | (with_reducible refine gSm_I (by omega) ?_) | (with_reducible refine gSm_L (by omega) ?_) | (with_reducible refine gSm_N (by omega) ?_) | (with_reducible refine gSm_G (by omega) ?_) | (with_reducible refine gSm_P ?_))) h_48
                refine g_istore C dX8_left_51 (Nat.le_of_ble_eq_true rfl) rfl ?_
                refine g_lv [some _, some _, some _, some _, some _, some _, some _] (gs_some (gs_some (gs_some (gs_some (gs_some (gs_some (gs_some gs_nil))))))) ?_
                refine g_iload C dX8_left_53 rfl ?_
                refine g_if_eq C 61 dX8_left_55 (by decide) (fun c_55 => ?_) (fun c_55 => ?_)
                · refine g_aload_n C dX8_left_61 rfl ?_
                  refine g_get C dX8_left_62 iwX8 rfl (wO_X δ _) 7 (Nat.le_of_ble_eq_true rfl) mW224 rfl rfl ?_
                  refine g_lconst (v := 0) C dX8_left_65 (by decide) ?_
                  refine g_iload C dX8_left_66 rfl ?_
                  refine g_sipush (v := 200) C dX8_left_68 (by decide) ?_
                  refine g_icmp_le C 78 dX8_left_71 (by decide) (fun c_71 => ?_) (fun c_71 => ?_)
                  · obtain ⟨ex, hx⟩ := g200 c_30 c_71
                    refine g_aload_n C dX8_left_78 rfl ?_
                    refine g_get C dX8_left_79 iwX8 rfl (wO_X δ _) 6 (Nat.le_of_ble_eq_true rfl) mW223 rfl rfl ?_
                    refine g_get C dX8_left_82 iwX0 rfl (wO_A δ _) 6 (Nat.le_of_ble_eq_true rfl) mW116 rfl rfl ?_
                    refine g_iload C dX8_left_85 rfl ?_
                    refine g_laldN C dX8_left_87 (k := a3.toInt.toNat) (q := 11) (by decide) rfl ex (show a3.toInt.toNat < gLenL 11 from Nat.lt_of_lt_of_eq (show a3.toInt.toNat < 201 by omega) rfl) ?_
                    refine g_aload_n C dX8_left_88 rfl ?_
                    refine g_get C dX8_left_89 iwX8 rfl (wO_X δ _) 6 (Nat.le_of_ble_eq_true rfl) mW223 rfl rfl ?_
                    refine g_get C dX8_left_92 iwX0 rfl (wO_A δ _) 8 (Nat.le_of_ble_eq_true rfl) mW120 rfl rfl ?_
                    refine g_callVv C sV_X8_189 dX8_left_95 (c_X1_become _ δ _ _ _ _) ⟨by decide, by decide⟩ (wO_F δ _) rfl rfl rfl rfl (Nat.le_of_ble_eq_true rfl) (fun s_95 h_95 => ?_)
                    have z_95 : gSm σ s_95 := gSm_t (by repeat (first | (with_reducible assumption) | (with_reducible exact gSm_r _) | (with_reducible refine gSm_I (by omega) ?_) | (with_reducible refine gSm_L (by omega) ?_) | (with_reducible refine gSm_N (by omega) ?_) | (with_reducible refine gSm_G (by omega) ?_) | (with_reducible refine gSm_P ?_))) h_95
                    refine g_iconst (v := 0) C dX8_left_98 (by decide) ?_
                    exact g_iret C E dX8_left_99 rfl rfl ⟨_, rfl, (by repeat (first | (with_reducible assumption) | (with_reducible exact gSm_r _) | (with_reducible refine gSm_I (by omega) ?_) | (with_reducible refine gSm_L (by omega) ?_) | (with_reducible refine gSm_N (by omega) ?_) | (with_reducible refine gSm_G (by omega) ?_) | (with_reducible refine gSm_P ?_)))⟩
                  · refine g_lconst (v := 0) C dX8_left_74 (by decide) ?_
                    refine g_goto C 88 dX8_left_75 (by decide) ?_
                    refine g_aload_n C dX8_left_88 rfl ?_
                    refine g_get C dX8_left_89 iwX8 rfl (wO_X δ _) 6 (Nat.le_of_ble_eq_true rfl) mW223 rfl rfl ?_
                    refine g_get C dX8_left_92 iwX0 rfl (wO_A δ _) 8 (Nat.le_of_ble_eq_true rfl) mW120 rfl rfl ?_
                    refine g_callVv C sV_X8_189 dX8_left_95 (c_X1_become _ δ _ _ _ _) ⟨by decide, by decide⟩ (wO_F δ _) rfl rfl rfl rfl (Nat.le_of_ble_eq_true rfl) (fun s_95 h_95 => ?_)
                    have z_95 : gSm σ s_95 := gSm_t (by repeat (first | (with_reducible assumption) | (with_reducible exact gSm_r _) | (with_reducible refine gSm_I (by omega) ?_) | (with_reducible refine gSm_L (by omega) ?_) | (with_reducible refine gSm_N (by omega) ?_) | (with_reducible refine gSm_G (by omega) ?_) | (with_reducible refine gSm_P ?_))) h_95
                    refine g_iconst (v := 0) C dX8_left_98 (by decide) ?_
                    exact g_iret C E dX8_left_99 rfl rfl ⟨_, rfl, (by repeat (first | (with_reducible assumption) | (with_reducible exact gSm_r _) | (with_reducible refine gSm_I (by omega) ?_) | (with_reducible refine gSm_L (by omega) ?_) | (with_reducible refine gSm_N (by omega) ?_) | (with_reducible refine gSm_G (by omega) ?_) | (with_reducible refine gSm_P ?_)))⟩
                · refine g_iload C dX8_left_58 rfl ?_
                  exact g_iret C E dX8_left_60 rfl rfl ⟨_, rfl, (by repeat (first | (with_reducible assumption) | (with_reducible exact gSm_r _) | (with_reducible refine gSm_I (by omega) ?_) | (with_reducible refine gSm_L (by omega) ?_) | (with_reducible refine gSm_N (by omega) ?_) | (with_reducible refine gSm_G (by omega) ?_) | (with_reducible refine gSm_P ?_)))⟩
              · refine g_iconst (v := (-1)) C dX8_left_41 (by decide) ?_
                exact g_iret C E dX8_left_42 rfl rfl ⟨_, rfl, (by repeat (first | (with_reducible assumption) | (with_reducible exact gSm_r _) | (with_reducible refine gSm_I (by omega) ?_) | (with_reducible refine gSm_L (by omega) ?_) | (with_reducible refine gSm_N (by omega) ?_) | (with_reducible refine gSm_G (by omega) ?_) | (with_reducible refine gSm_P ?_)))⟩
        · skip
          refine g_if_eq C 41 dX8_left_25 (by decide) (fun c_25 => ?_) (fun c_25 => ?_)
          · refine g_iconst (v := (-1)) C dX8_left_41 (by decide) ?_
            exact g_iret C E dX8_left_42 rfl rfl ⟨_, rfl, (by repeat (first | (with_reducible assumption) | (with_reducible exact gSm_r _) | (with_reducible refine gSm_I (by omega) ?_) | (with_reducible refine gSm_L (by omega) ?_) | (with_reducible refine gSm_N (by omega) ?_) | (with_reducible refine gSm_G (by omega) ?_) | (with_reducible refine gSm_P ?_)))⟩
          · exact absurd c_25 (by decide)
    · skip
      refine g_if_eq C 41 dX8_left_16 (by decide) (fun c_16 => ?_) (fun c_16 => ?_)
      · refine g_iconst (v := (-1)) C dX8_left_41 (by decide) ?_
        exact g_iret C E dX8_left_42 rfl rfl ⟨_, rfl, (by repeat (first | (with_reducible assumption) | (with_reducible exact gSm_r _) | (with_reducible refine gSm_I (by omega) ?_) | (with_reducible refine gSm_L (by omega) ?_) | (with_reducible refine gSm_N (by omega) ?_) | (with_reducible refine gSm_G (by omega) ?_) | (with_reducible refine gSm_P ?_)))⟩
      · exact absurd c_16 (by decide)
set_option maxRecDepth 100000 in
set_option maxHeartbeats 4000000 in
theorem c_X8_stuck (l : Launch) (δ : GD) (σ : GS) (a0 a1 : Int32) {m : Nat} (hm : gN σ 0 = nI m) (h8 : m ≤ 8) (hC : ∀ u, u < m → ∃ n : Nat, 2 ≤ n ∧ n ≤ 4 ∧ gN σ (14 + u) = nI n) : gM l δ yX8_stuck cX8_stuck 5 (some .int) 6 156 [.ref (δ.2.2.1 0), .int a0, .int a1] σ (gPi (fun _ σ' => gSm σ σ')) := by
  refine g_of (lv0 := [some (.ref (δ.2.2.1 0)), some (.int a0), some (.int a1), none, none]) (by decide) rfl (Nat.le_of_ble_eq_true rfl) (fun Γ hl C E => ?_)
  subst hl
  have C : gC Γ δ cX8_stuck RX8 5 6 156 := C
  refine g_aload_n C dX8_stuck_0 rfl ?_
  refine g_iload_n C dX8_stuck_1 rfl ?_
  refine g_callVr C sV_X8_101 dX8_stuck_2 (c_X8_urnAt _ δ _ _ hm h8) ⟨by decide, by decide⟩ (wO_X δ _) rfl rfl rfl rfl (Nat.le_of_ble_eq_true rfl) (fun r_2 s_2 h_2 => ?_)
  obtain ⟨rfl, h_2⟩ := h_2
  rcases h_2 with ⟨rfl, h_2⟩ | ⟨u_2, hu_2, e_2, rfl⟩
  · skip
    refine g_astore_nN C dX8_stuck_5 (Nat.le_of_ble_eq_true rfl) rfl ?_
    refine g_lv [some _, some _, some _, some _, none] (gs_some (gs_some (gs_some (gs_some (gs_none gs_nil))))) ?_
    refine g_aload_nN C dX8_stuck_6 rfl ?_
    refine g_ifnull_n C 17 dX8_stuck_7 (by decide) ?_
    refine g_iconst (v := (-1)) C dX8_stuck_17 (by decide) ?_
    exact g_iret C E dX8_stuck_18 rfl rfl ⟨_, rfl, (by repeat (first | (with_reducible assumption) | (with_reducible exact gSm_r _) | (with_reducible refine gSm_I (by omega) ?_) | (with_reducible refine gSm_L (by omega) ?_) | (with_reducible refine gSm_N (by omega) ?_) | (with_reducible refine gSm_G (by omega) ?_) | (with_reducible refine gSm_P ?_)))⟩
  · obtain ⟨n, h2, h4, hn⟩ := hC u_2 hu_2
    have hu8 : u_2 < 8 := by omega
    refine g_astore_n C dX8_stuck_5 (Nat.le_of_ble_eq_true rfl) rfl ?_
    refine g_lv [some _, some _, some _, some _, none] (gs_some (gs_some (gs_some (gs_some (gs_none gs_nil))))) ?_
    refine g_aload_n C dX8_stuck_6 rfl ?_
    refine g_ifnull_r C dX8_stuck_7 ?_
    refine g_iload_n C dX8_stuck_10 rfl ?_
    refine g_callSi C sS_X8_192 dX8_stuck_11 (c_X8_areDraws _ δ _ _) ⟨by decide, by decide⟩ rfl rfl rfl (Nat.le_of_ble_eq_true rfl) (fun r_11 s_11 h_11 => ?_)
    obtain ⟨rfl, h_11⟩ := h_11
    rcases h_11 with ⟨rfl, h_11⟩ | ⟨rfl, h_11⟩
    · obtain ⟨k1, hk1, rfl⟩ := id h_11
      refine g_if_ne C 19 dX8_stuck_14 (by decide) (fun c_14 => ?_) (fun c_14 => ?_)
      · refine g_aload_n C dX8_stuck_19 rfl ?_
        refine g_aload_n C dX8_stuck_20 rfl ?_
        refine g_iload_n C dX8_stuck_21 rfl ?_
        refine g_iconst (v := 0) C dX8_stuck_22 (by decide) ?_
        refine g_callVi C sV_X8_195 dX8_stuck_23 (c_X8_weighRows _ δ _ hu8 (k := k1) (c := 0) (by omega) (by omega) hn h4) ⟨by decide, by decide⟩ (wO_X δ _) rfl rfl rfl rfl (Nat.le_of_ble_eq_true rfl) (fun r_23 s_23 h_23 => ?_)
        have z_23 : gSm σ s_23 := gSm_t (by repeat (first | (with_reducible assumption) | (with_reducible exact gSm_r _) | (with_reducible refine gSm_I (by omega) ?_) | (with_reducible refine gSm_L (by omega) ?_) | (with_reducible refine gSm_N (by omega) ?_) | (with_reducible refine gSm_G (by omega) ?_) | (with_reducible refine gSm_P ?_))) h_23
        refine g_istore C dX8_stuck_26 (Nat.le_of_ble_eq_true rfl) rfl ?_
        refine g_lv [some _, some _, some _, some _, some _] (gs_some (gs_some (gs_some (gs_some (gs_some gs_nil))))) ?_
        refine g_iload C dX8_stuck_28 rfl ?_
        refine g_if_eq C 36 dX8_stuck_30 (by decide) (fun c_30 => ?_) (fun c_30 => ?_)
        · refine g_aload_n C dX8_stuck_36 rfl ?_
          refine g_get C dX8_stuck_37 iwX8 rfl (wO_X δ _) 7 (Nat.le_of_ble_eq_true rfl) mW224 rfl rfl ?_
          refine g_lconst (v := 0) C dX8_stuck_40 (by decide) ?_
          refine g_aload_n C dX8_stuck_41 rfl ?_
          refine g_get C dX8_stuck_42 iwX8 rfl (wO_X δ _) 6 (Nat.le_of_ble_eq_true rfl) mW223 rfl rfl ?_
          refine g_get C dX8_stuck_45 iwX0 rfl (wO_A δ _) 7 (Nat.le_of_ble_eq_true rfl) mW118 rfl rfl ?_
          refine g_aload_n C dX8_stuck_48 rfl ?_
          refine g_get C dX8_stuck_49 iwX8 rfl (wO_X δ _) 6 (Nat.le_of_ble_eq_true rfl) mW223 rfl rfl ?_
          refine g_get C dX8_stuck_52 iwX0 rfl (wO_A δ _) 8 (Nat.le_of_ble_eq_true rfl) mW120 rfl rfl ?_
          refine g_callVv C sV_X8_189 dX8_stuck_55 (c_X1_become _ δ _ _ _ _) ⟨by decide, by decide⟩ (wO_F δ _) rfl rfl rfl rfl (Nat.le_of_ble_eq_true rfl) (fun s_55 h_55 => ?_)
          have z_55 : gSm σ s_55 := gSm_t (by repeat (first | (with_reducible assumption) | (with_reducible exact gSm_r _) | (with_reducible refine gSm_I (by omega) ?_) | (with_reducible refine gSm_L (by omega) ?_) | (with_reducible refine gSm_N (by omega) ?_) | (with_reducible refine gSm_G (by omega) ?_) | (with_reducible refine gSm_P ?_))) h_55
          refine g_iconst (v := 0) C dX8_stuck_58 (by decide) ?_
          exact g_iret C E dX8_stuck_59 rfl rfl ⟨_, rfl, (by repeat (first | (with_reducible assumption) | (with_reducible exact gSm_r _) | (with_reducible refine gSm_I (by omega) ?_) | (with_reducible refine gSm_L (by omega) ?_) | (with_reducible refine gSm_N (by omega) ?_) | (with_reducible refine gSm_G (by omega) ?_) | (with_reducible refine gSm_P ?_)))⟩
        · refine g_iload C dX8_stuck_33 rfl ?_
          exact g_iret C E dX8_stuck_35 rfl rfl ⟨_, rfl, (by repeat (first | (with_reducible assumption) | (with_reducible exact gSm_r _) | (with_reducible refine gSm_I (by omega) ?_) | (with_reducible refine gSm_L (by omega) ?_) | (with_reducible refine gSm_N (by omega) ?_) | (with_reducible refine gSm_G (by omega) ?_) | (with_reducible refine gSm_P ?_)))⟩
      · exact absurd c_14 (by decide)
    · skip
      refine g_if_ne C 19 dX8_stuck_14 (by decide) (fun c_14 => ?_) (fun c_14 => ?_)
      · exact absurd c_14 (by decide)
      · refine g_iconst (v := (-1)) C dX8_stuck_17 (by decide) ?_
        exact g_iret C E dX8_stuck_18 rfl rfl ⟨_, rfl, (by repeat (first | (with_reducible assumption) | (with_reducible exact gSm_r _) | (with_reducible refine gSm_I (by omega) ?_) | (with_reducible refine gSm_L (by omega) ?_) | (with_reducible refine gSm_N (by omega) ?_) | (with_reducible refine gSm_G (by omega) ?_) | (with_reducible refine gSm_P ?_)))⟩
set_option maxRecDepth 100000 in
set_option maxHeartbeats 4000000 in
theorem c_X8_mean (l : Launch) (δ : GD) (σ : GS) (a0 a1 a2 a3 : Int32) {m : Nat} (hm : gN σ 0 = nI m) (h8 : m ≤ 8) (hC : ∀ u, u < m → ∃ n : Nat, 2 ≤ n ∧ n ≤ 4 ∧ gN σ (14 + u) = nI n) : gM l δ yX8_mean cX8_mean 7 (some .int) 6 156 [.ref (δ.2.2.1 0), .int a0, .int a1, .int a2, .int a3] σ (gPi (fun _ σ' => gSm σ σ')) := by
  refine g_of (lv0 := [some (.ref (δ.2.2.1 0)), some (.int a0), some (.int a1), some (.int a2), some (.int a3), none, none]) (by decide) rfl (Nat.le_of_ble_eq_true rfl) (fun Γ hl C E => ?_)
  subst hl
  have C : gC Γ δ cX8_mean RX8 7 6 156 := C
  refine g_aload_n C dX8_mean_0 rfl ?_
  refine g_iload_n C dX8_mean_1 rfl ?_
  refine g_callVr C sV_X8_101 dX8_mean_2 (c_X8_urnAt _ δ _ _ hm h8) ⟨by decide, by decide⟩ (wO_X δ _) rfl rfl rfl rfl (Nat.le_of_ble_eq_true rfl) (fun r_2 s_2 h_2 => ?_)
  obtain ⟨rfl, h_2⟩ := h_2
  rcases h_2 with ⟨rfl, h_2⟩ | ⟨u_2, hu_2, e_2, rfl⟩
  · skip
    refine g_astoreN C dX8_mean_5 (Nat.le_of_ble_eq_true rfl) rfl ?_
    refine g_lv [some _, some _, some _, some _, some _, some _, none] (gs_some (gs_some (gs_some (gs_some (gs_some (gs_some (gs_none gs_nil))))))) ?_
    refine g_aloadN C dX8_mean_7 rfl ?_
    refine g_ifnull_n C 40 dX8_mean_9 (by decide) ?_
    refine g_iconst (v := (-1)) C dX8_mean_40 (by decide) ?_
    exact g_iret C E dX8_mean_41 rfl rfl ⟨_, rfl, (by repeat (first | (with_reducible assumption) | (with_reducible exact gSm_r _) | (with_reducible refine gSm_I (by omega) ?_) | (with_reducible refine gSm_L (by omega) ?_) | (with_reducible refine gSm_N (by omega) ?_) | (with_reducible refine gSm_G (by omega) ?_) | (with_reducible refine gSm_P ?_)))⟩
  · obtain ⟨n, h2, h4, hn⟩ := hC u_2 hu_2
    have hu8 : u_2 < 8 := by omega
    refine g_astore C dX8_mean_5 (Nat.le_of_ble_eq_true rfl) rfl ?_
    refine g_lv [some _, some _, some _, some _, some _, some _, none] (gs_some (gs_some (gs_some (gs_some (gs_some (gs_some (gs_none gs_nil))))))) ?_
    refine g_aload C dX8_mean_7 rfl ?_
    refine g_ifnull_r C dX8_mean_9 ?_
    refine g_iload_n C dX8_mean_12 rfl ?_
    refine g_callSi C sS_X8_192 dX8_mean_13 (c_X8_areDraws _ δ _ _) ⟨by decide, by decide⟩ rfl rfl rfl (Nat.le_of_ble_eq_true rfl) (fun r_13 s_13 h_13 => ?_)
    obtain ⟨rfl, h_13⟩ := h_13
    rcases h_13 with ⟨rfl, h_13⟩ | ⟨rfl, h_13⟩
    · obtain ⟨k1, hk1, rfl⟩ := id h_13
      refine g_if_eq C 40 dX8_mean_16 (by decide) (fun c_16 => ?_) (fun c_16 => ?_)
      · exact absurd c_16 (by decide)
      · refine g_aload C dX8_mean_19 rfl ?_
        refine g_iload_n C dX8_mean_21 rfl ?_
        refine g_callVi C sV_X8_105 dX8_mean_22 (c_X7_has _ δ _ hu8 _ hn h4) ⟨by decide, by decide⟩ (wO_U δ _ hu8) rfl rfl rfl rfl (Nat.le_of_ble_eq_true rfl) (fun r_22 s_22 h_22 => ?_)
        obtain ⟨rfl, h_22⟩ := h_22
        rcases h_22 with ⟨rfl, h_22⟩ | ⟨rfl, h_22⟩
        · obtain ⟨c1, hc1, rfl⟩ := id h_22
          refine g_if_eq C 40 dX8_mean_25 (by decide) (fun c_25 => ?_) (fun c_25 => ?_)
          · exact absurd c_25 (by decide)
          · refine g_iload C dX8_mean_28 rfl ?_
            refine g_iconst (v := 1) C dX8_mean_30 (by decide) ?_
            refine g_icmp_lt C 40 dX8_mean_31 (by decide) (fun c_31 => ?_) (fun c_31 => ?_)
            · refine g_iconst (v := (-1)) C dX8_mean_40 (by decide) ?_
              exact g_iret C E dX8_mean_41 rfl rfl ⟨_, rfl, (by repeat (first | (with_reducible assumption) | (with_reducible exact gSm_r _) | (with_reducible refine gSm_I (by omega) ?_) | (with_reducible refine gSm_L (by omega) ?_) | (with_reducible refine gSm_N (by omega) ?_) | (with_reducible refine gSm_G (by omega) ?_) | (with_reducible refine gSm_P ?_)))⟩
            · refine g_iload C dX8_mean_34 rfl ?_
              refine g_iconst (v := 3) C dX8_mean_36 (by decide) ?_
              refine g_icmp_le C 42 dX8_mean_37 (by decide) (fun c_37 => ?_) (fun c_37 => ?_)
              · obtain ⟨m3, hm3, rfl⟩ := gIx_3 c_31 c_37
                refine g_aload_n C dX8_mean_42 rfl ?_
                refine g_aload C dX8_mean_43 rfl ?_
                refine g_iload_n C dX8_mean_45 rfl ?_
                refine g_iload_n C dX8_mean_46 rfl ?_
                refine g_callVi C sV_X8_195 dX8_mean_47 (c_X8_weighRows _ δ _ hu8 (k := k1) (c := c1) (by omega) (by omega) hn h4) ⟨by decide, by decide⟩ (wO_X δ _) rfl rfl rfl rfl (Nat.le_of_ble_eq_true rfl) (fun r_47 s_47 h_47 => ?_)
                have z_47 : gSm σ s_47 := gSm_t (by repeat (first | (with_reducible assumption) | (with_reducible exact gSm_r _) | (with_reducible refine gSm_I (by omega) ?_) | (with_reducible refine gSm_L (by omega) ?_) | (with_reducible refine gSm_N (by omega) ?_) | (with_reducible refine gSm_G (by omega) ?_) | (with_reducible refine gSm_P ?_))) h_47
                refine g_istore C dX8_mean_50 (Nat.le_of_ble_eq_true rfl) rfl ?_
                refine g_lv [some _, some _, some _, some _, some _, some _, some _] (gs_some (gs_some (gs_some (gs_some (gs_some (gs_some (gs_some gs_nil))))))) ?_
                refine g_iload C dX8_mean_52 rfl ?_
                refine g_if_eq C 60 dX8_mean_54 (by decide) (fun c_54 => ?_) (fun c_54 => ?_)
                · refine g_aload_n C dX8_mean_60 rfl ?_
                  refine g_get C dX8_mean_61 iwX8 rfl (wO_X δ _) 6 (Nat.le_of_ble_eq_true rfl) mW223 rfl rfl ?_
                  refine g_iload C dX8_mean_64 rfl ?_
                  refine g_callVv C sV_X8_209 dX8_mean_66 (c_X0_findMean _ δ _ (m := m3) (by omega)) ⟨by decide, by decide⟩ (wO_A δ _) rfl rfl rfl rfl (Nat.le_of_ble_eq_true rfl) (fun s_66 h_66 => ?_)
                  have z_66 : gSm σ s_66 := gSm_t (by repeat (first | (with_reducible assumption) | (with_reducible exact gSm_r _) | (with_reducible refine gSm_I (by omega) ?_) | (with_reducible refine gSm_L (by omega) ?_) | (with_reducible refine gSm_N (by omega) ?_) | (with_reducible refine gSm_G (by omega) ?_) | (with_reducible refine gSm_P ?_))) h_66
                  refine g_aload_n C dX8_mean_69 rfl ?_
                  refine g_get C dX8_mean_70 iwX8 rfl (wO_X δ _) 7 (Nat.le_of_ble_eq_true rfl) mW224 rfl rfl ?_
                  refine g_aload_n C dX8_mean_73 rfl ?_
                  refine g_get C dX8_mean_74 iwX8 rfl (wO_X δ _) 6 (Nat.le_of_ble_eq_true rfl) mW223 rfl rfl ?_
                  refine g_get C dX8_mean_77 iwX0 rfl (wO_A δ _) 9 (Nat.le_of_ble_eq_true rfl) mW122 rfl rfl ?_
                  refine g_aload_n C dX8_mean_80 rfl ?_
                  refine g_get C dX8_mean_81 iwX8 rfl (wO_X δ _) 6 (Nat.le_of_ble_eq_true rfl) mW223 rfl rfl ?_
                  refine g_get C dX8_mean_84 iwX0 rfl (wO_A δ _) 10 (Nat.le_of_ble_eq_true rfl) mW124 rfl rfl ?_
                  refine g_aload_n C dX8_mean_87 rfl ?_
                  refine g_get C dX8_mean_88 iwX8 rfl (wO_X δ _) 6 (Nat.le_of_ble_eq_true rfl) mW223 rfl rfl ?_
                  refine g_get C dX8_mean_91 iwX0 rfl (wO_A δ _) 8 (Nat.le_of_ble_eq_true rfl) mW120 rfl rfl ?_
                  refine g_callVv C sV_X8_189 dX8_mean_94 (c_X1_become _ δ _ _ _ _) ⟨by decide, by decide⟩ (wO_F δ _) rfl rfl rfl rfl (Nat.le_of_ble_eq_true rfl) (fun s_94 h_94 => ?_)
                  have z_94 : gSm σ s_94 := gSm_t (by repeat (first | (with_reducible assumption) | (with_reducible exact gSm_r _) | (with_reducible refine gSm_I (by omega) ?_) | (with_reducible refine gSm_L (by omega) ?_) | (with_reducible refine gSm_N (by omega) ?_) | (with_reducible refine gSm_G (by omega) ?_) | (with_reducible refine gSm_P ?_))) h_94
                  refine g_iconst (v := 0) C dX8_mean_97 (by decide) ?_
                  exact g_iret C E dX8_mean_98 rfl rfl ⟨_, rfl, (by repeat (first | (with_reducible assumption) | (with_reducible exact gSm_r _) | (with_reducible refine gSm_I (by omega) ?_) | (with_reducible refine gSm_L (by omega) ?_) | (with_reducible refine gSm_N (by omega) ?_) | (with_reducible refine gSm_G (by omega) ?_) | (with_reducible refine gSm_P ?_)))⟩
                · refine g_iload C dX8_mean_57 rfl ?_
                  exact g_iret C E dX8_mean_59 rfl rfl ⟨_, rfl, (by repeat (first | (with_reducible assumption) | (with_reducible exact gSm_r _) | (with_reducible refine gSm_I (by omega) ?_) | (with_reducible refine gSm_L (by omega) ?_) | (with_reducible refine gSm_N (by omega) ?_) | (with_reducible refine gSm_G (by omega) ?_) | (with_reducible refine gSm_P ?_)))⟩
              · refine g_iconst (v := (-1)) C dX8_mean_40 (by decide) ?_
                exact g_iret C E dX8_mean_41 rfl rfl ⟨_, rfl, (by repeat (first | (with_reducible assumption) | (with_reducible exact gSm_r _) | (with_reducible refine gSm_I (by omega) ?_) | (with_reducible refine gSm_L (by omega) ?_) | (with_reducible refine gSm_N (by omega) ?_) | (with_reducible refine gSm_G (by omega) ?_) | (with_reducible refine gSm_P ?_)))⟩
        · skip
          refine g_if_eq C 40 dX8_mean_25 (by decide) (fun c_25 => ?_) (fun c_25 => ?_)
          · refine g_iconst (v := (-1)) C dX8_mean_40 (by decide) ?_
            exact g_iret C E dX8_mean_41 rfl rfl ⟨_, rfl, (by repeat (first | (with_reducible assumption) | (with_reducible exact gSm_r _) | (with_reducible refine gSm_I (by omega) ?_) | (with_reducible refine gSm_L (by omega) ?_) | (with_reducible refine gSm_N (by omega) ?_) | (with_reducible refine gSm_G (by omega) ?_) | (with_reducible refine gSm_P ?_)))⟩
          · exact absurd c_25 (by decide)
    · skip
      refine g_if_eq C 40 dX8_mean_16 (by decide) (fun c_16 => ?_) (fun c_16 => ?_)
      · refine g_iconst (v := (-1)) C dX8_mean_40 (by decide) ?_
        exact g_iret C E dX8_mean_41 rfl rfl ⟨_, rfl, (by repeat (first | (with_reducible assumption) | (with_reducible exact gSm_r _) | (with_reducible refine gSm_I (by omega) ?_) | (with_reducible refine gSm_L (by omega) ?_) | (with_reducible refine gSm_N (by omega) ?_) | (with_reducible refine gSm_G (by omega) ?_) | (with_reducible refine gSm_P ?_)))⟩
      · exact absurd c_16 (by decide)
set_option maxRecDepth 100000 in
set_option maxHeartbeats 4000000 in
theorem c_X8_told (l : Launch) (δ : GD) (σ : GS) (a0 a1 a2 a3 a4 : Int32) {m : Nat} (hm : gN σ 0 = nI m) (h8 : m ≤ 8) (hC : ∀ u, u < m → ∃ n : Nat, 2 ≤ n ∧ n ≤ 4 ∧ gN σ (14 + u) = nI n) : gM l δ yX8_told cX8_told 9 (some .int) 5 133 [.ref (δ.2.2.1 0), .int a0, .int a1, .int a2, .int a3, .int a4] σ (gPi (fun _ σ' => gSm σ σ')) := by
  refine g_of (lv0 := [some (.ref (δ.2.2.1 0)), some (.int a0), some (.int a1), some (.int a2), some (.int a3), some (.int a4), none, none, none]) (by decide) rfl (Nat.le_of_ble_eq_true rfl) (fun Γ hl C E => ?_)
  subst hl
  have C : gC Γ δ cX8_told RX8 9 5 133 := C
  refine g_aload_n C dX8_told_0 rfl ?_
  refine g_iload_n C dX8_told_1 rfl ?_
  refine g_callVr C sV_X8_101 dX8_told_2 (c_X8_urnAt _ δ _ _ hm h8) ⟨by decide, by decide⟩ (wO_X δ _) rfl rfl rfl rfl (Nat.le_of_ble_eq_true rfl) (fun r_2 s_2 h_2 => ?_)
  obtain ⟨rfl, h_2⟩ := h_2
  rcases h_2 with ⟨rfl, h_2⟩ | ⟨u_2, hu_2, e_2, rfl⟩
  · skip
    refine g_astoreN C dX8_told_5 (Nat.le_of_ble_eq_true rfl) rfl ?_
    refine g_lv [some _, some _, some _, some _, some _, some _, some _, none, none] (gs_some (gs_some (gs_some (gs_some (gs_some (gs_some (gs_some (gs_none (gs_none gs_nil))))))))) ?_
    refine g_aloadN C dX8_told_7 rfl ?_
    refine g_ifnull_n C 49 dX8_told_9 (by decide) ?_
    refine g_iconst (v := (-1)) C dX8_told_49 (by decide) ?_
    exact g_iret C E dX8_told_50 rfl rfl ⟨_, rfl, (by repeat (first | (with_reducible assumption) | (with_reducible exact gSm_r _) | (with_reducible refine gSm_I (by omega) ?_) | (with_reducible refine gSm_L (by omega) ?_) | (with_reducible refine gSm_N (by omega) ?_) | (with_reducible refine gSm_G (by omega) ?_) | (with_reducible refine gSm_P ?_)))⟩
  · obtain ⟨n, h2, h4, hn⟩ := hC u_2 hu_2
    have hu8 : u_2 < 8 := by omega
    refine g_astore C dX8_told_5 (Nat.le_of_ble_eq_true rfl) rfl ?_
    refine g_lv [some _, some _, some _, some _, some _, some _, some _, none, none] (gs_some (gs_some (gs_some (gs_some (gs_some (gs_some (gs_some (gs_none (gs_none gs_nil))))))))) ?_
    refine g_aload C dX8_told_7 rfl ?_
    refine g_ifnull_r C dX8_told_9 ?_
    refine g_iload_n C dX8_told_12 rfl ?_
    refine g_iconst (v := 1) C dX8_told_13 (by decide) ?_
    refine g_icmp_lt C 49 dX8_told_14 (by decide) (fun c_14 => ?_) (fun c_14 => ?_)
    · refine g_iconst (v := (-1)) C dX8_told_49 (by decide) ?_
      exact g_iret C E dX8_told_50 rfl rfl ⟨_, rfl, (by repeat (first | (with_reducible assumption) | (with_reducible exact gSm_r _) | (with_reducible refine gSm_I (by omega) ?_) | (with_reducible refine gSm_L (by omega) ?_) | (with_reducible refine gSm_N (by omega) ?_) | (with_reducible refine gSm_G (by omega) ?_) | (with_reducible refine gSm_P ?_)))⟩
    · refine g_iload C dX8_told_17 rfl ?_
      refine g_iload_n C dX8_told_19 rfl ?_
      refine g_icmp_le C 49 dX8_told_20 (by decide) (fun c_20 => ?_) (fun c_20 => ?_)
      · refine g_iconst (v := (-1)) C dX8_told_49 (by decide) ?_
        exact g_iret C E dX8_told_50 rfl rfl ⟨_, rfl, (by repeat (first | (with_reducible assumption) | (with_reducible exact gSm_r _) | (with_reducible refine gSm_I (by omega) ?_) | (with_reducible refine gSm_L (by omega) ?_) | (with_reducible refine gSm_N (by omega) ?_) | (with_reducible refine gSm_G (by omega) ?_) | (with_reducible refine gSm_P ?_)))⟩
      · refine g_iload C dX8_told_23 rfl ?_
        refine g_bipush (v := 12) C dX8_told_25 (by decide) ?_
        refine g_icmp_gt C 49 dX8_told_27 (by decide) (fun c_27 => ?_) (fun c_27 => ?_)
        · refine g_iconst (v := (-1)) C dX8_told_49 (by decide) ?_
          exact g_iret C E dX8_told_50 rfl rfl ⟨_, rfl, (by repeat (first | (with_reducible assumption) | (with_reducible exact gSm_r _) | (with_reducible refine gSm_I (by omega) ?_) | (with_reducible refine gSm_L (by omega) ?_) | (with_reducible refine gSm_N (by omega) ?_) | (with_reducible refine gSm_G (by omega) ?_) | (with_reducible refine gSm_P ?_)))⟩
        · obtain ⟨i1, j1, hi1, hj1, hj2, rfl, rfl⟩ := gij c_14 c_20 c_27
          refine g_aload C dX8_told_30 rfl ?_
          refine g_iload_n C dX8_told_32 rfl ?_
          refine g_callVi C sV_X8_105 dX8_told_33 (c_X7_has _ δ _ hu8 _ hn h4) ⟨by decide, by decide⟩ (wO_U δ _ hu8) rfl rfl rfl rfl (Nat.le_of_ble_eq_true rfl) (fun r_33 s_33 h_33 => ?_)
          obtain ⟨rfl, h_33⟩ := h_33
          rcases h_33 with ⟨rfl, h_33⟩ | ⟨rfl, h_33⟩
          · obtain ⟨c1, hc1, rfl⟩ := id h_33
            refine g_if_eq C 49 dX8_told_36 (by decide) (fun c_36 => ?_) (fun c_36 => ?_)
            · exact absurd c_36 (by decide)
            · refine g_aload C dX8_told_39 rfl ?_
              refine g_iload C dX8_told_41 rfl ?_
              refine g_callVi C sV_X8_105 dX8_told_43 (c_X7_has _ δ _ hu8 _ hn h4) ⟨by decide, by decide⟩ (wO_U δ _ hu8) rfl rfl rfl rfl (Nat.le_of_ble_eq_true rfl) (fun r_43 s_43 h_43 => ?_)
              obtain ⟨rfl, h_43⟩ := h_43
              rcases h_43 with ⟨rfl, h_43⟩ | ⟨rfl, h_43⟩
              · obtain ⟨d1, hd1, rfl⟩ := id h_43
                refine g_if_ne C 51 dX8_told_46 (by decide) (fun c_46 => ?_) (fun c_46 => ?_)
                · refine g_aload C dX8_told_51 rfl ?_
                  refine g_callVi C sV_X8_136 dX8_told_53 (c_X7_isEven _ δ _ hu8 hn h4) ⟨by decide, by decide⟩ (wO_U δ _ hu8) rfl rfl rfl rfl (Nat.le_of_ble_eq_true rfl) (fun r_53 s_53 h_53 => ?_)
                  obtain ⟨rfl, h_53⟩ := h_53
                  rcases h_53 with ⟨rfl, h_53⟩ | ⟨rfl, h_53⟩
                  · skip
                    refine g_if_eq C 67 dX8_told_56 (by decide) (fun c_56 => ?_) (fun c_56 => ?_)
                    · exact absurd c_56 (by decide)
                    · refine g_aload C dX8_told_59 rfl ?_
                      refine g_callVi C sV_X8_129 dX8_told_61 (c_X7_total _ δ _ hu8) ⟨by decide, by decide⟩ (wO_U δ _ hu8) rfl rfl rfl rfl (Nat.le_of_ble_eq_true rfl) (fun r_61 s_61 h_61 => ?_)
                      obtain ⟨rfl, h_61⟩ := h_61
                      refine g_if_ne C 70 dX8_told_64 (by decide) (fun c_64 => ?_) (fun c_64 => ?_)
                      · refine g_aload_n C dX8_told_70 rfl ?_
                        refine g_get C dX8_told_71 iwX8 rfl (wO_X δ _) 6 (Nat.le_of_ble_eq_true rfl) mW223 rfl rfl ?_
                        refine g_callVv C sV_X8_218 dX8_told_74 (c_X0_letAny _ δ _) ⟨by decide, by decide⟩ (wO_A δ _) rfl rfl rfl rfl (Nat.le_of_ble_eq_true rfl) (fun s_74 h_74 => ?_)
                        have z_74 : gSm σ s_74 := gSm_t (by repeat (first | (with_reducible assumption) | (with_reducible exact gSm_r _) | (with_reducible refine gSm_I (by omega) ?_) | (with_reducible refine gSm_L (by omega) ?_) | (with_reducible refine gSm_N (by omega) ?_) | (with_reducible refine gSm_G (by omega) ?_) | (with_reducible refine gSm_P ?_))) h_74
                        refine g_aload_n C dX8_told_77 rfl ?_
                        refine g_get C dX8_told_78 iwX8 rfl (wO_X δ _) 6 (Nat.le_of_ble_eq_true rfl) mW223 rfl rfl ?_
                        refine g_iload C dX8_told_81 rfl ?_
                        refine g_iload C dX8_told_83 rfl ?_
                        refine g_callVv C sV_X8_221 dX8_told_85 (c_X0_letOnly _ δ _ (i := j1) (by omega) (by omega) _) ⟨by decide, by decide⟩ (wO_A δ _) rfl rfl rfl rfl (Nat.le_of_ble_eq_true rfl) (fun s_85 h_85 => ?_)
                        have z_85 : gSm σ s_85 := gSm_t (by repeat (first | (with_reducible assumption) | (with_reducible exact gSm_r _) | (with_reducible refine gSm_I (by omega) ?_) | (with_reducible refine gSm_L (by omega) ?_) | (with_reducible refine gSm_N (by omega) ?_) | (with_reducible refine gSm_G (by omega) ?_) | (with_reducible refine gSm_P ?_))) h_85
                        refine g_aload_n C dX8_told_88 rfl ?_
                        refine g_get C dX8_told_89 iwX8 rfl (wO_X δ _) 6 (Nat.le_of_ble_eq_true rfl) mW223 rfl rfl ?_
                        refine g_aload C dX8_told_92 rfl ?_
                        refine g_iload C dX8_told_94 rfl ?_
                        refine g_callVl C sV_X8_224 dX8_told_96 (c_X0_countRows _ δ _ hu8 (k := j1) (by omega) ((gSm_n z_85 (by omega)).trans hn) h4) ⟨by decide, by decide⟩ (wO_A δ _) rfl rfl rfl rfl (Nat.le_of_ble_eq_true rfl) (fun r_96 s_96 h_96 => ?_)
                        have z_96 : gSm σ s_96 := gSm_t (by repeat (first | (with_reducible assumption) | (with_reducible exact gSm_r _) | (with_reducible refine gSm_I (by omega) ?_) | (with_reducible refine gSm_L (by omega) ?_) | (with_reducible refine gSm_N (by omega) ?_) | (with_reducible refine gSm_G (by omega) ?_) | (with_reducible refine gSm_P ?_))) h_96
                        refine g_lconst (v := 0) C dX8_told_99 (by decide) ?_
                        refine g_lcmp C dX8_told_100 ?_
                        refine g_if_ne C 107 dX8_told_101 (by decide) (fun c_101 => ?_) (fun c_101 => ?_)
                        · rw [lg_cmp_eq] at c_101
                          refine g_aload_n C dX8_told_107 rfl ?_
                          refine g_get C dX8_told_108 iwX8 rfl (wO_X δ _) 6 (Nat.le_of_ble_eq_true rfl) mW223 rfl rfl ?_
                          refine g_aload C dX8_told_111 rfl ?_
                          refine g_iload C dX8_told_113 rfl ?_
                          refine g_callVi C sV_X8_228 dX8_told_115 (c_X0_findBelow _ δ _ hu8 (k := j1) (by omega) ((gSm_n z_96 (by omega)).trans hn) h4) ⟨by decide, by decide⟩ (wO_A δ _) rfl rfl rfl rfl (Nat.le_of_ble_eq_true rfl) (fun r_115 s_115 h_115 => ?_)
                          have z_115 : gSm σ s_115 := gSm_t (by repeat (first | (with_reducible assumption) | (with_reducible exact gSm_r _) | (with_reducible refine gSm_I (by omega) ?_) | (with_reducible refine gSm_L (by omega) ?_) | (with_reducible refine gSm_N (by omega) ?_) | (with_reducible refine gSm_G (by omega) ?_) | (with_reducible refine gSm_P ?_))) h_115
                          refine g_if_ne C 124 dX8_told_118 (by decide) (fun c_118 => ?_) (fun c_118 => ?_)
                          · refine g_aload_n C dX8_told_124 rfl ?_
                            refine g_get C dX8_told_125 iwX8 rfl (wO_X δ _) 6 (Nat.le_of_ble_eq_true rfl) mW223 rfl rfl ?_
                            refine g_aload C dX8_told_128 rfl ?_
                            refine g_iload C dX8_told_130 rfl ?_
                            refine g_iload C dX8_told_132 rfl ?_
                            refine g_callVv C sV_X8_232 dX8_told_134 (c_X0_weigh _ δ _ hu8 (k := j1) (c := d1) (by omega) (by omega) ((gSm_n z_115 (by omega)).trans hn) h4) ⟨by decide, by decide⟩ (wO_A δ _) rfl rfl rfl rfl (Nat.le_of_ble_eq_true rfl) (fun s_134 h_134 => ?_)
                            have z_134 : gSm σ s_134 := gSm_t (by repeat (first | (with_reducible assumption) | (with_reducible exact gSm_r _) | (with_reducible refine gSm_I (by omega) ?_) | (with_reducible refine gSm_L (by omega) ?_) | (with_reducible refine gSm_N (by omega) ?_) | (with_reducible refine gSm_G (by omega) ?_) | (with_reducible refine gSm_P ?_))) h_134
                            refine g_aload_n C dX8_told_137 rfl ?_
                            refine g_get C dX8_told_138 iwX8 rfl (wO_X δ _) 6 (Nat.le_of_ble_eq_true rfl) mW223 rfl rfl ?_
                            refine g_callVl C sV_X8_236 dX8_told_141 (c_X0_through _ δ _) ⟨by decide, by decide⟩ (wO_A δ _) rfl rfl rfl rfl (Nat.le_of_ble_eq_true rfl) (fun r_141 s_141 h_141 => ?_)
                            obtain rfl := h_141
                            refine g_lstore C dX8_told_144 (Nat.le_of_ble_eq_true rfl) rfl ?_
                            refine g_lv [some _, some _, some _, some _, some _, some _, some _, some _, none] (gs_some (gs_some (gs_some (gs_some (gs_some (gs_some (gs_some (gs_some (gs_none gs_nil))))))))) ?_
                            refine g_aload_n C dX8_told_146 rfl ?_
                            refine g_get C dX8_told_147 iwX8 rfl (wO_X δ _) 6 (Nat.le_of_ble_eq_true rfl) mW223 rfl rfl ?_
                            refine g_iload_n C dX8_told_150 rfl ?_
                            refine g_iload_n C dX8_told_151 rfl ?_
                            refine g_callVv C sV_X8_221 dX8_told_152 (c_X0_letOnly _ δ _ (i := i1) (by omega) (by omega) _) ⟨by decide, by decide⟩ (wO_A δ _) rfl rfl rfl rfl (Nat.le_of_ble_eq_true rfl) (fun s_152 h_152 => ?_)
                            have z_152 : gSm σ s_152 := gSm_t (by repeat (first | (with_reducible assumption) | (with_reducible exact gSm_r _) | (with_reducible refine gSm_I (by omega) ?_) | (with_reducible refine gSm_L (by omega) ?_) | (with_reducible refine gSm_N (by omega) ?_) | (with_reducible refine gSm_G (by omega) ?_) | (with_reducible refine gSm_P ?_))) h_152
                            refine g_aload_n C dX8_told_155 rfl ?_
                            refine g_get C dX8_told_156 iwX8 rfl (wO_X δ _) 6 (Nat.le_of_ble_eq_true rfl) mW223 rfl rfl ?_
                            refine g_aload C dX8_told_159 rfl ?_
                            refine g_iload C dX8_told_161 rfl ?_
                            refine g_iload C dX8_told_163 rfl ?_
                            refine g_callVv C sV_X8_232 dX8_told_165 (c_X0_weigh _ δ _ hu8 (k := j1) (c := d1) (by omega) (by omega) ((gSm_n z_152 (by omega)).trans hn) h4) ⟨by decide, by decide⟩ (wO_A δ _) rfl rfl rfl rfl (Nat.le_of_ble_eq_true rfl) (fun s_165 h_165 => ?_)
                            have z_165 : gSm σ s_165 := gSm_t (by repeat (first | (with_reducible assumption) | (with_reducible exact gSm_r _) | (with_reducible refine gSm_I (by omega) ?_) | (with_reducible refine gSm_L (by omega) ?_) | (with_reducible refine gSm_N (by omega) ?_) | (with_reducible refine gSm_G (by omega) ?_) | (with_reducible refine gSm_P ?_))) h_165
                            refine g_aload_n C dX8_told_168 rfl ?_
                            refine g_get C dX8_told_169 iwX8 rfl (wO_X δ _) 7 (Nat.le_of_ble_eq_true rfl) mW224 rfl rfl ?_
                            refine g_lconst (v := 0) C dX8_told_172 (by decide) ?_
                            refine g_aload_n C dX8_told_173 rfl ?_
                            refine g_get C dX8_told_174 iwX8 rfl (wO_X δ _) 6 (Nat.le_of_ble_eq_true rfl) mW223 rfl rfl ?_
                            refine g_callVl C sV_X8_236 dX8_told_177 (c_X0_through _ δ _) ⟨by decide, by decide⟩ (wO_A δ _) rfl rfl rfl rfl (Nat.le_of_ble_eq_true rfl) (fun r_177 s_177 h_177 => ?_)
                            obtain rfl := h_177
                            refine g_lload C dX8_told_180 rfl ?_
                            refine g_callVv C sV_X8_189 dX8_told_182 (c_X1_become _ δ _ _ _ _) ⟨by decide, by decide⟩ (wO_F δ _) rfl rfl rfl rfl (Nat.le_of_ble_eq_true rfl) (fun s_182 h_182 => ?_)
                            have z_182 : gSm σ s_182 := gSm_t (by repeat (first | (with_reducible assumption) | (with_reducible exact gSm_r _) | (with_reducible refine gSm_I (by omega) ?_) | (with_reducible refine gSm_L (by omega) ?_) | (with_reducible refine gSm_N (by omega) ?_) | (with_reducible refine gSm_G (by omega) ?_) | (with_reducible refine gSm_P ?_))) h_182
                            refine g_iconst (v := 0) C dX8_told_185 (by decide) ?_
                            exact g_iret C E dX8_told_186 rfl rfl ⟨_, rfl, (by repeat (first | (with_reducible assumption) | (with_reducible exact gSm_r _) | (with_reducible refine gSm_I (by omega) ?_) | (with_reducible refine gSm_L (by omega) ?_) | (with_reducible refine gSm_N (by omega) ?_) | (with_reducible refine gSm_G (by omega) ?_) | (with_reducible refine gSm_P ?_)))⟩
                          · refine g_bipush (v := (-6)) C dX8_told_121 (by decide) ?_
                            exact g_iret C E dX8_told_123 rfl rfl ⟨_, rfl, (by repeat (first | (with_reducible assumption) | (with_reducible exact gSm_r _) | (with_reducible refine gSm_I (by omega) ?_) | (with_reducible refine gSm_L (by omega) ?_) | (with_reducible refine gSm_N (by omega) ?_) | (with_reducible refine gSm_G (by omega) ?_) | (with_reducible refine gSm_P ?_)))⟩
                        · rw [lg_cmp_eq] at c_101
                          refine g_bipush (v := (-2)) C dX8_told_104 (by decide) ?_
                          exact g_iret C E dX8_told_106 rfl rfl ⟨_, rfl, (by repeat (first | (with_reducible assumption) | (with_reducible exact gSm_r _) | (with_reducible refine gSm_I (by omega) ?_) | (with_reducible refine gSm_L (by omega) ?_) | (with_reducible refine gSm_N (by omega) ?_) | (with_reducible refine gSm_G (by omega) ?_) | (with_reducible refine gSm_P ?_)))⟩
                      · refine g_bipush (v := (-2)) C dX8_told_67 (by decide) ?_
                        exact g_iret C E dX8_told_69 rfl rfl ⟨_, rfl, (by repeat (first | (with_reducible assumption) | (with_reducible exact gSm_r _) | (with_reducible refine gSm_I (by omega) ?_) | (with_reducible refine gSm_L (by omega) ?_) | (with_reducible refine gSm_N (by omega) ?_) | (with_reducible refine gSm_G (by omega) ?_) | (with_reducible refine gSm_P ?_)))⟩
                  · skip
                    refine g_if_eq C 67 dX8_told_56 (by decide) (fun c_56 => ?_) (fun c_56 => ?_)
                    · refine g_bipush (v := (-2)) C dX8_told_67 (by decide) ?_
                      exact g_iret C E dX8_told_69 rfl rfl ⟨_, rfl, (by repeat (first | (with_reducible assumption) | (with_reducible exact gSm_r _) | (with_reducible refine gSm_I (by omega) ?_) | (with_reducible refine gSm_L (by omega) ?_) | (with_reducible refine gSm_N (by omega) ?_) | (with_reducible refine gSm_G (by omega) ?_) | (with_reducible refine gSm_P ?_)))⟩
                    · exact absurd c_56 (by decide)
                · exact absurd c_46 (by decide)
              · skip
                refine g_if_ne C 51 dX8_told_46 (by decide) (fun c_46 => ?_) (fun c_46 => ?_)
                · exact absurd c_46 (by decide)
                · refine g_iconst (v := (-1)) C dX8_told_49 (by decide) ?_
                  exact g_iret C E dX8_told_50 rfl rfl ⟨_, rfl, (by repeat (first | (with_reducible assumption) | (with_reducible exact gSm_r _) | (with_reducible refine gSm_I (by omega) ?_) | (with_reducible refine gSm_L (by omega) ?_) | (with_reducible refine gSm_N (by omega) ?_) | (with_reducible refine gSm_G (by omega) ?_) | (with_reducible refine gSm_P ?_)))⟩
          · skip
            refine g_if_eq C 49 dX8_told_36 (by decide) (fun c_36 => ?_) (fun c_36 => ?_)
            · refine g_iconst (v := (-1)) C dX8_told_49 (by decide) ?_
              exact g_iret C E dX8_told_50 rfl rfl ⟨_, rfl, (by repeat (first | (with_reducible assumption) | (with_reducible exact gSm_r _) | (with_reducible refine gSm_I (by omega) ?_) | (with_reducible refine gSm_L (by omega) ?_) | (with_reducible refine gSm_N (by omega) ?_) | (with_reducible refine gSm_G (by omega) ?_) | (with_reducible refine gSm_P ?_)))⟩
            · exact absurd c_36 (by decide)
set_option maxRecDepth 100000 in
set_option maxHeartbeats 4000000 in
theorem c_X8_share (l : Launch) (δ : GD) (σ : GS) (a0 a1 a2 : Int32) {m : Nat} (hm : gN σ 0 = nI m) (h8 : m ≤ 8) (hC : ∀ u, u < m → ∃ n : Nat, 2 ≤ n ∧ n ≤ 4 ∧ gN σ (14 + u) = nI n) : gM l δ yX8_share cX8_share 11 (some .int) 2 60 [.ref (δ.2.2.1 0), .int a0, .int a1, .int a2] σ (gPi (fun _ σ' => gSm σ σ')) := by
  refine g_of (lv0 := [some (.ref (δ.2.2.1 0)), some (.int a0), some (.int a1), some (.int a2), none, none, none, none, none, none, none]) (by decide) rfl (Nat.le_of_ble_eq_true rfl) (fun Γ hl C E => ?_)
  subst hl
  have C : gC Γ δ cX8_share RX8 11 2 60 := C
  refine g_aload_n C dX8_share_0 rfl ?_
  refine g_iload_n C dX8_share_1 rfl ?_
  refine g_callVr C sV_X8_101 dX8_share_2 (c_X8_urnAt _ δ _ _ hm h8) ⟨by decide, by decide⟩ (wO_X δ _) rfl rfl rfl rfl (Nat.le_of_ble_eq_true rfl) (fun r_2 s_2 h_2 => ?_)
  obtain ⟨rfl, h_2⟩ := h_2
  rcases h_2 with ⟨rfl, h_2⟩ | ⟨u_2, hu_2, e_2, rfl⟩
  · skip
    refine g_astoreN C dX8_share_5 (Nat.le_of_ble_eq_true rfl) rfl ?_
    refine g_lv [some _, some _, some _, some _, some _, none, none, none, none, none, none] (gs_some (gs_some (gs_some (gs_some (gs_some (gs_none (gs_none (gs_none (gs_none (gs_none (gs_none gs_nil))))))))))) ?_
    refine g_aloadN C dX8_share_7 rfl ?_
    refine g_ifnull_n C 31 dX8_share_9 (by decide) ?_
    refine g_iconst (v := (-1)) C dX8_share_31 (by decide) ?_
    exact g_iret C E dX8_share_32 rfl rfl ⟨_, rfl, (by repeat (first | (with_reducible assumption) | (with_reducible exact gSm_r _) | (with_reducible refine gSm_I (by omega) ?_) | (with_reducible refine gSm_L (by omega) ?_) | (with_reducible refine gSm_N (by omega) ?_) | (with_reducible refine gSm_G (by omega) ?_) | (with_reducible refine gSm_P ?_)))⟩
  · obtain ⟨n, h2, h4, hn⟩ := hC u_2 hu_2
    have hu8 : u_2 < 8 := by omega
    refine g_astore C dX8_share_5 (Nat.le_of_ble_eq_true rfl) rfl ?_
    refine g_lv [some _, some _, some _, some _, some _, none, none, none, none, none, none] (gs_some (gs_some (gs_some (gs_some (gs_some (gs_none (gs_none (gs_none (gs_none (gs_none (gs_none gs_nil))))))))))) ?_
    refine g_aload C dX8_share_7 rfl ?_
    refine g_ifnull_r C dX8_share_9 ?_
    refine g_aload C dX8_share_12 rfl ?_
    refine g_iload_n C dX8_share_14 rfl ?_
    refine g_callVi C sV_X8_105 dX8_share_15 (c_X7_has _ δ _ hu8 _ hn h4) ⟨by decide, by decide⟩ (wO_U δ _ hu8) rfl rfl rfl rfl (Nat.le_of_ble_eq_true rfl) (fun r_15 s_15 h_15 => ?_)
    obtain ⟨rfl, h_15⟩ := h_15
    rcases h_15 with ⟨rfl, h_15⟩ | ⟨rfl, h_15⟩
    · obtain ⟨c1, hc1, rfl⟩ := id h_15
      refine g_if_eq C 31 dX8_share_18 (by decide) (fun c_18 => ?_) (fun c_18 => ?_)
      · exact absurd c_18 (by decide)
      · refine g_iload_n C dX8_share_21 rfl ?_
        refine g_iconst (v := 1) C dX8_share_22 (by decide) ?_
        refine g_icmp_lt C 31 dX8_share_23 (by decide) (fun c_23 => ?_) (fun c_23 => ?_)
        · refine g_iconst (v := (-1)) C dX8_share_31 (by decide) ?_
          exact g_iret C E dX8_share_32 rfl rfl ⟨_, rfl, (by repeat (first | (with_reducible assumption) | (with_reducible exact gSm_r _) | (with_reducible refine gSm_I (by omega) ?_) | (with_reducible refine gSm_L (by omega) ?_) | (with_reducible refine gSm_N (by omega) ?_) | (with_reducible refine gSm_G (by omega) ?_) | (with_reducible refine gSm_P ?_)))⟩
        · refine g_iload_n C dX8_share_26 rfl ?_
          refine g_iconst (v := 4) C dX8_share_27 (by decide) ?_
          refine g_icmp_le C 33 dX8_share_28 (by decide) (fun c_28 => ?_) (fun c_28 => ?_)
          · obtain ⟨k1, hk1, rfl⟩ := gIx_4 c_23 c_28
            refine g_aload C dX8_share_33 rfl ?_
            refine g_iconst (v := 0) C dX8_share_35 (by decide) ?_
            refine g_callVi C sV_X8_140 dX8_share_36 (c_X7_growth _ δ _ hu8 (c := 0) (by omega) hn h4) ⟨by decide, by decide⟩ (wO_U δ _ hu8) rfl rfl rfl rfl (Nat.le_of_ble_eq_true rfl) (fun r_36 s_36 h_36 => ?_)
            obtain ⟨rfl, h_36⟩ := h_36
            refine g_istore C dX8_share_39 (Nat.le_of_ble_eq_true rfl) rfl ?_
            refine g_lv [some _, some _, some _, some _, some _, some _, none, none, none, none, none] (gs_some (gs_some (gs_some (gs_some (gs_some (gs_some (gs_none (gs_none (gs_none (gs_none (gs_none gs_nil))))))))))) ?_
            refine g_aload C dX8_share_41 rfl ?_
            refine g_callVi C sV_X8_144 dX8_share_43 (c_X7_isLike _ δ _ hu8 hn h4) ⟨by decide, by decide⟩ (wO_U δ _ hu8) rfl rfl rfl rfl (Nat.le_of_ble_eq_true rfl) (fun r_43 s_43 h_43 => ?_)
            obtain ⟨rfl, h_43⟩ := h_43
            rcases h_43 with ⟨rfl, h_43⟩ | ⟨rfl, h_43⟩
            · skip
              refine g_if_eq C 62 dX8_share_46 (by decide) (fun c_46 => ?_) (fun c_46 => ?_)
              · exact absurd c_46 (by decide)
              · refine g_iload C dX8_share_49 rfl ?_
                refine g_if_le C 62 dX8_share_51 (by decide) (fun c_51 => ?_) (fun c_51 => ?_)
                · refine g_bipush (v := (-2)) C dX8_share_62 (by decide) ?_
                  exact g_iret C E dX8_share_64 rfl rfl ⟨_, rfl, (by repeat (first | (with_reducible assumption) | (with_reducible exact gSm_r _) | (with_reducible refine gSm_I (by omega) ?_) | (with_reducible refine gSm_L (by omega) ?_) | (with_reducible refine gSm_N (by omega) ?_) | (with_reducible refine gSm_G (by omega) ?_) | (with_reducible refine gSm_P ?_)))⟩
                · refine g_aload C dX8_share_54 rfl ?_
                  refine g_callVi C sV_X8_129 dX8_share_56 (c_X7_total _ δ _ hu8) ⟨by decide, by decide⟩ (wO_U δ _ hu8) rfl rfl rfl rfl (Nat.le_of_ble_eq_true rfl) (fun r_56 s_56 h_56 => ?_)
                  obtain ⟨rfl, h_56⟩ := h_56
                  refine g_if_ne C 65 dX8_share_59 (by decide) (fun c_59 => ?_) (fun c_59 => ?_)
                  · refine g_lconst (v := 1) C dX8_share_65 (by decide) ?_
                    refine g_lstore C dX8_share_66 (Nat.le_of_ble_eq_true rfl) rfl ?_
                    refine g_lv [some _, some _, some _, some _, some _, some _, some _, none, none, none, none] (gs_some (gs_some (gs_some (gs_some (gs_some (gs_some (gs_some (gs_none (gs_none (gs_none (gs_none gs_nil))))))))))) ?_
                    refine g_lconst (v := 1) C dX8_share_68 (by decide) ?_
                    refine g_lstore C dX8_share_69 (Nat.le_of_ble_eq_true rfl) rfl ?_
                    refine g_lv [some _, some _, some _, some _, some _, some _, some _, none, some _, none, none] (gs_some (gs_some (gs_some (gs_some (gs_some (gs_some (gs_some (gs_none (gs_some (gs_none (gs_none gs_nil))))))))))) ?_
                    refine g_iconst (v := 0) C dX8_share_71 (by decide) ?_
                    refine g_istore C dX8_share_72 (Nat.le_of_ble_eq_true rfl) rfl ?_
                    refine g_lv [some _, some _, some _, some _, some _, some _, some _, none, some _, none, some _] (gs_some (gs_some (gs_some (gs_some (gs_some (gs_some (gs_some (gs_none (gs_some (gs_none (gs_some gs_nil))))))))))) ?_
                    have L_74 : ∀ (nn : Nat) (i : Nat) (x y : Int64) (hi : i ≤ k1), k1 - i < nn → gW Γ δ σ 74 [some (.ref (δ.2.2.1 0)), some (.int a0), some (.int (nI c1)), some (.int (nI k1)), some (.ref (δ.2.2.1 (8 + u_2))), some (.int r_36), some (.long x), none, some (.long y), none, some (.int (nI i))] [] := by
                      intro nn
                      induction nn with
                      | zero =>
                        intro i x y hi hm_74
                        exact absurd hm_74 (Nat.not_lt_zero _)
                      | succ nn ih_74 =>
                        intro i x y hi hm_74
                        refine g_iload C dX8_share_74 rfl ?_
                        refine g_iload_n C dX8_share_76 rfl ?_
                        refine g_icmp_ge C 122 dX8_share_77 (by decide) (fun c_77 => ?_) (fun c_77 => ?_)
                        · have k_77 := gle c_77 (a := k1) (b := i) (by first | rfl | assumption | (simp only [glit, nI_add, pk_mul]; done) | (simp only [glit, nI_add, pk_mul]; congr 1; omega) | (simp only [*, glit, nI_add, pk_mul]; congr 1; omega)) (by first | rfl | assumption | (simp only [glit, nI_add, pk_mul]; done) | (simp only [glit, nI_add, pk_mul]; congr 1; omega) | (simp only [*, glit, nI_add, pk_mul]; congr 1; omega)) (by omega) (by omega)
                          refine g_aload_n C dX8_share_122 rfl ?_
                          refine g_get C dX8_share_123 iwX8 rfl (wO_X δ _) 7 (Nat.le_of_ble_eq_true rfl) mW224 rfl rfl ?_
                          refine g_lconst (v := 0) C dX8_share_126 (by decide) ?_
                          refine g_lload C dX8_share_127 rfl ?_
                          refine g_lload C dX8_share_129 rfl ?_
                          refine g_callVv C sV_X8_189 dX8_share_131 (c_X1_become _ δ _ _ _ _) ⟨by decide, by decide⟩ (wO_F δ _) rfl rfl rfl rfl (Nat.le_of_ble_eq_true rfl) (fun s_131 h_131 => ?_)
                          have z_131 : gSm σ s_131 := gSm_t (by repeat (first | (with_reducible assumption) | (with_reducible exact gSm_r _) | (with_reducible refine gSm_I (by omega) ?_) | (with_reducible refine gSm_L (by omega) ?_) | (with_reducible refine gSm_N (by omega) ?_) | (with_reducible refine gSm_G (by omega) ?_) | (with_reducible refine gSm_P ?_))) h_131
                          refine g_iconst (v := 0) C dX8_share_134 (by decide) ?_
                          exact g_iret C E dX8_share_135 rfl rfl ⟨_, rfl, (by repeat (first | (with_reducible assumption) | (with_reducible exact gSm_r _) | (with_reducible refine gSm_I (by omega) ?_) | (with_reducible refine gSm_L (by omega) ?_) | (with_reducible refine gSm_N (by omega) ?_) | (with_reducible refine gSm_G (by omega) ?_) | (with_reducible refine gSm_P ?_)))⟩
                        · have k_77 := gnle c_77 (a := k1) (b := i) (by first | rfl | assumption | (simp only [glit, nI_add, pk_mul]; done) | (simp only [glit, nI_add, pk_mul]; congr 1; omega) | (simp only [*, glit, nI_add, pk_mul]; congr 1; omega)) (by first | rfl | assumption | (simp only [glit, nI_add, pk_mul]; done) | (simp only [glit, nI_add, pk_mul]; congr 1; omega) | (simp only [*, glit, nI_add, pk_mul]; congr 1; omega)) (by omega) (by omega)
                          refine g_lload C dX8_share_80 rfl ?_
                          refine g_aload C dX8_share_82 rfl ?_
                          refine g_get C dX8_share_84 iwX7 rfl (wO_U δ _ hu8) 0 (Nat.le_of_ble_eq_true rfl) mW194 rfl rfl ?_
                          refine g_iload_n C dX8_share_87 rfl ?_
                          refine g_ialdN C dX8_share_88 (k := c1) (q := u_2) (by omega) rfl (by first | rfl | assumption | (simp only [glit, nI_add, pk_mul]; done) | (simp only [glit, nI_add, pk_mul]; congr 1; omega) | (simp only [*, glit, nI_add, pk_mul]; congr 1; omega)) (by rw [gLenI_b hu8]; omega) ?_
                          refine g_iload C dX8_share_89 rfl ?_
                          refine g_iload C dX8_share_91 rfl ?_
                          refine g_imul C dX8_share_93 ?_
                          refine g_iadd C dX8_share_94 ?_
                          refine g_i2l C dX8_share_95 ?_
                          refine g_lmul C dX8_share_96 ?_
                          refine g_lstore C dX8_share_97 (Nat.le_of_ble_eq_true rfl) rfl ?_
                          refine g_lv [some _, some _, some _, some _, some _, some _, some _, none, some _, none, some _] (gs_some (gs_some (gs_some (gs_some (gs_some (gs_some (gs_some (gs_none (gs_some (gs_none (gs_some gs_nil))))))))))) ?_
                          refine g_lload C dX8_share_99 rfl ?_
                          refine g_aload C dX8_share_101 rfl ?_
                          refine g_callVi C sV_X8_129 dX8_share_103 (c_X7_total _ δ _ hu8) ⟨by decide, by decide⟩ (wO_U δ _ hu8) rfl rfl rfl rfl (Nat.le_of_ble_eq_true rfl) (fun r_103 s_103 h_103 => ?_)
                          obtain ⟨rfl, h_103⟩ := h_103
                          refine g_iload C dX8_share_106 rfl ?_
                          refine g_iload C dX8_share_108 rfl ?_
                          refine g_imul C dX8_share_110 ?_
                          refine g_iadd C dX8_share_111 ?_
                          refine g_i2l C dX8_share_112 ?_
                          refine g_lmul C dX8_share_113 ?_
                          refine g_lstore C dX8_share_114 (Nat.le_of_ble_eq_true rfl) rfl ?_
                          refine g_lv [some _, some _, some _, some _, some _, some _, some _, none, some _, none, some _] (gs_some (gs_some (gs_some (gs_some (gs_some (gs_some (gs_some (gs_none (gs_some (gs_none (gs_some gs_nil))))))))))) ?_
                          refine g_iinc (v := nI (i + 1)) C dX8_share_116 rfl (ginc _ 1) rfl ?_
                          refine g_lv [some _, some _, some _, some _, some _, some _, some _, none, some _, none, some _] (gs_some (gs_some (gs_some (gs_some (gs_some (gs_some (gs_some (gs_none (gs_some (gs_none (gs_some gs_nil))))))))))) ?_
                          refine g_goto C 74 dX8_share_119 (by decide) ?_
                          refine g_lv [some _, some _, some _, some _, some _, some _, some _, none, some _, none, some _] (gs_some (gs_some (gs_some (gs_some (gs_some (gs_some (gs_some (gs_none (gs_some (gs_none (gs_some gs_nil))))))))))) ?_
                          exact ih_74 (i + 1) _ _ (by omega) (by omega)
                    refine g_lv [some _, some _, some _, some _, some _, some _, some _, none, some _, none, some _] (gs_some (gs_some (gs_some (gs_some (gs_some (gs_some (gs_some (gs_none (gs_some (gs_none (gs_some gs_nil))))))))))) ?_
                    exact L_74 _ 0 _ _ (by omega) (Nat.lt_succ_self _)
                  · refine g_bipush (v := (-2)) C dX8_share_62 (by decide) ?_
                    exact g_iret C E dX8_share_64 rfl rfl ⟨_, rfl, (by repeat (first | (with_reducible assumption) | (with_reducible exact gSm_r _) | (with_reducible refine gSm_I (by omega) ?_) | (with_reducible refine gSm_L (by omega) ?_) | (with_reducible refine gSm_N (by omega) ?_) | (with_reducible refine gSm_G (by omega) ?_) | (with_reducible refine gSm_P ?_)))⟩
            · skip
              refine g_if_eq C 62 dX8_share_46 (by decide) (fun c_46 => ?_) (fun c_46 => ?_)
              · refine g_bipush (v := (-2)) C dX8_share_62 (by decide) ?_
                exact g_iret C E dX8_share_64 rfl rfl ⟨_, rfl, (by repeat (first | (with_reducible assumption) | (with_reducible exact gSm_r _) | (with_reducible refine gSm_I (by omega) ?_) | (with_reducible refine gSm_L (by omega) ?_) | (with_reducible refine gSm_N (by omega) ?_) | (with_reducible refine gSm_G (by omega) ?_) | (with_reducible refine gSm_P ?_)))⟩
              · exact absurd c_46 (by decide)
          · refine g_iconst (v := (-1)) C dX8_share_31 (by decide) ?_
            exact g_iret C E dX8_share_32 rfl rfl ⟨_, rfl, (by repeat (first | (with_reducible assumption) | (with_reducible exact gSm_r _) | (with_reducible refine gSm_I (by omega) ?_) | (with_reducible refine gSm_L (by omega) ?_) | (with_reducible refine gSm_N (by omega) ?_) | (with_reducible refine gSm_G (by omega) ?_) | (with_reducible refine gSm_P ?_)))⟩
    · skip
      refine g_if_eq C 31 dX8_share_18 (by decide) (fun c_18 => ?_) (fun c_18 => ?_)
      · refine g_iconst (v := (-1)) C dX8_share_31 (by decide) ?_
        exact g_iret C E dX8_share_32 rfl rfl ⟨_, rfl, (by repeat (first | (with_reducible assumption) | (with_reducible exact gSm_r _) | (with_reducible refine gSm_I (by omega) ?_) | (with_reducible refine gSm_L (by omega) ?_) | (with_reducible refine gSm_N (by omega) ?_) | (with_reducible refine gSm_G (by omega) ?_) | (with_reducible refine gSm_P ?_)))⟩
      · exact absurd c_18 (by decide)
set_option maxRecDepth 100000 in
set_option maxHeartbeats 4000000 in
theorem c_X8_free (l : Launch) (δ : GD) (σ : GS) (a0 a1 : Int32) {m : Nat} (hm : gN σ 0 = nI m) (h8 : m ≤ 8) (hC : ∀ u, u < m → ∃ n : Nat, 2 ≤ n ∧ n ≤ 4 ∧ gN σ (14 + u) = nI n) : gM l δ yX8_free cX8_free 4 (some .int) 4 113 [.ref (δ.2.2.1 0), .int a0, .int a1] σ (gPi (fun _ σ' => gSm σ σ')) := by
  refine g_of (lv0 := [some (.ref (δ.2.2.1 0)), some (.int a0), some (.int a1), none]) (by decide) rfl (Nat.le_of_ble_eq_true rfl) (fun Γ hl C E => ?_)
  subst hl
  have C : gC Γ δ cX8_free RX8 4 4 113 := C
  refine g_aload_n C dX8_free_0 rfl ?_
  refine g_iload_n C dX8_free_1 rfl ?_
  refine g_callVr C sV_X8_101 dX8_free_2 (c_X8_urnAt _ δ _ _ hm h8) ⟨by decide, by decide⟩ (wO_X δ _) rfl rfl rfl rfl (Nat.le_of_ble_eq_true rfl) (fun r_2 s_2 h_2 => ?_)
  obtain ⟨rfl, h_2⟩ := h_2
  rcases h_2 with ⟨rfl, h_2⟩ | ⟨u_2, hu_2, e_2, rfl⟩
  · skip
    refine g_astore_nN C dX8_free_5 (Nat.le_of_ble_eq_true rfl) rfl ?_
    refine g_lv [some _, some _, some _, some _] (gs_some (gs_some (gs_some (gs_some gs_nil)))) ?_
    refine g_aload_nN C dX8_free_6 rfl ?_
    refine g_ifnull_n C 20 dX8_free_7 (by decide) ?_
    refine g_iconst (v := (-1)) C dX8_free_20 (by decide) ?_
    exact g_iret C E dX8_free_21 rfl rfl ⟨_, rfl, (by repeat (first | (with_reducible assumption) | (with_reducible exact gSm_r _) | (with_reducible refine gSm_I (by omega) ?_) | (with_reducible refine gSm_L (by omega) ?_) | (with_reducible refine gSm_N (by omega) ?_) | (with_reducible refine gSm_G (by omega) ?_) | (with_reducible refine gSm_P ?_)))⟩
  · obtain ⟨n, h2, h4, hn⟩ := hC u_2 hu_2
    have hu8 : u_2 < 8 := by omega
    refine g_astore_n C dX8_free_5 (Nat.le_of_ble_eq_true rfl) rfl ?_
    refine g_lv [some _, some _, some _, some _] (gs_some (gs_some (gs_some (gs_some gs_nil)))) ?_
    refine g_aload_n C dX8_free_6 rfl ?_
    refine g_ifnull_r C dX8_free_7 ?_
    refine g_iload_n C dX8_free_10 rfl ?_
    refine g_iconst (v := 1) C dX8_free_11 (by decide) ?_
    refine g_icmp_lt C 20 dX8_free_12 (by decide) (fun c_12 => ?_) (fun c_12 => ?_)
    · refine g_iconst (v := (-1)) C dX8_free_20 (by decide) ?_
      exact g_iret C E dX8_free_21 rfl rfl ⟨_, rfl, (by repeat (first | (with_reducible assumption) | (with_reducible exact gSm_r _) | (with_reducible refine gSm_I (by omega) ?_) | (with_reducible refine gSm_L (by omega) ?_) | (with_reducible refine gSm_N (by omega) ?_) | (with_reducible refine gSm_G (by omega) ?_) | (with_reducible refine gSm_P ?_)))⟩
    · refine g_iload_n C dX8_free_15 rfl ?_
      refine g_iconst (v := 5) C dX8_free_16 (by decide) ?_
      refine g_icmp_le C 22 dX8_free_17 (by decide) (fun c_17 => ?_) (fun c_17 => ?_)
      · obtain ⟨k1, hk1, rfl⟩ := gIx_5 c_12 c_17
        refine g_aload_n C dX8_free_22 rfl ?_
        refine g_callVi C sV_X8_129 dX8_free_23 (c_X7_total _ δ _ hu8) ⟨by decide, by decide⟩ (wO_U δ _ hu8) rfl rfl rfl rfl (Nat.le_of_ble_eq_true rfl) (fun r_23 s_23 h_23 => ?_)
        obtain ⟨rfl, h_23⟩ := h_23
        refine g_if_ne C 32 dX8_free_26 (by decide) (fun c_26 => ?_) (fun c_26 => ?_)
        · refine g_aload_n C dX8_free_32 rfl ?_
          refine g_get C dX8_free_33 iwX8 rfl (wO_X δ _) 5 (Nat.le_of_ble_eq_true rfl) mW222 rfl rfl ?_
          refine g_aload_n C dX8_free_36 rfl ?_
          refine g_iload_n C dX8_free_37 rfl ?_
          refine g_aload_n C dX8_free_38 rfl ?_
          refine g_get C dX8_free_39 iwX8 rfl (wO_X δ _) 4 (Nat.le_of_ble_eq_true rfl) mW221 rfl rfl ?_
          refine g_callVi C sV_X8_240 dX8_free_42 (c_X3_areAlike _ δ _ hu8 (k := k1) (by omega) hn h4) ⟨by decide, by decide⟩ (wO_O δ _) rfl rfl rfl rfl (Nat.le_of_ble_eq_true rfl) (fun r_42 s_42 h_42 => ?_)
          have z_42 : gSm σ s_42 := gSm_t (by repeat (first | (with_reducible assumption) | (with_reducible exact gSm_r _) | (with_reducible refine gSm_I (by omega) ?_) | (with_reducible refine gSm_L (by omega) ?_) | (with_reducible refine gSm_N (by omega) ?_) | (with_reducible refine gSm_G (by omega) ?_) | (with_reducible refine gSm_P ?_))) h_42
          refine g_if_eq C 52 dX8_free_45 (by decide) (fun c_45 => ?_) (fun c_45 => ?_)
          · refine g_iconst (v := 0) C dX8_free_52 (by decide) ?_
            exact g_iret C E dX8_free_53 rfl rfl ⟨_, rfl, (by repeat (first | (with_reducible assumption) | (with_reducible exact gSm_r _) | (with_reducible refine gSm_I (by omega) ?_) | (with_reducible refine gSm_L (by omega) ?_) | (with_reducible refine gSm_N (by omega) ?_) | (with_reducible refine gSm_G (by omega) ?_) | (with_reducible refine gSm_P ?_)))⟩
          · refine g_iconst (v := 1) C dX8_free_48 (by decide) ?_
            refine g_goto C 53 dX8_free_49 (by decide) ?_
            exact g_iret C E dX8_free_53 rfl rfl ⟨_, rfl, (by repeat (first | (with_reducible assumption) | (with_reducible exact gSm_r _) | (with_reducible refine gSm_I (by omega) ?_) | (with_reducible refine gSm_L (by omega) ?_) | (with_reducible refine gSm_N (by omega) ?_) | (with_reducible refine gSm_G (by omega) ?_) | (with_reducible refine gSm_P ?_)))⟩
        · refine g_bipush (v := (-2)) C dX8_free_29 (by decide) ?_
          exact g_iret C E dX8_free_31 rfl rfl ⟨_, rfl, (by repeat (first | (with_reducible assumption) | (with_reducible exact gSm_r _) | (with_reducible refine gSm_I (by omega) ?_) | (with_reducible refine gSm_L (by omega) ?_) | (with_reducible refine gSm_N (by omega) ?_) | (with_reducible refine gSm_G (by omega) ?_) | (with_reducible refine gSm_P ?_)))⟩
      · refine g_iconst (v := (-1)) C dX8_free_20 (by decide) ?_
        exact g_iret C E dX8_free_21 rfl rfl ⟨_, rfl, (by repeat (first | (with_reducible assumption) | (with_reducible exact gSm_r _) | (with_reducible refine gSm_I (by omega) ?_) | (with_reducible refine gSm_L (by omega) ?_) | (with_reducible refine gSm_N (by omega) ?_) | (with_reducible refine gSm_G (by omega) ?_) | (with_reducible refine gSm_P ?_)))⟩
