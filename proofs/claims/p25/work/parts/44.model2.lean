theorem sS_X9_150 : gSS RX9 150 yX9_common cX9_common 10 (some .long) 2 := ⟨mW797, mW798, mW11, mW799, ⟨by decide +kernel, by decide +kernel⟩, by decide +kernel⟩
theorem sV_X9_107 : gSV RX9 107 yX9_addedSum cX9_addedSum 5 (some .int) 2 := ⟨mW731, mW733, mP19, mW11, mW734, ⟨by decide +kernel, by decide +kernel⟩, by decide +kernel⟩
theorem sV_X9_110 : gSV RX9 110 yX9_isEven cX9_isEven 4 (some .boolean) 1 := ⟨mW727, mW729, mP18, mW11, mW730, ⟨by decide +kernel, by decide +kernel⟩, by decide +kernel⟩
theorem sV_X9_113 : gSV RX9 113 yX9_balls cX9_balls 2 (some .int) 1 := ⟨mW723, mW725, mP17, mW11, mW726, ⟨by decide +kernel, by decide +kernel⟩, by decide +kernel⟩
theorem sS_X9_186 : gSS RX9 186 yX9_at cX9_at 2 (some .int) 2 := ⟨mW822, mW823, mW11, mW824, ⟨by decide +kernel, by decide +kernel⟩, by decide +kernel⟩
theorem sS_X9_197 : gSS RX9 197 yX9_more cX9_more 2 (some .int) 2 := ⟨mW833, mW834, mW11, mW835, ⟨by decide +kernel, by decide +kernel⟩, by decide +kernel⟩
theorem sV_X9_189 : gSV RX9 189 yX9_looksAt cX9_looksAt 6 none 3 := ⟨mW825, mW827, mP30, mW11, mW828, ⟨by decide +kernel, by decide +kernel⟩, by decide +kernel⟩
theorem sV_X9_193 : gSV RX9 193 yX9_spreads cX9_spreads 15 none 7 := ⟨mW829, mW831, mP31, mW11, mW832, ⟨by decide +kernel, by decide +kernel⟩, by decide +kernel⟩
theorem sV_X9_89 : gSV RX9 89 yX9_isUrn cX9_isUrn 2 (some .boolean) 1 := ⟨mW687, mW689, mP14, mW11, mW690, ⟨by decide +kernel, by decide +kernel⟩, by decide +kernel⟩
theorem sV_X9_200 : gSV RX9 200 yX9_isAsked cX9_isAsked 3 (some .boolean) 2 := ⟨mW809, mW811, mP27, mW11, mW812, ⟨by decide +kernel, by decide +kernel⟩, by decide +kernel⟩
theorem sV_X9_92 : gSV RX9 92 yX9_isColour cX9_isColour 3 (some .boolean) 2 := ⟨mW691, mW693, mP15, mW11, mW694, ⟨by decide +kernel, by decide +kernel⟩, by decide +kernel⟩
theorem sV_X9_203 : gSV RX9 203 yX9_evenFault cX9_evenFault 6 (some .int) 2 := ⟨mW813, mW815, mP28, mW11, mW816, ⟨by decide +kernel, by decide +kernel⟩, by decide +kernel⟩
theorem sV_X9_206 : gSV RX9 206 yX9_goes cX9_goes 13 none 6 := ⟨mW818, mW820, mP29, mW11, mW821, ⟨by decide +kernel, by decide +kernel⟩, by decide +kernel⟩
theorem sV_X9_174 : gSV RX9 174 yX9_tells cX9_tells 7 (some .int) 2 := ⟨mW801, mW803, mP26, mW11, mW804, ⟨by decide +kernel, by decide +kernel⟩, by decide +kernel⟩
theorem sV_X9_214 : gSV RX9 214 yX9_sum cX9_sum 5 (some .long) 1 := ⟨mW854, mW856, mP32, mW11, mW857, ⟨by decide +kernel, by decide +kernel⟩, by decide +kernel⟩
theorem sV_X9_117 : gSV RX9 117 yX9_isLike cX9_isLike 5 (some .boolean) 1 := ⟨mW735, mW737, mP20, mW11, mW738, ⟨by decide +kernel, by decide +kernel⟩, by decide +kernel⟩
theorem sV_X9_170 : gSV RX9 170 yX9_follows cX9_follows 18 (some .boolean) 3 := ⟨mW793, mW795, mP25, mW11, mW796, ⟨by decide +kernel, by decide +kernel⟩, by decide +kernel⟩
set_option maxRecDepth 100000 in
set_option maxHeartbeats 4000000 in
theorem c_X9_common (l : Launch) (δ : GD) (σ : GS) (a b : Int64) : gM l δ yX9_common cX9_common 10 (some .long) 0 0 [.long a, .long b] σ (gPl (fun r σ' => σ = σ' ∧ gCm a b r)) := by
  refine g_of (lv0 := [some (.long a), none, some (.long b), none, none, none, none, none, none, none]) (by decide) rfl (Nat.le_of_ble_eq_true rfl) (fun Γ hl C E => ?_)
  subst hl
  have C : gC Γ δ cX9_common RX9 10 0 0 := C
  refine g_lload_n C dX9_common_0 rfl ?_
  refine g_lstore C dX9_common_1 (Nat.le_of_ble_eq_true rfl) rfl ?_
  refine g_lv [some _, none, some _, none, some _, none, none, none, none, none] (gs_some (gs_none (gs_some (gs_none (gs_some (gs_none (gs_none (gs_none (gs_none (gs_none gs_nil)))))))))) ?_
  refine g_lload_n C dX9_common_3 rfl ?_
  refine g_lstore C dX9_common_4 (Nat.le_of_ble_eq_true rfl) rfl ?_
  refine g_lv [some _, none, some _, none, some _, none, some _, none, none, none] (gs_some (gs_none (gs_some (gs_none (gs_some (gs_none (gs_some (gs_none (gs_none (gs_none gs_nil)))))))))) ?_
  have L_6 : ∀ (nn : Nat) (x y : Int64) (hg : gCd x y a b), y.toInt.natAbs < nn → gW Γ δ σ 6 [some (.long a), none, some (.long b), none, some (.long x), none, some (.long y), none, none, none] [] := by
    intro nn
    induction nn with
    | zero =>
      intro x y hg hm_6
      exact absurd hm_6 (Nat.not_lt_zero _)
    | succ nn ih_6 =>
      intro x y hg hm_6
      refine g_lload C dX9_common_6 rfl ?_
      refine g_lconst (v := 0) C dX9_common_8 (by decide) ?_
      refine g_lcmp C dX9_common_9 ?_
      refine g_if_eq C 31 dX9_common_10 (by decide) (fun c_10 => ?_) (fun c_10 => ?_)
      · rw [lg_cmp_eq] at c_10
        refine g_lload C dX9_common_31 rfl ?_
        exact g_lret C E dX9_common_33 rfl ⟨_, rfl, ⟨rfl, gCm_e (c_10 ▸ hg)⟩⟩
      · rw [lg_cmp_eq] at c_10
        refine g_lload C dX9_common_13 rfl ?_
        refine g_lload C dX9_common_15 rfl ?_
        refine g_lrem C dX9_common_17 c_10 ?_
        refine g_lstore C dX9_common_18 (Nat.le_of_ble_eq_true rfl) rfl ?_
        refine g_lv [some _, none, some _, none, some _, none, some _, none, some _, none] (gs_some (gs_none (gs_some (gs_none (gs_some (gs_none (gs_some (gs_none (gs_some (gs_none gs_nil)))))))))) ?_
        refine g_lload C dX9_common_20 rfl ?_
        refine g_lstore C dX9_common_22 (Nat.le_of_ble_eq_true rfl) rfl ?_
        refine g_lv [some _, none, some _, none, some _, none, some _, none, some _, none] (gs_some (gs_none (gs_some (gs_none (gs_some (gs_none (gs_some (gs_none (gs_some (gs_none gs_nil)))))))))) ?_
        refine g_lload C dX9_common_24 rfl ?_
        refine g_lstore C dX9_common_26 (Nat.le_of_ble_eq_true rfl) rfl ?_
        refine g_lv [some _, none, some _, none, some _, none, some _, none, some _, none] (gs_some (gs_none (gs_some (gs_none (gs_some (gs_none (gs_some (gs_none (gs_some (gs_none gs_nil)))))))))) ?_
        refine g_goto C 6 dX9_common_28 (by decide) ?_
        refine g_lv [some _, none, some _, none, some _, none, some _, none, none, none] (gs_some (gs_none (gs_some (gs_none (gs_some (gs_none (gs_some (gs_none (gs_none (gs_none gs_nil)))))))))) ?_
        exact ih_6 _ _ (gCd_s hg) (by have := gCd_m x c_10; omega)
  refine g_lv [some _, none, some _, none, some _, none, some _, none, none, none] (gs_some (gs_none (gs_some (gs_none (gs_some (gs_none (gs_some (gs_none (gs_none (gs_none gs_nil)))))))))) ?_
  exact L_6 _ _ _ (gCd_r a b) (Nat.lt_succ_self _)
set_option maxRecDepth 100000 in
set_option maxHeartbeats 4000000 in
theorem c_X9_tells (l : Launch) (δ : GD) (σ : GS) (a b : Int64) (hb : ¬ b = 0) : gM l δ yX9_tells cX9_tells 7 (some .int) 1 29 [.ref (δ.2.2.1 1), .long a, .long b] σ (gPi (fun x σ' => x = 0 ∧ gSm σ σ')) := by
  refine g_of (lv0 := [some (.ref (δ.2.2.1 1)), some (.long a), none, some (.long b), none, none, none]) (by decide) rfl (Nat.le_of_ble_eq_true rfl) (fun Γ hl C E => ?_)
  subst hl
  have C : gC Γ δ cX9_tells RX9 7 1 29 := C
  refine g_lload_n C dX9_tells_0 rfl ?_
  refine g_lload_n C dX9_tells_1 rfl ?_
  refine g_callSl C sS_X9_150 dX9_tells_2 (c_X9_common _ δ _ _ _) ⟨by decide, by decide⟩ rfl rfl rfl (Nat.le_of_ble_eq_true rfl) (fun r_2 s_2 h_2 => ?_)
  obtain ⟨rfl, h_2⟩ := h_2
  refine g_lstore C dX9_tells_5 (Nat.le_of_ble_eq_true rfl) rfl ?_
  refine g_lv [some _, some _, none, some _, none, some _, none] (gs_some (gs_some (gs_none (gs_some (gs_none (gs_some (gs_none gs_nil))))))) ?_
  refine g_aload_n C dX9_tells_7 rfl ?_
  refine g_lconst (v := 0) C dX9_tells_8 (by decide) ?_
  refine g_put C tyX9 dX9_tells_9 iwX9 tyX9_ok nmX9 rfl (wO_M δ _) 9 (Nat.le_of_ble_eq_true rfl) mW581 rfl rfl rfl rfl rfl (Nat.le_of_ble_eq_true rfl) (pG_10 δ _ _) ?_
  refine g_aload_n C dX9_tells_12 rfl ?_
  refine g_lload_n C dX9_tells_13 rfl ?_
  refine g_lload C dX9_tells_14 rfl ?_
  refine g_ldiv C dX9_tells_16 (h_2.2.1 hb).1 ?_
  refine g_put C tyX9 dX9_tells_17 iwX9 tyX9_ok nmX9 rfl (wO_M δ _) 10 (Nat.le_of_ble_eq_true rfl) mW582 rfl rfl rfl rfl rfl (Nat.le_of_ble_eq_true rfl) (pG_11 δ _ _) ?_
  refine g_aload_n C dX9_tells_20 rfl ?_
  refine g_lload_n C dX9_tells_21 rfl ?_
  refine g_lload C dX9_tells_22 rfl ?_
  refine g_ldiv C dX9_tells_24 (h_2.2.1 hb).1 ?_
  refine g_put C tyX9 dX9_tells_25 iwX9 tyX9_ok nmX9 rfl (wO_M δ _) 11 (Nat.le_of_ble_eq_true rfl) mW583 rfl rfl rfl rfl rfl (Nat.le_of_ble_eq_true rfl) (pG_12 δ _ _) ?_
  refine g_iconst (v := 0) C dX9_tells_28 (by decide) ?_
  exact g_iret C E dX9_tells_29 rfl rfl ⟨_, rfl, ⟨rfl, gSm_D (h_2.2.1 hb).2 (gSm_G (by omega) (gSm_G (by omega) (gSm_r _)))⟩⟩
set_option maxRecDepth 100000 in
set_option maxHeartbeats 4000000 in
theorem c_X9_balls (l : Launch) (δ : GD) (σ : GS) {u : Nat} (hu : u < 8)  : gM l δ yX9_balls cX9_balls 2 (some .int) 0 0 [.ref (δ.2.2.1 1), .int (nI u)] σ (gPi (fun x σ' => σ = σ' ∧ x = mB σ u 0 + mB σ u 1 + mB σ u 2 + mB σ u 3)) := by
  refine g_of (lv0 := [some (.ref (δ.2.2.1 1)), some (.int (nI u))]) (by decide) rfl (Nat.le_of_ble_eq_true rfl) (fun Γ hl C E => ?_)
  subst hl
  have C : gC Γ δ cX9_balls RX9 2 0 0 := C
  refine g_aload_n C dX9_balls_0 rfl ?_
  refine g_get C dX9_balls_1 iwX9 rfl (wO_M δ _) 6 (Nat.le_of_ble_eq_true rfl) mW578 rfl rfl ?_
  refine g_bipush (v := 25) C dX9_balls_4 (by decide) ?_
  refine g_iload_n C dX9_balls_6 rfl ?_
  refine g_imul C dX9_balls_7 ?_
  refine g_ialdN C dX9_balls_8 (k := (25 * u)) (q := 53) (by decide) rfl (by first | rfl | assumption | (simp only [glit, nI_add, pk_mul]; done) | (simp only [glit, nI_add, pk_mul]; congr 1; omega) | (simp only [*, glit, nI_add, pk_mul]; congr 1; omega)) (show (25 * u) < gLenI 53 from Nat.lt_of_lt_of_eq (show (25 * u) < 202 by omega) rfl) ?_
  refine g_aload_n C dX9_balls_9 rfl ?_
  refine g_get C dX9_balls_10 iwX9 rfl (wO_M δ _) 6 (Nat.le_of_ble_eq_true rfl) mW578 rfl rfl ?_
  refine g_bipush (v := 25) C dX9_balls_13 (by decide) ?_
  refine g_iload_n C dX9_balls_15 rfl ?_
  refine g_imul C dX9_balls_16 ?_
  refine g_iconst (v := 1) C dX9_balls_17 (by decide) ?_
  refine g_iadd C dX9_balls_18 ?_
  refine g_ialdN C dX9_balls_19 (k := ((25 * u) + 1)) (q := 53) (by decide) rfl (by first | rfl | assumption | (simp only [glit, nI_add, pk_mul]; done) | (simp only [glit, nI_add, pk_mul]; congr 1; omega) | (simp only [*, glit, nI_add, pk_mul]; congr 1; omega)) (show ((25 * u) + 1) < gLenI 53 from Nat.lt_of_lt_of_eq (show ((25 * u) + 1) < 202 by omega) rfl) ?_
  refine g_iadd C dX9_balls_20 ?_
  refine g_aload_n C dX9_balls_21 rfl ?_
  refine g_get C dX9_balls_22 iwX9 rfl (wO_M δ _) 6 (Nat.le_of_ble_eq_true rfl) mW578 rfl rfl ?_
  refine g_bipush (v := 25) C dX9_balls_25 (by decide) ?_
  refine g_iload_n C dX9_balls_27 rfl ?_
  refine g_imul C dX9_balls_28 ?_
  refine g_iconst (v := 2) C dX9_balls_29 (by decide) ?_
  refine g_iadd C dX9_balls_30 ?_
  refine g_ialdN C dX9_balls_31 (k := ((25 * u) + 2)) (q := 53) (by decide) rfl (by first | rfl | assumption | (simp only [glit, nI_add, pk_mul]; done) | (simp only [glit, nI_add, pk_mul]; congr 1; omega) | (simp only [*, glit, nI_add, pk_mul]; congr 1; omega)) (show ((25 * u) + 2) < gLenI 53 from Nat.lt_of_lt_of_eq (show ((25 * u) + 2) < 202 by omega) rfl) ?_
  refine g_iadd C dX9_balls_32 ?_
  refine g_aload_n C dX9_balls_33 rfl ?_
  refine g_get C dX9_balls_34 iwX9 rfl (wO_M δ _) 6 (Nat.le_of_ble_eq_true rfl) mW578 rfl rfl ?_
  refine g_bipush (v := 25) C dX9_balls_37 (by decide) ?_
  refine g_iload_n C dX9_balls_39 rfl ?_
  refine g_imul C dX9_balls_40 ?_
  refine g_iconst (v := 3) C dX9_balls_41 (by decide) ?_
  refine g_iadd C dX9_balls_42 ?_
  refine g_ialdN C dX9_balls_43 (k := ((25 * u) + 3)) (q := 53) (by decide) rfl (by first | rfl | assumption | (simp only [glit, nI_add, pk_mul]; done) | (simp only [glit, nI_add, pk_mul]; congr 1; omega) | (simp only [*, glit, nI_add, pk_mul]; congr 1; omega)) (show ((25 * u) + 3) < gLenI 53 from Nat.lt_of_lt_of_eq (show ((25 * u) + 3) < 202 by omega) rfl) ?_
  refine g_iadd C dX9_balls_44 ?_
  exact g_iret C E dX9_balls_45 rfl rfl ⟨_, rfl, ⟨rfl, rfl⟩⟩
set_option maxRecDepth 100000 in
set_option maxHeartbeats 4000000 in
theorem c_X9_addedSum (l : Launch) (δ : GD) (σ : GS) {u : Nat} (hu : u < 8) {c : Nat} (hc : c < 4) : gM l δ yX9_addedSum cX9_addedSum 5 (some .int) 0 0 [.ref (δ.2.2.1 1), .int (nI u), .int (nI c)] σ (gPi (fun x σ' => σ = σ' ∧ x = gGr (mT σ u) c 4)) := by
  refine g_of (lv0 := [some (.ref (δ.2.2.1 1)), some (.int (nI u)), some (.int (nI c)), none, none]) (by decide) rfl (Nat.le_of_ble_eq_true rfl) (fun Γ hl C E => ?_)
  subst hl
  have C : gC Γ δ cX9_addedSum RX9 5 0 0 := C
  refine g_iconst (v := 0) C dX9_addedSum_0 (by decide) ?_
  refine g_istore_n C dX9_addedSum_1 (Nat.le_of_ble_eq_true rfl) rfl ?_
  refine g_lv [some _, some _, some _, some _, none] (gs_some (gs_some (gs_some (gs_some (gs_none gs_nil))))) ?_
  refine g_iconst (v := 0) C dX9_addedSum_2 (by decide) ?_
  refine g_istore C dX9_addedSum_3 (Nat.le_of_ble_eq_true rfl) rfl ?_
  refine g_lv [some _, some _, some _, some _, some _] (gs_some (gs_some (gs_some (gs_some (gs_some gs_nil))))) ?_
  have L_5 : ∀ (nn : Nat) (d : Nat) (hd : d ≤ 4), 4 - d < nn → gW Γ δ σ 5 [some (.ref (δ.2.2.1 1)), some (.int (nI u)), some (.int (nI c)), some (.int (gGr (mT σ u) c d)), some (.int (nI d))] [] := by
    intro nn
    induction nn with
    | zero =>
      intro d hd hm_5
      exact absurd hm_5 (Nat.not_lt_zero _)
    | succ nn ih_5 =>
      intro d hd hm_5
      refine g_iload C dX9_addedSum_5 rfl ?_
      refine g_iconst (v := 4) C dX9_addedSum_7 (by decide) ?_
      refine g_icmp_ge C 38 dX9_addedSum_8 (by decide) (fun c_8 => ?_) (fun c_8 => ?_)
      · have k_8 := gle c_8 (a := 4) (b := d) (by first | rfl | assumption | (simp only [glit, nI_add, pk_mul]; done) | (simp only [glit, nI_add, pk_mul]; congr 1; omega) | (simp only [*, glit, nI_add, pk_mul]; congr 1; omega)) (by first | rfl | assumption | (simp only [glit, nI_add, pk_mul]; done) | (simp only [glit, nI_add, pk_mul]; congr 1; omega) | (simp only [*, glit, nI_add, pk_mul]; congr 1; omega)) (by omega) (by omega)
        have ek : d = 4 := by omega
        subst ek
        refine g_iload_n C dX9_addedSum_38 rfl ?_
        exact g_iret C E dX9_addedSum_39 rfl rfl ⟨_, rfl, ⟨rfl, rfl⟩⟩
      · have k_8 := gnle c_8 (a := 4) (b := d) (by first | rfl | assumption | (simp only [glit, nI_add, pk_mul]; done) | (simp only [glit, nI_add, pk_mul]; congr 1; omega) | (simp only [*, glit, nI_add, pk_mul]; congr 1; omega)) (by first | rfl | assumption | (simp only [glit, nI_add, pk_mul]; done) | (simp only [glit, nI_add, pk_mul]; congr 1; omega) | (simp only [*, glit, nI_add, pk_mul]; congr 1; omega)) (by omega) (by omega)
        refine g_iload_n C dX9_addedSum_11 rfl ?_
        refine g_aload_n C dX9_addedSum_12 rfl ?_
        refine g_get C dX9_addedSum_13 iwX9 rfl (wO_M δ _) 6 (Nat.le_of_ble_eq_true rfl) mW578 rfl rfl ?_
        refine g_bipush (v := 25) C dX9_addedSum_16 (by decide) ?_
        refine g_iload_n C dX9_addedSum_18 rfl ?_
        refine g_imul C dX9_addedSum_19 ?_
        refine g_iconst (v := 4) C dX9_addedSum_20 (by decide) ?_
        refine g_iadd C dX9_addedSum_21 ?_
        refine g_iconst (v := 4) C dX9_addedSum_22 (by decide) ?_
        refine g_iload_n C dX9_addedSum_23 rfl ?_
        refine g_imul C dX9_addedSum_24 ?_
        refine g_iadd C dX9_addedSum_25 ?_
        refine g_iload C dX9_addedSum_26 rfl ?_
        refine g_iadd C dX9_addedSum_28 ?_
        refine g_ialdN C dX9_addedSum_29 (k := (25 * u + 4 + (c * 4 + d))) (q := 53) (by decide) rfl (by first | rfl | assumption | (simp only [glit, nI_add, pk_mul]; done) | (simp only [glit, nI_add, pk_mul]; congr 1; omega) | (simp only [*, glit, nI_add, pk_mul]; congr 1; omega)) (show (25 * u + 4 + (c * 4 + d)) < gLenI 53 from Nat.lt_of_lt_of_eq (show (25 * u + 4 + (c * 4 + d)) < 202 by omega) rfl) ?_
        refine g_iadd C dX9_addedSum_30 ?_
        refine g_istore_n C dX9_addedSum_31 (Nat.le_of_ble_eq_true rfl) rfl ?_
        refine g_lv [some _, some _, some _, some _, some _] (gs_some (gs_some (gs_some (gs_some (gs_some gs_nil))))) ?_
        refine g_iinc (v := nI (d + 1)) C dX9_addedSum_32 rfl (ginc _ 1) rfl ?_
        refine g_lv [some _, some _, some _, some _, some _] (gs_some (gs_some (gs_some (gs_some (gs_some gs_nil))))) ?_
        refine g_goto C 5 dX9_addedSum_35 (by decide) ?_
        refine g_lv [some _, some _, some _, some _, some _] (gs_some (gs_some (gs_some (gs_some (gs_some gs_nil))))) ?_
        exact ih_5 (d + 1) (by omega) (by omega)
  refine g_lv [some _, some _, some _, some _, some _] (gs_some (gs_some (gs_some (gs_some (gs_some gs_nil))))) ?_
  exact L_5 _ 0 (by omega) (Nat.lt_succ_self _)
set_option maxRecDepth 100000 in
set_option maxHeartbeats 4000000 in
theorem c_X9_isEven (l : Launch) (δ : GD) (σ : GS) {u : Nat} (hu : u < 8) {n : Nat} (hn : gI σ 52 u = nI n) (h4 : n ≤ 4) : gM l δ yX9_isEven cX9_isEven 4 (some .boolean) 1 24 [.ref (δ.2.2.1 1), .int (nI u)] σ (gPi (fun x σ' => σ = σ' ∧ gAcc x (gEv4 (mT σ u) n))) := by
  refine g_of (lv0 := [some (.ref (δ.2.2.1 1)), some (.int (nI u)), none, none]) (by decide) rfl (Nat.le_of_ble_eq_true rfl) (fun Γ hl C E => ?_)
  subst hl
  have C : gC Γ δ cX9_isEven RX9 4 1 24 := C
  refine g_iconst (v := 1) C dX9_isEven_0 (by decide) ?_
  refine g_istore_n C dX9_isEven_1 (Nat.le_of_ble_eq_true rfl) rfl ?_
  refine g_lv [some _, some _, some _, none] (gs_some (gs_some (gs_some (gs_none gs_nil)))) ?_
  refine g_iconst (v := 1) C dX9_isEven_2 (by decide) ?_
  refine g_istore_n C dX9_isEven_3 (Nat.le_of_ble_eq_true rfl) rfl ?_
  refine g_lv [some _, some _, some _, some _] (gs_some (gs_some (gs_some (gs_some gs_nil)))) ?_
  have L_4 : ∀ (nn : Nat) (c : Nat) (a : Int32) (h1 : 1 ≤ c) (hc : c ≤ n ∨ c = 1) (ha : gAcc a (∀ c1, c1 < c → 1 ≤ c1 → gGr (mT σ u) c1 4 = gGr (mT σ u) 0 4)), 5 - c < nn → gW Γ δ σ 4 [some (.ref (δ.2.2.1 1)), some (.int (nI u)), some (.int a), some (.int (nI c))] [] := by
    intro nn
    induction nn with
    | zero =>
      intro c a h1 hc ha hm_4
      exact absurd hm_4 (Nat.not_lt_zero _)
    | succ nn ih_4 =>
      intro c a h1 hc ha hm_4
      refine g_iload_n C dX9_isEven_4 rfl ?_
      refine g_aload_n C dX9_isEven_5 rfl ?_
      refine g_get C dX9_isEven_6 iwX9 rfl (wO_M δ _) 5 (Nat.le_of_ble_eq_true rfl) mW577 rfl rfl ?_
      refine g_iload_n C dX9_isEven_9 rfl ?_
      refine g_ialdN C dX9_isEven_10 (k := u) (q := 52) (by decide) rfl (by first | rfl | assumption | (simp only [glit, nI_add, pk_mul]; done) | (simp only [glit, nI_add, pk_mul]; congr 1; omega) | (simp only [*, glit, nI_add, pk_mul]; congr 1; omega)) (show u < gLenI 52 from Nat.lt_of_lt_of_eq (show u < 8 by omega) rfl) ?_
      rw [hn]
      refine g_icmp_ge C 45 dX9_isEven_11 (by decide) (fun c_11 => ?_) (fun c_11 => ?_)
      · have k_11 := gle c_11 (a := n) (b := c) (by first | rfl | assumption | (simp only [glit, nI_add, pk_mul]; done) | (simp only [glit, nI_add, pk_mul]; congr 1; omega) | (simp only [*, glit, nI_add, pk_mul]; congr 1; omega)) (by first | rfl | assumption | (simp only [glit, nI_add, pk_mul]; done) | (simp only [glit, nI_add, pk_mul]; congr 1; omega) | (simp only [*, glit, nI_add, pk_mul]; congr 1; omega)) (by omega) (by omega)
        refine g_iload_n C dX9_isEven_45 rfl ?_
        exact g_iret C E dX9_isEven_46 rfl (gAcc_nb ha) ⟨_, rfl, ⟨rfl, gAcc_i ha ⟨fun z c1 q1 q2 => z c1 (by omega) q2, fun z c1 q1 q2 => z c1 (by omega) q2⟩⟩⟩
      · have k_11 := gnle c_11 (a := n) (b := c) (by first | rfl | assumption | (simp only [glit, nI_add, pk_mul]; done) | (simp only [glit, nI_add, pk_mul]; congr 1; omega) | (simp only [*, glit, nI_add, pk_mul]; congr 1; omega)) (by first | rfl | assumption | (simp only [glit, nI_add, pk_mul]; done) | (simp only [glit, nI_add, pk_mul]; congr 1; omega) | (simp only [*, glit, nI_add, pk_mul]; congr 1; omega)) (by omega) (by omega)
        refine g_iload_n C dX9_isEven_14 rfl ?_
        refine g_if_eq C 37 dX9_isEven_15 (by decide) (fun c_15 => ?_) (fun c_15 => ?_)
        · refine g_iconst (v := 0) C dX9_isEven_37 (by decide) ?_
          refine g_istore_n C dX9_isEven_38 (Nat.le_of_ble_eq_true rfl) rfl ?_
          refine g_lv [some _, some _, some _, some _] (gs_some (gs_some (gs_some (gs_some gs_nil)))) ?_
          refine g_iinc (v := nI (c + 1)) C dX9_isEven_39 rfl (ginc _ 1) rfl ?_
          refine g_lv [some _, some _, some _, some _] (gs_some (gs_some (gs_some (gs_some gs_nil)))) ?_
          refine g_goto C 4 dX9_isEven_42 (by decide) ?_
          refine g_lv [some _, some _, some _, some _] (gs_some (gs_some (gs_some (gs_some gs_nil)))) ?_
          exact ih_4 (c + 1) _ (by omega) (by omega) (by first | exact gAcc_0 ha c_15 (fun z c1 q1 q2 => z c1 (by omega) q2) | exact gAcc_f (fun z => c_30 (h_21.trans ((z c (by omega) h1).trans h_27.symm))) | exact gAcc_1 ha c_15 (fun z c1 q1 q2 => (Nat.lt_succ_iff_lt_or_eq.mp q1).elim (fun q => z c1 q q2) (fun q => by rw [q]; exact h_21.symm.trans (c_30.trans h_27)))) (by omega)
        · refine g_aload_n C dX9_isEven_18 rfl ?_
          refine g_iload_n C dX9_isEven_19 rfl ?_
          refine g_iload_n C dX9_isEven_20 rfl ?_
          refine g_callVi C sV_X9_107 dX9_isEven_21 (c_X9_addedSum _ δ _ hu (c := c) (by omega)) ⟨by decide, by decide⟩ (wO_M δ _) rfl rfl rfl rfl (Nat.le_of_ble_eq_true rfl) (fun r_21 s_21 h_21 => ?_)
          obtain ⟨rfl, h_21⟩ := h_21
          refine g_aload_n C dX9_isEven_24 rfl ?_
          refine g_iload_n C dX9_isEven_25 rfl ?_
          refine g_iconst (v := 0) C dX9_isEven_26 (by decide) ?_
          refine g_callVi C sV_X9_107 dX9_isEven_27 (c_X9_addedSum _ δ _ hu (c := 0) (by omega)) ⟨by decide, by decide⟩ (wO_M δ _) rfl rfl rfl rfl (Nat.le_of_ble_eq_true rfl) (fun r_27 s_27 h_27 => ?_)
          obtain ⟨rfl, h_27⟩ := h_27
          refine g_icmp_ne C 37 dX9_isEven_30 (by decide) (fun c_30 => ?_) (fun c_30 => ?_)
          · refine g_iconst (v := 0) C dX9_isEven_37 (by decide) ?_
            refine g_istore_n C dX9_isEven_38 (Nat.le_of_ble_eq_true rfl) rfl ?_
            refine g_lv [some _, some _, some _, some _] (gs_some (gs_some (gs_some (gs_some gs_nil)))) ?_
            refine g_iinc (v := nI (c + 1)) C dX9_isEven_39 rfl (ginc _ 1) rfl ?_
            refine g_lv [some _, some _, some _, some _] (gs_some (gs_some (gs_some (gs_some gs_nil)))) ?_
            refine g_goto C 4 dX9_isEven_42 (by decide) ?_
            refine g_lv [some _, some _, some _, some _] (gs_some (gs_some (gs_some (gs_some gs_nil)))) ?_
            exact ih_4 (c + 1) _ (by omega) (by omega) (by first | exact gAcc_0 ha c_15 (fun z c1 q1 q2 => z c1 (by omega) q2) | exact gAcc_f (fun z => c_30 (h_21.trans ((z c (by omega) h1).trans h_27.symm))) | exact gAcc_1 ha c_15 (fun z c1 q1 q2 => (Nat.lt_succ_iff_lt_or_eq.mp q1).elim (fun q => z c1 q q2) (fun q => by rw [q]; exact h_21.symm.trans (c_30.trans h_27)))) (by omega)
          · refine g_iconst (v := 1) C dX9_isEven_33 (by decide) ?_
            refine g_goto C 38 dX9_isEven_34 (by decide) ?_
            refine g_istore_n C dX9_isEven_38 (Nat.le_of_ble_eq_true rfl) rfl ?_
            refine g_lv [some _, some _, some _, some _] (gs_some (gs_some (gs_some (gs_some gs_nil)))) ?_
            refine g_iinc (v := nI (c + 1)) C dX9_isEven_39 rfl (ginc _ 1) rfl ?_
            refine g_lv [some _, some _, some _, some _] (gs_some (gs_some (gs_some (gs_some gs_nil)))) ?_
            refine g_goto C 4 dX9_isEven_42 (by decide) ?_
            refine g_lv [some _, some _, some _, some _] (gs_some (gs_some (gs_some (gs_some gs_nil)))) ?_
            exact ih_4 (c + 1) _ (by omega) (by omega) (by first | exact gAcc_0 ha c_15 (fun z c1 q1 q2 => z c1 (by omega) q2) | exact gAcc_f (fun z => c_30 (h_21.trans ((z c (by omega) h1).trans h_27.symm))) | exact gAcc_1 ha c_15 (fun z c1 q1 q2 => (Nat.lt_succ_iff_lt_or_eq.mp q1).elim (fun q => z c1 q q2) (fun q => by rw [q]; exact h_21.symm.trans (c_30.trans h_27)))) (by omega)
  refine g_lv [some _, some _, some _, some _] (gs_some (gs_some (gs_some (gs_some gs_nil)))) ?_
  exact L_4 _ 1 1 (by omega) (by omega) (gAcc_t (fun c1 h1 h2 => absurd h2 (by omega))) (Nat.lt_succ_self _)
set_option maxRecDepth 100000 in
set_option maxHeartbeats 4000000 in
theorem c_X9_isLike (l : Launch) (δ : GD) (σ : GS) {u : Nat} (hu : u < 8) {n : Nat} (hn : gI σ 52 u = nI n) (h4 : n ≤ 4) : gM l δ yX9_isLike cX9_isLike 5 (some .boolean) 2 47 [.ref (δ.2.2.1 1), .int (nI u)] σ (gPi (fun x σ' => σ = σ' ∧ gAcc x (gLk4 (mT σ u) n))) := by
  refine g_of (lv0 := [some (.ref (δ.2.2.1 1)), some (.int (nI u)), none, none, none]) (by decide) rfl (Nat.le_of_ble_eq_true rfl) (fun Γ hl C E => ?_)
  subst hl
  have C : gC Γ δ cX9_isLike RX9 5 2 47 := C
  have J_22 : ∀ (a : Int32) (ha : gAcc a (gEv4 (mT σ u) n ∧ 0 ≤ gGr (mT σ u) 0 4)), gW Γ δ σ 22 [some (.ref (δ.2.2.1 1)), some (.int (nI u)), none, none, none] [.int a] := by
    intro a ha
    refine g_istore_n C dX9_isLike_22 (Nat.le_of_ble_eq_true rfl) rfl ?_
    refine g_lv [some _, some _, some _, none, none] (gs_some (gs_some (gs_some (gs_none (gs_none gs_nil))))) ?_
    refine g_iconst (v := 0) C dX9_isLike_23 (by decide) ?_
    refine g_istore_n C dX9_isLike_24 (Nat.le_of_ble_eq_true rfl) rfl ?_
    refine g_lv [some _, some _, some _, some _, none] (gs_some (gs_some (gs_some (gs_some (gs_none gs_nil))))) ?_
    have L_25 : ∀ (nn : Nat) (c : Nat) (a : Int32) (hc : c ≤ 4) (ha : gAcc a ((gEv4 (mT σ u) n ∧ 0 ≤ gGr (mT σ u) 0 4) ∧ (∀ c1, c1 < c → ∀ d1, d1 < 4 → (c1 = d1 ∨ mT σ u (c1 * 4 + d1) = 0)))), 4 - c < nn → gW Γ δ σ 25 [some (.ref (δ.2.2.1 1)), some (.int (nI u)), some (.int a), some (.int (nI c)), none] [] := by
      intro nn
      induction nn with
      | zero =>
        intro c a hc ha hm_25
        exact absurd hm_25 (Nat.not_lt_zero _)
      | succ nn ih_25 =>
        intro c a hc ha hm_25
        refine g_iload_n C dX9_isLike_25 rfl ?_
        refine g_iconst (v := 4) C dX9_isLike_26 (by decide) ?_
        refine g_icmp_ge C 88 dX9_isLike_27 (by decide) (fun c_27 => ?_) (fun c_27 => ?_)
        · have k_27 := gle c_27 (a := 4) (b := c) (by first | rfl | assumption | (simp only [glit, nI_add, pk_mul]; done) | (simp only [glit, nI_add, pk_mul]; congr 1; omega) | (simp only [*, glit, nI_add, pk_mul]; congr 1; omega)) (by first | rfl | assumption | (simp only [glit, nI_add, pk_mul]; done) | (simp only [glit, nI_add, pk_mul]; congr 1; omega) | (simp only [*, glit, nI_add, pk_mul]; congr 1; omega)) (by omega) (by omega)
          have ek : c = 4 := by omega
          subst ek
          refine g_iload_n C dX9_isLike_88 rfl ?_
          exact g_iret C E dX9_isLike_89 rfl (gAcc_nb ha) ⟨_, rfl, ⟨rfl, ha⟩⟩
        · have k_27 := gnle c_27 (a := 4) (b := c) (by first | rfl | assumption | (simp only [glit, nI_add, pk_mul]; done) | (simp only [glit, nI_add, pk_mul]; congr 1; omega) | (simp only [*, glit, nI_add, pk_mul]; congr 1; omega)) (by first | rfl | assumption | (simp only [glit, nI_add, pk_mul]; done) | (simp only [glit, nI_add, pk_mul]; congr 1; omega) | (simp only [*, glit, nI_add, pk_mul]; congr 1; omega)) (by omega) (by omega)
          refine g_iconst (v := 0) C dX9_isLike_30 (by decide) ?_
          refine g_istore C dX9_isLike_31 (Nat.le_of_ble_eq_true rfl) rfl ?_
          refine g_lv [some _, some _, some _, some _, some _] (gs_some (gs_some (gs_some (gs_some (gs_some gs_nil))))) ?_
          have L_33 : ∀ (nn : Nat) (d : Nat) (b : Int32) (hd : d ≤ 4) (hb : gAcc b (((gEv4 (mT σ u) n ∧ 0 ≤ gGr (mT σ u) 0 4) ∧ (∀ c1, c1 < c → ∀ d1, d1 < 4 → (c1 = d1 ∨ mT σ u (c1 * 4 + d1) = 0))) ∧ ∀ d1, d1 < d → (c = d1 ∨ mT σ u (c * 4 + d1) = 0))), 4 - d < nn → gW Γ δ σ 33 [some (.ref (δ.2.2.1 1)), some (.int (nI u)), some (.int b), some (.int (nI c)), some (.int (nI d))] [] := by
            intro nn
            induction nn with
            | zero =>
              intro d b hd hb hm_33
              exact absurd hm_33 (Nat.not_lt_zero _)
            | succ nn ih_33 =>
              intro d b hd hb hm_33
              refine g_iload C dX9_isLike_33 rfl ?_
              refine g_iconst (v := 4) C dX9_isLike_35 (by decide) ?_
              refine g_icmp_ge C 82 dX9_isLike_36 (by decide) (fun c_36 => ?_) (fun c_36 => ?_)
              · have k_36 := gle c_36 (a := 4) (b := d) (by first | rfl | assumption | (simp only [glit, nI_add, pk_mul]; done) | (simp only [glit, nI_add, pk_mul]; congr 1; omega) | (simp only [*, glit, nI_add, pk_mul]; congr 1; omega)) (by first | rfl | assumption | (simp only [glit, nI_add, pk_mul]; done) | (simp only [glit, nI_add, pk_mul]; congr 1; omega) | (simp only [*, glit, nI_add, pk_mul]; congr 1; omega)) (by omega) (by omega)
                have ek : d = 4 := by omega
                subst ek
                refine g_iinc (v := nI (c + 1)) C dX9_isLike_82 rfl (ginc _ 1) rfl ?_
                refine g_lv [some _, some _, some _, some _, some _] (gs_some (gs_some (gs_some (gs_some (gs_some gs_nil))))) ?_
                refine g_goto C 25 dX9_isLike_85 (by decide) ?_
                refine g_lv [some _, some _, some _, some _, none] (gs_some (gs_some (gs_some (gs_some (gs_none gs_nil))))) ?_
                exact ih_25 (c + 1) _ (by omega) (gAcc_i hb ⟨fun z => ⟨z.1.1, fun c1 q d1 q1 => (Nat.lt_succ_iff_lt_or_eq.mp q).elim (fun q => z.1.2 c1 q d1 q1) (fun q => by rw [q]; exact z.2 d1 (by omega))⟩, fun z => ⟨⟨z.1, fun c1 q d1 q1 => z.2 c1 (by omega) d1 q1⟩, fun d1 q1 => z.2 c (by omega) d1 (by omega)⟩⟩) (by omega)
              · have k_36 := gnle c_36 (a := 4) (b := d) (by first | rfl | assumption | (simp only [glit, nI_add, pk_mul]; done) | (simp only [glit, nI_add, pk_mul]; congr 1; omega) | (simp only [*, glit, nI_add, pk_mul]; congr 1; omega)) (by first | rfl | assumption | (simp only [glit, nI_add, pk_mul]; done) | (simp only [glit, nI_add, pk_mul]; congr 1; omega) | (simp only [*, glit, nI_add, pk_mul]; congr 1; omega)) (by omega) (by omega)
                refine g_iload_n C dX9_isLike_39 rfl ?_
                refine g_if_eq C 74 dX9_isLike_40 (by decide) (fun c_40 => ?_) (fun c_40 => ?_)
                · refine g_iconst (v := 0) C dX9_isLike_74 (by decide) ?_
                  refine g_istore_n C dX9_isLike_75 (Nat.le_of_ble_eq_true rfl) rfl ?_
                  refine g_lv [some _, some _, some _, some _, some _] (gs_some (gs_some (gs_some (gs_some (gs_some gs_nil))))) ?_
                  refine g_iinc (v := nI (d + 1)) C dX9_isLike_76 rfl (ginc _ 1) rfl ?_
                  refine g_lv [some _, some _, some _, some _, some _] (gs_some (gs_some (gs_some (gs_some (gs_some gs_nil))))) ?_
                  refine g_goto C 33 dX9_isLike_79 (by decide) ?_
                  refine g_lv [some _, some _, some _, some _, some _] (gs_some (gs_some (gs_some (gs_some (gs_some gs_nil))))) ?_
                  exact ih_33 (d + 1) _ (by omega) (by first | exact gAcc_0 hb c_40 (fun z => ⟨z.1, fun d1 q => z.2 d1 (by omega)⟩) | exact gAcc_f (fun z => (z.2 d (by omega)).elim k_46 c_67) | exact gAcc_1 hb c_40 (fun z => ⟨z.1, fun d1 q => (Nat.lt_succ_iff_lt_or_eq.mp q).elim (fun q => z.2 d1 q) (fun q => by rw [q]; first | exact Or.inl k_46 | exact Or.inr c_67)⟩)) (by omega)
                · refine g_iload_n C dX9_isLike_43 rfl ?_
                  refine g_iload C dX9_isLike_44 rfl ?_
                  refine g_icmp_eq C 70 dX9_isLike_46 (by decide) (fun c_46 => ?_) (fun c_46 => ?_)
                  · have k_46 := geq c_46 (a := c) (b := d) (by first | rfl | assumption | (simp only [glit, nI_add, pk_mul]; done) | (simp only [glit, nI_add, pk_mul]; congr 1; omega) | (simp only [*, glit, nI_add, pk_mul]; congr 1; omega)) (by first | rfl | assumption | (simp only [glit, nI_add, pk_mul]; done) | (simp only [glit, nI_add, pk_mul]; congr 1; omega) | (simp only [*, glit, nI_add, pk_mul]; congr 1; omega)) (by omega) (by omega)
                    refine g_iconst (v := 1) C dX9_isLike_70 (by decide) ?_
                    refine g_goto C 75 dX9_isLike_71 (by decide) ?_
                    refine g_istore_n C dX9_isLike_75 (Nat.le_of_ble_eq_true rfl) rfl ?_
                    refine g_lv [some _, some _, some _, some _, some _] (gs_some (gs_some (gs_some (gs_some (gs_some gs_nil))))) ?_
                    refine g_iinc (v := nI (d + 1)) C dX9_isLike_76 rfl (ginc _ 1) rfl ?_
                    refine g_lv [some _, some _, some _, some _, some _] (gs_some (gs_some (gs_some (gs_some (gs_some gs_nil))))) ?_
                    refine g_goto C 33 dX9_isLike_79 (by decide) ?_
                    refine g_lv [some _, some _, some _, some _, some _] (gs_some (gs_some (gs_some (gs_some (gs_some gs_nil))))) ?_
                    exact ih_33 (d + 1) _ (by omega) (by first | exact gAcc_0 hb c_40 (fun z => ⟨z.1, fun d1 q => z.2 d1 (by omega)⟩) | exact gAcc_f (fun z => (z.2 d (by omega)).elim k_46 c_67) | exact gAcc_1 hb c_40 (fun z => ⟨z.1, fun d1 q => (Nat.lt_succ_iff_lt_or_eq.mp q).elim (fun q => z.2 d1 q) (fun q => by rw [q]; first | exact Or.inl k_46 | exact Or.inr c_67)⟩)) (by omega)
                  · have k_46 := gne c_46 (a := c) (b := d) (by first | rfl | assumption | (simp only [glit, nI_add, pk_mul]; done) | (simp only [glit, nI_add, pk_mul]; congr 1; omega) | (simp only [*, glit, nI_add, pk_mul]; congr 1; omega)) (by first | rfl | assumption | (simp only [glit, nI_add, pk_mul]; done) | (simp only [glit, nI_add, pk_mul]; congr 1; omega) | (simp only [*, glit, nI_add, pk_mul]; congr 1; omega)) (by omega) (by omega)
                    refine g_aload_n C dX9_isLike_49 rfl ?_
                    refine g_get C dX9_isLike_50 iwX9 rfl (wO_M δ _) 6 (Nat.le_of_ble_eq_true rfl) mW578 rfl rfl ?_
                    refine g_bipush (v := 25) C dX9_isLike_53 (by decide) ?_
                    refine g_iload_n C dX9_isLike_55 rfl ?_
                    refine g_imul C dX9_isLike_56 ?_
                    refine g_iconst (v := 4) C dX9_isLike_57 (by decide) ?_
                    refine g_iadd C dX9_isLike_58 ?_
                    refine g_iconst (v := 4) C dX9_isLike_59 (by decide) ?_
                    refine g_iload_n C dX9_isLike_60 rfl ?_
                    refine g_imul C dX9_isLike_61 ?_
                    refine g_iadd C dX9_isLike_62 ?_
                    refine g_iload C dX9_isLike_63 rfl ?_
                    refine g_iadd C dX9_isLike_65 ?_
                    refine g_ialdN C dX9_isLike_66 (k := (25 * u + 4 + (c * 4 + d))) (q := 53) (by decide) rfl (by first | rfl | assumption | (simp only [glit, nI_add, pk_mul]; done) | (simp only [glit, nI_add, pk_mul]; congr 1; omega) | (simp only [*, glit, nI_add, pk_mul]; congr 1; omega)) (show (25 * u + 4 + (c * 4 + d)) < gLenI 53 from Nat.lt_of_lt_of_eq (show (25 * u + 4 + (c * 4 + d)) < 202 by omega) rfl) ?_
                    refine g_if_ne C 74 dX9_isLike_67 (by decide) (fun c_67 => ?_) (fun c_67 => ?_)
                    · refine g_iconst (v := 0) C dX9_isLike_74 (by decide) ?_
                      refine g_istore_n C dX9_isLike_75 (Nat.le_of_ble_eq_true rfl) rfl ?_
                      refine g_lv [some _, some _, some _, some _, some _] (gs_some (gs_some (gs_some (gs_some (gs_some gs_nil))))) ?_
                      refine g_iinc (v := nI (d + 1)) C dX9_isLike_76 rfl (ginc _ 1) rfl ?_
                      refine g_lv [some _, some _, some _, some _, some _] (gs_some (gs_some (gs_some (gs_some (gs_some gs_nil))))) ?_
                      refine g_goto C 33 dX9_isLike_79 (by decide) ?_
                      refine g_lv [some _, some _, some _, some _, some _] (gs_some (gs_some (gs_some (gs_some (gs_some gs_nil))))) ?_
                      exact ih_33 (d + 1) _ (by omega) (by first | exact gAcc_0 hb c_40 (fun z => ⟨z.1, fun d1 q => z.2 d1 (by omega)⟩) | exact gAcc_f (fun z => (z.2 d (by omega)).elim k_46 c_67) | exact gAcc_1 hb c_40 (fun z => ⟨z.1, fun d1 q => (Nat.lt_succ_iff_lt_or_eq.mp q).elim (fun q => z.2 d1 q) (fun q => by rw [q]; first | exact Or.inl k_46 | exact Or.inr c_67)⟩)) (by omega)
                    · refine g_iconst (v := 1) C dX9_isLike_70 (by decide) ?_
                      refine g_goto C 75 dX9_isLike_71 (by decide) ?_
                      refine g_istore_n C dX9_isLike_75 (Nat.le_of_ble_eq_true rfl) rfl ?_
                      refine g_lv [some _, some _, some _, some _, some _] (gs_some (gs_some (gs_some (gs_some (gs_some gs_nil))))) ?_
                      refine g_iinc (v := nI (d + 1)) C dX9_isLike_76 rfl (ginc _ 1) rfl ?_
                      refine g_lv [some _, some _, some _, some _, some _] (gs_some (gs_some (gs_some (gs_some (gs_some gs_nil))))) ?_
                      refine g_goto C 33 dX9_isLike_79 (by decide) ?_
                      refine g_lv [some _, some _, some _, some _, some _] (gs_some (gs_some (gs_some (gs_some (gs_some gs_nil))))) ?_
                      exact ih_33 (d + 1) _ (by omega) (by first | exact gAcc_0 hb c_40 (fun z => ⟨z.1, fun d1 q => z.2 d1 (by omega)⟩) | exact gAcc_f (fun z => (z.2 d (by omega)).elim k_46 c_67) | exact gAcc_1 hb c_40 (fun z => ⟨z.1, fun d1 q => (Nat.lt_succ_iff_lt_or_eq.mp q).elim (fun q => z.2 d1 q) (fun q => by rw [q]; first | exact Or.inl k_46 | exact Or.inr c_67)⟩)) (by omega)
          refine g_lv [some _, some _, some _, some _, some _] (gs_some (gs_some (gs_some (gs_some (gs_some gs_nil))))) ?_
          exact L_33 _ 0 _ (by omega) (gAcc_i ha ⟨fun z => ⟨z, fun d1 q => absurd q (Nat.not_lt_zero _)⟩, fun z => z.1⟩) (Nat.lt_succ_self _)
    refine g_lv [some _, some _, some _, some _, none] (gs_some (gs_some (gs_some (gs_some (gs_none gs_nil))))) ?_
    exact L_25 _ 0 _ (by omega) (gAcc_i ha ⟨fun z => ⟨z, fun c1 q => absurd q (Nat.not_lt_zero _)⟩, fun z => z.1⟩) (Nat.lt_succ_self _)
  refine g_aload_n C dX9_isLike_0 rfl ?_
  refine g_iload_n C dX9_isLike_1 rfl ?_
  refine g_callVi C sV_X9_110 dX9_isLike_2 (c_X9_isEven _ δ _ hu hn h4) ⟨by decide, by decide⟩ (wO_M δ _) rfl rfl rfl rfl (Nat.le_of_ble_eq_true rfl) (fun r_2 s_2 h_2 => ?_)
  obtain ⟨rfl, h_2⟩ := h_2
  refine g_if_eq C 21 dX9_isLike_5 (by decide) (fun c_5 => ?_) (fun c_5 => ?_)
  · refine g_iconst (v := 0) C dX9_isLike_21 (by decide) ?_
    refine g_lv [some _, some _, none, none, none] (gs_some (gs_some (gs_none (gs_none (gs_none gs_nil))))) ?_
    exact J_22 _ (by first | exact gAcc_0 h_2 c_5 (fun z => z.1) | exact gAcc_f (fun z => Int32.not_lt.mpr z.2 (by rw [← h_11]; exact c_14)) | exact gAcc_1 h_2 c_5 (fun z => ⟨z, by rw [← h_11]; exact Int32.not_lt.mp c_14⟩))
  · refine g_aload_n C dX9_isLike_8 rfl ?_
    refine g_iload_n C dX9_isLike_9 rfl ?_
    refine g_iconst (v := 0) C dX9_isLike_10 (by decide) ?_
    refine g_callVi C sV_X9_107 dX9_isLike_11 (c_X9_addedSum _ δ _ hu (c := 0) (by omega)) ⟨by decide, by decide⟩ (wO_M δ _) rfl rfl rfl rfl (Nat.le_of_ble_eq_true rfl) (fun r_11 s_11 h_11 => ?_)
    obtain ⟨rfl, h_11⟩ := h_11
    refine g_if_lt C 21 dX9_isLike_14 (by decide) (fun c_14 => ?_) (fun c_14 => ?_)
    · refine g_iconst (v := 0) C dX9_isLike_21 (by decide) ?_
      refine g_lv [some _, some _, none, none, none] (gs_some (gs_some (gs_none (gs_none (gs_none gs_nil))))) ?_
      exact J_22 _ (by first | exact gAcc_0 h_2 c_5 (fun z => z.1) | exact gAcc_f (fun z => Int32.not_lt.mpr z.2 (by rw [← h_11]; exact c_14)) | exact gAcc_1 h_2 c_5 (fun z => ⟨z, by rw [← h_11]; exact Int32.not_lt.mp c_14⟩))
    · refine g_iconst (v := 1) C dX9_isLike_17 (by decide) ?_
      refine g_goto C 22 dX9_isLike_18 (by decide) ?_
      refine g_lv [some _, some _, none, none, none] (gs_some (gs_some (gs_none (gs_none (gs_none gs_nil))))) ?_
      exact J_22 _ (by first | exact gAcc_0 h_2 c_5 (fun z => z.1) | exact gAcc_f (fun z => Int32.not_lt.mpr z.2 (by rw [← h_11]; exact c_14)) | exact gAcc_1 h_2 c_5 (fun z => ⟨z, by rw [← h_11]; exact Int32.not_lt.mp c_14⟩))
set_option maxRecDepth 100000 in
set_option maxHeartbeats 4000000 in
theorem c_X9_canDraw (l : Launch) (δ : GD) (σ : GS) {u : Nat} (hu : u < 8) {c : Nat} (hc : c < 4) : gM l δ yX9_canDraw cX9_canDraw 5 (some .boolean) 1 25 [.ref (δ.2.2.1 1), .int (nI u), .int (nI c)] σ (gPi (fun x σ' => σ = σ' ∧ gAcc x (gLet (mB σ u) (mT σ u) c 4))) := by
  refine g_of (lv0 := [some (.ref (δ.2.2.1 1)), some (.int (nI u)), some (.int (nI c)), none, none]) (by decide) rfl (Nat.le_of_ble_eq_true rfl) (fun Γ hl C E => ?_)
  subst hl
  have C : gC Γ δ cX9_canDraw RX9 5 1 25 := C
  have J_19 : ∀ (a : Int32) (ha : gAcc a (0 < mB σ u c)), gW Γ δ σ 19 [some (.ref (δ.2.2.1 1)), some (.int (nI u)), some (.int (nI c)), none, none] [.int a] := by
    intro a ha
    refine g_istore_n C dX9_canDraw_19 (Nat.le_of_ble_eq_true rfl) rfl ?_
    refine g_lv [some _, some _, some _, some _, none] (gs_some (gs_some (gs_some (gs_some (gs_none gs_nil))))) ?_
    refine g_iconst (v := 0) C dX9_canDraw_20 (by decide) ?_
    refine g_istore C dX9_canDraw_21 (Nat.le_of_ble_eq_true rfl) rfl ?_
    refine g_lv [some _, some _, some _, some _, some _] (gs_some (gs_some (gs_some (gs_some (gs_some gs_nil))))) ?_
    have L_23 : ∀ (nn : Nat) (d : Nat) (a : Int32) (hd : d ≤ 4) (ha : gAcc a (gLet (mB σ u) (mT σ u) c d)), 4 - d < nn → gW Γ δ σ 23 [some (.ref (δ.2.2.1 1)), some (.int (nI u)), some (.int (nI c)), some (.int a), some (.int (nI d))] [] := by
      intro nn
      induction nn with
      | zero =>
        intro d a hd ha hm_23
        exact absurd hm_23 (Nat.not_lt_zero _)
      | succ nn ih_23 =>
        intro d a hd ha hm_23
        refine g_iload C dX9_canDraw_23 rfl ?_
        refine g_iconst (v := 4) C dX9_canDraw_25 (by decide) ?_
        refine g_icmp_ge C 87 dX9_canDraw_26 (by decide) (fun c_26 => ?_) (fun c_26 => ?_)
        · have k_26 := gle c_26 (a := 4) (b := d) (by first | rfl | assumption | (simp only [glit, nI_add, pk_mul]; done) | (simp only [glit, nI_add, pk_mul]; congr 1; omega) | (simp only [*, glit, nI_add, pk_mul]; congr 1; omega)) (by first | rfl | assumption | (simp only [glit, nI_add, pk_mul]; done) | (simp only [glit, nI_add, pk_mul]; congr 1; omega) | (simp only [*, glit, nI_add, pk_mul]; congr 1; omega)) (by omega) (by omega)
          have ek : d = 4 := by omega
          subst ek
          refine g_iload_n C dX9_canDraw_87 rfl ?_
          exact g_iret C E dX9_canDraw_88 rfl (gAcc_nb ha) ⟨_, rfl, ⟨rfl, ha⟩⟩
        · have k_26 := gnle c_26 (a := 4) (b := d) (by first | rfl | assumption | (simp only [glit, nI_add, pk_mul]; done) | (simp only [glit, nI_add, pk_mul]; congr 1; omega) | (simp only [*, glit, nI_add, pk_mul]; congr 1; omega)) (by first | rfl | assumption | (simp only [glit, nI_add, pk_mul]; done) | (simp only [glit, nI_add, pk_mul]; congr 1; omega) | (simp only [*, glit, nI_add, pk_mul]; congr 1; omega)) (by omega) (by omega)
          refine g_iload_n C dX9_canDraw_29 rfl ?_
          refine g_if_eq C 79 dX9_canDraw_30 (by decide) (fun c_30 => ?_) (fun c_30 => ?_)
          · refine g_iconst (v := 0) C dX9_canDraw_79 (by decide) ?_
            refine g_istore_n C dX9_canDraw_80 (Nat.le_of_ble_eq_true rfl) rfl ?_
            refine g_lv [some _, some _, some _, some _, some _] (gs_some (gs_some (gs_some (gs_some (gs_some gs_nil))))) ?_
            refine g_iinc (v := nI (d + 1)) C dX9_canDraw_81 rfl (ginc _ 1) rfl ?_
            refine g_lv [some _, some _, some _, some _, some _] (gs_some (gs_some (gs_some (gs_some (gs_some gs_nil))))) ?_
            refine g_goto C 23 dX9_canDraw_84 (by decide) ?_
            refine g_lv [some _, some _, some _, some _, some _] (gs_some (gs_some (gs_some (gs_some (gs_some gs_nil))))) ?_
            exact ih_23 (d + 1) _ (by omega) (by first | exact gAcc_0 ha c_30 (fun z => (gLet_s.mp z).1) | exact gAcc_f (fun z => h_69 (gLet_s.mp z).2) | exact gAcc_1 ha c_30 (fun z => gLet_s.mpr ⟨z, h_69⟩)) (by omega)
          · refine g_aload_n C dX9_canDraw_33 rfl ?_
            refine g_get C dX9_canDraw_34 iwX9 rfl (wO_M δ _) 6 (Nat.le_of_ble_eq_true rfl) mW578 rfl rfl ?_
            refine g_bipush (v := 25) C dX9_canDraw_37 (by decide) ?_
            refine g_iload_n C dX9_canDraw_39 rfl ?_
            refine g_imul C dX9_canDraw_40 ?_
            refine g_iload C dX9_canDraw_41 rfl ?_
            refine g_iadd C dX9_canDraw_43 ?_
            refine g_ialdN C dX9_canDraw_44 (k := ((25 * u) + d)) (q := 53) (by decide) rfl (by first | rfl | assumption | (simp only [glit, nI_add, pk_mul]; done) | (simp only [glit, nI_add, pk_mul]; congr 1; omega) | (simp only [*, glit, nI_add, pk_mul]; congr 1; omega)) (show ((25 * u) + d) < gLenI 53 from Nat.lt_of_lt_of_eq (show ((25 * u) + d) < 202 by omega) rfl) ?_
            refine g_aload_n C dX9_canDraw_45 rfl ?_
            refine g_get C dX9_canDraw_46 iwX9 rfl (wO_M δ _) 6 (Nat.le_of_ble_eq_true rfl) mW578 rfl rfl ?_
            refine g_bipush (v := 25) C dX9_canDraw_49 (by decide) ?_
            refine g_iload_n C dX9_canDraw_51 rfl ?_
            refine g_imul C dX9_canDraw_52 ?_
            refine g_iconst (v := 4) C dX9_canDraw_53 (by decide) ?_
            refine g_iadd C dX9_canDraw_54 ?_
            refine g_iconst (v := 4) C dX9_canDraw_55 (by decide) ?_
            refine g_iload_n C dX9_canDraw_56 rfl ?_
            refine g_imul C dX9_canDraw_57 ?_
            refine g_iadd C dX9_canDraw_58 ?_
            refine g_iload C dX9_canDraw_59 rfl ?_
            refine g_iadd C dX9_canDraw_61 ?_
            refine g_ialdN C dX9_canDraw_62 (k := (25 * u + 4 + (c * 4 + d))) (q := 53) (by decide) rfl (by first | rfl | assumption | (simp only [glit, nI_add, pk_mul]; done) | (simp only [glit, nI_add, pk_mul]; congr 1; omega) | (simp only [*, glit, nI_add, pk_mul]; congr 1; omega)) (show (25 * u + 4 + (c * 4 + d)) < gLenI 53 from Nat.lt_of_lt_of_eq (show (25 * u + 4 + (c * 4 + d)) < 202 by omega) rfl) ?_
            refine g_iadd C dX9_canDraw_63 ?_
            refine g_i2l C dX9_canDraw_64 ?_
            refine g_lconst (v := 0) C dX9_canDraw_65 (by decide) ?_
            refine g_ldc2 C dX9_canDraw_66 mW696 ?_
            refine g_callSi C sS_X9_62 dX9_canDraw_69 (c_X9_in _ δ _ _ _ _) ⟨by decide, by decide⟩ rfl rfl rfl (Nat.le_of_ble_eq_true rfl) (fun r_69 s_69 h_69 => ?_)
            obtain ⟨rfl, h_69⟩ := h_69
            rw [gin200] at h_69
            rcases h_69 with ⟨rfl, h_69⟩ | ⟨rfl, h_69⟩
            · skip
              refine g_if_eq C 79 dX9_canDraw_72 (by decide) (fun c_72 => ?_) (fun c_72 => ?_)
              · exact absurd c_72 (by decide)
              · refine g_iconst (v := 1) C dX9_canDraw_75 (by decide) ?_
                refine g_goto C 80 dX9_canDraw_76 (by decide) ?_
                refine g_istore_n C dX9_canDraw_80 (Nat.le_of_ble_eq_true rfl) rfl ?_
                refine g_lv [some _, some _, some _, some _, some _] (gs_some (gs_some (gs_some (gs_some (gs_some gs_nil))))) ?_
                refine g_iinc (v := nI (d + 1)) C dX9_canDraw_81 rfl (ginc _ 1) rfl ?_
                refine g_lv [some _, some _, some _, some _, some _] (gs_some (gs_some (gs_some (gs_some (gs_some gs_nil))))) ?_
                refine g_goto C 23 dX9_canDraw_84 (by decide) ?_
                refine g_lv [some _, some _, some _, some _, some _] (gs_some (gs_some (gs_some (gs_some (gs_some gs_nil))))) ?_
                exact ih_23 (d + 1) _ (by omega) (by first | exact gAcc_0 ha c_30 (fun z => (gLet_s.mp z).1) | exact gAcc_f (fun z => h_69 (gLet_s.mp z).2) | exact gAcc_1 ha c_30 (fun z => gLet_s.mpr ⟨z, h_69⟩)) (by omega)
            · skip
              refine g_if_eq C 79 dX9_canDraw_72 (by decide) (fun c_72 => ?_) (fun c_72 => ?_)
              · refine g_iconst (v := 0) C dX9_canDraw_79 (by decide) ?_
                refine g_istore_n C dX9_canDraw_80 (Nat.le_of_ble_eq_true rfl) rfl ?_
                refine g_lv [some _, some _, some _, some _, some _] (gs_some (gs_some (gs_some (gs_some (gs_some gs_nil))))) ?_
                refine g_iinc (v := nI (d + 1)) C dX9_canDraw_81 rfl (ginc _ 1) rfl ?_
                refine g_lv [some _, some _, some _, some _, some _] (gs_some (gs_some (gs_some (gs_some (gs_some gs_nil))))) ?_
                refine g_goto C 23 dX9_canDraw_84 (by decide) ?_
                refine g_lv [some _, some _, some _, some _, some _] (gs_some (gs_some (gs_some (gs_some (gs_some gs_nil))))) ?_
                exact ih_23 (d + 1) _ (by omega) (by first | exact gAcc_0 ha c_30 (fun z => (gLet_s.mp z).1) | exact gAcc_f (fun z => h_69 (gLet_s.mp z).2) | exact gAcc_1 ha c_30 (fun z => gLet_s.mpr ⟨z, h_69⟩)) (by omega)
              · exact absurd c_72 (by decide)
    refine g_lv [some _, some _, some _, some _, some _] (gs_some (gs_some (gs_some (gs_some (gs_some gs_nil))))) ?_
    exact L_23 _ 0 _ (by omega) (gAcc_i ha gLet_0.symm) (Nat.lt_succ_self _)
  refine g_aload_n C dX9_canDraw_0 rfl ?_
  refine g_get C dX9_canDraw_1 iwX9 rfl (wO_M δ _) 6 (Nat.le_of_ble_eq_true rfl) mW578 rfl rfl ?_
  refine g_bipush (v := 25) C dX9_canDraw_4 (by decide) ?_
  refine g_iload_n C dX9_canDraw_6 rfl ?_
  refine g_imul C dX9_canDraw_7 ?_
  refine g_iload_n C dX9_canDraw_8 rfl ?_
  refine g_iadd C dX9_canDraw_9 ?_
  refine g_ialdN C dX9_canDraw_10 (k := ((25 * u) + c)) (q := 53) (by decide) rfl (by first | rfl | assumption | (simp only [glit, nI_add, pk_mul]; done) | (simp only [glit, nI_add, pk_mul]; congr 1; omega) | (simp only [*, glit, nI_add, pk_mul]; congr 1; omega)) (show ((25 * u) + c) < gLenI 53 from Nat.lt_of_lt_of_eq (show ((25 * u) + c) < 202 by omega) rfl) ?_
  refine g_if_le C 18 dX9_canDraw_11 (by decide) (fun c_11 => ?_) (fun c_11 => ?_)
  · refine g_iconst (v := 0) C dX9_canDraw_18 (by decide) ?_
    refine g_lv [some _, some _, some _, none, none] (gs_some (gs_some (gs_some (gs_none (gs_none gs_nil))))) ?_
    exact J_19 _ (by first | exact gAcc_t (Int32.not_le.mp c_11) | exact gAcc_f (Int32.not_lt.mpr c_11))
  · refine g_iconst (v := 1) C dX9_canDraw_14 (by decide) ?_
    refine g_goto C 19 dX9_canDraw_15 (by decide) ?_
    refine g_lv [some _, some _, some _, none, none] (gs_some (gs_some (gs_some (gs_none (gs_none gs_nil))))) ?_
    exact J_19 _ (by first | exact gAcc_t (Int32.not_le.mp c_11) | exact gAcc_f (Int32.not_lt.mpr c_11))
set_option maxRecDepth 100000 in
set_option maxHeartbeats 4000000 in
theorem c_X9_follows (l : Launch) (δ : GD) (σ : GS) {u : Nat} (hu : u < 8) (hB : gB2 (mB σ u)) {k w : Nat} (hk : k ≤ 12) (hw : w < 2147483648) : gM l δ yX9_follows cX9_follows 18 (some .boolean) 1 29 [.ref (δ.2.2.1 1), .int (nI u), .int (nI k), .int (nI w)] σ (gPi (fun _ σ' => gSm σ σ' ∧ ¬ gG σ' 14 = 0)) := by
  refine g_of (lv0 := [some (.ref (δ.2.2.1 1)), some (.int (nI u)), some (.int (nI k)), some (.int (nI w)), none, none, none, none, none, none, none, none, none, none, none, none, none, none]) (by decide) rfl (Nat.le_of_ble_eq_true rfl) (fun Γ hl C E => ?_)
  subst hl
  have C : gC Γ δ cX9_follows RX9 18 1 29 := C
  refine g_aload_n C dX9_follows_0 rfl ?_
  refine g_lconst (v := 1) C dX9_follows_1 (by decide) ?_
  refine g_put C tyX9 dX9_follows_2 iwX9 tyX9_ok nmX9 rfl (wO_M δ _) 17 (Nat.le_of_ble_eq_true rfl) mW589 rfl rfl rfl rfl rfl (Nat.le_of_ble_eq_true rfl) (pG_13 δ _ _) ?_
  refine g_aload_n C dX9_follows_5 rfl ?_
  refine g_lconst (v := 1) C dX9_follows_6 (by decide) ?_
  refine g_put C tyX9 dX9_follows_7 iwX9 tyX9_ok nmX9 rfl (wO_M δ _) 18 (Nat.le_of_ble_eq_true rfl) mW590 rfl rfl rfl rfl rfl (Nat.le_of_ble_eq_true rfl) (pG_14 δ _ _) ?_
  refine g_iconst (v := 0) C dX9_follows_10 (by decide) ?_
  refine g_istore C dX9_follows_11 (Nat.le_of_ble_eq_true rfl) rfl ?_
  refine g_lv [some _, some _, some _, some _, some _, none, none, none, none, none, none, none, none, none, none, none, none, none] (gs_some (gs_some (gs_some (gs_some (gs_some (gs_none (gs_none (gs_none (gs_none (gs_none (gs_none (gs_none (gs_none (gs_none (gs_none (gs_none (gs_none (gs_none gs_nil)))))))))))))))))) ?_
  have L_13 : ∀ (nn : Nat) (d : Nat) (f : Nat → Int32) (hd : d ≤ 4) (hf : ∀ j, j < d → f j = mB σ u j), 4 - d < nn → gW Γ δ (uI (uG (uG σ 13 1) 14 1) 57 f) 13 [some (.ref (δ.2.2.1 1)), some (.int (nI u)), some (.int (nI k)), some (.int (nI w)), some (.int (nI d)), none, none, none, none, none, none, none, none, none, none, none, none, none] [] := by
    intro nn
    induction nn with
    | zero =>
      intro d f hd hf hm_13
      exact absurd hm_13 (Nat.not_lt_zero _)
    | succ nn ih_13 =>
      intro d f hd hf hm_13
      refine g_iload C dX9_follows_13 rfl ?_
      refine g_iconst (v := 4) C dX9_follows_15 (by decide) ?_
      refine g_icmp_ge C 44 dX9_follows_16 (by decide) (fun c_16 => ?_) (fun c_16 => ?_)
      · have k_16 := gle c_16 (a := 4) (b := d) (by first | rfl | assumption | (simp only [glit, nI_add, pk_mul]; done) | (simp only [glit, nI_add, pk_mul]; congr 1; omega) | (simp only [*, glit, nI_add, pk_mul]; congr 1; omega)) (by first | rfl | assumption | (simp only [glit, nI_add, pk_mul]; done) | (simp only [glit, nI_add, pk_mul]; congr 1; omega) | (simp only [*, glit, nI_add, pk_mul]; congr 1; omega)) (by omega) (by omega)
        have ek : d = 4 := by omega
        subst ek
        have hb0 : gB2 f := fun j hj => by rw [hf j hj]; exact hB j hj
        refine g_iload_n C dX9_follows_44 rfl ?_
        refine g_istore C dX9_follows_45 (Nat.le_of_ble_eq_true rfl) rfl ?_
        refine g_lv [some _, some _, some _, some _, some _, none, none, none, none, none, none, none, none, none, none, none, none, none] (gs_some (gs_some (gs_some (gs_some (gs_some (gs_none (gs_none (gs_none (gs_none (gs_none (gs_none (gs_none (gs_none (gs_none (gs_none (gs_none (gs_none (gs_none gs_nil)))))))))))))))))) ?_
        refine g_iconst (v := 0) C dX9_follows_47 (by decide) ?_
        refine g_istore C dX9_follows_48 (Nat.le_of_ble_eq_true rfl) rfl ?_
        refine g_lv [some _, some _, some _, some _, some _, some _, none, none, none, none, none, none, none, none, none, none, none, none] (gs_some (gs_some (gs_some (gs_some (gs_some (gs_some (gs_none (gs_none (gs_none (gs_none (gs_none (gs_none (gs_none (gs_none (gs_none (gs_none (gs_none (gs_none gs_nil)))))))))))))))))) ?_
        have L_50 : ∀ (nn : Nat) (i : Nat) (s1 : GS) (hi : i ≤ k) (hs : gSm σ s1) (hb1 : gB2 (gI s1 57)) (hu1 : 1 ≤ gG s1 13) (hd1 : 1 ≤ gG s1 14), k - i < nn → gW Γ δ s1 50 [some (.ref (δ.2.2.1 1)), some (.int (nI u)), some (.int (nI k)), some (.int (nI w)), some (.int (nI (w / 4 ^ i))), some (.int (nI i)), none, none, none, none, none, none, none, none, none, none, none, none] [] := by
          intro nn
          induction nn with
          | zero =>
            intro i s1 hi hs hb1 hu1 hd1 hm_50
            exact absurd hm_50 (Nat.not_lt_zero _)
          | succ nn ih_50 =>
            intro i s1 hi hs hb1 hu1 hd1 hm_50
            have hl := gpowle w i
            have hd4 : w / 4 ^ i % 4 < 4 := Nat.mod_lt _ (by decide)
            refine g_iload C dX9_follows_50 rfl ?_
            refine g_iload_n C dX9_follows_52 rfl ?_
            refine g_icmp_ge C 352 dX9_follows_53 (by decide) (fun c_53 => ?_) (fun c_53 => ?_)
            · have k_53 := gle c_53 (a := k) (b := i) (by first | rfl | assumption | (simp only [glit, nI_add, pk_mul]; done) | (simp only [glit, nI_add, pk_mul]; congr 1; omega) | (simp only [*, glit, nI_add, pk_mul]; congr 1; omega)) (by first | rfl | assumption | (simp only [glit, nI_add, pk_mul]; done) | (simp only [glit, nI_add, pk_mul]; congr 1; omega) | (simp only [*, glit, nI_add, pk_mul]; congr 1; omega)) (by omega) (by omega)
              refine g_iconst (v := 1) C dX9_follows_352 (by decide) ?_
              exact g_iret C E dX9_follows_353 rfl rfl ⟨_, rfl, ⟨(by repeat (first | (with_reducible assumption) | (with_reducible exact gSm_r _) | (with_reducible refine gSm_I (by omega) ?_) | (with_reducible refine gSm_L (by omega) ?_) | (with_reducible refine gSm_N (by omega) ?_) | (with_reducible refine gSm_G (by omega) ?_) | (with_reducible refine gSm_P ?_))), gnz1 hd1⟩⟩
            · have k_53 := gnle c_53 (a := k) (b := i) (by first | rfl | assumption | (simp only [glit, nI_add, pk_mul]; done) | (simp only [glit, nI_add, pk_mul]; congr 1; omega) | (simp only [*, glit, nI_add, pk_mul]; congr 1; omega)) (by first | rfl | assumption | (simp only [glit, nI_add, pk_mul]; done) | (simp only [glit, nI_add, pk_mul]; congr 1; omega) | (simp only [*, glit, nI_add, pk_mul]; congr 1; omega)) (by omega) (by omega)
              refine g_iload C dX9_follows_56 rfl ?_
              refine g_iconst (v := 3) C dX9_follows_58 (by decide) ?_
              refine g_iand C dX9_follows_59 ?_
              rw [gand3 (by omega)]
              refine g_istore C dX9_follows_60 (Nat.le_of_ble_eq_true rfl) rfl ?_
              refine g_lv [some _, some _, some _, some _, some _, some _, some _, none, none, none, none, none, none, none, none, none, none, none] (gs_some (gs_some (gs_some (gs_some (gs_some (gs_some (gs_some (gs_none (gs_none (gs_none (gs_none (gs_none (gs_none (gs_none (gs_none (gs_none (gs_none (gs_none gs_nil)))))))))))))))))) ?_
              refine g_iload C dX9_follows_62 rfl ?_
              refine g_iconst (v := 2) C dX9_follows_64 (by decide) ?_
              refine g_ishr C dX9_follows_65 ?_
              rw [gshr2 (by omega), gpow]
              refine g_istore C dX9_follows_66 (Nat.le_of_ble_eq_true rfl) rfl ?_
              refine g_lv [some _, some _, some _, some _, some _, some _, some _, none, none, none, none, none, none, none, none, none, none, none] (gs_some (gs_some (gs_some (gs_some (gs_some (gs_some (gs_some (gs_none (gs_none (gs_none (gs_none (gs_none (gs_none (gs_none (gs_none (gs_none (gs_none (gs_none gs_nil)))))))))))))))))) ?_
              refine g_aload_n C dX9_follows_68 rfl ?_
              refine g_get C dX9_follows_69 iwX9 rfl (wO_M δ _) 16 (Nat.le_of_ble_eq_true rfl) mW588 rfl rfl ?_
              refine g_iload C dX9_follows_72 rfl ?_
              refine g_ialdN C dX9_follows_74 (k := (w / 4 ^ i % 4)) (q := 57) (by decide) rfl (by first | rfl | assumption | (simp only [glit, nI_add, pk_mul]; done) | (simp only [glit, nI_add, pk_mul]; congr 1; omega) | (simp only [*, glit, nI_add, pk_mul]; congr 1; omega)) (show (w / 4 ^ i % 4) < gLenI 57 from Nat.lt_of_lt_of_eq (show (w / 4 ^ i % 4) < 4 by exact hd4) rfl) ?_
              refine g_i2l C dX9_follows_75 ?_
              refine g_lstore C dX9_follows_76 (Nat.le_of_ble_eq_true rfl) rfl ?_
              refine g_lv [some _, some _, some _, some _, some _, some _, some _, some _, none, none, none, none, none, none, none, none, none, none] (gs_some (gs_some (gs_some (gs_some (gs_some (gs_some (gs_some (gs_some (gs_none (gs_none (gs_none (gs_none (gs_none (gs_none (gs_none (gs_none (gs_none (gs_none gs_nil)))))))))))))))))) ?_
              refine g_aload_n C dX9_follows_78 rfl ?_
              refine g_get C dX9_follows_79 iwX9 rfl (wO_M δ _) 16 (Nat.le_of_ble_eq_true rfl) mW588 rfl rfl ?_
              refine g_iconst (v := 0) C dX9_follows_82 (by decide) ?_
              refine g_ialdN C dX9_follows_83 (k := 0) (q := 57) (by decide) rfl (by first | rfl | assumption | (simp only [glit, nI_add, pk_mul]; done) | (simp only [glit, nI_add, pk_mul]; congr 1; omega) | (simp only [*, glit, nI_add, pk_mul]; congr 1; omega)) (show 0 < gLenI 57 from Nat.lt_of_lt_of_eq (show 0 < 4 by omega) rfl) ?_
              refine g_aload_n C dX9_follows_84 rfl ?_
              refine g_get C dX9_follows_85 iwX9 rfl (wO_M δ _) 16 (Nat.le_of_ble_eq_true rfl) mW588 rfl rfl ?_
              refine g_iconst (v := 1) C dX9_follows_88 (by decide) ?_
              refine g_ialdN C dX9_follows_89 (k := 1) (q := 57) (by decide) rfl (by first | rfl | assumption | (simp only [glit, nI_add, pk_mul]; done) | (simp only [glit, nI_add, pk_mul]; congr 1; omega) | (simp only [*, glit, nI_add, pk_mul]; congr 1; omega)) (show 1 < gLenI 57 from Nat.lt_of_lt_of_eq (show 1 < 4 by omega) rfl) ?_
              refine g_iadd C dX9_follows_90 ?_
              refine g_aload_n C dX9_follows_91 rfl ?_
              refine g_get C dX9_follows_92 iwX9 rfl (wO_M δ _) 16 (Nat.le_of_ble_eq_true rfl) mW588 rfl rfl ?_
              refine g_iconst (v := 2) C dX9_follows_95 (by decide) ?_
              refine g_ialdN C dX9_follows_96 (k := 2) (q := 57) (by decide) rfl (by first | rfl | assumption | (simp only [glit, nI_add, pk_mul]; done) | (simp only [glit, nI_add, pk_mul]; congr 1; omega) | (simp only [*, glit, nI_add, pk_mul]; congr 1; omega)) (show 2 < gLenI 57 from Nat.lt_of_lt_of_eq (show 2 < 4 by omega) rfl) ?_
              refine g_iadd C dX9_follows_97 ?_
              refine g_aload_n C dX9_follows_98 rfl ?_
              refine g_get C dX9_follows_99 iwX9 rfl (wO_M δ _) 16 (Nat.le_of_ble_eq_true rfl) mW588 rfl rfl ?_
              refine g_iconst (v := 3) C dX9_follows_102 (by decide) ?_
              refine g_ialdN C dX9_follows_103 (k := 3) (q := 57) (by decide) rfl (by first | rfl | assumption | (simp only [glit, nI_add, pk_mul]; done) | (simp only [glit, nI_add, pk_mul]; congr 1; omega) | (simp only [*, glit, nI_add, pk_mul]; congr 1; omega)) (show 3 < gLenI 57 from Nat.lt_of_lt_of_eq (show 3 < 4 by omega) rfl) ?_
              refine g_iadd C dX9_follows_104 ?_
              refine g_i2l C dX9_follows_105 ?_
              refine g_lstore C dX9_follows_106 (Nat.le_of_ble_eq_true rfl) rfl ?_
              refine g_lv [some _, some _, some _, some _, some _, some _, some _, some _, none, some _, none, none, none, none, none, none, none, none] (gs_some (gs_some (gs_some (gs_some (gs_some (gs_some (gs_some (gs_some (gs_none (gs_some (gs_none (gs_none (gs_none (gs_none (gs_none (gs_none (gs_none (gs_none gs_nil)))))))))))))))))) ?_
              have J_120 : ∀ (a : Int32) (ha : gAcc a (0 < gI s1 57 (w / 4 ^ i % 4))), gW Γ δ s1 120 [some (.ref (δ.2.2.1 1)), some (.int (nI u)), some (.int (nI k)), some (.int (nI w)), some (.int (nI (w / 4 ^ (i + 1)))), some (.int (nI i)), some (.int (nI (w / 4 ^ i % 4))), some (.long (gI s1 57 (w / 4 ^ i % 4)).toInt64), none, some (.long (gI s1 57 0 + gI s1 57 1 + gI s1 57 2 + gI s1 57 3).toInt64), none, none, none, none, none, none, none, none] [.int a] := by
                intro a ha
                refine g_istore C dX9_follows_120 (Nat.le_of_ble_eq_true rfl) rfl ?_
                refine g_lv [some _, some _, some _, some _, some _, some _, some _, some _, none, some _, none, some _, none, none, none, none, none, none] (gs_some (gs_some (gs_some (gs_some (gs_some (gs_some (gs_some (gs_some (gs_none (gs_some (gs_none (gs_some (gs_none (gs_none (gs_none (gs_none (gs_none (gs_none gs_nil)))))))))))))))))) ?_
                refine g_iconst (v := 0) C dX9_follows_122 (by decide) ?_
                refine g_istore C dX9_follows_123 (Nat.le_of_ble_eq_true rfl) rfl ?_
                refine g_lv [some _, some _, some _, some _, some _, some _, some _, some _, none, some _, none, some _, some _, none, none, none, none, none] (gs_some (gs_some (gs_some (gs_some (gs_some (gs_some (gs_some (gs_some (gs_none (gs_some (gs_none (gs_some (gs_some (gs_none (gs_none (gs_none (gs_none (gs_none gs_nil)))))))))))))))))) ?_
                have L_125 : ∀ (nn : Nat) (d : Nat) (a : Int32) (hd : d ≤ 4) (ha : gAcc a (gLet (gI s1 57) (mT σ u) (w / 4 ^ i % 4) d)), 4 - d < nn → gW Γ δ (uI s1 57 (gGw (gI s1 57) (mT σ u) (w / 4 ^ i % 4) d)) 125 [some (.ref (δ.2.2.1 1)), some (.int (nI u)), some (.int (nI k)), some (.int (nI w)), some (.int (nI (w / 4 ^ (i + 1)))), some (.int (nI i)), some (.int (nI (w / 4 ^ i % 4))), some (.long (gI s1 57 (w / 4 ^ i % 4)).toInt64), none, some (.long (gI s1 57 0 + gI s1 57 1 + gI s1 57 2 + gI s1 57 3).toInt64), none, some (.int a), some (.int (nI d)), none, none, none, none, none] [] := by
                  intro nn
                  induction nn with
                  | zero =>
                    intro d a hd ha hm_125
                    exact absurd hm_125 (Nat.not_lt_zero _)
                  | succ nn ih_125 =>
                    intro d a hd ha hm_125
                    refine g_iload C dX9_follows_125 rfl ?_
                    refine g_iconst (v := 4) C dX9_follows_127 (by decide) ?_
                    refine g_icmp_ge C 196 dX9_follows_128 (by decide) (fun c_128 => ?_) (fun c_128 => ?_)
                    · have k_128 := gle c_128 (a := 4) (b := d) (by first | rfl | assumption | (simp only [glit, nI_add, pk_mul]; done) | (simp only [glit, nI_add, pk_mul]; congr 1; omega) | (simp only [*, glit, nI_add, pk_mul]; congr 1; omega)) (by first | rfl | assumption | (simp only [glit, nI_add, pk_mul]; done) | (simp only [glit, nI_add, pk_mul]; congr 1; omega) | (simp only [*, glit, nI_add, pk_mul]; congr 1; omega)) (by omega) (by omega)
                      have ek : d = 4 := by omega
                      subst ek
                      refine g_iload C dX9_follows_196 rfl ?_
                      refine g_if_ne C 213 dX9_follows_198 (by decide) (fun c_198 => ?_) (fun c_198 => ?_)
                      · have hL := gAcc_y ha c_198
                        obtain ⟨p1, p2, -, -⟩ := gB2_pos hb1 hd4 hL.1
                        refine g_lload C dX9_follows_213 rfl ?_
                        refine g_lload C dX9_follows_215 rfl ?_
                        refine g_callSl C sS_X9_150 dX9_follows_217 (c_X9_common _ δ _ _ _) ⟨by decide, by decide⟩ rfl rfl rfl (Nat.le_of_ble_eq_true rfl) (fun r_217 s_217 h_217 => ?_)
                        obtain ⟨rfl, h_217⟩ := h_217
                        obtain ⟨q1, q2, q3, q4, q5⟩ := gCm_pos h_217 p1 p2
                        refine g_lstore C dX9_follows_220 (Nat.le_of_ble_eq_true rfl) rfl ?_
                        refine g_lv [some _, some _, some _, some _, some _, some _, some _, some _, none, some _, none, some _, some _, none, none, none, none, none] (gs_some (gs_some (gs_some (gs_some (gs_some (gs_some (gs_some (gs_some (gs_none (gs_some (gs_none (gs_some (gs_some (gs_none (gs_none (gs_none (gs_none (gs_none gs_nil)))))))))))))))))) ?_
                        refine g_lload C dX9_follows_222 rfl ?_
                        refine g_lload C dX9_follows_224 rfl ?_
                        refine g_ldiv C dX9_follows_226 (gnz1 q1) ?_
                        refine g_lstore C dX9_follows_227 (Nat.le_of_ble_eq_true rfl) rfl ?_
                        refine g_lv [some _, some _, some _, some _, some _, some _, some _, some _, none, some _, none, some _, some _, none, none, none, none, none] (gs_some (gs_some (gs_some (gs_some (gs_some (gs_some (gs_some (gs_some (gs_none (gs_some (gs_none (gs_some (gs_some (gs_none (gs_none (gs_none (gs_none (gs_none gs_nil)))))))))))))))))) ?_
                        refine g_lload C dX9_follows_229 rfl ?_
                        refine g_lload C dX9_follows_231 rfl ?_
                        refine g_ldiv C dX9_follows_233 (gnz1 q1) ?_
                        refine g_lstore C dX9_follows_234 (Nat.le_of_ble_eq_true rfl) rfl ?_
                        refine g_lv [some _, some _, some _, some _, some _, some _, some _, some _, none, some _, none, some _, some _, none, none, none, none, none] (gs_some (gs_some (gs_some (gs_some (gs_some (gs_some (gs_some (gs_some (gs_none (gs_some (gs_none (gs_some (gs_some (gs_none (gs_none (gs_none (gs_none (gs_none gs_nil)))))))))))))))))) ?_
                        refine g_aload_n C dX9_follows_236 rfl ?_
                        refine g_get C dX9_follows_237 iwX9 rfl (wO_M δ _) 17 (Nat.le_of_ble_eq_true rfl) mW589 rfl rfl ?_
                        refine g_lload C dX9_follows_240 rfl ?_
                        refine g_callSl C sS_X9_150 dX9_follows_242 (c_X9_common _ δ _ _ _) ⟨by decide, by decide⟩ rfl rfl rfl (Nat.le_of_ble_eq_true rfl) (fun r_242 s_242 h_242 => ?_)
                        obtain ⟨rfl, h_242⟩ := h_242
                        obtain ⟨w1, w2, w3, w4, w5⟩ := gCm_pos h_242 hu1 q3
                        refine g_lstore C dX9_follows_245 (Nat.le_of_ble_eq_true rfl) rfl ?_
                        refine g_lv [some _, some _, some _, some _, some _, some _, some _, some _, none, some _, none, some _, some _, none, some _, none, none, none] (gs_some (gs_some (gs_some (gs_some (gs_some (gs_some (gs_some (gs_some (gs_none (gs_some (gs_none (gs_some (gs_some (gs_none (gs_some (gs_none (gs_none (gs_none gs_nil)))))))))))))))))) ?_
                        refine g_lload C dX9_follows_247 rfl ?_
                        refine g_aload_n C dX9_follows_249 rfl ?_
                        refine g_get C dX9_follows_250 iwX9 rfl (wO_M δ _) 18 (Nat.le_of_ble_eq_true rfl) mW590 rfl rfl ?_
                        refine g_callSl C sS_X9_150 dX9_follows_253 (c_X9_common _ δ _ _ _) ⟨by decide, by decide⟩ rfl rfl rfl (Nat.le_of_ble_eq_true rfl) (fun r_253 s_253 h_253 => ?_)
                        obtain ⟨rfl, h_253⟩ := h_253
                        obtain ⟨y1, y2, y3, y4, y5⟩ := gCm_pos h_253 q2 hd1
                        refine g_lstore C dX9_follows_256 (Nat.le_of_ble_eq_true rfl) rfl ?_
                        refine g_lv [some _, some _, some _, some _, some _, some _, some _, some _, none, some _, none, some _, some _, none, some _, none, some _, none] (gs_some (gs_some (gs_some (gs_some (gs_some (gs_some (gs_some (gs_some (gs_none (gs_some (gs_none (gs_some (gs_some (gs_none (gs_some (gs_none (gs_some (gs_none gs_nil)))))))))))))))))) ?_
                        refine g_aload_n C dX9_follows_258 rfl ?_
                        refine g_dup C dX9_follows_259 rfl ?_
                        refine g_get C dX9_follows_260 iwX9 rfl (wO_M δ _) 17 (Nat.le_of_ble_eq_true rfl) mW589 rfl rfl ?_
                        refine g_lload C dX9_follows_263 rfl ?_
                        refine g_ldiv C dX9_follows_265 (gnz1 w1) ?_
                        refine g_put C tyX9 dX9_follows_266 iwX9 tyX9_ok nmX9 rfl (wO_M δ _) 17 (Nat.le_of_ble_eq_true rfl) mW589 rfl rfl rfl rfl rfl (Nat.le_of_ble_eq_true rfl) (pG_13 δ _ _) ?_
                        refine g_lload C dX9_follows_269 rfl ?_
                        refine g_lload C dX9_follows_271 rfl ?_
                        refine g_ldiv C dX9_follows_273 (gnz1 w1) ?_
                        refine g_lstore C dX9_follows_274 (Nat.le_of_ble_eq_true rfl) rfl ?_
                        refine g_lv [some _, some _, some _, some _, some _, some _, some _, some _, none, some _, none, some _, some _, none, some _, none, some _, none] (gs_some (gs_some (gs_some (gs_some (gs_some (gs_some (gs_some (gs_some (gs_none (gs_some (gs_none (gs_some (gs_some (gs_none (gs_some (gs_none (gs_some (gs_none gs_nil)))))))))))))))))) ?_
                        refine g_lload C dX9_follows_276 rfl ?_
                        refine g_lload C dX9_follows_278 rfl ?_
                        refine g_ldiv C dX9_follows_280 (gnz1 y1) ?_
                        refine g_lstore C dX9_follows_281 (Nat.le_of_ble_eq_true rfl) rfl ?_
                        refine g_lv [some _, some _, some _, some _, some _, some _, some _, some _, none, some _, none, some _, some _, none, some _, none, some _, none] (gs_some (gs_some (gs_some (gs_some (gs_some (gs_some (gs_some (gs_some (gs_none (gs_some (gs_none (gs_some (gs_some (gs_none (gs_some (gs_none (gs_some (gs_none gs_nil)))))))))))))))))) ?_
                        refine g_aload_n C dX9_follows_283 rfl ?_
                        refine g_dup C dX9_follows_284 rfl ?_
                        refine g_get C dX9_follows_285 iwX9 rfl (wO_M δ _) 18 (Nat.le_of_ble_eq_true rfl) mW590 rfl rfl ?_
                        refine g_lload C dX9_follows_288 rfl ?_
                        refine g_ldiv C dX9_follows_290 (gnz1 y1) ?_
                        refine g_put C tyX9 dX9_follows_291 iwX9 tyX9_ok nmX9 rfl (wO_M δ _) 18 (Nat.le_of_ble_eq_true rfl) mW590 rfl rfl rfl rfl rfl (Nat.le_of_ble_eq_true rfl) (pG_14 δ _ _) ?_
                        refine g_aload_n C dX9_follows_294 rfl ?_
                        refine g_get C dX9_follows_295 iwX9 rfl (wO_M δ _) 17 (Nat.le_of_ble_eq_true rfl) mW589 rfl rfl ?_
                        refine g_ldc2 C dX9_follows_298 mW800 ?_
                        refine g_lload C dX9_follows_301 rfl ?_
                        refine g_ldiv C dX9_follows_303 (gnz1 y2) ?_
                        refine g_lcmp C dX9_follows_304 ?_
                        refine g_if_gt C 322 dX9_follows_305 (by decide) (fun c_305 => ?_) (fun c_305 => ?_)
                        · rw [lg_cmp_gt] at c_305
                          refine g_iconst (v := 0) C dX9_follows_322 (by decide) ?_
                          exact g_iret C E dX9_follows_323 rfl rfl ⟨_, rfl, ⟨(by repeat (first | (with_reducible assumption) | (with_reducible exact gSm_r _) | (with_reducible refine gSm_I (by omega) ?_) | (with_reducible refine gSm_L (by omega) ?_) | (with_reducible refine gSm_N (by omega) ?_) | (with_reducible refine gSm_G (by omega) ?_) | (with_reducible refine gSm_P ?_))), gnz1 y3⟩⟩
                        · rw [lg_cmp_gt] at c_305
                          refine g_aload_n C dX9_follows_308 rfl ?_
                          refine g_get C dX9_follows_309 iwX9 rfl (wO_M δ _) 18 (Nat.le_of_ble_eq_true rfl) mW590 rfl rfl ?_
                          refine g_ldc2 C dX9_follows_312 mW800 ?_
                          refine g_lload C dX9_follows_315 rfl ?_
                          refine g_ldiv C dX9_follows_317 (gnz1 w3) ?_
                          refine g_lcmp C dX9_follows_318 ?_
                          refine g_if_le C 324 dX9_follows_319 (by decide) (fun c_319 => ?_) (fun c_319 => ?_)
                          · rw [lg_cmp_le] at c_319
                            refine g_aload_n C dX9_follows_324 rfl ?_
                            refine g_dup C dX9_follows_325 rfl ?_
                            refine g_get C dX9_follows_326 iwX9 rfl (wO_M δ _) 17 (Nat.le_of_ble_eq_true rfl) mW589 rfl rfl ?_
                            refine g_lload C dX9_follows_329 rfl ?_
                            refine g_lmul C dX9_follows_331 ?_
                            refine g_put C tyX9 dX9_follows_332 iwX9 tyX9_ok nmX9 rfl (wO_M δ _) 17 (Nat.le_of_ble_eq_true rfl) mW589 rfl rfl rfl rfl rfl (Nat.le_of_ble_eq_true rfl) (pG_13 δ _ _) ?_
                            refine g_aload_n C dX9_follows_335 rfl ?_
                            refine g_dup C dX9_follows_336 rfl ?_
                            refine g_get C dX9_follows_337 iwX9 rfl (wO_M δ _) 18 (Nat.le_of_ble_eq_true rfl) mW590 rfl rfl ?_
                            refine g_lload C dX9_follows_340 rfl ?_
                            refine g_lmul C dX9_follows_342 ?_
                            refine g_put C tyX9 dX9_follows_343 iwX9 tyX9_ok nmX9 rfl (wO_M δ _) 18 (Nat.le_of_ble_eq_true rfl) mW590 rfl rfl rfl rfl rfl (Nat.le_of_ble_eq_true rfl) (pG_14 δ _ _) ?_
                            refine g_iinc (v := nI (i + 1)) C dX9_follows_346 rfl (ginc _ 1) rfl ?_
                            refine g_lv [some _, some _, some _, some _, some _, some _, some _, some _, none, some _, none, some _, some _, none, some _, none, some _, none] (gs_some (gs_some (gs_some (gs_some (gs_some (gs_some (gs_some (gs_some (gs_none (gs_some (gs_none (gs_some (gs_some (gs_none (gs_some (gs_none (gs_some (gs_none gs_nil)))))))))))))))))) ?_
                            refine g_goto C 50 dX9_follows_349 (by decide) ?_
                            refine g_lv [some _, some _, some _, some _, some _, some _, none, none, none, none, none, none, none, none, none, none, none, none] (gs_some (gs_some (gs_some (gs_some (gs_some (gs_some (gs_none (gs_none (gs_none (gs_none (gs_none (gs_none (gs_none (gs_none (gs_none (gs_none (gs_none (gs_none gs_nil)))))))))))))))))) ?_
                            exact ih_50 (i + 1) _ (by omega) (by repeat (first | (with_reducible assumption) | (with_reducible exact gSm_r _) | (with_reducible refine gSm_I (by omega) ?_) | (with_reducible refine gSm_L (by omega) ?_) | (with_reducible refine gSm_N (by omega) ?_) | (with_reducible refine gSm_G (by omega) ?_) | (with_reducible refine gSm_P ?_))) (gB2_g hL) (l_mulle w2 y2 (by decide) (Int64.not_lt.mp c_305)).1 (l_mulle y3 w3 (by decide) c_319).1 (by omega)
                          · rw [lg_cmp_le] at c_319
                            refine g_iconst (v := 0) C dX9_follows_322 (by decide) ?_
                            exact g_iret C E dX9_follows_323 rfl rfl ⟨_, rfl, ⟨(by repeat (first | (with_reducible assumption) | (with_reducible exact gSm_r _) | (with_reducible refine gSm_I (by omega) ?_) | (with_reducible refine gSm_L (by omega) ?_) | (with_reducible refine gSm_N (by omega) ?_) | (with_reducible refine gSm_G (by omega) ?_) | (with_reducible refine gSm_P ?_))), gnz1 y3⟩⟩
                      · refine g_aload_n C dX9_follows_201 rfl ?_
                        refine g_lconst (v := 0) C dX9_follows_202 (by decide) ?_
                        refine g_put C tyX9 dX9_follows_203 iwX9 tyX9_ok nmX9 rfl (wO_M δ _) 17 (Nat.le_of_ble_eq_true rfl) mW589 rfl rfl rfl rfl rfl (Nat.le_of_ble_eq_true rfl) (pG_13 δ _ _) ?_
                        refine g_aload_n C dX9_follows_206 rfl ?_
                        refine g_lconst (v := 1) C dX9_follows_207 (by decide) ?_
                        refine g_put C tyX9 dX9_follows_208 iwX9 tyX9_ok nmX9 rfl (wO_M δ _) 18 (Nat.le_of_ble_eq_true rfl) mW590 rfl rfl rfl rfl rfl (Nat.le_of_ble_eq_true rfl) (pG_14 δ _ _) ?_
                        refine g_iconst (v := 1) C dX9_follows_211 (by decide) ?_
                        exact g_iret C E dX9_follows_212 rfl rfl ⟨_, rfl, ⟨(by repeat (first | (with_reducible assumption) | (with_reducible exact gSm_r _) | (with_reducible refine gSm_I (by omega) ?_) | (with_reducible refine gSm_L (by omega) ?_) | (with_reducible refine gSm_N (by omega) ?_) | (with_reducible refine gSm_G (by omega) ?_) | (with_reducible refine gSm_P ?_))), (by decide : ¬ (1 : Int64) = 0)⟩⟩
                    · have k_128 := gnle c_128 (a := 4) (b := d) (by first | rfl | assumption | (simp only [glit, nI_add, pk_mul]; done) | (simp only [glit, nI_add, pk_mul]; congr 1; omega) | (simp only [*, glit, nI_add, pk_mul]; congr 1; omega)) (by first | rfl | assumption | (simp only [glit, nI_add, pk_mul]; done) | (simp only [glit, nI_add, pk_mul]; congr 1; omega) | (simp only [*, glit, nI_add, pk_mul]; congr 1; omega)) (by omega) (by omega)
                      refine g_aload_n C dX9_follows_131 rfl ?_
                      refine g_get C dX9_follows_132 iwX9 rfl (wO_M δ _) 16 (Nat.le_of_ble_eq_true rfl) mW588 rfl rfl ?_
                      refine g_iload C dX9_follows_135 rfl ?_
                      refine g_dup2 C dX9_follows_137 rfl rfl ?_
                      refine g_ialdN C dX9_follows_138 (k := d) (q := 57) (by decide) rfl (by first | rfl | assumption | (simp only [glit, nI_add, pk_mul]; done) | (simp only [glit, nI_add, pk_mul]; congr 1; omega) | (simp only [*, glit, nI_add, pk_mul]; congr 1; omega)) (show d < gLenI 57 from Nat.lt_of_lt_of_eq (show d < 4 by omega) rfl) ?_
                      refine g_aload_n C dX9_follows_139 rfl ?_
                      refine g_get C dX9_follows_140 iwX9 rfl (wO_M δ _) 6 (Nat.le_of_ble_eq_true rfl) mW578 rfl rfl ?_
                      refine g_bipush (v := 25) C dX9_follows_143 (by decide) ?_
                      refine g_iload_n C dX9_follows_145 rfl ?_
                      refine g_imul C dX9_follows_146 ?_
                      refine g_iconst (v := 4) C dX9_follows_147 (by decide) ?_
                      refine g_iadd C dX9_follows_148 ?_
                      refine g_iconst (v := 4) C dX9_follows_149 (by decide) ?_
                      refine g_iload C dX9_follows_150 rfl ?_
                      refine g_imul C dX9_follows_152 ?_
                      refine g_iadd C dX9_follows_153 ?_
                      refine g_iload C dX9_follows_154 rfl ?_
                      refine g_iadd C dX9_follows_156 ?_
                      refine g_ialdN C dX9_follows_157 (k := (25 * u + 4 + ((w / 4 ^ i % 4) * 4 + d))) (q := 53) (by decide) rfl (by first | rfl | assumption | (simp only [glit, nI_add, pk_mul]; done) | (simp only [glit, nI_add, pk_mul]; congr 1; omega) | (simp only [*, glit, nI_add, pk_mul]; congr 1; omega)) (show (25 * u + 4 + ((w / 4 ^ i % 4) * 4 + d)) < gLenI 53 from Nat.lt_of_lt_of_eq (show (25 * u + 4 + ((w / 4 ^ i % 4) * 4 + d)) < 202 by omega) rfl) ?_
                      refine g_iadd C dX9_follows_158 ?_
                      refine g_iastN C dX9_follows_159 (k := d) (q := 57) (by decide) rfl (by first | rfl | assumption | (simp only [glit, nI_add, pk_mul]; done) | (simp only [glit, nI_add, pk_mul]; congr 1; omega) | (simp only [*, glit, nI_add, pk_mul]; congr 1; omega)) (show d < gLenI 57 from Nat.lt_of_lt_of_eq (show d < 4 by omega) rfl) ?_
                      rw [uI_uI, gI_uI, if_pos rfl, gI_uI, if_neg (by decide), show gI s1 53 (25 * u + 4 + ((w / 4 ^ i % 4) * 4 + d)) = mT σ u ((w / 4 ^ i % 4) * 4 + d) from congrFun (mT_s hs u) _, gGw_s]
                      refine g_iload C dX9_follows_160 rfl ?_
                      refine g_if_eq C 187 dX9_follows_162 (by decide) (fun c_162 => ?_) (fun c_162 => ?_)
                      · refine g_iconst (v := 0) C dX9_follows_187 (by decide) ?_
                        refine g_istore C dX9_follows_188 (Nat.le_of_ble_eq_true rfl) rfl ?_
                        refine g_lv [some _, some _, some _, some _, some _, some _, some _, some _, none, some _, none, some _, some _, none, none, none, none, none] (gs_some (gs_some (gs_some (gs_some (gs_some (gs_some (gs_some (gs_some (gs_none (gs_some (gs_none (gs_some (gs_some (gs_none (gs_none (gs_none (gs_none (gs_none gs_nil)))))))))))))))))) ?_
                        refine g_iinc (v := nI (d + 1)) C dX9_follows_190 rfl (ginc _ 1) rfl ?_
                        refine g_lv [some _, some _, some _, some _, some _, some _, some _, some _, none, some _, none, some _, some _, none, none, none, none, none] (gs_some (gs_some (gs_some (gs_some (gs_some (gs_some (gs_some (gs_some (gs_none (gs_some (gs_none (gs_some (gs_some (gs_none (gs_none (gs_none (gs_none (gs_none gs_nil)))))))))))))))))) ?_
                        refine g_goto C 125 dX9_follows_193 (by decide) ?_
                        refine g_lv [some _, some _, some _, some _, some _, some _, some _, some _, none, some _, none, some _, some _, none, none, none, none, none] (gs_some (gs_some (gs_some (gs_some (gs_some (gs_some (gs_some (gs_some (gs_none (gs_some (gs_none (gs_some (gs_some (gs_none (gs_none (gs_none (gs_none (gs_none gs_nil)))))))))))))))))) ?_
                        exact ih_125 (d + 1) _ (by omega) (by first | exact gAcc_0 ha c_162 (fun z => (gLet_s.mp z).1) | exact gAcc_f (fun z => h_177 (gLet_s.mp z).2) | exact gAcc_1 ha c_162 (fun z => gLet_s.mpr ⟨z, h_177⟩)) (by omega)
                      · refine g_aload_n C dX9_follows_165 rfl ?_
                        refine g_get C dX9_follows_166 iwX9 rfl (wO_M δ _) 16 (Nat.le_of_ble_eq_true rfl) mW588 rfl rfl ?_
                        refine g_iload C dX9_follows_169 rfl ?_
                        refine g_ialdN C dX9_follows_171 (k := d) (q := 57) (by decide) rfl (by first | rfl | assumption | (simp only [glit, nI_add, pk_mul]; done) | (simp only [glit, nI_add, pk_mul]; congr 1; omega) | (simp only [*, glit, nI_add, pk_mul]; congr 1; omega)) (show d < gLenI 57 from Nat.lt_of_lt_of_eq (show d < 4 by omega) rfl) ?_
                        rw [gI_uI, if_pos rfl, gGw_at]
                        refine g_i2l C dX9_follows_172 ?_
                        refine g_lconst (v := 0) C dX9_follows_173 (by decide) ?_
                        refine g_ldc2 C dX9_follows_174 mW696 ?_
                        refine g_callSi C sS_X9_62 dX9_follows_177 (c_X9_in _ δ _ _ _ _) ⟨by decide, by decide⟩ rfl rfl rfl (Nat.le_of_ble_eq_true rfl) (fun r_177 s_177 h_177 => ?_)
                        obtain ⟨rfl, h_177⟩ := h_177
                        rw [gin200] at h_177
                        rcases h_177 with ⟨rfl, h_177⟩ | ⟨rfl, h_177⟩
                        · skip
                          refine g_if_eq C 187 dX9_follows_180 (by decide) (fun c_180 => ?_) (fun c_180 => ?_)
                          · exact absurd c_180 (by decide)
                          · refine g_iconst (v := 1) C dX9_follows_183 (by decide) ?_
                            refine g_goto C 188 dX9_follows_184 (by decide) ?_
                            refine g_istore C dX9_follows_188 (Nat.le_of_ble_eq_true rfl) rfl ?_
                            refine g_lv [some _, some _, some _, some _, some _, some _, some _, some _, none, some _, none, some _, some _, none, none, none, none, none] (gs_some (gs_some (gs_some (gs_some (gs_some (gs_some (gs_some (gs_some (gs_none (gs_some (gs_none (gs_some (gs_some (gs_none (gs_none (gs_none (gs_none (gs_none gs_nil)))))))))))))))))) ?_
                            refine g_iinc (v := nI (d + 1)) C dX9_follows_190 rfl (ginc _ 1) rfl ?_
                            refine g_lv [some _, some _, some _, some _, some _, some _, some _, some _, none, some _, none, some _, some _, none, none, none, none, none] (gs_some (gs_some (gs_some (gs_some (gs_some (gs_some (gs_some (gs_some (gs_none (gs_some (gs_none (gs_some (gs_some (gs_none (gs_none (gs_none (gs_none (gs_none gs_nil)))))))))))))))))) ?_
                            refine g_goto C 125 dX9_follows_193 (by decide) ?_
                            refine g_lv [some _, some _, some _, some _, some _, some _, some _, some _, none, some _, none, some _, some _, none, none, none, none, none] (gs_some (gs_some (gs_some (gs_some (gs_some (gs_some (gs_some (gs_some (gs_none (gs_some (gs_none (gs_some (gs_some (gs_none (gs_none (gs_none (gs_none (gs_none gs_nil)))))))))))))))))) ?_
                            exact ih_125 (d + 1) _ (by omega) (by first | exact gAcc_0 ha c_162 (fun z => (gLet_s.mp z).1) | exact gAcc_f (fun z => h_177 (gLet_s.mp z).2) | exact gAcc_1 ha c_162 (fun z => gLet_s.mpr ⟨z, h_177⟩)) (by omega)
                        · skip
                          refine g_if_eq C 187 dX9_follows_180 (by decide) (fun c_180 => ?_) (fun c_180 => ?_)
                          · refine g_iconst (v := 0) C dX9_follows_187 (by decide) ?_
                            refine g_istore C dX9_follows_188 (Nat.le_of_ble_eq_true rfl) rfl ?_
                            refine g_lv [some _, some _, some _, some _, some _, some _, some _, some _, none, some _, none, some _, some _, none, none, none, none, none] (gs_some (gs_some (gs_some (gs_some (gs_some (gs_some (gs_some (gs_some (gs_none (gs_some (gs_none (gs_some (gs_some (gs_none (gs_none (gs_none (gs_none (gs_none gs_nil)))))))))))))))))) ?_
                            refine g_iinc (v := nI (d + 1)) C dX9_follows_190 rfl (ginc _ 1) rfl ?_
                            refine g_lv [some _, some _, some _, some _, some _, some _, some _, some _, none, some _, none, some _, some _, none, none, none, none, none] (gs_some (gs_some (gs_some (gs_some (gs_some (gs_some (gs_some (gs_some (gs_none (gs_some (gs_none (gs_some (gs_some (gs_none (gs_none (gs_none (gs_none (gs_none gs_nil)))))))))))))))))) ?_
                            refine g_goto C 125 dX9_follows_193 (by decide) ?_
                            refine g_lv [some _, some _, some _, some _, some _, some _, some _, some _, none, some _, none, some _, some _, none, none, none, none, none] (gs_some (gs_some (gs_some (gs_some (gs_some (gs_some (gs_some (gs_some (gs_none (gs_some (gs_none (gs_some (gs_some (gs_none (gs_none (gs_none (gs_none (gs_none gs_nil)))))))))))))))))) ?_
                            exact ih_125 (d + 1) _ (by omega) (by first | exact gAcc_0 ha c_162 (fun z => (gLet_s.mp z).1) | exact gAcc_f (fun z => h_177 (gLet_s.mp z).2) | exact gAcc_1 ha c_162 (fun z => gLet_s.mpr ⟨z, h_177⟩)) (by omega)
                          · exact absurd c_180 (by decide)
                refine g_lv [some _, some _, some _, some _, some _, some _, some _, some _, none, some _, none, some _, some _, none, none, none, none, none] (gs_some (gs_some (gs_some (gs_some (gs_some (gs_some (gs_some (gs_some (gs_none (gs_some (gs_none (gs_some (gs_some (gs_none (gs_none (gs_none (gs_none (gs_none gs_nil)))))))))))))))))) ?_
                refine g_st (σ' := uI s1 57 (gGw (gI s1 57) (mT σ u) (w / 4 ^ i % 4) 0)) (by rw [gGw_0]; exact (uI_id s1 57).symm) ?_
                exact L_125 _ 0 _ (by omega) (gAcc_i ha gLet_0.symm) (Nat.lt_succ_self _)
              refine g_lload C dX9_follows_108 rfl ?_
              refine g_lconst (v := 0) C dX9_follows_110 (by decide) ?_
              refine g_lcmp C dX9_follows_111 ?_
              refine g_if_le C 119 dX9_follows_112 (by decide) (fun c_112 => ?_) (fun c_112 => ?_)
              · rw [lg_cmp_le] at c_112
                refine g_iconst (v := 0) C dX9_follows_119 (by decide) ?_
                refine g_lv [some _, some _, some _, some _, some _, some _, some _, some _, none, some _, none, none, none, none, none, none, none, none] (gs_some (gs_some (gs_some (gs_some (gs_some (gs_some (gs_some (gs_some (gs_none (gs_some (gs_none (gs_none (gs_none (gs_none (gs_none (gs_none (gs_none (gs_none gs_nil)))))))))))))))))) ?_
                exact J_120 _ (by first | exact gAcc_t (gpos64 c_112) | exact gAcc_f (gneg64 c_112))
              · rw [lg_cmp_le] at c_112
                refine g_iconst (v := 1) C dX9_follows_115 (by decide) ?_
                refine g_goto C 120 dX9_follows_116 (by decide) ?_
                refine g_lv [some _, some _, some _, some _, some _, some _, some _, some _, none, some _, none, none, none, none, none, none, none, none] (gs_some (gs_some (gs_some (gs_some (gs_some (gs_some (gs_some (gs_some (gs_none (gs_some (gs_none (gs_none (gs_none (gs_none (gs_none (gs_none (gs_none (gs_none gs_nil)))))))))))))))))) ?_
                exact J_120 _ (by first | exact gAcc_t (gpos64 c_112) | exact gAcc_f (gneg64 c_112))
        refine g_lv [some _, some _, some _, some _, some _, some _, none, none, none, none, none, none, none, none, none, none, none, none] (gs_some (gs_some (gs_some (gs_some (gs_some (gs_some (gs_none (gs_none (gs_none (gs_none (gs_none (gs_none (gs_none (gs_none (gs_none (gs_none (gs_none (gs_none gs_nil)))))))))))))))))) ?_
        have e0 : nI w = nI (w / 4 ^ 0) := by rw [Nat.pow_zero, Nat.div_one]
        refine g_lv [some (.ref (δ.2.2.1 1)), some (.int (nI u)), some (.int (nI k)), some (.int (nI w)), some (.int (nI (w / 4 ^ 0))), some (.int (nI 0)), none, none, none, none, none, none, none, none, none, none, none, none] (by rw [← e0]; exact gs_some (gs_some (gs_some (gs_some (gs_some (gs_some (gs_none (gs_none (gs_none (gs_none (gs_none (gs_none (gs_none (gs_none (gs_none (gs_none (gs_none (gs_none gs_nil)))))))))))))))))) ?_
        exact L_50 _ 0 _ (by omega) (by repeat (first | (with_reducible assumption) | (with_reducible exact gSm_r _) | (with_reducible refine gSm_I (by omega) ?_) | (with_reducible refine gSm_L (by omega) ?_) | (with_reducible refine gSm_N (by omega) ?_) | (with_reducible refine gSm_G (by omega) ?_) | (with_reducible refine gSm_P ?_))) hb0 (Int64.le_refl 1) (Int64.le_refl 1) (Nat.lt_succ_self _)
      · have k_16 := gnle c_16 (a := 4) (b := d) (by first | rfl | assumption | (simp only [glit, nI_add, pk_mul]; done) | (simp only [glit, nI_add, pk_mul]; congr 1; omega) | (simp only [*, glit, nI_add, pk_mul]; congr 1; omega)) (by first | rfl | assumption | (simp only [glit, nI_add, pk_mul]; done) | (simp only [glit, nI_add, pk_mul]; congr 1; omega) | (simp only [*, glit, nI_add, pk_mul]; congr 1; omega)) (by omega) (by omega)
        refine g_aload_n C dX9_follows_19 rfl ?_
        refine g_get C dX9_follows_20 iwX9 rfl (wO_M δ _) 16 (Nat.le_of_ble_eq_true rfl) mW588 rfl rfl ?_
        refine g_iload C dX9_follows_23 rfl ?_
        refine g_aload_n C dX9_follows_25 rfl ?_
        refine g_get C dX9_follows_26 iwX9 rfl (wO_M δ _) 6 (Nat.le_of_ble_eq_true rfl) mW578 rfl rfl ?_
        refine g_bipush (v := 25) C dX9_follows_29 (by decide) ?_
        refine g_iload_n C dX9_follows_31 rfl ?_
        refine g_imul C dX9_follows_32 ?_
        refine g_iload C dX9_follows_33 rfl ?_
        refine g_iadd C dX9_follows_35 ?_
        refine g_ialdN C dX9_follows_36 (k := ((25 * u) + d)) (q := 53) (by decide) rfl (by first | rfl | assumption | (simp only [glit, nI_add, pk_mul]; done) | (simp only [glit, nI_add, pk_mul]; congr 1; omega) | (simp only [*, glit, nI_add, pk_mul]; congr 1; omega)) (show ((25 * u) + d) < gLenI 53 from Nat.lt_of_lt_of_eq (show ((25 * u) + d) < 202 by omega) rfl) ?_
        refine g_iastN C dX9_follows_37 (k := d) (q := 57) (by decide) rfl (by first | rfl | assumption | (simp only [glit, nI_add, pk_mul]; done) | (simp only [glit, nI_add, pk_mul]; congr 1; omega) | (simp only [*, glit, nI_add, pk_mul]; congr 1; omega)) (show d < gLenI 57 from Nat.lt_of_lt_of_eq (show d < 4 by omega) rfl) ?_
        refine g_iinc (v := nI (d + 1)) C dX9_follows_38 rfl (ginc _ 1) rfl ?_
        refine g_lv [some _, some _, some _, some _, some _, none, none, none, none, none, none, none, none, none, none, none, none, none] (gs_some (gs_some (gs_some (gs_some (gs_some (gs_none (gs_none (gs_none (gs_none (gs_none (gs_none (gs_none (gs_none (gs_none (gs_none (gs_none (gs_none (gs_none gs_nil)))))))))))))))))) ?_
        refine g_goto C 13 dX9_follows_41 (by decide) ?_
        refine g_lv [some _, some _, some _, some _, some _, none, none, none, none, none, none, none, none, none, none, none, none, none] (gs_some (gs_some (gs_some (gs_some (gs_some (gs_none (gs_none (gs_none (gs_none (gs_none (gs_none (gs_none (gs_none (gs_none (gs_none (gs_none (gs_none (gs_none gs_nil)))))))))))))))))) ?_
        rw [uI_uI, gI_uI, if_pos rfl]
        exact ih_13 (d + 1) _ (by omega) (fun j h => gfilI hf rfl h) (by omega)
  refine g_lv [some _, some _, some _, some _, some _, none, none, none, none, none, none, none, none, none, none, none, none, none] (gs_some (gs_some (gs_some (gs_some (gs_some (gs_none (gs_none (gs_none (gs_none (gs_none (gs_none (gs_none (gs_none (gs_none (gs_none (gs_none (gs_none (gs_none gs_nil)))))))))))))))))) ?_
  refine g_st (uI_id _ 57).symm ?_
  exact L_13 _ 0 _ (by omega) (fun _ h => absurd h (Nat.not_lt_zero _)) (Nat.lt_succ_self _)
set_option maxRecDepth 100000 in
set_option maxHeartbeats 4000000 in
theorem c_X9_more (l : Launch) (δ : GD) (σ : GS) {p c : Nat} (hc : c < 4) : gM l δ yX9_more cX9_more 2 (some .int) 0 0 [.int (nI p), .int (nI c)] σ (gPi (fun x σ' => σ = σ' ∧ x = nI (p + gmo c))) := by
  refine g_of (lv0 := [some (.int (nI p)), some (.int (nI c))]) (by decide) rfl (Nat.le_of_ble_eq_true rfl) (fun Γ hl C E => ?_)
  subst hl
  have C : gC Γ δ cX9_more RX9 2 0 0 := C
  refine g_iload_n C dX9_more_0 rfl ?_
  refine g_if_ne C 10 dX9_more_1 (by decide) (fun c_1 => ?_) (fun c_1 => ?_)
  · refine g_iload_n C dX9_more_10 rfl ?_
    refine g_iconst (v := 1) C dX9_more_11 (by decide) ?_
    refine g_icmp_ne C 22 dX9_more_12 (by decide) (fun c_12 => ?_) (fun c_12 => ?_)
    · have k_12 := gne c_12 (a := c) (b := 1) (by first | rfl | assumption | (simp only [glit, nI_add, pk_mul]; done) | (simp only [glit, nI_add, pk_mul]; congr 1; omega) | (simp only [*, glit, nI_add, pk_mul]; congr 1; omega)) (by first | rfl | assumption | (simp only [glit, nI_add, pk_mul]; done) | (simp only [glit, nI_add, pk_mul]; congr 1; omega) | (simp only [*, glit, nI_add, pk_mul]; congr 1; omega)) (by omega) (by omega)
      refine g_iload_n C dX9_more_22 rfl ?_
      refine g_iconst (v := 2) C dX9_more_23 (by decide) ?_
      refine g_icmp_ne C 35 dX9_more_24 (by decide) (fun c_24 => ?_) (fun c_24 => ?_)
      · have k_24 := gne c_24 (a := c) (b := 2) (by first | rfl | assumption | (simp only [glit, nI_add, pk_mul]; done) | (simp only [glit, nI_add, pk_mul]; congr 1; omega) | (simp only [*, glit, nI_add, pk_mul]; congr 1; omega)) (by first | rfl | assumption | (simp only [glit, nI_add, pk_mul]; done) | (simp only [glit, nI_add, pk_mul]; congr 1; omega) | (simp only [*, glit, nI_add, pk_mul]; congr 1; omega)) (by omega) (by omega)
        refine g_iload_n C dX9_more_35 rfl ?_
        exact g_iret C E dX9_more_36 rfl rfl ⟨_, rfl, ⟨rfl, by first | exact gmo0 hc c_1 | exact gmo1 hc c_12 | exact gmo2 hc c_24 | exact gmo3 hc c_1 c_12 c_24⟩⟩
      · have k_24 := geq c_24 (a := c) (b := 2) (by first | rfl | assumption | (simp only [glit, nI_add, pk_mul]; done) | (simp only [glit, nI_add, pk_mul]; congr 1; omega) | (simp only [*, glit, nI_add, pk_mul]; congr 1; omega)) (by first | rfl | assumption | (simp only [glit, nI_add, pk_mul]; done) | (simp only [glit, nI_add, pk_mul]; congr 1; omega) | (simp only [*, glit, nI_add, pk_mul]; congr 1; omega)) (by omega) (by omega)
        refine g_iload_n C dX9_more_27 rfl ?_
        refine g_sipush (v := 169) C dX9_more_28 (by decide) ?_
        refine g_iadd C dX9_more_31 ?_
        refine g_goto C 36 dX9_more_32 (by decide) ?_
        exact g_iret C E dX9_more_36 rfl rfl ⟨_, rfl, ⟨rfl, by first | exact gmo0 hc c_1 | exact gmo1 hc c_12 | exact gmo2 hc c_24 | exact gmo3 hc c_1 c_12 c_24⟩⟩
    · have k_12 := geq c_12 (a := c) (b := 1) (by first | rfl | assumption | (simp only [glit, nI_add, pk_mul]; done) | (simp only [glit, nI_add, pk_mul]; congr 1; omega) | (simp only [*, glit, nI_add, pk_mul]; congr 1; omega)) (by first | rfl | assumption | (simp only [glit, nI_add, pk_mul]; done) | (simp only [glit, nI_add, pk_mul]; congr 1; omega) | (simp only [*, glit, nI_add, pk_mul]; congr 1; omega)) (by omega) (by omega)
      refine g_iload_n C dX9_more_15 rfl ?_
      refine g_bipush (v := 13) C dX9_more_16 (by decide) ?_
      refine g_iadd C dX9_more_18 ?_
      refine g_goto C 36 dX9_more_19 (by decide) ?_
      exact g_iret C E dX9_more_36 rfl rfl ⟨_, rfl, ⟨rfl, by first | exact gmo0 hc c_1 | exact gmo1 hc c_12 | exact gmo2 hc c_24 | exact gmo3 hc c_1 c_12 c_24⟩⟩
  · refine g_iload_n C dX9_more_4 rfl ?_
    refine g_iconst (v := 1) C dX9_more_5 (by decide) ?_
    refine g_iadd C dX9_more_6 ?_
    refine g_goto C 36 dX9_more_7 (by decide) ?_
    exact g_iret C E dX9_more_36 rfl rfl ⟨_, rfl, ⟨rfl, by first | exact gmo0 hc c_1 | exact gmo1 hc c_12 | exact gmo2 hc c_24 | exact gmo3 hc c_1 c_12 c_24⟩⟩
set_option maxRecDepth 100000 in
set_option maxHeartbeats 4000000 in
theorem c_X9_at (l : Launch) (δ : GD) (σ : GS) {r p : Nat} (hr : r < 100) : gM l δ yX9_at cX9_at 2 (some .int) 0 0 [.int (nI r), .int (nI p)] σ (gPi (fun x σ' => σ = σ' ∧ x = nI (2197 * (r % 2) + p))) := by
  refine g_of (lv0 := [some (.int (nI r)), some (.int (nI p))]) (by decide) rfl (Nat.le_of_ble_eq_true rfl) (fun Γ hl C E => ?_)
  subst hl
  have C : gC Γ δ cX9_at RX9 2 0 0 := C
  refine g_sipush (v := 2197) C dX9_at_0 (by decide) ?_
  refine g_iload_n C dX9_at_3 rfl ?_
  refine g_iconst (v := 1) C dX9_at_4 (by decide) ?_
  refine g_iand C dX9_at_5 ?_
  rw [gand1 (by omega)]
  refine g_imul C dX9_at_6 ?_
  refine g_iload_n C dX9_at_7 rfl ?_
  refine g_iadd C dX9_at_8 ?_
  exact g_iret C E dX9_at_9 rfl rfl ⟨_, rfl, ⟨rfl, by simp only [glit, nI_add, pk_mul]⟩⟩
set_option maxRecDepth 100000 in
set_option maxHeartbeats 4000000 in
theorem c_X9_evenFault (l : Launch) (δ : GD) (σ : GS) {u : Nat} (hu : u < 8) {n : Nat} (hn : gI σ 52 u = nI n) (h4 : n ≤ 4) {k : Nat} (hk : k ≤ 12) : gM l δ yX9_evenFault cX9_evenFault 6 (some .int) 2 47 [.ref (δ.2.2.1 1), .int (nI u), .int (nI k)] σ (gPi (fun x σ' => gSm σ σ' ∧ (¬ x < 0 → ¬ gG σ' 15 = 0))) := by
  refine g_of (lv0 := [some (.ref (δ.2.2.1 1)), some (.int (nI u)), some (.int (nI k)), none, none, none]) (by decide) rfl (Nat.le_of_ble_eq_true rfl) (fun Γ hl C E => ?_)
  subst hl
  have C : gC Γ δ cX9_evenFault RX9 6 2 47 := C
  refine g_aload_n C dX9_evenFault_0 rfl ?_
  refine g_iload_n C dX9_evenFault_1 rfl ?_
  refine g_callVi C sV_X9_110 dX9_evenFault_2 (c_X9_isEven _ δ _ hu hn h4) ⟨by decide, by decide⟩ (wO_M δ _) rfl rfl rfl rfl (Nat.le_of_ble_eq_true rfl) (fun r_2 s_2 h_2 => ?_)
  obtain ⟨rfl, h_2⟩ := h_2
  refine g_if_eq C 16 dX9_evenFault_5 (by decide) (fun c_5 => ?_) (fun c_5 => ?_)
  · refine g_bipush (v := (-2)) C dX9_evenFault_16 (by decide) ?_
    exact g_iret C E dX9_evenFault_18 rfl rfl ⟨_, rfl, ⟨(by repeat (first | (with_reducible assumption) | (with_reducible exact gSm_r _) | (with_reducible refine gSm_I (by omega) ?_) | (with_reducible refine gSm_L (by omega) ?_) | (with_reducible refine gSm_N (by omega) ?_) | (with_reducible refine gSm_G (by omega) ?_) | (with_reducible refine gSm_P ?_))), fun h => absurd (by decide) h⟩⟩
  · refine g_aload_n C dX9_evenFault_8 rfl ?_
    refine g_iload_n C dX9_evenFault_9 rfl ?_
    refine g_callVi C sV_X9_113 dX9_evenFault_10 (c_X9_balls _ δ _ hu) ⟨by decide, by decide⟩ (wO_M δ _) rfl rfl rfl rfl (Nat.le_of_ble_eq_true rfl) (fun r_10 s_10 h_10 => ?_)
    obtain ⟨rfl, h_10⟩ := h_10
    refine g_if_ne C 19 dX9_evenFault_13 (by decide) (fun c_13 => ?_) (fun c_13 => ?_)
    · refine g_aload_n C dX9_evenFault_19 rfl ?_
      refine g_lconst (v := 1) C dX9_evenFault_20 (by decide) ?_
      refine g_put C tyX9 dX9_evenFault_21 iwX9 tyX9_ok nmX9 rfl (wO_M δ _) 20 (Nat.le_of_ble_eq_true rfl) mW592 rfl rfl rfl rfl rfl (Nat.le_of_ble_eq_true rfl) (pG_15 δ _ _) ?_
      refine g_iconst (v := 0) C dX9_evenFault_24 (by decide) ?_
      refine g_istore_n C dX9_evenFault_25 (Nat.le_of_ble_eq_true rfl) rfl ?_
      refine g_lv [some _, some _, some _, some _, none, none] (gs_some (gs_some (gs_some (gs_some (gs_none (gs_none gs_nil)))))) ?_
      have L_26 : ∀ (nn : Nat) (i : Nat) (s1 : GS) (hi : i ≤ k) (hs : gSm σ s1) (hq : 1 ≤ gG s1 15), k - i < nn → gW Γ δ s1 26 [some (.ref (δ.2.2.1 1)), some (.int (nI u)), some (.int (nI k)), some (.int (nI i)), none, none] [] := by
        intro nn
        induction nn with
        | zero =>
          intro i s1 hi hs hq hm_26
          exact absurd hm_26 (Nat.not_lt_zero _)
        | succ nn ih_26 =>
          intro i s1 hi hs hq hm_26
          refine g_iload_n C dX9_evenFault_26 rfl ?_
          refine g_iload_n C dX9_evenFault_27 rfl ?_
          refine g_icmp_ge C 91 dX9_evenFault_28 (by decide) (fun c_28 => ?_) (fun c_28 => ?_)
          · have k_28 := gle c_28 (a := k) (b := i) (by first | rfl | assumption | (simp only [glit, nI_add, pk_mul]; done) | (simp only [glit, nI_add, pk_mul]; congr 1; omega) | (simp only [*, glit, nI_add, pk_mul]; congr 1; omega)) (by first | rfl | assumption | (simp only [glit, nI_add, pk_mul]; done) | (simp only [glit, nI_add, pk_mul]; congr 1; omega) | (simp only [*, glit, nI_add, pk_mul]; congr 1; omega)) (by omega) (by omega)
            refine g_iconst (v := 0) C dX9_evenFault_91 (by decide) ?_
            exact g_iret C E dX9_evenFault_92 rfl rfl ⟨_, rfl, ⟨(by repeat (first | (with_reducible assumption) | (with_reducible exact gSm_r _) | (with_reducible refine gSm_I (by omega) ?_) | (with_reducible refine gSm_L (by omega) ?_) | (with_reducible refine gSm_N (by omega) ?_) | (with_reducible refine gSm_G (by omega) ?_) | (with_reducible refine gSm_P ?_))), fun _ => gnz1 hq⟩⟩
          · have k_28 := gnle c_28 (a := k) (b := i) (by first | rfl | assumption | (simp only [glit, nI_add, pk_mul]; done) | (simp only [glit, nI_add, pk_mul]; congr 1; omega) | (simp only [*, glit, nI_add, pk_mul]; congr 1; omega)) (by first | rfl | assumption | (simp only [glit, nI_add, pk_mul]; done) | (simp only [glit, nI_add, pk_mul]; congr 1; omega) | (simp only [*, glit, nI_add, pk_mul]; congr 1; omega)) (by omega) (by omega)
            refine g_aload_n C dX9_evenFault_31 rfl ?_
            refine g_iload_n C dX9_evenFault_32 rfl ?_
            refine g_callVi C sV_X9_113 dX9_evenFault_33 (c_X9_balls _ δ _ hu) ⟨by decide, by decide⟩ (wO_M δ _) rfl rfl rfl rfl (Nat.le_of_ble_eq_true rfl) (fun r_33 s_33 h_33 => ?_)
            obtain ⟨rfl, h_33⟩ := h_33
            refine g_i2l C dX9_evenFault_36 ?_
            refine g_iload_n C dX9_evenFault_37 rfl ?_
            refine g_i2l C dX9_evenFault_38 ?_
            refine g_aload_n C dX9_evenFault_39 rfl ?_
            refine g_iload_n C dX9_evenFault_40 rfl ?_
            refine g_iconst (v := 0) C dX9_evenFault_41 (by decide) ?_
            refine g_callVi C sV_X9_107 dX9_evenFault_42 (c_X9_addedSum _ δ _ hu (c := 0) (by omega)) ⟨by decide, by decide⟩ (wO_M δ _) rfl rfl rfl rfl (Nat.le_of_ble_eq_true rfl) (fun r_42 s_42 h_42 => ?_)
            obtain ⟨rfl, h_42⟩ := h_42
            refine g_i2l C dX9_evenFault_45 ?_
            refine g_lmul C dX9_evenFault_46 ?_
            refine g_ladd C dX9_evenFault_47 ?_
            refine g_lstore C dX9_evenFault_48 (Nat.le_of_ble_eq_true rfl) rfl ?_
            refine g_lv [some _, some _, some _, some _, some _, none] (gs_some (gs_some (gs_some (gs_some (gs_some (gs_none gs_nil)))))) ?_
            refine g_lload C dX9_evenFault_50 rfl ?_
            refine g_lconst (v := 0) C dX9_evenFault_52 (by decide) ?_
            refine g_lcmp C dX9_evenFault_53 ?_
            refine g_if_le C 85 dX9_evenFault_54 (by decide) (fun c_54 => ?_) (fun c_54 => ?_)
            · rw [lg_cmp_le] at c_54
              refine g_iinc (v := nI (i + 1)) C dX9_evenFault_85 rfl (ginc _ 1) rfl ?_
              refine g_lv [some _, some _, some _, some _, some _, none] (gs_some (gs_some (gs_some (gs_some (gs_some (gs_none gs_nil)))))) ?_
              refine g_goto C 26 dX9_evenFault_88 (by decide) ?_
              refine g_lv [some _, some _, some _, some _, none, none] (gs_some (gs_some (gs_some (gs_some (gs_none (gs_none gs_nil)))))) ?_
              exact ih_26 (i + 1) _ (by omega) (by repeat (first | (with_reducible assumption) | (with_reducible exact gSm_r _) | (with_reducible refine gSm_I (by omega) ?_) | (with_reducible refine gSm_L (by omega) ?_) | (with_reducible refine gSm_N (by omega) ?_) | (with_reducible refine gSm_G (by omega) ?_) | (with_reducible refine gSm_P ?_))) (by first | exact hq | exact (l_mulle hq (l_1le c_54) (by decide) c_68).1) (by omega)
            · rw [lg_cmp_le] at c_54
              refine g_aload_n C dX9_evenFault_57 rfl ?_
              refine g_get C dX9_evenFault_58 iwX9 rfl (wO_M δ _) 20 (Nat.le_of_ble_eq_true rfl) mW592 rfl rfl ?_
              refine g_ldc2 C dX9_evenFault_61 mW817 ?_
              refine g_lload C dX9_evenFault_64 rfl ?_
              refine g_ldiv C dX9_evenFault_66 (gnz1 (l_1le c_54)) ?_
              refine g_lcmp C dX9_evenFault_67 ?_
              refine g_if_le C 74 dX9_evenFault_68 (by decide) (fun c_68 => ?_) (fun c_68 => ?_)
              · rw [lg_cmp_le] at c_68
                refine g_aload_n C dX9_evenFault_74 rfl ?_
                refine g_dup C dX9_evenFault_75 rfl ?_
                refine g_get C dX9_evenFault_76 iwX9 rfl (wO_M δ _) 20 (Nat.le_of_ble_eq_true rfl) mW592 rfl rfl ?_
                refine g_lload C dX9_evenFault_79 rfl ?_
                refine g_lmul C dX9_evenFault_81 ?_
                refine g_put C tyX9 dX9_evenFault_82 iwX9 tyX9_ok nmX9 rfl (wO_M δ _) 20 (Nat.le_of_ble_eq_true rfl) mW592 rfl rfl rfl rfl rfl (Nat.le_of_ble_eq_true rfl) (pG_15 δ _ _) ?_
                refine g_iinc (v := nI (i + 1)) C dX9_evenFault_85 rfl (ginc _ 1) rfl ?_
                refine g_lv [some _, some _, some _, some _, some _, none] (gs_some (gs_some (gs_some (gs_some (gs_some (gs_none gs_nil)))))) ?_
                refine g_goto C 26 dX9_evenFault_88 (by decide) ?_
                refine g_lv [some _, some _, some _, some _, none, none] (gs_some (gs_some (gs_some (gs_some (gs_none (gs_none gs_nil)))))) ?_
                exact ih_26 (i + 1) _ (by omega) (by repeat (first | (with_reducible assumption) | (with_reducible exact gSm_r _) | (with_reducible refine gSm_I (by omega) ?_) | (with_reducible refine gSm_L (by omega) ?_) | (with_reducible refine gSm_N (by omega) ?_) | (with_reducible refine gSm_G (by omega) ?_) | (with_reducible refine gSm_P ?_))) (by first | exact hq | exact (l_mulle hq (l_1le c_54) (by decide) c_68).1) (by omega)
              · rw [lg_cmp_le] at c_68
                refine g_bipush (v := (-6)) C dX9_evenFault_71 (by decide) ?_
                exact g_iret C E dX9_evenFault_73 rfl rfl ⟨_, rfl, ⟨(by repeat (first | (with_reducible assumption) | (with_reducible exact gSm_r _) | (with_reducible refine gSm_I (by omega) ?_) | (with_reducible refine gSm_L (by omega) ?_) | (with_reducible refine gSm_N (by omega) ?_) | (with_reducible refine gSm_G (by omega) ?_) | (with_reducible refine gSm_P ?_))), fun h => absurd (by decide) h⟩⟩
      refine g_lv [some _, some _, some _, some _, none, none] (gs_some (gs_some (gs_some (gs_some (gs_none (gs_none gs_nil)))))) ?_
      exact L_26 _ 0 _ (by omega) (by repeat (first | (with_reducible assumption) | (with_reducible exact gSm_r _) | (with_reducible refine gSm_I (by omega) ?_) | (with_reducible refine gSm_L (by omega) ?_) | (with_reducible refine gSm_N (by omega) ?_) | (with_reducible refine gSm_G (by omega) ?_) | (with_reducible refine gSm_P ?_))) (Int64.le_refl 1) (Nat.lt_succ_self _)
    · refine g_bipush (v := (-2)) C dX9_evenFault_16 (by decide) ?_
      exact g_iret C E dX9_evenFault_18 rfl rfl ⟨_, rfl, ⟨(by repeat (first | (with_reducible assumption) | (with_reducible exact gSm_r _) | (with_reducible refine gSm_I (by omega) ?_) | (with_reducible refine gSm_L (by omega) ?_) | (with_reducible refine gSm_N (by omega) ?_) | (with_reducible refine gSm_G (by omega) ?_) | (with_reducible refine gSm_P ?_))), fun h => absurd (by decide) h⟩⟩
set_option maxRecDepth 100000 in
set_option maxHeartbeats 4000000 in
theorem c_X9_looksAt (l : Launch) (δ : GD) (σ : GS) {u : Nat} (hu : u < 8) {p k : Nat} : gM l δ yX9_looksAt cX9_looksAt 6 none 0 0 [.ref (δ.2.2.1 1), .int (nI u), .int (nI p), .int (nI k)] σ (gPv (fun σ' => gSm σ σ' ∧ gL σ' 14 = gL σ 14 ∧ gG σ' 15 = gG σ 15)) := by
  refine g_of (lv0 := [some (.ref (δ.2.2.1 1)), some (.int (nI u)), some (.int (nI p)), some (.int (nI k)), none, none]) (by decide) rfl (Nat.le_of_ble_eq_true rfl) (fun Γ hl C E => ?_)
  subst hl
  have C : gC Γ δ cX9_looksAt RX9 6 0 0 := C
  refine g_aload_n C dX9_looksAt_0 rfl ?_
  refine g_get C dX9_looksAt_1 iwX9 rfl (wO_M δ _) 22 (Nat.le_of_ble_eq_true rfl) mW594 rfl rfl ?_
  refine g_iconst (v := 0) C dX9_looksAt_4 (by decide) ?_
  refine g_iload_n C dX9_looksAt_5 rfl ?_
  refine g_bipush (v := 13) C dX9_looksAt_6 (by decide) ?_
  refine g_irem C dX9_looksAt_8 (by decide) ?_
  refine g_iastN C dX9_looksAt_9 (k := 0) (q := 58) (by decide) rfl (by first | rfl | assumption | (simp only [glit, nI_add, pk_mul]; done) | (simp only [glit, nI_add, pk_mul]; congr 1; omega) | (simp only [*, glit, nI_add, pk_mul]; congr 1; omega)) (show 0 < gLenI 58 from Nat.lt_of_lt_of_eq (show 0 < 4 by omega) rfl) ?_
  refine g_aload_n C dX9_looksAt_10 rfl ?_
  refine g_get C dX9_looksAt_11 iwX9 rfl (wO_M δ _) 22 (Nat.le_of_ble_eq_true rfl) mW594 rfl rfl ?_
  refine g_iconst (v := 1) C dX9_looksAt_14 (by decide) ?_
  refine g_iload_n C dX9_looksAt_15 rfl ?_
  refine g_bipush (v := 13) C dX9_looksAt_16 (by decide) ?_
  refine g_idiv C dX9_looksAt_18 (by decide) ?_
  refine g_bipush (v := 13) C dX9_looksAt_19 (by decide) ?_
  refine g_irem C dX9_looksAt_21 (by decide) ?_
  refine g_iastN C dX9_looksAt_22 (k := 1) (q := 58) (by decide) rfl (by first | rfl | assumption | (simp only [glit, nI_add, pk_mul]; done) | (simp only [glit, nI_add, pk_mul]; congr 1; omega) | (simp only [*, glit, nI_add, pk_mul]; congr 1; omega)) (show 1 < gLenI 58 from Nat.lt_of_lt_of_eq (show 1 < 4 by omega) rfl) ?_
  refine g_aload_n C dX9_looksAt_23 rfl ?_
  refine g_get C dX9_looksAt_24 iwX9 rfl (wO_M δ _) 22 (Nat.le_of_ble_eq_true rfl) mW594 rfl rfl ?_
  refine g_iconst (v := 2) C dX9_looksAt_27 (by decide) ?_
  refine g_iload_n C dX9_looksAt_28 rfl ?_
  refine g_sipush (v := 169) C dX9_looksAt_29 (by decide) ?_
  refine g_idiv C dX9_looksAt_32 (by decide) ?_
  refine g_iastN C dX9_looksAt_33 (k := 2) (q := 58) (by decide) rfl (by first | rfl | assumption | (simp only [glit, nI_add, pk_mul]; done) | (simp only [glit, nI_add, pk_mul]; congr 1; omega) | (simp only [*, glit, nI_add, pk_mul]; congr 1; omega)) (show 2 < gLenI 58 from Nat.lt_of_lt_of_eq (show 2 < 4 by omega) rfl) ?_
  refine g_aload_n C dX9_looksAt_34 rfl ?_
  refine g_get C dX9_looksAt_35 iwX9 rfl (wO_M δ _) 22 (Nat.le_of_ble_eq_true rfl) mW594 rfl rfl ?_
  refine g_iconst (v := 3) C dX9_looksAt_38 (by decide) ?_
  refine g_iload_n C dX9_looksAt_39 rfl ?_
  refine g_aload_n C dX9_looksAt_40 rfl ?_
  refine g_get C dX9_looksAt_41 iwX9 rfl (wO_M δ _) 22 (Nat.le_of_ble_eq_true rfl) mW594 rfl rfl ?_
  refine g_iconst (v := 0) C dX9_looksAt_44 (by decide) ?_
  refine g_ialdN C dX9_looksAt_45 (k := 0) (q := 58) (by decide) rfl (by first | rfl | assumption | (simp only [glit, nI_add, pk_mul]; done) | (simp only [glit, nI_add, pk_mul]; congr 1; omega) | (simp only [*, glit, nI_add, pk_mul]; congr 1; omega)) (show 0 < gLenI 58 from Nat.lt_of_lt_of_eq (show 0 < 4 by omega) rfl) ?_
  refine g_isub C dX9_looksAt_46 ?_
  refine g_aload_n C dX9_looksAt_47 rfl ?_
  refine g_get C dX9_looksAt_48 iwX9 rfl (wO_M δ _) 22 (Nat.le_of_ble_eq_true rfl) mW594 rfl rfl ?_
  refine g_iconst (v := 1) C dX9_looksAt_51 (by decide) ?_
  refine g_ialdN C dX9_looksAt_52 (k := 1) (q := 58) (by decide) rfl (by first | rfl | assumption | (simp only [glit, nI_add, pk_mul]; done) | (simp only [glit, nI_add, pk_mul]; congr 1; omega) | (simp only [*, glit, nI_add, pk_mul]; congr 1; omega)) (show 1 < gLenI 58 from Nat.lt_of_lt_of_eq (show 1 < 4 by omega) rfl) ?_
  refine g_isub C dX9_looksAt_53 ?_
  refine g_aload_n C dX9_looksAt_54 rfl ?_
  refine g_get C dX9_looksAt_55 iwX9 rfl (wO_M δ _) 22 (Nat.le_of_ble_eq_true rfl) mW594 rfl rfl ?_
  refine g_iconst (v := 2) C dX9_looksAt_58 (by decide) ?_
  refine g_ialdN C dX9_looksAt_59 (k := 2) (q := 58) (by decide) rfl (by first | rfl | assumption | (simp only [glit, nI_add, pk_mul]; done) | (simp only [glit, nI_add, pk_mul]; congr 1; omega) | (simp only [*, glit, nI_add, pk_mul]; congr 1; omega)) (show 2 < gLenI 58 from Nat.lt_of_lt_of_eq (show 2 < 4 by omega) rfl) ?_
  refine g_isub C dX9_looksAt_60 ?_
  refine g_iastN C dX9_looksAt_61 (k := 3) (q := 58) (by decide) rfl (by first | rfl | assumption | (simp only [glit, nI_add, pk_mul]; done) | (simp only [glit, nI_add, pk_mul]; congr 1; omega) | (simp only [*, glit, nI_add, pk_mul]; congr 1; omega)) (show 3 < gLenI 58 from Nat.lt_of_lt_of_eq (show 3 < 4 by omega) rfl) ?_
  refine g_iconst (v := 0) C dX9_looksAt_62 (by decide) ?_
  refine g_istore C dX9_looksAt_63 (Nat.le_of_ble_eq_true rfl) rfl ?_
  refine g_lv [some _, some _, some _, some _, some _, none] (gs_some (gs_some (gs_some (gs_some (gs_some (gs_none gs_nil)))))) ?_
  have L_65 : ∀ (nn : Nat) (d : Nat) (s1 : GS) (hd : d ≤ 4) (hs : gSm σ s1) (he : gL s1 14 = gL σ 14 ∧ gG s1 15 = gG σ 15), 4 - d < nn → gW Γ δ s1 65 [some (.ref (δ.2.2.1 1)), some (.int (nI u)), some (.int (nI p)), some (.int (nI k)), some (.int (nI d)), none] [] := by
    intro nn
    induction nn with
    | zero =>
      intro d s1 hd hs he hm_65
      exact absurd hm_65 (Nat.not_lt_zero _)
    | succ nn ih_65 =>
      intro d s1 hd hs he hm_65
      refine g_iload C dX9_looksAt_65 rfl ?_
      refine g_iconst (v := 4) C dX9_looksAt_67 (by decide) ?_
      refine g_icmp_ge C 148 dX9_looksAt_68 (by decide) (fun c_68 => ?_) (fun c_68 => ?_)
      · have k_68 := gle c_68 (a := 4) (b := d) (by first | rfl | assumption | (simp only [glit, nI_add, pk_mul]; done) | (simp only [glit, nI_add, pk_mul]; congr 1; omega) | (simp only [*, glit, nI_add, pk_mul]; congr 1; omega)) (by first | rfl | assumption | (simp only [glit, nI_add, pk_mul]; done) | (simp only [glit, nI_add, pk_mul]; congr 1; omega) | (simp only [*, glit, nI_add, pk_mul]; congr 1; omega)) (by omega) (by omega)
        exact g_vret C E dX9_looksAt_148 rfl ⟨rfl, ⟨hs, he⟩⟩
      · have k_68 := gnle c_68 (a := 4) (b := d) (by first | rfl | assumption | (simp only [glit, nI_add, pk_mul]; done) | (simp only [glit, nI_add, pk_mul]; congr 1; omega) | (simp only [*, glit, nI_add, pk_mul]; congr 1; omega)) (by first | rfl | assumption | (simp only [glit, nI_add, pk_mul]; done) | (simp only [glit, nI_add, pk_mul]; congr 1; omega) | (simp only [*, glit, nI_add, pk_mul]; congr 1; omega)) (by omega) (by omega)
        refine g_aload_n C dX9_looksAt_71 rfl ?_
        refine g_get C dX9_looksAt_72 iwX9 rfl (wO_M δ _) 23 (Nat.le_of_ble_eq_true rfl) mW595 rfl rfl ?_
        refine g_iload C dX9_looksAt_75 rfl ?_
        refine g_aload_n C dX9_looksAt_77 rfl ?_
        refine g_get C dX9_looksAt_78 iwX9 rfl (wO_M δ _) 6 (Nat.le_of_ble_eq_true rfl) mW578 rfl rfl ?_
        refine g_bipush (v := 25) C dX9_looksAt_81 (by decide) ?_
        refine g_iload_n C dX9_looksAt_83 rfl ?_
        refine g_imul C dX9_looksAt_84 ?_
        refine g_iload C dX9_looksAt_85 rfl ?_
        refine g_iadd C dX9_looksAt_87 ?_
        refine g_ialdN C dX9_looksAt_88 (k := ((25 * u) + d)) (q := 53) (by decide) rfl (by first | rfl | assumption | (simp only [glit, nI_add, pk_mul]; done) | (simp only [glit, nI_add, pk_mul]; congr 1; omega) | (simp only [*, glit, nI_add, pk_mul]; congr 1; omega)) (show ((25 * u) + d) < gLenI 53 from Nat.lt_of_lt_of_eq (show ((25 * u) + d) < 202 by omega) rfl) ?_
        refine g_iastN C dX9_looksAt_89 (k := d) (q := 59) (by decide) rfl (by first | rfl | assumption | (simp only [glit, nI_add, pk_mul]; done) | (simp only [glit, nI_add, pk_mul]; congr 1; omega) | (simp only [*, glit, nI_add, pk_mul]; congr 1; omega)) (show d < gLenI 59 from Nat.lt_of_lt_of_eq (show d < 4 by omega) rfl) ?_
        refine g_iconst (v := 0) C dX9_looksAt_90 (by decide) ?_
        refine g_istore C dX9_looksAt_91 (Nat.le_of_ble_eq_true rfl) rfl ?_
        refine g_lv [some _, some _, some _, some _, some _, some _] (gs_some (gs_some (gs_some (gs_some (gs_some (gs_some gs_nil)))))) ?_
        have L_93 : ∀ (nn : Nat) (c : Nat) (s2 : GS) (hc : c ≤ 4) (hs2 : gSm σ s2) (he2 : gL s2 14 = gL σ 14 ∧ gG s2 15 = gG σ 15), 4 - c < nn → gW Γ δ s2 93 [some (.ref (δ.2.2.1 1)), some (.int (nI u)), some (.int (nI p)), some (.int (nI k)), some (.int (nI d)), some (.int (nI c))] [] := by
          intro nn
          induction nn with
          | zero =>
            intro c s2 hc hs2 he2 hm_93
            exact absurd hm_93 (Nat.not_lt_zero _)
          | succ nn ih_93 =>
            intro c s2 hc hs2 he2 hm_93
            refine g_iload C dX9_looksAt_93 rfl ?_
            refine g_iconst (v := 4) C dX9_looksAt_95 (by decide) ?_
            refine g_icmp_ge C 142 dX9_looksAt_96 (by decide) (fun c_96 => ?_) (fun c_96 => ?_)
            · have k_96 := gle c_96 (a := 4) (b := c) (by first | rfl | assumption | (simp only [glit, nI_add, pk_mul]; done) | (simp only [glit, nI_add, pk_mul]; congr 1; omega) | (simp only [*, glit, nI_add, pk_mul]; congr 1; omega)) (by first | rfl | assumption | (simp only [glit, nI_add, pk_mul]; done) | (simp only [glit, nI_add, pk_mul]; congr 1; omega) | (simp only [*, glit, nI_add, pk_mul]; congr 1; omega)) (by omega) (by omega)
              refine g_iinc (v := nI (d + 1)) C dX9_looksAt_142 rfl (ginc _ 1) rfl ?_
              refine g_lv [some _, some _, some _, some _, some _, some _] (gs_some (gs_some (gs_some (gs_some (gs_some (gs_some gs_nil)))))) ?_
              refine g_goto C 65 dX9_looksAt_145 (by decide) ?_
              refine g_lv [some _, some _, some _, some _, some _, none] (gs_some (gs_some (gs_some (gs_some (gs_some (gs_none gs_nil)))))) ?_
              exact ih_65 (d + 1) _ (by omega) (by repeat (first | (with_reducible assumption) | (with_reducible exact gSm_r _) | (with_reducible refine gSm_I (by omega) ?_) | (with_reducible refine gSm_L (by omega) ?_) | (with_reducible refine gSm_N (by omega) ?_) | (with_reducible refine gSm_G (by omega) ?_) | (with_reducible refine gSm_P ?_))) he2 (by omega)
            · have k_96 := gnle c_96 (a := 4) (b := c) (by first | rfl | assumption | (simp only [glit, nI_add, pk_mul]; done) | (simp only [glit, nI_add, pk_mul]; congr 1; omega) | (simp only [*, glit, nI_add, pk_mul]; congr 1; omega)) (by first | rfl | assumption | (simp only [glit, nI_add, pk_mul]; done) | (simp only [glit, nI_add, pk_mul]; congr 1; omega) | (simp only [*, glit, nI_add, pk_mul]; congr 1; omega)) (by omega) (by omega)
              refine g_aload_n C dX9_looksAt_99 rfl ?_
              refine g_get C dX9_looksAt_100 iwX9 rfl (wO_M δ _) 23 (Nat.le_of_ble_eq_true rfl) mW595 rfl rfl ?_
              refine g_iload C dX9_looksAt_103 rfl ?_
              refine g_dup2 C dX9_looksAt_105 rfl rfl ?_
              refine g_ialdN C dX9_looksAt_106 (k := d) (q := 59) (by decide) rfl (by first | rfl | assumption | (simp only [glit, nI_add, pk_mul]; done) | (simp only [glit, nI_add, pk_mul]; congr 1; omega) | (simp only [*, glit, nI_add, pk_mul]; congr 1; omega)) (show d < gLenI 59 from Nat.lt_of_lt_of_eq (show d < 4 by omega) rfl) ?_
              refine g_aload_n C dX9_looksAt_107 rfl ?_
              refine g_get C dX9_looksAt_108 iwX9 rfl (wO_M δ _) 22 (Nat.le_of_ble_eq_true rfl) mW594 rfl rfl ?_
              refine g_iload C dX9_looksAt_111 rfl ?_
              refine g_ialdN C dX9_looksAt_113 (k := c) (q := 58) (by decide) rfl (by first | rfl | assumption | (simp only [glit, nI_add, pk_mul]; done) | (simp only [glit, nI_add, pk_mul]; congr 1; omega) | (simp only [*, glit, nI_add, pk_mul]; congr 1; omega)) (show c < gLenI 58 from Nat.lt_of_lt_of_eq (show c < 4 by omega) rfl) ?_
              refine g_aload_n C dX9_looksAt_114 rfl ?_
              refine g_get C dX9_looksAt_115 iwX9 rfl (wO_M δ _) 6 (Nat.le_of_ble_eq_true rfl) mW578 rfl rfl ?_
              refine g_bipush (v := 25) C dX9_looksAt_118 (by decide) ?_
              refine g_iload_n C dX9_looksAt_120 rfl ?_
              refine g_imul C dX9_looksAt_121 ?_
              refine g_iconst (v := 4) C dX9_looksAt_122 (by decide) ?_
              refine g_iadd C dX9_looksAt_123 ?_
              refine g_iconst (v := 4) C dX9_looksAt_124 (by decide) ?_
              refine g_iload C dX9_looksAt_125 rfl ?_
              refine g_imul C dX9_looksAt_127 ?_
              refine g_iadd C dX9_looksAt_128 ?_
              refine g_iload C dX9_looksAt_129 rfl ?_
              refine g_iadd C dX9_looksAt_131 ?_
              refine g_ialdN C dX9_looksAt_132 (k := (25 * u + 4 + (c * 4 + d))) (q := 53) (by decide) rfl (by first | rfl | assumption | (simp only [glit, nI_add, pk_mul]; done) | (simp only [glit, nI_add, pk_mul]; congr 1; omega) | (simp only [*, glit, nI_add, pk_mul]; congr 1; omega)) (show (25 * u + 4 + (c * 4 + d)) < gLenI 53 from Nat.lt_of_lt_of_eq (show (25 * u + 4 + (c * 4 + d)) < 202 by omega) rfl) ?_
              refine g_imul C dX9_looksAt_133 ?_
              refine g_iadd C dX9_looksAt_134 ?_
              refine g_iastN C dX9_looksAt_135 (k := d) (q := 59) (by decide) rfl (by first | rfl | assumption | (simp only [glit, nI_add, pk_mul]; done) | (simp only [glit, nI_add, pk_mul]; congr 1; omega) | (simp only [*, glit, nI_add, pk_mul]; congr 1; omega)) (show d < gLenI 59 from Nat.lt_of_lt_of_eq (show d < 4 by omega) rfl) ?_
              refine g_iinc (v := nI (c + 1)) C dX9_looksAt_136 rfl (ginc _ 1) rfl ?_
              refine g_lv [some _, some _, some _, some _, some _, some _] (gs_some (gs_some (gs_some (gs_some (gs_some (gs_some gs_nil)))))) ?_
              refine g_goto C 93 dX9_looksAt_139 (by decide) ?_
              refine g_lv [some _, some _, some _, some _, some _, some _] (gs_some (gs_some (gs_some (gs_some (gs_some (gs_some gs_nil)))))) ?_
              exact ih_93 (c + 1) _ (by omega) (by repeat (first | (with_reducible assumption) | (with_reducible exact gSm_r _) | (with_reducible refine gSm_I (by omega) ?_) | (with_reducible refine gSm_L (by omega) ?_) | (with_reducible refine gSm_N (by omega) ?_) | (with_reducible refine gSm_G (by omega) ?_) | (with_reducible refine gSm_P ?_))) he2 (by omega)
        refine g_lv [some _, some _, some _, some _, some _, some _] (gs_some (gs_some (gs_some (gs_some (gs_some (gs_some gs_nil)))))) ?_
        exact L_93 _ 0 _ (by omega) (by repeat (first | (with_reducible assumption) | (with_reducible exact gSm_r _) | (with_reducible refine gSm_I (by omega) ?_) | (with_reducible refine gSm_L (by omega) ?_) | (with_reducible refine gSm_N (by omega) ?_) | (with_reducible refine gSm_G (by omega) ?_) | (with_reducible refine gSm_P ?_))) he (Nat.lt_succ_self _)
  refine g_lv [some _, some _, some _, some _, some _, none] (gs_some (gs_some (gs_some (gs_some (gs_some (gs_none gs_nil)))))) ?_
  exact L_65 _ 0 _ (by omega) (by repeat (first | (with_reducible assumption) | (with_reducible exact gSm_r _) | (with_reducible refine gSm_I (by omega) ?_) | (with_reducible refine gSm_L (by omega) ?_) | (with_reducible refine gSm_N (by omega) ?_) | (with_reducible refine gSm_G (by omega) ?_) | (with_reducible refine gSm_P ?_))) ⟨rfl, rfl⟩ (Nat.lt_succ_self _)
set_option maxRecDepth 100000 in
set_option maxHeartbeats 4000000 in
theorem c_X9_spreads (l : Launch) (δ : GD) (σ : GS) {u : Nat} (hu : u < 8) {p k : Nat} (hk : k ≤ 11) (hp : p ≤ 169 * k) (t r : Int64) (o a : Int32) (h1 : gWi (gL σ 14) k k) (h2 : gWi (gL σ 14) (k + 1) (k + 1)) : gM l δ yX9_spreads cX9_spreads 15 none 1 25 [.ref (δ.2.2.1 1), .int (nI u), .int (nI p), .int (nI k), .long t, .long r, .int o, .int a] σ (gPv (fun σ' => gSm σ σ' ∧ gG σ' 15 = gG σ 15 ∧ gWi (gL σ' 14) k k ∧ gWi (gL σ' 14) (k + 1) (k + 1))) := by
  refine g_of (lv0 := [some (.ref (δ.2.2.1 1)), some (.int (nI u)), some (.int (nI p)), some (.int (nI k)), some (.long t), none, some (.long r), none, some (.int o), some (.int a), none, none, none, none, none]) (by decide) rfl (Nat.le_of_ble_eq_true rfl) (fun Γ hl C E => ?_)
  subst hl
  have C : gC Γ δ cX9_spreads RX9 15 1 25 := C
  refine g_aload_n C dX9_spreads_0 rfl ?_
  refine g_get C dX9_spreads_1 iwX9 rfl (wO_M δ _) 19 (Nat.le_of_ble_eq_true rfl) mW591 rfl rfl ?_
  refine g_iload_n C dX9_spreads_4 rfl ?_
  refine g_iload_n C dX9_spreads_5 rfl ?_
  refine g_callSi C sS_X9_186 dX9_spreads_6 (c_X9_at _ δ _ (r := k) (p := p) (by omega)) ⟨by decide, by decide⟩ rfl rfl rfl (Nat.le_of_ble_eq_true rfl) (fun r_6 s_6 h_6 => ?_)
  obtain ⟨rfl, rfl⟩ := h_6
  refine g_laldN C dX9_spreads_9 (k := (2197 * ((k) % 2) + (p))) (q := 14) (by decide) rfl (by first | rfl | assumption | (simp only [glit, nI_add, pk_mul]; done) | (simp only [glit, nI_add, pk_mul]; congr 1; omega) | (simp only [*, glit, nI_add, pk_mul]; congr 1; omega)) (show (2197 * ((k) % 2) + (p)) < gLenL 14 from Nat.lt_of_lt_of_eq (show (2197 * ((k) % 2) + (p)) < 4394 by omega) rfl) ?_
  refine g_lstore C dX9_spreads_10 (Nat.le_of_ble_eq_true rfl) rfl ?_
  refine g_lv [some _, some _, some _, some _, some _, none, some _, none, some _, some _, some _, none, none, none, none] (gs_some (gs_some (gs_some (gs_some (gs_some (gs_none (gs_some (gs_none (gs_some (gs_some (gs_some (gs_none (gs_none (gs_none (gs_none gs_nil))))))))))))))) ?_
  refine g_lload C dX9_spreads_12 rfl ?_
  refine g_lconst (v := 0) C dX9_spreads_14 (by decide) ?_
  refine g_lcmp C dX9_spreads_15 ?_
  refine g_if_gt C 34 dX9_spreads_16 (by decide) (fun c_16 => ?_) (fun c_16 => ?_)
  · rw [lg_cmp_gt] at c_16
    refine g_iconst (v := 0) C dX9_spreads_34 (by decide) ?_
    refine g_istore C dX9_spreads_35 (Nat.le_of_ble_eq_true rfl) rfl ?_
    refine g_lv [some _, some _, some _, some _, some _, none, some _, none, some _, some _, some _, none, some _, none, none] (gs_some (gs_some (gs_some (gs_some (gs_some (gs_none (gs_some (gs_none (gs_some (gs_some (gs_some (gs_none (gs_some (gs_none (gs_none gs_nil))))))))))))))) ?_
    have L_37 : ∀ (nn : Nat) (c : Nat) (hc : c ≤ 4) (s1 : GS) (z1 : gSm σ s1) (q1 : gG s1 15 = gG σ 15) (v1 : gWi (gL s1 14) k k) (x1 : gWi (gL s1 14) (k + 1) (k + 1)), 4 - c < nn → gW Γ δ s1 37 [some (.ref (δ.2.2.1 1)), some (.int (nI u)), some (.int (nI p)), some (.int (nI k)), some (.long t), none, some (.long r), none, some (.int o), some (.int a), some (.long (gL σ 14 (2197 * (k % 2) + p))), none, some (.int (nI c)), none, none] [] := by
      intro nn
      induction nn with
      | zero =>
        intro c hc s1 z1 q1 v1 x1 hm_37
        exact absurd hm_37 (Nat.not_lt_zero _)
      | succ nn ih_37 =>
        intro c hc s1 z1 q1 v1 x1 hm_37
        have hg := gmo_le c
        refine g_iload C dX9_spreads_37 rfl ?_
        refine g_iconst (v := 4) C dX9_spreads_39 (by decide) ?_
        refine g_icmp_ge C 225 dX9_spreads_40 (by decide) (fun c_40 => ?_) (fun c_40 => ?_)
        · have k_40 := gle c_40 (a := 4) (b := c) (by first | rfl | assumption | (simp only [glit, nI_add, pk_mul]; done) | (simp only [glit, nI_add, pk_mul]; congr 1; omega) | (simp only [*, glit, nI_add, pk_mul]; congr 1; omega)) (by first | rfl | assumption | (simp only [glit, nI_add, pk_mul]; done) | (simp only [glit, nI_add, pk_mul]; congr 1; omega) | (simp only [*, glit, nI_add, pk_mul]; congr 1; omega)) (by omega) (by omega)
          exact g_vret C E dX9_spreads_225 rfl ⟨rfl, ⟨z1, q1, v1, x1⟩⟩
        · have k_40 := gnle c_40 (a := 4) (b := c) (by first | rfl | assumption | (simp only [glit, nI_add, pk_mul]; done) | (simp only [glit, nI_add, pk_mul]; congr 1; omega) | (simp only [*, glit, nI_add, pk_mul]; congr 1; omega)) (by first | rfl | assumption | (simp only [glit, nI_add, pk_mul]; done) | (simp only [glit, nI_add, pk_mul]; congr 1; omega) | (simp only [*, glit, nI_add, pk_mul]; congr 1; omega)) (by omega) (by omega)
          refine g_iconst (v := 1) C dX9_spreads_43 (by decide) ?_
          refine g_istore C dX9_spreads_44 (Nat.le_of_ble_eq_true rfl) rfl ?_
          refine g_lv [some _, some _, some _, some _, some _, none, some _, none, some _, some _, some _, none, some _, some _, none] (gs_some (gs_some (gs_some (gs_some (gs_some (gs_none (gs_some (gs_none (gs_some (gs_some (gs_some (gs_none (gs_some (gs_some (gs_none gs_nil))))))))))))))) ?_
          refine g_iconst (v := 0) C dX9_spreads_46 (by decide) ?_
          refine g_istore C dX9_spreads_47 (Nat.le_of_ble_eq_true rfl) rfl ?_
          refine g_lv [some _, some _, some _, some _, some _, none, some _, none, some _, some _, some _, none, some _, some _, some _] (gs_some (gs_some (gs_some (gs_some (gs_some (gs_none (gs_some (gs_none (gs_some (gs_some (gs_some (gs_none (gs_some (gs_some (gs_some gs_nil))))))))))))))) ?_
          have L_49 : ∀ (nn : Nat) (d : Nat) (b : Int32) (hd : d ≤ 4), 4 - d < nn → gW Γ δ s1 49 [some (.ref (δ.2.2.1 1)), some (.int (nI u)), some (.int (nI p)), some (.int (nI k)), some (.long t), none, some (.long r), none, some (.int o), some (.int a), some (.long (gL σ 14 (2197 * (k % 2) + p))), none, some (.int (nI c)), some (.int b), some (.int (nI d))] [] := by
            intro nn
            induction nn with
            | zero =>
              intro d b hd hm_49
              exact absurd hm_49 (Nat.not_lt_zero _)
            | succ nn ih_49 =>
              intro d b hd hm_49
              refine g_iload C dX9_spreads_49 rfl ?_
              refine g_iconst (v := 4) C dX9_spreads_51 (by decide) ?_
              refine g_icmp_ge C 111 dX9_spreads_52 (by decide) (fun c_52 => ?_) (fun c_52 => ?_)
              · have k_52 := gle c_52 (a := 4) (b := d) (by first | rfl | assumption | (simp only [glit, nI_add, pk_mul]; done) | (simp only [glit, nI_add, pk_mul]; congr 1; omega) | (simp only [*, glit, nI_add, pk_mul]; congr 1; omega)) (by first | rfl | assumption | (simp only [glit, nI_add, pk_mul]; done) | (simp only [glit, nI_add, pk_mul]; congr 1; omega) | (simp only [*, glit, nI_add, pk_mul]; congr 1; omega)) (by omega) (by omega)
                have J_149 : ∀ (s2 : GS) (z2 : gSm σ s2) (q2 : gG s2 15 = gG σ 15) (v2 : gWi (gL s2 14) k k) (x2 : gWi (gL s2 14) (k + 1) (k + 1)), gW Γ δ s2 149 [some (.ref (δ.2.2.1 1)), some (.int (nI u)), some (.int (nI p)), some (.int (nI k)), some (.long t), none, some (.long r), none, some (.int o), some (.int a), some (.long (gL σ 14 (2197 * (k % 2) + p))), none, some (.int (nI c)), some (.int b), some (.int (nI d))] [] := by
                  intro s2 z2 q2 v2 x2
                  refine g_aload_n C dX9_spreads_149 rfl ?_
                  refine g_get C dX9_spreads_150 iwX9 rfl (wO_M δ _) 23 (Nat.le_of_ble_eq_true rfl) mW595 rfl rfl ?_
                  refine g_iload C dX9_spreads_153 rfl ?_
                  refine g_ialdN C dX9_spreads_155 (k := c) (q := 59) (by decide) rfl (by first | rfl | assumption | (simp only [glit, nI_add, pk_mul]; done) | (simp only [glit, nI_add, pk_mul]; congr 1; omega) | (simp only [*, glit, nI_add, pk_mul]; congr 1; omega)) (show c < gLenI 59 from Nat.lt_of_lt_of_eq (show c < 4 by omega) rfl) ?_
                  refine g_if_le C 219 dX9_spreads_156 (by decide) (fun c_156 => ?_) (fun c_156 => ?_)
                  · refine g_iinc (v := nI (c + 1)) C dX9_spreads_219 rfl (ginc _ 1) rfl ?_
                    refine g_lv [some _, some _, some _, some _, some _, none, some _, none, some _, some _, some _, none, some _, some _, some _] (gs_some (gs_some (gs_some (gs_some (gs_some (gs_none (gs_some (gs_none (gs_some (gs_some (gs_some (gs_none (gs_some (gs_some (gs_some gs_nil))))))))))))))) ?_
                    refine g_goto C 37 dX9_spreads_222 (by decide) ?_
                    refine g_lv [some _, some _, some _, some _, some _, none, some _, none, some _, some _, some _, none, some _, none, none] (gs_some (gs_some (gs_some (gs_some (gs_some (gs_none (gs_some (gs_none (gs_some (gs_some (gs_some (gs_none (gs_some (gs_none (gs_none gs_nil))))))))))))))) ?_
                    exact ih_37 (c + 1) (by omega) _ (by repeat (first | (with_reducible assumption) | (with_reducible exact gSm_r _) | (with_reducible refine gSm_I (by omega) ?_) | (with_reducible refine gSm_L (by omega) ?_) | (with_reducible refine gSm_N (by omega) ?_) | (with_reducible refine gSm_G (by omega) ?_) | (with_reducible refine gSm_P ?_))) q2 (by first | exact v2 | exact (gWi_u v2 x2 (by omega) (by omega)).1) (by first | exact x2 | exact (gWi_u v2 x2 (by omega) (by omega)).2) (by omega)
                  · refine g_iload C dX9_spreads_159 rfl ?_
                    refine g_if_eq C 219 dX9_spreads_161 (by decide) (fun c_161 => ?_) (fun c_161 => ?_)
                    · refine g_iinc (v := nI (c + 1)) C dX9_spreads_219 rfl (ginc _ 1) rfl ?_
                      refine g_lv [some _, some _, some _, some _, some _, none, some _, none, some _, some _, some _, none, some _, some _, some _] (gs_some (gs_some (gs_some (gs_some (gs_some (gs_none (gs_some (gs_none (gs_some (gs_some (gs_some (gs_none (gs_some (gs_some (gs_some gs_nil))))))))))))))) ?_
                      refine g_goto C 37 dX9_spreads_222 (by decide) ?_
                      refine g_lv [some _, some _, some _, some _, some _, none, some _, none, some _, some _, some _, none, some _, none, none] (gs_some (gs_some (gs_some (gs_some (gs_some (gs_none (gs_some (gs_none (gs_some (gs_some (gs_some (gs_none (gs_some (gs_none (gs_none gs_nil))))))))))))))) ?_
                      exact ih_37 (c + 1) (by omega) _ (by repeat (first | (with_reducible assumption) | (with_reducible exact gSm_r _) | (with_reducible refine gSm_I (by omega) ?_) | (with_reducible refine gSm_L (by omega) ?_) | (with_reducible refine gSm_N (by omega) ?_) | (with_reducible refine gSm_G (by omega) ?_) | (with_reducible refine gSm_P ?_))) q2 (by first | exact v2 | exact (gWi_u v2 x2 (by omega) (by omega)).1) (by first | exact x2 | exact (gWi_u v2 x2 (by omega) (by omega)).2) (by omega)
                    · refine g_iload C dX9_spreads_164 rfl ?_
                      refine g_if_lt C 176 dX9_spreads_166 (by decide) (fun c_166 => ?_) (fun c_166 => ?_)
                      · refine g_iload C dX9_spreads_176 rfl ?_
                        refine g_if_lt C 188 dX9_spreads_178 (by decide) (fun c_178 => ?_) (fun c_178 => ?_)
                        · refine g_aload_n C dX9_spreads_188 rfl ?_
                          refine g_get C dX9_spreads_189 iwX9 rfl (wO_M δ _) 19 (Nat.le_of_ble_eq_true rfl) mW591 rfl rfl ?_
                          refine g_iload_n C dX9_spreads_192 rfl ?_
                          refine g_iconst (v := 1) C dX9_spreads_193 (by decide) ?_
                          refine g_iadd C dX9_spreads_194 ?_
                          rw [show nI k + 1 = nI (k + 1) from nI_1 k]
                          refine g_iload_n C dX9_spreads_195 rfl ?_
                          refine g_iload C dX9_spreads_196 rfl ?_
                          refine g_callSi C sS_X9_197 dX9_spreads_198 (c_X9_more _ δ _ (p := p) (c := c) (by omega)) ⟨by decide, by decide⟩ rfl rfl rfl (Nat.le_of_ble_eq_true rfl) (fun r_198 s_198 h_198 => ?_)
                          obtain ⟨rfl, rfl⟩ := h_198
                          refine g_callSi C sS_X9_186 dX9_spreads_201 (c_X9_at _ δ _ (r := k + 1) (p := p + gmo c) (by omega)) ⟨by decide, by decide⟩ rfl rfl rfl (Nat.le_of_ble_eq_true rfl) (fun r_201 s_201 h_201 => ?_)
                          obtain ⟨rfl, rfl⟩ := h_201
                          refine g_dup2 C dX9_spreads_204 rfl rfl ?_
                          refine g_laldN C dX9_spreads_205 (k := (2197 * ((k + 1) % 2) + (p + gmo c))) (q := 14) (by decide) rfl (by first | rfl | assumption | (simp only [glit, nI_add, pk_mul]; done) | (simp only [glit, nI_add, pk_mul]; congr 1; omega) | (simp only [*, glit, nI_add, pk_mul]; congr 1; omega)) (show (2197 * ((k + 1) % 2) + (p + gmo c)) < gLenL 14 from Nat.lt_of_lt_of_eq (show (2197 * ((k + 1) % 2) + (p + gmo c)) < 4394 by omega) rfl) ?_
                          refine g_lload C dX9_spreads_206 rfl ?_
                          refine g_aload_n C dX9_spreads_208 rfl ?_
                          refine g_get C dX9_spreads_209 iwX9 rfl (wO_M δ _) 23 (Nat.le_of_ble_eq_true rfl) mW595 rfl rfl ?_
                          refine g_iload C dX9_spreads_212 rfl ?_
                          refine g_ialdN C dX9_spreads_214 (k := c) (q := 59) (by decide) rfl (by first | rfl | assumption | (simp only [glit, nI_add, pk_mul]; done) | (simp only [glit, nI_add, pk_mul]; congr 1; omega) | (simp only [*, glit, nI_add, pk_mul]; congr 1; omega)) (show c < gLenI 59 from Nat.lt_of_lt_of_eq (show c < 4 by omega) rfl) ?_
                          refine g_i2l C dX9_spreads_215 ?_
                          refine g_lmul C dX9_spreads_216 ?_
                          refine g_ladd C dX9_spreads_217 ?_
                          refine g_lastN C dX9_spreads_218 (k := (2197 * ((k + 1) % 2) + (p + gmo c))) (q := 14) (by decide) rfl (by first | rfl | assumption | (simp only [glit, nI_add, pk_mul]; done) | (simp only [glit, nI_add, pk_mul]; congr 1; omega) | (simp only [*, glit, nI_add, pk_mul]; congr 1; omega)) (show (2197 * ((k + 1) % 2) + (p + gmo c)) < gLenL 14 from Nat.lt_of_lt_of_eq (show (2197 * ((k + 1) % 2) + (p + gmo c)) < 4394 by omega) rfl) ?_
                          refine g_iinc (v := nI (c + 1)) C dX9_spreads_219 rfl (ginc _ 1) rfl ?_
                          refine g_lv [some _, some _, some _, some _, some _, none, some _, none, some _, some _, some _, none, some _, some _, some _] (gs_some (gs_some (gs_some (gs_some (gs_some (gs_none (gs_some (gs_none (gs_some (gs_some (gs_some (gs_none (gs_some (gs_some (gs_some gs_nil))))))))))))))) ?_
                          refine g_goto C 37 dX9_spreads_222 (by decide) ?_
                          refine g_lv [some _, some _, some _, some _, some _, none, some _, none, some _, some _, some _, none, some _, none, none] (gs_some (gs_some (gs_some (gs_some (gs_some (gs_none (gs_some (gs_none (gs_some (gs_some (gs_some (gs_none (gs_some (gs_none (gs_none gs_nil))))))))))))))) ?_
                          exact ih_37 (c + 1) (by omega) _ (by repeat (first | (with_reducible assumption) | (with_reducible exact gSm_r _) | (with_reducible refine gSm_I (by omega) ?_) | (with_reducible refine gSm_L (by omega) ?_) | (with_reducible refine gSm_N (by omega) ?_) | (with_reducible refine gSm_G (by omega) ?_) | (with_reducible refine gSm_P ?_))) q2 (by first | exact v2 | exact (gWi_u v2 x2 (by omega) (by omega)).1) (by first | exact x2 | exact (gWi_u v2 x2 (by omega) (by omega)).2) (by omega)
                        · refine g_iload C dX9_spreads_181 rfl ?_
                          refine g_iload C dX9_spreads_183 rfl ?_
                          refine g_icmp_ne C 219 dX9_spreads_185 (by decide) (fun c_185 => ?_) (fun c_185 => ?_)
                          · refine g_iinc (v := nI (c + 1)) C dX9_spreads_219 rfl (ginc _ 1) rfl ?_
                            refine g_lv [some _, some _, some _, some _, some _, none, some _, none, some _, some _, some _, none, some _, some _, some _] (gs_some (gs_some (gs_some (gs_some (gs_some (gs_none (gs_some (gs_none (gs_some (gs_some (gs_some (gs_none (gs_some (gs_some (gs_some gs_nil))))))))))))))) ?_
                            refine g_goto C 37 dX9_spreads_222 (by decide) ?_
                            refine g_lv [some _, some _, some _, some _, some _, none, some _, none, some _, some _, some _, none, some _, none, none] (gs_some (gs_some (gs_some (gs_some (gs_some (gs_none (gs_some (gs_none (gs_some (gs_some (gs_some (gs_none (gs_some (gs_none (gs_none gs_nil))))))))))))))) ?_
                            exact ih_37 (c + 1) (by omega) _ (by repeat (first | (with_reducible assumption) | (with_reducible exact gSm_r _) | (with_reducible refine gSm_I (by omega) ?_) | (with_reducible refine gSm_L (by omega) ?_) | (with_reducible refine gSm_N (by omega) ?_) | (with_reducible refine gSm_G (by omega) ?_) | (with_reducible refine gSm_P ?_))) q2 (by first | exact v2 | exact (gWi_u v2 x2 (by omega) (by omega)).1) (by first | exact x2 | exact (gWi_u v2 x2 (by omega) (by omega)).2) (by omega)
                          · refine g_aload_n C dX9_spreads_188 rfl ?_
                            refine g_get C dX9_spreads_189 iwX9 rfl (wO_M δ _) 19 (Nat.le_of_ble_eq_true rfl) mW591 rfl rfl ?_
                            refine g_iload_n C dX9_spreads_192 rfl ?_
                            refine g_iconst (v := 1) C dX9_spreads_193 (by decide) ?_
                            refine g_iadd C dX9_spreads_194 ?_
                            rw [show nI k + 1 = nI (k + 1) from nI_1 k]
                            refine g_iload_n C dX9_spreads_195 rfl ?_
                            refine g_iload C dX9_spreads_196 rfl ?_
                            refine g_callSi C sS_X9_197 dX9_spreads_198 (c_X9_more _ δ _ (p := p) (c := c) (by omega)) ⟨by decide, by decide⟩ rfl rfl rfl (Nat.le_of_ble_eq_true rfl) (fun r_198 s_198 h_198 => ?_)
                            obtain ⟨rfl, rfl⟩ := h_198
                            refine g_callSi C sS_X9_186 dX9_spreads_201 (c_X9_at _ δ _ (r := k + 1) (p := p + gmo c) (by omega)) ⟨by decide, by decide⟩ rfl rfl rfl (Nat.le_of_ble_eq_true rfl) (fun r_201 s_201 h_201 => ?_)
                            obtain ⟨rfl, rfl⟩ := h_201
                            refine g_dup2 C dX9_spreads_204 rfl rfl ?_
                            refine g_laldN C dX9_spreads_205 (k := (2197 * ((k + 1) % 2) + (p + gmo c))) (q := 14) (by decide) rfl (by first | rfl | assumption | (simp only [glit, nI_add, pk_mul]; done) | (simp only [glit, nI_add, pk_mul]; congr 1; omega) | (simp only [*, glit, nI_add, pk_mul]; congr 1; omega)) (show (2197 * ((k + 1) % 2) + (p + gmo c)) < gLenL 14 from Nat.lt_of_lt_of_eq (show (2197 * ((k + 1) % 2) + (p + gmo c)) < 4394 by omega) rfl) ?_
                            refine g_lload C dX9_spreads_206 rfl ?_
                            refine g_aload_n C dX9_spreads_208 rfl ?_
                            refine g_get C dX9_spreads_209 iwX9 rfl (wO_M δ _) 23 (Nat.le_of_ble_eq_true rfl) mW595 rfl rfl ?_
                            refine g_iload C dX9_spreads_212 rfl ?_
                            refine g_ialdN C dX9_spreads_214 (k := c) (q := 59) (by decide) rfl (by first | rfl | assumption | (simp only [glit, nI_add, pk_mul]; done) | (simp only [glit, nI_add, pk_mul]; congr 1; omega) | (simp only [*, glit, nI_add, pk_mul]; congr 1; omega)) (show c < gLenI 59 from Nat.lt_of_lt_of_eq (show c < 4 by omega) rfl) ?_
                            refine g_i2l C dX9_spreads_215 ?_
                            refine g_lmul C dX9_spreads_216 ?_
                            refine g_ladd C dX9_spreads_217 ?_
                            refine g_lastN C dX9_spreads_218 (k := (2197 * ((k + 1) % 2) + (p + gmo c))) (q := 14) (by decide) rfl (by first | rfl | assumption | (simp only [glit, nI_add, pk_mul]; done) | (simp only [glit, nI_add, pk_mul]; congr 1; omega) | (simp only [*, glit, nI_add, pk_mul]; congr 1; omega)) (show (2197 * ((k + 1) % 2) + (p + gmo c)) < gLenL 14 from Nat.lt_of_lt_of_eq (show (2197 * ((k + 1) % 2) + (p + gmo c)) < 4394 by omega) rfl) ?_
                            refine g_iinc (v := nI (c + 1)) C dX9_spreads_219 rfl (ginc _ 1) rfl ?_
                            refine g_lv [some _, some _, some _, some _, some _, none, some _, none, some _, some _, some _, none, some _, some _, some _] (gs_some (gs_some (gs_some (gs_some (gs_some (gs_none (gs_some (gs_none (gs_some (gs_some (gs_some (gs_none (gs_some (gs_some (gs_some gs_nil))))))))))))))) ?_
                            refine g_goto C 37 dX9_spreads_222 (by decide) ?_
                            refine g_lv [some _, some _, some _, some _, some _, none, some _, none, some _, some _, some _, none, some _, none, none] (gs_some (gs_some (gs_some (gs_some (gs_some (gs_none (gs_some (gs_none (gs_some (gs_some (gs_some (gs_none (gs_some (gs_none (gs_none gs_nil))))))))))))))) ?_
                            exact ih_37 (c + 1) (by omega) _ (by repeat (first | (with_reducible assumption) | (with_reducible exact gSm_r _) | (with_reducible refine gSm_I (by omega) ?_) | (with_reducible refine gSm_L (by omega) ?_) | (with_reducible refine gSm_N (by omega) ?_) | (with_reducible refine gSm_G (by omega) ?_) | (with_reducible refine gSm_P ?_))) q2 (by first | exact v2 | exact (gWi_u v2 x2 (by omega) (by omega)).1) (by first | exact x2 | exact (gWi_u v2 x2 (by omega) (by omega)).2) (by omega)
                      · refine g_iload C dX9_spreads_169 rfl ?_
                        refine g_iload C dX9_spreads_171 rfl ?_
                        refine g_icmp_ne C 219 dX9_spreads_173 (by decide) (fun c_173 => ?_) (fun c_173 => ?_)
                        · refine g_iinc (v := nI (c + 1)) C dX9_spreads_219 rfl (ginc _ 1) rfl ?_
                          refine g_lv [some _, some _, some _, some _, some _, none, some _, none, some _, some _, some _, none, some _, some _, some _] (gs_some (gs_some (gs_some (gs_some (gs_some (gs_none (gs_some (gs_none (gs_some (gs_some (gs_some (gs_none (gs_some (gs_some (gs_some gs_nil))))))))))))))) ?_
                          refine g_goto C 37 dX9_spreads_222 (by decide) ?_
                          refine g_lv [some _, some _, some _, some _, some _, none, some _, none, some _, some _, some _, none, some _, none, none] (gs_some (gs_some (gs_some (gs_some (gs_some (gs_none (gs_some (gs_none (gs_some (gs_some (gs_some (gs_none (gs_some (gs_none (gs_none gs_nil))))))))))))))) ?_
                          exact ih_37 (c + 1) (by omega) _ (by repeat (first | (with_reducible assumption) | (with_reducible exact gSm_r _) | (with_reducible refine gSm_I (by omega) ?_) | (with_reducible refine gSm_L (by omega) ?_) | (with_reducible refine gSm_N (by omega) ?_) | (with_reducible refine gSm_G (by omega) ?_) | (with_reducible refine gSm_P ?_))) q2 (by first | exact v2 | exact (gWi_u v2 x2 (by omega) (by omega)).1) (by first | exact x2 | exact (gWi_u v2 x2 (by omega) (by omega)).2) (by omega)
                        · refine g_iload C dX9_spreads_176 rfl ?_
                          refine g_if_lt C 188 dX9_spreads_178 (by decide) (fun c_178 => ?_) (fun c_178 => ?_)
                          · refine g_aload_n C dX9_spreads_188 rfl ?_
                            refine g_get C dX9_spreads_189 iwX9 rfl (wO_M δ _) 19 (Nat.le_of_ble_eq_true rfl) mW591 rfl rfl ?_
                            refine g_iload_n C dX9_spreads_192 rfl ?_
                            refine g_iconst (v := 1) C dX9_spreads_193 (by decide) ?_
                            refine g_iadd C dX9_spreads_194 ?_
                            rw [show nI k + 1 = nI (k + 1) from nI_1 k]
                            refine g_iload_n C dX9_spreads_195 rfl ?_
                            refine g_iload C dX9_spreads_196 rfl ?_
                            refine g_callSi C sS_X9_197 dX9_spreads_198 (c_X9_more _ δ _ (p := p) (c := c) (by omega)) ⟨by decide, by decide⟩ rfl rfl rfl (Nat.le_of_ble_eq_true rfl) (fun r_198 s_198 h_198 => ?_)
                            obtain ⟨rfl, rfl⟩ := h_198
                            refine g_callSi C sS_X9_186 dX9_spreads_201 (c_X9_at _ δ _ (r := k + 1) (p := p + gmo c) (by omega)) ⟨by decide, by decide⟩ rfl rfl rfl (Nat.le_of_ble_eq_true rfl) (fun r_201 s_201 h_201 => ?_)
                            obtain ⟨rfl, rfl⟩ := h_201
                            refine g_dup2 C dX9_spreads_204 rfl rfl ?_
                            refine g_laldN C dX9_spreads_205 (k := (2197 * ((k + 1) % 2) + (p + gmo c))) (q := 14) (by decide) rfl (by first | rfl | assumption | (simp only [glit, nI_add, pk_mul]; done) | (simp only [glit, nI_add, pk_mul]; congr 1; omega) | (simp only [*, glit, nI_add, pk_mul]; congr 1; omega)) (show (2197 * ((k + 1) % 2) + (p + gmo c)) < gLenL 14 from Nat.lt_of_lt_of_eq (show (2197 * ((k + 1) % 2) + (p + gmo c)) < 4394 by omega) rfl) ?_
                            refine g_lload C dX9_spreads_206 rfl ?_
                            refine g_aload_n C dX9_spreads_208 rfl ?_
                            refine g_get C dX9_spreads_209 iwX9 rfl (wO_M δ _) 23 (Nat.le_of_ble_eq_true rfl) mW595 rfl rfl ?_
                            refine g_iload C dX9_spreads_212 rfl ?_
                            refine g_ialdN C dX9_spreads_214 (k := c) (q := 59) (by decide) rfl (by first | rfl | assumption | (simp only [glit, nI_add, pk_mul]; done) | (simp only [glit, nI_add, pk_mul]; congr 1; omega) | (simp only [*, glit, nI_add, pk_mul]; congr 1; omega)) (show c < gLenI 59 from Nat.lt_of_lt_of_eq (show c < 4 by omega) rfl) ?_
                            refine g_i2l C dX9_spreads_215 ?_
                            refine g_lmul C dX9_spreads_216 ?_
                            refine g_ladd C dX9_spreads_217 ?_
                            refine g_lastN C dX9_spreads_218 (k := (2197 * ((k + 1) % 2) + (p + gmo c))) (q := 14) (by decide) rfl (by first | rfl | assumption | (simp only [glit, nI_add, pk_mul]; done) | (simp only [glit, nI_add, pk_mul]; congr 1; omega) | (simp only [*, glit, nI_add, pk_mul]; congr 1; omega)) (show (2197 * ((k + 1) % 2) + (p + gmo c)) < gLenL 14 from Nat.lt_of_lt_of_eq (show (2197 * ((k + 1) % 2) + (p + gmo c)) < 4394 by omega) rfl) ?_
                            refine g_iinc (v := nI (c + 1)) C dX9_spreads_219 rfl (ginc _ 1) rfl ?_
                            refine g_lv [some _, some _, some _, some _, some _, none, some _, none, some _, some _, some _, none, some _, some _, some _] (gs_some (gs_some (gs_some (gs_some (gs_some (gs_none (gs_some (gs_none (gs_some (gs_some (gs_some (gs_none (gs_some (gs_some (gs_some gs_nil))))))))))))))) ?_
                            refine g_goto C 37 dX9_spreads_222 (by decide) ?_
                            refine g_lv [some _, some _, some _, some _, some _, none, some _, none, some _, some _, some _, none, some _, none, none] (gs_some (gs_some (gs_some (gs_some (gs_some (gs_none (gs_some (gs_none (gs_some (gs_some (gs_some (gs_none (gs_some (gs_none (gs_none gs_nil))))))))))))))) ?_
                            exact ih_37 (c + 1) (by omega) _ (by repeat (first | (with_reducible assumption) | (with_reducible exact gSm_r _) | (with_reducible refine gSm_I (by omega) ?_) | (with_reducible refine gSm_L (by omega) ?_) | (with_reducible refine gSm_N (by omega) ?_) | (with_reducible refine gSm_G (by omega) ?_) | (with_reducible refine gSm_P ?_))) q2 (by first | exact v2 | exact (gWi_u v2 x2 (by omega) (by omega)).1) (by first | exact x2 | exact (gWi_u v2 x2 (by omega) (by omega)).2) (by omega)
                          · refine g_iload C dX9_spreads_181 rfl ?_
                            refine g_iload C dX9_spreads_183 rfl ?_
                            refine g_icmp_ne C 219 dX9_spreads_185 (by decide) (fun c_185 => ?_) (fun c_185 => ?_)
                            · refine g_iinc (v := nI (c + 1)) C dX9_spreads_219 rfl (ginc _ 1) rfl ?_
                              refine g_lv [some _, some _, some _, some _, some _, none, some _, none, some _, some _, some _, none, some _, some _, some _] (gs_some (gs_some (gs_some (gs_some (gs_some (gs_none (gs_some (gs_none (gs_some (gs_some (gs_some (gs_none (gs_some (gs_some (gs_some gs_nil))))))))))))))) ?_
                              refine g_goto C 37 dX9_spreads_222 (by decide) ?_
                              refine g_lv [some _, some _, some _, some _, some _, none, some _, none, some _, some _, some _, none, some _, none, none] (gs_some (gs_some (gs_some (gs_some (gs_some (gs_none (gs_some (gs_none (gs_some (gs_some (gs_some (gs_none (gs_some (gs_none (gs_none gs_nil))))))))))))))) ?_
                              exact ih_37 (c + 1) (by omega) _ (by repeat (first | (with_reducible assumption) | (with_reducible exact gSm_r _) | (with_reducible refine gSm_I (by omega) ?_) | (with_reducible refine gSm_L (by omega) ?_) | (with_reducible refine gSm_N (by omega) ?_) | (with_reducible refine gSm_G (by omega) ?_) | (with_reducible refine gSm_P ?_))) q2 (by first | exact v2 | exact (gWi_u v2 x2 (by omega) (by omega)).1) (by first | exact x2 | exact (gWi_u v2 x2 (by omega) (by omega)).2) (by omega)
                            · refine g_aload_n C dX9_spreads_188 rfl ?_
                              refine g_get C dX9_spreads_189 iwX9 rfl (wO_M δ _) 19 (Nat.le_of_ble_eq_true rfl) mW591 rfl rfl ?_
                              refine g_iload_n C dX9_spreads_192 rfl ?_
                              refine g_iconst (v := 1) C dX9_spreads_193 (by decide) ?_
                              refine g_iadd C dX9_spreads_194 ?_
                              rw [show nI k + 1 = nI (k + 1) from nI_1 k]
                              refine g_iload_n C dX9_spreads_195 rfl ?_
                              refine g_iload C dX9_spreads_196 rfl ?_
                              refine g_callSi C sS_X9_197 dX9_spreads_198 (c_X9_more _ δ _ (p := p) (c := c) (by omega)) ⟨by decide, by decide⟩ rfl rfl rfl (Nat.le_of_ble_eq_true rfl) (fun r_198 s_198 h_198 => ?_)
                              obtain ⟨rfl, rfl⟩ := h_198
                              refine g_callSi C sS_X9_186 dX9_spreads_201 (c_X9_at _ δ _ (r := k + 1) (p := p + gmo c) (by omega)) ⟨by decide, by decide⟩ rfl rfl rfl (Nat.le_of_ble_eq_true rfl) (fun r_201 s_201 h_201 => ?_)
                              obtain ⟨rfl, rfl⟩ := h_201
                              refine g_dup2 C dX9_spreads_204 rfl rfl ?_
                              refine g_laldN C dX9_spreads_205 (k := (2197 * ((k + 1) % 2) + (p + gmo c))) (q := 14) (by decide) rfl (by first | rfl | assumption | (simp only [glit, nI_add, pk_mul]; done) | (simp only [glit, nI_add, pk_mul]; congr 1; omega) | (simp only [*, glit, nI_add, pk_mul]; congr 1; omega)) (show (2197 * ((k + 1) % 2) + (p + gmo c)) < gLenL 14 from Nat.lt_of_lt_of_eq (show (2197 * ((k + 1) % 2) + (p + gmo c)) < 4394 by omega) rfl) ?_
                              refine g_lload C dX9_spreads_206 rfl ?_
                              refine g_aload_n C dX9_spreads_208 rfl ?_
                              refine g_get C dX9_spreads_209 iwX9 rfl (wO_M δ _) 23 (Nat.le_of_ble_eq_true rfl) mW595 rfl rfl ?_
                              refine g_iload C dX9_spreads_212 rfl ?_
                              refine g_ialdN C dX9_spreads_214 (k := c) (q := 59) (by decide) rfl (by first | rfl | assumption | (simp only [glit, nI_add, pk_mul]; done) | (simp only [glit, nI_add, pk_mul]; congr 1; omega) | (simp only [*, glit, nI_add, pk_mul]; congr 1; omega)) (show c < gLenI 59 from Nat.lt_of_lt_of_eq (show c < 4 by omega) rfl) ?_
                              refine g_i2l C dX9_spreads_215 ?_
                              refine g_lmul C dX9_spreads_216 ?_
                              refine g_ladd C dX9_spreads_217 ?_
                              refine g_lastN C dX9_spreads_218 (k := (2197 * ((k + 1) % 2) + (p + gmo c))) (q := 14) (by decide) rfl (by first | rfl | assumption | (simp only [glit, nI_add, pk_mul]; done) | (simp only [glit, nI_add, pk_mul]; congr 1; omega) | (simp only [*, glit, nI_add, pk_mul]; congr 1; omega)) (show (2197 * ((k + 1) % 2) + (p + gmo c)) < gLenL 14 from Nat.lt_of_lt_of_eq (show (2197 * ((k + 1) % 2) + (p + gmo c)) < 4394 by omega) rfl) ?_
                              refine g_iinc (v := nI (c + 1)) C dX9_spreads_219 rfl (ginc _ 1) rfl ?_
                              refine g_lv [some _, some _, some _, some _, some _, none, some _, none, some _, some _, some _, none, some _, some _, some _] (gs_some (gs_some (gs_some (gs_some (gs_some (gs_none (gs_some (gs_none (gs_some (gs_some (gs_some (gs_none (gs_some (gs_some (gs_some gs_nil))))))))))))))) ?_
                              refine g_goto C 37 dX9_spreads_222 (by decide) ?_
                              refine g_lv [some _, some _, some _, some _, some _, none, some _, none, some _, some _, some _, none, some _, none, none] (gs_some (gs_some (gs_some (gs_some (gs_some (gs_none (gs_some (gs_none (gs_some (gs_some (gs_some (gs_none (gs_some (gs_none (gs_none gs_nil))))))))))))))) ?_
                              exact ih_37 (c + 1) (by omega) _ (by repeat (first | (with_reducible assumption) | (with_reducible exact gSm_r _) | (with_reducible refine gSm_I (by omega) ?_) | (with_reducible refine gSm_L (by omega) ?_) | (with_reducible refine gSm_N (by omega) ?_) | (with_reducible refine gSm_G (by omega) ?_) | (with_reducible refine gSm_P ?_))) q2 (by first | exact v2 | exact (gWi_u v2 x2 (by omega) (by omega)).1) (by first | exact x2 | exact (gWi_u v2 x2 (by omega) (by omega)).2) (by omega)
                refine g_aload_n C dX9_spreads_111 rfl ?_
                refine g_get C dX9_spreads_112 iwX9 rfl (wO_M δ _) 23 (Nat.le_of_ble_eq_true rfl) mW595 rfl rfl ?_
                refine g_iload C dX9_spreads_115 rfl ?_
                refine g_ialdN C dX9_spreads_117 (k := c) (q := 59) (by decide) rfl (by first | rfl | assumption | (simp only [glit, nI_add, pk_mul]; done) | (simp only [glit, nI_add, pk_mul]; congr 1; omega) | (simp only [*, glit, nI_add, pk_mul]; congr 1; omega)) (show c < gLenI 59 from Nat.lt_of_lt_of_eq (show c < 4 by omega) rfl) ?_
                refine g_if_le C 149 dX9_spreads_118 (by decide) (fun c_118 => ?_) (fun c_118 => ?_)
                · refine g_lv [some _, some _, some _, some _, some _, none, some _, none, some _, some _, some _, none, some _, some _, some _] (gs_some (gs_some (gs_some (gs_some (gs_some (gs_none (gs_some (gs_none (gs_some (gs_some (gs_some (gs_none (gs_some (gs_some (gs_some gs_nil))))))))))))))) ?_
                  exact J_149 _ (by repeat (first | (with_reducible assumption) | (with_reducible exact gSm_r _) | (with_reducible refine gSm_I (by omega) ?_) | (with_reducible refine gSm_L (by omega) ?_) | (with_reducible refine gSm_N (by omega) ?_) | (with_reducible refine gSm_G (by omega) ?_) | (with_reducible refine gSm_P ?_))) q1 v1 x1
                · refine g_iload C dX9_spreads_121 rfl ?_
                  refine g_if_ne C 149 dX9_spreads_123 (by decide) (fun c_123 => ?_) (fun c_123 => ?_)
                  · refine g_lv [some _, some _, some _, some _, some _, none, some _, none, some _, some _, some _, none, some _, some _, some _] (gs_some (gs_some (gs_some (gs_some (gs_some (gs_none (gs_some (gs_none (gs_some (gs_some (gs_some (gs_none (gs_some (gs_some (gs_some gs_nil))))))))))))))) ?_
                    exact J_149 _ (by repeat (first | (with_reducible assumption) | (with_reducible exact gSm_r _) | (with_reducible refine gSm_I (by omega) ?_) | (with_reducible refine gSm_L (by omega) ?_) | (with_reducible refine gSm_N (by omega) ?_) | (with_reducible refine gSm_G (by omega) ?_) | (with_reducible refine gSm_P ?_))) q1 v1 x1
                  · refine g_aload_n C dX9_spreads_126 rfl ?_
                    refine g_dup C dX9_spreads_127 rfl ?_
                    refine g_get C dX9_spreads_128 iwX9 rfl (wO_M δ _) 21 (Nat.le_of_ble_eq_true rfl) mW593 rfl rfl ?_
                    refine g_lload C dX9_spreads_131 rfl ?_
                    refine g_aload_n C dX9_spreads_133 rfl ?_
                    refine g_get C dX9_spreads_134 iwX9 rfl (wO_M δ _) 23 (Nat.le_of_ble_eq_true rfl) mW595 rfl rfl ?_
                    refine g_iload C dX9_spreads_137 rfl ?_
                    refine g_ialdN C dX9_spreads_139 (k := c) (q := 59) (by decide) rfl (by first | rfl | assumption | (simp only [glit, nI_add, pk_mul]; done) | (simp only [glit, nI_add, pk_mul]; congr 1; omega) | (simp only [*, glit, nI_add, pk_mul]; congr 1; omega)) (show c < gLenI 59 from Nat.lt_of_lt_of_eq (show c < 4 by omega) rfl) ?_
                    refine g_i2l C dX9_spreads_140 ?_
                    refine g_lmul C dX9_spreads_141 ?_
                    refine g_lload C dX9_spreads_142 rfl ?_
                    refine g_lmul C dX9_spreads_144 ?_
                    refine g_ladd C dX9_spreads_145 ?_
                    refine g_put C tyX9 dX9_spreads_146 iwX9 tyX9_ok nmX9 rfl (wO_M δ _) 21 (Nat.le_of_ble_eq_true rfl) mW593 rfl rfl rfl rfl rfl (Nat.le_of_ble_eq_true rfl) (pG_16 δ _ _) ?_
                    refine g_lv [some _, some _, some _, some _, some _, none, some _, none, some _, some _, some _, none, some _, some _, some _] (gs_some (gs_some (gs_some (gs_some (gs_some (gs_none (gs_some (gs_none (gs_some (gs_some (gs_some (gs_none (gs_some (gs_some (gs_some gs_nil))))))))))))))) ?_
                    exact J_149 _ (by repeat (first | (with_reducible assumption) | (with_reducible exact gSm_r _) | (with_reducible refine gSm_I (by omega) ?_) | (with_reducible refine gSm_L (by omega) ?_) | (with_reducible refine gSm_N (by omega) ?_) | (with_reducible refine gSm_G (by omega) ?_) | (with_reducible refine gSm_P ?_))) q1 v1 x1
              · have k_52 := gnle c_52 (a := 4) (b := d) (by first | rfl | assumption | (simp only [glit, nI_add, pk_mul]; done) | (simp only [glit, nI_add, pk_mul]; congr 1; omega) | (simp only [*, glit, nI_add, pk_mul]; congr 1; omega)) (by first | rfl | assumption | (simp only [glit, nI_add, pk_mul]; done) | (simp only [glit, nI_add, pk_mul]; congr 1; omega) | (simp only [*, glit, nI_add, pk_mul]; congr 1; omega)) (by omega) (by omega)
                refine g_iload C dX9_spreads_55 rfl ?_
                refine g_if_eq C 102 dX9_spreads_57 (by decide) (fun c_57 => ?_) (fun c_57 => ?_)
                · refine g_iconst (v := 0) C dX9_spreads_102 (by decide) ?_
                  refine g_istore C dX9_spreads_103 (Nat.le_of_ble_eq_true rfl) rfl ?_
                  refine g_lv [some _, some _, some _, some _, some _, none, some _, none, some _, some _, some _, none, some _, some _, some _] (gs_some (gs_some (gs_some (gs_some (gs_some (gs_none (gs_some (gs_none (gs_some (gs_some (gs_some (gs_none (gs_some (gs_some (gs_some gs_nil))))))))))))))) ?_
                  refine g_iinc (v := nI (d + 1)) C dX9_spreads_105 rfl (ginc _ 1) rfl ?_
                  refine g_lv [some _, some _, some _, some _, some _, none, some _, none, some _, some _, some _, none, some _, some _, some _] (gs_some (gs_some (gs_some (gs_some (gs_some (gs_none (gs_some (gs_none (gs_some (gs_some (gs_some (gs_none (gs_some (gs_some (gs_some gs_nil))))))))))))))) ?_
                  refine g_goto C 49 dX9_spreads_108 (by decide) ?_
                  refine g_lv [some _, some _, some _, some _, some _, none, some _, none, some _, some _, some _, none, some _, some _, some _] (gs_some (gs_some (gs_some (gs_some (gs_some (gs_none (gs_some (gs_none (gs_some (gs_some (gs_some (gs_none (gs_some (gs_some (gs_some gs_nil))))))))))))))) ?_
                  exact ih_49 (d + 1) _ (by omega) (by omega)
                · refine g_aload_n C dX9_spreads_60 rfl ?_
                  refine g_get C dX9_spreads_61 iwX9 rfl (wO_M δ _) 23 (Nat.le_of_ble_eq_true rfl) mW595 rfl rfl ?_
                  refine g_iload C dX9_spreads_64 rfl ?_
                  refine g_ialdN C dX9_spreads_66 (k := d) (q := 59) (by decide) rfl (by first | rfl | assumption | (simp only [glit, nI_add, pk_mul]; done) | (simp only [glit, nI_add, pk_mul]; congr 1; omega) | (simp only [*, glit, nI_add, pk_mul]; congr 1; omega)) (show d < gLenI 59 from Nat.lt_of_lt_of_eq (show d < 4 by omega) rfl) ?_
                  refine g_aload_n C dX9_spreads_67 rfl ?_
                  refine g_get C dX9_spreads_68 iwX9 rfl (wO_M δ _) 6 (Nat.le_of_ble_eq_true rfl) mW578 rfl rfl ?_
                  refine g_bipush (v := 25) C dX9_spreads_71 (by decide) ?_
                  refine g_iload_n C dX9_spreads_73 rfl ?_
                  refine g_imul C dX9_spreads_74 ?_
                  refine g_iconst (v := 4) C dX9_spreads_75 (by decide) ?_
                  refine g_iadd C dX9_spreads_76 ?_
                  refine g_iconst (v := 4) C dX9_spreads_77 (by decide) ?_
                  refine g_iload C dX9_spreads_78 rfl ?_
                  refine g_imul C dX9_spreads_80 ?_
                  refine g_iadd C dX9_spreads_81 ?_
                  refine g_iload C dX9_spreads_82 rfl ?_
                  refine g_iadd C dX9_spreads_84 ?_
                  refine g_ialdN C dX9_spreads_85 (k := (25 * u + 4 + (c * 4 + d))) (q := 53) (by decide) rfl (by first | rfl | assumption | (simp only [glit, nI_add, pk_mul]; done) | (simp only [glit, nI_add, pk_mul]; congr 1; omega) | (simp only [*, glit, nI_add, pk_mul]; congr 1; omega)) (show (25 * u + 4 + (c * 4 + d)) < gLenI 53 from Nat.lt_of_lt_of_eq (show (25 * u + 4 + (c * 4 + d)) < 202 by omega) rfl) ?_
                  refine g_iadd C dX9_spreads_86 ?_
                  refine g_i2l C dX9_spreads_87 ?_
                  refine g_lconst (v := 0) C dX9_spreads_88 (by decide) ?_
                  refine g_ldc2 C dX9_spreads_89 mW696 ?_
                  refine g_callSi C sS_X9_62 dX9_spreads_92 (c_X9_in _ δ _ _ _ _) ⟨by decide, by decide⟩ rfl rfl rfl (Nat.le_of_ble_eq_true rfl) (fun r_92 s_92 h_92 => ?_)
                  obtain ⟨rfl, h_92⟩ := h_92
                  rcases h_92 with ⟨rfl, h_92⟩ | ⟨rfl, h_92⟩
                  · skip
                    refine g_if_eq C 102 dX9_spreads_95 (by decide) (fun c_95 => ?_) (fun c_95 => ?_)
                    · exact absurd c_95 (by decide)
                    · refine g_iconst (v := 1) C dX9_spreads_98 (by decide) ?_
                      refine g_goto C 103 dX9_spreads_99 (by decide) ?_
                      refine g_istore C dX9_spreads_103 (Nat.le_of_ble_eq_true rfl) rfl ?_
                      refine g_lv [some _, some _, some _, some _, some _, none, some _, none, some _, some _, some _, none, some _, some _, some _] (gs_some (gs_some (gs_some (gs_some (gs_some (gs_none (gs_some (gs_none (gs_some (gs_some (gs_some (gs_none (gs_some (gs_some (gs_some gs_nil))))))))))))))) ?_
                      refine g_iinc (v := nI (d + 1)) C dX9_spreads_105 rfl (ginc _ 1) rfl ?_
                      refine g_lv [some _, some _, some _, some _, some _, none, some _, none, some _, some _, some _, none, some _, some _, some _] (gs_some (gs_some (gs_some (gs_some (gs_some (gs_none (gs_some (gs_none (gs_some (gs_some (gs_some (gs_none (gs_some (gs_some (gs_some gs_nil))))))))))))))) ?_
                      refine g_goto C 49 dX9_spreads_108 (by decide) ?_
                      refine g_lv [some _, some _, some _, some _, some _, none, some _, none, some _, some _, some _, none, some _, some _, some _] (gs_some (gs_some (gs_some (gs_some (gs_some (gs_none (gs_some (gs_none (gs_some (gs_some (gs_some (gs_none (gs_some (gs_some (gs_some gs_nil))))))))))))))) ?_
                      exact ih_49 (d + 1) _ (by omega) (by omega)
                  · skip
                    refine g_if_eq C 102 dX9_spreads_95 (by decide) (fun c_95 => ?_) (fun c_95 => ?_)
                    · refine g_iconst (v := 0) C dX9_spreads_102 (by decide) ?_
                      refine g_istore C dX9_spreads_103 (Nat.le_of_ble_eq_true rfl) rfl ?_
                      refine g_lv [some _, some _, some _, some _, some _, none, some _, none, some _, some _, some _, none, some _, some _, some _] (gs_some (gs_some (gs_some (gs_some (gs_some (gs_none (gs_some (gs_none (gs_some (gs_some (gs_some (gs_none (gs_some (gs_some (gs_some gs_nil))))))))))))))) ?_
                      refine g_iinc (v := nI (d + 1)) C dX9_spreads_105 rfl (ginc _ 1) rfl ?_
                      refine g_lv [some _, some _, some _, some _, some _, none, some _, none, some _, some _, some _, none, some _, some _, some _] (gs_some (gs_some (gs_some (gs_some (gs_some (gs_none (gs_some (gs_none (gs_some (gs_some (gs_some (gs_none (gs_some (gs_some (gs_some gs_nil))))))))))))))) ?_
                      refine g_goto C 49 dX9_spreads_108 (by decide) ?_
                      refine g_lv [some _, some _, some _, some _, some _, none, some _, none, some _, some _, some _, none, some _, some _, some _] (gs_some (gs_some (gs_some (gs_some (gs_some (gs_none (gs_some (gs_none (gs_some (gs_some (gs_some (gs_none (gs_some (gs_some (gs_some gs_nil))))))))))))))) ?_
                      exact ih_49 (d + 1) _ (by omega) (by omega)
                    · exact absurd c_95 (by decide)
          refine g_lv [some _, some _, some _, some _, some _, none, some _, none, some _, some _, some _, none, some _, some _, some _] (gs_some (gs_some (gs_some (gs_some (gs_some (gs_none (gs_some (gs_none (gs_some (gs_some (gs_some (gs_none (gs_some (gs_some (gs_some gs_nil))))))))))))))) ?_
          exact L_49 _ 0 1 (by omega) (Nat.lt_succ_self _)
    refine g_lv [some _, some _, some _, some _, some _, none, some _, none, some _, some _, some _, none, some _, none, none] (gs_some (gs_some (gs_some (gs_some (gs_some (gs_none (gs_some (gs_none (gs_some (gs_some (gs_some (gs_none (gs_some (gs_none (gs_none gs_nil))))))))))))))) ?_
    exact L_37 _ 0 (by omega) _ (gSm_r _) rfl h1 h2 (Nat.lt_succ_self _)
  · rw [lg_cmp_gt] at c_16
    refine g_aload_n C dX9_spreads_19 rfl ?_
    refine g_dup C dX9_spreads_20 rfl ?_
    refine g_get C dX9_spreads_21 iwX9 rfl (wO_M δ _) 21 (Nat.le_of_ble_eq_true rfl) mW593 rfl rfl ?_
    refine g_lload C dX9_spreads_24 rfl ?_
    refine g_lload C dX9_spreads_26 rfl ?_
    refine g_lmul C dX9_spreads_28 ?_
    refine g_ladd C dX9_spreads_29 ?_
    refine g_put C tyX9 dX9_spreads_30 iwX9 tyX9_ok nmX9 rfl (wO_M δ _) 21 (Nat.le_of_ble_eq_true rfl) mW593 rfl rfl rfl rfl rfl (Nat.le_of_ble_eq_true rfl) (pG_16 δ _ _) ?_
    exact g_vret C E dX9_spreads_33 rfl ⟨rfl, ⟨(by repeat (first | (with_reducible assumption) | (with_reducible exact gSm_r _) | (with_reducible refine gSm_I (by omega) ?_) | (with_reducible refine gSm_L (by omega) ?_) | (with_reducible refine gSm_N (by omega) ?_) | (with_reducible refine gSm_G (by omega) ?_) | (with_reducible refine gSm_P ?_))), rfl, h1, h2⟩⟩
set_option maxRecDepth 100000 in
set_option maxHeartbeats 4000000 in
theorem c_X9_goes (l : Launch) (δ : GD) (σ : GS) {u : Nat} (hu : u < 8) {k : Nat} (hk : k ≤ 12) (i c j d : Int32) : gM l δ yX9_goes cX9_goes 13 none 2 59 [.ref (δ.2.2.1 1), .int (nI u), .int (nI k), .int i, .int c, .int j, .int d] σ (gPv (fun σ' => gSm σ σ' ∧ gG σ' 15 = gG σ 15)) := by
  refine g_of (lv0 := [some (.ref (δ.2.2.1 1)), some (.int (nI u)), some (.int (nI k)), some (.int i), some (.int c), some (.int j), some (.int d), none, none, none, none, none, none]) (by decide) rfl (Nat.le_of_ble_eq_true rfl) (fun Γ hl C E => ?_)
  subst hl
  have C : gC Γ δ cX9_goes RX9 13 2 59 := C
  refine g_iconst (v := 0) C dX9_goes_0 (by decide) ?_
  refine g_istore C dX9_goes_1 (Nat.le_of_ble_eq_true rfl) rfl ?_
  refine g_lv [some _, some _, some _, some _, some _, some _, some _, some _, none, none, none, none, none] (gs_some (gs_some (gs_some (gs_some (gs_some (gs_some (gs_some (gs_some (gs_none (gs_none (gs_none (gs_none (gs_none gs_nil))))))))))))) ?_
  have L_3 : ∀ (nn : Nat) (q : Nat) (f : Nat → Int64) (hq : q ≤ 4394) (hf : ∀ z, z < q → f z = 0), 4394 - q < nn → gW Γ δ (uL σ 14 f) 3 [some (.ref (δ.2.2.1 1)), some (.int (nI u)), some (.int (nI k)), some (.int i), some (.int c), some (.int j), some (.int d), some (.int (nI q)), none, none, none, none, none] [] := by
    intro nn
    induction nn with
    | zero =>
      intro q f hq hf hm_3
      exact absurd hm_3 (Nat.not_lt_zero _)
    | succ nn ih_3 =>
      intro q f hq hf hm_3
      refine g_iload C dX9_goes_3 rfl ?_
      refine g_sipush (v := 4394) C dX9_goes_5 (by decide) ?_
      refine g_icmp_ge C 25 dX9_goes_8 (by decide) (fun c_8 => ?_) (fun c_8 => ?_)
      · have k_8 := gle c_8 (a := 4394) (b := q) (by first | rfl | assumption | (simp only [glit, nI_add, pk_mul]; done) | (simp only [glit, nI_add, pk_mul]; congr 1; omega) | (simp only [*, glit, nI_add, pk_mul]; congr 1; omega)) (by first | rfl | assumption | (simp only [glit, nI_add, pk_mul]; done) | (simp only [glit, nI_add, pk_mul]; congr 1; omega) | (simp only [*, glit, nI_add, pk_mul]; congr 1; omega)) (by omega) (by omega)
        have ek : q = 4394 := by omega
        subst ek
        refine g_aload_n C dX9_goes_25 rfl ?_
        refine g_get C dX9_goes_26 iwX9 rfl (wO_M δ _) 19 (Nat.le_of_ble_eq_true rfl) mW591 rfl rfl ?_
        refine g_iconst (v := 0) C dX9_goes_29 (by decide) ?_
        refine g_lconst (v := 1) C dX9_goes_30 (by decide) ?_
        refine g_lastN C dX9_goes_31 (k := 0) (q := 14) (by decide) rfl (by first | rfl | assumption | (simp only [glit, nI_add, pk_mul]; done) | (simp only [glit, nI_add, pk_mul]; congr 1; omega) | (simp only [*, glit, nI_add, pk_mul]; congr 1; omega)) (show 0 < gLenL 14 from Nat.lt_of_lt_of_eq (show 0 < 4394 by omega) rfl) ?_
        refine g_aload_n C dX9_goes_32 rfl ?_
        refine g_lconst (v := 0) C dX9_goes_33 (by decide) ?_
        refine g_put C tyX9 dX9_goes_34 iwX9 tyX9_ok nmX9 rfl (wO_M δ _) 21 (Nat.le_of_ble_eq_true rfl) mW593 rfl rfl rfl rfl rfl (Nat.le_of_ble_eq_true rfl) (pG_16 δ _ _) ?_
        refine g_aload_n C dX9_goes_37 rfl ?_
        refine g_get C dX9_goes_38 iwX9 rfl (wO_M δ _) 20 (Nat.le_of_ble_eq_true rfl) mW592 rfl rfl ?_
        refine g_lstore C dX9_goes_41 (Nat.le_of_ble_eq_true rfl) rfl ?_
        refine g_lv [some _, some _, some _, some _, some _, some _, some _, some _, none, none, none, none, none] (gs_some (gs_some (gs_some (gs_some (gs_some (gs_some (gs_some (gs_some (gs_none (gs_none (gs_none (gs_none (gs_none gs_nil))))))))))))) ?_
        refine g_iconst (v := 0) C dX9_goes_43 (by decide) ?_
        refine g_istore C dX9_goes_44 (Nat.le_of_ble_eq_true rfl) rfl ?_
        refine g_lv [some _, some _, some _, some _, some _, some _, some _, some _, none, some _, none, none, none] (gs_some (gs_some (gs_some (gs_some (gs_some (gs_some (gs_some (gs_some (gs_none (gs_some (gs_none (gs_none (gs_none gs_nil))))))))))))) ?_
        have L_46 : ∀ (nn : Nat) (r : Nat) (s1 : GS) (rr : Int64) (hr : r ≤ k) (hs : gSm σ s1) (hq : gG s1 15 = gG σ 15) (w1 : gWi (gL s1 14) r r), k - r < nn → gW Γ δ s1 46 [some (.ref (δ.2.2.1 1)), some (.int (nI u)), some (.int (nI k)), some (.int i), some (.int c), some (.int j), some (.int d), some (.long rr), none, some (.int (nI r)), none, none, none] [] := by
          intro nn
          induction nn with
          | zero =>
            intro r s1 rr hr hs hq w1 hm_46
            exact absurd hm_46 (Nat.not_lt_zero _)
          | succ nn ih_46 =>
            intro r s1 rr hr hs hq w1 hm_46
            refine g_iload C dX9_goes_46 rfl ?_
            refine g_iload_n C dX9_goes_48 rfl ?_
            refine g_icmp_ge C 214 dX9_goes_49 (by decide) (fun c_49 => ?_) (fun c_49 => ?_)
            · have k_49 := gle c_49 (a := k) (b := r) (by first | rfl | assumption | (simp only [glit, nI_add, pk_mul]; done) | (simp only [glit, nI_add, pk_mul]; congr 1; omega) | (simp only [*, glit, nI_add, pk_mul]; congr 1; omega)) (by first | rfl | assumption | (simp only [glit, nI_add, pk_mul]; done) | (simp only [glit, nI_add, pk_mul]; congr 1; omega) | (simp only [*, glit, nI_add, pk_mul]; congr 1; omega)) (by omega) (by omega)
              exact g_vret C E dX9_goes_214 rfl ⟨rfl, ⟨hs, hq⟩⟩
            · have k_49 := gnle c_49 (a := k) (b := r) (by first | rfl | assumption | (simp only [glit, nI_add, pk_mul]; done) | (simp only [glit, nI_add, pk_mul]; congr 1; omega) | (simp only [*, glit, nI_add, pk_mul]; congr 1; omega)) (by first | rfl | assumption | (simp only [glit, nI_add, pk_mul]; done) | (simp only [glit, nI_add, pk_mul]; congr 1; omega) | (simp only [*, glit, nI_add, pk_mul]; congr 1; omega)) (by omega) (by omega)
              refine g_aload_n C dX9_goes_52 rfl ?_
              refine g_iload_n C dX9_goes_53 rfl ?_
              refine g_callVi C sV_X9_113 dX9_goes_54 (c_X9_balls _ δ _ hu) ⟨by decide, by decide⟩ (wO_M δ _) rfl rfl rfl rfl (Nat.le_of_ble_eq_true rfl) (fun r_54 s_54 h_54 => ?_)
              obtain ⟨rfl, h_54⟩ := h_54
              refine g_i2l C dX9_goes_57 ?_
              refine g_iload C dX9_goes_58 rfl ?_
              refine g_i2l C dX9_goes_60 ?_
              refine g_aload_n C dX9_goes_61 rfl ?_
              refine g_iload_n C dX9_goes_62 rfl ?_
              refine g_iconst (v := 0) C dX9_goes_63 (by decide) ?_
              refine g_callVi C sV_X9_107 dX9_goes_64 (c_X9_addedSum _ δ _ hu (c := 0) (by omega)) ⟨by decide, by decide⟩ (wO_M δ _) rfl rfl rfl rfl (Nat.le_of_ble_eq_true rfl) (fun r_64 s_64 h_64 => ?_)
              obtain ⟨rfl, h_64⟩ := h_64
              refine g_i2l C dX9_goes_67 ?_
              refine g_lmul C dX9_goes_68 ?_
              refine g_ladd C dX9_goes_69 ?_
              refine g_lstore C dX9_goes_70 (Nat.le_of_ble_eq_true rfl) rfl ?_
              refine g_lv [some _, some _, some _, some _, some _, some _, some _, some _, none, some _, some _, none, none] (gs_some (gs_some (gs_some (gs_some (gs_some (gs_some (gs_some (gs_some (gs_none (gs_some (gs_some (gs_none (gs_none gs_nil))))))))))))) ?_
              generalize hT : (r_54.toInt64 + (nI r).toInt64 * r_64.toInt64) = tt
              have J_89 : ∀ (y : Int64), gW Γ δ s1 89 [some (.ref (δ.2.2.1 1)), some (.int (nI u)), some (.int (nI k)), some (.int i), some (.int c), some (.int j), some (.int d), some (.long rr), none, some (.int (nI r)), some (.long tt), none, none] [.long y] := by
                intro y
                refine g_lstore C dX9_goes_89 (Nat.le_of_ble_eq_true rfl) rfl ?_
                refine g_lv [some _, some _, some _, some _, some _, some _, some _, some _, none, some _, some _, none, none] (gs_some (gs_some (gs_some (gs_some (gs_some (gs_some (gs_some (gs_some (gs_none (gs_some (gs_some (gs_none (gs_none gs_nil))))))))))))) ?_
                refine g_iconst (v := 0) C dX9_goes_91 (by decide) ?_
                refine g_istore C dX9_goes_92 (Nat.le_of_ble_eq_true rfl) rfl ?_
                refine g_lv [some _, some _, some _, some _, some _, some _, some _, some _, none, some _, some _, none, some _] (gs_some (gs_some (gs_some (gs_some (gs_some (gs_some (gs_some (gs_some (gs_none (gs_some (gs_some (gs_none (gs_some gs_nil))))))))))))) ?_
                have L_94 : ∀ (nn : Nat) (q : Nat) (f : Nat → Int64) (hq2 : q ≤ 2197) (hf : ∀ z, z < q → f (2197 * ((r + 1) % 2) + z) = 0) (hg : ∀ z, z < 2197 → f (2197 * (r % 2) + z) = gL s1 14 (2197 * (r % 2) + z)), 2197 - q < nn → gW Γ δ (uL s1 14 f) 94 [some (.ref (δ.2.2.1 1)), some (.int (nI u)), some (.int (nI k)), some (.int i), some (.int c), some (.int j), some (.int d), some (.long y), none, some (.int (nI r)), some (.long tt), none, some (.int (nI q))] [] := by
                  intro nn
                  induction nn with
                  | zero =>
                    intro q f hq2 hf hg hm_94
                    exact absurd hm_94 (Nat.not_lt_zero _)
                  | succ nn ih_94 =>
                    intro q f hq2 hf hg hm_94
                    refine g_iload C dX9_goes_94 rfl ?_
                    refine g_sipush (v := 2197) C dX9_goes_96 (by decide) ?_
                    refine g_icmp_ge C 123 dX9_goes_99 (by decide) (fun c_99 => ?_) (fun c_99 => ?_)
                    · have k_99 := gle c_99 (a := 2197) (b := q) (by first | rfl | assumption | (simp only [glit, nI_add, pk_mul]; done) | (simp only [glit, nI_add, pk_mul]; congr 1; omega) | (simp only [*, glit, nI_add, pk_mul]; congr 1; omega)) (by first | rfl | assumption | (simp only [glit, nI_add, pk_mul]; done) | (simp only [glit, nI_add, pk_mul]; congr 1; omega) | (simp only [*, glit, nI_add, pk_mul]; congr 1; omega)) (by omega) (by omega)
                      have ek : q = 2197 := by omega
                      subst ek
                      refine g_iconst (v := 0) C dX9_goes_123 (by decide) ?_
                      refine g_istore C dX9_goes_124 (Nat.le_of_ble_eq_true rfl) rfl ?_
                      refine g_lv [some _, some _, some _, some _, some _, some _, some _, some _, none, some _, some _, none, some _] (gs_some (gs_some (gs_some (gs_some (gs_some (gs_some (gs_some (gs_some (gs_none (gs_some (gs_some (gs_none (gs_some gs_nil))))))))))))) ?_
                      have L_126 : ∀ (nn : Nat) (q : Nat) (s2 : GS) (hq3 : q ≤ 2197) (hs2 : gSm σ s2) (q2 : gG s2 15 = gG σ 15) (v1 : gWi (gL s2 14) r r) (v2 : gWi (gL s2 14) (r + 1) (r + 1)), 2197 - q < nn → gW Γ δ s2 126 [some (.ref (δ.2.2.1 1)), some (.int (nI u)), some (.int (nI k)), some (.int i), some (.int c), some (.int j), some (.int d), some (.long y), none, some (.int (nI r)), some (.long tt), none, some (.int (nI q))] [] := by
                        intro nn
                        induction nn with
                        | zero =>
                          intro q s2 hq3 hs2 q2 v1 v2 hm_126
                          exact absurd hm_126 (Nat.not_lt_zero _)
                        | succ nn ih_126 =>
                          intro q s2 hq3 hs2 q2 v1 v2 hm_126
                          refine g_iload C dX9_goes_126 rfl ?_
                          refine g_sipush (v := 2197) C dX9_goes_128 (by decide) ?_
                          refine g_icmp_ge C 208 dX9_goes_131 (by decide) (fun c_131 => ?_) (fun c_131 => ?_)
                          · have k_131 := gle c_131 (a := 2197) (b := q) (by first | rfl | assumption | (simp only [glit, nI_add, pk_mul]; done) | (simp only [glit, nI_add, pk_mul]; congr 1; omega) | (simp only [*, glit, nI_add, pk_mul]; congr 1; omega)) (by first | rfl | assumption | (simp only [glit, nI_add, pk_mul]; done) | (simp only [glit, nI_add, pk_mul]; congr 1; omega) | (simp only [*, glit, nI_add, pk_mul]; congr 1; omega)) (by omega) (by omega)
                            have ek : q = 2197 := by omega
                            subst ek
                            refine g_iinc (v := nI (r + 1)) C dX9_goes_208 rfl (ginc _ 1) rfl ?_
                            refine g_lv [some _, some _, some _, some _, some _, some _, some _, some _, none, some _, some _, none, some _] (gs_some (gs_some (gs_some (gs_some (gs_some (gs_some (gs_some (gs_some (gs_none (gs_some (gs_some (gs_none (gs_some gs_nil))))))))))))) ?_
                            refine g_goto C 46 dX9_goes_211 (by decide) ?_
                            refine g_lv [some _, some _, some _, some _, some _, some _, some _, some _, none, some _, none, none, none] (gs_some (gs_some (gs_some (gs_some (gs_some (gs_some (gs_some (gs_some (gs_none (gs_some (gs_none (gs_none (gs_none gs_nil))))))))))))) ?_
                            exact ih_46 (r + 1) _ _ (by omega) hs2 q2 v2 (by omega)
                          · have k_131 := gnle c_131 (a := 2197) (b := q) (by first | rfl | assumption | (simp only [glit, nI_add, pk_mul]; done) | (simp only [glit, nI_add, pk_mul]; congr 1; omega) | (simp only [*, glit, nI_add, pk_mul]; congr 1; omega)) (by first | rfl | assumption | (simp only [glit, nI_add, pk_mul]; done) | (simp only [glit, nI_add, pk_mul]; congr 1; omega) | (simp only [*, glit, nI_add, pk_mul]; congr 1; omega)) (by omega) (by omega)
                            refine g_aload_n C dX9_goes_134 rfl ?_
                            refine g_get C dX9_goes_135 iwX9 rfl (wO_M δ _) 19 (Nat.le_of_ble_eq_true rfl) mW591 rfl rfl ?_
                            refine g_iload C dX9_goes_138 rfl ?_
                            refine g_iload C dX9_goes_140 rfl ?_
                            refine g_callSi C sS_X9_186 dX9_goes_142 (c_X9_at _ δ _ (r := r) (p := q) (by omega)) ⟨by decide, by decide⟩ rfl rfl rfl (Nat.le_of_ble_eq_true rfl) (fun r_142 s_142 h_142 => ?_)
                            obtain ⟨rfl, rfl⟩ := h_142
                            refine g_laldN C dX9_goes_145 (k := (2197 * ((r) % 2) + (q))) (q := 14) (by decide) rfl (by first | rfl | assumption | (simp only [glit, nI_add, pk_mul]; done) | (simp only [glit, nI_add, pk_mul]; congr 1; omega) | (simp only [*, glit, nI_add, pk_mul]; congr 1; omega)) (show (2197 * ((r) % 2) + (q)) < gLenL 14 from Nat.lt_of_lt_of_eq (show (2197 * ((r) % 2) + (q)) < 4394 by omega) rfl) ?_
                            refine g_lconst (v := 0) C dX9_goes_146 (by decide) ?_
                            refine g_lcmp C dX9_goes_147 ?_
                            refine g_if_le C 202 dX9_goes_148 (by decide) (fun c_148 => ?_) (fun c_148 => ?_)
                            · rw [lg_cmp_le] at c_148
                              refine g_iinc (v := nI (q + 1)) C dX9_goes_202 rfl (ginc _ 1) rfl ?_
                              refine g_lv [some _, some _, some _, some _, some _, some _, some _, some _, none, some _, some _, none, some _] (gs_some (gs_some (gs_some (gs_some (gs_some (gs_some (gs_some (gs_some (gs_none (gs_some (gs_some (gs_none (gs_some gs_nil))))))))))))) ?_
                              refine g_goto C 126 dX9_goes_205 (by decide) ?_
                              refine g_lv [some _, some _, some _, some _, some _, some _, some _, some _, none, some _, some _, none, some _] (gs_some (gs_some (gs_some (gs_some (gs_some (gs_some (gs_some (gs_some (gs_none (gs_some (gs_some (gs_none (gs_some gs_nil))))))))))))) ?_
                              exact ih_126 (q + 1) _ (by omega) (by first | exact hs2 | exact z_199) (by first | exact q2 | exact (h_199.2.1.trans (h_157.2.2.trans q2))) (by first | exact v1 | exact h_199.2.2.1) (by first | exact v2 | exact h_199.2.2.2) (by omega)
                            · rw [lg_cmp_le] at c_148
                              have hp : q ≤ 169 * r := v1 q (by omega) (fun e => c_148 (by rw [e]; exact Int64.le_refl _))
                              refine g_aload_n C dX9_goes_151 rfl ?_
                              refine g_iload_n C dX9_goes_152 rfl ?_
                              refine g_iload C dX9_goes_153 rfl ?_
                              refine g_iload C dX9_goes_155 rfl ?_
                              refine g_callVv C sV_X9_189 dX9_goes_157 (c_X9_looksAt _ δ _ hu (p := q) (k := r)) ⟨by decide, by decide⟩ (wO_M δ _) rfl rfl rfl rfl (Nat.le_of_ble_eq_true rfl) (fun s_157 h_157 => ?_)
                              have z_157 : gSm σ s_157 := gSm_t hs2 h_157.1
                              refine g_aload_n C dX9_goes_160 rfl ?_
                              refine g_iload_n C dX9_goes_161 rfl ?_
                              refine g_iload C dX9_goes_162 rfl ?_
                              refine g_iload C dX9_goes_164 rfl ?_
                              refine g_lload C dX9_goes_166 rfl ?_
                              refine g_lload C dX9_goes_168 rfl ?_
                              refine g_iload C dX9_goes_170 rfl ?_
                              refine g_iconst (v := 1) C dX9_goes_172 (by decide) ?_
                              refine g_iadd C dX9_goes_173 ?_
                              refine g_iload_n C dX9_goes_174 rfl ?_
                              refine g_icmp_ne C 183 dX9_goes_175 (by decide) (fun c_175 => ?_) (fun c_175 => ?_)
                              · refine g_iconst (v := (-1)) C dX9_goes_183 (by decide) ?_
                                refine g_iload C dX9_goes_184 rfl ?_
                                refine g_iconst (v := 1) C dX9_goes_186 (by decide) ?_
                                refine g_iadd C dX9_goes_187 ?_
                                refine g_iload C dX9_goes_188 rfl ?_
                                refine g_icmp_ne C 198 dX9_goes_190 (by decide) (fun c_190 => ?_) (fun c_190 => ?_)
                                · refine g_iconst (v := (-1)) C dX9_goes_198 (by decide) ?_
                                  refine g_callVv C sV_X9_193 dX9_goes_199 (c_X9_spreads _ δ _ hu (p := q) (k := r) (by omega) hp _ _ _ _ (by rw [h_157.2.1]; exact v1) (by rw [h_157.2.1]; exact v2)) ⟨by decide, by decide⟩ (wO_M δ _) rfl rfl rfl rfl (Nat.le_of_ble_eq_true rfl) (fun s_199 h_199 => ?_)
                                  have z_199 : gSm σ s_199 := gSm_t z_157 h_199.1
                                  refine g_iinc (v := nI (q + 1)) C dX9_goes_202 rfl (ginc _ 1) rfl ?_
                                  refine g_lv [some _, some _, some _, some _, some _, some _, some _, some _, none, some _, some _, none, some _] (gs_some (gs_some (gs_some (gs_some (gs_some (gs_some (gs_some (gs_some (gs_none (gs_some (gs_some (gs_none (gs_some gs_nil))))))))))))) ?_
                                  refine g_goto C 126 dX9_goes_205 (by decide) ?_
                                  refine g_lv [some _, some _, some _, some _, some _, some _, some _, some _, none, some _, some _, none, some _] (gs_some (gs_some (gs_some (gs_some (gs_some (gs_some (gs_some (gs_some (gs_none (gs_some (gs_some (gs_none (gs_some gs_nil))))))))))))) ?_
                                  exact ih_126 (q + 1) _ (by omega) (by first | exact hs2 | exact z_199) (by first | exact q2 | exact (h_199.2.1.trans (h_157.2.2.trans q2))) (by first | exact v1 | exact h_199.2.2.1) (by first | exact v2 | exact h_199.2.2.2) (by omega)
                                · refine g_iload C dX9_goes_193 rfl ?_
                                  refine g_goto C 199 dX9_goes_195 (by decide) ?_
                                  refine g_callVv C sV_X9_193 dX9_goes_199 (c_X9_spreads _ δ _ hu (p := q) (k := r) (by omega) hp _ _ _ _ (by rw [h_157.2.1]; exact v1) (by rw [h_157.2.1]; exact v2)) ⟨by decide, by decide⟩ (wO_M δ _) rfl rfl rfl rfl (Nat.le_of_ble_eq_true rfl) (fun s_199 h_199 => ?_)
                                  have z_199 : gSm σ s_199 := gSm_t z_157 h_199.1
                                  refine g_iinc (v := nI (q + 1)) C dX9_goes_202 rfl (ginc _ 1) rfl ?_
                                  refine g_lv [some _, some _, some _, some _, some _, some _, some _, some _, none, some _, some _, none, some _] (gs_some (gs_some (gs_some (gs_some (gs_some (gs_some (gs_some (gs_some (gs_none (gs_some (gs_some (gs_none (gs_some gs_nil))))))))))))) ?_
                                  refine g_goto C 126 dX9_goes_205 (by decide) ?_
                                  refine g_lv [some _, some _, some _, some _, some _, some _, some _, some _, none, some _, some _, none, some _] (gs_some (gs_some (gs_some (gs_some (gs_some (gs_some (gs_some (gs_some (gs_none (gs_some (gs_some (gs_none (gs_some gs_nil))))))))))))) ?_
                                  exact ih_126 (q + 1) _ (by omega) (by first | exact hs2 | exact z_199) (by first | exact q2 | exact (h_199.2.1.trans (h_157.2.2.trans q2))) (by first | exact v1 | exact h_199.2.2.1) (by first | exact v2 | exact h_199.2.2.2) (by omega)
                              · refine g_iload C dX9_goes_178 rfl ?_
                                refine g_goto C 184 dX9_goes_180 (by decide) ?_
                                refine g_iload C dX9_goes_184 rfl ?_
                                refine g_iconst (v := 1) C dX9_goes_186 (by decide) ?_
                                refine g_iadd C dX9_goes_187 ?_
                                refine g_iload C dX9_goes_188 rfl ?_
                                refine g_icmp_ne C 198 dX9_goes_190 (by decide) (fun c_190 => ?_) (fun c_190 => ?_)
                                · refine g_iconst (v := (-1)) C dX9_goes_198 (by decide) ?_
                                  refine g_callVv C sV_X9_193 dX9_goes_199 (c_X9_spreads _ δ _ hu (p := q) (k := r) (by omega) hp _ _ _ _ (by rw [h_157.2.1]; exact v1) (by rw [h_157.2.1]; exact v2)) ⟨by decide, by decide⟩ (wO_M δ _) rfl rfl rfl rfl (Nat.le_of_ble_eq_true rfl) (fun s_199 h_199 => ?_)
                                  have z_199 : gSm σ s_199 := gSm_t z_157 h_199.1
                                  refine g_iinc (v := nI (q + 1)) C dX9_goes_202 rfl (ginc _ 1) rfl ?_
                                  refine g_lv [some _, some _, some _, some _, some _, some _, some _, some _, none, some _, some _, none, some _] (gs_some (gs_some (gs_some (gs_some (gs_some (gs_some (gs_some (gs_some (gs_none (gs_some (gs_some (gs_none (gs_some gs_nil))))))))))))) ?_
                                  refine g_goto C 126 dX9_goes_205 (by decide) ?_
                                  refine g_lv [some _, some _, some _, some _, some _, some _, some _, some _, none, some _, some _, none, some _] (gs_some (gs_some (gs_some (gs_some (gs_some (gs_some (gs_some (gs_some (gs_none (gs_some (gs_some (gs_none (gs_some gs_nil))))))))))))) ?_
                                  exact ih_126 (q + 1) _ (by omega) (by first | exact hs2 | exact z_199) (by first | exact q2 | exact (h_199.2.1.trans (h_157.2.2.trans q2))) (by first | exact v1 | exact h_199.2.2.1) (by first | exact v2 | exact h_199.2.2.2) (by omega)
                                · refine g_iload C dX9_goes_193 rfl ?_
                                  refine g_goto C 199 dX9_goes_195 (by decide) ?_
                                  refine g_callVv C sV_X9_193 dX9_goes_199 (c_X9_spreads _ δ _ hu (p := q) (k := r) (by omega) hp _ _ _ _ (by rw [h_157.2.1]; exact v1) (by rw [h_157.2.1]; exact v2)) ⟨by decide, by decide⟩ (wO_M δ _) rfl rfl rfl rfl (Nat.le_of_ble_eq_true rfl) (fun s_199 h_199 => ?_)
                                  have z_199 : gSm σ s_199 := gSm_t z_157 h_199.1
                                  refine g_iinc (v := nI (q + 1)) C dX9_goes_202 rfl (ginc _ 1) rfl ?_
                                  refine g_lv [some _, some _, some _, some _, some _, some _, some _, some _, none, some _, some _, none, some _] (gs_some (gs_some (gs_some (gs_some (gs_some (gs_some (gs_some (gs_some (gs_none (gs_some (gs_some (gs_none (gs_some gs_nil))))))))))))) ?_
                                  refine g_goto C 126 dX9_goes_205 (by decide) ?_
                                  refine g_lv [some _, some _, some _, some _, some _, some _, some _, some _, none, some _, some _, none, some _] (gs_some (gs_some (gs_some (gs_some (gs_some (gs_some (gs_some (gs_some (gs_none (gs_some (gs_some (gs_none (gs_some gs_nil))))))))))))) ?_
                                  exact ih_126 (q + 1) _ (by omega) (by first | exact hs2 | exact z_199) (by first | exact q2 | exact (h_199.2.1.trans (h_157.2.2.trans q2))) (by first | exact v1 | exact h_199.2.2.1) (by first | exact v2 | exact h_199.2.2.2) (by omega)
                      refine g_lv [some _, some _, some _, some _, some _, some _, some _, some _, none, some _, some _, none, some _] (gs_some (gs_some (gs_some (gs_some (gs_some (gs_some (gs_some (gs_some (gs_none (gs_some (gs_some (gs_none (gs_some gs_nil))))))))))))) ?_
                      exact L_126 _ 0 _ (by omega) (by repeat (first | (with_reducible assumption) | (with_reducible exact gSm_r _) | (with_reducible refine gSm_I (by omega) ?_) | (with_reducible refine gSm_L (by omega) ?_) | (with_reducible refine gSm_N (by omega) ?_) | (with_reducible refine gSm_G (by omega) ?_) | (with_reducible refine gSm_P ?_))) hq (gWi_a w1 hg) (gWi_b hf) (Nat.lt_succ_self _)
                    · have k_99 := gnle c_99 (a := 2197) (b := q) (by first | rfl | assumption | (simp only [glit, nI_add, pk_mul]; done) | (simp only [glit, nI_add, pk_mul]; congr 1; omega) | (simp only [*, glit, nI_add, pk_mul]; congr 1; omega)) (by first | rfl | assumption | (simp only [glit, nI_add, pk_mul]; done) | (simp only [glit, nI_add, pk_mul]; congr 1; omega) | (simp only [*, glit, nI_add, pk_mul]; congr 1; omega)) (by omega) (by omega)
                      refine g_aload_n C dX9_goes_102 rfl ?_
                      refine g_get C dX9_goes_103 iwX9 rfl (wO_M δ _) 19 (Nat.le_of_ble_eq_true rfl) mW591 rfl rfl ?_
                      refine g_iload C dX9_goes_106 rfl ?_
                      refine g_iconst (v := 1) C dX9_goes_108 (by decide) ?_
                      refine g_iadd C dX9_goes_109 ?_
                      rw [show nI r + 1 = nI (r + 1) from nI_1 r]
                      refine g_iload C dX9_goes_110 rfl ?_
                      refine g_callSi C sS_X9_186 dX9_goes_112 (c_X9_at _ δ _ (r := r + 1) (p := q) (by omega)) ⟨by decide, by decide⟩ rfl rfl rfl (Nat.le_of_ble_eq_true rfl) (fun r_112 s_112 h_112 => ?_)
                      obtain ⟨rfl, rfl⟩ := h_112
                      refine g_lconst (v := 0) C dX9_goes_115 (by decide) ?_
                      refine g_lastN C dX9_goes_116 (k := (2197 * ((r + 1) % 2) + (q))) (q := 14) (by decide) rfl (by first | rfl | assumption | (simp only [glit, nI_add, pk_mul]; done) | (simp only [glit, nI_add, pk_mul]; congr 1; omega) | (simp only [*, glit, nI_add, pk_mul]; congr 1; omega)) (show (2197 * ((r + 1) % 2) + (q)) < gLenL 14 from Nat.lt_of_lt_of_eq (show (2197 * ((r + 1) % 2) + (q)) < 4394 by omega) rfl) ?_
                      refine g_iinc (v := nI (q + 1)) C dX9_goes_117 rfl (ginc _ 1) rfl ?_
                      refine g_lv [some _, some _, some _, some _, some _, some _, some _, some _, none, some _, some _, none, some _] (gs_some (gs_some (gs_some (gs_some (gs_some (gs_some (gs_some (gs_some (gs_none (gs_some (gs_some (gs_none (gs_some gs_nil))))))))))))) ?_
                      refine g_goto C 94 dX9_goes_120 (by decide) ?_
                      refine g_lv [some _, some _, some _, some _, some _, some _, some _, some _, none, some _, some _, none, some _] (gs_some (gs_some (gs_some (gs_some (gs_some (gs_some (gs_some (gs_some (gs_none (gs_some (gs_some (gs_none (gs_some gs_nil))))))))))))) ?_
                      rw [uL_uL, gL_uL, if_pos rfl]
                      exact ih_94 (q + 1) _ (by omega) (fun z h => gclr1 hf h) (fun z h => gclr2 (by omega) hg h) (by omega)
                refine g_lv [some _, some _, some _, some _, some _, some _, some _, some _, none, some _, some _, none, some _] (gs_some (gs_some (gs_some (gs_some (gs_some (gs_some (gs_some (gs_some (gs_none (gs_some (gs_some (gs_none (gs_some gs_nil))))))))))))) ?_
                refine g_st (uL_id _ 14).symm ?_
                exact L_94 _ 0 _ (by omega) (fun _ h => absurd h (Nat.not_lt_zero _)) (fun _ _ => rfl) (Nat.lt_succ_self _)
              refine g_lload C dX9_goes_72 rfl ?_
              refine g_lconst (v := 0) C dX9_goes_74 (by decide) ?_
              refine g_lcmp C dX9_goes_75 ?_
              refine g_if_le C 87 dX9_goes_76 (by decide) (fun c_76 => ?_) (fun c_76 => ?_)
              · rw [lg_cmp_le] at c_76
                refine g_lload C dX9_goes_87 rfl ?_
                refine g_lv [some _, some _, some _, some _, some _, some _, some _, some _, none, some _, some _, none, none] (gs_some (gs_some (gs_some (gs_some (gs_some (gs_some (gs_some (gs_some (gs_none (gs_some (gs_some (gs_none (gs_none gs_nil))))))))))))) ?_
                exact J_89 _
              · rw [lg_cmp_le] at c_76
                refine g_lload C dX9_goes_79 rfl ?_
                refine g_lload C dX9_goes_81 rfl ?_
                refine g_ldiv C dX9_goes_83 (gnz1 (l_1le c_76)) ?_
                refine g_goto C 89 dX9_goes_84 (by decide) ?_
                refine g_lv [some _, some _, some _, some _, some _, some _, some _, some _, none, some _, some _, none, none] (gs_some (gs_some (gs_some (gs_some (gs_some (gs_some (gs_some (gs_some (gs_none (gs_some (gs_some (gs_none (gs_none gs_nil))))))))))))) ?_
                exact J_89 _
        refine g_lv [some _, some _, some _, some _, some _, some _, some _, some _, none, some _, none, none, none] (gs_some (gs_some (gs_some (gs_some (gs_some (gs_some (gs_some (gs_some (gs_none (gs_some (gs_none (gs_none (gs_none gs_nil))))))))))))) ?_
        exact L_46 _ 0 _ _ (by omega) (by repeat (first | (with_reducible assumption) | (with_reducible exact gSm_r _) | (with_reducible refine gSm_I (by omega) ?_) | (with_reducible refine gSm_L (by omega) ?_) | (with_reducible refine gSm_N (by omega) ?_) | (with_reducible refine gSm_G (by omega) ?_) | (with_reducible refine gSm_P ?_))) rfl (gWi_0 hf) (Nat.lt_succ_self _)
      · have k_8 := gnle c_8 (a := 4394) (b := q) (by first | rfl | assumption | (simp only [glit, nI_add, pk_mul]; done) | (simp only [glit, nI_add, pk_mul]; congr 1; omega) | (simp only [*, glit, nI_add, pk_mul]; congr 1; omega)) (by first | rfl | assumption | (simp only [glit, nI_add, pk_mul]; done) | (simp only [glit, nI_add, pk_mul]; congr 1; omega) | (simp only [*, glit, nI_add, pk_mul]; congr 1; omega)) (by omega) (by omega)
        refine g_aload_n C dX9_goes_11 rfl ?_
        refine g_get C dX9_goes_12 iwX9 rfl (wO_M δ _) 19 (Nat.le_of_ble_eq_true rfl) mW591 rfl rfl ?_
        refine g_iload C dX9_goes_15 rfl ?_
        refine g_lconst (v := 0) C dX9_goes_17 (by decide) ?_
        refine g_lastN C dX9_goes_18 (k := q) (q := 14) (by decide) rfl (by first | rfl | assumption | (simp only [glit, nI_add, pk_mul]; done) | (simp only [glit, nI_add, pk_mul]; congr 1; omega) | (simp only [*, glit, nI_add, pk_mul]; congr 1; omega)) (show q < gLenL 14 from Nat.lt_of_lt_of_eq (show q < 4394 by omega) rfl) ?_
        refine g_iinc (v := nI (q + 1)) C dX9_goes_19 rfl (ginc _ 1) rfl ?_
        refine g_lv [some _, some _, some _, some _, some _, some _, some _, some _, none, none, none, none, none] (gs_some (gs_some (gs_some (gs_some (gs_some (gs_some (gs_some (gs_some (gs_none (gs_none (gs_none (gs_none (gs_none gs_nil))))))))))))) ?_
        refine g_goto C 3 dX9_goes_22 (by decide) ?_
        refine g_lv [some _, some _, some _, some _, some _, some _, some _, some _, none, none, none, none, none] (gs_some (gs_some (gs_some (gs_some (gs_some (gs_some (gs_some (gs_some (gs_none (gs_none (gs_none (gs_none (gs_none gs_nil))))))))))))) ?_
        rw [uL_uL, gL_uL, if_pos rfl]
        exact ih_3 (q + 1) _ (by omega) (fun z h => vp_fill hf h) (by omega)
  refine g_lv [some _, some _, some _, some _, some _, some _, some _, some _, none, none, none, none, none] (gs_some (gs_some (gs_some (gs_some (gs_some (gs_some (gs_some (gs_some (gs_none (gs_none (gs_none (gs_none (gs_none gs_nil))))))))))))) ?_
  refine g_st (uL_id _ 14).symm ?_
  exact L_3 _ 0 _ (by omega) (fun _ h => absurd h (Nat.not_lt_zero _)) (Nat.lt_succ_self _)
set_option maxRecDepth 100000 in
set_option maxHeartbeats 4000000 in
theorem c_X9_isAsked (l : Launch) (δ : GD) (σ : GS) (u n : Int32) {m : Nat} (hm : gN σ 33 = nI m) (h8 : m ≤ 8) : gM l δ yX9_isAsked cX9_isAsked 3 (some .boolean) 2 46 [.ref (δ.2.2.1 1), .int u, .int n] σ (gPi (fun x σ' => σ = σ' ∧ ((x = 1 ∧ (gIx u m ∧ gIx n 13)) ∨ (x = 0 ∧ ¬ (gIx u m ∧ gIx n 13))))) := by
  refine g_of (lv0 := [some (.ref (δ.2.2.1 1)), some (.int u), some (.int n)]) (by decide) rfl (Nat.le_of_ble_eq_true rfl) (fun Γ hl C E => ?_)
  subst hl
  have C : gC Γ δ cX9_isAsked RX9 3 2 46 := C
  refine g_aload_n C dX9_isAsked_0 rfl ?_
  refine g_iload_n C dX9_isAsked_1 rfl ?_
  refine g_callVi C sV_X9_89 dX9_isAsked_2 (c_X9_isUrn _ δ _ _ hm h8) ⟨by decide, by decide⟩ (wO_M δ _) rfl rfl rfl rfl (Nat.le_of_ble_eq_true rfl) (fun r_2 s_2 h_2 => ?_)
  obtain ⟨rfl, h_2⟩ := h_2
  rcases h_2 with ⟨rfl, h_2⟩ | ⟨rfl, h_2⟩
  · skip
    refine g_if_eq C 24 dX9_isAsked_5 (by decide) (fun c_5 => ?_) (fun c_5 => ?_)
    · exact absurd c_5 (by decide)
    · refine g_iload_n C dX9_isAsked_8 rfl ?_
      refine g_i2l C dX9_isAsked_9 ?_
      refine g_lconst (v := 0) C dX9_isAsked_10 (by decide) ?_
      refine g_ldc2 C dX9_isAsked_11 mW792 ?_
      refine g_callSi C sS_X9_62 dX9_isAsked_14 (c_X9_in _ δ _ _ _ _) ⟨by decide, by decide⟩ rfl rfl rfl (Nat.le_of_ble_eq_true rfl) (fun r_14 s_14 h_14 => ?_)
      obtain ⟨rfl, h_14⟩ := h_14
      rw [gInL_ix (m := 13) (by omega) (by decide)] at h_14
      rcases h_14 with ⟨rfl, h_14⟩ | ⟨rfl, h_14⟩
      · skip
        refine g_if_eq C 24 dX9_isAsked_17 (by decide) (fun c_17 => ?_) (fun c_17 => ?_)
        · exact absurd c_17 (by decide)
        · refine g_iconst (v := 1) C dX9_isAsked_20 (by decide) ?_
          refine g_goto C 25 dX9_isAsked_21 (by decide) ?_
          exact g_iret C E dX9_isAsked_25 rfl rfl ⟨_, rfl, ⟨rfl, by first | exact Or.inl ⟨rfl, h_2, h_14⟩ | exact Or.inr ⟨rfl, fun z => h_2 z.1⟩ | exact Or.inr ⟨rfl, fun z => h_14 z.2⟩⟩⟩
      · skip
        refine g_if_eq C 24 dX9_isAsked_17 (by decide) (fun c_17 => ?_) (fun c_17 => ?_)
        · refine g_iconst (v := 0) C dX9_isAsked_24 (by decide) ?_
          exact g_iret C E dX9_isAsked_25 rfl rfl ⟨_, rfl, ⟨rfl, by first | exact Or.inl ⟨rfl, h_2, h_14⟩ | exact Or.inr ⟨rfl, fun z => h_2 z.1⟩ | exact Or.inr ⟨rfl, fun z => h_14 z.2⟩⟩⟩
        · exact absurd c_17 (by decide)
  · skip
    refine g_if_eq C 24 dX9_isAsked_5 (by decide) (fun c_5 => ?_) (fun c_5 => ?_)
    · refine g_iconst (v := 0) C dX9_isAsked_24 (by decide) ?_
      exact g_iret C E dX9_isAsked_25 rfl rfl ⟨_, rfl, ⟨rfl, by first | exact Or.inl ⟨rfl, h_2, h_14⟩ | exact Or.inr ⟨rfl, fun z => h_2 z.1⟩ | exact Or.inr ⟨rfl, fun z => h_14 z.2⟩⟩⟩
    · exact absurd c_5 (by decide)
set_option maxRecDepth 100000 in
set_option maxHeartbeats 4000000 in
theorem c_X9_times (l : Launch) (δ : GD) (σ : GS) (a0 a1 a2 a3 : Int32) {m : Nat} (hm : gN σ 33 = nI m) (h8 : m ≤ 8) (hC : ∀ u, u < m → ∃ n : Nat, 2 ≤ n ∧ n ≤ 4 ∧ gI σ 52 u = nI n) : gM l δ yX9_times cX9_times 9 (some .int) 3 91 [.ref (δ.2.2.1 1), .int a0, .int a1, .int a2, .int a3] σ (gPi (fun _ σ' => gSm σ σ')) := by
  refine g_of (lv0 := [some (.ref (δ.2.2.1 1)), some (.int a0), some (.int a1), some (.int a2), some (.int a3), none, none, none, none]) (by decide) rfl (Nat.le_of_ble_eq_true rfl) (fun Γ hl C E => ?_)
  subst hl
  have C : gC Γ δ cX9_times RX9 9 3 91 := C
  refine g_aload_n C dX9_times_0 rfl ?_
  refine g_iload_n C dX9_times_1 rfl ?_
  refine g_iload_n C dX9_times_2 rfl ?_
  refine g_callVi C sV_X9_200 dX9_times_3 (c_X9_isAsked _ δ _ _ _ hm h8) ⟨by decide, by decide⟩ (wO_M δ _) rfl rfl rfl rfl (Nat.le_of_ble_eq_true rfl) (fun r_3 s_3 h_3 => ?_)
  obtain ⟨rfl, h_3⟩ := h_3
  rcases h_3 with ⟨rfl, h_3⟩ | ⟨rfl, h_3⟩
  · obtain ⟨⟨u1, hu1, rfl⟩, k1, hk1, rfl⟩ := id h_3
    obtain ⟨n, h2, h4, hn⟩ := hC u1 hu1
    have hu8 : u1 < 8 := by omega
    refine g_if_eq C 31 dX9_times_6 (by decide) (fun c_6 => ?_) (fun c_6 => ?_)
    · exact absurd c_6 (by decide)
    · refine g_aload_n C dX9_times_9 rfl ?_
      refine g_iload_n C dX9_times_10 rfl ?_
      refine g_iload_n C dX9_times_11 rfl ?_
      refine g_callVi C sV_X9_92 dX9_times_12 (c_X9_isColour _ δ _ hu8 _ hn h4) ⟨by decide, by decide⟩ (wO_M δ _) rfl rfl rfl rfl (Nat.le_of_ble_eq_true rfl) (fun r_12 s_12 h_12 => ?_)
      obtain ⟨rfl, h_12⟩ := h_12
      rcases h_12 with ⟨rfl, h_12⟩ | ⟨rfl, h_12⟩
      · obtain ⟨c1, hc1, rfl⟩ := id h_12
        refine g_if_eq C 31 dX9_times_15 (by decide) (fun c_15 => ?_) (fun c_15 => ?_)
        · exact absurd c_15 (by decide)
        · refine g_iload C dX9_times_18 rfl ?_
          refine g_i2l C dX9_times_20 ?_
          refine g_lconst (v := 0) C dX9_times_21 (by decide) ?_
          refine g_ldc2 C dX9_times_22 mW792 ?_
          refine g_callSi C sS_X9_62 dX9_times_25 (c_X9_in _ δ _ _ _ _) ⟨by decide, by decide⟩ rfl rfl rfl (Nat.le_of_ble_eq_true rfl) (fun r_25 s_25 h_25 => ?_)
          obtain ⟨rfl, h_25⟩ := h_25
          rcases h_25 with ⟨rfl, h_25⟩ | ⟨rfl, h_25⟩
          · skip
            refine g_if_ne C 33 dX9_times_28 (by decide) (fun c_28 => ?_) (fun c_28 => ?_)
            · refine g_aload_n C dX9_times_33 rfl ?_
              refine g_iload_n C dX9_times_34 rfl ?_
              refine g_iload_n C dX9_times_35 rfl ?_
              refine g_callVi C sV_X9_203 dX9_times_36 (c_X9_evenFault _ δ _ hu8 (k := k1) hn h4 (by omega)) ⟨by decide, by decide⟩ (wO_M δ _) rfl rfl rfl rfl (Nat.le_of_ble_eq_true rfl) (fun r_36 s_36 h_36 => ?_)
              obtain ⟨z_36, d_36⟩ := h_36
              refine g_istore C dX9_times_39 (Nat.le_of_ble_eq_true rfl) rfl ?_
              refine g_lv [some _, some _, some _, some _, some _, some _, none, none, none] (gs_some (gs_some (gs_some (gs_some (gs_some (gs_some (gs_none (gs_none (gs_none gs_nil))))))))) ?_
              refine g_iload C dX9_times_41 rfl ?_
              refine g_if_ge C 49 dX9_times_43 (by decide) (fun c_43 => ?_) (fun c_43 => ?_)
              · refine g_aload_n C dX9_times_49 rfl ?_
                refine g_iload_n C dX9_times_50 rfl ?_
                refine g_iload_n C dX9_times_51 rfl ?_
                refine g_iconst (v := 0) C dX9_times_52 (by decide) ?_
                refine g_iconst (v := 0) C dX9_times_53 (by decide) ?_
                refine g_iconst (v := 0) C dX9_times_54 (by decide) ?_
                refine g_iconst (v := 0) C dX9_times_55 (by decide) ?_
                refine g_callVv C sV_X9_206 dX9_times_56 (c_X9_goes _ δ _ hu8 (k := k1) (by omega) _ _ _ _) ⟨by decide, by decide⟩ (wO_M δ _) rfl rfl rfl rfl (Nat.le_of_ble_eq_true rfl) (fun s_56 h_56 => ?_)
                have z_56 : gSm σ s_56 := gSm_t z_36 h_56.1
                have d_56 : ¬ gG s_56 15 = 0 := by rw [h_56.2]; exact d_36 (Int32.not_lt.mpr c_43)
                refine g_lconst (v := 0) C dX9_times_59 (by decide) ?_
                refine g_lstore C dX9_times_60 (Nat.le_of_ble_eq_true rfl) rfl ?_
                refine g_lv [some _, some _, some _, some _, some _, some _, some _, none, none] (gs_some (gs_some (gs_some (gs_some (gs_some (gs_some (gs_some (gs_none (gs_none gs_nil))))))))) ?_
                refine g_iconst (v := 0) C dX9_times_62 (by decide) ?_
                refine g_istore C dX9_times_63 (Nat.le_of_ble_eq_true rfl) rfl ?_
                refine g_lv [some _, some _, some _, some _, some _, some _, some _, none, some _] (gs_some (gs_some (gs_some (gs_some (gs_some (gs_some (gs_some (gs_none (gs_some gs_nil))))))))) ?_
                have L_65 : ∀ (nn : Nat) (q : Nat) (x : Int64) (s1 : GS) (hq : q ≤ 2197) (hs : gSm σ s1) (hd : ¬ gG s1 15 = 0), 2197 - q < nn → gW Γ δ s1 65 [some (.ref (δ.2.2.1 1)), some (.int (nI u1)), some (.int (nI k1)), some (.int (nI c1)), some (.int a3), some (.int r_36), some (.long x), none, some (.int (nI q))] [] := by
                  intro nn
                  induction nn with
                  | zero =>
                    intro q x s1 hq hs hd hm_65
                    exact absurd hm_65 (Nat.not_lt_zero _)
                  | succ nn ih_65 =>
                    intro q x s1 hq hs hd hm_65
                    refine g_iload C dX9_times_65 rfl ?_
                    refine g_sipush (v := 2197) C dX9_times_67 (by decide) ?_
                    refine g_icmp_ge C 134 dX9_times_70 (by decide) (fun c_70 => ?_) (fun c_70 => ?_)
                    · have k_70 := gle c_70 (a := 2197) (b := q) (by first | rfl | assumption | (simp only [glit, nI_add, pk_mul]; done) | (simp only [glit, nI_add, pk_mul]; congr 1; omega) | (simp only [*, glit, nI_add, pk_mul]; congr 1; omega)) (by first | rfl | assumption | (simp only [glit, nI_add, pk_mul]; done) | (simp only [glit, nI_add, pk_mul]; congr 1; omega) | (simp only [*, glit, nI_add, pk_mul]; congr 1; omega)) (by omega) (by omega)
                      refine g_aload_n C dX9_times_134 rfl ?_
                      refine g_lload C dX9_times_135 rfl ?_
                      refine g_aload_n C dX9_times_137 rfl ?_
                      refine g_get C dX9_times_138 iwX9 rfl (wO_M δ _) 20 (Nat.le_of_ble_eq_true rfl) mW592 rfl rfl ?_
                      refine g_callVi C sV_X9_174 dX9_times_141 (c_X9_tells _ δ _ _ _ hd) ⟨by decide, by decide⟩ (wO_M δ _) rfl rfl rfl rfl (Nat.le_of_ble_eq_true rfl) (fun r_141 s_141 h_141 => ?_)
                      obtain ⟨rfl, h_141⟩ := h_141
                      have z_141 : gSm σ s_141 := gSm_t (by repeat (first | (with_reducible assumption) | (with_reducible exact gSm_r _) | (with_reducible refine gSm_I (by omega) ?_) | (with_reducible refine gSm_L (by omega) ?_) | (with_reducible refine gSm_N (by omega) ?_) | (with_reducible refine gSm_G (by omega) ?_) | (with_reducible refine gSm_P ?_))) h_141
                      exact g_iret C E dX9_times_144 rfl rfl ⟨_, rfl, (by repeat (first | (with_reducible assumption) | (with_reducible exact gSm_r _) | (with_reducible refine gSm_I (by omega) ?_) | (with_reducible refine gSm_L (by omega) ?_) | (with_reducible refine gSm_N (by omega) ?_) | (with_reducible refine gSm_G (by omega) ?_) | (with_reducible refine gSm_P ?_)))⟩
                    · have k_70 := gnle c_70 (a := 2197) (b := q) (by first | rfl | assumption | (simp only [glit, nI_add, pk_mul]; done) | (simp only [glit, nI_add, pk_mul]; congr 1; omega) | (simp only [*, glit, nI_add, pk_mul]; congr 1; omega)) (by first | rfl | assumption | (simp only [glit, nI_add, pk_mul]; done) | (simp only [glit, nI_add, pk_mul]; congr 1; omega) | (simp only [*, glit, nI_add, pk_mul]; congr 1; omega)) (by omega) (by omega)
                      refine g_aload_n C dX9_times_73 rfl ?_
                      refine g_get C dX9_times_74 iwX9 rfl (wO_M δ _) 19 (Nat.le_of_ble_eq_true rfl) mW591 rfl rfl ?_
                      refine g_iload_n C dX9_times_77 rfl ?_
                      refine g_iload C dX9_times_78 rfl ?_
                      refine g_callSi C sS_X9_186 dX9_times_80 (c_X9_at _ δ _ (r := k1) (p := q) (by omega)) ⟨by decide, by decide⟩ rfl rfl rfl (Nat.le_of_ble_eq_true rfl) (fun r_80 s_80 h_80 => ?_)
                      obtain ⟨rfl, rfl⟩ := h_80
                      refine g_laldN C dX9_times_83 (k := (2197 * ((k1) % 2) + (q))) (q := 14) (by decide) rfl (by first | rfl | assumption | (simp only [glit, nI_add, pk_mul]; done) | (simp only [glit, nI_add, pk_mul]; congr 1; omega) | (simp only [*, glit, nI_add, pk_mul]; congr 1; omega)) (show (2197 * ((k1) % 2) + (q)) < gLenL 14 from Nat.lt_of_lt_of_eq (show (2197 * ((k1) % 2) + (q)) < 4394 by omega) rfl) ?_
                      refine g_lconst (v := 0) C dX9_times_84 (by decide) ?_
                      refine g_lcmp C dX9_times_85 ?_
                      refine g_if_le C 128 dX9_times_86 (by decide) (fun c_86 => ?_) (fun c_86 => ?_)
                      · rw [lg_cmp_le] at c_86
                        refine g_iinc (v := nI (q + 1)) C dX9_times_128 rfl (ginc _ 1) rfl ?_
                        refine g_lv [some _, some _, some _, some _, some _, some _, some _, none, some _] (gs_some (gs_some (gs_some (gs_some (gs_some (gs_some (gs_some (gs_none (gs_some gs_nil))))))))) ?_
                        refine g_goto C 65 dX9_times_131 (by decide) ?_
                        refine g_lv [some _, some _, some _, some _, some _, some _, some _, none, some _] (gs_some (gs_some (gs_some (gs_some (gs_some (gs_some (gs_some (gs_none (gs_some gs_nil))))))))) ?_
                        exact ih_65 (q + 1) _ _ (by omega) (by first | exact hs | exact z_94) (by first | exact hd | exact d_94) (by omega)
                      · rw [lg_cmp_le] at c_86
                        refine g_aload_n C dX9_times_89 rfl ?_
                        refine g_iload_n C dX9_times_90 rfl ?_
                        refine g_iload C dX9_times_91 rfl ?_
                        refine g_iload_n C dX9_times_93 rfl ?_
                        refine g_callVv C sV_X9_189 dX9_times_94 (c_X9_looksAt _ δ _ hu8 (p := q) (k := k1)) ⟨by decide, by decide⟩ (wO_M δ _) rfl rfl rfl rfl (Nat.le_of_ble_eq_true rfl) (fun s_94 h_94 => ?_)
                        have z_94 : gSm σ s_94 := gSm_t hs h_94.1
                        have d_94 : ¬ gG s_94 15 = 0 := by rw [h_94.2.2]; exact hd
                        refine g_lload C dX9_times_97 rfl ?_
                        refine g_aload_n C dX9_times_99 rfl ?_
                        refine g_get C dX9_times_100 iwX9 rfl (wO_M δ _) 22 (Nat.le_of_ble_eq_true rfl) mW594 rfl rfl ?_
                        refine g_iload_n C dX9_times_103 rfl ?_
                        refine g_ialdN C dX9_times_104 (k := c1) (q := 58) (by decide) rfl (by first | rfl | assumption | (simp only [glit, nI_add, pk_mul]; done) | (simp only [glit, nI_add, pk_mul]; congr 1; omega) | (simp only [*, glit, nI_add, pk_mul]; congr 1; omega)) (show c1 < gLenI 58 from Nat.lt_of_lt_of_eq (show c1 < 4 by omega) rfl) ?_
                        refine g_iload C dX9_times_105 rfl ?_
                        refine g_icmp_ne C 124 dX9_times_107 (by decide) (fun c_107 => ?_) (fun c_107 => ?_)
                        · refine g_lconst (v := 0) C dX9_times_124 (by decide) ?_
                          refine g_ladd C dX9_times_125 ?_
                          refine g_lstore C dX9_times_126 (Nat.le_of_ble_eq_true rfl) rfl ?_
                          refine g_lv [some _, some _, some _, some _, some _, some _, some _, none, some _] (gs_some (gs_some (gs_some (gs_some (gs_some (gs_some (gs_some (gs_none (gs_some gs_nil))))))))) ?_
                          refine g_iinc (v := nI (q + 1)) C dX9_times_128 rfl (ginc _ 1) rfl ?_
                          refine g_lv [some _, some _, some _, some _, some _, some _, some _, none, some _] (gs_some (gs_some (gs_some (gs_some (gs_some (gs_some (gs_some (gs_none (gs_some gs_nil))))))))) ?_
                          refine g_goto C 65 dX9_times_131 (by decide) ?_
                          refine g_lv [some _, some _, some _, some _, some _, some _, some _, none, some _] (gs_some (gs_some (gs_some (gs_some (gs_some (gs_some (gs_some (gs_none (gs_some gs_nil))))))))) ?_
                          exact ih_65 (q + 1) _ _ (by omega) (by first | exact hs | exact z_94) (by first | exact hd | exact d_94) (by omega)
                        · refine g_aload_n C dX9_times_110 rfl ?_
                          refine g_get C dX9_times_111 iwX9 rfl (wO_M δ _) 19 (Nat.le_of_ble_eq_true rfl) mW591 rfl rfl ?_
                          refine g_iload_n C dX9_times_114 rfl ?_
                          refine g_iload C dX9_times_115 rfl ?_
                          refine g_callSi C sS_X9_186 dX9_times_117 (c_X9_at _ δ _ (r := k1) (p := q) (by omega)) ⟨by decide, by decide⟩ rfl rfl rfl (Nat.le_of_ble_eq_true rfl) (fun r_117 s_117 h_117 => ?_)
                          obtain ⟨rfl, rfl⟩ := h_117
                          refine g_laldN C dX9_times_120 (k := (2197 * ((k1) % 2) + (q))) (q := 14) (by decide) rfl (by first | rfl | assumption | (simp only [glit, nI_add, pk_mul]; done) | (simp only [glit, nI_add, pk_mul]; congr 1; omega) | (simp only [*, glit, nI_add, pk_mul]; congr 1; omega)) (show (2197 * ((k1) % 2) + (q)) < gLenL 14 from Nat.lt_of_lt_of_eq (show (2197 * ((k1) % 2) + (q)) < 4394 by omega) rfl) ?_
                          refine g_goto C 125 dX9_times_121 (by decide) ?_
                          refine g_ladd C dX9_times_125 ?_
                          refine g_lstore C dX9_times_126 (Nat.le_of_ble_eq_true rfl) rfl ?_
                          refine g_lv [some _, some _, some _, some _, some _, some _, some _, none, some _] (gs_some (gs_some (gs_some (gs_some (gs_some (gs_some (gs_some (gs_none (gs_some gs_nil))))))))) ?_
                          refine g_iinc (v := nI (q + 1)) C dX9_times_128 rfl (ginc _ 1) rfl ?_
                          refine g_lv [some _, some _, some _, some _, some _, some _, some _, none, some _] (gs_some (gs_some (gs_some (gs_some (gs_some (gs_some (gs_some (gs_none (gs_some gs_nil))))))))) ?_
                          refine g_goto C 65 dX9_times_131 (by decide) ?_
                          refine g_lv [some _, some _, some _, some _, some _, some _, some _, none, some _] (gs_some (gs_some (gs_some (gs_some (gs_some (gs_some (gs_some (gs_none (gs_some gs_nil))))))))) ?_
                          exact ih_65 (q + 1) _ _ (by omega) (by first | exact hs | exact z_94) (by first | exact hd | exact d_94) (by omega)
                refine g_lv [some _, some _, some _, some _, some _, some _, some _, none, some _] (gs_some (gs_some (gs_some (gs_some (gs_some (gs_some (gs_some (gs_none (gs_some gs_nil))))))))) ?_
                exact L_65 _ 0 _ _ (by omega) z_56 d_56 (Nat.lt_succ_self _)
              · refine g_iload C dX9_times_46 rfl ?_
                exact g_iret C E dX9_times_48 rfl rfl ⟨_, rfl, (by repeat (first | (with_reducible assumption) | (with_reducible exact gSm_r _) | (with_reducible refine gSm_I (by omega) ?_) | (with_reducible refine gSm_L (by omega) ?_) | (with_reducible refine gSm_N (by omega) ?_) | (with_reducible refine gSm_G (by omega) ?_) | (with_reducible refine gSm_P ?_)))⟩
            · exact absurd c_28 (by decide)
          · skip
            refine g_if_ne C 33 dX9_times_28 (by decide) (fun c_28 => ?_) (fun c_28 => ?_)
            · exact absurd c_28 (by decide)
            · refine g_iconst (v := (-1)) C dX9_times_31 (by decide) ?_
              exact g_iret C E dX9_times_32 rfl rfl ⟨_, rfl, (by repeat (first | (with_reducible assumption) | (with_reducible exact gSm_r _) | (with_reducible refine gSm_I (by omega) ?_) | (with_reducible refine gSm_L (by omega) ?_) | (with_reducible refine gSm_N (by omega) ?_) | (with_reducible refine gSm_G (by omega) ?_) | (with_reducible refine gSm_P ?_)))⟩
      · skip
        refine g_if_eq C 31 dX9_times_15 (by decide) (fun c_15 => ?_) (fun c_15 => ?_)
        · refine g_iconst (v := (-1)) C dX9_times_31 (by decide) ?_
          exact g_iret C E dX9_times_32 rfl rfl ⟨_, rfl, (by repeat (first | (with_reducible assumption) | (with_reducible exact gSm_r _) | (with_reducible refine gSm_I (by omega) ?_) | (with_reducible refine gSm_L (by omega) ?_) | (with_reducible refine gSm_N (by omega) ?_) | (with_reducible refine gSm_G (by omega) ?_) | (with_reducible refine gSm_P ?_)))⟩
        · exact absurd c_15 (by decide)
  · skip
    refine g_if_eq C 31 dX9_times_6 (by decide) (fun c_6 => ?_) (fun c_6 => ?_)
    · refine g_iconst (v := (-1)) C dX9_times_31 (by decide) ?_
      exact g_iret C E dX9_times_32 rfl rfl ⟨_, rfl, (by repeat (first | (with_reducible assumption) | (with_reducible exact gSm_r _) | (with_reducible refine gSm_I (by omega) ?_) | (with_reducible refine gSm_L (by omega) ?_) | (with_reducible refine gSm_N (by omega) ?_) | (with_reducible refine gSm_G (by omega) ?_) | (with_reducible refine gSm_P ?_)))⟩
    · exact absurd c_6 (by decide)
set_option maxRecDepth 100000 in
set_option maxHeartbeats 4000000 in
theorem c_X9_left (l : Launch) (δ : GD) (σ : GS) (a0 a1 a2 a3 : Int32) {m : Nat} (hm : gN σ 33 = nI m) (h8 : m ≤ 8) (hC : ∀ u, u < m → ∃ n : Nat, 2 ≤ n ∧ n ≤ 4 ∧ gI σ 52 u = nI n) : gM l δ yX9_left cX9_left 9 (some .int) 3 91 [.ref (δ.2.2.1 1), .int a0, .int a1, .int a2, .int a3] σ (gPi (fun _ σ' => gSm σ σ')) := by
  refine g_of (lv0 := [some (.ref (δ.2.2.1 1)), some (.int a0), some (.int a1), some (.int a2), some (.int a3), none, none, none, none]) (by decide) rfl (Nat.le_of_ble_eq_true rfl) (fun Γ hl C E => ?_)
  subst hl
  have C : gC Γ δ cX9_left RX9 9 3 91 := C
  refine g_aload_n C dX9_left_0 rfl ?_
  refine g_iload_n C dX9_left_1 rfl ?_
  refine g_iload_n C dX9_left_2 rfl ?_
  refine g_callVi C sV_X9_200 dX9_left_3 (c_X9_isAsked _ δ _ _ _ hm h8) ⟨by decide, by decide⟩ (wO_M δ _) rfl rfl rfl rfl (Nat.le_of_ble_eq_true rfl) (fun r_3 s_3 h_3 => ?_)
  obtain ⟨rfl, h_3⟩ := h_3
  rcases h_3 with ⟨rfl, h_3⟩ | ⟨rfl, h_3⟩
  · obtain ⟨⟨u1, hu1, rfl⟩, k1, hk1, rfl⟩ := id h_3
    obtain ⟨n, h2, h4, hn⟩ := hC u1 hu1
    have hu8 : u1 < 8 := by omega
    refine g_if_eq C 31 dX9_left_6 (by decide) (fun c_6 => ?_) (fun c_6 => ?_)
    · exact absurd c_6 (by decide)
    · refine g_aload_n C dX9_left_9 rfl ?_
      refine g_iload_n C dX9_left_10 rfl ?_
      refine g_iload_n C dX9_left_11 rfl ?_
      refine g_callVi C sV_X9_92 dX9_left_12 (c_X9_isColour _ δ _ hu8 _ hn h4) ⟨by decide, by decide⟩ (wO_M δ _) rfl rfl rfl rfl (Nat.le_of_ble_eq_true rfl) (fun r_12 s_12 h_12 => ?_)
      obtain ⟨rfl, h_12⟩ := h_12
      rcases h_12 with ⟨rfl, h_12⟩ | ⟨rfl, h_12⟩
      · obtain ⟨c1, hc1, rfl⟩ := id h_12
        refine g_if_eq C 31 dX9_left_15 (by decide) (fun c_15 => ?_) (fun c_15 => ?_)
        · exact absurd c_15 (by decide)
        · refine g_iload C dX9_left_18 rfl ?_
          refine g_i2l C dX9_left_20 ?_
          refine g_lconst (v := 0) C dX9_left_21 (by decide) ?_
          refine g_ldc2 C dX9_left_22 mW840 ?_
          refine g_callSi C sS_X9_62 dX9_left_25 (c_X9_in _ δ _ _ _ _) ⟨by decide, by decide⟩ rfl rfl rfl (Nat.le_of_ble_eq_true rfl) (fun r_25 s_25 h_25 => ?_)
          obtain ⟨rfl, h_25⟩ := h_25
          rcases h_25 with ⟨rfl, h_25⟩ | ⟨rfl, h_25⟩
          · skip
            refine g_if_ne C 33 dX9_left_28 (by decide) (fun c_28 => ?_) (fun c_28 => ?_)
            · refine g_aload_n C dX9_left_33 rfl ?_
              refine g_iload_n C dX9_left_34 rfl ?_
              refine g_iload_n C dX9_left_35 rfl ?_
              refine g_callVi C sV_X9_203 dX9_left_36 (c_X9_evenFault _ δ _ hu8 (k := k1) hn h4 (by omega)) ⟨by decide, by decide⟩ (wO_M δ _) rfl rfl rfl rfl (Nat.le_of_ble_eq_true rfl) (fun r_36 s_36 h_36 => ?_)
              obtain ⟨z_36, d_36⟩ := h_36
              refine g_istore C dX9_left_39 (Nat.le_of_ble_eq_true rfl) rfl ?_
              refine g_lv [some _, some _, some _, some _, some _, some _, none, none, none] (gs_some (gs_some (gs_some (gs_some (gs_some (gs_some (gs_none (gs_none (gs_none gs_nil))))))))) ?_
              refine g_iload C dX9_left_41 rfl ?_
              refine g_if_ge C 49 dX9_left_43 (by decide) (fun c_43 => ?_) (fun c_43 => ?_)
              · refine g_aload_n C dX9_left_49 rfl ?_
                refine g_iload_n C dX9_left_50 rfl ?_
                refine g_iload_n C dX9_left_51 rfl ?_
                refine g_iconst (v := 0) C dX9_left_52 (by decide) ?_
                refine g_iconst (v := 0) C dX9_left_53 (by decide) ?_
                refine g_iconst (v := 0) C dX9_left_54 (by decide) ?_
                refine g_iconst (v := 0) C dX9_left_55 (by decide) ?_
                refine g_callVv C sV_X9_206 dX9_left_56 (c_X9_goes _ δ _ hu8 (k := k1) (by omega) _ _ _ _) ⟨by decide, by decide⟩ (wO_M δ _) rfl rfl rfl rfl (Nat.le_of_ble_eq_true rfl) (fun s_56 h_56 => ?_)
                have z_56 : gSm σ s_56 := gSm_t z_36 h_56.1
                have d_56 : ¬ gG s_56 15 = 0 := by rw [h_56.2]; exact d_36 (Int32.not_lt.mpr c_43)
                refine g_lconst (v := 0) C dX9_left_59 (by decide) ?_
                refine g_lstore C dX9_left_60 (Nat.le_of_ble_eq_true rfl) rfl ?_
                refine g_lv [some _, some _, some _, some _, some _, some _, some _, none, none] (gs_some (gs_some (gs_some (gs_some (gs_some (gs_some (gs_some (gs_none (gs_none gs_nil))))))))) ?_
                refine g_iconst (v := 0) C dX9_left_62 (by decide) ?_
                refine g_istore C dX9_left_63 (Nat.le_of_ble_eq_true rfl) rfl ?_
                refine g_lv [some _, some _, some _, some _, some _, some _, some _, none, some _] (gs_some (gs_some (gs_some (gs_some (gs_some (gs_some (gs_some (gs_none (gs_some gs_nil))))))))) ?_
                have L_65 : ∀ (nn : Nat) (q : Nat) (x : Int64) (s1 : GS) (hq : q ≤ 2197) (hs : gSm σ s1) (hd : ¬ gG s1 15 = 0), 2197 - q < nn → gW Γ δ s1 65 [some (.ref (δ.2.2.1 1)), some (.int (nI u1)), some (.int (nI k1)), some (.int (nI c1)), some (.int a3), some (.int r_36), some (.long x), none, some (.int (nI q))] [] := by
                  intro nn
                  induction nn with
                  | zero =>
                    intro q x s1 hq hs hd hm_65
                    exact absurd hm_65 (Nat.not_lt_zero _)
                  | succ nn ih_65 =>
                    intro q x s1 hq hs hd hm_65
                    refine g_iload C dX9_left_65 rfl ?_
                    refine g_sipush (v := 2197) C dX9_left_67 (by decide) ?_
                    refine g_icmp_ge C 134 dX9_left_70 (by decide) (fun c_70 => ?_) (fun c_70 => ?_)
                    · have k_70 := gle c_70 (a := 2197) (b := q) (by first | rfl | assumption | (simp only [glit, nI_add, pk_mul]; done) | (simp only [glit, nI_add, pk_mul]; congr 1; omega) | (simp only [*, glit, nI_add, pk_mul]; congr 1; omega)) (by first | rfl | assumption | (simp only [glit, nI_add, pk_mul]; done) | (simp only [glit, nI_add, pk_mul]; congr 1; omega) | (simp only [*, glit, nI_add, pk_mul]; congr 1; omega)) (by omega) (by omega)
                      refine g_aload_n C dX9_left_134 rfl ?_
                      refine g_lload C dX9_left_135 rfl ?_
                      refine g_aload_n C dX9_left_137 rfl ?_
                      refine g_get C dX9_left_138 iwX9 rfl (wO_M δ _) 20 (Nat.le_of_ble_eq_true rfl) mW592 rfl rfl ?_
                      refine g_callVi C sV_X9_174 dX9_left_141 (c_X9_tells _ δ _ _ _ hd) ⟨by decide, by decide⟩ (wO_M δ _) rfl rfl rfl rfl (Nat.le_of_ble_eq_true rfl) (fun r_141 s_141 h_141 => ?_)
                      obtain ⟨rfl, h_141⟩ := h_141
                      have z_141 : gSm σ s_141 := gSm_t (by repeat (first | (with_reducible assumption) | (with_reducible exact gSm_r _) | (with_reducible refine gSm_I (by omega) ?_) | (with_reducible refine gSm_L (by omega) ?_) | (with_reducible refine gSm_N (by omega) ?_) | (with_reducible refine gSm_G (by omega) ?_) | (with_reducible refine gSm_P ?_))) h_141
                      exact g_iret C E dX9_left_144 rfl rfl ⟨_, rfl, (by repeat (first | (with_reducible assumption) | (with_reducible exact gSm_r _) | (with_reducible refine gSm_I (by omega) ?_) | (with_reducible refine gSm_L (by omega) ?_) | (with_reducible refine gSm_N (by omega) ?_) | (with_reducible refine gSm_G (by omega) ?_) | (with_reducible refine gSm_P ?_)))⟩
                    · have k_70 := gnle c_70 (a := 2197) (b := q) (by first | rfl | assumption | (simp only [glit, nI_add, pk_mul]; done) | (simp only [glit, nI_add, pk_mul]; congr 1; omega) | (simp only [*, glit, nI_add, pk_mul]; congr 1; omega)) (by first | rfl | assumption | (simp only [glit, nI_add, pk_mul]; done) | (simp only [glit, nI_add, pk_mul]; congr 1; omega) | (simp only [*, glit, nI_add, pk_mul]; congr 1; omega)) (by omega) (by omega)
                      refine g_aload_n C dX9_left_73 rfl ?_
                      refine g_get C dX9_left_74 iwX9 rfl (wO_M δ _) 19 (Nat.le_of_ble_eq_true rfl) mW591 rfl rfl ?_
                      refine g_iload_n C dX9_left_77 rfl ?_
                      refine g_iload C dX9_left_78 rfl ?_
                      refine g_callSi C sS_X9_186 dX9_left_80 (c_X9_at _ δ _ (r := k1) (p := q) (by omega)) ⟨by decide, by decide⟩ rfl rfl rfl (Nat.le_of_ble_eq_true rfl) (fun r_80 s_80 h_80 => ?_)
                      obtain ⟨rfl, rfl⟩ := h_80
                      refine g_laldN C dX9_left_83 (k := (2197 * ((k1) % 2) + (q))) (q := 14) (by decide) rfl (by first | rfl | assumption | (simp only [glit, nI_add, pk_mul]; done) | (simp only [glit, nI_add, pk_mul]; congr 1; omega) | (simp only [*, glit, nI_add, pk_mul]; congr 1; omega)) (show (2197 * ((k1) % 2) + (q)) < gLenL 14 from Nat.lt_of_lt_of_eq (show (2197 * ((k1) % 2) + (q)) < 4394 by omega) rfl) ?_
                      refine g_lconst (v := 0) C dX9_left_84 (by decide) ?_
                      refine g_lcmp C dX9_left_85 ?_
                      refine g_if_le C 128 dX9_left_86 (by decide) (fun c_86 => ?_) (fun c_86 => ?_)
                      · rw [lg_cmp_le] at c_86
                        refine g_iinc (v := nI (q + 1)) C dX9_left_128 rfl (ginc _ 1) rfl ?_
                        refine g_lv [some _, some _, some _, some _, some _, some _, some _, none, some _] (gs_some (gs_some (gs_some (gs_some (gs_some (gs_some (gs_some (gs_none (gs_some gs_nil))))))))) ?_
                        refine g_goto C 65 dX9_left_131 (by decide) ?_
                        refine g_lv [some _, some _, some _, some _, some _, some _, some _, none, some _] (gs_some (gs_some (gs_some (gs_some (gs_some (gs_some (gs_some (gs_none (gs_some gs_nil))))))))) ?_
                        exact ih_65 (q + 1) _ _ (by omega) (by first | exact hs | exact z_94) (by first | exact hd | exact d_94) (by omega)
                      · rw [lg_cmp_le] at c_86
                        refine g_aload_n C dX9_left_89 rfl ?_
                        refine g_iload_n C dX9_left_90 rfl ?_
                        refine g_iload C dX9_left_91 rfl ?_
                        refine g_iload_n C dX9_left_93 rfl ?_
                        refine g_callVv C sV_X9_189 dX9_left_94 (c_X9_looksAt _ δ _ hu8 (p := q) (k := k1)) ⟨by decide, by decide⟩ (wO_M δ _) rfl rfl rfl rfl (Nat.le_of_ble_eq_true rfl) (fun s_94 h_94 => ?_)
                        have z_94 : gSm σ s_94 := gSm_t hs h_94.1
                        have d_94 : ¬ gG s_94 15 = 0 := by rw [h_94.2.2]; exact hd
                        refine g_lload C dX9_left_97 rfl ?_
                        refine g_aload_n C dX9_left_99 rfl ?_
                        refine g_get C dX9_left_100 iwX9 rfl (wO_M δ _) 23 (Nat.le_of_ble_eq_true rfl) mW595 rfl rfl ?_
                        refine g_iload_n C dX9_left_103 rfl ?_
                        refine g_ialdN C dX9_left_104 (k := c1) (q := 59) (by decide) rfl (by first | rfl | assumption | (simp only [glit, nI_add, pk_mul]; done) | (simp only [glit, nI_add, pk_mul]; congr 1; omega) | (simp only [*, glit, nI_add, pk_mul]; congr 1; omega)) (show c1 < gLenI 59 from Nat.lt_of_lt_of_eq (show c1 < 4 by omega) rfl) ?_
                        refine g_iload C dX9_left_105 rfl ?_
                        refine g_icmp_ne C 124 dX9_left_107 (by decide) (fun c_107 => ?_) (fun c_107 => ?_)
                        · refine g_lconst (v := 0) C dX9_left_124 (by decide) ?_
                          refine g_ladd C dX9_left_125 ?_
                          refine g_lstore C dX9_left_126 (Nat.le_of_ble_eq_true rfl) rfl ?_
                          refine g_lv [some _, some _, some _, some _, some _, some _, some _, none, some _] (gs_some (gs_some (gs_some (gs_some (gs_some (gs_some (gs_some (gs_none (gs_some gs_nil))))))))) ?_
                          refine g_iinc (v := nI (q + 1)) C dX9_left_128 rfl (ginc _ 1) rfl ?_
                          refine g_lv [some _, some _, some _, some _, some _, some _, some _, none, some _] (gs_some (gs_some (gs_some (gs_some (gs_some (gs_some (gs_some (gs_none (gs_some gs_nil))))))))) ?_
                          refine g_goto C 65 dX9_left_131 (by decide) ?_
                          refine g_lv [some _, some _, some _, some _, some _, some _, some _, none, some _] (gs_some (gs_some (gs_some (gs_some (gs_some (gs_some (gs_some (gs_none (gs_some gs_nil))))))))) ?_
                          exact ih_65 (q + 1) _ _ (by omega) (by first | exact hs | exact z_94) (by first | exact hd | exact d_94) (by omega)
                        · refine g_aload_n C dX9_left_110 rfl ?_
                          refine g_get C dX9_left_111 iwX9 rfl (wO_M δ _) 19 (Nat.le_of_ble_eq_true rfl) mW591 rfl rfl ?_
                          refine g_iload_n C dX9_left_114 rfl ?_
                          refine g_iload C dX9_left_115 rfl ?_
                          refine g_callSi C sS_X9_186 dX9_left_117 (c_X9_at _ δ _ (r := k1) (p := q) (by omega)) ⟨by decide, by decide⟩ rfl rfl rfl (Nat.le_of_ble_eq_true rfl) (fun r_117 s_117 h_117 => ?_)
                          obtain ⟨rfl, rfl⟩ := h_117
                          refine g_laldN C dX9_left_120 (k := (2197 * ((k1) % 2) + (q))) (q := 14) (by decide) rfl (by first | rfl | assumption | (simp only [glit, nI_add, pk_mul]; done) | (simp only [glit, nI_add, pk_mul]; congr 1; omega) | (simp only [*, glit, nI_add, pk_mul]; congr 1; omega)) (show (2197 * ((k1) % 2) + (q)) < gLenL 14 from Nat.lt_of_lt_of_eq (show (2197 * ((k1) % 2) + (q)) < 4394 by omega) rfl) ?_
                          refine g_goto C 125 dX9_left_121 (by decide) ?_
                          refine g_ladd C dX9_left_125 ?_
                          refine g_lstore C dX9_left_126 (Nat.le_of_ble_eq_true rfl) rfl ?_
                          refine g_lv [some _, some _, some _, some _, some _, some _, some _, none, some _] (gs_some (gs_some (gs_some (gs_some (gs_some (gs_some (gs_some (gs_none (gs_some gs_nil))))))))) ?_
                          refine g_iinc (v := nI (q + 1)) C dX9_left_128 rfl (ginc _ 1) rfl ?_
                          refine g_lv [some _, some _, some _, some _, some _, some _, some _, none, some _] (gs_some (gs_some (gs_some (gs_some (gs_some (gs_some (gs_some (gs_none (gs_some gs_nil))))))))) ?_
                          refine g_goto C 65 dX9_left_131 (by decide) ?_
                          refine g_lv [some _, some _, some _, some _, some _, some _, some _, none, some _] (gs_some (gs_some (gs_some (gs_some (gs_some (gs_some (gs_some (gs_none (gs_some gs_nil))))))))) ?_
                          exact ih_65 (q + 1) _ _ (by omega) (by first | exact hs | exact z_94) (by first | exact hd | exact d_94) (by omega)
                refine g_lv [some _, some _, some _, some _, some _, some _, some _, none, some _] (gs_some (gs_some (gs_some (gs_some (gs_some (gs_some (gs_some (gs_none (gs_some gs_nil))))))))) ?_
                exact L_65 _ 0 _ _ (by omega) z_56 d_56 (Nat.lt_succ_self _)
              · refine g_iload C dX9_left_46 rfl ?_
                exact g_iret C E dX9_left_48 rfl rfl ⟨_, rfl, (by repeat (first | (with_reducible assumption) | (with_reducible exact gSm_r _) | (with_reducible refine gSm_I (by omega) ?_) | (with_reducible refine gSm_L (by omega) ?_) | (with_reducible refine gSm_N (by omega) ?_) | (with_reducible refine gSm_G (by omega) ?_) | (with_reducible refine gSm_P ?_)))⟩
            · exact absurd c_28 (by decide)
          · skip
            refine g_if_ne C 33 dX9_left_28 (by decide) (fun c_28 => ?_) (fun c_28 => ?_)
            · exact absurd c_28 (by decide)
            · refine g_iconst (v := (-1)) C dX9_left_31 (by decide) ?_
              exact g_iret C E dX9_left_32 rfl rfl ⟨_, rfl, (by repeat (first | (with_reducible assumption) | (with_reducible exact gSm_r _) | (with_reducible refine gSm_I (by omega) ?_) | (with_reducible refine gSm_L (by omega) ?_) | (with_reducible refine gSm_N (by omega) ?_) | (with_reducible refine gSm_G (by omega) ?_) | (with_reducible refine gSm_P ?_)))⟩
      · skip
        refine g_if_eq C 31 dX9_left_15 (by decide) (fun c_15 => ?_) (fun c_15 => ?_)
        · refine g_iconst (v := (-1)) C dX9_left_31 (by decide) ?_
          exact g_iret C E dX9_left_32 rfl rfl ⟨_, rfl, (by repeat (first | (with_reducible assumption) | (with_reducible exact gSm_r _) | (with_reducible refine gSm_I (by omega) ?_) | (with_reducible refine gSm_L (by omega) ?_) | (with_reducible refine gSm_N (by omega) ?_) | (with_reducible refine gSm_G (by omega) ?_) | (with_reducible refine gSm_P ?_)))⟩
        · exact absurd c_15 (by decide)
  · skip
    refine g_if_eq C 31 dX9_left_6 (by decide) (fun c_6 => ?_) (fun c_6 => ?_)
    · refine g_iconst (v := (-1)) C dX9_left_31 (by decide) ?_
      exact g_iret C E dX9_left_32 rfl rfl ⟨_, rfl, (by repeat (first | (with_reducible assumption) | (with_reducible exact gSm_r _) | (with_reducible refine gSm_I (by omega) ?_) | (with_reducible refine gSm_L (by omega) ?_) | (with_reducible refine gSm_N (by omega) ?_) | (with_reducible refine gSm_G (by omega) ?_) | (with_reducible refine gSm_P ?_)))⟩
    · exact absurd c_6 (by decide)
set_option maxRecDepth 100000 in
set_option maxHeartbeats 4000000 in
theorem c_X9_stuck (l : Launch) (δ : GD) (σ : GS) (a0 a1 : Int32) {m : Nat} (hm : gN σ 33 = nI m) (h8 : m ≤ 8) (hC : ∀ u, u < m → ∃ n : Nat, 2 ≤ n ∧ n ≤ 4 ∧ gI σ 52 u = nI n) : gM l δ yX9_stuck cX9_stuck 4 (some .int) 3 91 [.ref (δ.2.2.1 1), .int a0, .int a1] σ (gPi (fun _ σ' => gSm σ σ')) := by
  refine g_of (lv0 := [some (.ref (δ.2.2.1 1)), some (.int a0), some (.int a1), none]) (by decide) rfl (Nat.le_of_ble_eq_true rfl) (fun Γ hl C E => ?_)
  subst hl
  have C : gC Γ δ cX9_stuck RX9 4 3 91 := C
  refine g_aload_n C dX9_stuck_0 rfl ?_
  refine g_iload_n C dX9_stuck_1 rfl ?_
  refine g_iload_n C dX9_stuck_2 rfl ?_
  refine g_callVi C sV_X9_200 dX9_stuck_3 (c_X9_isAsked _ δ _ _ _ hm h8) ⟨by decide, by decide⟩ (wO_M δ _) rfl rfl rfl rfl (Nat.le_of_ble_eq_true rfl) (fun r_3 s_3 h_3 => ?_)
  obtain ⟨rfl, h_3⟩ := h_3
  rcases h_3 with ⟨rfl, h_3⟩ | ⟨rfl, h_3⟩
  · obtain ⟨⟨u1, hu1, rfl⟩, k1, hk1, rfl⟩ := id h_3
    obtain ⟨n, h2, h4, hn⟩ := hC u1 hu1
    have hu8 : u1 < 8 := by omega
    refine g_if_ne C 11 dX9_stuck_6 (by decide) (fun c_6 => ?_) (fun c_6 => ?_)
    · refine g_aload_n C dX9_stuck_11 rfl ?_
      refine g_iload_n C dX9_stuck_12 rfl ?_
      refine g_iload_n C dX9_stuck_13 rfl ?_
      refine g_callVi C sV_X9_203 dX9_stuck_14 (c_X9_evenFault _ δ _ hu8 (k := k1) hn h4 (by omega)) ⟨by decide, by decide⟩ (wO_M δ _) rfl rfl rfl rfl (Nat.le_of_ble_eq_true rfl) (fun r_14 s_14 h_14 => ?_)
      obtain ⟨z_14, d_14⟩ := h_14
      refine g_istore_n C dX9_stuck_17 (Nat.le_of_ble_eq_true rfl) rfl ?_
      refine g_lv [some _, some _, some _, some _] (gs_some (gs_some (gs_some (gs_some gs_nil)))) ?_
      refine g_iload_n C dX9_stuck_18 rfl ?_
      refine g_if_ge C 24 dX9_stuck_19 (by decide) (fun c_19 => ?_) (fun c_19 => ?_)
      · refine g_aload_n C dX9_stuck_24 rfl ?_
        refine g_iload_n C dX9_stuck_25 rfl ?_
        refine g_iload_n C dX9_stuck_26 rfl ?_
        refine g_iconst (v := 0) C dX9_stuck_27 (by decide) ?_
        refine g_iconst (v := 0) C dX9_stuck_28 (by decide) ?_
        refine g_iconst (v := 0) C dX9_stuck_29 (by decide) ?_
        refine g_iconst (v := 0) C dX9_stuck_30 (by decide) ?_
        refine g_callVv C sV_X9_206 dX9_stuck_31 (c_X9_goes _ δ _ hu8 (k := k1) (by omega) _ _ _ _) ⟨by decide, by decide⟩ (wO_M δ _) rfl rfl rfl rfl (Nat.le_of_ble_eq_true rfl) (fun s_31 h_31 => ?_)
        have z_31 : gSm σ s_31 := gSm_t z_14 h_31.1
        have d_31 : ¬ gG s_31 15 = 0 := by rw [h_31.2]; exact d_14 (Int32.not_lt.mpr c_19)
        refine g_aload_n C dX9_stuck_34 rfl ?_
        refine g_aload_n C dX9_stuck_35 rfl ?_
        refine g_get C dX9_stuck_36 iwX9 rfl (wO_M δ _) 21 (Nat.le_of_ble_eq_true rfl) mW593 rfl rfl ?_
        refine g_aload_n C dX9_stuck_39 rfl ?_
        refine g_get C dX9_stuck_40 iwX9 rfl (wO_M δ _) 20 (Nat.le_of_ble_eq_true rfl) mW592 rfl rfl ?_
        refine g_callVi C sV_X9_174 dX9_stuck_43 (c_X9_tells _ δ _ _ _ d_31) ⟨by decide, by decide⟩ (wO_M δ _) rfl rfl rfl rfl (Nat.le_of_ble_eq_true rfl) (fun r_43 s_43 h_43 => ?_)
        obtain ⟨rfl, h_43⟩ := h_43
        have z_43 : gSm σ s_43 := gSm_t (by repeat (first | (with_reducible assumption) | (with_reducible exact gSm_r _) | (with_reducible refine gSm_I (by omega) ?_) | (with_reducible refine gSm_L (by omega) ?_) | (with_reducible refine gSm_N (by omega) ?_) | (with_reducible refine gSm_G (by omega) ?_) | (with_reducible refine gSm_P ?_))) h_43
        exact g_iret C E dX9_stuck_46 rfl rfl ⟨_, rfl, (by repeat (first | (with_reducible assumption) | (with_reducible exact gSm_r _) | (with_reducible refine gSm_I (by omega) ?_) | (with_reducible refine gSm_L (by omega) ?_) | (with_reducible refine gSm_N (by omega) ?_) | (with_reducible refine gSm_G (by omega) ?_) | (with_reducible refine gSm_P ?_)))⟩
      · refine g_iload_n C dX9_stuck_22 rfl ?_
        exact g_iret C E dX9_stuck_23 rfl rfl ⟨_, rfl, (by repeat (first | (with_reducible assumption) | (with_reducible exact gSm_r _) | (with_reducible refine gSm_I (by omega) ?_) | (with_reducible refine gSm_L (by omega) ?_) | (with_reducible refine gSm_N (by omega) ?_) | (with_reducible refine gSm_G (by omega) ?_) | (with_reducible refine gSm_P ?_)))⟩
    · exact absurd c_6 (by decide)
  · skip
    refine g_if_ne C 11 dX9_stuck_6 (by decide) (fun c_6 => ?_) (fun c_6 => ?_)
    · exact absurd c_6 (by decide)
    · refine g_iconst (v := (-1)) C dX9_stuck_9 (by decide) ?_
      exact g_iret C E dX9_stuck_10 rfl rfl ⟨_, rfl, (by repeat (first | (with_reducible assumption) | (with_reducible exact gSm_r _) | (with_reducible refine gSm_I (by omega) ?_) | (with_reducible refine gSm_L (by omega) ?_) | (with_reducible refine gSm_N (by omega) ?_) | (with_reducible refine gSm_G (by omega) ?_) | (with_reducible refine gSm_P ?_)))⟩
set_option maxRecDepth 100000 in
set_option maxHeartbeats 4000000 in
theorem c_X9_mean (l : Launch) (δ : GD) (σ : GS) (a0 a1 a2 a3 : Int32) {m : Nat} (hm : gN σ 33 = nI m) (h8 : m ≤ 8) (hC : ∀ u, u < m → ∃ n : Nat, 2 ≤ n ∧ n ≤ 4 ∧ gI σ 52 u = nI n) : gM l δ yX9_mean cX9_mean 16 (some .int) 3 91 [.ref (δ.2.2.1 1), .int a0, .int a1, .int a2, .int a3] σ (gPi (fun _ σ' => gSm σ σ')) := by
  refine g_of (lv0 := [some (.ref (δ.2.2.1 1)), some (.int a0), some (.int a1), some (.int a2), some (.int a3), none, none, none, none, none, none, none, none, none, none, none]) (by decide) rfl (Nat.le_of_ble_eq_true rfl) (fun Γ hl C E => ?_)
  subst hl
  have C : gC Γ δ cX9_mean RX9 16 3 91 := C
  refine g_aload_n C dX9_mean_0 rfl ?_
  refine g_iload_n C dX9_mean_1 rfl ?_
  refine g_iload_n C dX9_mean_2 rfl ?_
  refine g_callVi C sV_X9_200 dX9_mean_3 (c_X9_isAsked _ δ _ _ _ hm h8) ⟨by decide, by decide⟩ (wO_M δ _) rfl rfl rfl rfl (Nat.le_of_ble_eq_true rfl) (fun r_3 s_3 h_3 => ?_)
  obtain ⟨rfl, h_3⟩ := h_3
  rcases h_3 with ⟨rfl, h_3⟩ | ⟨rfl, h_3⟩
  · obtain ⟨⟨u1, hu1, rfl⟩, k1, hk1, rfl⟩ := id h_3
    obtain ⟨n, h2, h4, hn⟩ := hC u1 hu1
    have hu8 : u1 < 8 := by omega
    refine g_if_eq C 31 dX9_mean_6 (by decide) (fun c_6 => ?_) (fun c_6 => ?_)
    · exact absurd c_6 (by decide)
    · refine g_aload_n C dX9_mean_9 rfl ?_
      refine g_iload_n C dX9_mean_10 rfl ?_
      refine g_iload_n C dX9_mean_11 rfl ?_
      refine g_callVi C sV_X9_92 dX9_mean_12 (c_X9_isColour _ δ _ hu8 _ hn h4) ⟨by decide, by decide⟩ (wO_M δ _) rfl rfl rfl rfl (Nat.le_of_ble_eq_true rfl) (fun r_12 s_12 h_12 => ?_)
      obtain ⟨rfl, h_12⟩ := h_12
      rcases h_12 with ⟨rfl, h_12⟩ | ⟨rfl, h_12⟩
      · obtain ⟨c1, hc1, rfl⟩ := id h_12
        refine g_if_eq C 31 dX9_mean_15 (by decide) (fun c_15 => ?_) (fun c_15 => ?_)
        · exact absurd c_15 (by decide)
        · refine g_iload C dX9_mean_18 rfl ?_
          refine g_i2l C dX9_mean_20 ?_
          refine g_lconst (v := 1) C dX9_mean_21 (by decide) ?_
          refine g_ldc2 C dX9_mean_22 mW849 ?_
          refine g_callSi C sS_X9_62 dX9_mean_25 (c_X9_in _ δ _ _ _ _) ⟨by decide, by decide⟩ rfl rfl rfl (Nat.le_of_ble_eq_true rfl) (fun r_25 s_25 h_25 => ?_)
          obtain ⟨rfl, h_25⟩ := h_25
          rcases h_25 with ⟨rfl, h_25⟩ | ⟨rfl, h_25⟩
          · obtain ⟨m1, -, hm1, rfl⟩ := gin13 (m := 3) (by decide) (by decide) (by decide) h_25
            refine g_if_ne C 33 dX9_mean_28 (by decide) (fun c_28 => ?_) (fun c_28 => ?_)
            · refine g_aload_n C dX9_mean_33 rfl ?_
              refine g_iload_n C dX9_mean_34 rfl ?_
              refine g_iload_n C dX9_mean_35 rfl ?_
              refine g_callVi C sV_X9_203 dX9_mean_36 (c_X9_evenFault _ δ _ hu8 (k := k1) hn h4 (by omega)) ⟨by decide, by decide⟩ (wO_M δ _) rfl rfl rfl rfl (Nat.le_of_ble_eq_true rfl) (fun r_36 s_36 h_36 => ?_)
              obtain ⟨z_36, d_36⟩ := h_36
              refine g_istore C dX9_mean_39 (Nat.le_of_ble_eq_true rfl) rfl ?_
              refine g_lv [some _, some _, some _, some _, some _, some _, none, none, none, none, none, none, none, none, none, none] (gs_some (gs_some (gs_some (gs_some (gs_some (gs_some (gs_none (gs_none (gs_none (gs_none (gs_none (gs_none (gs_none (gs_none (gs_none (gs_none gs_nil)))))))))))))))) ?_
              refine g_iload C dX9_mean_41 rfl ?_
              refine g_if_ge C 49 dX9_mean_43 (by decide) (fun c_43 => ?_) (fun c_43 => ?_)
              · refine g_aload_n C dX9_mean_49 rfl ?_
                refine g_iload_n C dX9_mean_50 rfl ?_
                refine g_iload_n C dX9_mean_51 rfl ?_
                refine g_iconst (v := 0) C dX9_mean_52 (by decide) ?_
                refine g_iconst (v := 0) C dX9_mean_53 (by decide) ?_
                refine g_iconst (v := 0) C dX9_mean_54 (by decide) ?_
                refine g_iconst (v := 0) C dX9_mean_55 (by decide) ?_
                refine g_callVv C sV_X9_206 dX9_mean_56 (c_X9_goes _ δ _ hu8 (k := k1) (by omega) _ _ _ _) ⟨by decide, by decide⟩ (wO_M δ _) rfl rfl rfl rfl (Nat.le_of_ble_eq_true rfl) (fun s_56 h_56 => ?_)
                have z_56 : gSm σ s_56 := gSm_t z_36 h_56.1
                have d_56 : ¬ gG s_56 15 = 0 := by rw [h_56.2]; exact d_36 (Int32.not_lt.mpr c_43)
                refine g_lconst (v := 0) C dX9_mean_59 (by decide) ?_
                refine g_lstore C dX9_mean_60 (Nat.le_of_ble_eq_true rfl) rfl ?_
                refine g_lv [some _, some _, some _, some _, some _, some _, some _, none, none, none, none, none, none, none, none, none] (gs_some (gs_some (gs_some (gs_some (gs_some (gs_some (gs_some (gs_none (gs_none (gs_none (gs_none (gs_none (gs_none (gs_none (gs_none (gs_none gs_nil)))))))))))))))) ?_
                refine g_lconst (v := 0) C dX9_mean_62 (by decide) ?_
                refine g_lstore C dX9_mean_63 (Nat.le_of_ble_eq_true rfl) rfl ?_
                refine g_lv [some _, some _, some _, some _, some _, some _, some _, none, some _, none, none, none, none, none, none, none] (gs_some (gs_some (gs_some (gs_some (gs_some (gs_some (gs_some (gs_none (gs_some (gs_none (gs_none (gs_none (gs_none (gs_none (gs_none (gs_none gs_nil)))))))))))))))) ?_
                refine g_iconst (v := 0) C dX9_mean_65 (by decide) ?_
                refine g_istore C dX9_mean_66 (Nat.le_of_ble_eq_true rfl) rfl ?_
                refine g_lv [some _, some _, some _, some _, some _, some _, some _, none, some _, none, some _, none, none, none, none, none] (gs_some (gs_some (gs_some (gs_some (gs_some (gs_some (gs_some (gs_none (gs_some (gs_none (gs_some (gs_none (gs_none (gs_none (gs_none (gs_none gs_nil)))))))))))))))) ?_
                have L_68 : ∀ (nn : Nat) (q : Nat) (x y : Int64) (s1 : GS) (hq : q ≤ 2197) (hs : gSm σ s1) (hd : ¬ gG s1 15 = 0), 2197 - q < nn → gW Γ δ s1 68 [some (.ref (δ.2.2.1 1)), some (.int (nI u1)), some (.int (nI k1)), some (.int (nI c1)), some (.int (nI m1)), some (.int r_36), some (.long x), none, some (.long y), none, some (.int (nI q)), none, none, none, none, none] [] := by
                  intro nn
                  induction nn with
                  | zero =>
                    intro q x y s1 hq hs hd hm_68
                    exact absurd hm_68 (Nat.not_lt_zero _)
                  | succ nn ih_68 =>
                    intro q x y s1 hq hs hd hm_68
                    refine g_iload C dX9_mean_68 rfl ?_
                    refine g_sipush (v := 2197) C dX9_mean_70 (by decide) ?_
                    refine g_icmp_ge C 213 dX9_mean_73 (by decide) (fun c_73 => ?_) (fun c_73 => ?_)
                    · have k_73 := gle c_73 (a := 2197) (b := q) (by first | rfl | assumption | (simp only [glit, nI_add, pk_mul]; done) | (simp only [glit, nI_add, pk_mul]; congr 1; omega) | (simp only [*, glit, nI_add, pk_mul]; congr 1; omega)) (by first | rfl | assumption | (simp only [glit, nI_add, pk_mul]; done) | (simp only [glit, nI_add, pk_mul]; congr 1; omega) | (simp only [*, glit, nI_add, pk_mul]; congr 1; omega)) (by omega) (by omega)
                      refine g_aload_n C dX9_mean_213 rfl ?_
                      refine g_lload C dX9_mean_214 rfl ?_
                      refine g_aload_n C dX9_mean_216 rfl ?_
                      refine g_get C dX9_mean_217 iwX9 rfl (wO_M δ _) 20 (Nat.le_of_ble_eq_true rfl) mW592 rfl rfl ?_
                      refine g_callVi C sV_X9_174 dX9_mean_220 (c_X9_tells _ δ _ _ _ hd) ⟨by decide, by decide⟩ (wO_M δ _) rfl rfl rfl rfl (Nat.le_of_ble_eq_true rfl) (fun r_220 s_220 h_220 => ?_)
                      obtain ⟨rfl, h_220⟩ := h_220
                      have z_220 : gSm σ s_220 := gSm_t (by repeat (first | (with_reducible assumption) | (with_reducible exact gSm_r _) | (with_reducible refine gSm_I (by omega) ?_) | (with_reducible refine gSm_L (by omega) ?_) | (with_reducible refine gSm_N (by omega) ?_) | (with_reducible refine gSm_G (by omega) ?_) | (with_reducible refine gSm_P ?_))) h_220
                      refine g_istore C dX9_mean_223 (Nat.le_of_ble_eq_true rfl) rfl ?_
                      refine g_lv [some _, some _, some _, some _, some _, some _, some _, none, some _, none, some _, none, none, none, none, none] (gs_some (gs_some (gs_some (gs_some (gs_some (gs_some (gs_some (gs_none (gs_some (gs_none (gs_some (gs_none (gs_none (gs_none (gs_none (gs_none gs_nil)))))))))))))))) ?_
                      refine g_aload_n C dX9_mean_225 rfl ?_
                      refine g_lload C dX9_mean_226 rfl ?_
                      refine g_put C tyX9 dX9_mean_228 iwX9 tyX9_ok nmX9 rfl (wO_M δ _) 9 (Nat.le_of_ble_eq_true rfl) mW581 rfl rfl rfl rfl rfl (Nat.le_of_ble_eq_true rfl) (pG_10 δ _ _) ?_
                      refine g_iload C dX9_mean_231 rfl ?_
                      exact g_iret C E dX9_mean_233 rfl rfl ⟨_, rfl, (by repeat (first | (with_reducible assumption) | (with_reducible exact gSm_r _) | (with_reducible refine gSm_I (by omega) ?_) | (with_reducible refine gSm_L (by omega) ?_) | (with_reducible refine gSm_N (by omega) ?_) | (with_reducible refine gSm_G (by omega) ?_) | (with_reducible refine gSm_P ?_)))⟩
                    · have k_73 := gnle c_73 (a := 2197) (b := q) (by first | rfl | assumption | (simp only [glit, nI_add, pk_mul]; done) | (simp only [glit, nI_add, pk_mul]; congr 1; omega) | (simp only [*, glit, nI_add, pk_mul]; congr 1; omega)) (by first | rfl | assumption | (simp only [glit, nI_add, pk_mul]; done) | (simp only [glit, nI_add, pk_mul]; congr 1; omega) | (simp only [*, glit, nI_add, pk_mul]; congr 1; omega)) (by omega) (by omega)
                      refine g_aload_n C dX9_mean_76 rfl ?_
                      refine g_get C dX9_mean_77 iwX9 rfl (wO_M δ _) 19 (Nat.le_of_ble_eq_true rfl) mW591 rfl rfl ?_
                      refine g_iload_n C dX9_mean_80 rfl ?_
                      refine g_iload C dX9_mean_81 rfl ?_
                      refine g_callSi C sS_X9_186 dX9_mean_83 (c_X9_at _ δ _ (r := k1) (p := q) (by omega)) ⟨by decide, by decide⟩ rfl rfl rfl (Nat.le_of_ble_eq_true rfl) (fun r_83 s_83 h_83 => ?_)
                      obtain ⟨rfl, rfl⟩ := h_83
                      refine g_laldN C dX9_mean_86 (k := (2197 * ((k1) % 2) + (q))) (q := 14) (by decide) rfl (by first | rfl | assumption | (simp only [glit, nI_add, pk_mul]; done) | (simp only [glit, nI_add, pk_mul]; congr 1; omega) | (simp only [*, glit, nI_add, pk_mul]; congr 1; omega)) (show (2197 * ((k1) % 2) + (q)) < gLenL 14 from Nat.lt_of_lt_of_eq (show (2197 * ((k1) % 2) + (q)) < 4394 by omega) rfl) ?_
                      refine g_lconst (v := 0) C dX9_mean_87 (by decide) ?_
                      refine g_lcmp C dX9_mean_88 ?_
                      refine g_if_le C 207 dX9_mean_89 (by decide) (fun c_89 => ?_) (fun c_89 => ?_)
                      · rw [lg_cmp_le] at c_89
                        refine g_iinc (v := nI (q + 1)) C dX9_mean_207 rfl (ginc _ 1) rfl ?_
                        refine g_lv [some _, some _, some _, some _, some _, some _, some _, none, some _, none, some _, none, none, none, none, none] (gs_some (gs_some (gs_some (gs_some (gs_some (gs_some (gs_some (gs_none (gs_some (gs_none (gs_some (gs_none (gs_none (gs_none (gs_none (gs_none gs_nil)))))))))))))))) ?_
                        refine g_goto C 68 dX9_mean_210 (by decide) ?_
                        refine g_lv [some _, some _, some _, some _, some _, some _, some _, none, some _, none, some _, none, none, none, none, none] (gs_some (gs_some (gs_some (gs_some (gs_some (gs_some (gs_some (gs_none (gs_some (gs_none (gs_some (gs_none (gs_none (gs_none (gs_none (gs_none gs_nil)))))))))))))))) ?_
                        exact ih_68 (q + 1) _ _ _ (by omega) (by first | exact hs | exact z_97) (by first | exact hd | exact d_97) (by omega)
                      · rw [lg_cmp_le] at c_89
                        refine g_aload_n C dX9_mean_92 rfl ?_
                        refine g_iload_n C dX9_mean_93 rfl ?_
                        refine g_iload C dX9_mean_94 rfl ?_
                        refine g_iload_n C dX9_mean_96 rfl ?_
                        refine g_callVv C sV_X9_189 dX9_mean_97 (c_X9_looksAt _ δ _ hu8 (p := q) (k := k1)) ⟨by decide, by decide⟩ (wO_M δ _) rfl rfl rfl rfl (Nat.le_of_ble_eq_true rfl) (fun s_97 h_97 => ?_)
                        have z_97 : gSm σ s_97 := gSm_t hs h_97.1
                        have d_97 : ¬ gG s_97 15 = 0 := by rw [h_97.2.2]; exact hd
                        refine g_lconst (v := 0) C dX9_mean_100 (by decide) ?_
                        refine g_lstore C dX9_mean_101 (Nat.le_of_ble_eq_true rfl) rfl ?_
                        refine g_lv [some _, some _, some _, some _, some _, some _, some _, none, some _, none, some _, some _, none, none, none, none] (gs_some (gs_some (gs_some (gs_some (gs_some (gs_some (gs_some (gs_none (gs_some (gs_none (gs_some (gs_some (gs_none (gs_none (gs_none (gs_none gs_nil)))))))))))))))) ?_
                        refine g_aload_n C dX9_mean_103 rfl ?_
                        refine g_get C dX9_mean_104 iwX9 rfl (wO_M δ _) 19 (Nat.le_of_ble_eq_true rfl) mW591 rfl rfl ?_
                        refine g_iload_n C dX9_mean_107 rfl ?_
                        refine g_iload C dX9_mean_108 rfl ?_
                        refine g_callSi C sS_X9_186 dX9_mean_110 (c_X9_at _ δ _ (r := k1) (p := q) (by omega)) ⟨by decide, by decide⟩ rfl rfl rfl (Nat.le_of_ble_eq_true rfl) (fun r_110 s_110 h_110 => ?_)
                        obtain ⟨rfl, rfl⟩ := h_110
                        refine g_laldN C dX9_mean_113 (k := (2197 * ((k1) % 2) + (q))) (q := 14) (by decide) rfl (by first | rfl | assumption | (simp only [glit, nI_add, pk_mul]; done) | (simp only [glit, nI_add, pk_mul]; congr 1; omega) | (simp only [*, glit, nI_add, pk_mul]; congr 1; omega)) (show (2197 * ((k1) % 2) + (q)) < gLenL 14 from Nat.lt_of_lt_of_eq (show (2197 * ((k1) % 2) + (q)) < 4394 by omega) rfl) ?_
                        refine g_lstore C dX9_mean_114 (Nat.le_of_ble_eq_true rfl) rfl ?_
                        refine g_lv [some _, some _, some _, some _, some _, some _, some _, none, some _, none, some _, some _, none, some _, none, none] (gs_some (gs_some (gs_some (gs_some (gs_some (gs_some (gs_some (gs_none (gs_some (gs_none (gs_some (gs_some (gs_none (gs_some (gs_none (gs_none gs_nil)))))))))))))))) ?_
                        refine g_iconst (v := 0) C dX9_mean_116 (by decide) ?_
                        refine g_istore C dX9_mean_117 (Nat.le_of_ble_eq_true rfl) rfl ?_
                        refine g_lv [some _, some _, some _, some _, some _, some _, some _, none, some _, none, some _, some _, none, some _, none, some _] (gs_some (gs_some (gs_some (gs_some (gs_some (gs_some (gs_some (gs_none (gs_some (gs_none (gs_some (gs_some (gs_none (gs_some (gs_none (gs_some gs_nil)))))))))))))))) ?_
                        have L_119 : ∀ (nn : Nat) (i : Nat) (a b : Int64) (hi : i ≤ m1), m1 - i < nn → gW Γ δ s_97 119 [some (.ref (δ.2.2.1 1)), some (.int (nI u1)), some (.int (nI k1)), some (.int (nI c1)), some (.int (nI m1)), some (.int r_36), some (.long x), none, some (.long y), none, some (.int (nI q)), some (.long a), none, some (.long b), none, some (.int (nI i))] [] := by
                          intro nn
                          induction nn with
                          | zero =>
                            intro i a b hi hm_119
                            exact absurd hm_119 (Nat.not_lt_zero _)
                          | succ nn ih_119 =>
                            intro i a b hi hm_119
                            refine g_iload C dX9_mean_119 rfl ?_
                            refine g_iload C dX9_mean_121 rfl ?_
                            refine g_icmp_ge C 177 dX9_mean_123 (by decide) (fun c_123 => ?_) (fun c_123 => ?_)
                            · have k_123 := gle c_123 (a := m1) (b := i) (by first | rfl | assumption | (simp only [glit, nI_add, pk_mul]; done) | (simp only [glit, nI_add, pk_mul]; congr 1; omega) | (simp only [*, glit, nI_add, pk_mul]; congr 1; omega)) (by first | rfl | assumption | (simp only [glit, nI_add, pk_mul]; done) | (simp only [glit, nI_add, pk_mul]; congr 1; omega) | (simp only [*, glit, nI_add, pk_mul]; congr 1; omega)) (by omega) (by omega)
                              refine g_lload C dX9_mean_177 rfl ?_
                              refine g_lload C dX9_mean_179 rfl ?_
                              refine g_lload C dX9_mean_181 rfl ?_
                              refine g_lload C dX9_mean_183 rfl ?_
                              refine g_ladd C dX9_mean_185 ?_
                              refine g_aload_n C dX9_mean_186 rfl ?_
                              refine g_get C dX9_mean_187 iwX9 rfl (wO_M δ _) 20 (Nat.le_of_ble_eq_true rfl) mW592 rfl rfl ?_
                              refine g_ldiv C dX9_mean_190 d_97 ?_
                              refine g_ladd C dX9_mean_191 ?_
                              refine g_ladd C dX9_mean_192 ?_
                              refine g_lstore C dX9_mean_193 (Nat.le_of_ble_eq_true rfl) rfl ?_
                              refine g_lv [some _, some _, some _, some _, some _, some _, some _, none, some _, none, some _, some _, none, some _, none, some _] (gs_some (gs_some (gs_some (gs_some (gs_some (gs_some (gs_some (gs_none (gs_some (gs_none (gs_some (gs_some (gs_none (gs_some (gs_none (gs_some gs_nil)))))))))))))))) ?_
                              refine g_lload C dX9_mean_195 rfl ?_
                              refine g_lload C dX9_mean_197 rfl ?_
                              refine g_ladd C dX9_mean_199 ?_
                              refine g_aload_n C dX9_mean_200 rfl ?_
                              refine g_get C dX9_mean_201 iwX9 rfl (wO_M δ _) 20 (Nat.le_of_ble_eq_true rfl) mW592 rfl rfl ?_
                              refine g_lrem C dX9_mean_204 d_97 ?_
                              refine g_lstore C dX9_mean_205 (Nat.le_of_ble_eq_true rfl) rfl ?_
                              refine g_lv [some _, some _, some _, some _, some _, some _, some _, none, some _, none, some _, some _, none, some _, none, some _] (gs_some (gs_some (gs_some (gs_some (gs_some (gs_some (gs_some (gs_none (gs_some (gs_none (gs_some (gs_some (gs_none (gs_some (gs_none (gs_some gs_nil)))))))))))))))) ?_
                              refine g_iinc (v := nI (q + 1)) C dX9_mean_207 rfl (ginc _ 1) rfl ?_
                              refine g_lv [some _, some _, some _, some _, some _, some _, some _, none, some _, none, some _, some _, none, some _, none, some _] (gs_some (gs_some (gs_some (gs_some (gs_some (gs_some (gs_some (gs_none (gs_some (gs_none (gs_some (gs_some (gs_none (gs_some (gs_none (gs_some gs_nil)))))))))))))))) ?_
                              refine g_goto C 68 dX9_mean_210 (by decide) ?_
                              refine g_lv [some _, some _, some _, some _, some _, some _, some _, none, some _, none, some _, none, none, none, none, none] (gs_some (gs_some (gs_some (gs_some (gs_some (gs_some (gs_some (gs_none (gs_some (gs_none (gs_some (gs_none (gs_none (gs_none (gs_none (gs_none gs_nil)))))))))))))))) ?_
                              exact ih_68 (q + 1) _ _ _ (by omega) (by first | exact hs | exact z_97) (by first | exact hd | exact d_97) (by omega)
                            · have k_123 := gnle c_123 (a := m1) (b := i) (by first | rfl | assumption | (simp only [glit, nI_add, pk_mul]; done) | (simp only [glit, nI_add, pk_mul]; congr 1; omega) | (simp only [*, glit, nI_add, pk_mul]; congr 1; omega)) (by first | rfl | assumption | (simp only [glit, nI_add, pk_mul]; done) | (simp only [glit, nI_add, pk_mul]; congr 1; omega) | (simp only [*, glit, nI_add, pk_mul]; congr 1; omega)) (by omega) (by omega)
                              refine g_lload C dX9_mean_126 rfl ?_
                              refine g_aload_n C dX9_mean_128 rfl ?_
                              refine g_get C dX9_mean_129 iwX9 rfl (wO_M δ _) 23 (Nat.le_of_ble_eq_true rfl) mW595 rfl rfl ?_
                              refine g_iload_n C dX9_mean_132 rfl ?_
                              refine g_ialdN C dX9_mean_133 (k := c1) (q := 59) (by decide) rfl (by first | rfl | assumption | (simp only [glit, nI_add, pk_mul]; done) | (simp only [glit, nI_add, pk_mul]; congr 1; omega) | (simp only [*, glit, nI_add, pk_mul]; congr 1; omega)) (show c1 < gLenI 59 from Nat.lt_of_lt_of_eq (show c1 < 4 by omega) rfl) ?_
                              refine g_i2l C dX9_mean_134 ?_
                              refine g_lmul C dX9_mean_135 ?_
                              refine g_lload C dX9_mean_136 rfl ?_
                              refine g_aload_n C dX9_mean_138 rfl ?_
                              refine g_get C dX9_mean_139 iwX9 rfl (wO_M δ _) 23 (Nat.le_of_ble_eq_true rfl) mW595 rfl rfl ?_
                              refine g_iload_n C dX9_mean_142 rfl ?_
                              refine g_ialdN C dX9_mean_143 (k := c1) (q := 59) (by decide) rfl (by first | rfl | assumption | (simp only [glit, nI_add, pk_mul]; done) | (simp only [glit, nI_add, pk_mul]; congr 1; omega) | (simp only [*, glit, nI_add, pk_mul]; congr 1; omega)) (show c1 < gLenI 59 from Nat.lt_of_lt_of_eq (show c1 < 4 by omega) rfl) ?_
                              refine g_i2l C dX9_mean_144 ?_
                              refine g_lmul C dX9_mean_145 ?_
                              refine g_aload_n C dX9_mean_146 rfl ?_
                              refine g_get C dX9_mean_147 iwX9 rfl (wO_M δ _) 20 (Nat.le_of_ble_eq_true rfl) mW592 rfl rfl ?_
                              refine g_ldiv C dX9_mean_150 d_97 ?_
                              refine g_ladd C dX9_mean_151 ?_
                              refine g_lstore C dX9_mean_152 (Nat.le_of_ble_eq_true rfl) rfl ?_
                              refine g_lv [some _, some _, some _, some _, some _, some _, some _, none, some _, none, some _, some _, none, some _, none, some _] (gs_some (gs_some (gs_some (gs_some (gs_some (gs_some (gs_some (gs_none (gs_some (gs_none (gs_some (gs_some (gs_none (gs_some (gs_none (gs_some gs_nil)))))))))))))))) ?_
                              refine g_lload C dX9_mean_154 rfl ?_
                              refine g_aload_n C dX9_mean_156 rfl ?_
                              refine g_get C dX9_mean_157 iwX9 rfl (wO_M δ _) 23 (Nat.le_of_ble_eq_true rfl) mW595 rfl rfl ?_
                              refine g_iload_n C dX9_mean_160 rfl ?_
                              refine g_ialdN C dX9_mean_161 (k := c1) (q := 59) (by decide) rfl (by first | rfl | assumption | (simp only [glit, nI_add, pk_mul]; done) | (simp only [glit, nI_add, pk_mul]; congr 1; omega) | (simp only [*, glit, nI_add, pk_mul]; congr 1; omega)) (show c1 < gLenI 59 from Nat.lt_of_lt_of_eq (show c1 < 4 by omega) rfl) ?_
                              refine g_i2l C dX9_mean_162 ?_
                              refine g_lmul C dX9_mean_163 ?_
                              refine g_aload_n C dX9_mean_164 rfl ?_
                              refine g_get C dX9_mean_165 iwX9 rfl (wO_M δ _) 20 (Nat.le_of_ble_eq_true rfl) mW592 rfl rfl ?_
                              refine g_lrem C dX9_mean_168 d_97 ?_
                              refine g_lstore C dX9_mean_169 (Nat.le_of_ble_eq_true rfl) rfl ?_
                              refine g_lv [some _, some _, some _, some _, some _, some _, some _, none, some _, none, some _, some _, none, some _, none, some _] (gs_some (gs_some (gs_some (gs_some (gs_some (gs_some (gs_some (gs_none (gs_some (gs_none (gs_some (gs_some (gs_none (gs_some (gs_none (gs_some gs_nil)))))))))))))))) ?_
                              refine g_iinc (v := nI (i + 1)) C dX9_mean_171 rfl (ginc _ 1) rfl ?_
                              refine g_lv [some _, some _, some _, some _, some _, some _, some _, none, some _, none, some _, some _, none, some _, none, some _] (gs_some (gs_some (gs_some (gs_some (gs_some (gs_some (gs_some (gs_none (gs_some (gs_none (gs_some (gs_some (gs_none (gs_some (gs_none (gs_some gs_nil)))))))))))))))) ?_
                              refine g_goto C 119 dX9_mean_174 (by decide) ?_
                              refine g_lv [some _, some _, some _, some _, some _, some _, some _, none, some _, none, some _, some _, none, some _, none, some _] (gs_some (gs_some (gs_some (gs_some (gs_some (gs_some (gs_some (gs_none (gs_some (gs_none (gs_some (gs_some (gs_none (gs_some (gs_none (gs_some gs_nil)))))))))))))))) ?_
                              exact ih_119 (i + 1) _ _ (by omega) (by omega)
                        refine g_lv [some _, some _, some _, some _, some _, some _, some _, none, some _, none, some _, some _, none, some _, none, some _] (gs_some (gs_some (gs_some (gs_some (gs_some (gs_some (gs_some (gs_none (gs_some (gs_none (gs_some (gs_some (gs_none (gs_some (gs_none (gs_some gs_nil)))))))))))))))) ?_
                        exact L_119 _ 0 _ _ (by omega) (Nat.lt_succ_self _)
                refine g_lv [some _, some _, some _, some _, some _, some _, some _, none, some _, none, some _, none, none, none, none, none] (gs_some (gs_some (gs_some (gs_some (gs_some (gs_some (gs_some (gs_none (gs_some (gs_none (gs_some (gs_none (gs_none (gs_none (gs_none (gs_none gs_nil)))))))))))))))) ?_
                exact L_68 _ 0 _ _ _ (by omega) z_56 d_56 (Nat.lt_succ_self _)
              · refine g_iload C dX9_mean_46 rfl ?_
                exact g_iret C E dX9_mean_48 rfl rfl ⟨_, rfl, (by repeat (first | (with_reducible assumption) | (with_reducible exact gSm_r _) | (with_reducible refine gSm_I (by omega) ?_) | (with_reducible refine gSm_L (by omega) ?_) | (with_reducible refine gSm_N (by omega) ?_) | (with_reducible refine gSm_G (by omega) ?_) | (with_reducible refine gSm_P ?_)))⟩
            · exact absurd c_28 (by decide)
          · skip
            refine g_if_ne C 33 dX9_mean_28 (by decide) (fun c_28 => ?_) (fun c_28 => ?_)
            · exact absurd c_28 (by decide)
            · refine g_iconst (v := (-1)) C dX9_mean_31 (by decide) ?_
              exact g_iret C E dX9_mean_32 rfl rfl ⟨_, rfl, (by repeat (first | (with_reducible assumption) | (with_reducible exact gSm_r _) | (with_reducible refine gSm_I (by omega) ?_) | (with_reducible refine gSm_L (by omega) ?_) | (with_reducible refine gSm_N (by omega) ?_) | (with_reducible refine gSm_G (by omega) ?_) | (with_reducible refine gSm_P ?_)))⟩
      · skip
        refine g_if_eq C 31 dX9_mean_15 (by decide) (fun c_15 => ?_) (fun c_15 => ?_)
        · refine g_iconst (v := (-1)) C dX9_mean_31 (by decide) ?_
          exact g_iret C E dX9_mean_32 rfl rfl ⟨_, rfl, (by repeat (first | (with_reducible assumption) | (with_reducible exact gSm_r _) | (with_reducible refine gSm_I (by omega) ?_) | (with_reducible refine gSm_L (by omega) ?_) | (with_reducible refine gSm_N (by omega) ?_) | (with_reducible refine gSm_G (by omega) ?_) | (with_reducible refine gSm_P ?_)))⟩
        · exact absurd c_15 (by decide)
  · skip
    refine g_if_eq C 31 dX9_mean_6 (by decide) (fun c_6 => ?_) (fun c_6 => ?_)
    · refine g_iconst (v := (-1)) C dX9_mean_31 (by decide) ?_
      exact g_iret C E dX9_mean_32 rfl rfl ⟨_, rfl, (by repeat (first | (with_reducible assumption) | (with_reducible exact gSm_r _) | (with_reducible refine gSm_I (by omega) ?_) | (with_reducible refine gSm_L (by omega) ?_) | (with_reducible refine gSm_N (by omega) ?_) | (with_reducible refine gSm_G (by omega) ?_) | (with_reducible refine gSm_P ?_)))⟩
    · exact absurd c_6 (by decide)
set_option maxRecDepth 100000 in
set_option maxHeartbeats 4000000 in
theorem c_X9_sum (l : Launch) (δ : GD) (σ : GS) {k : Nat} (hk : k ≤ 12) : gM l δ yX9_sum cX9_sum 5 (some .long) 1 21 [.ref (δ.2.2.1 1), .int (nI k)] σ (gPl (fun _ σ' => σ = σ')) := by
  refine g_of (lv0 := [some (.ref (δ.2.2.1 1)), some (.int (nI k)), none, none, none]) (by decide) rfl (Nat.le_of_ble_eq_true rfl) (fun Γ hl C E => ?_)
  subst hl
  have C : gC Γ δ cX9_sum RX9 5 1 21 := C
  refine g_lconst (v := 0) C dX9_sum_0 (by decide) ?_
  refine g_lstore_n C dX9_sum_1 (Nat.le_of_ble_eq_true rfl) rfl ?_
  refine g_lv [some _, some _, some _, none, none] (gs_some (gs_some (gs_some (gs_none (gs_none gs_nil))))) ?_
  refine g_iconst (v := 0) C dX9_sum_2 (by decide) ?_
  refine g_istore C dX9_sum_3 (Nat.le_of_ble_eq_true rfl) rfl ?_
  refine g_lv [some _, some _, some _, none, some _] (gs_some (gs_some (gs_some (gs_none (gs_some gs_nil))))) ?_
  have L_5 : ∀ (nn : Nat) (q : Nat) (x : Int64) (hq : q ≤ 2197), 2197 - q < nn → gW Γ δ σ 5 [some (.ref (δ.2.2.1 1)), some (.int (nI k)), some (.long x), none, some (.int (nI q))] [] := by
    intro nn
    induction nn with
    | zero =>
      intro q x hq hm_5
      exact absurd hm_5 (Nat.not_lt_zero _)
    | succ nn ih_5 =>
      intro q x hq hm_5
      refine g_iload C dX9_sum_5 rfl ?_
      refine g_sipush (v := 2197) C dX9_sum_7 (by decide) ?_
      refine g_icmp_ge C 33 dX9_sum_10 (by decide) (fun c_10 => ?_) (fun c_10 => ?_)
      · have k_10 := gle c_10 (a := 2197) (b := q) (by first | rfl | assumption | (simp only [glit, nI_add, pk_mul]; done) | (simp only [glit, nI_add, pk_mul]; congr 1; omega) | (simp only [*, glit, nI_add, pk_mul]; congr 1; omega)) (by first | rfl | assumption | (simp only [glit, nI_add, pk_mul]; done) | (simp only [glit, nI_add, pk_mul]; congr 1; omega) | (simp only [*, glit, nI_add, pk_mul]; congr 1; omega)) (by omega) (by omega)
        refine g_lload_n C dX9_sum_33 rfl ?_
        exact g_lret C E dX9_sum_34 rfl ⟨_, rfl, rfl⟩
      · have k_10 := gnle c_10 (a := 2197) (b := q) (by first | rfl | assumption | (simp only [glit, nI_add, pk_mul]; done) | (simp only [glit, nI_add, pk_mul]; congr 1; omega) | (simp only [*, glit, nI_add, pk_mul]; congr 1; omega)) (by first | rfl | assumption | (simp only [glit, nI_add, pk_mul]; done) | (simp only [glit, nI_add, pk_mul]; congr 1; omega) | (simp only [*, glit, nI_add, pk_mul]; congr 1; omega)) (by omega) (by omega)
        refine g_lload_n C dX9_sum_13 rfl ?_
        refine g_aload_n C dX9_sum_14 rfl ?_
        refine g_get C dX9_sum_15 iwX9 rfl (wO_M δ _) 19 (Nat.le_of_ble_eq_true rfl) mW591 rfl rfl ?_
        refine g_iload_n C dX9_sum_18 rfl ?_
        refine g_iload C dX9_sum_19 rfl ?_
        refine g_callSi C sS_X9_186 dX9_sum_21 (c_X9_at _ δ _ (r := k) (p := q) (by omega)) ⟨by decide, by decide⟩ rfl rfl rfl (Nat.le_of_ble_eq_true rfl) (fun r_21 s_21 h_21 => ?_)
        obtain ⟨rfl, rfl⟩ := h_21
        refine g_laldN C dX9_sum_24 (k := (2197 * ((k) % 2) + (q))) (q := 14) (by decide) rfl (by first | rfl | assumption | (simp only [glit, nI_add, pk_mul]; done) | (simp only [glit, nI_add, pk_mul]; congr 1; omega) | (simp only [*, glit, nI_add, pk_mul]; congr 1; omega)) (show (2197 * ((k) % 2) + (q)) < gLenL 14 from Nat.lt_of_lt_of_eq (show (2197 * ((k) % 2) + (q)) < 4394 by omega) rfl) ?_
        refine g_ladd C dX9_sum_25 ?_
        refine g_lstore_n C dX9_sum_26 (Nat.le_of_ble_eq_true rfl) rfl ?_
        refine g_lv [some _, some _, some _, none, some _] (gs_some (gs_some (gs_some (gs_none (gs_some gs_nil))))) ?_
        refine g_iinc (v := nI (q + 1)) C dX9_sum_27 rfl (ginc _ 1) rfl ?_
        refine g_lv [some _, some _, some _, none, some _] (gs_some (gs_some (gs_some (gs_none (gs_some gs_nil))))) ?_
        refine g_goto C 5 dX9_sum_30 (by decide) ?_
        refine g_lv [some _, some _, some _, none, some _] (gs_some (gs_some (gs_some (gs_none (gs_some gs_nil))))) ?_
        exact ih_5 (q + 1) _ (by omega) (by omega)
  refine g_lv [some _, some _, some _, none, some _] (gs_some (gs_some (gs_some (gs_none (gs_some gs_nil))))) ?_
  exact L_5 _ 0 _ (by omega) (Nat.lt_succ_self _)
set_option maxRecDepth 100000 in
set_option maxHeartbeats 4000000 in
theorem c_X9_told (l : Launch) (δ : GD) (σ : GS) (a0 a1 a2 a3 a4 : Int32) {m : Nat} (hm : gN σ 33 = nI m) (h8 : m ≤ 8) (hC : ∀ u, u < m → ∃ n : Nat, 2 ≤ n ∧ n ≤ 4 ∧ gI σ 52 u = nI n) : gM l δ yX9_told cX9_told 9 (some .int) 3 91 [.ref (δ.2.2.1 1), .int a0, .int a1, .int a2, .int a3, .int a4] σ (gPi (fun _ σ' => gSm σ σ')) := by
  refine g_of (lv0 := [some (.ref (δ.2.2.1 1)), some (.int a0), some (.int a1), some (.int a2), some (.int a3), some (.int a4), none, none, none]) (by decide) rfl (Nat.le_of_ble_eq_true rfl) (fun Γ hl C E => ?_)
  subst hl
  have C : gC Γ δ cX9_told RX9 9 3 91 := C
  refine g_aload_n C dX9_told_0 rfl ?_
  refine g_iload_n C dX9_told_1 rfl ?_
  refine g_callVi C sV_X9_89 dX9_told_2 (c_X9_isUrn _ δ _ _ hm h8) ⟨by decide, by decide⟩ (wO_M δ _) rfl rfl rfl rfl (Nat.le_of_ble_eq_true rfl) (fun r_2 s_2 h_2 => ?_)
  obtain ⟨rfl, h_2⟩ := h_2
  rcases h_2 with ⟨rfl, h_2⟩ | ⟨rfl, h_2⟩
  · obtain ⟨u1, hu1, rfl⟩ := id h_2
    obtain ⟨n, h2, h4, hn⟩ := hC u1 hu1
    have hu8 : u1 < 8 := by omega
    refine g_if_eq C 55 dX9_told_5 (by decide) (fun c_5 => ?_) (fun c_5 => ?_)
    · exact absurd c_5 (by decide)
    · refine g_iload_n C dX9_told_8 rfl ?_
      refine g_i2l C dX9_told_9 ?_
      refine g_lconst (v := 1) C dX9_told_10 (by decide) ?_
      refine g_ldc2 C dX9_told_11 mW792 ?_
      refine g_callSi C sS_X9_62 dX9_told_14 (c_X9_in _ δ _ _ _ _) ⟨by decide, by decide⟩ rfl rfl rfl (Nat.le_of_ble_eq_true rfl) (fun r_14 s_14 h_14 => ?_)
      obtain ⟨rfl, h_14⟩ := h_14
      rcases h_14 with ⟨rfl, h_14⟩ | ⟨rfl, h_14⟩
      · skip
        refine g_if_eq C 55 dX9_told_17 (by decide) (fun c_17 => ?_) (fun c_17 => ?_)
        · exact absurd c_17 (by decide)
        · refine g_aload_n C dX9_told_20 rfl ?_
          refine g_iload_n C dX9_told_21 rfl ?_
          refine g_iload_n C dX9_told_22 rfl ?_
          refine g_callVi C sV_X9_92 dX9_told_23 (c_X9_isColour _ δ _ hu8 _ hn h4) ⟨by decide, by decide⟩ (wO_M δ _) rfl rfl rfl rfl (Nat.le_of_ble_eq_true rfl) (fun r_23 s_23 h_23 => ?_)
          obtain ⟨rfl, h_23⟩ := h_23
          rcases h_23 with ⟨rfl, h_23⟩ | ⟨rfl, h_23⟩
          · obtain ⟨c1, hc1, rfl⟩ := id h_23
            refine g_if_eq C 55 dX9_told_26 (by decide) (fun c_26 => ?_) (fun c_26 => ?_)
            · exact absurd c_26 (by decide)
            · refine g_iload C dX9_told_29 rfl ?_
              refine g_i2l C dX9_told_31 ?_
              refine g_iload_n C dX9_told_32 rfl ?_
              refine g_iconst (v := 1) C dX9_told_33 (by decide) ?_
              refine g_iadd C dX9_told_34 ?_
              refine g_i2l C dX9_told_35 ?_
              refine g_ldc2 C dX9_told_36 mW792 ?_
              refine g_callSi C sS_X9_62 dX9_told_39 (c_X9_in _ δ _ _ _ _) ⟨by decide, by decide⟩ rfl rfl rfl (Nat.le_of_ble_eq_true rfl) (fun r_39 s_39 h_39 => ?_)
              obtain ⟨rfl, h_39⟩ := h_39
              rcases h_39 with ⟨rfl, h_39⟩ | ⟨rfl, h_39⟩
              · obtain ⟨i1, j1, hi1, hj1, hj2, rfl, rfl⟩ := gin_j (by decide) (by decide) h_14 h_39
                refine g_if_eq C 55 dX9_told_42 (by decide) (fun c_42 => ?_) (fun c_42 => ?_)
                · exact absurd c_42 (by decide)
                · refine g_aload_n C dX9_told_45 rfl ?_
                  refine g_iload_n C dX9_told_46 rfl ?_
                  refine g_iload C dX9_told_47 rfl ?_
                  refine g_callVi C sV_X9_92 dX9_told_49 (c_X9_isColour _ δ _ hu8 _ hn h4) ⟨by decide, by decide⟩ (wO_M δ _) rfl rfl rfl rfl (Nat.le_of_ble_eq_true rfl) (fun r_49 s_49 h_49 => ?_)
                  obtain ⟨rfl, h_49⟩ := h_49
                  rcases h_49 with ⟨rfl, h_49⟩ | ⟨rfl, h_49⟩
                  · obtain ⟨d1, hd1, rfl⟩ := id h_49
                    refine g_if_ne C 57 dX9_told_52 (by decide) (fun c_52 => ?_) (fun c_52 => ?_)
                    · refine g_aload_n C dX9_told_57 rfl ?_
                      refine g_iload_n C dX9_told_58 rfl ?_
                      refine g_iload C dX9_told_59 rfl ?_
                      refine g_callVi C sV_X9_203 dX9_told_61 (c_X9_evenFault _ δ _ hu8 (k := j1) hn h4 (by omega)) ⟨by decide, by decide⟩ (wO_M δ _) rfl rfl rfl rfl (Nat.le_of_ble_eq_true rfl) (fun r_61 s_61 h_61 => ?_)
                      obtain ⟨z_61, d_61⟩ := h_61
                      refine g_istore C dX9_told_64 (Nat.le_of_ble_eq_true rfl) rfl ?_
                      refine g_lv [some _, some _, some _, some _, some _, some _, some _, none, none] (gs_some (gs_some (gs_some (gs_some (gs_some (gs_some (gs_some (gs_none (gs_none gs_nil))))))))) ?_
                      refine g_iload C dX9_told_66 rfl ?_
                      refine g_if_ge C 74 dX9_told_68 (by decide) (fun c_68 => ?_) (fun c_68 => ?_)
                      · refine g_aload_n C dX9_told_74 rfl ?_
                        refine g_iload_n C dX9_told_75 rfl ?_
                        refine g_iload C dX9_told_76 rfl ?_
                        refine g_iconst (v := 0) C dX9_told_78 (by decide) ?_
                        refine g_iconst (v := 0) C dX9_told_79 (by decide) ?_
                        refine g_iload C dX9_told_80 rfl ?_
                        refine g_iload C dX9_told_82 rfl ?_
                        refine g_callVv C sV_X9_206 dX9_told_84 (c_X9_goes _ δ _ hu8 (k := j1) (by omega) _ _ _ _) ⟨by decide, by decide⟩ (wO_M δ _) rfl rfl rfl rfl (Nat.le_of_ble_eq_true rfl) (fun s_84 h_84 => ?_)
                        have z_84 : gSm σ s_84 := gSm_t z_61 h_84.1
                        refine g_aload_n C dX9_told_87 rfl ?_
                        refine g_iload C dX9_told_88 rfl ?_
                        refine g_callVl C sV_X9_214 dX9_told_90 (c_X9_sum _ δ _ (k := j1) (by omega)) ⟨by decide, by decide⟩ (wO_M δ _) rfl rfl rfl rfl (Nat.le_of_ble_eq_true rfl) (fun r_90 s_90 h_90 => ?_)
                        obtain rfl := h_90
                        refine g_lstore C dX9_told_93 (Nat.le_of_ble_eq_true rfl) rfl ?_
                        refine g_lv [some _, some _, some _, some _, some _, some _, some _, some _, none] (gs_some (gs_some (gs_some (gs_some (gs_some (gs_some (gs_some (gs_some (gs_none gs_nil))))))))) ?_
                        refine g_lload C dX9_told_95 rfl ?_
                        refine g_lconst (v := 0) C dX9_told_97 (by decide) ?_
                        refine g_lcmp C dX9_told_98 ?_
                        refine g_if_ne C 105 dX9_told_99 (by decide) (fun c_99 => ?_) (fun c_99 => ?_)
                        · rw [lg_cmp_eq] at c_99
                          refine g_aload_n C dX9_told_105 rfl ?_
                          refine g_iload_n C dX9_told_106 rfl ?_
                          refine g_iload C dX9_told_107 rfl ?_
                          refine g_iload_n C dX9_told_109 rfl ?_
                          refine g_iload_n C dX9_told_110 rfl ?_
                          refine g_iload C dX9_told_111 rfl ?_
                          refine g_iload C dX9_told_113 rfl ?_
                          refine g_callVv C sV_X9_206 dX9_told_115 (c_X9_goes _ δ _ hu8 (k := j1) (by omega) _ _ _ _) ⟨by decide, by decide⟩ (wO_M δ _) rfl rfl rfl rfl (Nat.le_of_ble_eq_true rfl) (fun s_115 h_115 => ?_)
                          have z_115 : gSm σ s_115 := gSm_t z_84 h_115.1
                          refine g_aload_n C dX9_told_118 rfl ?_
                          refine g_aload_n C dX9_told_119 rfl ?_
                          refine g_iload C dX9_told_120 rfl ?_
                          refine g_callVl C sV_X9_214 dX9_told_122 (c_X9_sum _ δ _ (k := j1) (by omega)) ⟨by decide, by decide⟩ (wO_M δ _) rfl rfl rfl rfl (Nat.le_of_ble_eq_true rfl) (fun r_122 s_122 h_122 => ?_)
                          obtain rfl := h_122
                          refine g_lload C dX9_told_125 rfl ?_
                          refine g_callVi C sV_X9_174 dX9_told_127 (c_X9_tells _ δ _ _ _ c_99) ⟨by decide, by decide⟩ (wO_M δ _) rfl rfl rfl rfl (Nat.le_of_ble_eq_true rfl) (fun r_127 s_127 h_127 => ?_)
                          obtain ⟨rfl, h_127⟩ := h_127
                          have z_127 : gSm σ s_127 := gSm_t (by repeat (first | (with_reducible assumption) | (with_reducible exact gSm_r _) | (with_reducible refine gSm_I (by omega) ?_) | (with_reducible refine gSm_L (by omega) ?_) | (with_reducible refine gSm_N (by omega) ?_) | (with_reducible refine gSm_G (by omega) ?_) | (with_reducible refine gSm_P ?_))) h_127
                          exact g_iret C E dX9_told_130 rfl rfl ⟨_, rfl, (by repeat (first | (with_reducible assumption) | (with_reducible exact gSm_r _) | (with_reducible refine gSm_I (by omega) ?_) | (with_reducible refine gSm_L (by omega) ?_) | (with_reducible refine gSm_N (by omega) ?_) | (with_reducible refine gSm_G (by omega) ?_) | (with_reducible refine gSm_P ?_)))⟩
                        · rw [lg_cmp_eq] at c_99
                          refine g_bipush (v := (-2)) C dX9_told_102 (by decide) ?_
                          exact g_iret C E dX9_told_104 rfl rfl ⟨_, rfl, (by repeat (first | (with_reducible assumption) | (with_reducible exact gSm_r _) | (with_reducible refine gSm_I (by omega) ?_) | (with_reducible refine gSm_L (by omega) ?_) | (with_reducible refine gSm_N (by omega) ?_) | (with_reducible refine gSm_G (by omega) ?_) | (with_reducible refine gSm_P ?_)))⟩
                      · refine g_iload C dX9_told_71 rfl ?_
                        exact g_iret C E dX9_told_73 rfl rfl ⟨_, rfl, (by repeat (first | (with_reducible assumption) | (with_reducible exact gSm_r _) | (with_reducible refine gSm_I (by omega) ?_) | (with_reducible refine gSm_L (by omega) ?_) | (with_reducible refine gSm_N (by omega) ?_) | (with_reducible refine gSm_G (by omega) ?_) | (with_reducible refine gSm_P ?_)))⟩
                    · exact absurd c_52 (by decide)
                  · skip
                    refine g_if_ne C 57 dX9_told_52 (by decide) (fun c_52 => ?_) (fun c_52 => ?_)
                    · exact absurd c_52 (by decide)
                    · refine g_iconst (v := (-1)) C dX9_told_55 (by decide) ?_
                      exact g_iret C E dX9_told_56 rfl rfl ⟨_, rfl, (by repeat (first | (with_reducible assumption) | (with_reducible exact gSm_r _) | (with_reducible refine gSm_I (by omega) ?_) | (with_reducible refine gSm_L (by omega) ?_) | (with_reducible refine gSm_N (by omega) ?_) | (with_reducible refine gSm_G (by omega) ?_) | (with_reducible refine gSm_P ?_)))⟩
              · skip
                refine g_if_eq C 55 dX9_told_42 (by decide) (fun c_42 => ?_) (fun c_42 => ?_)
                · refine g_iconst (v := (-1)) C dX9_told_55 (by decide) ?_
                  exact g_iret C E dX9_told_56 rfl rfl ⟨_, rfl, (by repeat (first | (with_reducible assumption) | (with_reducible exact gSm_r _) | (with_reducible refine gSm_I (by omega) ?_) | (with_reducible refine gSm_L (by omega) ?_) | (with_reducible refine gSm_N (by omega) ?_) | (with_reducible refine gSm_G (by omega) ?_) | (with_reducible refine gSm_P ?_)))⟩
                · exact absurd c_42 (by decide)
          · skip
            refine g_if_eq C 55 dX9_told_26 (by decide) (fun c_26 => ?_) (fun c_26 => ?_)
            · refine g_iconst (v := (-1)) C dX9_told_55 (by decide) ?_
              exact g_iret C E dX9_told_56 rfl rfl ⟨_, rfl, (by repeat (first | (with_reducible assumption) | (with_reducible exact gSm_r _) | (with_reducible refine gSm_I (by omega) ?_) | (with_reducible refine gSm_L (by omega) ?_) | (with_reducible refine gSm_N (by omega) ?_) | (with_reducible refine gSm_G (by omega) ?_) | (with_reducible refine gSm_P ?_)))⟩
            · exact absurd c_26 (by decide)
      · skip
        refine g_if_eq C 55 dX9_told_17 (by decide) (fun c_17 => ?_) (fun c_17 => ?_)
        · refine g_iconst (v := (-1)) C dX9_told_55 (by decide) ?_
          exact g_iret C E dX9_told_56 rfl rfl ⟨_, rfl, (by repeat (first | (with_reducible assumption) | (with_reducible exact gSm_r _) | (with_reducible refine gSm_I (by omega) ?_) | (with_reducible refine gSm_L (by omega) ?_) | (with_reducible refine gSm_N (by omega) ?_) | (with_reducible refine gSm_G (by omega) ?_) | (with_reducible refine gSm_P ?_)))⟩
        · exact absurd c_17 (by decide)
  · skip
    refine g_if_eq C 55 dX9_told_5 (by decide) (fun c_5 => ?_) (fun c_5 => ?_)
    · refine g_iconst (v := (-1)) C dX9_told_55 (by decide) ?_
      exact g_iret C E dX9_told_56 rfl rfl ⟨_, rfl, (by repeat (first | (with_reducible assumption) | (with_reducible exact gSm_r _) | (with_reducible refine gSm_I (by omega) ?_) | (with_reducible refine gSm_L (by omega) ?_) | (with_reducible refine gSm_N (by omega) ?_) | (with_reducible refine gSm_G (by omega) ?_) | (with_reducible refine gSm_P ?_)))⟩
    · exact absurd c_5 (by decide)
set_option maxRecDepth 100000 in
set_option maxHeartbeats 4000000 in
theorem c_X9_share (l : Launch) (δ : GD) (σ : GS) (a0 a1 a2 : Int32) {m : Nat} (hm : gN σ 33 = nI m) (h8 : m ≤ 8) (hC : ∀ u, u < m → ∃ n : Nat, 2 ≤ n ∧ n ≤ 4 ∧ gI σ 52 u = nI n) (hV : ∀ u, u < 8 → gB2 (mB σ u) ∧ gNT9 (mT σ u)) : gM l δ yX9_share cX9_share 10 (some .int) 3 71 [.ref (δ.2.2.1 1), .int a0, .int a1, .int a2] σ (gPi (fun _ σ' => gSm σ σ')) := by
  refine g_of (lv0 := [some (.ref (δ.2.2.1 1)), some (.int a0), some (.int a1), some (.int a2), none, none, none, none, none, none]) (by decide) rfl (Nat.le_of_ble_eq_true rfl) (fun Γ hl C E => ?_)
  subst hl
  have C : gC Γ δ cX9_share RX9 10 3 71 := C
  refine g_aload_n C dX9_share_0 rfl ?_
  refine g_iload_n C dX9_share_1 rfl ?_
  refine g_callVi C sV_X9_89 dX9_share_2 (c_X9_isUrn _ δ _ _ hm h8) ⟨by decide, by decide⟩ (wO_M δ _) rfl rfl rfl rfl (Nat.le_of_ble_eq_true rfl) (fun r_2 s_2 h_2 => ?_)
  obtain ⟨rfl, h_2⟩ := h_2
  rcases h_2 with ⟨rfl, h_2⟩ | ⟨rfl, h_2⟩
  · obtain ⟨u1, hu1, rfl⟩ := id h_2
    obtain ⟨n, h2, h4, hn⟩ := hC u1 hu1
    have hu8 : u1 < 8 := by omega
    refine g_if_eq C 29 dX9_share_5 (by decide) (fun c_5 => ?_) (fun c_5 => ?_)
    · exact absurd c_5 (by decide)
    · refine g_aload_n C dX9_share_8 rfl ?_
      refine g_iload_n C dX9_share_9 rfl ?_
      refine g_iload_n C dX9_share_10 rfl ?_
      refine g_callVi C sV_X9_92 dX9_share_11 (c_X9_isColour _ δ _ hu8 _ hn h4) ⟨by decide, by decide⟩ (wO_M δ _) rfl rfl rfl rfl (Nat.le_of_ble_eq_true rfl) (fun r_11 s_11 h_11 => ?_)
      obtain ⟨rfl, h_11⟩ := h_11
      rcases h_11 with ⟨rfl, h_11⟩ | ⟨rfl, h_11⟩
      · obtain ⟨c1, hc1, rfl⟩ := id h_11
        refine g_if_eq C 29 dX9_share_14 (by decide) (fun c_14 => ?_) (fun c_14 => ?_)
        · exact absurd c_14 (by decide)
        · refine g_iload_n C dX9_share_17 rfl ?_
          refine g_i2l C dX9_share_18 ?_
          refine g_lconst (v := 1) C dX9_share_19 (by decide) ?_
          refine g_ldc2 C dX9_share_20 mW706 ?_
          refine g_callSi C sS_X9_62 dX9_share_23 (c_X9_in _ δ _ _ _ _) ⟨by decide, by decide⟩ rfl rfl rfl (Nat.le_of_ble_eq_true rfl) (fun r_23 s_23 h_23 => ?_)
          obtain ⟨rfl, h_23⟩ := h_23
          rcases h_23 with ⟨rfl, h_23⟩ | ⟨rfl, h_23⟩
          · obtain ⟨m1, -, hm1, rfl⟩ := gin13 (m := 4) (by decide) (by decide) (by decide) h_23
            refine g_if_ne C 31 dX9_share_26 (by decide) (fun c_26 => ?_) (fun c_26 => ?_)
            · refine g_aload_n C dX9_share_31 rfl ?_
              refine g_iload_n C dX9_share_32 rfl ?_
              refine g_iconst (v := 0) C dX9_share_33 (by decide) ?_
              refine g_callVi C sV_X9_107 dX9_share_34 (c_X9_addedSum _ δ _ hu8 (c := 0) (by omega)) ⟨by decide, by decide⟩ (wO_M δ _) rfl rfl rfl rfl (Nat.le_of_ble_eq_true rfl) (fun r_34 s_34 h_34 => ?_)
              obtain ⟨rfl, h_34⟩ := h_34
              refine g_istore C dX9_share_37 (Nat.le_of_ble_eq_true rfl) rfl ?_
              refine g_lv [some _, some _, some _, some _, some _, none, none, none, none, none] (gs_some (gs_some (gs_some (gs_some (gs_some (gs_none (gs_none (gs_none (gs_none (gs_none gs_nil)))))))))) ?_
              refine g_aload_n C dX9_share_39 rfl ?_
              refine g_iload_n C dX9_share_40 rfl ?_
              refine g_callVi C sV_X9_117 dX9_share_41 (c_X9_isLike _ δ _ hu8 hn h4) ⟨by decide, by decide⟩ (wO_M δ _) rfl rfl rfl rfl (Nat.le_of_ble_eq_true rfl) (fun r_41 s_41 h_41 => ?_)
              obtain ⟨rfl, h_41⟩ := h_41
              refine g_if_eq C 60 dX9_share_44 (by decide) (fun c_44 => ?_) (fun c_44 => ?_)
              · refine g_bipush (v := (-2)) C dX9_share_60 (by decide) ?_
                exact g_iret C E dX9_share_62 rfl rfl ⟨_, rfl, (by repeat (first | (with_reducible assumption) | (with_reducible exact gSm_r _) | (with_reducible refine gSm_I (by omega) ?_) | (with_reducible refine gSm_L (by omega) ?_) | (with_reducible refine gSm_N (by omega) ?_) | (with_reducible refine gSm_G (by omega) ?_) | (with_reducible refine gSm_P ?_)))⟩
              · refine g_iload C dX9_share_47 rfl ?_
                refine g_if_eq C 60 dX9_share_49 (by decide) (fun c_49 => ?_) (fun c_49 => ?_)
                · refine g_bipush (v := (-2)) C dX9_share_60 (by decide) ?_
                  exact g_iret C E dX9_share_62 rfl rfl ⟨_, rfl, (by repeat (first | (with_reducible assumption) | (with_reducible exact gSm_r _) | (with_reducible refine gSm_I (by omega) ?_) | (with_reducible refine gSm_L (by omega) ?_) | (with_reducible refine gSm_N (by omega) ?_) | (with_reducible refine gSm_G (by omega) ?_) | (with_reducible refine gSm_P ?_)))⟩
                · refine g_aload_n C dX9_share_52 rfl ?_
                  refine g_iload_n C dX9_share_53 rfl ?_
                  refine g_callVi C sV_X9_113 dX9_share_54 (c_X9_balls _ δ _ hu8) ⟨by decide, by decide⟩ (wO_M δ _) rfl rfl rfl rfl (Nat.le_of_ble_eq_true rfl) (fun r_54 s_54 h_54 => ?_)
                  obtain ⟨rfl, h_54⟩ := h_54
                  refine g_if_ne C 63 dX9_share_57 (by decide) (fun c_57 => ?_) (fun c_57 => ?_)
                  · rw [h_54] at c_57
                    subst h_34
                    have hl := (gAcc_y h_41 c_44).1.2
                    obtain ⟨b1, b2, -⟩ := gB2_sum (hV u1 hu8).1
                    have b3 := (gNT9_s (hV u1 hu8).2 (c := 0) (by omega)).2
                    refine g_lconst (v := 1) C dX9_share_63 (by decide) ?_
                    refine g_lstore C dX9_share_64 (Nat.le_of_ble_eq_true rfl) rfl ?_
                    refine g_lv [some _, some _, some _, some _, some _, some _, none, none, none, none] (gs_some (gs_some (gs_some (gs_some (gs_some (gs_some (gs_none (gs_none (gs_none (gs_none gs_nil)))))))))) ?_
                    refine g_lconst (v := 1) C dX9_share_66 (by decide) ?_
                    refine g_lstore C dX9_share_67 (Nat.le_of_ble_eq_true rfl) rfl ?_
                    refine g_lv [some _, some _, some _, some _, some _, some _, none, some _, none, none] (gs_some (gs_some (gs_some (gs_some (gs_some (gs_some (gs_none (gs_some (gs_none (gs_none gs_nil)))))))))) ?_
                    refine g_iconst (v := 0) C dX9_share_69 (by decide) ?_
                    refine g_istore C dX9_share_70 (Nat.le_of_ble_eq_true rfl) rfl ?_
                    refine g_lv [some _, some _, some _, some _, some _, some _, none, some _, none, some _] (gs_some (gs_some (gs_some (gs_some (gs_some (gs_some (gs_none (gs_some (gs_none (gs_some gs_nil)))))))))) ?_
                    have L_72 : ∀ (nn : Nat) (i : Nat) (x y : Int64) (hi : i ≤ m1) (hy : 1 ≤ y.toInt ∧ y.toInt ≤ ((1000 ^ i : Nat) : Int)), m1 - i < nn → gW Γ δ σ 72 [some (.ref (δ.2.2.1 1)), some (.int (nI u1)), some (.int (nI c1)), some (.int (nI m1)), some (.int (gGr (mT σ u1) 0 4)), some (.long x), none, some (.long y), none, some (.int (nI i))] [] := by
                      intro nn
                      induction nn with
                      | zero =>
                        intro i x y hi hy hm_72
                        exact absurd hm_72 (Nat.not_lt_zero _)
                      | succ nn ih_72 =>
                        intro i x y hi hy hm_72
                        refine g_iload C dX9_share_72 rfl ?_
                        refine g_iload_n C dX9_share_74 rfl ?_
                        refine g_icmp_ge C 124 dX9_share_75 (by decide) (fun c_75 => ?_) (fun c_75 => ?_)
                        · have k_75 := gle c_75 (a := m1) (b := i) (by first | rfl | assumption | (simp only [glit, nI_add, pk_mul]; done) | (simp only [glit, nI_add, pk_mul]; congr 1; omega) | (simp only [*, glit, nI_add, pk_mul]; congr 1; omega)) (by first | rfl | assumption | (simp only [glit, nI_add, pk_mul]; done) | (simp only [glit, nI_add, pk_mul]; congr 1; omega) | (simp only [*, glit, nI_add, pk_mul]; congr 1; omega)) (by omega) (by omega)
                          refine g_aload_n C dX9_share_124 rfl ?_
                          refine g_lload C dX9_share_125 rfl ?_
                          refine g_lload C dX9_share_127 rfl ?_
                          refine g_callVi C sV_X9_174 dX9_share_129 (c_X9_tells _ δ _ _ _ (gnz1 (l_le1.mpr hy.1))) ⟨by decide, by decide⟩ (wO_M δ _) rfl rfl rfl rfl (Nat.le_of_ble_eq_true rfl) (fun r_129 s_129 h_129 => ?_)
                          obtain ⟨rfl, h_129⟩ := h_129
                          have z_129 : gSm σ s_129 := gSm_t (by repeat (first | (with_reducible assumption) | (with_reducible exact gSm_r _) | (with_reducible refine gSm_I (by omega) ?_) | (with_reducible refine gSm_L (by omega) ?_) | (with_reducible refine gSm_N (by omega) ?_) | (with_reducible refine gSm_G (by omega) ?_) | (with_reducible refine gSm_P ?_))) h_129
                          exact g_iret C E dX9_share_132 rfl rfl ⟨_, rfl, (by repeat (first | (with_reducible assumption) | (with_reducible exact gSm_r _) | (with_reducible refine gSm_I (by omega) ?_) | (with_reducible refine gSm_L (by omega) ?_) | (with_reducible refine gSm_N (by omega) ?_) | (with_reducible refine gSm_G (by omega) ?_) | (with_reducible refine gSm_P ?_)))⟩
                        · have k_75 := gnle c_75 (a := m1) (b := i) (by first | rfl | assumption | (simp only [glit, nI_add, pk_mul]; done) | (simp only [glit, nI_add, pk_mul]; congr 1; omega) | (simp only [*, glit, nI_add, pk_mul]; congr 1; omega)) (by first | rfl | assumption | (simp only [glit, nI_add, pk_mul]; done) | (simp only [glit, nI_add, pk_mul]; congr 1; omega) | (simp only [*, glit, nI_add, pk_mul]; congr 1; omega)) (by omega) (by omega)
                          refine g_lload C dX9_share_78 rfl ?_
                          refine g_aload_n C dX9_share_80 rfl ?_
                          refine g_get C dX9_share_81 iwX9 rfl (wO_M δ _) 6 (Nat.le_of_ble_eq_true rfl) mW578 rfl rfl ?_
                          refine g_bipush (v := 25) C dX9_share_84 (by decide) ?_
                          refine g_iload_n C dX9_share_86 rfl ?_
                          refine g_imul C dX9_share_87 ?_
                          refine g_iload_n C dX9_share_88 rfl ?_
                          refine g_iadd C dX9_share_89 ?_
                          refine g_ialdN C dX9_share_90 (k := ((25 * u1) + c1)) (q := 53) (by decide) rfl (by first | rfl | assumption | (simp only [glit, nI_add, pk_mul]; done) | (simp only [glit, nI_add, pk_mul]; congr 1; omega) | (simp only [*, glit, nI_add, pk_mul]; congr 1; omega)) (show ((25 * u1) + c1) < gLenI 53 from Nat.lt_of_lt_of_eq (show ((25 * u1) + c1) < 202 by omega) rfl) ?_
                          refine g_iload C dX9_share_91 rfl ?_
                          refine g_iload C dX9_share_93 rfl ?_
                          refine g_imul C dX9_share_95 ?_
                          refine g_iadd C dX9_share_96 ?_
                          refine g_i2l C dX9_share_97 ?_
                          refine g_lmul C dX9_share_98 ?_
                          refine g_lstore C dX9_share_99 (Nat.le_of_ble_eq_true rfl) rfl ?_
                          refine g_lv [some _, some _, some _, some _, some _, some _, none, some _, none, some _] (gs_some (gs_some (gs_some (gs_some (gs_some (gs_some (gs_none (gs_some (gs_none (gs_some gs_nil)))))))))) ?_
                          refine g_lload C dX9_share_101 rfl ?_
                          refine g_aload_n C dX9_share_103 rfl ?_
                          refine g_iload_n C dX9_share_104 rfl ?_
                          refine g_callVi C sV_X9_113 dX9_share_105 (c_X9_balls _ δ _ hu8) ⟨by decide, by decide⟩ (wO_M δ _) rfl rfl rfl rfl (Nat.le_of_ble_eq_true rfl) (fun r_105 s_105 h_105 => ?_)
                          obtain ⟨rfl, rfl⟩ := h_105
                          refine g_iload C dX9_share_108 rfl ?_
                          refine g_iload C dX9_share_110 rfl ?_
                          refine g_imul C dX9_share_112 ?_
                          refine g_iadd C dX9_share_113 ?_
                          refine g_i2l C dX9_share_114 ?_
                          refine g_lmul C dX9_share_115 ?_
                          refine g_lstore C dX9_share_116 (Nat.le_of_ble_eq_true rfl) rfl ?_
                          refine g_lv [some _, some _, some _, some _, some _, some _, none, some _, none, some _] (gs_some (gs_some (gs_some (gs_some (gs_some (gs_some (gs_none (gs_some (gs_none (gs_some gs_nil)))))))))) ?_
                          refine g_iinc (v := nI (i + 1)) C dX9_share_118 rfl (ginc _ 1) rfl ?_
                          refine g_lv [some _, some _, some _, some _, some _, some _, none, some _, none, some _] (gs_some (gs_some (gs_some (gs_some (gs_some (gs_some (gs_none (gs_some (gs_none (gs_some gs_nil)))))))))) ?_
                          refine g_goto C 72 dX9_share_121 (by decide) ?_
                          refine g_lv [some _, some _, some _, some _, some _, some _, none, some _, none, some _] (gs_some (gs_some (gs_some (gs_some (gs_some (gs_some (gs_none (gs_some (gs_none (gs_some gs_nil)))))))))) ?_
                          exact ih_72 (i + 1) _ _ (by omega) (gshr_s (by omega) hy.1 hy.2 b1 b2 c_57 hl b3) (by omega)
                    refine g_lv [some _, some _, some _, some _, some _, some _, none, some _, none, some _] (gs_some (gs_some (gs_some (gs_some (gs_some (gs_some (gs_none (gs_some (gs_none (gs_some gs_nil)))))))))) ?_
                    exact L_72 _ 0 _ _ (by omega) (by decide) (Nat.lt_succ_self _)
                  · refine g_bipush (v := (-2)) C dX9_share_60 (by decide) ?_
                    exact g_iret C E dX9_share_62 rfl rfl ⟨_, rfl, (by repeat (first | (with_reducible assumption) | (with_reducible exact gSm_r _) | (with_reducible refine gSm_I (by omega) ?_) | (with_reducible refine gSm_L (by omega) ?_) | (with_reducible refine gSm_N (by omega) ?_) | (with_reducible refine gSm_G (by omega) ?_) | (with_reducible refine gSm_P ?_)))⟩
            · exact absurd c_26 (by decide)
          · skip
            refine g_if_ne C 31 dX9_share_26 (by decide) (fun c_26 => ?_) (fun c_26 => ?_)
            · exact absurd c_26 (by decide)
            · refine g_iconst (v := (-1)) C dX9_share_29 (by decide) ?_
              exact g_iret C E dX9_share_30 rfl rfl ⟨_, rfl, (by repeat (first | (with_reducible assumption) | (with_reducible exact gSm_r _) | (with_reducible refine gSm_I (by omega) ?_) | (with_reducible refine gSm_L (by omega) ?_) | (with_reducible refine gSm_N (by omega) ?_) | (with_reducible refine gSm_G (by omega) ?_) | (with_reducible refine gSm_P ?_)))⟩
      · skip
        refine g_if_eq C 29 dX9_share_14 (by decide) (fun c_14 => ?_) (fun c_14 => ?_)
        · refine g_iconst (v := (-1)) C dX9_share_29 (by decide) ?_
          exact g_iret C E dX9_share_30 rfl rfl ⟨_, rfl, (by repeat (first | (with_reducible assumption) | (with_reducible exact gSm_r _) | (with_reducible refine gSm_I (by omega) ?_) | (with_reducible refine gSm_L (by omega) ?_) | (with_reducible refine gSm_N (by omega) ?_) | (with_reducible refine gSm_G (by omega) ?_) | (with_reducible refine gSm_P ?_)))⟩
        · exact absurd c_14 (by decide)
  · skip
    refine g_if_eq C 29 dX9_share_5 (by decide) (fun c_5 => ?_) (fun c_5 => ?_)
    · refine g_iconst (v := (-1)) C dX9_share_29 (by decide) ?_
      exact g_iret C E dX9_share_30 rfl rfl ⟨_, rfl, (by repeat (first | (with_reducible assumption) | (with_reducible exact gSm_r _) | (with_reducible refine gSm_I (by omega) ?_) | (with_reducible refine gSm_L (by omega) ?_) | (with_reducible refine gSm_N (by omega) ?_) | (with_reducible refine gSm_G (by omega) ?_) | (with_reducible refine gSm_P ?_)))⟩
    · exact absurd c_5 (by decide)
set_option maxRecDepth 100000 in
set_option maxHeartbeats 4000000 in
theorem c_X9_free (l : Launch) (δ : GD) (σ : GS) (a0 a1 : Int32) {m : Nat} (hm : gN σ 33 = nI m) (h8 : m ≤ 8) (hC : ∀ u, u < m → ∃ n : Nat, 2 ≤ n ∧ n ≤ 4 ∧ gI σ 52 u = nI n) (hV : ∀ u, u < 8 → gB2 (mB σ u) ∧ gNT9 (mT σ u)) : gM l δ yX9_free cX9_free 9 (some .int) 2 66 [.ref (δ.2.2.1 1), .int a0, .int a1] σ (gPi (fun _ σ' => gSm σ σ')) := by
  refine g_of (lv0 := [some (.ref (δ.2.2.1 1)), some (.int a0), some (.int a1), none, none, none, none, none, none]) (by decide) rfl (Nat.le_of_ble_eq_true rfl) (fun Γ hl C E => ?_)
  subst hl
  have C : gC Γ δ cX9_free RX9 9 2 66 := C
  refine g_aload_n C dX9_free_0 rfl ?_
  refine g_iload_n C dX9_free_1 rfl ?_
  refine g_callVi C sV_X9_89 dX9_free_2 (c_X9_isUrn _ δ _ _ hm h8) ⟨by decide, by decide⟩ (wO_M δ _) rfl rfl rfl rfl (Nat.le_of_ble_eq_true rfl) (fun r_2 s_2 h_2 => ?_)
  obtain ⟨rfl, h_2⟩ := h_2
  rcases h_2 with ⟨rfl, h_2⟩ | ⟨rfl, h_2⟩
  · obtain ⟨u1, hu1, rfl⟩ := id h_2
    obtain ⟨n, h2, h4, hn⟩ := hC u1 hu1
    have hu8 : u1 < 8 := by omega
    refine g_if_eq C 20 dX9_free_5 (by decide) (fun c_5 => ?_) (fun c_5 => ?_)
    · exact absurd c_5 (by decide)
    · refine g_iload_n C dX9_free_8 rfl ?_
      refine g_i2l C dX9_free_9 ?_
      refine g_lconst (v := 1) C dX9_free_10 (by decide) ?_
      refine g_ldc2 C dX9_free_11 mW658 ?_
      refine g_callSi C sS_X9_62 dX9_free_14 (c_X9_in _ δ _ _ _ _) ⟨by decide, by decide⟩ rfl rfl rfl (Nat.le_of_ble_eq_true rfl) (fun r_14 s_14 h_14 => ?_)
      obtain ⟨rfl, h_14⟩ := h_14
      rcases h_14 with ⟨rfl, h_14⟩ | ⟨rfl, h_14⟩
      · obtain ⟨k1, hk0, hk1, rfl⟩ := gin13 (m := 5) (by decide) (by decide) (by decide) h_14
        have h45 := gp45 hk1
        refine g_if_ne C 22 dX9_free_17 (by decide) (fun c_17 => ?_) (fun c_17 => ?_)
        · refine g_aload_n C dX9_free_22 rfl ?_
          refine g_iload_n C dX9_free_23 rfl ?_
          refine g_callVi C sV_X9_113 dX9_free_24 (c_X9_balls _ δ _ hu8) ⟨by decide, by decide⟩ (wO_M δ _) rfl rfl rfl rfl (Nat.le_of_ble_eq_true rfl) (fun r_24 s_24 h_24 => ?_)
          obtain ⟨rfl, h_24⟩ := h_24
          refine g_if_ne C 33 dX9_free_27 (by decide) (fun c_27 => ?_) (fun c_27 => ?_)
          · refine g_iconst (v := 0) C dX9_free_33 (by decide) ?_
            refine g_istore_n C dX9_free_34 (Nat.le_of_ble_eq_true rfl) rfl ?_
            refine g_lv [some _, some _, some _, some _, none, none, none, none, none] (gs_some (gs_some (gs_some (gs_some (gs_none (gs_none (gs_none (gs_none (gs_none gs_nil))))))))) ?_
            have L_35 : ∀ (nn : Nat) (q : Nat) (s0 : GS) (hq : q ≤ 216) (hs0 : gSm σ s0), 216 - q < nn → gW Γ δ s0 35 [some (.ref (δ.2.2.1 1)), some (.int (nI u1)), some (.int (nI k1)), some (.int (nI q)), none, none, none, none, none] [] := by
              intro nn
              induction nn with
              | zero =>
                intro q s0 hq hs0 hm_35
                exact absurd hm_35 (Nat.not_lt_zero _)
              | succ nn ih_35 =>
                intro q s0 hq hs0 hm_35
                refine g_iload_n C dX9_free_35 rfl ?_
                refine g_sipush (v := 216) C dX9_free_36 (by decide) ?_
                refine g_icmp_ge C 55 dX9_free_39 (by decide) (fun c_39 => ?_) (fun c_39 => ?_)
                · have k_39 := gle c_39 (a := 216) (b := q) (by first | rfl | assumption | (simp only [glit, nI_add, pk_mul]; done) | (simp only [glit, nI_add, pk_mul]; congr 1; omega) | (simp only [*, glit, nI_add, pk_mul]; congr 1; omega)) (by first | rfl | assumption | (simp only [glit, nI_add, pk_mul]; done) | (simp only [glit, nI_add, pk_mul]; congr 1; omega) | (simp only [*, glit, nI_add, pk_mul]; congr 1; omega)) (by omega) (by omega)
                  refine g_iconst (v := 1) C dX9_free_55 (by decide) ?_
                  refine g_istore_n C dX9_free_56 (Nat.le_of_ble_eq_true rfl) rfl ?_
                  refine g_lv [some _, some _, some _, some _, none, none, none, none, none] (gs_some (gs_some (gs_some (gs_some (gs_none (gs_none (gs_none (gs_none (gs_none gs_nil))))))))) ?_
                  refine g_iconst (v := 0) C dX9_free_57 (by decide) ?_
                  refine g_istore C dX9_free_58 (Nat.le_of_ble_eq_true rfl) rfl ?_
                  refine g_lv [some _, some _, some _, some _, some _, none, none, none, none] (gs_some (gs_some (gs_some (gs_some (gs_some (gs_none (gs_none (gs_none (gs_none gs_nil))))))))) ?_
                  have L_60 : ∀ (nn : Nat) (j : Nat) (x : Int32) (s1 : GS) (hj : j ≤ 4 ^ k1) (hs : gSm σ s1), 4 ^ k1 - j < nn → gW Γ δ s1 60 [some (.ref (δ.2.2.1 1)), some (.int (nI u1)), some (.int (nI k1)), some (.int x), some (.int (nI j)), none, none, none, none] [] := by
                    intro nn
                    induction nn with
                    | zero =>
                      intro j x s1 hj hs hm_60
                      exact absurd hm_60 (Nat.not_lt_zero _)
                    | succ nn ih_60 =>
                      intro j x s1 hj hs hm_60
                      refine g_iload C dX9_free_60 rfl ?_
                      refine g_iconst (v := 1) C dX9_free_62 (by decide) ?_
                      refine g_iconst (v := 2) C dX9_free_63 (by decide) ?_
                      refine g_iload_n C dX9_free_64 rfl ?_
                      refine g_imul C dX9_free_65 ?_
                      refine g_ishl C dX9_free_66 ?_
                      rw [gshl5 (by omega)]
                      refine g_icmp_ge C 257 dX9_free_67 (by decide) (fun c_67 => ?_) (fun c_67 => ?_)
                      · refine g_iload_n C dX9_free_257 rfl ?_
                        refine g_if_eq C 265 dX9_free_258 (by decide) (fun c_258 => ?_) (fun c_258 => ?_)
                        · refine g_iconst (v := 0) C dX9_free_265 (by decide) ?_
                          exact g_iret C E dX9_free_266 rfl rfl ⟨_, rfl, (by repeat (first | (with_reducible assumption) | (with_reducible exact gSm_r _) | (with_reducible refine gSm_I (by omega) ?_) | (with_reducible refine gSm_L (by omega) ?_) | (with_reducible refine gSm_N (by omega) ?_) | (with_reducible refine gSm_G (by omega) ?_) | (with_reducible refine gSm_P ?_)))⟩
                        · refine g_iconst (v := 1) C dX9_free_261 (by decide) ?_
                          refine g_goto C 266 dX9_free_262 (by decide) ?_
                          exact g_iret C E dX9_free_266 rfl rfl ⟨_, rfl, (by repeat (first | (with_reducible assumption) | (with_reducible exact gSm_r _) | (with_reducible refine gSm_I (by omega) ?_) | (with_reducible refine gSm_L (by omega) ?_) | (with_reducible refine gSm_N (by omega) ?_) | (with_reducible refine gSm_G (by omega) ?_) | (with_reducible refine gSm_P ?_)))⟩
                      · have k_67 := gnle c_67 (a := 4 ^ k1) (b := j) rfl rfl (by omega) (by omega)
                        refine g_iconst (v := 1) C dX9_free_70 (by decide) ?_
                        refine g_istore C dX9_free_71 (Nat.le_of_ble_eq_true rfl) rfl ?_
                        refine g_lv [some _, some _, some _, some _, some _, some _, none, none, none] (gs_some (gs_some (gs_some (gs_some (gs_some (gs_some (gs_none (gs_none (gs_none gs_nil))))))))) ?_
                        refine g_iconst (v := 0) C dX9_free_73 (by decide) ?_
                        refine g_istore C dX9_free_74 (Nat.le_of_ble_eq_true rfl) rfl ?_
                        refine g_lv [some _, some _, some _, some _, some _, some _, some _, none, none] (gs_some (gs_some (gs_some (gs_some (gs_some (gs_some (gs_some (gs_none (gs_none gs_nil))))))))) ?_
                        refine g_iconst (v := 0) C dX9_free_76 (by decide) ?_
                        refine g_istore C dX9_free_77 (Nat.le_of_ble_eq_true rfl) rfl ?_
                        refine g_lv [some _, some _, some _, some _, some _, some _, some _, some _, none] (gs_some (gs_some (gs_some (gs_some (gs_some (gs_some (gs_some (gs_some (gs_none gs_nil))))))))) ?_
                        have L_79 : ∀ (nn : Nat) (i p : Nat) (b : Int32) (hi : i ≤ k1) (hp : p ≤ 36 * i), k1 - i < nn → gW Γ δ s1 79 [some (.ref (δ.2.2.1 1)), some (.int (nI u1)), some (.int (nI k1)), some (.int x), some (.int (nI j)), some (.int b), some (.int (nI p)), some (.int (nI i)), none] [] := by
                          intro nn
                          induction nn with
                          | zero =>
                            intro i p b hi hp hm_79
                            exact absurd hm_79 (Nat.not_lt_zero _)
                          | succ nn ih_79 =>
                            intro i p b hi hp hm_79
                            refine g_iload C dX9_free_79 rfl ?_
                            refine g_iload_n C dX9_free_81 rfl ?_
                            refine g_icmp_ge C 162 dX9_free_82 (by decide) (fun c_82 => ?_) (fun c_82 => ?_)
                            · have k_82 := gle c_82 (a := k1) (b := i) (by first | rfl | assumption | (simp only [glit, nI_add, pk_mul]; done) | (simp only [glit, nI_add, pk_mul]; congr 1; omega) | (simp only [*, glit, nI_add, pk_mul]; congr 1; omega)) (by first | rfl | assumption | (simp only [glit, nI_add, pk_mul]; done) | (simp only [glit, nI_add, pk_mul]; congr 1; omega) | (simp only [*, glit, nI_add, pk_mul]; congr 1; omega)) (by omega) (by omega)
                              refine g_iload C dX9_free_162 rfl ?_
                              refine g_if_eq C 251 dX9_free_164 (by decide) (fun c_164 => ?_) (fun c_164 => ?_)
                              · refine g_iinc (v := nI (j + 1)) C dX9_free_251 rfl (ginc _ 1) rfl ?_
                                refine g_lv [some _, some _, some _, some _, some _, some _, some _, some _, none] (gs_some (gs_some (gs_some (gs_some (gs_some (gs_some (gs_some (gs_some (gs_none gs_nil))))))))) ?_
                                refine g_goto C 60 dX9_free_254 (by decide) ?_
                                refine g_lv [some _, some _, some _, some _, some _, none, none, none, none] (gs_some (gs_some (gs_some (gs_some (gs_some (gs_none (gs_none (gs_none (gs_none gs_nil))))))))) ?_
                                exact ih_60 (j + 1) _ _ (by omega) (by repeat (first | (with_reducible assumption) | (with_reducible exact gSm_r _) | (with_reducible refine gSm_I (by omega) ?_) | (with_reducible refine gSm_L (by omega) ?_) | (with_reducible refine gSm_N (by omega) ?_) | (with_reducible refine gSm_G (by omega) ?_) | (with_reducible refine gSm_P ?_))) (by omega)
                              · refine g_aload_n C dX9_free_167 rfl ?_
                                refine g_iload_n C dX9_free_168 rfl ?_
                                refine g_iload_n C dX9_free_169 rfl ?_
                                refine g_iload C dX9_free_170 rfl ?_
                                refine g_callVi C sV_X9_170 dX9_free_172 (c_X9_follows _ δ _ hu8 (by rw [mB_s hs]; exact (hV u1 hu8).1) (k := k1) (w := j) (by omega) (by omega)) ⟨by decide, by decide⟩ (wO_M δ _) rfl rfl rfl rfl (Nat.le_of_ble_eq_true rfl) (fun r_172 s_172 h_172 => ?_)
                                have z_172 : gSm σ s_172 := gSm_t hs h_172.1
                                refine g_istore C dX9_free_175 (Nat.le_of_ble_eq_true rfl) rfl ?_
                                refine g_lv [some _, some _, some _, some _, some _, some _, some _, some _, none] (gs_some (gs_some (gs_some (gs_some (gs_some (gs_some (gs_some (gs_some (gs_none gs_nil))))))))) ?_
                                refine g_aload_n C dX9_free_177 rfl ?_
                                refine g_get C dX9_free_178 iwX9 rfl (wO_M δ _) 25 (Nat.le_of_ble_eq_true rfl) mW597 rfl rfl ?_
                                refine g_iload C dX9_free_181 rfl ?_
                                refine g_laldN C dX9_free_183 (k := p) (q := 16) (by decide) rfl (by first | rfl | assumption | (simp only [glit, nI_add, pk_mul]; done) | (simp only [glit, nI_add, pk_mul]; congr 1; omega) | (simp only [*, glit, nI_add, pk_mul]; congr 1; omega)) (show p < gLenL 16 from Nat.lt_of_lt_of_eq (show p < 216 by omega) rfl) ?_
                                refine g_lconst (v := 0) C dX9_free_184 (by decide) ?_
                                refine g_lcmp C dX9_free_185 ?_
                                refine g_if_ne C 211 dX9_free_186 (by decide) (fun c_186 => ?_) (fun c_186 => ?_)
                                · rw [lg_cmp_eq] at c_186
                                  refine g_iload_n C dX9_free_211 rfl ?_
                                  refine g_if_eq C 249 dX9_free_212 (by decide) (fun c_212 => ?_) (fun c_212 => ?_)
                                  · refine g_iconst (v := 0) C dX9_free_249 (by decide) ?_
                                    refine g_istore_n C dX9_free_250 (Nat.le_of_ble_eq_true rfl) rfl ?_
                                    refine g_lv [some _, some _, some _, some _, some _, some _, some _, some _, none] (gs_some (gs_some (gs_some (gs_some (gs_some (gs_some (gs_some (gs_some (gs_none gs_nil))))))))) ?_
                                    refine g_iinc (v := nI (j + 1)) C dX9_free_251 rfl (ginc _ 1) rfl ?_
                                    refine g_lv [some _, some _, some _, some _, some _, some _, some _, some _, none] (gs_some (gs_some (gs_some (gs_some (gs_some (gs_some (gs_some (gs_some (gs_none gs_nil))))))))) ?_
                                    refine g_goto C 60 dX9_free_254 (by decide) ?_
                                    refine g_lv [some _, some _, some _, some _, some _, none, none, none, none] (gs_some (gs_some (gs_some (gs_some (gs_some (gs_none (gs_none (gs_none (gs_none gs_nil))))))))) ?_
                                    exact ih_60 (j + 1) _ _ (by omega) (by repeat (first | (with_reducible assumption) | (with_reducible exact gSm_r _) | (with_reducible refine gSm_I (by omega) ?_) | (with_reducible refine gSm_L (by omega) ?_) | (with_reducible refine gSm_N (by omega) ?_) | (with_reducible refine gSm_G (by omega) ?_) | (with_reducible refine gSm_P ?_))) (by omega)
                                  · refine g_aload_n C dX9_free_215 rfl ?_
                                    refine g_get C dX9_free_216 iwX9 rfl (wO_M δ _) 24 (Nat.le_of_ble_eq_true rfl) mW596 rfl rfl ?_
                                    refine g_iload C dX9_free_219 rfl ?_
                                    refine g_laldN C dX9_free_221 (k := p) (q := 15) (by decide) rfl (by first | rfl | assumption | (simp only [glit, nI_add, pk_mul]; done) | (simp only [glit, nI_add, pk_mul]; congr 1; omega) | (simp only [*, glit, nI_add, pk_mul]; congr 1; omega)) (show p < gLenL 15 from Nat.lt_of_lt_of_eq (show p < 216 by omega) rfl) ?_
                                    refine g_aload_n C dX9_free_222 rfl ?_
                                    refine g_get C dX9_free_223 iwX9 rfl (wO_M δ _) 17 (Nat.le_of_ble_eq_true rfl) mW589 rfl rfl ?_
                                    refine g_lcmp C dX9_free_226 ?_
                                    refine g_if_ne C 249 dX9_free_227 (by decide) (fun c_227 => ?_) (fun c_227 => ?_)
                                    · rw [lg_cmp_eq] at c_227
                                      refine g_iconst (v := 0) C dX9_free_249 (by decide) ?_
                                      refine g_istore_n C dX9_free_250 (Nat.le_of_ble_eq_true rfl) rfl ?_
                                      refine g_lv [some _, some _, some _, some _, some _, some _, some _, some _, none] (gs_some (gs_some (gs_some (gs_some (gs_some (gs_some (gs_some (gs_some (gs_none gs_nil))))))))) ?_
                                      refine g_iinc (v := nI (j + 1)) C dX9_free_251 rfl (ginc _ 1) rfl ?_
                                      refine g_lv [some _, some _, some _, some _, some _, some _, some _, some _, none] (gs_some (gs_some (gs_some (gs_some (gs_some (gs_some (gs_some (gs_some (gs_none gs_nil))))))))) ?_
                                      refine g_goto C 60 dX9_free_254 (by decide) ?_
                                      refine g_lv [some _, some _, some _, some _, some _, none, none, none, none] (gs_some (gs_some (gs_some (gs_some (gs_some (gs_none (gs_none (gs_none (gs_none gs_nil))))))))) ?_
                                      exact ih_60 (j + 1) _ _ (by omega) (by repeat (first | (with_reducible assumption) | (with_reducible exact gSm_r _) | (with_reducible refine gSm_I (by omega) ?_) | (with_reducible refine gSm_L (by omega) ?_) | (with_reducible refine gSm_N (by omega) ?_) | (with_reducible refine gSm_G (by omega) ?_) | (with_reducible refine gSm_P ?_))) (by omega)
                                    · rw [lg_cmp_eq] at c_227
                                      refine g_aload_n C dX9_free_230 rfl ?_
                                      refine g_get C dX9_free_231 iwX9 rfl (wO_M δ _) 25 (Nat.le_of_ble_eq_true rfl) mW597 rfl rfl ?_
                                      refine g_iload C dX9_free_234 rfl ?_
                                      refine g_laldN C dX9_free_236 (k := p) (q := 16) (by decide) rfl (by first | rfl | assumption | (simp only [glit, nI_add, pk_mul]; done) | (simp only [glit, nI_add, pk_mul]; congr 1; omega) | (simp only [*, glit, nI_add, pk_mul]; congr 1; omega)) (show p < gLenL 16 from Nat.lt_of_lt_of_eq (show p < 216 by omega) rfl) ?_
                                      refine g_aload_n C dX9_free_237 rfl ?_
                                      refine g_get C dX9_free_238 iwX9 rfl (wO_M δ _) 18 (Nat.le_of_ble_eq_true rfl) mW590 rfl rfl ?_
                                      refine g_lcmp C dX9_free_241 ?_
                                      refine g_if_ne C 249 dX9_free_242 (by decide) (fun c_242 => ?_) (fun c_242 => ?_)
                                      · rw [lg_cmp_eq] at c_242
                                        refine g_iconst (v := 0) C dX9_free_249 (by decide) ?_
                                        refine g_istore_n C dX9_free_250 (Nat.le_of_ble_eq_true rfl) rfl ?_
                                        refine g_lv [some _, some _, some _, some _, some _, some _, some _, some _, none] (gs_some (gs_some (gs_some (gs_some (gs_some (gs_some (gs_some (gs_some (gs_none gs_nil))))))))) ?_
                                        refine g_iinc (v := nI (j + 1)) C dX9_free_251 rfl (ginc _ 1) rfl ?_
                                        refine g_lv [some _, some _, some _, some _, some _, some _, some _, some _, none] (gs_some (gs_some (gs_some (gs_some (gs_some (gs_some (gs_some (gs_some (gs_none gs_nil))))))))) ?_
                                        refine g_goto C 60 dX9_free_254 (by decide) ?_
                                        refine g_lv [some _, some _, some _, some _, some _, none, none, none, none] (gs_some (gs_some (gs_some (gs_some (gs_some (gs_none (gs_none (gs_none (gs_none gs_nil))))))))) ?_
                                        exact ih_60 (j + 1) _ _ (by omega) (by repeat (first | (with_reducible assumption) | (with_reducible exact gSm_r _) | (with_reducible refine gSm_I (by omega) ?_) | (with_reducible refine gSm_L (by omega) ?_) | (with_reducible refine gSm_N (by omega) ?_) | (with_reducible refine gSm_G (by omega) ?_) | (with_reducible refine gSm_P ?_))) (by omega)
                                      · rw [lg_cmp_eq] at c_242
                                        refine g_iconst (v := 1) C dX9_free_245 (by decide) ?_
                                        refine g_goto C 250 dX9_free_246 (by decide) ?_
                                        refine g_istore_n C dX9_free_250 (Nat.le_of_ble_eq_true rfl) rfl ?_
                                        refine g_lv [some _, some _, some _, some _, some _, some _, some _, some _, none] (gs_some (gs_some (gs_some (gs_some (gs_some (gs_some (gs_some (gs_some (gs_none gs_nil))))))))) ?_
                                        refine g_iinc (v := nI (j + 1)) C dX9_free_251 rfl (ginc _ 1) rfl ?_
                                        refine g_lv [some _, some _, some _, some _, some _, some _, some _, some _, none] (gs_some (gs_some (gs_some (gs_some (gs_some (gs_some (gs_some (gs_some (gs_none gs_nil))))))))) ?_
                                        refine g_goto C 60 dX9_free_254 (by decide) ?_
                                        refine g_lv [some _, some _, some _, some _, some _, none, none, none, none] (gs_some (gs_some (gs_some (gs_some (gs_some (gs_none (gs_none (gs_none (gs_none gs_nil))))))))) ?_
                                        exact ih_60 (j + 1) _ _ (by omega) (by repeat (first | (with_reducible assumption) | (with_reducible exact gSm_r _) | (with_reducible refine gSm_I (by omega) ?_) | (with_reducible refine gSm_L (by omega) ?_) | (with_reducible refine gSm_N (by omega) ?_) | (with_reducible refine gSm_G (by omega) ?_) | (with_reducible refine gSm_P ?_))) (by omega)
                                · rw [lg_cmp_eq] at c_186
                                  refine g_aload_n C dX9_free_189 rfl ?_
                                  refine g_get C dX9_free_190 iwX9 rfl (wO_M δ _) 24 (Nat.le_of_ble_eq_true rfl) mW596 rfl rfl ?_
                                  refine g_iload C dX9_free_193 rfl ?_
                                  refine g_aload_n C dX9_free_195 rfl ?_
                                  refine g_get C dX9_free_196 iwX9 rfl (wO_M δ _) 17 (Nat.le_of_ble_eq_true rfl) mW589 rfl rfl ?_
                                  refine g_lastN C dX9_free_199 (k := p) (q := 15) (by decide) rfl (by first | rfl | assumption | (simp only [glit, nI_add, pk_mul]; done) | (simp only [glit, nI_add, pk_mul]; congr 1; omega) | (simp only [*, glit, nI_add, pk_mul]; congr 1; omega)) (show p < gLenL 15 from Nat.lt_of_lt_of_eq (show p < 216 by omega) rfl) ?_
                                  refine g_aload_n C dX9_free_200 rfl ?_
                                  refine g_get C dX9_free_201 iwX9 rfl (wO_M δ _) 25 (Nat.le_of_ble_eq_true rfl) mW597 rfl rfl ?_
                                  refine g_iload C dX9_free_204 rfl ?_
                                  refine g_aload_n C dX9_free_206 rfl ?_
                                  refine g_get C dX9_free_207 iwX9 rfl (wO_M δ _) 18 (Nat.le_of_ble_eq_true rfl) mW590 rfl rfl ?_
                                  refine g_lastN C dX9_free_210 (k := p) (q := 16) (by decide) rfl (by first | rfl | assumption | (simp only [glit, nI_add, pk_mul]; done) | (simp only [glit, nI_add, pk_mul]; congr 1; omega) | (simp only [*, glit, nI_add, pk_mul]; congr 1; omega)) (show p < gLenL 16 from Nat.lt_of_lt_of_eq (show p < 216 by omega) rfl) ?_
                                  refine g_iload_n C dX9_free_211 rfl ?_
                                  refine g_if_eq C 249 dX9_free_212 (by decide) (fun c_212 => ?_) (fun c_212 => ?_)
                                  · refine g_iconst (v := 0) C dX9_free_249 (by decide) ?_
                                    refine g_istore_n C dX9_free_250 (Nat.le_of_ble_eq_true rfl) rfl ?_
                                    refine g_lv [some _, some _, some _, some _, some _, some _, some _, some _, none] (gs_some (gs_some (gs_some (gs_some (gs_some (gs_some (gs_some (gs_some (gs_none gs_nil))))))))) ?_
                                    refine g_iinc (v := nI (j + 1)) C dX9_free_251 rfl (ginc _ 1) rfl ?_
                                    refine g_lv [some _, some _, some _, some _, some _, some _, some _, some _, none] (gs_some (gs_some (gs_some (gs_some (gs_some (gs_some (gs_some (gs_some (gs_none gs_nil))))))))) ?_
                                    refine g_goto C 60 dX9_free_254 (by decide) ?_
                                    refine g_lv [some _, some _, some _, some _, some _, none, none, none, none] (gs_some (gs_some (gs_some (gs_some (gs_some (gs_none (gs_none (gs_none (gs_none gs_nil))))))))) ?_
                                    exact ih_60 (j + 1) _ _ (by omega) (by repeat (first | (with_reducible assumption) | (with_reducible exact gSm_r _) | (with_reducible refine gSm_I (by omega) ?_) | (with_reducible refine gSm_L (by omega) ?_) | (with_reducible refine gSm_N (by omega) ?_) | (with_reducible refine gSm_G (by omega) ?_) | (with_reducible refine gSm_P ?_))) (by omega)
                                  · refine g_aload_n C dX9_free_215 rfl ?_
                                    refine g_get C dX9_free_216 iwX9 rfl (wO_M δ _) 24 (Nat.le_of_ble_eq_true rfl) mW596 rfl rfl ?_
                                    refine g_iload C dX9_free_219 rfl ?_
                                    refine g_laldN C dX9_free_221 (k := p) (q := 15) (by decide) rfl (by first | rfl | assumption | (simp only [glit, nI_add, pk_mul]; done) | (simp only [glit, nI_add, pk_mul]; congr 1; omega) | (simp only [*, glit, nI_add, pk_mul]; congr 1; omega)) (show p < gLenL 15 from Nat.lt_of_lt_of_eq (show p < 216 by omega) rfl) ?_
                                    refine g_aload_n C dX9_free_222 rfl ?_
                                    refine g_get C dX9_free_223 iwX9 rfl (wO_M δ _) 17 (Nat.le_of_ble_eq_true rfl) mW589 rfl rfl ?_
                                    refine g_lcmp C dX9_free_226 ?_
                                    refine g_if_ne C 249 dX9_free_227 (by decide) (fun c_227 => ?_) (fun c_227 => ?_)
                                    · rw [lg_cmp_eq] at c_227
                                      refine g_iconst (v := 0) C dX9_free_249 (by decide) ?_
                                      refine g_istore_n C dX9_free_250 (Nat.le_of_ble_eq_true rfl) rfl ?_
                                      refine g_lv [some _, some _, some _, some _, some _, some _, some _, some _, none] (gs_some (gs_some (gs_some (gs_some (gs_some (gs_some (gs_some (gs_some (gs_none gs_nil))))))))) ?_
                                      refine g_iinc (v := nI (j + 1)) C dX9_free_251 rfl (ginc _ 1) rfl ?_
                                      refine g_lv [some _, some _, some _, some _, some _, some _, some _, some _, none] (gs_some (gs_some (gs_some (gs_some (gs_some (gs_some (gs_some (gs_some (gs_none gs_nil))))))))) ?_
                                      refine g_goto C 60 dX9_free_254 (by decide) ?_
                                      refine g_lv [some _, some _, some _, some _, some _, none, none, none, none] (gs_some (gs_some (gs_some (gs_some (gs_some (gs_none (gs_none (gs_none (gs_none gs_nil))))))))) ?_
                                      exact ih_60 (j + 1) _ _ (by omega) (by repeat (first | (with_reducible assumption) | (with_reducible exact gSm_r _) | (with_reducible refine gSm_I (by omega) ?_) | (with_reducible refine gSm_L (by omega) ?_) | (with_reducible refine gSm_N (by omega) ?_) | (with_reducible refine gSm_G (by omega) ?_) | (with_reducible refine gSm_P ?_))) (by omega)
                                    · rw [lg_cmp_eq] at c_227
                                      refine g_aload_n C dX9_free_230 rfl ?_
                                      refine g_get C dX9_free_231 iwX9 rfl (wO_M δ _) 25 (Nat.le_of_ble_eq_true rfl) mW597 rfl rfl ?_
                                      refine g_iload C dX9_free_234 rfl ?_
                                      refine g_laldN C dX9_free_236 (k := p) (q := 16) (by decide) rfl (by first | rfl | assumption | (simp only [glit, nI_add, pk_mul]; done) | (simp only [glit, nI_add, pk_mul]; congr 1; omega) | (simp only [*, glit, nI_add, pk_mul]; congr 1; omega)) (show p < gLenL 16 from Nat.lt_of_lt_of_eq (show p < 216 by omega) rfl) ?_
                                      refine g_aload_n C dX9_free_237 rfl ?_
                                      refine g_get C dX9_free_238 iwX9 rfl (wO_M δ _) 18 (Nat.le_of_ble_eq_true rfl) mW590 rfl rfl ?_
                                      refine g_lcmp C dX9_free_241 ?_
                                      refine g_if_ne C 249 dX9_free_242 (by decide) (fun c_242 => ?_) (fun c_242 => ?_)
                                      · rw [lg_cmp_eq] at c_242
                                        refine g_iconst (v := 0) C dX9_free_249 (by decide) ?_
                                        refine g_istore_n C dX9_free_250 (Nat.le_of_ble_eq_true rfl) rfl ?_
                                        refine g_lv [some _, some _, some _, some _, some _, some _, some _, some _, none] (gs_some (gs_some (gs_some (gs_some (gs_some (gs_some (gs_some (gs_some (gs_none gs_nil))))))))) ?_
                                        refine g_iinc (v := nI (j + 1)) C dX9_free_251 rfl (ginc _ 1) rfl ?_
                                        refine g_lv [some _, some _, some _, some _, some _, some _, some _, some _, none] (gs_some (gs_some (gs_some (gs_some (gs_some (gs_some (gs_some (gs_some (gs_none gs_nil))))))))) ?_
                                        refine g_goto C 60 dX9_free_254 (by decide) ?_
                                        refine g_lv [some _, some _, some _, some _, some _, none, none, none, none] (gs_some (gs_some (gs_some (gs_some (gs_some (gs_none (gs_none (gs_none (gs_none gs_nil))))))))) ?_
                                        exact ih_60 (j + 1) _ _ (by omega) (by repeat (first | (with_reducible assumption) | (with_reducible exact gSm_r _) | (with_reducible refine gSm_I (by omega) ?_) | (with_reducible refine gSm_L (by omega) ?_) | (with_reducible refine gSm_N (by omega) ?_) | (with_reducible refine gSm_G (by omega) ?_) | (with_reducible refine gSm_P ?_))) (by omega)
                                      · rw [lg_cmp_eq] at c_242
                                        refine g_iconst (v := 1) C dX9_free_245 (by decide) ?_
                                        refine g_goto C 250 dX9_free_246 (by decide) ?_
                                        refine g_istore_n C dX9_free_250 (Nat.le_of_ble_eq_true rfl) rfl ?_
                                        refine g_lv [some _, some _, some _, some _, some _, some _, some _, some _, none] (gs_some (gs_some (gs_some (gs_some (gs_some (gs_some (gs_some (gs_some (gs_none gs_nil))))))))) ?_
                                        refine g_iinc (v := nI (j + 1)) C dX9_free_251 rfl (ginc _ 1) rfl ?_
                                        refine g_lv [some _, some _, some _, some _, some _, some _, some _, some _, none] (gs_some (gs_some (gs_some (gs_some (gs_some (gs_some (gs_some (gs_some (gs_none gs_nil))))))))) ?_
                                        refine g_goto C 60 dX9_free_254 (by decide) ?_
                                        refine g_lv [some _, some _, some _, some _, some _, none, none, none, none] (gs_some (gs_some (gs_some (gs_some (gs_some (gs_none (gs_none (gs_none (gs_none gs_nil))))))))) ?_
                                        exact ih_60 (j + 1) _ _ (by omega) (by repeat (first | (with_reducible assumption) | (with_reducible exact gSm_r _) | (with_reducible refine gSm_I (by omega) ?_) | (with_reducible refine gSm_L (by omega) ?_) | (with_reducible refine gSm_N (by omega) ?_) | (with_reducible refine gSm_G (by omega) ?_) | (with_reducible refine gSm_P ?_))) (by omega)
                            · have k_82 := gnle c_82 (a := k1) (b := i) (by first | rfl | assumption | (simp only [glit, nI_add, pk_mul]; done) | (simp only [glit, nI_add, pk_mul]; congr 1; omega) | (simp only [*, glit, nI_add, pk_mul]; congr 1; omega)) (by first | rfl | assumption | (simp only [glit, nI_add, pk_mul]; done) | (simp only [glit, nI_add, pk_mul]; congr 1; omega) | (simp only [*, glit, nI_add, pk_mul]; congr 1; omega)) (by omega) (by omega)
                              refine g_iload C dX9_free_85 rfl ?_
                              refine g_iconst (v := 2) C dX9_free_87 (by decide) ?_
                              refine g_iload C dX9_free_88 rfl ?_
                              refine g_imul C dX9_free_90 ?_
                              refine g_ishr C dX9_free_91 ?_
                              rw [gshrk (by omega) (by omega)]
                              refine g_iconst (v := 3) C dX9_free_92 (by decide) ?_
                              refine g_iand C dX9_free_93 ?_
                              rw [gand3 (by have := Nat.div_le_self j (4 ^ i); omega)]
                              refine g_istore C dX9_free_94 (Nat.le_of_ble_eq_true rfl) rfl ?_
                              refine g_lv [some _, some _, some _, some _, some _, some _, some _, some _, some _] (gs_some (gs_some (gs_some (gs_some (gs_some (gs_some (gs_some (gs_some (gs_some gs_nil))))))))) ?_
                              refine g_iload C dX9_free_96 rfl ?_
                              refine g_if_eq C 116 dX9_free_98 (by decide) (fun c_98 => ?_) (fun c_98 => ?_)
                              · refine g_iconst (v := 0) C dX9_free_116 (by decide) ?_
                                refine g_istore C dX9_free_117 (Nat.le_of_ble_eq_true rfl) rfl ?_
                                refine g_lv [some _, some _, some _, some _, some _, some _, some _, some _, some _] (gs_some (gs_some (gs_some (gs_some (gs_some (gs_some (gs_some (gs_some (gs_some gs_nil))))))))) ?_
                                refine g_iload C dX9_free_119 rfl ?_
                                refine g_iload C dX9_free_121 rfl ?_
                                refine g_if_ne C 130 dX9_free_123 (by decide) (fun c_123 => ?_) (fun c_123 => ?_)
                                · refine g_iload C dX9_free_130 rfl ?_
                                  refine g_iconst (v := 1) C dX9_free_132 (by decide) ?_
                                  refine g_icmp_ne C 141 dX9_free_133 (by decide) (fun c_133 => ?_) (fun c_133 => ?_)
                                  · refine g_iload C dX9_free_141 rfl ?_
                                    refine g_iconst (v := 2) C dX9_free_143 (by decide) ?_
                                    refine g_icmp_ne C 152 dX9_free_144 (by decide) (fun c_144 => ?_) (fun c_144 => ?_)
                                    · refine g_iconst (v := 0) C dX9_free_152 (by decide) ?_
                                      refine g_iadd C dX9_free_153 ?_
                                      first | rw [show nI p + 1 = nI (p + 1) from nI_add p 1] | rw [show nI p + 6 = nI (p + 6) from nI_add p 6] | rw [show nI p + 36 = nI (p + 36) from nI_add p 36] | rw [show nI p + 0 = nI (p + 0) from nI_add p 0]
                                      refine g_istore C dX9_free_154 (Nat.le_of_ble_eq_true rfl) rfl ?_
                                      refine g_lv [some _, some _, some _, some _, some _, some _, some _, some _, some _] (gs_some (gs_some (gs_some (gs_some (gs_some (gs_some (gs_some (gs_some (gs_some gs_nil))))))))) ?_
                                      refine g_iinc (v := nI (i + 1)) C dX9_free_156 rfl (ginc _ 1) rfl ?_
                                      refine g_lv [some _, some _, some _, some _, some _, some _, some _, some _, some _] (gs_some (gs_some (gs_some (gs_some (gs_some (gs_some (gs_some (gs_some (gs_some gs_nil))))))))) ?_
                                      refine g_goto C 79 dX9_free_159 (by decide) ?_
                                      refine g_lv [some _, some _, some _, some _, some _, some _, some _, some _, none] (gs_some (gs_some (gs_some (gs_some (gs_some (gs_some (gs_some (gs_some (gs_none gs_nil))))))))) ?_
                                      exact ih_79 (i + 1) _ _ (by omega) (by omega) (by omega)
                                    · refine g_bipush (v := 36) C dX9_free_147 (by decide) ?_
                                      refine g_goto C 153 dX9_free_149 (by decide) ?_
                                      refine g_iadd C dX9_free_153 ?_
                                      first | rw [show nI p + 1 = nI (p + 1) from nI_add p 1] | rw [show nI p + 6 = nI (p + 6) from nI_add p 6] | rw [show nI p + 36 = nI (p + 36) from nI_add p 36] | rw [show nI p + 0 = nI (p + 0) from nI_add p 0]
                                      refine g_istore C dX9_free_154 (Nat.le_of_ble_eq_true rfl) rfl ?_
                                      refine g_lv [some _, some _, some _, some _, some _, some _, some _, some _, some _] (gs_some (gs_some (gs_some (gs_some (gs_some (gs_some (gs_some (gs_some (gs_some gs_nil))))))))) ?_
                                      refine g_iinc (v := nI (i + 1)) C dX9_free_156 rfl (ginc _ 1) rfl ?_
                                      refine g_lv [some _, some _, some _, some _, some _, some _, some _, some _, some _] (gs_some (gs_some (gs_some (gs_some (gs_some (gs_some (gs_some (gs_some (gs_some gs_nil))))))))) ?_
                                      refine g_goto C 79 dX9_free_159 (by decide) ?_
                                      refine g_lv [some _, some _, some _, some _, some _, some _, some _, some _, none] (gs_some (gs_some (gs_some (gs_some (gs_some (gs_some (gs_some (gs_some (gs_none gs_nil))))))))) ?_
                                      exact ih_79 (i + 1) _ _ (by omega) (by omega) (by omega)
                                  · refine g_bipush (v := 6) C dX9_free_136 (by decide) ?_
                                    refine g_goto C 153 dX9_free_138 (by decide) ?_
                                    refine g_iadd C dX9_free_153 ?_
                                    first | rw [show nI p + 1 = nI (p + 1) from nI_add p 1] | rw [show nI p + 6 = nI (p + 6) from nI_add p 6] | rw [show nI p + 36 = nI (p + 36) from nI_add p 36] | rw [show nI p + 0 = nI (p + 0) from nI_add p 0]
                                    refine g_istore C dX9_free_154 (Nat.le_of_ble_eq_true rfl) rfl ?_
                                    refine g_lv [some _, some _, some _, some _, some _, some _, some _, some _, some _] (gs_some (gs_some (gs_some (gs_some (gs_some (gs_some (gs_some (gs_some (gs_some gs_nil))))))))) ?_
                                    refine g_iinc (v := nI (i + 1)) C dX9_free_156 rfl (ginc _ 1) rfl ?_
                                    refine g_lv [some _, some _, some _, some _, some _, some _, some _, some _, some _] (gs_some (gs_some (gs_some (gs_some (gs_some (gs_some (gs_some (gs_some (gs_some gs_nil))))))))) ?_
                                    refine g_goto C 79 dX9_free_159 (by decide) ?_
                                    refine g_lv [some _, some _, some _, some _, some _, some _, some _, some _, none] (gs_some (gs_some (gs_some (gs_some (gs_some (gs_some (gs_some (gs_some (gs_none gs_nil))))))))) ?_
                                    exact ih_79 (i + 1) _ _ (by omega) (by omega) (by omega)
                                · refine g_iconst (v := 1) C dX9_free_126 (by decide) ?_
                                  refine g_goto C 153 dX9_free_127 (by decide) ?_
                                  refine g_iadd C dX9_free_153 ?_
                                  first | rw [show nI p + 1 = nI (p + 1) from nI_add p 1] | rw [show nI p + 6 = nI (p + 6) from nI_add p 6] | rw [show nI p + 36 = nI (p + 36) from nI_add p 36] | rw [show nI p + 0 = nI (p + 0) from nI_add p 0]
                                  refine g_istore C dX9_free_154 (Nat.le_of_ble_eq_true rfl) rfl ?_
                                  refine g_lv [some _, some _, some _, some _, some _, some _, some _, some _, some _] (gs_some (gs_some (gs_some (gs_some (gs_some (gs_some (gs_some (gs_some (gs_some gs_nil))))))))) ?_
                                  refine g_iinc (v := nI (i + 1)) C dX9_free_156 rfl (ginc _ 1) rfl ?_
                                  refine g_lv [some _, some _, some _, some _, some _, some _, some _, some _, some _] (gs_some (gs_some (gs_some (gs_some (gs_some (gs_some (gs_some (gs_some (gs_some gs_nil))))))))) ?_
                                  refine g_goto C 79 dX9_free_159 (by decide) ?_
                                  refine g_lv [some _, some _, some _, some _, some _, some _, some _, some _, none] (gs_some (gs_some (gs_some (gs_some (gs_some (gs_some (gs_some (gs_some (gs_none gs_nil))))))))) ?_
                                  exact ih_79 (i + 1) _ _ (by omega) (by omega) (by omega)
                              · refine g_iload C dX9_free_101 rfl ?_
                                refine g_aload_n C dX9_free_103 rfl ?_
                                refine g_get C dX9_free_104 iwX9 rfl (wO_M δ _) 5 (Nat.le_of_ble_eq_true rfl) mW577 rfl rfl ?_
                                refine g_iload_n C dX9_free_107 rfl ?_
                                refine g_ialdN C dX9_free_108 (k := u1) (q := 52) (by decide) rfl (by first | rfl | assumption | (simp only [glit, nI_add, pk_mul]; done) | (simp only [glit, nI_add, pk_mul]; congr 1; omega) | (simp only [*, glit, nI_add, pk_mul]; congr 1; omega)) (show u1 < gLenI 52 from Nat.lt_of_lt_of_eq (show u1 < 8 by omega) rfl) ?_
                                refine g_icmp_ge C 116 dX9_free_109 (by decide) (fun c_109 => ?_) (fun c_109 => ?_)
                                · refine g_iconst (v := 0) C dX9_free_116 (by decide) ?_
                                  refine g_istore C dX9_free_117 (Nat.le_of_ble_eq_true rfl) rfl ?_
                                  refine g_lv [some _, some _, some _, some _, some _, some _, some _, some _, some _] (gs_some (gs_some (gs_some (gs_some (gs_some (gs_some (gs_some (gs_some (gs_some gs_nil))))))))) ?_
                                  refine g_iload C dX9_free_119 rfl ?_
                                  refine g_iload C dX9_free_121 rfl ?_
                                  refine g_if_ne C 130 dX9_free_123 (by decide) (fun c_123 => ?_) (fun c_123 => ?_)
                                  · refine g_iload C dX9_free_130 rfl ?_
                                    refine g_iconst (v := 1) C dX9_free_132 (by decide) ?_
                                    refine g_icmp_ne C 141 dX9_free_133 (by decide) (fun c_133 => ?_) (fun c_133 => ?_)
                                    · refine g_iload C dX9_free_141 rfl ?_
                                      refine g_iconst (v := 2) C dX9_free_143 (by decide) ?_
                                      refine g_icmp_ne C 152 dX9_free_144 (by decide) (fun c_144 => ?_) (fun c_144 => ?_)
                                      · refine g_iconst (v := 0) C dX9_free_152 (by decide) ?_
                                        refine g_iadd C dX9_free_153 ?_
                                        first | rw [show nI p + 1 = nI (p + 1) from nI_add p 1] | rw [show nI p + 6 = nI (p + 6) from nI_add p 6] | rw [show nI p + 36 = nI (p + 36) from nI_add p 36] | rw [show nI p + 0 = nI (p + 0) from nI_add p 0]
                                        refine g_istore C dX9_free_154 (Nat.le_of_ble_eq_true rfl) rfl ?_
                                        refine g_lv [some _, some _, some _, some _, some _, some _, some _, some _, some _] (gs_some (gs_some (gs_some (gs_some (gs_some (gs_some (gs_some (gs_some (gs_some gs_nil))))))))) ?_
                                        refine g_iinc (v := nI (i + 1)) C dX9_free_156 rfl (ginc _ 1) rfl ?_
                                        refine g_lv [some _, some _, some _, some _, some _, some _, some _, some _, some _] (gs_some (gs_some (gs_some (gs_some (gs_some (gs_some (gs_some (gs_some (gs_some gs_nil))))))))) ?_
                                        refine g_goto C 79 dX9_free_159 (by decide) ?_
                                        refine g_lv [some _, some _, some _, some _, some _, some _, some _, some _, none] (gs_some (gs_some (gs_some (gs_some (gs_some (gs_some (gs_some (gs_some (gs_none gs_nil))))))))) ?_
                                        exact ih_79 (i + 1) _ _ (by omega) (by omega) (by omega)
                                      · refine g_bipush (v := 36) C dX9_free_147 (by decide) ?_
                                        refine g_goto C 153 dX9_free_149 (by decide) ?_
                                        refine g_iadd C dX9_free_153 ?_
                                        first | rw [show nI p + 1 = nI (p + 1) from nI_add p 1] | rw [show nI p + 6 = nI (p + 6) from nI_add p 6] | rw [show nI p + 36 = nI (p + 36) from nI_add p 36] | rw [show nI p + 0 = nI (p + 0) from nI_add p 0]
                                        refine g_istore C dX9_free_154 (Nat.le_of_ble_eq_true rfl) rfl ?_
                                        refine g_lv [some _, some _, some _, some _, some _, some _, some _, some _, some _] (gs_some (gs_some (gs_some (gs_some (gs_some (gs_some (gs_some (gs_some (gs_some gs_nil))))))))) ?_
                                        refine g_iinc (v := nI (i + 1)) C dX9_free_156 rfl (ginc _ 1) rfl ?_
                                        refine g_lv [some _, some _, some _, some _, some _, some _, some _, some _, some _] (gs_some (gs_some (gs_some (gs_some (gs_some (gs_some (gs_some (gs_some (gs_some gs_nil))))))))) ?_
                                        refine g_goto C 79 dX9_free_159 (by decide) ?_
                                        refine g_lv [some _, some _, some _, some _, some _, some _, some _, some _, none] (gs_some (gs_some (gs_some (gs_some (gs_some (gs_some (gs_some (gs_some (gs_none gs_nil))))))))) ?_
                                        exact ih_79 (i + 1) _ _ (by omega) (by omega) (by omega)
                                    · refine g_bipush (v := 6) C dX9_free_136 (by decide) ?_
                                      refine g_goto C 153 dX9_free_138 (by decide) ?_
                                      refine g_iadd C dX9_free_153 ?_
                                      first | rw [show nI p + 1 = nI (p + 1) from nI_add p 1] | rw [show nI p + 6 = nI (p + 6) from nI_add p 6] | rw [show nI p + 36 = nI (p + 36) from nI_add p 36] | rw [show nI p + 0 = nI (p + 0) from nI_add p 0]
                                      refine g_istore C dX9_free_154 (Nat.le_of_ble_eq_true rfl) rfl ?_
                                      refine g_lv [some _, some _, some _, some _, some _, some _, some _, some _, some _] (gs_some (gs_some (gs_some (gs_some (gs_some (gs_some (gs_some (gs_some (gs_some gs_nil))))))))) ?_
                                      refine g_iinc (v := nI (i + 1)) C dX9_free_156 rfl (ginc _ 1) rfl ?_
                                      refine g_lv [some _, some _, some _, some _, some _, some _, some _, some _, some _] (gs_some (gs_some (gs_some (gs_some (gs_some (gs_some (gs_some (gs_some (gs_some gs_nil))))))))) ?_
                                      refine g_goto C 79 dX9_free_159 (by decide) ?_
                                      refine g_lv [some _, some _, some _, some _, some _, some _, some _, some _, none] (gs_some (gs_some (gs_some (gs_some (gs_some (gs_some (gs_some (gs_some (gs_none gs_nil))))))))) ?_
                                      exact ih_79 (i + 1) _ _ (by omega) (by omega) (by omega)
                                  · refine g_iconst (v := 1) C dX9_free_126 (by decide) ?_
                                    refine g_goto C 153 dX9_free_127 (by decide) ?_
                                    refine g_iadd C dX9_free_153 ?_
                                    first | rw [show nI p + 1 = nI (p + 1) from nI_add p 1] | rw [show nI p + 6 = nI (p + 6) from nI_add p 6] | rw [show nI p + 36 = nI (p + 36) from nI_add p 36] | rw [show nI p + 0 = nI (p + 0) from nI_add p 0]
                                    refine g_istore C dX9_free_154 (Nat.le_of_ble_eq_true rfl) rfl ?_
                                    refine g_lv [some _, some _, some _, some _, some _, some _, some _, some _, some _] (gs_some (gs_some (gs_some (gs_some (gs_some (gs_some (gs_some (gs_some (gs_some gs_nil))))))))) ?_
                                    refine g_iinc (v := nI (i + 1)) C dX9_free_156 rfl (ginc _ 1) rfl ?_
                                    refine g_lv [some _, some _, some _, some _, some _, some _, some _, some _, some _] (gs_some (gs_some (gs_some (gs_some (gs_some (gs_some (gs_some (gs_some (gs_some gs_nil))))))))) ?_
                                    refine g_goto C 79 dX9_free_159 (by decide) ?_
                                    refine g_lv [some _, some _, some _, some _, some _, some _, some _, some _, none] (gs_some (gs_some (gs_some (gs_some (gs_some (gs_some (gs_some (gs_some (gs_none gs_nil))))))))) ?_
                                    exact ih_79 (i + 1) _ _ (by omega) (by omega) (by omega)
                                · refine g_iconst (v := 1) C dX9_free_112 (by decide) ?_
                                  refine g_goto C 117 dX9_free_113 (by decide) ?_
                                  refine g_istore C dX9_free_117 (Nat.le_of_ble_eq_true rfl) rfl ?_
                                  refine g_lv [some _, some _, some _, some _, some _, some _, some _, some _, some _] (gs_some (gs_some (gs_some (gs_some (gs_some (gs_some (gs_some (gs_some (gs_some gs_nil))))))))) ?_
                                  refine g_iload C dX9_free_119 rfl ?_
                                  refine g_iload C dX9_free_121 rfl ?_
                                  refine g_if_ne C 130 dX9_free_123 (by decide) (fun c_123 => ?_) (fun c_123 => ?_)
                                  · refine g_iload C dX9_free_130 rfl ?_
                                    refine g_iconst (v := 1) C dX9_free_132 (by decide) ?_
                                    refine g_icmp_ne C 141 dX9_free_133 (by decide) (fun c_133 => ?_) (fun c_133 => ?_)
                                    · refine g_iload C dX9_free_141 rfl ?_
                                      refine g_iconst (v := 2) C dX9_free_143 (by decide) ?_
                                      refine g_icmp_ne C 152 dX9_free_144 (by decide) (fun c_144 => ?_) (fun c_144 => ?_)
                                      · refine g_iconst (v := 0) C dX9_free_152 (by decide) ?_
                                        refine g_iadd C dX9_free_153 ?_
                                        first | rw [show nI p + 1 = nI (p + 1) from nI_add p 1] | rw [show nI p + 6 = nI (p + 6) from nI_add p 6] | rw [show nI p + 36 = nI (p + 36) from nI_add p 36] | rw [show nI p + 0 = nI (p + 0) from nI_add p 0]
                                        refine g_istore C dX9_free_154 (Nat.le_of_ble_eq_true rfl) rfl ?_
                                        refine g_lv [some _, some _, some _, some _, some _, some _, some _, some _, some _] (gs_some (gs_some (gs_some (gs_some (gs_some (gs_some (gs_some (gs_some (gs_some gs_nil))))))))) ?_
                                        refine g_iinc (v := nI (i + 1)) C dX9_free_156 rfl (ginc _ 1) rfl ?_
                                        refine g_lv [some _, some _, some _, some _, some _, some _, some _, some _, some _] (gs_some (gs_some (gs_some (gs_some (gs_some (gs_some (gs_some (gs_some (gs_some gs_nil))))))))) ?_
                                        refine g_goto C 79 dX9_free_159 (by decide) ?_
                                        refine g_lv [some _, some _, some _, some _, some _, some _, some _, some _, none] (gs_some (gs_some (gs_some (gs_some (gs_some (gs_some (gs_some (gs_some (gs_none gs_nil))))))))) ?_
                                        exact ih_79 (i + 1) _ _ (by omega) (by omega) (by omega)
                                      · refine g_bipush (v := 36) C dX9_free_147 (by decide) ?_
                                        refine g_goto C 153 dX9_free_149 (by decide) ?_
                                        refine g_iadd C dX9_free_153 ?_
                                        first | rw [show nI p + 1 = nI (p + 1) from nI_add p 1] | rw [show nI p + 6 = nI (p + 6) from nI_add p 6] | rw [show nI p + 36 = nI (p + 36) from nI_add p 36] | rw [show nI p + 0 = nI (p + 0) from nI_add p 0]
                                        refine g_istore C dX9_free_154 (Nat.le_of_ble_eq_true rfl) rfl ?_
                                        refine g_lv [some _, some _, some _, some _, some _, some _, some _, some _, some _] (gs_some (gs_some (gs_some (gs_some (gs_some (gs_some (gs_some (gs_some (gs_some gs_nil))))))))) ?_
                                        refine g_iinc (v := nI (i + 1)) C dX9_free_156 rfl (ginc _ 1) rfl ?_
                                        refine g_lv [some _, some _, some _, some _, some _, some _, some _, some _, some _] (gs_some (gs_some (gs_some (gs_some (gs_some (gs_some (gs_some (gs_some (gs_some gs_nil))))))))) ?_
                                        refine g_goto C 79 dX9_free_159 (by decide) ?_
                                        refine g_lv [some _, some _, some _, some _, some _, some _, some _, some _, none] (gs_some (gs_some (gs_some (gs_some (gs_some (gs_some (gs_some (gs_some (gs_none gs_nil))))))))) ?_
                                        exact ih_79 (i + 1) _ _ (by omega) (by omega) (by omega)
                                    · refine g_bipush (v := 6) C dX9_free_136 (by decide) ?_
                                      refine g_goto C 153 dX9_free_138 (by decide) ?_
                                      refine g_iadd C dX9_free_153 ?_
                                      first | rw [show nI p + 1 = nI (p + 1) from nI_add p 1] | rw [show nI p + 6 = nI (p + 6) from nI_add p 6] | rw [show nI p + 36 = nI (p + 36) from nI_add p 36] | rw [show nI p + 0 = nI (p + 0) from nI_add p 0]
                                      refine g_istore C dX9_free_154 (Nat.le_of_ble_eq_true rfl) rfl ?_
                                      refine g_lv [some _, some _, some _, some _, some _, some _, some _, some _, some _] (gs_some (gs_some (gs_some (gs_some (gs_some (gs_some (gs_some (gs_some (gs_some gs_nil))))))))) ?_
                                      refine g_iinc (v := nI (i + 1)) C dX9_free_156 rfl (ginc _ 1) rfl ?_
                                      refine g_lv [some _, some _, some _, some _, some _, some _, some _, some _, some _] (gs_some (gs_some (gs_some (gs_some (gs_some (gs_some (gs_some (gs_some (gs_some gs_nil))))))))) ?_
                                      refine g_goto C 79 dX9_free_159 (by decide) ?_
                                      refine g_lv [some _, some _, some _, some _, some _, some _, some _, some _, none] (gs_some (gs_some (gs_some (gs_some (gs_some (gs_some (gs_some (gs_some (gs_none gs_nil))))))))) ?_
                                      exact ih_79 (i + 1) _ _ (by omega) (by omega) (by omega)
                                  · refine g_iconst (v := 1) C dX9_free_126 (by decide) ?_
                                    refine g_goto C 153 dX9_free_127 (by decide) ?_
                                    refine g_iadd C dX9_free_153 ?_
                                    first | rw [show nI p + 1 = nI (p + 1) from nI_add p 1] | rw [show nI p + 6 = nI (p + 6) from nI_add p 6] | rw [show nI p + 36 = nI (p + 36) from nI_add p 36] | rw [show nI p + 0 = nI (p + 0) from nI_add p 0]
                                    refine g_istore C dX9_free_154 (Nat.le_of_ble_eq_true rfl) rfl ?_
                                    refine g_lv [some _, some _, some _, some _, some _, some _, some _, some _, some _] (gs_some (gs_some (gs_some (gs_some (gs_some (gs_some (gs_some (gs_some (gs_some gs_nil))))))))) ?_
                                    refine g_iinc (v := nI (i + 1)) C dX9_free_156 rfl (ginc _ 1) rfl ?_
                                    refine g_lv [some _, some _, some _, some _, some _, some _, some _, some _, some _] (gs_some (gs_some (gs_some (gs_some (gs_some (gs_some (gs_some (gs_some (gs_some gs_nil))))))))) ?_
                                    refine g_goto C 79 dX9_free_159 (by decide) ?_
                                    refine g_lv [some _, some _, some _, some _, some _, some _, some _, some _, none] (gs_some (gs_some (gs_some (gs_some (gs_some (gs_some (gs_some (gs_some (gs_none gs_nil))))))))) ?_
                                    exact ih_79 (i + 1) _ _ (by omega) (by omega) (by omega)
                        refine g_lv [some _, some _, some _, some _, some _, some _, some _, some _, none] (gs_some (gs_some (gs_some (gs_some (gs_some (gs_some (gs_some (gs_some (gs_none gs_nil))))))))) ?_
                        exact L_79 _ 0 0 _ (by omega) (by omega) (Nat.lt_succ_self _)
                  refine g_lv [some _, some _, some _, some _, some _, none, none, none, none] (gs_some (gs_some (gs_some (gs_some (gs_some (gs_none (gs_none (gs_none (gs_none gs_nil))))))))) ?_
                  exact L_60 _ 0 _ _ (Nat.zero_le _) hs0 (Nat.lt_succ_self _)
                · have k_39 := gnle c_39 (a := 216) (b := q) (by first | rfl | assumption | (simp only [glit, nI_add, pk_mul]; done) | (simp only [glit, nI_add, pk_mul]; congr 1; omega) | (simp only [*, glit, nI_add, pk_mul]; congr 1; omega)) (by first | rfl | assumption | (simp only [glit, nI_add, pk_mul]; done) | (simp only [glit, nI_add, pk_mul]; congr 1; omega) | (simp only [*, glit, nI_add, pk_mul]; congr 1; omega)) (by omega) (by omega)
                  refine g_aload_n C dX9_free_42 rfl ?_
                  refine g_get C dX9_free_43 iwX9 rfl (wO_M δ _) 25 (Nat.le_of_ble_eq_true rfl) mW597 rfl rfl ?_
                  refine g_iload_n C dX9_free_46 rfl ?_
                  refine g_lconst (v := 0) C dX9_free_47 (by decide) ?_
                  refine g_lastN C dX9_free_48 (k := q) (q := 16) (by decide) rfl (by first | rfl | assumption | (simp only [glit, nI_add, pk_mul]; done) | (simp only [glit, nI_add, pk_mul]; congr 1; omega) | (simp only [*, glit, nI_add, pk_mul]; congr 1; omega)) (show q < gLenL 16 from Nat.lt_of_lt_of_eq (show q < 216 by omega) rfl) ?_
                  refine g_iinc (v := nI (q + 1)) C dX9_free_49 rfl (ginc _ 1) rfl ?_
                  refine g_lv [some _, some _, some _, some _, none, none, none, none, none] (gs_some (gs_some (gs_some (gs_some (gs_none (gs_none (gs_none (gs_none (gs_none gs_nil))))))))) ?_
                  refine g_goto C 35 dX9_free_52 (by decide) ?_
                  refine g_lv [some _, some _, some _, some _, none, none, none, none, none] (gs_some (gs_some (gs_some (gs_some (gs_none (gs_none (gs_none (gs_none (gs_none gs_nil))))))))) ?_
                  exact ih_35 (q + 1) _ (by omega) (by repeat (first | (with_reducible assumption) | (with_reducible exact gSm_r _) | (with_reducible refine gSm_I (by omega) ?_) | (with_reducible refine gSm_L (by omega) ?_) | (with_reducible refine gSm_N (by omega) ?_) | (with_reducible refine gSm_G (by omega) ?_) | (with_reducible refine gSm_P ?_))) (by omega)
            refine g_lv [some _, some _, some _, some _, none, none, none, none, none] (gs_some (gs_some (gs_some (gs_some (gs_none (gs_none (gs_none (gs_none (gs_none gs_nil))))))))) ?_
            exact L_35 _ 0 _ (by omega) (gSm_r _) (Nat.lt_succ_self _)
          · refine g_bipush (v := (-2)) C dX9_free_30 (by decide) ?_
            exact g_iret C E dX9_free_32 rfl rfl ⟨_, rfl, (by repeat (first | (with_reducible assumption) | (with_reducible exact gSm_r _) | (with_reducible refine gSm_I (by omega) ?_) | (with_reducible refine gSm_L (by omega) ?_) | (with_reducible refine gSm_N (by omega) ?_) | (with_reducible refine gSm_G (by omega) ?_) | (with_reducible refine gSm_P ?_)))⟩
        · exact absurd c_17 (by decide)
      · skip
        refine g_if_ne C 22 dX9_free_17 (by decide) (fun c_17 => ?_) (fun c_17 => ?_)
        · exact absurd c_17 (by decide)
        · refine g_iconst (v := (-1)) C dX9_free_20 (by decide) ?_
          exact g_iret C E dX9_free_21 rfl rfl ⟨_, rfl, (by repeat (first | (with_reducible assumption) | (with_reducible exact gSm_r _) | (with_reducible refine gSm_I (by omega) ?_) | (with_reducible refine gSm_L (by omega) ?_) | (with_reducible refine gSm_N (by omega) ?_) | (with_reducible refine gSm_G (by omega) ?_) | (with_reducible refine gSm_P ?_)))⟩
  · skip
    refine g_if_eq C 20 dX9_free_5 (by decide) (fun c_5 => ?_) (fun c_5 => ?_)
    · refine g_iconst (v := (-1)) C dX9_free_20 (by decide) ?_
      exact g_iret C E dX9_free_21 rfl rfl ⟨_, rfl, (by repeat (first | (with_reducible assumption) | (with_reducible exact gSm_r _) | (with_reducible refine gSm_I (by omega) ?_) | (with_reducible refine gSm_L (by omega) ?_) | (with_reducible refine gSm_N (by omega) ?_) | (with_reducible refine gSm_G (by omega) ?_) | (with_reducible refine gSm_P ?_)))⟩
    · exact absurd c_5 (by decide)
set_option maxRecDepth 100000 in
set_option maxHeartbeats 4000000 in
theorem c_X9_chance (l : Launch) (δ : GD) (σ : GS) (a0 a1 a2 : Int32) {m : Nat} (hm : gN σ 33 = nI m) (h8 : m ≤ 8) (hC : ∀ u, u < m → ∃ n : Nat, 2 ≤ n ∧ n ≤ 4 ∧ gI σ 52 u = nI n) (hV : ∀ u, u < 8 → gB2 (mB σ u) ∧ gNT9 (mT σ u)) : gM l δ yX9_chance cX9_chance 5 (some .int) 2 66 [.ref (δ.2.2.1 1), .int a0, .int a1, .int a2] σ (gPi (fun _ σ' => gSm σ σ')) := by
  refine g_of (lv0 := [some (.ref (δ.2.2.1 1)), some (.int a0), some (.int a1), some (.int a2), none]) (by decide) rfl (Nat.le_of_ble_eq_true rfl) (fun Γ hl C E => ?_)
  subst hl
  have C : gC Γ δ cX9_chance RX9 5 2 66 := C
  refine g_aload_n C dX9_chance_0 rfl ?_
  refine g_iload_n C dX9_chance_1 rfl ?_
  refine g_callVi C sV_X9_89 dX9_chance_2 (c_X9_isUrn _ δ _ _ hm h8) ⟨by decide, by decide⟩ (wO_M δ _) rfl rfl rfl rfl (Nat.le_of_ble_eq_true rfl) (fun r_2 s_2 h_2 => ?_)
  obtain ⟨rfl, h_2⟩ := h_2
  rcases h_2 with ⟨rfl, h_2⟩ | ⟨rfl, h_2⟩
  · obtain ⟨u1, hu1, rfl⟩ := id h_2
    obtain ⟨n, h2, h4, hn⟩ := hC u1 hu1
    have hu8 : u1 < 8 := by omega
    refine g_if_eq C 24 dX9_chance_5 (by decide) (fun c_5 => ?_) (fun c_5 => ?_)
    · exact absurd c_5 (by decide)
    · refine g_iload_n C dX9_chance_8 rfl ?_
      refine g_i2l C dX9_chance_9 ?_
      refine g_lconst (v := 0) C dX9_chance_10 (by decide) ?_
      refine g_ldc2 C dX9_chance_11 mW792 ?_
      refine g_callSi C sS_X9_62 dX9_chance_14 (c_X9_in _ δ _ _ _ _) ⟨by decide, by decide⟩ rfl rfl rfl (Nat.le_of_ble_eq_true rfl) (fun r_14 s_14 h_14 => ?_)
      obtain ⟨rfl, h_14⟩ := h_14
      rw [gInL_ix (m := 13) (by omega) (by decide)] at h_14
      rcases h_14 with ⟨rfl, h_14⟩ | ⟨rfl, h_14⟩
      · obtain ⟨k1, hk1, rfl⟩ := id h_14
        refine g_if_eq C 24 dX9_chance_17 (by decide) (fun c_17 => ?_) (fun c_17 => ?_)
        · exact absurd c_17 (by decide)
        · refine g_iload_n C dX9_chance_20 rfl ?_
          refine g_if_ge C 26 dX9_chance_21 (by decide) (fun c_21 => ?_) (fun c_21 => ?_)
          · obtain ⟨w1, hw1, rfl⟩ := nI_of (Int32.not_lt.mpr c_21)
            refine g_iconst (v := 0) C dX9_chance_26 (by decide) ?_
            refine g_istore C dX9_chance_27 (Nat.le_of_ble_eq_true rfl) rfl ?_
            refine g_lv [some _, some _, some _, some _, some _] (gs_some (gs_some (gs_some (gs_some (gs_some gs_nil))))) ?_
            have L_29 : ∀ (nn : Nat) (i : Nat) (hi : i ≤ k1), k1 - i < nn → gW Γ δ σ 29 [some (.ref (δ.2.2.1 1)), some (.int (nI u1)), some (.int (nI k1)), some (.int (nI w1)), some (.int (nI i))] [] := by
              intro nn
              induction nn with
              | zero =>
                intro i hi hm_29
                exact absurd hm_29 (Nat.not_lt_zero _)
              | succ nn ih_29 =>
                intro i hi hm_29
                refine g_iload C dX9_chance_29 rfl ?_
                refine g_iload_n C dX9_chance_31 rfl ?_
                refine g_icmp_ge C 60 dX9_chance_32 (by decide) (fun c_32 => ?_) (fun c_32 => ?_)
                · have k_32 := gle c_32 (a := k1) (b := i) (by first | rfl | assumption | (simp only [glit, nI_add, pk_mul]; done) | (simp only [glit, nI_add, pk_mul]; congr 1; omega) | (simp only [*, glit, nI_add, pk_mul]; congr 1; omega)) (by first | rfl | assumption | (simp only [glit, nI_add, pk_mul]; done) | (simp only [glit, nI_add, pk_mul]; congr 1; omega) | (simp only [*, glit, nI_add, pk_mul]; congr 1; omega)) (by omega) (by omega)
                  refine g_iload_n C dX9_chance_60 rfl ?_
                  refine g_if_le C 75 dX9_chance_61 (by decide) (fun c_61 => ?_) (fun c_61 => ?_)
                  · refine g_aload_n C dX9_chance_75 rfl ?_
                    refine g_iload_n C dX9_chance_76 rfl ?_
                    refine g_iload_n C dX9_chance_77 rfl ?_
                    refine g_iload_n C dX9_chance_78 rfl ?_
                    refine g_callVi C sV_X9_170 dX9_chance_79 (c_X9_follows _ δ _ hu8 (hV u1 hu8).1 (k := k1) (w := w1) (by omega) hw1) ⟨by decide, by decide⟩ (wO_M δ _) rfl rfl rfl rfl (Nat.le_of_ble_eq_true rfl) (fun r_79 s_79 h_79 => ?_)
                    have z_79 : gSm σ s_79 := h_79.1
                    refine g_if_eq C 100 dX9_chance_82 (by decide) (fun c_82 => ?_) (fun c_82 => ?_)
                    · refine g_bipush (v := (-6)) C dX9_chance_100 (by decide) ?_
                      exact g_iret C E dX9_chance_102 rfl rfl ⟨_, rfl, (by repeat (first | (with_reducible assumption) | (with_reducible exact gSm_r _) | (with_reducible refine gSm_I (by omega) ?_) | (with_reducible refine gSm_L (by omega) ?_) | (with_reducible refine gSm_N (by omega) ?_) | (with_reducible refine gSm_G (by omega) ?_) | (with_reducible refine gSm_P ?_)))⟩
                    · refine g_aload_n C dX9_chance_85 rfl ?_
                      refine g_aload_n C dX9_chance_86 rfl ?_
                      refine g_get C dX9_chance_87 iwX9 rfl (wO_M δ _) 17 (Nat.le_of_ble_eq_true rfl) mW589 rfl rfl ?_
                      refine g_aload_n C dX9_chance_90 rfl ?_
                      refine g_get C dX9_chance_91 iwX9 rfl (wO_M δ _) 18 (Nat.le_of_ble_eq_true rfl) mW590 rfl rfl ?_
                      refine g_callVi C sV_X9_174 dX9_chance_94 (c_X9_tells _ δ _ _ _ h_79.2) ⟨by decide, by decide⟩ (wO_M δ _) rfl rfl rfl rfl (Nat.le_of_ble_eq_true rfl) (fun r_94 s_94 h_94 => ?_)
                      obtain ⟨rfl, h_94⟩ := h_94
                      have z_94 : gSm σ s_94 := gSm_t (by repeat (first | (with_reducible assumption) | (with_reducible exact gSm_r _) | (with_reducible refine gSm_I (by omega) ?_) | (with_reducible refine gSm_L (by omega) ?_) | (with_reducible refine gSm_N (by omega) ?_) | (with_reducible refine gSm_G (by omega) ?_) | (with_reducible refine gSm_P ?_))) h_94
                      refine g_goto C 102 dX9_chance_97 (by decide) ?_
                      exact g_iret C E dX9_chance_102 rfl rfl ⟨_, rfl, (by repeat (first | (with_reducible assumption) | (with_reducible exact gSm_r _) | (with_reducible refine gSm_I (by omega) ?_) | (with_reducible refine gSm_L (by omega) ?_) | (with_reducible refine gSm_N (by omega) ?_) | (with_reducible refine gSm_G (by omega) ?_) | (with_reducible refine gSm_P ?_)))⟩
                  · refine g_aload_n C dX9_chance_64 rfl ?_
                    refine g_iload_n C dX9_chance_65 rfl ?_
                    refine g_callVi C sV_X9_113 dX9_chance_66 (c_X9_balls _ δ _ hu8) ⟨by decide, by decide⟩ (wO_M δ _) rfl rfl rfl rfl (Nat.le_of_ble_eq_true rfl) (fun r_66 s_66 h_66 => ?_)
                    obtain ⟨rfl, h_66⟩ := h_66
                    refine g_if_ne C 75 dX9_chance_69 (by decide) (fun c_69 => ?_) (fun c_69 => ?_)
                    · refine g_aload_n C dX9_chance_75 rfl ?_
                      refine g_iload_n C dX9_chance_76 rfl ?_
                      refine g_iload_n C dX9_chance_77 rfl ?_
                      refine g_iload_n C dX9_chance_78 rfl ?_
                      refine g_callVi C sV_X9_170 dX9_chance_79 (c_X9_follows _ δ _ hu8 (hV u1 hu8).1 (k := k1) (w := w1) (by omega) hw1) ⟨by decide, by decide⟩ (wO_M δ _) rfl rfl rfl rfl (Nat.le_of_ble_eq_true rfl) (fun r_79 s_79 h_79 => ?_)
                      have z_79 : gSm σ s_79 := h_79.1
                      refine g_if_eq C 100 dX9_chance_82 (by decide) (fun c_82 => ?_) (fun c_82 => ?_)
                      · refine g_bipush (v := (-6)) C dX9_chance_100 (by decide) ?_
                        exact g_iret C E dX9_chance_102 rfl rfl ⟨_, rfl, (by repeat (first | (with_reducible assumption) | (with_reducible exact gSm_r _) | (with_reducible refine gSm_I (by omega) ?_) | (with_reducible refine gSm_L (by omega) ?_) | (with_reducible refine gSm_N (by omega) ?_) | (with_reducible refine gSm_G (by omega) ?_) | (with_reducible refine gSm_P ?_)))⟩
                      · refine g_aload_n C dX9_chance_85 rfl ?_
                        refine g_aload_n C dX9_chance_86 rfl ?_
                        refine g_get C dX9_chance_87 iwX9 rfl (wO_M δ _) 17 (Nat.le_of_ble_eq_true rfl) mW589 rfl rfl ?_
                        refine g_aload_n C dX9_chance_90 rfl ?_
                        refine g_get C dX9_chance_91 iwX9 rfl (wO_M δ _) 18 (Nat.le_of_ble_eq_true rfl) mW590 rfl rfl ?_
                        refine g_callVi C sV_X9_174 dX9_chance_94 (c_X9_tells _ δ _ _ _ h_79.2) ⟨by decide, by decide⟩ (wO_M δ _) rfl rfl rfl rfl (Nat.le_of_ble_eq_true rfl) (fun r_94 s_94 h_94 => ?_)
                        obtain ⟨rfl, h_94⟩ := h_94
                        have z_94 : gSm σ s_94 := gSm_t (by repeat (first | (with_reducible assumption) | (with_reducible exact gSm_r _) | (with_reducible refine gSm_I (by omega) ?_) | (with_reducible refine gSm_L (by omega) ?_) | (with_reducible refine gSm_N (by omega) ?_) | (with_reducible refine gSm_G (by omega) ?_) | (with_reducible refine gSm_P ?_))) h_94
                        refine g_goto C 102 dX9_chance_97 (by decide) ?_
                        exact g_iret C E dX9_chance_102 rfl rfl ⟨_, rfl, (by repeat (first | (with_reducible assumption) | (with_reducible exact gSm_r _) | (with_reducible refine gSm_I (by omega) ?_) | (with_reducible refine gSm_L (by omega) ?_) | (with_reducible refine gSm_N (by omega) ?_) | (with_reducible refine gSm_G (by omega) ?_) | (with_reducible refine gSm_P ?_)))⟩
                    · refine g_bipush (v := (-2)) C dX9_chance_72 (by decide) ?_
                      exact g_iret C E dX9_chance_74 rfl rfl ⟨_, rfl, (by repeat (first | (with_reducible assumption) | (with_reducible exact gSm_r _) | (with_reducible refine gSm_I (by omega) ?_) | (with_reducible refine gSm_L (by omega) ?_) | (with_reducible refine gSm_N (by omega) ?_) | (with_reducible refine gSm_G (by omega) ?_) | (with_reducible refine gSm_P ?_)))⟩
                · have k_32 := gnle c_32 (a := k1) (b := i) (by first | rfl | assumption | (simp only [glit, nI_add, pk_mul]; done) | (simp only [glit, nI_add, pk_mul]; congr 1; omega) | (simp only [*, glit, nI_add, pk_mul]; congr 1; omega)) (by first | rfl | assumption | (simp only [glit, nI_add, pk_mul]; done) | (simp only [glit, nI_add, pk_mul]; congr 1; omega) | (simp only [*, glit, nI_add, pk_mul]; congr 1; omega)) (by omega) (by omega)
                  refine g_iload_n C dX9_chance_35 rfl ?_
                  refine g_iconst (v := 2) C dX9_chance_36 (by decide) ?_
                  refine g_iload C dX9_chance_37 rfl ?_
                  refine g_imul C dX9_chance_39 ?_
                  refine g_ishr C dX9_chance_40 ?_
                  refine g_iconst (v := 3) C dX9_chance_41 (by decide) ?_
                  refine g_iand C dX9_chance_42 ?_
                  refine g_aload_n C dX9_chance_43 rfl ?_
                  refine g_get C dX9_chance_44 iwX9 rfl (wO_M δ _) 5 (Nat.le_of_ble_eq_true rfl) mW577 rfl rfl ?_
                  refine g_iload_n C dX9_chance_47 rfl ?_
                  refine g_ialdN C dX9_chance_48 (k := u1) (q := 52) (by decide) rfl (by first | rfl | assumption | (simp only [glit, nI_add, pk_mul]; done) | (simp only [glit, nI_add, pk_mul]; congr 1; omega) | (simp only [*, glit, nI_add, pk_mul]; congr 1; omega)) (show u1 < gLenI 52 from Nat.lt_of_lt_of_eq (show u1 < 8 by omega) rfl) ?_
                  refine g_icmp_lt C 54 dX9_chance_49 (by decide) (fun c_49 => ?_) (fun c_49 => ?_)
                  · refine g_iinc (v := nI (i + 1)) C dX9_chance_54 rfl (ginc _ 1) rfl ?_
                    refine g_lv [some _, some _, some _, some _, some _] (gs_some (gs_some (gs_some (gs_some (gs_some gs_nil))))) ?_
                    refine g_goto C 29 dX9_chance_57 (by decide) ?_
                    refine g_lv [some _, some _, some _, some _, some _] (gs_some (gs_some (gs_some (gs_some (gs_some gs_nil))))) ?_
                    exact ih_29 (i + 1) (by omega) (by omega)
                  · refine g_iconst (v := (-1)) C dX9_chance_52 (by decide) ?_
                    exact g_iret C E dX9_chance_53 rfl rfl ⟨_, rfl, (by repeat (first | (with_reducible assumption) | (with_reducible exact gSm_r _) | (with_reducible refine gSm_I (by omega) ?_) | (with_reducible refine gSm_L (by omega) ?_) | (with_reducible refine gSm_N (by omega) ?_) | (with_reducible refine gSm_G (by omega) ?_) | (with_reducible refine gSm_P ?_)))⟩
            refine g_lv [some _, some _, some _, some _, some _] (gs_some (gs_some (gs_some (gs_some (gs_some gs_nil))))) ?_
            exact L_29 _ 0 (by omega) (Nat.lt_succ_self _)
          · refine g_iconst (v := (-1)) C dX9_chance_24 (by decide) ?_
            exact g_iret C E dX9_chance_25 rfl rfl ⟨_, rfl, (by repeat (first | (with_reducible assumption) | (with_reducible exact gSm_r _) | (with_reducible refine gSm_I (by omega) ?_) | (with_reducible refine gSm_L (by omega) ?_) | (with_reducible refine gSm_N (by omega) ?_) | (with_reducible refine gSm_G (by omega) ?_) | (with_reducible refine gSm_P ?_)))⟩
      · skip
        refine g_if_eq C 24 dX9_chance_17 (by decide) (fun c_17 => ?_) (fun c_17 => ?_)
        · refine g_iconst (v := (-1)) C dX9_chance_24 (by decide) ?_
          exact g_iret C E dX9_chance_25 rfl rfl ⟨_, rfl, (by repeat (first | (with_reducible assumption) | (with_reducible exact gSm_r _) | (with_reducible refine gSm_I (by omega) ?_) | (with_reducible refine gSm_L (by omega) ?_) | (with_reducible refine gSm_N (by omega) ?_) | (with_reducible refine gSm_G (by omega) ?_) | (with_reducible refine gSm_P ?_)))⟩
        · exact absurd c_17 (by decide)
  · skip
    refine g_if_eq C 24 dX9_chance_5 (by decide) (fun c_5 => ?_) (fun c_5 => ?_)
    · refine g_iconst (v := (-1)) C dX9_chance_24 (by decide) ?_
      exact g_iret C E dX9_chance_25 rfl rfl ⟨_, rfl, (by repeat (first | (with_reducible assumption) | (with_reducible exact gSm_r _) | (with_reducible refine gSm_I (by omega) ?_) | (with_reducible refine gSm_L (by omega) ?_) | (with_reducible refine gSm_N (by omega) ?_) | (with_reducible refine gSm_G (by omega) ?_) | (with_reducible refine gSm_P ?_)))⟩
    · exact absurd c_5 (by decide)
