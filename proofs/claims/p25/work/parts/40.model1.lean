theorem sS_X9_62 : gSS RX9 62 yX9_in cX9_in 6 (some .boolean) 3 := ⟨mW659, mW660, mW11, mW661, ⟨by decide +kernel, by decide +kernel⟩, by decide +kernel⟩
theorem sS_X9_66 : gSS RX9 66 yX9_isSheet cX9_isSheet 1 (some .boolean) 1 := ⟨mW655, mW656, mW11, mW657, ⟨by decide +kernel, by decide +kernel⟩, by decide +kernel⟩
theorem sV_X9_74 : gSV RX9 74 yX9_placed cX9_placed 3 (some .int) 2 := ⟨mW668, mW670, mP13, mW11, mW671, ⟨by decide +kernel, by decide +kernel⟩, by decide +kernel⟩
theorem sS_X9_78 : gSS RX9 78 yX9_cut cX9_cut 3 (some .long) 2 := ⟨mW672, mW673, mW11, mW674, ⟨by decide +kernel, by decide +kernel⟩, by decide +kernel⟩
set_option maxRecDepth 100000 in
set_option maxHeartbeats 4000000 in
theorem c_X9_in (l : Launch) (δ : GD) (σ : GS) (v a b : Int64) : gM l δ yX9_in cX9_in 6 (some .boolean) 0 0 [.long v, .long a, .long b] σ (gPi (fun x σ' => σ = σ' ∧ ((x = 1 ∧ gInL v a b) ∨ (x = 0 ∧ ¬ gInL v a b)))) := by
  refine g_of (lv0 := [some (.long v), none, some (.long a), none, some (.long b), none]) (by decide) rfl (Nat.le_of_ble_eq_true rfl) (fun Γ hl C E => ?_)
  subst hl
  have C : gC Γ δ cX9_in RX9 6 0 0 := C
  refine g_lload_n C dX9_in_0 rfl ?_
  refine g_lload_n C dX9_in_1 rfl ?_
  refine g_lcmp C dX9_in_2 ?_
  refine g_if_lt C 17 dX9_in_3 (by decide) (fun c_3 => ?_) (fun c_3 => ?_)
  · rw [lg_cmp_lt] at c_3
    have hx : ¬ gInL v a b := fun q => Int64.not_le.mpr c_3 q.1
    refine g_iconst (v := 0) C dX9_in_17 (by decide) ?_
    exact g_iret C E dX9_in_18 rfl rfl ⟨_, rfl, ⟨rfl, by first | exact Or.inl ⟨rfl, hy⟩ | exact Or.inr ⟨rfl, hx⟩⟩⟩
  · rw [lg_cmp_lt] at c_3
    refine g_lload_n C dX9_in_6 rfl ?_
    refine g_lload C dX9_in_7 rfl ?_
    refine g_lcmp C dX9_in_9 ?_
    refine g_if_gt C 17 dX9_in_10 (by decide) (fun c_10 => ?_) (fun c_10 => ?_)
    · rw [lg_cmp_gt] at c_10
      have hx : ¬ gInL v a b := fun q => Int64.not_le.mpr c_10 q.2
      refine g_iconst (v := 0) C dX9_in_17 (by decide) ?_
      exact g_iret C E dX9_in_18 rfl rfl ⟨_, rfl, ⟨rfl, by first | exact Or.inl ⟨rfl, hy⟩ | exact Or.inr ⟨rfl, hx⟩⟩⟩
    · rw [lg_cmp_gt] at c_10
      have hy : gInL v a b := ⟨Int64.not_lt.mp c_3, Int64.not_lt.mp c_10⟩
      refine g_iconst (v := 1) C dX9_in_13 (by decide) ?_
      refine g_goto C 18 dX9_in_14 (by decide) ?_
      exact g_iret C E dX9_in_18 rfl rfl ⟨_, rfl, ⟨rfl, by first | exact Or.inl ⟨rfl, hy⟩ | exact Or.inr ⟨rfl, hx⟩⟩⟩
set_option maxRecDepth 100000 in
set_option maxHeartbeats 4000000 in
theorem c_X9_isSheet (l : Launch) (δ : GD) (σ : GS) (r : Int32) : gM l δ yX9_isSheet cX9_isSheet 1 (some .boolean) 1 25 [.int r] σ (gPi (fun x σ' => σ = σ' ∧ ((x = 1 ∧ gIx r 6) ∨ (x = 0 ∧ ¬ gIx r 6)))) := by
  refine g_of (lv0 := [some (.int r)]) (by decide) rfl (Nat.le_of_ble_eq_true rfl) (fun Γ hl C E => ?_)
  subst hl
  have C : gC Γ δ cX9_isSheet RX9 1 1 25 := C
  refine g_iload_n C dX9_isSheet_0 rfl ?_
  refine g_i2l C dX9_isSheet_1 ?_
  refine g_lconst (v := 0) C dX9_isSheet_2 (by decide) ?_
  refine g_ldc2 C dX9_isSheet_3 mW658 ?_
  refine g_callSi C sS_X9_62 dX9_isSheet_6 (c_X9_in _ δ _ _ _ _) ⟨by decide, by decide⟩ rfl rfl rfl (Nat.le_of_ble_eq_true rfl) (fun r_6 s_6 h_6 => ?_)
  obtain ⟨rfl, h_6⟩ := h_6
  rw [gInL_ix (m := 6) (by omega) (by decide)] at h_6
  rcases h_6 with ⟨rfl, h_6⟩ | ⟨rfl, h_6⟩
  · skip
    exact g_iret C E dX9_isSheet_9 rfl rfl ⟨_, rfl, ⟨rfl, by first | exact Or.inl ⟨rfl, h_6⟩ | exact Or.inr ⟨rfl, h_6⟩⟩⟩
  · skip
    exact g_iret C E dX9_isSheet_9 rfl rfl ⟨_, rfl, ⟨rfl, by first | exact Or.inl ⟨rfl, h_6⟩ | exact Or.inr ⟨rfl, h_6⟩⟩⟩
set_option maxRecDepth 100000 in
set_option maxHeartbeats 4000000 in
theorem c_X9_cut (l : Launch) (δ : GD) (σ : GS) (k : Int32) (v : Int64) : gM l δ yX9_cut cX9_cut 3 (some .long) 0 0 [.int k, .long v] σ (gPl (fun r σ' => σ = σ' ∧ r = gCutV k v)) := by
  refine g_of (lv0 := [some (.int k), some (.long v), none]) (by decide) rfl (Nat.le_of_ble_eq_true rfl) (fun Γ hl C E => ?_)
  subst hl
  have C : gC Γ δ cX9_cut RX9 3 0 0 := C
  refine g_iload_n C dX9_cut_0 rfl ?_
  refine g_if_ne C 11 dX9_cut_1 (by decide) (fun c_1 => ?_) (fun c_1 => ?_)
  · refine g_iload_n C dX9_cut_11 rfl ?_
    refine g_iconst (v := 1) C dX9_cut_12 (by decide) ?_
    refine g_icmp_ne C 22 dX9_cut_13 (by decide) (fun c_13 => ?_) (fun c_13 => ?_)
    · refine g_lload_n C dX9_cut_22 rfl ?_
      exact g_lret C E dX9_cut_23 rfl ⟨_, rfl, ⟨rfl, by first | (rw [gCutV, if_pos c_1]; done) | (rw [gCutV, if_neg c_1, if_pos c_13]; done) | (rw [gCutV, if_neg c_1, if_neg c_13]; done)⟩⟩
    · refine g_lload_n C dX9_cut_16 rfl ?_
      refine g_l2i C dX9_cut_17 ?_
      refine g_i2l C dX9_cut_18 ?_
      refine g_goto C 23 dX9_cut_19 (by decide) ?_
      exact g_lret C E dX9_cut_23 rfl ⟨_, rfl, ⟨rfl, by first | (rw [gCutV, if_pos c_1]; done) | (rw [gCutV, if_neg c_1, if_pos c_13]; done) | (rw [gCutV, if_neg c_1, if_neg c_13]; done)⟩⟩
  · refine g_lload_n C dX9_cut_4 rfl ?_
    refine g_l2i C dX9_cut_5 ?_
    refine g_i2b C dX9_cut_6 ?_
    refine g_i2l C dX9_cut_7 ?_
    refine g_goto C 23 dX9_cut_8 (by decide) ?_
    exact g_lret C E dX9_cut_23 rfl ⟨_, rfl, ⟨rfl, by first | (rw [gCutV, if_pos c_1]; done) | (rw [gCutV, if_neg c_1, if_pos c_13]; done) | (rw [gCutV, if_neg c_1, if_neg c_13]; done)⟩⟩
set_option maxRecDepth 100000 in
set_option maxHeartbeats 4000000 in
theorem c_X9_sheet (l : Launch) (δ : GD) (σ : GS) (r k n : Int32) : gM l δ yX9_sheet cX9_sheet 5 (some .int) 2 45 [.ref (δ.2.2.1 1), .int r, .int k, .int n] σ (gPi (fun x σ' => x = fSheet r k n ∧ ((¬ x = 0 ∧ σ = σ') ∨ (x = 0 ∧ ∃ (u : Nat) (f : Nat → Int64), u < 6 ∧ r = nI u ∧ (∀ j, j < 16 → f (16 * u + j) = 0) ∧ (∀ j, (j < 16 * u ∨ 16 * u + 16 ≤ j) → f j = gL σ 12 j) ∧ σ' = uL (uI (uI σ 50 (upd (gI σ 50) u k)) 51 (upd (gI σ 51) u (if k < 0 then 0 else n))) 12 f)))) := by
  refine g_of (lv0 := [some (.ref (δ.2.2.1 1)), some (.int r), some (.int k), some (.int n), none]) (by decide) rfl (Nat.le_of_ble_eq_true rfl) (fun Γ hl C E => ?_)
  subst hl
  have C : gC Γ δ cX9_sheet RX9 5 2 45 := C
  refine g_iload_n C dX9_sheet_0 rfl ?_
  refine g_callSi C sS_X9_66 dX9_sheet_1 (c_X9_isSheet _ δ _ _) ⟨by decide, by decide⟩ rfl rfl rfl (Nat.le_of_ble_eq_true rfl) (fun r_1 s_1 h_1 => ?_)
  obtain ⟨rfl, h_1⟩ := h_1
  rcases h_1 with ⟨rfl, h_1⟩ | ⟨rfl, h_1⟩
  · skip
    refine g_if_eq C 31 dX9_sheet_4 (by decide) (fun c_4 => ?_) (fun c_4 => ?_)
    · exact absurd c_4 (by decide)
    · obtain ⟨u, hu, rfl⟩ := id h_1
      refine g_iload_n C dX9_sheet_7 rfl ?_
      refine g_i2l C dX9_sheet_8 ?_
      refine g_ldc2 C dX9_sheet_9 mW662 ?_
      refine g_ldc2 C dX9_sheet_12 mW663 ?_
      refine g_callSi C sS_X9_62 dX9_sheet_15 (c_X9_in _ δ _ _ _ _) ⟨by decide, by decide⟩ rfl rfl rfl (Nat.le_of_ble_eq_true rfl) (fun r_15 s_15 h_15 => ?_)
      obtain ⟨rfl, h_15⟩ := h_15
      rcases h_15 with ⟨rfl, h_15⟩ | ⟨rfl, h_15⟩
      · skip
        refine g_if_eq C 31 dX9_sheet_18 (by decide) (fun c_18 => ?_) (fun c_18 => ?_)
        · exact absurd c_18 (by decide)
        · obtain ⟨hk1, hk2⟩ := gk12 h_15
          have J_33 : ∀ (hb : ¬ (¬ k = -1 ∧ 16 < n)), gW Γ δ σ 33 [some (.ref (δ.2.2.1 1)), some (.int (nI u)), some (.int k), some (.int n), none] [] := by
            intro hb
            have J_44 : ∀ (hz : ¬ (¬ k = -1 ∧ n < 0)), gW Γ δ σ 44 [some (.ref (δ.2.2.1 1)), some (.int (nI u)), some (.int k), some (.int n), none] [] := by
              intro hz
              refine g_aload_n C dX9_sheet_44 rfl ?_
              refine g_get C dX9_sheet_45 iwX9 rfl (wO_M δ _) 0 (Nat.le_of_ble_eq_true rfl) mW572 rfl rfl ?_
              refine g_iload_n C dX9_sheet_48 rfl ?_
              refine g_iload_n C dX9_sheet_49 rfl ?_
              refine g_iastN C dX9_sheet_50 (k := u) (q := 50) (by decide) rfl (by first | rfl | assumption | (simp only [glit, nI_add, pk_mul]; done) | (simp only [glit, nI_add, pk_mul]; congr 1; omega) | (simp only [*, glit, nI_add, pk_mul]; congr 1; omega)) (show u < gLenI 50 from Nat.lt_of_lt_of_eq (show u < 6 by omega) rfl) ?_
              refine g_aload_n C dX9_sheet_51 rfl ?_
              refine g_get C dX9_sheet_52 iwX9 rfl (wO_M δ _) 1 (Nat.le_of_ble_eq_true rfl) mW573 rfl rfl ?_
              refine g_iload_n C dX9_sheet_55 rfl ?_
              have J_65 : ∀ (y : Int32) (ez : y = if k < 0 then 0 else n), gW Γ δ (uI σ 50 (upd (gI σ 50) u k)) 65 [some (.ref (δ.2.2.1 1)), some (.int (nI u)), some (.int k), some (.int n), none] [.int y, .int (nI u), .ref (δ.2.2.1 73)] := by
                intro y ez
                refine g_iastN C dX9_sheet_65 (k := u) (q := 51) (by decide) rfl (by first | rfl | assumption | (simp only [glit, nI_add, pk_mul]; done) | (simp only [glit, nI_add, pk_mul]; congr 1; omega) | (simp only [*, glit, nI_add, pk_mul]; congr 1; omega)) (show u < gLenI 51 from Nat.lt_of_lt_of_eq (show u < 6 by omega) rfl) ?_
                rw [ez, gI_uI, if_neg (by decide)]
                refine g_iconst (v := 0) C dX9_sheet_66 (by decide) ?_
                refine g_istore C dX9_sheet_67 (Nat.le_of_ble_eq_true rfl) rfl ?_
                refine g_lv [some _, some _, some _, some _, some _] (gs_some (gs_some (gs_some (gs_some (gs_some gs_nil))))) ?_
                have L_69 : ∀ (nn : Nat) (j : Nat) (f : Nat → Int64) (hj : j ≤ 16) (hf : ∀ i, i < j → f (16 * u + i) = 0) (hg : ∀ i, (i < 16 * u ∨ 16 * u + j ≤ i) → f i = gL σ 12 i), 16 - j < nn → gW Γ δ (uL (uI (uI σ 50 (upd (gI σ 50) u k)) 51 (upd (gI σ 51) u (if k < 0 then 0 else n))) 12 f) 69 [some (.ref (δ.2.2.1 1)), some (.int (nI u)), some (.int k), some (.int n), some (.int (nI j))] [] := by
                  intro nn
                  induction nn with
                  | zero =>
                    intro j f hj hf hg hm_69
                    exact absurd hm_69 (Nat.not_lt_zero _)
                  | succ nn ih_69 =>
                    intro j f hj hf hg hm_69
                    refine g_iload C dX9_sheet_69 rfl ?_
                    refine g_bipush (v := 16) C dX9_sheet_71 (by decide) ?_
                    refine g_icmp_ge C 95 dX9_sheet_73 (by decide) (fun c_73 => ?_) (fun c_73 => ?_)
                    · have k_73 := gle c_73 (a := 16) (b := j) (by first | rfl | assumption | (simp only [glit, nI_add, pk_mul]; done) | (simp only [glit, nI_add, pk_mul]; congr 1; omega) | (simp only [*, glit, nI_add, pk_mul]; congr 1; omega)) (by first | rfl | assumption | (simp only [glit, nI_add, pk_mul]; done) | (simp only [glit, nI_add, pk_mul]; congr 1; omega) | (simp only [*, glit, nI_add, pk_mul]; congr 1; omega)) (by omega) (by omega)
                      refine g_iconst (v := 0) C dX9_sheet_95 (by decide) ?_
                      exact g_iret C E dX9_sheet_96 rfl rfl ⟨_, rfl, ⟨((if_neg (fSheet_no hu hk1 hk2 hb)).trans (if_neg hz)).symm, Or.inr ⟨rfl, u, f, hu, rfl, fun j hj => hf j (by omega), fun j hj => hg j (by omega), rfl⟩⟩⟩
                    · have k_73 := gnle c_73 (a := 16) (b := j) (by first | rfl | assumption | (simp only [glit, nI_add, pk_mul]; done) | (simp only [glit, nI_add, pk_mul]; congr 1; omega) | (simp only [*, glit, nI_add, pk_mul]; congr 1; omega)) (by first | rfl | assumption | (simp only [glit, nI_add, pk_mul]; done) | (simp only [glit, nI_add, pk_mul]; congr 1; omega) | (simp only [*, glit, nI_add, pk_mul]; congr 1; omega)) (by omega) (by omega)
                      refine g_aload_n C dX9_sheet_76 rfl ?_
                      refine g_get C dX9_sheet_77 iwX9 rfl (wO_M δ _) 2 (Nat.le_of_ble_eq_true rfl) mW574 rfl rfl ?_
                      refine g_bipush (v := 16) C dX9_sheet_80 (by decide) ?_
                      refine g_iload_n C dX9_sheet_82 rfl ?_
                      refine g_imul C dX9_sheet_83 ?_
                      refine g_iload C dX9_sheet_84 rfl ?_
                      refine g_iadd C dX9_sheet_86 ?_
                      refine g_lconst (v := 0) C dX9_sheet_87 (by decide) ?_
                      refine g_lastN C dX9_sheet_88 (k := (16 * u + j)) (q := 12) (by decide) rfl (by simp only [glit, nI_add, pk_mul]) (show (16 * u + j) < gLenL 12 from Nat.lt_of_lt_of_eq (show (16 * u + j) < 96 by omega) rfl) ?_
                      refine g_iinc (v := nI (j + 1)) C dX9_sheet_89 rfl (ginc _ 1) rfl ?_
                      refine g_lv [some _, some _, some _, some _, some _] (gs_some (gs_some (gs_some (gs_some (gs_some gs_nil))))) ?_
                      refine g_goto C 69 dX9_sheet_92 (by decide) ?_
                      refine g_lv [some _, some _, some _, some _, some _] (gs_some (gs_some (gs_some (gs_some (gs_some gs_nil))))) ?_
                      rw [uL_uL, gL_uL, if_pos rfl]
                      exact ih_69 (j + 1) _ (by omega) (fun i h => gfil hf h) (fun i h => (gfil2 (by omega)).trans (hg i (by omega))) (by omega)
                refine g_lv [some _, some _, some _, some _, some _] (gs_some (gs_some (gs_some (gs_some (gs_some gs_nil))))) ?_
                refine g_st (uL_id _ 12).symm ?_
                exact L_69 _ 0 (gL σ 12) (by omega) (fun i h => absurd h (Nat.not_lt_zero _)) (fun i _ => rfl) (Nat.lt_succ_self _)
              refine g_iload_n C dX9_sheet_56 rfl ?_
              refine g_if_ge C 64 dX9_sheet_57 (by decide) (fun c_57 => ?_) (fun c_57 => ?_)
              · have ez : n = (if k < 0 then 0 else n) := (if_neg (Int32.not_lt.mpr c_57)).symm
                refine g_iload_n C dX9_sheet_64 rfl ?_
                refine g_lv [some _, some _, some _, some _, none] (gs_some (gs_some (gs_some (gs_some (gs_none gs_nil))))) ?_
                exact J_65 _ ez
              · have ez : (0 : Int32) = (if k < 0 then 0 else n) := (if_pos (Int32.not_le.mp c_57)).symm
                refine g_iconst (v := 0) C dX9_sheet_60 (by decide) ?_
                refine g_goto C 65 dX9_sheet_61 (by decide) ?_
                refine g_lv [some _, some _, some _, some _, none] (gs_some (gs_some (gs_some (gs_some (gs_none gs_nil))))) ?_
                exact J_65 _ ez
            refine g_iload_n C dX9_sheet_33 rfl ?_
            refine g_if_lt C 44 dX9_sheet_34 (by decide) (fun c_34 => ?_) (fun c_34 => ?_)
            · have hz : ¬ (¬ k = -1 ∧ n < 0) := fun q => q.1 (gkneg hk1 c_34)
              refine g_lv [some _, some _, some _, some _, none] (gs_some (gs_some (gs_some (gs_some (gs_none gs_nil))))) ?_
              exact J_44 hz
            · refine g_iload_n C dX9_sheet_37 rfl ?_
              refine g_if_ge C 44 dX9_sheet_38 (by decide) (fun c_38 => ?_) (fun c_38 => ?_)
              · have hz : ¬ (¬ k = -1 ∧ n < 0) := fun q => Int32.not_lt.mpr c_38 q.2
                refine g_lv [some _, some _, some _, some _, none] (gs_some (gs_some (gs_some (gs_some (gs_none gs_nil))))) ?_
                exact J_44 hz
              · have hz : fSheet (nI u) k n = -13 := (if_neg (fSheet_no hu hk1 hk2 hb)).trans (if_pos ⟨gkpos c_34, Int32.not_le.mp c_38⟩)
                refine g_bipush (v := (-13)) C dX9_sheet_41 (by decide) ?_
                exact g_iret C E dX9_sheet_43 rfl rfl ⟨_, rfl, ⟨hz.symm, Or.inl ⟨by decide, rfl⟩⟩⟩
          refine g_iload_n C dX9_sheet_21 rfl ?_
          refine g_if_lt C 33 dX9_sheet_22 (by decide) (fun c_22 => ?_) (fun c_22 => ?_)
          · have hb : ¬ (¬ k = -1 ∧ 16 < n) := fun q => q.1 (gkneg hk1 c_22)
            refine g_lv [some _, some _, some _, some _, none] (gs_some (gs_some (gs_some (gs_some (gs_none gs_nil))))) ?_
            exact J_33 hb
          · refine g_iload_n C dX9_sheet_25 rfl ?_
            refine g_bipush (v := 16) C dX9_sheet_26 (by decide) ?_
            refine g_icmp_le C 33 dX9_sheet_28 (by decide) (fun c_28 => ?_) (fun c_28 => ?_)
            · have hb : ¬ (¬ k = -1 ∧ 16 < n) := fun q => Int32.not_lt.mpr c_28 q.2
              refine g_lv [some _, some _, some _, some _, none] (gs_some (gs_some (gs_some (gs_some (gs_none gs_nil))))) ?_
              exact J_33 hb
            · have hb : fSheet (nI u) k n = -1 := if_pos (Or.inr (Or.inr (Or.inr ⟨gkpos c_22, Int32.not_le.mp c_28⟩)))
              refine g_iconst (v := (-1)) C dX9_sheet_31 (by decide) ?_
              exact g_iret C E dX9_sheet_32 rfl rfl ⟨_, rfl, ⟨by first | exact hb.symm | exact (fSheet_r h_1).symm, Or.inl ⟨by decide, rfl⟩⟩⟩
      · skip
        refine g_if_eq C 31 dX9_sheet_18 (by decide) (fun c_18 => ?_) (fun c_18 => ?_)
        · have hb : fSheet (nI u) k n = -1 := fSheet_k h_15
          refine g_iconst (v := (-1)) C dX9_sheet_31 (by decide) ?_
          exact g_iret C E dX9_sheet_32 rfl rfl ⟨_, rfl, ⟨by first | exact hb.symm | exact (fSheet_r h_1).symm, Or.inl ⟨by decide, rfl⟩⟩⟩
        · exact absurd c_18 (by decide)
  · skip
    refine g_if_eq C 31 dX9_sheet_4 (by decide) (fun c_4 => ?_) (fun c_4 => ?_)
    · refine g_iconst (v := (-1)) C dX9_sheet_31 (by decide) ?_
      exact g_iret C E dX9_sheet_32 rfl rfl ⟨_, rfl, ⟨by first | exact hb.symm | exact (fSheet_r h_1).symm, Or.inl ⟨by decide, rfl⟩⟩⟩
    · exact absurd c_4 (by decide)
set_option maxRecDepth 100000 in
set_option maxHeartbeats 4000000 in
theorem c_X9_placed (l : Launch) (δ : GD) (σ : GS) {u : Nat} (hu : u < 6) (i : Int32) {m : Nat} (hm : 0 ≤ gI σ 50 u → gI σ 51 u = nI m) (h16 : m ≤ 16) : gM l δ yX9_placed cX9_placed 3 (some .int) 1 25 [.ref (δ.2.2.1 1), .int (nI u), .int i] σ (gPi (fun x σ' => σ = σ' ∧ x = fPl (gI σ 50 u) (gI σ 51 u) i)) := by
  refine g_of (lv0 := [some (.ref (δ.2.2.1 1)), some (.int (nI u)), some (.int i)]) (by decide) rfl (Nat.le_of_ble_eq_true rfl) (fun Γ hl C E => ?_)
  subst hl
  have C : gC Γ δ cX9_placed RX9 3 1 25 := C
  refine g_aload_n C dX9_placed_0 rfl ?_
  refine g_get C dX9_placed_1 iwX9 rfl (wO_M δ _) 0 (Nat.le_of_ble_eq_true rfl) mW572 rfl rfl ?_
  refine g_iload_n C dX9_placed_4 rfl ?_
  refine g_ialdN C dX9_placed_5 (k := u) (q := 50) (by decide) rfl (by first | rfl | assumption | (simp only [glit, nI_add, pk_mul]; done) | (simp only [glit, nI_add, pk_mul]; congr 1; omega) | (simp only [*, glit, nI_add, pk_mul]; congr 1; omega)) (show u < gLenI 50 from Nat.lt_of_lt_of_eq (show u < 6 by omega) rfl) ?_
  refine g_if_ge C 14 dX9_placed_6 (by decide) (fun c_6 => ?_) (fun c_6 => ?_)
  · have hs := hm c_6
    refine g_iload_n C dX9_placed_14 rfl ?_
    refine g_i2l C dX9_placed_15 ?_
    refine g_lconst (v := 0) C dX9_placed_16 (by decide) ?_
    refine g_aload_n C dX9_placed_17 rfl ?_
    refine g_get C dX9_placed_18 iwX9 rfl (wO_M δ _) 1 (Nat.le_of_ble_eq_true rfl) mW573 rfl rfl ?_
    refine g_iload_n C dX9_placed_21 rfl ?_
    refine g_ialdN C dX9_placed_22 (k := u) (q := 51) (by decide) rfl (by first | rfl | assumption | (simp only [glit, nI_add, pk_mul]; done) | (simp only [glit, nI_add, pk_mul]; congr 1; omega) | (simp only [*, glit, nI_add, pk_mul]; congr 1; omega)) (show u < gLenI 51 from Nat.lt_of_lt_of_eq (show u < 6 by omega) rfl) ?_
    rw [hs]
    refine g_iconst (v := 1) C dX9_placed_23 (by decide) ?_
    refine g_isub C dX9_placed_24 ?_
    refine g_i2l C dX9_placed_25 ?_
    refine g_callSi C sS_X9_62 dX9_placed_26 (c_X9_in _ δ _ _ _ _) ⟨by decide, by decide⟩ rfl rfl rfl (Nat.le_of_ble_eq_true rfl) (fun r_26 s_26 h_26 => ?_)
    obtain ⟨rfl, h_26⟩ := h_26
    rw [gInL_ix (m := m) (by omega) (gm1 (by omega))] at h_26
    rcases h_26 with ⟨rfl, h_26⟩ | ⟨rfl, h_26⟩
    · skip
      refine g_if_eq C 36 dX9_placed_29 (by decide) (fun c_29 => ?_) (fun c_29 => ?_)
      · exact absurd c_29 (by decide)
      · refine g_iconst (v := 0) C dX9_placed_32 (by decide) ?_
        refine g_goto C 38 dX9_placed_33 (by decide) ?_
        exact g_iret C E dX9_placed_38 rfl rfl ⟨_, rfl, ⟨rfl, by first | exact (fPl_neg c_6).symm | exact (fPl_in c_6 hs (by omega) h_26).symm | exact (fPl_out c_6 hs (by omega) h_26).symm⟩⟩
    · skip
      refine g_if_eq C 36 dX9_placed_29 (by decide) (fun c_29 => ?_) (fun c_29 => ?_)
      · refine g_bipush (v := (-12)) C dX9_placed_36 (by decide) ?_
        exact g_iret C E dX9_placed_38 rfl rfl ⟨_, rfl, ⟨rfl, by first | exact (fPl_neg c_6).symm | exact (fPl_in c_6 hs (by omega) h_26).symm | exact (fPl_out c_6 hs (by omega) h_26).symm⟩⟩
      · exact absurd c_29 (by decide)
  · refine g_bipush (v := (-11)) C dX9_placed_9 (by decide) ?_
    refine g_goto C 38 dX9_placed_11 (by decide) ?_
    exact g_iret C E dX9_placed_38 rfl rfl ⟨_, rfl, ⟨rfl, by first | exact (fPl_neg c_6).symm | exact (fPl_in c_6 hs (by omega) h_26).symm | exact (fPl_out c_6 hs (by omega) h_26).symm⟩⟩
set_option maxRecDepth 100000 in
set_option maxHeartbeats 4000000 in
theorem c_X9_lay (l : Launch) (δ : GD) (σ : GS) (r i : Int32) (v : Int64) (hk : ∀ u, u < 6 → ∃ m : Nat, m ≤ 16 ∧ (0 ≤ gI σ 50 u → gI σ 51 u = nI m)) : gM l δ yX9_lay cX9_lay 6 (some .int) 2 47 [.ref (δ.2.2.1 1), .int r, .int i, .long v] σ (gPi (fun x σ' => x = fLay (gI σ 50) (gI σ 51) r i ∧ ((¬ x = 0 ∧ σ = σ') ∨ (x = 0 ∧ ∃ (u j : Nat), u < 6 ∧ r = nI u ∧ j < 16 ∧ i = nI j ∧ σ' = uL σ 12 (vp_updL (gL σ 12) (16 * u + j) (gCutV (gI σ 50 u) v)))))) := by
  refine g_of (lv0 := [some (.ref (δ.2.2.1 1)), some (.int r), some (.int i), some (.long v), none, none]) (by decide) rfl (Nat.le_of_ble_eq_true rfl) (fun Γ hl C E => ?_)
  subst hl
  have C : gC Γ δ cX9_lay RX9 6 2 47 := C
  refine g_iload_n C dX9_lay_0 rfl ?_
  refine g_callSi C sS_X9_66 dX9_lay_1 (c_X9_isSheet _ δ _ _) ⟨by decide, by decide⟩ rfl rfl rfl (Nat.le_of_ble_eq_true rfl) (fun r_1 s_1 h_1 => ?_)
  obtain ⟨rfl, h_1⟩ := h_1
  rcases h_1 with ⟨rfl, h_1⟩ | ⟨rfl, h_1⟩
  · obtain ⟨u, hu, rfl⟩ := id h_1
    obtain ⟨m, h16, hm⟩ := hk u hu
    refine g_if_ne C 9 dX9_lay_4 (by decide) (fun c_4 => ?_) (fun c_4 => ?_)
    · refine g_aload_n C dX9_lay_9 rfl ?_
      refine g_iload_n C dX9_lay_10 rfl ?_
      refine g_iload_n C dX9_lay_11 rfl ?_
      refine g_callVi C sV_X9_74 dX9_lay_12 (c_X9_placed _ δ _ hu _ hm h16) ⟨by decide, by decide⟩ (wO_M δ _) rfl rfl rfl rfl (Nat.le_of_ble_eq_true rfl) (fun r_12 s_12 h_12 => ?_)
      obtain ⟨rfl, rfl⟩ := h_12
      refine g_istore C dX9_lay_15 (Nat.le_of_ble_eq_true rfl) rfl ?_
      refine g_lv [some _, some _, some _, some _, none, some _] (gs_some (gs_some (gs_some (gs_some (gs_none (gs_some gs_nil)))))) ?_
      refine g_iload C dX9_lay_17 rfl ?_
      refine g_if_ne C 43 dX9_lay_19 (by decide) (fun c_19 => ?_) (fun c_19 => ?_)
      · refine g_iload C dX9_lay_43 rfl ?_
        exact g_iret C E dX9_lay_45 rfl rfl ⟨_, rfl, ⟨by rw [fLay_at hu], by first | exact Or.inl ⟨c_19, rfl⟩ | exact Or.inr ⟨c_19, u, j, hu, rfl, by omega, rfl, rfl⟩⟩⟩
      · obtain ⟨j, hj, rfl⟩ := fPl_0 c_19 hm h16
        refine g_aload_n C dX9_lay_22 rfl ?_
        refine g_get C dX9_lay_23 iwX9 rfl (wO_M δ _) 2 (Nat.le_of_ble_eq_true rfl) mW574 rfl rfl ?_
        refine g_bipush (v := 16) C dX9_lay_26 (by decide) ?_
        refine g_iload_n C dX9_lay_28 rfl ?_
        refine g_imul C dX9_lay_29 ?_
        refine g_iload_n C dX9_lay_30 rfl ?_
        refine g_iadd C dX9_lay_31 ?_
        refine g_aload_n C dX9_lay_32 rfl ?_
        refine g_get C dX9_lay_33 iwX9 rfl (wO_M δ _) 0 (Nat.le_of_ble_eq_true rfl) mW572 rfl rfl ?_
        refine g_iload_n C dX9_lay_36 rfl ?_
        refine g_ialdN C dX9_lay_37 (k := u) (q := 50) (by decide) rfl (by first | rfl | assumption | (simp only [glit, nI_add, pk_mul]; done) | (simp only [glit, nI_add, pk_mul]; congr 1; omega) | (simp only [*, glit, nI_add, pk_mul]; congr 1; omega)) (show u < gLenI 50 from Nat.lt_of_lt_of_eq (show u < 6 by omega) rfl) ?_
        refine g_lload_n C dX9_lay_38 rfl ?_
        refine g_callSl C sS_X9_78 dX9_lay_39 (c_X9_cut _ δ _ _ _) ⟨by decide, by decide⟩ rfl rfl rfl (Nat.le_of_ble_eq_true rfl) (fun r_39 s_39 h_39 => ?_)
        obtain ⟨rfl, h_39⟩ := h_39
        rw [h_39]
        refine g_lastN C dX9_lay_42 (k := (16 * u + j)) (q := 12) (by decide) rfl (by simp only [glit, nI_add, pk_mul]) (show (16 * u + j) < gLenL 12 from Nat.lt_of_lt_of_eq (show (16 * u + j) < 96 by omega) rfl) ?_
        refine g_iload C dX9_lay_43 rfl ?_
        exact g_iret C E dX9_lay_45 rfl rfl ⟨_, rfl, ⟨by rw [fLay_at hu], by first | exact Or.inl ⟨c_19, rfl⟩ | exact Or.inr ⟨c_19, u, j, hu, rfl, by omega, rfl, rfl⟩⟩⟩
    · exact absurd c_4 (by decide)
  · skip
    refine g_if_ne C 9 dX9_lay_4 (by decide) (fun c_4 => ?_) (fun c_4 => ?_)
    · exact absurd c_4 (by decide)
    · refine g_iconst (v := (-1)) C dX9_lay_7 (by decide) ?_
      exact g_iret C E dX9_lay_8 rfl rfl ⟨_, rfl, ⟨(fLay_no h_1).symm, Or.inl ⟨by decide, rfl⟩⟩⟩
set_option maxRecDepth 100000 in
set_option maxHeartbeats 4000000 in
theorem c_X9_holds (l : Launch) (δ : GD) (σ : GS) (r i : Int32) (v : Int64) (hk : ∀ u, u < 6 → ∃ m : Nat, m ≤ 16 ∧ (0 ≤ gI σ 50 u → gI σ 51 u = nI m)) : gM l δ yX9_holds cX9_holds 6 (some .int) 2 47 [.ref (δ.2.2.1 1), .int r, .int i, .long v] σ (gPi (fun x σ' => σ = σ' ∧ x = fHol (gI σ 50) (gI σ 51) (fun u j => gL σ 12 (16 * u + j)) r i v)) := by
  refine g_of (lv0 := [some (.ref (δ.2.2.1 1)), some (.int r), some (.int i), some (.long v), none, none]) (by decide) rfl (Nat.le_of_ble_eq_true rfl) (fun Γ hl C E => ?_)
  subst hl
  have C : gC Γ δ cX9_holds RX9 6 2 47 := C
  refine g_iload_n C dX9_holds_0 rfl ?_
  refine g_callSi C sS_X9_66 dX9_holds_1 (c_X9_isSheet _ δ _ _) ⟨by decide, by decide⟩ rfl rfl rfl (Nat.le_of_ble_eq_true rfl) (fun r_1 s_1 h_1 => ?_)
  obtain ⟨rfl, h_1⟩ := h_1
  rcases h_1 with ⟨rfl, h_1⟩ | ⟨rfl, h_1⟩
  · obtain ⟨u, hu, rfl⟩ := id h_1
    obtain ⟨m, h16, hm⟩ := hk u hu
    refine g_if_ne C 9 dX9_holds_4 (by decide) (fun c_4 => ?_) (fun c_4 => ?_)
    · refine g_aload_n C dX9_holds_9 rfl ?_
      refine g_iload_n C dX9_holds_10 rfl ?_
      refine g_iload_n C dX9_holds_11 rfl ?_
      refine g_callVi C sV_X9_74 dX9_holds_12 (c_X9_placed _ δ _ hu _ hm h16) ⟨by decide, by decide⟩ (wO_M δ _) rfl rfl rfl rfl (Nat.le_of_ble_eq_true rfl) (fun r_12 s_12 h_12 => ?_)
      obtain ⟨rfl, rfl⟩ := h_12
      refine g_istore C dX9_holds_15 (Nat.le_of_ble_eq_true rfl) rfl ?_
      refine g_lv [some _, some _, some _, some _, none, some _] (gs_some (gs_some (gs_some (gs_some (gs_none (gs_some gs_nil)))))) ?_
      refine g_iload C dX9_holds_17 rfl ?_
      refine g_if_ge C 27 dX9_holds_19 (by decide) (fun c_19 => ?_) (fun c_19 => ?_)
      · have hz := fPl_ge c_19
        obtain ⟨j, hj, rfl⟩ := fPl_0 hz hm h16
        refine g_aload_n C dX9_holds_27 rfl ?_
        refine g_get C dX9_holds_28 iwX9 rfl (wO_M δ _) 2 (Nat.le_of_ble_eq_true rfl) mW574 rfl rfl ?_
        refine g_bipush (v := 16) C dX9_holds_31 (by decide) ?_
        refine g_iload_n C dX9_holds_33 rfl ?_
        refine g_imul C dX9_holds_34 ?_
        refine g_iload_n C dX9_holds_35 rfl ?_
        refine g_iadd C dX9_holds_36 ?_
        refine g_laldN C dX9_holds_37 (k := (16 * u + j)) (q := 12) (by decide) rfl (by simp only [glit, nI_add, pk_mul]) (show (16 * u + j) < gLenL 12 from Nat.lt_of_lt_of_eq (show (16 * u + j) < 96 by omega) rfl) ?_
        refine g_lload_n C dX9_holds_38 rfl ?_
        refine g_lcmp C dX9_holds_39 ?_
        refine g_if_ne C 47 dX9_holds_40 (by decide) (fun c_40 => ?_) (fun c_40 => ?_)
        · rw [lg_cmp_eq] at c_40
          refine g_iconst (v := 0) C dX9_holds_47 (by decide) ?_
          exact g_iret C E dX9_holds_48 rfl rfl ⟨_, rfl, ⟨rfl, by first | exact ((fHol_at hu).trans (if_neg (fPl_ne c_19))).symm | exact ((fHol_at hu).trans ((if_pos hz).trans (if_pos (by rw [nIt (by omega)]; exact c_40)))).symm | exact ((fHol_at hu).trans ((if_pos hz).trans (if_neg (by rw [nIt (by omega)]; exact c_40)))).symm⟩⟩
        · rw [lg_cmp_eq] at c_40
          refine g_iconst (v := 1) C dX9_holds_43 (by decide) ?_
          refine g_goto C 48 dX9_holds_44 (by decide) ?_
          exact g_iret C E dX9_holds_48 rfl rfl ⟨_, rfl, ⟨rfl, by first | exact ((fHol_at hu).trans (if_neg (fPl_ne c_19))).symm | exact ((fHol_at hu).trans ((if_pos hz).trans (if_pos (by rw [nIt (by omega)]; exact c_40)))).symm | exact ((fHol_at hu).trans ((if_pos hz).trans (if_neg (by rw [nIt (by omega)]; exact c_40)))).symm⟩⟩
      · refine g_iload C dX9_holds_22 rfl ?_
        refine g_goto C 48 dX9_holds_24 (by decide) ?_
        exact g_iret C E dX9_holds_48 rfl rfl ⟨_, rfl, ⟨rfl, by first | exact ((fHol_at hu).trans (if_neg (fPl_ne c_19))).symm | exact ((fHol_at hu).trans ((if_pos hz).trans (if_pos (by rw [nIt (by omega)]; exact c_40)))).symm | exact ((fHol_at hu).trans ((if_pos hz).trans (if_neg (by rw [nIt (by omega)]; exact c_40)))).symm⟩⟩
    · exact absurd c_4 (by decide)
  · skip
    refine g_if_ne C 9 dX9_holds_4 (by decide) (fun c_4 => ?_) (fun c_4 => ?_)
    · exact absurd c_4 (by decide)
    · refine g_iconst (v := (-1)) C dX9_holds_7 (by decide) ?_
      exact g_iret C E dX9_holds_8 rfl rfl ⟨_, rfl, ⟨rfl, (fHol_no h_1).symm⟩⟩
set_option maxRecDepth 100000 in
set_option maxHeartbeats 4000000 in
theorem c_X9_isUrn (l : Launch) (δ : GD) (σ : GS) (u : Int32) {m : Nat} (hm : gN σ 33 = nI m) (h8 : m ≤ 8) : gM l δ yX9_isUrn cX9_isUrn 2 (some .boolean) 1 25 [.ref (δ.2.2.1 1), .int u] σ (gPi (fun x σ' => σ = σ' ∧ ((x = 1 ∧ gIx u m) ∨ (x = 0 ∧ ¬ gIx u m)))) := by
  refine g_of (lv0 := [some (.ref (δ.2.2.1 1)), some (.int u)]) (by decide) rfl (Nat.le_of_ble_eq_true rfl) (fun Γ hl C E => ?_)
  subst hl
  have C : gC Γ δ cX9_isUrn RX9 2 1 25 := C
  refine g_iload_n C dX9_isUrn_0 rfl ?_
  refine g_i2l C dX9_isUrn_1 ?_
  refine g_lconst (v := 0) C dX9_isUrn_2 (by decide) ?_
  refine g_aload_n C dX9_isUrn_3 rfl ?_
  refine g_get C dX9_isUrn_4 iwX9 rfl (wO_M δ _) 4 (Nat.le_of_ble_eq_true rfl) mW576 rfl rfl ?_
  rw [hm]
  refine g_iconst (v := 1) C dX9_isUrn_7 (by decide) ?_
  refine g_isub C dX9_isUrn_8 ?_
  refine g_i2l C dX9_isUrn_9 ?_
  refine g_callSi C sS_X9_62 dX9_isUrn_10 (c_X9_in _ δ _ _ _ _) ⟨by decide, by decide⟩ rfl rfl rfl (Nat.le_of_ble_eq_true rfl) (fun r_10 s_10 h_10 => ?_)
  obtain ⟨rfl, h_10⟩ := h_10
  rw [gInL_ix (m := m) (by omega) (gm1 (by omega))] at h_10
  rcases h_10 with ⟨rfl, h_10⟩ | ⟨rfl, h_10⟩
  · skip
    exact g_iret C E dX9_isUrn_13 rfl rfl ⟨_, rfl, ⟨rfl, by first | exact Or.inl ⟨rfl, h_10⟩ | exact Or.inr ⟨rfl, h_10⟩⟩⟩
  · skip
    exact g_iret C E dX9_isUrn_13 rfl rfl ⟨_, rfl, ⟨rfl, by first | exact Or.inl ⟨rfl, h_10⟩ | exact Or.inr ⟨rfl, h_10⟩⟩⟩
set_option maxRecDepth 100000 in
set_option maxHeartbeats 4000000 in
theorem c_X9_isColour (l : Launch) (δ : GD) (σ : GS) {u : Nat} (hu : u < 8) (c : Int32) {n : Nat} (hn : gI σ 52 u = nI n) (h4 : n ≤ 4) : gM l δ yX9_isColour cX9_isColour 3 (some .boolean) 1 25 [.ref (δ.2.2.1 1), .int (nI u), .int c] σ (gPi (fun x σ' => σ = σ' ∧ ((x = 1 ∧ gIx c n) ∨ (x = 0 ∧ ¬ gIx c n)))) := by
  refine g_of (lv0 := [some (.ref (δ.2.2.1 1)), some (.int (nI u)), some (.int c)]) (by decide) rfl (Nat.le_of_ble_eq_true rfl) (fun Γ hl C E => ?_)
  subst hl
  have C : gC Γ δ cX9_isColour RX9 3 1 25 := C
  refine g_iload_n C dX9_isColour_0 rfl ?_
  refine g_i2l C dX9_isColour_1 ?_
  refine g_lconst (v := 0) C dX9_isColour_2 (by decide) ?_
  refine g_aload_n C dX9_isColour_3 rfl ?_
  refine g_get C dX9_isColour_4 iwX9 rfl (wO_M δ _) 5 (Nat.le_of_ble_eq_true rfl) mW577 rfl rfl ?_
  refine g_iload_n C dX9_isColour_7 rfl ?_
  refine g_ialdN C dX9_isColour_8 (k := u) (q := 52) (by decide) rfl (by first | rfl | assumption | (simp only [glit, nI_add, pk_mul]; done) | (simp only [glit, nI_add, pk_mul]; congr 1; omega) | (simp only [*, glit, nI_add, pk_mul]; congr 1; omega)) (show u < gLenI 52 from Nat.lt_of_lt_of_eq (show u < 8 by omega) rfl) ?_
  rw [hn]
  refine g_iconst (v := 1) C dX9_isColour_9 (by decide) ?_
  refine g_isub C dX9_isColour_10 ?_
  refine g_i2l C dX9_isColour_11 ?_
  refine g_callSi C sS_X9_62 dX9_isColour_12 (c_X9_in _ δ _ _ _ _) ⟨by decide, by decide⟩ rfl rfl rfl (Nat.le_of_ble_eq_true rfl) (fun r_12 s_12 h_12 => ?_)
  obtain ⟨rfl, h_12⟩ := h_12
  rw [gInL_ix (m := n) (by omega) (gm1 (by omega))] at h_12
  rcases h_12 with ⟨rfl, h_12⟩ | ⟨rfl, h_12⟩
  · skip
    exact g_iret C E dX9_isColour_15 rfl rfl ⟨_, rfl, ⟨rfl, by first | exact Or.inl ⟨rfl, h_12⟩ | exact Or.inr ⟨rfl, h_12⟩⟩⟩
  · skip
    exact g_iret C E dX9_isColour_15 rfl rfl ⟨_, rfl, ⟨rfl, by first | exact Or.inl ⟨rfl, h_12⟩ | exact Or.inr ⟨rfl, h_12⟩⟩⟩
set_option maxRecDepth 100000 in
set_option maxHeartbeats 4000000 in
theorem c_X9_urn (l : Launch) (δ : GD) (σ : GS) (n : Int32) {m : Nat} (hm : gN σ 33 = nI m) (h8 : m ≤ 8) : gM l δ yX9_urn cX9_urn 2 (some .int) 1 25 [.ref (δ.2.2.1 1), .int n] σ (gPi (fun x σ' => x = fUrn n m ∧ ((x < 0 ∧ σ = σ') ∨ (m < 8 ∧ σ' = uN (uI σ 52 (upd (gI σ 52) m n)) 33 (nI (m + 1)))))) := by
  refine g_of (lv0 := [some (.ref (δ.2.2.1 1)), some (.int n)]) (by decide) rfl (Nat.le_of_ble_eq_true rfl) (fun Γ hl C E => ?_)
  subst hl
  have C : gC Γ δ cX9_urn RX9 2 1 25 := C
  refine g_iload_n C dX9_urn_0 rfl ?_
  refine g_i2l C dX9_urn_1 ?_
  refine g_ldc2 C dX9_urn_2 mW663 ?_
  refine g_ldc2 C dX9_urn_5 mW706 ?_
  refine g_callSi C sS_X9_62 dX9_urn_8 (c_X9_in _ δ _ _ _ _) ⟨by decide, by decide⟩ rfl rfl rfl (Nat.le_of_ble_eq_true rfl) (fun r_8 s_8 h_8 => ?_)
  obtain ⟨rfl, h_8⟩ := h_8
  rcases h_8 with ⟨rfl, h_8⟩ | ⟨rfl, h_8⟩
  · skip
    refine g_if_ne C 16 dX9_urn_11 (by decide) (fun c_11 => ?_) (fun c_11 => ?_)
    · refine g_aload_n C dX9_urn_16 rfl ?_
      refine g_get C dX9_urn_17 iwX9 rfl (wO_M δ _) 4 (Nat.le_of_ble_eq_true rfl) mW576 rfl rfl ?_
      rw [hm]
      refine g_bipush (v := 8) C dX9_urn_20 (by decide) ?_
      refine g_icmp_ne C 28 dX9_urn_22 (by decide) (fun c_22 => ?_) (fun c_22 => ?_)
      · have k_22 := gne c_22 (a := m) (b := 8) (by first | rfl | assumption | (simp only [glit, nI_add, pk_mul]; done) | (simp only [glit, nI_add, pk_mul]; congr 1; omega) | (simp only [*, glit, nI_add, pk_mul]; congr 1; omega)) (by first | rfl | assumption | (simp only [glit, nI_add, pk_mul]; done) | (simp only [glit, nI_add, pk_mul]; congr 1; omega) | (simp only [*, glit, nI_add, pk_mul]; congr 1; omega)) (by omega) (by omega)
        have hz : fUrn n m = nI m := fUrn_o (fUrn_1 h_8) (fUrn_2 h_8) (by omega)
        refine g_aload_n C dX9_urn_28 rfl ?_
        refine g_get C dX9_urn_29 iwX9 rfl (wO_M δ _) 5 (Nat.le_of_ble_eq_true rfl) mW577 rfl rfl ?_
        refine g_aload_n C dX9_urn_32 rfl ?_
        refine g_get C dX9_urn_33 iwX9 rfl (wO_M δ _) 4 (Nat.le_of_ble_eq_true rfl) mW576 rfl rfl ?_
        rw [hm]
        refine g_iload_n C dX9_urn_36 rfl ?_
        refine g_iastN C dX9_urn_37 (k := m) (q := 52) (by decide) rfl (by first | rfl | assumption | (simp only [glit, nI_add, pk_mul]; done) | (simp only [glit, nI_add, pk_mul]; congr 1; omega) | (simp only [*, glit, nI_add, pk_mul]; congr 1; omega)) (show m < gLenI 52 from Nat.lt_of_lt_of_eq (show m < 8 by omega) rfl) ?_
        refine g_aload_n C dX9_urn_38 rfl ?_
        refine g_dup C dX9_urn_39 rfl ?_
        refine g_get C dX9_urn_40 iwX9 rfl (wO_M δ _) 4 (Nat.le_of_ble_eq_true rfl) mW576 rfl rfl ?_
        rw [gN_uI, hm]
        refine g_iconst (v := 1) C dX9_urn_43 (by decide) ?_
        refine g_iadd C dX9_urn_44 ?_
        rw [show nI m + 1 = nI (m + 1) from nI_1 m]
        refine g_put C tyX9 dX9_urn_45 iwX9 tyX9_ok nmX9 rfl (wO_M δ _) 4 (Nat.le_of_ble_eq_true rfl) mW576 rfl rfl rfl rfl rfl (Nat.le_of_ble_eq_true rfl) (pN_33 δ _ _) ?_
        refine g_aload_n C dX9_urn_48 rfl ?_
        refine g_get C dX9_urn_49 iwX9 rfl (wO_M δ _) 4 (Nat.le_of_ble_eq_true rfl) mW576 rfl rfl ?_
        rw [gN_uN, if_pos rfl]
        refine g_iconst (v := 1) C dX9_urn_52 (by decide) ?_
        refine g_isub C dX9_urn_53 ?_
        rw [nI_pred]
        exact g_iret C E dX9_urn_54 rfl rfl ⟨_, rfl, ⟨hz.symm, Or.inr ⟨by omega, rfl⟩⟩⟩
      · have k_22 := geq c_22 (a := m) (b := 8) (by first | rfl | assumption | (simp only [glit, nI_add, pk_mul]; done) | (simp only [glit, nI_add, pk_mul]; congr 1; omega) | (simp only [*, glit, nI_add, pk_mul]; congr 1; omega)) (by first | rfl | assumption | (simp only [glit, nI_add, pk_mul]; done) | (simp only [glit, nI_add, pk_mul]; congr 1; omega) | (simp only [*, glit, nI_add, pk_mul]; congr 1; omega)) (by omega) (by omega)
        have hz : fUrn n m = -3 := fUrn_f (fUrn_1 h_8) (fUrn_2 h_8) k_22
        refine g_bipush (v := (-3)) C dX9_urn_25 (by decide) ?_
        exact g_iret C E dX9_urn_27 rfl rfl ⟨_, rfl, ⟨hz.symm, Or.inl ⟨by decide, rfl⟩⟩⟩
    · exact absurd c_11 (by decide)
  · skip
    refine g_if_ne C 16 dX9_urn_11 (by decide) (fun c_11 => ?_) (fun c_11 => ?_)
    · exact absurd c_11 (by decide)
    · have hz : fUrn n m = -1 := fUrn_k h_8
      refine g_iconst (v := (-1)) C dX9_urn_14 (by decide) ?_
      exact g_iret C E dX9_urn_15 rfl rfl ⟨_, rfl, ⟨hz.symm, Or.inl ⟨by decide, rfl⟩⟩⟩
set_option maxRecDepth 100000 in
set_option maxHeartbeats 4000000 in
theorem c_X9_seed (l : Launch) (δ : GD) (σ : GS) (v : Int32) : gM l δ yX9_seed cX9_seed 2 (some .int) 1 25 [.ref (δ.2.2.1 1), .int v] σ (gPi (fun x σ' => x = fSeed v ∧ ((¬ x = 0 ∧ σ = σ') ∨ (x = 0 ∧ σ' = uI σ 53 (upd (gI σ 53) 200 v))))) := by
  refine g_of (lv0 := [some (.ref (δ.2.2.1 1)), some (.int v)]) (by decide) rfl (Nat.le_of_ble_eq_true rfl) (fun Γ hl C E => ?_)
  subst hl
  have C : gC Γ δ cX9_seed RX9 2 1 25 := C
  refine g_iload_n C dX9_seed_0 rfl ?_
  refine g_i2l C dX9_seed_1 ?_
  refine g_lconst (v := 1) C dX9_seed_2 (by decide) ?_
  refine g_ldc2 C dX9_seed_3 mW759 ?_
  refine g_callSi C sS_X9_62 dX9_seed_6 (c_X9_in _ δ _ _ _ _) ⟨by decide, by decide⟩ rfl rfl rfl (Nat.le_of_ble_eq_true rfl) (fun r_6 s_6 h_6 => ?_)
  obtain ⟨rfl, h_6⟩ := h_6
  rcases h_6 with ⟨rfl, h_6⟩ | ⟨rfl, h_6⟩
  · skip
    refine g_if_ne C 14 dX9_seed_9 (by decide) (fun c_9 => ?_) (fun c_9 => ?_)
    · refine g_aload_n C dX9_seed_14 rfl ?_
      refine g_get C dX9_seed_15 iwX9 rfl (wO_M δ _) 6 (Nat.le_of_ble_eq_true rfl) mW578 rfl rfl ?_
      refine g_sipush (v := 200) C dX9_seed_18 (by decide) ?_
      refine g_iload_n C dX9_seed_21 rfl ?_
      refine g_iastN C dX9_seed_22 (k := 200) (q := 53) (by decide) rfl (by first | rfl | assumption | (simp only [glit, nI_add, pk_mul]; done) | (simp only [glit, nI_add, pk_mul]; congr 1; omega) | (simp only [*, glit, nI_add, pk_mul]; congr 1; omega)) (show 200 < gLenI 53 from Nat.lt_of_lt_of_eq (show 200 < 202 by omega) rfl) ?_
      refine g_iconst (v := 0) C dX9_seed_23 (by decide) ?_
      exact g_iret C E dX9_seed_24 rfl rfl ⟨_, rfl, ⟨(fSeed_ok h_6).symm, Or.inr ⟨rfl, rfl⟩⟩⟩
    · exact absurd c_9 (by decide)
  · skip
    refine g_if_ne C 14 dX9_seed_9 (by decide) (fun c_9 => ?_) (fun c_9 => ?_)
    · exact absurd c_9 (by decide)
    · refine g_iconst (v := (-1)) C dX9_seed_12 (by decide) ?_
      exact g_iret C E dX9_seed_13 rfl rfl ⟨_, rfl, ⟨(fSeed_no h_6).symm, Or.inl ⟨by decide, rfl⟩⟩⟩
set_option maxRecDepth 100000 in
set_option maxHeartbeats 4000000 in
theorem c_X9_part (l : Launch) (δ : GD) (σ : GS) (x : Int32) (hd : ¬ gG σ 12 = 0) : gM l δ yX9_part cX9_part 2 (some .long) 0 0 [.ref (δ.2.2.1 1), .int x] σ (gPl (fun y σ' => σ = σ' ∧ y = fPart x (gG σ 10 + gG σ 11 / gG σ 12) (gG σ 11 - gG σ 11 / gG σ 12 * gG σ 12) (if gG σ 11 - gG σ 11 / gG σ 12 * gG σ 12 = 0 then 1 else gG σ 12))) := by
  refine g_of (lv0 := [some (.ref (δ.2.2.1 1)), some (.int x)]) (by decide) rfl (Nat.le_of_ble_eq_true rfl) (fun Γ hl C E => ?_)
  subst hl
  have C : gC Γ δ cX9_part RX9 2 0 0 := C
  refine g_iload_n C dX9_part_0 rfl ?_
  rcases gsw x 2 (by omega) with h_1 | h_1
  · refine g_tableOut C 76 dX9_part_1 (by simpa using h_1) (by decide) ?_
    refine g_ldc2 C dX9_part_76 mW662 ?_
    exact g_lret C E dX9_part_79 rfl ⟨_, rfl, ⟨rfl, (fPart_out h_1).symm⟩⟩
  · rcases gsw2 x h_1 with h_1 | h_1 | h_1
    · rw [h_1]
      refine g_tableIn C 28 dX9_part_1 (by decide) (by decide) rfl (by decide) ?_
      refine g_aload_n C dX9_part_28 rfl ?_
      refine g_get C dX9_part_29 iwX9 rfl (wO_M δ _) 9 (Nat.le_of_ble_eq_true rfl) mW581 rfl rfl ?_
      refine g_aload_n C dX9_part_32 rfl ?_
      refine g_get C dX9_part_33 iwX9 rfl (wO_M δ _) 10 (Nat.le_of_ble_eq_true rfl) mW582 rfl rfl ?_
      refine g_aload_n C dX9_part_36 rfl ?_
      refine g_get C dX9_part_37 iwX9 rfl (wO_M δ _) 11 (Nat.le_of_ble_eq_true rfl) mW583 rfl rfl ?_
      refine g_ldiv C dX9_part_40 hd ?_
      refine g_ladd C dX9_part_41 ?_
      exact g_lret C E dX9_part_42 rfl ⟨_, rfl, ⟨rfl, by rw [h_1]; rfl⟩⟩
    · rw [h_1]
      refine g_tableIn C 43 dX9_part_1 (by decide) (by decide) rfl (by decide) ?_
      refine g_aload_n C dX9_part_43 rfl ?_
      refine g_get C dX9_part_44 iwX9 rfl (wO_M δ _) 10 (Nat.le_of_ble_eq_true rfl) mW582 rfl rfl ?_
      refine g_aload_n C dX9_part_47 rfl ?_
      refine g_get C dX9_part_48 iwX9 rfl (wO_M δ _) 11 (Nat.le_of_ble_eq_true rfl) mW583 rfl rfl ?_
      refine g_lrem C dX9_part_51 hd ?_
      exact g_lret C E dX9_part_52 rfl ⟨_, rfl, ⟨rfl, by rw [h_1]; rfl⟩⟩
    · rw [h_1]
      refine g_tableIn C 53 dX9_part_1 (by decide) (by decide) rfl (by decide) ?_
      refine g_aload_n C dX9_part_53 rfl ?_
      refine g_get C dX9_part_54 iwX9 rfl (wO_M δ _) 10 (Nat.le_of_ble_eq_true rfl) mW582 rfl rfl ?_
      refine g_aload_n C dX9_part_57 rfl ?_
      refine g_get C dX9_part_58 iwX9 rfl (wO_M δ _) 11 (Nat.le_of_ble_eq_true rfl) mW583 rfl rfl ?_
      refine g_lrem C dX9_part_61 hd ?_
      refine g_lconst (v := 0) C dX9_part_62 (by decide) ?_
      refine g_lcmp C dX9_part_63 ?_
      refine g_if_ne C 71 dX9_part_64 (by decide) (fun c_64 => ?_) (fun c_64 => ?_)
      · rw [lg_cmp_eq] at c_64
        refine g_aload_n C dX9_part_71 rfl ?_
        refine g_get C dX9_part_72 iwX9 rfl (wO_M δ _) 11 (Nat.le_of_ble_eq_true rfl) mW583 rfl rfl ?_
        exact g_lret C E dX9_part_75 rfl ⟨_, rfl, ⟨rfl, by first | (rw [h_1, if_pos c_64]; rfl) | (rw [h_1, if_neg c_64]; rfl)⟩⟩
      · rw [lg_cmp_eq] at c_64
        refine g_lconst (v := 1) C dX9_part_67 (by decide) ?_
        refine g_goto C 75 dX9_part_68 (by decide) ?_
        exact g_lret C E dX9_part_75 rfl ⟨_, rfl, ⟨rfl, by first | (rw [h_1, if_pos c_64]; rfl) | (rw [h_1, if_neg c_64]; rfl)⟩⟩
set_option maxRecDepth 100000 in
set_option maxHeartbeats 4000000 in
theorem c_X9_count (l : Launch) (δ : GD) (σ : GS) (x : Int32) : gM l δ yX9_count cX9_count 2 (some .int) 0 0 [.ref (δ.2.2.1 1), .int x] σ (gPi (fun y σ' => σ = σ' ∧ y = fCnt x (gN σ 33) (gN σ 34) (gI σ 53 201) (gI σ 53 200))) := by
  refine g_of (lv0 := [some (.ref (δ.2.2.1 1)), some (.int x)]) (by decide) rfl (Nat.le_of_ble_eq_true rfl) (fun Γ hl C E => ?_)
  subst hl
  have C : gC Γ δ cX9_count RX9 2 0 0 := C
  refine g_iload_n C dX9_count_0 rfl ?_
  rcases gsw x 3 (by omega) with h_1 | h_1
  · refine g_tableOut C 60 dX9_count_1 (by simpa using h_1) (by decide) ?_
    refine g_iconst (v := (-1)) C dX9_count_60 (by decide) ?_
    exact g_iret C E dX9_count_61 rfl rfl ⟨_, rfl, ⟨rfl, (fCnt_out h_1).symm⟩⟩
  · rcases gsw3 x h_1 with h_1 | h_1 | h_1 | h_1
    · rw [h_1]
      refine g_tableIn C 32 dX9_count_1 (by decide) (by decide) rfl (by decide) ?_
      refine g_aload_n C dX9_count_32 rfl ?_
      refine g_get C dX9_count_33 iwX9 rfl (wO_M δ _) 4 (Nat.le_of_ble_eq_true rfl) mW576 rfl rfl ?_
      exact g_iret C E dX9_count_36 rfl rfl ⟨_, rfl, ⟨rfl, by rw [h_1]; rfl⟩⟩
    · rw [h_1]
      refine g_tableIn C 37 dX9_count_1 (by decide) (by decide) rfl (by decide) ?_
      refine g_aload_n C dX9_count_37 rfl ?_
      refine g_get C dX9_count_38 iwX9 rfl (wO_M δ _) 8 (Nat.le_of_ble_eq_true rfl) mW580 rfl rfl ?_
      exact g_iret C E dX9_count_41 rfl rfl ⟨_, rfl, ⟨rfl, by rw [h_1]; rfl⟩⟩
    · rw [h_1]
      refine g_tableIn C 42 dX9_count_1 (by decide) (by decide) rfl (by decide) ?_
      refine g_aload_n C dX9_count_42 rfl ?_
      refine g_get C dX9_count_43 iwX9 rfl (wO_M δ _) 6 (Nat.le_of_ble_eq_true rfl) mW578 rfl rfl ?_
      refine g_sipush (v := 201) C dX9_count_46 (by decide) ?_
      refine g_ialdN C dX9_count_49 (k := 201) (q := 53) (by decide) rfl (by first | rfl | assumption | (simp only [glit, nI_add, pk_mul]; done) | (simp only [glit, nI_add, pk_mul]; congr 1; omega) | (simp only [*, glit, nI_add, pk_mul]; congr 1; omega)) (show 201 < gLenI 53 from Nat.lt_of_lt_of_eq (show 201 < 202 by omega) rfl) ?_
      exact g_iret C E dX9_count_50 rfl rfl ⟨_, rfl, ⟨rfl, by rw [h_1]; rfl⟩⟩
    · rw [h_1]
      refine g_tableIn C 51 dX9_count_1 (by decide) (by decide) rfl (by decide) ?_
      refine g_aload_n C dX9_count_51 rfl ?_
      refine g_get C dX9_count_52 iwX9 rfl (wO_M δ _) 6 (Nat.le_of_ble_eq_true rfl) mW578 rfl rfl ?_
      refine g_sipush (v := 200) C dX9_count_55 (by decide) ?_
      refine g_ialdN C dX9_count_58 (k := 200) (q := 53) (by decide) rfl (by first | rfl | assumption | (simp only [glit, nI_add, pk_mul]; done) | (simp only [glit, nI_add, pk_mul]; congr 1; omega) | (simp only [*, glit, nI_add, pk_mul]; congr 1; omega)) (show 200 < gLenI 53 from Nat.lt_of_lt_of_eq (show 200 < 202 by omega) rfl) ?_
      exact g_iret C E dX9_count_59 rfl rfl ⟨_, rfl, ⟨rfl, by rw [h_1]; rfl⟩⟩
set_option maxRecDepth 100000 in
set_option maxHeartbeats 4000000 in
theorem c_X9_copy (l : Launch) (δ : GD) (σ : GS) (r i t j n : Int32) (hk : ∀ u, u < 6 → ∃ m : Nat, m ≤ 16 ∧ (0 ≤ gI σ 50 u → gI σ 51 u = nI m)) : gM l δ yX9_copy cX9_copy 7 (some .int) 2 45 [.ref (δ.2.2.1 1), .int r, .int i, .int t, .int j, .int n] σ (gPi (fun x σ' => x = fCop (gI σ 50) (gI σ 51) r i t j n ∧ ((¬ x = 0 ∧ σ = σ') ∨ (x = 0 ∧ ∃ (a b i' j' n' : Nat) (g : Nat → Int64), a < 6 ∧ b < 6 ∧ r = nI a ∧ t = nI b ∧ i = nI i' ∧ j = nI j' ∧ n = nI n' ∧ i' + n' ≤ 16 ∧ j' + n' ≤ 16 ∧ σ' = uL (uL σ 13 g) 12 (gcp (gL σ 12) (gL σ 12) (16 * a + i') (16 * b + j') n'))))) := by
  refine g_of (lv0 := [some (.ref (δ.2.2.1 1)), some (.int r), some (.int i), some (.int t), some (.int j), some (.int n), none]) (by decide) rfl (Nat.le_of_ble_eq_true rfl) (fun Γ hl C E => ?_)
  subst hl
  have C : gC Γ δ cX9_copy RX9 7 2 45 := C
  refine g_iload_n C dX9_copy_0 rfl ?_
  refine g_callSi C sS_X9_66 dX9_copy_1 (c_X9_isSheet _ δ _ _) ⟨by decide, by decide⟩ rfl rfl rfl (Nat.le_of_ble_eq_true rfl) (fun r_1 s_1 h_1 => ?_)
  obtain ⟨rfl, h_1⟩ := h_1
  rcases h_1 with ⟨rfl, h_1⟩ | ⟨rfl, h_1⟩
  · obtain ⟨a, ha, rfl⟩ := id h_1
    obtain ⟨ma, ka, ea⟩ := hk a ha
    refine g_if_eq C 14 dX9_copy_4 (by decide) (fun c_4 => ?_) (fun c_4 => ?_)
    · exact absurd c_4 (by decide)
    · refine g_iload_n C dX9_copy_7 rfl ?_
      refine g_callSi C sS_X9_66 dX9_copy_8 (c_X9_isSheet _ δ _ _) ⟨by decide, by decide⟩ rfl rfl rfl (Nat.le_of_ble_eq_true rfl) (fun r_8 s_8 h_8 => ?_)
      obtain ⟨rfl, h_8⟩ := h_8
      rcases h_8 with ⟨rfl, h_8⟩ | ⟨rfl, h_8⟩
      · obtain ⟨b, hb, rfl⟩ := id h_8
        obtain ⟨mb, kb, eb⟩ := hk b hb
        refine g_if_ne C 16 dX9_copy_11 (by decide) (fun c_11 => ?_) (fun c_11 => ?_)
        · refine g_aload_n C dX9_copy_16 rfl ?_
          refine g_get C dX9_copy_17 iwX9 rfl (wO_M δ _) 0 (Nat.le_of_ble_eq_true rfl) mW572 rfl rfl ?_
          refine g_iload_n C dX9_copy_20 rfl ?_
          refine g_ialdN C dX9_copy_21 (k := a) (q := 50) (by decide) rfl (by first | rfl | assumption | (simp only [glit, nI_add, pk_mul]; done) | (simp only [glit, nI_add, pk_mul]; congr 1; omega) | (simp only [*, glit, nI_add, pk_mul]; congr 1; omega)) (show a < gLenI 50 from Nat.lt_of_lt_of_eq (show a < 6 by omega) rfl) ?_
          refine g_if_lt C 34 dX9_copy_22 (by decide) (fun c_22 => ?_) (fun c_22 => ?_)
          · have hz : fCop (gI σ 50) (gI σ 51) (nI a) i (nI b) j n = -11 := (fCop_at ha hb).trans (if_pos (Or.inl c_22))
            refine g_bipush (v := (-11)) C dX9_copy_34 (by decide) ?_
            exact g_iret C E dX9_copy_36 rfl rfl ⟨_, rfl, ⟨hz.symm, Or.inl ⟨by decide, rfl⟩⟩⟩
          · refine g_aload_n C dX9_copy_25 rfl ?_
            refine g_get C dX9_copy_26 iwX9 rfl (wO_M δ _) 0 (Nat.le_of_ble_eq_true rfl) mW572 rfl rfl ?_
            refine g_iload_n C dX9_copy_29 rfl ?_
            refine g_ialdN C dX9_copy_30 (k := b) (q := 50) (by decide) rfl (by first | rfl | assumption | (simp only [glit, nI_add, pk_mul]; done) | (simp only [glit, nI_add, pk_mul]; congr 1; omega) | (simp only [*, glit, nI_add, pk_mul]; congr 1; omega)) (show b < gLenI 50 from Nat.lt_of_lt_of_eq (show b < 6 by omega) rfl) ?_
            refine g_if_ge C 37 dX9_copy_31 (by decide) (fun c_31 => ?_) (fun c_31 => ?_)
            · have ea := ea (Int32.not_lt.mp c_22)
              have eb := eb c_31
              have n1 : ¬ gI σ 50 b < 0 := Int32.not_lt.mpr c_31
              refine g_aload_n C dX9_copy_37 rfl ?_
              refine g_get C dX9_copy_38 iwX9 rfl (wO_M δ _) 0 (Nat.le_of_ble_eq_true rfl) mW572 rfl rfl ?_
              refine g_iload_n C dX9_copy_41 rfl ?_
              refine g_ialdN C dX9_copy_42 (k := a) (q := 50) (by decide) rfl (by first | rfl | assumption | (simp only [glit, nI_add, pk_mul]; done) | (simp only [glit, nI_add, pk_mul]; congr 1; omega) | (simp only [*, glit, nI_add, pk_mul]; congr 1; omega)) (show a < gLenI 50 from Nat.lt_of_lt_of_eq (show a < 6 by omega) rfl) ?_
              refine g_aload_n C dX9_copy_43 rfl ?_
              refine g_get C dX9_copy_44 iwX9 rfl (wO_M δ _) 0 (Nat.le_of_ble_eq_true rfl) mW572 rfl rfl ?_
              refine g_iload_n C dX9_copy_47 rfl ?_
              refine g_ialdN C dX9_copy_48 (k := b) (q := 50) (by decide) rfl (by first | rfl | assumption | (simp only [glit, nI_add, pk_mul]; done) | (simp only [glit, nI_add, pk_mul]; congr 1; omega) | (simp only [*, glit, nI_add, pk_mul]; congr 1; omega)) (show b < gLenI 50 from Nat.lt_of_lt_of_eq (show b < 6 by omega) rfl) ?_
              refine g_icmp_eq C 55 dX9_copy_49 (by decide) (fun c_49 => ?_) (fun c_49 => ?_)
              · refine g_iload C dX9_copy_55 rfl ?_
                refine g_if_lt C 96 dX9_copy_57 (by decide) (fun c_57 => ?_) (fun c_57 => ?_)
                · have hz : fCop (gI σ 50) (gI σ 51) (nI a) i (nI b) j n = -12 := fCop_x ha hb c_22 n1 c_49 ea eb ka kb (fun q => gRch_n c_57 q.1)
                  refine g_bipush (v := (-12)) C dX9_copy_96 (by decide) ?_
                  exact g_iret C E dX9_copy_98 rfl rfl ⟨_, rfl, ⟨hz.symm, Or.inl ⟨by decide, rfl⟩⟩⟩
                · refine g_iload_n C dX9_copy_60 rfl ?_
                  refine g_if_lt C 96 dX9_copy_61 (by decide) (fun c_61 => ?_) (fun c_61 => ?_)
                  · have hz : fCop (gI σ 50) (gI σ 51) (nI a) i (nI b) j n = -12 := fCop_x ha hb c_22 n1 c_49 ea eb ka kb (fun q => gRch_i c_61 q.1)
                    refine g_bipush (v := (-12)) C dX9_copy_96 (by decide) ?_
                    exact g_iret C E dX9_copy_98 rfl rfl ⟨_, rfl, ⟨hz.symm, Or.inl ⟨by decide, rfl⟩⟩⟩
                  · refine g_iload C dX9_copy_64 rfl ?_
                    refine g_if_lt C 96 dX9_copy_66 (by decide) (fun c_66 => ?_) (fun c_66 => ?_)
                    · have hz : fCop (gI σ 50) (gI σ 51) (nI a) i (nI b) j n = -12 := fCop_x ha hb c_22 n1 c_49 ea eb ka kb (fun q => gRch_i c_66 q.2)
                      refine g_bipush (v := (-12)) C dX9_copy_96 (by decide) ?_
                      exact g_iret C E dX9_copy_98 rfl rfl ⟨_, rfl, ⟨hz.symm, Or.inl ⟨by decide, rfl⟩⟩⟩
                    · refine g_iload C dX9_copy_69 rfl ?_
                      refine g_aload_n C dX9_copy_71 rfl ?_
                      refine g_get C dX9_copy_72 iwX9 rfl (wO_M δ _) 1 (Nat.le_of_ble_eq_true rfl) mW573 rfl rfl ?_
                      refine g_iload_n C dX9_copy_75 rfl ?_
                      refine g_ialdN C dX9_copy_76 (k := a) (q := 51) (by decide) rfl (by first | rfl | assumption | (simp only [glit, nI_add, pk_mul]; done) | (simp only [glit, nI_add, pk_mul]; congr 1; omega) | (simp only [*, glit, nI_add, pk_mul]; congr 1; omega)) (show a < gLenI 51 from Nat.lt_of_lt_of_eq (show a < 6 by omega) rfl) ?_
                      rw [ea]
                      refine g_iload_n C dX9_copy_77 rfl ?_
                      refine g_isub C dX9_copy_78 ?_
                      refine g_icmp_gt C 96 dX9_copy_79 (by decide) (fun c_79 => ?_) (fun c_79 => ?_)
                      · have hz : fCop (gI σ 50) (gI σ 51) (nI a) i (nI b) j n = -12 := fCop_x ha hb c_22 n1 c_49 ea eb ka kb (fun q => gRch_big ka c_61 c_57 c_79 q.1)
                        refine g_bipush (v := (-12)) C dX9_copy_96 (by decide) ?_
                        exact g_iret C E dX9_copy_98 rfl rfl ⟨_, rfl, ⟨hz.symm, Or.inl ⟨by decide, rfl⟩⟩⟩
                      · refine g_iload C dX9_copy_82 rfl ?_
                        refine g_aload_n C dX9_copy_84 rfl ?_
                        refine g_get C dX9_copy_85 iwX9 rfl (wO_M δ _) 1 (Nat.le_of_ble_eq_true rfl) mW573 rfl rfl ?_
                        refine g_iload_n C dX9_copy_88 rfl ?_
                        refine g_ialdN C dX9_copy_89 (k := b) (q := 51) (by decide) rfl (by first | rfl | assumption | (simp only [glit, nI_add, pk_mul]; done) | (simp only [glit, nI_add, pk_mul]; congr 1; omega) | (simp only [*, glit, nI_add, pk_mul]; congr 1; omega)) (show b < gLenI 51 from Nat.lt_of_lt_of_eq (show b < 6 by omega) rfl) ?_
                        rw [eb]
                        refine g_iload C dX9_copy_90 rfl ?_
                        refine g_isub C dX9_copy_92 ?_
                        refine g_icmp_le C 99 dX9_copy_93 (by decide) (fun c_93 => ?_) (fun c_93 => ?_)
                        · have r1 := gRch_ok ka c_61 c_57 c_79
                          have r2 := gRch_ok kb c_66 c_57 (Int32.not_lt.mpr c_93)
                          have hz : fCop (gI σ 50) (gI σ 51) (nI a) i (nI b) j n = 0 := fCop_0 ha hb c_22 n1 c_49 ea eb ka kb ⟨r1, r2⟩
                          obtain ⟨i', n', rfl, rfl, w1⟩ := gRch_nat r1 ka
                          obtain ⟨j', n2, rfl, en, w2⟩ := gRch_nat r2 kb
                          have en : n' = n2 := geq en rfl rfl (by omega) (by omega)
                          subst en
                          refine g_iconst (v := 0) C dX9_copy_99 (by decide) ?_
                          refine g_istore C dX9_copy_100 (Nat.le_of_ble_eq_true rfl) rfl ?_
                          refine g_lv [some _, some _, some _, some _, some _, some _, some _] (gs_some (gs_some (gs_some (gs_some (gs_some (gs_some (gs_some gs_nil))))))) ?_
                          have L_102 : ∀ (nn : Nat) (k : Nat) (g : Nat → Int64) (hk : k ≤ n') (hg : ∀ q, q < k → g q = gL σ 12 (16 * a + i' + q)), n' - k < nn → gW Γ δ (uL σ 13 g) 102 [some (.ref (δ.2.2.1 1)), some (.int (nI a)), some (.int (nI i')), some (.int (nI b)), some (.int (nI j')), some (.int (nI n')), some (.int (nI k))] [] := by
                            intro nn
                            induction nn with
                            | zero =>
                              intro k g hk hg hm_102
                              exact absurd hm_102 (Nat.not_lt_zero _)
                            | succ nn ih_102 =>
                              intro k g hk hg hm_102
                              refine g_iload C dX9_copy_102 rfl ?_
                              refine g_iload C dX9_copy_104 rfl ?_
                              refine g_icmp_ge C 136 dX9_copy_106 (by decide) (fun c_106 => ?_) (fun c_106 => ?_)
                              · have k_106 := gle c_106 (a := n') (b := k) (by first | rfl | assumption | (simp only [glit, nI_add, pk_mul]; done) | (simp only [glit, nI_add, pk_mul]; congr 1; omega) | (simp only [*, glit, nI_add, pk_mul]; congr 1; omega)) (by first | rfl | assumption | (simp only [glit, nI_add, pk_mul]; done) | (simp only [glit, nI_add, pk_mul]; congr 1; omega) | (simp only [*, glit, nI_add, pk_mul]; congr 1; omega)) (by omega) (by omega)
                                have ek : n' = k := by omega
                                subst ek
                                refine g_iconst (v := 0) C dX9_copy_136 (by decide) ?_
                                refine g_istore C dX9_copy_137 (Nat.le_of_ble_eq_true rfl) rfl ?_
                                refine g_lv [some _, some _, some _, some _, some _, some _, some _] (gs_some (gs_some (gs_some (gs_some (gs_some (gs_some (gs_some gs_nil))))))) ?_
                                have L_139 : ∀ (nn : Nat) (k : Nat) (hk : k ≤ n'), n' - k < nn → gW Γ δ (uL (uL σ 13 g) 12 (gcp (gL σ 12) (gL σ 12) (16 * a + i') (16 * b + j') k)) 139 [some (.ref (δ.2.2.1 1)), some (.int (nI a)), some (.int (nI i')), some (.int (nI b)), some (.int (nI j')), some (.int (nI n')), some (.int (nI k))] [] := by
                                  intro nn
                                  induction nn with
                                  | zero =>
                                    intro k hk hm_139
                                    exact absurd hm_139 (Nat.not_lt_zero _)
                                  | succ nn ih_139 =>
                                    intro k hk hm_139
                                    refine g_iload C dX9_copy_139 rfl ?_
                                    refine g_iload C dX9_copy_141 rfl ?_
                                    refine g_icmp_ge C 174 dX9_copy_143 (by decide) (fun c_143 => ?_) (fun c_143 => ?_)
                                    · have k_143 := gle c_143 (a := n') (b := k) (by first | rfl | assumption | (simp only [glit, nI_add, pk_mul]; done) | (simp only [glit, nI_add, pk_mul]; congr 1; omega) | (simp only [*, glit, nI_add, pk_mul]; congr 1; omega)) (by first | rfl | assumption | (simp only [glit, nI_add, pk_mul]; done) | (simp only [glit, nI_add, pk_mul]; congr 1; omega) | (simp only [*, glit, nI_add, pk_mul]; congr 1; omega)) (by omega) (by omega)
                                      have ek : n' = k := by omega
                                      subst ek
                                      refine g_iconst (v := 0) C dX9_copy_174 (by decide) ?_
                                      exact g_iret C E dX9_copy_175 rfl rfl ⟨_, rfl, ⟨hz.symm, Or.inr ⟨rfl, a, b, i', j', _, g, ha, hb, rfl, rfl, rfl, rfl, rfl, by omega, by omega, rfl⟩⟩⟩
                                    · have k_143 := gnle c_143 (a := n') (b := k) (by first | rfl | assumption | (simp only [glit, nI_add, pk_mul]; done) | (simp only [glit, nI_add, pk_mul]; congr 1; omega) | (simp only [*, glit, nI_add, pk_mul]; congr 1; omega)) (by first | rfl | assumption | (simp only [glit, nI_add, pk_mul]; done) | (simp only [glit, nI_add, pk_mul]; congr 1; omega) | (simp only [*, glit, nI_add, pk_mul]; congr 1; omega)) (by omega) (by omega)
                                      refine g_aload_n C dX9_copy_146 rfl ?_
                                      refine g_get C dX9_copy_147 iwX9 rfl (wO_M δ _) 2 (Nat.le_of_ble_eq_true rfl) mW574 rfl rfl ?_
                                      refine g_bipush (v := 16) C dX9_copy_150 (by decide) ?_
                                      refine g_iload_n C dX9_copy_152 rfl ?_
                                      refine g_imul C dX9_copy_153 ?_
                                      refine g_iload C dX9_copy_154 rfl ?_
                                      refine g_iadd C dX9_copy_156 ?_
                                      refine g_iload C dX9_copy_157 rfl ?_
                                      refine g_iadd C dX9_copy_159 ?_
                                      refine g_aload_n C dX9_copy_160 rfl ?_
                                      refine g_get C dX9_copy_161 iwX9 rfl (wO_M δ _) 3 (Nat.le_of_ble_eq_true rfl) mW575 rfl rfl ?_
                                      refine g_iload C dX9_copy_164 rfl ?_
                                      refine g_laldN C dX9_copy_166 (k := k) (q := 13) (by decide) rfl (by first | rfl | assumption | (simp only [glit, nI_add, pk_mul]; done) | (simp only [glit, nI_add, pk_mul]; congr 1; omega) | (simp only [*, glit, nI_add, pk_mul]; congr 1; omega)) (show k < gLenL 13 from Nat.lt_of_lt_of_eq (show k < 16 by omega) rfl) ?_
                                      refine g_lastN C dX9_copy_167 (k := (16 * b + j' + k)) (q := 12) (by decide) rfl (by simp only [glit, nI_add, pk_mul]) (show (16 * b + j' + k) < gLenL 12 from Nat.lt_of_lt_of_eq (show (16 * b + j' + k) < 96 by omega) rfl) ?_
                                      rw [uL_uL, gL_uL, if_pos rfl, gL_uL, if_neg (by decide), gL_uL, if_pos rfl, hg k (by omega), gcp_s]
                                      refine g_iinc (v := nI (k + 1)) C dX9_copy_168 rfl (ginc _ 1) rfl ?_
                                      refine g_lv [some _, some _, some _, some _, some _, some _, some _] (gs_some (gs_some (gs_some (gs_some (gs_some (gs_some (gs_some gs_nil))))))) ?_
                                      refine g_goto C 139 dX9_copy_171 (by decide) ?_
                                      refine g_lv [some _, some _, some _, some _, some _, some _, some _] (gs_some (gs_some (gs_some (gs_some (gs_some (gs_some (gs_some gs_nil))))))) ?_
                                      exact ih_139 (k + 1) (by omega) (by omega)
                                refine g_lv [some _, some _, some _, some _, some _, some _, some _] (gs_some (gs_some (gs_some (gs_some (gs_some (gs_some (gs_some gs_nil))))))) ?_
                                refine g_st (σ' := uL (uL σ 13 g) 12 (gcp (gL σ 12) (gL σ 12) (16 * a + i') (16 * b + j') 0)) (by rw [gcp_0]; exact (uL_id (uL σ 13 g) 12).symm) ?_
                                exact L_139 _ 0 (by omega) (Nat.lt_succ_self _)
                              · have k_106 := gnle c_106 (a := n') (b := k) (by first | rfl | assumption | (simp only [glit, nI_add, pk_mul]; done) | (simp only [glit, nI_add, pk_mul]; congr 1; omega) | (simp only [*, glit, nI_add, pk_mul]; congr 1; omega)) (by first | rfl | assumption | (simp only [glit, nI_add, pk_mul]; done) | (simp only [glit, nI_add, pk_mul]; congr 1; omega) | (simp only [*, glit, nI_add, pk_mul]; congr 1; omega)) (by omega) (by omega)
                                refine g_aload_n C dX9_copy_109 rfl ?_
                                refine g_get C dX9_copy_110 iwX9 rfl (wO_M δ _) 3 (Nat.le_of_ble_eq_true rfl) mW575 rfl rfl ?_
                                refine g_iload C dX9_copy_113 rfl ?_
                                refine g_aload_n C dX9_copy_115 rfl ?_
                                refine g_get C dX9_copy_116 iwX9 rfl (wO_M δ _) 2 (Nat.le_of_ble_eq_true rfl) mW574 rfl rfl ?_
                                refine g_bipush (v := 16) C dX9_copy_119 (by decide) ?_
                                refine g_iload_n C dX9_copy_121 rfl ?_
                                refine g_imul C dX9_copy_122 ?_
                                refine g_iload_n C dX9_copy_123 rfl ?_
                                refine g_iadd C dX9_copy_124 ?_
                                refine g_iload C dX9_copy_125 rfl ?_
                                refine g_iadd C dX9_copy_127 ?_
                                refine g_laldN C dX9_copy_128 (k := (16 * a + i' + k)) (q := 12) (by decide) rfl (by simp only [glit, nI_add, pk_mul]) (show (16 * a + i' + k) < gLenL 12 from Nat.lt_of_lt_of_eq (show (16 * a + i' + k) < 96 by omega) rfl) ?_
                                refine g_lastN C dX9_copy_129 (k := k) (q := 13) (by decide) rfl (by first | rfl | assumption | (simp only [glit, nI_add, pk_mul]; done) | (simp only [glit, nI_add, pk_mul]; congr 1; omega) | (simp only [*, glit, nI_add, pk_mul]; congr 1; omega)) (show k < gLenL 13 from Nat.lt_of_lt_of_eq (show k < 16 by omega) rfl) ?_
                                rw [uL_uL, gL_uL, if_pos rfl]
                                refine g_iinc (v := nI (k + 1)) C dX9_copy_130 rfl (ginc _ 1) rfl ?_
                                refine g_lv [some _, some _, some _, some _, some _, some _, some _] (gs_some (gs_some (gs_some (gs_some (gs_some (gs_some (gs_some gs_nil))))))) ?_
                                refine g_goto C 102 dX9_copy_133 (by decide) ?_
                                refine g_lv [some _, some _, some _, some _, some _, some _, some _] (gs_some (gs_some (gs_some (gs_some (gs_some (gs_some (gs_some gs_nil))))))) ?_
                                exact ih_102 (k + 1) _ (by omega) (fun q h => gfil3 hg (by rw [gL_uL, if_neg (by decide)]) h) (by omega)
                          refine g_lv [some _, some _, some _, some _, some _, some _, some _] (gs_some (gs_some (gs_some (gs_some (gs_some (gs_some (gs_some gs_nil))))))) ?_
                          refine g_st (uL_id _ 13).symm ?_
                          exact L_102 _ 0 _ (by omega) (fun q h => absurd h (Nat.not_lt_zero _)) (Nat.lt_succ_self _)
                        · have hz : fCop (gI σ 50) (gI σ 51) (nI a) i (nI b) j n = -12 := fCop_x ha hb c_22 n1 c_49 ea eb ka kb (fun q => gRch_big kb c_66 c_57 (Int32.not_le.mp c_93) q.2)
                          refine g_bipush (v := (-12)) C dX9_copy_96 (by decide) ?_
                          exact g_iret C E dX9_copy_98 rfl rfl ⟨_, rfl, ⟨hz.symm, Or.inl ⟨by decide, rfl⟩⟩⟩
              · have hz : fCop (gI σ 50) (gI σ 51) (nI a) i (nI b) j n = -14 := fCop_s ha hb c_22 n1 c_49
                refine g_bipush (v := (-14)) C dX9_copy_52 (by decide) ?_
                exact g_iret C E dX9_copy_54 rfl rfl ⟨_, rfl, ⟨hz.symm, Or.inl ⟨by decide, rfl⟩⟩⟩
            · have hz : fCop (gI σ 50) (gI σ 51) (nI a) i (nI b) j n = -11 := (fCop_at ha hb).trans (if_pos (Or.inr (Int32.not_le.mp c_31)))
              refine g_bipush (v := (-11)) C dX9_copy_34 (by decide) ?_
              exact g_iret C E dX9_copy_36 rfl rfl ⟨_, rfl, ⟨hz.symm, Or.inl ⟨by decide, rfl⟩⟩⟩
        · exact absurd c_11 (by decide)
      · skip
        refine g_if_ne C 16 dX9_copy_11 (by decide) (fun c_11 => ?_) (fun c_11 => ?_)
        · exact absurd c_11 (by decide)
        · refine g_iconst (v := (-1)) C dX9_copy_14 (by decide) ?_
          exact g_iret C E dX9_copy_15 rfl rfl ⟨_, rfl, ⟨by first | exact (fCop_no (Or.inl h_1)).symm | exact (fCop_no (Or.inr h_8)).symm, Or.inl ⟨by decide, rfl⟩⟩⟩
  · skip
    refine g_if_eq C 14 dX9_copy_4 (by decide) (fun c_4 => ?_) (fun c_4 => ?_)
    · refine g_iconst (v := (-1)) C dX9_copy_14 (by decide) ?_
      exact g_iret C E dX9_copy_15 rfl rfl ⟨_, rfl, ⟨by first | exact (fCop_no (Or.inl h_1)).symm | exact (fCop_no (Or.inr h_8)).symm, Or.inl ⟨by decide, rfl⟩⟩⟩
    · exact absurd c_4 (by decide)
