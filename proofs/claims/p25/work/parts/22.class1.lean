theorem sV_X8_83 : gSV RX8 83 yX6_reaches cX6_reaches 3 (some .boolean) 2 := ⟨mW267, mW268, mW269, mW8, mW270, ⟨by decide +kernel, by decide +kernel⟩, by decide +kernel⟩
theorem sV_X8_91 : gSV RX8 91 yX6_cut cX6_cut 3 (some .long) 1 := ⟨mW271, mW272, mW273, mW8, mW274, ⟨by decide +kernel, by decide +kernel⟩, by decide +kernel⟩
theorem sV_X8_252 : gSV RX8 252 yX8_drawsInAll cX8_drawsInAll 3 (some .int) 0 := ⟨mW562, mW564, mP12, mW1, mW565, ⟨by decide +kernel, by decide +kernel⟩, by decide +kernel⟩
set_option maxRecDepth 100000 in
set_option maxHeartbeats 4000000 in
theorem c_X8_lay (l : Launch) (δ : GD) (σ : GS) (r i : Int32) (v : Int64) (hk : ∀ u, u < 6 → -1 ≤ gN σ (2 + u) ∧ ∃ m : Nat, m ≤ 16 ∧ gN σ (8 + u) = nI m) : gM l δ yX8_lay cX8_lay 6 (some .int) 1 22 [.ref (δ.2.2.1 0), .int r, .int i, .long v] σ (gPi (fun x σ' => x = fLay (fun u => gN σ (2 + u)) (fun u => gN σ (8 + u)) r i ∧ ((¬ x = 0 ∧ σ = σ') ∨ (x = 0 ∧ ∃ (u j : Nat), u < 6 ∧ r = nI u ∧ j < 16 ∧ i = nI j ∧ σ' = uL σ u (vp_updL (gL σ u) j (gCutV (gN σ (2 + u)) v)))))) := by
  refine g_of (lv0 := [some (.ref (δ.2.2.1 0)), some (.int r), some (.int i), some (.long v), none, none]) (by decide) rfl (Nat.le_of_ble_eq_true rfl) (fun Γ hl C E => ?_)
  subst hl
  have C : gC Γ δ cX8_lay RX8 6 1 22 := C
  refine g_aload_n C dX8_lay_0 rfl ?_
  refine g_iload_n C dX8_lay_1 rfl ?_
  refine g_callVr C sV_X8_72 dX8_lay_2 (c_X8_sheetAt _ δ _ _) ⟨by decide, by decide⟩ (wO_X δ _) rfl rfl rfl rfl (Nat.le_of_ble_eq_true rfl) (fun r_2 s_2 h_2 => ?_)
  obtain ⟨rfl, h_2⟩ := h_2
  rcases h_2 with ⟨rfl, h_2⟩ | ⟨u_2, hu_2, e_2, rfl⟩
  · skip
    refine g_astoreN C dX8_lay_5 (Nat.le_of_ble_eq_true rfl) rfl ?_
    refine g_lv [some _, some _, some _, some _, none, some _] (gs_some (gs_some (gs_some (gs_some (gs_none (gs_some gs_nil)))))) ?_
    refine g_aloadN C dX8_lay_7 rfl ?_
    refine g_ifnonnull_n C dX8_lay_9 ?_
    refine g_iconst (v := (-1)) C dX8_lay_12 (by decide) ?_
    exact g_iret C E dX8_lay_13 rfl rfl ⟨_, rfl, ⟨(fLay_no h_2).symm, Or.inl ⟨by decide, rfl⟩⟩⟩
  · obtain ⟨hk1_2, m_2, hm_2, em_2⟩ := hk u_2 hu_2
    subst e_2
    refine g_astore C dX8_lay_5 (Nat.le_of_ble_eq_true rfl) rfl ?_
    refine g_lv [some _, some _, some _, some _, none, some _] (gs_some (gs_some (gs_some (gs_some (gs_none (gs_some gs_nil)))))) ?_
    refine g_aload C dX8_lay_7 rfl ?_
    refine g_ifnonnull_r C 14 dX8_lay_9 (by decide) ?_
    refine g_aload C dX8_lay_14 rfl ?_
    refine g_get C dX8_lay_16 iwX6 rfl (wO_S δ _ hu_2) 1 (Nat.le_of_ble_eq_true rfl) mW175 rfl rfl ?_
    refine g_iconst (v := (-1)) C dX8_lay_19 (by decide) ?_
    refine g_icmp_ne C 26 dX8_lay_20 (by decide) (fun c_20 => ?_) (fun c_20 => ?_)
    · refine g_aload C dX8_lay_26 rfl ?_
      refine g_iload_n C dX8_lay_28 rfl ?_
      refine g_iconst (v := 1) C dX8_lay_29 (by decide) ?_
      refine g_callVi C sV_X8_83 dX8_lay_30 (c_X6_reaches _ δ _ hu_2 _ _ em_2 hm_2) ⟨by decide, by decide⟩ (wO_S δ _ hu_2) rfl rfl rfl rfl (Nat.le_of_ble_eq_true rfl) (fun r_30 s_30 h_30 => ?_)
      obtain ⟨rfl, h_30⟩ := h_30
      rcases h_30 with ⟨rfl, h_30⟩ | ⟨rfl, h_30⟩
      · skip
        refine g_if_ne C 39 dX8_lay_33 (by decide) (fun c_33 => ?_) (fun c_33 => ?_)
        · have hz : fLay (fun u => gN σ (2 + u)) (fun u => gN σ (8 + u)) (nI u_2) i = 0 := (fLay_at hu_2).trans (fPl_o hk1_2 c_20 em_2 hm_2 h_30)
          obtain ⟨ei, hi⟩ := gRch_ix h_30 hm_2
          refine g_aload C dX8_lay_39 rfl ?_
          refine g_get C dX8_lay_41 iwX6 rfl (wO_S δ _ hu_2) 0 (Nat.le_of_ble_eq_true rfl) mW173 rfl rfl ?_
          refine g_iload_n C dX8_lay_44 rfl ?_
          refine g_aload C dX8_lay_45 rfl ?_
          refine g_lload_n C dX8_lay_47 rfl ?_
          refine g_callVl C sV_X8_91 dX8_lay_48 (c_X6_cut _ δ _ hu_2 _) ⟨by decide, by decide⟩ (wO_S δ _ hu_2) rfl rfl rfl rfl (Nat.le_of_ble_eq_true rfl) (fun r_48 s_48 h_48 => ?_)
          obtain ⟨rfl, h_48⟩ := h_48
          rw [h_48]
          refine g_lastN C dX8_lay_51 (k := i.toInt.toNat) (q := u_2) (by omega) rfl ei (by rw [gLenL_s hu_2]; omega) ?_
          refine g_iconst (v := 0) C dX8_lay_52 (by decide) ?_
          exact g_iret C E dX8_lay_53 rfl rfl ⟨_, rfl, ⟨hz.symm, Or.inr ⟨rfl, u_2, i.toInt.toNat, hu_2, rfl, by omega, ei, rfl⟩⟩⟩
        · exact absurd c_33 (by decide)
      · skip
        refine g_if_ne C 39 dX8_lay_33 (by decide) (fun c_33 => ?_) (fun c_33 => ?_)
        · exact absurd c_33 (by decide)
        · have hz : fLay (fun u => gN σ (2 + u)) (fun u => gN σ (8 + u)) (nI u_2) i = -12 := (fLay_at hu_2).trans (fPl_n hk1_2 c_20 em_2 hm_2 h_30)
          refine g_bipush (v := (-12)) C dX8_lay_36 (by decide) ?_
          exact g_iret C E dX8_lay_38 rfl rfl ⟨_, rfl, ⟨hz.symm, Or.inl ⟨by decide, rfl⟩⟩⟩
    · have hz : fLay (fun u => gN σ (2 + u)) (fun u => gN σ (8 + u)) (nI u_2) i = -11 := (fLay_at hu_2).trans (fPl_m c_20)
      refine g_bipush (v := (-11)) C dX8_lay_23 (by decide) ?_
      exact g_iret C E dX8_lay_25 rfl rfl ⟨_, rfl, ⟨hz.symm, Or.inl ⟨by decide, rfl⟩⟩⟩
set_option maxRecDepth 100000 in
set_option maxHeartbeats 4000000 in
theorem c_X8_holds (l : Launch) (δ : GD) (σ : GS) (r i : Int32) (v : Int64) (hk : ∀ u, u < 6 → -1 ≤ gN σ (2 + u) ∧ ∃ m : Nat, m ≤ 16 ∧ gN σ (8 + u) = nI m) : gM l δ yX8_holds cX8_holds 6 (some .int) 1 22 [.ref (δ.2.2.1 0), .int r, .int i, .long v] σ (gPi (fun x σ' => σ = σ' ∧ x = fHol (fun u => gN σ (2 + u)) (fun u => gN σ (8 + u)) (gL σ) r i v)) := by
  refine g_of (lv0 := [some (.ref (δ.2.2.1 0)), some (.int r), some (.int i), some (.long v), none, none]) (by decide) rfl (Nat.le_of_ble_eq_true rfl) (fun Γ hl C E => ?_)
  subst hl
  have C : gC Γ δ cX8_holds RX8 6 1 22 := C
  refine g_aload_n C dX8_holds_0 rfl ?_
  refine g_iload_n C dX8_holds_1 rfl ?_
  refine g_callVr C sV_X8_72 dX8_holds_2 (c_X8_sheetAt _ δ _ _) ⟨by decide, by decide⟩ (wO_X δ _) rfl rfl rfl rfl (Nat.le_of_ble_eq_true rfl) (fun r_2 s_2 h_2 => ?_)
  obtain ⟨rfl, h_2⟩ := h_2
  rcases h_2 with ⟨rfl, h_2⟩ | ⟨u_2, hu_2, e_2, rfl⟩
  · skip
    refine g_astoreN C dX8_holds_5 (Nat.le_of_ble_eq_true rfl) rfl ?_
    refine g_lv [some _, some _, some _, some _, none, some _] (gs_some (gs_some (gs_some (gs_some (gs_none (gs_some gs_nil)))))) ?_
    refine g_aloadN C dX8_holds_7 rfl ?_
    refine g_ifnonnull_n C dX8_holds_9 ?_
    refine g_iconst (v := (-1)) C dX8_holds_12 (by decide) ?_
    exact g_iret C E dX8_holds_13 rfl rfl ⟨_, rfl, ⟨rfl, (fHol_no h_2).symm⟩⟩
  · obtain ⟨hk1_2, m_2, hm_2, em_2⟩ := hk u_2 hu_2
    subst e_2
    refine g_astore C dX8_holds_5 (Nat.le_of_ble_eq_true rfl) rfl ?_
    refine g_lv [some _, some _, some _, some _, none, some _] (gs_some (gs_some (gs_some (gs_some (gs_none (gs_some gs_nil)))))) ?_
    refine g_aload C dX8_holds_7 rfl ?_
    refine g_ifnonnull_r C 14 dX8_holds_9 (by decide) ?_
    refine g_aload C dX8_holds_14 rfl ?_
    refine g_get C dX8_holds_16 iwX6 rfl (wO_S δ _ hu_2) 1 (Nat.le_of_ble_eq_true rfl) mW175 rfl rfl ?_
    refine g_iconst (v := (-1)) C dX8_holds_19 (by decide) ?_
    refine g_icmp_ne C 26 dX8_holds_20 (by decide) (fun c_20 => ?_) (fun c_20 => ?_)
    · refine g_aload C dX8_holds_26 rfl ?_
      refine g_iload_n C dX8_holds_28 rfl ?_
      refine g_iconst (v := 1) C dX8_holds_29 (by decide) ?_
      refine g_callVi C sV_X8_83 dX8_holds_30 (c_X6_reaches _ δ _ hu_2 _ _ em_2 hm_2) ⟨by decide, by decide⟩ (wO_S δ _ hu_2) rfl rfl rfl rfl (Nat.le_of_ble_eq_true rfl) (fun r_30 s_30 h_30 => ?_)
      obtain ⟨rfl, h_30⟩ := h_30
      rcases h_30 with ⟨rfl, h_30⟩ | ⟨rfl, h_30⟩
      · skip
        refine g_if_ne C 39 dX8_holds_33 (by decide) (fun c_33 => ?_) (fun c_33 => ?_)
        · have hz := fPl_o hk1_2 c_20 em_2 hm_2 h_30
          obtain ⟨ei, hi⟩ := gRch_ix h_30 hm_2
          refine g_aload C dX8_holds_39 rfl ?_
          refine g_get C dX8_holds_41 iwX6 rfl (wO_S δ _ hu_2) 0 (Nat.le_of_ble_eq_true rfl) mW173 rfl rfl ?_
          refine g_iload_n C dX8_holds_44 rfl ?_
          refine g_laldN C dX8_holds_45 (k := i.toInt.toNat) (q := u_2) (by omega) rfl ei (by rw [gLenL_s hu_2]; omega) ?_
          refine g_lload_n C dX8_holds_46 rfl ?_
          refine g_lcmp C dX8_holds_47 ?_
          refine g_if_ne C 55 dX8_holds_48 (by decide) (fun c_48 => ?_) (fun c_48 => ?_)
          · rw [lg_cmp_eq] at c_48
            refine g_iconst (v := 0) C dX8_holds_55 (by decide) ?_
            exact g_iret C E dX8_holds_56 rfl rfl ⟨_, rfl, ⟨rfl, by first | (rw [fHol_at hu_2, if_pos hz, if_pos c_48]; done) | (rw [fHol_at hu_2, if_pos hz, if_neg c_48]; done)⟩⟩
          · rw [lg_cmp_eq] at c_48
            refine g_iconst (v := 1) C dX8_holds_51 (by decide) ?_
            refine g_goto C 56 dX8_holds_52 (by decide) ?_
            exact g_iret C E dX8_holds_56 rfl rfl ⟨_, rfl, ⟨rfl, by first | (rw [fHol_at hu_2, if_pos hz, if_pos c_48]; done) | (rw [fHol_at hu_2, if_pos hz, if_neg c_48]; done)⟩⟩
        · exact absurd c_33 (by decide)
      · skip
        refine g_if_ne C 39 dX8_holds_33 (by decide) (fun c_33 => ?_) (fun c_33 => ?_)
        · exact absurd c_33 (by decide)
        · have hz := fPl_n hk1_2 c_20 em_2 hm_2 h_30
          refine g_bipush (v := (-12)) C dX8_holds_36 (by decide) ?_
          exact g_iret C E dX8_holds_38 rfl rfl ⟨_, rfl, ⟨rfl, by rw [fHol_at hu_2, hz]; rfl⟩⟩
    · have hz := fPl_m (s := gN σ (8 + u_2)) (i := i) c_20
      refine g_bipush (v := (-11)) C dX8_holds_23 (by decide) ?_
      exact g_iret C E dX8_holds_25 rfl rfl ⟨_, rfl, ⟨rfl, by rw [fHol_at hu_2, hz]; rfl⟩⟩
set_option maxRecDepth 100000 in
set_option maxHeartbeats 4000000 in
theorem c_X8_copy (l : Launch) (δ : GD) (σ : GS) (r i t j n : Int32) (hk : ∀ u, u < 6 → -1 ≤ gN σ (2 + u) ∧ ∃ m : Nat, m ≤ 16 ∧ gN σ (8 + u) = nI m) : gM l δ yX8_copy cX8_copy 8 (some .int) 1 22 [.ref (δ.2.2.1 0), .int r, .int i, .int t, .int j, .int n] σ (gPi (fun x σ' => x = fCop (fun u => gN σ (2 + u)) (fun u => gN σ (8 + u)) r i t j n ∧ ((¬ x = 0 ∧ σ = σ') ∨ (x = 0 ∧ ∃ (a b : Nat), a < 6 ∧ b < 6 ∧ r = nI a ∧ t = nI b ∧ gRch i n 16 ∧ gRch j n 16 ∧ σ' = uL σ b (va_cpy (gL σ a) (gL σ b) i.toInt.toNat j.toInt.toNat n.toInt.toNat))))) := by
  refine g_of (lv0 := [some (.ref (δ.2.2.1 0)), some (.int r), some (.int i), some (.int t), some (.int j), some (.int n), none, none]) (by decide) rfl (Nat.le_of_ble_eq_true rfl) (fun Γ hl C E => ?_)
  subst hl
  have C : gC Γ δ cX8_copy RX8 8 1 22 := C
  refine g_aload_n C dX8_copy_0 rfl ?_
  refine g_iload_n C dX8_copy_1 rfl ?_
  refine g_callVr C sV_X8_72 dX8_copy_2 (c_X8_sheetAt _ δ _ _) ⟨by decide, by decide⟩ (wO_X δ _) rfl rfl rfl rfl (Nat.le_of_ble_eq_true rfl) (fun r_2 s_2 h_2 => ?_)
  obtain ⟨rfl, h_2⟩ := h_2
  rcases h_2 with ⟨rfl, h_2⟩ | ⟨u_2, hu_2, e_2, rfl⟩
  · skip
    refine g_astoreN C dX8_copy_5 (Nat.le_of_ble_eq_true rfl) rfl ?_
    refine g_lv [some _, some _, some _, some _, some _, some _, some _, none] (gs_some (gs_some (gs_some (gs_some (gs_some (gs_some (gs_some (gs_none gs_nil)))))))) ?_
    refine g_aload_n C dX8_copy_7 rfl ?_
    refine g_iload_n C dX8_copy_8 rfl ?_
    refine g_callVr C sV_X8_72 dX8_copy_9 (c_X8_sheetAt _ δ _ _) ⟨by decide, by decide⟩ (wO_X δ _) rfl rfl rfl rfl (Nat.le_of_ble_eq_true rfl) (fun r_9 s_9 h_9 => ?_)
    obtain ⟨rfl, h_9⟩ := h_9
    rcases h_9 with ⟨rfl, h_9⟩ | ⟨u_9, hu_9, e_9, rfl⟩
    · skip
      refine g_astoreN C dX8_copy_12 (Nat.le_of_ble_eq_true rfl) rfl ?_
      refine g_lv [some _, some _, some _, some _, some _, some _, some _, some _] (gs_some (gs_some (gs_some (gs_some (gs_some (gs_some (gs_some (gs_some gs_nil)))))))) ?_
      refine g_aloadN C dX8_copy_14 rfl ?_
      refine g_ifnull_n C 24 dX8_copy_16 (by decide) ?_
      refine g_iconst (v := (-1)) C dX8_copy_24 (by decide) ?_
      exact g_iret C E dX8_copy_25 rfl rfl ⟨_, rfl, ⟨by first | exact (fCop_no (Or.inl h_2)).symm | exact (fCop_no (Or.inr h_9)).symm, Or.inl ⟨by decide, rfl⟩⟩⟩
    · obtain ⟨hk1_9, m_9, hm_9, em_9⟩ := hk u_9 hu_9
      subst e_9
      refine g_astore C dX8_copy_12 (Nat.le_of_ble_eq_true rfl) rfl ?_
      refine g_lv [some _, some _, some _, some _, some _, some _, some _, some _] (gs_some (gs_some (gs_some (gs_some (gs_some (gs_some (gs_some (gs_some gs_nil)))))))) ?_
      refine g_aloadN C dX8_copy_14 rfl ?_
      refine g_ifnull_n C 24 dX8_copy_16 (by decide) ?_
      refine g_iconst (v := (-1)) C dX8_copy_24 (by decide) ?_
      exact g_iret C E dX8_copy_25 rfl rfl ⟨_, rfl, ⟨by first | exact (fCop_no (Or.inl h_2)).symm | exact (fCop_no (Or.inr h_9)).symm, Or.inl ⟨by decide, rfl⟩⟩⟩
  · obtain ⟨hk1_2, m_2, hm_2, em_2⟩ := hk u_2 hu_2
    subst e_2
    refine g_astore C dX8_copy_5 (Nat.le_of_ble_eq_true rfl) rfl ?_
    refine g_lv [some _, some _, some _, some _, some _, some _, some _, none] (gs_some (gs_some (gs_some (gs_some (gs_some (gs_some (gs_some (gs_none gs_nil)))))))) ?_
    refine g_aload_n C dX8_copy_7 rfl ?_
    refine g_iload_n C dX8_copy_8 rfl ?_
    refine g_callVr C sV_X8_72 dX8_copy_9 (c_X8_sheetAt _ δ _ _) ⟨by decide, by decide⟩ (wO_X δ _) rfl rfl rfl rfl (Nat.le_of_ble_eq_true rfl) (fun r_9 s_9 h_9 => ?_)
    obtain ⟨rfl, h_9⟩ := h_9
    rcases h_9 with ⟨rfl, h_9⟩ | ⟨u_9, hu_9, e_9, rfl⟩
    · skip
      refine g_astoreN C dX8_copy_12 (Nat.le_of_ble_eq_true rfl) rfl ?_
      refine g_lv [some _, some _, some _, some _, some _, some _, some _, some _] (gs_some (gs_some (gs_some (gs_some (gs_some (gs_some (gs_some (gs_some gs_nil)))))))) ?_
      refine g_aload C dX8_copy_14 rfl ?_
      refine g_ifnull_r C dX8_copy_16 ?_
      refine g_aloadN C dX8_copy_19 rfl ?_
      refine g_ifnonnull_n C dX8_copy_21 ?_
      refine g_iconst (v := (-1)) C dX8_copy_24 (by decide) ?_
      exact g_iret C E dX8_copy_25 rfl rfl ⟨_, rfl, ⟨by first | exact (fCop_no (Or.inl h_2)).symm | exact (fCop_no (Or.inr h_9)).symm, Or.inl ⟨by decide, rfl⟩⟩⟩
    · obtain ⟨hk1_9, m_9, hm_9, em_9⟩ := hk u_9 hu_9
      subst e_9
      refine g_astore C dX8_copy_12 (Nat.le_of_ble_eq_true rfl) rfl ?_
      refine g_lv [some _, some _, some _, some _, some _, some _, some _, some _] (gs_some (gs_some (gs_some (gs_some (gs_some (gs_some (gs_some (gs_some gs_nil)))))))) ?_
      refine g_aload C dX8_copy_14 rfl ?_
      refine g_ifnull_r C dX8_copy_16 ?_
      refine g_aload C dX8_copy_19 rfl ?_
      refine g_ifnonnull_r C 26 dX8_copy_21 (by decide) ?_
      refine g_aload C dX8_copy_26 rfl ?_
      refine g_get C dX8_copy_28 iwX6 rfl (wO_S δ _ hu_2) 1 (Nat.le_of_ble_eq_true rfl) mW175 rfl rfl ?_
      refine g_iconst (v := (-1)) C dX8_copy_31 (by decide) ?_
      refine g_icmp_eq C 44 dX8_copy_32 (by decide) (fun c_32 => ?_) (fun c_32 => ?_)
      · have hz : fCop (fun u => gN σ (2 + u)) (fun u => gN σ (8 + u)) (nI u_2) i (nI u_9) j n = -11 := fCop_m hu_2 hu_9 (Or.inl c_32)
        refine g_bipush (v := (-11)) C dX8_copy_44 (by decide) ?_
        exact g_iret C E dX8_copy_46 rfl rfl ⟨_, rfl, ⟨hz.symm, Or.inl ⟨by decide, rfl⟩⟩⟩
      · refine g_aload C dX8_copy_35 rfl ?_
        refine g_get C dX8_copy_37 iwX6 rfl (wO_S δ _ hu_9) 1 (Nat.le_of_ble_eq_true rfl) mW175 rfl rfl ?_
        refine g_iconst (v := (-1)) C dX8_copy_40 (by decide) ?_
        refine g_icmp_ne C 47 dX8_copy_41 (by decide) (fun c_41 => ?_) (fun c_41 => ?_)
        · refine g_aload C dX8_copy_47 rfl ?_
          refine g_get C dX8_copy_49 iwX6 rfl (wO_S δ _ hu_2) 1 (Nat.le_of_ble_eq_true rfl) mW175 rfl rfl ?_
          refine g_aload C dX8_copy_52 rfl ?_
          refine g_get C dX8_copy_54 iwX6 rfl (wO_S δ _ hu_9) 1 (Nat.le_of_ble_eq_true rfl) mW175 rfl rfl ?_
          refine g_icmp_eq C 63 dX8_copy_57 (by decide) (fun c_57 => ?_) (fun c_57 => ?_)
          · refine g_aload C dX8_copy_63 rfl ?_
            refine g_iload_n C dX8_copy_65 rfl ?_
            refine g_iload C dX8_copy_66 rfl ?_
            refine g_callVi C sV_X8_83 dX8_copy_68 (c_X6_reaches _ δ _ hu_2 _ _ em_2 hm_2) ⟨by decide, by decide⟩ (wO_S δ _ hu_2) rfl rfl rfl rfl (Nat.le_of_ble_eq_true rfl) (fun r_68 s_68 h_68 => ?_)
            obtain ⟨rfl, h_68⟩ := h_68
            rcases h_68 with ⟨rfl, h_68⟩ | ⟨rfl, h_68⟩
            · skip
              refine g_if_eq C 86 dX8_copy_71 (by decide) (fun c_71 => ?_) (fun c_71 => ?_)
              · exact absurd c_71 (by decide)
              · refine g_aload C dX8_copy_74 rfl ?_
                refine g_iload C dX8_copy_76 rfl ?_
                refine g_iload C dX8_copy_78 rfl ?_
                refine g_callVi C sV_X8_83 dX8_copy_80 (c_X6_reaches _ δ _ hu_9 _ _ em_9 hm_9) ⟨by decide, by decide⟩ (wO_S δ _ hu_9) rfl rfl rfl rfl (Nat.le_of_ble_eq_true rfl) (fun r_80 s_80 h_80 => ?_)
                obtain ⟨rfl, h_80⟩ := h_80
                rcases h_80 with ⟨rfl, h_80⟩ | ⟨rfl, h_80⟩
                · skip
                  refine g_if_ne C 89 dX8_copy_83 (by decide) (fun c_83 => ?_) (fun c_83 => ?_)
                  · have hz : fCop (fun u => gN σ (2 + u)) (fun u => gN σ (8 + u)) (nI u_2) i (nI u_9) j n = 0 := fCop_0 hu_2 hu_9 (gkd hk1_2 c_32) (gkd hk1_9 c_41) c_57 em_2 em_9 hm_2 hm_9 ⟨h_68, h_80⟩
                    refine g_aload C dX8_copy_89 rfl ?_
                    refine g_get C dX8_copy_91 iwX6 rfl (wO_S δ _ hu_2) 0 (Nat.le_of_ble_eq_true rfl) mW173 rfl rfl ?_
                    refine g_iload_n C dX8_copy_94 rfl ?_
                    refine g_aload C dX8_copy_95 rfl ?_
                    refine g_get C dX8_copy_97 iwX6 rfl (wO_S δ _ hu_9) 0 (Nat.le_of_ble_eq_true rfl) mW173 rfl rfl ?_
                    refine g_iload C dX8_copy_100 rfl ?_
                    refine g_iload C dX8_copy_102 rfl ?_
                    refine g_copyL C u_2 u_9 dX8_copy_104 mW279 mW281 mW280 mW12 (by omega) (by omega) rfl rfl rfl (gr1 h_68) (gr1 h_80) (gr2 h_68) (by rw [gr3 h_68, gr4 h_68, gLenL_s hu_2]; exact gr5 h_68 hm_2) (by rw [gr3 h_80, gr4 h_80, gLenL_s hu_9]; exact gr5 h_80 hm_9) (by decide) (Nat.le_of_ble_eq_true rfl) ?_
                    rw [gr3 h_68, gr3 h_80, gr4 h_80]
                    refine g_iconst (v := 0) C dX8_copy_107 (by decide) ?_
                    exact g_iret C E dX8_copy_108 rfl rfl ⟨_, rfl, ⟨hz.symm, Or.inr ⟨rfl, u_2, u_9, hu_2, hu_9, rfl, rfl, gRch_w hm_2 h_68, gRch_w hm_9 h_80, rfl⟩⟩⟩
                  · exact absurd c_83 (by decide)
                · skip
                  refine g_if_ne C 89 dX8_copy_83 (by decide) (fun c_83 => ?_) (fun c_83 => ?_)
                  · exact absurd c_83 (by decide)
                  · have hz : fCop (fun u => gN σ (2 + u)) (fun u => gN σ (8 + u)) (nI u_2) i (nI u_9) j n = -12 := fCop_x hu_2 hu_9 (gkd hk1_2 c_32) (gkd hk1_9 c_41) c_57 em_2 em_9 hm_2 hm_9 (fun q => h_80 q.2)
                    refine g_bipush (v := (-12)) C dX8_copy_86 (by decide) ?_
                    exact g_iret C E dX8_copy_88 rfl rfl ⟨_, rfl, ⟨hz.symm, Or.inl ⟨by decide, rfl⟩⟩⟩
            · skip
              refine g_if_eq C 86 dX8_copy_71 (by decide) (fun c_71 => ?_) (fun c_71 => ?_)
              · have hz : fCop (fun u => gN σ (2 + u)) (fun u => gN σ (8 + u)) (nI u_2) i (nI u_9) j n = -12 := fCop_x hu_2 hu_9 (gkd hk1_2 c_32) (gkd hk1_9 c_41) c_57 em_2 em_9 hm_2 hm_9 (fun q => h_68 q.1)
                refine g_bipush (v := (-12)) C dX8_copy_86 (by decide) ?_
                exact g_iret C E dX8_copy_88 rfl rfl ⟨_, rfl, ⟨hz.symm, Or.inl ⟨by decide, rfl⟩⟩⟩
              · exact absurd c_71 (by decide)
          · have hz : fCop (fun u => gN σ (2 + u)) (fun u => gN σ (8 + u)) (nI u_2) i (nI u_9) j n = -14 := fCop_s hu_2 hu_9 (gkd hk1_2 c_32) (gkd hk1_9 c_41) c_57
            refine g_bipush (v := (-14)) C dX8_copy_60 (by decide) ?_
            exact g_iret C E dX8_copy_62 rfl rfl ⟨_, rfl, ⟨hz.symm, Or.inl ⟨by decide, rfl⟩⟩⟩
        · have hz : fCop (fun u => gN σ (2 + u)) (fun u => gN σ (8 + u)) (nI u_2) i (nI u_9) j n = -11 := fCop_m hu_2 hu_9 (Or.inr c_41)
          refine g_bipush (v := (-11)) C dX8_copy_44 (by decide) ?_
          exact g_iret C E dX8_copy_46 rfl rfl ⟨_, rfl, ⟨hz.symm, Or.inl ⟨by decide, rfl⟩⟩⟩
set_option maxRecDepth 100000 in
set_option maxHeartbeats 4000000 in
theorem c_X8_urn (l : Launch) (δ : GD) (σ : GS) (n : Int32) {m : Nat} (hm : gN σ 0 = nI m) (h8 : m ≤ 8) : gM l δ yX8_urn cX8_urn 2 (some .int) 0 0 [.ref (δ.2.2.1 0), .int n] σ (gPi (fun x σ' => x = fUrn n m ∧ ((x < 0 ∧ σ = σ') ∨ (m < 8 ∧ σ' = uN (uN σ (14 + m) n) 0 (nI (m + 1)))))) := by
  refine g_of (lv0 := [some (.ref (δ.2.2.1 0)), some (.int n)]) (by decide) rfl (Nat.le_of_ble_eq_true rfl) (fun Γ hl C E => ?_)
  subst hl
  have C : gC Γ δ cX8_urn RX8 2 0 0 := C
  refine g_iload_n C dX8_urn_0 rfl ?_
  refine g_iconst (v := 2) C dX8_urn_1 (by decide) ?_
  refine g_icmp_lt C 10 dX8_urn_2 (by decide) (fun c_2 => ?_) (fun c_2 => ?_)
  · refine g_iconst (v := (-1)) C dX8_urn_10 (by decide) ?_
    exact g_iret C E dX8_urn_11 rfl rfl ⟨_, rfl, ⟨by first | exact (fUrn_b (Or.inl c_2)).symm | exact (fUrn_b (Or.inr (Int32.not_le.mp c_7))).symm, Or.inl ⟨by decide, rfl⟩⟩⟩
  · refine g_iload_n C dX8_urn_5 rfl ?_
    refine g_iconst (v := 4) C dX8_urn_6 (by decide) ?_
    refine g_icmp_le C 12 dX8_urn_7 (by decide) (fun c_7 => ?_) (fun c_7 => ?_)
    · refine g_aload_n C dX8_urn_12 rfl ?_
      refine g_get C dX8_urn_13 iwX8 rfl (wO_X δ _) 8 (Nat.le_of_ble_eq_true rfl) mW225 rfl rfl ?_
      rw [hm]
      refine g_bipush (v := 8) C dX8_urn_16 (by decide) ?_
      refine g_icmp_lt C 24 dX8_urn_18 (by decide) (fun c_18 => ?_) (fun c_18 => ?_)
      · have k_18 := glt c_18 (a := m) (b := 8) (by first | rfl | assumption | (simp only [glit, nI_add, pk_mul]; done) | (simp only [glit, nI_add, pk_mul]; congr 1; omega) | (simp only [*, glit, nI_add, pk_mul]; congr 1; omega)) (by first | rfl | assumption | (simp only [glit, nI_add, pk_mul]; done) | (simp only [glit, nI_add, pk_mul]; congr 1; omega) | (simp only [*, glit, nI_add, pk_mul]; congr 1; omega)) (by omega) (by omega)
        have hz : fUrn n m = nI m := fUrn_o c_2 c_7 (by omega)
        refine g_aload_n C dX8_urn_24 rfl ?_
        refine g_get C dX8_urn_25 iwX8 rfl (wO_X δ _) 1 (Nat.le_of_ble_eq_true rfl) mW218 rfl rfl ?_
        refine g_aload_n C dX8_urn_28 rfl ?_
        refine g_get C dX8_urn_29 iwX8 rfl (wO_X δ _) 8 (Nat.le_of_ble_eq_true rfl) mW225 rfl rfl ?_
        rw [hm]
        refine g_aaldU C m dX8_urn_32 rfl (by omega) (by first | rfl | assumption | (simp only [glit, nI_add, pk_mul]; done) | (simp only [glit, nI_add, pk_mul]; congr 1; omega) | (simp only [*, glit, nI_add, pk_mul]; congr 1; omega)) ?_
        refine g_iload_n C dX8_urn_33 rfl ?_
        refine g_put C tyX7 dX8_urn_34 iwX7 tyX7_ok nmX7 rfl (wO_U δ _ (by omega)) 3 (Nat.le_of_ble_eq_true rfl) mW202 rfl rfl rfl rfl rfl (Nat.le_of_ble_eq_true rfl) (pUc δ _ _ (by omega)) ?_
        refine g_aload_n C dX8_urn_37 rfl ?_
        refine g_dup C dX8_urn_38 rfl ?_
        refine g_get C dX8_urn_39 iwX8 rfl (wO_X δ _) 8 (Nat.le_of_ble_eq_true rfl) mW225 rfl rfl ?_
        refine g_iconst (v := 1) C dX8_urn_42 (by decide) ?_
        refine g_iadd C dX8_urn_43 ?_
        refine g_put C tyX8 dX8_urn_44 iwX8 tyX8_ok nmX8 rfl (wO_X δ _) 8 (Nat.le_of_ble_eq_true rfl) mW225 rfl rfl rfl rfl rfl (Nat.le_of_ble_eq_true rfl) (pN_0 δ _ _) ?_
        rw [gN_uN, if_neg (by omega), hm, show nI m + 1 = nI (m + 1) from nI_1 m]
        refine g_aload_n C dX8_urn_47 rfl ?_
        refine g_get C dX8_urn_48 iwX8 rfl (wO_X δ _) 8 (Nat.le_of_ble_eq_true rfl) mW225 rfl rfl ?_
        rw [gN_uN, if_pos rfl]
        refine g_iconst (v := 1) C dX8_urn_51 (by decide) ?_
        refine g_isub C dX8_urn_52 ?_
        rw [nI_pred]
        exact g_iret C E dX8_urn_53 rfl rfl ⟨_, rfl, ⟨hz.symm, Or.inr ⟨by omega, rfl⟩⟩⟩
      · have k_18 := gnlt c_18 (a := m) (b := 8) (by first | rfl | assumption | (simp only [glit, nI_add, pk_mul]; done) | (simp only [glit, nI_add, pk_mul]; congr 1; omega) | (simp only [*, glit, nI_add, pk_mul]; congr 1; omega)) (by first | rfl | assumption | (simp only [glit, nI_add, pk_mul]; done) | (simp only [glit, nI_add, pk_mul]; congr 1; omega) | (simp only [*, glit, nI_add, pk_mul]; congr 1; omega)) (by omega) (by omega)
        have hz : fUrn n m = -3 := fUrn_f c_2 c_7 (by omega)
        refine g_bipush (v := (-3)) C dX8_urn_21 (by decide) ?_
        exact g_iret C E dX8_urn_23 rfl rfl ⟨_, rfl, ⟨hz.symm, Or.inl ⟨by decide, rfl⟩⟩⟩
    · refine g_iconst (v := (-1)) C dX8_urn_10 (by decide) ?_
      exact g_iret C E dX8_urn_11 rfl rfl ⟨_, rfl, ⟨by first | exact (fUrn_b (Or.inl c_2)).symm | exact (fUrn_b (Or.inr (Int32.not_le.mp c_7))).symm, Or.inl ⟨by decide, rfl⟩⟩⟩
set_option maxRecDepth 100000 in
set_option maxHeartbeats 4000000 in
theorem c_X8_seed (l : Launch) (δ : GD) (σ : GS) (v : Int32) : gM l δ yX8_seed cX8_seed 2 (some .int) 0 0 [.ref (δ.2.2.1 0), .int v] σ (gPi (fun x σ' => x = fSeed v ∧ ((¬ x = 0 ∧ σ = σ') ∨ (x = 0 ∧ σ' = uN σ 1 v)))) := by
  refine g_of (lv0 := [some (.ref (δ.2.2.1 0)), some (.int v)]) (by decide) rfl (Nat.le_of_ble_eq_true rfl) (fun Γ hl C E => ?_)
  subst hl
  have C : gC Γ δ cX8_seed RX8 2 0 0 := C
  refine g_iload_n C dX8_seed_0 rfl ?_
  refine g_iconst (v := 1) C dX8_seed_1 (by decide) ?_
  refine g_icmp_lt C 11 dX8_seed_2 (by decide) (fun c_2 => ?_) (fun c_2 => ?_)
  · refine g_iconst (v := (-1)) C dX8_seed_11 (by decide) ?_
    exact g_iret C E dX8_seed_12 rfl rfl ⟨_, rfl, ⟨by first | exact (if_pos (Or.inl c_2)).symm | exact (if_pos (Or.inr (Int32.not_le.mp c_8))).symm, Or.inl ⟨by decide, rfl⟩⟩⟩
  · refine g_iload_n C dX8_seed_5 rfl ?_
    refine g_ldc C dX8_seed_6 mW376 ?_
    refine g_icmp_le C 13 dX8_seed_8 (by decide) (fun c_8 => ?_) (fun c_8 => ?_)
    · refine g_aload_n C dX8_seed_13 rfl ?_
      refine g_iload_n C dX8_seed_14 rfl ?_
      refine g_put C tyX8 dX8_seed_15 iwX8 tyX8_ok nmX8 rfl (wO_X δ _) 9 (Nat.le_of_ble_eq_true rfl) mW226 rfl rfl rfl rfl rfl (Nat.le_of_ble_eq_true rfl) (pN_1 δ _ _) ?_
      refine g_iconst (v := 0) C dX8_seed_18 (by decide) ?_
      exact g_iret C E dX8_seed_19 rfl rfl ⟨_, rfl, ⟨(if_neg (fun q => q.elim c_2 (fun z => Int32.not_lt.mpr c_8 z))).symm, Or.inr ⟨rfl, rfl⟩⟩⟩
    · refine g_iconst (v := (-1)) C dX8_seed_11 (by decide) ?_
      exact g_iret C E dX8_seed_12 rfl rfl ⟨_, rfl, ⟨by first | exact (if_pos (Or.inl c_2)).symm | exact (if_pos (Or.inr (Int32.not_le.mp c_8))).symm, Or.inl ⟨by decide, rfl⟩⟩⟩
set_option maxRecDepth 100000 in
set_option maxHeartbeats 4000000 in
theorem c_X8_part (l : Launch) (δ : GD) (σ : GS) (x : Int32) : gM l δ yX8_part cX8_part 2 (some .long) 0 0 [.ref (δ.2.2.1 0), .int x] σ (gPl (fun y σ' => σ = σ' ∧ y = fPart x (gG σ 1) (gG σ 2) (gG σ 3))) := by
  refine g_of (lv0 := [some (.ref (δ.2.2.1 0)), some (.int x)]) (by decide) rfl (Nat.le_of_ble_eq_true rfl) (fun Γ hl C E => ?_)
  subst hl
  have C : gC Γ δ cX8_part RX8 2 0 0 := C
  refine g_iload_n C dX8_part_0 rfl ?_
  rcases gsw x 2 (by omega) with h_1 | h_1
  · refine g_tableOut C 52 dX8_part_1 (by simpa using h_1) (by decide) ?_
    refine g_ldc2 C dX8_part_52 mW557 ?_
    exact g_lret C E dX8_part_55 rfl ⟨_, rfl, ⟨rfl, (fPart_out h_1).symm⟩⟩
  · rcases gsw2 x h_1 with h_1 | h_1 | h_1
    · rw [h_1]
      refine g_tableIn C 28 dX8_part_1 (by decide) (by decide) rfl (by decide) ?_
      refine g_aload_n C dX8_part_28 rfl ?_
      refine g_get C dX8_part_29 iwX8 rfl (wO_X δ _) 7 (Nat.le_of_ble_eq_true rfl) mW224 rfl rfl ?_
      refine g_get C dX8_part_32 iwX1 rfl (wO_F δ _) 0 (Nat.le_of_ble_eq_true rfl) mW155 rfl rfl ?_
      exact g_lret C E dX8_part_35 rfl ⟨_, rfl, ⟨rfl, by rw [h_1]; rfl⟩⟩
    · rw [h_1]
      refine g_tableIn C 36 dX8_part_1 (by decide) (by decide) rfl (by decide) ?_
      refine g_aload_n C dX8_part_36 rfl ?_
      refine g_get C dX8_part_37 iwX8 rfl (wO_X δ _) 7 (Nat.le_of_ble_eq_true rfl) mW224 rfl rfl ?_
      refine g_get C dX8_part_40 iwX1 rfl (wO_F δ _) 1 (Nat.le_of_ble_eq_true rfl) mW157 rfl rfl ?_
      exact g_lret C E dX8_part_43 rfl ⟨_, rfl, ⟨rfl, by rw [h_1]; rfl⟩⟩
    · rw [h_1]
      refine g_tableIn C 44 dX8_part_1 (by decide) (by decide) rfl (by decide) ?_
      refine g_aload_n C dX8_part_44 rfl ?_
      refine g_get C dX8_part_45 iwX8 rfl (wO_X δ _) 7 (Nat.le_of_ble_eq_true rfl) mW224 rfl rfl ?_
      refine g_get C dX8_part_48 iwX1 rfl (wO_F δ _) 2 (Nat.le_of_ble_eq_true rfl) mW159 rfl rfl ?_
      exact g_lret C E dX8_part_51 rfl ⟨_, rfl, ⟨rfl, by rw [h_1]; rfl⟩⟩
set_option maxRecDepth 100000 in
set_option maxHeartbeats 4000000 in
theorem c_X8_drawsInAll (l : Launch) (δ : GD) (σ : GS)  : gM l δ yX8_drawsInAll cX8_drawsInAll 3 (some .int) 0 0 [.ref (δ.2.2.1 0)] σ (gPi (fun x σ' => σ = σ' ∧ x = gDrw σ 8)) := by
  refine g_of (lv0 := [some (.ref (δ.2.2.1 0)), none, none]) (by decide) rfl (Nat.le_of_ble_eq_true rfl) (fun Γ hl C E => ?_)
  subst hl
  have C : gC Γ δ cX8_drawsInAll RX8 3 0 0 := C
  refine g_iconst (v := 0) C dX8_drawsInAll_0 (by decide) ?_
  refine g_istore_n C dX8_drawsInAll_1 (Nat.le_of_ble_eq_true rfl) rfl ?_
  refine g_lv [some _, some _, none] (gs_some (gs_some (gs_none gs_nil))) ?_
  refine g_iconst (v := 0) C dX8_drawsInAll_2 (by decide) ?_
  refine g_istore_n C dX8_drawsInAll_3 (Nat.le_of_ble_eq_true rfl) rfl ?_
  refine g_lv [some _, some _, some _] (gs_some (gs_some (gs_some gs_nil))) ?_
  have L_4 : ∀ (nn : Nat) (k : Nat) (hk : k ≤ 8), 8 - k < nn → gW Γ δ σ 4 [some (.ref (δ.2.2.1 0)), some (.int (gDrw σ k)), some (.int (nI k))] [] := by
    intro nn
    induction nn with
    | zero =>
      intro k hk hm_4
      exact absurd hm_4 (Nat.not_lt_zero _)
    | succ nn ih_4 =>
      intro k hk hm_4
      refine g_iload_n C dX8_drawsInAll_4 rfl ?_
      refine g_bipush (v := 8) C dX8_drawsInAll_5 (by decide) ?_
      refine g_icmp_ge C 28 dX8_drawsInAll_7 (by decide) (fun c_7 => ?_) (fun c_7 => ?_)
      · have k_7 := gle c_7 (a := 8) (b := k) (by first | rfl | assumption | (simp only [glit, nI_add, pk_mul]; done) | (simp only [glit, nI_add, pk_mul]; congr 1; omega) | (simp only [*, glit, nI_add, pk_mul]; congr 1; omega)) (by first | rfl | assumption | (simp only [glit, nI_add, pk_mul]; done) | (simp only [glit, nI_add, pk_mul]; congr 1; omega) | (simp only [*, glit, nI_add, pk_mul]; congr 1; omega)) (by omega) (by omega)
        have ek : k = 8 := by omega
        subst ek
        refine g_iload_n C dX8_drawsInAll_28 rfl ?_
        exact g_iret C E dX8_drawsInAll_29 rfl rfl ⟨_, rfl, ⟨rfl, rfl⟩⟩
      · have k_7 := gnle c_7 (a := 8) (b := k) (by first | rfl | assumption | (simp only [glit, nI_add, pk_mul]; done) | (simp only [glit, nI_add, pk_mul]; congr 1; omega) | (simp only [*, glit, nI_add, pk_mul]; congr 1; omega)) (by first | rfl | assumption | (simp only [glit, nI_add, pk_mul]; done) | (simp only [glit, nI_add, pk_mul]; congr 1; omega) | (simp only [*, glit, nI_add, pk_mul]; congr 1; omega)) (by omega) (by omega)
        refine g_iload_n C dX8_drawsInAll_10 rfl ?_
        refine g_aload_n C dX8_drawsInAll_11 rfl ?_
        refine g_get C dX8_drawsInAll_12 iwX8 rfl (wO_X δ _) 1 (Nat.le_of_ble_eq_true rfl) mW218 rfl rfl ?_
        refine g_iload_n C dX8_drawsInAll_15 rfl ?_
        refine g_aaldU C k dX8_drawsInAll_16 rfl (by omega) (by first | rfl | assumption | (simp only [glit, nI_add, pk_mul]; done) | (simp only [glit, nI_add, pk_mul]; congr 1; omega) | (simp only [*, glit, nI_add, pk_mul]; congr 1; omega)) ?_
        refine g_get C dX8_drawsInAll_17 iwX7 rfl (wO_U δ _ (by omega)) 4 (Nat.le_of_ble_eq_true rfl) mW205 rfl rfl ?_
        refine g_iadd C dX8_drawsInAll_20 ?_
        refine g_istore_n C dX8_drawsInAll_21 (Nat.le_of_ble_eq_true rfl) rfl ?_
        refine g_lv [some _, some _, some _] (gs_some (gs_some (gs_some gs_nil))) ?_
        refine g_iinc (v := nI (k + 1)) C dX8_drawsInAll_22 rfl (ginc _ 1) rfl ?_
        refine g_lv [some _, some _, some _] (gs_some (gs_some (gs_some gs_nil))) ?_
        refine g_goto C 4 dX8_drawsInAll_25 (by decide) ?_
        refine g_lv [some _, some _, some _] (gs_some (gs_some (gs_some gs_nil))) ?_
        exact ih_4 (k + 1) (by omega) (by omega)
  refine g_lv [some _, some _, some _] (gs_some (gs_some (gs_some gs_nil))) ?_
  exact L_4 _ 0 (by omega) (Nat.lt_succ_self _)
set_option maxRecDepth 100000 in
set_option maxHeartbeats 4000000 in
theorem c_X8_count (l : Launch) (δ : GD) (σ : GS) (x : Int32) : gM l δ yX8_count cX8_count 2 (some .int) 1 22 [.ref (δ.2.2.1 0), .int x] σ (gPi (fun y σ' => σ = σ' ∧ y = fCnt x (gN σ 0) (gN σ 30) (gDrw σ 8) (gN σ 1))) := by
  refine g_of (lv0 := [some (.ref (δ.2.2.1 0)), some (.int x)]) (by decide) rfl (Nat.le_of_ble_eq_true rfl) (fun Γ hl C E => ?_)
  subst hl
  have C : gC Γ δ cX8_count RX8 2 1 22 := C
  refine g_iload_n C dX8_count_0 rfl ?_
  rcases gsw x 3 (by omega) with h_1 | h_1
  · refine g_tableOut C 55 dX8_count_1 (by simpa using h_1) (by decide) ?_
    refine g_iconst (v := (-1)) C dX8_count_55 (by decide) ?_
    exact g_iret C E dX8_count_56 rfl rfl ⟨_, rfl, ⟨rfl, (fCnt_out h_1).symm⟩⟩
  · rcases gsw3 x h_1 with h_1 | h_1 | h_1 | h_1
    · rw [h_1]
      refine g_tableIn C 32 dX8_count_1 (by decide) (by decide) rfl (by decide) ?_
      refine g_aload_n C dX8_count_32 rfl ?_
      refine g_get C dX8_count_33 iwX8 rfl (wO_X δ _) 8 (Nat.le_of_ble_eq_true rfl) mW225 rfl rfl ?_
      exact g_iret C E dX8_count_36 rfl rfl ⟨_, rfl, ⟨rfl, by rw [h_1]; rfl⟩⟩
    · rw [h_1]
      refine g_tableIn C 37 dX8_count_1 (by decide) (by decide) rfl (by decide) ?_
      refine g_aload_n C dX8_count_37 rfl ?_
      refine g_get C dX8_count_38 iwX8 rfl (wO_X δ _) 2 (Nat.le_of_ble_eq_true rfl) mW219 rfl rfl ?_
      refine g_get C dX8_count_41 iwX2 rfl (wO_K δ _) 1 (Nat.le_of_ble_eq_true rfl) mW35 rfl rfl ?_
      exact g_iret C E dX8_count_44 rfl rfl ⟨_, rfl, ⟨rfl, by rw [h_1]; rfl⟩⟩
    · rw [h_1]
      refine g_tableIn C 45 dX8_count_1 (by decide) (by decide) rfl (by decide) ?_
      refine g_aload_n C dX8_count_45 rfl ?_
      refine g_callVi C sV_X8_252 dX8_count_46 (c_X8_drawsInAll _ δ _) ⟨by decide, by decide⟩ (wO_X δ _) rfl rfl rfl rfl (Nat.le_of_ble_eq_true rfl) (fun r_46 s_46 h_46 => ?_)
      obtain ⟨rfl, h_46⟩ := h_46
      exact g_iret C E dX8_count_49 rfl rfl ⟨_, rfl, ⟨rfl, by rw [h_1, h_46]; rfl⟩⟩
    · rw [h_1]
      refine g_tableIn C 50 dX8_count_1 (by decide) (by decide) rfl (by decide) ?_
      refine g_aload_n C dX8_count_50 rfl ?_
      refine g_get C dX8_count_51 iwX8 rfl (wO_X δ _) 9 (Nat.le_of_ble_eq_true rfl) mW226 rfl rfl ?_
      exact g_iret C E dX8_count_54 rfl rfl ⟨_, rfl, ⟨rfl, by rw [h_1]; rfl⟩⟩
