set_option maxRecDepth 100000 in
set_option maxHeartbeats 4000000 in
theorem c_X8_urn2 (l : Launch) (δ : GD) (σ : GS) (n : Int32) {m : Nat} (hm : gN σ 0 = nI m) (h8 : m ≤ 8) : gM l δ yX8_urn cX8_urn 2 (some .int) 0 0 [.ref (δ.2.2.1 0), .int n] σ (gPi (fun x σ' => x = fUrn n m ∧ ((x < 0 ∧ σ = σ') ∨ ((¬ x < 0 ∧ m < 8) ∧ σ' = uN (uN σ (14 + m) n) 0 (nI (m + 1)))))) := by
  refine g_of (lv0 := [some (.ref (δ.2.2.1 0)), some (.int n)]) (by decide) rfl (Nat.le_of_ble_eq_true rfl) (fun Γ hl C E => ?_)
  subst hl
  have C : gC Γ δ cX8_urn RX8 2 0 0 := C
  refine g_iload_n C dX8_urn_0 rfl ?_
  refine g_iconst (v := 2) C dX8_urn_1 (by decide) ?_
  refine g_icmp_lt C 10 dX8_urn_2 (by decide) (fun c_2 => ?_) (fun c_2 => ?_)
  · refine g_iconst (v := (-1)) C dX8_urn_10 (by decide) ?_
    exact g_iret C E dX8_urn_11 rfl rfl ⟨_, rfl, ⟨by first | exact (fUrn_b (Or.inl c_2)).symm | exact (fUrn_b (Or.inr (Int32.not_le.mp c_7))).symm, Or.inl ⟨by decide, rfl⟩⟩⟩
  · refine g_iload_n C dX8_urn_5 rfl ?_
    refine g_iconst (v := 4) C dX8_urn_6 (by decide) ?_
    refine g_icmp_le C 12 dX8_urn_7 (by decide) (fun c_7 => ?_) (fun c_7 => ?_)
    · refine g_aload_n C dX8_urn_12 rfl ?_
      refine g_get C dX8_urn_13 iwX8 rfl (wO_X δ _) 8 (Nat.le_of_ble_eq_true rfl) mW225 rfl rfl ?_
      rw [hm]
      refine g_bipush (v := 8) C dX8_urn_16 (by decide) ?_
      refine g_icmp_lt C 24 dX8_urn_18 (by decide) (fun c_18 => ?_) (fun c_18 => ?_)
      · have k_18 := glt c_18 (a := m) (b := 8) (by first | rfl | assumption | (simp only [glit, nI_add, pk_mul]; done) | (simp only [glit, nI_add, pk_mul]; congr 1; omega) | (simp only [*, glit, nI_add, pk_mul]; congr 1; omega)) (by first | rfl | assumption | (simp only [glit, nI_add, pk_mul]; done) | (simp only [glit, nI_add, pk_mul]; congr 1; omega) | (simp only [*, glit, nI_add, pk_mul]; congr 1; omega)) (by omega) (by omega)
        have hz : fUrn n m = nI m := fUrn_o c_2 c_7 (by omega)
        refine g_aload_n C dX8_urn_24 rfl ?_
        refine g_get C dX8_urn_25 iwX8 rfl (wO_X δ _) 1 (Nat.le_of_ble_eq_true rfl) mW218 rfl rfl ?_
        refine g_aload_n C dX8_urn_28 rfl ?_
        refine g_get C dX8_urn_29 iwX8 rfl (wO_X δ _) 8 (Nat.le_of_ble_eq_true rfl) mW225 rfl rfl ?_
        rw [hm]
        refine g_aaldU C m dX8_urn_32 rfl (by omega) (by first | rfl | assumption | (simp only [glit, nI_add, pk_mul]; done) | (simp only [glit, nI_add, pk_mul]; congr 1; omega) | (simp only [*, glit, nI_add, pk_mul]; congr 1; omega)) ?_
        refine g_iload_n C dX8_urn_33 rfl ?_
        refine g_put C tyX7 dX8_urn_34 iwX7 tyX7_ok nmX7 rfl (wO_U δ _ (by omega)) 3 (Nat.le_of_ble_eq_true rfl) mW202 rfl rfl rfl rfl rfl (Nat.le_of_ble_eq_true rfl) (pUc δ _ _ (by omega)) ?_
        refine g_aload_n C dX8_urn_37 rfl ?_
        refine g_dup C dX8_urn_38 rfl ?_
        refine g_get C dX8_urn_39 iwX8 rfl (wO_X δ _) 8 (Nat.le_of_ble_eq_true rfl) mW225 rfl rfl ?_
        refine g_iconst (v := 1) C dX8_urn_42 (by decide) ?_
        refine g_iadd C dX8_urn_43 ?_
        refine g_put C tyX8 dX8_urn_44 iwX8 tyX8_ok nmX8 rfl (wO_X δ _) 8 (Nat.le_of_ble_eq_true rfl) mW225 rfl rfl rfl rfl rfl (Nat.le_of_ble_eq_true rfl) (pN_0 δ _ _) ?_
        rw [gN_uN, if_neg (by omega), hm, show nI m + 1 = nI (m + 1) from nI_1 m]
        refine g_aload_n C dX8_urn_47 rfl ?_
        refine g_get C dX8_urn_48 iwX8 rfl (wO_X δ _) 8 (Nat.le_of_ble_eq_true rfl) mW225 rfl rfl ?_
        rw [gN_uN, if_pos rfl]
        refine g_iconst (v := 1) C dX8_urn_51 (by decide) ?_
        refine g_isub C dX8_urn_52 ?_
        rw [nI_pred]
        exact g_iret C E dX8_urn_53 rfl rfl ⟨_, rfl, ⟨hz.symm, Or.inr ⟨⟨nI_nn (by omega), by omega⟩, rfl⟩⟩⟩
      · have k_18 := gnlt c_18 (a := m) (b := 8) (by first | rfl | assumption | (simp only [glit, nI_add, pk_mul]; done) | (simp only [glit, nI_add, pk_mul]; congr 1; omega) | (simp only [*, glit, nI_add, pk_mul]; congr 1; omega)) (by first | rfl | assumption | (simp only [glit, nI_add, pk_mul]; done) | (simp only [glit, nI_add, pk_mul]; congr 1; omega) | (simp only [*, glit, nI_add, pk_mul]; congr 1; omega)) (by omega) (by omega)
        have hz : fUrn n m = -3 := fUrn_f c_2 c_7 (by omega)
        refine g_bipush (v := (-3)) C dX8_urn_21 (by decide) ?_
        exact g_iret C E dX8_urn_23 rfl rfl ⟨_, rfl, ⟨hz.symm, Or.inl ⟨by decide, rfl⟩⟩⟩
    · refine g_iconst (v := (-1)) C dX8_urn_10 (by decide) ?_
      exact g_iret C E dX8_urn_11 rfl rfl ⟨_, rfl, ⟨by first | exact (fUrn_b (Or.inl c_2)).symm | exact (fUrn_b (Or.inr (Int32.not_le.mp c_7))).symm, Or.inl ⟨by decide, rfl⟩⟩⟩
set_option maxRecDepth 100000 in
set_option maxHeartbeats 4000000 in
theorem c_X9_urn2 (l : Launch) (δ : GD) (σ : GS) (n : Int32) {m : Nat} (hm : gN σ 33 = nI m) (h8 : m ≤ 8) : gM l δ yX9_urn cX9_urn 2 (some .int) 1 25 [.ref (δ.2.2.1 1), .int n] σ (gPi (fun x σ' => x = fUrn n m ∧ ((x < 0 ∧ σ = σ') ∨ ((¬ x < 0 ∧ m < 8) ∧ σ' = uN (uI σ 52 (upd (gI σ 52) m n)) 33 (nI (m + 1)))))) := by
  refine g_of (lv0 := [some (.ref (δ.2.2.1 1)), some (.int n)]) (by decide) rfl (Nat.le_of_ble_eq_true rfl) (fun Γ hl C E => ?_)
  subst hl
  have C : gC Γ δ cX9_urn RX9 2 1 25 := C
  refine g_iload_n C dX9_urn_0 rfl ?_
  refine g_i2l C dX9_urn_1 ?_
  refine g_ldc2 C dX9_urn_2 mW663 ?_
  refine g_ldc2 C dX9_urn_5 mW706 ?_
  refine g_callSi C sS_X9_62 dX9_urn_8 (c_X9_in _ δ _ _ _ _) ⟨by decide, by decide⟩ rfl rfl rfl (Nat.le_of_ble_eq_true rfl) (fun r_8 s_8 h_8 => ?_)
  obtain ⟨rfl, h_8⟩ := h_8
  rcases h_8 with ⟨rfl, h_8⟩ | ⟨rfl, h_8⟩
  · skip
    refine g_if_ne C 16 dX9_urn_11 (by decide) (fun c_11 => ?_) (fun c_11 => ?_)
    · refine g_aload_n C dX9_urn_16 rfl ?_
      refine g_get C dX9_urn_17 iwX9 rfl (wO_M δ _) 4 (Nat.le_of_ble_eq_true rfl) mW576 rfl rfl ?_
      rw [hm]
      refine g_bipush (v := 8) C dX9_urn_20 (by decide) ?_
      refine g_icmp_ne C 28 dX9_urn_22 (by decide) (fun c_22 => ?_) (fun c_22 => ?_)
      · have k_22 := gne c_22 (a := m) (b := 8) (by first | rfl | assumption | (simp only [glit, nI_add, pk_mul]; done) | (simp only [glit, nI_add, pk_mul]; congr 1; omega) | (simp only [*, glit, nI_add, pk_mul]; congr 1; omega)) (by first | rfl | assumption | (simp only [glit, nI_add, pk_mul]; done) | (simp only [glit, nI_add, pk_mul]; congr 1; omega) | (simp only [*, glit, nI_add, pk_mul]; congr 1; omega)) (by omega) (by omega)
        have hz : fUrn n m = nI m := fUrn_o (fUrn_1 h_8) (fUrn_2 h_8) (by omega)
        refine g_aload_n C dX9_urn_28 rfl ?_
        refine g_get C dX9_urn_29 iwX9 rfl (wO_M δ _) 5 (Nat.le_of_ble_eq_true rfl) mW577 rfl rfl ?_
        refine g_aload_n C dX9_urn_32 rfl ?_
        refine g_get C dX9_urn_33 iwX9 rfl (wO_M δ _) 4 (Nat.le_of_ble_eq_true rfl) mW576 rfl rfl ?_
        rw [hm]
        refine g_iload_n C dX9_urn_36 rfl ?_
        refine g_iastN C dX9_urn_37 (k := m) (q := 52) (by decide) rfl (by first | rfl | assumption | (simp only [glit, nI_add, pk_mul]; done) | (simp only [glit, nI_add, pk_mul]; congr 1; omega) | (simp only [*, glit, nI_add, pk_mul]; congr 1; omega)) (show m < gLenI 52 from Nat.lt_of_lt_of_eq (show m < 8 by omega) rfl) ?_
        refine g_aload_n C dX9_urn_38 rfl ?_
        refine g_dup C dX9_urn_39 rfl ?_
        refine g_get C dX9_urn_40 iwX9 rfl (wO_M δ _) 4 (Nat.le_of_ble_eq_true rfl) mW576 rfl rfl ?_
        rw [gN_uI, hm]
        refine g_iconst (v := 1) C dX9_urn_43 (by decide) ?_
        refine g_iadd C dX9_urn_44 ?_
        rw [show nI m + 1 = nI (m + 1) from nI_1 m]
        refine g_put C tyX9 dX9_urn_45 iwX9 tyX9_ok nmX9 rfl (wO_M δ _) 4 (Nat.le_of_ble_eq_true rfl) mW576 rfl rfl rfl rfl rfl (Nat.le_of_ble_eq_true rfl) (pN_33 δ _ _) ?_
        refine g_aload_n C dX9_urn_48 rfl ?_
        refine g_get C dX9_urn_49 iwX9 rfl (wO_M δ _) 4 (Nat.le_of_ble_eq_true rfl) mW576 rfl rfl ?_
        rw [gN_uN, if_pos rfl]
        refine g_iconst (v := 1) C dX9_urn_52 (by decide) ?_
        refine g_isub C dX9_urn_53 ?_
        rw [nI_pred]
        exact g_iret C E dX9_urn_54 rfl rfl ⟨_, rfl, ⟨hz.symm, Or.inr ⟨⟨nI_nn (by omega), by omega⟩, rfl⟩⟩⟩
      · have k_22 := geq c_22 (a := m) (b := 8) (by first | rfl | assumption | (simp only [glit, nI_add, pk_mul]; done) | (simp only [glit, nI_add, pk_mul]; congr 1; omega) | (simp only [*, glit, nI_add, pk_mul]; congr 1; omega)) (by first | rfl | assumption | (simp only [glit, nI_add, pk_mul]; done) | (simp only [glit, nI_add, pk_mul]; congr 1; omega) | (simp only [*, glit, nI_add, pk_mul]; congr 1; omega)) (by omega) (by omega)
        have hz : fUrn n m = -3 := fUrn_f (fUrn_1 h_8) (fUrn_2 h_8) k_22
        refine g_bipush (v := (-3)) C dX9_urn_25 (by decide) ?_
        exact g_iret C E dX9_urn_27 rfl rfl ⟨_, rfl, ⟨hz.symm, Or.inl ⟨by decide, rfl⟩⟩⟩
    · exact absurd c_11 (by decide)
  · skip
    refine g_if_ne C 16 dX9_urn_11 (by decide) (fun c_11 => ?_) (fun c_11 => ?_)
    · exact absurd c_11 (by decide)
    · have hz : fUrn n m = -1 := fUrn_k h_8
      refine g_iconst (v := (-1)) C dX9_urn_14 (by decide) ?_
      exact g_iret C E dX9_urn_15 rfl rfl ⟨_, rfl, ⟨hz.symm, Or.inl ⟨by decide, rfl⟩⟩⟩
