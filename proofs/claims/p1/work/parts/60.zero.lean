theorem sV_X9_89 : gSV RX9 89 yX9_isUrn cX9_isUrn 2 (some .boolean) 1 := ⟨mW687, mW689, mP14, mW11, mW690, ⟨by decide +kernel, by decide +kernel⟩, by decide +kernel⟩
theorem sV_X8_101 : gSV RX8 101 yX8_urnAt cX8_urnAt 2 (some (.object "GrowingUrns$Urn")) 1 := ⟨mW290, mW292, mP1, mW1, mW293, ⟨by decide +kernel, by decide +kernel⟩, by decide +kernel⟩
theorem sV_X9_200 : gSV RX9 200 yX9_isAsked cX9_isAsked 3 (some .boolean) 2 := ⟨mW809, mW811, mP27, mW11, mW812, ⟨by decide +kernel, by decide +kernel⟩, by decide +kernel⟩
theorem sV_X8_167 : gSV RX8 167 yX2_takeLatest cX2_takeLatest 1 (some (.array .int)) 0 := ⟨mW405, mW406, mW407, mW2, mW408, ⟨by decide +kernel, by decide +kernel⟩, by decide +kernel⟩
set_option maxRecDepth 100000 in
set_option maxHeartbeats 4000000 in
theorem cz_X9_isAsked (l : Launch) (δ : GD) (σ : GS) (hm : gN σ 33 = nI 0) (p0 p1 : Int32) : gM l δ yX9_isAsked cX9_isAsked 3 (some .boolean) 2 46 [.ref (δ.2.2.1 1), .int p0, .int p1] σ (gPi (fun x σ' => σ = σ' ∧ x = 0)) := by
  refine g_of (lv0 := [some (.ref (δ.2.2.1 1)), some (.int p0), some (.int p1)]) (by decide) rfl (Nat.le_of_ble_eq_true rfl) (fun Γ hl C E => ?_)
  subst hl
  have C : gC Γ δ cX9_isAsked RX9 3 2 46 := C
  refine g_aload_n C dX9_isAsked_0 rfl ?_
  refine g_iload_n C dX9_isAsked_1 rfl ?_
  refine g_callVi C sV_X9_89 dX9_isAsked_2 (c_X9_isUrn _ δ _ _ hm (by omega)) ⟨by decide, by decide⟩ (wO_M δ _) rfl rfl rfl rfl (Nat.le_of_ble_eq_true rfl) (fun r_2 s_2 h_2 => ?_)
  obtain ⟨rfl, h_2⟩ := h_2
  rcases h_2 with ⟨rfl, h_2⟩ | ⟨rfl, h_2⟩
  · obtain ⟨k_, hk_, -⟩ := h_2
    exact absurd hk_ (Nat.not_lt_zero _)
  · skip
    refine g_if_eq C 24 dX9_isAsked_5 (by decide) (fun c_5 => ?_) (fun c_5 => ?_)
    · refine g_iconst (v := 0) C dX9_isAsked_24 (by decide) ?_
      exact g_iret C E dX9_isAsked_25 rfl rfl ⟨_, rfl, ⟨rfl, rfl⟩⟩
    · exact absurd c_5 (by decide)
set_option maxRecDepth 100000 in
set_option maxHeartbeats 4000000 in
theorem cz_X8_read (l : Launch) (δ : GD) (σ : GS) (hm : gN σ 0 = nI 0) (p0 p1 p2 p3 p4 : Int32) : gM l δ yX8_read cX8_read 13 (some .int) 3 62 [.ref (δ.2.2.1 0), .int p0, .int p1, .int p2, .int p3, .int p4] σ (gPi (fun x σ' => σ = σ' ∧ x = -1)) := by
  refine g_of (lv0 := [some (.ref (δ.2.2.1 0)), some (.int p0), some (.int p1), some (.int p2), some (.int p3), some (.int p4), none, none, none, none, none, none, none]) (by decide) rfl (Nat.le_of_ble_eq_true rfl) (fun Γ hl C E => ?_)
  subst hl
  have C : gC Γ δ cX8_read RX8 13 3 62 := C
  refine g_aload_n C dX8_read_0 rfl ?_
  refine g_iload_n C dX8_read_1 rfl ?_
  refine g_callVr C sV_X8_101 dX8_read_2 (c_X8_urnAt _ δ _ _ hm (by omega)) ⟨by decide, by decide⟩ (wO_X δ _) rfl rfl rfl rfl (Nat.le_of_ble_eq_true rfl) (fun r_2 s_2 h_2 => ?_)
  obtain ⟨rfl, h_2⟩ := h_2
  rcases h_2 with ⟨rfl, h_2⟩ | ⟨u_2, hu_2, e_2, rfl⟩
  · skip
    refine g_astoreN C dX8_read_5 (Nat.le_of_ble_eq_true rfl) rfl ?_
    refine g_lv [some _, some _, some _, some _, some _, some _, some _, none, none, none, none, none, none] (gs_some (gs_some (gs_some (gs_some (gs_some (gs_some (gs_some (gs_none (gs_none (gs_none (gs_none (gs_none (gs_none gs_nil))))))))))))) ?_
    refine g_aload_n C dX8_read_7 rfl ?_
    refine g_iload C dX8_read_8 rfl ?_
    refine g_callVr C sV_X8_72 dX8_read_10 (c_X8_sheetAt _ δ _ _) ⟨by decide, by decide⟩ (wO_X δ _) rfl rfl rfl rfl (Nat.le_of_ble_eq_true rfl) (fun r_10 s_10 h_10 => ?_)
    obtain ⟨rfl, h_10⟩ := h_10
    rcases h_10 with ⟨rfl, h_10⟩ | ⟨u_10, hu_10, e_10, rfl⟩
    · skip
      refine g_astoreN C dX8_read_13 (Nat.le_of_ble_eq_true rfl) rfl ?_
      refine g_lv [some _, some _, some _, some _, some _, some _, some _, some _, none, none, none, none, none] (gs_some (gs_some (gs_some (gs_some (gs_some (gs_some (gs_some (gs_some (gs_none (gs_none (gs_none (gs_none (gs_none gs_nil))))))))))))) ?_
      refine g_aloadN C dX8_read_15 rfl ?_
      refine g_ifnull_n C 34 dX8_read_17 (by decide) ?_
      refine g_iconst (v := (-1)) C dX8_read_34 (by decide) ?_
      exact g_iret C E dX8_read_35 rfl rfl ⟨_, rfl, ⟨rfl, rfl⟩⟩
    · skip
      refine g_astore C dX8_read_13 (Nat.le_of_ble_eq_true rfl) rfl ?_
      refine g_lv [some _, some _, some _, some _, some _, some _, some _, some _, none, none, none, none, none] (gs_some (gs_some (gs_some (gs_some (gs_some (gs_some (gs_some (gs_some (gs_none (gs_none (gs_none (gs_none (gs_none gs_nil))))))))))))) ?_
      refine g_aloadN C dX8_read_15 rfl ?_
      refine g_ifnull_n C 34 dX8_read_17 (by decide) ?_
      refine g_iconst (v := (-1)) C dX8_read_34 (by decide) ?_
      exact g_iret C E dX8_read_35 rfl rfl ⟨_, rfl, ⟨rfl, rfl⟩⟩
  · exact absurd hu_2 (Nat.not_lt_zero _)
set_option maxRecDepth 100000 in
set_option maxHeartbeats 4000000 in
theorem cz_X9_read (l : Launch) (δ : GD) (σ : GS) (hm : gN σ 33 = nI 0) (p0 p1 p2 p3 p4 : Int32) : gM l δ yX9_read cX9_read 7 (some .int) 2 47 [.ref (δ.2.2.1 1), .int p0, .int p1, .int p2, .int p3, .int p4] σ (gPi (fun x σ' => σ = σ' ∧ x = -1)) := by
  refine g_of (lv0 := [some (.ref (δ.2.2.1 1)), some (.int p0), some (.int p1), some (.int p2), some (.int p3), some (.int p4), none]) (by decide) rfl (Nat.le_of_ble_eq_true rfl) (fun Γ hl C E => ?_)
  subst hl
  have C : gC Γ δ cX9_read RX9 7 2 47 := C
  refine g_aload_n C dX9_read_0 rfl ?_
  refine g_iload_n C dX9_read_1 rfl ?_
  refine g_callVi C sV_X9_89 dX9_read_2 (c_X9_isUrn _ δ _ _ hm (by omega)) ⟨by decide, by decide⟩ (wO_M δ _) rfl rfl rfl rfl (Nat.le_of_ble_eq_true rfl) (fun r_2 s_2 h_2 => ?_)
  obtain ⟨rfl, h_2⟩ := h_2
  rcases h_2 with ⟨rfl, h_2⟩ | ⟨rfl, h_2⟩
  · obtain ⟨k_, hk_, -⟩ := h_2
    exact absurd hk_ (Nat.not_lt_zero _)
  · skip
    refine g_if_eq C 40 dX9_read_5 (by decide) (fun c_5 => ?_) (fun c_5 => ?_)
    · refine g_iconst (v := (-1)) C dX9_read_40 (by decide) ?_
      exact g_iret C E dX9_read_41 rfl rfl ⟨_, rfl, ⟨rfl, rfl⟩⟩
    · exact absurd c_5 (by decide)
set_option maxRecDepth 100000 in
set_option maxHeartbeats 4000000 in
theorem cz_X8_put (l : Launch) (δ : GD) (σ : GS) (hm : gN σ 0 = nI 0) (p0 p1 p2 : Int32) : gM l δ yX8_put cX8_put 6 (some .int) 3 62 [.ref (δ.2.2.1 0), .int p0, .int p1, .int p2] σ (gPi (fun x σ' => σ = σ' ∧ x = -1)) := by
  refine g_of (lv0 := [some (.ref (δ.2.2.1 0)), some (.int p0), some (.int p1), some (.int p2), none, none]) (by decide) rfl (Nat.le_of_ble_eq_true rfl) (fun Γ hl C E => ?_)
  subst hl
  have C : gC Γ δ cX8_put RX8 6 3 62 := C
  refine g_aload_n C dX8_put_0 rfl ?_
  refine g_iload_n C dX8_put_1 rfl ?_
  refine g_callVr C sV_X8_101 dX8_put_2 (c_X8_urnAt _ δ _ _ hm (by omega)) ⟨by decide, by decide⟩ (wO_X δ _) rfl rfl rfl rfl (Nat.le_of_ble_eq_true rfl) (fun r_2 s_2 h_2 => ?_)
  obtain ⟨rfl, h_2⟩ := h_2
  rcases h_2 with ⟨rfl, h_2⟩ | ⟨u_2, hu_2, e_2, rfl⟩
  · skip
    refine g_astoreN C dX8_put_5 (Nat.le_of_ble_eq_true rfl) rfl ?_
    refine g_lv [some _, some _, some _, some _, some _, none] (gs_some (gs_some (gs_some (gs_some (gs_some (gs_none gs_nil)))))) ?_
    refine g_aloadN C dX8_put_7 rfl ?_
    refine g_ifnull_n C 32 dX8_put_9 (by decide) ?_
    refine g_iconst (v := (-1)) C dX8_put_32 (by decide) ?_
    exact g_iret C E dX8_put_33 rfl rfl ⟨_, rfl, ⟨rfl, rfl⟩⟩
  · exact absurd hu_2 (Nat.not_lt_zero _)
set_option maxRecDepth 100000 in
set_option maxHeartbeats 4000000 in
theorem cz_X9_put (l : Launch) (δ : GD) (σ : GS) (hm : gN σ 33 = nI 0) (p0 p1 p2 : Int32) : gM l δ yX9_put cX9_put 5 (some .int) 2 47 [.ref (δ.2.2.1 1), .int p0, .int p1, .int p2] σ (gPi (fun x σ' => σ = σ' ∧ x = -1)) := by
  refine g_of (lv0 := [some (.ref (δ.2.2.1 1)), some (.int p0), some (.int p1), some (.int p2), none]) (by decide) rfl (Nat.le_of_ble_eq_true rfl) (fun Γ hl C E => ?_)
  subst hl
  have C : gC Γ δ cX9_put RX9 5 2 47 := C
  refine g_aload_n C dX9_put_0 rfl ?_
  refine g_iload_n C dX9_put_1 rfl ?_
  refine g_callVi C sV_X9_89 dX9_put_2 (c_X9_isUrn _ δ _ _ hm (by omega)) ⟨by decide, by decide⟩ (wO_M δ _) rfl rfl rfl rfl (Nat.le_of_ble_eq_true rfl) (fun r_2 s_2 h_2 => ?_)
  obtain ⟨rfl, h_2⟩ := h_2
  rcases h_2 with ⟨rfl, h_2⟩ | ⟨rfl, h_2⟩
  · obtain ⟨k_, hk_, -⟩ := h_2
    exact absurd hk_ (Nat.not_lt_zero _)
  · skip
    refine g_if_eq C 29 dX9_put_5 (by decide) (fun c_5 => ?_) (fun c_5 => ?_)
    · refine g_iconst (v := (-1)) C dX9_put_29 (by decide) ?_
      exact g_iret C E dX9_put_30 rfl rfl ⟨_, rfl, ⟨rfl, rfl⟩⟩
    · exact absurd c_5 (by decide)
set_option maxRecDepth 100000 in
set_option maxHeartbeats 4000000 in
theorem cz_X8_add (l : Launch) (δ : GD) (σ : GS) (hm : gN σ 0 = nI 0) (p0 p1 p2 p3 : Int32) : gM l δ yX8_add cX8_add 7 (some .int) 3 62 [.ref (δ.2.2.1 0), .int p0, .int p1, .int p2, .int p3] σ (gPi (fun x σ' => σ = σ' ∧ x = -100)) := by
  refine g_of (lv0 := [some (.ref (δ.2.2.1 0)), some (.int p0), some (.int p1), some (.int p2), some (.int p3), none, none]) (by decide) rfl (Nat.le_of_ble_eq_true rfl) (fun Γ hl C E => ?_)
  subst hl
  have C : gC Γ δ cX8_add RX8 7 3 62 := C
  refine g_aload_n C dX8_add_0 rfl ?_
  refine g_iload_n C dX8_add_1 rfl ?_
  refine g_callVr C sV_X8_101 dX8_add_2 (c_X8_urnAt _ δ _ _ hm (by omega)) ⟨by decide, by decide⟩ (wO_X δ _) rfl rfl rfl rfl (Nat.le_of_ble_eq_true rfl) (fun r_2 s_2 h_2 => ?_)
  obtain ⟨rfl, h_2⟩ := h_2
  rcases h_2 with ⟨rfl, h_2⟩ | ⟨u_2, hu_2, e_2, rfl⟩
  · skip
    refine g_astoreN C dX8_add_5 (Nat.le_of_ble_eq_true rfl) rfl ?_
    refine g_lv [some _, some _, some _, some _, some _, some _, none] (gs_some (gs_some (gs_some (gs_some (gs_some (gs_some (gs_none gs_nil))))))) ?_
    refine g_aloadN C dX8_add_7 rfl ?_
    refine g_ifnull_n C 44 dX8_add_9 (by decide) ?_
    refine g_bipush (v := (-100)) C dX8_add_44 (by decide) ?_
    exact g_iret C E dX8_add_46 rfl rfl ⟨_, rfl, ⟨rfl, rfl⟩⟩
  · exact absurd hu_2 (Nat.not_lt_zero _)
set_option maxRecDepth 100000 in
set_option maxHeartbeats 4000000 in
theorem cz_X9_add (l : Launch) (δ : GD) (σ : GS) (hm : gN σ 33 = nI 0) (p0 p1 p2 p3 : Int32) : gM l δ yX9_add cX9_add 7 (some .int) 2 47 [.ref (δ.2.2.1 1), .int p0, .int p1, .int p2, .int p3] σ (gPi (fun x σ' => σ = σ' ∧ x = -100)) := by
  refine g_of (lv0 := [some (.ref (δ.2.2.1 1)), some (.int p0), some (.int p1), some (.int p2), some (.int p3), none, none]) (by decide) rfl (Nat.le_of_ble_eq_true rfl) (fun Γ hl C E => ?_)
  subst hl
  have C : gC Γ δ cX9_add RX9 7 2 47 := C
  refine g_aload_n C dX9_add_0 rfl ?_
  refine g_iload_n C dX9_add_1 rfl ?_
  refine g_callVi C sV_X9_89 dX9_add_2 (c_X9_isUrn _ δ _ _ hm (by omega)) ⟨by decide, by decide⟩ (wO_M δ _) rfl rfl rfl rfl (Nat.le_of_ble_eq_true rfl) (fun r_2 s_2 h_2 => ?_)
  obtain ⟨rfl, h_2⟩ := h_2
  rcases h_2 with ⟨rfl, h_2⟩ | ⟨rfl, h_2⟩
  · obtain ⟨k_, hk_, -⟩ := h_2
    exact absurd hk_ (Nat.not_lt_zero _)
  · skip
    refine g_if_eq C 41 dX9_add_5 (by decide) (fun c_5 => ?_) (fun c_5 => ?_)
    · refine g_bipush (v := (-100)) C dX9_add_41 (by decide) ?_
      exact g_iret C E dX9_add_43 rfl rfl ⟨_, rfl, ⟨rfl, rfl⟩⟩
    · exact absurd c_5 (by decide)
set_option maxRecDepth 100000 in
set_option maxHeartbeats 4000000 in
theorem cz_X8_is (l : Launch) (δ : GD) (σ : GS) (hm : gN σ 0 = nI 0) (p0 p1 p2 : Int32) : gM l δ yX8_is cX8_is 6 (some .int) 3 62 [.ref (δ.2.2.1 0), .int p0, .int p1, .int p2] σ (gPi (fun x σ' => σ = σ' ∧ x = -1)) := by
  refine g_of (lv0 := [some (.ref (δ.2.2.1 0)), some (.int p0), some (.int p1), some (.int p2), none, none]) (by decide) rfl (Nat.le_of_ble_eq_true rfl) (fun Γ hl C E => ?_)
  subst hl
  have C : gC Γ δ cX8_is RX8 6 3 62 := C
  refine g_aload_n C dX8_is_0 rfl ?_
  refine g_iload_n C dX8_is_1 rfl ?_
  refine g_callVr C sV_X8_101 dX8_is_2 (c_X8_urnAt _ δ _ _ hm (by omega)) ⟨by decide, by decide⟩ (wO_X δ _) rfl rfl rfl rfl (Nat.le_of_ble_eq_true rfl) (fun r_2 s_2 h_2 => ?_)
  obtain ⟨rfl, h_2⟩ := h_2
  rcases h_2 with ⟨rfl, h_2⟩ | ⟨u_2, hu_2, e_2, rfl⟩
  · skip
    refine g_astoreN C dX8_is_5 (Nat.le_of_ble_eq_true rfl) rfl ?_
    refine g_lv [some _, some _, some _, some _, some _, none] (gs_some (gs_some (gs_some (gs_some (gs_some (gs_none gs_nil)))))) ?_
    refine g_aloadN C dX8_is_7 rfl ?_
    refine g_ifnull_n C 31 dX8_is_9 (by decide) ?_
    refine g_iconst (v := (-1)) C dX8_is_31 (by decide) ?_
    exact g_iret C E dX8_is_32 rfl rfl ⟨_, rfl, ⟨rfl, rfl⟩⟩
  · exact absurd hu_2 (Nat.not_lt_zero _)
set_option maxRecDepth 100000 in
set_option maxHeartbeats 4000000 in
theorem cz_X9_is (l : Launch) (δ : GD) (σ : GS) (hm : gN σ 33 = nI 0) (p0 p1 p2 : Int32) : gM l δ yX9_is cX9_is 6 (some .int) 2 47 [.ref (δ.2.2.1 1), .int p0, .int p1, .int p2] σ (gPi (fun x σ' => σ = σ' ∧ x = -1)) := by
  refine g_of (lv0 := [some (.ref (δ.2.2.1 1)), some (.int p0), some (.int p1), some (.int p2), none, none]) (by decide) rfl (Nat.le_of_ble_eq_true rfl) (fun Γ hl C E => ?_)
  subst hl
  have C : gC Γ δ cX9_is RX9 6 2 47 := C
  refine g_aload_n C dX9_is_0 rfl ?_
  refine g_iload_n C dX9_is_1 rfl ?_
  refine g_callVi C sV_X9_89 dX9_is_2 (c_X9_isUrn _ δ _ _ hm (by omega)) ⟨by decide, by decide⟩ (wO_M δ _) rfl rfl rfl rfl (Nat.le_of_ble_eq_true rfl) (fun r_2 s_2 h_2 => ?_)
  obtain ⟨rfl, h_2⟩ := h_2
  rcases h_2 with ⟨rfl, h_2⟩ | ⟨rfl, h_2⟩
  · obtain ⟨k_, hk_, -⟩ := h_2
    exact absurd hk_ (Nat.not_lt_zero _)
  · skip
    refine g_if_eq C 32 dX9_is_5 (by decide) (fun c_5 => ?_) (fun c_5 => ?_)
    · refine g_iconst (v := (-1)) C dX9_is_32 (by decide) ?_
      exact g_iret C E dX9_is_33 rfl rfl ⟨_, rfl, ⟨rfl, rfl⟩⟩
    · exact absurd c_5 (by decide)
set_option maxRecDepth 100000 in
set_option maxHeartbeats 4000000 in
theorem cz_X8_about (l : Launch) (δ : GD) (σ : GS) (hm : gN σ 0 = nI 0) (p0 p1 : Int32) : gM l δ yX8_about cX8_about 4 (some .int) 2 44 [.ref (δ.2.2.1 0), .int p0, .int p1] σ (gPi (fun x σ' => σ = σ' ∧ x = -1000)) := by
  refine g_of (lv0 := [some (.ref (δ.2.2.1 0)), some (.int p0), some (.int p1), none]) (by decide) rfl (Nat.le_of_ble_eq_true rfl) (fun Γ hl C E => ?_)
  subst hl
  have C : gC Γ δ cX8_about RX8 4 2 44 := C
  refine g_aload_n C dX8_about_0 rfl ?_
  refine g_iload_n C dX8_about_1 rfl ?_
  refine g_callVr C sV_X8_101 dX8_about_2 (c_X8_urnAt _ δ _ _ hm (by omega)) ⟨by decide, by decide⟩ (wO_X δ _) rfl rfl rfl rfl (Nat.le_of_ble_eq_true rfl) (fun r_2 s_2 h_2 => ?_)
  obtain ⟨rfl, h_2⟩ := h_2
  rcases h_2 with ⟨rfl, h_2⟩ | ⟨u_2, hu_2, e_2, rfl⟩
  · skip
    refine g_astore_nN C dX8_about_5 (Nat.le_of_ble_eq_true rfl) rfl ?_
    refine g_lv [some _, some _, some _, some _] (gs_some (gs_some (gs_some (gs_some gs_nil)))) ?_
    refine g_aload_nN C dX8_about_6 rfl ?_
    refine g_ifnonnull_n C dX8_about_7 ?_
    refine g_sipush (v := (-1000)) C dX8_about_10 (by decide) ?_
    exact g_iret C E dX8_about_13 rfl rfl ⟨_, rfl, ⟨rfl, rfl⟩⟩
  · exact absurd hu_2 (Nat.not_lt_zero _)
set_option maxRecDepth 100000 in
set_option maxHeartbeats 4000000 in
theorem cz_X9_about (l : Launch) (δ : GD) (σ : GS) (hm : gN σ 33 = nI 0) (p0 p1 : Int32) : gM l δ yX9_about cX9_about 3 (some .int) 3 71 [.ref (δ.2.2.1 1), .int p0, .int p1] σ (gPi (fun x σ' => σ = σ' ∧ x = -1000)) := by
  refine g_of (lv0 := [some (.ref (δ.2.2.1 1)), some (.int p0), some (.int p1)]) (by decide) rfl (Nat.le_of_ble_eq_true rfl) (fun Γ hl C E => ?_)
  subst hl
  have C : gC Γ δ cX9_about RX9 3 3 71 := C
  refine g_aload_n C dX9_about_0 rfl ?_
  refine g_iload_n C dX9_about_1 rfl ?_
  refine g_callVi C sV_X9_89 dX9_about_2 (c_X9_isUrn _ δ _ _ hm (by omega)) ⟨by decide, by decide⟩ (wO_M δ _) rfl rfl rfl rfl (Nat.le_of_ble_eq_true rfl) (fun r_2 s_2 h_2 => ?_)
  obtain ⟨rfl, h_2⟩ := h_2
  rcases h_2 with ⟨rfl, h_2⟩ | ⟨rfl, h_2⟩
  · obtain ⟨k_, hk_, -⟩ := h_2
    exact absurd hk_ (Nat.not_lt_zero _)
  · skip
    refine g_if_eq C 26 dX9_about_5 (by decide) (fun c_5 => ?_) (fun c_5 => ?_)
    · refine g_sipush (v := (-1000)) C dX9_about_26 (by decide) ?_
      exact g_iret C E dX9_about_29 rfl rfl ⟨_, rfl, ⟨rfl, rfl⟩⟩
    · exact absurd c_5 (by decide)
set_option maxRecDepth 100000 in
set_option maxHeartbeats 4000000 in
theorem cz_X8_added (l : Launch) (δ : GD) (σ : GS) (hm : gN σ 0 = nI 0) (p0 p1 p2 : Int32) : gM l δ yX8_added cX8_added 5 (some .int) 1 21 [.ref (δ.2.2.1 0), .int p0, .int p1, .int p2] σ (gPi (fun x σ' => σ = σ' ∧ x = -100)) := by
  refine g_of (lv0 := [some (.ref (δ.2.2.1 0)), some (.int p0), some (.int p1), some (.int p2), none]) (by decide) rfl (Nat.le_of_ble_eq_true rfl) (fun Γ hl C E => ?_)
  subst hl
  have C : gC Γ δ cX8_added RX8 5 1 21 := C
  refine g_aload_n C dX8_added_0 rfl ?_
  refine g_iload_n C dX8_added_1 rfl ?_
  refine g_callVr C sV_X8_101 dX8_added_2 (c_X8_urnAt _ δ _ _ hm (by omega)) ⟨by decide, by decide⟩ (wO_X δ _) rfl rfl rfl rfl (Nat.le_of_ble_eq_true rfl) (fun r_2 s_2 h_2 => ?_)
  obtain ⟨rfl, h_2⟩ := h_2
  rcases h_2 with ⟨rfl, h_2⟩ | ⟨u_2, hu_2, e_2, rfl⟩
  · skip
    refine g_astoreN C dX8_added_5 (Nat.le_of_ble_eq_true rfl) rfl ?_
    refine g_lv [some _, some _, some _, some _, some _] (gs_some (gs_some (gs_some (gs_some (gs_some gs_nil))))) ?_
    refine g_aloadN C dX8_added_7 rfl ?_
    refine g_ifnull_n C 30 dX8_added_9 (by decide) ?_
    refine g_bipush (v := (-100)) C dX8_added_30 (by decide) ?_
    exact g_iret C E dX8_added_32 rfl rfl ⟨_, rfl, ⟨rfl, rfl⟩⟩
  · exact absurd hu_2 (Nat.not_lt_zero _)
set_option maxRecDepth 100000 in
set_option maxHeartbeats 4000000 in
theorem cz_X9_added (l : Launch) (δ : GD) (σ : GS) (hm : gN σ 33 = nI 0) (p0 p1 p2 : Int32) : gM l δ yX9_added cX9_added 4 (some .int) 2 47 [.ref (δ.2.2.1 1), .int p0, .int p1, .int p2] σ (gPi (fun x σ' => σ = σ' ∧ x = -100)) := by
  refine g_of (lv0 := [some (.ref (δ.2.2.1 1)), some (.int p0), some (.int p1), some (.int p2)]) (by decide) rfl (Nat.le_of_ble_eq_true rfl) (fun Γ hl C E => ?_)
  subst hl
  have C : gC Γ δ cX9_added RX9 4 2 47 := C
  refine g_aload_n C dX9_added_0 rfl ?_
  refine g_iload_n C dX9_added_1 rfl ?_
  refine g_callVi C sV_X9_89 dX9_added_2 (c_X9_isUrn _ δ _ _ hm (by omega)) ⟨by decide, by decide⟩ (wO_M δ _) rfl rfl rfl rfl (Nat.le_of_ble_eq_true rfl) (fun r_2 s_2 h_2 => ?_)
  obtain ⟨rfl, h_2⟩ := h_2
  rcases h_2 with ⟨rfl, h_2⟩ | ⟨rfl, h_2⟩
  · obtain ⟨k_, hk_, -⟩ := h_2
    exact absurd hk_ (Nat.not_lt_zero _)
  · skip
    refine g_if_eq C 46 dX9_added_5 (by decide) (fun c_5 => ?_) (fun c_5 => ?_)
    · refine g_bipush (v := (-100)) C dX9_added_46 (by decide) ?_
      exact g_iret C E dX9_added_48 rfl rfl ⟨_, rfl, ⟨rfl, rfl⟩⟩
    · exact absurd c_5 (by decide)
set_option maxRecDepth 100000 in
set_option maxHeartbeats 4000000 in
theorem cz_X8_draw (l : Launch) (δ : GD) (σ : GS) (hm : gN σ 0 = nI 0) (p0 p1 : Int32) : gM l δ yX8_draw cX8_draw 4 (some .int) 3 62 [.ref (δ.2.2.1 0), .int p0, .int p1] σ (gPi (fun x σ' => σ = σ' ∧ x = -1)) := by
  refine g_of (lv0 := [some (.ref (δ.2.2.1 0)), some (.int p0), some (.int p1), none]) (by decide) rfl (Nat.le_of_ble_eq_true rfl) (fun Γ hl C E => ?_)
  subst hl
  have C : gC Γ δ cX8_draw RX8 4 3 62 := C
  refine g_aload_n C dX8_draw_0 rfl ?_
  refine g_iload_n C dX8_draw_1 rfl ?_
  refine g_callVr C sV_X8_101 dX8_draw_2 (c_X8_urnAt _ δ _ _ hm (by omega)) ⟨by decide, by decide⟩ (wO_X δ _) rfl rfl rfl rfl (Nat.le_of_ble_eq_true rfl) (fun r_2 s_2 h_2 => ?_)
  obtain ⟨rfl, h_2⟩ := h_2
  rcases h_2 with ⟨rfl, h_2⟩ | ⟨u_2, hu_2, e_2, rfl⟩
  · skip
    refine g_astore_nN C dX8_draw_5 (Nat.le_of_ble_eq_true rfl) rfl ?_
    refine g_lv [some _, some _, some _, some _] (gs_some (gs_some (gs_some (gs_some gs_nil)))) ?_
    refine g_aload_nN C dX8_draw_6 rfl ?_
    refine g_ifnull_n C 18 dX8_draw_7 (by decide) ?_
    refine g_iconst (v := (-1)) C dX8_draw_18 (by decide) ?_
    exact g_iret C E dX8_draw_19 rfl rfl ⟨_, rfl, ⟨rfl, rfl⟩⟩
  · exact absurd hu_2 (Nat.not_lt_zero _)
set_option maxRecDepth 100000 in
set_option maxHeartbeats 4000000 in
theorem cz_X9_draw (l : Launch) (δ : GD) (σ : GS) (hm : gN σ 33 = nI 0) (p0 p1 : Int32) : gM l δ yX9_draw cX9_draw 3 (some .int) 2 49 [.ref (δ.2.2.1 1), .int p0, .int p1] σ (gPi (fun x σ' => σ = σ' ∧ x = -1)) := by
  refine g_of (lv0 := [some (.ref (δ.2.2.1 1)), some (.int p0), some (.int p1)]) (by decide) rfl (Nat.le_of_ble_eq_true rfl) (fun Γ hl C E => ?_)
  subst hl
  have C : gC Γ δ cX9_draw RX9 3 2 49 := C
  refine g_aload_n C dX9_draw_0 rfl ?_
  refine g_iload_n C dX9_draw_1 rfl ?_
  refine g_callVi C sV_X9_89 dX9_draw_2 (c_X9_isUrn _ δ _ _ hm (by omega)) ⟨by decide, by decide⟩ (wO_M δ _) rfl rfl rfl rfl (Nat.le_of_ble_eq_true rfl) (fun r_2 s_2 h_2 => ?_)
  obtain ⟨rfl, h_2⟩ := h_2
  rcases h_2 with ⟨rfl, h_2⟩ | ⟨rfl, h_2⟩
  · obtain ⟨k_, hk_, -⟩ := h_2
    exact absurd hk_ (Nat.not_lt_zero _)
  · skip
    refine g_if_eq C 17 dX9_draw_5 (by decide) (fun c_5 => ?_) (fun c_5 => ?_)
    · refine g_iconst (v := (-1)) C dX9_draw_17 (by decide) ?_
      exact g_iret C E dX9_draw_18 rfl rfl ⟨_, rfl, ⟨rfl, rfl⟩⟩
    · exact absurd c_5 (by decide)
set_option maxRecDepth 100000 in
set_option maxHeartbeats 4000000 in
theorem cz_X8_drawn (l : Launch) (δ : GD) (σ : GS) (hm : gN σ 0 = nI 0) (p0 : Int32) : gM l δ yX8_drawn cX8_drawn 4 (some .int) 3 65 [.ref (δ.2.2.1 0), .int p0] σ (gPi (fun x σ' => σ = σ' ∧ x = -1)) := by
  refine g_of (lv0 := [some (.ref (δ.2.2.1 0)), some (.int p0), none, none]) (by decide) rfl (Nat.le_of_ble_eq_true rfl) (fun Γ hl C E => ?_)
  subst hl
  have C : gC Γ δ cX8_drawn RX8 4 3 65 := C
  refine g_aload_n C dX8_drawn_0 rfl ?_
  refine g_iload_n C dX8_drawn_1 rfl ?_
  refine g_callVr C sV_X8_101 dX8_drawn_2 (c_X8_urnAt _ δ _ _ hm (by omega)) ⟨by decide, by decide⟩ (wO_X δ _) rfl rfl rfl rfl (Nat.le_of_ble_eq_true rfl) (fun r_2 s_2 h_2 => ?_)
  obtain ⟨rfl, h_2⟩ := h_2
  rcases h_2 with ⟨rfl, h_2⟩ | ⟨u_2, hu_2, e_2, rfl⟩
  · skip
    refine g_ifnonnull_n C dX8_drawn_5 ?_
    refine g_iconst (v := (-1)) C dX8_drawn_8 (by decide) ?_
    exact g_iret C E dX8_drawn_9 rfl rfl ⟨_, rfl, ⟨rfl, rfl⟩⟩
  · exact absurd hu_2 (Nat.not_lt_zero _)
set_option maxRecDepth 100000 in
set_option maxHeartbeats 4000000 in
theorem cz_X9_drawn (l : Launch) (δ : GD) (σ : GS) (hm : gN σ 33 = nI 0) (p0 : Int32) : gM l δ yX9_drawn cX9_drawn 2 (some .int) 3 75 [.ref (δ.2.2.1 1), .int p0] σ (gPi (fun x σ' => σ = σ' ∧ x = -1)) := by
  refine g_of (lv0 := [some (.ref (δ.2.2.1 1)), some (.int p0)]) (by decide) rfl (Nat.le_of_ble_eq_true rfl) (fun Γ hl C E => ?_)
  subst hl
  have C : gC Γ δ cX9_drawn RX9 2 3 75 := C
  refine g_aload_n C dX9_drawn_0 rfl ?_
  refine g_iload_n C dX9_drawn_1 rfl ?_
  refine g_callVi C sV_X9_89 dX9_drawn_2 (c_X9_isUrn _ δ _ _ hm (by omega)) ⟨by decide, by decide⟩ (wO_M δ _) rfl rfl rfl rfl (Nat.le_of_ble_eq_true rfl) (fun r_2 s_2 h_2 => ?_)
  obtain ⟨rfl, h_2⟩ := h_2
  rcases h_2 with ⟨rfl, h_2⟩ | ⟨rfl, h_2⟩
  · obtain ⟨k_, hk_, -⟩ := h_2
    exact absurd hk_ (Nat.not_lt_zero _)
  · skip
    refine g_if_ne C 10 dX9_drawn_5 (by decide) (fun c_5 => ?_) (fun c_5 => ?_)
    · exact absurd c_5 (by decide)
    · refine g_iconst (v := (-1)) C dX9_drawn_8 (by decide) ?_
      exact g_iret C E dX9_drawn_9 rfl rfl ⟨_, rfl, ⟨rfl, rfl⟩⟩
set_option maxRecDepth 100000 in
set_option maxHeartbeats 4000000 in
theorem cz_X8_shake (l : Launch) (δ : GD) (σ : GS) (hm : gN σ 0 = nI 0) (p0 p1 : Int32) : gM l δ yX8_shake cX8_shake 4 (some .int) 3 65 [.ref (δ.2.2.1 0), .int p0, .int p1] σ (gPi (fun x σ' => σ = σ' ∧ x = -1)) := by
  refine g_of (lv0 := [some (.ref (δ.2.2.1 0)), some (.int p0), some (.int p1), none]) (by decide) rfl (Nat.le_of_ble_eq_true rfl) (fun Γ hl C E => ?_)
  subst hl
  have C : gC Γ δ cX8_shake RX8 4 3 65 := C
  refine g_aload_n C dX8_shake_0 rfl ?_
  refine g_iload_n C dX8_shake_1 rfl ?_
  refine g_callVr C sV_X8_101 dX8_shake_2 (c_X8_urnAt _ δ _ _ hm (by omega)) ⟨by decide, by decide⟩ (wO_X δ _) rfl rfl rfl rfl (Nat.le_of_ble_eq_true rfl) (fun r_2 s_2 h_2 => ?_)
  obtain ⟨rfl, h_2⟩ := h_2
  rcases h_2 with ⟨rfl, h_2⟩ | ⟨u_2, hu_2, e_2, rfl⟩
  · skip
    refine g_ifnull_n C 19 dX8_shake_5 (by decide) ?_
    refine g_iconst (v := (-1)) C dX8_shake_19 (by decide) ?_
    exact g_iret C E dX8_shake_20 rfl rfl ⟨_, rfl, ⟨rfl, rfl⟩⟩
  · exact absurd hu_2 (Nat.not_lt_zero _)
set_option maxRecDepth 100000 in
set_option maxHeartbeats 4000000 in
theorem cz_X9_shake (l : Launch) (δ : GD) (σ : GS) (hm : gN σ 33 = nI 0) (p0 p1 : Int32) : gM l δ yX9_shake cX9_shake 5 (some .int) 3 75 [.ref (δ.2.2.1 1), .int p0, .int p1] σ (gPi (fun x σ' => σ = σ' ∧ x = -1)) := by
  refine g_of (lv0 := [some (.ref (δ.2.2.1 1)), some (.int p0), some (.int p1), none, none]) (by decide) rfl (Nat.le_of_ble_eq_true rfl) (fun Γ hl C E => ?_)
  subst hl
  have C : gC Γ δ cX9_shake RX9 5 3 75 := C
  refine g_aload_n C dX9_shake_0 rfl ?_
  refine g_iload_n C dX9_shake_1 rfl ?_
  refine g_callVi C sV_X9_89 dX9_shake_2 (c_X9_isUrn _ δ _ _ hm (by omega)) ⟨by decide, by decide⟩ (wO_M δ _) rfl rfl rfl rfl (Nat.le_of_ble_eq_true rfl) (fun r_2 s_2 h_2 => ?_)
  obtain ⟨rfl, h_2⟩ := h_2
  rcases h_2 with ⟨rfl, h_2⟩ | ⟨rfl, h_2⟩
  · obtain ⟨k_, hk_, -⟩ := h_2
    exact absurd hk_ (Nat.not_lt_zero _)
  · skip
    refine g_if_eq C 20 dX9_shake_5 (by decide) (fun c_5 => ?_) (fun c_5 => ?_)
    · refine g_iconst (v := (-1)) C dX9_shake_20 (by decide) ?_
      exact g_iret C E dX9_shake_21 rfl rfl ⟨_, rfl, ⟨rfl, rfl⟩⟩
    · exact absurd c_5 (by decide)
set_option maxRecDepth 100000 in
set_option maxHeartbeats 4000000 in
theorem cz_X8_chance (l : Launch) (δ : GD) (σ : GS) (hm : gN σ 0 = nI 0) (p0 p1 p2 : Int32) : gM l δ yX8_chance cX8_chance 5 (some .int) 3 88 [.ref (δ.2.2.1 0), .int p0, .int p1, .int p2] σ (gPi (fun x σ' => σ = σ' ∧ x = -1)) := by
  refine g_of (lv0 := [some (.ref (δ.2.2.1 0)), some (.int p0), some (.int p1), some (.int p2), none]) (by decide) rfl (Nat.le_of_ble_eq_true rfl) (fun Γ hl C E => ?_)
  subst hl
  have C : gC Γ δ cX8_chance RX8 5 3 88 := C
  refine g_aload_n C dX8_chance_0 rfl ?_
  refine g_iload_n C dX8_chance_1 rfl ?_
  refine g_callVr C sV_X8_101 dX8_chance_2 (c_X8_urnAt _ δ _ _ hm (by omega)) ⟨by decide, by decide⟩ (wO_X δ _) rfl rfl rfl rfl (Nat.le_of_ble_eq_true rfl) (fun r_2 s_2 h_2 => ?_)
  obtain ⟨rfl, h_2⟩ := h_2
  rcases h_2 with ⟨rfl, h_2⟩ | ⟨u_2, hu_2, e_2, rfl⟩
  · skip
    refine g_astoreN C dX8_chance_5 (Nat.le_of_ble_eq_true rfl) rfl ?_
    refine g_lv [some _, some _, some _, some _, some _] (gs_some (gs_some (gs_some (gs_some (gs_some gs_nil))))) ?_
    refine g_aloadN C dX8_chance_7 rfl ?_
    refine g_ifnull_n C 36 dX8_chance_9 (by decide) ?_
    refine g_iconst (v := (-1)) C dX8_chance_36 (by decide) ?_
    exact g_iret C E dX8_chance_37 rfl rfl ⟨_, rfl, ⟨rfl, rfl⟩⟩
  · exact absurd hu_2 (Nat.not_lt_zero _)
set_option maxRecDepth 100000 in
set_option maxHeartbeats 4000000 in
theorem cz_X9_chance (l : Launch) (δ : GD) (σ : GS) (hm : gN σ 33 = nI 0) (p0 p1 p2 : Int32) : gM l δ yX9_chance cX9_chance 5 (some .int) 2 66 [.ref (δ.2.2.1 1), .int p0, .int p1, .int p2] σ (gPi (fun x σ' => σ = σ' ∧ x = -1)) := by
  refine g_of (lv0 := [some (.ref (δ.2.2.1 1)), some (.int p0), some (.int p1), some (.int p2), none]) (by decide) rfl (Nat.le_of_ble_eq_true rfl) (fun Γ hl C E => ?_)
  subst hl
  have C : gC Γ δ cX9_chance RX9 5 2 66 := C
  refine g_aload_n C dX9_chance_0 rfl ?_
  refine g_iload_n C dX9_chance_1 rfl ?_
  refine g_callVi C sV_X9_89 dX9_chance_2 (c_X9_isUrn _ δ _ _ hm (by omega)) ⟨by decide, by decide⟩ (wO_M δ _) rfl rfl rfl rfl (Nat.le_of_ble_eq_true rfl) (fun r_2 s_2 h_2 => ?_)
  obtain ⟨rfl, h_2⟩ := h_2
  rcases h_2 with ⟨rfl, h_2⟩ | ⟨rfl, h_2⟩
  · obtain ⟨k_, hk_, -⟩ := h_2
    exact absurd hk_ (Nat.not_lt_zero _)
  · skip
    refine g_if_eq C 24 dX9_chance_5 (by decide) (fun c_5 => ?_) (fun c_5 => ?_)
    · refine g_iconst (v := (-1)) C dX9_chance_24 (by decide) ?_
      exact g_iret C E dX9_chance_25 rfl rfl ⟨_, rfl, ⟨rfl, rfl⟩⟩
    · exact absurd c_5 (by decide)
set_option maxRecDepth 100000 in
set_option maxHeartbeats 4000000 in
theorem cz_X8_times (l : Launch) (δ : GD) (σ : GS) (hm : gN σ 0 = nI 0) (p0 p1 p2 p3 : Int32) : gM l δ yX8_times cX8_times 7 (some .int) 6 156 [.ref (δ.2.2.1 0), .int p0, .int p1, .int p2, .int p3] σ (gPi (fun x σ' => σ = σ' ∧ x = -1)) := by
  refine g_of (lv0 := [some (.ref (δ.2.2.1 0)), some (.int p0), some (.int p1), some (.int p2), some (.int p3), none, none]) (by decide) rfl (Nat.le_of_ble_eq_true rfl) (fun Γ hl C E => ?_)
  subst hl
  have C : gC Γ δ cX8_times RX8 7 6 156 := C
  refine g_aload_n C dX8_times_0 rfl ?_
  refine g_iload_n C dX8_times_1 rfl ?_
  refine g_callVr C sV_X8_101 dX8_times_2 (c_X8_urnAt _ δ _ _ hm (by omega)) ⟨by decide, by decide⟩ (wO_X δ _) rfl rfl rfl rfl (Nat.le_of_ble_eq_true rfl) (fun r_2 s_2 h_2 => ?_)
  obtain ⟨rfl, h_2⟩ := h_2
  rcases h_2 with ⟨rfl, h_2⟩ | ⟨u_2, hu_2, e_2, rfl⟩
  · skip
    refine g_astoreN C dX8_times_5 (Nat.le_of_ble_eq_true rfl) rfl ?_
    refine g_lv [some _, some _, some _, some _, some _, some _, none] (gs_some (gs_some (gs_some (gs_some (gs_some (gs_some (gs_none gs_nil))))))) ?_
    refine g_aloadN C dX8_times_7 rfl ?_
    refine g_ifnull_n C 40 dX8_times_9 (by decide) ?_
    refine g_iconst (v := (-1)) C dX8_times_40 (by decide) ?_
    exact g_iret C E dX8_times_41 rfl rfl ⟨_, rfl, ⟨rfl, rfl⟩⟩
  · exact absurd hu_2 (Nat.not_lt_zero _)
set_option maxRecDepth 100000 in
set_option maxHeartbeats 4000000 in
theorem cz_X9_times (l : Launch) (δ : GD) (σ : GS) (hm : gN σ 33 = nI 0) (p0 p1 p2 p3 : Int32) : gM l δ yX9_times cX9_times 9 (some .int) 3 91 [.ref (δ.2.2.1 1), .int p0, .int p1, .int p2, .int p3] σ (gPi (fun x σ' => σ = σ' ∧ x = -1)) := by
  refine g_of (lv0 := [some (.ref (δ.2.2.1 1)), some (.int p0), some (.int p1), some (.int p2), some (.int p3), none, none, none, none]) (by decide) rfl (Nat.le_of_ble_eq_true rfl) (fun Γ hl C E => ?_)
  subst hl
  have C : gC Γ δ cX9_times RX9 9 3 91 := C
  refine g_aload_n C dX9_times_0 rfl ?_
  refine g_iload_n C dX9_times_1 rfl ?_
  refine g_iload_n C dX9_times_2 rfl ?_
  refine g_callVi C sV_X9_200 dX9_times_3 (cz_X9_isAsked _ δ _ hm _ _) ⟨by decide, by decide⟩ (wO_M δ _) rfl rfl rfl rfl (Nat.le_of_ble_eq_true rfl) (fun r_3 s_3 h_3 => ?_)
  obtain ⟨rfl, rfl⟩ := h_3
  refine g_if_eq C 31 dX9_times_6 (by decide) (fun c_6 => ?_) (fun c_6 => ?_)
  · refine g_iconst (v := (-1)) C dX9_times_31 (by decide) ?_
    exact g_iret C E dX9_times_32 rfl rfl ⟨_, rfl, ⟨rfl, rfl⟩⟩
  · exact absurd c_6 (by decide)
set_option maxRecDepth 100000 in
set_option maxHeartbeats 4000000 in
theorem cz_X8_left (l : Launch) (δ : GD) (σ : GS) (hm : gN σ 0 = nI 0) (p0 p1 p2 p3 : Int32) : gM l δ yX8_left cX8_left 7 (some .int) 6 156 [.ref (δ.2.2.1 0), .int p0, .int p1, .int p2, .int p3] σ (gPi (fun x σ' => σ = σ' ∧ x = -1)) := by
  refine g_of (lv0 := [some (.ref (δ.2.2.1 0)), some (.int p0), some (.int p1), some (.int p2), some (.int p3), none, none]) (by decide) rfl (Nat.le_of_ble_eq_true rfl) (fun Γ hl C E => ?_)
  subst hl
  have C : gC Γ δ cX8_left RX8 7 6 156 := C
  refine g_aload_n C dX8_left_0 rfl ?_
  refine g_iload_n C dX8_left_1 rfl ?_
  refine g_callVr C sV_X8_101 dX8_left_2 (c_X8_urnAt _ δ _ _ hm (by omega)) ⟨by decide, by decide⟩ (wO_X δ _) rfl rfl rfl rfl (Nat.le_of_ble_eq_true rfl) (fun r_2 s_2 h_2 => ?_)
  obtain ⟨rfl, h_2⟩ := h_2
  rcases h_2 with ⟨rfl, h_2⟩ | ⟨u_2, hu_2, e_2, rfl⟩
  · skip
    refine g_astoreN C dX8_left_5 (Nat.le_of_ble_eq_true rfl) rfl ?_
    refine g_lv [some _, some _, some _, some _, some _, some _, none] (gs_some (gs_some (gs_some (gs_some (gs_some (gs_some (gs_none gs_nil))))))) ?_
    refine g_aloadN C dX8_left_7 rfl ?_
    refine g_ifnull_n C 41 dX8_left_9 (by decide) ?_
    refine g_iconst (v := (-1)) C dX8_left_41 (by decide) ?_
    exact g_iret C E dX8_left_42 rfl rfl ⟨_, rfl, ⟨rfl, rfl⟩⟩
  · exact absurd hu_2 (Nat.not_lt_zero _)
set_option maxRecDepth 100000 in
set_option maxHeartbeats 4000000 in
theorem cz_X9_left (l : Launch) (δ : GD) (σ : GS) (hm : gN σ 33 = nI 0) (p0 p1 p2 p3 : Int32) : gM l δ yX9_left cX9_left 9 (some .int) 3 91 [.ref (δ.2.2.1 1), .int p0, .int p1, .int p2, .int p3] σ (gPi (fun x σ' => σ = σ' ∧ x = -1)) := by
  refine g_of (lv0 := [some (.ref (δ.2.2.1 1)), some (.int p0), some (.int p1), some (.int p2), some (.int p3), none, none, none, none]) (by decide) rfl (Nat.le_of_ble_eq_true rfl) (fun Γ hl C E => ?_)
  subst hl
  have C : gC Γ δ cX9_left RX9 9 3 91 := C
  refine g_aload_n C dX9_left_0 rfl ?_
  refine g_iload_n C dX9_left_1 rfl ?_
  refine g_iload_n C dX9_left_2 rfl ?_
  refine g_callVi C sV_X9_200 dX9_left_3 (cz_X9_isAsked _ δ _ hm _ _) ⟨by decide, by decide⟩ (wO_M δ _) rfl rfl rfl rfl (Nat.le_of_ble_eq_true rfl) (fun r_3 s_3 h_3 => ?_)
  obtain ⟨rfl, rfl⟩ := h_3
  refine g_if_eq C 31 dX9_left_6 (by decide) (fun c_6 => ?_) (fun c_6 => ?_)
  · refine g_iconst (v := (-1)) C dX9_left_31 (by decide) ?_
    exact g_iret C E dX9_left_32 rfl rfl ⟨_, rfl, ⟨rfl, rfl⟩⟩
  · exact absurd c_6 (by decide)
set_option maxRecDepth 100000 in
set_option maxHeartbeats 4000000 in
theorem cz_X8_stuck (l : Launch) (δ : GD) (σ : GS) (hm : gN σ 0 = nI 0) (p0 p1 : Int32) : gM l δ yX8_stuck cX8_stuck 5 (some .int) 6 156 [.ref (δ.2.2.1 0), .int p0, .int p1] σ (gPi (fun x σ' => σ = σ' ∧ x = -1)) := by
  refine g_of (lv0 := [some (.ref (δ.2.2.1 0)), some (.int p0), some (.int p1), none, none]) (by decide) rfl (Nat.le_of_ble_eq_true rfl) (fun Γ hl C E => ?_)
  subst hl
  have C : gC Γ δ cX8_stuck RX8 5 6 156 := C
  refine g_aload_n C dX8_stuck_0 rfl ?_
  refine g_iload_n C dX8_stuck_1 rfl ?_
  refine g_callVr C sV_X8_101 dX8_stuck_2 (c_X8_urnAt _ δ _ _ hm (by omega)) ⟨by decide, by decide⟩ (wO_X δ _) rfl rfl rfl rfl (Nat.le_of_ble_eq_true rfl) (fun r_2 s_2 h_2 => ?_)
  obtain ⟨rfl, h_2⟩ := h_2
  rcases h_2 with ⟨rfl, h_2⟩ | ⟨u_2, hu_2, e_2, rfl⟩
  · skip
    refine g_astore_nN C dX8_stuck_5 (Nat.le_of_ble_eq_true rfl) rfl ?_
    refine g_lv [some _, some _, some _, some _, none] (gs_some (gs_some (gs_some (gs_some (gs_none gs_nil))))) ?_
    refine g_aload_nN C dX8_stuck_6 rfl ?_
    refine g_ifnull_n C 17 dX8_stuck_7 (by decide) ?_
    refine g_iconst (v := (-1)) C dX8_stuck_17 (by decide) ?_
    exact g_iret C E dX8_stuck_18 rfl rfl ⟨_, rfl, ⟨rfl, rfl⟩⟩
  · exact absurd hu_2 (Nat.not_lt_zero _)
set_option maxRecDepth 100000 in
set_option maxHeartbeats 4000000 in
theorem cz_X9_stuck (l : Launch) (δ : GD) (σ : GS) (hm : gN σ 33 = nI 0) (p0 p1 : Int32) : gM l δ yX9_stuck cX9_stuck 4 (some .int) 3 91 [.ref (δ.2.2.1 1), .int p0, .int p1] σ (gPi (fun x σ' => σ = σ' ∧ x = -1)) := by
  refine g_of (lv0 := [some (.ref (δ.2.2.1 1)), some (.int p0), some (.int p1), none]) (by decide) rfl (Nat.le_of_ble_eq_true rfl) (fun Γ hl C E => ?_)
  subst hl
  have C : gC Γ δ cX9_stuck RX9 4 3 91 := C
  refine g_aload_n C dX9_stuck_0 rfl ?_
  refine g_iload_n C dX9_stuck_1 rfl ?_
  refine g_iload_n C dX9_stuck_2 rfl ?_
  refine g_callVi C sV_X9_200 dX9_stuck_3 (cz_X9_isAsked _ δ _ hm _ _) ⟨by decide, by decide⟩ (wO_M δ _) rfl rfl rfl rfl (Nat.le_of_ble_eq_true rfl) (fun r_3 s_3 h_3 => ?_)
  obtain ⟨rfl, rfl⟩ := h_3
  refine g_if_ne C 11 dX9_stuck_6 (by decide) (fun c_6 => ?_) (fun c_6 => ?_)
  · exact absurd c_6 (by decide)
  · refine g_iconst (v := (-1)) C dX9_stuck_9 (by decide) ?_
    exact g_iret C E dX9_stuck_10 rfl rfl ⟨_, rfl, ⟨rfl, rfl⟩⟩
set_option maxRecDepth 100000 in
set_option maxHeartbeats 4000000 in
theorem cz_X8_mean (l : Launch) (δ : GD) (σ : GS) (hm : gN σ 0 = nI 0) (p0 p1 p2 p3 : Int32) : gM l δ yX8_mean cX8_mean 7 (some .int) 6 156 [.ref (δ.2.2.1 0), .int p0, .int p1, .int p2, .int p3] σ (gPi (fun x σ' => σ = σ' ∧ x = -1)) := by
  refine g_of (lv0 := [some (.ref (δ.2.2.1 0)), some (.int p0), some (.int p1), some (.int p2), some (.int p3), none, none]) (by decide) rfl (Nat.le_of_ble_eq_true rfl) (fun Γ hl C E => ?_)
  subst hl
  have C : gC Γ δ cX8_mean RX8 7 6 156 := C
  refine g_aload_n C dX8_mean_0 rfl ?_
  refine g_iload_n C dX8_mean_1 rfl ?_
  refine g_callVr C sV_X8_101 dX8_mean_2 (c_X8_urnAt _ δ _ _ hm (by omega)) ⟨by decide, by decide⟩ (wO_X δ _) rfl rfl rfl rfl (Nat.le_of_ble_eq_true rfl) (fun r_2 s_2 h_2 => ?_)
  obtain ⟨rfl, h_2⟩ := h_2
  rcases h_2 with ⟨rfl, h_2⟩ | ⟨u_2, hu_2, e_2, rfl⟩
  · skip
    refine g_astoreN C dX8_mean_5 (Nat.le_of_ble_eq_true rfl) rfl ?_
    refine g_lv [some _, some _, some _, some _, some _, some _, none] (gs_some (gs_some (gs_some (gs_some (gs_some (gs_some (gs_none gs_nil))))))) ?_
    refine g_aloadN C dX8_mean_7 rfl ?_
    refine g_ifnull_n C 40 dX8_mean_9 (by decide) ?_
    refine g_iconst (v := (-1)) C dX8_mean_40 (by decide) ?_
    exact g_iret C E dX8_mean_41 rfl rfl ⟨_, rfl, ⟨rfl, rfl⟩⟩
  · exact absurd hu_2 (Nat.not_lt_zero _)
set_option maxRecDepth 100000 in
set_option maxHeartbeats 4000000 in
theorem cz_X9_mean (l : Launch) (δ : GD) (σ : GS) (hm : gN σ 33 = nI 0) (p0 p1 p2 p3 : Int32) : gM l δ yX9_mean cX9_mean 16 (some .int) 3 91 [.ref (δ.2.2.1 1), .int p0, .int p1, .int p2, .int p3] σ (gPi (fun x σ' => σ = σ' ∧ x = -1)) := by
  refine g_of (lv0 := [some (.ref (δ.2.2.1 1)), some (.int p0), some (.int p1), some (.int p2), some (.int p3), none, none, none, none, none, none, none, none, none, none, none]) (by decide) rfl (Nat.le_of_ble_eq_true rfl) (fun Γ hl C E => ?_)
  subst hl
  have C : gC Γ δ cX9_mean RX9 16 3 91 := C
  refine g_aload_n C dX9_mean_0 rfl ?_
  refine g_iload_n C dX9_mean_1 rfl ?_
  refine g_iload_n C dX9_mean_2 rfl ?_
  refine g_callVi C sV_X9_200 dX9_mean_3 (cz_X9_isAsked _ δ _ hm _ _) ⟨by decide, by decide⟩ (wO_M δ _) rfl rfl rfl rfl (Nat.le_of_ble_eq_true rfl) (fun r_3 s_3 h_3 => ?_)
  obtain ⟨rfl, rfl⟩ := h_3
  refine g_if_eq C 31 dX9_mean_6 (by decide) (fun c_6 => ?_) (fun c_6 => ?_)
  · refine g_iconst (v := (-1)) C dX9_mean_31 (by decide) ?_
    exact g_iret C E dX9_mean_32 rfl rfl ⟨_, rfl, ⟨rfl, rfl⟩⟩
  · exact absurd c_6 (by decide)
set_option maxRecDepth 100000 in
set_option maxHeartbeats 4000000 in
theorem cz_X8_told (l : Launch) (δ : GD) (σ : GS) (hm : gN σ 0 = nI 0) (p0 p1 p2 p3 p4 : Int32) : gM l δ yX8_told cX8_told 9 (some .int) 5 133 [.ref (δ.2.2.1 0), .int p0, .int p1, .int p2, .int p3, .int p4] σ (gPi (fun x σ' => σ = σ' ∧ x = -1)) := by
  refine g_of (lv0 := [some (.ref (δ.2.2.1 0)), some (.int p0), some (.int p1), some (.int p2), some (.int p3), some (.int p4), none, none, none]) (by decide) rfl (Nat.le_of_ble_eq_true rfl) (fun Γ hl C E => ?_)
  subst hl
  have C : gC Γ δ cX8_told RX8 9 5 133 := C
  refine g_aload_n C dX8_told_0 rfl ?_
  refine g_iload_n C dX8_told_1 rfl ?_
  refine g_callVr C sV_X8_101 dX8_told_2 (c_X8_urnAt _ δ _ _ hm (by omega)) ⟨by decide, by decide⟩ (wO_X δ _) rfl rfl rfl rfl (Nat.le_of_ble_eq_true rfl) (fun r_2 s_2 h_2 => ?_)
  obtain ⟨rfl, h_2⟩ := h_2
  rcases h_2 with ⟨rfl, h_2⟩ | ⟨u_2, hu_2, e_2, rfl⟩
  · skip
    refine g_astoreN C dX8_told_5 (Nat.le_of_ble_eq_true rfl) rfl ?_
    refine g_lv [some _, some _, some _, some _, some _, some _, some _, none, none] (gs_some (gs_some (gs_some (gs_some (gs_some (gs_some (gs_some (gs_none (gs_none gs_nil))))))))) ?_
    refine g_aloadN C dX8_told_7 rfl ?_
    refine g_ifnull_n C 49 dX8_told_9 (by decide) ?_
    refine g_iconst (v := (-1)) C dX8_told_49 (by decide) ?_
    exact g_iret C E dX8_told_50 rfl rfl ⟨_, rfl, ⟨rfl, rfl⟩⟩
  · exact absurd hu_2 (Nat.not_lt_zero _)
set_option maxRecDepth 100000 in
set_option maxHeartbeats 4000000 in
theorem cz_X9_told (l : Launch) (δ : GD) (σ : GS) (hm : gN σ 33 = nI 0) (p0 p1 p2 p3 p4 : Int32) : gM l δ yX9_told cX9_told 9 (some .int) 3 91 [.ref (δ.2.2.1 1), .int p0, .int p1, .int p2, .int p3, .int p4] σ (gPi (fun x σ' => σ = σ' ∧ x = -1)) := by
  refine g_of (lv0 := [some (.ref (δ.2.2.1 1)), some (.int p0), some (.int p1), some (.int p2), some (.int p3), some (.int p4), none, none, none]) (by decide) rfl (Nat.le_of_ble_eq_true rfl) (fun Γ hl C E => ?_)
  subst hl
  have C : gC Γ δ cX9_told RX9 9 3 91 := C
  refine g_aload_n C dX9_told_0 rfl ?_
  refine g_iload_n C dX9_told_1 rfl ?_
  refine g_callVi C sV_X9_89 dX9_told_2 (c_X9_isUrn _ δ _ _ hm (by omega)) ⟨by decide, by decide⟩ (wO_M δ _) rfl rfl rfl rfl (Nat.le_of_ble_eq_true rfl) (fun r_2 s_2 h_2 => ?_)
  obtain ⟨rfl, h_2⟩ := h_2
  rcases h_2 with ⟨rfl, h_2⟩ | ⟨rfl, h_2⟩
  · obtain ⟨k_, hk_, -⟩ := h_2
    exact absurd hk_ (Nat.not_lt_zero _)
  · skip
    refine g_if_eq C 55 dX9_told_5 (by decide) (fun c_5 => ?_) (fun c_5 => ?_)
    · refine g_iconst (v := (-1)) C dX9_told_55 (by decide) ?_
      exact g_iret C E dX9_told_56 rfl rfl ⟨_, rfl, ⟨rfl, rfl⟩⟩
    · exact absurd c_5 (by decide)
set_option maxRecDepth 100000 in
set_option maxHeartbeats 4000000 in
theorem cz_X8_share (l : Launch) (δ : GD) (σ : GS) (hm : gN σ 0 = nI 0) (p0 p1 p2 : Int32) : gM l δ yX8_share cX8_share 11 (some .int) 2 60 [.ref (δ.2.2.1 0), .int p0, .int p1, .int p2] σ (gPi (fun x σ' => σ = σ' ∧ x = -1)) := by
  refine g_of (lv0 := [some (.ref (δ.2.2.1 0)), some (.int p0), some (.int p1), some (.int p2), none, none, none, none, none, none, none]) (by decide) rfl (Nat.le_of_ble_eq_true rfl) (fun Γ hl C E => ?_)
  subst hl
  have C : gC Γ δ cX8_share RX8 11 2 60 := C
  refine g_aload_n C dX8_share_0 rfl ?_
  refine g_iload_n C dX8_share_1 rfl ?_
  refine g_callVr C sV_X8_101 dX8_share_2 (c_X8_urnAt _ δ _ _ hm (by omega)) ⟨by decide, by decide⟩ (wO_X δ _) rfl rfl rfl rfl (Nat.le_of_ble_eq_true rfl) (fun r_2 s_2 h_2 => ?_)
  obtain ⟨rfl, h_2⟩ := h_2
  rcases h_2 with ⟨rfl, h_2⟩ | ⟨u_2, hu_2, e_2, rfl⟩
  · skip
    refine g_astoreN C dX8_share_5 (Nat.le_of_ble_eq_true rfl) rfl ?_
    refine g_lv [some _, some _, some _, some _, some _, none, none, none, none, none, none] (gs_some (gs_some (gs_some (gs_some (gs_some (gs_none (gs_none (gs_none (gs_none (gs_none (gs_none gs_nil))))))))))) ?_
    refine g_aloadN C dX8_share_7 rfl ?_
    refine g_ifnull_n C 31 dX8_share_9 (by decide) ?_
    refine g_iconst (v := (-1)) C dX8_share_31 (by decide) ?_
    exact g_iret C E dX8_share_32 rfl rfl ⟨_, rfl, ⟨rfl, rfl⟩⟩
  · exact absurd hu_2 (Nat.not_lt_zero _)
set_option maxRecDepth 100000 in
set_option maxHeartbeats 4000000 in
theorem cz_X9_share (l : Launch) (δ : GD) (σ : GS) (hm : gN σ 33 = nI 0) (p0 p1 p2 : Int32) : gM l δ yX9_share cX9_share 10 (some .int) 3 71 [.ref (δ.2.2.1 1), .int p0, .int p1, .int p2] σ (gPi (fun x σ' => σ = σ' ∧ x = -1)) := by
  refine g_of (lv0 := [some (.ref (δ.2.2.1 1)), some (.int p0), some (.int p1), some (.int p2), none, none, none, none, none, none]) (by decide) rfl (Nat.le_of_ble_eq_true rfl) (fun Γ hl C E => ?_)
  subst hl
  have C : gC Γ δ cX9_share RX9 10 3 71 := C
  refine g_aload_n C dX9_share_0 rfl ?_
  refine g_iload_n C dX9_share_1 rfl ?_
  refine g_callVi C sV_X9_89 dX9_share_2 (c_X9_isUrn _ δ _ _ hm (by omega)) ⟨by decide, by decide⟩ (wO_M δ _) rfl rfl rfl rfl (Nat.le_of_ble_eq_true rfl) (fun r_2 s_2 h_2 => ?_)
  obtain ⟨rfl, h_2⟩ := h_2
  rcases h_2 with ⟨rfl, h_2⟩ | ⟨rfl, h_2⟩
  · obtain ⟨k_, hk_, -⟩ := h_2
    exact absurd hk_ (Nat.not_lt_zero _)
  · skip
    refine g_if_eq C 29 dX9_share_5 (by decide) (fun c_5 => ?_) (fun c_5 => ?_)
    · refine g_iconst (v := (-1)) C dX9_share_29 (by decide) ?_
      exact g_iret C E dX9_share_30 rfl rfl ⟨_, rfl, ⟨rfl, rfl⟩⟩
    · exact absurd c_5 (by decide)
set_option maxRecDepth 100000 in
set_option maxHeartbeats 4000000 in
theorem cz_X8_free (l : Launch) (δ : GD) (σ : GS) (hm : gN σ 0 = nI 0) (p0 p1 : Int32) : gM l δ yX8_free cX8_free 4 (some .int) 4 113 [.ref (δ.2.2.1 0), .int p0, .int p1] σ (gPi (fun x σ' => σ = σ' ∧ x = -1)) := by
  refine g_of (lv0 := [some (.ref (δ.2.2.1 0)), some (.int p0), some (.int p1), none]) (by decide) rfl (Nat.le_of_ble_eq_true rfl) (fun Γ hl C E => ?_)
  subst hl
  have C : gC Γ δ cX8_free RX8 4 4 113 := C
  refine g_aload_n C dX8_free_0 rfl ?_
  refine g_iload_n C dX8_free_1 rfl ?_
  refine g_callVr C sV_X8_101 dX8_free_2 (c_X8_urnAt _ δ _ _ hm (by omega)) ⟨by decide, by decide⟩ (wO_X δ _) rfl rfl rfl rfl (Nat.le_of_ble_eq_true rfl) (fun r_2 s_2 h_2 => ?_)
  obtain ⟨rfl, h_2⟩ := h_2
  rcases h_2 with ⟨rfl, h_2⟩ | ⟨u_2, hu_2, e_2, rfl⟩
  · skip
    refine g_astore_nN C dX8_free_5 (Nat.le_of_ble_eq_true rfl) rfl ?_
    refine g_lv [some _, some _, some _, some _] (gs_some (gs_some (gs_some (gs_some gs_nil)))) ?_
    refine g_aload_nN C dX8_free_6 rfl ?_
    refine g_ifnull_n C 20 dX8_free_7 (by decide) ?_
    refine g_iconst (v := (-1)) C dX8_free_20 (by decide) ?_
    exact g_iret C E dX8_free_21 rfl rfl ⟨_, rfl, ⟨rfl, rfl⟩⟩
  · exact absurd hu_2 (Nat.not_lt_zero _)
set_option maxRecDepth 100000 in
set_option maxHeartbeats 4000000 in
theorem cz_X9_free (l : Launch) (δ : GD) (σ : GS) (hm : gN σ 33 = nI 0) (p0 p1 : Int32) : gM l δ yX9_free cX9_free 9 (some .int) 2 66 [.ref (δ.2.2.1 1), .int p0, .int p1] σ (gPi (fun x σ' => σ = σ' ∧ x = -1)) := by
  refine g_of (lv0 := [some (.ref (δ.2.2.1 1)), some (.int p0), some (.int p1), none, none, none, none, none, none]) (by decide) rfl (Nat.le_of_ble_eq_true rfl) (fun Γ hl C E => ?_)
  subst hl
  have C : gC Γ δ cX9_free RX9 9 2 66 := C
  refine g_aload_n C dX9_free_0 rfl ?_
  refine g_iload_n C dX9_free_1 rfl ?_
  refine g_callVi C sV_X9_89 dX9_free_2 (c_X9_isUrn _ δ _ _ hm (by omega)) ⟨by decide, by decide⟩ (wO_M δ _) rfl rfl rfl rfl (Nat.le_of_ble_eq_true rfl) (fun r_2 s_2 h_2 => ?_)
  obtain ⟨rfl, h_2⟩ := h_2
  rcases h_2 with ⟨rfl, h_2⟩ | ⟨rfl, h_2⟩
  · obtain ⟨k_, hk_, -⟩ := h_2
    exact absurd hk_ (Nat.not_lt_zero _)
  · skip
    refine g_if_eq C 20 dX9_free_5 (by decide) (fun c_5 => ?_) (fun c_5 => ?_)
    · refine g_iconst (v := (-1)) C dX9_free_20 (by decide) ?_
      exact g_iret C E dX9_free_21 rfl rfl ⟨_, rfl, ⟨rfl, rfl⟩⟩
    · exact absurd c_5 (by decide)
set_option maxRecDepth 100000 in
set_option maxHeartbeats 4000000 in
theorem cz_X2_takeLatest (l : Launch) (δ : GD) (σ : GS) (hl : gN σ 30 = nI 0) : gM l δ yX2_takeLatest cX2_takeLatest 1 (some (.array .int)) 0 0 [.ref (δ.2.2.1 16)] σ (gPr (fun x σ' => σ = σ' ∧ x = .null)) := by
  refine g_of (lv0 := [some (.ref (δ.2.2.1 16))]) (by decide) rfl (Nat.le_of_ble_eq_true rfl) (fun Γ hl C E => ?_)
  subst hl
  have C : gC Γ δ cX2_takeLatest RX2 1 0 0 := C
  refine g_aload_n C dX2_takeLatest_0 rfl ?_
  refine g_get C dX2_takeLatest_1 iwX2 rfl (wO_K δ _) 1 (Nat.le_of_ble_eq_true rfl) mW34 rfl rfl ?_
  refine g_if_ne C 9 dX2_takeLatest_4 (by decide) (fun c_4 => ?_) (fun c_4 => ?_)
  · exact absurd hl c_4
  · refine g_null C dX2_takeLatest_7 ?_
    exact g_aret C E dX2_takeLatest_8 rfl (by simp) (Or.inl rfl) ⟨_, rfl, ⟨rfl, rfl⟩⟩
set_option maxRecDepth 100000 in
set_option maxHeartbeats 4000000 in
theorem cz_X8_undo (l : Launch) (δ : GD) (σ : GS) (hl : gN σ 30 = nI 0) : gM l δ yX8_undo cX8_undo 3 (some .int) 2 40 [.ref (δ.2.2.1 0)] σ (gPi (fun x σ' => σ = σ' ∧ x = -2)) := by
  refine g_of (lv0 := [some (.ref (δ.2.2.1 0)), none, none]) (by decide) rfl (Nat.le_of_ble_eq_true rfl) (fun Γ hl C E => ?_)
  subst hl
  have C : gC Γ δ cX8_undo RX8 3 2 40 := C
  refine g_aload_n C dX8_undo_0 rfl ?_
  refine g_get C dX8_undo_1 iwX8 rfl (wO_X δ _) 2 (Nat.le_of_ble_eq_true rfl) mW219 rfl rfl ?_
  refine g_callVr C sV_X8_167 dX8_undo_4 (cz_X2_takeLatest _ δ _ hl) ⟨by decide, by decide⟩ (wO_K δ _) rfl rfl rfl rfl (Nat.le_of_ble_eq_true rfl) (fun r_4 s_4 h_4 => ?_)
  obtain ⟨rfl, rfl⟩ := h_4
  refine g_astore_nN C dX8_undo_7 (Nat.le_of_ble_eq_true rfl) rfl ?_
  refine g_lv [some _, some _, none] (gs_some (gs_some (gs_none gs_nil))) ?_
  refine g_aload_nN C dX8_undo_8 rfl ?_
  refine g_ifnonnull_n C dX8_undo_9 ?_
  refine g_bipush (v := (-2)) C dX8_undo_12 (by decide) ?_
  exact g_iret C E dX8_undo_14 rfl rfl ⟨_, rfl, ⟨rfl, rfl⟩⟩
set_option maxRecDepth 100000 in
set_option maxHeartbeats 4000000 in
theorem cz_X9_undo (l : Launch) (δ : GD) (σ : GS) (hl : gN σ 34 = nI 0) : gM l δ yX9_undo cX9_undo 2 (some .int) 0 0 [.ref (δ.2.2.1 1)] σ (gPi (fun x σ' => σ = σ' ∧ x = -2)) := by
  refine g_of (lv0 := [some (.ref (δ.2.2.1 1)), none]) (by decide) rfl (Nat.le_of_ble_eq_true rfl) (fun Γ hl C E => ?_)
  subst hl
  have C : gC Γ δ cX9_undo RX9 2 0 0 := C
  refine g_aload_n C dX9_undo_0 rfl ?_
  refine g_get C dX9_undo_1 iwX9 rfl (wO_M δ _) 8 (Nat.le_of_ble_eq_true rfl) mW580 rfl rfl ?_
  refine g_if_ne C 10 dX9_undo_4 (by decide) (fun c_4 => ?_) (fun c_4 => ?_)
  · exact absurd hl c_4
  · refine g_bipush (v := (-2)) C dX9_undo_7 (by decide) ?_
    exact g_iret C E dX9_undo_9 rfl rfl ⟨_, rfl, ⟨rfl, rfl⟩⟩
