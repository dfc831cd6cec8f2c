theorem sS_X6_22 : gSS RX6 22 yJ7_fill_d0a16 cJ7_fill_d0a16 5 none 2 := ⟨mW260, mW261, mW10, mW262, ⟨by decide +kernel, by decide +kernel⟩, by decide +kernel⟩
theorem sV_X8_72 : gSV RX8 72 yX8_sheetAt cX8_sheetAt 2 (some (.object "GrowingUrns$Sheet")) 1 := ⟨mW252, mW254, mP0, mW1, mW255, ⟨by decide +kernel, by decide +kernel⟩, by decide +kernel⟩
theorem sV_X8_76 : gSV RX8 76 yX6_become cX6_become 3 none 2 := ⟨mW256, mW257, mW258, mW8, mW259, ⟨by decide +kernel, by decide +kernel⟩, by decide +kernel⟩
set_option maxRecDepth 100000 in
set_option maxHeartbeats 4000000 in
theorem c_X8_sheetAt (l : Launch) (δ : GD) (σ : GS) (u : Int32) : gM l δ yX8_sheetAt cX8_sheetAt 2 (some (.object "GrowingUrns$Sheet")) 0 0 [.ref (δ.2.2.1 0), .int u] σ (gPr (fun r σ' => σ = σ' ∧ ((r = .null ∧ ¬ gIx u 6) ∨ ∃ k : Nat, k < 6 ∧ u = nI k ∧ r = .ref (δ.2.2.1 (2 + k))))) := by
  refine g_of (lv0 := [some (.ref (δ.2.2.1 0)), some (.int u)]) (by decide) rfl (Nat.le_of_ble_eq_true rfl) (fun Γ hl C E => ?_)
  subst hl
  have C : gC Γ δ cX8_sheetAt RX8 2 0 0 := C
  refine g_iload_n C dX8_sheetAt_0 rfl ?_
  refine g_if_lt C 10 dX8_sheetAt_1 (by decide) (fun c_1 => ?_) (fun c_1 => ?_)
  · have hx : ¬ gIx u 6 := gIx_neg (by omega) c_1
    refine g_null C dX8_sheetAt_10 ?_
    refine g_goto C 20 dX8_sheetAt_11 (by decide) ?_
    exact g_aret C E dX8_sheetAt_20 rfl (by simp) (Or.inl rfl) ⟨_, rfl, ⟨rfl, by first | exact Or.inl ⟨rfl, hx⟩ | exact Or.inr ⟨k, hk, e, rfl⟩⟩⟩
  · refine g_iload_n C dX8_sheetAt_4 rfl ?_
    refine g_bipush (v := 6) C dX8_sheetAt_5 (by decide) ?_
    refine g_icmp_lt C 14 dX8_sheetAt_7 (by decide) (fun c_7 => ?_) (fun c_7 => ?_)
    · obtain ⟨k, hk, e⟩ := gIx_ok (n := 6) (by decide) c_1 c_7
      refine g_aload_n C dX8_sheetAt_14 rfl ?_
      refine g_get C dX8_sheetAt_15 iwX8 rfl (wO_X δ _) 0 (Nat.le_of_ble_eq_true rfl) mW217 rfl rfl ?_
      refine g_iload_n C dX8_sheetAt_18 rfl ?_
      refine g_aaldS C k dX8_sheetAt_19 rfl hk (by first | rfl | assumption | (simp only [glit, nI_add, pk_mul]; done) | (simp only [glit, nI_add, pk_mul]; congr 1; omega) | (simp only [*, glit, nI_add, pk_mul]; congr 1; omega)) ?_
      exact g_aret C E dX8_sheetAt_20 rfl (by simp) (Or.inr ⟨_, rfl⟩) ⟨_, rfl, ⟨rfl, by first | exact Or.inl ⟨rfl, hx⟩ | exact Or.inr ⟨k, hk, e, rfl⟩⟩⟩
    · have hx : ¬ gIx u 6 := gIx_big (n := 6) (by decide) c_7
      refine g_null C dX8_sheetAt_10 ?_
      refine g_goto C 20 dX8_sheetAt_11 (by decide) ?_
      exact g_aret C E dX8_sheetAt_20 rfl (by simp) (Or.inl rfl) ⟨_, rfl, ⟨rfl, by first | exact Or.inl ⟨rfl, hx⟩ | exact Or.inr ⟨k, hk, e, rfl⟩⟩⟩
set_option maxRecDepth 100000 in
set_option maxHeartbeats 4000000 in
theorem c_X8_urnAt (l : Launch) (δ : GD) (σ : GS) (u : Int32) {m : Nat} (hm : gN σ 0 = nI m) (h8 : m ≤ 8) : gM l δ yX8_urnAt cX8_urnAt 2 (some (.object "GrowingUrns$Urn")) 0 0 [.ref (δ.2.2.1 0), .int u] σ (gPr (fun r σ' => σ = σ' ∧ ((r = .null ∧ ¬ gIx u m) ∨ ∃ k : Nat, k < m ∧ u = nI k ∧ r = .ref (δ.2.2.1 (8 + k))))) := by
  refine g_of (lv0 := [some (.ref (δ.2.2.1 0)), some (.int u)]) (by decide) rfl (Nat.le_of_ble_eq_true rfl) (fun Γ hl C E => ?_)
  subst hl
  have C : gC Γ δ cX8_urnAt RX8 2 0 0 := C
  refine g_iload_n C dX8_urnAt_0 rfl ?_
  refine g_if_lt C 12 dX8_urnAt_1 (by decide) (fun c_1 => ?_) (fun c_1 => ?_)
  · have hx : ¬ gIx u m := gIx_neg (by omega) c_1
    refine g_null C dX8_urnAt_12 ?_
    refine g_goto C 22 dX8_urnAt_13 (by decide) ?_
    exact g_aret C E dX8_urnAt_22 rfl (by simp) (Or.inl rfl) ⟨_, rfl, ⟨rfl, by first | exact Or.inl ⟨rfl, hx⟩ | exact Or.inr ⟨k, hk, e, rfl⟩⟩⟩
  · refine g_iload_n C dX8_urnAt_4 rfl ?_
    refine g_aload_n C dX8_urnAt_5 rfl ?_
    refine g_get C dX8_urnAt_6 iwX8 rfl (wO_X δ _) 8 (Nat.le_of_ble_eq_true rfl) mW225 rfl rfl ?_
    refine g_icmp_lt C 16 dX8_urnAt_9 (by decide) (fun c_9 => ?_) (fun c_9 => ?_)
    · rw [hm] at c_9
      obtain ⟨k, hk, e⟩ := gIx_ok (by omega) c_1 c_9
      refine g_aload_n C dX8_urnAt_16 rfl ?_
      refine g_get C dX8_urnAt_17 iwX8 rfl (wO_X δ _) 1 (Nat.le_of_ble_eq_true rfl) mW218 rfl rfl ?_
      refine g_iload_n C dX8_urnAt_20 rfl ?_
      refine g_aaldU C k dX8_urnAt_21 rfl (by omega) (by first | rfl | assumption | (simp only [glit, nI_add, pk_mul]; done) | (simp only [glit, nI_add, pk_mul]; congr 1; omega) | (simp only [*, glit, nI_add, pk_mul]; congr 1; omega)) ?_
      exact g_aret C E dX8_urnAt_22 rfl (by simp) (Or.inr ⟨_, rfl⟩) ⟨_, rfl, ⟨rfl, by first | exact Or.inl ⟨rfl, hx⟩ | exact Or.inr ⟨k, hk, e, rfl⟩⟩⟩
    · rw [hm] at c_9
      have hx : ¬ gIx u m := gIx_big (by omega) c_9
      refine g_null C dX8_urnAt_12 ?_
      refine g_goto C 22 dX8_urnAt_13 (by decide) ?_
      exact g_aret C E dX8_urnAt_22 rfl (by simp) (Or.inl rfl) ⟨_, rfl, ⟨rfl, by first | exact Or.inl ⟨rfl, hx⟩ | exact Or.inr ⟨k, hk, e, rfl⟩⟩⟩
set_option maxRecDepth 100000 in
set_option maxHeartbeats 4000000 in
theorem c_X7_has (l : Launch) (δ : GD) (σ : GS) {u : Nat} (hu : u < 8) (c : Int32) {n : Nat} (hn : gN σ (14 + u) = nI n) (h4 : n ≤ 4) : gM l δ yX7_has cX7_has 2 (some .boolean) 0 0 [.ref (δ.2.2.1 (8 + u)), .int c] σ (gPi (fun r σ' => σ = σ' ∧ ((r = 1 ∧ gIx c n) ∨ (r = 0 ∧ ¬ gIx c n)))) := by
  refine g_of (lv0 := [some (.ref (δ.2.2.1 (8 + u))), some (.int c)]) (by decide) rfl (Nat.le_of_ble_eq_true rfl) (fun Γ hl C E => ?_)
  subst hl
  have C : gC Γ δ cX7_has RX7 2 0 0 := C
  refine g_iload_n C dX7_has_0 rfl ?_
  refine g_if_lt C 16 dX7_has_1 (by decide) (fun c_1 => ?_) (fun c_1 => ?_)
  · have hx : ¬ gIx c n := gIx_neg (by omega) c_1
    refine g_iconst (v := 0) C dX7_has_16 (by decide) ?_
    exact g_iret C E dX7_has_17 rfl rfl ⟨_, rfl, ⟨rfl, by first | exact Or.inl ⟨rfl, hy⟩ | exact Or.inr ⟨rfl, hx⟩⟩⟩
  · refine g_iload_n C dX7_has_4 rfl ?_
    refine g_aload_n C dX7_has_5 rfl ?_
    refine g_get C dX7_has_6 iwX7 rfl (wO_U δ _ hu) 3 (Nat.le_of_ble_eq_true rfl) mW201 rfl rfl ?_
    refine g_icmp_ge C 16 dX7_has_9 (by decide) (fun c_9 => ?_) (fun c_9 => ?_)
    · rw [hn] at c_9
      have hx : ¬ gIx c n := gIx_big2 (by omega) c_9
      refine g_iconst (v := 0) C dX7_has_16 (by decide) ?_
      exact g_iret C E dX7_has_17 rfl rfl ⟨_, rfl, ⟨rfl, by first | exact Or.inl ⟨rfl, hy⟩ | exact Or.inr ⟨rfl, hx⟩⟩⟩
    · rw [hn] at c_9
      have hy : gIx c n := gIx_ok2 (by omega) c_1 c_9
      refine g_iconst (v := 1) C dX7_has_12 (by decide) ?_
      refine g_goto C 17 dX7_has_13 (by decide) ?_
      exact g_iret C E dX7_has_17 rfl rfl ⟨_, rfl, ⟨rfl, by first | exact Or.inl ⟨rfl, hy⟩ | exact Or.inr ⟨rfl, hx⟩⟩⟩
set_option maxRecDepth 100000 in
set_option maxHeartbeats 4000000 in
theorem c_X7_total (l : Launch) (δ : GD) (σ : GS) {u : Nat} (hu : u < 8) : gM l δ yX7_total cX7_total 1 (some .int) 0 0 [.ref (δ.2.2.1 (8 + u))] σ (gPi (fun r σ' => σ = σ' ∧ r = gTot σ u)) := by
  refine g_of (lv0 := [some (.ref (δ.2.2.1 (8 + u)))]) (by decide) rfl (Nat.le_of_ble_eq_true rfl) (fun Γ hl C E => ?_)
  subst hl
  have C : gC Γ δ cX7_total RX7 1 0 0 := C
  refine g_aload_n C dX7_total_0 rfl ?_
  refine g_get C dX7_total_1 iwX7 rfl (wO_U δ _ hu) 0 (Nat.le_of_ble_eq_true rfl) mW192 rfl rfl ?_
  refine g_iconst (v := 0) C dX7_total_4 (by decide) ?_
  refine g_ialdN C dX7_total_5 (k := 0) (q := u) (by omega) rfl (by first | rfl | assumption | (simp only [glit, nI_add, pk_mul]; done) | (simp only [glit, nI_add, pk_mul]; congr 1; omega) | (simp only [*, glit, nI_add, pk_mul]; congr 1; omega)) (by rw [gLenI_b hu]; omega) ?_
  refine g_aload_n C dX7_total_6 rfl ?_
  refine g_get C dX7_total_7 iwX7 rfl (wO_U δ _ hu) 0 (Nat.le_of_ble_eq_true rfl) mW192 rfl rfl ?_
  refine g_iconst (v := 1) C dX7_total_10 (by decide) ?_
  refine g_ialdN C dX7_total_11 (k := 1) (q := u) (by omega) rfl (by first | rfl | assumption | (simp only [glit, nI_add, pk_mul]; done) | (simp only [glit, nI_add, pk_mul]; congr 1; omega) | (simp only [*, glit, nI_add, pk_mul]; congr 1; omega)) (by rw [gLenI_b hu]; omega) ?_
  refine g_iadd C dX7_total_12 ?_
  refine g_aload_n C dX7_total_13 rfl ?_
  refine g_get C dX7_total_14 iwX7 rfl (wO_U δ _ hu) 0 (Nat.le_of_ble_eq_true rfl) mW192 rfl rfl ?_
  refine g_iconst (v := 2) C dX7_total_17 (by decide) ?_
  refine g_ialdN C dX7_total_18 (k := 2) (q := u) (by omega) rfl (by first | rfl | assumption | (simp only [glit, nI_add, pk_mul]; done) | (simp only [glit, nI_add, pk_mul]; congr 1; omega) | (simp only [*, glit, nI_add, pk_mul]; congr 1; omega)) (by rw [gLenI_b hu]; omega) ?_
  refine g_iadd C dX7_total_19 ?_
  refine g_aload_n C dX7_total_20 rfl ?_
  refine g_get C dX7_total_21 iwX7 rfl (wO_U δ _ hu) 0 (Nat.le_of_ble_eq_true rfl) mW192 rfl rfl ?_
  refine g_iconst (v := 3) C dX7_total_24 (by decide) ?_
  refine g_ialdN C dX7_total_25 (k := 3) (q := u) (by omega) rfl (by first | rfl | assumption | (simp only [glit, nI_add, pk_mul]; done) | (simp only [glit, nI_add, pk_mul]; congr 1; omega) | (simp only [*, glit, nI_add, pk_mul]; congr 1; omega)) (by rw [gLenI_b hu]; omega) ?_
  refine g_iadd C dX7_total_26 ?_
  exact g_iret C E dX7_total_27 rfl rfl ⟨_, rfl, ⟨rfl, rfl⟩⟩
set_option maxRecDepth 100000 in
set_option maxHeartbeats 4000000 in
theorem c_X6_reaches (l : Launch) (δ : GD) (σ : GS) {u : Nat} (hu : u < 6) (i n : Int32) {m : Nat} (hm : gN σ (8 + u) = nI m) (h16 : m ≤ 16) : gM l δ yX6_reaches cX6_reaches 3 (some .boolean) 0 0 [.ref (δ.2.2.1 (2 + u)), .int i, .int n] σ (gPi (fun r σ' => σ = σ' ∧ ((r = 1 ∧ gRch i n m) ∨ (r = 0 ∧ ¬ gRch i n m)))) := by
  refine g_of (lv0 := [some (.ref (δ.2.2.1 (2 + u))), some (.int i), some (.int n)]) (by decide) rfl (Nat.le_of_ble_eq_true rfl) (fun Γ hl C E => ?_)
  subst hl
  have C : gC Γ δ cX6_reaches RX6 3 0 0 := C
  refine g_iload_n C dX6_reaches_0 rfl ?_
  refine g_if_lt C 22 dX6_reaches_1 (by decide) (fun c_1 => ?_) (fun c_1 => ?_)
  · have hx : ¬ gRch i n m := gRch_i c_1
    refine g_iconst (v := 0) C dX6_reaches_22 (by decide) ?_
    exact g_iret C E dX6_reaches_23 rfl rfl ⟨_, rfl, ⟨rfl, by first | exact Or.inl ⟨rfl, hy⟩ | exact Or.inr ⟨rfl, hx⟩⟩⟩
  · refine g_iload_n C dX6_reaches_4 rfl ?_
    refine g_if_lt C 22 dX6_reaches_5 (by decide) (fun c_5 => ?_) (fun c_5 => ?_)
    · have hx : ¬ gRch i n m := gRch_n c_5
      refine g_iconst (v := 0) C dX6_reaches_22 (by decide) ?_
      exact g_iret C E dX6_reaches_23 rfl rfl ⟨_, rfl, ⟨rfl, by first | exact Or.inl ⟨rfl, hy⟩ | exact Or.inr ⟨rfl, hx⟩⟩⟩
    · refine g_iload_n C dX6_reaches_8 rfl ?_
      refine g_aload_n C dX6_reaches_9 rfl ?_
      refine g_get C dX6_reaches_10 iwX6 rfl (wO_S δ _ hu) 2 (Nat.le_of_ble_eq_true rfl) mW176 rfl rfl ?_
      refine g_iload_n C dX6_reaches_13 rfl ?_
      refine g_isub C dX6_reaches_14 ?_
      refine g_icmp_gt C 22 dX6_reaches_15 (by decide) (fun c_15 => ?_) (fun c_15 => ?_)
      · rw [hm] at c_15
        have hx : ¬ gRch i n m := gRch_big h16 c_1 c_5 c_15
        refine g_iconst (v := 0) C dX6_reaches_22 (by decide) ?_
        exact g_iret C E dX6_reaches_23 rfl rfl ⟨_, rfl, ⟨rfl, by first | exact Or.inl ⟨rfl, hy⟩ | exact Or.inr ⟨rfl, hx⟩⟩⟩
      · rw [hm] at c_15
        have hy : gRch i n m := gRch_ok h16 c_1 c_5 c_15
        refine g_iconst (v := 1) C dX6_reaches_18 (by decide) ?_
        refine g_goto C 23 dX6_reaches_19 (by decide) ?_
        exact g_iret C E dX6_reaches_23 rfl rfl ⟨_, rfl, ⟨rfl, by first | exact Or.inl ⟨rfl, hy⟩ | exact Or.inr ⟨rfl, hx⟩⟩⟩
set_option maxRecDepth 100000 in
set_option maxHeartbeats 4000000 in
theorem c_X6_cut (l : Launch) (δ : GD) (σ : GS) {u : Nat} (hu : u < 6) (v : Int64) : gM l δ yX6_cut cX6_cut 3 (some .long) 0 0 [.ref (δ.2.2.1 (2 + u)), .long v] σ (gPl (fun r σ' => σ = σ' ∧ r = gCutV (gN σ (2 + u)) v)) := by
  refine g_of (lv0 := [some (.ref (δ.2.2.1 (2 + u))), some (.long v), none]) (by decide) rfl (Nat.le_of_ble_eq_true rfl) (fun Γ hl C E => ?_)
  subst hl
  have C : gC Γ δ cX6_cut RX6 3 0 0 := C
  refine g_aload_n C dX6_cut_0 rfl ?_
  refine g_get C dX6_cut_1 iwX6 rfl (wO_S δ _ hu) 1 (Nat.le_of_ble_eq_true rfl) mW174 rfl rfl ?_
  refine g_if_ne C 12 dX6_cut_4 (by decide) (fun c_4 => ?_) (fun c_4 => ?_)
  · refine g_aload_n C dX6_cut_12 rfl ?_
    refine g_get C dX6_cut_13 iwX6 rfl (wO_S δ _ hu) 1 (Nat.le_of_ble_eq_true rfl) mW174 rfl rfl ?_
    refine g_iconst (v := 1) C dX6_cut_16 (by decide) ?_
    refine g_icmp_ne C 26 dX6_cut_17 (by decide) (fun c_17 => ?_) (fun c_17 => ?_)
    · refine g_lload_n C dX6_cut_26 rfl ?_
      exact g_lret C E dX6_cut_27 rfl ⟨_, rfl, ⟨rfl, by first | (rw [gCutV, if_neg c_4, if_pos c_17]; done) | (rw [gCutV, if_neg c_4, if_neg c_17]; done)⟩⟩
    · refine g_lload_n C dX6_cut_20 rfl ?_
      refine g_l2i C dX6_cut_21 ?_
      refine g_i2l C dX6_cut_22 ?_
      refine g_goto C 27 dX6_cut_23 (by decide) ?_
      exact g_lret C E dX6_cut_27 rfl ⟨_, rfl, ⟨rfl, by first | (rw [gCutV, if_neg c_4, if_pos c_17]; done) | (rw [gCutV, if_neg c_4, if_neg c_17]; done)⟩⟩
  · have e : gN σ (2 + u) = 0 := c_4
    refine g_lload_n C dX6_cut_7 rfl ?_
    refine g_l2i C dX6_cut_8 ?_
    refine g_i2b C dX6_cut_9 ?_
    refine g_i2l C dX6_cut_10 ?_
    exact g_lret C E dX6_cut_11 rfl ⟨_, rfl, ⟨rfl, by rw [gCutV, if_pos c_4]⟩⟩
set_option maxRecDepth 100000 in
set_option maxHeartbeats 4000000 in
theorem c_J7_fill_d0a16 (l : Launch) (δ : GD) (σ : GS) {q : Nat} (hq : q < 17) (v : Int64) : gM l δ yJ7_fill_d0a16 cJ7_fill_d0a16 5 none 0 0 [.ref (δ.2.2.1 (82 + q)), .long v] σ (gPv (fun σ' => ∃ f : Nat → Int64, σ' = uL σ q f ∧ ∀ j, j < gLenL q → f j = v)) := by
  refine g_of (lv0 := [some (.ref (δ.2.2.1 (82 + q))), some (.long v), none, none, none]) (by decide) rfl (Nat.le_of_ble_eq_true rfl) (fun Γ hl C E => ?_)
  subst hl
  have C : gC Γ δ cJ7_fill_d0a16 RJ7 5 0 0 := C
  have hn := gLenL_s2 q hq
  refine g_iconst (v := 0) C dJ7_fill_d0a16_0 (by decide) ?_
  refine g_istore_n C dJ7_fill_d0a16_1 (Nat.le_of_ble_eq_true rfl) rfl ?_
  refine g_lv [some _, some _, none, some _, none] (gs_some (gs_some (gs_none (gs_some (gs_none gs_nil))))) ?_
  refine g_aload_n C dJ7_fill_d0a16_2 rfl ?_
  refine g_alenL C q dJ7_fill_d0a16_3 hq rfl ?_
  refine g_istore C dJ7_fill_d0a16_4 (Nat.le_of_ble_eq_true rfl) rfl ?_
  refine g_lv [some _, some _, none, some _, some _] (gs_some (gs_some (gs_none (gs_some (gs_some gs_nil))))) ?_
  have L_6 : ∀ (nn : Nat) (k : Nat) (f : Nat → Int64) (hk : k ≤ gLenL q) (hf : ∀ j, j < k → f j = v), gLenL q - k < nn → gW Γ δ (uL σ q f) 6 [some (.ref (δ.2.2.1 (82 + q))), some (.long v), none, some (.int (nI k)), some (.int (nI (gLenL q)))] [] := by
    intro nn
    induction nn with
    | zero =>
      intro k f hk hf hm_6
      exact absurd hm_6 (Nat.not_lt_zero _)
    | succ nn ih_6 =>
      intro k f hk hf hm_6
      refine g_iload_n C dJ7_fill_d0a16_6 rfl ?_
      refine g_iload C dJ7_fill_d0a16_7 rfl ?_
      refine g_icmp_ge C 22 dJ7_fill_d0a16_9 (by decide) (fun c_9 => ?_) (fun c_9 => ?_)
      · have k_9 := gle c_9 (a := gLenL q) (b := k) (by first | rfl | assumption | (simp only [glit, nI_add, pk_mul]; done) | (simp only [glit, nI_add, pk_mul]; congr 1; omega) | (simp only [*, glit, nI_add, pk_mul]; congr 1; omega)) (by first | rfl | assumption | (simp only [glit, nI_add, pk_mul]; done) | (simp only [glit, nI_add, pk_mul]; congr 1; omega) | (simp only [*, glit, nI_add, pk_mul]; congr 1; omega)) (by omega) (by omega)
        exact g_vret C E dJ7_fill_d0a16_22 rfl ⟨rfl, ⟨f, rfl, fun j h => hf j (by omega)⟩⟩
      · have k_9 := gnle c_9 (a := gLenL q) (b := k) (by first | rfl | assumption | (simp only [glit, nI_add, pk_mul]; done) | (simp only [glit, nI_add, pk_mul]; congr 1; omega) | (simp only [*, glit, nI_add, pk_mul]; congr 1; omega)) (by first | rfl | assumption | (simp only [glit, nI_add, pk_mul]; done) | (simp only [glit, nI_add, pk_mul]; congr 1; omega) | (simp only [*, glit, nI_add, pk_mul]; congr 1; omega)) (by omega) (by omega)
        refine g_aload_n C dJ7_fill_d0a16_12 rfl ?_
        refine g_iload_n C dJ7_fill_d0a16_13 rfl ?_
        refine g_lload_n C dJ7_fill_d0a16_14 rfl ?_
        refine g_lastN C dJ7_fill_d0a16_15 (k := k) (q := q) hq rfl (by first | rfl | assumption | (simp only [glit, nI_add, pk_mul]; done) | (simp only [glit, nI_add, pk_mul]; congr 1; omega) | (simp only [*, glit, nI_add, pk_mul]; congr 1; omega)) (by rw [show gLenL q = gLenL q from rfl]; omega) ?_
        refine g_iinc (v := nI (k + 1)) C dJ7_fill_d0a16_16 rfl (ginc _ 1) rfl ?_
        refine g_lv [some _, some _, none, some _, some _] (gs_some (gs_some (gs_none (gs_some (gs_some gs_nil))))) ?_
        refine g_goto C 6 dJ7_fill_d0a16_19 (by decide) ?_
        refine g_lv [some _, some _, none, some _, some _] (gs_some (gs_some (gs_none (gs_some (gs_some gs_nil))))) ?_
        rw [uL_uL, gL_uL, if_pos rfl]
        exact ih_6 (k + 1) _ (by omega) (fun j h => vp_fill hf h) (by omega)
  refine g_lv [some _, some _, none, some _, some _] (gs_some (gs_some (gs_none (gs_some (gs_some gs_nil))))) ?_
  refine g_st (uL_id σ q).symm ?_
  exact L_6 _ 0 (gL σ q) (Nat.zero_le _) (fun j h => absurd h (Nat.not_lt_zero _)) (Nat.lt_succ_self _)
set_option maxRecDepth 100000 in
set_option maxHeartbeats 4000000 in
theorem c_J7_fill_53178 (l : Launch) (δ : GD) (σ : GS) {q : Nat} (hq : q < 60) (v : Int32) : gM l δ yJ7_fill_53178 cJ7_fill_53178 4 none 0 0 [.ref (δ.2.2.1 (22 + q)), .int v] σ (gPv (fun σ' => ∃ f : Nat → Int32, σ' = uI σ q f ∧ ∀ j, j < gLenI q → f j = v)) := by
  refine g_of (lv0 := [some (.ref (δ.2.2.1 (22 + q))), some (.int v), none, none]) (by decide) rfl (Nat.le_of_ble_eq_true rfl) (fun Γ hl C E => ?_)
  subst hl
  have C : gC Γ δ cJ7_fill_53178 RJ7 4 0 0 := C
  have hn := gLenI_s q hq
  refine g_iconst (v := 0) C dJ7_fill_53178_0 (by decide) ?_
  refine g_istore_n C dJ7_fill_53178_1 (Nat.le_of_ble_eq_true rfl) rfl ?_
  refine g_lv [some _, some _, some _, none] (gs_some (gs_some (gs_some (gs_none gs_nil)))) ?_
  refine g_aload_n C dJ7_fill_53178_2 rfl ?_
  refine g_alenI C q dJ7_fill_53178_3 hq rfl ?_
  refine g_istore_n C dJ7_fill_53178_4 (Nat.le_of_ble_eq_true rfl) rfl ?_
  refine g_lv [some _, some _, some _, some _] (gs_some (gs_some (gs_some (gs_some gs_nil)))) ?_
  have L_5 : ∀ (nn : Nat) (k : Nat) (f : Nat → Int32) (hk : k ≤ gLenI q) (hf : ∀ j, j < k → f j = v), gLenI q - k < nn → gW Γ δ (uI σ q f) 5 [some (.ref (δ.2.2.1 (22 + q))), some (.int v), some (.int (nI k)), some (.int (nI (gLenI q)))] [] := by
    intro nn
    induction nn with
    | zero =>
      intro k f hk hf hm_5
      exact absurd hm_5 (Nat.not_lt_zero _)
    | succ nn ih_5 =>
      intro k f hk hf hm_5
      refine g_iload_n C dJ7_fill_53178_5 rfl ?_
      refine g_iload_n C dJ7_fill_53178_6 rfl ?_
      refine g_icmp_ge C 20 dJ7_fill_53178_7 (by decide) (fun c_7 => ?_) (fun c_7 => ?_)
      · have k_7 := gle c_7 (a := gLenI q) (b := k) (by first | rfl | assumption | (simp only [glit, nI_add, pk_mul]; done) | (simp only [glit, nI_add, pk_mul]; congr 1; omega) | (simp only [*, glit, nI_add, pk_mul]; congr 1; omega)) (by first | rfl | assumption | (simp only [glit, nI_add, pk_mul]; done) | (simp only [glit, nI_add, pk_mul]; congr 1; omega) | (simp only [*, glit, nI_add, pk_mul]; congr 1; omega)) (by omega) (by omega)
        exact g_vret C E dJ7_fill_53178_20 rfl ⟨rfl, ⟨f, rfl, fun j h => hf j (by omega)⟩⟩
      · have k_7 := gnle c_7 (a := gLenI q) (b := k) (by first | rfl | assumption | (simp only [glit, nI_add, pk_mul]; done) | (simp only [glit, nI_add, pk_mul]; congr 1; omega) | (simp only [*, glit, nI_add, pk_mul]; congr 1; omega)) (by first | rfl | assumption | (simp only [glit, nI_add, pk_mul]; done) | (simp only [glit, nI_add, pk_mul]; congr 1; omega) | (simp only [*, glit, nI_add, pk_mul]; congr 1; omega)) (by omega) (by omega)
        refine g_aload_n C dJ7_fill_53178_10 rfl ?_
        refine g_iload_n C dJ7_fill_53178_11 rfl ?_
        refine g_iload_n C dJ7_fill_53178_12 rfl ?_
        refine g_iastN C dJ7_fill_53178_13 (k := k) (q := q) hq rfl (by first | rfl | assumption | (simp only [glit, nI_add, pk_mul]; done) | (simp only [glit, nI_add, pk_mul]; congr 1; omega) | (simp only [*, glit, nI_add, pk_mul]; congr 1; omega)) (by rw [show gLenI q = gLenI q from rfl]; omega) ?_
        refine g_iinc (v := nI (k + 1)) C dJ7_fill_53178_14 rfl (ginc _ 1) rfl ?_
        refine g_lv [some _, some _, some _, some _] (gs_some (gs_some (gs_some (gs_some gs_nil)))) ?_
        refine g_goto C 5 dJ7_fill_53178_17 (by decide) ?_
        refine g_lv [some _, some _, some _, some _] (gs_some (gs_some (gs_some (gs_some gs_nil)))) ?_
        rw [uI_uI, gI_uI, if_pos rfl]
        exact ih_5 (k + 1) _ (by omega) (fun j h => upd_fill hf h) (by omega)
  refine g_lv [some _, some _, some _, some _] (gs_some (gs_some (gs_some (gs_some gs_nil)))) ?_
  refine g_st (uI_id σ q).symm ?_
  exact L_5 _ 0 (gI σ q) (Nat.zero_le _) (fun j h => absurd h (Nat.not_lt_zero _)) (Nat.lt_succ_self _)
set_option maxRecDepth 100000 in
set_option maxHeartbeats 4000000 in
theorem c_X6_become (l : Launch) (δ : GD) (σ : GS) {u : Nat} (hu : u < 6) (k n : Int32) : gM l δ yX6_become cX6_become 3 none 1 24 [.ref (δ.2.2.1 (2 + u)), .int k, .int n] σ (gPv (fun σ' => ∃ f : Nat → Int64, σ' = uL (uN (uN σ (2 + u) k) (8 + u) n) u f ∧ ∀ j, j < 16 → f j = 0)) := by
  refine g_of (lv0 := [some (.ref (δ.2.2.1 (2 + u))), some (.int k), some (.int n)]) (by decide) rfl (Nat.le_of_ble_eq_true rfl) (fun Γ hl C E => ?_)
  subst hl
  have C : gC Γ δ cX6_become RX6 3 1 24 := C
  refine g_aload_n C dX6_become_0 rfl ?_
  refine g_iload_n C dX6_become_1 rfl ?_
  refine g_put C tyX6 dX6_become_2 iwX6 tyX6_ok nmX6 rfl (wO_S δ _ hu) 1 (Nat.le_of_ble_eq_true rfl) mW174 rfl rfl rfl rfl rfl (Nat.le_of_ble_eq_true rfl) (pSk δ _ _ hu) ?_
  refine g_aload_n C dX6_become_5 rfl ?_
  refine g_iload_n C dX6_become_6 rfl ?_
  refine g_put C tyX6 dX6_become_7 iwX6 tyX6_ok nmX6 rfl (wO_S δ _ hu) 2 (Nat.le_of_ble_eq_true rfl) mW176 rfl rfl rfl rfl rfl (Nat.le_of_ble_eq_true rfl) (pSl δ _ _ hu) ?_
  refine g_aload_n C dX6_become_10 rfl ?_
  refine g_get C dX6_become_11 iwX6 rfl (wO_S δ _ hu) 0 (Nat.le_of_ble_eq_true rfl) mW172 rfl rfl ?_
  refine g_lconst (v := 0) C dX6_become_14 (by decide) ?_
  refine g_callSv C sS_X6_22 dX6_become_15 (c_J7_fill_d0a16 _ δ _ (show u < 17 by omega) _) ⟨by decide, by decide⟩ rfl rfl rfl (Nat.le_of_ble_eq_true rfl) (fun s_15 h_15 => ?_)
  obtain ⟨f, rfl, hf⟩ := h_15
  exact g_vret C E dX6_become_18 rfl ⟨rfl, ⟨f, rfl, fun j h => hf j (by rw [gLenL_s hu]; exact h)⟩⟩
set_option maxRecDepth 100000 in
set_option maxHeartbeats 4000000 in
theorem c_X8_sheet (l : Launch) (δ : GD) (σ : GS) (r k n : Int32) : gM l δ yX8_sheet cX8_sheet 5 (some .int) 2 46 [.ref (δ.2.2.1 0), .int r, .int k, .int n] σ (gPi (fun x σ' => x = fSheet r k n ∧ ((x ≠ 0 ∧ σ = σ') ∨ (x = 0 ∧ ∃ (u : Nat) (f : Nat → Int64), u < 6 ∧ r = nI u ∧ (∀ j, j < 16 → f j = 0) ∧ σ' = uL (uN (uN σ (2 + u) k) (8 + u) (if k = -1 then 0 else n)) u f)))) := by
  refine g_of (lv0 := [some (.ref (δ.2.2.1 0)), some (.int r), some (.int k), some (.int n), none]) (by decide) rfl (Nat.le_of_ble_eq_true rfl) (fun Γ hl C E => ?_)
  subst hl
  have C : gC Γ δ cX8_sheet RX8 5 2 46 := C
  refine g_aload_n C dX8_sheet_0 rfl ?_
  refine g_iload_n C dX8_sheet_1 rfl ?_
  refine g_callVr C sV_X8_72 dX8_sheet_2 (c_X8_sheetAt _ δ _ _) ⟨by decide, by decide⟩ (wO_X δ _) rfl rfl rfl rfl (Nat.le_of_ble_eq_true rfl) (fun r_2 s_2 h_2 => ?_)
  obtain ⟨rfl, h_2⟩ := h_2
  rcases h_2 with ⟨rfl, h_2⟩ | ⟨u_2, hu_2, e_2, rfl⟩
  · skip
    refine g_astoreN C dX8_sheet_5 (Nat.le_of_ble_eq_true rfl) rfl ?_
    refine g_lv [some _, some _, some _, some _, some _] (gs_some (gs_some (gs_some (gs_some (gs_some gs_nil))))) ?_
    refine g_aloadN C dX8_sheet_7 rfl ?_
    refine g_ifnull_n C 22 dX8_sheet_9 (by decide) ?_
    refine g_iconst (v := (-1)) C dX8_sheet_22 (by decide) ?_
    exact g_iret C E dX8_sheet_23 rfl rfl ⟨_, rfl, ⟨by first | exact hb.symm | exact (fSheet_r h_2).symm, Or.inl ⟨by decide, rfl⟩⟩⟩
  · skip
    refine g_astore C dX8_sheet_5 (Nat.le_of_ble_eq_true rfl) rfl ?_
    refine g_lv [some _, some _, some _, some _, some _] (gs_some (gs_some (gs_some (gs_some (gs_some gs_nil))))) ?_
    refine g_aload C dX8_sheet_7 rfl ?_
    refine g_ifnull_r C dX8_sheet_9 ?_
    refine g_iload_n C dX8_sheet_12 rfl ?_
    refine g_iconst (v := (-1)) C dX8_sheet_13 (by decide) ?_
    refine g_icmp_lt C 22 dX8_sheet_14 (by decide) (fun c_14 => ?_) (fun c_14 => ?_)
    · have hb : fSheet r k n = -1 := by unfold fSheet; rw [if_pos (Or.inr (Or.inl c_14))]
      refine g_iconst (v := (-1)) C dX8_sheet_22 (by decide) ?_
      exact g_iret C E dX8_sheet_23 rfl rfl ⟨_, rfl, ⟨by first | exact hb.symm | exact (fSheet_r h_2).symm, Or.inl ⟨by decide, rfl⟩⟩⟩
    · refine g_iload_n C dX8_sheet_17 rfl ?_
      refine g_iconst (v := 2) C dX8_sheet_18 (by decide) ?_
      refine g_icmp_le C 24 dX8_sheet_19 (by decide) (fun c_19 => ?_) (fun c_19 => ?_)
      · refine g_iload_n C dX8_sheet_24 rfl ?_
        refine g_iconst (v := (-1)) C dX8_sheet_25 (by decide) ?_
        refine g_icmp_ne C 38 dX8_sheet_26 (by decide) (fun c_26 => ?_) (fun c_26 => ?_)
        · refine g_iload_n C dX8_sheet_38 rfl ?_
          refine g_bipush (v := 16) C dX8_sheet_39 (by decide) ?_
          refine g_icmp_le C 46 dX8_sheet_41 (by decide) (fun c_41 => ?_) (fun c_41 => ?_)
          · refine g_iload_n C dX8_sheet_46 rfl ?_
            refine g_if_ge C 53 dX8_sheet_47 (by decide) (fun c_47 => ?_) (fun c_47 => ?_)
            · have h0 : fSheet r k n = 0 := fSheet_0 c_26 ⟨u_2, hu_2, e_2⟩ c_14 c_19 c_41 c_47
              refine g_aload C dX8_sheet_53 rfl ?_
              refine g_iload_n C dX8_sheet_55 rfl ?_
              refine g_iload_n C dX8_sheet_56 rfl ?_
              refine g_callVv C sV_X8_76 dX8_sheet_57 (c_X6_become _ δ _ hu_2 _ _) ⟨by decide, by decide⟩ (wO_S δ _ hu_2) rfl rfl rfl rfl (Nat.le_of_ble_eq_true rfl) (fun s_57 h_57 => ?_)
              obtain ⟨f, rfl, hf⟩ := h_57
              refine g_iconst (v := 0) C dX8_sheet_60 (by decide) ?_
              exact g_iret C E dX8_sheet_61 rfl rfl ⟨_, rfl, ⟨h0.symm, Or.inr ⟨rfl, u_2, f, hu_2, e_2, hf, by rw [if_neg c_26]⟩⟩⟩
            · have hz : fSheet r k n = -13 := fSheet_z c_26 ⟨u_2, hu_2, e_2⟩ c_14 c_19 c_41 c_47
              refine g_bipush (v := (-13)) C dX8_sheet_50 (by decide) ?_
              exact g_iret C E dX8_sheet_52 rfl rfl ⟨_, rfl, ⟨hz.symm, Or.inl ⟨by decide, rfl⟩⟩⟩
          · have hb : fSheet r k n = -1 := by unfold fSheet; rw [if_pos (Or.inr (Or.inr (Or.inr ⟨c_26, Int32.not_le.mp c_41⟩)))]
            refine g_iconst (v := (-1)) C dX8_sheet_44 (by decide) ?_
            exact g_iret C E dX8_sheet_45 rfl rfl ⟨_, rfl, ⟨hb.symm, Or.inl ⟨by decide, rfl⟩⟩⟩
        · have h0 : fSheet r k n = 0 := fSheet_m c_26 ⟨u_2, hu_2, e_2⟩
          refine g_aload C dX8_sheet_29 rfl ?_
          refine g_iconst (v := (-1)) C dX8_sheet_31 (by decide) ?_
          refine g_iconst (v := 0) C dX8_sheet_32 (by decide) ?_
          refine g_callVv C sV_X8_76 dX8_sheet_33 (c_X6_become _ δ _ hu_2 _ _) ⟨by decide, by decide⟩ (wO_S δ _ hu_2) rfl rfl rfl rfl (Nat.le_of_ble_eq_true rfl) (fun s_33 h_33 => ?_)
          obtain ⟨f, rfl, hf⟩ := h_33
          refine g_iconst (v := 0) C dX8_sheet_36 (by decide) ?_
          exact g_iret C E dX8_sheet_37 rfl rfl ⟨_, rfl, ⟨h0.symm, Or.inr ⟨rfl, u_2, f, hu_2, e_2, hf, by rw [if_pos c_26, c_26]⟩⟩⟩
      · have hb : fSheet r k n = -1 := by unfold fSheet; rw [if_pos (Or.inr (Or.inr (Or.inl (Int32.not_le.mp c_19))))]
        refine g_iconst (v := (-1)) C dX8_sheet_22 (by decide) ?_
        exact g_iret C E dX8_sheet_23 rfl rfl ⟨_, rfl, ⟨by first | exact hb.symm | exact (fSheet_r h_2).symm, Or.inl ⟨by decide, rfl⟩⟩⟩
