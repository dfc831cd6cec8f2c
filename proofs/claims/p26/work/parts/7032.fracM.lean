set_option maxRecDepth 100000 in
set_option maxHeartbeats 4000000 in
theorem c_X9_tellsb (l : Launch) (δ : GD) (σ : GS) {a b : Nat} (hb : 1 ≤ b) (hb2 : b < 9223372036854775808) (ha : a < 9223372036854775808) : gM l δ yX9_tells cX9_tells 7 (some .int) 1 29 [.ref (δ.2.2.1 1), .long (lN a), .long (lN b)] σ (gPi (fun x σ' => x = 0 ∧ gSn σ σ' ∧ MF σ' (fNew 0 a b) ∧ (gG σ' 10 = lN 0 ∧ gG σ' 11 = lN (a / Nat.gcd a b) ∧ gG σ' 12 = lN (b / Nat.gcd a b)))) := by
  refine g_of (lv0 := [some (.ref (δ.2.2.1 1)), some (.long (lN a)), none, some (.long (lN b)), none, none, none]) (by decide) rfl (Nat.le_of_ble_eq_true rfl) (fun Γ hl C E => ?_)
  subst hl
  have C : gC Γ δ cX9_tells RX9 7 1 29 := C
  have q2 := gcd_2 (a := a) hb
  refine g_lload_n C dX9_tells_0 rfl ?_
  refine g_lload_n C dX9_tells_1 rfl ?_
  refine g_callSl C sS_X9_150 dX9_tells_2 (c_X9_common _ δ _ _ _) ⟨by decide, by decide⟩ rfl rfl rfl (Nat.le_of_ble_eq_true rfl) (fun r_2 s_2 h_2 => ?_)
  obtain ⟨rfl, h_2⟩ := h_2
  obtain rfl := gCm_N h_2 ha hb2
  refine g_lstore C dX9_tells_5 (Nat.le_of_ble_eq_true rfl) rfl ?_
  refine g_lv [some _, some _, none, some _, none, some _, none] (gs_some (gs_some (gs_none (gs_some (gs_none (gs_some (gs_none gs_nil))))))) ?_
  refine g_aload_n C dX9_tells_7 rfl ?_
  refine g_lconst (v := 0) C dX9_tells_8 (by decide) ?_
  refine g_put C tyX9 dX9_tells_9 iwX9 tyX9_ok nmX9 rfl (wO_M δ _) 9 (Nat.le_of_ble_eq_true rfl) mW581 rfl rfl rfl rfl rfl (Nat.le_of_ble_eq_true rfl) (pG_10 δ _ _) ?_
  refine g_aload_n C dX9_tells_12 rfl ?_
  refine g_lload_n C dX9_tells_13 rfl ?_
  refine g_lload C dX9_tells_14 rfl ?_
  refine g_ldiv C dX9_tells_16 (lNz q2.1 (by omega)) ?_
  rw [pk_lDiv ha (by omega) (by omega)]
  refine g_put C tyX9 dX9_tells_17 iwX9 tyX9_ok nmX9 rfl (wO_M δ _) 10 (Nat.le_of_ble_eq_true rfl) mW582 rfl rfl rfl rfl rfl (Nat.le_of_ble_eq_true rfl) (pG_11 δ _ _) ?_
  refine g_aload_n C dX9_tells_20 rfl ?_
  refine g_lload_n C dX9_tells_21 rfl ?_
  refine g_lload C dX9_tells_22 rfl ?_
  refine g_ldiv C dX9_tells_24 (lNz q2.1 (by omega)) ?_
  rw [pk_lDiv hb2 (by omega) (by omega)]
  refine g_put C tyX9 dX9_tells_25 iwX9 tyX9_ok nmX9 rfl (wO_M δ _) 11 (Nat.le_of_ble_eq_true rfl) mW583 rfl rfl rfl rfl rfl (Nat.le_of_ble_eq_true rfl) (pG_12 δ _ _) ?_
  refine g_iconst (v := 0) C dX9_tells_28 (by decide) ?_
  exact g_iret C E dX9_tells_29 rfl rfl ⟨_, rfl, ⟨rfl, gSn_D (lNz q2.2.2.1 (by omega)) (gSn_G (by omega) (gSn_G (by omega) (gSn_r _))), MF_new (w := 0) hb hb2 ha rfl rfl rfl, rfl, rfl, rfl⟩⟩
