set_option maxRecDepth 100000 in
set_option maxHeartbeats 4000000 in
theorem c_X8_commonb (l : Launch) (δ : GD) (σ : GS) {m n : Nat} (h0 : 1 ≤ m ∨ 1 ≤ n) (hm2 : m < 9223372036854775808) (hn : n < 9223372036854775808) : gM l δ yX8_common cX8_common 11 (some .long) 0 0 [.long (lN m), .long (lN n)] σ (gPl (fun r σ' => σ = σ' ∧ r = lN (Nat.gcd m n))) := by
  refine g_of (lv0 := [some (.long (lN m)), none, some (.long (lN n)), none, none, none, none, none, none, none, none]) (by decide) rfl (Nat.le_of_ble_eq_true rfl) (fun Γ hl C E => ?_)
  subst hl
  have C : gC Γ δ cX8_common RX8 11 0 0 := C
  refine g_lload_n C dX8_common_0 rfl ?_
  refine g_lstore C dX8_common_1 (Nat.le_of_ble_eq_true rfl) rfl ?_
  refine g_lv [some _, none, some _, none, some _, none, none, none, none, none, none] (gs_some (gs_none (gs_some (gs_none (gs_some (gs_none (gs_none (gs_none (gs_none (gs_none (gs_none gs_nil))))))))))) ?_
  refine g_lload_n C dX8_common_3 rfl ?_
  refine g_lstore C dX8_common_4 (Nat.le_of_ble_eq_true rfl) rfl ?_
  refine g_lv [some _, none, some _, none, some _, none, some _, none, none, none, none] (gs_some (gs_none (gs_some (gs_none (gs_some (gs_none (gs_some (gs_none (gs_none (gs_none (gs_none gs_nil))))))))))) ?_
  refine g_iconst (v := 0) C dX8_common_6 (by decide) ?_
  refine g_istore C dX8_common_7 (Nat.le_of_ble_eq_true rfl) rfl ?_
  refine g_lv [some _, none, some _, none, some _, none, some _, none, some _, none, none] (gs_some (gs_none (gs_some (gs_none (gs_some (gs_none (gs_some (gs_none (gs_some (gs_none (gs_none gs_nil))))))))))) ?_
  have L_9 : ∀ (nn : Nat) (t x y : Nat) (ht : t ≤ 200) (hx : 1 ≤ x ∨ 1 ≤ y) (hx2 : x < 9223372036854775808) (hy : y < 9223372036854775808) (hg : Nat.gcd x y = Nat.gcd m n) (hp : gEu t x y), 201 - t < nn → gW Γ δ σ 9 [some (.long (lN m)), none, some (.long (lN n)), none, some (.long (lN x)), none, some (.long (lN y)), none, some (.int (nI t)), none, none] [] := by
    intro nn
    induction nn with
    | zero =>
      intro t x y ht hx hx2 hy hg hp hm_9
      exact absurd hm_9 (Nat.not_lt_zero _)
    | succ nn ih_9 =>
      intro t x y ht hx hx2 hy hg hp hm_9
      refine g_iload C dX8_common_9 rfl ?_
      refine g_sipush (v := 200) C dX8_common_11 (by decide) ?_
      refine g_icmp_ge C 45 dX8_common_14 (by decide) (fun c_14 => ?_) (fun c_14 => ?_)
      · have k_14 := gle c_14 (a := 200) (b := t) (by first | rfl | assumption | (simp only [glit, nI_add, pk_mul]; done) | (simp only [glit, nI_add, pk_mul]; congr 1; omega) | (simp only [*, glit, nI_add, pk_mul]; congr 1; omega)) (by first | rfl | assumption | (simp only [glit, nI_add, pk_mul]; done) | (simp only [glit, nI_add, pk_mul]; congr 1; omega) | (simp only [*, glit, nI_add, pk_mul]; congr 1; omega)) (by omega) (by omega)
        have et : t = 200 := by omega
        have hy0 : y = 0 := gEu_z (et ▸ hp) hx
        refine g_lload C dX8_common_45 rfl ?_
        refine g_lconst (v := 1) C dX8_common_47 (by decide) ?_
        refine g_lcmp C dX8_common_48 ?_
        refine g_if_ge C 56 dX8_common_49 (by decide) (fun c_49 => ?_) (fun c_49 => ?_)
        · rw [lg_cmp_ge] at c_49
          refine g_lload C dX8_common_56 rfl ?_
          exact g_lret C E dX8_common_58 rfl ⟨_, rfl, ⟨rfl, by rw [← hg, hy0, Nat.gcd_zero_right]⟩⟩
        · exact absurd ((lg_cmp_ge _ _).mpr (lN_1le (by omega) hx2)) c_49
      · have k_14 := gnle c_14 (a := 200) (b := t) (by first | rfl | assumption | (simp only [glit, nI_add, pk_mul]; done) | (simp only [glit, nI_add, pk_mul]; congr 1; omega) | (simp only [*, glit, nI_add, pk_mul]; congr 1; omega)) (by first | rfl | assumption | (simp only [glit, nI_add, pk_mul]; done) | (simp only [glit, nI_add, pk_mul]; congr 1; omega) | (simp only [*, glit, nI_add, pk_mul]; congr 1; omega)) (by omega) (by omega)
        refine g_lload C dX8_common_17 rfl ?_
        refine g_lconst (v := 0) C dX8_common_19 (by decide) ?_
        refine g_lcmp C dX8_common_20 ?_
        refine g_if_eq C 45 dX8_common_21 (by decide) (fun c_21 => ?_) (fun c_21 => ?_)
        · rw [lg_cmp_eq] at c_21
          have hy0 : y = 0 := (lN_z hy).mp c_21
          refine g_lload C dX8_common_45 rfl ?_
          refine g_lconst (v := 1) C dX8_common_47 (by decide) ?_
          refine g_lcmp C dX8_common_48 ?_
          refine g_if_ge C 56 dX8_common_49 (by decide) (fun c_49 => ?_) (fun c_49 => ?_)
          · rw [lg_cmp_ge] at c_49
            refine g_lload C dX8_common_56 rfl ?_
            exact g_lret C E dX8_common_58 rfl ⟨_, rfl, ⟨rfl, by rw [← hg, hy0, Nat.gcd_zero_right]⟩⟩
          · exact absurd ((lg_cmp_ge _ _).mpr (lN_1le (by omega) hx2)) c_49
        · rw [lg_cmp_eq] at c_21
          have hy1 : 1 ≤ y := Nat.pos_of_ne_zero (fun e => c_21 ((lN_z hy).mpr e))
          refine g_lload C dX8_common_24 rfl ?_
          refine g_lload C dX8_common_26 rfl ?_
          refine g_lrem C dX8_common_28 (fun e => c_21 e) ?_
          rw [pk_lRem hx2 hy1 hy]
          refine g_lstore C dX8_common_29 (Nat.le_of_ble_eq_true rfl) rfl ?_
          refine g_lv [some _, none, some _, none, some _, none, some _, none, some _, some _, none] (gs_some (gs_none (gs_some (gs_none (gs_some (gs_none (gs_some (gs_none (gs_some (gs_some (gs_none gs_nil))))))))))) ?_
          refine g_lload C dX8_common_31 rfl ?_
          refine g_lstore C dX8_common_33 (Nat.le_of_ble_eq_true rfl) rfl ?_
          refine g_lv [some _, none, some _, none, some _, none, some _, none, some _, some _, none] (gs_some (gs_none (gs_some (gs_none (gs_some (gs_none (gs_some (gs_none (gs_some (gs_some (gs_none gs_nil))))))))))) ?_
          refine g_lload C dX8_common_35 rfl ?_
          refine g_lstore C dX8_common_37 (Nat.le_of_ble_eq_true rfl) rfl ?_
          refine g_lv [some _, none, some _, none, some _, none, some _, none, some _, some _, none] (gs_some (gs_none (gs_some (gs_none (gs_some (gs_none (gs_some (gs_none (gs_some (gs_some (gs_none gs_nil))))))))))) ?_
          refine g_iinc (v := nI (t + 1)) C dX8_common_39 rfl (ginc _ 1) rfl ?_
          refine g_lv [some _, none, some _, none, some _, none, some _, none, some _, some _, none] (gs_some (gs_none (gs_some (gs_none (gs_some (gs_none (gs_some (gs_none (gs_some (gs_some (gs_none gs_nil))))))))))) ?_
          refine g_goto C 9 dX8_common_42 (by decide) ?_
          refine g_lv [some _, none, some _, none, some _, none, some _, none, some _, none, none] (gs_some (gs_none (gs_some (gs_none (gs_some (gs_none (gs_some (gs_none (gs_some (gs_none (gs_none gs_nil))))))))))) ?_
          exact ih_9 (t + 1) y (x % y) (by omega) (Or.inl hy1) hy (Nat.lt_trans (Nat.mod_lt _ hy1) hy) (by rw [← hg, Nat.gcd_comm y (x % y), ← Nat.gcd_rec y x, Nat.gcd_comm]) (gEu_s hp hy1 hx2 hy) (by omega)
  refine g_lv [some _, none, some _, none, some _, none, some _, none, some _, none, none] (gs_some (gs_none (gs_some (gs_none (gs_some (gs_none (gs_some (gs_none (gs_some (gs_none (gs_none gs_nil))))))))))) ?_
  exact L_9 _ 0 m n (by omega) h0 hm2 hn rfl (Or.inl rfl) (Nat.lt_succ_self _)
set_option maxRecDepth 100000 in
set_option maxHeartbeats 4000000 in
theorem c_X1_becomeb (l : Launch) (δ : GD) (σ : GS) {w a b : Nat} (hb : 1 ≤ b) (hb2 : b < 9223372036854775808) (ha : a < 9223372036854775808) : gM l δ yX1_become cX1_become 11 none 1 30 [.ref (δ.2.2.1 21), .long (lN w), .long (lN a), .long (lN b)] σ (gPv (fun σ' => gSk σ σ' ∧ CF σ' (fNew w a b) ∧ (∀ q, gL σ' q = gL σ q) ∧ gP σ' = gP σ)) := by
  refine g_of (lv0 := [some (.ref (δ.2.2.1 21)), some (.long (lN w)), none, some (.long (lN a)), none, some (.long (lN b)), none, none, none, none, none]) (by decide) rfl (Nat.le_of_ble_eq_true rfl) (fun Γ hl C E => ?_)
  subst hl
  have C : gC Γ δ cX1_become RX1 11 1 30 := C
  have hmod : a % b < b := Nat.mod_lt _ hb
  have q2 := gcd_2 (a := a) hb
  refine g_lload C dX1_become_0 rfl ?_
  refine g_lconst (v := 1) C dX1_become_2 (by decide) ?_
  refine g_lcmp C dX1_become_3 ?_
  refine g_if_ge C 8 dX1_become_4 (by decide) (fun c_4 => ?_) (fun c_4 => ?_)
  · rw [lg_cmp_ge] at c_4
    refine g_lload_n C dX1_become_8 rfl ?_
    refine g_lload C dX1_become_9 rfl ?_
    refine g_lrem C dX1_become_11 (lNz hb (by omega)) ?_
    rw [pk_lRem ha hb hb2]
    refine g_lstore C dX1_become_12 (Nat.le_of_ble_eq_true rfl) rfl ?_
    refine g_lv [some _, some _, none, some _, none, some _, none, some _, none, none, none] (gs_some (gs_some (gs_none (gs_some (gs_none (gs_some (gs_none (gs_some (gs_none (gs_none (gs_none gs_nil))))))))))) ?_
    refine g_lload C dX1_become_14 rfl ?_
    refine g_lload C dX1_become_16 rfl ?_
    refine g_callNl C sN_X1_19 C.2.2.2.2.2.2.2.2.1.2 dX1_become_18 (c_X8_commonb _ δ _ (m := a % b) (n := b) (Or.inr hb) (by omega) hb2) ⟨by decide, by decide⟩ rfl rfl rfl (Nat.le_of_ble_eq_true rfl) (fun r_18 s_18 h_18 => ?_)
    obtain ⟨rfl, rfl⟩ := h_18
    rw [gcd_mod]
    refine g_lstore C dX1_become_21 (Nat.le_of_ble_eq_true rfl) rfl ?_
    refine g_lv [some _, some _, none, some _, none, some _, none, some _, none, some _, none] (gs_some (gs_some (gs_none (gs_some (gs_none (gs_some (gs_none (gs_some (gs_none (gs_some (gs_none gs_nil))))))))))) ?_
    refine g_aload_n C dX1_become_23 rfl ?_
    refine g_lload_n C dX1_become_24 rfl ?_
    refine g_lload_n C dX1_become_25 rfl ?_
    refine g_lload C dX1_become_26 rfl ?_
    refine g_ldiv C dX1_become_28 (lNz hb (by omega)) ?_
    rw [pk_lDiv ha hb hb2]
    refine g_ladd C dX1_become_29 ?_
    rw [lN_add]
    refine g_put C tyX1 dX1_become_30 iwX1 tyX1_ok nmX1 rfl (wO_F δ _) 0 (Nat.le_of_ble_eq_true rfl) mW154 rfl rfl rfl rfl rfl (Nat.le_of_ble_eq_true rfl) (pG_1 δ _ _) ?_
    refine g_aload_n C dX1_become_33 rfl ?_
    refine g_lload C dX1_become_34 rfl ?_
    refine g_lload C dX1_become_36 rfl ?_
    refine g_ldiv C dX1_become_38 (lNz q2.1 (by omega)) ?_
    rw [pk_lDiv (by omega) (by omega) (by omega)]
    refine g_put C tyX1 dX1_become_39 iwX1 tyX1_ok nmX1 rfl (wO_F δ _) 1 (Nat.le_of_ble_eq_true rfl) mW156 rfl rfl rfl rfl rfl (Nat.le_of_ble_eq_true rfl) (pG_2 δ _ _) ?_
    refine g_aload_n C dX1_become_42 rfl ?_
    refine g_lload C dX1_become_43 rfl ?_
    refine g_lload C dX1_become_45 rfl ?_
    refine g_ldiv C dX1_become_47 (lNz q2.1 (by omega)) ?_
    rw [pk_lDiv (by omega) (by omega) (by omega)]
    refine g_put C tyX1 dX1_become_48 iwX1 tyX1_ok nmX1 rfl (wO_F δ _) 2 (Nat.le_of_ble_eq_true rfl) mW158 rfl rfl rfl rfl rfl (Nat.le_of_ble_eq_true rfl) (pG_3 δ _ _) ?_
    exact g_vret C E dX1_become_51 rfl ⟨rfl, ⟨(by repeat (first | (with_reducible assumption) | (with_reducible exact gSk_r _) | (with_reducible refine gSk_I (by omega) ?_) | (with_reducible refine gSk_L (by omega) ?_) | (with_reducible refine gSk_N (by omega) ?_) | (with_reducible refine gSk_G (by omega) ?_) | (with_reducible refine gSk_P ?_))), ⟨rfl, rfl, rfl⟩, fun _ => rfl, rfl⟩⟩
  · exact absurd ((lg_cmp_ge _ _).mpr (lN_1le hb hb2)) c_4
