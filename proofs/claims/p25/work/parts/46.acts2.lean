theorem sV_X9_102 : gSV RX9 102 yX9_keep cX9_keep 2 none 0 := ⟨mW698, mW700, mP16, mW11, mW701, ⟨by decide +kernel, by decide +kernel⟩, by decide +kernel⟩
theorem sV_X9_120 : gSV RX9 120 yX9_canDraw cX9_canDraw 5 (some .boolean) 2 := ⟨mW747, mW749, mP21, mW11, mW750, ⟨by decide +kernel, by decide +kernel⟩, by decide +kernel⟩
theorem sV_X9_123 : gSV RX9 123 yX9_draws cX9_draws 4 none 2 := ⟨mW751, mW753, mP22, mW11, mW754, ⟨by decide +kernel, by decide +kernel⟩, by decide +kernel⟩
set_option maxRecDepth 100000 in
set_option maxHeartbeats 4000000 in
theorem c_X9_keep (l : Launch) (δ : GD) (σ : GS) {v : GV} (K : KM σ v) : gM l δ yX9_keep cX9_keep 2 none 0 0 [.ref (δ.2.2.1 1)] σ (gPv (fun σ' => KM σ' (vKeep v) ∧ FM σ σ' ∧ FD σ σ')) := by
  refine g_of (lv0 := [some (.ref (δ.2.2.1 1)), none]) (by decide) rfl (Nat.le_of_ble_eq_true rfl) (fun Γ hl C E => ?_)
  subst hl
  have C : gC Γ δ cX9_keep RX9 2 0 0 := C
  have hl := K.2.2.2.2.1.2
  have h20 := K.2.2.2.2.1.1
  have J_46 : ∀ (mm o : Nat) (f : Nat → Int32) (ho : (vL v < 20 ∧ mm = vL v ∧ o = 0) ∨ (vL v = 20 ∧ mm = 19 ∧ o = 1)) (hf : ∀ k, k < mm → ∀ j, j < 202 → f (202 * k + j) = gI σ 54 (202 * (k + o) + j)), gW Γ δ (uN (uI σ 54 f) 34 (nI mm)) 46 [some (.ref (δ.2.2.1 1)), none] [] := by
    intro mm o f ho hf
    refine g_iconst (v := 0) C dX9_keep_46 (by decide) ?_
    refine g_istore_n C dX9_keep_47 (Nat.le_of_ble_eq_true rfl) rfl ?_
    refine g_lv [some _, some _] (gs_some (gs_some gs_nil)) ?_
    have L_48 : ∀ (nn : Nat) (q : Nat) (g : Nat → Int32) (hq : q ≤ 202) (hg : ∀ j, j < q → g (202 * mm + j) = gI σ 53 j) (hg2 : ∀ k, k < mm → ∀ j, j < 202 → g (202 * k + j) = f (202 * k + j)), 202 - q < nn → gW Γ δ (uN (uI σ 54 g) 34 (nI mm)) 48 [some (.ref (δ.2.2.1 1)), some (.int (nI q))] [] := by
      intro nn
      induction nn with
      | zero =>
        intro q g hq hg hg2 hm_48
        exact absurd hm_48 (Nat.not_lt_zero _)
      | succ nn ih_48 =>
        intro q g hq hg hg2 hm_48
        refine g_iload_n C dX9_keep_48 rfl ?_
        refine g_sipush (v := 202) C dX9_keep_49 (by decide) ?_
        refine g_icmp_ge C 82 dX9_keep_52 (by decide) (fun c_52 => ?_) (fun c_52 => ?_)
        · have k_52 := gle c_52 (a := 202) (b := q) (by first | rfl | assumption | (simp only [glit, nI_add, pk_mul]; done) | (simp only [glit, nI_add, pk_mul]; congr 1; omega) | (simp only [*, glit, nI_add, pk_mul]; congr 1; omega)) (by first | rfl | assumption | (simp only [glit, nI_add, pk_mul]; done) | (simp only [glit, nI_add, pk_mul]; congr 1; omega) | (simp only [*, glit, nI_add, pk_mul]; congr 1; omega)) (by omega) (by omega)
          have ek : q = 202 := by omega
          subst ek
          refine g_aload_n C dX9_keep_82 rfl ?_
          refine g_dup C dX9_keep_83 rfl ?_
          refine g_get C dX9_keep_84 iwX9 rfl (wO_M δ _) 8 (Nat.le_of_ble_eq_true rfl) mW580 rfl rfl ?_
          rw [gN_uN, if_pos rfl]
          refine g_iconst (v := 1) C dX9_keep_87 (by decide) ?_
          refine g_iadd C dX9_keep_88 ?_
          rw [show nI mm + 1 = nI (mm + 1) from nI_1 mm]
          refine g_put C tyX9 dX9_keep_89 iwX9 tyX9_ok nmX9 rfl (wO_M δ _) 8 (Nat.le_of_ble_eq_true rfl) mW580 rfl rfl rfl rfl rfl (Nat.le_of_ble_eq_true rfl) (pN_34 δ _ _) ?_
          exact g_vret C E dX9_keep_92 rfl ⟨rfl, ⟨by rw [uN_uN]; exact KM_keep K ho hf hg hg2, FM_N (by omega) (FM_N (by omega) (FM_I (by omega) (FM_r _))), rfl, rfl, rfl, rfl⟩⟩
        · have k_52 := gnle c_52 (a := 202) (b := q) (by first | rfl | assumption | (simp only [glit, nI_add, pk_mul]; done) | (simp only [glit, nI_add, pk_mul]; congr 1; omega) | (simp only [*, glit, nI_add, pk_mul]; congr 1; omega)) (by first | rfl | assumption | (simp only [glit, nI_add, pk_mul]; done) | (simp only [glit, nI_add, pk_mul]; congr 1; omega) | (simp only [*, glit, nI_add, pk_mul]; congr 1; omega)) (by omega) (by omega)
          refine g_aload_n C dX9_keep_55 rfl ?_
          refine g_get C dX9_keep_56 iwX9 rfl (wO_M δ _) 7 (Nat.le_of_ble_eq_true rfl) mW579 rfl rfl ?_
          refine g_sipush (v := 202) C dX9_keep_59 (by decide) ?_
          refine g_aload_n C dX9_keep_62 rfl ?_
          refine g_get C dX9_keep_63 iwX9 rfl (wO_M δ _) 8 (Nat.le_of_ble_eq_true rfl) mW580 rfl rfl ?_
          rw [gN_uN, if_pos rfl]
          refine g_imul C dX9_keep_66 ?_
          refine g_iload_n C dX9_keep_67 rfl ?_
          refine g_iadd C dX9_keep_68 ?_
          refine g_aload_n C dX9_keep_69 rfl ?_
          refine g_get C dX9_keep_70 iwX9 rfl (wO_M δ _) 6 (Nat.le_of_ble_eq_true rfl) mW578 rfl rfl ?_
          refine g_iload_n C dX9_keep_73 rfl ?_
          refine g_ialdN C dX9_keep_74 (k := q) (q := 53) (by decide) rfl (by first | rfl | assumption | (simp only [glit, nI_add, pk_mul]; done) | (simp only [glit, nI_add, pk_mul]; congr 1; omega) | (simp only [*, glit, nI_add, pk_mul]; congr 1; omega)) (show q < gLenI 53 from Nat.lt_of_lt_of_eq (show q < 202 by omega) rfl) ?_
          refine g_iastN C dX9_keep_75 (k := (202 * mm + q)) (q := 54) (by decide) rfl (by first | rfl | assumption | (simp only [glit, nI_add, pk_mul]; done) | (simp only [glit, nI_add, pk_mul]; congr 1; omega) | (simp only [*, glit, nI_add, pk_mul]; congr 1; omega)) (show (202 * mm + q) < gLenI 54 from Nat.lt_of_lt_of_eq (show (202 * mm + q) < 4040 by omega) rfl) ?_
          refine g_iinc (v := nI (q + 1)) C dX9_keep_76 rfl (ginc _ 1) rfl ?_
          refine g_lv [some _, some _] (gs_some (gs_some gs_nil)) ?_
          refine g_goto C 48 dX9_keep_79 (by decide) ?_
          refine g_lv [some _, some _] (gs_some (gs_some gs_nil)) ?_
          rw [uI_uN, uI_uI, gI_uN, gI_uI, if_pos rfl]
          exact ih_48 (q + 1) _ (by omega) (fun j h => gfilA hg rfl h) (fun k hk j hj => (pk_un (by omega)).trans (hg2 k hk j hj)) (by omega)
    refine g_lv [some _, some _] (gs_some (gs_some gs_nil)) ?_
    exact L_48 _ 0 _ (by omega) (fun _ h => absurd h (Nat.not_lt_zero _)) (fun _ _ _ _ => rfl) (Nat.lt_succ_self _)
  refine g_aload_n C dX9_keep_0 rfl ?_
  refine g_get C dX9_keep_1 iwX9 rfl (wO_M δ _) 8 (Nat.le_of_ble_eq_true rfl) mW580 rfl rfl ?_
  rw [hl]
  refine g_bipush (v := 20) C dX9_keep_4 (by decide) ?_
  refine g_icmp_ne C 46 dX9_keep_6 (by decide) (fun c_6 => ?_) (fun c_6 => ?_)
  · have k_6 := gne c_6 (a := (vL v)) (b := 20) (by first | rfl | assumption | (simp only [glit, nI_add, pk_mul]; done) | (simp only [glit, nI_add, pk_mul]; congr 1; omega) | (simp only [*, glit, nI_add, pk_mul]; congr 1; omega)) (by first | rfl | assumption | (simp only [glit, nI_add, pk_mul]; done) | (simp only [glit, nI_add, pk_mul]; congr 1; omega) | (simp only [*, glit, nI_add, pk_mul]; congr 1; omega)) (by omega) (by omega)
    refine g_st (show σ = uN (uI σ 54 (gI σ 54)) 34 (nI (vL v)) from by rw [uI_id, ← hl, uN_id]) ?_
    refine g_lv [some _, none] (gs_some (gs_none gs_nil)) ?_
    exact J_46 (vL v) 0 _ (Or.inl ⟨by omega, rfl, rfl⟩) (fun k hk j hj => rfl)
  · have k_6 := geq c_6 (a := (vL v)) (b := 20) (by first | rfl | assumption | (simp only [glit, nI_add, pk_mul]; done) | (simp only [glit, nI_add, pk_mul]; congr 1; omega) | (simp only [*, glit, nI_add, pk_mul]; congr 1; omega)) (by first | rfl | assumption | (simp only [glit, nI_add, pk_mul]; done) | (simp only [glit, nI_add, pk_mul]; congr 1; omega) | (simp only [*, glit, nI_add, pk_mul]; congr 1; omega)) (by omega) (by omega)
    refine g_iconst (v := 0) C dX9_keep_9 (by decide) ?_
    refine g_istore_n C dX9_keep_10 (Nat.le_of_ble_eq_true rfl) rfl ?_
    refine g_lv [some _, some _] (gs_some (gs_some gs_nil)) ?_
    have L_11 : ∀ (nn : Nat) (q : Nat) (f : Nat → Int32) (hq : q ≤ 3838) (hf : ∀ j, j < q → f j = gI σ 54 (j + 202)) (hg : ∀ j, q ≤ j → f j = gI σ 54 j), 3838 - q < nn → gW Γ δ (uI σ 54 f) 11 [some (.ref (δ.2.2.1 1)), some (.int (nI q))] [] := by
      intro nn
      induction nn with
      | zero =>
        intro q f hq hf hg hm_11
        exact absurd hm_11 (Nat.not_lt_zero _)
      | succ nn ih_11 =>
        intro q f hq hf hg hm_11
        refine g_iload_n C dX9_keep_11 rfl ?_
        refine g_sipush (v := 3838) C dX9_keep_12 (by decide) ?_
        refine g_icmp_ge C 40 dX9_keep_15 (by decide) (fun c_15 => ?_) (fun c_15 => ?_)
        · have k_15 := gle c_15 (a := 3838) (b := q) (by first | rfl | assumption | (simp only [glit, nI_add, pk_mul]; done) | (simp only [glit, nI_add, pk_mul]; congr 1; omega) | (simp only [*, glit, nI_add, pk_mul]; congr 1; omega)) (by first | rfl | assumption | (simp only [glit, nI_add, pk_mul]; done) | (simp only [glit, nI_add, pk_mul]; congr 1; omega) | (simp only [*, glit, nI_add, pk_mul]; congr 1; omega)) (by omega) (by omega)
          have ek : q = 3838 := by omega
          subst ek
          refine g_aload_n C dX9_keep_40 rfl ?_
          refine g_bipush (v := 19) C dX9_keep_41 (by decide) ?_
          refine g_put C tyX9 dX9_keep_43 iwX9 tyX9_ok nmX9 rfl (wO_M δ _) 8 (Nat.le_of_ble_eq_true rfl) mW580 rfl rfl rfl rfl rfl (Nat.le_of_ble_eq_true rfl) (pN_34 δ _ _) ?_
          refine g_lv [some _, none] (gs_some (gs_none gs_nil)) ?_
          exact J_46 19 1 f (Or.inr ⟨by omega, rfl, rfl⟩) (fun k hk j hj => (hf _ (by omega)).trans (congrArg _ (by omega)))
        · have k_15 := gnle c_15 (a := 3838) (b := q) (by first | rfl | assumption | (simp only [glit, nI_add, pk_mul]; done) | (simp only [glit, nI_add, pk_mul]; congr 1; omega) | (simp only [*, glit, nI_add, pk_mul]; congr 1; omega)) (by first | rfl | assumption | (simp only [glit, nI_add, pk_mul]; done) | (simp only [glit, nI_add, pk_mul]; congr 1; omega) | (simp only [*, glit, nI_add, pk_mul]; congr 1; omega)) (by omega) (by omega)
          refine g_aload_n C dX9_keep_18 rfl ?_
          refine g_get C dX9_keep_19 iwX9 rfl (wO_M δ _) 7 (Nat.le_of_ble_eq_true rfl) mW579 rfl rfl ?_
          refine g_iload_n C dX9_keep_22 rfl ?_
          refine g_aload_n C dX9_keep_23 rfl ?_
          refine g_get C dX9_keep_24 iwX9 rfl (wO_M δ _) 7 (Nat.le_of_ble_eq_true rfl) mW579 rfl rfl ?_
          refine g_iload_n C dX9_keep_27 rfl ?_
          refine g_sipush (v := 202) C dX9_keep_28 (by decide) ?_
          refine g_iadd C dX9_keep_31 ?_
          refine g_ialdN C dX9_keep_32 (k := (q + 202)) (q := 54) (by decide) rfl (by first | rfl | assumption | (simp only [glit, nI_add, pk_mul]; done) | (simp only [glit, nI_add, pk_mul]; congr 1; omega) | (simp only [*, glit, nI_add, pk_mul]; congr 1; omega)) (show (q + 202) < gLenI 54 from Nat.lt_of_lt_of_eq (show (q + 202) < 4040 by omega) rfl) ?_
          refine g_iastN C dX9_keep_33 (k := q) (q := 54) (by decide) rfl (by first | rfl | assumption | (simp only [glit, nI_add, pk_mul]; done) | (simp only [glit, nI_add, pk_mul]; congr 1; omega) | (simp only [*, glit, nI_add, pk_mul]; congr 1; omega)) (show q < gLenI 54 from Nat.lt_of_lt_of_eq (show q < 4040 by omega) rfl) ?_
          refine g_iinc (v := nI (q + 1)) C dX9_keep_34 rfl (ginc _ 1) rfl ?_
          refine g_lv [some _, some _] (gs_some (gs_some gs_nil)) ?_
          refine g_goto C 11 dX9_keep_37 (by decide) ?_
          refine g_lv [some _, some _] (gs_some (gs_some gs_nil)) ?_
          rw [uI_uI, gI_uI, if_pos rfl]
          exact ih_11 (q + 1) _ (by omega) (fun j h => gfilI hf (hg (q + 202) (by omega)) h) (fun j h => (pk_un (by omega)).trans (hg j (by omega))) (by omega)
    refine g_lv [some _, some _] (gs_some (gs_some gs_nil)) ?_
    refine g_st (uI_id _ 54).symm ?_
    exact L_11 _ 0 _ (by omega) (fun _ h => absurd h (Nat.not_lt_zero _)) (fun _ _ => rfl) (Nat.lt_succ_self _)
set_option maxRecDepth 100000 in
set_option maxHeartbeats 4000000 in
theorem c_X9_draws (l : Launch) (δ : GD) (σ : GS) {u c : Nat} (hu : u < 8) (hc : c < 4) {v : GV} (K : KM σ v) : gM l δ yX9_draws cX9_draws 4 none 0 0 [.ref (δ.2.2.1 1), .int (nI u), .int (nI c)] σ (gPv (fun σ' => KM σ' (vSet v (dS (vS v) u c)) ∧ FM σ σ' ∧ FD σ σ')) := by
  refine g_of (lv0 := [some (.ref (δ.2.2.1 1)), some (.int (nI u)), some (.int (nI c)), none]) (by decide) rfl (Nat.le_of_ble_eq_true rfl) (fun Γ hl C E => ?_)
  subst hl
  have C : gC Γ δ cX9_draws RX9 4 0 0 := C
  refine g_iconst (v := 0) C dX9_draws_0 (by decide) ?_
  refine g_istore_n C dX9_draws_1 (Nat.le_of_ble_eq_true rfl) rfl ?_
  refine g_lv [some _, some _, some _, some _] (gs_some (gs_some (gs_some (gs_some gs_nil)))) ?_
  have L_2 : ∀ (nn : Nat) (d : Nat) (f : Nat → Int32) (hd : d ≤ 4) (hf : ∀ j, f j = if 25 * u ≤ j ∧ j < 25 * u + d then gI σ 53 j + gI σ 53 (25 * u + 4 + (c * 4 + (j - 25 * u))) else gI σ 53 j), 4 - d < nn → gW Γ δ (uI σ 53 f) 2 [some (.ref (δ.2.2.1 1)), some (.int (nI u)), some (.int (nI c)), some (.int (nI d))] [] := by
    intro nn
    induction nn with
    | zero =>
      intro d f hd hf hm_2
      exact absurd hm_2 (Nat.not_lt_zero _)
    | succ nn ih_2 =>
      intro d f hd hf hm_2
      refine g_iload_n C dX9_draws_2 rfl ?_
      refine g_iconst (v := 4) C dX9_draws_3 (by decide) ?_
      refine g_icmp_ge C 44 dX9_draws_4 (by decide) (fun c_4 => ?_) (fun c_4 => ?_)
      · have k_4 := gle c_4 (a := 4) (b := d) (by first | rfl | assumption | (simp only [glit, nI_add, pk_mul]; done) | (simp only [glit, nI_add, pk_mul]; congr 1; omega) | (simp only [*, glit, nI_add, pk_mul]; congr 1; omega)) (by first | rfl | assumption | (simp only [glit, nI_add, pk_mul]; done) | (simp only [glit, nI_add, pk_mul]; congr 1; omega) | (simp only [*, glit, nI_add, pk_mul]; congr 1; omega)) (by omega) (by omega)
        have ek : d = 4 := by omega
        subst ek
        refine g_aload_n C dX9_draws_44 rfl ?_
        refine g_get C dX9_draws_45 iwX9 rfl (wO_M δ _) 6 (Nat.le_of_ble_eq_true rfl) mW578 rfl rfl ?_
        refine g_bipush (v := 25) C dX9_draws_48 (by decide) ?_
        refine g_iload_n C dX9_draws_50 rfl ?_
        refine g_imul C dX9_draws_51 ?_
        refine g_bipush (v := 24) C dX9_draws_52 (by decide) ?_
        refine g_iadd C dX9_draws_54 ?_
        refine g_dup2 C dX9_draws_55 rfl rfl ?_
        refine g_ialdN C dX9_draws_56 (k := ((25 * u) + 24)) (q := 53) (by decide) rfl (by first | rfl | assumption | (simp only [glit, nI_add, pk_mul]; done) | (simp only [glit, nI_add, pk_mul]; congr 1; omega) | (simp only [*, glit, nI_add, pk_mul]; congr 1; omega)) (show ((25 * u) + 24) < gLenI 53 from Nat.lt_of_lt_of_eq (show ((25 * u) + 24) < 202 by omega) rfl) ?_
        refine g_iconst (v := 1) C dX9_draws_57 (by decide) ?_
        refine g_iadd C dX9_draws_58 ?_
        refine g_iastN C dX9_draws_59 (k := ((25 * u) + 24)) (q := 53) (by decide) rfl (by first | rfl | assumption | (simp only [glit, nI_add, pk_mul]; done) | (simp only [glit, nI_add, pk_mul]; congr 1; omega) | (simp only [*, glit, nI_add, pk_mul]; congr 1; omega)) (show ((25 * u) + 24) < gLenI 53 from Nat.lt_of_lt_of_eq (show ((25 * u) + 24) < 202 by omega) rfl) ?_
        rw [uI_uI, gI_uI, if_pos rfl]
        refine g_aload_n C dX9_draws_60 rfl ?_
        refine g_get C dX9_draws_61 iwX9 rfl (wO_M δ _) 6 (Nat.le_of_ble_eq_true rfl) mW578 rfl rfl ?_
        refine g_sipush (v := 201) C dX9_draws_64 (by decide) ?_
        refine g_dup2 C dX9_draws_67 rfl rfl ?_
        refine g_ialdN C dX9_draws_68 (k := 201) (q := 53) (by decide) rfl (by first | rfl | assumption | (simp only [glit, nI_add, pk_mul]; done) | (simp only [glit, nI_add, pk_mul]; congr 1; omega) | (simp only [*, glit, nI_add, pk_mul]; congr 1; omega)) (show 201 < gLenI 53 from Nat.lt_of_lt_of_eq (show 201 < 202 by omega) rfl) ?_
        refine g_iconst (v := 1) C dX9_draws_69 (by decide) ?_
        refine g_iadd C dX9_draws_70 ?_
        refine g_iastN C dX9_draws_71 (k := 201) (q := 53) (by decide) rfl (by first | rfl | assumption | (simp only [glit, nI_add, pk_mul]; done) | (simp only [glit, nI_add, pk_mul]; congr 1; omega) | (simp only [*, glit, nI_add, pk_mul]; congr 1; omega)) (show 201 < gLenI 53 from Nat.lt_of_lt_of_eq (show 201 < 202 by omega) rfl) ?_
        rw [uI_uI, gI_uI, if_pos rfl]
        exact g_vret C E dX9_draws_72 rfl ⟨rfl, ⟨KM_draws K hu hc hf, FM_I (by omega) (FM_r _), rfl, rfl, rfl, rfl⟩⟩
      · have k_4 := gnle c_4 (a := 4) (b := d) (by first | rfl | assumption | (simp only [glit, nI_add, pk_mul]; done) | (simp only [glit, nI_add, pk_mul]; congr 1; omega) | (simp only [*, glit, nI_add, pk_mul]; congr 1; omega)) (by first | rfl | assumption | (simp only [glit, nI_add, pk_mul]; done) | (simp only [glit, nI_add, pk_mul]; congr 1; omega) | (simp only [*, glit, nI_add, pk_mul]; congr 1; omega)) (by omega) (by omega)
        refine g_aload_n C dX9_draws_7 rfl ?_
        refine g_get C dX9_draws_8 iwX9 rfl (wO_M δ _) 6 (Nat.le_of_ble_eq_true rfl) mW578 rfl rfl ?_
        refine g_bipush (v := 25) C dX9_draws_11 (by decide) ?_
        refine g_iload_n C dX9_draws_13 rfl ?_
        refine g_imul C dX9_draws_14 ?_
        refine g_iload_n C dX9_draws_15 rfl ?_
        refine g_iadd C dX9_draws_16 ?_
        refine g_dup2 C dX9_draws_17 rfl rfl ?_
        refine g_ialdN C dX9_draws_18 (k := ((25 * u) + d)) (q := 53) (by decide) rfl (by first | rfl | assumption | (simp only [glit, nI_add, pk_mul]; done) | (simp only [glit, nI_add, pk_mul]; congr 1; omega) | (simp only [*, glit, nI_add, pk_mul]; congr 1; omega)) (show ((25 * u) + d) < gLenI 53 from Nat.lt_of_lt_of_eq (show ((25 * u) + d) < 202 by omega) rfl) ?_
        refine g_aload_n C dX9_draws_19 rfl ?_
        refine g_get C dX9_draws_20 iwX9 rfl (wO_M δ _) 6 (Nat.le_of_ble_eq_true rfl) mW578 rfl rfl ?_
        refine g_bipush (v := 25) C dX9_draws_23 (by decide) ?_
        refine g_iload_n C dX9_draws_25 rfl ?_
        refine g_imul C dX9_draws_26 ?_
        refine g_iconst (v := 4) C dX9_draws_27 (by decide) ?_
        refine g_iadd C dX9_draws_28 ?_
        refine g_iconst (v := 4) C dX9_draws_29 (by decide) ?_
        refine g_iload_n C dX9_draws_30 rfl ?_
        refine g_imul C dX9_draws_31 ?_
        refine g_iadd C dX9_draws_32 ?_
        refine g_iload_n C dX9_draws_33 rfl ?_
        refine g_iadd C dX9_draws_34 ?_
        refine g_ialdN C dX9_draws_35 (k := (25 * u + 4 + (c * 4 + d))) (q := 53) (by decide) rfl (by first | rfl | assumption | (simp only [glit, nI_add, pk_mul]; done) | (simp only [glit, nI_add, pk_mul]; congr 1; omega) | (simp only [*, glit, nI_add, pk_mul]; congr 1; omega)) (show (25 * u + 4 + (c * 4 + d)) < gLenI 53 from Nat.lt_of_lt_of_eq (show (25 * u + 4 + (c * 4 + d)) < 202 by omega) rfl) ?_
        refine g_iadd C dX9_draws_36 ?_
        refine g_iastN C dX9_draws_37 (k := ((25 * u) + d)) (q := 53) (by decide) rfl (by first | rfl | assumption | (simp only [glit, nI_add, pk_mul]; done) | (simp only [glit, nI_add, pk_mul]; congr 1; omega) | (simp only [*, glit, nI_add, pk_mul]; congr 1; omega)) (show ((25 * u) + d) < gLenI 53 from Nat.lt_of_lt_of_eq (show ((25 * u) + d) < 202 by omega) rfl) ?_
        refine g_iinc (v := nI (d + 1)) C dX9_draws_38 rfl (ginc _ 1) rfl ?_
        refine g_lv [some _, some _, some _, some _] (gs_some (gs_some (gs_some (gs_some gs_nil)))) ?_
        refine g_goto C 2 dX9_draws_41 (by decide) ?_
        refine g_lv [some _, some _, some _, some _] (gs_some (gs_some (gs_some (gs_some gs_nil)))) ?_
        rw [uI_uI, gI_uI, if_pos rfl]
        exact ih_2 (d + 1) _ (by omega) (dS_step hc (by omega) hf) (by omega)
  refine g_lv [some _, some _, some _, some _] (gs_some (gs_some (gs_some (gs_some gs_nil)))) ?_
  refine g_st (uI_id _ 53).symm ?_
  exact L_2 _ 0 _ (by omega) (fun j => (if_neg (by omega)).symm) (Nat.lt_succ_self _)
set_option maxRecDepth 100000 in
set_option maxHeartbeats 4000000 in
theorem c_X9_put (l : Launch) (δ : GD) (σ : GS) (a0 a1 a2 : Int32) {v : GV} (K : KM σ v) (R : RV v) : gM l δ yX9_put cX9_put 5 (some .int) 2 47 [.ref (δ.2.2.1 1), .int a0, .int a1, .int a2] σ (gPi (fun x σ' => x = (fPut v a0 a1 a2).1 ∧ KM σ' (fPut v a0 a1 a2).2 ∧ FM σ σ')) := by
  refine g_of (lv0 := [some (.ref (δ.2.2.1 1)), some (.int a0), some (.int a1), some (.int a2), none]) (by decide) rfl (Nat.le_of_ble_eq_true rfl) (fun Γ hl C E => ?_)
  subst hl
  have C : gC Γ δ cX9_put RX9 5 2 47 := C
  have hm := K.1
  have h8 := R.1
  refine g_aload_n C dX9_put_0 rfl ?_
  refine g_iload_n C dX9_put_1 rfl ?_
  refine g_callVi C sV_X9_89 dX9_put_2 (c_X9_isUrn _ δ _ _ hm h8) ⟨by decide, by decide⟩ (wO_M δ _) rfl rfl rfl rfl (Nat.le_of_ble_eq_true rfl) (fun r_2 s_2 h_2 => ?_)
  obtain ⟨rfl, h_2⟩ := h_2
  rcases h_2 with ⟨rfl, h_2⟩ | ⟨rfl, h_2⟩
  · obtain ⟨u1, hu1, rfl⟩ := id h_2
    have hu8 : u1 < 8 := by omega
    obtain ⟨h2, h4⟩ := (R.2.1 u1 hu8).1 hu1
    have hn := K.2.1 u1 hu8
    refine g_if_eq C 29 dX9_put_5 (by decide) (fun c_5 => ?_) (fun c_5 => ?_)
    · exact absurd c_5 (by decide)
    · refine g_aload_n C dX9_put_8 rfl ?_
      refine g_iload_n C dX9_put_9 rfl ?_
      refine g_iload_n C dX9_put_10 rfl ?_
      refine g_callVi C sV_X9_92 dX9_put_11 (c_X9_isColour _ δ _ hu8 _ hn h4) ⟨by decide, by decide⟩ (wO_M δ _) rfl rfl rfl rfl (Nat.le_of_ble_eq_true rfl) (fun r_11 s_11 h_11 => ?_)
      obtain ⟨rfl, h_11⟩ := h_11
      rcases h_11 with ⟨rfl, h_11⟩ | ⟨rfl, h_11⟩
      · obtain ⟨c1, hc1, rfl⟩ := id h_11
        refine g_if_eq C 29 dX9_put_14 (by decide) (fun c_14 => ?_) (fun c_14 => ?_)
        · exact absurd c_14 (by decide)
        · refine g_iload_n C dX9_put_17 rfl ?_
          refine g_i2l C dX9_put_18 ?_
          refine g_lconst (v := 0) C dX9_put_19 (by decide) ?_
          refine g_ldc2 C dX9_put_20 mW696 ?_
          refine g_callSi C sS_X9_62 dX9_put_23 (c_X9_in _ δ _ _ _ _) ⟨by decide, by decide⟩ rfl rfl rfl (Nat.le_of_ble_eq_true rfl) (fun r_23 s_23 h_23 => ?_)
          obtain ⟨rfl, h_23⟩ := h_23
          rw [gin200] at h_23
          rcases h_23 with ⟨rfl, h_23⟩ | ⟨rfl, h_23⟩
          · skip
            refine g_if_ne C 31 dX9_put_26 (by decide) (fun c_26 => ?_) (fun c_26 => ?_)
            · refine g_aload_n C dX9_put_31 rfl ?_
              refine g_callVv C sV_X9_102 dX9_put_32 (c_X9_keep _ δ _ K) ⟨by decide, by decide⟩ (wO_M δ _) rfl rfl rfl rfl (Nat.le_of_ble_eq_true rfl) (fun s_32 h_32 => ?_)
              obtain ⟨K2, F2, D2⟩ := h_32
              refine g_aload_n C dX9_put_35 rfl ?_
              refine g_get C dX9_put_36 iwX9 rfl (wO_M δ _) 6 (Nat.le_of_ble_eq_true rfl) mW578 rfl rfl ?_
              refine g_bipush (v := 25) C dX9_put_39 (by decide) ?_
              refine g_iload_n C dX9_put_41 rfl ?_
              refine g_imul C dX9_put_42 ?_
              refine g_iload_n C dX9_put_43 rfl ?_
              refine g_iadd C dX9_put_44 ?_
              refine g_ialdN C dX9_put_45 (k := (25 * u1 + c1)) (q := 53) (by decide) rfl (by first | rfl | assumption | (simp only [glit, nI_add, pk_mul]; done) | (simp only [glit, nI_add, pk_mul]; congr 1; omega) | (simp only [*, glit, nI_add, pk_mul]; congr 1; omega)) (show (25 * u1 + c1) < gLenI 53 from Nat.lt_of_lt_of_eq (show (25 * u1 + c1) < 202 by omega) rfl) ?_
              rw [K2.2.2.1 _ (by omega)]
              refine g_istore C dX9_put_46 (Nat.le_of_ble_eq_true rfl) rfl ?_
              refine g_lv [some _, some _, some _, some _, some _] (gs_some (gs_some (gs_some (gs_some (gs_some gs_nil))))) ?_
              refine g_aload_n C dX9_put_48 rfl ?_
              refine g_get C dX9_put_49 iwX9 rfl (wO_M δ _) 6 (Nat.le_of_ble_eq_true rfl) mW578 rfl rfl ?_
              refine g_bipush (v := 25) C dX9_put_52 (by decide) ?_
              refine g_iload_n C dX9_put_54 rfl ?_
              refine g_imul C dX9_put_55 ?_
              refine g_iload_n C dX9_put_56 rfl ?_
              refine g_iadd C dX9_put_57 ?_
              refine g_iload_n C dX9_put_58 rfl ?_
              refine g_iastN C dX9_put_59 (k := (25 * u1 + c1)) (q := 53) (by decide) rfl (by first | rfl | assumption | (simp only [glit, nI_add, pk_mul]; done) | (simp only [glit, nI_add, pk_mul]; congr 1; omega) | (simp only [*, glit, nI_add, pk_mul]; congr 1; omega)) (show (25 * u1 + c1) < gLenI 53 from Nat.lt_of_lt_of_eq (show (25 * u1 + c1) < 202 by omega) rfl) ?_
              refine g_iload C dX9_put_60 rfl ?_
              exact g_iret C E dX9_put_62 rfl rfl ⟨_, rfl, vPostM (fPut_ok hu1 hu8 hc1 (by omega) h_23) rfl (KM_s1 K2 (by omega) (by omega)) (FM_I (by omega) F2)⟩
            · exact absurd c_26 (by decide)
          · skip
            refine g_if_ne C 31 dX9_put_26 (by decide) (fun c_26 => ?_) (fun c_26 => ?_)
            · exact absurd c_26 (by decide)
            · refine g_iconst (v := (-1)) C dX9_put_29 (by decide) ?_
              exact g_iret C E dX9_put_30 rfl rfl ⟨_, rfl, vPostM (by first | exact gIf_f (fun z => h_2 z.1.1) | exact gIf_f (fun z => h_11 ((okC_n hu8).mp z.1.2)) | exact gIf_f (fun z => h_23 z.2)) rfl K (FM_r _)⟩
      · skip
        refine g_if_eq C 29 dX9_put_14 (by decide) (fun c_14 => ?_) (fun c_14 => ?_)
        · refine g_iconst (v := (-1)) C dX9_put_29 (by decide) ?_
          exact g_iret C E dX9_put_30 rfl rfl ⟨_, rfl, vPostM (by first | exact gIf_f (fun z => h_2 z.1.1) | exact gIf_f (fun z => h_11 ((okC_n hu8).mp z.1.2)) | exact gIf_f (fun z => h_23 z.2)) rfl K (FM_r _)⟩
        · exact absurd c_14 (by decide)
  · skip
    refine g_if_eq C 29 dX9_put_5 (by decide) (fun c_5 => ?_) (fun c_5 => ?_)
    · refine g_iconst (v := (-1)) C dX9_put_29 (by decide) ?_
      exact g_iret C E dX9_put_30 rfl rfl ⟨_, rfl, vPostM (by first | exact gIf_f (fun z => h_2 z.1.1) | exact gIf_f (fun z => h_11 ((okC_n hu8).mp z.1.2)) | exact gIf_f (fun z => h_23 z.2)) rfl K (FM_r _)⟩
    · exact absurd c_5 (by decide)
set_option maxRecDepth 100000 in
set_option maxHeartbeats 4000000 in
theorem c_X9_add (l : Launch) (δ : GD) (σ : GS) (a0 a1 a2 a3 : Int32) {v : GV} (K : KM σ v) (R : RV v) : gM l δ yX9_add cX9_add 7 (some .int) 2 47 [.ref (δ.2.2.1 1), .int a0, .int a1, .int a2, .int a3] σ (gPi (fun x σ' => x = (fAdd v a0 a1 a2 a3).1 ∧ KM σ' (fAdd v a0 a1 a2 a3).2 ∧ FM σ σ')) := by
  refine g_of (lv0 := [some (.ref (δ.2.2.1 1)), some (.int a0), some (.int a1), some (.int a2), some (.int a3), none, none]) (by decide) rfl (Nat.le_of_ble_eq_true rfl) (fun Γ hl C E => ?_)
  subst hl
  have C : gC Γ δ cX9_add RX9 7 2 47 := C
  have hm := K.1
  have h8 := R.1
  refine g_aload_n C dX9_add_0 rfl ?_
  refine g_iload_n C dX9_add_1 rfl ?_
  refine g_callVi C sV_X9_89 dX9_add_2 (c_X9_isUrn _ δ _ _ hm h8) ⟨by decide, by decide⟩ (wO_M δ _) rfl rfl rfl rfl (Nat.le_of_ble_eq_true rfl) (fun r_2 s_2 h_2 => ?_)
  obtain ⟨rfl, h_2⟩ := h_2
  rcases h_2 with ⟨rfl, h_2⟩ | ⟨rfl, h_2⟩
  · obtain ⟨u1, hu1, rfl⟩ := id h_2
    have hu8 : u1 < 8 := by omega
    obtain ⟨h2, h4⟩ := (R.2.1 u1 hu8).1 hu1
    have hn := K.2.1 u1 hu8
    refine g_if_eq C 41 dX9_add_5 (by decide) (fun c_5 => ?_) (fun c_5 => ?_)
    · exact absurd c_5 (by decide)
    · refine g_aload_n C dX9_add_8 rfl ?_
      refine g_iload_n C dX9_add_9 rfl ?_
      refine g_iload_n C dX9_add_10 rfl ?_
      refine g_callVi C sV_X9_92 dX9_add_11 (c_X9_isColour _ δ _ hu8 _ hn h4) ⟨by decide, by decide⟩ (wO_M δ _) rfl rfl rfl rfl (Nat.le_of_ble_eq_true rfl) (fun r_11 s_11 h_11 => ?_)
      obtain ⟨rfl, h_11⟩ := h_11
      rcases h_11 with ⟨rfl, h_11⟩ | ⟨rfl, h_11⟩
      · obtain ⟨c1, hc1, rfl⟩ := id h_11
        refine g_if_eq C 41 dX9_add_14 (by decide) (fun c_14 => ?_) (fun c_14 => ?_)
        · exact absurd c_14 (by decide)
        · refine g_aload_n C dX9_add_17 rfl ?_
          refine g_iload_n C dX9_add_18 rfl ?_
          refine g_iload_n C dX9_add_19 rfl ?_
          refine g_callVi C sV_X9_92 dX9_add_20 (c_X9_isColour _ δ _ hu8 _ hn h4) ⟨by decide, by decide⟩ (wO_M δ _) rfl rfl rfl rfl (Nat.le_of_ble_eq_true rfl) (fun r_20 s_20 h_20 => ?_)
          obtain ⟨rfl, h_20⟩ := h_20
          rcases h_20 with ⟨rfl, h_20⟩ | ⟨rfl, h_20⟩
          · obtain ⟨d1, hd1, rfl⟩ := id h_20
            refine g_if_eq C 41 dX9_add_23 (by decide) (fun c_23 => ?_) (fun c_23 => ?_)
            · exact absurd c_23 (by decide)
            · refine g_iload C dX9_add_26 rfl ?_
              refine g_i2l C dX9_add_28 ?_
              refine g_ldc2 C dX9_add_29 mW695 ?_
              refine g_ldc2 C dX9_add_32 mW697 ?_
              refine g_callSi C sS_X9_62 dX9_add_35 (c_X9_in _ δ _ _ _ _) ⟨by decide, by decide⟩ rfl rfl rfl (Nat.le_of_ble_eq_true rfl) (fun r_35 s_35 h_35 => ?_)
              obtain ⟨rfl, h_35⟩ := h_35
              rw [gin9] at h_35
              rcases h_35 with ⟨rfl, h_35⟩ | ⟨rfl, h_35⟩
              · skip
                refine g_if_ne C 44 dX9_add_38 (by decide) (fun c_38 => ?_) (fun c_38 => ?_)
                · refine g_aload_n C dX9_add_44 rfl ?_
                  refine g_callVv C sV_X9_102 dX9_add_45 (c_X9_keep _ δ _ K) ⟨by decide, by decide⟩ (wO_M δ _) rfl rfl rfl rfl (Nat.le_of_ble_eq_true rfl) (fun s_45 h_45 => ?_)
                  obtain ⟨K2, F2, D2⟩ := h_45
                  refine g_bipush (v := 25) C dX9_add_48 (by decide) ?_
                  refine g_iload_n C dX9_add_50 rfl ?_
                  refine g_imul C dX9_add_51 ?_
                  refine g_iconst (v := 4) C dX9_add_52 (by decide) ?_
                  refine g_iadd C dX9_add_53 ?_
                  refine g_iconst (v := 4) C dX9_add_54 (by decide) ?_
                  refine g_iload_n C dX9_add_55 rfl ?_
                  refine g_imul C dX9_add_56 ?_
                  refine g_iadd C dX9_add_57 ?_
                  refine g_iload_n C dX9_add_58 rfl ?_
                  refine g_iadd C dX9_add_59 ?_
                  refine g_istore C dX9_add_60 (Nat.le_of_ble_eq_true rfl) rfl ?_
                  refine g_lv [some _, some _, some _, some _, some _, some _, none] (gs_some (gs_some (gs_some (gs_some (gs_some (gs_some (gs_none gs_nil))))))) ?_
                  refine g_aload_n C dX9_add_62 rfl ?_
                  refine g_get C dX9_add_63 iwX9 rfl (wO_M δ _) 6 (Nat.le_of_ble_eq_true rfl) mW578 rfl rfl ?_
                  refine g_iload C dX9_add_66 rfl ?_
                  refine g_ialdN C dX9_add_68 (k := (25 * u1 + 4 + (c1 * 4 + d1))) (q := 53) (by decide) rfl (by first | rfl | assumption | (simp only [glit, nI_add, pk_mul]; done) | (simp only [glit, nI_add, pk_mul]; congr 1; omega) | (simp only [*, glit, nI_add, pk_mul]; congr 1; omega)) (show (25 * u1 + 4 + (c1 * 4 + d1)) < gLenI 53 from Nat.lt_of_lt_of_eq (show (25 * u1 + 4 + (c1 * 4 + d1)) < 202 by omega) rfl) ?_
                  rw [K2.2.2.1 _ (by omega)]
                  refine g_istore C dX9_add_69 (Nat.le_of_ble_eq_true rfl) rfl ?_
                  refine g_lv [some _, some _, some _, some _, some _, some _, some _] (gs_some (gs_some (gs_some (gs_some (gs_some (gs_some (gs_some gs_nil))))))) ?_
                  refine g_aload_n C dX9_add_71 rfl ?_
                  refine g_get C dX9_add_72 iwX9 rfl (wO_M δ _) 6 (Nat.le_of_ble_eq_true rfl) mW578 rfl rfl ?_
                  refine g_iload C dX9_add_75 rfl ?_
                  refine g_iload C dX9_add_77 rfl ?_
                  refine g_iastN C dX9_add_79 (k := (25 * u1 + 4 + (c1 * 4 + d1))) (q := 53) (by decide) rfl (by first | rfl | assumption | (simp only [glit, nI_add, pk_mul]; done) | (simp only [glit, nI_add, pk_mul]; congr 1; omega) | (simp only [*, glit, nI_add, pk_mul]; congr 1; omega)) (show (25 * u1 + 4 + (c1 * 4 + d1)) < gLenI 53 from Nat.lt_of_lt_of_eq (show (25 * u1 + 4 + (c1 * 4 + d1)) < 202 by omega) rfl) ?_
                  refine g_iload C dX9_add_80 rfl ?_
                  exact g_iret C E dX9_add_82 rfl rfl ⟨_, rfl, vPostM (fAdd_ok hu1 hu8 hc1 (by omega) hd1 (by omega) h_35) rfl (KM_s1 K2 (by omega) (g25t (by omega))) (FM_I (by omega) F2)⟩
                · exact absurd c_38 (by decide)
              · skip
                refine g_if_ne C 44 dX9_add_38 (by decide) (fun c_38 => ?_) (fun c_38 => ?_)
                · exact absurd c_38 (by decide)
                · refine g_bipush (v := (-100)) C dX9_add_41 (by decide) ?_
                  exact g_iret C E dX9_add_43 rfl rfl ⟨_, rfl, vPostM (by first | exact gIf_f (fun z => h_2 z.1.1) | exact gIf_f (fun z => h_11 ((okC_n hu8).mp z.1.2.1)) | exact gIf_f (fun z => h_20 ((okC_n hu8).mp z.1.2.2)) | exact gIf_f (fun z => h_35 z.2)) rfl K (FM_r _)⟩
          · skip
            refine g_if_eq C 41 dX9_add_23 (by decide) (fun c_23 => ?_) (fun c_23 => ?_)
            · refine g_bipush (v := (-100)) C dX9_add_41 (by decide) ?_
              exact g_iret C E dX9_add_43 rfl rfl ⟨_, rfl, vPostM (by first | exact gIf_f (fun z => h_2 z.1.1) | exact gIf_f (fun z => h_11 ((okC_n hu8).mp z.1.2.1)) | exact gIf_f (fun z => h_20 ((okC_n hu8).mp z.1.2.2)) | exact gIf_f (fun z => h_35 z.2)) rfl K (FM_r _)⟩
            · exact absurd c_23 (by decide)
      · skip
        refine g_if_eq C 41 dX9_add_14 (by decide) (fun c_14 => ?_) (fun c_14 => ?_)
        · refine g_bipush (v := (-100)) C dX9_add_41 (by decide) ?_
          exact g_iret C E dX9_add_43 rfl rfl ⟨_, rfl, vPostM (by first | exact gIf_f (fun z => h_2 z.1.1) | exact gIf_f (fun z => h_11 ((okC_n hu8).mp z.1.2.1)) | exact gIf_f (fun z => h_20 ((okC_n hu8).mp z.1.2.2)) | exact gIf_f (fun z => h_35 z.2)) rfl K (FM_r _)⟩
        · exact absurd c_14 (by decide)
  · skip
    refine g_if_eq C 41 dX9_add_5 (by decide) (fun c_5 => ?_) (fun c_5 => ?_)
    · refine g_bipush (v := (-100)) C dX9_add_41 (by decide) ?_
      exact g_iret C E dX9_add_43 rfl rfl ⟨_, rfl, vPostM (by first | exact gIf_f (fun z => h_2 z.1.1) | exact gIf_f (fun z => h_11 ((okC_n hu8).mp z.1.2.1)) | exact gIf_f (fun z => h_20 ((okC_n hu8).mp z.1.2.2)) | exact gIf_f (fun z => h_35 z.2)) rfl K (FM_r _)⟩
    · exact absurd c_5 (by decide)
set_option maxRecDepth 100000 in
set_option maxHeartbeats 4000000 in
theorem c_X9_is (l : Launch) (δ : GD) (σ : GS) (a0 a1 a2 : Int32) {v : GV} (K : KM σ v) (R : RV v) : gM l δ yX9_is cX9_is 6 (some .int) 2 47 [.ref (δ.2.2.1 1), .int a0, .int a1, .int a2] σ (gPi (fun x σ' => x = (fIs v a0 a1 a2).1 ∧ KM σ' (fIs v a0 a1 a2).2 ∧ FM σ σ')) := by
  refine g_of (lv0 := [some (.ref (δ.2.2.1 1)), some (.int a0), some (.int a1), some (.int a2), none, none]) (by decide) rfl (Nat.le_of_ble_eq_true rfl) (fun Γ hl C E => ?_)
  subst hl
  have C : gC Γ δ cX9_is RX9 6 2 47 := C
  have hm := K.1
  have h8 := R.1
  refine g_aload_n C dX9_is_0 rfl ?_
  refine g_iload_n C dX9_is_1 rfl ?_
  refine g_callVi C sV_X9_89 dX9_is_2 (c_X9_isUrn _ δ _ _ hm h8) ⟨by decide, by decide⟩ (wO_M δ _) rfl rfl rfl rfl (Nat.le_of_ble_eq_true rfl) (fun r_2 s_2 h_2 => ?_)
  obtain ⟨rfl, h_2⟩ := h_2
  rcases h_2 with ⟨rfl, h_2⟩ | ⟨rfl, h_2⟩
  · obtain ⟨u1, hu1, rfl⟩ := id h_2
    have hu8 : u1 < 8 := by omega
    obtain ⟨h2, h4⟩ := (R.2.1 u1 hu8).1 hu1
    have hn := K.2.1 u1 hu8
    refine g_if_eq C 32 dX9_is_5 (by decide) (fun c_5 => ?_) (fun c_5 => ?_)
    · exact absurd c_5 (by decide)
    · refine g_aload_n C dX9_is_8 rfl ?_
      refine g_iload_n C dX9_is_9 rfl ?_
      refine g_iload_n C dX9_is_10 rfl ?_
      refine g_callVi C sV_X9_92 dX9_is_11 (c_X9_isColour _ δ _ hu8 _ hn h4) ⟨by decide, by decide⟩ (wO_M δ _) rfl rfl rfl rfl (Nat.le_of_ble_eq_true rfl) (fun r_11 s_11 h_11 => ?_)
      obtain ⟨rfl, h_11⟩ := h_11
      rcases h_11 with ⟨rfl, h_11⟩ | ⟨rfl, h_11⟩
      · obtain ⟨c1, hc1, rfl⟩ := id h_11
        refine g_if_eq C 32 dX9_is_14 (by decide) (fun c_14 => ?_) (fun c_14 => ?_)
        · exact absurd c_14 (by decide)
        · refine g_iload_n C dX9_is_17 rfl ?_
          refine g_i2l C dX9_is_18 ?_
          refine g_ldc2 C dX9_is_19 mW662 ?_
          refine g_iload_n C dX9_is_22 rfl ?_
          refine g_iconst (v := 1) C dX9_is_23 (by decide) ?_
          refine g_isub C dX9_is_24 ?_
          refine g_i2l C dX9_is_25 ?_
          refine g_callSi C sS_X9_62 dX9_is_26 (c_X9_in _ δ _ _ _ _) ⟨by decide, by decide⟩ rfl rfl rfl (Nat.le_of_ble_eq_true rfl) (fun r_26 s_26 h_26 => ?_)
          obtain ⟨rfl, h_26⟩ := h_26
          rw [gin_is hu8] at h_26
          rcases h_26 with ⟨rfl, h_26⟩ | ⟨rfl, h_26⟩
          · skip
            refine g_if_ne C 34 dX9_is_29 (by decide) (fun c_29 => ?_) (fun c_29 => ?_)
            · refine g_aload_n C dX9_is_34 rfl ?_
              refine g_callVv C sV_X9_102 dX9_is_35 (c_X9_keep _ δ _ K) ⟨by decide, by decide⟩ (wO_M δ _) rfl rfl rfl rfl (Nat.le_of_ble_eq_true rfl) (fun s_35 h_35 => ?_)
              obtain ⟨K2, F2, D2⟩ := h_35
              refine g_bipush (v := 25) C dX9_is_38 (by decide) ?_
              refine g_iload_n C dX9_is_40 rfl ?_
              refine g_imul C dX9_is_41 ?_
              refine g_bipush (v := 20) C dX9_is_42 (by decide) ?_
              refine g_iadd C dX9_is_44 ?_
              refine g_iload_n C dX9_is_45 rfl ?_
              refine g_iadd C dX9_is_46 ?_
              refine g_istore C dX9_is_47 (Nat.le_of_ble_eq_true rfl) rfl ?_
              refine g_lv [some _, some _, some _, some _, some _, none] (gs_some (gs_some (gs_some (gs_some (gs_some (gs_none gs_nil)))))) ?_
              refine g_aload_n C dX9_is_49 rfl ?_
              refine g_get C dX9_is_50 iwX9 rfl (wO_M δ _) 6 (Nat.le_of_ble_eq_true rfl) mW578 rfl rfl ?_
              refine g_iload C dX9_is_53 rfl ?_
              refine g_ialdN C dX9_is_55 (k := (25 * u1 + 20 + c1)) (q := 53) (by decide) rfl (by first | rfl | assumption | (simp only [glit, nI_add, pk_mul]; done) | (simp only [glit, nI_add, pk_mul]; congr 1; omega) | (simp only [*, glit, nI_add, pk_mul]; congr 1; omega)) (show (25 * u1 + 20 + c1) < gLenI 53 from Nat.lt_of_lt_of_eq (show (25 * u1 + 20 + c1) < 202 by omega) rfl) ?_
              rw [K2.2.2.1 _ (by omega)]
              refine g_istore C dX9_is_56 (Nat.le_of_ble_eq_true rfl) rfl ?_
              refine g_lv [some _, some _, some _, some _, some _, some _] (gs_some (gs_some (gs_some (gs_some (gs_some (gs_some gs_nil)))))) ?_
              refine g_aload_n C dX9_is_58 rfl ?_
              refine g_get C dX9_is_59 iwX9 rfl (wO_M δ _) 6 (Nat.le_of_ble_eq_true rfl) mW578 rfl rfl ?_
              refine g_iload C dX9_is_62 rfl ?_
              refine g_iload_n C dX9_is_64 rfl ?_
              refine g_iastN C dX9_is_65 (k := (25 * u1 + 20 + c1)) (q := 53) (by decide) rfl (by first | rfl | assumption | (simp only [glit, nI_add, pk_mul]; done) | (simp only [glit, nI_add, pk_mul]; congr 1; omega) | (simp only [*, glit, nI_add, pk_mul]; congr 1; omega)) (show (25 * u1 + 20 + c1) < gLenI 53 from Nat.lt_of_lt_of_eq (show (25 * u1 + 20 + c1) < 202 by omega) rfl) ?_
              refine g_iload C dX9_is_66 rfl ?_
              refine g_if_ge C 76 dX9_is_68 (by decide) (fun c_68 => ?_) (fun c_68 => ?_)
              · refine g_iload C dX9_is_76 rfl ?_
                exact g_iret C E dX9_is_78 rfl rfl ⟨_, rfl, vPostM (fIs_ok hu1 hu8 hc1 (by omega) h_26) (by first | exact (if_neg (Int32.not_lt.mpr c_68)).symm | exact (if_pos (Int32.not_le.mp c_68)).symm) (KM_s1 K2 (by omega) (by omega)) (FM_I (by omega) F2)⟩
              · refine g_bipush (v := (-4)) C dX9_is_71 (by decide) ?_
                refine g_goto C 78 dX9_is_73 (by decide) ?_
                exact g_iret C E dX9_is_78 rfl rfl ⟨_, rfl, vPostM (fIs_ok hu1 hu8 hc1 (by omega) h_26) (by first | exact (if_neg (Int32.not_lt.mpr c_68)).symm | exact (if_pos (Int32.not_le.mp c_68)).symm) (KM_s1 K2 (by omega) (by omega)) (FM_I (by omega) F2)⟩
            · exact absurd c_29 (by decide)
          · skip
            refine g_if_ne C 34 dX9_is_29 (by decide) (fun c_29 => ?_) (fun c_29 => ?_)
            · exact absurd c_29 (by decide)
            · refine g_iconst (v := (-1)) C dX9_is_32 (by decide) ?_
              exact g_iret C E dX9_is_33 rfl rfl ⟨_, rfl, vPostM (by first | exact gIf_f (fun z => h_2 z.1.1) | exact gIf_f (fun z => h_11 ((okC_n hu8).mp z.1.2)) | exact gIf_f (fun z => h_26 z.2)) rfl K (FM_r _)⟩
      · skip
        refine g_if_eq C 32 dX9_is_14 (by decide) (fun c_14 => ?_) (fun c_14 => ?_)
        · refine g_iconst (v := (-1)) C dX9_is_32 (by decide) ?_
          exact g_iret C E dX9_is_33 rfl rfl ⟨_, rfl, vPostM (by first | exact gIf_f (fun z => h_2 z.1.1) | exact gIf_f (fun z => h_11 ((okC_n hu8).mp z.1.2)) | exact gIf_f (fun z => h_26 z.2)) rfl K (FM_r _)⟩
        · exact absurd c_14 (by decide)
  · skip
    refine g_if_eq C 32 dX9_is_5 (by decide) (fun c_5 => ?_) (fun c_5 => ?_)
    · refine g_iconst (v := (-1)) C dX9_is_32 (by decide) ?_
      exact g_iret C E dX9_is_33 rfl rfl ⟨_, rfl, vPostM (by first | exact gIf_f (fun z => h_2 z.1.1) | exact gIf_f (fun z => h_11 ((okC_n hu8).mp z.1.2)) | exact gIf_f (fun z => h_26 z.2)) rfl K (FM_r _)⟩
    · exact absurd c_5 (by decide)
set_option maxRecDepth 100000 in
set_option maxHeartbeats 4000000 in
theorem c_X9_added (l : Launch) (δ : GD) (σ : GS) (a0 a1 a2 : Int32) {v : GV} (K : KM σ v) (R : RV v) : gM l δ yX9_added cX9_added 4 (some .int) 2 47 [.ref (δ.2.2.1 1), .int a0, .int a1, .int a2] σ (gPi (fun x σ' => x = (fAdded v a0 a1 a2).1 ∧ KM σ' (fAdded v a0 a1 a2).2 ∧ FM σ σ')) := by
  refine g_of (lv0 := [some (.ref (δ.2.2.1 1)), some (.int a0), some (.int a1), some (.int a2)]) (by decide) rfl (Nat.le_of_ble_eq_true rfl) (fun Γ hl C E => ?_)
  subst hl
  have C : gC Γ δ cX9_added RX9 4 2 47 := C
  have hm := K.1
  have h8 := R.1
  refine g_aload_n C dX9_added_0 rfl ?_
  refine g_iload_n C dX9_added_1 rfl ?_
  refine g_callVi C sV_X9_89 dX9_added_2 (c_X9_isUrn _ δ _ _ hm h8) ⟨by decide, by decide⟩ (wO_M δ _) rfl rfl rfl rfl (Nat.le_of_ble_eq_true rfl) (fun r_2 s_2 h_2 => ?_)
  obtain ⟨rfl, h_2⟩ := h_2
  rcases h_2 with ⟨rfl, h_2⟩ | ⟨rfl, h_2⟩
  · obtain ⟨u1, hu1, rfl⟩ := id h_2
    have hu8 : u1 < 8 := by omega
    obtain ⟨h2, h4⟩ := (R.2.1 u1 hu8).1 hu1
    have hn := K.2.1 u1 hu8
    refine g_if_eq C 46 dX9_added_5 (by decide) (fun c_5 => ?_) (fun c_5 => ?_)
    · exact absurd c_5 (by decide)
    · refine g_aload_n C dX9_added_8 rfl ?_
      refine g_iload_n C dX9_added_9 rfl ?_
      refine g_iload_n C dX9_added_10 rfl ?_
      refine g_callVi C sV_X9_92 dX9_added_11 (c_X9_isColour _ δ _ hu8 _ hn h4) ⟨by decide, by decide⟩ (wO_M δ _) rfl rfl rfl rfl (Nat.le_of_ble_eq_true rfl) (fun r_11 s_11 h_11 => ?_)
      obtain ⟨rfl, h_11⟩ := h_11
      rcases h_11 with ⟨rfl, h_11⟩ | ⟨rfl, h_11⟩
      · obtain ⟨c1, hc1, rfl⟩ := id h_11
        refine g_if_eq C 46 dX9_added_14 (by decide) (fun c_14 => ?_) (fun c_14 => ?_)
        · exact absurd c_14 (by decide)
        · refine g_aload_n C dX9_added_17 rfl ?_
          refine g_iload_n C dX9_added_18 rfl ?_
          refine g_iload_n C dX9_added_19 rfl ?_
          refine g_callVi C sV_X9_92 dX9_added_20 (c_X9_isColour _ δ _ hu8 _ hn h4) ⟨by decide, by decide⟩ (wO_M δ _) rfl rfl rfl rfl (Nat.le_of_ble_eq_true rfl) (fun r_20 s_20 h_20 => ?_)
          obtain ⟨rfl, h_20⟩ := h_20
          rcases h_20 with ⟨rfl, h_20⟩ | ⟨rfl, h_20⟩
          · obtain ⟨d1, hd1, rfl⟩ := id h_20
            refine g_if_eq C 46 dX9_added_23 (by decide) (fun c_23 => ?_) (fun c_23 => ?_)
            · exact absurd c_23 (by decide)
            · refine g_aload_n C dX9_added_26 rfl ?_
              refine g_get C dX9_added_27 iwX9 rfl (wO_M δ _) 6 (Nat.le_of_ble_eq_true rfl) mW578 rfl rfl ?_
              refine g_bipush (v := 25) C dX9_added_30 (by decide) ?_
              refine g_iload_n C dX9_added_32 rfl ?_
              refine g_imul C dX9_added_33 ?_
              refine g_iconst (v := 4) C dX9_added_34 (by decide) ?_
              refine g_iadd C dX9_added_35 ?_
              refine g_iconst (v := 4) C dX9_added_36 (by decide) ?_
              refine g_iload_n C dX9_added_37 rfl ?_
              refine g_imul C dX9_added_38 ?_
              refine g_iadd C dX9_added_39 ?_
              refine g_iload_n C dX9_added_40 rfl ?_
              refine g_iadd C dX9_added_41 ?_
              refine g_ialdN C dX9_added_42 (k := (25 * u1 + 4 + (c1 * 4 + d1))) (q := 53) (by decide) rfl (by first | rfl | assumption | (simp only [glit, nI_add, pk_mul]; done) | (simp only [glit, nI_add, pk_mul]; congr 1; omega) | (simp only [*, glit, nI_add, pk_mul]; congr 1; omega)) (show (25 * u1 + 4 + (c1 * 4 + d1)) < gLenI 53 from Nat.lt_of_lt_of_eq (show (25 * u1 + 4 + (c1 * 4 + d1)) < 202 by omega) rfl) ?_
              rw [K.2.2.1 _ (by omega)]
              refine g_goto C 48 dX9_added_43 (by decide) ?_
              exact g_iret C E dX9_added_48 rfl rfl ⟨_, rfl, (by first | exact vPostM (fAdded_ok hu1 hu8 hc1 (by omega) hd1 (by omega)) rfl K (FM_r _) | exact vPostM (by first | exact gIf_f (fun z => h_2 z.1) | exact gIf_f (fun z => h_11 ((okC_n hu8).mp z.2.1)) | exact gIf_f (fun z => h_20 ((okC_n hu8).mp z.2.2))) rfl K (FM_r _))⟩
          · skip
            refine g_if_eq C 46 dX9_added_23 (by decide) (fun c_23 => ?_) (fun c_23 => ?_)
            · refine g_bipush (v := (-100)) C dX9_added_46 (by decide) ?_
              exact g_iret C E dX9_added_48 rfl rfl ⟨_, rfl, (by first | exact vPostM (fAdded_ok hu1 hu8 hc1 (by omega) hd1 (by omega)) rfl K (FM_r _) | exact vPostM (by first | exact gIf_f (fun z => h_2 z.1) | exact gIf_f (fun z => h_11 ((okC_n hu8).mp z.2.1)) | exact gIf_f (fun z => h_20 ((okC_n hu8).mp z.2.2))) rfl K (FM_r _))⟩
            · exact absurd c_23 (by decide)
      · skip
        refine g_if_eq C 46 dX9_added_14 (by decide) (fun c_14 => ?_) (fun c_14 => ?_)
        · refine g_bipush (v := (-100)) C dX9_added_46 (by decide) ?_
          exact g_iret C E dX9_added_48 rfl rfl ⟨_, rfl, (by first | exact vPostM (fAdded_ok hu1 hu8 hc1 (by omega) hd1 (by omega)) rfl K (FM_r _) | exact vPostM (by first | exact gIf_f (fun z => h_2 z.1) | exact gIf_f (fun z => h_11 ((okC_n hu8).mp z.2.1)) | exact gIf_f (fun z => h_20 ((okC_n hu8).mp z.2.2))) rfl K (FM_r _))⟩
        · exact absurd c_14 (by decide)
  · skip
    refine g_if_eq C 46 dX9_added_5 (by decide) (fun c_5 => ?_) (fun c_5 => ?_)
    · refine g_bipush (v := (-100)) C dX9_added_46 (by decide) ?_
      exact g_iret C E dX9_added_48 rfl rfl ⟨_, rfl, (by first | exact vPostM (fAdded_ok hu1 hu8 hc1 (by omega) hd1 (by omega)) rfl K (FM_r _) | exact vPostM (by first | exact gIf_f (fun z => h_2 z.1) | exact gIf_f (fun z => h_11 ((okC_n hu8).mp z.2.1)) | exact gIf_f (fun z => h_20 ((okC_n hu8).mp z.2.2))) rfl K (FM_r _))⟩
    · exact absurd c_5 (by decide)
set_option maxRecDepth 100000 in
set_option maxHeartbeats 4000000 in
theorem c_X9_draw (l : Launch) (δ : GD) (σ : GS) (a0 a1 : Int32) {v : GV} (K : KM σ v) (R : RV v) : gM l δ yX9_draw cX9_draw 3 (some .int) 2 49 [.ref (δ.2.2.1 1), .int a0, .int a1] σ (gPi (fun x σ' => x = (fDraw v a0 a1).1 ∧ KM σ' (fDraw v a0 a1).2 ∧ FM σ σ')) := by
  refine g_of (lv0 := [some (.ref (δ.2.2.1 1)), some (.int a0), some (.int a1)]) (by decide) rfl (Nat.le_of_ble_eq_true rfl) (fun Γ hl C E => ?_)
  subst hl
  have C : gC Γ δ cX9_draw RX9 3 2 49 := C
  have hm := K.1
  have h8 := R.1
  refine g_aload_n C dX9_draw_0 rfl ?_
  refine g_iload_n C dX9_draw_1 rfl ?_
  refine g_callVi C sV_X9_89 dX9_draw_2 (c_X9_isUrn _ δ _ _ hm h8) ⟨by decide, by decide⟩ (wO_M δ _) rfl rfl rfl rfl (Nat.le_of_ble_eq_true rfl) (fun r_2 s_2 h_2 => ?_)
  obtain ⟨rfl, h_2⟩ := h_2
  rcases h_2 with ⟨rfl, h_2⟩ | ⟨rfl, h_2⟩
  · obtain ⟨u1, hu1, rfl⟩ := id h_2
    have hu8 : u1 < 8 := by omega
    obtain ⟨h2, h4⟩ := (R.2.1 u1 hu8).1 hu1
    have hn := K.2.1 u1 hu8
    refine g_if_eq C 17 dX9_draw_5 (by decide) (fun c_5 => ?_) (fun c_5 => ?_)
    · exact absurd c_5 (by decide)
    · refine g_aload_n C dX9_draw_8 rfl ?_
      refine g_iload_n C dX9_draw_9 rfl ?_
      refine g_iload_n C dX9_draw_10 rfl ?_
      refine g_callVi C sV_X9_92 dX9_draw_11 (c_X9_isColour _ δ _ hu8 _ hn h4) ⟨by decide, by decide⟩ (wO_M δ _) rfl rfl rfl rfl (Nat.le_of_ble_eq_true rfl) (fun r_11 s_11 h_11 => ?_)
      obtain ⟨rfl, h_11⟩ := h_11
      rcases h_11 with ⟨rfl, h_11⟩ | ⟨rfl, h_11⟩
      · obtain ⟨c1, hc1, rfl⟩ := id h_11
        refine g_if_ne C 19 dX9_draw_14 (by decide) (fun c_14 => ?_) (fun c_14 => ?_)
        · refine g_aload_n C dX9_draw_19 rfl ?_
          refine g_iload_n C dX9_draw_20 rfl ?_
          refine g_iload_n C dX9_draw_21 rfl ?_
          refine g_callVi C sV_X9_120 dX9_draw_22 (c_X9_canDraw _ δ _ hu8 (c := c1) (by omega)) ⟨by decide, by decide⟩ (wO_M δ _) rfl rfl rfl rfl (Nat.le_of_ble_eq_true rfl) (fun r_22 s_22 h_22 => ?_)
          obtain ⟨rfl, h_22⟩ := h_22
          have h_22 := gAcc_i h_22 (KM_let K hu8 (show c1 < 4 by omega))
          refine g_if_ne C 31 dX9_draw_25 (by decide) (fun c_25 => ?_) (fun c_25 => ?_)
          · refine g_aload_n C dX9_draw_31 rfl ?_
            refine g_callVv C sV_X9_102 dX9_draw_32 (c_X9_keep _ δ _ K) ⟨by decide, by decide⟩ (wO_M δ _) rfl rfl rfl rfl (Nat.le_of_ble_eq_true rfl) (fun s_32 h_32 => ?_)
            obtain ⟨K2, F2, D2⟩ := h_32
            refine g_aload_n C dX9_draw_35 rfl ?_
            refine g_iload_n C dX9_draw_36 rfl ?_
            refine g_iload_n C dX9_draw_37 rfl ?_
            refine g_callVv C sV_X9_123 dX9_draw_38 (c_X9_draws _ δ _ hu8 (c := c1) (by omega) K2) ⟨by decide, by decide⟩ (wO_M δ _) rfl rfl rfl rfl (Nat.le_of_ble_eq_true rfl) (fun s_38 h_38 => ?_)
            obtain ⟨K3, F3, -⟩ := h_38
            refine g_aload_n C dX9_draw_41 rfl ?_
            refine g_iload_n C dX9_draw_42 rfl ?_
            refine g_callVi C sV_X9_113 dX9_draw_43 (c_X9_balls _ δ _ hu8) ⟨by decide, by decide⟩ (wO_M δ _) rfl rfl rfl rfl (Nat.le_of_ble_eq_true rfl) (fun r_43 s_43 h_43 => ?_)
            obtain ⟨rfl, rfl⟩ := h_43
            exact g_iret C E dX9_draw_46 rfl rfl ⟨_, rfl, vPostM ((fDraw_ok hu1 hu8 hc1 (by omega)).trans (gIf_t (gAcc_y h_22 c_25))) (KM_sum K3 hu8) K3 (FM_t F2 F3)⟩
          · refine g_bipush (v := (-5)) C dX9_draw_28 (by decide) ?_
            exact g_iret C E dX9_draw_30 rfl rfl ⟨_, rfl, vPostM ((fDraw_ok hu1 hu8 hc1 (by omega)).trans (gIf_f (gAcc_n h_22 c_25))) rfl K (FM_r _)⟩
        · exact absurd c_14 (by decide)
      · skip
        refine g_if_ne C 19 dX9_draw_14 (by decide) (fun c_14 => ?_) (fun c_14 => ?_)
        · exact absurd c_14 (by decide)
        · refine g_iconst (v := (-1)) C dX9_draw_17 (by decide) ?_
          exact g_iret C E dX9_draw_18 rfl rfl ⟨_, rfl, vPostM (by first | exact gIf_f (fun z => h_2 z.1) | exact gIf_f (fun z => h_11 ((okC_n hu8).mp z.2))) rfl K (FM_r _)⟩
  · skip
    refine g_if_eq C 17 dX9_draw_5 (by decide) (fun c_5 => ?_) (fun c_5 => ?_)
    · refine g_iconst (v := (-1)) C dX9_draw_17 (by decide) ?_
      exact g_iret C E dX9_draw_18 rfl rfl ⟨_, rfl, vPostM (by first | exact gIf_f (fun z => h_2 z.1) | exact gIf_f (fun z => h_11 ((okC_n hu8).mp z.2))) rfl K (FM_r _)⟩
    · exact absurd c_5 (by decide)
set_option maxRecDepth 100000 in
set_option maxHeartbeats 4000000 in
theorem c_X9_about (l : Launch) (δ : GD) (σ : GS) (a0 a1 : Int32) {v : GV} (K : KM σ v) (R : RV v) : gM l δ yX9_about cX9_about 3 (some .int) 3 71 [.ref (δ.2.2.1 1), .int a0, .int a1] σ (gPi (fun x σ' => x = (fAbout v a0 a1).1 ∧ KM σ' (fAbout v a0 a1).2 ∧ FM σ σ')) := by
  refine g_of (lv0 := [some (.ref (δ.2.2.1 1)), some (.int a0), some (.int a1)]) (by decide) rfl (Nat.le_of_ble_eq_true rfl) (fun Γ hl C E => ?_)
  subst hl
  have C : gC Γ δ cX9_about RX9 3 3 71 := C
  have hm := K.1
  have h8 := R.1
  refine g_aload_n C dX9_about_0 rfl ?_
  refine g_iload_n C dX9_about_1 rfl ?_
  refine g_callVi C sV_X9_89 dX9_about_2 (c_X9_isUrn _ δ _ _ hm h8) ⟨by decide, by decide⟩ (wO_M δ _) rfl rfl rfl rfl (Nat.le_of_ble_eq_true rfl) (fun r_2 s_2 h_2 => ?_)
  obtain ⟨rfl, h_2⟩ := h_2
  rcases h_2 with ⟨rfl, h_2⟩ | ⟨rfl, h_2⟩
  · obtain ⟨u1, hu1, rfl⟩ := id h_2
    have hu8 : u1 < 8 := by omega
    obtain ⟨h2, h4⟩ := (R.2.1 u1 hu8).1 hu1
    have hn := K.2.1 u1 hu8
    refine g_if_eq C 26 dX9_about_5 (by decide) (fun c_5 => ?_) (fun c_5 => ?_)
    · exact absurd c_5 (by decide)
    · refine g_iload_n C dX9_about_8 rfl ?_
      refine g_i2l C dX9_about_9 ?_
      refine g_lconst (v := 0) C dX9_about_10 (by decide) ?_
      refine g_iconst (v := 5) C dX9_about_11 (by decide) ?_
      refine g_aload_n C dX9_about_12 rfl ?_
      refine g_get C dX9_about_13 iwX9 rfl (wO_M δ _) 5 (Nat.le_of_ble_eq_true rfl) mW577 rfl rfl ?_
      refine g_iload_n C dX9_about_16 rfl ?_
      refine g_ialdN C dX9_about_17 (k := u1) (q := 52) (by decide) rfl (by first | rfl | assumption | (simp only [glit, nI_add, pk_mul]; done) | (simp only [glit, nI_add, pk_mul]; congr 1; omega) | (simp only [*, glit, nI_add, pk_mul]; congr 1; omega)) (show u1 < gLenI 52 from Nat.lt_of_lt_of_eq (show u1 < 8 by omega) rfl) ?_
      rw [hn]
      refine g_iadd C dX9_about_18 ?_
      refine g_i2l C dX9_about_19 ?_
      refine g_callSi C sS_X9_62 dX9_about_20 (c_X9_in _ δ _ _ _ _) ⟨by decide, by decide⟩ rfl rfl rfl (Nat.le_of_ble_eq_true rfl) (fun r_20 s_20 h_20 => ?_)
      obtain ⟨rfl, h_20⟩ := h_20
      rcases h_20 with ⟨rfl, h_20⟩ | ⟨rfl, h_20⟩
      · skip
        refine g_if_ne C 30 dX9_about_23 (by decide) (fun c_23 => ?_) (fun c_23 => ?_)
        · refine g_iload_n C dX9_about_30 rfl ?_
          rcases gsw a1 5 (by omega) with h_31 | h_31
          · refine g_tableOut C 141 dX9_about_31 (by simpa using h_31) (by decide) ?_
            obtain ⟨j1, hj1, ew, ex⟩ := fAb_bi (v := v) (k := u1) rfl h4 h_20 h_31
            refine g_aload_n C dX9_about_141 rfl ?_
            refine g_get C dX9_about_142 iwX9 rfl (wO_M δ _) 6 (Nat.le_of_ble_eq_true rfl) mW578 rfl rfl ?_
            refine g_bipush (v := 25) C dX9_about_145 (by decide) ?_
            refine g_iload_n C dX9_about_147 rfl ?_
            refine g_imul C dX9_about_148 ?_
            refine g_iload_n C dX9_about_149 rfl ?_
            refine g_iadd C dX9_about_150 ?_
            refine g_bipush (v := 6) C dX9_about_151 (by decide) ?_
            refine g_isub C dX9_about_153 ?_
            refine g_ialdN C dX9_about_154 (k := (25 * u1 + j1)) (q := 53) (by decide) rfl (by rw [ew, show (6 : Int32) = nI 6 from rfl, show (25 : Int32) = nI 25 from rfl, pk_mul, nI_add, pk_sub (by omega)]; exact congrArg nI (by omega)) (show (25 * u1 + j1) < gLenI 53 from Nat.lt_of_lt_of_eq (show (25 * u1 + j1) < 202 by omega) rfl) ?_
            exact g_iret C E dX9_about_155 rfl rfl ⟨_, rfl, vPostM (fAbout_at hu1 hu8 (ex)) (K.2.2.1 _ (by omega)) K (FM_r _)⟩
          · rcases gsw5 a1 h_31 with h_31 | h_31 | h_31 | h_31 | h_31 | h_31
            · rw [h_31]
              refine g_tableIn C 68 dX9_about_31 (by decide) (by decide) rfl (by decide) ?_
              refine g_aload_n C dX9_about_68 rfl ?_
              refine g_get C dX9_about_69 iwX9 rfl (wO_M δ _) 5 (Nat.le_of_ble_eq_true rfl) mW577 rfl rfl ?_
              refine g_iload_n C dX9_about_72 rfl ?_
              refine g_ialdN C dX9_about_73 (k := u1) (q := 52) (by decide) rfl (by first | rfl | assumption | (simp only [glit, nI_add, pk_mul]; done) | (simp only [glit, nI_add, pk_mul]; congr 1; omega) | (simp only [*, glit, nI_add, pk_mul]; congr 1; omega)) (show u1 < gLenI 52 from Nat.lt_of_lt_of_eq (show u1 < 8 by omega) rfl) ?_
              exact g_iret C E dX9_about_74 rfl rfl ⟨_, rfl, vPostM (fAbout_at hu1 hu8 (fAb_0 h_31)) (hn) K (FM_r _)⟩
            · rw [h_31]
              refine g_tableIn C 75 dX9_about_31 (by decide) (by decide) rfl (by decide) ?_
              refine g_aload_n C dX9_about_75 rfl ?_
              refine g_iload_n C dX9_about_76 rfl ?_
              refine g_callVi C sV_X9_113 dX9_about_77 (c_X9_balls _ δ _ hu8) ⟨by decide, by decide⟩ (wO_M δ _) rfl rfl rfl rfl (Nat.le_of_ble_eq_true rfl) (fun r_77 s_77 h_77 => ?_)
              obtain ⟨rfl, h_77⟩ := h_77
              exact g_iret C E dX9_about_80 rfl rfl ⟨_, rfl, vPostM (fAbout_at hu1 hu8 (fAb_1 h_31)) (h_77.trans (KM_sum K hu8)) K (FM_r _)⟩
            · rw [h_31]
              refine g_tableIn C 81 dX9_about_31 (by decide) (by decide) rfl (by decide) ?_
              refine g_aload_n C dX9_about_81 rfl ?_
              refine g_get C dX9_about_82 iwX9 rfl (wO_M δ _) 6 (Nat.le_of_ble_eq_true rfl) mW578 rfl rfl ?_
              refine g_bipush (v := 25) C dX9_about_85 (by decide) ?_
              refine g_iload_n C dX9_about_87 rfl ?_
              refine g_imul C dX9_about_88 ?_
              refine g_bipush (v := 24) C dX9_about_89 (by decide) ?_
              refine g_iadd C dX9_about_91 ?_
              refine g_ialdN C dX9_about_92 (k := (25 * u1 + 24)) (q := 53) (by decide) rfl (by first | rfl | assumption | (simp only [glit, nI_add, pk_mul]; done) | (simp only [glit, nI_add, pk_mul]; congr 1; omega) | (simp only [*, glit, nI_add, pk_mul]; congr 1; omega)) (show (25 * u1 + 24) < gLenI 53 from Nat.lt_of_lt_of_eq (show (25 * u1 + 24) < 202 by omega) rfl) ?_
              exact g_iret C E dX9_about_93 rfl rfl ⟨_, rfl, vPostM (fAbout_at hu1 hu8 (fAb_2 h_31)) (K.2.2.1 _ (by omega)) K (FM_r _)⟩
            · rw [h_31]
              refine g_tableIn C 94 dX9_about_31 (by decide) (by decide) rfl (by decide) ?_
              refine g_aload_n C dX9_about_94 rfl ?_
              refine g_iload_n C dX9_about_95 rfl ?_
              refine g_callVi C sV_X9_110 dX9_about_96 (c_X9_isEven _ δ _ hu8 hn h4) ⟨by decide, by decide⟩ (wO_M δ _) rfl rfl rfl rfl (Nat.le_of_ble_eq_true rfl) (fun r_96 s_96 h_96 => ?_)
              obtain ⟨rfl, h_96⟩ := h_96
              refine g_if_eq C 106 dX9_about_99 (by decide) (fun c_99 => ?_) (fun c_99 => ?_)
              · refine g_iconst (v := 0) C dX9_about_106 (by decide) ?_
                exact g_iret C E dX9_about_107 rfl rfl ⟨_, rfl, (by first | exact vPostM (fAbout_at hu1 hu8 (fAb_3 h_31)) ((gIf_t ((KM_ev K R hu8).mp (gAcc_y h_96 c_99))).symm) K (FM_r _) | exact vPostM (fAbout_at hu1 hu8 (fAb_3 h_31)) ((gIf_f (fun z => gAcc_n h_96 c_99 ((KM_ev K R hu8).mpr z))).symm) K (FM_r _))⟩
              · refine g_iconst (v := 1) C dX9_about_102 (by decide) ?_
                refine g_goto C 107 dX9_about_103 (by decide) ?_
                exact g_iret C E dX9_about_107 rfl rfl ⟨_, rfl, (by first | exact vPostM (fAbout_at hu1 hu8 (fAb_3 h_31)) ((gIf_t ((KM_ev K R hu8).mp (gAcc_y h_96 c_99))).symm) K (FM_r _) | exact vPostM (fAbout_at hu1 hu8 (fAb_3 h_31)) ((gIf_f (fun z => gAcc_n h_96 c_99 ((KM_ev K R hu8).mpr z))).symm) K (FM_r _))⟩
            · rw [h_31]
              refine g_tableIn C 108 dX9_about_31 (by decide) (by decide) rfl (by decide) ?_
              refine g_aload_n C dX9_about_108 rfl ?_
              refine g_iload_n C dX9_about_109 rfl ?_
              refine g_callVi C sV_X9_110 dX9_about_110 (c_X9_isEven _ δ _ hu8 hn h4) ⟨by decide, by decide⟩ (wO_M δ _) rfl rfl rfl rfl (Nat.le_of_ble_eq_true rfl) (fun r_110 s_110 h_110 => ?_)
              obtain ⟨rfl, h_110⟩ := h_110
              refine g_if_eq C 125 dX9_about_113 (by decide) (fun c_113 => ?_) (fun c_113 => ?_)
              · refine g_iconst (v := 0) C dX9_about_125 (by decide) ?_
                exact g_iret C E dX9_about_126 rfl rfl ⟨_, rfl, (by first | exact vPostM (fAbout_at hu1 hu8 (fAb_4 h_31)) (h_119.trans ((KM_gr K hu8 (by omega)).trans (gIf_t ((KM_ev K R hu8).mp (gAcc_y h_110 c_113))).symm)) K (FM_r _) | exact vPostM (fAbout_at hu1 hu8 (fAb_4 h_31)) ((gIf_f (fun z => gAcc_n h_110 c_113 ((KM_ev K R hu8).mpr z))).symm) K (FM_r _))⟩
              · refine g_aload_n C dX9_about_116 rfl ?_
                refine g_iload_n C dX9_about_117 rfl ?_
                refine g_iconst (v := 0) C dX9_about_118 (by decide) ?_
                refine g_callVi C sV_X9_107 dX9_about_119 (c_X9_addedSum _ δ _ hu8 (c := 0) (by omega)) ⟨by decide, by decide⟩ (wO_M δ _) rfl rfl rfl rfl (Nat.le_of_ble_eq_true rfl) (fun r_119 s_119 h_119 => ?_)
                obtain ⟨rfl, h_119⟩ := h_119
                refine g_goto C 126 dX9_about_122 (by decide) ?_
                exact g_iret C E dX9_about_126 rfl rfl ⟨_, rfl, (by first | exact vPostM (fAbout_at hu1 hu8 (fAb_4 h_31)) (h_119.trans ((KM_gr K hu8 (by omega)).trans (gIf_t ((KM_ev K R hu8).mp (gAcc_y h_110 c_113))).symm)) K (FM_r _) | exact vPostM (fAbout_at hu1 hu8 (fAb_4 h_31)) ((gIf_f (fun z => gAcc_n h_110 c_113 ((KM_ev K R hu8).mpr z))).symm) K (FM_r _))⟩
            · rw [h_31]
              refine g_tableIn C 127 dX9_about_31 (by decide) (by decide) rfl (by decide) ?_
              refine g_aload_n C dX9_about_127 rfl ?_
              refine g_iload_n C dX9_about_128 rfl ?_
              refine g_callVi C sV_X9_117 dX9_about_129 (c_X9_isLike _ δ _ hu8 hn h4) ⟨by decide, by decide⟩ (wO_M δ _) rfl rfl rfl rfl (Nat.le_of_ble_eq_true rfl) (fun r_129 s_129 h_129 => ?_)
              obtain ⟨rfl, h_129⟩ := h_129
              refine g_if_eq C 139 dX9_about_132 (by decide) (fun c_132 => ?_) (fun c_132 => ?_)
              · refine g_iconst (v := 0) C dX9_about_139 (by decide) ?_
                exact g_iret C E dX9_about_140 rfl rfl ⟨_, rfl, (by first | exact vPostM (fAbout_at hu1 hu8 (fAb_5 h_31)) ((gIf_t ((KM_lk K R hu8).mp (gAcc_y h_129 c_132))).symm) K (FM_r _) | exact vPostM (fAbout_at hu1 hu8 (fAb_5 h_31)) ((gIf_f (fun z => gAcc_n h_129 c_132 ((KM_lk K R hu8).mpr z))).symm) K (FM_r _))⟩
              · refine g_iconst (v := 1) C dX9_about_135 (by decide) ?_
                refine g_goto C 140 dX9_about_136 (by decide) ?_
                exact g_iret C E dX9_about_140 rfl rfl ⟨_, rfl, (by first | exact vPostM (fAbout_at hu1 hu8 (fAb_5 h_31)) ((gIf_t ((KM_lk K R hu8).mp (gAcc_y h_129 c_132))).symm) K (FM_r _) | exact vPostM (fAbout_at hu1 hu8 (fAb_5 h_31)) ((gIf_f (fun z => gAcc_n h_129 c_132 ((KM_lk K R hu8).mpr z))).symm) K (FM_r _))⟩
        · exact absurd c_23 (by decide)
      · skip
        refine g_if_ne C 30 dX9_about_23 (by decide) (fun c_23 => ?_) (fun c_23 => ?_)
        · exact absurd c_23 (by decide)
        · refine g_sipush (v := (-1000)) C dX9_about_26 (by decide) ?_
          exact g_iret C E dX9_about_29 rfl rfl ⟨_, rfl, (by first | exact vPostM (fAbout_no h_2) rfl K (FM_r _) | exact vPostM (fAbout_at hu1 hu8 (fAb_bd rfl h4 h_20)) (rfl) K (FM_r _))⟩
  · skip
    refine g_if_eq C 26 dX9_about_5 (by decide) (fun c_5 => ?_) (fun c_5 => ?_)
    · refine g_sipush (v := (-1000)) C dX9_about_26 (by decide) ?_
      exact g_iret C E dX9_about_29 rfl rfl ⟨_, rfl, (by first | exact vPostM (fAbout_no h_2) rfl K (FM_r _) | exact vPostM (fAbout_at hu1 hu8 (fAb_bd rfl h4 h_20)) (rfl) K (FM_r _))⟩
    · exact absurd c_5 (by decide)
set_option maxRecDepth 100000 in
set_option maxHeartbeats 4000000 in
theorem c_X9_undo (l : Launch) (δ : GD) (σ : GS) {v : GV} (K : KM σ v) : gM l δ yX9_undo cX9_undo 2 (some .int) 0 0 [.ref (δ.2.2.1 1)] σ (gPi (fun x σ' => x = (fUndo v).1 ∧ KM σ' (fUndo v).2 ∧ FM σ σ')) := by
  refine g_of (lv0 := [some (.ref (δ.2.2.1 1)), none]) (by decide) rfl (Nat.le_of_ble_eq_true rfl) (fun Γ hl C E => ?_)
  subst hl
  have C : gC Γ δ cX9_undo RX9 2 0 0 := C
  have hl := K.2.2.2.2.1.2
  have h20 := K.2.2.2.2.1.1
  refine g_aload_n C dX9_undo_0 rfl ?_
  refine g_get C dX9_undo_1 iwX9 rfl (wO_M δ _) 8 (Nat.le_of_ble_eq_true rfl) mW580 rfl rfl ?_
  rw [hl]
  refine g_if_ne C 10 dX9_undo_4 (by decide) (fun c_4 => ?_) (fun c_4 => ?_)
  · have h0 : ¬ vL v = 0 := fun e => c_4 (by rw [e]; rfl)
    refine g_aload_n C dX9_undo_10 rfl ?_
    refine g_dup C dX9_undo_11 rfl ?_
    refine g_get C dX9_undo_12 iwX9 rfl (wO_M δ _) 8 (Nat.le_of_ble_eq_true rfl) mW580 rfl rfl ?_
    rw [hl]
    refine g_iconst (v := 1) C dX9_undo_15 (by decide) ?_
    refine g_isub C dX9_undo_16 ?_
    rw [gsub1 (by omega)]
    refine g_put C tyX9 dX9_undo_17 iwX9 tyX9_ok nmX9 rfl (wO_M δ _) 8 (Nat.le_of_ble_eq_true rfl) mW580 rfl rfl rfl rfl rfl (Nat.le_of_ble_eq_true rfl) (pN_34 δ _ _) ?_
    refine g_iconst (v := 0) C dX9_undo_20 (by decide) ?_
    refine g_istore_n C dX9_undo_21 (Nat.le_of_ble_eq_true rfl) rfl ?_
    refine g_lv [some _, some _] (gs_some (gs_some gs_nil)) ?_
    have L_22 : ∀ (nn : Nat) (q : Nat) (f : Nat → Int32) (hq : q ≤ 202) (hf : ∀ j, j < q → f j = gI σ 54 (202 * (vL v - 1) + j)), 202 - q < nn → gW Γ δ (uI (uN σ 34 (nI (vL v - 1))) 53 f) 22 [some (.ref (δ.2.2.1 1)), some (.int (nI q))] [] := by
      intro nn
      induction nn with
      | zero =>
        intro q f hq hf hm_22
        exact absurd hm_22 (Nat.not_lt_zero _)
      | succ nn ih_22 =>
        intro q f hq hf hm_22
        refine g_iload_n C dX9_undo_22 rfl ?_
        refine g_sipush (v := 202) C dX9_undo_23 (by decide) ?_
        refine g_icmp_ge C 56 dX9_undo_26 (by decide) (fun c_26 => ?_) (fun c_26 => ?_)
        · have k_26 := gle c_26 (a := 202) (b := q) (by first | rfl | assumption | (simp only [glit, nI_add, pk_mul]; done) | (simp only [glit, nI_add, pk_mul]; congr 1; omega) | (simp only [*, glit, nI_add, pk_mul]; congr 1; omega)) (by first | rfl | assumption | (simp only [glit, nI_add, pk_mul]; done) | (simp only [glit, nI_add, pk_mul]; congr 1; omega) | (simp only [*, glit, nI_add, pk_mul]; congr 1; omega)) (by omega) (by omega)
          have ek : q = 202 := by omega
          subst ek
          refine g_iconst (v := 1) C dX9_undo_56 (by decide) ?_
          exact g_iret C E dX9_undo_57 rfl rfl ⟨_, rfl, vPostM (if_neg h0) rfl (KM_undo K h0 hf) (FM_I (by omega) (FM_N (by omega) (FM_r _)))⟩
        · have k_26 := gnle c_26 (a := 202) (b := q) (by first | rfl | assumption | (simp only [glit, nI_add, pk_mul]; done) | (simp only [glit, nI_add, pk_mul]; congr 1; omega) | (simp only [*, glit, nI_add, pk_mul]; congr 1; omega)) (by first | rfl | assumption | (simp only [glit, nI_add, pk_mul]; done) | (simp only [glit, nI_add, pk_mul]; congr 1; omega) | (simp only [*, glit, nI_add, pk_mul]; congr 1; omega)) (by omega) (by omega)
          refine g_aload_n C dX9_undo_29 rfl ?_
          refine g_get C dX9_undo_30 iwX9 rfl (wO_M δ _) 6 (Nat.le_of_ble_eq_true rfl) mW578 rfl rfl ?_
          refine g_iload_n C dX9_undo_33 rfl ?_
          refine g_aload_n C dX9_undo_34 rfl ?_
          refine g_get C dX9_undo_35 iwX9 rfl (wO_M δ _) 7 (Nat.le_of_ble_eq_true rfl) mW579 rfl rfl ?_
          refine g_sipush (v := 202) C dX9_undo_38 (by decide) ?_
          refine g_aload_n C dX9_undo_41 rfl ?_
          refine g_get C dX9_undo_42 iwX9 rfl (wO_M δ _) 8 (Nat.le_of_ble_eq_true rfl) mW580 rfl rfl ?_
          rw [gN_uI, gN_uN, if_pos rfl]
          refine g_imul C dX9_undo_45 ?_
          refine g_iload_n C dX9_undo_46 rfl ?_
          refine g_iadd C dX9_undo_47 ?_
          refine g_ialdN C dX9_undo_48 (k := (202 * (vL v - 1) + q)) (q := 54) (by decide) rfl (by first | rfl | assumption | (simp only [glit, nI_add, pk_mul]; done) | (simp only [glit, nI_add, pk_mul]; congr 1; omega) | (simp only [*, glit, nI_add, pk_mul]; congr 1; omega)) (show (202 * (vL v - 1) + q) < gLenI 54 from Nat.lt_of_lt_of_eq (show (202 * (vL v - 1) + q) < 4040 by omega) rfl) ?_
          refine g_iastN C dX9_undo_49 (k := q) (q := 53) (by decide) rfl (by first | rfl | assumption | (simp only [glit, nI_add, pk_mul]; done) | (simp only [glit, nI_add, pk_mul]; congr 1; omega) | (simp only [*, glit, nI_add, pk_mul]; congr 1; omega)) (show q < gLenI 53 from Nat.lt_of_lt_of_eq (show q < 202 by omega) rfl) ?_
          refine g_iinc (v := nI (q + 1)) C dX9_undo_50 rfl (ginc _ 1) rfl ?_
          refine g_lv [some _, some _] (gs_some (gs_some gs_nil)) ?_
          refine g_goto C 22 dX9_undo_53 (by decide) ?_
          refine g_lv [some _, some _] (gs_some (gs_some gs_nil)) ?_
          rw [uI_uI, gI_uI, if_pos rfl]
          exact ih_22 (q + 1) _ (by omega) (fun j h => gfilI hf rfl h) (by omega)
    refine g_lv [some _, some _] (gs_some (gs_some gs_nil)) ?_
    refine g_st (uI_id _ 53).symm ?_
    exact L_22 _ 0 _ (by omega) (fun _ h => absurd h (Nat.not_lt_zero _)) (Nat.lt_succ_self _)
  · have h0 : vL v = 0 := (nI_eq (by omega) (by omega)).mp c_4
    refine g_bipush (v := (-2)) C dX9_undo_7 (by decide) ?_
    exact g_iret C E dX9_undo_9 rfl rfl ⟨_, rfl, vPostM (if_pos h0) rfl K (FM_r _)⟩
