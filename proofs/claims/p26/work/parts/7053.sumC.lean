set_option maxRecDepth 100000 in
set_option maxHeartbeats 4000000 in
theorem c_X0_findBelowb (l : Launch) (δ : GD) (σ : GS) {u : Nat} (hu : u < 8) {k : Nat} (hk : k ≤ 12) {v : GV} (K : KC σ v) (R : RV v) : gM l δ yX0_findBelow cX0_findBelow 6 (some .boolean) 2 45 [.ref (δ.2.2.1 20), .ref (δ.2.2.1 (8 + u)), .int (nI k)] σ (gPi (fun x σ' => (x = 1 ∧ dD (vT v u) (vG v u) k ≤ 10000000000000000 ∧ σ' = uG σ 7 (lN (dD (vT v u) (vG v u) k))) ∨ (x = 0 ∧ 10000000000000000 < dD (vT v u) (vG v u) k ∧ ∃ y, σ' = uG σ 7 y))) := by
  refine g_of (lv0 := [some (.ref (δ.2.2.1 20)), some (.ref (δ.2.2.1 (8 + u))), some (.int (nI k)), none, none, none]) (by decide) rfl (Nat.le_of_ble_eq_true rfl) (fun Γ hl C E => ?_)
  subst hl
  have C : gC Γ δ cX0_findBelow RX0 6 2 45 := C
  have hn := K.2.1 u hu
  have h4 := RV_n R hu
  have hT := vT_b R hu
  have hG := vG_b R hu
  refine g_aload_n C dX0_findBelow_0 rfl ?_
  refine g_lconst (v := 1) C dX0_findBelow_1 (by decide) ?_
  refine g_put C tyX0 dX0_findBelow_2 iwX0 tyX0_ok nmX0 rfl (wO_A δ _) 8 (Nat.le_of_ble_eq_true rfl) mW119 rfl rfl rfl rfl rfl (Nat.le_of_ble_eq_true rfl) (pG_7 δ _ _) ?_
  refine g_iconst (v := 0) C dX0_findBelow_5 (by decide) ?_
  refine g_istore_n C dX0_findBelow_6 (Nat.le_of_ble_eq_true rfl) rfl ?_
  refine g_lv [some _, some _, some _, some _, none, none] (gs_some (gs_some (gs_some (gs_some (gs_none (gs_none gs_nil)))))) ?_
  have L_7 : ∀ (nn : Nat) (i : Nat) (hi : i ≤ k) (hl : dD (vT v u) (vG v u) i ≤ 10000000000000000), k - i < nn → gW Γ δ (uG σ 7 (lN (dD (vT v u) (vG v u) i))) 7 [some (.ref (δ.2.2.1 20)), some (.ref (δ.2.2.1 (8 + u))), some (.int (nI k)), some (.int (nI i)), none, none] [] := by
    intro nn
    induction nn with
    | zero =>
      intro i hi hl hm_7
      exact absurd hm_7 (Nat.not_lt_zero _)
    | succ nn ih_7 =>
      intro i hi hl hm_7
      have K1 : KC (uG σ 7 (lN (dD (vT v u) (vG v u) i))) v := KC_sk (a := σ) (by repeat (first | (with_reducible assumption) | (with_reducible exact gSk_r _) | (with_reducible refine gSk_I (by omega) ?_) | (with_reducible refine gSk_L (by omega) ?_) | (with_reducible refine gSk_N (by omega) ?_) | (with_reducible refine gSk_G (by omega) ?_) | (with_reducible refine gSk_P ?_))) K
      refine g_iload_n C dX0_findBelow_7 rfl ?_
      refine g_iload_n C dX0_findBelow_8 rfl ?_
      refine g_icmp_ge C 52 dX0_findBelow_9 (by decide) (fun c_9 => ?_) (fun c_9 => ?_)
      · have k_9 := gle c_9 (a := k) (b := i) (by first | rfl | assumption | (simp only [glit, nI_add, pk_mul]; done) | (simp only [glit, nI_add, pk_mul]; congr 1; omega) | (simp only [*, glit, nI_add, pk_mul]; congr 1; omega)) (by first | rfl | assumption | (simp only [glit, nI_add, pk_mul]; done) | (simp only [glit, nI_add, pk_mul]; congr 1; omega) | (simp only [*, glit, nI_add, pk_mul]; congr 1; omega)) (by omega) (by omega)
        have ek : k = i := by omega
        subst ek
        refine g_iconst (v := 1) C dX0_findBelow_52 (by decide) ?_
        exact g_iret C E dX0_findBelow_53 rfl rfl ⟨_, rfl, Or.inl ⟨rfl, hl, rfl⟩⟩
      · have k_9 := gnle c_9 (a := k) (b := i) (by first | rfl | assumption | (simp only [glit, nI_add, pk_mul]; done) | (simp only [glit, nI_add, pk_mul]; congr 1; omega) | (simp only [*, glit, nI_add, pk_mul]; congr 1; omega)) (by first | rfl | assumption | (simp only [glit, nI_add, pk_mul]; done) | (simp only [glit, nI_add, pk_mul]; congr 1; omega) | (simp only [*, glit, nI_add, pk_mul]; congr 1; omega)) (by omega) (by omega)
        refine g_aload_n C dX0_findBelow_12 rfl ?_
        refine g_iload_n C dX0_findBelow_13 rfl ?_
        refine g_callSl C sS_X0_53 dX0_findBelow_14 (c_X0_factorAta _ δ _ hu (k := i) (by omega) K1 R) ⟨by decide, by decide⟩ rfl rfl rfl (Nat.le_of_ble_eq_true rfl) (fun r_14 s_14 h_14 => ?_)
        obtain ⟨rfl, rfl⟩ := h_14
        have f1 := dF_1 (vT v u) (vG v u) i
        have f2 := dF_2 hT hG (show i ≤ 12 by omega)
        refine g_lstore C dX0_findBelow_17 (Nat.le_of_ble_eq_true rfl) rfl ?_
        refine g_lv [some _, some _, some _, some _, some _, none] (gs_some (gs_some (gs_some (gs_some (gs_some (gs_none gs_nil)))))) ?_
        refine g_aload_n C dX0_findBelow_19 rfl ?_
        refine g_get C dX0_findBelow_20 iwX0 rfl (wO_A δ _) 8 (Nat.le_of_ble_eq_true rfl) mW119 rfl rfl ?_
        rw [gG_uG, if_pos rfl]
        refine g_ldc2 C dX0_findBelow_23 mW462 ?_
        refine g_lload C dX0_findBelow_26 rfl ?_
        refine g_ldiv C dX0_findBelow_28 (lNz f1 (by omega)) ?_
        refine g_lcmp C dX0_findBelow_29 ?_
        refine g_if_le C 35 dX0_findBelow_30 (by decide) (fun c_30 => ?_) (fun c_30 => ?_)
        · rw [lg_cmp_le] at c_30
          rw [dl_le hl f1 f2] at c_30
          refine g_aload_n C dX0_findBelow_35 rfl ?_
          refine g_dup C dX0_findBelow_36 rfl ?_
          refine g_get C dX0_findBelow_37 iwX0 rfl (wO_A δ _) 8 (Nat.le_of_ble_eq_true rfl) mW119 rfl rfl ?_
          rw [gG_uG, if_pos rfl]
          refine g_lload C dX0_findBelow_40 rfl ?_
          refine g_lmul C dX0_findBelow_42 ?_
          refine g_put C tyX0 dX0_findBelow_43 iwX0 tyX0_ok nmX0 rfl (wO_A δ _) 8 (Nat.le_of_ble_eq_true rfl) mW119 rfl rfl rfl rfl rfl (Nat.le_of_ble_eq_true rfl) (pG_7 δ _ _) ?_
          refine g_iinc (v := nI (i + 1)) C dX0_findBelow_46 rfl (ginc _ 1) rfl ?_
          refine g_lv [some _, some _, some _, some _, some _, none] (gs_some (gs_some (gs_some (gs_some (gs_some (gs_none gs_nil)))))) ?_
          refine g_goto C 7 dX0_findBelow_49 (by decide) ?_
          refine g_lv [some _, some _, some _, some _, none, none] (gs_some (gs_some (gs_some (gs_some (gs_none (gs_none gs_nil)))))) ?_
          rw [uG_uG, lN_mul]
          exact ih_7 (i + 1) (by omega) c_30 (by omega)
        · rw [lg_cmp_le] at c_30
          rw [dl_le hl f1 f2] at c_30
          refine g_iconst (v := 0) C dX0_findBelow_33 (by decide) ?_
          exact g_iret C E dX0_findBelow_34 rfl rfl ⟨_, rfl, Or.inr ⟨rfl, dD_big (i := i) (Nat.not_le.mp c_30) (by omega), _, rfl⟩⟩
  refine g_lv [some _, some _, some _, some _, none, none] (gs_some (gs_some (gs_some (gs_some (gs_none (gs_none gs_nil)))))) ?_
  exact L_7 _ 0 (by omega) (show 1 ≤ 10000000000000000 by decide) (Nat.lt_succ_self _)
set_option maxRecDepth 100000 in
set_option maxHeartbeats 4000000 in
theorem c_X0_letAnyb (l : Launch) (δ : GD) (σ : GS)  : gM l δ yX0_letAny cX0_letAny 1 none 1 23 [.ref (δ.2.2.1 20)] σ (gPv (fun σ' => ∃ f : Nat → Int32, σ' = uI σ 47 f ∧ ∀ j, j < 12 → f j = -1)) := by
  refine g_of (lv0 := [some (.ref (δ.2.2.1 20))]) (by decide) rfl (Nat.le_of_ble_eq_true rfl) (fun Γ hl C E => ?_)
  subst hl
  have C : gC Γ δ cX0_letAny RX0 1 1 23 := C
  refine g_aload_n C dX0_letAny_0 rfl ?_
  refine g_get C dX0_letAny_1 iwX0 rfl (wO_A δ _) 2 (Nat.le_of_ble_eq_true rfl) mW110 rfl rfl ?_
  refine g_iconst (v := (-1)) C dX0_letAny_4 (by decide) ?_
  refine g_callSv C sS_X0_47 dX0_letAny_5 (c_J7_fill_53178 _ δ _ (q := 47) (by omega) _) ⟨by decide, by decide⟩ rfl rfl rfl (Nat.le_of_ble_eq_true rfl) (fun s_5 h_5 => ?_)
  obtain ⟨f, rfl, hf⟩ := h_5
  exact g_vret C E dX0_letAny_8 rfl ⟨rfl, ⟨f, rfl, hf⟩⟩
set_option maxRecDepth 100000 in
set_option maxHeartbeats 4000000 in
theorem c_X0_letOnlyb (l : Launch) (δ : GD) (σ : GS) {i : Nat} (h1 : 1 ≤ i) (hi : i ≤ 12) (c : Int32) : gM l δ yX0_letOnly cX0_letOnly 3 none 0 0 [.ref (δ.2.2.1 20), .int (nI i), .int c] σ (gPv (fun σ' => σ' = uI σ 47 (upd (gI σ 47) (i - 1) c))) := by
  refine g_of (lv0 := [some (.ref (δ.2.2.1 20)), some (.int (nI i)), some (.int c)]) (by decide) rfl (Nat.le_of_ble_eq_true rfl) (fun Γ hl C E => ?_)
  subst hl
  have C : gC Γ δ cX0_letOnly RX0 3 0 0 := C
  refine g_aload_n C dX0_letOnly_0 rfl ?_
  refine g_get C dX0_letOnly_1 iwX0 rfl (wO_A δ _) 2 (Nat.le_of_ble_eq_true rfl) mW110 rfl rfl ?_
  refine g_iload_n C dX0_letOnly_4 rfl ?_
  refine g_iconst (v := 1) C dX0_letOnly_5 (by decide) ?_
  refine g_isub C dX0_letOnly_6 ?_
  refine g_iload_n C dX0_letOnly_7 rfl ?_
  refine g_iastN C dX0_letOnly_8 (k := (i - 1)) (q := 47) (by decide) rfl (gsub1 h1) (show (i - 1) < gLenI 47 from Nat.lt_of_lt_of_eq (show (i - 1) < 12 by omega) rfl) ?_
  exact g_vret C E dX0_letOnly_9 rfl ⟨rfl, rfl⟩
set_option maxRecDepth 100000 in
set_option maxHeartbeats 4000000 in
theorem c_X0_throughb (l : Launch) (δ : GD) (σ : GS) {φ : Nat → Nat} (hφ : ∀ q, q < 13 → gL σ 10 q = lN (φ q)) : gM l δ yX0_through cX0_through 8 (some .long) 0 0 [.ref (δ.2.2.1 20)] σ (gPl (fun r σ' => σ = σ' ∧ r = lN (sN φ 13))) := by
  refine g_of (lv0 := [some (.ref (δ.2.2.1 20)), none, none, none, none, none, none, none]) (by decide) rfl (Nat.le_of_ble_eq_true rfl) (fun Γ hl C E => ?_)
  subst hl
  have C : gC Γ δ cX0_through RX0 8 0 0 := C
  refine g_lconst (v := 0) C dX0_through_0 (by decide) ?_
  refine g_lstore_n C dX0_through_1 (Nat.le_of_ble_eq_true rfl) rfl ?_
  refine g_lv [some _, some _, none, none, none, none, none, none] (gs_some (gs_some (gs_none (gs_none (gs_none (gs_none (gs_none (gs_none gs_nil)))))))) ?_
  refine g_aload_n C dX0_through_2 rfl ?_
  refine g_get C dX0_through_3 iwX0 rfl (wO_A δ _) 5 (Nat.le_of_ble_eq_true rfl) mW113 rfl rfl ?_
  refine g_astore_n C dX0_through_6 (Nat.le_of_ble_eq_true rfl) rfl ?_
  refine g_lv [some _, some _, none, some _, none, none, none, none] (gs_some (gs_some (gs_none (gs_some (gs_none (gs_none (gs_none (gs_none gs_nil)))))))) ?_
  refine g_aload_n C dX0_through_7 rfl ?_
  refine g_alenL C 10 dX0_through_8 (by decide) rfl ?_
  refine g_istore C dX0_through_9 (Nat.le_of_ble_eq_true rfl) rfl ?_
  refine g_lv [some _, some _, none, some _, some _, none, none, none] (gs_some (gs_some (gs_none (gs_some (gs_some (gs_none (gs_none (gs_none gs_nil)))))))) ?_
  refine g_iconst (v := 0) C dX0_through_11 (by decide) ?_
  refine g_istore C dX0_through_12 (Nat.le_of_ble_eq_true rfl) rfl ?_
  refine g_lv [some _, some _, none, some _, some _, some _, none, none] (gs_some (gs_some (gs_none (gs_some (gs_some (gs_some (gs_none (gs_none gs_nil)))))))) ?_
  have L_14 : ∀ (nn : Nat) (i : Nat) (hi : i ≤ 13), 13 - i < nn → gW Γ δ σ 14 [some (.ref (δ.2.2.1 20)), some (.long (lN (sN φ i))), none, some (.ref (δ.2.2.1 92)), some (.int (nI 13)), some (.int (nI i)), none, none] [] := by
    intro nn
    induction nn with
    | zero =>
      intro i hi hm_14
      exact absurd hm_14 (Nat.not_lt_zero _)
    | succ nn ih_14 =>
      intro i hi hm_14
      refine g_iload C dX0_through_14 rfl ?_
      refine g_iload C dX0_through_16 rfl ?_
      refine g_icmp_ge C 38 dX0_through_18 (by decide) (fun c_18 => ?_) (fun c_18 => ?_)
      · have k_18 := gle c_18 (a := 13) (b := i) (by first | rfl | assumption | (simp only [glit, nI_add, pk_mul]; done) | (simp only [glit, nI_add, pk_mul]; congr 1; omega) | (simp only [*, glit, nI_add, pk_mul]; congr 1; omega)) (by first | rfl | assumption | (simp only [glit, nI_add, pk_mul]; done) | (simp only [glit, nI_add, pk_mul]; congr 1; omega) | (simp only [*, glit, nI_add, pk_mul]; congr 1; omega)) (by omega) (by omega)
        refine g_lload_n C dX0_through_38 rfl ?_
        exact g_lret C E dX0_through_39 rfl ⟨_, rfl, ⟨rfl, by rw [show i = 13 by omega]⟩⟩
      · have k_18 := gnle c_18 (a := 13) (b := i) (by first | rfl | assumption | (simp only [glit, nI_add, pk_mul]; done) | (simp only [glit, nI_add, pk_mul]; congr 1; omega) | (simp only [*, glit, nI_add, pk_mul]; congr 1; omega)) (by first | rfl | assumption | (simp only [glit, nI_add, pk_mul]; done) | (simp only [glit, nI_add, pk_mul]; congr 1; omega) | (simp only [*, glit, nI_add, pk_mul]; congr 1; omega)) (by omega) (by omega)
        refine g_aload_n C dX0_through_21 rfl ?_
        refine g_iload C dX0_through_22 rfl ?_
        refine g_laldN C dX0_through_24 (k := i) (q := 10) (by decide) rfl (by first | rfl | assumption | (simp only [glit, nI_add, pk_mul]; done) | (simp only [glit, nI_add, pk_mul]; congr 1; omega) | (simp only [*, glit, nI_add, pk_mul]; congr 1; omega)) (show i < gLenL 10 from Nat.lt_of_lt_of_eq (show i < 13 by omega) rfl) ?_
        rw [hφ i (by omega)]
        refine g_lstore C dX0_through_25 (Nat.le_of_ble_eq_true rfl) rfl ?_
        refine g_lv [some _, some _, none, some _, some _, some _, some _, none] (gs_some (gs_some (gs_none (gs_some (gs_some (gs_some (gs_some (gs_none gs_nil)))))))) ?_
        refine g_lload_n C dX0_through_27 rfl ?_
        refine g_lload C dX0_through_28 rfl ?_
        refine g_ladd C dX0_through_30 ?_
        rw [lN_add]
        refine g_lstore_n C dX0_through_31 (Nat.le_of_ble_eq_true rfl) rfl ?_
        refine g_lv [some _, some _, none, some _, some _, some _, some _, none] (gs_some (gs_some (gs_none (gs_some (gs_some (gs_some (gs_some (gs_none gs_nil)))))))) ?_
        refine g_iinc (v := nI (i + 1)) C dX0_through_32 rfl (ginc _ 1) rfl ?_
        refine g_lv [some _, some _, none, some _, some _, some _, some _, none] (gs_some (gs_some (gs_none (gs_some (gs_some (gs_some (gs_some (gs_none gs_nil)))))))) ?_
        refine g_goto C 14 dX0_through_35 (by decide) ?_
        refine g_lv [some _, some _, none, some _, some _, some _, none, none] (gs_some (gs_some (gs_none (gs_some (gs_some (gs_some (gs_none (gs_none gs_nil)))))))) ?_
        exact ih_14 (i + 1) (by omega) (by omega)
  refine g_lv [some _, some _, none, some _, some _, some _, none, none] (gs_some (gs_some (gs_none (gs_some (gs_some (gs_some (gs_none (gs_none gs_nil)))))))) ?_
  exact L_14 _ 0 (by omega) (Nat.lt_succ_self _)
set_option maxRecDepth 100000 in
set_option maxHeartbeats 4000000 in
theorem c_X0_countRowsb (l : Launch) (δ : GD) (σ : GS) {u : Nat} (hu : u < 8) {k : Nat} (hk : k ≤ 12) {al : Nat → Nat → Prop} (hal : ∀ j, j < k → ∀ c, c < 4 → ((gI σ 47 j < 0 ∨ gI σ 47 j = nI c) ↔ al j c)) (hZ : ZA σ) {v : GV} (K : KC σ v) (R : RV v) : gM l δ yX0_countRows cX0_countRows 3 (some .long) 4 110 [.ref (δ.2.2.1 20), .ref (δ.2.2.1 (8 + u)), .int (nI k)] σ (gPl (fun r σ' => StU σ σ' ∧ ZA σ' ∧ r = lN (sN (wW false (bS (vS v) u) (tS (vS v) u) al k) 2197))) := by
  refine g_of (lv0 := [some (.ref (δ.2.2.1 20)), some (.ref (δ.2.2.1 (8 + u))), some (.int (nI k))]) (by decide) rfl (Nat.le_of_ble_eq_true rfl) (fun Γ hl C E => ?_)
  subst hl
  have C : gC Γ δ cX0_countRows RX0 3 4 110 := C
  refine g_aload_n C dX0_countRows_0 rfl ?_
  refine g_aload_n C dX0_countRows_1 rfl ?_
  refine g_iload_n C dX0_countRows_2 rfl ?_
  refine g_iconst (v := 0) C dX0_countRows_3 (by decide) ?_
  refine g_iconst (v := 0) C dX0_countRows_4 (by decide) ?_
  refine g_callVv C sV_X0_69 dX0_countRows_5 (c_X0_walkb0 _ δ _ hu (c := 0) hk (by omega) hal hZ K R (wF_hb R hu hk al)) ⟨by decide, by decide⟩ (wO_A δ _) rfl rfl rfl rfl (Nat.le_of_ble_eq_true rfl) (fun s_5 h_5 => ?_)
  obtain ⟨hU, hZ2, hF, -⟩ := h_5
  refine g_aload_n C dX0_countRows_8 rfl ?_
  refine g_callVl C sV_X0_73 dX0_countRows_9 (c_X0_throughb _ δ _ hF.2.1) ⟨by decide, by decide⟩ (wO_A δ _) rfl rfl rfl rfl (Nat.le_of_ble_eq_true rfl) (fun r_9 s_9 h_9 => ?_)
  obtain ⟨rfl, rfl⟩ := h_9
  exact g_lret C E dX0_countRows_12 rfl ⟨_, rfl, ⟨hU, hZ2, by rw [tX_sum (wA_13 R hu hk (by omega))]⟩⟩
set_option maxRecDepth 100000 in
set_option maxHeartbeats 4000000 in
theorem c_X0_weighb (l : Launch) (δ : GD) (σ : GS) {u : Nat} (hu : u < 8) {k c : Nat} (hk : k ≤ 12) (hc : c < 4) {al : Nat → Nat → Prop} (hal : ∀ j, j < k → ∀ c, c < 4 → ((gI σ 47 j < 0 ∨ gI σ 47 j = nI c) ↔ al j c)) (hZ : ZA σ) {v : GV} (K : KC σ v) (R : RV v) (he : gEv4 (tS (vS v) u) (vC v u)) (hD : dD (vT v u) (vG v u) k ≤ 10000000000000000) : gM l δ yX0_weigh cX0_weigh 4 none 4 110 [.ref (δ.2.2.1 20), .ref (δ.2.2.1 (8 + u)), .int (nI k), .int (nI c)] σ (gPv (fun σ' => StU σ σ' ∧ ZA σ' ∧ Fin (bS (vS v) u) (tS (vS v) u) (wW true (bS (vS v) u) (tS (vS v) u) al k) k c σ' ∧ gG σ' 6 = lN (wE (bS (vS v) u) (tS (vS v) u) al (vT v u) (vG v u) k))) := by
  refine g_of (lv0 := [some (.ref (δ.2.2.1 20)), some (.ref (δ.2.2.1 (8 + u))), some (.int (nI k)), some (.int (nI c))]) (by decide) rfl (Nat.le_of_ble_eq_true rfl) (fun Γ hl C E => ?_)
  subst hl
  have C : gC Γ δ cX0_weigh RX0 4 4 110 := C
  refine g_aload_n C dX0_weigh_0 rfl ?_
  refine g_aload_n C dX0_weigh_1 rfl ?_
  refine g_iload_n C dX0_weigh_2 rfl ?_
  refine g_iload_n C dX0_weigh_3 rfl ?_
  refine g_iconst (v := 1) C dX0_weigh_4 (by decide) ?_
  refine g_callVv C sV_X0_69 dX0_weigh_5 (c_X0_walkb1 _ δ _ hu hk hc hal hZ K R (wA_hb R hu he hk hD al)) ⟨by decide, by decide⟩ (wO_A δ _) rfl rfl rfl rfl (Nat.le_of_ble_eq_true rfl) (fun s_5 h_5 => ?_)
  skip
  exact g_vret C E dX0_weigh_8 rfl ⟨rfl, ⟨h_5.1, h_5.2.1, h_5.2.2.1, h_5.2.2.2 rfl⟩⟩
set_option maxRecDepth 100000 in
set_option maxHeartbeats 4000000 in
theorem c_X8_weighRowsb (l : Launch) (δ : GD) (σ : GS) {u : Nat} (hu : u < 8) {k c : Nat} (hk : k ≤ 12) (hc : c < 4) (hZ : ZA σ) {v : GV} (K : KC σ v) (R : RV v) : gM l δ yX8_weighRows cX8_weighRows 4 (some .int) 5 133 [.ref (δ.2.2.1 0), .ref (δ.2.2.1 (8 + u)), .int (nI k), .int (nI c)] σ (gPi (fun x σ' => x = aEv v u k ∧ gSk σ σ' ∧ ZA σ' ∧ (∀ q, q < 4 → gG σ' q = gG σ q) ∧ (x = 0 → gEv4 (tS (vS v) u) (vC v u) ∧ dD (vT v u) (vG v u) k ≤ 10000000000000000 ∧ gG σ' 7 = lN (dD (vT v u) (vG v u) k) ∧ Fin (bS (vS v) u) (tS (vS v) u) (wW true (bS (vS v) u) (tS (vS v) u) alA k) k c σ' ∧ gG σ' 6 = lN (wE (bS (vS v) u) (tS (vS v) u) alA (vT v u) (vG v u) k)))) := by
  refine g_of (lv0 := [some (.ref (δ.2.2.1 0)), some (.ref (δ.2.2.1 (8 + u))), some (.int (nI k)), some (.int (nI c))]) (by decide) rfl (Nat.le_of_ble_eq_true rfl) (fun Γ hl C E => ?_)
  subst hl
  have C : gC Γ δ cX8_weighRows RX8 4 5 133 := C
  have hn := K.2.1 u hu
  have h4 := RV_n R hu
  have hT := vT_b R hu
  have hG := vG_b R hu
  refine g_aload_n C dX8_weighRows_0 rfl ?_
  refine g_callVi C sV_X8_136 dX8_weighRows_1 (c_X7_isEven _ δ _ hu hn h4) ⟨by decide, by decide⟩ (wO_U δ _ hu) rfl rfl rfl rfl (Nat.le_of_ble_eq_true rfl) (fun r_1 s_1 h_1 => ?_)
  obtain ⟨rfl, h_1⟩ := h_1
  rcases h_1 with ⟨rfl, h_1⟩ | ⟨rfl, h_1⟩
  · have he := (KC_ev K R hu).mp h_1
    refine g_if_eq C 14 dX8_weighRows_4 (by decide) (fun c_4 => ?_) (fun c_4 => ?_)
    · exact absurd c_4 (by decide)
    · refine g_aload_n C dX8_weighRows_7 rfl ?_
      refine g_callVi C sV_X8_129 dX8_weighRows_8 (c_X7_total _ δ _ hu) ⟨by decide, by decide⟩ (wO_U δ _ hu) rfl rfl rfl rfl (Nat.le_of_ble_eq_true rfl) (fun r_8 s_8 h_8 => ?_)
      obtain ⟨rfl, rfl⟩ := h_8
      rw [KC_sum K hu]
      refine g_if_ne C 17 dX8_weighRows_11 (by decide) (fun c_11 => ?_) (fun c_11 => ?_)
      · refine g_aload_n C dX8_weighRows_17 rfl ?_
        refine g_get C dX8_weighRows_18 iwX8 rfl (wO_X δ _) 6 (Nat.le_of_ble_eq_true rfl) mW223 rfl rfl ?_
        refine g_aload_n C dX8_weighRows_21 rfl ?_
        refine g_iload_n C dX8_weighRows_22 rfl ?_
        refine g_callVi C sV_X8_228 dX8_weighRows_23 (c_X0_findBelowb _ δ _ hu hk K R) ⟨by decide, by decide⟩ (wO_A δ _) rfl rfl rfl rfl (Nat.le_of_ble_eq_true rfl) (fun r_23 s_23 h_23 => ?_)
        rcases h_23 with ⟨rfl, hl, rfl⟩ | ⟨rfl, hl, y, rfl⟩
        · skip
          refine g_if_ne C 32 dX8_weighRows_26 (by decide) (fun c_26 => ?_) (fun c_26 => ?_)
          · refine g_aload_n C dX8_weighRows_32 rfl ?_
            refine g_get C dX8_weighRows_33 iwX8 rfl (wO_X δ _) 6 (Nat.le_of_ble_eq_true rfl) mW223 rfl rfl ?_
            refine g_callVv C sV_X8_218 dX8_weighRows_36 (c_X0_letAnyb _ δ _) ⟨by decide, by decide⟩ (wO_A δ _) rfl rfl rfl rfl (Nat.le_of_ble_eq_true rfl) (fun s_36 h_36 => ?_)
            obtain ⟨f, rfl, hf⟩ := h_36
            refine g_aload_n C dX8_weighRows_39 rfl ?_
            refine g_get C dX8_weighRows_40 iwX8 rfl (wO_X δ _) 6 (Nat.le_of_ble_eq_true rfl) mW223 rfl rfl ?_
            refine g_aload_n C dX8_weighRows_43 rfl ?_
            refine g_iload_n C dX8_weighRows_44 rfl ?_
            refine g_iload_n C dX8_weighRows_45 rfl ?_
            refine g_callVv C sV_X8_232 dX8_weighRows_46 (c_X0_weighb _ δ (uI (uG σ 7 (lN (dD (vT v u) (vG v u) k))) 47 f) hu hk hc (al := alA) (halA hf hk) hZ (KC_sk (a := σ) (by repeat (first | (with_reducible assumption) | (with_reducible exact gSk_r _) | (with_reducible refine gSk_I (by omega) ?_) | (with_reducible refine gSk_L (by omega) ?_) | (with_reducible refine gSk_N (by omega) ?_) | (with_reducible refine gSk_G (by omega) ?_) | (with_reducible refine gSk_P ?_))) K) R he hl) ⟨by decide, by decide⟩ (wO_A δ _) rfl rfl rfl rfl (Nat.le_of_ble_eq_true rfl) (fun s_46 h_46 => ?_)
            obtain ⟨hU, hZ2, hF, hE⟩ := h_46
            refine g_iconst (v := 0) C dX8_weighRows_49 (by decide) ?_
            exact g_iret C E dX8_weighRows_50 rfl rfl ⟨_, rfl, ⟨(aEv_0 he c_11 hl).symm, gSk_t (by repeat (first | (with_reducible assumption) | (with_reducible exact gSk_r _) | (with_reducible refine gSk_I (by omega) ?_) | (with_reducible refine gSk_L (by omega) ?_) | (with_reducible refine gSk_N (by omega) ?_) | (with_reducible refine gSk_G (by omega) ?_) | (with_reducible refine gSk_P ?_))) hU.1, hZ2, fun q hq => (hU.2.2.2 q hq).trans (if_neg (show ¬ q = 7 by omega)), fun _ => ⟨he, hl, hU.2.2.1, hF, hE⟩⟩⟩
          · exact absurd c_26 (by decide)
        · skip
          refine g_if_ne C 32 dX8_weighRows_26 (by decide) (fun c_26 => ?_) (fun c_26 => ?_)
          · exact absurd c_26 (by decide)
          · refine g_bipush (v := (-6)) C dX8_weighRows_29 (by decide) ?_
            exact g_iret C E dX8_weighRows_31 rfl rfl ⟨_, rfl, ⟨(aEv_b he c_11 hl).symm, (by repeat (first | (with_reducible assumption) | (with_reducible exact gSk_r _) | (with_reducible refine gSk_I (by omega) ?_) | (with_reducible refine gSk_L (by omega) ?_) | (with_reducible refine gSk_N (by omega) ?_) | (with_reducible refine gSk_G (by omega) ?_) | (with_reducible refine gSk_P ?_))), hZ, fun q hq => by rw [gG_uG, if_neg (show ¬ q = 7 by omega)], fun h => absurd h (by decide)⟩⟩
      · refine g_bipush (v := (-2)) C dX8_weighRows_14 (by decide) ?_
        exact g_iret C E dX8_weighRows_16 rfl rfl ⟨_, rfl, ⟨by first | exact (aEv_e (Or.inl he)).symm | exact (aEv_e (Or.inr c_11)).symm, (by repeat (first | (with_reducible assumption) | (with_reducible exact gSk_r _) | (with_reducible refine gSk_I (by omega) ?_) | (with_reducible refine gSk_L (by omega) ?_) | (with_reducible refine gSk_N (by omega) ?_) | (with_reducible refine gSk_G (by omega) ?_) | (with_reducible refine gSk_P ?_))), hZ, fun _ _ => rfl, fun h => absurd h (by decide)⟩⟩
  · have he := fun z => h_1 ((KC_ev K R hu).mpr z)
    refine g_if_eq C 14 dX8_weighRows_4 (by decide) (fun c_4 => ?_) (fun c_4 => ?_)
    · refine g_bipush (v := (-2)) C dX8_weighRows_14 (by decide) ?_
      exact g_iret C E dX8_weighRows_16 rfl rfl ⟨_, rfl, ⟨by first | exact (aEv_e (Or.inl he)).symm | exact (aEv_e (Or.inr c_11)).symm, (by repeat (first | (with_reducible assumption) | (with_reducible exact gSk_r _) | (with_reducible refine gSk_I (by omega) ?_) | (with_reducible refine gSk_L (by omega) ?_) | (with_reducible refine gSk_N (by omega) ?_) | (with_reducible refine gSk_G (by omega) ?_) | (with_reducible refine gSk_P ?_))), hZ, fun _ _ => rfl, fun h => absurd h (by decide)⟩⟩
    · exact absurd c_4 (by decide)
set_option maxRecDepth 100000 in
set_option maxHeartbeats 4000000 in
theorem c_X0_findMeanb (l : Launch) (δ : GD) (σ : GS) {m D : Nat} (hm1 : 1 ≤ m) (hm : m ≤ 3) {B : Nat → Nat} (hD1 : 1 ≤ D) (hD2 : D ≤ 10000000000000000) (hB : ∀ z, z < 201 → gL σ 11 z = lN (B z)) (hB2 : ∀ z, z < 201 → B z ≤ D) (hd : gG σ 7 = lN D) : gM l δ yX0_findMean cX0_findMean 10 none 0 0 [.ref (δ.2.2.1 20), .int (nI m)] σ (gPv (fun σ' => σ' = (uG (uG σ 8 (lN (sN (fun z => B z * z ^ m) 201 / D))) 9 (lN (sN (fun z => B z * z ^ m) 201 % D))))) := by
  refine g_of (lv0 := [some (.ref (δ.2.2.1 20)), some (.int (nI m)), none, none, none, none, none, none, none, none]) (by decide) rfl (Nat.le_of_ble_eq_true rfl) (fun Γ hl C E => ?_)
  subst hl
  have C : gC Γ δ cX0_findMean RX0 10 0 0 := C
  refine g_aload_n C dX0_findMean_0 rfl ?_
  refine g_lconst (v := 0) C dX0_findMean_1 (by decide) ?_
  refine g_put C tyX0 dX0_findMean_2 iwX0 tyX0_ok nmX0 rfl (wO_A δ _) 9 (Nat.le_of_ble_eq_true rfl) mW121 rfl rfl rfl rfl rfl (Nat.le_of_ble_eq_true rfl) (pG_8 δ _ _) ?_
  refine g_aload_n C dX0_findMean_5 rfl ?_
  refine g_lconst (v := 0) C dX0_findMean_6 (by decide) ?_
  refine g_put C tyX0 dX0_findMean_7 iwX0 tyX0_ok nmX0 rfl (wO_A δ _) 10 (Nat.le_of_ble_eq_true rfl) mW123 rfl rfl rfl rfl rfl (Nat.le_of_ble_eq_true rfl) (pG_9 δ _ _) ?_
  refine g_aload_n C dX0_findMean_10 rfl ?_
  refine g_get C dX0_findMean_11 iwX0 rfl (wO_A δ _) 8 (Nat.le_of_ble_eq_true rfl) mW119 rfl rfl ?_
  rw [gG_uG, if_neg (by decide), gG_uG, if_neg (by decide), hd]
  refine g_lconst (v := 1) C dX0_findMean_14 (by decide) ?_
  refine g_lcmp C dX0_findMean_15 ?_
  refine g_if_ge C 20 dX0_findMean_16 (by decide) (fun c_16 => ?_) (fun c_16 => ?_)
  · rw [lg_cmp_ge] at c_16
    refine g_iconst (v := 1) C dX0_findMean_20 (by decide) ?_
    refine g_istore_n C dX0_findMean_21 (Nat.le_of_ble_eq_true rfl) rfl ?_
    refine g_lv [some _, some _, some _, none, none, none, none, none, none, none] (gs_some (gs_some (gs_some (gs_none (gs_none (gs_none (gs_none (gs_none (gs_none (gs_none gs_nil)))))))))) ?_
    have L_22 : ∀ (nn : Nat) (x : Nat) (hx : 1 ≤ x) (hx2 : x ≤ 201), 201 - x < nn → gW Γ δ (uG (uG σ 8 (lN (sN (fun z => B z * z ^ m) x / D))) 9 (lN (sN (fun z => B z * z ^ m) x % D))) 22 [some (.ref (δ.2.2.1 20)), some (.int (nI m)), some (.int (nI x)), none, none, none, none, none, none, none] [] := by
      intro nn
      induction nn with
      | zero =>
        intro x hx hx2 hm_22
        exact absurd hm_22 (Nat.not_lt_zero _)
      | succ nn ih_22 =>
        intro x hx hx2 hm_22
        refine g_iload_n C dX0_findMean_22 rfl ?_
        refine g_sipush (v := 200) C dX0_findMean_23 (by decide) ?_
        refine g_icmp_gt C 137 dX0_findMean_26 (by decide) (fun c_26 => ?_) (fun c_26 => ?_)
        · have k_26 := glt c_26 (a := 200) (b := x) (by first | rfl | assumption | (simp only [glit, nI_add, pk_mul]; done) | (simp only [glit, nI_add, pk_mul]; congr 1; omega) | (simp only [*, glit, nI_add, pk_mul]; congr 1; omega)) (by first | rfl | assumption | (simp only [glit, nI_add, pk_mul]; done) | (simp only [glit, nI_add, pk_mul]; congr 1; omega) | (simp only [*, glit, nI_add, pk_mul]; congr 1; omega)) (by omega) (by omega)
          have ex : x = 201 := by omega
          subst ex
          exact g_vret C E dX0_findMean_137 rfl ⟨rfl, rfl⟩
        · have k_26 := gnlt c_26 (a := 200) (b := x) (by first | rfl | assumption | (simp only [glit, nI_add, pk_mul]; done) | (simp only [glit, nI_add, pk_mul]; congr 1; omega) | (simp only [*, glit, nI_add, pk_mul]; congr 1; omega)) (by first | rfl | assumption | (simp only [glit, nI_add, pk_mul]; done) | (simp only [glit, nI_add, pk_mul]; congr 1; omega) | (simp only [*, glit, nI_add, pk_mul]; congr 1; omega)) (by omega) (by omega)
          refine g_lconst (v := 0) C dX0_findMean_29 (by decide) ?_
          refine g_lstore_n C dX0_findMean_30 (Nat.le_of_ble_eq_true rfl) rfl ?_
          refine g_lv [some _, some _, some _, some _, none, none, none, none, none, none] (gs_some (gs_some (gs_some (gs_some (gs_none (gs_none (gs_none (gs_none (gs_none (gs_none gs_nil)))))))))) ?_
          refine g_aload_n C dX0_findMean_31 rfl ?_
          refine g_get C dX0_findMean_32 iwX0 rfl (wO_A δ _) 6 (Nat.le_of_ble_eq_true rfl) mW115 rfl rfl ?_
          refine g_iload_n C dX0_findMean_35 rfl ?_
          refine g_laldN C dX0_findMean_36 (k := x) (q := 11) (by decide) rfl (by first | rfl | assumption | (simp only [glit, nI_add, pk_mul]; done) | (simp only [glit, nI_add, pk_mul]; congr 1; omega) | (simp only [*, glit, nI_add, pk_mul]; congr 1; omega)) (show x < gLenL 11 from Nat.lt_of_lt_of_eq (show x < 201 by omega) rfl) ?_
          rw [gL_uG, gL_uG, hB x (by omega)]
          refine g_lstore C dX0_findMean_37 (Nat.le_of_ble_eq_true rfl) rfl ?_
          refine g_lv [some _, some _, some _, some _, none, some _, none, none, none, none] (gs_some (gs_some (gs_some (gs_some (gs_none (gs_some (gs_none (gs_none (gs_none (gs_none gs_nil)))))))))) ?_
          refine g_iconst (v := 0) C dX0_findMean_39 (by decide) ?_
          refine g_istore C dX0_findMean_40 (Nat.le_of_ble_eq_true rfl) rfl ?_
          refine g_lv [some _, some _, some _, some _, none, some _, none, some _, none, none] (gs_some (gs_some (gs_some (gs_some (gs_none (gs_some (gs_none (gs_some (gs_none (gs_none gs_nil)))))))))) ?_
          have L_42 : ∀ (nn : Nat) (i w r : Nat) (hi : i ≤ m) (hr : r ≤ D) (hw : w * D + r = B x * x ^ i), m - i < nn → gW Γ δ (uG (uG σ 8 (lN (sN (fun z => B z * z ^ m) x / D))) 9 (lN (sN (fun z => B z * z ^ m) x % D))) 42 [some (.ref (δ.2.2.1 20)), some (.int (nI m)), some (.int (nI x)), some (.long (lN w)), none, some (.long (lN r)), none, some (.int (nI i)), none, none] [] := by
            intro nn
            induction nn with
            | zero =>
              intro i w r hi hr hw hm_42
              exact absurd hm_42 (Nat.not_lt_zero _)
            | succ nn ih_42 =>
              intro i w r hi hr hw hm_42
              have hrx : r * x ≤ 10000000000000000 * 200 := Nat.mul_le_mul (by omega) (by omega)
              have hw0 := mn_w hD1 hw (hB2 x (by omega)) (show x ≤ 200 by omega) (show i ≤ 3 by omega)
              have hSm : sN (fun z => B z * z ^ m) x % D < D := Nat.mod_lt _ hD1
              refine g_iload C dX0_findMean_42 rfl ?_
              refine g_iload_n C dX0_findMean_44 rfl ?_
              refine g_icmp_ge C 92 dX0_findMean_45 (by decide) (fun c_45 => ?_) (fun c_45 => ?_)
              · have k_45 := gle c_45 (a := m) (b := i) (by first | rfl | assumption | (simp only [glit, nI_add, pk_mul]; done) | (simp only [glit, nI_add, pk_mul]; congr 1; omega) | (simp only [*, glit, nI_add, pk_mul]; congr 1; omega)) (by first | rfl | assumption | (simp only [glit, nI_add, pk_mul]; done) | (simp only [glit, nI_add, pk_mul]; congr 1; omega) | (simp only [*, glit, nI_add, pk_mul]; congr 1; omega)) (by omega) (by omega)
                have hwm : w * D + r = B x * x ^ m := by rw [show m = i by omega]; exact hw
                refine g_aload_n C dX0_findMean_92 rfl ?_
                refine g_dup C dX0_findMean_93 rfl ?_
                refine g_get C dX0_findMean_94 iwX0 rfl (wO_A δ _) 9 (Nat.le_of_ble_eq_true rfl) mW121 rfl rfl ?_
                rw [gG_uG, if_neg (by decide), gG_uG, if_pos rfl]
                refine g_lload_n C dX0_findMean_97 rfl ?_
                refine g_aload_n C dX0_findMean_98 rfl ?_
                refine g_get C dX0_findMean_99 iwX0 rfl (wO_A δ _) 10 (Nat.le_of_ble_eq_true rfl) mW123 rfl rfl ?_
                rw [gG_uG, if_pos rfl]
                refine g_lload C dX0_findMean_102 rfl ?_
                refine g_ladd C dX0_findMean_104 ?_
                rw [lN_add]
                refine g_aload_n C dX0_findMean_105 rfl ?_
                refine g_get C dX0_findMean_106 iwX0 rfl (wO_A δ _) 8 (Nat.le_of_ble_eq_true rfl) mW119 rfl rfl ?_
                rw [gG_uG, if_neg (by decide), gG_uG, if_neg (by decide), hd]
                refine g_ldiv C dX0_findMean_109 (lNz hD1 (by omega)) ?_
                rw [pk_lDiv (by omega) (by omega) (by omega)]
                refine g_ladd C dX0_findMean_110 ?_
                rw [lN_add]
                refine g_ladd C dX0_findMean_111 ?_
                rw [lN_add]
                refine g_put C tyX0 dX0_findMean_112 iwX0 tyX0_ok nmX0 rfl (wO_A δ _) 9 (Nat.le_of_ble_eq_true rfl) mW121 rfl rfl rfl rfl rfl (Nat.le_of_ble_eq_true rfl) (pG_8 δ _ _) ?_
                refine g_aload_n C dX0_findMean_115 rfl ?_
                refine g_aload_n C dX0_findMean_116 rfl ?_
                refine g_get C dX0_findMean_117 iwX0 rfl (wO_A δ _) 10 (Nat.le_of_ble_eq_true rfl) mW123 rfl rfl ?_
                rw [gG_uG, if_neg (by decide), gG_uG, if_pos rfl]
                refine g_lload C dX0_findMean_120 rfl ?_
                refine g_ladd C dX0_findMean_122 ?_
                rw [lN_add]
                refine g_aload_n C dX0_findMean_123 rfl ?_
                refine g_get C dX0_findMean_124 iwX0 rfl (wO_A δ _) 8 (Nat.le_of_ble_eq_true rfl) mW119 rfl rfl ?_
                rw [gG_uG, if_neg (by decide), gG_uG, if_neg (by decide), gG_uG, if_neg (by decide), hd]
                refine g_lrem C dX0_findMean_127 (lNz hD1 (by omega)) ?_
                rw [pk_lRem (by omega) (by omega) (by omega)]
                refine g_put C tyX0 dX0_findMean_128 iwX0 tyX0_ok nmX0 rfl (wO_A δ _) 10 (Nat.le_of_ble_eq_true rfl) mW123 rfl rfl rfl rfl rfl (Nat.le_of_ble_eq_true rfl) (pG_9 δ _ _) ?_
                refine g_iinc (v := nI (x + 1)) C dX0_findMean_131 rfl (ginc _ 1) rfl ?_
                refine g_lv [some _, some _, some _, some _, none, some _, none, some _, none, none] (gs_some (gs_some (gs_some (gs_some (gs_none (gs_some (gs_none (gs_some (gs_none (gs_none gs_nil)))))))))) ?_
                refine g_goto C 22 dX0_findMean_134 (by decide) ?_
                refine g_lv [some _, some _, some _, none, none, none, none, none, none, none] (gs_some (gs_some (gs_some (gs_none (gs_none (gs_none (gs_none (gs_none (gs_none (gs_none gs_nil)))))))))) ?_
                rw [u89, ← (mn_o (S := sN (fun z => B z * z ^ m) x) hD1 hwm).1, ← (mn_o (S := sN (fun z => B z * z ^ m) x) hD1 hwm).2]
                exact ih_22 (x + 1) (by omega) (by omega) (by omega)
              · have k_45 := gnle c_45 (a := m) (b := i) (by first | rfl | assumption | (simp only [glit, nI_add, pk_mul]; done) | (simp only [glit, nI_add, pk_mul]; congr 1; omega) | (simp only [*, glit, nI_add, pk_mul]; congr 1; omega)) (by first | rfl | assumption | (simp only [glit, nI_add, pk_mul]; done) | (simp only [glit, nI_add, pk_mul]; congr 1; omega) | (simp only [*, glit, nI_add, pk_mul]; congr 1; omega)) (by omega) (by omega)
                refine g_lload C dX0_findMean_48 rfl ?_
                refine g_lload_n C dX0_findMean_50 rfl ?_
                refine g_ladd C dX0_findMean_51 ?_
                rw [lN_add]
                refine g_lconst (v := 0) C dX0_findMean_52 (by decide) ?_
                refine g_lcmp C dX0_findMean_53 ?_
                refine g_if_le C 92 dX0_findMean_54 (by decide) (fun c_54 => ?_) (fun c_54 => ?_)
                · rw [lg_cmp_le] at c_54
                  have hwm := mn_0 (m := m) hw hx ((lN_le0 (by omega)).mp c_54)
                  refine g_aload_n C dX0_findMean_92 rfl ?_
                  refine g_dup C dX0_findMean_93 rfl ?_
                  refine g_get C dX0_findMean_94 iwX0 rfl (wO_A δ _) 9 (Nat.le_of_ble_eq_true rfl) mW121 rfl rfl ?_
                  rw [gG_uG, if_neg (by decide), gG_uG, if_pos rfl]
                  refine g_lload_n C dX0_findMean_97 rfl ?_
                  refine g_aload_n C dX0_findMean_98 rfl ?_
                  refine g_get C dX0_findMean_99 iwX0 rfl (wO_A δ _) 10 (Nat.le_of_ble_eq_true rfl) mW123 rfl rfl ?_
                  rw [gG_uG, if_pos rfl]
                  refine g_lload C dX0_findMean_102 rfl ?_
                  refine g_ladd C dX0_findMean_104 ?_
                  rw [lN_add]
                  refine g_aload_n C dX0_findMean_105 rfl ?_
                  refine g_get C dX0_findMean_106 iwX0 rfl (wO_A δ _) 8 (Nat.le_of_ble_eq_true rfl) mW119 rfl rfl ?_
                  rw [gG_uG, if_neg (by decide), gG_uG, if_neg (by decide), hd]
                  refine g_ldiv C dX0_findMean_109 (lNz hD1 (by omega)) ?_
                  rw [pk_lDiv (by omega) (by omega) (by omega)]
                  refine g_ladd C dX0_findMean_110 ?_
                  rw [lN_add]
                  refine g_ladd C dX0_findMean_111 ?_
                  rw [lN_add]
                  refine g_put C tyX0 dX0_findMean_112 iwX0 tyX0_ok nmX0 rfl (wO_A δ _) 9 (Nat.le_of_ble_eq_true rfl) mW121 rfl rfl rfl rfl rfl (Nat.le_of_ble_eq_true rfl) (pG_8 δ _ _) ?_
                  refine g_aload_n C dX0_findMean_115 rfl ?_
                  refine g_aload_n C dX0_findMean_116 rfl ?_
                  refine g_get C dX0_findMean_117 iwX0 rfl (wO_A δ _) 10 (Nat.le_of_ble_eq_true rfl) mW123 rfl rfl ?_
                  rw [gG_uG, if_neg (by decide), gG_uG, if_pos rfl]
                  refine g_lload C dX0_findMean_120 rfl ?_
                  refine g_ladd C dX0_findMean_122 ?_
                  rw [lN_add]
                  refine g_aload_n C dX0_findMean_123 rfl ?_
                  refine g_get C dX0_findMean_124 iwX0 rfl (wO_A δ _) 8 (Nat.le_of_ble_eq_true rfl) mW119 rfl rfl ?_
                  rw [gG_uG, if_neg (by decide), gG_uG, if_neg (by decide), gG_uG, if_neg (by decide), hd]
                  refine g_lrem C dX0_findMean_127 (lNz hD1 (by omega)) ?_
                  rw [pk_lRem (by omega) (by omega) (by omega)]
                  refine g_put C tyX0 dX0_findMean_128 iwX0 tyX0_ok nmX0 rfl (wO_A δ _) 10 (Nat.le_of_ble_eq_true rfl) mW123 rfl rfl rfl rfl rfl (Nat.le_of_ble_eq_true rfl) (pG_9 δ _ _) ?_
                  refine g_iinc (v := nI (x + 1)) C dX0_findMean_131 rfl (ginc _ 1) rfl ?_
                  refine g_lv [some _, some _, some _, some _, none, some _, none, some _, none, none] (gs_some (gs_some (gs_some (gs_some (gs_none (gs_some (gs_none (gs_some (gs_none (gs_none gs_nil)))))))))) ?_
                  refine g_goto C 22 dX0_findMean_134 (by decide) ?_
                  refine g_lv [some _, some _, some _, none, none, none, none, none, none, none] (gs_some (gs_some (gs_some (gs_none (gs_none (gs_none (gs_none (gs_none (gs_none (gs_none gs_nil)))))))))) ?_
                  rw [u89, ← (mn_o (S := sN (fun z => B z * z ^ m) x) hD1 hwm).1, ← (mn_o (S := sN (fun z => B z * z ^ m) x) hD1 hwm).2]
                  exact ih_22 (x + 1) (by omega) (by omega) (by omega)
                · rw [lg_cmp_le] at c_54
                  have hw2 := mn_w hD1 hw (hB2 x (by omega)) (show x ≤ 200 by omega) (show i ≤ 3 by omega)
                  refine g_lload C dX0_findMean_57 rfl ?_
                  refine g_iload_n C dX0_findMean_59 rfl ?_
                  refine g_i2l C dX0_findMean_60 ?_
                  rw [nI_l (by omega)]
                  refine g_lmul C dX0_findMean_61 ?_
                  rw [lN_mul]
                  refine g_lstore C dX0_findMean_62 (Nat.le_of_ble_eq_true rfl) rfl ?_
                  refine g_lv [some _, some _, some _, some _, none, some _, none, some _, some _, none] (gs_some (gs_some (gs_some (gs_some (gs_none (gs_some (gs_none (gs_some (gs_some (gs_none gs_nil)))))))))) ?_
                  refine g_lload_n C dX0_findMean_64 rfl ?_
                  refine g_iload_n C dX0_findMean_65 rfl ?_
                  refine g_i2l C dX0_findMean_66 ?_
                  rw [nI_l (by omega)]
                  refine g_lmul C dX0_findMean_67 ?_
                  rw [lN_mul]
                  refine g_lload C dX0_findMean_68 rfl ?_
                  refine g_aload_n C dX0_findMean_70 rfl ?_
                  refine g_get C dX0_findMean_71 iwX0 rfl (wO_A δ _) 8 (Nat.le_of_ble_eq_true rfl) mW119 rfl rfl ?_
                  rw [gG_uG, if_neg (by decide), gG_uG, if_neg (by decide), hd]
                  refine g_ldiv C dX0_findMean_74 (lNz hD1 (by omega)) ?_
                  rw [pk_lDiv (by omega) (by omega) (by omega)]
                  refine g_ladd C dX0_findMean_75 ?_
                  rw [lN_add]
                  refine g_lstore_n C dX0_findMean_76 (Nat.le_of_ble_eq_true rfl) rfl ?_
                  refine g_lv [some _, some _, some _, some _, none, some _, none, some _, some _, none] (gs_some (gs_some (gs_some (gs_some (gs_none (gs_some (gs_none (gs_some (gs_some (gs_none gs_nil)))))))))) ?_
                  refine g_lload C dX0_findMean_77 rfl ?_
                  refine g_aload_n C dX0_findMean_79 rfl ?_
                  refine g_get C dX0_findMean_80 iwX0 rfl (wO_A δ _) 8 (Nat.le_of_ble_eq_true rfl) mW119 rfl rfl ?_
                  rw [gG_uG, if_neg (by decide), gG_uG, if_neg (by decide), hd]
                  refine g_lrem C dX0_findMean_83 (lNz hD1 (by omega)) ?_
                  rw [pk_lRem (by omega) (by omega) (by omega)]
                  refine g_lstore C dX0_findMean_84 (Nat.le_of_ble_eq_true rfl) rfl ?_
                  refine g_lv [some _, some _, some _, some _, none, some _, none, some _, some _, none] (gs_some (gs_some (gs_some (gs_some (gs_none (gs_some (gs_none (gs_some (gs_some (gs_none gs_nil)))))))))) ?_
                  refine g_iinc (v := nI (i + 1)) C dX0_findMean_86 rfl (ginc _ 1) rfl ?_
                  refine g_lv [some _, some _, some _, some _, none, some _, none, some _, some _, none] (gs_some (gs_some (gs_some (gs_some (gs_none (gs_some (gs_none (gs_some (gs_some (gs_none gs_nil)))))))))) ?_
                  refine g_goto C 42 dX0_findMean_89 (by decide) ?_
                  refine g_lv [some _, some _, some _, some _, none, some _, none, some _, none, none] (gs_some (gs_some (gs_some (gs_some (gs_none (gs_some (gs_none (gs_some (gs_none (gs_none gs_nil)))))))))) ?_
                  exact ih_42 (i + 1) _ _ (by omega) (Nat.le_of_lt (Nat.mod_lt _ hD1)) (mn_s hw) (by omega)
          refine g_lv [some _, some _, some _, some _, none, some _, none, some _, none, none] (gs_some (gs_some (gs_some (gs_some (gs_none (gs_some (gs_none (gs_some (gs_none (gs_none gs_nil)))))))))) ?_
          exact L_42 _ 0 0 (B x) (by omega) (hB2 x (by omega)) (by rw [Nat.zero_mul, Nat.pow_zero, Nat.mul_one, Nat.zero_add]) (Nat.lt_succ_self _)
    refine g_lv [some _, some _, some _, none, none, none, none, none, none, none] (gs_some (gs_some (gs_some (gs_none (gs_none (gs_none (gs_none (gs_none (gs_none (gs_none gs_nil)))))))))) ?_
    refine g_st (σ' := (uG (uG σ 8 (lN (sN (fun z => B z * z ^ m) 1 / D))) 9 (lN (sN (fun z => B z * z ^ m) 1 % D)))) (by rw [mn_i hm1, Nat.zero_div, Nat.zero_mod]; rfl) ?_
    exact L_22 _ 1 (by omega) (by omega) (Nat.lt_succ_self _)
  · exact absurd ((lg_cmp_ge _ _).mpr (lN_1le hD1 (by omega))) c_16
