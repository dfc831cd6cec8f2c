theorem sV_X7_38 : gSV RX7 38 yX7_growth cX7_growth 4 (some .int) 1 := ⟨mW343, mW344, mW345, mW9, mW346, ⟨by decide +kernel, by decide +kernel⟩, by decide +kernel⟩
theorem sV_X7_42 : gSV RX7 42 yX7_grow cX7_grow 4 none 2 := ⟨mW368, mW369, mW370, mW9, mW371, ⟨by decide +kernel, by decide +kernel⟩, by decide +kernel⟩
theorem sV_X7_34 : gSV RX7 34 yX7_has cX7_has 2 (some .boolean) 1 := ⟨mW421, mW295, mW296, mW9, mW297, ⟨by decide +kernel, by decide +kernel⟩, by decide +kernel⟩
theorem sV_X8_255 : gSV RX8 255 yX2_nextRow cX2_nextRow 2 (some (.array .int)) 0 := ⟨mW306, mW307, mW308, mW2, mW309, ⟨by decide +kernel, by decide +kernel⟩, by decide +kernel⟩
theorem sV_X8_258 : gSV RX8 258 yX7_goInto cX7_goInto 3 none 2 := ⟨mW310, mW311, mW312, mW9, mW313, ⟨by decide +kernel, by decide +kernel⟩, by decide +kernel⟩
set_option maxRecDepth 100000 in
set_option maxHeartbeats 4000000 in
theorem c_X7_growth (l : Launch) (δ : GD) (σ : GS) {u : Nat} (hu : u < 8) {c : Nat} (hc : c < 4) {n : Nat} (hn : gN σ (14 + u) = nI n) (h4 : n ≤ 4) : gM l δ yX7_growth cX7_growth 4 (some .int) 0 0 [.ref (δ.2.2.1 (8 + u)), .int (nI c)] σ (gPi (fun x σ' => σ = σ' ∧ x = gGr (gI σ (8 + u)) c n)) := by
  refine g_of (lv0 := [some (.ref (δ.2.2.1 (8 + u))), some (.int (nI c)), none, none]) (by decide) rfl (Nat.le_of_ble_eq_true rfl) (fun Γ hl C E => ?_)
  subst hl
  have C : gC Γ δ cX7_growth RX7 4 0 0 := C
  refine g_iconst (v := 0) C dX7_growth_0 (by decide) ?_
  refine g_istore_n C dX7_growth_1 (Nat.le_of_ble_eq_true rfl) rfl ?_
  refine g_lv [some _, some _, some _, none] (gs_some (gs_some (gs_some (gs_none gs_nil)))) ?_
  refine g_iconst (v := 0) C dX7_growth_2 (by decide) ?_
  refine g_istore_n C dX7_growth_3 (Nat.le_of_ble_eq_true rfl) rfl ?_
  refine g_lv [some _, some _, some _, some _] (gs_some (gs_some (gs_some (gs_some gs_nil)))) ?_
  have L_4 : ∀ (nn : Nat) (k : Nat) (hk : k ≤ n), n - k < nn → gW Γ δ σ 4 [some (.ref (δ.2.2.1 (8 + u))), some (.int (nI c)), some (.int (gGr (gI σ (8 + u)) c k)), some (.int (nI k))] [] := by
    intro nn
    induction nn with
    | zero =>
      intro k hk hm_4
      exact absurd hm_4 (Nat.not_lt_zero _)
    | succ nn ih_4 =>
      intro k hk hm_4
      refine g_iload_n C dX7_growth_4 rfl ?_
      refine g_aload_n C dX7_growth_5 rfl ?_
      refine g_get C dX7_growth_6 iwX7 rfl (wO_U δ _ hu) 3 (Nat.le_of_ble_eq_true rfl) mW201 rfl rfl ?_
      rw [hn]
      refine g_icmp_ge C 31 dX7_growth_9 (by decide) (fun c_9 => ?_) (fun c_9 => ?_)
      · have k_9 := gle c_9 (a := n) (b := k) (by first | rfl | assumption | (simp only [glit, nI_add, pk_mul]; done) | (simp only [glit, nI_add, pk_mul]; congr 1; omega) | (simp only [*, glit, nI_add, pk_mul]; congr 1; omega)) (by first | rfl | assumption | (simp only [glit, nI_add, pk_mul]; done) | (simp only [glit, nI_add, pk_mul]; congr 1; omega) | (simp only [*, glit, nI_add, pk_mul]; congr 1; omega)) (by omega) (by omega)
        have ek : n = k := by omega
        subst ek
        refine g_iload_n C dX7_growth_31 rfl ?_
        exact g_iret C E dX7_growth_32 rfl rfl ⟨_, rfl, ⟨rfl, rfl⟩⟩
      · have k_9 := gnle c_9 (a := n) (b := k) (by first | rfl | assumption | (simp only [glit, nI_add, pk_mul]; done) | (simp only [glit, nI_add, pk_mul]; congr 1; omega) | (simp only [*, glit, nI_add, pk_mul]; congr 1; omega)) (by first | rfl | assumption | (simp only [glit, nI_add, pk_mul]; done) | (simp only [glit, nI_add, pk_mul]; congr 1; omega) | (simp only [*, glit, nI_add, pk_mul]; congr 1; omega)) (by omega) (by omega)
        refine g_iload_n C dX7_growth_12 rfl ?_
        refine g_aload_n C dX7_growth_13 rfl ?_
        refine g_get C dX7_growth_14 iwX7 rfl (wO_U δ _ hu) 1 (Nat.le_of_ble_eq_true rfl) mW196 rfl rfl ?_
        refine g_iload_n C dX7_growth_17 rfl ?_
        refine g_iconst (v := 4) C dX7_growth_18 (by decide) ?_
        refine g_imul C dX7_growth_19 ?_
        refine g_iload_n C dX7_growth_20 rfl ?_
        refine g_iadd C dX7_growth_21 ?_
        refine g_ialdN C dX7_growth_22 (k := ((c * 4) + k)) (q := (8 + u)) (by omega) (congrArg _ (by omega)) (by first | rfl | assumption | (simp only [glit, nI_add, pk_mul]; done) | (simp only [glit, nI_add, pk_mul]; congr 1; omega) | (simp only [*, glit, nI_add, pk_mul]; congr 1; omega)) (by rw [gLenI_t hu]; omega) ?_
        refine g_iadd C dX7_growth_23 ?_
        refine g_istore_n C dX7_growth_24 (Nat.le_of_ble_eq_true rfl) rfl ?_
        refine g_lv [some _, some _, some _, some _] (gs_some (gs_some (gs_some (gs_some gs_nil)))) ?_
        refine g_iinc (v := nI (k + 1)) C dX7_growth_25 rfl (ginc _ 1) rfl ?_
        refine g_lv [some _, some _, some _, some _] (gs_some (gs_some (gs_some (gs_some gs_nil)))) ?_
        refine g_goto C 4 dX7_growth_28 (by decide) ?_
        refine g_lv [some _, some _, some _, some _] (gs_some (gs_some (gs_some (gs_some gs_nil)))) ?_
        exact ih_4 (k + 1) (by omega) (by omega)
  refine g_lv [some _, some _, some _, some _] (gs_some (gs_some (gs_some (gs_some gs_nil)))) ?_
  exact L_4 _ 0 (by omega) (Nat.lt_succ_self _)
set_option maxRecDepth 100000 in
set_option maxHeartbeats 4000000 in
theorem c_X7_isEven (l : Launch) (δ : GD) (σ : GS) {u : Nat} (hu : u < 8) {n : Nat} (hn : gN σ (14 + u) = nI n) (h4 : n ≤ 4) : gM l δ yX7_isEven cX7_isEven 2 (some .boolean) 1 23 [.ref (δ.2.2.1 (8 + u))] σ (gPi (fun x σ' => σ = σ' ∧ ((x = 1 ∧ gEv (gI σ (8 + u)) n) ∨ (x = 0 ∧ ¬ gEv (gI σ (8 + u)) n)))) := by
  refine g_of (lv0 := [some (.ref (δ.2.2.1 (8 + u))), none]) (by decide) rfl (Nat.le_of_ble_eq_true rfl) (fun Γ hl C E => ?_)
  subst hl
  have C : gC Γ δ cX7_isEven RX7 2 1 23 := C
  refine g_iconst (v := 1) C dX7_isEven_0 (by decide) ?_
  refine g_istore_n C dX7_isEven_1 (Nat.le_of_ble_eq_true rfl) rfl ?_
  refine g_lv [some _, some _] (gs_some (gs_some gs_nil)) ?_
  have L_2 : ∀ (nn : Nat) (c : Nat) (h1 : 1 ≤ c) (hc : c ≤ 4) (hv : ∀ d, 1 ≤ d → d < c → gGr (gI σ (8 + u)) d n = gGr (gI σ (8 + u)) 0 n), 5 - c < nn → gW Γ δ σ 2 [some (.ref (δ.2.2.1 (8 + u))), some (.int (nI c))] [] := by
    intro nn
    induction nn with
    | zero =>
      intro c h1 hc hv hm_2
      exact absurd hm_2 (Nat.not_lt_zero _)
    | succ nn ih_2 =>
      intro c h1 hc hv hm_2
      refine g_iload_n C dX7_isEven_2 rfl ?_
      refine g_aload_n C dX7_isEven_3 rfl ?_
      refine g_get C dX7_isEven_4 iwX7 rfl (wO_U δ _ hu) 3 (Nat.le_of_ble_eq_true rfl) mW201 rfl rfl ?_
      rw [hn]
      refine g_icmp_ge C 31 dX7_isEven_7 (by decide) (fun c_7 => ?_) (fun c_7 => ?_)
      · have k_7 := gle c_7 (a := n) (b := c) (by first | rfl | assumption | (simp only [glit, nI_add, pk_mul]; done) | (simp only [glit, nI_add, pk_mul]; congr 1; omega) | (simp only [*, glit, nI_add, pk_mul]; congr 1; omega)) (by first | rfl | assumption | (simp only [glit, nI_add, pk_mul]; done) | (simp only [glit, nI_add, pk_mul]; congr 1; omega) | (simp only [*, glit, nI_add, pk_mul]; congr 1; omega)) (by omega) (by omega)
        refine g_iconst (v := 1) C dX7_isEven_31 (by decide) ?_
        exact g_iret C E dX7_isEven_32 rfl rfl ⟨_, rfl, ⟨rfl, Or.inl ⟨rfl, fun d h1 h2 => hv d h1 (by omega)⟩⟩⟩
      · have k_7 := gnle c_7 (a := n) (b := c) (by first | rfl | assumption | (simp only [glit, nI_add, pk_mul]; done) | (simp only [glit, nI_add, pk_mul]; congr 1; omega) | (simp only [*, glit, nI_add, pk_mul]; congr 1; omega)) (by first | rfl | assumption | (simp only [glit, nI_add, pk_mul]; done) | (simp only [glit, nI_add, pk_mul]; congr 1; omega) | (simp only [*, glit, nI_add, pk_mul]; congr 1; omega)) (by omega) (by omega)
        refine g_aload_n C dX7_isEven_10 rfl ?_
        refine g_iload_n C dX7_isEven_11 rfl ?_
        refine g_callVi C sV_X7_38 dX7_isEven_12 (c_X7_growth _ δ _ hu (by omega) hn h4) ⟨by decide, by decide⟩ (wO_U δ _ hu) rfl rfl rfl rfl (Nat.le_of_ble_eq_true rfl) (fun r_12 s_12 h_12 => ?_)
        obtain ⟨rfl, h_12⟩ := h_12
        refine g_aload_n C dX7_isEven_15 rfl ?_
        refine g_iconst (v := 0) C dX7_isEven_16 (by decide) ?_
        refine g_callVi C sV_X7_38 dX7_isEven_17 (c_X7_growth _ δ _ hu (c := 0) (by omega) hn h4) ⟨by decide, by decide⟩ (wO_U δ _ hu) rfl rfl rfl rfl (Nat.le_of_ble_eq_true rfl) (fun r_17 s_17 h_17 => ?_)
        obtain ⟨rfl, h_17⟩ := h_17
        refine g_icmp_eq C 25 dX7_isEven_20 (by decide) (fun c_20 => ?_) (fun c_20 => ?_)
        · refine g_iinc (v := nI (c + 1)) C dX7_isEven_25 rfl (ginc _ 1) rfl ?_
          refine g_lv [some _, some _] (gs_some (gs_some gs_nil)) ?_
          refine g_goto C 2 dX7_isEven_28 (by decide) ?_
          refine g_lv [some _, some _] (gs_some (gs_some gs_nil)) ?_
          exact ih_2 (c + 1) (by omega) (by omega) (fun d h1 h2 => (Nat.lt_succ_iff_lt_or_eq.mp h2).elim (fun h => hv d h1 h) (fun h => by rw [h, ← h_12, ← h_17]; exact c_20)) (by omega)
        · refine g_iconst (v := 0) C dX7_isEven_23 (by decide) ?_
          exact g_iret C E dX7_isEven_24 rfl rfl ⟨_, rfl, ⟨rfl, Or.inr ⟨rfl, fun q => c_20 (h_12.trans ((q c h1 (by omega)).trans h_17.symm))⟩⟩⟩
  refine g_lv [some _, some _] (gs_some (gs_some gs_nil)) ?_
  exact L_2 _ 1 (by omega) (by omega) (fun d h1 h2 => absurd h1 (by omega)) (Nat.lt_succ_self _)
set_option maxRecDepth 100000 in
set_option maxHeartbeats 4000000 in
theorem c_X7_isLike (l : Launch) (δ : GD) (σ : GS) {u : Nat} (hu : u < 8) {n : Nat} (hn : gN σ (14 + u) = nI n) (h4 : n ≤ 4) : gM l δ yX7_isLike cX7_isLike 4 (some .boolean) 0 0 [.ref (δ.2.2.1 (8 + u))] σ (gPi (fun x σ' => σ = σ' ∧ ((x = 1 ∧ gLk (gI σ (8 + u)) n) ∨ (x = 0 ∧ ¬ gLk (gI σ (8 + u)) n)))) := by
  refine g_of (lv0 := [some (.ref (δ.2.2.1 (8 + u))), none, none, none]) (by decide) rfl (Nat.le_of_ble_eq_true rfl) (fun Γ hl C E => ?_)
  subst hl
  have C : gC Γ δ cX7_isLike RX7 4 0 0 := C
  refine g_aload_n C dX7_isLike_0 rfl ?_
  refine g_get C dX7_isLike_1 iwX7 rfl (wO_U δ _ hu) 1 (Nat.le_of_ble_eq_true rfl) mW196 rfl rfl ?_
  refine g_iconst (v := 0) C dX7_isLike_4 (by decide) ?_
  refine g_ialdN C dX7_isLike_5 (k := 0) (q := (8 + u)) (by omega) (congrArg _ (by omega)) (by first | rfl | assumption | (simp only [glit, nI_add, pk_mul]; done) | (simp only [glit, nI_add, pk_mul]; congr 1; omega) | (simp only [*, glit, nI_add, pk_mul]; congr 1; omega)) (by rw [gLenI_t hu]; omega) ?_
  refine g_istore_n C dX7_isLike_6 (Nat.le_of_ble_eq_true rfl) rfl ?_
  refine g_lv [some _, some _, none, none] (gs_some (gs_some (gs_none (gs_none gs_nil)))) ?_
  refine g_iconst (v := 0) C dX7_isLike_7 (by decide) ?_
  refine g_istore_n C dX7_isLike_8 (Nat.le_of_ble_eq_true rfl) rfl ?_
  refine g_lv [some _, some _, some _, none] (gs_some (gs_some (gs_some (gs_none gs_nil)))) ?_
  have L_9 : ∀ (nn : Nat) (c : Nat) (hc : c ≤ n) (hv : ∀ c1, c1 < c → ∀ d, d < n → (gI σ (8 + u)) (c1 * 4 + d) = if c1 = d then (gI σ (8 + u)) 0 else 0), n - c < nn → gW Γ δ σ 9 [some (.ref (δ.2.2.1 (8 + u))), some (.int ((gI σ (8 + u)) 0)), some (.int (nI c)), none] [] := by
    intro nn
    induction nn with
    | zero =>
      intro c hc hv hm_9
      exact absurd hm_9 (Nat.not_lt_zero _)
    | succ nn ih_9 =>
      intro c hc hv hm_9
      refine g_iload_n C dX7_isLike_9 rfl ?_
      refine g_aload_n C dX7_isLike_10 rfl ?_
      refine g_get C dX7_isLike_11 iwX7 rfl (wO_U δ _ hu) 3 (Nat.le_of_ble_eq_true rfl) mW201 rfl rfl ?_
      rw [hn]
      refine g_icmp_ge C 64 dX7_isLike_14 (by decide) (fun c_14 => ?_) (fun c_14 => ?_)
      · have k_14 := gle c_14 (a := n) (b := c) (by first | rfl | assumption | (simp only [glit, nI_add, pk_mul]; done) | (simp only [glit, nI_add, pk_mul]; congr 1; omega) | (simp only [*, glit, nI_add, pk_mul]; congr 1; omega)) (by first | rfl | assumption | (simp only [glit, nI_add, pk_mul]; done) | (simp only [glit, nI_add, pk_mul]; congr 1; omega) | (simp only [*, glit, nI_add, pk_mul]; congr 1; omega)) (by omega) (by omega)
        refine g_iload_n C dX7_isLike_64 rfl ?_
        refine g_if_lt C 72 dX7_isLike_65 (by decide) (fun c_65 => ?_) (fun c_65 => ?_)
        · refine g_iconst (v := 0) C dX7_isLike_72 (by decide) ?_
          exact g_iret C E dX7_isLike_73 rfl rfl ⟨_, rfl, ⟨rfl, by first | exact Or.inl ⟨rfl, fun c1 h1 => hv c1 (by omega), Int32.not_lt.mp c_65⟩ | exact Or.inr ⟨rfl, fun q => Int32.not_lt.mpr q.2 c_65⟩⟩⟩
        · refine g_iconst (v := 1) C dX7_isLike_68 (by decide) ?_
          refine g_goto C 73 dX7_isLike_69 (by decide) ?_
          exact g_iret C E dX7_isLike_73 rfl rfl ⟨_, rfl, ⟨rfl, by first | exact Or.inl ⟨rfl, fun c1 h1 => hv c1 (by omega), Int32.not_lt.mp c_65⟩ | exact Or.inr ⟨rfl, fun q => Int32.not_lt.mpr q.2 c_65⟩⟩⟩
      · have k_14 := gnle c_14 (a := n) (b := c) (by first | rfl | assumption | (simp only [glit, nI_add, pk_mul]; done) | (simp only [glit, nI_add, pk_mul]; congr 1; omega) | (simp only [*, glit, nI_add, pk_mul]; congr 1; omega)) (by first | rfl | assumption | (simp only [glit, nI_add, pk_mul]; done) | (simp only [glit, nI_add, pk_mul]; congr 1; omega) | (simp only [*, glit, nI_add, pk_mul]; congr 1; omega)) (by omega) (by omega)
        refine g_iconst (v := 0) C dX7_isLike_17 (by decide) ?_
        refine g_istore_n C dX7_isLike_18 (Nat.le_of_ble_eq_true rfl) rfl ?_
        refine g_lv [some _, some _, some _, some _] (gs_some (gs_some (gs_some (gs_some gs_nil)))) ?_
        have L_19 : ∀ (nn : Nat) (d : Nat) (hd : d ≤ n) (hw : ∀ d1, d1 < d → (gI σ (8 + u)) (c * 4 + d1) = if c = d1 then (gI σ (8 + u)) 0 else 0), n - d < nn → gW Γ δ σ 19 [some (.ref (δ.2.2.1 (8 + u))), some (.int ((gI σ (8 + u)) 0)), some (.int (nI c)), some (.int (nI d))] [] := by
          intro nn
          induction nn with
          | zero =>
            intro d hd hw hm_19
            exact absurd hm_19 (Nat.not_lt_zero _)
          | succ nn ih_19 =>
            intro d hd hw hm_19
            refine g_iload_n C dX7_isLike_19 rfl ?_
            refine g_aload_n C dX7_isLike_20 rfl ?_
            refine g_get C dX7_isLike_21 iwX7 rfl (wO_U δ _ hu) 3 (Nat.le_of_ble_eq_true rfl) mW201 rfl rfl ?_
            rw [hn]
            refine g_icmp_ge C 58 dX7_isLike_24 (by decide) (fun c_24 => ?_) (fun c_24 => ?_)
            · have k_24 := gle c_24 (a := n) (b := d) (by first | rfl | assumption | (simp only [glit, nI_add, pk_mul]; done) | (simp only [glit, nI_add, pk_mul]; congr 1; omega) | (simp only [*, glit, nI_add, pk_mul]; congr 1; omega)) (by first | rfl | assumption | (simp only [glit, nI_add, pk_mul]; done) | (simp only [glit, nI_add, pk_mul]; congr 1; omega) | (simp only [*, glit, nI_add, pk_mul]; congr 1; omega)) (by omega) (by omega)
              refine g_iinc (v := nI (c + 1)) C dX7_isLike_58 rfl (ginc _ 1) rfl ?_
              refine g_lv [some _, some _, some _, some _] (gs_some (gs_some (gs_some (gs_some gs_nil)))) ?_
              refine g_goto C 9 dX7_isLike_61 (by decide) ?_
              refine g_lv [some _, some _, some _, none] (gs_some (gs_some (gs_some (gs_none gs_nil)))) ?_
              exact ih_9 (c + 1) (by omega) (fun c1 h1 d h2 => (Nat.lt_succ_iff_lt_or_eq.mp h1).elim (fun h => hv c1 h d h2) (fun h => by rw [h]; exact hw d (by omega))) (by omega)
            · have k_24 := gnle c_24 (a := n) (b := d) (by first | rfl | assumption | (simp only [glit, nI_add, pk_mul]; done) | (simp only [glit, nI_add, pk_mul]; congr 1; omega) | (simp only [*, glit, nI_add, pk_mul]; congr 1; omega)) (by first | rfl | assumption | (simp only [glit, nI_add, pk_mul]; done) | (simp only [glit, nI_add, pk_mul]; congr 1; omega) | (simp only [*, glit, nI_add, pk_mul]; congr 1; omega)) (by omega) (by omega)
              refine g_aload_n C dX7_isLike_27 rfl ?_
              refine g_get C dX7_isLike_28 iwX7 rfl (wO_U δ _ hu) 1 (Nat.le_of_ble_eq_true rfl) mW196 rfl rfl ?_
              refine g_iload_n C dX7_isLike_31 rfl ?_
              refine g_iconst (v := 4) C dX7_isLike_32 (by decide) ?_
              refine g_imul C dX7_isLike_33 ?_
              refine g_iload_n C dX7_isLike_34 rfl ?_
              refine g_iadd C dX7_isLike_35 ?_
              refine g_ialdN C dX7_isLike_36 (k := ((c * 4) + d)) (q := (8 + u)) (by omega) (congrArg _ (by omega)) (by first | rfl | assumption | (simp only [glit, nI_add, pk_mul]; done) | (simp only [glit, nI_add, pk_mul]; congr 1; omega) | (simp only [*, glit, nI_add, pk_mul]; congr 1; omega)) (by rw [gLenI_t hu]; omega) ?_
              refine g_iload_n C dX7_isLike_37 rfl ?_
              refine g_iload_n C dX7_isLike_38 rfl ?_
              refine g_icmp_ne C 46 dX7_isLike_39 (by decide) (fun c_39 => ?_) (fun c_39 => ?_)
              · have k_39 := gne c_39 (a := c) (b := d) (by first | rfl | assumption | (simp only [glit, nI_add, pk_mul]; done) | (simp only [glit, nI_add, pk_mul]; congr 1; omega) | (simp only [*, glit, nI_add, pk_mul]; congr 1; omega)) (by first | rfl | assumption | (simp only [glit, nI_add, pk_mul]; done) | (simp only [glit, nI_add, pk_mul]; congr 1; omega) | (simp only [*, glit, nI_add, pk_mul]; congr 1; omega)) (by omega) (by omega)
                have ex : (if c = d then (gI σ (8 + u)) 0 else 0) = 0 := if_neg k_39
                refine g_iconst (v := 0) C dX7_isLike_46 (by decide) ?_
                refine g_icmp_eq C 52 dX7_isLike_47 (by decide) (fun c_47 => ?_) (fun c_47 => ?_)
                · have hx : (gI σ (8 + u)) (c * 4 + d) = if c = d then (gI σ (8 + u)) 0 else 0 := c_47.trans ex.symm
                  refine g_iinc (v := nI (d + 1)) C dX7_isLike_52 rfl (ginc _ 1) rfl ?_
                  refine g_lv [some _, some _, some _, some _] (gs_some (gs_some (gs_some (gs_some gs_nil)))) ?_
                  refine g_goto C 19 dX7_isLike_55 (by decide) ?_
                  refine g_lv [some _, some _, some _, some _] (gs_some (gs_some (gs_some (gs_some gs_nil)))) ?_
                  exact ih_19 (d + 1) (by omega) (fun d1 h1 => (Nat.lt_succ_iff_lt_or_eq.mp h1).elim (fun h => hw d1 h) (fun h => by rw [h]; exact hx)) (by omega)
                · have hx : ¬ ((gI σ (8 + u)) (c * 4 + d) = if c = d then (gI σ (8 + u)) 0 else 0) := fun q => c_47 (q.trans ex)
                  refine g_iconst (v := 0) C dX7_isLike_50 (by decide) ?_
                  exact g_iret C E dX7_isLike_51 rfl rfl ⟨_, rfl, ⟨rfl, Or.inr ⟨rfl, fun q => hx (q.1 c (by omega) d (by omega))⟩⟩⟩
              · have k_39 := geq c_39 (a := c) (b := d) (by first | rfl | assumption | (simp only [glit, nI_add, pk_mul]; done) | (simp only [glit, nI_add, pk_mul]; congr 1; omega) | (simp only [*, glit, nI_add, pk_mul]; congr 1; omega)) (by first | rfl | assumption | (simp only [glit, nI_add, pk_mul]; done) | (simp only [glit, nI_add, pk_mul]; congr 1; omega) | (simp only [*, glit, nI_add, pk_mul]; congr 1; omega)) (by omega) (by omega)
                have ex : (if c = d then (gI σ (8 + u)) 0 else 0) = (gI σ (8 + u)) 0 := if_pos k_39
                refine g_iload_n C dX7_isLike_42 rfl ?_
                refine g_goto C 47 dX7_isLike_43 (by decide) ?_
                refine g_icmp_eq C 52 dX7_isLike_47 (by decide) (fun c_47 => ?_) (fun c_47 => ?_)
                · have hx : (gI σ (8 + u)) (c * 4 + d) = if c = d then (gI σ (8 + u)) 0 else 0 := c_47.trans ex.symm
                  refine g_iinc (v := nI (d + 1)) C dX7_isLike_52 rfl (ginc _ 1) rfl ?_
                  refine g_lv [some _, some _, some _, some _] (gs_some (gs_some (gs_some (gs_some gs_nil)))) ?_
                  refine g_goto C 19 dX7_isLike_55 (by decide) ?_
                  refine g_lv [some _, some _, some _, some _] (gs_some (gs_some (gs_some (gs_some gs_nil)))) ?_
                  exact ih_19 (d + 1) (by omega) (fun d1 h1 => (Nat.lt_succ_iff_lt_or_eq.mp h1).elim (fun h => hw d1 h) (fun h => by rw [h]; exact hx)) (by omega)
                · have hx : ¬ ((gI σ (8 + u)) (c * 4 + d) = if c = d then (gI σ (8 + u)) 0 else 0) := fun q => c_47 (q.trans ex)
                  refine g_iconst (v := 0) C dX7_isLike_50 (by decide) ?_
                  exact g_iret C E dX7_isLike_51 rfl rfl ⟨_, rfl, ⟨rfl, Or.inr ⟨rfl, fun q => hx (q.1 c (by omega) d (by omega))⟩⟩⟩
        refine g_lv [some _, some _, some _, some _] (gs_some (gs_some (gs_some (gs_some gs_nil)))) ?_
        exact L_19 _ 0 (by omega) (fun _ h => absurd h (Nat.not_lt_zero _)) (Nat.lt_succ_self _)
  refine g_lv [some _, some _, some _, none] (gs_some (gs_some (gs_some (gs_none gs_nil)))) ?_
  exact L_9 _ 0 (by omega) (fun _ h => absurd h (Nat.not_lt_zero _)) (Nat.lt_succ_self _)
set_option maxRecDepth 100000 in
set_option maxHeartbeats 4000000 in
theorem c_X7_lets (l : Launch) (δ : GD) (σ : GS) {u : Nat} (hu : u < 8) {q : Nat} (hq : q < 60) (h4q : gLenI q = 4) {c : Nat} (hc : c < 4) {n : Nat} (hn : gN σ (14 + u) = nI n) (h4 : n ≤ 4) : gM l δ yX7_lets cX7_lets 5 (some .boolean) 0 0 [.ref (δ.2.2.1 (8 + u)), .ref (δ.2.2.1 (22 + q)), .int (nI c)] σ (gPi (fun x σ' => σ = σ' ∧ ((x = 1 ∧ gLet (gI σ q) (gI σ (8 + u)) c n) ∨ (x = 0 ∧ ¬ gLet (gI σ q) (gI σ (8 + u)) c n)))) := by
  refine g_of (lv0 := [some (.ref (δ.2.2.1 (8 + u))), some (.ref (δ.2.2.1 (22 + q))), some (.int (nI c)), none, none]) (by decide) rfl (Nat.le_of_ble_eq_true rfl) (fun Γ hl C E => ?_)
  subst hl
  have C : gC Γ δ cX7_lets RX7 5 0 0 := C
  refine g_aload_n C dX7_lets_0 rfl ?_
  refine g_iload_n C dX7_lets_1 rfl ?_
  refine g_ialdN C dX7_lets_2 (k := c) (q := q) hq rfl (by first | rfl | assumption | (simp only [glit, nI_add, pk_mul]; done) | (simp only [glit, nI_add, pk_mul]; congr 1; omega) | (simp only [*, glit, nI_add, pk_mul]; congr 1; omega)) (by rw [h4q]; omega) ?_
  refine g_if_gt C 8 dX7_lets_3 (by decide) (fun c_3 => ?_) (fun c_3 => ?_)
  · refine g_iconst (v := 0) C dX7_lets_8 (by decide) ?_
    refine g_istore_n C dX7_lets_9 (Nat.le_of_ble_eq_true rfl) rfl ?_
    refine g_lv [some _, some _, some _, some _, none] (gs_some (gs_some (gs_some (gs_some (gs_none gs_nil))))) ?_
    have L_10 : ∀ (nn : Nat) (d : Nat) (hd : d ≤ n) (hv : ∀ d1, d1 < d → 0 ≤ gI σ q d1 + (gI σ (8 + u)) (c * 4 + d1) ∧ gI σ q d1 + (gI σ (8 + u)) (c * 4 + d1) ≤ 200), n - d < nn → gW Γ δ σ 10 [some (.ref (δ.2.2.1 (8 + u))), some (.ref (δ.2.2.1 (22 + q))), some (.int (nI c)), some (.int (nI d)), none] [] := by
      intro nn
      induction nn with
      | zero =>
        intro d hd hv hm_10
        exact absurd hm_10 (Nat.not_lt_zero _)
      | succ nn ih_10 =>
        intro d hd hv hm_10
        refine g_iload_n C dX7_lets_10 rfl ?_
        refine g_aload_n C dX7_lets_11 rfl ?_
        refine g_get C dX7_lets_12 iwX7 rfl (wO_U δ _ hu) 3 (Nat.le_of_ble_eq_true rfl) mW201 rfl rfl ?_
        rw [hn]
        refine g_icmp_ge C 55 dX7_lets_15 (by decide) (fun c_15 => ?_) (fun c_15 => ?_)
        · have k_15 := gle c_15 (a := n) (b := d) (by first | rfl | assumption | (simp only [glit, nI_add, pk_mul]; done) | (simp only [glit, nI_add, pk_mul]; congr 1; omega) | (simp only [*, glit, nI_add, pk_mul]; congr 1; omega)) (by first | rfl | assumption | (simp only [glit, nI_add, pk_mul]; done) | (simp only [glit, nI_add, pk_mul]; congr 1; omega) | (simp only [*, glit, nI_add, pk_mul]; congr 1; omega)) (by omega) (by omega)
          refine g_iconst (v := 1) C dX7_lets_55 (by decide) ?_
          exact g_iret C E dX7_lets_56 rfl rfl ⟨_, rfl, ⟨rfl, Or.inl ⟨rfl, c_3, fun d1 h1 => hv d1 (by omega)⟩⟩⟩
        · have k_15 := gnle c_15 (a := n) (b := d) (by first | rfl | assumption | (simp only [glit, nI_add, pk_mul]; done) | (simp only [glit, nI_add, pk_mul]; congr 1; omega) | (simp only [*, glit, nI_add, pk_mul]; congr 1; omega)) (by first | rfl | assumption | (simp only [glit, nI_add, pk_mul]; done) | (simp only [glit, nI_add, pk_mul]; congr 1; omega) | (simp only [*, glit, nI_add, pk_mul]; congr 1; omega)) (by omega) (by omega)
          refine g_aload_n C dX7_lets_18 rfl ?_
          refine g_iload_n C dX7_lets_19 rfl ?_
          refine g_ialdN C dX7_lets_20 (k := d) (q := q) hq rfl (by first | rfl | assumption | (simp only [glit, nI_add, pk_mul]; done) | (simp only [glit, nI_add, pk_mul]; congr 1; omega) | (simp only [*, glit, nI_add, pk_mul]; congr 1; omega)) (by rw [h4q]; omega) ?_
          refine g_aload_n C dX7_lets_21 rfl ?_
          refine g_get C dX7_lets_22 iwX7 rfl (wO_U δ _ hu) 1 (Nat.le_of_ble_eq_true rfl) mW196 rfl rfl ?_
          refine g_iload_n C dX7_lets_25 rfl ?_
          refine g_iconst (v := 4) C dX7_lets_26 (by decide) ?_
          refine g_imul C dX7_lets_27 ?_
          refine g_iload_n C dX7_lets_28 rfl ?_
          refine g_iadd C dX7_lets_29 ?_
          refine g_ialdN C dX7_lets_30 (k := ((c * 4) + d)) (q := (8 + u)) (by omega) (congrArg _ (by omega)) (by first | rfl | assumption | (simp only [glit, nI_add, pk_mul]; done) | (simp only [glit, nI_add, pk_mul]; congr 1; omega) | (simp only [*, glit, nI_add, pk_mul]; congr 1; omega)) (by rw [gLenI_t hu]; omega) ?_
          refine g_iadd C dX7_lets_31 ?_
          refine g_istore C dX7_lets_32 (Nat.le_of_ble_eq_true rfl) rfl ?_
          refine g_lv [some _, some _, some _, some _, some _] (gs_some (gs_some (gs_some (gs_some (gs_some gs_nil))))) ?_
          refine g_iload C dX7_lets_34 rfl ?_
          refine g_if_lt C 47 dX7_lets_36 (by decide) (fun c_36 => ?_) (fun c_36 => ?_)
          · have hx : ¬ gLet (gI σ q) (gI σ (8 + u)) c n := fun z => Int32.not_lt.mpr (z.2 d (by omega)).1 c_36
            refine g_iconst (v := 0) C dX7_lets_47 (by decide) ?_
            exact g_iret C E dX7_lets_48 rfl rfl ⟨_, rfl, ⟨rfl, Or.inr ⟨rfl, hx⟩⟩⟩
          · refine g_iload C dX7_lets_39 rfl ?_
            refine g_sipush (v := 200) C dX7_lets_41 (by decide) ?_
            refine g_icmp_le C 49 dX7_lets_44 (by decide) (fun c_44 => ?_) (fun c_44 => ?_)
            · refine g_iinc (v := nI (d + 1)) C dX7_lets_49 rfl (ginc _ 1) rfl ?_
              refine g_lv [some _, some _, some _, some _, some _] (gs_some (gs_some (gs_some (gs_some (gs_some gs_nil))))) ?_
              refine g_goto C 10 dX7_lets_52 (by decide) ?_
              refine g_lv [some _, some _, some _, some _, none] (gs_some (gs_some (gs_some (gs_some (gs_none gs_nil))))) ?_
              exact ih_10 (d + 1) (by omega) (fun d1 h1 => (Nat.lt_succ_iff_lt_or_eq.mp h1).elim (fun h => hv d1 h) (fun h => by rw [h]; exact ⟨Int32.not_lt.mp c_36, c_44⟩)) (by omega)
            · have hx : ¬ gLet (gI σ q) (gI σ (8 + u)) c n := fun z => c_44 (z.2 d (by omega)).2
              refine g_iconst (v := 0) C dX7_lets_47 (by decide) ?_
              exact g_iret C E dX7_lets_48 rfl rfl ⟨_, rfl, ⟨rfl, Or.inr ⟨rfl, hx⟩⟩⟩
    refine g_lv [some _, some _, some _, some _, none] (gs_some (gs_some (gs_some (gs_some (gs_none gs_nil))))) ?_
    exact L_10 _ 0 (by omega) (fun _ h => absurd h (Nat.not_lt_zero _)) (Nat.lt_succ_self _)
  · refine g_iconst (v := 0) C dX7_lets_6 (by decide) ?_
    exact g_iret C E dX7_lets_7 rfl rfl ⟨_, rfl, ⟨rfl, Or.inr ⟨rfl, fun z => c_3 z.1⟩⟩⟩
set_option maxRecDepth 100000 in
set_option maxHeartbeats 4000000 in
theorem c_X7_grow (l : Launch) (δ : GD) (σ : GS) {u : Nat} (hu : u < 8) {q : Nat} (hq : q < 60) (h4q : gLenI q = 4) (hqu : ¬ 8 + u = q) {c : Nat} (hc : c < 4) {n : Nat} (hn : gN σ (14 + u) = nI n) (h4 : n ≤ 4) : gM l δ yX7_grow cX7_grow 4 none 0 0 [.ref (δ.2.2.1 (8 + u)), .ref (δ.2.2.1 (22 + q)), .int (nI c)] σ (gPv (fun σ' => σ' = uI σ q (gGw (gI σ q) (gI σ (8 + u)) c n))) := by
  refine g_of (lv0 := [some (.ref (δ.2.2.1 (8 + u))), some (.ref (δ.2.2.1 (22 + q))), some (.int (nI c)), none]) (by decide) rfl (Nat.le_of_ble_eq_true rfl) (fun Γ hl C E => ?_)
  subst hl
  have C : gC Γ δ cX7_grow RX7 4 0 0 := C
  refine g_iconst (v := 0) C dX7_grow_0 (by decide) ?_
  refine g_istore_n C dX7_grow_1 (Nat.le_of_ble_eq_true rfl) rfl ?_
  refine g_lv [some _, some _, some _, some _] (gs_some (gs_some (gs_some (gs_some gs_nil)))) ?_
  have L_2 : ∀ (nn : Nat) (k : Nat) (hk : k ≤ n), n - k < nn → gW Γ δ (uI σ q (gGw (gI σ q) (gI σ (8 + u)) c k)) 2 [some (.ref (δ.2.2.1 (8 + u))), some (.ref (δ.2.2.1 (22 + q))), some (.int (nI c)), some (.int (nI k))] [] := by
    intro nn
    induction nn with
    | zero =>
      intro k hk hm_2
      exact absurd hm_2 (Nat.not_lt_zero _)
    | succ nn ih_2 =>
      intro k hk hm_2
      refine g_iload_n C dX7_grow_2 rfl ?_
      refine g_aload_n C dX7_grow_3 rfl ?_
      refine g_get C dX7_grow_4 iwX7 rfl (wO_U δ _ hu) 3 (Nat.le_of_ble_eq_true rfl) mW201 rfl rfl ?_
      rw [gN_uI, hn]
      refine g_icmp_ge C 32 dX7_grow_7 (by decide) (fun c_7 => ?_) (fun c_7 => ?_)
      · have k_7 := gle c_7 (a := n) (b := k) (by first | rfl | assumption | (simp only [glit, nI_add, pk_mul]; done) | (simp only [glit, nI_add, pk_mul]; congr 1; omega) | (simp only [*, glit, nI_add, pk_mul]; congr 1; omega)) (by first | rfl | assumption | (simp only [glit, nI_add, pk_mul]; done) | (simp only [glit, nI_add, pk_mul]; congr 1; omega) | (simp only [*, glit, nI_add, pk_mul]; congr 1; omega)) (by omega) (by omega)
        have ek : n = k := by omega
        subst ek
        exact g_vret C E dX7_grow_32 rfl ⟨rfl, rfl⟩
      · have k_7 := gnle c_7 (a := n) (b := k) (by first | rfl | assumption | (simp only [glit, nI_add, pk_mul]; done) | (simp only [glit, nI_add, pk_mul]; congr 1; omega) | (simp only [*, glit, nI_add, pk_mul]; congr 1; omega)) (by first | rfl | assumption | (simp only [glit, nI_add, pk_mul]; done) | (simp only [glit, nI_add, pk_mul]; congr 1; omega) | (simp only [*, glit, nI_add, pk_mul]; congr 1; omega)) (by omega) (by omega)
        refine g_aload_n C dX7_grow_10 rfl ?_
        refine g_iload_n C dX7_grow_11 rfl ?_
        refine g_dup2 C dX7_grow_12 rfl rfl ?_
        refine g_ialdN C dX7_grow_13 (k := k) (q := q) hq rfl (by first | rfl | assumption | (simp only [glit, nI_add, pk_mul]; done) | (simp only [glit, nI_add, pk_mul]; congr 1; omega) | (simp only [*, glit, nI_add, pk_mul]; congr 1; omega)) (by rw [h4q]; omega) ?_
        refine g_aload_n C dX7_grow_14 rfl ?_
        refine g_get C dX7_grow_15 iwX7 rfl (wO_U δ _ hu) 1 (Nat.le_of_ble_eq_true rfl) mW196 rfl rfl ?_
        refine g_iload_n C dX7_grow_18 rfl ?_
        refine g_iconst (v := 4) C dX7_grow_19 (by decide) ?_
        refine g_imul C dX7_grow_20 ?_
        refine g_iload_n C dX7_grow_21 rfl ?_
        refine g_iadd C dX7_grow_22 ?_
        refine g_ialdN C dX7_grow_23 (k := ((c * 4) + k)) (q := (8 + u)) (by omega) (congrArg _ (by omega)) (by first | rfl | assumption | (simp only [glit, nI_add, pk_mul]; done) | (simp only [glit, nI_add, pk_mul]; congr 1; omega) | (simp only [*, glit, nI_add, pk_mul]; congr 1; omega)) (by rw [gLenI_t hu]; omega) ?_
        refine g_iadd C dX7_grow_24 ?_
        refine g_iastN C dX7_grow_25 (k := k) (q := q) hq rfl (by first | rfl | assumption | (simp only [glit, nI_add, pk_mul]; done) | (simp only [glit, nI_add, pk_mul]; congr 1; omega) | (simp only [*, glit, nI_add, pk_mul]; congr 1; omega)) (by rw [h4q]; omega) ?_
        rw [uI_uI, gI_uI, if_pos rfl, gI_uI, if_neg hqu, gGw_s]
        refine g_iinc (v := nI (k + 1)) C dX7_grow_26 rfl (ginc _ 1) rfl ?_
        refine g_lv [some _, some _, some _, some _] (gs_some (gs_some (gs_some (gs_some gs_nil)))) ?_
        refine g_goto C 2 dX7_grow_29 (by decide) ?_
        refine g_lv [some _, some _, some _, some _] (gs_some (gs_some (gs_some (gs_some gs_nil)))) ?_
        exact ih_2 (k + 1) (by omega) (by omega)
  refine g_lv [some _, some _, some _, some _] (gs_some (gs_some (gs_some (gs_some gs_nil)))) ?_
  refine g_st (σ' := uI σ q (gGw (gI σ q) (gI σ (8 + u)) c 0)) (by rw [gGw_0]; exact (uI_id σ q).symm) ?_
  exact L_2 _ 0 (by omega) (Nat.lt_succ_self _)
set_option maxRecDepth 100000 in
set_option maxHeartbeats 4000000 in
theorem c_X7_doDraw (l : Launch) (δ : GD) (σ : GS) {u : Nat} (hu : u < 8) {c : Nat} (hc : c < 4) {n : Nat} (hn : gN σ (14 + u) = nI n) (h4 : n ≤ 4) : gM l δ yX7_doDraw cX7_doDraw 2 none 1 23 [.ref (δ.2.2.1 (8 + u)), .int (nI c)] σ (gPv (fun σ' => σ' = uN (uI σ u (gGw (gI σ u) (gI σ (8 + u)) c n)) (22 + u) (gN σ (22 + u) + 1))) := by
  refine g_of (lv0 := [some (.ref (δ.2.2.1 (8 + u))), some (.int (nI c))]) (by decide) rfl (Nat.le_of_ble_eq_true rfl) (fun Γ hl C E => ?_)
  subst hl
  have C : gC Γ δ cX7_doDraw RX7 2 1 23 := C
  refine g_aload_n C dX7_doDraw_0 rfl ?_
  refine g_aload_n C dX7_doDraw_1 rfl ?_
  refine g_get C dX7_doDraw_2 iwX7 rfl (wO_U δ _ hu) 0 (Nat.le_of_ble_eq_true rfl) mW192 rfl rfl ?_
  refine g_iload_n C dX7_doDraw_5 rfl ?_
  refine g_callVv C sV_X7_42 dX7_doDraw_6 (c_X7_grow _ δ _ hu (q := u) (by omega) (gLenI_b hu) (by omega) hc hn h4) ⟨by decide, by decide⟩ (wO_U δ _ hu) rfl rfl rfl rfl (Nat.le_of_ble_eq_true rfl) (fun s_6 h_6 => ?_)
  obtain rfl := h_6
  refine g_aload_n C dX7_doDraw_9 rfl ?_
  refine g_dup C dX7_doDraw_10 rfl ?_
  refine g_get C dX7_doDraw_11 iwX7 rfl (wO_U δ _ hu) 4 (Nat.le_of_ble_eq_true rfl) mW204 rfl rfl ?_
  rw [gN_uI]
  refine g_iconst (v := 1) C dX7_doDraw_14 (by decide) ?_
  refine g_iadd C dX7_doDraw_15 ?_
  refine g_put C tyX7 dX7_doDraw_16 iwX7 tyX7_ok nmX7 rfl (wO_U δ _ hu) 4 (Nat.le_of_ble_eq_true rfl) mW204 rfl rfl rfl rfl rfl (Nat.le_of_ble_eq_true rfl) (pUd δ _ _ hu) ?_
  exact g_vret C E dX7_doDraw_19 rfl ⟨rfl, rfl⟩
set_option maxRecDepth 100000 in
set_option maxHeartbeats 4000000 in
theorem c_X7_colourOf (l : Launch) (δ : GD) (σ : GS) {u : Nat} (hu : u < 8) (v : Int32) {n : Nat} (hn : gN σ (14 + u) = nI (n + 1)) (h4 : n + 1 ≤ 4) : gM l δ yX7_colourOf cX7_colourOf 4 (some .int) 0 0 [.ref (δ.2.2.1 (8 + u)), .int v] σ (gPi (fun x σ' => σ = σ' ∧ ∃ k : Nat, k ≤ n ∧ x = nI k ∧ (∀ j, j < k → ¬ v < gsum (gI σ u) (j + 1)) ∧ (k < n → v < gsum (gI σ u) (k + 1)))) := by
  refine g_of (lv0 := [some (.ref (δ.2.2.1 (8 + u))), some (.int v), none, none]) (by decide) rfl (Nat.le_of_ble_eq_true rfl) (fun Γ hl C E => ?_)
  subst hl
  have C : gC Γ δ cX7_colourOf RX7 4 0 0 := C
  refine g_iconst (v := 0) C dX7_colourOf_0 (by decide) ?_
  refine g_istore_n C dX7_colourOf_1 (Nat.le_of_ble_eq_true rfl) rfl ?_
  refine g_lv [some _, some _, some _, none] (gs_some (gs_some (gs_some (gs_none gs_nil)))) ?_
  refine g_iconst (v := 0) C dX7_colourOf_2 (by decide) ?_
  refine g_istore_n C dX7_colourOf_3 (Nat.le_of_ble_eq_true rfl) rfl ?_
  refine g_lv [some _, some _, some _, some _] (gs_some (gs_some (gs_some (gs_some gs_nil)))) ?_
  have L_4 : ∀ (nn : Nat) (k : Nat) (hk : k ≤ n) (hv : ∀ j, j < k → ¬ v < gsum (gI σ u) (j + 1)), n - k < nn → gW Γ δ σ 4 [some (.ref (δ.2.2.1 (8 + u))), some (.int v), some (.int (gsum (gI σ u) k)), some (.int (nI k))] [] := by
    intro nn
    induction nn with
    | zero =>
      intro k hk hv hm_4
      exact absurd hm_4 (Nat.not_lt_zero _)
    | succ nn ih_4 =>
      intro k hk hv hm_4
      refine g_iload_n C dX7_colourOf_4 rfl ?_
      refine g_aload_n C dX7_colourOf_5 rfl ?_
      refine g_get C dX7_colourOf_6 iwX7 rfl (wO_U δ _ hu) 3 (Nat.le_of_ble_eq_true rfl) mW201 rfl rfl ?_
      rw [hn]
      refine g_iconst (v := 1) C dX7_colourOf_9 (by decide) ?_
      refine g_isub C dX7_colourOf_10 ?_
      rw [nI_succm]
      refine g_icmp_ge C 36 dX7_colourOf_11 (by decide) (fun c_11 => ?_) (fun c_11 => ?_)
      · have ek : n = k := by have := gle c_11 (a := n) (b := k) rfl rfl (by omega) (by omega); omega
        subst ek
        refine g_aload_n C dX7_colourOf_36 rfl ?_
        refine g_get C dX7_colourOf_37 iwX7 rfl (wO_U δ _ hu) 3 (Nat.le_of_ble_eq_true rfl) mW201 rfl rfl ?_
        rw [hn]
        refine g_iconst (v := 1) C dX7_colourOf_40 (by decide) ?_
        refine g_isub C dX7_colourOf_41 ?_
        rw [nI_succm]
        exact g_iret C E dX7_colourOf_42 rfl rfl ⟨_, rfl, ⟨rfl, _, Nat.le_refl _, rfl, hv, fun h => absurd h (Nat.lt_irrefl _)⟩⟩
      · have k_11 := gnle c_11 (a := n) (b := k) rfl rfl (by omega) (by omega)
        refine g_iload_n C dX7_colourOf_14 rfl ?_
        refine g_aload_n C dX7_colourOf_15 rfl ?_
        refine g_get C dX7_colourOf_16 iwX7 rfl (wO_U δ _ hu) 0 (Nat.le_of_ble_eq_true rfl) mW192 rfl rfl ?_
        refine g_iload_n C dX7_colourOf_19 rfl ?_
        refine g_ialdN C dX7_colourOf_20 (k := k) (q := u) (by omega) rfl (by first | rfl | assumption | (simp only [glit, nI_add, pk_mul]; done) | (simp only [glit, nI_add, pk_mul]; congr 1; omega) | (simp only [*, glit, nI_add, pk_mul]; congr 1; omega)) (by rw [gLenI_b hu]; omega) ?_
        refine g_iadd C dX7_colourOf_21 ?_
        refine g_istore_n C dX7_colourOf_22 (Nat.le_of_ble_eq_true rfl) rfl ?_
        refine g_lv [some _, some _, some _, some _] (gs_some (gs_some (gs_some (gs_some gs_nil)))) ?_
        refine g_iload_n C dX7_colourOf_23 rfl ?_
        refine g_iload_n C dX7_colourOf_24 rfl ?_
        refine g_icmp_ge C 30 dX7_colourOf_25 (by decide) (fun c_25 => ?_) (fun c_25 => ?_)
        · refine g_iinc (v := nI (k + 1)) C dX7_colourOf_30 rfl (ginc _ 1) rfl ?_
          refine g_lv [some _, some _, some _, some _] (gs_some (gs_some (gs_some (gs_some gs_nil)))) ?_
          refine g_goto C 4 dX7_colourOf_33 (by decide) ?_
          refine g_lv [some _, some _, some _, some _] (gs_some (gs_some (gs_some (gs_some gs_nil)))) ?_
          exact ih_4 (k + 1) (by omega) (fun j h => (Nat.lt_succ_iff_lt_or_eq.mp h).elim (fun h => hv j h) (fun h => by rw [h]; exact Int32.not_lt.mpr c_25)) (by omega)
        · refine g_iload_n C dX7_colourOf_28 rfl ?_
          exact g_iret C E dX7_colourOf_29 rfl rfl ⟨_, rfl, ⟨rfl, k, by omega, rfl, hv, fun _ => Int32.not_le.mp c_25⟩⟩
  refine g_lv [some _, some _, some _, some _] (gs_some (gs_some (gs_some (gs_some gs_nil)))) ?_
  exact L_4 _ 0 (by omega) (fun _ h => absurd h (Nat.not_lt_zero _)) (Nat.lt_succ_self _)
set_option maxRecDepth 100000 in
set_option maxHeartbeats 4000000 in
theorem c_X7_goInto (l : Launch) (δ : GD) (σ : GS) {u w b : Nat} (hu : u < 8) (hw : w < 20) (hb : b + 25 ≤ 201) : gM l δ yX7_goInto cX7_goInto 3 none 1 18 [.ref (δ.2.2.1 (8 + u)), .ref (δ.2.2.1 (46 + w)), .int (nI b)] σ (gPv (fun σ' => σ' = uI σ (24 + w) (gLay σ u b (gI σ (24 + w))))) := by
  refine g_of (lv0 := [some (.ref (δ.2.2.1 (8 + u))), some (.ref (δ.2.2.1 (46 + w))), some (.int (nI b))]) (by decide) rfl (Nat.le_of_ble_eq_true rfl) (fun Γ hl C E => ?_)
  subst hl
  have C : gC Γ δ cX7_goInto RX7 3 1 18 := C
  refine g_aload_n C dX7_goInto_0 rfl ?_
  refine g_get C dX7_goInto_1 iwX7 rfl (wO_U δ _ hu) 0 (Nat.le_of_ble_eq_true rfl) mW192 rfl rfl ?_
  refine g_iconst (v := 0) C dX7_goInto_4 (by decide) ?_
  refine g_aload_n C dX7_goInto_5 rfl ?_
  refine g_iload_n C dX7_goInto_6 rfl ?_
  refine g_iconst (v := 4) C dX7_goInto_7 (by decide) ?_
  refine g_copyIN C (q0 := u) (q1 := (24 + w)) (a' := 0) (b' := b) (c' := 4) dX7_goInto_8 mW314 mW281 mW280 mW12 (by omega) (by omega) rfl (congrArg _ (by omega)) rfl (by first | rfl | assumption | (simp only [glit, nI_add, pk_mul]; done) | (simp only [glit, nI_add, pk_mul]; congr 1; omega) | (simp only [*, glit, nI_add, pk_mul]; congr 1; omega)) (by first | rfl | assumption | (simp only [glit, nI_add, pk_mul]; done) | (simp only [glit, nI_add, pk_mul]; congr 1; omega) | (simp only [*, glit, nI_add, pk_mul]; congr 1; omega)) (by first | rfl | assumption | (simp only [glit, nI_add, pk_mul]; done) | (simp only [glit, nI_add, pk_mul]; congr 1; omega) | (simp only [*, glit, nI_add, pk_mul]; congr 1; omega)) (by rw [gLenI_b hu]; omega) (by rw [gLenI_k hw]; omega) (by decide) (Nat.le_of_ble_eq_true rfl) ?_
  skip
  refine g_aload_n C dX7_goInto_11 rfl ?_
  refine g_get C dX7_goInto_12 iwX7 rfl (wO_U δ _ hu) 1 (Nat.le_of_ble_eq_true rfl) mW196 rfl rfl ?_
  refine g_iconst (v := 0) C dX7_goInto_15 (by decide) ?_
  refine g_aload_n C dX7_goInto_16 rfl ?_
  refine g_iload_n C dX7_goInto_17 rfl ?_
  refine g_iconst (v := 4) C dX7_goInto_18 (by decide) ?_
  refine g_iadd C dX7_goInto_19 ?_
  refine g_bipush (v := 16) C dX7_goInto_20 (by decide) ?_
  refine g_copyIN C (q0 := (8 + u)) (q1 := (24 + w)) (a' := 0) (b' := (b + 4)) (c' := 16) dX7_goInto_22 mW314 mW281 mW280 mW12 (by omega) (by omega) (congrArg _ (by omega)) (congrArg _ (by omega)) rfl (by first | rfl | assumption | (simp only [glit, nI_add, pk_mul]; done) | (simp only [glit, nI_add, pk_mul]; congr 1; omega) | (simp only [*, glit, nI_add, pk_mul]; congr 1; omega)) (by first | rfl | assumption | (simp only [glit, nI_add, pk_mul]; done) | (simp only [glit, nI_add, pk_mul]; congr 1; omega) | (simp only [*, glit, nI_add, pk_mul]; congr 1; omega)) (by first | rfl | assumption | (simp only [glit, nI_add, pk_mul]; done) | (simp only [glit, nI_add, pk_mul]; congr 1; omega) | (simp only [*, glit, nI_add, pk_mul]; congr 1; omega)) (by rw [gLenI_t hu]; omega) (by rw [gLenI_k hw]; omega) (by decide) (Nat.le_of_ble_eq_true rfl) ?_
  rw [uI_uI, gI_uI, if_neg (by omega), gI_uI, if_pos rfl]
  refine g_aload_n C dX7_goInto_25 rfl ?_
  refine g_get C dX7_goInto_26 iwX7 rfl (wO_U δ _ hu) 2 (Nat.le_of_ble_eq_true rfl) mW199 rfl rfl ?_
  refine g_iconst (v := 0) C dX7_goInto_29 (by decide) ?_
  refine g_aload_n C dX7_goInto_30 rfl ?_
  refine g_iload_n C dX7_goInto_31 rfl ?_
  refine g_iconst (v := 4) C dX7_goInto_32 (by decide) ?_
  refine g_iadd C dX7_goInto_33 ?_
  refine g_bipush (v := 16) C dX7_goInto_34 (by decide) ?_
  refine g_iadd C dX7_goInto_36 ?_
  refine g_iconst (v := 4) C dX7_goInto_37 (by decide) ?_
  refine g_copyIN C (q0 := (16 + u)) (q1 := (24 + w)) (a' := 0) (b' := ((b + 4) + 16)) (c' := 4) dX7_goInto_38 mW314 mW281 mW280 mW12 (by omega) (by omega) (congrArg _ (by omega)) (congrArg _ (by omega)) rfl (by first | rfl | assumption | (simp only [glit, nI_add, pk_mul]; done) | (simp only [glit, nI_add, pk_mul]; congr 1; omega) | (simp only [*, glit, nI_add, pk_mul]; congr 1; omega)) (by first | rfl | assumption | (simp only [glit, nI_add, pk_mul]; done) | (simp only [glit, nI_add, pk_mul]; congr 1; omega) | (simp only [*, glit, nI_add, pk_mul]; congr 1; omega)) (by first | rfl | assumption | (simp only [glit, nI_add, pk_mul]; done) | (simp only [glit, nI_add, pk_mul]; congr 1; omega) | (simp only [*, glit, nI_add, pk_mul]; congr 1; omega)) (by rw [gLenI_u hu]; omega) (by rw [gLenI_k hw]; omega) (by decide) (Nat.le_of_ble_eq_true rfl) ?_
  rw [uI_uI, gI_uI, if_neg (by omega), gI_uI, if_pos rfl]
  refine g_aload_n C dX7_goInto_41 rfl ?_
  refine g_iload_n C dX7_goInto_42 rfl ?_
  refine g_bipush (v := 25) C dX7_goInto_43 (by decide) ?_
  refine g_iadd C dX7_goInto_45 ?_
  refine g_iconst (v := 1) C dX7_goInto_46 (by decide) ?_
  refine g_isub C dX7_goInto_47 ?_
  rw [show nI b + 25 - 1 = nI (b + 24) by rw [show (25 : Int32) = nI 25 from rfl, nI_add]; exact nI_pred (b + 24)]
  refine g_aload_n C dX7_goInto_48 rfl ?_
  refine g_get C dX7_goInto_49 iwX7 rfl (wO_U δ _ hu) 4 (Nat.le_of_ble_eq_true rfl) mW204 rfl rfl ?_
  refine g_iastN C dX7_goInto_52 (k := (b + 24)) (q := (24 + w)) (by omega) (congrArg _ (by omega)) (by first | rfl | assumption | (simp only [glit, nI_add, pk_mul]; done) | (simp only [glit, nI_add, pk_mul]; congr 1; omega) | (simp only [*, glit, nI_add, pk_mul]; congr 1; omega)) (by rw [gLenI_k hw]; omega) ?_
  rw [uI_uI, gI_uI, if_pos rfl, gN_uI]
  exact g_vret C E dX7_goInto_53 rfl ⟨rfl, rfl⟩
set_option maxRecDepth 100000 in
set_option maxHeartbeats 4000000 in
theorem c_X7_comeFrom (l : Launch) (δ : GD) (σ : GS) {u w b : Nat} (hu : u < 8) (hw : w < 20) (hb : b + 25 ≤ 201) : gM l δ yX7_comeFrom cX7_comeFrom 3 none 1 18 [.ref (δ.2.2.1 (8 + u)), .ref (δ.2.2.1 (46 + w)), .int (nI b)] σ (gPv (fun σ' => σ' = uN (uI (uI (uI σ u (va_cpy (gI σ (24 + w)) (gI σ u) b 0 4)) (8 + u) (va_cpy (gI σ (24 + w)) (gI σ (8 + u)) (b + 4) 0 16)) (16 + u) (va_cpy (gI σ (24 + w)) (gI σ (16 + u)) (b + 4 + 16) 0 4)) (22 + u) (gI σ (24 + w) (b + 24)))) := by
  refine g_of (lv0 := [some (.ref (δ.2.2.1 (8 + u))), some (.ref (δ.2.2.1 (46 + w))), some (.int (nI b))]) (by decide) rfl (Nat.le_of_ble_eq_true rfl) (fun Γ hl C E => ?_)
  subst hl
  have C : gC Γ δ cX7_comeFrom RX7 3 1 18 := C
  refine g_aload_n C dX7_comeFrom_0 rfl ?_
  refine g_iload_n C dX7_comeFrom_1 rfl ?_
  refine g_aload_n C dX7_comeFrom_2 rfl ?_
  refine g_get C dX7_comeFrom_3 iwX7 rfl (wO_U δ _ hu) 0 (Nat.le_of_ble_eq_true rfl) mW192 rfl rfl ?_
  refine g_iconst (v := 0) C dX7_comeFrom_6 (by decide) ?_
  refine g_iconst (v := 4) C dX7_comeFrom_7 (by decide) ?_
  refine g_copyIN C (q0 := (24 + w)) (q1 := u) (a' := b) (b' := 0) (c' := 4) dX7_comeFrom_8 mW314 mW281 mW280 mW12 (by omega) (by omega) (congrArg _ (by omega)) rfl rfl (by first | rfl | assumption | (simp only [glit, nI_add, pk_mul]; done) | (simp only [glit, nI_add, pk_mul]; congr 1; omega) | (simp only [*, glit, nI_add, pk_mul]; congr 1; omega)) (by first | rfl | assumption | (simp only [glit, nI_add, pk_mul]; done) | (simp only [glit, nI_add, pk_mul]; congr 1; omega) | (simp only [*, glit, nI_add, pk_mul]; congr 1; omega)) (by first | rfl | assumption | (simp only [glit, nI_add, pk_mul]; done) | (simp only [glit, nI_add, pk_mul]; congr 1; omega) | (simp only [*, glit, nI_add, pk_mul]; congr 1; omega)) (by rw [gLenI_k hw]; omega) (by rw [gLenI_b hu]; omega) (by decide) (Nat.le_of_ble_eq_true rfl) ?_
  refine g_aload_n C dX7_comeFrom_11 rfl ?_
  refine g_iload_n C dX7_comeFrom_12 rfl ?_
  refine g_iconst (v := 4) C dX7_comeFrom_13 (by decide) ?_
  refine g_iadd C dX7_comeFrom_14 ?_
  refine g_aload_n C dX7_comeFrom_15 rfl ?_
  refine g_get C dX7_comeFrom_16 iwX7 rfl (wO_U δ _ hu) 1 (Nat.le_of_ble_eq_true rfl) mW196 rfl rfl ?_
  refine g_iconst (v := 0) C dX7_comeFrom_19 (by decide) ?_
  refine g_bipush (v := 16) C dX7_comeFrom_20 (by decide) ?_
  refine g_copyIN C (q0 := (24 + w)) (q1 := (8 + u)) (a' := (b + 4)) (b' := 0) (c' := 16) dX7_comeFrom_22 mW314 mW281 mW280 mW12 (by omega) (by omega) (congrArg _ (by omega)) (congrArg _ (by omega)) rfl (by first | rfl | assumption | (simp only [glit, nI_add, pk_mul]; done) | (simp only [glit, nI_add, pk_mul]; congr 1; omega) | (simp only [*, glit, nI_add, pk_mul]; congr 1; omega)) (by first | rfl | assumption | (simp only [glit, nI_add, pk_mul]; done) | (simp only [glit, nI_add, pk_mul]; congr 1; omega) | (simp only [*, glit, nI_add, pk_mul]; congr 1; omega)) (by first | rfl | assumption | (simp only [glit, nI_add, pk_mul]; done) | (simp only [glit, nI_add, pk_mul]; congr 1; omega) | (simp only [*, glit, nI_add, pk_mul]; congr 1; omega)) (by rw [gLenI_k hw]; omega) (by rw [gLenI_t hu]; omega) (by decide) (Nat.le_of_ble_eq_true rfl) ?_
  rw [gI_uI, if_neg (by omega), gI_uI, if_neg (by omega)]
  refine g_aload_n C dX7_comeFrom_25 rfl ?_
  refine g_iload_n C dX7_comeFrom_26 rfl ?_
  refine g_iconst (v := 4) C dX7_comeFrom_27 (by decide) ?_
  refine g_iadd C dX7_comeFrom_28 ?_
  refine g_bipush (v := 16) C dX7_comeFrom_29 (by decide) ?_
  refine g_iadd C dX7_comeFrom_31 ?_
  refine g_aload_n C dX7_comeFrom_32 rfl ?_
  refine g_get C dX7_comeFrom_33 iwX7 rfl (wO_U δ _ hu) 2 (Nat.le_of_ble_eq_true rfl) mW199 rfl rfl ?_
  refine g_iconst (v := 0) C dX7_comeFrom_36 (by decide) ?_
  refine g_iconst (v := 4) C dX7_comeFrom_37 (by decide) ?_
  refine g_copyIN C (q0 := (24 + w)) (q1 := (16 + u)) (a' := ((b + 4) + 16)) (b' := 0) (c' := 4) dX7_comeFrom_38 mW314 mW281 mW280 mW12 (by omega) (by omega) (congrArg _ (by omega)) (congrArg _ (by omega)) rfl (by first | rfl | assumption | (simp only [glit, nI_add, pk_mul]; done) | (simp only [glit, nI_add, pk_mul]; congr 1; omega) | (simp only [*, glit, nI_add, pk_mul]; congr 1; omega)) (by first | rfl | assumption | (simp only [glit, nI_add, pk_mul]; done) | (simp only [glit, nI_add, pk_mul]; congr 1; omega) | (simp only [*, glit, nI_add, pk_mul]; congr 1; omega)) (by first | rfl | assumption | (simp only [glit, nI_add, pk_mul]; done) | (simp only [glit, nI_add, pk_mul]; congr 1; omega) | (simp only [*, glit, nI_add, pk_mul]; congr 1; omega)) (by rw [gLenI_k hw]; omega) (by rw [gLenI_u hu]; omega) (by decide) (Nat.le_of_ble_eq_true rfl) ?_
  rw [gI_uI, if_neg (by omega), gI_uI, if_neg (by omega), gI_uI, if_neg (by omega), gI_uI, if_neg (by omega)]
  refine g_aload_n C dX7_comeFrom_41 rfl ?_
  refine g_aload_n C dX7_comeFrom_42 rfl ?_
  refine g_iload_n C dX7_comeFrom_43 rfl ?_
  refine g_bipush (v := 25) C dX7_comeFrom_44 (by decide) ?_
  refine g_iadd C dX7_comeFrom_46 ?_
  refine g_iconst (v := 1) C dX7_comeFrom_47 (by decide) ?_
  refine g_isub C dX7_comeFrom_48 ?_
  rw [show nI b + 25 - 1 = nI (b + 24) by rw [show (25 : Int32) = nI 25 from rfl, nI_add]; exact nI_pred (b + 24)]
  refine g_ialdN C dX7_comeFrom_49 (k := (b + 24)) (q := (24 + w)) (by omega) (congrArg _ (by omega)) (by first | rfl | assumption | (simp only [glit, nI_add, pk_mul]; done) | (simp only [glit, nI_add, pk_mul]; congr 1; omega) | (simp only [*, glit, nI_add, pk_mul]; congr 1; omega)) (by rw [gLenI_k hw]; omega) ?_
  rw [gI_uI, if_neg (by omega), gI_uI, if_neg (by omega), gI_uI, if_neg (by omega)]
  refine g_put C tyX7 dX7_comeFrom_50 iwX7 tyX7_ok nmX7 rfl (wO_U δ _ hu) 4 (Nat.le_of_ble_eq_true rfl) mW204 rfl rfl rfl rfl rfl (Nat.le_of_ble_eq_true rfl) (pUd δ _ _ hu) ?_
  exact g_vret C E dX7_comeFrom_53 rfl ⟨rfl, rfl⟩
set_option maxRecDepth 100000 in
set_option maxHeartbeats 4000000 in
theorem c_X7_hasAll (l : Launch) (δ : GD) (σ : GS) {u : Nat} (hu : u < 8) {k w : Nat} (hk : k ≤ 12) (hw : w < 2147483648) {n : Nat} (hn : gN σ (14 + u) = nI n) (h4 : n ≤ 4) : gM l δ yX7_hasAll cX7_hasAll 5 (some .boolean) 1 21 [.ref (δ.2.2.1 (8 + u)), .int (nI k), .int (nI w)] σ (gPi (fun x σ' => σ = σ' ∧ ((x = 1 ∧ (∀ i, i < k → gDig w i < n)) ∨ (x = 0 ∧ ¬ (∀ i, i < k → gDig w i < n))))) := by
  refine g_of (lv0 := [some (.ref (δ.2.2.1 (8 + u))), some (.int (nI k)), some (.int (nI w)), none, none]) (by decide) rfl (Nat.le_of_ble_eq_true rfl) (fun Γ hl C E => ?_)
  subst hl
  have C : gC Γ δ cX7_hasAll RX7 5 1 21 := C
  refine g_iload_n C dX7_hasAll_0 rfl ?_
  refine g_istore_n C dX7_hasAll_1 (Nat.le_of_ble_eq_true rfl) rfl ?_
  refine g_lv [some _, some _, some _, some _, none] (gs_some (gs_some (gs_some (gs_some (gs_none gs_nil))))) ?_
  refine g_iconst (v := 0) C dX7_hasAll_2 (by decide) ?_
  refine g_istore C dX7_hasAll_3 (Nat.le_of_ble_eq_true rfl) rfl ?_
  refine g_lv [some _, some _, some _, some _, some _] (gs_some (gs_some (gs_some (gs_some (gs_some gs_nil))))) ?_
  have L_5 : ∀ (nn : Nat) (i : Nat) (hi : i ≤ k) (hv : ∀ j, j < i → gDig w j < n), k - i < nn → gW Γ δ σ 5 [some (.ref (δ.2.2.1 (8 + u))), some (.int (nI k)), some (.int (nI w)), some (.int (nI (w / 4 ^ i))), some (.int (nI i))] [] := by
    intro nn
    induction nn with
    | zero =>
      intro i hi hv hm_5
      exact absurd hm_5 (Nat.not_lt_zero _)
    | succ nn ih_5 =>
      intro i hi hv hm_5
      have hl := gpowle w i
      refine g_iload C dX7_hasAll_5 rfl ?_
      refine g_iload_n C dX7_hasAll_7 rfl ?_
      refine g_icmp_ge C 33 dX7_hasAll_8 (by decide) (fun c_8 => ?_) (fun c_8 => ?_)
      · have k_8 := gle c_8 (a := k) (b := i) (by first | rfl | assumption | (simp only [glit, nI_add, pk_mul]; done) | (simp only [glit, nI_add, pk_mul]; congr 1; omega) | (simp only [*, glit, nI_add, pk_mul]; congr 1; omega)) (by first | rfl | assumption | (simp only [glit, nI_add, pk_mul]; done) | (simp only [glit, nI_add, pk_mul]; congr 1; omega) | (simp only [*, glit, nI_add, pk_mul]; congr 1; omega)) (by omega) (by omega)
        refine g_iconst (v := 1) C dX7_hasAll_33 (by decide) ?_
        exact g_iret C E dX7_hasAll_34 rfl rfl ⟨_, rfl, ⟨rfl, Or.inl ⟨rfl, fun j h => hv j (by omega)⟩⟩⟩
      · have k_8 := gnle c_8 (a := k) (b := i) (by first | rfl | assumption | (simp only [glit, nI_add, pk_mul]; done) | (simp only [glit, nI_add, pk_mul]; congr 1; omega) | (simp only [*, glit, nI_add, pk_mul]; congr 1; omega)) (by first | rfl | assumption | (simp only [glit, nI_add, pk_mul]; done) | (simp only [glit, nI_add, pk_mul]; congr 1; omega) | (simp only [*, glit, nI_add, pk_mul]; congr 1; omega)) (by omega) (by omega)
        refine g_aload_n C dX7_hasAll_11 rfl ?_
        refine g_iload_n C dX7_hasAll_12 rfl ?_
        refine g_iconst (v := 4) C dX7_hasAll_13 (by decide) ?_
        refine g_irem C dX7_hasAll_14 (by decide) ?_
        rw [gDig_rem (by omega)]
        refine g_callVi C sV_X7_34 dX7_hasAll_15 (c_X7_has _ δ _ hu _ hn h4) ⟨by decide, by decide⟩ (wO_U δ _ hu) rfl rfl rfl rfl (Nat.le_of_ble_eq_true rfl) (fun r_15 s_15 h_15 => ?_)
        obtain ⟨rfl, h_15⟩ := h_15
        rcases h_15 with ⟨rfl, h_15⟩ | ⟨rfl, h_15⟩
        · have hd : gDig w i < n := gIx_lt (Nat.lt_of_lt_of_le (Nat.mod_lt _ (by decide)) (by decide)) h_15
          refine g_if_ne C 23 dX7_hasAll_18 (by decide) (fun c_18 => ?_) (fun c_18 => ?_)
          · refine g_iload_n C dX7_hasAll_23 rfl ?_
            refine g_iconst (v := 4) C dX7_hasAll_24 (by decide) ?_
            refine g_idiv C dX7_hasAll_25 (by decide) ?_
            rw [gDig_div (by omega), gpow]
            refine g_istore_n C dX7_hasAll_26 (Nat.le_of_ble_eq_true rfl) rfl ?_
            refine g_lv [some _, some _, some _, some _, some _] (gs_some (gs_some (gs_some (gs_some (gs_some gs_nil))))) ?_
            refine g_iinc (v := nI (i + 1)) C dX7_hasAll_27 rfl (ginc _ 1) rfl ?_
            refine g_lv [some _, some _, some _, some _, some _] (gs_some (gs_some (gs_some (gs_some (gs_some gs_nil))))) ?_
            refine g_goto C 5 dX7_hasAll_30 (by decide) ?_
            refine g_lv [some _, some _, some _, some _, some _] (gs_some (gs_some (gs_some (gs_some (gs_some gs_nil))))) ?_
            exact ih_5 (i + 1) (by omega) (fun j h => (Nat.lt_succ_iff_lt_or_eq.mp h).elim (fun h => hv j h) (fun h => by rw [h]; exact hd)) (by omega)
          · exact absurd c_18 (by decide)
        · have hd : ¬ gDig w i < n := fun z => h_15 ⟨_, z, rfl⟩
          refine g_if_ne C 23 dX7_hasAll_18 (by decide) (fun c_18 => ?_) (fun c_18 => ?_)
          · exact absurd c_18 (by decide)
          · refine g_iconst (v := 0) C dX7_hasAll_21 (by decide) ?_
            exact g_iret C E dX7_hasAll_22 rfl rfl ⟨_, rfl, ⟨rfl, Or.inr ⟨rfl, fun q => hd (q i (by omega))⟩⟩⟩
  refine g_lv [some _, some _, some _, some _, some _] (gs_some (gs_some (gs_some (gs_some (gs_some gs_nil))))) ?_
  have e0 : nI w = nI (w / 4 ^ 0) := by rw [Nat.pow_zero, Nat.div_one]
  refine g_lv [some (.ref (δ.2.2.1 (8 + u))), some (.int (nI k)), some (.int (nI w)), some (.int (nI (w / 4 ^ 0))), some (.int (nI 0))] (by rw [← e0]; exact gs_some (gs_some (gs_some (gs_some (gs_some gs_nil))))) ?_
  exact L_5 _ 0 (by omega) (fun _ h => absurd h (Nat.not_lt_zero _)) (Nat.lt_succ_self _)
set_option maxRecDepth 100000 in
set_option maxHeartbeats 4000000 in
theorem c_X2_nextRow (l : Launch) (δ : GD) (σ : GS) {kl kn : Nat} (hl : gN σ 30 = nI kl) (hx : gN σ 31 = nI kn) (h20 : kl ≤ 20) (hn : kn < 20) : gM l δ yX2_nextRow cX2_nextRow 2 (some (.array .int)) 0 0 [.ref (δ.2.2.1 16)] σ (gPr (fun x σ' => x = .ref (δ.2.2.1 (46 + kn)) ∧ σ' = uN (uN σ 31 (nI ((kn + 1) % 20))) 30 (nI (if kl < 20 then kl + 1 else 20)))) := by
  refine g_of (lv0 := [some (.ref (δ.2.2.1 16)), none]) (by decide) rfl (Nat.le_of_ble_eq_true rfl) (fun Γ hl C E => ?_)
  subst hl
  have C : gC Γ δ cX2_nextRow RX2 2 0 0 := C
  refine g_aload_n C dX2_nextRow_0 rfl ?_
  refine g_get C dX2_nextRow_1 iwX2 rfl (wO_K δ _) 0 (Nat.le_of_ble_eq_true rfl) mW33 rfl rfl ?_
  refine g_aload_n C dX2_nextRow_4 rfl ?_
  refine g_get C dX2_nextRow_5 iwX2 rfl (wO_K δ _) 2 (Nat.le_of_ble_eq_true rfl) mW36 rfl rfl ?_
  rw [hx]
  refine g_aaldK C kn dX2_nextRow_8 rfl hn (by first | rfl | assumption | (simp only [glit, nI_add, pk_mul]; done) | (simp only [glit, nI_add, pk_mul]; congr 1; omega) | (simp only [*, glit, nI_add, pk_mul]; congr 1; omega)) ?_
  refine g_astore_n C dX2_nextRow_9 (Nat.le_of_ble_eq_true rfl) rfl ?_
  refine g_lv [some _, some _] (gs_some (gs_some gs_nil)) ?_
  refine g_aload_n C dX2_nextRow_10 rfl ?_
  refine g_aload_n C dX2_nextRow_11 rfl ?_
  refine g_get C dX2_nextRow_12 iwX2 rfl (wO_K δ _) 2 (Nat.le_of_ble_eq_true rfl) mW36 rfl rfl ?_
  rw [hx]
  refine g_iconst (v := 1) C dX2_nextRow_15 (by decide) ?_
  refine g_iadd C dX2_nextRow_16 ?_
  refine g_bipush (v := 20) C dX2_nextRow_17 (by decide) ?_
  refine g_irem C dX2_nextRow_19 (by decide) ?_
  rw [show nI kn + 1 = nI (kn + 1) from nI_1 kn, gmod20 (by omega)]
  refine g_put C tyX2 dX2_nextRow_20 iwX2 tyX2_ok nmX2 rfl (wO_K δ _) 2 (Nat.le_of_ble_eq_true rfl) mW36 rfl rfl rfl rfl rfl (Nat.le_of_ble_eq_true rfl) (pN_31 δ _ _) ?_
  refine g_aload_n C dX2_nextRow_23 rfl ?_
  have J_44 : ∀ (y : Int32) (ey : y = nI (if kl < 20 then kl + 1 else 20)), gW Γ δ (uN σ 31 (nI ((kn + 1) % 20))) 44 [some (.ref (δ.2.2.1 16)), some (.ref (δ.2.2.1 (46 + kn)))] [.int y, .ref (δ.2.2.1 16)] := by
    intro y ey
    refine g_put C tyX2 dX2_nextRow_44 iwX2 tyX2_ok nmX2 rfl (wO_K δ _) 1 (Nat.le_of_ble_eq_true rfl) mW34 rfl rfl rfl rfl rfl (Nat.le_of_ble_eq_true rfl) (pN_30 δ _ _) ?_
    refine g_aload_n C dX2_nextRow_47 rfl ?_
    exact g_aret C E dX2_nextRow_48 rfl (by simp) (Or.inr ⟨_, rfl⟩) ⟨_, rfl, ⟨rfl, by rw [ey]⟩⟩
  refine g_aload_n C dX2_nextRow_24 rfl ?_
  refine g_get C dX2_nextRow_25 iwX2 rfl (wO_K δ _) 1 (Nat.le_of_ble_eq_true rfl) mW34 rfl rfl ?_
  rw [gN_uN, if_neg (by decide), hl]
  refine g_bipush (v := 20) C dX2_nextRow_28 (by decide) ?_
  refine g_icmp_ge C 42 dX2_nextRow_30 (by decide) (fun c_30 => ?_) (fun c_30 => ?_)
  · have k_30 := gle c_30 (a := 20) (b := kl) (by first | rfl | assumption | (simp only [glit, nI_add, pk_mul]; done) | (simp only [glit, nI_add, pk_mul]; congr 1; omega) | (simp only [*, glit, nI_add, pk_mul]; congr 1; omega)) (by first | rfl | assumption | (simp only [glit, nI_add, pk_mul]; done) | (simp only [glit, nI_add, pk_mul]; congr 1; omega) | (simp only [*, glit, nI_add, pk_mul]; congr 1; omega)) (by omega) (by omega)
    refine g_bipush (v := 20) C dX2_nextRow_42 (by decide) ?_
    refine g_lv [some _, some _] (gs_some (gs_some gs_nil)) ?_
    exact J_44 _ (by rw [if_neg (by omega)]; rfl)
  · have k_30 := gnle c_30 (a := 20) (b := kl) (by first | rfl | assumption | (simp only [glit, nI_add, pk_mul]; done) | (simp only [glit, nI_add, pk_mul]; congr 1; omega) | (simp only [*, glit, nI_add, pk_mul]; congr 1; omega)) (by first | rfl | assumption | (simp only [glit, nI_add, pk_mul]; done) | (simp only [glit, nI_add, pk_mul]; congr 1; omega) | (simp only [*, glit, nI_add, pk_mul]; congr 1; omega)) (by omega) (by omega)
    refine g_aload_n C dX2_nextRow_33 rfl ?_
    refine g_get C dX2_nextRow_34 iwX2 rfl (wO_K δ _) 1 (Nat.le_of_ble_eq_true rfl) mW34 rfl rfl ?_
    rw [gN_uN, if_neg (by decide), hl]
    refine g_iconst (v := 1) C dX2_nextRow_37 (by decide) ?_
    skip
    refine g_iadd C dX2_nextRow_38 ?_
    refine g_goto C 44 dX2_nextRow_39 (by decide) ?_
    refine g_lv [some _, some _] (gs_some (gs_some gs_nil)) ?_
    exact J_44 _ (by rw [if_pos k_30, ← nI_1 kl])
set_option maxRecDepth 100000 in
set_option maxHeartbeats 4000000 in
theorem c_X8_keepAct (l : Launch) (δ : GD) (σ : GS) {kl kn : Nat} (hl : gN σ 30 = nI kl) (hx : gN σ 31 = nI kn) (h20 : kl ≤ 20) (hn : kn < 20) : gM l δ yX8_keepAct cX8_keepAct 3 none 2 40 [.ref (δ.2.2.1 0)] σ (gPv (fun σ' => ∃ f : Nat → Int32, (∀ j, j < 201 → f j = cS σ j) ∧ σ' = uI (uN (uN σ 31 (nI ((kn + 1) % 20))) 30 (nI (if kl < 20 then kl + 1 else 20))) (24 + kn) f)) := by
  refine g_of (lv0 := [some (.ref (δ.2.2.1 0)), none, none]) (by decide) rfl (Nat.le_of_ble_eq_true rfl) (fun Γ hl C E => ?_)
  subst hl
  have C : gC Γ δ cX8_keepAct RX8 3 2 40 := C
  refine g_aload_n C dX8_keepAct_0 rfl ?_
  refine g_get C dX8_keepAct_1 iwX8 rfl (wO_X δ _) 2 (Nat.le_of_ble_eq_true rfl) mW219 rfl rfl ?_
  refine g_callVr C sV_X8_255 dX8_keepAct_4 (c_X2_nextRow _ δ _ hl hx h20 hn) ⟨by decide, by decide⟩ (wO_K δ _) rfl rfl rfl rfl (Nat.le_of_ble_eq_true rfl) (fun r_4 s_4 h_4 => ?_)
  obtain ⟨rfl, rfl⟩ := h_4
  refine g_astore_n C dX8_keepAct_7 (Nat.le_of_ble_eq_true rfl) rfl ?_
  refine g_lv [some _, some _, none] (gs_some (gs_some (gs_none gs_nil))) ?_
  refine g_iconst (v := 0) C dX8_keepAct_8 (by decide) ?_
  refine g_istore_n C dX8_keepAct_9 (Nat.le_of_ble_eq_true rfl) rfl ?_
  refine g_lv [some _, some _, some _] (gs_some (gs_some (gs_some gs_nil))) ?_
  have L_10 : ∀ (nn : Nat) (k : Nat) (f : Nat → Int32) (hk : k ≤ 8) (hf : ∀ j, j < 25 * k → f j = cS σ j), 8 - k < nn → gW Γ δ (uI (uN (uN σ 31 (nI ((kn + 1) % 20))) 30 (nI (if kl < 20 then kl + 1 else 20))) (24 + kn) f) 10 [some (.ref (δ.2.2.1 0)), some (.ref (δ.2.2.1 (46 + kn))), some (.int (nI k))] [] := by
    intro nn
    induction nn with
    | zero =>
      intro k f hk hf hm_10
      exact absurd hm_10 (Nat.not_lt_zero _)
    | succ nn ih_10 =>
      intro k f hk hf hm_10
      refine g_iload_n C dX8_keepAct_10 rfl ?_
      refine g_bipush (v := 8) C dX8_keepAct_11 (by decide) ?_
      refine g_icmp_ge C 36 dX8_keepAct_13 (by decide) (fun c_13 => ?_) (fun c_13 => ?_)
      · have k_13 := gle c_13 (a := 8) (b := k) (by first | rfl | assumption | (simp only [glit, nI_add, pk_mul]; done) | (simp only [glit, nI_add, pk_mul]; congr 1; omega) | (simp only [*, glit, nI_add, pk_mul]; congr 1; omega)) (by first | rfl | assumption | (simp only [glit, nI_add, pk_mul]; done) | (simp only [glit, nI_add, pk_mul]; congr 1; omega) | (simp only [*, glit, nI_add, pk_mul]; congr 1; omega)) (by omega) (by omega)
        have ek : k = 8 := by omega
        subst ek
        refine g_aload_n C dX8_keepAct_36 rfl ?_
        refine g_sipush (v := 200) C dX8_keepAct_37 (by decide) ?_
        refine g_aload_n C dX8_keepAct_40 rfl ?_
        refine g_get C dX8_keepAct_41 iwX8 rfl (wO_X δ _) 9 (Nat.le_of_ble_eq_true rfl) mW226 rfl rfl ?_
        rw [gN_uI, gN_uN, if_neg (show ¬ 1 = 30 by decide), gN_uN, if_neg (show ¬ 1 = 31 by decide)]
        refine g_iastN C dX8_keepAct_44 (k := 200) (q := (24 + kn)) (by omega) (congrArg _ (by omega)) (by first | rfl | assumption | (simp only [glit, nI_add, pk_mul]; done) | (simp only [glit, nI_add, pk_mul]; congr 1; omega) | (simp only [*, glit, nI_add, pk_mul]; congr 1; omega)) (by rw [gLenI_k hn]; omega) ?_
        rw [uI_uI, gI_uI, if_pos rfl]
        exact g_vret C E dX8_keepAct_45 rfl ⟨rfl, ⟨_, fun j h => gLay_seed hf h, rfl⟩⟩
      · have k_13 := gnle c_13 (a := 8) (b := k) (by first | rfl | assumption | (simp only [glit, nI_add, pk_mul]; done) | (simp only [glit, nI_add, pk_mul]; congr 1; omega) | (simp only [*, glit, nI_add, pk_mul]; congr 1; omega)) (by first | rfl | assumption | (simp only [glit, nI_add, pk_mul]; done) | (simp only [glit, nI_add, pk_mul]; congr 1; omega) | (simp only [*, glit, nI_add, pk_mul]; congr 1; omega)) (by omega) (by omega)
        have hk1 : k < 8 := by omega
        refine g_aload_n C dX8_keepAct_16 rfl ?_
        refine g_get C dX8_keepAct_17 iwX8 rfl (wO_X δ _) 1 (Nat.le_of_ble_eq_true rfl) mW218 rfl rfl ?_
        refine g_iload_n C dX8_keepAct_20 rfl ?_
        refine g_aaldU C k dX8_keepAct_21 rfl hk1 (by first | rfl | assumption | (simp only [glit, nI_add, pk_mul]; done) | (simp only [glit, nI_add, pk_mul]; congr 1; omega) | (simp only [*, glit, nI_add, pk_mul]; congr 1; omega)) ?_
        refine g_aload_n C dX8_keepAct_22 rfl ?_
        refine g_iload_n C dX8_keepAct_23 rfl ?_
        refine g_bipush (v := 25) C dX8_keepAct_24 (by decide) ?_
        refine g_imul C dX8_keepAct_26 ?_
        rw [show nI k * 25 = nI (25 * k) by rw [show (25 : Int32) = nI 25 from rfl, pk_mul, Nat.mul_comm]]
        refine g_callVv C sV_X8_258 dX8_keepAct_27 (c_X7_goInto _ δ _ (u := k) (w := kn) (b := 25 * k) hk1 hn (by omega)) ⟨by decide, by decide⟩ (wO_U δ _ hk1) rfl rfl rfl rfl (Nat.le_of_ble_eq_true rfl) (fun s_27 h_27 => ?_)
        obtain rfl := h_27
        refine g_iinc (v := nI (k + 1)) C dX8_keepAct_30 rfl (ginc _ 1) rfl ?_
        refine g_lv [some _, some _, some _] (gs_some (gs_some (gs_some gs_nil))) ?_
        refine g_goto C 10 dX8_keepAct_33 (by decide) ?_
        refine g_lv [some _, some _, some _] (gs_some (gs_some (gs_some gs_nil))) ?_
        rw [uI_uI, gI_uI, if_pos rfl]
        exact ih_10 (k + 1) _ (by omega) (fun j h => gLay_cS hn hk1 hf h) (by omega)
  refine g_lv [some _, some _, some _] (gs_some (gs_some (gs_some gs_nil))) ?_
  refine g_st (uI_id _ (24 + kn)).symm ?_
  exact L_10 _ 0 _ (by omega) (fun _ h => absurd h (Nat.not_lt_zero _)) (Nat.lt_succ_self _)
set_option maxRecDepth 100000 in
set_option maxHeartbeats 4000000 in
theorem c_X6_liesWithin (l : Launch) (δ : GD) (σ : GS) {u : Nat} (hu : u < 6) {i k : Nat} (hi : i + k ≤ 16) (a b : Int32) : gM l δ yX6_liesWithin cX6_liesWithin 6 (some .boolean) 0 0 [.ref (δ.2.2.1 (2 + u)), .int (nI i), .int (nI k), .int a, .int b] σ (gPi (fun x σ' => σ = σ' ∧ ((x = 1 ∧ (∀ j, j < k → a.toInt64 ≤ gL σ u (i + j) ∧ gL σ u (i + j) ≤ b.toInt64)) ∨ (x = 0 ∧ ¬ (∀ j, j < k → a.toInt64 ≤ gL σ u (i + j) ∧ gL σ u (i + j) ≤ b.toInt64))))) := by
  refine g_of (lv0 := [some (.ref (δ.2.2.1 (2 + u))), some (.int (nI i)), some (.int (nI k)), some (.int a), some (.int b), none]) (by decide) rfl (Nat.le_of_ble_eq_true rfl) (fun Γ hl C E => ?_)
  subst hl
  have C : gC Γ δ cX6_liesWithin RX6 6 0 0 := C
  refine g_iload_n C dX6_liesWithin_0 rfl ?_
  refine g_istore C dX6_liesWithin_1 (Nat.le_of_ble_eq_true rfl) rfl ?_
  refine g_lv [some _, some _, some _, some _, some _, some _] (gs_some (gs_some (gs_some (gs_some (gs_some (gs_some gs_nil)))))) ?_
  have L_3 : ∀ (nn : Nat) (j : Nat) (hj : j ≤ k) (hv : ∀ z, z < j → a.toInt64 ≤ gL σ u (i + z) ∧ gL σ u (i + z) ≤ b.toInt64), k - j < nn → gW Γ δ σ 3 [some (.ref (δ.2.2.1 (2 + u))), some (.int (nI i)), some (.int (nI k)), some (.int a), some (.int b), some (.int (nI (i + j)))] [] := by
    intro nn
    induction nn with
    | zero =>
      intro j hj hv hm_3
      exact absurd hm_3 (Nat.not_lt_zero _)
    | succ nn ih_3 =>
      intro j hj hv hm_3
      refine g_iload C dX6_liesWithin_3 rfl ?_
      refine g_iload_n C dX6_liesWithin_5 rfl ?_
      refine g_iload_n C dX6_liesWithin_6 rfl ?_
      refine g_iadd C dX6_liesWithin_7 ?_
      refine g_icmp_ge C 46 dX6_liesWithin_8 (by decide) (fun c_8 => ?_) (fun c_8 => ?_)
      · have k_8 := gle c_8 (a := (i + k)) (b := (i + j)) (by first | rfl | assumption | (simp only [glit, nI_add, pk_mul]; done) | (simp only [glit, nI_add, pk_mul]; congr 1; omega) | (simp only [*, glit, nI_add, pk_mul]; congr 1; omega)) (by first | rfl | assumption | (simp only [glit, nI_add, pk_mul]; done) | (simp only [glit, nI_add, pk_mul]; congr 1; omega) | (simp only [*, glit, nI_add, pk_mul]; congr 1; omega)) (by omega) (by omega)
        refine g_iconst (v := 1) C dX6_liesWithin_46 (by decide) ?_
        exact g_iret C E dX6_liesWithin_47 rfl rfl ⟨_, rfl, ⟨rfl, Or.inl ⟨rfl, fun j h => hv j (by omega)⟩⟩⟩
      · have k_8 := gnle c_8 (a := (i + k)) (b := (i + j)) (by first | rfl | assumption | (simp only [glit, nI_add, pk_mul]; done) | (simp only [glit, nI_add, pk_mul]; congr 1; omega) | (simp only [*, glit, nI_add, pk_mul]; congr 1; omega)) (by first | rfl | assumption | (simp only [glit, nI_add, pk_mul]; done) | (simp only [glit, nI_add, pk_mul]; congr 1; omega) | (simp only [*, glit, nI_add, pk_mul]; congr 1; omega)) (by omega) (by omega)
        refine g_aload_n C dX6_liesWithin_11 rfl ?_
        refine g_get C dX6_liesWithin_12 iwX6 rfl (wO_S δ _ hu) 0 (Nat.le_of_ble_eq_true rfl) mW172 rfl rfl ?_
        refine g_iload C dX6_liesWithin_15 rfl ?_
        refine g_laldN C dX6_liesWithin_17 (k := (i + j)) (q := u) (by omega) rfl (by first | rfl | assumption | (simp only [glit, nI_add, pk_mul]; done) | (simp only [glit, nI_add, pk_mul]; congr 1; omega) | (simp only [*, glit, nI_add, pk_mul]; congr 1; omega)) (by rw [gLenL_s hu]; omega) ?_
        refine g_iload_n C dX6_liesWithin_18 rfl ?_
        refine g_i2l C dX6_liesWithin_19 ?_
        refine g_lcmp C dX6_liesWithin_20 ?_
        refine g_if_lt C 38 dX6_liesWithin_21 (by decide) (fun c_21 => ?_) (fun c_21 => ?_)
        · rw [lg_cmp_lt] at c_21
          have hx : ¬ (∀ j, j < k → a.toInt64 ≤ gL σ u (i + j) ∧ gL σ u (i + j) ≤ b.toInt64) := fun q => Int64.not_le.mpr c_21 (q j (by omega)).1
          refine g_iconst (v := 0) C dX6_liesWithin_38 (by decide) ?_
          exact g_iret C E dX6_liesWithin_39 rfl rfl ⟨_, rfl, ⟨rfl, Or.inr ⟨rfl, hx⟩⟩⟩
        · rw [lg_cmp_lt] at c_21
          refine g_aload_n C dX6_liesWithin_24 rfl ?_
          refine g_get C dX6_liesWithin_25 iwX6 rfl (wO_S δ _ hu) 0 (Nat.le_of_ble_eq_true rfl) mW172 rfl rfl ?_
          refine g_iload C dX6_liesWithin_28 rfl ?_
          refine g_laldN C dX6_liesWithin_30 (k := (i + j)) (q := u) (by omega) rfl (by first | rfl | assumption | (simp only [glit, nI_add, pk_mul]; done) | (simp only [glit, nI_add, pk_mul]; congr 1; omega) | (simp only [*, glit, nI_add, pk_mul]; congr 1; omega)) (by rw [gLenL_s hu]; omega) ?_
          refine g_iload C dX6_liesWithin_31 rfl ?_
          refine g_i2l C dX6_liesWithin_33 ?_
          refine g_lcmp C dX6_liesWithin_34 ?_
          refine g_if_le C 40 dX6_liesWithin_35 (by decide) (fun c_35 => ?_) (fun c_35 => ?_)
          · rw [lg_cmp_le] at c_35
            refine g_iinc (v := nI ((i + j) + 1)) C dX6_liesWithin_40 rfl (ginc _ 1) rfl ?_
            refine g_lv [some _, some _, some _, some _, some _, some _] (gs_some (gs_some (gs_some (gs_some (gs_some (gs_some gs_nil)))))) ?_
            refine g_goto C 3 dX6_liesWithin_43 (by decide) ?_
            refine g_lv [some _, some _, some _, some _, some _, some _] (gs_some (gs_some (gs_some (gs_some (gs_some (gs_some gs_nil)))))) ?_
            exact ih_3 (j + 1) (by omega) (fun z h => (Nat.lt_succ_iff_lt_or_eq.mp h).elim (fun h => hv z h) (fun h => by rw [h]; exact ⟨Int64.not_lt.mp c_21, c_35⟩)) (by omega)
          · rw [lg_cmp_le] at c_35
            have hx : ¬ (∀ j, j < k → a.toInt64 ≤ gL σ u (i + j) ∧ gL σ u (i + j) ≤ b.toInt64) := fun q => c_35 (q j (by omega)).2
            refine g_iconst (v := 0) C dX6_liesWithin_38 (by decide) ?_
            exact g_iret C E dX6_liesWithin_39 rfl rfl ⟨_, rfl, ⟨rfl, Or.inr ⟨rfl, hx⟩⟩⟩
  refine g_lv [some _, some _, some _, some _, some _, some _] (gs_some (gs_some (gs_some (gs_some (gs_some (gs_some gs_nil)))))) ?_
  exact L_3 _ 0 (by omega) (fun _ h => absurd h (Nat.not_lt_zero _)) (Nat.lt_succ_self _)
