set_option maxRecDepth 100000 in
set_option maxHeartbeats 4000000 in
theorem c_X3_placeOfa (l : Launch) (δ : GD) (σ : GS) {k w : Nat} (hk : k ≤ 12) (hw : w < 2147483648) : gM l δ yX3_placeOf cX3_placeOf 5 (some .int) 0 0 [.int (nI k), .int (nI w)] σ (gPi (fun x σ' => σ = σ' ∧ x = nI (qP w k))) := by
  refine g_of (lv0 := [some (.int (nI k)), some (.int (nI w)), none, none, none]) (by decide) rfl (Nat.le_of_ble_eq_true rfl) (fun Γ hl C E => ?_)
  subst hl
  have C : gC Γ δ cX3_placeOf RX3 5 0 0 := C
  refine g_iconst (v := 0) C dX3_placeOf_0 (by decide) ?_
  refine g_istore_n C dX3_placeOf_1 (Nat.le_of_ble_eq_true rfl) rfl ?_
  refine g_lv [some _, some _, some _, none, none] (gs_some (gs_some (gs_some (gs_none (gs_none gs_nil))))) ?_
  refine g_iload_n C dX3_placeOf_2 rfl ?_
  refine g_istore_n C dX3_placeOf_3 (Nat.le_of_ble_eq_true rfl) rfl ?_
  refine g_lv [some _, some _, some _, some _, none] (gs_some (gs_some (gs_some (gs_some (gs_none gs_nil))))) ?_
  refine g_iconst (v := 0) C dX3_placeOf_4 (by decide) ?_
  refine g_istore C dX3_placeOf_5 (Nat.le_of_ble_eq_true rfl) rfl ?_
  refine g_lv [some _, some _, some _, some _, some _] (gs_some (gs_some (gs_some (gs_some (gs_some gs_nil))))) ?_
  have L_7 : ∀ (nn : Nat) (i : Nat) (hi : i ≤ k), k - i < nn → gW Γ δ σ 7 [some (.int (nI k)), some (.int (nI w)), some (.int (nI (qP w i))), some (.int (nI (w / 4 ^ i))), some (.int (nI i))] [] := by
    intro nn
    induction nn with
    | zero =>
      intro i hi hm_7
      exact absurd hm_7 (Nat.not_lt_zero _)
    | succ nn ih_7 =>
      intro i hi hm_7
      have hl := gpowle w i
      have hd4 : w / 4 ^ i % 4 < 4 := Nat.mod_lt _ (by decide)
      have hst := gstpO_le (w / 4 ^ i % 4)
      refine g_iload C dX3_placeOf_7 rfl ?_
      refine g_iload_n C dX3_placeOf_9 rfl ?_
      refine g_icmp_ge C 33 dX3_placeOf_10 (by decide) (fun c_10 => ?_) (fun c_10 => ?_)
      · have k_10 := gle c_10 (a := k) (b := i) (by first | rfl | assumption | (simp only [glit, nI_add, pk_mul]; done) | (simp only [glit, nI_add, pk_mul]; congr 1; omega) | (simp only [*, glit, nI_add, pk_mul]; congr 1; omega)) (by first | rfl | assumption | (simp only [glit, nI_add, pk_mul]; done) | (simp only [glit, nI_add, pk_mul]; congr 1; omega) | (simp only [*, glit, nI_add, pk_mul]; congr 1; omega)) (by omega) (by omega)
        have ek : k = i := by omega
        subst ek
        refine g_iload_n C dX3_placeOf_33 rfl ?_
        exact g_iret C E dX3_placeOf_34 rfl rfl ⟨_, rfl, ⟨rfl, rfl⟩⟩
      · have k_10 := gnle c_10 (a := k) (b := i) (by first | rfl | assumption | (simp only [glit, nI_add, pk_mul]; done) | (simp only [glit, nI_add, pk_mul]; congr 1; omega) | (simp only [*, glit, nI_add, pk_mul]; congr 1; omega)) (by first | rfl | assumption | (simp only [glit, nI_add, pk_mul]; done) | (simp only [glit, nI_add, pk_mul]; congr 1; omega) | (simp only [*, glit, nI_add, pk_mul]; congr 1; omega)) (by omega) (by omega)
        refine g_iload_n C dX3_placeOf_13 rfl ?_
        refine g_getsO C dX3_placeOf_14 mW547 ?_
        refine g_iload_n C dX3_placeOf_17 rfl ?_
        refine g_iconst (v := 4) C dX3_placeOf_18 (by decide) ?_
        refine g_irem C dX3_placeOf_19 (by decide) ?_
        rw [gDig_rem (by omega)]
        refine g_staldON C dX3_placeOf_20 (k := (w / 4 ^ i % 4)) (by first | rfl | assumption | (simp only [glit, nI_add, pk_mul]; done) | (simp only [glit, nI_add, pk_mul]; congr 1; omega) | (simp only [*, glit, nI_add, pk_mul]; congr 1; omega)) (by omega) ?_
        refine g_iadd C dX3_placeOf_21 ?_
        rw [nI_add, show qP w i + gstpO (w / 4 ^ i % 4) = qP w (i + 1) from rfl]
        refine g_istore_n C dX3_placeOf_22 (Nat.le_of_ble_eq_true rfl) rfl ?_
        refine g_lv [some _, some _, some _, some _, some _] (gs_some (gs_some (gs_some (gs_some (gs_some gs_nil))))) ?_
        refine g_iload_n C dX3_placeOf_23 rfl ?_
        refine g_iconst (v := 4) C dX3_placeOf_24 (by decide) ?_
        refine g_idiv C dX3_placeOf_25 (by decide) ?_
        rw [gDig_div (by omega), gpow]
        refine g_istore_n C dX3_placeOf_26 (Nat.le_of_ble_eq_true rfl) rfl ?_
        refine g_lv [some _, some _, some _, some _, some _] (gs_some (gs_some (gs_some (gs_some (gs_some gs_nil))))) ?_
        refine g_iinc (v := nI (i + 1)) C dX3_placeOf_27 rfl (ginc _ 1) rfl ?_
        refine g_lv [some _, some _, some _, some _, some _] (gs_some (gs_some (gs_some (gs_some (gs_some gs_nil))))) ?_
        refine g_goto C 7 dX3_placeOf_30 (by decide) ?_
        refine g_lv [some _, some _, some _, some _, some _] (gs_some (gs_some (gs_some (gs_some (gs_some gs_nil))))) ?_
        exact ih_7 (i + 1) (by omega) (by omega)
  refine g_lv [some _, some _, some _, some _, some _] (gs_some (gs_some (gs_some (gs_some (gs_some gs_nil))))) ?_
  have e0 : nI w = nI (w / 4 ^ 0) := by rw [Nat.pow_zero, Nat.div_one]
  refine g_lv [some (.int (nI k)), some (.int (nI w)), some (.int (nI 0)), some (.int (nI (w / 4 ^ 0))), some (.int (nI 0))] (by rw [← e0]; exact gs_some (gs_some (gs_some (gs_some (gs_some gs_nil))))) ?_
  exact L_7 _ 0 (by omega) (Nat.lt_succ_self _)
set_option maxRecDepth 100000 in
set_option maxHeartbeats 4000000 in
theorem c_X3_isAsAheada (l : Launch) (δ : GD) (σ : GS) {p : Nat} (hp : p < 216) {a b : Int64} (e4 : gG σ 4 = a) (e5 : gG σ 5 = b) : gM l δ yX3_isAsAhead cX3_isAsAhead 3 (some .boolean) 0 0 [.ref (δ.2.2.1 19), .int (nI p), .ref (δ.2.2.1 18)] σ (gPi (fun x σ' => (x = 1 ∧ gL σ 7 p = 0 ∧ σ' = uL (uL σ 6 (vp_updL (gL σ 6) p a)) 7 (vp_updL (gL σ 7) p b)) ∨ (¬ gL σ 7 p = 0 ∧ σ = σ' ∧ ((x = 1 ∧ gL σ 6 p = a ∧ gL σ 7 p = b) ∨ (x = 0 ∧ ¬ (gL σ 6 p = a ∧ gL σ 7 p = b)))))) := by
  refine g_of (lv0 := [some (.ref (δ.2.2.1 19)), some (.int (nI p)), some (.ref (δ.2.2.1 18))]) (by decide) rfl (Nat.le_of_ble_eq_true rfl) (fun Γ hl C E => ?_)
  subst hl
  have C : gC Γ δ cX3_isAsAhead RX3 3 0 0 := C
  refine g_aload_n C dX3_isAsAhead_0 rfl ?_
  refine g_get C dX3_isAsAhead_1 iwX3 rfl (wO_O δ _) 1 (Nat.le_of_ble_eq_true rfl) mW95 rfl rfl ?_
  refine g_iload_n C dX3_isAsAhead_4 rfl ?_
  refine g_laldN C dX3_isAsAhead_5 (k := p) (q := 7) (by decide) rfl (by first | rfl | assumption | (simp only [glit, nI_add, pk_mul]; done) | (simp only [glit, nI_add, pk_mul]; congr 1; omega) | (simp only [*, glit, nI_add, pk_mul]; congr 1; omega)) (show p < gLenL 7 from Nat.lt_of_lt_of_eq (show p < 216 by omega) rfl) ?_
  refine g_lconst (v := 0) C dX3_isAsAhead_6 (by decide) ?_
  refine g_lcmp C dX3_isAsAhead_7 ?_
  refine g_if_ne C 33 dX3_isAsAhead_8 (by decide) (fun c_8 => ?_) (fun c_8 => ?_)
  · rw [lg_cmp_eq] at c_8
    refine g_aload_n C dX3_isAsAhead_33 rfl ?_
    refine g_get C dX3_isAsAhead_34 iwX3 rfl (wO_O δ _) 0 (Nat.le_of_ble_eq_true rfl) mW94 rfl rfl ?_
    refine g_iload_n C dX3_isAsAhead_37 rfl ?_
    refine g_laldN C dX3_isAsAhead_38 (k := p) (q := 6) (by decide) rfl (by first | rfl | assumption | (simp only [glit, nI_add, pk_mul]; done) | (simp only [glit, nI_add, pk_mul]; congr 1; omega) | (simp only [*, glit, nI_add, pk_mul]; congr 1; omega)) (show p < gLenL 6 from Nat.lt_of_lt_of_eq (show p < 216 by omega) rfl) ?_
    refine g_aload_n C dX3_isAsAhead_39 rfl ?_
    refine g_get C dX3_isAsAhead_40 iwX5 rfl (wO_R δ _) 1 (Nat.le_of_ble_eq_true rfl) mW76 rfl rfl ?_
    rw [e4]
    refine g_lcmp C dX3_isAsAhead_43 ?_
    refine g_if_ne C 65 dX3_isAsAhead_44 (by decide) (fun c_44 => ?_) (fun c_44 => ?_)
    · rw [lg_cmp_eq] at c_44
      refine g_iconst (v := 0) C dX3_isAsAhead_65 (by decide) ?_
      exact g_iret C E dX3_isAsAhead_66 rfl rfl ⟨_, rfl, Or.inr ⟨c_8, rfl, by first | exact Or.inl ⟨rfl, c_44, c_58⟩ | exact Or.inr ⟨rfl, fun z => c_44 z.1⟩ | exact Or.inr ⟨rfl, fun z => c_58 z.2⟩⟩⟩
    · rw [lg_cmp_eq] at c_44
      refine g_aload_n C dX3_isAsAhead_47 rfl ?_
      refine g_get C dX3_isAsAhead_48 iwX3 rfl (wO_O δ _) 1 (Nat.le_of_ble_eq_true rfl) mW95 rfl rfl ?_
      refine g_iload_n C dX3_isAsAhead_51 rfl ?_
      refine g_laldN C dX3_isAsAhead_52 (k := p) (q := 7) (by decide) rfl (by first | rfl | assumption | (simp only [glit, nI_add, pk_mul]; done) | (simp only [glit, nI_add, pk_mul]; congr 1; omega) | (simp only [*, glit, nI_add, pk_mul]; congr 1; omega)) (show p < gLenL 7 from Nat.lt_of_lt_of_eq (show p < 216 by omega) rfl) ?_
      refine g_aload_n C dX3_isAsAhead_53 rfl ?_
      refine g_get C dX3_isAsAhead_54 iwX5 rfl (wO_R δ _) 2 (Nat.le_of_ble_eq_true rfl) mW79 rfl rfl ?_
      rw [e5]
      refine g_lcmp C dX3_isAsAhead_57 ?_
      refine g_if_ne C 65 dX3_isAsAhead_58 (by decide) (fun c_58 => ?_) (fun c_58 => ?_)
      · rw [lg_cmp_eq] at c_58
        refine g_iconst (v := 0) C dX3_isAsAhead_65 (by decide) ?_
        exact g_iret C E dX3_isAsAhead_66 rfl rfl ⟨_, rfl, Or.inr ⟨c_8, rfl, by first | exact Or.inl ⟨rfl, c_44, c_58⟩ | exact Or.inr ⟨rfl, fun z => c_44 z.1⟩ | exact Or.inr ⟨rfl, fun z => c_58 z.2⟩⟩⟩
      · rw [lg_cmp_eq] at c_58
        refine g_iconst (v := 1) C dX3_isAsAhead_61 (by decide) ?_
        refine g_goto C 66 dX3_isAsAhead_62 (by decide) ?_
        exact g_iret C E dX3_isAsAhead_66 rfl rfl ⟨_, rfl, Or.inr ⟨c_8, rfl, by first | exact Or.inl ⟨rfl, c_44, c_58⟩ | exact Or.inr ⟨rfl, fun z => c_44 z.1⟩ | exact Or.inr ⟨rfl, fun z => c_58 z.2⟩⟩⟩
  · rw [lg_cmp_eq] at c_8
    refine g_aload_n C dX3_isAsAhead_11 rfl ?_
    refine g_get C dX3_isAsAhead_12 iwX3 rfl (wO_O δ _) 0 (Nat.le_of_ble_eq_true rfl) mW94 rfl rfl ?_
    refine g_iload_n C dX3_isAsAhead_15 rfl ?_
    refine g_aload_n C dX3_isAsAhead_16 rfl ?_
    refine g_get C dX3_isAsAhead_17 iwX5 rfl (wO_R δ _) 1 (Nat.le_of_ble_eq_true rfl) mW76 rfl rfl ?_
    rw [e4]
    refine g_lastN C dX3_isAsAhead_20 (k := p) (q := 6) (by decide) rfl (by first | rfl | assumption | (simp only [glit, nI_add, pk_mul]; done) | (simp only [glit, nI_add, pk_mul]; congr 1; omega) | (simp only [*, glit, nI_add, pk_mul]; congr 1; omega)) (show p < gLenL 6 from Nat.lt_of_lt_of_eq (show p < 216 by omega) rfl) ?_
    refine g_aload_n C dX3_isAsAhead_21 rfl ?_
    refine g_get C dX3_isAsAhead_22 iwX3 rfl (wO_O δ _) 1 (Nat.le_of_ble_eq_true rfl) mW95 rfl rfl ?_
    refine g_iload_n C dX3_isAsAhead_25 rfl ?_
    refine g_aload_n C dX3_isAsAhead_26 rfl ?_
    refine g_get C dX3_isAsAhead_27 iwX5 rfl (wO_R δ _) 2 (Nat.le_of_ble_eq_true rfl) mW79 rfl rfl ?_
    rw [gG_uL, e5]
    refine g_lastN C dX3_isAsAhead_30 (k := p) (q := 7) (by decide) rfl (by first | rfl | assumption | (simp only [glit, nI_add, pk_mul]; done) | (simp only [glit, nI_add, pk_mul]; congr 1; omega) | (simp only [*, glit, nI_add, pk_mul]; congr 1; omega)) (show p < gLenL 7 from Nat.lt_of_lt_of_eq (show p < 216 by omega) rfl) ?_
    refine g_iconst (v := 1) C dX3_isAsAhead_31 (by decide) ?_
    exact g_iret C E dX3_isAsAhead_32 rfl rfl ⟨_, rfl, Or.inl ⟨rfl, c_8, rfl⟩⟩
set_option maxRecDepth 100000 in
set_option maxHeartbeats 4000000 in
theorem c_X3_areAlikea (l : Launch) (δ : GD) (σ : GS) {u : Nat} (hu : u < 8) {k : Nat} (hk : k ≤ 5) {v : GV} (K : KC σ v) (R : RV v) : gM l δ yX3_areAlike cX3_areAlike 6 (some .boolean) 3 88 [.ref (δ.2.2.1 19), .ref (δ.2.2.1 (8 + u)), .int (nI k), .ref (δ.2.2.1 18)] σ (gPi (fun x σ' => gSm σ σ' ∧ ((x = 1 ∧ qAl v u k) ∨ (x = 0 ∧ ¬ qAl v u k)))) := by
  refine g_of (lv0 := [some (.ref (δ.2.2.1 19)), some (.ref (δ.2.2.1 (8 + u))), some (.int (nI k)), some (.ref (δ.2.2.1 18)), none, none]) (by decide) rfl (Nat.le_of_ble_eq_true rfl) (fun Γ hl C E => ?_)
  subst hl
  have C : gC Γ δ cX3_areAlike RX3 6 3 88 := C
  have h45 := gp45 hk
  have h4 := RV_n R hu
  have hf2 : gB2 (bS (vS v) u) := VS_B2 R.2.2.1 hu
  have hr : qRb (qR (bS (vS v) u) (tS (vS v) u) k) := fun a => qR_b hf2 k a
  refine g_aload_n C dX3_areAlike_0 rfl ?_
  refine g_get C dX3_areAlike_1 iwX3 rfl (wO_O δ _) 1 (Nat.le_of_ble_eq_true rfl) mW95 rfl rfl ?_
  refine g_lconst (v := 0) C dX3_areAlike_4 (by decide) ?_
  refine g_callSv C sS_X3_18 dX3_areAlike_5 (c_J7_fill_d0a16 _ δ _ (q := 7) (by omega) _) ⟨by decide, by decide⟩ rfl rfl rfl (Nat.le_of_ble_eq_true rfl) (fun s_5 h_5 => ?_)
  obtain ⟨f, rfl, hf⟩ := h_5
  refine g_iconst (v := 1) C dX3_areAlike_8 (by decide) ?_
  refine g_istore C dX3_areAlike_9 (Nat.le_of_ble_eq_true rfl) rfl ?_
  refine g_lv [some _, some _, some _, some _, some _, none] (gs_some (gs_some (gs_some (gs_some (gs_some (gs_none gs_nil)))))) ?_
  refine g_iconst (v := 0) C dX3_areAlike_11 (by decide) ?_
  refine g_istore C dX3_areAlike_12 (Nat.le_of_ble_eq_true rfl) rfl ?_
  refine g_lv [some _, some _, some _, some _, some _, some _] (gs_some (gs_some (gs_some (gs_some (gs_some (gs_some gs_nil)))))) ?_
  have L_14 : ∀ (nn : Nat) (i : Nat) (hi : i ≤ k), k - i < nn → gW Γ δ (uL σ 7 f) 14 [some (.ref (δ.2.2.1 19)), some (.ref (δ.2.2.1 (8 + u))), some (.int (nI k)), some (.ref (δ.2.2.1 18)), some (.int (nI (4 ^ i))), some (.int (nI i))] [] := by
    intro nn
    induction nn with
    | zero =>
      intro i hi hm_14
      exact absurd hm_14 (Nat.not_lt_zero _)
    | succ nn ih_14 =>
      intro i hi hm_14
      refine g_iload C dX3_areAlike_14 rfl ?_
      refine g_iload_n C dX3_areAlike_16 rfl ?_
      refine g_icmp_ge C 32 dX3_areAlike_17 (by decide) (fun c_17 => ?_) (fun c_17 => ?_)
      · have k_17 := gle c_17 (a := k) (b := i) (by first | rfl | assumption | (simp only [glit, nI_add, pk_mul]; done) | (simp only [glit, nI_add, pk_mul]; congr 1; omega) | (simp only [*, glit, nI_add, pk_mul]; congr 1; omega)) (by first | rfl | assumption | (simp only [glit, nI_add, pk_mul]; done) | (simp only [glit, nI_add, pk_mul]; congr 1; omega) | (simp only [*, glit, nI_add, pk_mul]; congr 1; omega)) (by omega) (by omega)
        have ek : k = i := by omega
        subst ek
        refine g_iconst (v := 0) C dX3_areAlike_32 (by decide) ?_
        refine g_istore C dX3_areAlike_33 (Nat.le_of_ble_eq_true rfl) rfl ?_
        refine g_lv [some _, some _, some _, some _, some _, some _] (gs_some (gs_some (gs_some (gs_some (gs_some (gs_some gs_nil)))))) ?_
        have L_35 : ∀ (nn : Nat) (j : Nat) (s1 : GS) (hj : j ≤ 4 ^ k) (hs : gSm σ s1) (ht : qTab (gL s1 6) (gL s1 7) (fun w => qP w k) (qV (vC v u) k) (qR (bS (vS v) u) (tS (vS v) u) k) j) (ha : qA (fun w => qP w k) (qV (vC v u) k) (qR (bS (vS v) u) (tS (vS v) u) k) j), 4 ^ k - j < nn → gW Γ δ s1 35 [some (.ref (δ.2.2.1 19)), some (.ref (δ.2.2.1 (8 + u))), some (.int (nI k)), some (.ref (δ.2.2.1 18)), some (.int (nI (4 ^ k))), some (.int (nI j))] [] := by
          intro nn
          induction nn with
          | zero =>
            intro j s1 hj hs ht ha hm_35
            exact absurd hm_35 (Nat.not_lt_zero _)
          | succ nn ih_35 =>
            intro j s1 hj hs ht ha hm_35
            have K1 := KC_sm hs K
            have hn_s1 := K1.2.1 u hu
            refine g_iload C dX3_areAlike_35 rfl ?_
            refine g_iload C dX3_areAlike_37 rfl ?_
            refine g_icmp_ge C 85 dX3_areAlike_39 (by decide) (fun c_39 => ?_) (fun c_39 => ?_)
            · have k_39 := gle c_39 (a := (4 ^ k)) (b := j) (by first | rfl | assumption | (simp only [glit, nI_add, pk_mul]; done) | (simp only [glit, nI_add, pk_mul]; congr 1; omega) | (simp only [*, glit, nI_add, pk_mul]; congr 1; omega)) (by first | rfl | assumption | (simp only [glit, nI_add, pk_mul]; done) | (simp only [glit, nI_add, pk_mul]; congr 1; omega) | (simp only [*, glit, nI_add, pk_mul]; congr 1; omega)) (by omega) (by omega)
              have ej : j = 4 ^ k := by omega
              refine g_iconst (v := 1) C dX3_areAlike_85 (by decide) ?_
              exact g_iret C E dX3_areAlike_86 rfl rfl ⟨_, rfl, ⟨(by repeat (first | (with_reducible assumption) | (with_reducible exact gSm_r _) | (with_reducible refine gSm_I (by omega) ?_) | (with_reducible refine gSm_L (by omega) ?_) | (with_reducible refine gSm_N (by omega) ?_) | (with_reducible refine gSm_G (by omega) ?_) | (with_reducible refine gSm_P ?_))), Or.inl ⟨rfl, by unfold qAl; rw [← ej]; exact ha⟩⟩⟩
            · have k_39 := gnle c_39 (a := (4 ^ k)) (b := j) (by first | rfl | assumption | (simp only [glit, nI_add, pk_mul]; done) | (simp only [glit, nI_add, pk_mul]; congr 1; omega) | (simp only [*, glit, nI_add, pk_mul]; congr 1; omega)) (by first | rfl | assumption | (simp only [glit, nI_add, pk_mul]; done) | (simp only [glit, nI_add, pk_mul]; congr 1; omega) | (simp only [*, glit, nI_add, pk_mul]; congr 1; omega)) (by omega) (by omega)
              refine g_aload_n C dX3_areAlike_42 rfl ?_
              refine g_iload_n C dX3_areAlike_43 rfl ?_
              refine g_iload C dX3_areAlike_44 rfl ?_
              refine g_callVi C sV_X3_24 dX3_areAlike_46 (c_X7_hasAll _ δ _ hu (k := k) (w := j) (by omega) (by omega) hn_s1 h4) ⟨by decide, by decide⟩ (wO_U δ _ hu) rfl rfl rfl rfl (Nat.le_of_ble_eq_true rfl) (fun r_46 s_46 h_46 => ?_)
              obtain ⟨rfl, h_46⟩ := h_46
              rcases h_46 with ⟨rfl, h_46⟩ | ⟨rfl, h_46⟩
              · skip
                refine g_if_eq C 79 dX3_areAlike_49 (by decide) (fun c_49 => ?_) (fun c_49 => ?_)
                · exact absurd c_49 (by decide)
                · refine g_aload_n C dX3_areAlike_52 rfl ?_
                  refine g_aload_n C dX3_areAlike_53 rfl ?_
                  refine g_iload_n C dX3_areAlike_54 rfl ?_
                  refine g_iload C dX3_areAlike_55 rfl ?_
                  refine g_callVi C sV_X3_30 dX3_areAlike_57 (c_X5_followa _ δ _ hu (k := k) (w := j) (by omega) (by omega) K1 R) ⟨by decide, by decide⟩ (wO_R δ _) rfl rfl rfl rfl (Nat.le_of_ble_eq_true rfl) (fun r_57 s_57 h_57 => ?_)
                  obtain ⟨z_57, l_57, h_57⟩ := h_57
                  have z_57 : gSm σ s_57 := gSm_t hs z_57
                  obtain ⟨rfl, e4, e5⟩ := qR_of hf2 hk h_57
                  have ht2 : qTab (gL s_57 6) (gL s_57 7) (fun w => qP w k) (qV (vC v u) k) (qR (bS (vS v) u) (tS (vS v) u) k) j := by rw [l_57, l_57]; exact ht
                  refine g_if_eq C 79 dX3_areAlike_60 (by decide) (fun c_60 => ?_) (fun c_60 => ?_)
                  · exact absurd c_60 (by decide)
                  · refine g_aload_n C dX3_areAlike_63 rfl ?_
                    refine g_iload_n C dX3_areAlike_64 rfl ?_
                    refine g_iload C dX3_areAlike_65 rfl ?_
                    refine g_callSi C sS_X3_36 dX3_areAlike_67 (c_X3_placeOfa _ δ _ (k := k) (w := j) (by omega) (by omega)) ⟨by decide, by decide⟩ rfl rfl rfl (Nat.le_of_ble_eq_true rfl) (fun r_67 s_67 h_67 => ?_)
                    obtain ⟨rfl, rfl⟩ := h_67
                    refine g_aload_n C dX3_areAlike_70 rfl ?_
                    refine g_callVi C sV_X3_40 dX3_areAlike_71 (c_X3_isAsAheada _ δ _ (p := qP j k) (qP_b hk) e4 e5) ⟨by decide, by decide⟩ (wO_O δ _) rfl rfl rfl rfl (Nat.le_of_ble_eq_true rfl) (fun r_71 s_71 h_71 => ?_)
                    rcases h_71 with ⟨rfl, hz, rfl⟩ | ⟨hz, rfl, ⟨rfl, hy⟩ | ⟨rfl, hy⟩⟩
                    · have hT := qTab_new (V := qV (vC v u) k) (P := (fun w => qP w k)) h_46 ht2
                      have hA := (qA_s_new (P := (fun w => qP w k)) hr (qP_b hk) hz ht2).mpr ha
                      refine g_if_ne C 79 dX3_areAlike_74 (by decide) (fun c_74 => ?_) (fun c_74 => ?_)
                      · refine g_iinc (v := nI (j + 1)) C dX3_areAlike_79 rfl (ginc _ 1) rfl ?_
                        refine g_lv [some _, some _, some _, some _, some _, some _] (gs_some (gs_some (gs_some (gs_some (gs_some (gs_some gs_nil)))))) ?_
                        refine g_goto C 35 dX3_areAlike_82 (by decide) ?_
                        refine g_lv [some _, some _, some _, some _, some _, some _] (gs_some (gs_some (gs_some (gs_some (gs_some (gs_some gs_nil)))))) ?_
                        exact ih_35 (j + 1) _ (by omega) (by repeat (first | (with_reducible assumption) | (with_reducible exact gSm_r _) | (with_reducible refine gSm_I (by omega) ?_) | (with_reducible refine gSm_L (by omega) ?_) | (with_reducible refine gSm_N (by omega) ?_) | (with_reducible refine gSm_G (by omega) ?_) | (with_reducible refine gSm_P ?_))) hT hA (by omega)
                      · exact absurd c_74 (by decide)
                    · have hT := qTab_old (P := (fun w => qP w k)) hz ht2
                      have hA := (qA_s_old (V := qV (vC v u) k) (P := (fun w => qP w k)) hr h_46 (qP_b hk) hz ht2).mpr ⟨ha, hy⟩
                      refine g_if_ne C 79 dX3_areAlike_74 (by decide) (fun c_74 => ?_) (fun c_74 => ?_)
                      · refine g_iinc (v := nI (j + 1)) C dX3_areAlike_79 rfl (ginc _ 1) rfl ?_
                        refine g_lv [some _, some _, some _, some _, some _, some _] (gs_some (gs_some (gs_some (gs_some (gs_some (gs_some gs_nil)))))) ?_
                        refine g_goto C 35 dX3_areAlike_82 (by decide) ?_
                        refine g_lv [some _, some _, some _, some _, some _, some _] (gs_some (gs_some (gs_some (gs_some (gs_some (gs_some gs_nil)))))) ?_
                        exact ih_35 (j + 1) _ (by omega) (by repeat (first | (with_reducible assumption) | (with_reducible exact gSm_r _) | (with_reducible refine gSm_I (by omega) ?_) | (with_reducible refine gSm_L (by omega) ?_) | (with_reducible refine gSm_N (by omega) ?_) | (with_reducible refine gSm_G (by omega) ?_) | (with_reducible refine gSm_P ?_))) hT hA (by omega)
                      · exact absurd c_74 (by decide)
                    · have hN : ¬ qA (fun w => qP w k) (qV (vC v u) k) (qR (bS (vS v) u) (tS (vS v) u) k) (j + 1) := fun q => hy ((qA_s_old (V := qV (vC v u) k) (P := (fun w => qP w k)) hr h_46 (qP_b hk) hz ht2).mp q).2
                      refine g_if_ne C 79 dX3_areAlike_74 (by decide) (fun c_74 => ?_) (fun c_74 => ?_)
                      · exact absurd c_74 (by decide)
                      · refine g_iconst (v := 0) C dX3_areAlike_77 (by decide) ?_
                        exact g_iret C E dX3_areAlike_78 rfl rfl ⟨_, rfl, ⟨(by repeat (first | (with_reducible assumption) | (with_reducible exact gSm_r _) | (with_reducible refine gSm_I (by omega) ?_) | (with_reducible refine gSm_L (by omega) ?_) | (with_reducible refine gSm_N (by omega) ?_) | (with_reducible refine gSm_G (by omega) ?_) | (with_reducible refine gSm_P ?_))), Or.inr ⟨rfl, fun z => hN (qA_mono z (by omega))⟩⟩⟩
              · have hT := qTab_skip (V := qV (vC v u) k) h_46 ht
                have hA := (qA_s_no (P := (fun w => qP w k)) (r := qR (bS (vS v) u) (tS (vS v) u) k) (V := qV (vC v u) k) h_46).mpr ha
                refine g_if_eq C 79 dX3_areAlike_49 (by decide) (fun c_49 => ?_) (fun c_49 => ?_)
                · refine g_iinc (v := nI (j + 1)) C dX3_areAlike_79 rfl (ginc _ 1) rfl ?_
                  refine g_lv [some _, some _, some _, some _, some _, some _] (gs_some (gs_some (gs_some (gs_some (gs_some (gs_some gs_nil)))))) ?_
                  refine g_goto C 35 dX3_areAlike_82 (by decide) ?_
                  refine g_lv [some _, some _, some _, some _, some _, some _] (gs_some (gs_some (gs_some (gs_some (gs_some (gs_some gs_nil)))))) ?_
                  exact ih_35 (j + 1) _ (by omega) (by repeat (first | (with_reducible assumption) | (with_reducible exact gSm_r _) | (with_reducible refine gSm_I (by omega) ?_) | (with_reducible refine gSm_L (by omega) ?_) | (with_reducible refine gSm_N (by omega) ?_) | (with_reducible refine gSm_G (by omega) ?_) | (with_reducible refine gSm_P ?_))) hT hA (by omega)
                · exact absurd c_49 (by decide)
        refine g_lv [some _, some _, some _, some _, some _, some _] (gs_some (gs_some (gs_some (gs_some (gs_some (gs_some gs_nil)))))) ?_
        exact L_35 _ 0 _ (Nat.zero_le _) (by repeat (first | (with_reducible assumption) | (with_reducible exact gSm_r _) | (with_reducible refine gSm_I (by omega) ?_) | (with_reducible refine gSm_L (by omega) ?_) | (with_reducible refine gSm_N (by omega) ?_) | (with_reducible refine gSm_G (by omega) ?_) | (with_reducible refine gSm_P ?_))) (qTab_0 _ _ _ (fun p hp => by rw [gL_uL, if_pos rfl]; exact hf p hp)) (qA_0 _ _ _) (Nat.lt_succ_self _)
      · have k_17 := gnle c_17 (a := k) (b := i) (by first | rfl | assumption | (simp only [glit, nI_add, pk_mul]; done) | (simp only [glit, nI_add, pk_mul]; congr 1; omega) | (simp only [*, glit, nI_add, pk_mul]; congr 1; omega)) (by first | rfl | assumption | (simp only [glit, nI_add, pk_mul]; done) | (simp only [glit, nI_add, pk_mul]; congr 1; omega) | (simp only [*, glit, nI_add, pk_mul]; congr 1; omega)) (by omega) (by omega)
        refine g_iload C dX3_areAlike_20 rfl ?_
        refine g_iconst (v := 4) C dX3_areAlike_22 (by decide) ?_
        refine g_imul C dX3_areAlike_23 ?_
        rw [gp4s]
        refine g_istore C dX3_areAlike_24 (Nat.le_of_ble_eq_true rfl) rfl ?_
        refine g_lv [some _, some _, some _, some _, some _, some _] (gs_some (gs_some (gs_some (gs_some (gs_some (gs_some gs_nil)))))) ?_
        refine g_iinc (v := nI (i + 1)) C dX3_areAlike_26 rfl (ginc _ 1) rfl ?_
        refine g_lv [some _, some _, some _, some _, some _, some _] (gs_some (gs_some (gs_some (gs_some (gs_some (gs_some gs_nil)))))) ?_
        refine g_goto C 14 dX3_areAlike_29 (by decide) ?_
        refine g_lv [some _, some _, some _, some _, some _, some _] (gs_some (gs_some (gs_some (gs_some (gs_some (gs_some gs_nil)))))) ?_
        exact ih_14 (i + 1) (by omega) (by omega)
  refine g_lv [some _, some _, some _, some _, some _, some _] (gs_some (gs_some (gs_some (gs_some (gs_some (gs_some gs_nil)))))) ?_
  exact L_14 _ 0 (by omega) (Nat.lt_succ_self _)
set_option maxRecDepth 100000 in
set_option maxHeartbeats 4000000 in
theorem c_X8_freea (l : Launch) (δ : GD) (σ : GS) (a0 a1 : Int32) {v : GV} (K : KC σ v) (R : RV v) : gM l δ yX8_free cX8_free 4 (some .int) 4 113 [.ref (δ.2.2.1 0), .int a0, .int a1] σ (gPi (fun x σ' => x = aFree v a0 a1 ∧ gSm σ σ')) := by
  refine g_of (lv0 := [some (.ref (δ.2.2.1 0)), some (.int a0), some (.int a1), none]) (by decide) rfl (Nat.le_of_ble_eq_true rfl) (fun Γ hl C E => ?_)
  subst hl
  have C : gC Γ δ cX8_free RX8 4 4 113 := C
  have hm := K.1
  have h8 := R.1
  obtain ⟨kn, hkn, hx, -⟩ := id K.2.2.2.2
  have hl := K.2.2.2.1.2
  have h20 := K.2.2.2.1.1
  refine g_aload_n C dX8_free_0 rfl ?_
  refine g_iload_n C dX8_free_1 rfl ?_
  refine g_callVr C sV_X8_101 dX8_free_2 (c_X8_urnAt _ δ _ _ hm h8) ⟨by decide, by decide⟩ (wO_X δ _) rfl rfl rfl rfl (Nat.le_of_ble_eq_true rfl) (fun r_2 s_2 h_2 => ?_)
  obtain ⟨rfl, h_2⟩ := h_2
  rcases h_2 with ⟨rfl, h_2⟩ | ⟨u_2, hu_2, e_2, rfl⟩
  · skip
    refine g_astore_nN C dX8_free_5 (Nat.le_of_ble_eq_true rfl) rfl ?_
    refine g_lv [some _, some _, some _, some _] (gs_some (gs_some (gs_some (gs_some gs_nil)))) ?_
    refine g_aload_nN C dX8_free_6 rfl ?_
    refine g_ifnull_n C 20 dX8_free_7 (by decide) ?_
    refine g_iconst (v := (-1)) C dX8_free_20 (by decide) ?_
    exact g_iret C E dX8_free_21 rfl rfl ⟨_, rfl, ⟨(by first | exact (gIf_f (fun z => h_2 z.1)).symm | exact (gIf_f (fun z => Int32.not_le.mpr c_12 z.2.1)).symm | exact (gIf_f (fun z => c_17 z.2.2)).symm), (by repeat (first | (with_reducible assumption) | (with_reducible exact gSm_r _) | (with_reducible refine gSm_I (by omega) ?_) | (with_reducible refine gSm_L (by omega) ?_) | (with_reducible refine gSm_N (by omega) ?_) | (with_reducible refine gSm_G (by omega) ?_) | (with_reducible refine gSm_P ?_)))⟩⟩
  · have hu8 : u_2 < 8 := by omega
    obtain ⟨h2, h4⟩ := (R.2.1 u_2 hu8).1 hu_2
    have hn := K.2.1 u_2 hu8
    subst e_2
    refine g_astore_n C dX8_free_5 (Nat.le_of_ble_eq_true rfl) rfl ?_
    refine g_lv [some _, some _, some _, some _] (gs_some (gs_some (gs_some (gs_some gs_nil)))) ?_
    refine g_aload_n C dX8_free_6 rfl ?_
    refine g_ifnull_r C dX8_free_7 ?_
    refine g_iload_n C dX8_free_10 rfl ?_
    refine g_iconst (v := 1) C dX8_free_11 (by decide) ?_
    refine g_icmp_lt C 20 dX8_free_12 (by decide) (fun c_12 => ?_) (fun c_12 => ?_)
    · refine g_iconst (v := (-1)) C dX8_free_20 (by decide) ?_
      exact g_iret C E dX8_free_21 rfl rfl ⟨_, rfl, ⟨(by first | exact (gIf_f (fun z => h_2 z.1)).symm | exact (gIf_f (fun z => Int32.not_le.mpr c_12 z.2.1)).symm | exact (gIf_f (fun z => c_17 z.2.2)).symm), (by repeat (first | (with_reducible assumption) | (with_reducible exact gSm_r _) | (with_reducible refine gSm_I (by omega) ?_) | (with_reducible refine gSm_L (by omega) ?_) | (with_reducible refine gSm_N (by omega) ?_) | (with_reducible refine gSm_G (by omega) ?_) | (with_reducible refine gSm_P ?_)))⟩⟩
    · refine g_iload_n C dX8_free_15 rfl ?_
      refine g_iconst (v := 5) C dX8_free_16 (by decide) ?_
      refine g_icmp_le C 22 dX8_free_17 (by decide) (fun c_17 => ?_) (fun c_17 => ?_)
      · obtain ⟨k1, hk1, rfl⟩ := gIx_5 c_12 c_17
        refine g_aload_n C dX8_free_22 rfl ?_
        refine g_callVi C sV_X8_129 dX8_free_23 (c_X7_total _ δ _ hu8) ⟨by decide, by decide⟩ (wO_U δ _ hu8) rfl rfl rfl rfl (Nat.le_of_ble_eq_true rfl) (fun r_23 s_23 h_23 => ?_)
        obtain ⟨rfl, rfl⟩ := h_23
        rw [KC_sum K hu8]
        refine g_if_ne C 32 dX8_free_26 (by decide) (fun c_26 => ?_) (fun c_26 => ?_)
        · refine g_aload_n C dX8_free_32 rfl ?_
          refine g_get C dX8_free_33 iwX8 rfl (wO_X δ _) 5 (Nat.le_of_ble_eq_true rfl) mW222 rfl rfl ?_
          refine g_aload_n C dX8_free_36 rfl ?_
          refine g_iload_n C dX8_free_37 rfl ?_
          refine g_aload_n C dX8_free_38 rfl ?_
          refine g_get C dX8_free_39 iwX8 rfl (wO_X δ _) 4 (Nat.le_of_ble_eq_true rfl) mW221 rfl rfl ?_
          refine g_callVi C sV_X8_240 dX8_free_42 (c_X3_areAlikea _ δ _ hu8 (k := k1) (by omega) K R) ⟨by decide, by decide⟩ (wO_O δ _) rfl rfl rfl rfl (Nat.le_of_ble_eq_true rfl) (fun r_42 s_42 h_42 => ?_)
          obtain ⟨z_42, h_42⟩ := h_42
          rcases h_42 with ⟨rfl, h_42⟩ | ⟨rfl, h_42⟩
          · skip
            refine g_if_eq C 52 dX8_free_45 (by decide) (fun c_45 => ?_) (fun c_45 => ?_)
            · exact absurd c_45 (by decide)
            · refine g_iconst (v := 1) C dX8_free_48 (by decide) ?_
              refine g_goto C 53 dX8_free_49 (by decide) ?_
              exact g_iret C E dX8_free_53 rfl rfl ⟨_, rfl, ⟨(by first | exact ((aFree_at hu_2 hu8 (by omega) (by omega)).trans ((gIf_f c_26).trans (gIf_t h_42))).symm | exact ((aFree_at hu_2 hu8 (by omega) (by omega)).trans ((gIf_f c_26).trans (gIf_f h_42))).symm), (by repeat (first | (with_reducible assumption) | (with_reducible exact gSm_r _) | (with_reducible refine gSm_I (by omega) ?_) | (with_reducible refine gSm_L (by omega) ?_) | (with_reducible refine gSm_N (by omega) ?_) | (with_reducible refine gSm_G (by omega) ?_) | (with_reducible refine gSm_P ?_)))⟩⟩
          · skip
            refine g_if_eq C 52 dX8_free_45 (by decide) (fun c_45 => ?_) (fun c_45 => ?_)
            · refine g_iconst (v := 0) C dX8_free_52 (by decide) ?_
              exact g_iret C E dX8_free_53 rfl rfl ⟨_, rfl, ⟨(by first | exact ((aFree_at hu_2 hu8 (by omega) (by omega)).trans ((gIf_f c_26).trans (gIf_t h_42))).symm | exact ((aFree_at hu_2 hu8 (by omega) (by omega)).trans ((gIf_f c_26).trans (gIf_f h_42))).symm), (by repeat (first | (with_reducible assumption) | (with_reducible exact gSm_r _) | (with_reducible refine gSm_I (by omega) ?_) | (with_reducible refine gSm_L (by omega) ?_) | (with_reducible refine gSm_N (by omega) ?_) | (with_reducible refine gSm_G (by omega) ?_) | (with_reducible refine gSm_P ?_)))⟩⟩
            · exact absurd c_45 (by decide)
        · refine g_bipush (v := (-2)) C dX8_free_29 (by decide) ?_
          exact g_iret C E dX8_free_31 rfl rfl ⟨_, rfl, ⟨((aFree_at hu_2 hu8 (by omega) (by omega)).trans (gIf_t c_26)).symm, (by repeat (first | (with_reducible assumption) | (with_reducible exact gSm_r _) | (with_reducible refine gSm_I (by omega) ?_) | (with_reducible refine gSm_L (by omega) ?_) | (with_reducible refine gSm_N (by omega) ?_) | (with_reducible refine gSm_G (by omega) ?_) | (with_reducible refine gSm_P ?_)))⟩⟩
      · refine g_iconst (v := (-1)) C dX8_free_20 (by decide) ?_
        exact g_iret C E dX8_free_21 rfl rfl ⟨_, rfl, ⟨(by first | exact (gIf_f (fun z => h_2 z.1)).symm | exact (gIf_f (fun z => Int32.not_le.mpr c_12 z.2.1)).symm | exact (gIf_f (fun z => c_17 z.2.2)).symm), (by repeat (first | (with_reducible assumption) | (with_reducible exact gSm_r _) | (with_reducible refine gSm_I (by omega) ?_) | (with_reducible refine gSm_L (by omega) ?_) | (with_reducible refine gSm_N (by omega) ?_) | (with_reducible refine gSm_G (by omega) ?_) | (with_reducible refine gSm_P ?_)))⟩⟩
