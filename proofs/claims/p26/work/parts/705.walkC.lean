set_option maxRecDepth 100000 in
set_option maxHeartbeats 4000000 in
theorem c_X0_findBallsb (l : Launch) (δ : GD) (σ : GS) {u : Nat} (hu : u < 8) {k x : Nat} (ho : ∀ c, c < 4 → gI σ 48 c = nI (d3 k x c)) {v : GV} (K : KC σ v) (R : RV v) : gM l δ yX0_findBalls cX0_findBalls 4 none 0 0 [.ref (δ.2.2.1 20), .ref (δ.2.2.1 (8 + u))] σ (gPv (fun σ' => ∃ g : Nat → Int32, σ' = uI σ 49 g ∧ ∀ d, d < 4 → g d = xB (bS (vS v) u) (tS (vS v) u) k x d)) := by
  refine g_of (lv0 := [some (.ref (δ.2.2.1 20)), some (.ref (δ.2.2.1 (8 + u))), none, none]) (by decide) rfl (Nat.le_of_ble_eq_true rfl) (fun Γ hl C E => ?_)
  subst hl
  have C : gC Γ δ cX0_findBalls RX0 4 0 0 := C
  refine g_iconst (v := 0) C dX0_findBalls_0 (by decide) ?_
  refine g_istore_n C dX0_findBalls_1 (Nat.le_of_ble_eq_true rfl) rfl ?_
  refine g_lv [some _, some _, some _, none] (gs_some (gs_some (gs_some (gs_none gs_nil)))) ?_
  have L_2 : ∀ (nn : Nat) (d : Nat) (g : Nat → Int32) (hd : d ≤ 4) (hg : ∀ j, j < d → g j = xB (bS (vS v) u) (tS (vS v) u) k x j), 4 - d < nn → gW Γ δ (uI σ 49 g) 2 [some (.ref (δ.2.2.1 20)), some (.ref (δ.2.2.1 (8 + u))), some (.int (nI d)), none] [] := by
    intro nn
    induction nn with
    | zero =>
      intro d g hd hg hm_2
      exact absurd hm_2 (Nat.not_lt_zero _)
    | succ nn ih_2 =>
      intro d g hd hg hm_2
      refine g_iload_n C dX0_findBalls_2 rfl ?_
      refine g_iconst (v := 4) C dX0_findBalls_3 (by decide) ?_
      refine g_icmp_ge C 64 dX0_findBalls_4 (by decide) (fun c_4 => ?_) (fun c_4 => ?_)
      · have k_4 := gle c_4 (a := 4) (b := d) (by first | rfl | assumption | (simp only [glit, nI_add, pk_mul]; done) | (simp only [glit, nI_add, pk_mul]; congr 1; omega) | (simp only [*, glit, nI_add, pk_mul]; congr 1; omega)) (by first | rfl | assumption | (simp only [glit, nI_add, pk_mul]; done) | (simp only [glit, nI_add, pk_mul]; congr 1; omega) | (simp only [*, glit, nI_add, pk_mul]; congr 1; omega)) (by omega) (by omega)
        have ed : d = 4 := by omega
        subst ed
        exact g_vret C E dX0_findBalls_64 rfl ⟨rfl, ⟨g, rfl, fun j h => hg j (by omega)⟩⟩
      · have k_4 := gnle c_4 (a := 4) (b := d) (by first | rfl | assumption | (simp only [glit, nI_add, pk_mul]; done) | (simp only [glit, nI_add, pk_mul]; congr 1; omega) | (simp only [*, glit, nI_add, pk_mul]; congr 1; omega)) (by first | rfl | assumption | (simp only [glit, nI_add, pk_mul]; done) | (simp only [glit, nI_add, pk_mul]; congr 1; omega) | (simp only [*, glit, nI_add, pk_mul]; congr 1; omega)) (by omega) (by omega)
        refine g_aload_n C dX0_findBalls_7 rfl ?_
        refine g_get C dX0_findBalls_8 iwX0 rfl (wO_A δ _) 4 (Nat.le_of_ble_eq_true rfl) mW112 rfl rfl ?_
        refine g_iload_n C dX0_findBalls_11 rfl ?_
        refine g_aload_n C dX0_findBalls_12 rfl ?_
        refine g_get C dX0_findBalls_13 iwX7 rfl (wO_U δ _ hu) 0 (Nat.le_of_ble_eq_true rfl) mW195 rfl rfl ?_
        refine g_iload_n C dX0_findBalls_16 rfl ?_
        refine g_ialdN C dX0_findBalls_17 (k := d) (q := u) (by omega) rfl (by first | rfl | assumption | (simp only [glit, nI_add, pk_mul]; done) | (simp only [glit, nI_add, pk_mul]; congr 1; omega) | (simp only [*, glit, nI_add, pk_mul]; congr 1; omega)) (by rw [gLenI_b hu]; omega) ?_
        rw [gI_uI, if_neg (by omega), KC_b K hu (by omega)]
        refine g_iastN C dX0_findBalls_18 (k := d) (q := 49) (by decide) rfl (by first | rfl | assumption | (simp only [glit, nI_add, pk_mul]; done) | (simp only [glit, nI_add, pk_mul]; congr 1; omega) | (simp only [*, glit, nI_add, pk_mul]; congr 1; omega)) (show d < gLenI 49 from Nat.lt_of_lt_of_eq (show d < 4 by omega) rfl) ?_
        refine g_iconst (v := 0) C dX0_findBalls_19 (by decide) ?_
        refine g_istore_n C dX0_findBalls_20 (Nat.le_of_ble_eq_true rfl) rfl ?_
        refine g_lv [some _, some _, some _, some _] (gs_some (gs_some (gs_some (gs_some gs_nil)))) ?_
        have L_21 : ∀ (nn : Nat) (c : Nat) (g2 : Nat → Int32) (hc : c ≤ 4) (hg2 : ∀ j, j < d → g2 j = xB (bS (vS v) u) (tS (vS v) u) k x j) (hx : g2 d = xS (bS (vS v) u) (tS (vS v) u) k x d c), 4 - c < nn → gW Γ δ (uI σ 49 g2) 21 [some (.ref (δ.2.2.1 20)), some (.ref (δ.2.2.1 (8 + u))), some (.int (nI d)), some (.int (nI c))] [] := by
          intro nn
          induction nn with
          | zero =>
            intro c g2 hc hg2 hx hm_21
            exact absurd hm_21 (Nat.not_lt_zero _)
          | succ nn ih_21 =>
            intro c g2 hc hg2 hx hm_21
            refine g_iload_n C dX0_findBalls_21 rfl ?_
            refine g_iconst (v := 4) C dX0_findBalls_22 (by decide) ?_
            refine g_icmp_ge C 58 dX0_findBalls_23 (by decide) (fun c_23 => ?_) (fun c_23 => ?_)
            · have k_23 := gle c_23 (a := 4) (b := c) (by first | rfl | assumption | (simp only [glit, nI_add, pk_mul]; done) | (simp only [glit, nI_add, pk_mul]; congr 1; omega) | (simp only [*, glit, nI_add, pk_mul]; congr 1; omega)) (by first | rfl | assumption | (simp only [glit, nI_add, pk_mul]; done) | (simp only [glit, nI_add, pk_mul]; congr 1; omega) | (simp only [*, glit, nI_add, pk_mul]; congr 1; omega)) (by omega) (by omega)
              have ec : c = 4 := by omega
              subst ec
              refine g_iinc (v := nI (d + 1)) C dX0_findBalls_58 rfl (ginc _ 1) rfl ?_
              refine g_lv [some _, some _, some _, some _] (gs_some (gs_some (gs_some (gs_some gs_nil)))) ?_
              refine g_goto C 2 dX0_findBalls_61 (by decide) ?_
              refine g_lv [some _, some _, some _, none] (gs_some (gs_some (gs_some (gs_none gs_nil)))) ?_
              exact ih_2 (d + 1) _ (by omega) (fun j h => (Nat.lt_succ_iff_lt_or_eq.mp h).elim (fun h => hg2 j h) (fun h => by rw [h]; exact hx)) (by omega)
            · have k_23 := gnle c_23 (a := 4) (b := c) (by first | rfl | assumption | (simp only [glit, nI_add, pk_mul]; done) | (simp only [glit, nI_add, pk_mul]; congr 1; omega) | (simp only [*, glit, nI_add, pk_mul]; congr 1; omega)) (by first | rfl | assumption | (simp only [glit, nI_add, pk_mul]; done) | (simp only [glit, nI_add, pk_mul]; congr 1; omega) | (simp only [*, glit, nI_add, pk_mul]; congr 1; omega)) (by omega) (by omega)
              refine g_aload_n C dX0_findBalls_26 rfl ?_
              refine g_get C dX0_findBalls_27 iwX0 rfl (wO_A δ _) 4 (Nat.le_of_ble_eq_true rfl) mW112 rfl rfl ?_
              refine g_iload_n C dX0_findBalls_30 rfl ?_
              refine g_dup2 C dX0_findBalls_31 rfl rfl ?_
              refine g_ialdN C dX0_findBalls_32 (k := d) (q := 49) (by decide) rfl (by first | rfl | assumption | (simp only [glit, nI_add, pk_mul]; done) | (simp only [glit, nI_add, pk_mul]; congr 1; omega) | (simp only [*, glit, nI_add, pk_mul]; congr 1; omega)) (show d < gLenI 49 from Nat.lt_of_lt_of_eq (show d < 4 by omega) rfl) ?_
              rw [gI_uI, if_pos rfl, hx]
              refine g_aload_n C dX0_findBalls_33 rfl ?_
              refine g_get C dX0_findBalls_34 iwX0 rfl (wO_A δ _) 3 (Nat.le_of_ble_eq_true rfl) mW111 rfl rfl ?_
              refine g_iload_n C dX0_findBalls_37 rfl ?_
              refine g_ialdN C dX0_findBalls_38 (k := c) (q := 48) (by decide) rfl (by first | rfl | assumption | (simp only [glit, nI_add, pk_mul]; done) | (simp only [glit, nI_add, pk_mul]; congr 1; omega) | (simp only [*, glit, nI_add, pk_mul]; congr 1; omega)) (show c < gLenI 48 from Nat.lt_of_lt_of_eq (show c < 4 by omega) rfl) ?_
              rw [gI_uI, if_neg (by decide), ho c (by omega)]
              refine g_aload_n C dX0_findBalls_39 rfl ?_
              refine g_get C dX0_findBalls_40 iwX7 rfl (wO_U δ _ hu) 1 (Nat.le_of_ble_eq_true rfl) mW198 rfl rfl ?_
              refine g_iload_n C dX0_findBalls_43 rfl ?_
              refine g_iconst (v := 4) C dX0_findBalls_44 (by decide) ?_
              refine g_imul C dX0_findBalls_45 ?_
              refine g_iload_n C dX0_findBalls_46 rfl ?_
              refine g_iadd C dX0_findBalls_47 ?_
              refine g_ialdN C dX0_findBalls_48 (k := (c * 4 + d)) (q := (8 + u)) (by omega) (congrArg _ (by omega)) (by first | rfl | assumption | (simp only [glit, nI_add, pk_mul]; done) | (simp only [glit, nI_add, pk_mul]; congr 1; omega) | (simp only [*, glit, nI_add, pk_mul]; congr 1; omega)) (by rw [gLenI_t hu]; omega) ?_
              rw [gI_uI, if_neg (by omega), KC_t K hu (by omega)]
              refine g_imul C dX0_findBalls_49 ?_
              refine g_iadd C dX0_findBalls_50 ?_
              refine g_iastN C dX0_findBalls_51 (k := d) (q := 49) (by decide) rfl (by first | rfl | assumption | (simp only [glit, nI_add, pk_mul]; done) | (simp only [glit, nI_add, pk_mul]; congr 1; omega) | (simp only [*, glit, nI_add, pk_mul]; congr 1; omega)) (show d < gLenI 49 from Nat.lt_of_lt_of_eq (show d < 4 by omega) rfl) ?_
              refine g_iinc (v := nI (c + 1)) C dX0_findBalls_52 rfl (ginc _ 1) rfl ?_
              refine g_lv [some _, some _, some _, some _] (gs_some (gs_some (gs_some (gs_some gs_nil)))) ?_
              refine g_goto C 21 dX0_findBalls_55 (by decide) ?_
              refine g_lv [some _, some _, some _, some _] (gs_some (gs_some (gs_some (gs_some gs_nil)))) ?_
              rw [uI_uI, gI_uI, if_pos rfl]
              exact ih_21 (c + 1) _ (by omega) (fun j h => (pk_un (by omega)).trans (hg2 j h)) pk_us (by omega)
        refine g_lv [some _, some _, some _, some _] (gs_some (gs_some (gs_some (gs_some gs_nil)))) ?_
        rw [uI_uI, gI_uI, if_pos rfl]
        exact L_21 _ 0 _ (by omega) (fun j h => (pk_un (by omega)).trans (hg j h)) pk_us (Nat.lt_succ_self _)
  refine g_lv [some _, some _, some _, none] (gs_some (gs_some (gs_some (gs_none gs_nil)))) ?_
  refine g_st (uI_id _ 49).symm ?_
  exact L_2 _ 0 _ (by omega) (fun _ h => absurd h (Nat.not_lt_zero _)) (Nat.lt_succ_self _)
set_option maxRecDepth 100000 in
set_option maxHeartbeats 4000000 in
theorem c_X0_settleb (l : Launch) (δ : GD) (σ : GS) (w : Int64) {k s : Nat} (hk : k ≤ 12) (hs : s ≤ 200) : gM l δ yX0_settle cX0_settle 5 none 0 0 [.ref (δ.2.2.1 20), .long w, .int (nI k), .int (nI s)] σ (gPv (fun σ' => σ' = uL (uL σ 10 (vp_updL (gL σ 10) k (gL σ 10 k + w))) 11 (vp_updL (gL σ 11) s (gL σ 11 s + w)))) := by
  refine g_of (lv0 := [some (.ref (δ.2.2.1 20)), some (.long w), none, some (.int (nI k)), some (.int (nI s))]) (by decide) rfl (Nat.le_of_ble_eq_true rfl) (fun Γ hl C E => ?_)
  subst hl
  have C : gC Γ δ cX0_settle RX0 5 0 0 := C
  refine g_aload_n C dX0_settle_0 rfl ?_
  refine g_get C dX0_settle_1 iwX0 rfl (wO_A δ _) 5 (Nat.le_of_ble_eq_true rfl) mW113 rfl rfl ?_
  refine g_iload_n C dX0_settle_4 rfl ?_
  refine g_dup2 C dX0_settle_5 rfl rfl ?_
  refine g_laldN C dX0_settle_6 (k := k) (q := 10) (by decide) rfl (by first | rfl | assumption | (simp only [glit, nI_add, pk_mul]; done) | (simp only [glit, nI_add, pk_mul]; congr 1; omega) | (simp only [*, glit, nI_add, pk_mul]; congr 1; omega)) (show k < gLenL 10 from Nat.lt_of_lt_of_eq (show k < 13 by omega) rfl) ?_
  refine g_lload_n C dX0_settle_7 rfl ?_
  refine g_ladd C dX0_settle_8 ?_
  refine g_lastN C dX0_settle_9 (k := k) (q := 10) (by decide) rfl (by first | rfl | assumption | (simp only [glit, nI_add, pk_mul]; done) | (simp only [glit, nI_add, pk_mul]; congr 1; omega) | (simp only [*, glit, nI_add, pk_mul]; congr 1; omega)) (show k < gLenL 10 from Nat.lt_of_lt_of_eq (show k < 13 by omega) rfl) ?_
  refine g_iload C dX0_settle_10 rfl ?_
  refine g_if_lt C 34 dX0_settle_12 (by decide) (fun c_12 => ?_) (fun c_12 => ?_)
  · exact absurd c_12 (nI_nn (by omega))
  · refine g_iload C dX0_settle_15 rfl ?_
    refine g_sipush (v := 200) C dX0_settle_17 (by decide) ?_
    refine g_icmp_gt C 34 dX0_settle_20 (by decide) (fun c_20 => ?_) (fun c_20 => ?_)
    · exact absurd c_20 (Int32.not_lt.mpr ((nI_leI (b := 200) (by omega) (by decide)).mpr hs))
    · have k_20 := gnlt c_20 (a := 200) (b := s) (by first | rfl | assumption | (simp only [glit, nI_add, pk_mul]; done) | (simp only [glit, nI_add, pk_mul]; congr 1; omega) | (simp only [*, glit, nI_add, pk_mul]; congr 1; omega)) (by first | rfl | assumption | (simp only [glit, nI_add, pk_mul]; done) | (simp only [glit, nI_add, pk_mul]; congr 1; omega) | (simp only [*, glit, nI_add, pk_mul]; congr 1; omega)) (by omega) (by omega)
      refine g_aload_n C dX0_settle_23 rfl ?_
      refine g_get C dX0_settle_24 iwX0 rfl (wO_A δ _) 6 (Nat.le_of_ble_eq_true rfl) mW115 rfl rfl ?_
      refine g_iload C dX0_settle_27 rfl ?_
      refine g_dup2 C dX0_settle_29 rfl rfl ?_
      refine g_laldN C dX0_settle_30 (k := s) (q := 11) (by decide) rfl (by first | rfl | assumption | (simp only [glit, nI_add, pk_mul]; done) | (simp only [glit, nI_add, pk_mul]; congr 1; omega) | (simp only [*, glit, nI_add, pk_mul]; congr 1; omega)) (show s < gLenL 11 from Nat.lt_of_lt_of_eq (show s < 201 by omega) rfl) ?_
      refine g_lload_n C dX0_settle_31 rfl ?_
      refine g_ladd C dX0_settle_32 ?_
      refine g_lastN C dX0_settle_33 (k := s) (q := 11) (by decide) rfl (by first | rfl | assumption | (simp only [glit, nI_add, pk_mul]; done) | (simp only [glit, nI_add, pk_mul]; congr 1; omega) | (simp only [*, glit, nI_add, pk_mul]; congr 1; omega)) (show s < gLenL 11 from Nat.lt_of_lt_of_eq (show s < 201 by omega) rfl) ?_
      exact g_vret C E dX0_settle_34 rfl ⟨rfl, rfl⟩
set_option maxRecDepth 100000 in
set_option maxHeartbeats 4000000 in
theorem c_X0_spreadb1 (l : Launch) (δ : GD) (σ : GS) {u : Nat} (hu : u < 8) {k x w : Nat} (hk : k ≤ 11) {o : Int32} {al : Nat → Nat → Prop} (hal : ∀ c, c < 4 → ((o < 0 ∨ o = nI c) ↔ al k c)) {Wf : Nat → Nat} (hW : Wf x = w) {v : GV} (K : KC σ v) (R : RV v) (hok : xOk (bS (vS v) u) (tS (vS v) u) (vC v u) k x) (hb : ∀ d, d < 4 → gI σ 49 d = xB (bS (vS v) u) (tS (vS v) u) k x d) : gM l δ yX0_spread cX0_spread 10 none 1 24 [.ref (δ.2.2.1 20), .ref (δ.2.2.1 (8 + u)), .int (nI (plc x)), .long (lN w), .int o, .int 1] σ (gPv (fun σ' => ∃ (N : Nat → Int64) (e : Int64), σ' = uG (uL σ (8 + gP σ / 2 % 2) N) 6 e ∧ (∀ y, y < 2197 → N (plc y) = gL σ (8 + gP σ / 2 % 2) (plc y) + lN (wX true (bS (vS v) u) (tS (vS v) u) al Wf k y x)) ∧ e = gG σ 6 + lN (eX true (bS (vS v) u) (tS (vS v) u) al Wf k x))) := by
  refine g_of (lv0 := [some (.ref (δ.2.2.1 20)), some (.ref (δ.2.2.1 (8 + u))), some (.int (nI (plc x))), some (.long (lN w)), none, some (.int o), some (.int 1), none, none, none]) (by decide) rfl (Nat.le_of_ble_eq_true rfl) (fun Γ hl C E => ?_)
  subst hl
  have C : gC Γ δ cX0_spread RX0 10 1 24 := C
  have hn := K.2.1 u hu
  have h4 := RV_n R hu
  refine g_aload_n C dX0_spread_0 rfl ?_
  refine g_get C dX0_spread_1 iwX0 rfl (wO_A δ _) 4 (Nat.le_of_ble_eq_true rfl) mW112 rfl rfl ?_
  refine g_iconst (v := 0) C dX0_spread_4 (by decide) ?_
  refine g_ialdN C dX0_spread_5 (k := 0) (q := 49) (by decide) rfl (by first | rfl | assumption | (simp only [glit, nI_add, pk_mul]; done) | (simp only [glit, nI_add, pk_mul]; congr 1; omega) | (simp only [*, glit, nI_add, pk_mul]; congr 1; omega)) (show 0 < gLenI 49 from Nat.lt_of_lt_of_eq (show 0 < 4 by omega) rfl) ?_
  rw [hb 0 (by omega)]
  refine g_aload_n C dX0_spread_6 rfl ?_
  refine g_get C dX0_spread_7 iwX0 rfl (wO_A δ _) 4 (Nat.le_of_ble_eq_true rfl) mW112 rfl rfl ?_
  refine g_iconst (v := 1) C dX0_spread_10 (by decide) ?_
  refine g_ialdN C dX0_spread_11 (k := 1) (q := 49) (by decide) rfl (by first | rfl | assumption | (simp only [glit, nI_add, pk_mul]; done) | (simp only [glit, nI_add, pk_mul]; congr 1; omega) | (simp only [*, glit, nI_add, pk_mul]; congr 1; omega)) (show 1 < gLenI 49 from Nat.lt_of_lt_of_eq (show 1 < 4 by omega) rfl) ?_
  rw [hb 1 (by omega)]
  refine g_iadd C dX0_spread_12 ?_
  refine g_aload_n C dX0_spread_13 rfl ?_
  refine g_get C dX0_spread_14 iwX0 rfl (wO_A δ _) 4 (Nat.le_of_ble_eq_true rfl) mW112 rfl rfl ?_
  refine g_iconst (v := 2) C dX0_spread_17 (by decide) ?_
  refine g_ialdN C dX0_spread_18 (k := 2) (q := 49) (by decide) rfl (by first | rfl | assumption | (simp only [glit, nI_add, pk_mul]; done) | (simp only [glit, nI_add, pk_mul]; congr 1; omega) | (simp only [*, glit, nI_add, pk_mul]; congr 1; omega)) (show 2 < gLenI 49 from Nat.lt_of_lt_of_eq (show 2 < 4 by omega) rfl) ?_
  rw [hb 2 (by omega)]
  refine g_iadd C dX0_spread_19 ?_
  refine g_aload_n C dX0_spread_20 rfl ?_
  refine g_get C dX0_spread_21 iwX0 rfl (wO_A δ _) 4 (Nat.le_of_ble_eq_true rfl) mW112 rfl rfl ?_
  refine g_iconst (v := 3) C dX0_spread_24 (by decide) ?_
  refine g_ialdN C dX0_spread_25 (k := 3) (q := 49) (by decide) rfl (by first | rfl | assumption | (simp only [glit, nI_add, pk_mul]; done) | (simp only [glit, nI_add, pk_mul]; congr 1; omega) | (simp only [*, glit, nI_add, pk_mul]; congr 1; omega)) (show 3 < gLenI 49 from Nat.lt_of_lt_of_eq (show 3 < 4 by omega) rfl) ?_
  rw [hb 3 (by omega)]
  refine g_iadd C dX0_spread_26 ?_
  refine g_if_ne C 41 dX0_spread_27 (by decide) (fun c_27 => ?_) (fun c_27 => ?_)
  · refine g_iconst (v := 0) C dX0_spread_41 (by decide) ?_
    refine g_istore C dX0_spread_42 (Nat.le_of_ble_eq_true rfl) rfl ?_
    refine g_lv [some _, some _, some _, some _, none, some _, some _, some _, none, none] (gs_some (gs_some (gs_some (gs_some (gs_none (gs_some (gs_some (gs_some (gs_none (gs_none gs_nil)))))))))) ?_
    have L_44 : ∀ (nn : Nat) (c : Nat) (N : Nat → Int64) (e : Int64) (hc : c ≤ vC v u) (hN : ∀ y, y < 2197 → N (plc y) = gL σ (8 + gP σ / 2 % 2) (plc y) + lN (qX true (bS (vS v) u) (tS (vS v) u) al w k y x c)) (he : e = gG σ 6 + lN (qE true (bS (vS v) u) (tS (vS v) u) al w k x c)), vC v u - c < nn → gW Γ δ (uG (uL σ (8 + gP σ / 2 % 2) N) 6 e) 44 [some (.ref (δ.2.2.1 20)), some (.ref (δ.2.2.1 (8 + u))), some (.int (nI (plc x))), some (.long (lN w)), none, some (.int o), some (.int 1), some (.int (nI c)), none, none] [] := by
      intro nn
      induction nn with
      | zero =>
        intro c N e hc hN he hm_44
        exact absurd hm_44 (Nat.not_lt_zero _)
      | succ nn ih_44 =>
        intro c N e hc hN he hm_44
        have K1 : KC (uG (uL σ (8 + gP σ / 2 % 2) N) 6 e) v := KC_sk (a := σ) (by repeat (first | (with_reducible assumption) | (with_reducible exact gSk_r _) | (with_reducible refine gSk_I (by omega) ?_) | (with_reducible refine gSk_L (by omega) ?_) | (with_reducible refine gSk_N (by omega) ?_) | (with_reducible refine gSk_G (by omega) ?_) | (with_reducible refine gSk_P ?_))) K
        have hb1 : ∀ d, d < 4 → gI (uG (uL σ (8 + gP σ / 2 % 2) N) 6 e) 49 d = xB (bS (vS v) u) (tS (vS v) u) k x d := hb
        refine g_iload C dX0_spread_44 rfl ?_
        refine g_aload_n C dX0_spread_46 rfl ?_
        refine g_get C dX0_spread_47 iwX7 rfl (wO_U δ _ hu) 3 (Nat.le_of_ble_eq_true rfl) mW203 rfl rfl ?_
        rw [gN_uG, gN_uL, hn]
        refine g_icmp_ge C 150 dX0_spread_50 (by decide) (fun c_50 => ?_) (fun c_50 => ?_)
        · have k_50 := gle c_50 (a := (vC v u)) (b := c) (by first | rfl | assumption | (simp only [glit, nI_add, pk_mul]; done) | (simp only [glit, nI_add, pk_mul]; congr 1; omega) | (simp only [*, glit, nI_add, pk_mul]; congr 1; omega)) (by first | rfl | assumption | (simp only [glit, nI_add, pk_mul]; done) | (simp only [glit, nI_add, pk_mul]; congr 1; omega) | (simp only [*, glit, nI_add, pk_mul]; congr 1; omega)) (by omega) (by omega)
          have ek : c = vC v u := by omega
          exact g_vret C E dX0_spread_150 rfl ⟨rfl, ⟨N, e, rfl, fun y hy => by rw [hN y hy, ek, qX_n hok h4, qX_W hW], by rw [he, ek, qE_n hok h4, qE_W hW c_27]⟩⟩
        · have k_50 := gnle c_50 (a := (vC v u)) (b := c) (by first | rfl | assumption | (simp only [glit, nI_add, pk_mul]; done) | (simp only [glit, nI_add, pk_mul]; congr 1; omega) | (simp only [*, glit, nI_add, pk_mul]; congr 1; omega)) (by first | rfl | assumption | (simp only [glit, nI_add, pk_mul]; done) | (simp only [glit, nI_add, pk_mul]; congr 1; omega) | (simp only [*, glit, nI_add, pk_mul]; congr 1; omega)) (by omega) (by omega)
          refine g_aload_n C dX0_spread_53 rfl ?_
          refine g_get C dX0_spread_54 iwX0 rfl (wO_A δ _) 4 (Nat.le_of_ble_eq_true rfl) mW112 rfl rfl ?_
          refine g_iload C dX0_spread_57 rfl ?_
          refine g_ialdN C dX0_spread_59 (k := c) (q := 49) (by decide) rfl (by first | rfl | assumption | (simp only [glit, nI_add, pk_mul]; done) | (simp only [glit, nI_add, pk_mul]; congr 1; omega) | (simp only [*, glit, nI_add, pk_mul]; congr 1; omega)) (show c < gLenI 49 from Nat.lt_of_lt_of_eq (show c < 4 by omega) rfl) ?_
          rw [gI_uG, gI_uL, hb c (by omega)]
          refine g_if_eq C 144 dX0_spread_60 (by decide) (fun c_60 => ?_) (fun c_60 => ?_)
          · have hno := xNo (al := al) (show ¬ 0 < xB (bS (vS v) u) (tS (vS v) u) k x c by rw [c_60]; decide)
            refine g_iinc (v := nI (c + 1)) C dX0_spread_144 rfl (ginc _ 1) rfl ?_
            refine g_lv [some _, some _, some _, some _, none, some _, some _, some _, none, none] (gs_some (gs_some (gs_some (gs_some (gs_none (gs_some (gs_some (gs_some (gs_none (gs_none gs_nil)))))))))) ?_
            refine g_goto C 44 dX0_spread_147 (by decide) ?_
            refine g_lv [some _, some _, some _, some _, none, some _, some _, some _, none, none] (gs_some (gs_some (gs_some (gs_some (gs_none (gs_some (gs_some (gs_some (gs_none (gs_none gs_nil)))))))))) ?_
            first | rw [uNX, gNX] | rw [uG_uG] | skip
            exact ih_44 (c + 1) _ _ (by omega) (by first | exact nx_no hN hno.1 | exact nx_no hN (fun q => hl q.1) | exact nx_yes (wg := true) (f := bS (vS v) u) (t := tS (vS v) u) (al := al) (w := w) (k := k) hN ⟨hl, hal2⟩ hok.1 hk (show c < 4 by omega)) (by first | exact en_no he hno.2 | exact en_no he (fun q => q.1.2 hl) | exact en_yes (wg := true) (f := bS (vS v) u) (t := tS (vS v) u) (al := al) (w := w) (k := k) he ⟨⟨hp, hl⟩, hal2⟩) (by omega)
          · have hp := (xB_n hok (show c < 4 by omega)).2.2.mp c_60
            refine g_iload C dX0_spread_63 rfl ?_
            refine g_if_lt C 78 dX0_spread_65 (by decide) (fun c_65 => ?_) (fun c_65 => ?_)
            · have hal2 : al k c := (hal c (by omega)).mp (Or.inl c_65)
              refine g_iload C dX0_spread_78 rfl ?_
              refine g_if_eq C 96 dX0_spread_80 (by decide) (fun c_80 => ?_) (fun c_80 => ?_)
              · exact absurd c_80 (by decide)
              · refine g_lload_n C dX0_spread_83 rfl ?_
                refine g_aload_n C dX0_spread_84 rfl ?_
                refine g_get C dX0_spread_85 iwX0 rfl (wO_A δ _) 4 (Nat.le_of_ble_eq_true rfl) mW112 rfl rfl ?_
                refine g_iload C dX0_spread_88 rfl ?_
                refine g_ialdN C dX0_spread_90 (k := c) (q := 49) (by decide) rfl (by first | rfl | assumption | (simp only [glit, nI_add, pk_mul]; done) | (simp only [glit, nI_add, pk_mul]; congr 1; omega) | (simp only [*, glit, nI_add, pk_mul]; congr 1; omega)) (show c < gLenI 49 from Nat.lt_of_lt_of_eq (show c < 4 by omega) rfl) ?_
                rw [gI_uG, gI_uL, hb c (by omega), (xB_n hok (show c < 4 by omega)).1]
                refine g_i2l C dX0_spread_91 ?_
                rw [nI_l (by have := (xB_n hok (show c < 4 by omega)).2.1; omega)]
                refine g_lmul C dX0_spread_92 ?_
                rw [lN_mul, show w * (xB (bS (vS v) u) (tS (vS v) u) k x c).toInt.toNat = w * xK true (bS (vS v) u) (tS (vS v) u) k x c by rw [xK_b]]
                refine g_goto C 97 dX0_spread_93 (by decide) ?_
                refine g_lstore C dX0_spread_97 (Nat.le_of_ble_eq_true rfl) rfl ?_
                refine g_lv [some _, some _, some _, some _, none, some _, some _, some _, some _, none] (gs_some (gs_some (gs_some (gs_some (gs_none (gs_some (gs_some (gs_some (gs_some (gs_none gs_nil)))))))))) ?_
                refine g_aload_n C dX0_spread_99 rfl ?_
                refine g_aload_n C dX0_spread_100 rfl ?_
                refine g_get C dX0_spread_101 iwX0 rfl (wO_A δ _) 4 (Nat.le_of_ble_eq_true rfl) mW112 rfl rfl ?_
                refine g_iload C dX0_spread_104 rfl ?_
                refine g_callVi C sV_X0_107 dX0_spread_106 (c_X7_lets _ δ _ hu (q := 49) (by omega) rfl (c := c) (by omega) hn h4) ⟨by decide, by decide⟩ (wO_U δ _ hu) rfl rfl rfl rfl (Nat.le_of_ble_eq_true rfl) (fun r_106 s_106 h_106 => ?_)
                obtain ⟨rfl, h_106⟩ := h_106
                rw [xC_let K1 R hu (show c < 4 by omega) hok hb1] at h_106
                rcases h_106 with ⟨rfl, h_106⟩ | ⟨rfl, h_106⟩
                · have hl := h_106
                  have hps := plc_s hok.1 hk (show c < 4 by omega)
                  have hpl := plc_lt hps.2
                  rw [hps.1] at hpl
                  refine g_if_eq C 133 dX0_spread_109 (by decide) (fun c_109 => ?_) (fun c_109 => ?_)
                  · exact absurd c_109 (by decide)
                  · refine g_aload_n C dX0_spread_112 rfl ?_
                    refine g_get C dX0_spread_113 iwX0 rfl (wO_A δ _) 1 (Nat.le_of_ble_eq_true rfl) mW109 rfl rfl ?_
                    refine g_iload_n C dX0_spread_116 rfl ?_
                    refine g_gets C dX0_spread_117 mW481 ?_
                    refine g_iload C dX0_spread_120 rfl ?_
                    refine g_staldN C dX0_spread_122 (k := c) (by first | rfl | assumption | (simp only [glit, nI_add, pk_mul]; done) | (simp only [glit, nI_add, pk_mul]; congr 1; omega) | (simp only [*, glit, nI_add, pk_mul]; congr 1; omega)) (by omega) ?_
                    refine g_iadd C dX0_spread_123 ?_
                    refine g_dup2 C dX0_spread_124 rfl rfl ?_
                    refine g_laldN C dX0_spread_125 (k := (plc x + gstp c)) (q := (8 + gP _ / 2 % 2)) (by omega) (gnx _ _) (by first | rfl | assumption | (simp only [glit, nI_add, pk_mul]; done) | (simp only [glit, nI_add, pk_mul]; congr 1; omega) | (simp only [*, glit, nI_add, pk_mul]; congr 1; omega)) (by rw [gLenL_n2 _]; omega) ?_
                    rw [gNX]
                    refine g_lload C dX0_spread_126 rfl ?_
                    refine g_ladd C dX0_spread_128 ?_
                    refine g_lastN C dX0_spread_129 (k := (plc x + gstp c)) (q := (8 + gP _ / 2 % 2)) (by omega) (gnx _ _) (by first | rfl | assumption | (simp only [glit, nI_add, pk_mul]; done) | (simp only [glit, nI_add, pk_mul]; congr 1; omega) | (simp only [*, glit, nI_add, pk_mul]; congr 1; omega)) (by rw [gLenL_n2 _]; omega) ?_
                    refine g_goto C 144 dX0_spread_130 (by decide) ?_
                    refine g_iinc (v := nI (c + 1)) C dX0_spread_144 rfl (ginc _ 1) rfl ?_
                    refine g_lv [some _, some _, some _, some _, none, some _, some _, some _, some _, none] (gs_some (gs_some (gs_some (gs_some (gs_none (gs_some (gs_some (gs_some (gs_some (gs_none gs_nil)))))))))) ?_
                    refine g_goto C 44 dX0_spread_147 (by decide) ?_
                    refine g_lv [some _, some _, some _, some _, none, some _, some _, some _, none, none] (gs_some (gs_some (gs_some (gs_some (gs_none (gs_some (gs_some (gs_some (gs_none (gs_none gs_nil)))))))))) ?_
                    first | rw [uNX, gNX] | rw [uG_uG] | skip
                    exact ih_44 (c + 1) _ _ (by omega) (by first | exact nx_no hN hno.1 | exact nx_no hN (fun q => hl q.1) | exact nx_yes (wg := true) (f := bS (vS v) u) (t := tS (vS v) u) (al := al) (w := w) (k := k) hN ⟨hl, hal2⟩ hok.1 hk (show c < 4 by omega)) (by first | exact en_no he hno.2 | exact en_no he (fun q => q.1.2 hl) | exact en_yes (wg := true) (f := bS (vS v) u) (t := tS (vS v) u) (al := al) (w := w) (k := k) he ⟨⟨hp, hl⟩, hal2⟩) (by omega)
                · have hl := h_106
                  refine g_if_eq C 133 dX0_spread_109 (by decide) (fun c_109 => ?_) (fun c_109 => ?_)
                  · refine g_aload_n C dX0_spread_133 rfl ?_
                    refine g_dup C dX0_spread_134 rfl ?_
                    refine g_get C dX0_spread_135 iwX0 rfl (wO_A δ _) 7 (Nat.le_of_ble_eq_true rfl) mW117 rfl rfl ?_
                    rw [gG_uG, if_pos rfl]
                    refine g_lload C dX0_spread_138 rfl ?_
                    refine g_ladd C dX0_spread_140 ?_
                    refine g_put C tyX0 dX0_spread_141 iwX0 tyX0_ok nmX0 rfl (wO_A δ _) 7 (Nat.le_of_ble_eq_true rfl) mW117 rfl rfl rfl rfl rfl (Nat.le_of_ble_eq_true rfl) (pG_6 δ _ _) ?_
                    refine g_iinc (v := nI (c + 1)) C dX0_spread_144 rfl (ginc _ 1) rfl ?_
                    refine g_lv [some _, some _, some _, some _, none, some _, some _, some _, some _, none] (gs_some (gs_some (gs_some (gs_some (gs_none (gs_some (gs_some (gs_some (gs_some (gs_none gs_nil)))))))))) ?_
                    refine g_goto C 44 dX0_spread_147 (by decide) ?_
                    refine g_lv [some _, some _, some _, some _, none, some _, some _, some _, none, none] (gs_some (gs_some (gs_some (gs_some (gs_none (gs_some (gs_some (gs_some (gs_none (gs_none gs_nil)))))))))) ?_
                    first | rw [uNX, gNX] | rw [uG_uG] | skip
                    exact ih_44 (c + 1) _ _ (by omega) (by first | exact nx_no hN hno.1 | exact nx_no hN (fun q => hl q.1) | exact nx_yes (wg := true) (f := bS (vS v) u) (t := tS (vS v) u) (al := al) (w := w) (k := k) hN ⟨hl, hal2⟩ hok.1 hk (show c < 4 by omega)) (by first | exact en_no he hno.2 | exact en_no he (fun q => q.1.2 hl) | exact en_yes (wg := true) (f := bS (vS v) u) (t := tS (vS v) u) (al := al) (w := w) (k := k) he ⟨⟨hp, hl⟩, hal2⟩) (by omega)
                  · exact absurd c_109 (by decide)
            · refine g_iload C dX0_spread_68 rfl ?_
              refine g_iload C dX0_spread_70 rfl ?_
              refine g_icmp_eq C 78 dX0_spread_72 (by decide) (fun c_72 => ?_) (fun c_72 => ?_)
              · have hal2 : al k c := (hal c (by omega)).mp (Or.inr c_72.symm)
                refine g_iload C dX0_spread_78 rfl ?_
                refine g_if_eq C 96 dX0_spread_80 (by decide) (fun c_80 => ?_) (fun c_80 => ?_)
                · exact absurd c_80 (by decide)
                · refine g_lload_n C dX0_spread_83 rfl ?_
                  refine g_aload_n C dX0_spread_84 rfl ?_
                  refine g_get C dX0_spread_85 iwX0 rfl (wO_A δ _) 4 (Nat.le_of_ble_eq_true rfl) mW112 rfl rfl ?_
                  refine g_iload C dX0_spread_88 rfl ?_
                  refine g_ialdN C dX0_spread_90 (k := c) (q := 49) (by decide) rfl (by first | rfl | assumption | (simp only [glit, nI_add, pk_mul]; done) | (simp only [glit, nI_add, pk_mul]; congr 1; omega) | (simp only [*, glit, nI_add, pk_mul]; congr 1; omega)) (show c < gLenI 49 from Nat.lt_of_lt_of_eq (show c < 4 by omega) rfl) ?_
                  rw [gI_uG, gI_uL, hb c (by omega), (xB_n hok (show c < 4 by omega)).1]
                  refine g_i2l C dX0_spread_91 ?_
                  rw [nI_l (by have := (xB_n hok (show c < 4 by omega)).2.1; omega)]
                  refine g_lmul C dX0_spread_92 ?_
                  rw [lN_mul, show w * (xB (bS (vS v) u) (tS (vS v) u) k x c).toInt.toNat = w * xK true (bS (vS v) u) (tS (vS v) u) k x c by rw [xK_b]]
                  refine g_goto C 97 dX0_spread_93 (by decide) ?_
                  refine g_lstore C dX0_spread_97 (Nat.le_of_ble_eq_true rfl) rfl ?_
                  refine g_lv [some _, some _, some _, some _, none, some _, some _, some _, some _, none] (gs_some (gs_some (gs_some (gs_some (gs_none (gs_some (gs_some (gs_some (gs_some (gs_none gs_nil)))))))))) ?_
                  refine g_aload_n C dX0_spread_99 rfl ?_
                  refine g_aload_n C dX0_spread_100 rfl ?_
                  refine g_get C dX0_spread_101 iwX0 rfl (wO_A δ _) 4 (Nat.le_of_ble_eq_true rfl) mW112 rfl rfl ?_
                  refine g_iload C dX0_spread_104 rfl ?_
                  refine g_callVi C sV_X0_107 dX0_spread_106 (c_X7_lets _ δ _ hu (q := 49) (by omega) rfl (c := c) (by omega) hn h4) ⟨by decide, by decide⟩ (wO_U δ _ hu) rfl rfl rfl rfl (Nat.le_of_ble_eq_true rfl) (fun r_106 s_106 h_106 => ?_)
                  obtain ⟨rfl, h_106⟩ := h_106
                  rw [xC_let K1 R hu (show c < 4 by omega) hok hb1] at h_106
                  rcases h_106 with ⟨rfl, h_106⟩ | ⟨rfl, h_106⟩
                  · have hl := h_106
                    have hps := plc_s hok.1 hk (show c < 4 by omega)
                    have hpl := plc_lt hps.2
                    rw [hps.1] at hpl
                    refine g_if_eq C 133 dX0_spread_109 (by decide) (fun c_109 => ?_) (fun c_109 => ?_)
                    · exact absurd c_109 (by decide)
                    · refine g_aload_n C dX0_spread_112 rfl ?_
                      refine g_get C dX0_spread_113 iwX0 rfl (wO_A δ _) 1 (Nat.le_of_ble_eq_true rfl) mW109 rfl rfl ?_
                      refine g_iload_n C dX0_spread_116 rfl ?_
                      refine g_gets C dX0_spread_117 mW481 ?_
                      refine g_iload C dX0_spread_120 rfl ?_
                      refine g_staldN C dX0_spread_122 (k := c) (by first | rfl | assumption | (simp only [glit, nI_add, pk_mul]; done) | (simp only [glit, nI_add, pk_mul]; congr 1; omega) | (simp only [*, glit, nI_add, pk_mul]; congr 1; omega)) (by omega) ?_
                      refine g_iadd C dX0_spread_123 ?_
                      refine g_dup2 C dX0_spread_124 rfl rfl ?_
                      refine g_laldN C dX0_spread_125 (k := (plc x + gstp c)) (q := (8 + gP _ / 2 % 2)) (by omega) (gnx _ _) (by first | rfl | assumption | (simp only [glit, nI_add, pk_mul]; done) | (simp only [glit, nI_add, pk_mul]; congr 1; omega) | (simp only [*, glit, nI_add, pk_mul]; congr 1; omega)) (by rw [gLenL_n2 _]; omega) ?_
                      rw [gNX]
                      refine g_lload C dX0_spread_126 rfl ?_
                      refine g_ladd C dX0_spread_128 ?_
                      refine g_lastN C dX0_spread_129 (k := (plc x + gstp c)) (q := (8 + gP _ / 2 % 2)) (by omega) (gnx _ _) (by first | rfl | assumption | (simp only [glit, nI_add, pk_mul]; done) | (simp only [glit, nI_add, pk_mul]; congr 1; omega) | (simp only [*, glit, nI_add, pk_mul]; congr 1; omega)) (by rw [gLenL_n2 _]; omega) ?_
                      refine g_goto C 144 dX0_spread_130 (by decide) ?_
                      refine g_iinc (v := nI (c + 1)) C dX0_spread_144 rfl (ginc _ 1) rfl ?_
                      refine g_lv [some _, some _, some _, some _, none, some _, some _, some _, some _, none] (gs_some (gs_some (gs_some (gs_some (gs_none (gs_some (gs_some (gs_some (gs_some (gs_none gs_nil)))))))))) ?_
                      refine g_goto C 44 dX0_spread_147 (by decide) ?_
                      refine g_lv [some _, some _, some _, some _, none, some _, some _, some _, none, none] (gs_some (gs_some (gs_some (gs_some (gs_none (gs_some (gs_some (gs_some (gs_none (gs_none gs_nil)))))))))) ?_
                      first | rw [uNX, gNX] | rw [uG_uG] | skip
                      exact ih_44 (c + 1) _ _ (by omega) (by first | exact nx_no hN hno.1 | exact nx_no hN (fun q => hl q.1) | exact nx_yes (wg := true) (f := bS (vS v) u) (t := tS (vS v) u) (al := al) (w := w) (k := k) hN ⟨hl, hal2⟩ hok.1 hk (show c < 4 by omega)) (by first | exact en_no he hno.2 | exact en_no he (fun q => q.1.2 hl) | exact en_yes (wg := true) (f := bS (vS v) u) (t := tS (vS v) u) (al := al) (w := w) (k := k) he ⟨⟨hp, hl⟩, hal2⟩) (by omega)
                  · have hl := h_106
                    refine g_if_eq C 133 dX0_spread_109 (by decide) (fun c_109 => ?_) (fun c_109 => ?_)
                    · refine g_aload_n C dX0_spread_133 rfl ?_
                      refine g_dup C dX0_spread_134 rfl ?_
                      refine g_get C dX0_spread_135 iwX0 rfl (wO_A δ _) 7 (Nat.le_of_ble_eq_true rfl) mW117 rfl rfl ?_
                      rw [gG_uG, if_pos rfl]
                      refine g_lload C dX0_spread_138 rfl ?_
                      refine g_ladd C dX0_spread_140 ?_
                      refine g_put C tyX0 dX0_spread_141 iwX0 tyX0_ok nmX0 rfl (wO_A δ _) 7 (Nat.le_of_ble_eq_true rfl) mW117 rfl rfl rfl rfl rfl (Nat.le_of_ble_eq_true rfl) (pG_6 δ _ _) ?_
                      refine g_iinc (v := nI (c + 1)) C dX0_spread_144 rfl (ginc _ 1) rfl ?_
                      refine g_lv [some _, some _, some _, some _, none, some _, some _, some _, some _, none] (gs_some (gs_some (gs_some (gs_some (gs_none (gs_some (gs_some (gs_some (gs_some (gs_none gs_nil)))))))))) ?_
                      refine g_goto C 44 dX0_spread_147 (by decide) ?_
                      refine g_lv [some _, some _, some _, some _, none, some _, some _, some _, none, none] (gs_some (gs_some (gs_some (gs_some (gs_none (gs_some (gs_some (gs_some (gs_none (gs_none gs_nil)))))))))) ?_
                      first | rw [uNX, gNX] | rw [uG_uG] | skip
                      exact ih_44 (c + 1) _ _ (by omega) (by first | exact nx_no hN hno.1 | exact nx_no hN (fun q => hl q.1) | exact nx_yes (wg := true) (f := bS (vS v) u) (t := tS (vS v) u) (al := al) (w := w) (k := k) hN ⟨hl, hal2⟩ hok.1 hk (show c < 4 by omega)) (by first | exact en_no he hno.2 | exact en_no he (fun q => q.1.2 hl) | exact en_yes (wg := true) (f := bS (vS v) u) (t := tS (vS v) u) (al := al) (w := w) (k := k) he ⟨⟨hp, hl⟩, hal2⟩) (by omega)
                    · exact absurd c_109 (by decide)
              · have hno := xNa (f := bS (vS v) u) (t := tS (vS v) u) (x := x) (fun z => ((hal c (by omega)).mpr z).elim c_65 (fun w => c_72 w.symm))
                refine g_goto C 144 dX0_spread_75 (by decide) ?_
                refine g_iinc (v := nI (c + 1)) C dX0_spread_144 rfl (ginc _ 1) rfl ?_
                refine g_lv [some _, some _, some _, some _, none, some _, some _, some _, none, none] (gs_some (gs_some (gs_some (gs_some (gs_none (gs_some (gs_some (gs_some (gs_none (gs_none gs_nil)))))))))) ?_
                refine g_goto C 44 dX0_spread_147 (by decide) ?_
                refine g_lv [some _, some _, some _, some _, none, some _, some _, some _, none, none] (gs_some (gs_some (gs_some (gs_some (gs_none (gs_some (gs_some (gs_some (gs_none (gs_none gs_nil)))))))))) ?_
                first | rw [uNX, gNX] | rw [uG_uG] | skip
                exact ih_44 (c + 1) _ _ (by omega) (by first | exact nx_no hN hno.1 | exact nx_no hN (fun q => hl q.1) | exact nx_yes (wg := true) (f := bS (vS v) u) (t := tS (vS v) u) (al := al) (w := w) (k := k) hN ⟨hl, hal2⟩ hok.1 hk (show c < 4 by omega)) (by first | exact en_no he hno.2 | exact en_no he (fun q => q.1.2 hl) | exact en_yes (wg := true) (f := bS (vS v) u) (t := tS (vS v) u) (al := al) (w := w) (k := k) he ⟨⟨hp, hl⟩, hal2⟩) (by omega)
    refine g_lv [some _, some _, some _, some _, none, some _, some _, some _, none, none] (gs_some (gs_some (gs_some (gs_some (gs_none (gs_some (gs_some (gs_some (gs_none (gs_none gs_nil)))))))))) ?_
    refine g_st (σ' := uG (uL σ (8 + gP σ / 2 % 2) (gL σ (8 + gP σ / 2 % 2))) 6 (gG σ 6)) (by rw [uL_id, uG_id]) ?_
    exact L_44 _ 0 _ _ (Nat.zero_le _) (fun y hy => (l_az _).symm) (l_az _).symm (Nat.lt_succ_self _)
  · refine g_aload_n C dX0_spread_30 rfl ?_
    refine g_dup C dX0_spread_31 rfl ?_
    refine g_get C dX0_spread_32 iwX0 rfl (wO_A δ _) 7 (Nat.le_of_ble_eq_true rfl) mW117 rfl rfl ?_
    refine g_lload_n C dX0_spread_35 rfl ?_
    refine g_ladd C dX0_spread_36 ?_
    refine g_put C tyX0 dX0_spread_37 iwX0 tyX0_ok nmX0 rfl (wO_A δ _) 7 (Nat.le_of_ble_eq_true rfl) mW117 rfl rfl rfl rfl rfl (Nat.le_of_ble_eq_true rfl) (pG_6 δ _ _) ?_
    exact g_vret C E dX0_spread_40 rfl ⟨rfl, ⟨gL σ (8 + gP σ / 2 % 2), _, by rw [uL_id], fun y hy => by rw [← qX_W (w := w) hW, qX_z hok c_27, l_az], by rw [eX_z c_27, hW]⟩⟩
set_option maxRecDepth 100000 in
set_option maxHeartbeats 4000000 in
theorem c_X0_spreadb0 (l : Launch) (δ : GD) (σ : GS) {u : Nat} (hu : u < 8) {k x w : Nat} (hk : k ≤ 11) {o : Int32} {al : Nat → Nat → Prop} (hal : ∀ c, c < 4 → ((o < 0 ∨ o = nI c) ↔ al k c)) {Wf : Nat → Nat} (hW : Wf x = w) {v : GV} (K : KC σ v) (R : RV v) (hok : xOk (bS (vS v) u) (tS (vS v) u) (vC v u) k x) (hb : ∀ d, d < 4 → gI σ 49 d = xB (bS (vS v) u) (tS (vS v) u) k x d) : gM l δ yX0_spread cX0_spread 10 none 1 24 [.ref (δ.2.2.1 20), .ref (δ.2.2.1 (8 + u)), .int (nI (plc x)), .long (lN w), .int o, .int 0] σ (gPv (fun σ' => ∃ (N : Nat → Int64) (e : Int64), σ' = uG (uL σ (8 + gP σ / 2 % 2) N) 6 e ∧ (∀ y, y < 2197 → N (plc y) = gL σ (8 + gP σ / 2 % 2) (plc y) + lN (wX false (bS (vS v) u) (tS (vS v) u) al Wf k y x)) ∧ e = gG σ 6 + lN (eX false (bS (vS v) u) (tS (vS v) u) al Wf k x))) := by
  refine g_of (lv0 := [some (.ref (δ.2.2.1 20)), some (.ref (δ.2.2.1 (8 + u))), some (.int (nI (plc x))), some (.long (lN w)), none, some (.int o), some (.int 0), none, none, none]) (by decide) rfl (Nat.le_of_ble_eq_true rfl) (fun Γ hl C E => ?_)
  subst hl
  have C : gC Γ δ cX0_spread RX0 10 1 24 := C
  have hn := K.2.1 u hu
  have h4 := RV_n R hu
  refine g_aload_n C dX0_spread_0 rfl ?_
  refine g_get C dX0_spread_1 iwX0 rfl (wO_A δ _) 4 (Nat.le_of_ble_eq_true rfl) mW112 rfl rfl ?_
  refine g_iconst (v := 0) C dX0_spread_4 (by decide) ?_
  refine g_ialdN C dX0_spread_5 (k := 0) (q := 49) (by decide) rfl (by first | rfl | assumption | (simp only [glit, nI_add, pk_mul]; done) | (simp only [glit, nI_add, pk_mul]; congr 1; omega) | (simp only [*, glit, nI_add, pk_mul]; congr 1; omega)) (show 0 < gLenI 49 from Nat.lt_of_lt_of_eq (show 0 < 4 by omega) rfl) ?_
  rw [hb 0 (by omega)]
  refine g_aload_n C dX0_spread_6 rfl ?_
  refine g_get C dX0_spread_7 iwX0 rfl (wO_A δ _) 4 (Nat.le_of_ble_eq_true rfl) mW112 rfl rfl ?_
  refine g_iconst (v := 1) C dX0_spread_10 (by decide) ?_
  refine g_ialdN C dX0_spread_11 (k := 1) (q := 49) (by decide) rfl (by first | rfl | assumption | (simp only [glit, nI_add, pk_mul]; done) | (simp only [glit, nI_add, pk_mul]; congr 1; omega) | (simp only [*, glit, nI_add, pk_mul]; congr 1; omega)) (show 1 < gLenI 49 from Nat.lt_of_lt_of_eq (show 1 < 4 by omega) rfl) ?_
  rw [hb 1 (by omega)]
  refine g_iadd C dX0_spread_12 ?_
  refine g_aload_n C dX0_spread_13 rfl ?_
  refine g_get C dX0_spread_14 iwX0 rfl (wO_A δ _) 4 (Nat.le_of_ble_eq_true rfl) mW112 rfl rfl ?_
  refine g_iconst (v := 2) C dX0_spread_17 (by decide) ?_
  refine g_ialdN C dX0_spread_18 (k := 2) (q := 49) (by decide) rfl (by first | rfl | assumption | (simp only [glit, nI_add, pk_mul]; done) | (simp only [glit, nI_add, pk_mul]; congr 1; omega) | (simp only [*, glit, nI_add, pk_mul]; congr 1; omega)) (show 2 < gLenI 49 from Nat.lt_of_lt_of_eq (show 2 < 4 by omega) rfl) ?_
  rw [hb 2 (by omega)]
  refine g_iadd C dX0_spread_19 ?_
  refine g_aload_n C dX0_spread_20 rfl ?_
  refine g_get C dX0_spread_21 iwX0 rfl (wO_A δ _) 4 (Nat.le_of_ble_eq_true rfl) mW112 rfl rfl ?_
  refine g_iconst (v := 3) C dX0_spread_24 (by decide) ?_
  refine g_ialdN C dX0_spread_25 (k := 3) (q := 49) (by decide) rfl (by first | rfl | assumption | (simp only [glit, nI_add, pk_mul]; done) | (simp only [glit, nI_add, pk_mul]; congr 1; omega) | (simp only [*, glit, nI_add, pk_mul]; congr 1; omega)) (show 3 < gLenI 49 from Nat.lt_of_lt_of_eq (show 3 < 4 by omega) rfl) ?_
  rw [hb 3 (by omega)]
  refine g_iadd C dX0_spread_26 ?_
  refine g_if_ne C 41 dX0_spread_27 (by decide) (fun c_27 => ?_) (fun c_27 => ?_)
  · refine g_iconst (v := 0) C dX0_spread_41 (by decide) ?_
    refine g_istore C dX0_spread_42 (Nat.le_of_ble_eq_true rfl) rfl ?_
    refine g_lv [some _, some _, some _, some _, none, some _, some _, some _, none, none] (gs_some (gs_some (gs_some (gs_some (gs_none (gs_some (gs_some (gs_some (gs_none (gs_none gs_nil)))))))))) ?_
    have L_44 : ∀ (nn : Nat) (c : Nat) (N : Nat → Int64) (e : Int64) (hc : c ≤ vC v u) (hN : ∀ y, y < 2197 → N (plc y) = gL σ (8 + gP σ / 2 % 2) (plc y) + lN (qX false (bS (vS v) u) (tS (vS v) u) al w k y x c)) (he : e = gG σ 6 + lN (qE false (bS (vS v) u) (tS (vS v) u) al w k x c)), vC v u - c < nn → gW Γ δ (uG (uL σ (8 + gP σ / 2 % 2) N) 6 e) 44 [some (.ref (δ.2.2.1 20)), some (.ref (δ.2.2.1 (8 + u))), some (.int (nI (plc x))), some (.long (lN w)), none, some (.int o), some (.int 0), some (.int (nI c)), none, none] [] := by
      intro nn
      induction nn with
      | zero =>
        intro c N e hc hN he hm_44
        exact absurd hm_44 (Nat.not_lt_zero _)
      | succ nn ih_44 =>
        intro c N e hc hN he hm_44
        have K1 : KC (uG (uL σ (8 + gP σ / 2 % 2) N) 6 e) v := KC_sk (a := σ) (by repeat (first | (with_reducible assumption) | (with_reducible exact gSk_r _) | (with_reducible refine gSk_I (by omega) ?_) | (with_reducible refine gSk_L (by omega) ?_) | (with_reducible refine gSk_N (by omega) ?_) | (with_reducible refine gSk_G (by omega) ?_) | (with_reducible refine gSk_P ?_))) K
        have hb1 : ∀ d, d < 4 → gI (uG (uL σ (8 + gP σ / 2 % 2) N) 6 e) 49 d = xB (bS (vS v) u) (tS (vS v) u) k x d := hb
        refine g_iload C dX0_spread_44 rfl ?_
        refine g_aload_n C dX0_spread_46 rfl ?_
        refine g_get C dX0_spread_47 iwX7 rfl (wO_U δ _ hu) 3 (Nat.le_of_ble_eq_true rfl) mW203 rfl rfl ?_
        rw [gN_uG, gN_uL, hn]
        refine g_icmp_ge C 150 dX0_spread_50 (by decide) (fun c_50 => ?_) (fun c_50 => ?_)
        · have k_50 := gle c_50 (a := (vC v u)) (b := c) (by first | rfl | assumption | (simp only [glit, nI_add, pk_mul]; done) | (simp only [glit, nI_add, pk_mul]; congr 1; omega) | (simp only [*, glit, nI_add, pk_mul]; congr 1; omega)) (by first | rfl | assumption | (simp only [glit, nI_add, pk_mul]; done) | (simp only [glit, nI_add, pk_mul]; congr 1; omega) | (simp only [*, glit, nI_add, pk_mul]; congr 1; omega)) (by omega) (by omega)
          have ek : c = vC v u := by omega
          exact g_vret C E dX0_spread_150 rfl ⟨rfl, ⟨N, e, rfl, fun y hy => by rw [hN y hy, ek, qX_n hok h4, qX_W hW], by rw [he, ek, qE_n hok h4, qE_W hW c_27]⟩⟩
        · have k_50 := gnle c_50 (a := (vC v u)) (b := c) (by first | rfl | assumption | (simp only [glit, nI_add, pk_mul]; done) | (simp only [glit, nI_add, pk_mul]; congr 1; omega) | (simp only [*, glit, nI_add, pk_mul]; congr 1; omega)) (by first | rfl | assumption | (simp only [glit, nI_add, pk_mul]; done) | (simp only [glit, nI_add, pk_mul]; congr 1; omega) | (simp only [*, glit, nI_add, pk_mul]; congr 1; omega)) (by omega) (by omega)
          refine g_aload_n C dX0_spread_53 rfl ?_
          refine g_get C dX0_spread_54 iwX0 rfl (wO_A δ _) 4 (Nat.le_of_ble_eq_true rfl) mW112 rfl rfl ?_
          refine g_iload C dX0_spread_57 rfl ?_
          refine g_ialdN C dX0_spread_59 (k := c) (q := 49) (by decide) rfl (by first | rfl | assumption | (simp only [glit, nI_add, pk_mul]; done) | (simp only [glit, nI_add, pk_mul]; congr 1; omega) | (simp only [*, glit, nI_add, pk_mul]; congr 1; omega)) (show c < gLenI 49 from Nat.lt_of_lt_of_eq (show c < 4 by omega) rfl) ?_
          rw [gI_uG, gI_uL, hb c (by omega)]
          refine g_if_eq C 144 dX0_spread_60 (by decide) (fun c_60 => ?_) (fun c_60 => ?_)
          · have hno := xNo (al := al) (show ¬ 0 < xB (bS (vS v) u) (tS (vS v) u) k x c by rw [c_60]; decide)
            refine g_iinc (v := nI (c + 1)) C dX0_spread_144 rfl (ginc _ 1) rfl ?_
            refine g_lv [some _, some _, some _, some _, none, some _, some _, some _, none, none] (gs_some (gs_some (gs_some (gs_some (gs_none (gs_some (gs_some (gs_some (gs_none (gs_none gs_nil)))))))))) ?_
            refine g_goto C 44 dX0_spread_147 (by decide) ?_
            refine g_lv [some _, some _, some _, some _, none, some _, some _, some _, none, none] (gs_some (gs_some (gs_some (gs_some (gs_none (gs_some (gs_some (gs_some (gs_none (gs_none gs_nil)))))))))) ?_
            first | rw [uNX, gNX] | rw [uG_uG] | skip
            exact ih_44 (c + 1) _ _ (by omega) (by first | exact nx_no hN hno.1 | exact nx_no hN (fun q => hl q.1) | exact fun y hy => by have q := nx_yes (wg := false) (f := bS (vS v) u) (t := tS (vS v) u) (al := al) (w := w) (k := k) hN ⟨hl, hal2⟩ hok.1 hk (show c < 4 by omega) y hy; rw [wK0] at q; exact q) (by first | exact en_no he hno.2 | exact en_no he (fun q => q.1.2 hl) | exact by have q := en_yes (wg := false) (f := bS (vS v) u) (t := tS (vS v) u) (al := al) (w := w) (k := k) he ⟨⟨hp, hl⟩, hal2⟩; rw [wK0] at q; exact q) (by omega)
          · have hp := (xB_n hok (show c < 4 by omega)).2.2.mp c_60
            refine g_iload C dX0_spread_63 rfl ?_
            refine g_if_lt C 78 dX0_spread_65 (by decide) (fun c_65 => ?_) (fun c_65 => ?_)
            · have hal2 : al k c := (hal c (by omega)).mp (Or.inl c_65)
              refine g_iload C dX0_spread_78 rfl ?_
              refine g_if_eq C 96 dX0_spread_80 (by decide) (fun c_80 => ?_) (fun c_80 => ?_)
              · refine g_lload_n C dX0_spread_96 rfl ?_
                refine g_lstore C dX0_spread_97 (Nat.le_of_ble_eq_true rfl) rfl ?_
                refine g_lv [some _, some _, some _, some _, none, some _, some _, some _, some _, none] (gs_some (gs_some (gs_some (gs_some (gs_none (gs_some (gs_some (gs_some (gs_some (gs_none gs_nil)))))))))) ?_
                refine g_aload_n C dX0_spread_99 rfl ?_
                refine g_aload_n C dX0_spread_100 rfl ?_
                refine g_get C dX0_spread_101 iwX0 rfl (wO_A δ _) 4 (Nat.le_of_ble_eq_true rfl) mW112 rfl rfl ?_
                refine g_iload C dX0_spread_104 rfl ?_
                refine g_callVi C sV_X0_107 dX0_spread_106 (c_X7_lets _ δ _ hu (q := 49) (by omega) rfl (c := c) (by omega) hn h4) ⟨by decide, by decide⟩ (wO_U δ _ hu) rfl rfl rfl rfl (Nat.le_of_ble_eq_true rfl) (fun r_106 s_106 h_106 => ?_)
                obtain ⟨rfl, h_106⟩ := h_106
                rw [xC_let K1 R hu (show c < 4 by omega) hok hb1] at h_106
                rcases h_106 with ⟨rfl, h_106⟩ | ⟨rfl, h_106⟩
                · have hl := h_106
                  have hps := plc_s hok.1 hk (show c < 4 by omega)
                  have hpl := plc_lt hps.2
                  rw [hps.1] at hpl
                  refine g_if_eq C 133 dX0_spread_109 (by decide) (fun c_109 => ?_) (fun c_109 => ?_)
                  · exact absurd c_109 (by decide)
                  · refine g_aload_n C dX0_spread_112 rfl ?_
                    refine g_get C dX0_spread_113 iwX0 rfl (wO_A δ _) 1 (Nat.le_of_ble_eq_true rfl) mW109 rfl rfl ?_
                    refine g_iload_n C dX0_spread_116 rfl ?_
                    refine g_gets C dX0_spread_117 mW481 ?_
                    refine g_iload C dX0_spread_120 rfl ?_
                    refine g_staldN C dX0_spread_122 (k := c) (by first | rfl | assumption | (simp only [glit, nI_add, pk_mul]; done) | (simp only [glit, nI_add, pk_mul]; congr 1; omega) | (simp only [*, glit, nI_add, pk_mul]; congr 1; omega)) (by omega) ?_
                    refine g_iadd C dX0_spread_123 ?_
                    refine g_dup2 C dX0_spread_124 rfl rfl ?_
                    refine g_laldN C dX0_spread_125 (k := (plc x + gstp c)) (q := (8 + gP _ / 2 % 2)) (by omega) (gnx _ _) (by first | rfl | assumption | (simp only [glit, nI_add, pk_mul]; done) | (simp only [glit, nI_add, pk_mul]; congr 1; omega) | (simp only [*, glit, nI_add, pk_mul]; congr 1; omega)) (by rw [gLenL_n2 _]; omega) ?_
                    rw [gNX]
                    refine g_lload C dX0_spread_126 rfl ?_
                    refine g_ladd C dX0_spread_128 ?_
                    refine g_lastN C dX0_spread_129 (k := (plc x + gstp c)) (q := (8 + gP _ / 2 % 2)) (by omega) (gnx _ _) (by first | rfl | assumption | (simp only [glit, nI_add, pk_mul]; done) | (simp only [glit, nI_add, pk_mul]; congr 1; omega) | (simp only [*, glit, nI_add, pk_mul]; congr 1; omega)) (by rw [gLenL_n2 _]; omega) ?_
                    refine g_goto C 144 dX0_spread_130 (by decide) ?_
                    refine g_iinc (v := nI (c + 1)) C dX0_spread_144 rfl (ginc _ 1) rfl ?_
                    refine g_lv [some _, some _, some _, some _, none, some _, some _, some _, some _, none] (gs_some (gs_some (gs_some (gs_some (gs_none (gs_some (gs_some (gs_some (gs_some (gs_none gs_nil)))))))))) ?_
                    refine g_goto C 44 dX0_spread_147 (by decide) ?_
                    refine g_lv [some _, some _, some _, some _, none, some _, some _, some _, none, none] (gs_some (gs_some (gs_some (gs_some (gs_none (gs_some (gs_some (gs_some (gs_none (gs_none gs_nil)))))))))) ?_
                    first | rw [uNX, gNX] | rw [uG_uG] | skip
                    exact ih_44 (c + 1) _ _ (by omega) (by first | exact nx_no hN hno.1 | exact nx_no hN (fun q => hl q.1) | exact fun y hy => by have q := nx_yes (wg := false) (f := bS (vS v) u) (t := tS (vS v) u) (al := al) (w := w) (k := k) hN ⟨hl, hal2⟩ hok.1 hk (show c < 4 by omega) y hy; rw [wK0] at q; exact q) (by first | exact en_no he hno.2 | exact en_no he (fun q => q.1.2 hl) | exact by have q := en_yes (wg := false) (f := bS (vS v) u) (t := tS (vS v) u) (al := al) (w := w) (k := k) he ⟨⟨hp, hl⟩, hal2⟩; rw [wK0] at q; exact q) (by omega)
                · have hl := h_106
                  refine g_if_eq C 133 dX0_spread_109 (by decide) (fun c_109 => ?_) (fun c_109 => ?_)
                  · refine g_aload_n C dX0_spread_133 rfl ?_
                    refine g_dup C dX0_spread_134 rfl ?_
                    refine g_get C dX0_spread_135 iwX0 rfl (wO_A δ _) 7 (Nat.le_of_ble_eq_true rfl) mW117 rfl rfl ?_
                    rw [gG_uG, if_pos rfl]
                    refine g_lload C dX0_spread_138 rfl ?_
                    refine g_ladd C dX0_spread_140 ?_
                    refine g_put C tyX0 dX0_spread_141 iwX0 tyX0_ok nmX0 rfl (wO_A δ _) 7 (Nat.le_of_ble_eq_true rfl) mW117 rfl rfl rfl rfl rfl (Nat.le_of_ble_eq_true rfl) (pG_6 δ _ _) ?_
                    refine g_iinc (v := nI (c + 1)) C dX0_spread_144 rfl (ginc _ 1) rfl ?_
                    refine g_lv [some _, some _, some _, some _, none, some _, some _, some _, some _, none] (gs_some (gs_some (gs_some (gs_some (gs_none (gs_some (gs_some (gs_some (gs_some (gs_none gs_nil)))))))))) ?_
                    refine g_goto C 44 dX0_spread_147 (by decide) ?_
                    refine g_lv [some _, some _, some _, some _, none, some _, some _, some _, none, none] (gs_some (gs_some (gs_some (gs_some (gs_none (gs_some (gs_some (gs_some (gs_none (gs_none gs_nil)))))))))) ?_
                    first | rw [uNX, gNX] | rw [uG_uG] | skip
                    exact ih_44 (c + 1) _ _ (by omega) (by first | exact nx_no hN hno.1 | exact nx_no hN (fun q => hl q.1) | exact fun y hy => by have q := nx_yes (wg := false) (f := bS (vS v) u) (t := tS (vS v) u) (al := al) (w := w) (k := k) hN ⟨hl, hal2⟩ hok.1 hk (show c < 4 by omega) y hy; rw [wK0] at q; exact q) (by first | exact en_no he hno.2 | exact en_no he (fun q => q.1.2 hl) | exact by have q := en_yes (wg := false) (f := bS (vS v) u) (t := tS (vS v) u) (al := al) (w := w) (k := k) he ⟨⟨hp, hl⟩, hal2⟩; rw [wK0] at q; exact q) (by omega)
                  · exact absurd c_109 (by decide)
              · exact absurd c_80 (by decide)
            · refine g_iload C dX0_spread_68 rfl ?_
              refine g_iload C dX0_spread_70 rfl ?_
              refine g_icmp_eq C 78 dX0_spread_72 (by decide) (fun c_72 => ?_) (fun c_72 => ?_)
              · have hal2 : al k c := (hal c (by omega)).mp (Or.inr c_72.symm)
                refine g_iload C dX0_spread_78 rfl ?_
                refine g_if_eq C 96 dX0_spread_80 (by decide) (fun c_80 => ?_) (fun c_80 => ?_)
                · refine g_lload_n C dX0_spread_96 rfl ?_
                  refine g_lstore C dX0_spread_97 (Nat.le_of_ble_eq_true rfl) rfl ?_
                  refine g_lv [some _, some _, some _, some _, none, some _, some _, some _, some _, none] (gs_some (gs_some (gs_some (gs_some (gs_none (gs_some (gs_some (gs_some (gs_some (gs_none gs_nil)))))))))) ?_
                  refine g_aload_n C dX0_spread_99 rfl ?_
                  refine g_aload_n C dX0_spread_100 rfl ?_
                  refine g_get C dX0_spread_101 iwX0 rfl (wO_A δ _) 4 (Nat.le_of_ble_eq_true rfl) mW112 rfl rfl ?_
                  refine g_iload C dX0_spread_104 rfl ?_
                  refine g_callVi C sV_X0_107 dX0_spread_106 (c_X7_lets _ δ _ hu (q := 49) (by omega) rfl (c := c) (by omega) hn h4) ⟨by decide, by decide⟩ (wO_U δ _ hu) rfl rfl rfl rfl (Nat.le_of_ble_eq_true rfl) (fun r_106 s_106 h_106 => ?_)
                  obtain ⟨rfl, h_106⟩ := h_106
                  rw [xC_let K1 R hu (show c < 4 by omega) hok hb1] at h_106
                  rcases h_106 with ⟨rfl, h_106⟩ | ⟨rfl, h_106⟩
                  · have hl := h_106
                    have hps := plc_s hok.1 hk (show c < 4 by omega)
                    have hpl := plc_lt hps.2
                    rw [hps.1] at hpl
                    refine g_if_eq C 133 dX0_spread_109 (by decide) (fun c_109 => ?_) (fun c_109 => ?_)
                    · exact absurd c_109 (by decide)
                    · refine g_aload_n C dX0_spread_112 rfl ?_
                      refine g_get C dX0_spread_113 iwX0 rfl (wO_A δ _) 1 (Nat.le_of_ble_eq_true rfl) mW109 rfl rfl ?_
                      refine g_iload_n C dX0_spread_116 rfl ?_
                      refine g_gets C dX0_spread_117 mW481 ?_
                      refine g_iload C dX0_spread_120 rfl ?_
                      refine g_staldN C dX0_spread_122 (k := c) (by first | rfl | assumption | (simp only [glit, nI_add, pk_mul]; done) | (simp only [glit, nI_add, pk_mul]; congr 1; omega) | (simp only [*, glit, nI_add, pk_mul]; congr 1; omega)) (by omega) ?_
                      refine g_iadd C dX0_spread_123 ?_
                      refine g_dup2 C dX0_spread_124 rfl rfl ?_
                      refine g_laldN C dX0_spread_125 (k := (plc x + gstp c)) (q := (8 + gP _ / 2 % 2)) (by omega) (gnx _ _) (by first | rfl | assumption | (simp only [glit, nI_add, pk_mul]; done) | (simp only [glit, nI_add, pk_mul]; congr 1; omega) | (simp only [*, glit, nI_add, pk_mul]; congr 1; omega)) (by rw [gLenL_n2 _]; omega) ?_
                      rw [gNX]
                      refine g_lload C dX0_spread_126 rfl ?_
                      refine g_ladd C dX0_spread_128 ?_
                      refine g_lastN C dX0_spread_129 (k := (plc x + gstp c)) (q := (8 + gP _ / 2 % 2)) (by omega) (gnx _ _) (by first | rfl | assumption | (simp only [glit, nI_add, pk_mul]; done) | (simp only [glit, nI_add, pk_mul]; congr 1; omega) | (simp only [*, glit, nI_add, pk_mul]; congr 1; omega)) (by rw [gLenL_n2 _]; omega) ?_
                      refine g_goto C 144 dX0_spread_130 (by decide) ?_
                      refine g_iinc (v := nI (c + 1)) C dX0_spread_144 rfl (ginc _ 1) rfl ?_
                      refine g_lv [some _, some _, some _, some _, none, some _, some _, some _, some _, none] (gs_some (gs_some (gs_some (gs_some (gs_none (gs_some (gs_some (gs_some (gs_some (gs_none gs_nil)))))))))) ?_
                      refine g_goto C 44 dX0_spread_147 (by decide) ?_
                      refine g_lv [some _, some _, some _, some _, none, some _, some _, some _, none, none] (gs_some (gs_some (gs_some (gs_some (gs_none (gs_some (gs_some (gs_some (gs_none (gs_none gs_nil)))))))))) ?_
                      first | rw [uNX, gNX] | rw [uG_uG] | skip
                      exact ih_44 (c + 1) _ _ (by omega) (by first | exact nx_no hN hno.1 | exact nx_no hN (fun q => hl q.1) | exact fun y hy => by have q := nx_yes (wg := false) (f := bS (vS v) u) (t := tS (vS v) u) (al := al) (w := w) (k := k) hN ⟨hl, hal2⟩ hok.1 hk (show c < 4 by omega) y hy; rw [wK0] at q; exact q) (by first | exact en_no he hno.2 | exact en_no he (fun q => q.1.2 hl) | exact by have q := en_yes (wg := false) (f := bS (vS v) u) (t := tS (vS v) u) (al := al) (w := w) (k := k) he ⟨⟨hp, hl⟩, hal2⟩; rw [wK0] at q; exact q) (by omega)
                  · have hl := h_106
                    refine g_if_eq C 133 dX0_spread_109 (by decide) (fun c_109 => ?_) (fun c_109 => ?_)
                    · refine g_aload_n C dX0_spread_133 rfl ?_
                      refine g_dup C dX0_spread_134 rfl ?_
                      refine g_get C dX0_spread_135 iwX0 rfl (wO_A δ _) 7 (Nat.le_of_ble_eq_true rfl) mW117 rfl rfl ?_
                      rw [gG_uG, if_pos rfl]
                      refine g_lload C dX0_spread_138 rfl ?_
                      refine g_ladd C dX0_spread_140 ?_
                      refine g_put C tyX0 dX0_spread_141 iwX0 tyX0_ok nmX0 rfl (wO_A δ _) 7 (Nat.le_of_ble_eq_true rfl) mW117 rfl rfl rfl rfl rfl (Nat.le_of_ble_eq_true rfl) (pG_6 δ _ _) ?_
                      refine g_iinc (v := nI (c + 1)) C dX0_spread_144 rfl (ginc _ 1) rfl ?_
                      refine g_lv [some _, some _, some _, some _, none, some _, some _, some _, some _, none] (gs_some (gs_some (gs_some (gs_some (gs_none (gs_some (gs_some (gs_some (gs_some (gs_none gs_nil)))))))))) ?_
                      refine g_goto C 44 dX0_spread_147 (by decide) ?_
                      refine g_lv [some _, some _, some _, some _, none, some _, some _, some _, none, none] (gs_some (gs_some (gs_some (gs_some (gs_none (gs_some (gs_some (gs_some (gs_none (gs_none gs_nil)))))))))) ?_
                      first | rw [uNX, gNX] | rw [uG_uG] | skip
                      exact ih_44 (c + 1) _ _ (by omega) (by first | exact nx_no hN hno.1 | exact nx_no hN (fun q => hl q.1) | exact fun y hy => by have q := nx_yes (wg := false) (f := bS (vS v) u) (t := tS (vS v) u) (al := al) (w := w) (k := k) hN ⟨hl, hal2⟩ hok.1 hk (show c < 4 by omega) y hy; rw [wK0] at q; exact q) (by first | exact en_no he hno.2 | exact en_no he (fun q => q.1.2 hl) | exact by have q := en_yes (wg := false) (f := bS (vS v) u) (t := tS (vS v) u) (al := al) (w := w) (k := k) he ⟨⟨hp, hl⟩, hal2⟩; rw [wK0] at q; exact q) (by omega)
                    · exact absurd c_109 (by decide)
                · exact absurd c_80 (by decide)
              · have hno := xNa (f := bS (vS v) u) (t := tS (vS v) u) (x := x) (fun z => ((hal c (by omega)).mpr z).elim c_65 (fun w => c_72 w.symm))
                refine g_goto C 144 dX0_spread_75 (by decide) ?_
                refine g_iinc (v := nI (c + 1)) C dX0_spread_144 rfl (ginc _ 1) rfl ?_
                refine g_lv [some _, some _, some _, some _, none, some _, some _, some _, none, none] (gs_some (gs_some (gs_some (gs_some (gs_none (gs_some (gs_some (gs_some (gs_none (gs_none gs_nil)))))))))) ?_
                refine g_goto C 44 dX0_spread_147 (by decide) ?_
                refine g_lv [some _, some _, some _, some _, none, some _, some _, some _, none, none] (gs_some (gs_some (gs_some (gs_some (gs_none (gs_some (gs_some (gs_some (gs_none (gs_none gs_nil)))))))))) ?_
                first | rw [uNX, gNX] | rw [uG_uG] | skip
                exact ih_44 (c + 1) _ _ (by omega) (by first | exact nx_no hN hno.1 | exact nx_no hN (fun q => hl q.1) | exact fun y hy => by have q := nx_yes (wg := false) (f := bS (vS v) u) (t := tS (vS v) u) (al := al) (w := w) (k := k) hN ⟨hl, hal2⟩ hok.1 hk (show c < 4 by omega) y hy; rw [wK0] at q; exact q) (by first | exact en_no he hno.2 | exact en_no he (fun q => q.1.2 hl) | exact by have q := en_yes (wg := false) (f := bS (vS v) u) (t := tS (vS v) u) (al := al) (w := w) (k := k) he ⟨⟨hp, hl⟩, hal2⟩; rw [wK0] at q; exact q) (by omega)
    refine g_lv [some _, some _, some _, some _, none, some _, some _, some _, none, none] (gs_some (gs_some (gs_some (gs_some (gs_none (gs_some (gs_some (gs_some (gs_none (gs_none gs_nil)))))))))) ?_
    refine g_st (σ' := uG (uL σ (8 + gP σ / 2 % 2) (gL σ (8 + gP σ / 2 % 2))) 6 (gG σ 6)) (by rw [uL_id, uG_id]) ?_
    exact L_44 _ 0 _ _ (Nat.zero_le _) (fun y hy => (l_az _).symm) (l_az _).symm (Nat.lt_succ_self _)
  · refine g_aload_n C dX0_spread_30 rfl ?_
    refine g_dup C dX0_spread_31 rfl ?_
    refine g_get C dX0_spread_32 iwX0 rfl (wO_A δ _) 7 (Nat.le_of_ble_eq_true rfl) mW117 rfl rfl ?_
    refine g_lload_n C dX0_spread_35 rfl ?_
    refine g_ladd C dX0_spread_36 ?_
    refine g_put C tyX0 dX0_spread_37 iwX0 tyX0_ok nmX0 rfl (wO_A δ _) 7 (Nat.le_of_ble_eq_true rfl) mW117 rfl rfl rfl rfl rfl (Nat.le_of_ble_eq_true rfl) (pG_6 δ _ _) ?_
    exact g_vret C E dX0_spread_40 rfl ⟨rfl, ⟨gL σ (8 + gP σ / 2 % 2), _, by rw [uL_id], fun y hy => by rw [← qX_W (w := w) hW, qX_z hok c_27, l_az], by rw [eX_z c_27, hW]⟩⟩
