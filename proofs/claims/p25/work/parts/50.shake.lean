set_option maxRecDepth 100000 in
set_option maxHeartbeats 4000000 in
theorem c_X8_shake (l : Launch) (δ : GD) (σ : GS) (a0 a1 : Int32) {v : GV} (K : KC σ v) (R : RV v) : gM l δ yX8_shake cX8_shake 4 (some .int) 3 65 [.ref (δ.2.2.1 0), .int a0, .int a1] σ (gPi (fun x σ' => x = (fShake v a0 a1).1 ∧ KC σ' (fShake v a0 a1).2 ∧ FC σ σ')) := by
  refine g_of (lv0 := [some (.ref (δ.2.2.1 0)), some (.int a0), some (.int a1), none]) (by decide) rfl (Nat.le_of_ble_eq_true rfl) (fun Γ hl C E => ?_)
  subst hl
  have C : gC Γ δ cX8_shake RX8 4 3 65 := C
  have hm := K.1
  have h8 := R.1
  obtain ⟨kn, hkn, hx, -⟩ := id K.2.2.2.2
  have hl := K.2.2.2.1.2
  have h20 := K.2.2.2.1.1
  refine g_aload_n C dX8_shake_0 rfl ?_
  refine g_iload_n C dX8_shake_1 rfl ?_
  refine g_callVr C sV_X8_101 dX8_shake_2 (c_X8_urnAt _ δ _ _ hm h8) ⟨by decide, by decide⟩ (wO_X δ _) rfl rfl rfl rfl (Nat.le_of_ble_eq_true rfl) (fun r_2 s_2 h_2 => ?_)
  obtain ⟨rfl, h_2⟩ := h_2
  rcases h_2 with ⟨rfl, h_2⟩ | ⟨u_2, hu_2, e_2, rfl⟩
  · skip
    refine g_ifnull_n C 19 dX8_shake_5 (by decide) ?_
    refine g_iconst (v := (-1)) C dX8_shake_19 (by decide) ?_
    exact g_iret C E dX8_shake_20 rfl rfl ⟨_, rfl, vPostC (by first | exact gIf_f (fun z => h_2 z.1) | exact gIf_f (fun z => z.2.1 c_10) | exact gIf_f (fun z => c_16 z.2.2)) rfl K (FC_r _)⟩
  · have hu8 : u_2 < 8 := by omega
    obtain ⟨h2, h4⟩ := (R.2.1 u_2 hu8).1 hu_2
    have hn := K.2.1 u_2 hu8
    subst e_2
    refine g_ifnull_r C dX8_shake_5 ?_
    refine g_iload_n C dX8_shake_8 rfl ?_
    refine g_iconst (v := 1) C dX8_shake_9 (by decide) ?_
    refine g_icmp_lt C 19 dX8_shake_10 (by decide) (fun c_10 => ?_) (fun c_10 => ?_)
    · refine g_iconst (v := (-1)) C dX8_shake_19 (by decide) ?_
      exact g_iret C E dX8_shake_20 rfl rfl ⟨_, rfl, vPostC (by first | exact gIf_f (fun z => h_2 z.1) | exact gIf_f (fun z => z.2.1 c_10) | exact gIf_f (fun z => c_16 z.2.2)) rfl K (FC_r _)⟩
    · refine g_iload_n C dX8_shake_13 rfl ?_
      refine g_bipush (v := 50) C dX8_shake_14 (by decide) ?_
      refine g_icmp_le C 21 dX8_shake_16 (by decide) (fun c_16 => ?_) (fun c_16 => ?_)
      · obtain ⟨n1, hn1, hn2, rfl⟩ := g150 c_10 c_16
        refine g_iconst (v := 0) C dX8_shake_21 (by decide) ?_
        refine g_istore_n C dX8_shake_22 (Nat.le_of_ble_eq_true rfl) rfl ?_
        refine g_lv [some _, some _, some _, some _] (gs_some (gs_some (gs_some (gs_some gs_nil)))) ?_
        have L_23 : ∀ (nn : Nat) (d : Nat) (s1 : GS) (hd : d ≤ n1) (hK : KC s1 (wQ v u_2 d)) (hF : FC σ s1) (hV : VS (vC v) (pSq (vS v) u_2 d)) (hns : ∀ i, i < d → ¬ sStk (vS v) u_2 i), n1 - d < nn → gW Γ δ s1 23 [some (.ref (δ.2.2.1 0)), some (.int (nI u_2)), some (.int (nI n1)), some (.int (nI d))] [] := by
          intro nn
          induction nn with
          | zero =>
            intro d s1 hd hK hF hV hns hm_23
            exact absurd hm_23 (Nat.not_lt_zero _)
          | succ nn ih_23 =>
            intro d s1 hd hK hF hV hns hm_23
            refine g_iload_n C dX8_shake_23 rfl ?_
            refine g_iload_n C dX8_shake_24 rfl ?_
            refine g_icmp_ge C 54 dX8_shake_25 (by decide) (fun c_25 => ?_) (fun c_25 => ?_)
            · have k_25 := gle c_25 (a := n1) (b := d) (by first | rfl | assumption | (simp only [glit, nI_add, pk_mul]; done) | (simp only [glit, nI_add, pk_mul]; congr 1; omega) | (simp only [*, glit, nI_add, pk_mul]; congr 1; omega)) (by first | rfl | assumption | (simp only [glit, nI_add, pk_mul]; done) | (simp only [glit, nI_add, pk_mul]; congr 1; omega) | (simp only [*, glit, nI_add, pk_mul]; congr 1; omega)) (by omega) (by omega)
              refine g_iload_n C dX8_shake_54 rfl ?_
              exact g_iret C E dX8_shake_55 rfl rfl ⟨_, rfl, (by first | exact vPostC (fShake_o hu_2 hu8 hn1 hn2 hd hns (Or.inl (by omega))) rfl hK hF | exact vPostC (fShake_o hu_2 hu8 hn1 hn2 hd hns (Or.inr hS)) rfl (KC_sm z_30 hK) (FC_t hF F1))⟩
            · have k_25 := gnle c_25 (a := n1) (b := d) (by first | rfl | assumption | (simp only [glit, nI_add, pk_mul]; done) | (simp only [glit, nI_add, pk_mul]; congr 1; omega) | (simp only [*, glit, nI_add, pk_mul]; congr 1; omega)) (by first | rfl | assumption | (simp only [glit, nI_add, pk_mul]; done) | (simp only [glit, nI_add, pk_mul]; congr 1; omega) | (simp only [*, glit, nI_add, pk_mul]; congr 1; omega)) (by omega) (by omega)
              refine g_aload_n C dX8_shake_28 rfl ?_
              refine g_iload_n C dX8_shake_29 rfl ?_
              refine g_callVi C sV_X8_156 dX8_shake_30 (c_X8_findPath _ δ _ (u0 := u_2) hK (wQ_R R hV) (by rw [wQ_M]; exact hu_2)) ⟨by decide, by decide⟩ (wO_X δ _) rfl rfl rfl rfl (Nat.le_of_ble_eq_true rfl) (fun r_30 s_30 h_30 => ?_)
              obtain ⟨z_30, F1, h_30⟩ := h_30
              simp only [wQ_S] at h_30
              rcases h_30 with ⟨rfl, len, hL, ht⟩ | ⟨rfl, hS⟩
              · have K1 := KC_sm z_30 hK
                refine g_if_eq C 54 dX8_shake_33 (by decide) (fun c_33 => ?_) (fun c_33 => ?_)
                · exact absurd c_33 (by decide)
                · have J_44 : ∀ (s4 : GS) (K4 : KC s4 (vSet (vKeep v) (pSq (vS v) u_2 d))) (F4 : FC σ s4) (ht4 : pTab s4 (pSq (vS v) u_2 d) u_2 (nU (pSq (vS v) u_2 d 200)) len), gW Γ δ s4 44 [some (.ref (δ.2.2.1 0)), some (.int (nI u_2)), some (.int (nI n1)), some (.int (nI d))] [] := by
                    intro s4 K4 F4 ht4
                    refine g_aload_n C dX8_shake_44 rfl ?_
                    refine g_callVv C sV_X8_159 dX8_shake_45 (c_X8_goPath _ δ _ K4 hV (fun u hu => RV_n R hu) (u0 := u_2) (s0 := nU (pSq (vS v) u_2 d 200)) (len := len) hu8 hL.1 ht4) ⟨by decide, by decide⟩ (wO_X δ _) rfl rfl rfl rfl (Nat.le_of_ble_eq_true rfl) (fun s_45 h_45 => ?_)
                    obtain ⟨K5, F5, -⟩ := h_45
                    refine g_iinc (v := nI (d + 1)) C dX8_shake_48 rfl (ginc _ 1) rfl ?_
                    refine g_lv [some _, some _, some _, some _] (gs_some (gs_some (gs_some (gs_some gs_nil)))) ?_
                    refine g_goto C 23 dX8_shake_51 (by decide) ?_
                    refine g_lv [some _, some _, some _, some _] (gs_some (gs_some (gs_some (gs_some gs_nil)))) ?_
                    exact ih_23 (d + 1) _ (by omega) (by rw [← wQ_n hL]; exact K5) (FC_t F4 F5) (pSq_V hV hu8 hL) (pSq_N hL hns) (by omega)
                  refine g_iload_n C dX8_shake_36 rfl ?_
                  refine g_if_ne C 44 dX8_shake_37 (by decide) (fun c_37 => ?_) (fun c_37 => ?_)
                  · have ed : ¬ d = 0 := fun e => c_37 (by rw [e]; rfl)
                    rw [wQ_p ed] at K1
                    refine g_lv [some _, some _, some _, some _] (gs_some (gs_some (gs_some (gs_some gs_nil)))) ?_
                    exact J_44 _ K1 (FC_t hF F1) ht
                  · have ed : d = 0 := (nI_eq (b := 0) (by omega) (by decide)).mp c_37
                    rw [wQ_e ed] at K1
                    obtain ⟨kn1, hkn1, hx1, -⟩ := id K1.2.2.2.2
                    refine g_aload_n C dX8_shake_40 rfl ?_
                    refine g_callVv C sV_X8_116 dX8_shake_41 (c_X8_keepAct _ δ _ K1.2.2.2.1.2 hx1 K1.2.2.2.1.1 hkn1) ⟨by decide, by decide⟩ (wO_X δ _) rfl rfl rfl rfl (Nat.le_of_ble_eq_true rfl) (fun s_41 h_41 => ?_)
                    obtain ⟨K2, F2⟩ := KC_kept K1 hkn1 hx1 h_41
                    have ht2 := pTab_keep ht hkn1 h_41
                    refine g_lv [some _, some _, some _, some _] (gs_some (gs_some (gs_some (gs_some gs_nil)))) ?_
                    exact J_44 _ (by rw [← wQ_k ed]; exact K2) (FC_t hF (FC_t F1 F2)) ht2
              · skip
                refine g_if_eq C 54 dX8_shake_33 (by decide) (fun c_33 => ?_) (fun c_33 => ?_)
                · refine g_iload_n C dX8_shake_54 rfl ?_
                  exact g_iret C E dX8_shake_55 rfl rfl ⟨_, rfl, (by first | exact vPostC (fShake_o hu_2 hu8 hn1 hn2 hd hns (Or.inl (by omega))) rfl hK hF | exact vPostC (fShake_o hu_2 hu8 hn1 hn2 hd hns (Or.inr hS)) rfl (KC_sm z_30 hK) (FC_t hF F1))⟩
                · exact absurd c_33 (by decide)
        refine g_lv [some _, some _, some _, some _] (gs_some (gs_some (gs_some (gs_some gs_nil)))) ?_
        exact L_23 _ 0 _ (Nat.zero_le _) (by rw [wQ_0]; exact K) (FC_r _) R.2.2.1 (fun _ h => absurd h (Nat.not_lt_zero _)) (Nat.lt_succ_self _)
      · refine g_iconst (v := (-1)) C dX8_shake_19 (by decide) ?_
        exact g_iret C E dX8_shake_20 rfl rfl ⟨_, rfl, vPostC (by first | exact gIf_f (fun z => h_2 z.1) | exact gIf_f (fun z => z.2.1 c_10) | exact gIf_f (fun z => c_16 z.2.2)) rfl K (FC_r _)⟩
