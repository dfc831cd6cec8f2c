set_option maxRecDepth 100000 in
set_option maxHeartbeats 4000000 in
theorem c_X9_timesb (l : Launch) (δ : GD) (σ : GS) (a0 a1 a2 a3 : Int32) {v : GV} (K : KM σ v) (R : RV v) {F : GF} (hF : MF σ F) : gM l δ yX9_times cX9_times 9 (some .int) 3 91 [.ref (δ.2.2.1 1), .int a0, .int a1, .int a2, .int a3] σ (gPi (fun x σ' => x = aTimes v a0 a1 a2 a3 ∧ gSn σ σ' ∧ MF σ' (gFr (aTimes v a0 a1 a2 a3) (gTimes v a0 a1 a2 a3) F))) := by
  refine g_of (lv0 := [some (.ref (δ.2.2.1 1)), some (.int a0), some (.int a1), some (.int a2), some (.int a3), none, none, none, none]) (by decide) rfl (Nat.le_of_ble_eq_true rfl) (fun Γ hl C E => ?_)
  subst hl
  have C : gC Γ δ cX9_times RX9 9 3 91 := C
  have hm := K.1
  have h8 := R.1
  refine g_aload_n C dX9_times_0 rfl ?_
  refine g_iload_n C dX9_times_1 rfl ?_
  refine g_iload_n C dX9_times_2 rfl ?_
  refine g_callVi C sV_X9_200 dX9_times_3 (c_X9_isAsked _ δ _ _ _ hm h8) ⟨by decide, by decide⟩ (wO_M δ _) rfl rfl rfl rfl (Nat.le_of_ble_eq_true rfl) (fun r_3 s_3 h_3 => ?_)
  obtain ⟨rfl, h_3⟩ := h_3
  rcases h_3 with ⟨rfl, h_3⟩ | ⟨rfl, h_3⟩
  · obtain ⟨⟨u1, hu1, rfl⟩, k1, hk1, rfl⟩ := id h_3
    have hu8 : u1 < 8 := by omega
    obtain ⟨h2, h4⟩ := (R.2.1 u1 hu8).1 hu1
    have hn := K.2.1 u1 hu8
    refine g_if_eq C 31 dX9_times_6 (by decide) (fun c_6 => ?_) (fun c_6 => ?_)
    · exact absurd c_6 (by decide)
    · refine g_aload_n C dX9_times_9 rfl ?_
      refine g_iload_n C dX9_times_10 rfl ?_
      refine g_iload_n C dX9_times_11 rfl ?_
      refine g_callVi C sV_X9_92 dX9_times_12 (c_X9_isColour _ δ _ hu8 _ hn h4) ⟨by decide, by decide⟩ (wO_M δ _) rfl rfl rfl rfl (Nat.le_of_ble_eq_true rfl) (fun r_12 s_12 h_12 => ?_)
      obtain ⟨rfl, h_12⟩ := h_12
      rcases h_12 with ⟨rfl, h_12⟩ | ⟨rfl, h_12⟩
      · obtain ⟨c1, hc1, rfl⟩ := id h_12
        refine g_if_eq C 31 dX9_times_15 (by decide) (fun c_15 => ?_) (fun c_15 => ?_)
        · exact absurd c_15 (by decide)
        · refine g_iload C dX9_times_18 rfl ?_
          refine g_i2l C dX9_times_20 ?_
          refine g_lconst (v := 0) C dX9_times_21 (by decide) ?_
          refine g_ldc2 C dX9_times_22 mW792 ?_
          refine g_callSi C sS_X9_62 dX9_times_25 (c_X9_in _ δ _ _ _ _) ⟨by decide, by decide⟩ rfl rfl rfl (Nat.le_of_ble_eq_true rfl) (fun r_25 s_25 h_25 => ?_)
          obtain ⟨rfl, h_25⟩ := h_25
          rw [gInL_ix (m := 13) (by omega) (by decide)] at h_25
          rcases h_25 with ⟨rfl, h_25⟩ | ⟨rfl, h_25⟩
          · obtain ⟨k2, hk2, rfl⟩ := id h_25
            refine g_if_ne C 33 dX9_times_28 (by decide) (fun c_28 => ?_) (fun c_28 => ?_)
            · refine g_aload_n C dX9_times_33 rfl ?_
              refine g_iload_n C dX9_times_34 rfl ?_
              refine g_iload_n C dX9_times_35 rfl ?_
              refine g_callVi C sV_X9_203 dX9_times_36 (c_X9_evenFaultb _ δ _ hu8 (k := k1) (by omega) K R) ⟨by decide, by decide⟩ (wO_M δ _) rfl rfl rfl rfl (Nat.le_of_ble_eq_true rfl) (fun r_36 s_36 h_36 => ?_)
              obtain ⟨e_36, ⟨y_36, rfl⟩, g_36, n_36⟩ := h_36
              refine g_istore C dX9_times_39 (Nat.le_of_ble_eq_true rfl) rfl ?_
              refine g_lv [some _, some _, some _, some _, some _, some _, none, none, none] (gs_some (gs_some (gs_some (gs_some (gs_some (gs_some (gs_none (gs_none (gs_none gs_nil))))))))) ?_
              refine g_iload C dX9_times_41 rfl ?_
              refine g_if_ge C 49 dX9_times_43 (by decide) (fun c_43 => ?_) (fun c_43 => ?_)
              · obtain ⟨⟨hev, hs0⟩, hl, e15⟩ := g_36 (Int32.not_lt.mpr c_43)
                have d1 : 1 ≤ qD v u1 k1 := dD_1 _ _ _
                have hl2 : qD v u1 k1 ≤ 10000000000000000 := hl
                refine g_aload_n C dX9_times_49 rfl ?_
                refine g_iload_n C dX9_times_50 rfl ?_
                refine g_iload_n C dX9_times_51 rfl ?_
                refine g_iconst (v := 0) C dX9_times_52 (by decide) ?_
                refine g_iconst (v := 0) C dX9_times_53 (by decide) ?_
                refine g_iconst (v := 0) C dX9_times_54 (by decide) ?_
                refine g_iconst (v := 0) C dX9_times_55 (by decide) ?_
                refine g_callVv C sV_X9_206 dX9_times_56 (c_X9_goesb _ δ _ hu8 (k := k1) (by omega) _ _ _ _ (al := alA) (by decide) (by decide) (hM_A (by omega)) (KM_sn (a := σ) (gSn_G (by omega) (gSn_r _)) K) R hev hl e15) ⟨by decide, by decide⟩ (wO_M δ _) rfl rfl rfl rfl (Nat.le_of_ble_eq_true rfl) (fun s_56 h_56 => ?_)
                obtain ⟨q_56, w_56, t_56⟩ := h_56
                refine g_lconst (v := 0) C dX9_times_59 (by decide) ?_
                refine g_lstore C dX9_times_60 (Nat.le_of_ble_eq_true rfl) rfl ?_
                refine g_lv [some _, some _, some _, some _, some _, some _, some _, none, none] (gs_some (gs_some (gs_some (gs_some (gs_some (gs_some (gs_some (gs_none (gs_none gs_nil))))))))) ?_
                refine g_iconst (v := 0) C dX9_times_62 (by decide) ?_
                refine g_istore C dX9_times_63 (Nat.le_of_ble_eq_true rfl) rfl ?_
                refine g_lv [some _, some _, some _, some _, some _, some _, some _, none, some _] (gs_some (gs_some (gs_some (gs_some (gs_some (gs_some (gs_some (gs_none (gs_some gs_nil))))))))) ?_
                have L_65 : ∀ (nn : Nat) (q : Nat) (x : Int64) (s1 : GS) (hq : q ≤ 2197) (hs : gSq (uG σ 15 y_36) s1) (hw : ∀ y, y < 2197 → gL s1 14 (2197 * (k1 % 2) + y) = lN ((wW true (bS (vS v) u1) (tS (vS v) u1) alA k1) y)) (hx : x = lN (sPr (tX (wW true (bS (vS v) u1) (tS (vS v) u1) alA k1) k1 c1 k2) (Lq q))), 2197 - q < nn → gW Γ δ s1 65 [some (.ref (δ.2.2.1 1)), some (.int (nI u1)), some (.int (nI k1)), some (.int (nI c1)), some (.int (nI k2)), some (.int r_36), some (.long x), none, some (.int (nI q))] [] := by
                  intro nn
                  induction nn with
                  | zero =>
                    intro q x s1 hq hs hw hx hm_65
                    exact absurd hm_65 (Nat.not_lt_zero _)
                  | succ nn ih_65 =>
                    intro q x s1 hq hs hw hx hm_65
                    have hbd := wA_hb R hu8 hev (k := k1) (by omega) hl alA k1 (Nat.le_refl _)
                    refine g_iload C dX9_times_65 rfl ?_
                    refine g_sipush (v := 2197) C dX9_times_67 (by decide) ?_
                    refine g_icmp_ge C 134 dX9_times_70 (by decide) (fun c_70 => ?_) (fun c_70 => ?_)
                    · have k_70 := gle c_70 (a := 2197) (b := q) (by first | rfl | assumption | (simp only [glit, nI_add, pk_mul]; done) | (simp only [glit, nI_add, pk_mul]; congr 1; omega) | (simp only [*, glit, nI_add, pk_mul]; congr 1; omega)) (by first | rfl | assumption | (simp only [glit, nI_add, pk_mul]; done) | (simp only [glit, nI_add, pk_mul]; congr 1; omega) | (simp only [*, glit, nI_add, pk_mul]; congr 1; omega)) (by omega) (by omega)
                      have eq : q = 2197 := by omega
                      subst eq
                      rw [Lq_e] at hx
                      subst hx
                      refine g_aload_n C dX9_times_134 rfl ?_
                      refine g_lload C dX9_times_135 rfl ?_
                      refine g_aload_n C dX9_times_137 rfl ?_
                      refine g_get C dX9_times_138 iwX9 rfl (wO_M δ _) 20 (Nat.le_of_ble_eq_true rfl) mW592 rfl rfl ?_
                      rw [show gG s1 15 = lN (qD v u1 k1) from (hs.2.2.2.1 15 (by decide)).trans e15]
                      refine g_callVi C sV_X9_174 dX9_times_141 (c_X9_tellsb _ δ _ (a := (qTm v u1 k1 c1 k2)) (b := (qD v u1 k1)) d1 (by omega) (by have := qTm_le R hu8 hev (c := c1) (q := k2) (k := k1) (by omega); unfold qD at *; omega)) ⟨by decide, by decide⟩ (wO_M δ _) rfl rfl rfl rfl (Nat.le_of_ble_eq_true rfl) (fun r_141 s_141 h_141 => ?_)
                      obtain ⟨rfl, zt, mt, -⟩ := h_141
                      exact g_iret C E dX9_times_144 rfl rfl ⟨_, rfl, TG_y ((aTimes_at hu1 hu8 hk1 hc1 h_25).trans (aEv_z (by rw [← e_36]; exact c_43))).symm rfl (gSn_t (gSn_t (gSn_G (by omega) (gSn_r _)) hs.n) zt) (by rw [gTimes_at hu8 hk1 (by omega) hk2]; exact mt)⟩
                    · have k_70 := gnle c_70 (a := 2197) (b := q) (by first | rfl | assumption | (simp only [glit, nI_add, pk_mul]; done) | (simp only [glit, nI_add, pk_mul]; congr 1; omega) | (simp only [*, glit, nI_add, pk_mul]; congr 1; omega)) (by first | rfl | assumption | (simp only [glit, nI_add, pk_mul]; done) | (simp only [glit, nI_add, pk_mul]; congr 1; omega) | (simp only [*, glit, nI_add, pk_mul]; congr 1; omega)) (by omega) (by omega)
                      refine g_aload_n C dX9_times_73 rfl ?_
                      refine g_get C dX9_times_74 iwX9 rfl (wO_M δ _) 19 (Nat.le_of_ble_eq_true rfl) mW591 rfl rfl ?_
                      refine g_iload_n C dX9_times_77 rfl ?_
                      refine g_iload C dX9_times_78 rfl ?_
                      refine g_callSi C sS_X9_186 dX9_times_80 (c_X9_at _ δ _ (r := k1) (p := q) (by omega)) ⟨by decide, by decide⟩ rfl rfl rfl (Nat.le_of_ble_eq_true rfl) (fun r_80 s_80 h_80 => ?_)
                      obtain ⟨rfl, rfl⟩ := h_80
                      refine g_laldN C dX9_times_83 (k := (2197 * ((k1) % 2) + (q))) (q := 14) (by decide) rfl (by first | rfl | assumption | (simp only [glit, nI_add, pk_mul]; done) | (simp only [glit, nI_add, pk_mul]; congr 1; omega) | (simp only [*, glit, nI_add, pk_mul]; congr 1; omega)) (show (2197 * ((k1) % 2) + (q)) < gLenL 14 from Nat.lt_of_lt_of_eq (show (2197 * ((k1) % 2) + (q)) < 4394 by omega) rfl) ?_
                      rw [hw q (by omega)]
                      refine g_lconst (v := 0) C dX9_times_84 (by decide) ?_
                      refine g_lcmp C dX9_times_85 ?_
                      refine g_if_le C 128 dX9_times_86 (by decide) (fun c_86 => ?_) (fun c_86 => ?_)
                      · rw [lg_cmp_le] at c_86
                        have hz : (wW true (bS (vS v) u1) (tS (vS v) u1) alA k1) q = 0 := (lN_le0 (hbd q)).mp c_86
                        have hs3 := hs
                        have hw3 := hw
                        have hx3 : x = lN (sPr (tX (wW true (bS (vS v) u1) (tS (vS v) u1) alA k1) k1 c1 k2) (Lq (q + 1))) := by rw [Lq_z (by omega) (tX_0 hz)]; exact hx
                        refine g_iinc (v := nI (q + 1)) C dX9_times_128 rfl (ginc _ 1) rfl ?_
                        refine g_lv [some _, some _, some _, some _, some _, some _, some _, none, some _] (gs_some (gs_some (gs_some (gs_some (gs_some (gs_some (gs_some (gs_none (gs_some gs_nil))))))))) ?_
                        refine g_goto C 65 dX9_times_131 (by decide) ?_
                        refine g_lv [some _, some _, some _, some _, some _, some _, some _, none, some _] (gs_some (gs_some (gs_some (gs_some (gs_some (gs_some (gs_some (gs_none (gs_some gs_nil))))))))) ?_
                        exact ih_65 (q + 1) _ _ (by omega) hs3 hw3 hx3 (by omega)
                      · rw [lg_cmp_le] at c_86
                        have hnz : ¬ (wW true (bS (vS v) u1) (tS (vS v) u1) alA k1) q = 0 := lN_pos (hbd q) c_86
                        have hok := wA_ok R hu8 (wg := true) (al := alA) (show k1 ≤ 12 by omega) q hnz
                        refine g_aload_n C dX9_times_89 rfl ?_
                        refine g_iload_n C dX9_times_90 rfl ?_
                        refine g_iload C dX9_times_91 rfl ?_
                        refine g_iload_n C dX9_times_93 rfl ?_
                        refine g_callVv C sV_X9_189 dX9_times_94 (c_X9_looksAtb _ δ _ hu8 (p := q) (k := k1) (by omega) hok.1 (by omega) (KM_sq hs (KM_sn (a := σ) (gSn_G (by omega) (gSn_r _)) K)) R) ⟨by decide, by decide⟩ (wO_M δ _) rfl rfl rfl rfl (Nat.le_of_ble_eq_true rfl) (fun s_94 h_94 => ?_)
                        obtain ⟨o4, g4, rfl, ho4, hg4⟩ := h_94
                        have hs3 : gSq (uG σ 15 y_36) (uI (uI s1 58 o4) 59 g4) := gSq_I (by omega) (gSq_I (by omega) hs)
                        have hw3 : ∀ y, y < 2197 → gL (uI (uI s1 58 o4) 59 g4) 14 (2197 * (k1 % 2) + y) = lN ((wW true (bS (vS v) u1) (tS (vS v) u1) alA k1) y) := hw
                        refine g_lload C dX9_times_97 rfl ?_
                        refine g_aload_n C dX9_times_99 rfl ?_
                        refine g_get C dX9_times_100 iwX9 rfl (wO_M δ _) 22 (Nat.le_of_ble_eq_true rfl) mW594 rfl rfl ?_
                        refine g_iload_n C dX9_times_103 rfl ?_
                        refine g_ialdN C dX9_times_104 (k := c1) (q := 58) (by decide) rfl (by first | rfl | assumption | (simp only [glit, nI_add, pk_mul]; done) | (simp only [glit, nI_add, pk_mul]; congr 1; omega) | (simp only [*, glit, nI_add, pk_mul]; congr 1; omega)) (show c1 < gLenI 58 from Nat.lt_of_lt_of_eq (show c1 < 4 by omega) rfl) ?_
                        rw [gI_uI, if_neg (by decide), gI_uI, if_pos rfl, ho4 c1 (by omega)]
                        refine g_iload C dX9_times_105 rfl ?_
                        refine g_icmp_ne C 124 dX9_times_107 (by decide) (fun c_107 => ?_) (fun c_107 => ?_)
                        · have hx3 : x + 0 = lN (sPr (tX (wW true (bS (vS v) u1) (tS (vS v) u1) alA k1) k1 c1 k2) (Lq (q + 1))) := by rw [Int64.add_zero, Lq_z (φ := (tX (wW true (bS (vS v) u1) (tS (vS v) u1) alA k1) k1 c1 k2)) (q := q) (by omega) (show (tX (wW true (bS (vS v) u1) (tS (vS v) u1) alA k1) k1 c1 k2) q = 0 from if_neg (fun z => c_107 (by rw [z])))]; exact hx
                          refine g_lconst (v := 0) C dX9_times_124 (by decide) ?_
                          refine g_ladd C dX9_times_125 ?_
                          refine g_lstore C dX9_times_126 (Nat.le_of_ble_eq_true rfl) rfl ?_
                          refine g_lv [some _, some _, some _, some _, some _, some _, some _, none, some _] (gs_some (gs_some (gs_some (gs_some (gs_some (gs_some (gs_some (gs_none (gs_some gs_nil))))))))) ?_
                          refine g_iinc (v := nI (q + 1)) C dX9_times_128 rfl (ginc _ 1) rfl ?_
                          refine g_lv [some _, some _, some _, some _, some _, some _, some _, none, some _] (gs_some (gs_some (gs_some (gs_some (gs_some (gs_some (gs_some (gs_none (gs_some gs_nil))))))))) ?_
                          refine g_goto C 65 dX9_times_131 (by decide) ?_
                          refine g_lv [some _, some _, some _, some _, some _, some _, some _, none, some _] (gs_some (gs_some (gs_some (gs_some (gs_some (gs_some (gs_some (gs_none (gs_some gs_nil))))))))) ?_
                          exact ih_65 (q + 1) _ _ (by omega) hs3 hw3 hx3 (by omega)
                        · have hx3 : x + lN ((wW true (bS (vS v) u1) (tS (vS v) u1) alA k1) q) = lN (sPr (tX (wW true (bS (vS v) u1) (tS (vS v) u1) alA k1) k1 c1 k2) (Lq (q + 1))) := by rw [hx, lN_add, Lq_s (by omega), show (tX (wW true (bS (vS v) u1) (tS (vS v) u1) alA k1) k1 c1 k2) q = (wW true (bS (vS v) u1) (tS (vS v) u1) alA k1) q from if_pos ((nI_eq (by have := d3_le (k := k1) (c := c1) (by omega) hok.1; omega) (by omega)).mp c_107)]
                          refine g_aload_n C dX9_times_110 rfl ?_
                          refine g_get C dX9_times_111 iwX9 rfl (wO_M δ _) 19 (Nat.le_of_ble_eq_true rfl) mW591 rfl rfl ?_
                          refine g_iload_n C dX9_times_114 rfl ?_
                          refine g_iload C dX9_times_115 rfl ?_
                          refine g_callSi C sS_X9_186 dX9_times_117 (c_X9_at _ δ _ (r := k1) (p := q) (by omega)) ⟨by decide, by decide⟩ rfl rfl rfl (Nat.le_of_ble_eq_true rfl) (fun r_117 s_117 h_117 => ?_)
                          obtain ⟨rfl, rfl⟩ := h_117
                          refine g_laldN C dX9_times_120 (k := (2197 * ((k1) % 2) + (q))) (q := 14) (by decide) rfl (by first | rfl | assumption | (simp only [glit, nI_add, pk_mul]; done) | (simp only [glit, nI_add, pk_mul]; congr 1; omega) | (simp only [*, glit, nI_add, pk_mul]; congr 1; omega)) (show (2197 * ((k1) % 2) + (q)) < gLenL 14 from Nat.lt_of_lt_of_eq (show (2197 * ((k1) % 2) + (q)) < 4394 by omega) rfl) ?_
                          rw [hw3 q (by omega)]
                          refine g_goto C 125 dX9_times_121 (by decide) ?_
                          refine g_ladd C dX9_times_125 ?_
                          refine g_lstore C dX9_times_126 (Nat.le_of_ble_eq_true rfl) rfl ?_
                          refine g_lv [some _, some _, some _, some _, some _, some _, some _, none, some _] (gs_some (gs_some (gs_some (gs_some (gs_some (gs_some (gs_some (gs_none (gs_some gs_nil))))))))) ?_
                          refine g_iinc (v := nI (q + 1)) C dX9_times_128 rfl (ginc _ 1) rfl ?_
                          refine g_lv [some _, some _, some _, some _, some _, some _, some _, none, some _] (gs_some (gs_some (gs_some (gs_some (gs_some (gs_some (gs_some (gs_none (gs_some gs_nil))))))))) ?_
                          refine g_goto C 65 dX9_times_131 (by decide) ?_
                          refine g_lv [some _, some _, some _, some _, some _, some _, some _, none, some _] (gs_some (gs_some (gs_some (gs_some (gs_some (gs_some (gs_some (gs_none (gs_some gs_nil))))))))) ?_
                          exact ih_65 (q + 1) _ _ (by omega) hs3 hw3 hx3 (by omega)
                refine g_lv [some _, some _, some _, some _, some _, some _, some _, none, some _] (gs_some (gs_some (gs_some (gs_some (gs_some (gs_some (gs_some (gs_none (gs_some gs_nil))))))))) ?_
                exact L_65 _ 0 _ _ (by omega) q_56 w_56 (by rw [Lq_0]; rfl) (Nat.lt_succ_self _)
              · refine g_iload C dX9_times_46 rfl ?_
                exact g_iret C E dX9_times_48 rfl rfl ⟨_, rfl, TG_n (e_36.trans (aTimes_at hu1 hu8 hk1 hc1 h_25).symm) (fun z => c_43 (by rw [z]; exact Int32.le_refl _)) (gSn_G (by omega) (gSn_r _)) (MF_15 hF)⟩
            · exact absurd c_28 (by decide)
          · skip
            refine g_if_ne C 33 dX9_times_28 (by decide) (fun c_28 => ?_) (fun c_28 => ?_)
            · exact absurd c_28 (by decide)
            · refine g_iconst (v := (-1)) C dX9_times_31 (by decide) ?_
              exact g_iret C E dX9_times_32 rfl rfl ⟨_, rfl, TG_n (by first | exact (gIf_f (fun z => h_3 z.1)).symm | exact (gIf_f (fun z => h_12 ((okC_n hu8).mp z.2.1))).symm | exact (gIf_f (fun z => h_25 z.2.2)).symm) (by decide) (gSn_r _) hF⟩
      · skip
        refine g_if_eq C 31 dX9_times_15 (by decide) (fun c_15 => ?_) (fun c_15 => ?_)
        · refine g_iconst (v := (-1)) C dX9_times_31 (by decide) ?_
          exact g_iret C E dX9_times_32 rfl rfl ⟨_, rfl, TG_n (by first | exact (gIf_f (fun z => h_3 z.1)).symm | exact (gIf_f (fun z => h_12 ((okC_n hu8).mp z.2.1))).symm | exact (gIf_f (fun z => h_25 z.2.2)).symm) (by decide) (gSn_r _) hF⟩
        · exact absurd c_15 (by decide)
  · skip
    refine g_if_eq C 31 dX9_times_6 (by decide) (fun c_6 => ?_) (fun c_6 => ?_)
    · refine g_iconst (v := (-1)) C dX9_times_31 (by decide) ?_
      exact g_iret C E dX9_times_32 rfl rfl ⟨_, rfl, TG_n (by first | exact (gIf_f (fun z => h_3 z.1)).symm | exact (gIf_f (fun z => h_12 ((okC_n hu8).mp z.2.1))).symm | exact (gIf_f (fun z => h_25 z.2.2)).symm) (by decide) (gSn_r _) hF⟩
    · exact absurd c_6 (by decide)
set_option maxRecDepth 100000 in
set_option maxHeartbeats 4000000 in
theorem c_X9_leftb (l : Launch) (δ : GD) (σ : GS) (a0 a1 a2 a3 : Int32) {v : GV} (K : KM σ v) (R : RV v) {F : GF} (hF : MF σ F) : gM l δ yX9_left cX9_left 9 (some .int) 3 91 [.ref (δ.2.2.1 1), .int a0, .int a1, .int a2, .int a3] σ (gPi (fun x σ' => x = aLeft v a0 a1 a2 a3 ∧ gSn σ σ' ∧ MF σ' (gFr (aLeft v a0 a1 a2 a3) (gLeft v a0 a1 a2 a3) F))) := by
  refine g_of (lv0 := [some (.ref (δ.2.2.1 1)), some (.int a0), some (.int a1), some (.int a2), some (.int a3), none, none, none, none]) (by decide) rfl (Nat.le_of_ble_eq_true rfl) (fun Γ hl C E => ?_)
  subst hl
  have C : gC Γ δ cX9_left RX9 9 3 91 := C
  have hm := K.1
  have h8 := R.1
  refine g_aload_n C dX9_left_0 rfl ?_
  refine g_iload_n C dX9_left_1 rfl ?_
  refine g_iload_n C dX9_left_2 rfl ?_
  refine g_callVi C sV_X9_200 dX9_left_3 (c_X9_isAsked _ δ _ _ _ hm h8) ⟨by decide, by decide⟩ (wO_M δ _) rfl rfl rfl rfl (Nat.le_of_ble_eq_true rfl) (fun r_3 s_3 h_3 => ?_)
  obtain ⟨rfl, h_3⟩ := h_3
  rcases h_3 with ⟨rfl, h_3⟩ | ⟨rfl, h_3⟩
  · obtain ⟨⟨u1, hu1, rfl⟩, k1, hk1, rfl⟩ := id h_3
    have hu8 : u1 < 8 := by omega
    obtain ⟨h2, h4⟩ := (R.2.1 u1 hu8).1 hu1
    have hn := K.2.1 u1 hu8
    refine g_if_eq C 31 dX9_left_6 (by decide) (fun c_6 => ?_) (fun c_6 => ?_)
    · exact absurd c_6 (by decide)
    · refine g_aload_n C dX9_left_9 rfl ?_
      refine g_iload_n C dX9_left_10 rfl ?_
      refine g_iload_n C dX9_left_11 rfl ?_
      refine g_callVi C sV_X9_92 dX9_left_12 (c_X9_isColour _ δ _ hu8 _ hn h4) ⟨by decide, by decide⟩ (wO_M δ _) rfl rfl rfl rfl (Nat.le_of_ble_eq_true rfl) (fun r_12 s_12 h_12 => ?_)
      obtain ⟨rfl, h_12⟩ := h_12
      rcases h_12 with ⟨rfl, h_12⟩ | ⟨rfl, h_12⟩
      · obtain ⟨c1, hc1, rfl⟩ := id h_12
        refine g_if_eq C 31 dX9_left_15 (by decide) (fun c_15 => ?_) (fun c_15 => ?_)
        · exact absurd c_15 (by decide)
        · refine g_iload C dX9_left_18 rfl ?_
          refine g_i2l C dX9_left_20 ?_
          refine g_lconst (v := 0) C dX9_left_21 (by decide) ?_
          refine g_ldc2 C dX9_left_22 mW840 ?_
          refine g_callSi C sS_X9_62 dX9_left_25 (c_X9_in _ δ _ _ _ _) ⟨by decide, by decide⟩ rfl rfl rfl (Nat.le_of_ble_eq_true rfl) (fun r_25 s_25 h_25 => ?_)
          obtain ⟨rfl, h_25⟩ := h_25
          rw [gin400] at h_25
          rcases h_25 with ⟨rfl, h_25⟩ | ⟨rfl, h_25⟩
          · have ht := tn_e h_25
            refine g_if_ne C 33 dX9_left_28 (by decide) (fun c_28 => ?_) (fun c_28 => ?_)
            · refine g_aload_n C dX9_left_33 rfl ?_
              refine g_iload_n C dX9_left_34 rfl ?_
              refine g_iload_n C dX9_left_35 rfl ?_
              refine g_callVi C sV_X9_203 dX9_left_36 (c_X9_evenFaultb _ δ _ hu8 (k := k1) (by omega) K R) ⟨by decide, by decide⟩ (wO_M δ _) rfl rfl rfl rfl (Nat.le_of_ble_eq_true rfl) (fun r_36 s_36 h_36 => ?_)
              obtain ⟨e_36, ⟨y_36, rfl⟩, g_36, n_36⟩ := h_36
              refine g_istore C dX9_left_39 (Nat.le_of_ble_eq_true rfl) rfl ?_
              refine g_lv [some _, some _, some _, some _, some _, some _, none, none, none] (gs_some (gs_some (gs_some (gs_some (gs_some (gs_some (gs_none (gs_none (gs_none gs_nil))))))))) ?_
              refine g_iload C dX9_left_41 rfl ?_
              refine g_if_ge C 49 dX9_left_43 (by decide) (fun c_43 => ?_) (fun c_43 => ?_)
              · obtain ⟨⟨hev, hs0⟩, hl, e15⟩ := g_36 (Int32.not_lt.mpr c_43)
                have d1 : 1 ≤ qD v u1 k1 := dD_1 _ _ _
                have hl2 : qD v u1 k1 ≤ 10000000000000000 := hl
                refine g_aload_n C dX9_left_49 rfl ?_
                refine g_iload_n C dX9_left_50 rfl ?_
                refine g_iload_n C dX9_left_51 rfl ?_
                refine g_iconst (v := 0) C dX9_left_52 (by decide) ?_
                refine g_iconst (v := 0) C dX9_left_53 (by decide) ?_
                refine g_iconst (v := 0) C dX9_left_54 (by decide) ?_
                refine g_iconst (v := 0) C dX9_left_55 (by decide) ?_
                refine g_callVv C sV_X9_206 dX9_left_56 (c_X9_goesb _ δ _ hu8 (k := k1) (by omega) _ _ _ _ (al := alA) (by decide) (by decide) (hM_A (by omega)) (KM_sn (a := σ) (gSn_G (by omega) (gSn_r _)) K) R hev hl e15) ⟨by decide, by decide⟩ (wO_M δ _) rfl rfl rfl rfl (Nat.le_of_ble_eq_true rfl) (fun s_56 h_56 => ?_)
                obtain ⟨q_56, w_56, t_56⟩ := h_56
                refine g_lconst (v := 0) C dX9_left_59 (by decide) ?_
                refine g_lstore C dX9_left_60 (Nat.le_of_ble_eq_true rfl) rfl ?_
                refine g_lv [some _, some _, some _, some _, some _, some _, some _, none, none] (gs_some (gs_some (gs_some (gs_some (gs_some (gs_some (gs_some (gs_none (gs_none gs_nil))))))))) ?_
                refine g_iconst (v := 0) C dX9_left_62 (by decide) ?_
                refine g_istore C dX9_left_63 (Nat.le_of_ble_eq_true rfl) rfl ?_
                refine g_lv [some _, some _, some _, some _, some _, some _, some _, none, some _] (gs_some (gs_some (gs_some (gs_some (gs_some (gs_some (gs_some (gs_none (gs_some gs_nil))))))))) ?_
                have L_65 : ∀ (nn : Nat) (q : Nat) (x : Int64) (s1 : GS) (hq : q ≤ 2197) (hs : gSq (uG σ 15 y_36) s1) (hw : ∀ y, y < 2197 → gL s1 14 (2197 * (k1 % 2) + y) = lN ((wW true (bS (vS v) u1) (tS (vS v) u1) alA k1) y)) (hx : x = lN (sPr (bX (bS (vS v) u1) (tS (vS v) u1) (wW true (bS (vS v) u1) (tS (vS v) u1) alA k1) k1 c1 (tn a3)) (Lq q))), 2197 - q < nn → gW Γ δ s1 65 [some (.ref (δ.2.2.1 1)), some (.int (nI u1)), some (.int (nI k1)), some (.int (nI c1)), some (.int a3), some (.int r_36), some (.long x), none, some (.int (nI q))] [] := by
                  intro nn
                  induction nn with
                  | zero =>
                    intro q x s1 hq hs hw hx hm_65
                    exact absurd hm_65 (Nat.not_lt_zero _)
                  | succ nn ih_65 =>
                    intro q x s1 hq hs hw hx hm_65
                    have hbd := wA_hb R hu8 hev (k := k1) (by omega) hl alA k1 (Nat.le_refl _)
                    refine g_iload C dX9_left_65 rfl ?_
                    refine g_sipush (v := 2197) C dX9_left_67 (by decide) ?_
                    refine g_icmp_ge C 134 dX9_left_70 (by decide) (fun c_70 => ?_) (fun c_70 => ?_)
                    · have k_70 := gle c_70 (a := 2197) (b := q) (by first | rfl | assumption | (simp only [glit, nI_add, pk_mul]; done) | (simp only [glit, nI_add, pk_mul]; congr 1; omega) | (simp only [*, glit, nI_add, pk_mul]; congr 1; omega)) (by first | rfl | assumption | (simp only [glit, nI_add, pk_mul]; done) | (simp only [glit, nI_add, pk_mul]; congr 1; omega) | (simp only [*, glit, nI_add, pk_mul]; congr 1; omega)) (by omega) (by omega)
                      have eq : q = 2197 := by omega
                      subst eq
                      rw [Lq_e] at hx
                      subst hx
                      refine g_aload_n C dX9_left_134 rfl ?_
                      refine g_lload C dX9_left_135 rfl ?_
                      refine g_aload_n C dX9_left_137 rfl ?_
                      refine g_get C dX9_left_138 iwX9 rfl (wO_M δ _) 20 (Nat.le_of_ble_eq_true rfl) mW592 rfl rfl ?_
                      rw [show gG s1 15 = lN (qD v u1 k1) from (hs.2.2.2.1 15 (by decide)).trans e15]
                      refine g_callVi C sV_X9_174 dX9_left_141 (c_X9_tellsb _ δ _ (a := (qLf v u1 k1 c1 (tn a3))) (b := (qD v u1 k1)) d1 (by omega) (by have := qLf_le R hu8 hev (c := c1) (z := tn a3) (k := k1) (by omega); unfold qD at *; omega)) ⟨by decide, by decide⟩ (wO_M δ _) rfl rfl rfl rfl (Nat.le_of_ble_eq_true rfl) (fun r_141 s_141 h_141 => ?_)
                      obtain ⟨rfl, zt, mt, -⟩ := h_141
                      exact g_iret C E dX9_left_144 rfl rfl ⟨_, rfl, TG_y ((aLeft_at hu1 hu8 hk1 hc1 h_25).trans (aEv_z (by rw [← e_36]; exact c_43))).symm rfl (gSn_t (gSn_t (gSn_G (by omega) (gSn_r _)) hs.n) zt) (by rw [gLeft_at hu8 hk1 (by omega), gLeft_q R hu8 (by omega) (by omega) ht.2]; exact mt)⟩
                    · have k_70 := gnle c_70 (a := 2197) (b := q) (by first | rfl | assumption | (simp only [glit, nI_add, pk_mul]; done) | (simp only [glit, nI_add, pk_mul]; congr 1; omega) | (simp only [*, glit, nI_add, pk_mul]; congr 1; omega)) (by first | rfl | assumption | (simp only [glit, nI_add, pk_mul]; done) | (simp only [glit, nI_add, pk_mul]; congr 1; omega) | (simp only [*, glit, nI_add, pk_mul]; congr 1; omega)) (by omega) (by omega)
                      refine g_aload_n C dX9_left_73 rfl ?_
                      refine g_get C dX9_left_74 iwX9 rfl (wO_M δ _) 19 (Nat.le_of_ble_eq_true rfl) mW591 rfl rfl ?_
                      refine g_iload_n C dX9_left_77 rfl ?_
                      refine g_iload C dX9_left_78 rfl ?_
                      refine g_callSi C sS_X9_186 dX9_left_80 (c_X9_at _ δ _ (r := k1) (p := q) (by omega)) ⟨by decide, by decide⟩ rfl rfl rfl (Nat.le_of_ble_eq_true rfl) (fun r_80 s_80 h_80 => ?_)
                      obtain ⟨rfl, rfl⟩ := h_80
                      refine g_laldN C dX9_left_83 (k := (2197 * ((k1) % 2) + (q))) (q := 14) (by decide) rfl (by first | rfl | assumption | (simp only [glit, nI_add, pk_mul]; done) | (simp only [glit, nI_add, pk_mul]; congr 1; omega) | (simp only [*, glit, nI_add, pk_mul]; congr 1; omega)) (show (2197 * ((k1) % 2) + (q)) < gLenL 14 from Nat.lt_of_lt_of_eq (show (2197 * ((k1) % 2) + (q)) < 4394 by omega) rfl) ?_
                      rw [hw q (by omega)]
                      refine g_lconst (v := 0) C dX9_left_84 (by decide) ?_
                      refine g_lcmp C dX9_left_85 ?_
                      refine g_if_le C 128 dX9_left_86 (by decide) (fun c_86 => ?_) (fun c_86 => ?_)
                      · rw [lg_cmp_le] at c_86
                        have hz : (wW true (bS (vS v) u1) (tS (vS v) u1) alA k1) q = 0 := (lN_le0 (hbd q)).mp c_86
                        have hs3 := hs
                        have hw3 := hw
                        have hx3 : x = lN (sPr (bX (bS (vS v) u1) (tS (vS v) u1) (wW true (bS (vS v) u1) (tS (vS v) u1) alA k1) k1 c1 (tn a3)) (Lq (q + 1))) := by rw [Lq_z (by omega) (bX_0 hz)]; exact hx
                        refine g_iinc (v := nI (q + 1)) C dX9_left_128 rfl (ginc _ 1) rfl ?_
                        refine g_lv [some _, some _, some _, some _, some _, some _, some _, none, some _] (gs_some (gs_some (gs_some (gs_some (gs_some (gs_some (gs_some (gs_none (gs_some gs_nil))))))))) ?_
                        refine g_goto C 65 dX9_left_131 (by decide) ?_
                        refine g_lv [some _, some _, some _, some _, some _, some _, some _, none, some _] (gs_some (gs_some (gs_some (gs_some (gs_some (gs_some (gs_some (gs_none (gs_some gs_nil))))))))) ?_
                        exact ih_65 (q + 1) _ _ (by omega) hs3 hw3 hx3 (by omega)
                      · rw [lg_cmp_le] at c_86
                        have hnz : ¬ (wW true (bS (vS v) u1) (tS (vS v) u1) alA k1) q = 0 := lN_pos (hbd q) c_86
                        have hok := wA_ok R hu8 (wg := true) (al := alA) (show k1 ≤ 12 by omega) q hnz
                        refine g_aload_n C dX9_left_89 rfl ?_
                        refine g_iload_n C dX9_left_90 rfl ?_
                        refine g_iload C dX9_left_91 rfl ?_
                        refine g_iload_n C dX9_left_93 rfl ?_
                        refine g_callVv C sV_X9_189 dX9_left_94 (c_X9_looksAtb _ δ _ hu8 (p := q) (k := k1) (by omega) hok.1 (by omega) (KM_sq hs (KM_sn (a := σ) (gSn_G (by omega) (gSn_r _)) K)) R) ⟨by decide, by decide⟩ (wO_M δ _) rfl rfl rfl rfl (Nat.le_of_ble_eq_true rfl) (fun s_94 h_94 => ?_)
                        obtain ⟨o4, g4, rfl, ho4, hg4⟩ := h_94
                        have hs3 : gSq (uG σ 15 y_36) (uI (uI s1 58 o4) 59 g4) := gSq_I (by omega) (gSq_I (by omega) hs)
                        have hw3 : ∀ y, y < 2197 → gL (uI (uI s1 58 o4) 59 g4) 14 (2197 * (k1 % 2) + y) = lN ((wW true (bS (vS v) u1) (tS (vS v) u1) alA k1) y) := hw
                        refine g_lload C dX9_left_97 rfl ?_
                        refine g_aload_n C dX9_left_99 rfl ?_
                        refine g_get C dX9_left_100 iwX9 rfl (wO_M δ _) 23 (Nat.le_of_ble_eq_true rfl) mW595 rfl rfl ?_
                        refine g_iload_n C dX9_left_103 rfl ?_
                        refine g_ialdN C dX9_left_104 (k := c1) (q := 59) (by decide) rfl (by first | rfl | assumption | (simp only [glit, nI_add, pk_mul]; done) | (simp only [glit, nI_add, pk_mul]; congr 1; omega) | (simp only [*, glit, nI_add, pk_mul]; congr 1; omega)) (show c1 < gLenI 59 from Nat.lt_of_lt_of_eq (show c1 < 4 by omega) rfl) ?_
                        rw [gI_uI, if_pos rfl, hg4 c1 (by omega)]
                        refine g_iload C dX9_left_105 rfl ?_
                        refine g_icmp_ne C 124 dX9_left_107 (by decide) (fun c_107 => ?_) (fun c_107 => ?_)
                        · have hx3 : x + 0 = lN (sPr (bX (bS (vS v) u1) (tS (vS v) u1) (wW true (bS (vS v) u1) (tS (vS v) u1) alA k1) k1 c1 (tn a3)) (Lq (q + 1))) := by rw [Int64.add_zero, Lq_z (φ := (bX (bS (vS v) u1) (tS (vS v) u1) (wW true (bS (vS v) u1) (tS (vS v) u1) alA k1) k1 c1 (tn a3))) (q := q) (by omega) (show (bX (bS (vS v) u1) (tS (vS v) u1) (wW true (bS (vS v) u1) (tS (vS v) u1) alA k1) k1 c1 (tn a3)) q = 0 from gIf_f (fun z => c_107 (z.trans ht.1.symm)))]; exact hx
                          refine g_lconst (v := 0) C dX9_left_124 (by decide) ?_
                          refine g_ladd C dX9_left_125 ?_
                          refine g_lstore C dX9_left_126 (Nat.le_of_ble_eq_true rfl) rfl ?_
                          refine g_lv [some _, some _, some _, some _, some _, some _, some _, none, some _] (gs_some (gs_some (gs_some (gs_some (gs_some (gs_some (gs_some (gs_none (gs_some gs_nil))))))))) ?_
                          refine g_iinc (v := nI (q + 1)) C dX9_left_128 rfl (ginc _ 1) rfl ?_
                          refine g_lv [some _, some _, some _, some _, some _, some _, some _, none, some _] (gs_some (gs_some (gs_some (gs_some (gs_some (gs_some (gs_some (gs_none (gs_some gs_nil))))))))) ?_
                          refine g_goto C 65 dX9_left_131 (by decide) ?_
                          refine g_lv [some _, some _, some _, some _, some _, some _, some _, none, some _] (gs_some (gs_some (gs_some (gs_some (gs_some (gs_some (gs_some (gs_none (gs_some gs_nil))))))))) ?_
                          exact ih_65 (q + 1) _ _ (by omega) hs3 hw3 hx3 (by omega)
                        · have hx3 : x + lN ((wW true (bS (vS v) u1) (tS (vS v) u1) alA k1) q) = lN (sPr (bX (bS (vS v) u1) (tS (vS v) u1) (wW true (bS (vS v) u1) (tS (vS v) u1) alA k1) k1 c1 (tn a3)) (Lq (q + 1))) := by rw [hx, lN_add, Lq_s (by omega), show (bX (bS (vS v) u1) (tS (vS v) u1) (wW true (bS (vS v) u1) (tS (vS v) u1) alA k1) k1 c1 (tn a3)) q = (wW true (bS (vS v) u1) (tS (vS v) u1) alA k1) q from gIf_t (c_107.trans ht.1)]
                          refine g_aload_n C dX9_left_110 rfl ?_
                          refine g_get C dX9_left_111 iwX9 rfl (wO_M δ _) 19 (Nat.le_of_ble_eq_true rfl) mW591 rfl rfl ?_
                          refine g_iload_n C dX9_left_114 rfl ?_
                          refine g_iload C dX9_left_115 rfl ?_
                          refine g_callSi C sS_X9_186 dX9_left_117 (c_X9_at _ δ _ (r := k1) (p := q) (by omega)) ⟨by decide, by decide⟩ rfl rfl rfl (Nat.le_of_ble_eq_true rfl) (fun r_117 s_117 h_117 => ?_)
                          obtain ⟨rfl, rfl⟩ := h_117
                          refine g_laldN C dX9_left_120 (k := (2197 * ((k1) % 2) + (q))) (q := 14) (by decide) rfl (by first | rfl | assumption | (simp only [glit, nI_add, pk_mul]; done) | (simp only [glit, nI_add, pk_mul]; congr 1; omega) | (simp only [*, glit, nI_add, pk_mul]; congr 1; omega)) (show (2197 * ((k1) % 2) + (q)) < gLenL 14 from Nat.lt_of_lt_of_eq (show (2197 * ((k1) % 2) + (q)) < 4394 by omega) rfl) ?_
                          rw [hw3 q (by omega)]
                          refine g_goto C 125 dX9_left_121 (by decide) ?_
                          refine g_ladd C dX9_left_125 ?_
                          refine g_lstore C dX9_left_126 (Nat.le_of_ble_eq_true rfl) rfl ?_
                          refine g_lv [some _, some _, some _, some _, some _, some _, some _, none, some _] (gs_some (gs_some (gs_some (gs_some (gs_some (gs_some (gs_some (gs_none (gs_some gs_nil))))))))) ?_
                          refine g_iinc (v := nI (q + 1)) C dX9_left_128 rfl (ginc _ 1) rfl ?_
                          refine g_lv [some _, some _, some _, some _, some _, some _, some _, none, some _] (gs_some (gs_some (gs_some (gs_some (gs_some (gs_some (gs_some (gs_none (gs_some gs_nil))))))))) ?_
                          refine g_goto C 65 dX9_left_131 (by decide) ?_
                          refine g_lv [some _, some _, some _, some _, some _, some _, some _, none, some _] (gs_some (gs_some (gs_some (gs_some (gs_some (gs_some (gs_some (gs_none (gs_some gs_nil))))))))) ?_
                          exact ih_65 (q + 1) _ _ (by omega) hs3 hw3 hx3 (by omega)
                refine g_lv [some _, some _, some _, some _, some _, some _, some _, none, some _] (gs_some (gs_some (gs_some (gs_some (gs_some (gs_some (gs_some (gs_none (gs_some gs_nil))))))))) ?_
                exact L_65 _ 0 _ _ (by omega) q_56 w_56 (by rw [Lq_0]; rfl) (Nat.lt_succ_self _)
              · refine g_iload C dX9_left_46 rfl ?_
                exact g_iret C E dX9_left_48 rfl rfl ⟨_, rfl, TG_n (e_36.trans (aLeft_at hu1 hu8 hk1 hc1 h_25).symm) (fun z => c_43 (by rw [z]; exact Int32.le_refl _)) (gSn_G (by omega) (gSn_r _)) (MF_15 hF)⟩
            · exact absurd c_28 (by decide)
          · skip
            refine g_if_ne C 33 dX9_left_28 (by decide) (fun c_28 => ?_) (fun c_28 => ?_)
            · exact absurd c_28 (by decide)
            · refine g_iconst (v := (-1)) C dX9_left_31 (by decide) ?_
              exact g_iret C E dX9_left_32 rfl rfl ⟨_, rfl, TG_n (by first | exact (gIf_f (fun z => h_3 z.1)).symm | exact (gIf_f (fun z => h_12 ((okC_n hu8).mp z.2.1))).symm | exact (gIf_f (fun z => h_25 z.2.2)).symm) (by decide) (gSn_r _) hF⟩
      · skip
        refine g_if_eq C 31 dX9_left_15 (by decide) (fun c_15 => ?_) (fun c_15 => ?_)
        · refine g_iconst (v := (-1)) C dX9_left_31 (by decide) ?_
          exact g_iret C E dX9_left_32 rfl rfl ⟨_, rfl, TG_n (by first | exact (gIf_f (fun z => h_3 z.1)).symm | exact (gIf_f (fun z => h_12 ((okC_n hu8).mp z.2.1))).symm | exact (gIf_f (fun z => h_25 z.2.2)).symm) (by decide) (gSn_r _) hF⟩
        · exact absurd c_15 (by decide)
  · skip
    refine g_if_eq C 31 dX9_left_6 (by decide) (fun c_6 => ?_) (fun c_6 => ?_)
    · refine g_iconst (v := (-1)) C dX9_left_31 (by decide) ?_
      exact g_iret C E dX9_left_32 rfl rfl ⟨_, rfl, TG_n (by first | exact (gIf_f (fun z => h_3 z.1)).symm | exact (gIf_f (fun z => h_12 ((okC_n hu8).mp z.2.1))).symm | exact (gIf_f (fun z => h_25 z.2.2)).symm) (by decide) (gSn_r _) hF⟩
    · exact absurd c_6 (by decide)
set_option maxRecDepth 100000 in
set_option maxHeartbeats 4000000 in
theorem c_X9_stuckb (l : Launch) (δ : GD) (σ : GS) (a0 a1 : Int32) {v : GV} (K : KM σ v) (R : RV v) {F : GF} (hF : MF σ F) : gM l δ yX9_stuck cX9_stuck 4 (some .int) 3 91 [.ref (δ.2.2.1 1), .int a0, .int a1] σ (gPi (fun x σ' => x = aStuck v a0 a1 ∧ gSn σ σ' ∧ MF σ' (gFr (aStuck v a0 a1) (gStuck v a0 a1) F))) := by
  refine g_of (lv0 := [some (.ref (δ.2.2.1 1)), some (.int a0), some (.int a1), none]) (by decide) rfl (Nat.le_of_ble_eq_true rfl) (fun Γ hl C E => ?_)
  subst hl
  have C : gC Γ δ cX9_stuck RX9 4 3 91 := C
  have hm := K.1
  have h8 := R.1
  refine g_aload_n C dX9_stuck_0 rfl ?_
  refine g_iload_n C dX9_stuck_1 rfl ?_
  refine g_iload_n C dX9_stuck_2 rfl ?_
  refine g_callVi C sV_X9_200 dX9_stuck_3 (c_X9_isAsked _ δ _ _ _ hm h8) ⟨by decide, by decide⟩ (wO_M δ _) rfl rfl rfl rfl (Nat.le_of_ble_eq_true rfl) (fun r_3 s_3 h_3 => ?_)
  obtain ⟨rfl, h_3⟩ := h_3
  rcases h_3 with ⟨rfl, h_3⟩ | ⟨rfl, h_3⟩
  · obtain ⟨⟨u1, hu1, rfl⟩, k1, hk1, rfl⟩ := id h_3
    have hu8 : u1 < 8 := by omega
    obtain ⟨h2, h4⟩ := (R.2.1 u1 hu8).1 hu1
    have hn := K.2.1 u1 hu8
    refine g_if_ne C 11 dX9_stuck_6 (by decide) (fun c_6 => ?_) (fun c_6 => ?_)
    · refine g_aload_n C dX9_stuck_11 rfl ?_
      refine g_iload_n C dX9_stuck_12 rfl ?_
      refine g_iload_n C dX9_stuck_13 rfl ?_
      refine g_callVi C sV_X9_203 dX9_stuck_14 (c_X9_evenFaultb _ δ _ hu8 (k := k1) (by omega) K R) ⟨by decide, by decide⟩ (wO_M δ _) rfl rfl rfl rfl (Nat.le_of_ble_eq_true rfl) (fun r_14 s_14 h_14 => ?_)
      obtain ⟨e_14, ⟨y_14, rfl⟩, g_14, n_14⟩ := h_14
      refine g_istore_n C dX9_stuck_17 (Nat.le_of_ble_eq_true rfl) rfl ?_
      refine g_lv [some _, some _, some _, some _] (gs_some (gs_some (gs_some (gs_some gs_nil)))) ?_
      refine g_iload_n C dX9_stuck_18 rfl ?_
      refine g_if_ge C 24 dX9_stuck_19 (by decide) (fun c_19 => ?_) (fun c_19 => ?_)
      · obtain ⟨⟨hev, hs0⟩, hl, e15⟩ := g_14 (Int32.not_lt.mpr c_19)
        have d1 : 1 ≤ qD v u1 k1 := dD_1 _ _ _
        have hl2 : qD v u1 k1 ≤ 10000000000000000 := hl
        refine g_aload_n C dX9_stuck_24 rfl ?_
        refine g_iload_n C dX9_stuck_25 rfl ?_
        refine g_iload_n C dX9_stuck_26 rfl ?_
        refine g_iconst (v := 0) C dX9_stuck_27 (by decide) ?_
        refine g_iconst (v := 0) C dX9_stuck_28 (by decide) ?_
        refine g_iconst (v := 0) C dX9_stuck_29 (by decide) ?_
        refine g_iconst (v := 0) C dX9_stuck_30 (by decide) ?_
        refine g_callVv C sV_X9_206 dX9_stuck_31 (c_X9_goesb _ δ _ hu8 (k := k1) (by omega) _ _ _ _ (al := alA) (by decide) (by decide) (hM_A (by omega)) (KM_sn (a := σ) (gSn_G (by omega) (gSn_r _)) K) R hev hl e15) ⟨by decide, by decide⟩ (wO_M δ _) rfl rfl rfl rfl (Nat.le_of_ble_eq_true rfl) (fun s_31 h_31 => ?_)
        obtain ⟨q_31, w_31, t_31⟩ := h_31
        refine g_aload_n C dX9_stuck_34 rfl ?_
        refine g_aload_n C dX9_stuck_35 rfl ?_
        refine g_get C dX9_stuck_36 iwX9 rfl (wO_M δ _) 21 (Nat.le_of_ble_eq_true rfl) mW593 rfl rfl ?_
        rw [t_31 rfl]
        refine g_aload_n C dX9_stuck_39 rfl ?_
        refine g_get C dX9_stuck_40 iwX9 rfl (wO_M δ _) 20 (Nat.le_of_ble_eq_true rfl) mW592 rfl rfl ?_
        rw [show gG s_31 15 = lN (qD v u1 k1) from (q_31.2.2.2.1 15 (by decide)).trans e15]
        refine g_callVi C sV_X9_174 dX9_stuck_43 (c_X9_tellsb _ δ _ (a := wE (bS (vS v) u1) (tS (vS v) u1) alA (vT v u1) (vG v u1) k1) (b := (qD v u1 k1)) d1 (by omega) (by have := qSt_le R hu8 hev (k := k1) (by omega) alA; unfold qD at *; omega)) ⟨by decide, by decide⟩ (wO_M δ _) rfl rfl rfl rfl (Nat.le_of_ble_eq_true rfl) (fun r_43 s_43 h_43 => ?_)
        obtain ⟨rfl, zt, mt, -⟩ := h_43
        exact g_iret C E dX9_stuck_46 rfl rfl ⟨_, rfl, TG_y ((aStuck_at hu1 hu8 hk1).trans (aEv_z (by rw [← e_14]; exact c_19))).symm rfl (gSn_t (gSn_t (gSn_G (by omega) (gSn_r _)) q_31.n) zt) (by rw [gStuck_at hu8 hk1]; exact mt)⟩
      · refine g_iload_n C dX9_stuck_22 rfl ?_
        exact g_iret C E dX9_stuck_23 rfl rfl ⟨_, rfl, TG_n (e_14.trans (aStuck_at hu1 hu8 hk1).symm) (fun z => c_19 (by rw [z]; exact Int32.le_refl _)) (gSn_G (by omega) (gSn_r _)) (MF_15 hF)⟩
    · exact absurd c_6 (by decide)
  · skip
    refine g_if_ne C 11 dX9_stuck_6 (by decide) (fun c_6 => ?_) (fun c_6 => ?_)
    · exact absurd c_6 (by decide)
    · refine g_iconst (v := (-1)) C dX9_stuck_9 (by decide) ?_
      exact g_iret C E dX9_stuck_10 rfl rfl ⟨_, rfl, TG_n (by first | exact (gIf_f (fun z => h_3 z)).symm) (by decide) (gSn_r _) hF⟩
set_option maxRecDepth 100000 in
set_option maxHeartbeats 4000000 in
theorem c_X9_meanb (l : Launch) (δ : GD) (σ : GS) (a0 a1 a2 a3 : Int32) {v : GV} (K : KM σ v) (R : RV v) {F : GF} (hF : MF σ F) : gM l δ yX9_mean cX9_mean 16 (some .int) 3 91 [.ref (δ.2.2.1 1), .int a0, .int a1, .int a2, .int a3] σ (gPi (fun x σ' => x = aMean v a0 a1 a2 a3 ∧ gSn σ σ' ∧ MF σ' (gFr (aMean v a0 a1 a2 a3) (gMean v a0 a1 a2 a3) F))) := by
  refine g_of (lv0 := [some (.ref (δ.2.2.1 1)), some (.int a0), some (.int a1), some (.int a2), some (.int a3), none, none, none, none, none, none, none, none, none, none, none]) (by decide) rfl (Nat.le_of_ble_eq_true rfl) (fun Γ hl C E => ?_)
  subst hl
  have C : gC Γ δ cX9_mean RX9 16 3 91 := C
  have hm := K.1
  have h8 := R.1
  refine g_aload_n C dX9_mean_0 rfl ?_
  refine g_iload_n C dX9_mean_1 rfl ?_
  refine g_iload_n C dX9_mean_2 rfl ?_
  refine g_callVi C sV_X9_200 dX9_mean_3 (c_X9_isAsked _ δ _ _ _ hm h8) ⟨by decide, by decide⟩ (wO_M δ _) rfl rfl rfl rfl (Nat.le_of_ble_eq_true rfl) (fun r_3 s_3 h_3 => ?_)
  obtain ⟨rfl, h_3⟩ := h_3
  rcases h_3 with ⟨rfl, h_3⟩ | ⟨rfl, h_3⟩
  · obtain ⟨⟨u1, hu1, rfl⟩, k1, hk1, rfl⟩ := id h_3
    have hu8 : u1 < 8 := by omega
    obtain ⟨h2, h4⟩ := (R.2.1 u1 hu8).1 hu1
    have hn := K.2.1 u1 hu8
    refine g_if_eq C 31 dX9_mean_6 (by decide) (fun c_6 => ?_) (fun c_6 => ?_)
    · exact absurd c_6 (by decide)
    · refine g_aload_n C dX9_mean_9 rfl ?_
      refine g_iload_n C dX9_mean_10 rfl ?_
      refine g_iload_n C dX9_mean_11 rfl ?_
      refine g_callVi C sV_X9_92 dX9_mean_12 (c_X9_isColour _ δ _ hu8 _ hn h4) ⟨by decide, by decide⟩ (wO_M δ _) rfl rfl rfl rfl (Nat.le_of_ble_eq_true rfl) (fun r_12 s_12 h_12 => ?_)
      obtain ⟨rfl, h_12⟩ := h_12
      rcases h_12 with ⟨rfl, h_12⟩ | ⟨rfl, h_12⟩
      · obtain ⟨c1, hc1, rfl⟩ := id h_12
        refine g_if_eq C 31 dX9_mean_15 (by decide) (fun c_15 => ?_) (fun c_15 => ?_)
        · exact absurd c_15 (by decide)
        · refine g_iload C dX9_mean_18 rfl ?_
          refine g_i2l C dX9_mean_20 ?_
          refine g_lconst (v := 1) C dX9_mean_21 (by decide) ?_
          refine g_ldc2 C dX9_mean_22 mW849 ?_
          refine g_callSi C sS_X9_62 dX9_mean_25 (c_X9_in _ δ _ _ _ _) ⟨by decide, by decide⟩ rfl rfl rfl (Nat.le_of_ble_eq_true rfl) (fun r_25 s_25 h_25 => ?_)
          obtain ⟨rfl, h_25⟩ := h_25
          rcases h_25 with ⟨rfl, h_25⟩ | ⟨rfl, h_25⟩
          · have h3b := gin3.mp h_25
            obtain ⟨m1, -, hm1, rfl⟩ := gin13 (m := 3) (by decide) (by decide) (by decide) h_25
            refine g_if_ne C 33 dX9_mean_28 (by decide) (fun c_28 => ?_) (fun c_28 => ?_)
            · refine g_aload_n C dX9_mean_33 rfl ?_
              refine g_iload_n C dX9_mean_34 rfl ?_
              refine g_iload_n C dX9_mean_35 rfl ?_
              refine g_callVi C sV_X9_203 dX9_mean_36 (c_X9_evenFaultb _ δ _ hu8 (k := k1) (by omega) K R) ⟨by decide, by decide⟩ (wO_M δ _) rfl rfl rfl rfl (Nat.le_of_ble_eq_true rfl) (fun r_36 s_36 h_36 => ?_)
              obtain ⟨e_36, ⟨y_36, rfl⟩, g_36, n_36⟩ := h_36
              refine g_istore C dX9_mean_39 (Nat.le_of_ble_eq_true rfl) rfl ?_
              refine g_lv [some _, some _, some _, some _, some _, some _, none, none, none, none, none, none, none, none, none, none] (gs_some (gs_some (gs_some (gs_some (gs_some (gs_some (gs_none (gs_none (gs_none (gs_none (gs_none (gs_none (gs_none (gs_none (gs_none (gs_none gs_nil)))))))))))))))) ?_
              refine g_iload C dX9_mean_41 rfl ?_
              refine g_if_ge C 49 dX9_mean_43 (by decide) (fun c_43 => ?_) (fun c_43 => ?_)
              · obtain ⟨⟨hev, hs0⟩, hl, e15⟩ := g_36 (Int32.not_lt.mpr c_43)
                have d1 : 1 ≤ qD v u1 k1 := dD_1 _ _ _
                have hl2 : qD v u1 k1 ≤ 10000000000000000 := hl
                refine g_aload_n C dX9_mean_49 rfl ?_
                refine g_iload_n C dX9_mean_50 rfl ?_
                refine g_iload_n C dX9_mean_51 rfl ?_
                refine g_iconst (v := 0) C dX9_mean_52 (by decide) ?_
                refine g_iconst (v := 0) C dX9_mean_53 (by decide) ?_
                refine g_iconst (v := 0) C dX9_mean_54 (by decide) ?_
                refine g_iconst (v := 0) C dX9_mean_55 (by decide) ?_
                refine g_callVv C sV_X9_206 dX9_mean_56 (c_X9_goesb _ δ _ hu8 (k := k1) (by omega) _ _ _ _ (al := alA) (by decide) (by decide) (hM_A (by omega)) (KM_sn (a := σ) (gSn_G (by omega) (gSn_r _)) K) R hev hl e15) ⟨by decide, by decide⟩ (wO_M δ _) rfl rfl rfl rfl (Nat.le_of_ble_eq_true rfl) (fun s_56 h_56 => ?_)
                obtain ⟨q_56, w_56, t_56⟩ := h_56
                refine g_lconst (v := 0) C dX9_mean_59 (by decide) ?_
                refine g_lstore C dX9_mean_60 (Nat.le_of_ble_eq_true rfl) rfl ?_
                refine g_lv [some _, some _, some _, some _, some _, some _, some _, none, none, none, none, none, none, none, none, none] (gs_some (gs_some (gs_some (gs_some (gs_some (gs_some (gs_some (gs_none (gs_none (gs_none (gs_none (gs_none (gs_none (gs_none (gs_none (gs_none gs_nil)))))))))))))))) ?_
                refine g_lconst (v := 0) C dX9_mean_62 (by decide) ?_
                refine g_lstore C dX9_mean_63 (Nat.le_of_ble_eq_true rfl) rfl ?_
                refine g_lv [some _, some _, some _, some _, some _, some _, some _, none, some _, none, none, none, none, none, none, none] (gs_some (gs_some (gs_some (gs_some (gs_some (gs_some (gs_some (gs_none (gs_some (gs_none (gs_none (gs_none (gs_none (gs_none (gs_none (gs_none gs_nil)))))))))))))))) ?_
                refine g_iconst (v := 0) C dX9_mean_65 (by decide) ?_
                refine g_istore C dX9_mean_66 (Nat.le_of_ble_eq_true rfl) rfl ?_
                refine g_lv [some _, some _, some _, some _, some _, some _, some _, none, some _, none, some _, none, none, none, none, none] (gs_some (gs_some (gs_some (gs_some (gs_some (gs_some (gs_some (gs_none (gs_some (gs_none (gs_some (gs_none (gs_none (gs_none (gs_none (gs_none gs_nil)))))))))))))))) ?_
                have L_68 : ∀ (nn : Nat) (q a b : Nat) (s1 : GS) (hq : q ≤ 2197) (hs : gSq (uG σ 15 y_36) s1) (hw : ∀ y, y < 2197 → gL s1 14 (2197 * (k1 % 2) + y) = lN ((wW true (bS (vS v) u1) (tS (vS v) u1) alA k1) y)) (hb : b < (qD v u1 k1)) (hab : a * (qD v u1 k1) + b = sPr (mX (bS (vS v) u1) (tS (vS v) u1) (wW true (bS (vS v) u1) (tS (vS v) u1) alA k1) k1 c1 m1) (Lq q)), 2197 - q < nn → gW Γ δ s1 68 [some (.ref (δ.2.2.1 1)), some (.int (nI u1)), some (.int (nI k1)), some (.int (nI c1)), some (.int (nI m1)), some (.int r_36), some (.long (lN a)), none, some (.long (lN b)), none, some (.int (nI q)), none, none, none, none, none] [] := by
                  intro nn
                  induction nn with
                  | zero =>
                    intro q a b s1 hq hs hw hb hab hm_68
                    exact absurd hm_68 (Nat.not_lt_zero _)
                  | succ nn ih_68 =>
                    intro q a b s1 hq hs hw hb hab hm_68
                    have hbd := wA_hb R hu8 hev (k := k1) (by omega) hl alA k1 (Nat.le_refl _)
                    refine g_iload C dX9_mean_68 rfl ?_
                    refine g_sipush (v := 2197) C dX9_mean_70 (by decide) ?_
                    refine g_icmp_ge C 213 dX9_mean_73 (by decide) (fun c_73 => ?_) (fun c_73 => ?_)
                    · have k_73 := gle c_73 (a := 2197) (b := q) (by first | rfl | assumption | (simp only [glit, nI_add, pk_mul]; done) | (simp only [glit, nI_add, pk_mul]; congr 1; omega) | (simp only [*, glit, nI_add, pk_mul]; congr 1; omega)) (by first | rfl | assumption | (simp only [glit, nI_add, pk_mul]; done) | (simp only [glit, nI_add, pk_mul]; congr 1; omega) | (simp only [*, glit, nI_add, pk_mul]; congr 1; omega)) (by omega) (by omega)
                      have eq : q = 2197 := by omega
                      subst eq
                      rw [Lq_e, qMn_e R hu8 (by omega) (by omega)] at hab
                      obtain ⟨ea, eb⟩ := mn_u d1 hab hb
                      subst ea eb
                      refine g_aload_n C dX9_mean_213 rfl ?_
                      refine g_lload C dX9_mean_214 rfl ?_
                      refine g_aload_n C dX9_mean_216 rfl ?_
                      refine g_get C dX9_mean_217 iwX9 rfl (wO_M δ _) 20 (Nat.le_of_ble_eq_true rfl) mW592 rfl rfl ?_
                      rw [show gG s1 15 = lN (qD v u1 k1) from (hs.2.2.2.1 15 (by decide)).trans e15]
                      refine g_callVi C sV_X9_174 dX9_mean_220 (c_X9_tellsb _ δ _ (a := qMn v u1 k1 c1 m1 % (qD v u1 k1)) (b := (qD v u1 k1)) d1 (by omega) (by omega)) ⟨by decide, by decide⟩ (wO_M δ _) rfl rfl rfl rfl (Nat.le_of_ble_eq_true rfl) (fun r_220 s_220 h_220 => ?_)
                      obtain ⟨rfl, zt, -, -, p11, p12⟩ := h_220
                      refine g_istore C dX9_mean_223 (Nat.le_of_ble_eq_true rfl) rfl ?_
                      refine g_lv [some _, some _, some _, some _, some _, some _, some _, none, some _, none, some _, none, none, none, none, none] (gs_some (gs_some (gs_some (gs_some (gs_some (gs_some (gs_some (gs_none (gs_some (gs_none (gs_some (gs_none (gs_none (gs_none (gs_none (gs_none gs_nil)))))))))))))))) ?_
                      refine g_aload_n C dX9_mean_225 rfl ?_
                      refine g_lload C dX9_mean_226 rfl ?_
                      refine g_put C tyX9 dX9_mean_228 iwX9 tyX9_ok nmX9 rfl (wO_M δ _) 9 (Nat.le_of_ble_eq_true rfl) mW581 rfl rfl rfl rfl rfl (Nat.le_of_ble_eq_true rfl) (pG_10 δ _ _) ?_
                      refine g_iload C dX9_mean_231 rfl ?_
                      exact g_iret C E dX9_mean_233 rfl rfl ⟨_, rfl, TG_y ((aMean_at hu1 hu8 hk1 hc1 h3b).trans (aEv_z (by rw [← e_36]; exact c_43))).symm rfl (gSn_G (by omega) (gSn_t (gSn_t (gSn_G (by omega) (gSn_r _)) hs.n) zt)) (by rw [gMean_at hu8 hk1 (by omega) (by omega)]; exact MF_new d1 (by omega) (by omega) rfl p11 p12)⟩
                    · have k_73 := gnle c_73 (a := 2197) (b := q) (by first | rfl | assumption | (simp only [glit, nI_add, pk_mul]; done) | (simp only [glit, nI_add, pk_mul]; congr 1; omega) | (simp only [*, glit, nI_add, pk_mul]; congr 1; omega)) (by first | rfl | assumption | (simp only [glit, nI_add, pk_mul]; done) | (simp only [glit, nI_add, pk_mul]; congr 1; omega) | (simp only [*, glit, nI_add, pk_mul]; congr 1; omega)) (by omega) (by omega)
                      refine g_aload_n C dX9_mean_76 rfl ?_
                      refine g_get C dX9_mean_77 iwX9 rfl (wO_M δ _) 19 (Nat.le_of_ble_eq_true rfl) mW591 rfl rfl ?_
                      refine g_iload_n C dX9_mean_80 rfl ?_
                      refine g_iload C dX9_mean_81 rfl ?_
                      refine g_callSi C sS_X9_186 dX9_mean_83 (c_X9_at _ δ _ (r := k1) (p := q) (by omega)) ⟨by decide, by decide⟩ rfl rfl rfl (Nat.le_of_ble_eq_true rfl) (fun r_83 s_83 h_83 => ?_)
                      obtain ⟨rfl, rfl⟩ := h_83
                      refine g_laldN C dX9_mean_86 (k := (2197 * ((k1) % 2) + (q))) (q := 14) (by decide) rfl (by first | rfl | assumption | (simp only [glit, nI_add, pk_mul]; done) | (simp only [glit, nI_add, pk_mul]; congr 1; omega) | (simp only [*, glit, nI_add, pk_mul]; congr 1; omega)) (show (2197 * ((k1) % 2) + (q)) < gLenL 14 from Nat.lt_of_lt_of_eq (show (2197 * ((k1) % 2) + (q)) < 4394 by omega) rfl) ?_
                      rw [hw q (by omega)]
                      refine g_lconst (v := 0) C dX9_mean_87 (by decide) ?_
                      refine g_lcmp C dX9_mean_88 ?_
                      refine g_if_le C 207 dX9_mean_89 (by decide) (fun c_89 => ?_) (fun c_89 => ?_)
                      · rw [lg_cmp_le] at c_89
                        have hz : (wW true (bS (vS v) u1) (tS (vS v) u1) alA k1) q = 0 := (lN_le0 (hbd q)).mp c_89
                        have hs3 := hs
                        have hw3 := hw
                        have hb3 := hb
                        have hab3 : a * (qD v u1 k1) + b = sPr (mX (bS (vS v) u1) (tS (vS v) u1) (wW true (bS (vS v) u1) (tS (vS v) u1) alA k1) k1 c1 m1) (Lq (q + 1)) := by rw [Lq_z (by omega) (mX_0 hz)]; exact hab
                        refine g_iinc (v := nI (q + 1)) C dX9_mean_207 rfl (ginc _ 1) rfl ?_
                        refine g_lv [some _, some _, some _, some _, some _, some _, some _, none, some _, none, some _, none, none, none, none, none] (gs_some (gs_some (gs_some (gs_some (gs_some (gs_some (gs_some (gs_none (gs_some (gs_none (gs_some (gs_none (gs_none (gs_none (gs_none (gs_none gs_nil)))))))))))))))) ?_
                        refine g_goto C 68 dX9_mean_210 (by decide) ?_
                        refine g_lv [some _, some _, some _, some _, some _, some _, some _, none, some _, none, some _, none, none, none, none, none] (gs_some (gs_some (gs_some (gs_some (gs_some (gs_some (gs_some (gs_none (gs_some (gs_none (gs_some (gs_none (gs_none (gs_none (gs_none (gs_none gs_nil)))))))))))))))) ?_
                        exact ih_68 (q + 1) _ _ _ (by omega) hs3 hw3 hb3 hab3 (by omega)
                      · rw [lg_cmp_le] at c_89
                        have hnz : ¬ (wW true (bS (vS v) u1) (tS (vS v) u1) alA k1) q = 0 := lN_pos (hbd q) c_89
                        have hok := wA_ok R hu8 (wg := true) (al := alA) (show k1 ≤ 12 by omega) q hnz
                        have hB2 := (xB_n hok (show c1 < 4 by omega)).2.1
                        have hWD : (wW true (bS (vS v) u1) (tS (vS v) u1) alA k1) q ≤ (qD v u1 k1) := by have e1 := wA_x R hu8 (wg := true) (al := alA) (x := q) (show k1 ≤ 12 by omega); have e2 := wA_sm R hu8 hev (k := k1) (by omega) alA; unfold qD; omega
                        refine g_aload_n C dX9_mean_92 rfl ?_
                        refine g_iload_n C dX9_mean_93 rfl ?_
                        refine g_iload C dX9_mean_94 rfl ?_
                        refine g_iload_n C dX9_mean_96 rfl ?_
                        refine g_callVv C sV_X9_189 dX9_mean_97 (c_X9_looksAtb _ δ _ hu8 (p := q) (k := k1) (by omega) hok.1 (by omega) (KM_sq hs (KM_sn (a := σ) (gSn_G (by omega) (gSn_r _)) K)) R) ⟨by decide, by decide⟩ (wO_M δ _) rfl rfl rfl rfl (Nat.le_of_ble_eq_true rfl) (fun s_97 h_97 => ?_)
                        obtain ⟨o4, g4, rfl, ho4, hg4⟩ := h_97
                        have hs3 : gSq (uG σ 15 y_36) (uI (uI s1 58 o4) 59 g4) := gSq_I (by omega) (gSq_I (by omega) hs)
                        have hw3 : ∀ y, y < 2197 → gL (uI (uI s1 58 o4) 59 g4) 14 (2197 * (k1 % 2) + y) = lN ((wW true (bS (vS v) u1) (tS (vS v) u1) alA k1) y) := hw
                        refine g_lconst (v := 0) C dX9_mean_100 (by decide) ?_
                        refine g_lstore C dX9_mean_101 (Nat.le_of_ble_eq_true rfl) rfl ?_
                        refine g_lv [some _, some _, some _, some _, some _, some _, some _, none, some _, none, some _, some _, none, none, none, none] (gs_some (gs_some (gs_some (gs_some (gs_some (gs_some (gs_some (gs_none (gs_some (gs_none (gs_some (gs_some (gs_none (gs_none (gs_none (gs_none gs_nil)))))))))))))))) ?_
                        refine g_aload_n C dX9_mean_103 rfl ?_
                        refine g_get C dX9_mean_104 iwX9 rfl (wO_M δ _) 19 (Nat.le_of_ble_eq_true rfl) mW591 rfl rfl ?_
                        refine g_iload_n C dX9_mean_107 rfl ?_
                        refine g_iload C dX9_mean_108 rfl ?_
                        refine g_callSi C sS_X9_186 dX9_mean_110 (c_X9_at _ δ _ (r := k1) (p := q) (by omega)) ⟨by decide, by decide⟩ rfl rfl rfl (Nat.le_of_ble_eq_true rfl) (fun r_110 s_110 h_110 => ?_)
                        obtain ⟨rfl, rfl⟩ := h_110
                        refine g_laldN C dX9_mean_113 (k := (2197 * ((k1) % 2) + (q))) (q := 14) (by decide) rfl (by first | rfl | assumption | (simp only [glit, nI_add, pk_mul]; done) | (simp only [glit, nI_add, pk_mul]; congr 1; omega) | (simp only [*, glit, nI_add, pk_mul]; congr 1; omega)) (show (2197 * ((k1) % 2) + (q)) < gLenL 14 from Nat.lt_of_lt_of_eq (show (2197 * ((k1) % 2) + (q)) < 4394 by omega) rfl) ?_
                        rw [hw3 q (by omega)]
                        refine g_lstore C dX9_mean_114 (Nat.le_of_ble_eq_true rfl) rfl ?_
                        refine g_lv [some _, some _, some _, some _, some _, some _, some _, none, some _, none, some _, some _, none, some _, none, none] (gs_some (gs_some (gs_some (gs_some (gs_some (gs_some (gs_some (gs_none (gs_some (gs_none (gs_some (gs_some (gs_none (gs_some (gs_none (gs_none gs_nil)))))))))))))))) ?_
                        refine g_iconst (v := 0) C dX9_mean_116 (by decide) ?_
                        refine g_istore C dX9_mean_117 (Nat.le_of_ble_eq_true rfl) rfl ?_
                        refine g_lv [some _, some _, some _, some _, some _, some _, some _, none, some _, none, some _, some _, none, some _, none, some _] (gs_some (gs_some (gs_some (gs_some (gs_some (gs_some (gs_some (gs_none (gs_some (gs_none (gs_some (gs_some (gs_none (gs_some (gs_none (gs_some gs_nil)))))))))))))))) ?_
                        have L_119 : ∀ (nn : Nat) (i w r : Nat) (hi : i ≤ m1) (hr : r ≤ (qD v u1 k1)) (hwr : w * (qD v u1 k1) + r = (wW true (bS (vS v) u1) (tS (vS v) u1) alA k1) q * (xB (bS (vS v) u1) (tS (vS v) u1) k1 q c1).toInt.toNat ^ i), m1 - i < nn → gW Γ δ (uI (uI s1 58 o4) 59 g4) 119 [some (.ref (δ.2.2.1 1)), some (.int (nI u1)), some (.int (nI k1)), some (.int (nI c1)), some (.int (nI m1)), some (.int r_36), some (.long (lN a)), none, some (.long (lN b)), none, some (.int (nI q)), some (.long (lN w)), none, some (.long (lN r)), none, some (.int (nI i))] [] := by
                          intro nn
                          induction nn with
                          | zero =>
                            intro i w r hi hr hwr hm_119
                            exact absurd hm_119 (Nat.not_lt_zero _)
                          | succ nn ih_119 =>
                            intro i w r hi hr hwr hm_119
                            have hrx : r * (xB (bS (vS v) u1) (tS (vS v) u1) k1 q c1).toInt.toNat ≤ 10000000000000000 * 200 := Nat.mul_le_mul (by omega) hB2
                            refine g_iload C dX9_mean_119 rfl ?_
                            refine g_iload C dX9_mean_121 rfl ?_
                            refine g_icmp_ge C 177 dX9_mean_123 (by decide) (fun c_123 => ?_) (fun c_123 => ?_)
                            · have k_123 := gle c_123 (a := m1) (b := i) (by first | rfl | assumption | (simp only [glit, nI_add, pk_mul]; done) | (simp only [glit, nI_add, pk_mul]; congr 1; omega) | (simp only [*, glit, nI_add, pk_mul]; congr 1; omega)) (by first | rfl | assumption | (simp only [glit, nI_add, pk_mul]; done) | (simp only [glit, nI_add, pk_mul]; congr 1; omega) | (simp only [*, glit, nI_add, pk_mul]; congr 1; omega)) (by omega) (by omega)
                              have hwm : w * (qD v u1 k1) + r = (mX (bS (vS v) u1) (tS (vS v) u1) (wW true (bS (vS v) u1) (tS (vS v) u1) alA k1) k1 c1 m1) q := by rw [show m1 = i by omega]; exact hwr
                              have hb3 : (b + r) % (qD v u1 k1) < (qD v u1 k1) := Nat.mod_lt _ d1
                              have hab3 : (a + (w + (b + r) / (qD v u1 k1))) * (qD v u1 k1) + (b + r) % (qD v u1 k1) = sPr (mX (bS (vS v) u1) (tS (vS v) u1) (wW true (bS (vS v) u1) (tS (vS v) u1) alA k1) k1 c1 m1) (Lq (q + 1)) := by rw [Lq_s (by omega)]; exact mn_t hab hwm
                              refine g_lload C dX9_mean_177 rfl ?_
                              refine g_lload C dX9_mean_179 rfl ?_
                              refine g_lload C dX9_mean_181 rfl ?_
                              refine g_lload C dX9_mean_183 rfl ?_
                              refine g_ladd C dX9_mean_185 ?_
                              rw [lN_add]
                              refine g_aload_n C dX9_mean_186 rfl ?_
                              refine g_get C dX9_mean_187 iwX9 rfl (wO_M δ _) 20 (Nat.le_of_ble_eq_true rfl) mW592 rfl rfl ?_
                              rw [show gG (uI (uI s1 58 o4) 59 g4) 15 = lN (qD v u1 k1) from (hs.2.2.2.1 15 (by decide)).trans e15]
                              refine g_ldiv C dX9_mean_190 (lNz d1 (by omega)) ?_
                              rw [pk_lDiv (by omega) (by omega) (by omega)]
                              refine g_ladd C dX9_mean_191 ?_
                              rw [lN_add]
                              refine g_ladd C dX9_mean_192 ?_
                              rw [lN_add]
                              refine g_lstore C dX9_mean_193 (Nat.le_of_ble_eq_true rfl) rfl ?_
                              refine g_lv [some _, some _, some _, some _, some _, some _, some _, none, some _, none, some _, some _, none, some _, none, some _] (gs_some (gs_some (gs_some (gs_some (gs_some (gs_some (gs_some (gs_none (gs_some (gs_none (gs_some (gs_some (gs_none (gs_some (gs_none (gs_some gs_nil)))))))))))))))) ?_
                              refine g_lload C dX9_mean_195 rfl ?_
                              refine g_lload C dX9_mean_197 rfl ?_
                              refine g_ladd C dX9_mean_199 ?_
                              rw [lN_add]
                              refine g_aload_n C dX9_mean_200 rfl ?_
                              refine g_get C dX9_mean_201 iwX9 rfl (wO_M δ _) 20 (Nat.le_of_ble_eq_true rfl) mW592 rfl rfl ?_
                              rw [show gG (uI (uI s1 58 o4) 59 g4) 15 = lN (qD v u1 k1) from (hs.2.2.2.1 15 (by decide)).trans e15]
                              refine g_lrem C dX9_mean_204 (lNz d1 (by omega)) ?_
                              rw [pk_lRem (by omega) (by omega) (by omega)]
                              refine g_lstore C dX9_mean_205 (Nat.le_of_ble_eq_true rfl) rfl ?_
                              refine g_lv [some _, some _, some _, some _, some _, some _, some _, none, some _, none, some _, some _, none, some _, none, some _] (gs_some (gs_some (gs_some (gs_some (gs_some (gs_some (gs_some (gs_none (gs_some (gs_none (gs_some (gs_some (gs_none (gs_some (gs_none (gs_some gs_nil)))))))))))))))) ?_
                              refine g_iinc (v := nI (q + 1)) C dX9_mean_207 rfl (ginc _ 1) rfl ?_
                              refine g_lv [some _, some _, some _, some _, some _, some _, some _, none, some _, none, some _, some _, none, some _, none, some _] (gs_some (gs_some (gs_some (gs_some (gs_some (gs_some (gs_some (gs_none (gs_some (gs_none (gs_some (gs_some (gs_none (gs_some (gs_none (gs_some gs_nil)))))))))))))))) ?_
                              refine g_goto C 68 dX9_mean_210 (by decide) ?_
                              refine g_lv [some _, some _, some _, some _, some _, some _, some _, none, some _, none, some _, none, none, none, none, none] (gs_some (gs_some (gs_some (gs_some (gs_some (gs_some (gs_some (gs_none (gs_some (gs_none (gs_some (gs_none (gs_none (gs_none (gs_none (gs_none gs_nil)))))))))))))))) ?_
                              exact ih_68 (q + 1) _ _ _ (by omega) hs3 hw3 hb3 hab3 (by omega)
                            · have k_123 := gnle c_123 (a := m1) (b := i) (by first | rfl | assumption | (simp only [glit, nI_add, pk_mul]; done) | (simp only [glit, nI_add, pk_mul]; congr 1; omega) | (simp only [*, glit, nI_add, pk_mul]; congr 1; omega)) (by first | rfl | assumption | (simp only [glit, nI_add, pk_mul]; done) | (simp only [glit, nI_add, pk_mul]; congr 1; omega) | (simp only [*, glit, nI_add, pk_mul]; congr 1; omega)) (by omega) (by omega)
                              refine g_lload C dX9_mean_126 rfl ?_
                              refine g_aload_n C dX9_mean_128 rfl ?_
                              refine g_get C dX9_mean_129 iwX9 rfl (wO_M δ _) 23 (Nat.le_of_ble_eq_true rfl) mW595 rfl rfl ?_
                              refine g_iload_n C dX9_mean_132 rfl ?_
                              refine g_ialdN C dX9_mean_133 (k := c1) (q := 59) (by decide) rfl (by first | rfl | assumption | (simp only [glit, nI_add, pk_mul]; done) | (simp only [glit, nI_add, pk_mul]; congr 1; omega) | (simp only [*, glit, nI_add, pk_mul]; congr 1; omega)) (show c1 < gLenI 59 from Nat.lt_of_lt_of_eq (show c1 < 4 by omega) rfl) ?_
                              rw [show gI (uI (uI s1 58 o4) 59 g4) 59 c1 = nI (xB (bS (vS v) u1) (tS (vS v) u1) k1 q c1).toInt.toNat from (hg4 c1 (by omega)).trans (xB_n hok (show c1 < 4 by omega)).1]
                              refine g_i2l C dX9_mean_134 ?_
                              rw [nI_l (by omega)]
                              refine g_lmul C dX9_mean_135 ?_
                              rw [lN_mul]
                              refine g_lload C dX9_mean_136 rfl ?_
                              refine g_aload_n C dX9_mean_138 rfl ?_
                              refine g_get C dX9_mean_139 iwX9 rfl (wO_M δ _) 23 (Nat.le_of_ble_eq_true rfl) mW595 rfl rfl ?_
                              refine g_iload_n C dX9_mean_142 rfl ?_
                              refine g_ialdN C dX9_mean_143 (k := c1) (q := 59) (by decide) rfl (by first | rfl | assumption | (simp only [glit, nI_add, pk_mul]; done) | (simp only [glit, nI_add, pk_mul]; congr 1; omega) | (simp only [*, glit, nI_add, pk_mul]; congr 1; omega)) (show c1 < gLenI 59 from Nat.lt_of_lt_of_eq (show c1 < 4 by omega) rfl) ?_
                              rw [show gI (uI (uI s1 58 o4) 59 g4) 59 c1 = nI (xB (bS (vS v) u1) (tS (vS v) u1) k1 q c1).toInt.toNat from (hg4 c1 (by omega)).trans (xB_n hok (show c1 < 4 by omega)).1]
                              refine g_i2l C dX9_mean_144 ?_
                              rw [nI_l (by omega)]
                              refine g_lmul C dX9_mean_145 ?_
                              rw [lN_mul]
                              refine g_aload_n C dX9_mean_146 rfl ?_
                              refine g_get C dX9_mean_147 iwX9 rfl (wO_M δ _) 20 (Nat.le_of_ble_eq_true rfl) mW592 rfl rfl ?_
                              rw [show gG (uI (uI s1 58 o4) 59 g4) 15 = lN (qD v u1 k1) from (hs.2.2.2.1 15 (by decide)).trans e15]
                              refine g_ldiv C dX9_mean_150 (lNz d1 (by omega)) ?_
                              rw [pk_lDiv (by omega) (by omega) (by omega)]
                              refine g_ladd C dX9_mean_151 ?_
                              rw [lN_add]
                              refine g_lstore C dX9_mean_152 (Nat.le_of_ble_eq_true rfl) rfl ?_
                              refine g_lv [some _, some _, some _, some _, some _, some _, some _, none, some _, none, some _, some _, none, some _, none, some _] (gs_some (gs_some (gs_some (gs_some (gs_some (gs_some (gs_some (gs_none (gs_some (gs_none (gs_some (gs_some (gs_none (gs_some (gs_none (gs_some gs_nil)))))))))))))))) ?_
                              refine g_lload C dX9_mean_154 rfl ?_
                              refine g_aload_n C dX9_mean_156 rfl ?_
                              refine g_get C dX9_mean_157 iwX9 rfl (wO_M δ _) 23 (Nat.le_of_ble_eq_true rfl) mW595 rfl rfl ?_
                              refine g_iload_n C dX9_mean_160 rfl ?_
                              refine g_ialdN C dX9_mean_161 (k := c1) (q := 59) (by decide) rfl (by first | rfl | assumption | (simp only [glit, nI_add, pk_mul]; done) | (simp only [glit, nI_add, pk_mul]; congr 1; omega) | (simp only [*, glit, nI_add, pk_mul]; congr 1; omega)) (show c1 < gLenI 59 from Nat.lt_of_lt_of_eq (show c1 < 4 by omega) rfl) ?_
                              rw [show gI (uI (uI s1 58 o4) 59 g4) 59 c1 = nI (xB (bS (vS v) u1) (tS (vS v) u1) k1 q c1).toInt.toNat from (hg4 c1 (by omega)).trans (xB_n hok (show c1 < 4 by omega)).1]
                              refine g_i2l C dX9_mean_162 ?_
                              rw [nI_l (by omega)]
                              refine g_lmul C dX9_mean_163 ?_
                              rw [lN_mul]
                              refine g_aload_n C dX9_mean_164 rfl ?_
                              refine g_get C dX9_mean_165 iwX9 rfl (wO_M δ _) 20 (Nat.le_of_ble_eq_true rfl) mW592 rfl rfl ?_
                              rw [show gG (uI (uI s1 58 o4) 59 g4) 15 = lN (qD v u1 k1) from (hs.2.2.2.1 15 (by decide)).trans e15]
                              refine g_lrem C dX9_mean_168 (lNz d1 (by omega)) ?_
                              rw [pk_lRem (by omega) (by omega) (by omega)]
                              refine g_lstore C dX9_mean_169 (Nat.le_of_ble_eq_true rfl) rfl ?_
                              refine g_lv [some _, some _, some _, some _, some _, some _, some _, none, some _, none, some _, some _, none, some _, none, some _] (gs_some (gs_some (gs_some (gs_some (gs_some (gs_some (gs_some (gs_none (gs_some (gs_none (gs_some (gs_some (gs_none (gs_some (gs_none (gs_some gs_nil)))))))))))))))) ?_
                              refine g_iinc (v := nI (i + 1)) C dX9_mean_171 rfl (ginc _ 1) rfl ?_
                              refine g_lv [some _, some _, some _, some _, some _, some _, some _, none, some _, none, some _, some _, none, some _, none, some _] (gs_some (gs_some (gs_some (gs_some (gs_some (gs_some (gs_some (gs_none (gs_some (gs_none (gs_some (gs_some (gs_none (gs_some (gs_none (gs_some gs_nil)))))))))))))))) ?_
                              refine g_goto C 119 dX9_mean_174 (by decide) ?_
                              refine g_lv [some _, some _, some _, some _, some _, some _, some _, none, some _, none, some _, some _, none, some _, none, some _] (gs_some (gs_some (gs_some (gs_some (gs_some (gs_some (gs_some (gs_none (gs_some (gs_none (gs_some (gs_some (gs_none (gs_some (gs_none (gs_some gs_nil)))))))))))))))) ?_
                              exact ih_119 (i + 1) _ _ (by omega) (Nat.le_of_lt (Nat.mod_lt _ d1)) (mn_s hwr) (by omega)
                        refine g_lv [some _, some _, some _, some _, some _, some _, some _, none, some _, none, some _, some _, none, some _, none, some _] (gs_some (gs_some (gs_some (gs_some (gs_some (gs_some (gs_some (gs_none (gs_some (gs_none (gs_some (gs_some (gs_none (gs_some (gs_none (gs_some gs_nil)))))))))))))))) ?_
                        exact L_119 _ 0 0 ((wW true (bS (vS v) u1) (tS (vS v) u1) alA k1) q) (by omega) hWD (by rw [Nat.zero_mul, Nat.pow_zero, Nat.mul_one, Nat.zero_add]) (Nat.lt_succ_self _)
                refine g_lv [some _, some _, some _, some _, some _, some _, some _, none, some _, none, some _, none, none, none, none, none] (gs_some (gs_some (gs_some (gs_some (gs_some (gs_some (gs_some (gs_none (gs_some (gs_none (gs_some (gs_none (gs_none (gs_none (gs_none (gs_none gs_nil)))))))))))))))) ?_
                exact L_68 _ 0 0 0 _ (by omega) q_56 w_56 d1 (by rw [Lq_0, Nat.zero_mul]) (Nat.lt_succ_self _)
              · refine g_iload C dX9_mean_46 rfl ?_
                exact g_iret C E dX9_mean_48 rfl rfl ⟨_, rfl, TG_n (e_36.trans (aMean_at hu1 hu8 hk1 hc1 h3b).symm) (fun z => c_43 (by rw [z]; exact Int32.le_refl _)) (gSn_G (by omega) (gSn_r _)) (MF_15 hF)⟩
            · exact absurd c_28 (by decide)
          · skip
            refine g_if_ne C 33 dX9_mean_28 (by decide) (fun c_28 => ?_) (fun c_28 => ?_)
            · exact absurd c_28 (by decide)
            · refine g_iconst (v := (-1)) C dX9_mean_31 (by decide) ?_
              exact g_iret C E dX9_mean_32 rfl rfl ⟨_, rfl, TG_n (by first | exact (gIf_f (fun z => h_3 z.1)).symm | exact (gIf_f (fun z => h_12 ((okC_n hu8).mp z.2.1))).symm | exact (gIf_f (fun z => h_25 (gin3.mpr z.2.2))).symm) (by decide) (gSn_r _) hF⟩
      · skip
        refine g_if_eq C 31 dX9_mean_15 (by decide) (fun c_15 => ?_) (fun c_15 => ?_)
        · refine g_iconst (v := (-1)) C dX9_mean_31 (by decide) ?_
          exact g_iret C E dX9_mean_32 rfl rfl ⟨_, rfl, TG_n (by first | exact (gIf_f (fun z => h_3 z.1)).symm | exact (gIf_f (fun z => h_12 ((okC_n hu8).mp z.2.1))).symm | exact (gIf_f (fun z => h_25 (gin3.mpr z.2.2))).symm) (by decide) (gSn_r _) hF⟩
        · exact absurd c_15 (by decide)
  · skip
    refine g_if_eq C 31 dX9_mean_6 (by decide) (fun c_6 => ?_) (fun c_6 => ?_)
    · refine g_iconst (v := (-1)) C dX9_mean_31 (by decide) ?_
      exact g_iret C E dX9_mean_32 rfl rfl ⟨_, rfl, TG_n (by first | exact (gIf_f (fun z => h_3 z.1)).symm | exact (gIf_f (fun z => h_12 ((okC_n hu8).mp z.2.1))).symm | exact (gIf_f (fun z => h_25 (gin3.mpr z.2.2))).symm) (by decide) (gSn_r _) hF⟩
    · exact absurd c_6 (by decide)
set_option maxRecDepth 100000 in
set_option maxHeartbeats 4000000 in
theorem c_X9_toldb (l : Launch) (δ : GD) (σ : GS) (a0 a1 a2 a3 a4 : Int32) {v : GV} (K : KM σ v) (R : RV v) {F : GF} (hF : MF σ F) : gM l δ yX9_told cX9_told 9 (some .int) 3 91 [.ref (δ.2.2.1 1), .int a0, .int a1, .int a2, .int a3, .int a4] σ (gPi (fun _ σ' => gSn σ σ' ∧ MF σ' (gIf (toldOk v a0 a1 a2 a3 a4) (gTold v a0 a1 a2 a3 a4) F))) := by
  refine g_of (lv0 := [some (.ref (δ.2.2.1 1)), some (.int a0), some (.int a1), some (.int a2), some (.int a3), some (.int a4), none, none, none]) (by decide) rfl (Nat.le_of_ble_eq_true rfl) (fun Γ hl C E => ?_)
  subst hl
  have C : gC Γ δ cX9_told RX9 9 3 91 := C
  have hm := K.1
  have h8 := R.1
  refine g_aload_n C dX9_told_0 rfl ?_
  refine g_iload_n C dX9_told_1 rfl ?_
  refine g_callVi C sV_X9_89 dX9_told_2 (c_X9_isUrn _ δ _ _ hm h8) ⟨by decide, by decide⟩ (wO_M δ _) rfl rfl rfl rfl (Nat.le_of_ble_eq_true rfl) (fun r_2 s_2 h_2 => ?_)
  obtain ⟨rfl, h_2⟩ := h_2
  rcases h_2 with ⟨rfl, h_2⟩ | ⟨rfl, h_2⟩
  · obtain ⟨u1, hu1, rfl⟩ := id h_2
    have hu8 : u1 < 8 := by omega
    obtain ⟨h2, h4⟩ := (R.2.1 u1 hu8).1 hu1
    have hn := K.2.1 u1 hu8
    refine g_if_eq C 55 dX9_told_5 (by decide) (fun c_5 => ?_) (fun c_5 => ?_)
    · exact absurd c_5 (by decide)
    · refine g_iload_n C dX9_told_8 rfl ?_
      refine g_i2l C dX9_told_9 ?_
      refine g_lconst (v := 1) C dX9_told_10 (by decide) ?_
      refine g_ldc2 C dX9_told_11 mW792 ?_
      refine g_callSi C sS_X9_62 dX9_told_14 (c_X9_in _ δ _ _ _ _) ⟨by decide, by decide⟩ rfl rfl rfl (Nat.le_of_ble_eq_true rfl) (fun r_14 s_14 h_14 => ?_)
      obtain ⟨rfl, h_14⟩ := h_14
      rcases h_14 with ⟨rfl, h_14⟩ | ⟨rfl, h_14⟩
      · skip
        refine g_if_eq C 55 dX9_told_17 (by decide) (fun c_17 => ?_) (fun c_17 => ?_)
        · exact absurd c_17 (by decide)
        · refine g_aload_n C dX9_told_20 rfl ?_
          refine g_iload_n C dX9_told_21 rfl ?_
          refine g_iload_n C dX9_told_22 rfl ?_
          refine g_callVi C sV_X9_92 dX9_told_23 (c_X9_isColour _ δ _ hu8 _ hn h4) ⟨by decide, by decide⟩ (wO_M δ _) rfl rfl rfl rfl (Nat.le_of_ble_eq_true rfl) (fun r_23 s_23 h_23 => ?_)
          obtain ⟨rfl, h_23⟩ := h_23
          rcases h_23 with ⟨rfl, h_23⟩ | ⟨rfl, h_23⟩
          · obtain ⟨c1, hc1, rfl⟩ := id h_23
            refine g_if_eq C 55 dX9_told_26 (by decide) (fun c_26 => ?_) (fun c_26 => ?_)
            · exact absurd c_26 (by decide)
            · refine g_iload C dX9_told_29 rfl ?_
              refine g_i2l C dX9_told_31 ?_
              refine g_iload_n C dX9_told_32 rfl ?_
              refine g_iconst (v := 1) C dX9_told_33 (by decide) ?_
              refine g_iadd C dX9_told_34 ?_
              refine g_i2l C dX9_told_35 ?_
              refine g_ldc2 C dX9_told_36 mW792 ?_
              refine g_callSi C sS_X9_62 dX9_told_39 (c_X9_in _ δ _ _ _ _) ⟨by decide, by decide⟩ rfl rfl rfl (Nat.le_of_ble_eq_true rfl) (fun r_39 s_39 h_39 => ?_)
              obtain ⟨rfl, h_39⟩ := h_39
              rcases h_39 with ⟨rfl, h_39⟩ | ⟨rfl, h_39⟩
              · obtain ⟨i1, j1, hi1, hj1, hj2, rfl, rfl⟩ := gin_j (by decide) (by decide) h_14 h_39
                refine g_if_eq C 55 dX9_told_42 (by decide) (fun c_42 => ?_) (fun c_42 => ?_)
                · exact absurd c_42 (by decide)
                · refine g_aload_n C dX9_told_45 rfl ?_
                  refine g_iload_n C dX9_told_46 rfl ?_
                  refine g_iload C dX9_told_47 rfl ?_
                  refine g_callVi C sV_X9_92 dX9_told_49 (c_X9_isColour _ δ _ hu8 _ hn h4) ⟨by decide, by decide⟩ (wO_M δ _) rfl rfl rfl rfl (Nat.le_of_ble_eq_true rfl) (fun r_49 s_49 h_49 => ?_)
                  obtain ⟨rfl, h_49⟩ := h_49
                  rcases h_49 with ⟨rfl, h_49⟩ | ⟨rfl, h_49⟩
                  · obtain ⟨d1, hd1, rfl⟩ := id h_49
                    refine g_if_ne C 57 dX9_told_52 (by decide) (fun c_52 => ?_) (fun c_52 => ?_)
                    · refine g_aload_n C dX9_told_57 rfl ?_
                      refine g_iload_n C dX9_told_58 rfl ?_
                      refine g_iload C dX9_told_59 rfl ?_
                      refine g_callVi C sV_X9_203 dX9_told_61 (c_X9_evenFaultb _ δ _ hu8 (k := j1) (by omega) K R) ⟨by decide, by decide⟩ (wO_M δ _) rfl rfl rfl rfl (Nat.le_of_ble_eq_true rfl) (fun r_61 s_61 h_61 => ?_)
                      obtain ⟨e_61, ⟨y_61, rfl⟩, g_61, n_61⟩ := h_61
                      refine g_istore C dX9_told_64 (Nat.le_of_ble_eq_true rfl) rfl ?_
                      refine g_lv [some _, some _, some _, some _, some _, some _, some _, none, none] (gs_some (gs_some (gs_some (gs_some (gs_some (gs_some (gs_some (gs_none (gs_none gs_nil))))))))) ?_
                      refine g_iload C dX9_told_66 rfl ?_
                      refine g_if_ge C 74 dX9_told_68 (by decide) (fun c_68 => ?_) (fun c_68 => ?_)
                      · obtain ⟨⟨hev, hs0⟩, hl, e15⟩ := g_61 (Int32.not_lt.mpr c_68)
                        refine g_aload_n C dX9_told_74 rfl ?_
                        refine g_iload_n C dX9_told_75 rfl ?_
                        refine g_iload C dX9_told_76 rfl ?_
                        refine g_iconst (v := 0) C dX9_told_78 (by decide) ?_
                        refine g_iconst (v := 0) C dX9_told_79 (by decide) ?_
                        refine g_iload C dX9_told_80 rfl ?_
                        refine g_iload C dX9_told_82 rfl ?_
                        refine g_callVv C sV_X9_206 dX9_told_84 (c_X9_goesb _ δ _ hu8 (k := j1) (by omega) _ _ _ _ (al := alJ j1 d1) (by decide) (nI_nn (by omega)) (hM_J (by omega) (by omega)) (KM_sn (a := σ) (gSn_G (by omega) (gSn_r _)) K) R hev hl e15) ⟨by decide, by decide⟩ (wO_M δ _) rfl rfl rfl rfl (Nat.le_of_ble_eq_true rfl) (fun s_84 h_84 => ?_)
                        obtain ⟨q_84, w_84, t_84⟩ := h_84
                        refine g_aload_n C dX9_told_87 rfl ?_
                        refine g_iload C dX9_told_88 rfl ?_
                        refine g_callVl C sV_X9_214 dX9_told_90 (c_X9_sumb _ δ _ (k := j1) (by omega) w_84) ⟨by decide, by decide⟩ (wO_M δ _) rfl rfl rfl rfl (Nat.le_of_ble_eq_true rfl) (fun r_90 s_90 h_90 => ?_)
                        obtain ⟨rfl, rfl⟩ := h_90
                        refine g_lstore C dX9_told_93 (Nat.le_of_ble_eq_true rfl) rfl ?_
                        refine g_lv [some _, some _, some _, some _, some _, some _, some _, some _, none] (gs_some (gs_some (gs_some (gs_some (gs_some (gs_some (gs_some (gs_some (gs_none gs_nil))))))))) ?_
                        refine g_lload C dX9_told_95 rfl ?_
                        refine g_lconst (v := 0) C dX9_told_97 (by decide) ?_
                        refine g_lcmp C dX9_told_98 ?_
                        refine g_if_ne C 105 dX9_told_99 (by decide) (fun c_99 => ?_) (fun c_99 => ?_)
                        · rw [lg_cmp_eq] at c_99
                          have hq0 : ¬ qTo v u1 j1 (alJ j1 d1) = 0 := fun z => c_99 (by rw [show sN (wW true (bS (vS v) u1) (tS (vS v) u1) (alJ j1 d1) j1) 2197 = 0 from z]; rfl)
                          refine g_aload_n C dX9_told_105 rfl ?_
                          refine g_iload_n C dX9_told_106 rfl ?_
                          refine g_iload C dX9_told_107 rfl ?_
                          refine g_iload_n C dX9_told_109 rfl ?_
                          refine g_iload_n C dX9_told_110 rfl ?_
                          refine g_iload C dX9_told_111 rfl ?_
                          refine g_iload C dX9_told_113 rfl ?_
                          refine g_callVv C sV_X9_206 dX9_told_115 (c_X9_goesb _ δ _ hu8 (k := j1) (by omega) _ _ _ _ (al := alIJ i1 c1 j1 d1) (nI_nn (by omega)) (nI_nn (by omega)) (hM_IJ (by omega) (by omega) (by omega) (by omega)) (KM_sn (a := σ) (gSn_t (gSn_G (by omega) (gSn_r _)) q_84.n) K) R hev hl ((q_84.2.2.2.1 15 (by decide)).trans e15)) ⟨by decide, by decide⟩ (wO_M δ _) rfl rfl rfl rfl (Nat.le_of_ble_eq_true rfl) (fun s_115 h_115 => ?_)
                          obtain ⟨q_115, w_115, t_115⟩ := h_115
                          refine g_aload_n C dX9_told_118 rfl ?_
                          refine g_aload_n C dX9_told_119 rfl ?_
                          refine g_iload C dX9_told_120 rfl ?_
                          refine g_callVl C sV_X9_214 dX9_told_122 (c_X9_sumb _ δ _ (k := j1) (by omega) w_115) ⟨by decide, by decide⟩ (wO_M δ _) rfl rfl rfl rfl (Nat.le_of_ble_eq_true rfl) (fun r_122 s_122 h_122 => ?_)
                          obtain ⟨rfl, rfl⟩ := h_122
                          refine g_lload C dX9_told_125 rfl ?_
                          refine g_callVi C sV_X9_174 dX9_told_127 (c_X9_tellsb _ δ _ (a := qTo v u1 j1 (alIJ i1 c1 j1 d1)) (b := qTo v u1 j1 (alJ j1 d1)) (by omega) (by have := qTo_le R hu8 hev (k := j1) (by omega) (alJ j1 d1); omega) (by have := qTo_le R hu8 hev (k := j1) (by omega) (alIJ i1 c1 j1 d1); omega)) ⟨by decide, by decide⟩ (wO_M δ _) rfl rfl rfl rfl (Nat.le_of_ble_eq_true rfl) (fun r_127 s_127 h_127 => ?_)
                          obtain ⟨rfl, zt, mt, -⟩ := h_127
                          exact g_iret C E dX9_told_130 rfl rfl ⟨_, rfl, TH_y ((toldOk_i hu1 hu8 hi1 hj1 hj2 hc1 hd1 h4).mpr ⟨⟨hev, hs0⟩, hl, hq0⟩) (gSn_t (gSn_t (gSn_t (gSn_G (by omega) (gSn_r _)) q_84.n) q_115.n) zt) (by rw [gTold_at hu8 (by omega) (by omega) hj2 (by omega)]; exact mt)⟩
                        · rw [lg_cmp_eq] at c_99
                          have hq0 : qTo v u1 j1 (alJ j1 d1) = 0 := (lN_z (by have := qTo_le R hu8 hev (k := j1) (by omega) (alJ j1 d1); omega)).mp c_99
                          refine g_bipush (v := (-2)) C dX9_told_102 (by decide) ?_
                          exact g_iret C E dX9_told_104 rfl rfl ⟨_, rfl, TH_n (fun z => ((toldOk_i hu1 hu8 hi1 hj1 hj2 hc1 hd1 h4).mp z).2.2 hq0) (gSn_t (gSn_G (by omega) (gSn_r _)) q_84.n) (MF_q q_84 (MF_15 hF))⟩
                      · refine g_iload C dX9_told_71 rfl ?_
                        exact g_iret C E dX9_told_73 rfl rfl ⟨_, rfl, TH_n (fun z => n_61 (Int32.not_le.mp c_68) ⟨((toldOk_i hu1 hu8 hi1 hj1 hj2 hc1 hd1 h4).mp z).1, ((toldOk_i hu1 hu8 hi1 hj1 hj2 hc1 hd1 h4).mp z).2.1⟩) (gSn_G (by omega) (gSn_r _)) (MF_15 hF)⟩
                    · exact absurd c_52 (by decide)
                  · skip
                    refine g_if_ne C 57 dX9_told_52 (by decide) (fun c_52 => ?_) (fun c_52 => ?_)
                    · exact absurd c_52 (by decide)
                    · refine g_iconst (v := (-1)) C dX9_told_55 (by decide) ?_
                      exact g_iret C E dX9_told_56 rfl rfl ⟨_, rfl, TH_n (by first | exact fun z => h_2 z.1.1.1 | exact fun z => h_23 ((okC_n hu8).mp z.1.2.1) | exact fun z => h_49 ((okC_n hu8).mp z.1.2.2) | exact fun z => h_14 (gin_i z.1.1.2.1 z.1.1.2.2.1 z.1.1.2.2.2) | exact fun z => h_39 (gin_k h_14 z.1.1.2.2.1 z.1.1.2.2.2)) (gSn_r _) hF⟩
              · skip
                refine g_if_eq C 55 dX9_told_42 (by decide) (fun c_42 => ?_) (fun c_42 => ?_)
                · refine g_iconst (v := (-1)) C dX9_told_55 (by decide) ?_
                  exact g_iret C E dX9_told_56 rfl rfl ⟨_, rfl, TH_n (by first | exact fun z => h_2 z.1.1.1 | exact fun z => h_23 ((okC_n hu8).mp z.1.2.1) | exact fun z => h_49 ((okC_n hu8).mp z.1.2.2) | exact fun z => h_14 (gin_i z.1.1.2.1 z.1.1.2.2.1 z.1.1.2.2.2) | exact fun z => h_39 (gin_k h_14 z.1.1.2.2.1 z.1.1.2.2.2)) (gSn_r _) hF⟩
                · exact absurd c_42 (by decide)
          · skip
            refine g_if_eq C 55 dX9_told_26 (by decide) (fun c_26 => ?_) (fun c_26 => ?_)
            · refine g_iconst (v := (-1)) C dX9_told_55 (by decide) ?_
              exact g_iret C E dX9_told_56 rfl rfl ⟨_, rfl, TH_n (by first | exact fun z => h_2 z.1.1.1 | exact fun z => h_23 ((okC_n hu8).mp z.1.2.1) | exact fun z => h_49 ((okC_n hu8).mp z.1.2.2) | exact fun z => h_14 (gin_i z.1.1.2.1 z.1.1.2.2.1 z.1.1.2.2.2) | exact fun z => h_39 (gin_k h_14 z.1.1.2.2.1 z.1.1.2.2.2)) (gSn_r _) hF⟩
            · exact absurd c_26 (by decide)
      · skip
        refine g_if_eq C 55 dX9_told_17 (by decide) (fun c_17 => ?_) (fun c_17 => ?_)
        · refine g_iconst (v := (-1)) C dX9_told_55 (by decide) ?_
          exact g_iret C E dX9_told_56 rfl rfl ⟨_, rfl, TH_n (by first | exact fun z => h_2 z.1.1.1 | exact fun z => h_23 ((okC_n hu8).mp z.1.2.1) | exact fun z => h_49 ((okC_n hu8).mp z.1.2.2) | exact fun z => h_14 (gin_i z.1.1.2.1 z.1.1.2.2.1 z.1.1.2.2.2) | exact fun z => h_39 (gin_k h_14 z.1.1.2.2.1 z.1.1.2.2.2)) (gSn_r _) hF⟩
        · exact absurd c_17 (by decide)
  · skip
    refine g_if_eq C 55 dX9_told_5 (by decide) (fun c_5 => ?_) (fun c_5 => ?_)
    · refine g_iconst (v := (-1)) C dX9_told_55 (by decide) ?_
      exact g_iret C E dX9_told_56 rfl rfl ⟨_, rfl, TH_n (by first | exact fun z => h_2 z.1.1.1 | exact fun z => h_23 ((okC_n hu8).mp z.1.2.1) | exact fun z => h_49 ((okC_n hu8).mp z.1.2.2) | exact fun z => h_14 (gin_i z.1.1.2.1 z.1.1.2.2.1 z.1.1.2.2.2) | exact fun z => h_39 (gin_k h_14 z.1.1.2.2.1 z.1.1.2.2.2)) (gSn_r _) hF⟩
    · exact absurd c_5 (by decide)
set_option maxRecDepth 100000 in
set_option maxHeartbeats 4000000 in
theorem c_X9_shareb (l : Launch) (δ : GD) (σ : GS) (a0 a1 a2 : Int32) {v : GV} (K : KM σ v) (R : RV v) {F : GF} (hF : MF σ F) : gM l δ yX9_share cX9_share 10 (some .int) 3 71 [.ref (δ.2.2.1 1), .int a0, .int a1, .int a2] σ (gPi (fun x σ' => x = aShare v a0 a1 a2 ∧ gSn σ σ' ∧ MF σ' (gFr (aShare v a0 a1 a2) (gShare v a0 a1 a2) F))) := by
  refine g_of (lv0 := [some (.ref (δ.2.2.1 1)), some (.int a0), some (.int a1), some (.int a2), none, none, none, none, none, none]) (by decide) rfl (Nat.le_of_ble_eq_true rfl) (fun Γ hl C E => ?_)
  subst hl
  have C : gC Γ δ cX9_share RX9 10 3 71 := C
  have hm := K.1
  have h8 := R.1
  have hV := hV_of K R
  refine g_aload_n C dX9_share_0 rfl ?_
  refine g_iload_n C dX9_share_1 rfl ?_
  refine g_callVi C sV_X9_89 dX9_share_2 (c_X9_isUrn _ δ _ _ hm h8) ⟨by decide, by decide⟩ (wO_M δ _) rfl rfl rfl rfl (Nat.le_of_ble_eq_true rfl) (fun r_2 s_2 h_2 => ?_)
  obtain ⟨rfl, h_2⟩ := h_2
  rcases h_2 with ⟨rfl, h_2⟩ | ⟨rfl, h_2⟩
  · obtain ⟨u1, hu1, rfl⟩ := id h_2
    have hu8 : u1 < 8 := by omega
    obtain ⟨h2, h4⟩ := (R.2.1 u1 hu8).1 hu1
    have hn := K.2.1 u1 hu8
    refine g_if_eq C 29 dX9_share_5 (by decide) (fun c_5 => ?_) (fun c_5 => ?_)
    · exact absurd c_5 (by decide)
    · refine g_aload_n C dX9_share_8 rfl ?_
      refine g_iload_n C dX9_share_9 rfl ?_
      refine g_iload_n C dX9_share_10 rfl ?_
      refine g_callVi C sV_X9_92 dX9_share_11 (c_X9_isColour _ δ _ hu8 _ hn h4) ⟨by decide, by decide⟩ (wO_M δ _) rfl rfl rfl rfl (Nat.le_of_ble_eq_true rfl) (fun r_11 s_11 h_11 => ?_)
      obtain ⟨rfl, h_11⟩ := h_11
      rcases h_11 with ⟨rfl, h_11⟩ | ⟨rfl, h_11⟩
      · obtain ⟨c1, hc1, rfl⟩ := id h_11
        refine g_if_eq C 29 dX9_share_14 (by decide) (fun c_14 => ?_) (fun c_14 => ?_)
        · exact absurd c_14 (by decide)
        · refine g_iload_n C dX9_share_17 rfl ?_
          refine g_i2l C dX9_share_18 ?_
          refine g_lconst (v := 1) C dX9_share_19 (by decide) ?_
          refine g_ldc2 C dX9_share_20 mW706 ?_
          refine g_callSi C sS_X9_62 dX9_share_23 (c_X9_in _ δ _ _ _ _) ⟨by decide, by decide⟩ rfl rfl rfl (Nat.le_of_ble_eq_true rfl) (fun r_23 s_23 h_23 => ?_)
          obtain ⟨rfl, h_23⟩ := h_23
          rcases h_23 with ⟨rfl, h_23⟩ | ⟨rfl, h_23⟩
          · have h4b := gin4.mp h_23
            obtain ⟨m1, -, hm1, rfl⟩ := gin13 (m := 4) (by decide) (by decide) (by decide) h_23
            refine g_if_ne C 31 dX9_share_26 (by decide) (fun c_26 => ?_) (fun c_26 => ?_)
            · refine g_aload_n C dX9_share_31 rfl ?_
              refine g_iload_n C dX9_share_32 rfl ?_
              refine g_iconst (v := 0) C dX9_share_33 (by decide) ?_
              refine g_callVi C sV_X9_107 dX9_share_34 (c_X9_addedSum _ δ _ hu8 (c := 0) (by omega)) ⟨by decide, by decide⟩ (wO_M δ _) rfl rfl rfl rfl (Nat.le_of_ble_eq_true rfl) (fun r_34 s_34 h_34 => ?_)
              obtain ⟨rfl, rfl⟩ := h_34
              rw [KM_gr K hu8 (by omega)]
              refine g_istore C dX9_share_37 (Nat.le_of_ble_eq_true rfl) rfl ?_
              refine g_lv [some _, some _, some _, some _, some _, none, none, none, none, none] (gs_some (gs_some (gs_some (gs_some (gs_some (gs_none (gs_none (gs_none (gs_none (gs_none gs_nil)))))))))) ?_
              refine g_aload_n C dX9_share_39 rfl ?_
              refine g_iload_n C dX9_share_40 rfl ?_
              refine g_callVi C sV_X9_117 dX9_share_41 (c_X9_isLike _ δ _ hu8 hn h4) ⟨by decide, by decide⟩ (wO_M δ _) rfl rfl rfl rfl (Nat.le_of_ble_eq_true rfl) (fun r_41 s_41 h_41 => ?_)
              obtain ⟨rfl, h_41⟩ := h_41
              refine g_if_eq C 60 dX9_share_44 (by decide) (fun c_44 => ?_) (fun c_44 => ?_)
              · refine g_bipush (v := (-2)) C dX9_share_60 (by decide) ?_
                exact g_iret C E dX9_share_62 rfl rfl ⟨_, rfl, TG_n ((aShare_at hu1 hu8 hc1 h4b).trans (gIf_f (by first | exact fun z => gAcc_n h_41 c_44 ((KM_lk K R hu8).mpr z.1) | exact fun z => z.2.1 c_49 | exact fun z => z.2.2 c_57))).symm (by decide) (gSn_r _) hF⟩
              · refine g_iload C dX9_share_47 rfl ?_
                refine g_if_eq C 60 dX9_share_49 (by decide) (fun c_49 => ?_) (fun c_49 => ?_)
                · refine g_bipush (v := (-2)) C dX9_share_60 (by decide) ?_
                  exact g_iret C E dX9_share_62 rfl rfl ⟨_, rfl, TG_n ((aShare_at hu1 hu8 hc1 h4b).trans (gIf_f (by first | exact fun z => gAcc_n h_41 c_44 ((KM_lk K R hu8).mpr z.1) | exact fun z => z.2.1 c_49 | exact fun z => z.2.2 c_57))).symm (by decide) (gSn_r _) hF⟩
                · refine g_aload_n C dX9_share_52 rfl ?_
                  refine g_iload_n C dX9_share_53 rfl ?_
                  refine g_callVi C sV_X9_113 dX9_share_54 (c_X9_balls _ δ _ hu8) ⟨by decide, by decide⟩ (wO_M δ _) rfl rfl rfl rfl (Nat.le_of_ble_eq_true rfl) (fun r_54 s_54 h_54 => ?_)
                  obtain ⟨rfl, rfl⟩ := h_54
                  rw [KM_sum K hu8]
                  refine g_if_ne C 63 dX9_share_57 (by decide) (fun c_57 => ?_) (fun c_57 => ?_)
                  · have hlk := (KM_lk K R hu8).mp (gAcc_y h_41 c_44)
                    have hs1 : ¬ (gGr (tS (vS v) u1) 0 4) ≤ 0 := fun z => c_49 (Int32.le_antisymm z hlk.1.2)
                    refine g_lconst (v := 1) C dX9_share_63 (by decide) ?_
                    refine g_lstore C dX9_share_64 (Nat.le_of_ble_eq_true rfl) rfl ?_
                    refine g_lv [some _, some _, some _, some _, some _, some _, none, none, none, none] (gs_some (gs_some (gs_some (gs_some (gs_some (gs_some (gs_none (gs_none (gs_none (gs_none gs_nil)))))))))) ?_
                    refine g_lconst (v := 1) C dX9_share_66 (by decide) ?_
                    refine g_lstore C dX9_share_67 (Nat.le_of_ble_eq_true rfl) rfl ?_
                    refine g_lv [some _, some _, some _, some _, some _, some _, none, some _, none, none] (gs_some (gs_some (gs_some (gs_some (gs_some (gs_some (gs_none (gs_some (gs_none (gs_none gs_nil)))))))))) ?_
                    refine g_iconst (v := 0) C dX9_share_69 (by decide) ?_
                    refine g_istore C dX9_share_70 (Nat.le_of_ble_eq_true rfl) rfl ?_
                    refine g_lv [some _, some _, some _, some _, some _, some _, none, some _, none, some _] (gs_some (gs_some (gs_some (gs_some (gs_some (gs_some (gs_none (gs_some (gs_none (gs_some gs_nil)))))))))) ?_
                    have L_72 : ∀ (nn : Nat) (i : Nat) (hi : i ≤ m1), m1 - i < nn → gW Γ δ σ 72 [some (.ref (δ.2.2.1 1)), some (.int (nI u1)), some (.int (nI c1)), some (.int (nI m1)), some (.int (gGr (tS (vS v) u1) 0 4)), some (.long (pSh (bS (vS v) u1 c1) (gGr (tS (vS v) u1) 0 4) i)), none, some (.long (pSh (sumS (vS v) u1) (gGr (tS (vS v) u1) 0 4) i)), none, some (.int (nI i))] [] := by
                      intro nn
                      induction nn with
                      | zero =>
                        intro i hi hm_72
                        exact absurd hm_72 (Nat.not_lt_zero _)
                      | succ nn ih_72 =>
                        intro i hi hm_72
                        refine g_iload C dX9_share_72 rfl ?_
                        refine g_iload_n C dX9_share_74 rfl ?_
                        refine g_icmp_ge C 124 dX9_share_75 (by decide) (fun c_75 => ?_) (fun c_75 => ?_)
                        · have k_75 := gle c_75 (a := m1) (b := i) (by first | rfl | assumption | (simp only [glit, nI_add, pk_mul]; done) | (simp only [glit, nI_add, pk_mul]; congr 1; omega) | (simp only [*, glit, nI_add, pk_mul]; congr 1; omega)) (by first | rfl | assumption | (simp only [glit, nI_add, pk_mul]; done) | (simp only [glit, nI_add, pk_mul]; congr 1; omega) | (simp only [*, glit, nI_add, pk_mul]; congr 1; omega)) (by omega) (by omega)
                          have ei : i = m1 := by omega
                          subst ei
                          obtain ⟨⟨p1, p2⟩, p3, p4, p5⟩ := sh_b R hu8 (c := c1) (by omega) hs1 c_57 (m := i) (by omega)
                          rw [p1, p3]
                          refine g_aload_n C dX9_share_124 rfl ?_
                          refine g_lload C dX9_share_125 rfl ?_
                          refine g_lload C dX9_share_127 rfl ?_
                          refine g_callVi C sV_X9_174 dX9_share_129 (c_X9_tellsb _ δ _ (a := shN (bS (vS v) u1 c1) (gGr (tS (vS v) u1) 0 4) i) (b := shN (sumS (vS v) u1) (gGr (tS (vS v) u1) 0 4) i) p5 p4 p2) ⟨by decide, by decide⟩ (wO_M δ _) rfl rfl rfl rfl (Nat.le_of_ble_eq_true rfl) (fun r_129 s_129 h_129 => ?_)
                          obtain ⟨rfl, zt, mt, -⟩ := h_129
                          exact g_iret C E dX9_share_132 rfl rfl ⟨_, rfl, TG_y ((aShare_at hu1 hu8 hc1 h4b).trans (gIf_t ⟨hlk, c_49, c_57⟩)).symm rfl zt (by rw [gShare_at hu8 (by omega) (by omega)]; exact mt)⟩
                        · have k_75 := gnle c_75 (a := m1) (b := i) (by first | rfl | assumption | (simp only [glit, nI_add, pk_mul]; done) | (simp only [glit, nI_add, pk_mul]; congr 1; omega) | (simp only [*, glit, nI_add, pk_mul]; congr 1; omega)) (by first | rfl | assumption | (simp only [glit, nI_add, pk_mul]; done) | (simp only [glit, nI_add, pk_mul]; congr 1; omega) | (simp only [*, glit, nI_add, pk_mul]; congr 1; omega)) (by omega) (by omega)
                          refine g_lload C dX9_share_78 rfl ?_
                          refine g_aload_n C dX9_share_80 rfl ?_
                          refine g_get C dX9_share_81 iwX9 rfl (wO_M δ _) 6 (Nat.le_of_ble_eq_true rfl) mW578 rfl rfl ?_
                          refine g_bipush (v := 25) C dX9_share_84 (by decide) ?_
                          refine g_iload_n C dX9_share_86 rfl ?_
                          refine g_imul C dX9_share_87 ?_
                          refine g_iload_n C dX9_share_88 rfl ?_
                          refine g_iadd C dX9_share_89 ?_
                          refine g_ialdN C dX9_share_90 (k := ((25 * u1) + c1)) (q := 53) (by decide) rfl (by first | rfl | assumption | (simp only [glit, nI_add, pk_mul]; done) | (simp only [glit, nI_add, pk_mul]; congr 1; omega) | (simp only [*, glit, nI_add, pk_mul]; congr 1; omega)) (show ((25 * u1) + c1) < gLenI 53 from Nat.lt_of_lt_of_eq (show ((25 * u1) + c1) < 202 by omega) rfl) ?_
                          rw [show gI σ 53 (25 * u1 + c1) = bS (vS v) u1 c1 from K.2.2.1 _ (by omega)]
                          refine g_iload C dX9_share_91 rfl ?_
                          refine g_iload C dX9_share_93 rfl ?_
                          refine g_imul C dX9_share_95 ?_
                          refine g_iadd C dX9_share_96 ?_
                          refine g_i2l C dX9_share_97 ?_
                          refine g_lmul C dX9_share_98 ?_
                          refine g_lstore C dX9_share_99 (Nat.le_of_ble_eq_true rfl) rfl ?_
                          refine g_lv [some _, some _, some _, some _, some _, some _, none, some _, none, some _] (gs_some (gs_some (gs_some (gs_some (gs_some (gs_some (gs_none (gs_some (gs_none (gs_some gs_nil)))))))))) ?_
                          refine g_lload C dX9_share_101 rfl ?_
                          refine g_aload_n C dX9_share_103 rfl ?_
                          refine g_iload_n C dX9_share_104 rfl ?_
                          refine g_callVi C sV_X9_113 dX9_share_105 (c_X9_balls _ δ _ hu8) ⟨by decide, by decide⟩ (wO_M δ _) rfl rfl rfl rfl (Nat.le_of_ble_eq_true rfl) (fun r_105 s_105 h_105 => ?_)
                          obtain ⟨rfl, rfl⟩ := h_105
                          rw [KM_sum K hu8]
                          refine g_iload C dX9_share_108 rfl ?_
                          refine g_iload C dX9_share_110 rfl ?_
                          refine g_imul C dX9_share_112 ?_
                          refine g_iadd C dX9_share_113 ?_
                          refine g_i2l C dX9_share_114 ?_
                          refine g_lmul C dX9_share_115 ?_
                          refine g_lstore C dX9_share_116 (Nat.le_of_ble_eq_true rfl) rfl ?_
                          refine g_lv [some _, some _, some _, some _, some _, some _, none, some _, none, some _] (gs_some (gs_some (gs_some (gs_some (gs_some (gs_some (gs_none (gs_some (gs_none (gs_some gs_nil)))))))))) ?_
                          refine g_iinc (v := nI (i + 1)) C dX9_share_118 rfl (ginc _ 1) rfl ?_
                          refine g_lv [some _, some _, some _, some _, some _, some _, none, some _, none, some _] (gs_some (gs_some (gs_some (gs_some (gs_some (gs_some (gs_none (gs_some (gs_none (gs_some gs_nil)))))))))) ?_
                          refine g_goto C 72 dX9_share_121 (by decide) ?_
                          refine g_lv [some _, some _, some _, some _, some _, some _, none, some _, none, some _] (gs_some (gs_some (gs_some (gs_some (gs_some (gs_some (gs_none (gs_some (gs_none (gs_some gs_nil)))))))))) ?_
                          exact ih_72 (i + 1) (by omega) (by omega)
                    refine g_lv [some _, some _, some _, some _, some _, some _, none, some _, none, some _] (gs_some (gs_some (gs_some (gs_some (gs_some (gs_some (gs_none (gs_some (gs_none (gs_some gs_nil)))))))))) ?_
                    exact L_72 _ 0 (by omega) (Nat.lt_succ_self _)
                  · refine g_bipush (v := (-2)) C dX9_share_60 (by decide) ?_
                    exact g_iret C E dX9_share_62 rfl rfl ⟨_, rfl, TG_n ((aShare_at hu1 hu8 hc1 h4b).trans (gIf_f (by first | exact fun z => gAcc_n h_41 c_44 ((KM_lk K R hu8).mpr z.1) | exact fun z => z.2.1 c_49 | exact fun z => z.2.2 c_57))).symm (by decide) (gSn_r _) hF⟩
            · exact absurd c_26 (by decide)
          · skip
            refine g_if_ne C 31 dX9_share_26 (by decide) (fun c_26 => ?_) (fun c_26 => ?_)
            · exact absurd c_26 (by decide)
            · refine g_iconst (v := (-1)) C dX9_share_29 (by decide) ?_
              exact g_iret C E dX9_share_30 rfl rfl ⟨_, rfl, TG_n (by first | exact (gIf_f (fun z => h_2 z.1.1)).symm | exact (gIf_f (fun z => h_11 ((okC_n hu8).mp z.1.2))).symm | exact (gIf_f (fun z => h_23 (gin4.mpr z.2))).symm) (by decide) (gSn_r _) hF⟩
      · skip
        refine g_if_eq C 29 dX9_share_14 (by decide) (fun c_14 => ?_) (fun c_14 => ?_)
        · refine g_iconst (v := (-1)) C dX9_share_29 (by decide) ?_
          exact g_iret C E dX9_share_30 rfl rfl ⟨_, rfl, TG_n (by first | exact (gIf_f (fun z => h_2 z.1.1)).symm | exact (gIf_f (fun z => h_11 ((okC_n hu8).mp z.1.2))).symm | exact (gIf_f (fun z => h_23 (gin4.mpr z.2))).symm) (by decide) (gSn_r _) hF⟩
        · exact absurd c_14 (by decide)
  · skip
    refine g_if_eq C 29 dX9_share_5 (by decide) (fun c_5 => ?_) (fun c_5 => ?_)
    · refine g_iconst (v := (-1)) C dX9_share_29 (by decide) ?_
      exact g_iret C E dX9_share_30 rfl rfl ⟨_, rfl, TG_n (by first | exact (gIf_f (fun z => h_2 z.1.1)).symm | exact (gIf_f (fun z => h_11 ((okC_n hu8).mp z.1.2))).symm | exact (gIf_f (fun z => h_23 (gin4.mpr z.2))).symm) (by decide) (gSn_r _) hF⟩
    · exact absurd c_5 (by decide)
set_option maxRecDepth 100000 in
set_option maxHeartbeats 4000000 in
theorem c_X9_chanceb (l : Launch) (δ : GD) (σ : GS) (a0 a1 a2 : Int32) {v : GV} (K : KM σ v) (R : RV v) {F : GF} (hF : MF σ F) : gM l δ yX9_chance cX9_chance 5 (some .int) 2 66 [.ref (δ.2.2.1 1), .int a0, .int a1, .int a2] σ (gPi (fun x σ' => x = aChance v a0 a1 a2 ∧ gSn σ σ' ∧ MF σ' (gFr (aChance v a0 a1 a2) (gChance v a0 a1 a2) F))) := by
  refine g_of (lv0 := [some (.ref (δ.2.2.1 1)), some (.int a0), some (.int a1), some (.int a2), none]) (by decide) rfl (Nat.le_of_ble_eq_true rfl) (fun Γ hl C E => ?_)
  subst hl
  have C : gC Γ δ cX9_chance RX9 5 2 66 := C
  have hm := K.1
  have h8 := R.1
  refine g_aload_n C dX9_chance_0 rfl ?_
  refine g_iload_n C dX9_chance_1 rfl ?_
  refine g_callVi C sV_X9_89 dX9_chance_2 (c_X9_isUrn _ δ _ _ hm h8) ⟨by decide, by decide⟩ (wO_M δ _) rfl rfl rfl rfl (Nat.le_of_ble_eq_true rfl) (fun r_2 s_2 h_2 => ?_)
  obtain ⟨rfl, h_2⟩ := h_2
  rcases h_2 with ⟨rfl, h_2⟩ | ⟨rfl, h_2⟩
  · obtain ⟨u1, hu1, rfl⟩ := id h_2
    have hu8 : u1 < 8 := by omega
    obtain ⟨h2, h4⟩ := (R.2.1 u1 hu8).1 hu1
    have hn := K.2.1 u1 hu8
    refine g_if_eq C 24 dX9_chance_5 (by decide) (fun c_5 => ?_) (fun c_5 => ?_)
    · exact absurd c_5 (by decide)
    · refine g_iload_n C dX9_chance_8 rfl ?_
      refine g_i2l C dX9_chance_9 ?_
      refine g_lconst (v := 0) C dX9_chance_10 (by decide) ?_
      refine g_ldc2 C dX9_chance_11 mW792 ?_
      refine g_callSi C sS_X9_62 dX9_chance_14 (c_X9_in _ δ _ _ _ _) ⟨by decide, by decide⟩ rfl rfl rfl (Nat.le_of_ble_eq_true rfl) (fun r_14 s_14 h_14 => ?_)
      obtain ⟨rfl, h_14⟩ := h_14
      rw [gInL_ix (m := 13) (by omega) (by decide)] at h_14
      rcases h_14 with ⟨rfl, h_14⟩ | ⟨rfl, h_14⟩
      · obtain ⟨k1, hk1, rfl⟩ := id h_14
        refine g_if_eq C 24 dX9_chance_17 (by decide) (fun c_17 => ?_) (fun c_17 => ?_)
        · exact absurd c_17 (by decide)
        · refine g_iload_n C dX9_chance_20 rfl ?_
          refine g_if_ge C 26 dX9_chance_21 (by decide) (fun c_21 => ?_) (fun c_21 => ?_)
          · obtain ⟨w1, hw1, rfl⟩ := nI_of (Int32.not_lt.mpr c_21)
            refine g_iconst (v := 0) C dX9_chance_26 (by decide) ?_
            refine g_istore C dX9_chance_27 (Nat.le_of_ble_eq_true rfl) rfl ?_
            refine g_lv [some _, some _, some _, some _, some _] (gs_some (gs_some (gs_some (gs_some (gs_some gs_nil))))) ?_
            have L_29 : ∀ (nn : Nat) (i : Nat) (hi : i ≤ k1) (hd : ∀ j, j < i → gDig w1 j < vC v u1), k1 - i < nn → gW Γ δ σ 29 [some (.ref (δ.2.2.1 1)), some (.int (nI u1)), some (.int (nI k1)), some (.int (nI w1)), some (.int (nI i))] [] := by
              intro nn
              induction nn with
              | zero =>
                intro i hi hd hm_29
                exact absurd hm_29 (Nat.not_lt_zero _)
              | succ nn ih_29 =>
                intro i hi hd hm_29
                refine g_iload C dX9_chance_29 rfl ?_
                refine g_iload_n C dX9_chance_31 rfl ?_
                refine g_icmp_ge C 60 dX9_chance_32 (by decide) (fun c_32 => ?_) (fun c_32 => ?_)
                · have k_32 := gle c_32 (a := k1) (b := i) (by first | rfl | assumption | (simp only [glit, nI_add, pk_mul]; done) | (simp only [glit, nI_add, pk_mul]; congr 1; omega) | (simp only [*, glit, nI_add, pk_mul]; congr 1; omega)) (by first | rfl | assumption | (simp only [glit, nI_add, pk_mul]; done) | (simp only [glit, nI_add, pk_mul]; congr 1; omega) | (simp only [*, glit, nI_add, pk_mul]; congr 1; omega)) (by omega) (by omega)
                  have ek : k1 = i := by omega
                  subst ek
                  refine g_iload_n C dX9_chance_60 rfl ?_
                  refine g_if_le C 75 dX9_chance_61 (by decide) (fun c_61 => ?_) (fun c_61 => ?_)
                  · refine g_aload_n C dX9_chance_75 rfl ?_
                    refine g_iload_n C dX9_chance_76 rfl ?_
                    refine g_iload_n C dX9_chance_77 rfl ?_
                    refine g_iload_n C dX9_chance_78 rfl ?_
                    refine g_callVi C sV_X9_170 dX9_chance_79 (c_X9_followsb _ δ _ hu8 (k := k1) (w := w1) (by omega) hw1 K R) ⟨by decide, by decide⟩ (wO_M δ _) rfl rfl rfl rfl (Nat.le_of_ble_eq_true rfl) (fun r_79 s_79 h_79 => ?_)
                    obtain ⟨z_79, -, h_79⟩ := h_79
                    rcases h_79 with ⟨rfl, h_79⟩ | ⟨rfl, h_79⟩ | ⟨rfl, h_79⟩
                    · have nb := qOn_n h_79.1
                      have e4 : gG s_79 13 = lN (vR v u1 k1 w1).1 := by rw [vR_y h_79.1]; exact h_79.2.1
                      have e5 : gG s_79 14 = lN (vR v u1 k1 w1).2 := by rw [vR_y h_79.1]; exact h_79.2.2
                      refine g_if_eq C 100 dX9_chance_82 (by decide) (fun c_82 => ?_) (fun c_82 => ?_)
                      · exact absurd c_82 (by decide)
                      · refine g_aload_n C dX9_chance_85 rfl ?_
                        refine g_aload_n C dX9_chance_86 rfl ?_
                        refine g_get C dX9_chance_87 iwX9 rfl (wO_M δ _) 17 (Nat.le_of_ble_eq_true rfl) mW589 rfl rfl ?_
                        rw [e4]
                        refine g_aload_n C dX9_chance_90 rfl ?_
                        refine g_get C dX9_chance_91 iwX9 rfl (wO_M δ _) 18 (Nat.le_of_ble_eq_true rfl) mW590 rfl rfl ?_
                        rw [e5]
                        refine g_callVi C sV_X9_174 dX9_chance_94 (c_X9_tellsb _ δ _ (a := (vR v u1 k1 w1).1) (b := (vR v u1 k1 w1).2) (vR_b R hu8).1 (vR_b R hu8).2.1 (vR_b R hu8).2.2) ⟨by decide, by decide⟩ (wO_M δ _) rfl rfl rfl rfl (Nat.le_of_ble_eq_true rfl) (fun r_94 s_94 h_94 => ?_)
                        obtain ⟨rfl, zt, mt, -⟩ := h_94
                        refine g_goto C 102 dX9_chance_97 (by decide) ?_
                        exact g_iret C E dX9_chance_102 rfl rfl ⟨_, rfl, (by first | exact TG_y ((aChance_at hu1 hu8 hk1 hw1 hd).trans ((gIf_f (by first | exact fun z => c_69 z.2 | exact fun z => Int32.not_lt.mpr c_61 z.1)).trans (gIf_f nb))).symm rfl (gSn_t z_79.n zt) (by rw [gChance_at hu8 hk1 hw1]; exact mt) | exact TG_n ((aChance_at hu1 hu8 hk1 hw1 hd).trans ((gIf_f (by first | exact fun z => c_69 z.2 | exact fun z => Int32.not_lt.mpr c_61 z.1)).trans (gIf_t h_79))).symm (by decide) z_79.n (MF_v z_79 hF))⟩
                    · have nb := qStk_n h_79.1
                      have e4 : gG s_79 13 = lN (vR v u1 k1 w1).1 := by rw [vR_n h_79.1]; exact h_79.2.1
                      have e5 : gG s_79 14 = lN (vR v u1 k1 w1).2 := by rw [vR_n h_79.1]; exact h_79.2.2
                      refine g_if_eq C 100 dX9_chance_82 (by decide) (fun c_82 => ?_) (fun c_82 => ?_)
                      · exact absurd c_82 (by decide)
                      · refine g_aload_n C dX9_chance_85 rfl ?_
                        refine g_aload_n C dX9_chance_86 rfl ?_
                        refine g_get C dX9_chance_87 iwX9 rfl (wO_M δ _) 17 (Nat.le_of_ble_eq_true rfl) mW589 rfl rfl ?_
                        rw [e4]
                        refine g_aload_n C dX9_chance_90 rfl ?_
                        refine g_get C dX9_chance_91 iwX9 rfl (wO_M δ _) 18 (Nat.le_of_ble_eq_true rfl) mW590 rfl rfl ?_
                        rw [e5]
                        refine g_callVi C sV_X9_174 dX9_chance_94 (c_X9_tellsb _ δ _ (a := (vR v u1 k1 w1).1) (b := (vR v u1 k1 w1).2) (vR_b R hu8).1 (vR_b R hu8).2.1 (vR_b R hu8).2.2) ⟨by decide, by decide⟩ (wO_M δ _) rfl rfl rfl rfl (Nat.le_of_ble_eq_true rfl) (fun r_94 s_94 h_94 => ?_)
                        obtain ⟨rfl, zt, mt, -⟩ := h_94
                        refine g_goto C 102 dX9_chance_97 (by decide) ?_
                        exact g_iret C E dX9_chance_102 rfl rfl ⟨_, rfl, (by first | exact TG_y ((aChance_at hu1 hu8 hk1 hw1 hd).trans ((gIf_f (by first | exact fun z => c_69 z.2 | exact fun z => Int32.not_lt.mpr c_61 z.1)).trans (gIf_f nb))).symm rfl (gSn_t z_79.n zt) (by rw [gChance_at hu8 hk1 hw1]; exact mt) | exact TG_n ((aChance_at hu1 hu8 hk1 hw1 hd).trans ((gIf_f (by first | exact fun z => c_69 z.2 | exact fun z => Int32.not_lt.mpr c_61 z.1)).trans (gIf_t h_79))).symm (by decide) z_79.n (MF_v z_79 hF))⟩
                    · skip
                      refine g_if_eq C 100 dX9_chance_82 (by decide) (fun c_82 => ?_) (fun c_82 => ?_)
                      · refine g_bipush (v := (-6)) C dX9_chance_100 (by decide) ?_
                        exact g_iret C E dX9_chance_102 rfl rfl ⟨_, rfl, (by first | exact TG_y ((aChance_at hu1 hu8 hk1 hw1 hd).trans ((gIf_f (by first | exact fun z => c_69 z.2 | exact fun z => Int32.not_lt.mpr c_61 z.1)).trans (gIf_f nb))).symm rfl (gSn_t z_79.n zt) (by rw [gChance_at hu8 hk1 hw1]; exact mt) | exact TG_n ((aChance_at hu1 hu8 hk1 hw1 hd).trans ((gIf_f (by first | exact fun z => c_69 z.2 | exact fun z => Int32.not_lt.mpr c_61 z.1)).trans (gIf_t h_79))).symm (by decide) z_79.n (MF_v z_79 hF))⟩
                      · exact absurd c_82 (by decide)
                  · refine g_aload_n C dX9_chance_64 rfl ?_
                    refine g_iload_n C dX9_chance_65 rfl ?_
                    refine g_callVi C sV_X9_113 dX9_chance_66 (c_X9_balls _ δ _ hu8) ⟨by decide, by decide⟩ (wO_M δ _) rfl rfl rfl rfl (Nat.le_of_ble_eq_true rfl) (fun r_66 s_66 h_66 => ?_)
                    obtain ⟨rfl, rfl⟩ := h_66
                    rw [KM_sum K hu8]
                    refine g_if_ne C 75 dX9_chance_69 (by decide) (fun c_69 => ?_) (fun c_69 => ?_)
                    · refine g_aload_n C dX9_chance_75 rfl ?_
                      refine g_iload_n C dX9_chance_76 rfl ?_
                      refine g_iload_n C dX9_chance_77 rfl ?_
                      refine g_iload_n C dX9_chance_78 rfl ?_
                      refine g_callVi C sV_X9_170 dX9_chance_79 (c_X9_followsb _ δ _ hu8 (k := k1) (w := w1) (by omega) hw1 K R) ⟨by decide, by decide⟩ (wO_M δ _) rfl rfl rfl rfl (Nat.le_of_ble_eq_true rfl) (fun r_79 s_79 h_79 => ?_)
                      obtain ⟨z_79, -, h_79⟩ := h_79
                      rcases h_79 with ⟨rfl, h_79⟩ | ⟨rfl, h_79⟩ | ⟨rfl, h_79⟩
                      · have nb := qOn_n h_79.1
                        have e4 : gG s_79 13 = lN (vR v u1 k1 w1).1 := by rw [vR_y h_79.1]; exact h_79.2.1
                        have e5 : gG s_79 14 = lN (vR v u1 k1 w1).2 := by rw [vR_y h_79.1]; exact h_79.2.2
                        refine g_if_eq C 100 dX9_chance_82 (by decide) (fun c_82 => ?_) (fun c_82 => ?_)
                        · exact absurd c_82 (by decide)
                        · refine g_aload_n C dX9_chance_85 rfl ?_
                          refine g_aload_n C dX9_chance_86 rfl ?_
                          refine g_get C dX9_chance_87 iwX9 rfl (wO_M δ _) 17 (Nat.le_of_ble_eq_true rfl) mW589 rfl rfl ?_
                          rw [e4]
                          refine g_aload_n C dX9_chance_90 rfl ?_
                          refine g_get C dX9_chance_91 iwX9 rfl (wO_M δ _) 18 (Nat.le_of_ble_eq_true rfl) mW590 rfl rfl ?_
                          rw [e5]
                          refine g_callVi C sV_X9_174 dX9_chance_94 (c_X9_tellsb _ δ _ (a := (vR v u1 k1 w1).1) (b := (vR v u1 k1 w1).2) (vR_b R hu8).1 (vR_b R hu8).2.1 (vR_b R hu8).2.2) ⟨by decide, by decide⟩ (wO_M δ _) rfl rfl rfl rfl (Nat.le_of_ble_eq_true rfl) (fun r_94 s_94 h_94 => ?_)
                          obtain ⟨rfl, zt, mt, -⟩ := h_94
                          refine g_goto C 102 dX9_chance_97 (by decide) ?_
                          exact g_iret C E dX9_chance_102 rfl rfl ⟨_, rfl, (by first | exact TG_y ((aChance_at hu1 hu8 hk1 hw1 hd).trans ((gIf_f (by first | exact fun z => c_69 z.2 | exact fun z => Int32.not_lt.mpr c_61 z.1)).trans (gIf_f nb))).symm rfl (gSn_t z_79.n zt) (by rw [gChance_at hu8 hk1 hw1]; exact mt) | exact TG_n ((aChance_at hu1 hu8 hk1 hw1 hd).trans ((gIf_f (by first | exact fun z => c_69 z.2 | exact fun z => Int32.not_lt.mpr c_61 z.1)).trans (gIf_t h_79))).symm (by decide) z_79.n (MF_v z_79 hF))⟩
                      · have nb := qStk_n h_79.1
                        have e4 : gG s_79 13 = lN (vR v u1 k1 w1).1 := by rw [vR_n h_79.1]; exact h_79.2.1
                        have e5 : gG s_79 14 = lN (vR v u1 k1 w1).2 := by rw [vR_n h_79.1]; exact h_79.2.2
                        refine g_if_eq C 100 dX9_chance_82 (by decide) (fun c_82 => ?_) (fun c_82 => ?_)
                        · exact absurd c_82 (by decide)
                        · refine g_aload_n C dX9_chance_85 rfl ?_
                          refine g_aload_n C dX9_chance_86 rfl ?_
                          refine g_get C dX9_chance_87 iwX9 rfl (wO_M δ _) 17 (Nat.le_of_ble_eq_true rfl) mW589 rfl rfl ?_
                          rw [e4]
                          refine g_aload_n C dX9_chance_90 rfl ?_
                          refine g_get C dX9_chance_91 iwX9 rfl (wO_M δ _) 18 (Nat.le_of_ble_eq_true rfl) mW590 rfl rfl ?_
                          rw [e5]
                          refine g_callVi C sV_X9_174 dX9_chance_94 (c_X9_tellsb _ δ _ (a := (vR v u1 k1 w1).1) (b := (vR v u1 k1 w1).2) (vR_b R hu8).1 (vR_b R hu8).2.1 (vR_b R hu8).2.2) ⟨by decide, by decide⟩ (wO_M δ _) rfl rfl rfl rfl (Nat.le_of_ble_eq_true rfl) (fun r_94 s_94 h_94 => ?_)
                          obtain ⟨rfl, zt, mt, -⟩ := h_94
                          refine g_goto C 102 dX9_chance_97 (by decide) ?_
                          exact g_iret C E dX9_chance_102 rfl rfl ⟨_, rfl, (by first | exact TG_y ((aChance_at hu1 hu8 hk1 hw1 hd).trans ((gIf_f (by first | exact fun z => c_69 z.2 | exact fun z => Int32.not_lt.mpr c_61 z.1)).trans (gIf_f nb))).symm rfl (gSn_t z_79.n zt) (by rw [gChance_at hu8 hk1 hw1]; exact mt) | exact TG_n ((aChance_at hu1 hu8 hk1 hw1 hd).trans ((gIf_f (by first | exact fun z => c_69 z.2 | exact fun z => Int32.not_lt.mpr c_61 z.1)).trans (gIf_t h_79))).symm (by decide) z_79.n (MF_v z_79 hF))⟩
                      · skip
                        refine g_if_eq C 100 dX9_chance_82 (by decide) (fun c_82 => ?_) (fun c_82 => ?_)
                        · refine g_bipush (v := (-6)) C dX9_chance_100 (by decide) ?_
                          exact g_iret C E dX9_chance_102 rfl rfl ⟨_, rfl, (by first | exact TG_y ((aChance_at hu1 hu8 hk1 hw1 hd).trans ((gIf_f (by first | exact fun z => c_69 z.2 | exact fun z => Int32.not_lt.mpr c_61 z.1)).trans (gIf_f nb))).symm rfl (gSn_t z_79.n zt) (by rw [gChance_at hu8 hk1 hw1]; exact mt) | exact TG_n ((aChance_at hu1 hu8 hk1 hw1 hd).trans ((gIf_f (by first | exact fun z => c_69 z.2 | exact fun z => Int32.not_lt.mpr c_61 z.1)).trans (gIf_t h_79))).symm (by decide) z_79.n (MF_v z_79 hF))⟩
                        · exact absurd c_82 (by decide)
                    · refine g_bipush (v := (-2)) C dX9_chance_72 (by decide) ?_
                      exact g_iret C E dX9_chance_74 rfl rfl ⟨_, rfl, TG_n ((aChance_at hu1 hu8 hk1 hw1 hd).trans (gIf_t ⟨Int32.not_le.mp c_61, c_69⟩)).symm (by decide) (gSn_r _) hF⟩
                · have k_32 := gnle c_32 (a := k1) (b := i) (by first | rfl | assumption | (simp only [glit, nI_add, pk_mul]; done) | (simp only [glit, nI_add, pk_mul]; congr 1; omega) | (simp only [*, glit, nI_add, pk_mul]; congr 1; omega)) (by first | rfl | assumption | (simp only [glit, nI_add, pk_mul]; done) | (simp only [glit, nI_add, pk_mul]; congr 1; omega) | (simp only [*, glit, nI_add, pk_mul]; congr 1; omega)) (by omega) (by omega)
                  refine g_iload_n C dX9_chance_35 rfl ?_
                  refine g_iconst (v := 2) C dX9_chance_36 (by decide) ?_
                  refine g_iload C dX9_chance_37 rfl ?_
                  refine g_imul C dX9_chance_39 ?_
                  refine g_ishr C dX9_chance_40 ?_
                  rw [gshrk hw1 (by omega)]
                  refine g_iconst (v := 3) C dX9_chance_41 (by decide) ?_
                  refine g_iand C dX9_chance_42 ?_
                  rw [gand3 (by have := Nat.div_le_self w1 (4 ^ i); omega)]
                  refine g_aload_n C dX9_chance_43 rfl ?_
                  refine g_get C dX9_chance_44 iwX9 rfl (wO_M δ _) 5 (Nat.le_of_ble_eq_true rfl) mW577 rfl rfl ?_
                  refine g_iload_n C dX9_chance_47 rfl ?_
                  refine g_ialdN C dX9_chance_48 (k := u1) (q := 52) (by decide) rfl (by first | rfl | assumption | (simp only [glit, nI_add, pk_mul]; done) | (simp only [glit, nI_add, pk_mul]; congr 1; omega) | (simp only [*, glit, nI_add, pk_mul]; congr 1; omega)) (show u1 < gLenI 52 from Nat.lt_of_lt_of_eq (show u1 < 8 by omega) rfl) ?_
                  rw [hn]
                  refine g_icmp_lt C 54 dX9_chance_49 (by decide) (fun c_49 => ?_) (fun c_49 => ?_)
                  · have hx : gDig w1 i < vC v u1 := (nI_ltI (a := w1 / 4 ^ i % 4) (b := vC v u1) (by have := Nat.mod_lt (w1 / 4 ^ i) (show 0 < 4 by decide); omega) (by omega)).mp c_49
                    refine g_iinc (v := nI (i + 1)) C dX9_chance_54 rfl (ginc _ 1) rfl ?_
                    refine g_lv [some _, some _, some _, some _, some _] (gs_some (gs_some (gs_some (gs_some (gs_some gs_nil))))) ?_
                    refine g_goto C 29 dX9_chance_57 (by decide) ?_
                    refine g_lv [some _, some _, some _, some _, some _] (gs_some (gs_some (gs_some (gs_some (gs_some gs_nil))))) ?_
                    exact ih_29 (i + 1) (by omega) (fun j h => (Nat.lt_succ_iff_lt_or_eq.mp h).elim (fun h => hd j h) (fun h => by rw [h]; exact hx)) (by omega)
                  · have hx : ¬ gDig w1 i < vC v u1 := fun z => c_49 ((nI_ltI (a := w1 / 4 ^ i % 4) (b := vC v u1) (by have := Nat.mod_lt (w1 / 4 ^ i) (show 0 < 4 by decide); omega) (by omega)).mpr z)
                    refine g_iconst (v := (-1)) C dX9_chance_52 (by decide) ?_
                    exact g_iret C E dX9_chance_53 rfl rfl ⟨_, rfl, TG_n (gIf_f (fun z => hx (by have q := z.2 i (by rw [nU_n (by omega)]; omega); rw [nU_n hw1, nU_n (by omega)] at q; exact q))).symm (by decide) (gSn_r _) hF⟩
            refine g_lv [some _, some _, some _, some _, some _] (gs_some (gs_some (gs_some (gs_some (gs_some gs_nil))))) ?_
            exact L_29 _ 0 (by omega) (fun _ h => absurd h (Nat.not_lt_zero _)) (Nat.lt_succ_self _)
          · refine g_iconst (v := (-1)) C dX9_chance_24 (by decide) ?_
            exact g_iret C E dX9_chance_25 rfl rfl ⟨_, rfl, TG_n (by first | exact (gIf_f (fun z => h_2 z.1.1)).symm | exact (gIf_f (fun z => h_14 z.1.2.1)).symm | exact (gIf_f (fun z => c_21 z.1.2.2)).symm) (by decide) (gSn_r _) hF⟩
      · skip
        refine g_if_eq C 24 dX9_chance_17 (by decide) (fun c_17 => ?_) (fun c_17 => ?_)
        · refine g_iconst (v := (-1)) C dX9_chance_24 (by decide) ?_
          exact g_iret C E dX9_chance_25 rfl rfl ⟨_, rfl, TG_n (by first | exact (gIf_f (fun z => h_2 z.1.1)).symm | exact (gIf_f (fun z => h_14 z.1.2.1)).symm | exact (gIf_f (fun z => c_21 z.1.2.2)).symm) (by decide) (gSn_r _) hF⟩
        · exact absurd c_17 (by decide)
  · skip
    refine g_if_eq C 24 dX9_chance_5 (by decide) (fun c_5 => ?_) (fun c_5 => ?_)
    · refine g_iconst (v := (-1)) C dX9_chance_24 (by decide) ?_
      exact g_iret C E dX9_chance_25 rfl rfl ⟨_, rfl, TG_n (by first | exact (gIf_f (fun z => h_2 z.1.1)).symm | exact (gIf_f (fun z => h_14 z.1.2.1)).symm | exact (gIf_f (fun z => c_21 z.1.2.2)).symm) (by decide) (gSn_r _) hF⟩
    · exact absurd c_5 (by decide)
