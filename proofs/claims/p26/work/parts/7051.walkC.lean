set_option maxRecDepth 100000 in
set_option maxHeartbeats 4000000 in
theorem c_X0_walkStepb10 (l : Launch) (δ : GD) (σ : GS) {u : Nat} (hu : u < 8) {j k c : Nat} (hj : j < k) (hk : k ≤ 12) (hc : c < 4) {al : Nat → Nat → Prop} (hal : ∀ c, c < 4 → ((gI σ 47 j < 0 ∨ gI σ 47 j = nI c) ↔ al j c)) (hP : gP σ = 1 ∨ gP σ = 2) {v : GV} (K : KC σ v) (R : RV v) (hI : IW true (bS (vS v) u) (tS (vS v) u) al (wW true (bS (vS v) u) (tS (vS v) u) al j) j σ σ (Lx 0 0 0)) (hbd : ∀ x, (wW true (bS (vS v) u) (tS (vS v) u) al j) x < 9223372036854775808) : gM l δ yX0_walkStep cX0_walkStep 12 none 2 53 [.ref (δ.2.2.1 20), .ref (δ.2.2.1 (8 + u)), .int (nI j), .int (nI k), .int (nI c), .int 1] σ (gPv (fun σ' => StW σ σ' ∧ IW true (bS (vS v) u) (tS (vS v) u) al (wW true (bS (vS v) u) (tS (vS v) u) al j) j σ σ' (Lx (j + 1) 0 0))) := by
  refine g_of (lv0 := [some (.ref (δ.2.2.1 20)), some (.ref (δ.2.2.1 (8 + u))), some (.int (nI j)), some (.int (nI k)), some (.int (nI c)), some (.int 1), none, none, none, none, none, none]) (by decide) rfl (Nat.le_of_ble_eq_true rfl) (fun Γ hl C E => ?_)
  subst hl
  have C : gC Γ δ cX0_walkStep RX0 12 2 53 := C
  have hn := K.2.1 u hu
  have h4 := RV_n R hu
  have hw : ∀ x, ¬ (wW true (bS (vS v) u) (tS (vS v) u) al j) x = 0 → xOk (bS (vS v) u) (tS (vS v) u) (vC v u) j x := wW_ok (VS_B2 R.2.2.1 hu) (fun d hd h => (R.2.2.1.1 u hu d hd).2.1 h) (fun c hc d hd h => (R.2.2.1.2.1 u hu c hc d hd).2 (Or.inr h)) j (by omega)
  refine g_iconst (v := 0) C dX0_walkStep_0 (by decide) ?_
  refine g_istore C dX0_walkStep_1 (Nat.le_of_ble_eq_true rfl) rfl ?_
  refine g_lv [some _, some _, some _, some _, some _, some _, some _, none, none, none, none, none] (gs_some (gs_some (gs_some (gs_some (gs_some (gs_some (gs_some (gs_none (gs_none (gs_none (gs_none (gs_none gs_nil)))))))))))) ?_
  have L_3 : ∀ (nn : Nat) (a : Nat) (s1 : GS) (ha : a ≤ j + 1) (hs : StW σ s1) (hI_s1 : IW true (bS (vS v) u) (tS (vS v) u) al (wW true (bS (vS v) u) (tS (vS v) u) al j) j σ s1 (Lx a 0 0)), j + 1 - a < nn → gW Γ δ s1 3 [some (.ref (δ.2.2.1 20)), some (.ref (δ.2.2.1 (8 + u))), some (.int (nI j)), some (.int (nI k)), some (.int (nI c)), some (.int 1), some (.int (nI a)), none, none, none, none, none] [] := by
    intro nn
    induction nn with
    | zero =>
      intro a s1 ha hs hI_s1 hm_3
      exact absurd hm_3 (Nat.not_lt_zero _)
    | succ nn ih_3 =>
      intro a s1 ha hs hI_s1 hm_3
      refine g_iload C dX0_walkStep_3 rfl ?_
      refine g_iload_n C dX0_walkStep_5 rfl ?_
      refine g_icmp_gt C 199 dX0_walkStep_6 (by decide) (fun c_6 => ?_) (fun c_6 => ?_)
      · have k_6 := glt c_6 (a := j) (b := a) (by first | rfl | assumption | (simp only [glit, nI_add, pk_mul]; done) | (simp only [glit, nI_add, pk_mul]; congr 1; omega) | (simp only [*, glit, nI_add, pk_mul]; congr 1; omega)) (by first | rfl | assumption | (simp only [glit, nI_add, pk_mul]; done) | (simp only [glit, nI_add, pk_mul]; congr 1; omega) | (simp only [*, glit, nI_add, pk_mul]; congr 1; omega)) (by omega) (by omega)
        have ea : a = j + 1 := by omega
        exact g_vret C E dX0_walkStep_199 rfl ⟨rfl, ⟨hs, by rw [← ea]; exact hI_s1⟩⟩
      · have k_6 := gnlt c_6 (a := j) (b := a) (by first | rfl | assumption | (simp only [glit, nI_add, pk_mul]; done) | (simp only [glit, nI_add, pk_mul]; congr 1; omega) | (simp only [*, glit, nI_add, pk_mul]; congr 1; omega)) (by first | rfl | assumption | (simp only [glit, nI_add, pk_mul]; done) | (simp only [glit, nI_add, pk_mul]; congr 1; omega) | (simp only [*, glit, nI_add, pk_mul]; congr 1; omega)) (by omega) (by omega)
        refine g_iconst (v := 0) C dX0_walkStep_9 (by decide) ?_
        refine g_istore C dX0_walkStep_10 (Nat.le_of_ble_eq_true rfl) rfl ?_
        refine g_lv [some _, some _, some _, some _, some _, some _, some _, some _, none, none, none, none] (gs_some (gs_some (gs_some (gs_some (gs_some (gs_some (gs_some (gs_some (gs_none (gs_none (gs_none (gs_none gs_nil)))))))))))) ?_
        have L_12 : ∀ (nn : Nat) (b : Nat) (s2 : GS) (hb : a + b ≤ j + 1) (hs2 : StW σ s2) (hI_s2 : IW true (bS (vS v) u) (tS (vS v) u) al (wW true (bS (vS v) u) (tS (vS v) u) al j) j σ s2 (Lx a b 0)), j + 1 - b < nn → gW Γ δ s2 12 [some (.ref (δ.2.2.1 20)), some (.ref (δ.2.2.1 (8 + u))), some (.int (nI j)), some (.int (nI k)), some (.int (nI c)), some (.int 1), some (.int (nI a)), some (.int (nI b)), none, none, none, none] [] := by
          intro nn
          induction nn with
          | zero =>
            intro b s2 hb hs2 hI_s2 hm_12
            exact absurd hm_12 (Nat.not_lt_zero _)
          | succ nn ih_12 =>
            intro b s2 hb hs2 hI_s2 hm_12
            refine g_iload C dX0_walkStep_12 rfl ?_
            refine g_iload C dX0_walkStep_14 rfl ?_
            refine g_iadd C dX0_walkStep_16 ?_
            refine g_iload_n C dX0_walkStep_17 rfl ?_
            refine g_icmp_gt C 193 dX0_walkStep_18 (by decide) (fun c_18 => ?_) (fun c_18 => ?_)
            · have k_18 := glt c_18 (a := j) (b := (a + b)) (by first | rfl | assumption | (simp only [glit, nI_add, pk_mul]; done) | (simp only [glit, nI_add, pk_mul]; congr 1; omega) | (simp only [*, glit, nI_add, pk_mul]; congr 1; omega)) (by first | rfl | assumption | (simp only [glit, nI_add, pk_mul]; done) | (simp only [glit, nI_add, pk_mul]; congr 1; omega) | (simp only [*, glit, nI_add, pk_mul]; congr 1; omega)) (by omega) (by omega)
              skip
              refine g_iinc (v := nI (a + 1)) C dX0_walkStep_193 rfl (ginc _ 1) rfl ?_
              refine g_lv [some _, some _, some _, some _, some _, some _, some _, some _, none, none, none, none] (gs_some (gs_some (gs_some (gs_some (gs_some (gs_some (gs_some (gs_some (gs_none (gs_none (gs_none (gs_none gs_nil)))))))))))) ?_
              refine g_goto C 3 dX0_walkStep_196 (by decide) ?_
              refine g_lv [some _, some _, some _, some _, some _, some _, some _, none, none, none, none, none] (gs_some (gs_some (gs_some (gs_some (gs_some (gs_some (gs_some (gs_none (gs_none (gs_none (gs_none (gs_none gs_nil)))))))))))) ?_
              exact ih_3 (a + 1) _ (by omega) hs2 (IW_e (fun x hx hn => Lx_a (j := j) (by omega) (hw x hn).1) hI_s2) (by omega)
            · have k_18 := gnlt c_18 (a := j) (b := (a + b)) (by first | rfl | assumption | (simp only [glit, nI_add, pk_mul]; done) | (simp only [glit, nI_add, pk_mul]; congr 1; omega) | (simp only [*, glit, nI_add, pk_mul]; congr 1; omega)) (by first | rfl | assumption | (simp only [glit, nI_add, pk_mul]; done) | (simp only [glit, nI_add, pk_mul]; congr 1; omega) | (simp only [*, glit, nI_add, pk_mul]; congr 1; omega)) (by omega) (by omega)
              refine g_iconst (v := 0) C dX0_walkStep_21 (by decide) ?_
              refine g_istore C dX0_walkStep_22 (Nat.le_of_ble_eq_true rfl) rfl ?_
              refine g_lv [some _, some _, some _, some _, some _, some _, some _, some _, some _, none, none, none] (gs_some (gs_some (gs_some (gs_some (gs_some (gs_some (gs_some (gs_some (gs_some (gs_none (gs_none (gs_none gs_nil)))))))))))) ?_
              have L_24 : ∀ (nn : Nat) (e : Nat) (s3 : GS) (he : a + b + e ≤ j + 1) (hs3 : StW σ s3) (hI_s3 : IW true (bS (vS v) u) (tS (vS v) u) al (wW true (bS (vS v) u) (tS (vS v) u) al j) j σ s3 (Lx a b e)), j + 1 - e < nn → gW Γ δ s3 24 [some (.ref (δ.2.2.1 20)), some (.ref (δ.2.2.1 (8 + u))), some (.int (nI j)), some (.int (nI k)), some (.int (nI c)), some (.int 1), some (.int (nI a)), some (.int (nI b)), some (.int (nI e)), none, none, none] [] := by
                intro nn
                induction nn with
                | zero =>
                  intro e s3 he hs3 hI_s3 hm_24
                  exact absurd hm_24 (Nat.not_lt_zero _)
                | succ nn ih_24 =>
                  intro e s3 he hs3 hI_s3 hm_24
                  have hz3 : gSk σ s3 := hs3.1
                  refine g_iload C dX0_walkStep_24 rfl ?_
                  refine g_iload C dX0_walkStep_26 rfl ?_
                  refine g_iadd C dX0_walkStep_28 ?_
                  refine g_iload C dX0_walkStep_29 rfl ?_
                  refine g_iadd C dX0_walkStep_31 ?_
                  refine g_iload_n C dX0_walkStep_32 rfl ?_
                  refine g_icmp_gt C 187 dX0_walkStep_33 (by decide) (fun c_33 => ?_) (fun c_33 => ?_)
                  · have k_33 := glt c_33 (a := j) (b := ((a + b) + e)) (by first | rfl | assumption | (simp only [glit, nI_add, pk_mul]; done) | (simp only [glit, nI_add, pk_mul]; congr 1; omega) | (simp only [*, glit, nI_add, pk_mul]; congr 1; omega)) (by first | rfl | assumption | (simp only [glit, nI_add, pk_mul]; done) | (simp only [glit, nI_add, pk_mul]; congr 1; omega) | (simp only [*, glit, nI_add, pk_mul]; congr 1; omega)) (by omega) (by omega)
                    skip
                    refine g_iinc (v := nI (b + 1)) C dX0_walkStep_187 rfl (ginc _ 1) rfl ?_
                    refine g_lv [some _, some _, some _, some _, some _, some _, some _, some _, some _, none, none, none] (gs_some (gs_some (gs_some (gs_some (gs_some (gs_some (gs_some (gs_some (gs_some (gs_none (gs_none (gs_none gs_nil)))))))))))) ?_
                    refine g_goto C 12 dX0_walkStep_190 (by decide) ?_
                    refine g_lv [some _, some _, some _, some _, some _, some _, some _, some _, none, none, none, none] (gs_some (gs_some (gs_some (gs_some (gs_some (gs_some (gs_some (gs_some (gs_none (gs_none (gs_none (gs_none gs_nil)))))))))))) ?_
                    exact ih_12 (b + 1) _ (by omega) hs3 (IW_e (fun x hx hn => Lx_b (j := j) (by omega) (hw x hn).1) hI_s3) (by omega)
                  · have k_33 := gnlt c_33 (a := j) (b := ((a + b) + e)) (by first | rfl | assumption | (simp only [glit, nI_add, pk_mul]; done) | (simp only [glit, nI_add, pk_mul]; congr 1; omega) | (simp only [*, glit, nI_add, pk_mul]; congr 1; omega)) (by first | rfl | assumption | (simp only [glit, nI_add, pk_mul]; done) | (simp only [glit, nI_add, pk_mul]; congr 1; omega) | (simp only [*, glit, nI_add, pk_mul]; congr 1; omega)) (by omega) (by omega)
                    refine g_iload C dX0_walkStep_36 rfl ?_
                    refine g_gets C dX0_walkStep_38 mW481 ?_
                    refine g_iconst (v := 0) C dX0_walkStep_41 (by decide) ?_
                    refine g_staldN C dX0_walkStep_42 (k := 0) (by first | rfl | assumption | (simp only [glit, nI_add, pk_mul]; done) | (simp only [glit, nI_add, pk_mul]; congr 1; omega) | (simp only [*, glit, nI_add, pk_mul]; congr 1; omega)) (by omega) ?_
                    rw [show gstp 0 = 169 from rfl]
                    refine g_imul C dX0_walkStep_43 ?_
                    refine g_iload C dX0_walkStep_44 rfl ?_
                    refine g_gets C dX0_walkStep_46 mW481 ?_
                    refine g_iconst (v := 1) C dX0_walkStep_49 (by decide) ?_
                    refine g_staldN C dX0_walkStep_50 (k := 1) (by first | rfl | assumption | (simp only [glit, nI_add, pk_mul]; done) | (simp only [glit, nI_add, pk_mul]; congr 1; omega) | (simp only [*, glit, nI_add, pk_mul]; congr 1; omega)) (by omega) ?_
                    refine g_imul C dX0_walkStep_51 ?_
                    rw [show gstp 1 = 13 from rfl]
                    refine g_iadd C dX0_walkStep_52 ?_
                    refine g_iload C dX0_walkStep_53 rfl ?_
                    refine g_gets C dX0_walkStep_55 mW481 ?_
                    refine g_iconst (v := 2) C dX0_walkStep_58 (by decide) ?_
                    refine g_staldN C dX0_walkStep_59 (k := 2) (by first | rfl | assumption | (simp only [glit, nI_add, pk_mul]; done) | (simp only [glit, nI_add, pk_mul]; congr 1; omega) | (simp only [*, glit, nI_add, pk_mul]; congr 1; omega)) (by omega) ?_
                    refine g_imul C dX0_walkStep_60 ?_
                    rw [show gstp 2 = 1 from rfl]
                    refine g_iadd C dX0_walkStep_61 ?_
                    rw [pk_mul, pk_mul, pk_mul, nI_add, nI_add]
                    refine g_istore C dX0_walkStep_62 (Nat.le_of_ble_eq_true rfl) rfl ?_
                    refine g_lv [some _, some _, some _, some _, some _, some _, some _, some _, some _, some _, none, none] (gs_some (gs_some (gs_some (gs_some (gs_some (gs_some (gs_some (gs_some (gs_some (gs_some (gs_none (gs_none gs_nil)))))))))))) ?_
                    refine g_aload_n C dX0_walkStep_64 rfl ?_
                    refine g_get C dX0_walkStep_65 iwX0 rfl (wO_A δ _) 0 (Nat.le_of_ble_eq_true rfl) mW108 rfl rfl ?_
                    refine g_iload C dX0_walkStep_68 rfl ?_
                    refine g_laldN C dX0_walkStep_70 (k := (a * 169 + b * 13 + e * 1)) (q := (8 + gP _ % 2)) (by omega) (gnw _ _) (by first | rfl | assumption | (simp only [glit, nI_add, pk_mul]; done) | (simp only [glit, nI_add, pk_mul]; congr 1; omega) | (simp only [*, glit, nI_add, pk_mul]; congr 1; omega)) (by rw [gLenL_n _]; omega) ?_
                    have hnow := NowI_at hI_s3.1 (j := j) (by omega) (by omega)
                    rw [hnow]
                    refine g_lstore C dX0_walkStep_71 (Nat.le_of_ble_eq_true rfl) rfl ?_
                    refine g_lv [some _, some _, some _, some _, some _, some _, some _, some _, some _, some _, some _, none] (gs_some (gs_some (gs_some (gs_some (gs_some (gs_some (gs_some (gs_some (gs_some (gs_some (gs_some (gs_none gs_nil)))))))))))) ?_
                    refine g_lload C dX0_walkStep_73 rfl ?_
                    refine g_lconst (v := 0) C dX0_walkStep_75 (by decide) ?_
                    refine g_lcmp C dX0_walkStep_76 ?_
                    refine g_if_ne C 83 dX0_walkStep_77 (by decide) (fun c_77 => ?_) (fun c_77 => ?_)
                    · rw [lg_cmp_eq] at c_77
                      have hnz : ¬ (wW true (bS (vS v) u) (tS (vS v) u) al j) (a + 13 * b + 169 * e) = 0 := fun z => c_77 ((lN_z (hbd _)).mpr z)
                      have hok := hw _ hnz
                      have hp3 : gP s3 = 1 ∨ gP s3 = 2 := by rw [hs3.2.1]; exact hP
                      refine g_aload_n C dX0_walkStep_83 rfl ?_
                      refine g_get C dX0_walkStep_84 iwX0 rfl (wO_A δ _) 0 (Nat.le_of_ble_eq_true rfl) mW108 rfl rfl ?_
                      refine g_iload C dX0_walkStep_87 rfl ?_
                      refine g_lconst (v := 0) C dX0_walkStep_89 (by decide) ?_
                      refine g_lastN C dX0_walkStep_90 (k := (a * 169 + b * 13 + e * 1)) (q := (8 + gP _ % 2)) (by omega) (gnw _ _) (by first | rfl | assumption | (simp only [glit, nI_add, pk_mul]; done) | (simp only [glit, nI_add, pk_mul]; congr 1; omega) | (simp only [*, glit, nI_add, pk_mul]; congr 1; omega)) (by rw [gLenL_n _]; omega) ?_
                      refine g_aload_n C dX0_walkStep_91 rfl ?_
                      refine g_get C dX0_walkStep_92 iwX0 rfl (wO_A δ _) 3 (Nat.le_of_ble_eq_true rfl) mW111 rfl rfl ?_
                      refine g_iconst (v := 0) C dX0_walkStep_95 (by decide) ?_
                      refine g_iload C dX0_walkStep_96 rfl ?_
                      refine g_iastN C dX0_walkStep_98 (k := 0) (q := 48) (by decide) rfl (by first | rfl | assumption | (simp only [glit, nI_add, pk_mul]; done) | (simp only [glit, nI_add, pk_mul]; congr 1; omega) | (simp only [*, glit, nI_add, pk_mul]; congr 1; omega)) (show 0 < gLenI 48 from Nat.lt_of_lt_of_eq (show 0 < 4 by omega) rfl) ?_
                      refine g_aload_n C dX0_walkStep_99 rfl ?_
                      refine g_get C dX0_walkStep_100 iwX0 rfl (wO_A δ _) 3 (Nat.le_of_ble_eq_true rfl) mW111 rfl rfl ?_
                      refine g_iconst (v := 1) C dX0_walkStep_103 (by decide) ?_
                      refine g_iload C dX0_walkStep_104 rfl ?_
                      refine g_iastN C dX0_walkStep_106 (k := 1) (q := 48) (by decide) rfl (by first | rfl | assumption | (simp only [glit, nI_add, pk_mul]; done) | (simp only [glit, nI_add, pk_mul]; congr 1; omega) | (simp only [*, glit, nI_add, pk_mul]; congr 1; omega)) (show 1 < gLenI 48 from Nat.lt_of_lt_of_eq (show 1 < 4 by omega) rfl) ?_
                      rw [uI_uI, gI_uI, if_pos rfl]
                      refine g_aload_n C dX0_walkStep_107 rfl ?_
                      refine g_get C dX0_walkStep_108 iwX0 rfl (wO_A δ _) 3 (Nat.le_of_ble_eq_true rfl) mW111 rfl rfl ?_
                      refine g_iconst (v := 2) C dX0_walkStep_111 (by decide) ?_
                      refine g_iload C dX0_walkStep_112 rfl ?_
                      refine g_iastN C dX0_walkStep_114 (k := 2) (q := 48) (by decide) rfl (by first | rfl | assumption | (simp only [glit, nI_add, pk_mul]; done) | (simp only [glit, nI_add, pk_mul]; congr 1; omega) | (simp only [*, glit, nI_add, pk_mul]; congr 1; omega)) (show 2 < gLenI 48 from Nat.lt_of_lt_of_eq (show 2 < 4 by omega) rfl) ?_
                      rw [uI_uI, gI_uI, if_pos rfl]
                      refine g_aload_n C dX0_walkStep_115 rfl ?_
                      refine g_get C dX0_walkStep_116 iwX0 rfl (wO_A δ _) 3 (Nat.le_of_ble_eq_true rfl) mW111 rfl rfl ?_
                      refine g_iconst (v := 3) C dX0_walkStep_119 (by decide) ?_
                      refine g_iload_n C dX0_walkStep_120 rfl ?_
                      refine g_iload C dX0_walkStep_121 rfl ?_
                      refine g_isub C dX0_walkStep_123 ?_
                      refine g_iload C dX0_walkStep_124 rfl ?_
                      refine g_isub C dX0_walkStep_126 ?_
                      refine g_iload C dX0_walkStep_127 rfl ?_
                      refine g_isub C dX0_walkStep_129 ?_
                      refine g_iastN C dX0_walkStep_130 (k := 3) (q := 48) (by decide) rfl (by first | rfl | assumption | (simp only [glit, nI_add, pk_mul]; done) | (simp only [glit, nI_add, pk_mul]; congr 1; omega) | (simp only [*, glit, nI_add, pk_mul]; congr 1; omega)) (show 3 < gLenI 48 from Nat.lt_of_lt_of_eq (show 3 < 4 by omega) rfl) ?_
                      rw [uI_uI, gI_uI, if_pos rfl]
                      refine g_aload_n C dX0_walkStep_131 rfl ?_
                      refine g_aload_n C dX0_walkStep_132 rfl ?_
                      refine g_callVv C sV_X0_87 dX0_walkStep_133 (c_X0_findBallsb _ δ (uI (uL s3 (8 + gP s3 % 2) (vp_updL (gL s3 (8 + gP s3 % 2)) (a * 169 + b * 13 + e * 1) 0)) 48 (upd (upd (upd (upd (gI s3 48) 0 (nI a)) 1 (nI b)) 2 (nI e)) 3 (nI j - nI a - nI b - nI e))) hu (k := j) (x := (a + 13 * b + 169 * e)) (fun c hc => gof3 (f := gI s3 48) (a := a) (b := b) (e := e) (j := j) (by omega) (by omega) hc) (KC_sk (a := σ) (by repeat (first | (with_reducible assumption) | (with_reducible exact gSk_r _) | (with_reducible refine gSk_I (by omega) ?_) | (with_reducible refine gSk_L (by omega) ?_) | (with_reducible refine gSk_N (by omega) ?_) | (with_reducible refine gSk_G (by omega) ?_) | (with_reducible refine gSk_P ?_))) K) R) ⟨by decide, by decide⟩ (wO_A δ _) rfl rfl rfl rfl (Nat.le_of_ble_eq_true rfl) (fun s_133 h_133 => ?_)
                      obtain ⟨g4, rfl, hg4⟩ := h_133
                      refine g_iload_n C dX0_walkStep_136 rfl ?_
                      refine g_iload_n C dX0_walkStep_137 rfl ?_
                      refine g_icmp_ne C 164 dX0_walkStep_138 (by decide) (fun c_138 => ?_) (fun c_138 => ?_)
                      · have k_138 := gne c_138 (a := j) (b := k) (by first | rfl | assumption | (simp only [glit, nI_add, pk_mul]; done) | (simp only [glit, nI_add, pk_mul]; congr 1; omega) | (simp only [*, glit, nI_add, pk_mul]; congr 1; omega)) (by first | rfl | assumption | (simp only [glit, nI_add, pk_mul]; done) | (simp only [glit, nI_add, pk_mul]; congr 1; omega) | (simp only [*, glit, nI_add, pk_mul]; congr 1; omega)) (by omega) (by omega)
                        refine g_aload_n C dX0_walkStep_164 rfl ?_
                        refine g_aload_n C dX0_walkStep_165 rfl ?_
                        refine g_iload C dX0_walkStep_166 rfl ?_
                        refine g_lload C dX0_walkStep_168 rfl ?_
                        refine g_aload_n C dX0_walkStep_170 rfl ?_
                        refine g_get C dX0_walkStep_171 iwX0 rfl (wO_A δ _) 2 (Nat.le_of_ble_eq_true rfl) mW110 rfl rfl ?_
                        refine g_iload_n C dX0_walkStep_174 rfl ?_
                        refine g_ialdN C dX0_walkStep_175 (k := j) (q := 47) (by decide) rfl (by first | rfl | assumption | (simp only [glit, nI_add, pk_mul]; done) | (simp only [glit, nI_add, pk_mul]; congr 1; omega) | (simp only [*, glit, nI_add, pk_mul]; congr 1; omega)) (show j < gLenI 47 from Nat.lt_of_lt_of_eq (show j < 12 by omega) rfl) ?_
                        refine g_iload C dX0_walkStep_176 rfl ?_
                        rw [show nI (a * 169 + b * 13 + e * 1) = nI (plc (a + 13 * b + 169 * e)) by rw [plc_at (by omega) (by omega)]; exact congrArg nI (by omega)]
                        refine g_callVv C sV_X0_95 dX0_walkStep_178 (c_X0_spreadb1 _ δ _ hu (k := j) (x := (a + 13 * b + 169 * e)) (w := (wW true (bS (vS v) u) (tS (vS v) u) al j) (a + 13 * b + 169 * e)) (by omega) (hal_of (s := uI (uI (uL s3 (8 + gP s3 % 2) (vp_updL (gL s3 (8 + gP s3 % 2)) (a * 169 + b * 13 + e * 1) 0)) 48 (upd (upd (upd (upd (gI s3 48) 0 (nI a)) 1 (nI b)) 2 (nI e)) 3 (nI j - nI a - nI b - nI e))) 49 g4) hs3.2.2.1 hal) (Wf := (wW true (bS (vS v) u) (tS (vS v) u) al j)) rfl (KC_sk (a := σ) (by repeat (first | (with_reducible assumption) | (with_reducible exact gSk_r _) | (with_reducible refine gSk_I (by omega) ?_) | (with_reducible refine gSk_L (by omega) ?_) | (with_reducible refine gSk_N (by omega) ?_) | (with_reducible refine gSk_G (by omega) ?_) | (with_reducible refine gSk_P ?_))) K) R hok hg4) ⟨by decide, by decide⟩ (wO_A δ _) rfl rfl rfl rfl (Nat.le_of_ble_eq_true rfl) (fun s_178 h_178 => ?_)
                        obtain ⟨N4, e4, rfl, hN4, he4⟩ := h_178
                        have hI4 := IW_go (o := (upd (upd (upd (upd (gI s3 48) 0 (nI a)) 1 (nI b)) 2 (nI e)) 3 (nI j - nI a - nI b - nI e))) (g := g4) hp3 (by omega) (by omega) hI_s3 (gN4 hp3 hN4) he4
                        have hS4 := StW_go (A := (vp_updL (gL s3 (8 + gP s3 % 2)) (a * 169 + b * 13 + e * 1) 0)) (N := N4) (o := (upd (upd (upd (upd (gI s3 48) 0 (nI a)) 1 (nI b)) 2 (nI e)) 3 (nI j - nI a - nI b - nI e))) (g := g4) (e' := e4) hp3 hs3
                        refine g_iinc (v := nI (e + 1)) C dX0_walkStep_181 rfl (ginc _ 1) rfl ?_
                        refine g_lv [some _, some _, some _, some _, some _, some _, some _, some _, some _, some _, some _, none] (gs_some (gs_some (gs_some (gs_some (gs_some (gs_some (gs_some (gs_some (gs_some (gs_some (gs_some (gs_none gs_nil)))))))))))) ?_
                        refine g_goto C 24 dX0_walkStep_184 (by decide) ?_
                        refine g_lv [some _, some _, some _, some _, some _, some _, some _, some _, some _, none, none, none] (gs_some (gs_some (gs_some (gs_some (gs_some (gs_some (gs_some (gs_some (gs_some (gs_none (gs_none (gs_none gs_nil)))))))))))) ?_
                        exact ih_24 (e + 1) _ (by omega) (by first | exact hs3 | exact hS4) (by first | exact IW_skip hz (by omega) (by omega) hI_s3 | exact hI4) (by omega)
                      · exact absurd ((nI_eq (by omega) (by omega)).mp c_138) (by omega)
                    · rw [lg_cmp_eq] at c_77
                      have hz : (wW true (bS (vS v) u) (tS (vS v) u) al j) (a + 13 * b + 169 * e) = 0 := (lN_z (hbd _)).mp c_77
                      refine g_goto C 181 dX0_walkStep_80 (by decide) ?_
                      refine g_iinc (v := nI (e + 1)) C dX0_walkStep_181 rfl (ginc _ 1) rfl ?_
                      refine g_lv [some _, some _, some _, some _, some _, some _, some _, some _, some _, some _, some _, none] (gs_some (gs_some (gs_some (gs_some (gs_some (gs_some (gs_some (gs_some (gs_some (gs_some (gs_some (gs_none gs_nil)))))))))))) ?_
                      refine g_goto C 24 dX0_walkStep_184 (by decide) ?_
                      refine g_lv [some _, some _, some _, some _, some _, some _, some _, some _, some _, none, none, none] (gs_some (gs_some (gs_some (gs_some (gs_some (gs_some (gs_some (gs_some (gs_some (gs_none (gs_none (gs_none gs_nil)))))))))))) ?_
                      exact ih_24 (e + 1) _ (by omega) (by first | exact hs3 | exact hS4) (by first | exact IW_skip hz (by omega) (by omega) hI_s3 | exact hI4) (by omega)
              refine g_lv [some _, some _, some _, some _, some _, some _, some _, some _, some _, none, none, none] (gs_some (gs_some (gs_some (gs_some (gs_some (gs_some (gs_some (gs_some (gs_some (gs_none (gs_none (gs_none gs_nil)))))))))))) ?_
              exact L_24 _ 0 _ (by omega) hs2 hI_s2 (Nat.lt_succ_self _)
        refine g_lv [some _, some _, some _, some _, some _, some _, some _, some _, none, none, none, none] (gs_some (gs_some (gs_some (gs_some (gs_some (gs_some (gs_some (gs_some (gs_none (gs_none (gs_none (gs_none gs_nil)))))))))))) ?_
        exact L_12 _ 0 _ (by omega) hs hI_s1 (Nat.lt_succ_self _)
  refine g_lv [some _, some _, some _, some _, some _, some _, some _, none, none, none, none, none] (gs_some (gs_some (gs_some (gs_some (gs_some (gs_some (gs_some (gs_none (gs_none (gs_none (gs_none (gs_none gs_nil)))))))))))) ?_
  exact L_3 _ 0 _ (by omega) (StW_r _) hI (Nat.lt_succ_self _)
set_option maxRecDepth 100000 in
set_option maxHeartbeats 4000000 in
theorem c_X0_walkStepb00 (l : Launch) (δ : GD) (σ : GS) {u : Nat} (hu : u < 8) {j k c : Nat} (hj : j < k) (hk : k ≤ 12) (hc : c < 4) {al : Nat → Nat → Prop} (hal : ∀ c, c < 4 → ((gI σ 47 j < 0 ∨ gI σ 47 j = nI c) ↔ al j c)) (hP : gP σ = 1 ∨ gP σ = 2) {v : GV} (K : KC σ v) (R : RV v) (hI : IW false (bS (vS v) u) (tS (vS v) u) al (wW false (bS (vS v) u) (tS (vS v) u) al j) j σ σ (Lx 0 0 0)) (hbd : ∀ x, (wW false (bS (vS v) u) (tS (vS v) u) al j) x < 9223372036854775808) : gM l δ yX0_walkStep cX0_walkStep 12 none 2 53 [.ref (δ.2.2.1 20), .ref (δ.2.2.1 (8 + u)), .int (nI j), .int (nI k), .int (nI c), .int 0] σ (gPv (fun σ' => StW σ σ' ∧ IW false (bS (vS v) u) (tS (vS v) u) al (wW false (bS (vS v) u) (tS (vS v) u) al j) j σ σ' (Lx (j + 1) 0 0))) := by
  refine g_of (lv0 := [some (.ref (δ.2.2.1 20)), some (.ref (δ.2.2.1 (8 + u))), some (.int (nI j)), some (.int (nI k)), some (.int (nI c)), some (.int 0), none, none, none, none, none, none]) (by decide) rfl (Nat.le_of_ble_eq_true rfl) (fun Γ hl C E => ?_)
  subst hl
  have C : gC Γ δ cX0_walkStep RX0 12 2 53 := C
  have hn := K.2.1 u hu
  have h4 := RV_n R hu
  have hw : ∀ x, ¬ (wW false (bS (vS v) u) (tS (vS v) u) al j) x = 0 → xOk (bS (vS v) u) (tS (vS v) u) (vC v u) j x := wW_ok (VS_B2 R.2.2.1 hu) (fun d hd h => (R.2.2.1.1 u hu d hd).2.1 h) (fun c hc d hd h => (R.2.2.1.2.1 u hu c hc d hd).2 (Or.inr h)) j (by omega)
  refine g_iconst (v := 0) C dX0_walkStep_0 (by decide) ?_
  refine g_istore C dX0_walkStep_1 (Nat.le_of_ble_eq_true rfl) rfl ?_
  refine g_lv [some _, some _, some _, some _, some _, some _, some _, none, none, none, none, none] (gs_some (gs_some (gs_some (gs_some (gs_some (gs_some (gs_some (gs_none (gs_none (gs_none (gs_none (gs_none gs_nil)))))))))))) ?_
  have L_3 : ∀ (nn : Nat) (a : Nat) (s1 : GS) (ha : a ≤ j + 1) (hs : StW σ s1) (hI_s1 : IW false (bS (vS v) u) (tS (vS v) u) al (wW false (bS (vS v) u) (tS (vS v) u) al j) j σ s1 (Lx a 0 0)), j + 1 - a < nn → gW Γ δ s1 3 [some (.ref (δ.2.2.1 20)), some (.ref (δ.2.2.1 (8 + u))), some (.int (nI j)), some (.int (nI k)), some (.int (nI c)), some (.int 0), some (.int (nI a)), none, none, none, none, none] [] := by
    intro nn
    induction nn with
    | zero =>
      intro a s1 ha hs hI_s1 hm_3
      exact absurd hm_3 (Nat.not_lt_zero _)
    | succ nn ih_3 =>
      intro a s1 ha hs hI_s1 hm_3
      refine g_iload C dX0_walkStep_3 rfl ?_
      refine g_iload_n C dX0_walkStep_5 rfl ?_
      refine g_icmp_gt C 199 dX0_walkStep_6 (by decide) (fun c_6 => ?_) (fun c_6 => ?_)
      · have k_6 := glt c_6 (a := j) (b := a) (by first | rfl | assumption | (simp only [glit, nI_add, pk_mul]; done) | (simp only [glit, nI_add, pk_mul]; congr 1; omega) | (simp only [*, glit, nI_add, pk_mul]; congr 1; omega)) (by first | rfl | assumption | (simp only [glit, nI_add, pk_mul]; done) | (simp only [glit, nI_add, pk_mul]; congr 1; omega) | (simp only [*, glit, nI_add, pk_mul]; congr 1; omega)) (by omega) (by omega)
        have ea : a = j + 1 := by omega
        exact g_vret C E dX0_walkStep_199 rfl ⟨rfl, ⟨hs, by rw [← ea]; exact hI_s1⟩⟩
      · have k_6 := gnlt c_6 (a := j) (b := a) (by first | rfl | assumption | (simp only [glit, nI_add, pk_mul]; done) | (simp only [glit, nI_add, pk_mul]; congr 1; omega) | (simp only [*, glit, nI_add, pk_mul]; congr 1; omega)) (by first | rfl | assumption | (simp only [glit, nI_add, pk_mul]; done) | (simp only [glit, nI_add, pk_mul]; congr 1; omega) | (simp only [*, glit, nI_add, pk_mul]; congr 1; omega)) (by omega) (by omega)
        refine g_iconst (v := 0) C dX0_walkStep_9 (by decide) ?_
        refine g_istore C dX0_walkStep_10 (Nat.le_of_ble_eq_true rfl) rfl ?_
        refine g_lv [some _, some _, some _, some _, some _, some _, some _, some _, none, none, none, none] (gs_some (gs_some (gs_some (gs_some (gs_some (gs_some (gs_some (gs_some (gs_none (gs_none (gs_none (gs_none gs_nil)))))))))))) ?_
        have L_12 : ∀ (nn : Nat) (b : Nat) (s2 : GS) (hb : a + b ≤ j + 1) (hs2 : StW σ s2) (hI_s2 : IW false (bS (vS v) u) (tS (vS v) u) al (wW false (bS (vS v) u) (tS (vS v) u) al j) j σ s2 (Lx a b 0)), j + 1 - b < nn → gW Γ δ s2 12 [some (.ref (δ.2.2.1 20)), some (.ref (δ.2.2.1 (8 + u))), some (.int (nI j)), some (.int (nI k)), some (.int (nI c)), some (.int 0), some (.int (nI a)), some (.int (nI b)), none, none, none, none] [] := by
          intro nn
          induction nn with
          | zero =>
            intro b s2 hb hs2 hI_s2 hm_12
            exact absurd hm_12 (Nat.not_lt_zero _)
          | succ nn ih_12 =>
            intro b s2 hb hs2 hI_s2 hm_12
            refine g_iload C dX0_walkStep_12 rfl ?_
            refine g_iload C dX0_walkStep_14 rfl ?_
            refine g_iadd C dX0_walkStep_16 ?_
            refine g_iload_n C dX0_walkStep_17 rfl ?_
            refine g_icmp_gt C 193 dX0_walkStep_18 (by decide) (fun c_18 => ?_) (fun c_18 => ?_)
            · have k_18 := glt c_18 (a := j) (b := (a + b)) (by first | rfl | assumption | (simp only [glit, nI_add, pk_mul]; done) | (simp only [glit, nI_add, pk_mul]; congr 1; omega) | (simp only [*, glit, nI_add, pk_mul]; congr 1; omega)) (by first | rfl | assumption | (simp only [glit, nI_add, pk_mul]; done) | (simp only [glit, nI_add, pk_mul]; congr 1; omega) | (simp only [*, glit, nI_add, pk_mul]; congr 1; omega)) (by omega) (by omega)
              skip
              refine g_iinc (v := nI (a + 1)) C dX0_walkStep_193 rfl (ginc _ 1) rfl ?_
              refine g_lv [some _, some _, some _, some _, some _, some _, some _, some _, none, none, none, none] (gs_some (gs_some (gs_some (gs_some (gs_some (gs_some (gs_some (gs_some (gs_none (gs_none (gs_none (gs_none gs_nil)))))))))))) ?_
              refine g_goto C 3 dX0_walkStep_196 (by decide) ?_
              refine g_lv [some _, some _, some _, some _, some _, some _, some _, none, none, none, none, none] (gs_some (gs_some (gs_some (gs_some (gs_some (gs_some (gs_some (gs_none (gs_none (gs_none (gs_none (gs_none gs_nil)))))))))))) ?_
              exact ih_3 (a + 1) _ (by omega) hs2 (IW_e (fun x hx hn => Lx_a (j := j) (by omega) (hw x hn).1) hI_s2) (by omega)
            · have k_18 := gnlt c_18 (a := j) (b := (a + b)) (by first | rfl | assumption | (simp only [glit, nI_add, pk_mul]; done) | (simp only [glit, nI_add, pk_mul]; congr 1; omega) | (simp only [*, glit, nI_add, pk_mul]; congr 1; omega)) (by first | rfl | assumption | (simp only [glit, nI_add, pk_mul]; done) | (simp only [glit, nI_add, pk_mul]; congr 1; omega) | (simp only [*, glit, nI_add, pk_mul]; congr 1; omega)) (by omega) (by omega)
              refine g_iconst (v := 0) C dX0_walkStep_21 (by decide) ?_
              refine g_istore C dX0_walkStep_22 (Nat.le_of_ble_eq_true rfl) rfl ?_
              refine g_lv [some _, some _, some _, some _, some _, some _, some _, some _, some _, none, none, none] (gs_some (gs_some (gs_some (gs_some (gs_some (gs_some (gs_some (gs_some (gs_some (gs_none (gs_none (gs_none gs_nil)))))))))))) ?_
              have L_24 : ∀ (nn : Nat) (e : Nat) (s3 : GS) (he : a + b + e ≤ j + 1) (hs3 : StW σ s3) (hI_s3 : IW false (bS (vS v) u) (tS (vS v) u) al (wW false (bS (vS v) u) (tS (vS v) u) al j) j σ s3 (Lx a b e)), j + 1 - e < nn → gW Γ δ s3 24 [some (.ref (δ.2.2.1 20)), some (.ref (δ.2.2.1 (8 + u))), some (.int (nI j)), some (.int (nI k)), some (.int (nI c)), some (.int 0), some (.int (nI a)), some (.int (nI b)), some (.int (nI e)), none, none, none] [] := by
                intro nn
                induction nn with
                | zero =>
                  intro e s3 he hs3 hI_s3 hm_24
                  exact absurd hm_24 (Nat.not_lt_zero _)
                | succ nn ih_24 =>
                  intro e s3 he hs3 hI_s3 hm_24
                  have hz3 : gSk σ s3 := hs3.1
                  refine g_iload C dX0_walkStep_24 rfl ?_
                  refine g_iload C dX0_walkStep_26 rfl ?_
                  refine g_iadd C dX0_walkStep_28 ?_
                  refine g_iload C dX0_walkStep_29 rfl ?_
                  refine g_iadd C dX0_walkStep_31 ?_
                  refine g_iload_n C dX0_walkStep_32 rfl ?_
                  refine g_icmp_gt C 187 dX0_walkStep_33 (by decide) (fun c_33 => ?_) (fun c_33 => ?_)
                  · have k_33 := glt c_33 (a := j) (b := ((a + b) + e)) (by first | rfl | assumption | (simp only [glit, nI_add, pk_mul]; done) | (simp only [glit, nI_add, pk_mul]; congr 1; omega) | (simp only [*, glit, nI_add, pk_mul]; congr 1; omega)) (by first | rfl | assumption | (simp only [glit, nI_add, pk_mul]; done) | (simp only [glit, nI_add, pk_mul]; congr 1; omega) | (simp only [*, glit, nI_add, pk_mul]; congr 1; omega)) (by omega) (by omega)
                    skip
                    refine g_iinc (v := nI (b + 1)) C dX0_walkStep_187 rfl (ginc _ 1) rfl ?_
                    refine g_lv [some _, some _, some _, some _, some _, some _, some _, some _, some _, none, none, none] (gs_some (gs_some (gs_some (gs_some (gs_some (gs_some (gs_some (gs_some (gs_some (gs_none (gs_none (gs_none gs_nil)))))))))))) ?_
                    refine g_goto C 12 dX0_walkStep_190 (by decide) ?_
                    refine g_lv [some _, some _, some _, some _, some _, some _, some _, some _, none, none, none, none] (gs_some (gs_some (gs_some (gs_some (gs_some (gs_some (gs_some (gs_some (gs_none (gs_none (gs_none (gs_none gs_nil)))))))))))) ?_
                    exact ih_12 (b + 1) _ (by omega) hs3 (IW_e (fun x hx hn => Lx_b (j := j) (by omega) (hw x hn).1) hI_s3) (by omega)
                  · have k_33 := gnlt c_33 (a := j) (b := ((a + b) + e)) (by first | rfl | assumption | (simp only [glit, nI_add, pk_mul]; done) | (simp only [glit, nI_add, pk_mul]; congr 1; omega) | (simp only [*, glit, nI_add, pk_mul]; congr 1; omega)) (by first | rfl | assumption | (simp only [glit, nI_add, pk_mul]; done) | (simp only [glit, nI_add, pk_mul]; congr 1; omega) | (simp only [*, glit, nI_add, pk_mul]; congr 1; omega)) (by omega) (by omega)
                    refine g_iload C dX0_walkStep_36 rfl ?_
                    refine g_gets C dX0_walkStep_38 mW481 ?_
                    refine g_iconst (v := 0) C dX0_walkStep_41 (by decide) ?_
                    refine g_staldN C dX0_walkStep_42 (k := 0) (by first | rfl | assumption | (simp only [glit, nI_add, pk_mul]; done) | (simp only [glit, nI_add, pk_mul]; congr 1; omega) | (simp only [*, glit, nI_add, pk_mul]; congr 1; omega)) (by omega) ?_
                    rw [show gstp 0 = 169 from rfl]
                    refine g_imul C dX0_walkStep_43 ?_
                    refine g_iload C dX0_walkStep_44 rfl ?_
                    refine g_gets C dX0_walkStep_46 mW481 ?_
                    refine g_iconst (v := 1) C dX0_walkStep_49 (by decide) ?_
                    refine g_staldN C dX0_walkStep_50 (k := 1) (by first | rfl | assumption | (simp only [glit, nI_add, pk_mul]; done) | (simp only [glit, nI_add, pk_mul]; congr 1; omega) | (simp only [*, glit, nI_add, pk_mul]; congr 1; omega)) (by omega) ?_
                    refine g_imul C dX0_walkStep_51 ?_
                    rw [show gstp 1 = 13 from rfl]
                    refine g_iadd C dX0_walkStep_52 ?_
                    refine g_iload C dX0_walkStep_53 rfl ?_
                    refine g_gets C dX0_walkStep_55 mW481 ?_
                    refine g_iconst (v := 2) C dX0_walkStep_58 (by decide) ?_
                    refine g_staldN C dX0_walkStep_59 (k := 2) (by first | rfl | assumption | (simp only [glit, nI_add, pk_mul]; done) | (simp only [glit, nI_add, pk_mul]; congr 1; omega) | (simp only [*, glit, nI_add, pk_mul]; congr 1; omega)) (by omega) ?_
                    refine g_imul C dX0_walkStep_60 ?_
                    rw [show gstp 2 = 1 from rfl]
                    refine g_iadd C dX0_walkStep_61 ?_
                    rw [pk_mul, pk_mul, pk_mul, nI_add, nI_add]
                    refine g_istore C dX0_walkStep_62 (Nat.le_of_ble_eq_true rfl) rfl ?_
                    refine g_lv [some _, some _, some _, some _, some _, some _, some _, some _, some _, some _, none, none] (gs_some (gs_some (gs_some (gs_some (gs_some (gs_some (gs_some (gs_some (gs_some (gs_some (gs_none (gs_none gs_nil)))))))))))) ?_
                    refine g_aload_n C dX0_walkStep_64 rfl ?_
                    refine g_get C dX0_walkStep_65 iwX0 rfl (wO_A δ _) 0 (Nat.le_of_ble_eq_true rfl) mW108 rfl rfl ?_
                    refine g_iload C dX0_walkStep_68 rfl ?_
                    refine g_laldN C dX0_walkStep_70 (k := (a * 169 + b * 13 + e * 1)) (q := (8 + gP _ % 2)) (by omega) (gnw _ _) (by first | rfl | assumption | (simp only [glit, nI_add, pk_mul]; done) | (simp only [glit, nI_add, pk_mul]; congr 1; omega) | (simp only [*, glit, nI_add, pk_mul]; congr 1; omega)) (by rw [gLenL_n _]; omega) ?_
                    have hnow := NowI_at hI_s3.1 (j := j) (by omega) (by omega)
                    rw [hnow]
                    refine g_lstore C dX0_walkStep_71 (Nat.le_of_ble_eq_true rfl) rfl ?_
                    refine g_lv [some _, some _, some _, some _, some _, some _, some _, some _, some _, some _, some _, none] (gs_some (gs_some (gs_some (gs_some (gs_some (gs_some (gs_some (gs_some (gs_some (gs_some (gs_some (gs_none gs_nil)))))))))))) ?_
                    refine g_lload C dX0_walkStep_73 rfl ?_
                    refine g_lconst (v := 0) C dX0_walkStep_75 (by decide) ?_
                    refine g_lcmp C dX0_walkStep_76 ?_
                    refine g_if_ne C 83 dX0_walkStep_77 (by decide) (fun c_77 => ?_) (fun c_77 => ?_)
                    · rw [lg_cmp_eq] at c_77
                      have hnz : ¬ (wW false (bS (vS v) u) (tS (vS v) u) al j) (a + 13 * b + 169 * e) = 0 := fun z => c_77 ((lN_z (hbd _)).mpr z)
                      have hok := hw _ hnz
                      have hp3 : gP s3 = 1 ∨ gP s3 = 2 := by rw [hs3.2.1]; exact hP
                      refine g_aload_n C dX0_walkStep_83 rfl ?_
                      refine g_get C dX0_walkStep_84 iwX0 rfl (wO_A δ _) 0 (Nat.le_of_ble_eq_true rfl) mW108 rfl rfl ?_
                      refine g_iload C dX0_walkStep_87 rfl ?_
                      refine g_lconst (v := 0) C dX0_walkStep_89 (by decide) ?_
                      refine g_lastN C dX0_walkStep_90 (k := (a * 169 + b * 13 + e * 1)) (q := (8 + gP _ % 2)) (by omega) (gnw _ _) (by first | rfl | assumption | (simp only [glit, nI_add, pk_mul]; done) | (simp only [glit, nI_add, pk_mul]; congr 1; omega) | (simp only [*, glit, nI_add, pk_mul]; congr 1; omega)) (by rw [gLenL_n _]; omega) ?_
                      refine g_aload_n C dX0_walkStep_91 rfl ?_
                      refine g_get C dX0_walkStep_92 iwX0 rfl (wO_A δ _) 3 (Nat.le_of_ble_eq_true rfl) mW111 rfl rfl ?_
                      refine g_iconst (v := 0) C dX0_walkStep_95 (by decide) ?_
                      refine g_iload C dX0_walkStep_96 rfl ?_
                      refine g_iastN C dX0_walkStep_98 (k := 0) (q := 48) (by decide) rfl (by first | rfl | assumption | (simp only [glit, nI_add, pk_mul]; done) | (simp only [glit, nI_add, pk_mul]; congr 1; omega) | (simp only [*, glit, nI_add, pk_mul]; congr 1; omega)) (show 0 < gLenI 48 from Nat.lt_of_lt_of_eq (show 0 < 4 by omega) rfl) ?_
                      refine g_aload_n C dX0_walkStep_99 rfl ?_
                      refine g_get C dX0_walkStep_100 iwX0 rfl (wO_A δ _) 3 (Nat.le_of_ble_eq_true rfl) mW111 rfl rfl ?_
                      refine g_iconst (v := 1) C dX0_walkStep_103 (by decide) ?_
                      refine g_iload C dX0_walkStep_104 rfl ?_
                      refine g_iastN C dX0_walkStep_106 (k := 1) (q := 48) (by decide) rfl (by first | rfl | assumption | (simp only [glit, nI_add, pk_mul]; done) | (simp only [glit, nI_add, pk_mul]; congr 1; omega) | (simp only [*, glit, nI_add, pk_mul]; congr 1; omega)) (show 1 < gLenI 48 from Nat.lt_of_lt_of_eq (show 1 < 4 by omega) rfl) ?_
                      rw [uI_uI, gI_uI, if_pos rfl]
                      refine g_aload_n C dX0_walkStep_107 rfl ?_
                      refine g_get C dX0_walkStep_108 iwX0 rfl (wO_A δ _) 3 (Nat.le_of_ble_eq_true rfl) mW111 rfl rfl ?_
                      refine g_iconst (v := 2) C dX0_walkStep_111 (by decide) ?_
                      refine g_iload C dX0_walkStep_112 rfl ?_
                      refine g_iastN C dX0_walkStep_114 (k := 2) (q := 48) (by decide) rfl (by first | rfl | assumption | (simp only [glit, nI_add, pk_mul]; done) | (simp only [glit, nI_add, pk_mul]; congr 1; omega) | (simp only [*, glit, nI_add, pk_mul]; congr 1; omega)) (show 2 < gLenI 48 from Nat.lt_of_lt_of_eq (show 2 < 4 by omega) rfl) ?_
                      rw [uI_uI, gI_uI, if_pos rfl]
                      refine g_aload_n C dX0_walkStep_115 rfl ?_
                      refine g_get C dX0_walkStep_116 iwX0 rfl (wO_A δ _) 3 (Nat.le_of_ble_eq_true rfl) mW111 rfl rfl ?_
                      refine g_iconst (v := 3) C dX0_walkStep_119 (by decide) ?_
                      refine g_iload_n C dX0_walkStep_120 rfl ?_
                      refine g_iload C dX0_walkStep_121 rfl ?_
                      refine g_isub C dX0_walkStep_123 ?_
                      refine g_iload C dX0_walkStep_124 rfl ?_
                      refine g_isub C dX0_walkStep_126 ?_
                      refine g_iload C dX0_walkStep_127 rfl ?_
                      refine g_isub C dX0_walkStep_129 ?_
                      refine g_iastN C dX0_walkStep_130 (k := 3) (q := 48) (by decide) rfl (by first | rfl | assumption | (simp only [glit, nI_add, pk_mul]; done) | (simp only [glit, nI_add, pk_mul]; congr 1; omega) | (simp only [*, glit, nI_add, pk_mul]; congr 1; omega)) (show 3 < gLenI 48 from Nat.lt_of_lt_of_eq (show 3 < 4 by omega) rfl) ?_
                      rw [uI_uI, gI_uI, if_pos rfl]
                      refine g_aload_n C dX0_walkStep_131 rfl ?_
                      refine g_aload_n C dX0_walkStep_132 rfl ?_
                      refine g_callVv C sV_X0_87 dX0_walkStep_133 (c_X0_findBallsb _ δ (uI (uL s3 (8 + gP s3 % 2) (vp_updL (gL s3 (8 + gP s3 % 2)) (a * 169 + b * 13 + e * 1) 0)) 48 (upd (upd (upd (upd (gI s3 48) 0 (nI a)) 1 (nI b)) 2 (nI e)) 3 (nI j - nI a - nI b - nI e))) hu (k := j) (x := (a + 13 * b + 169 * e)) (fun c hc => gof3 (f := gI s3 48) (a := a) (b := b) (e := e) (j := j) (by omega) (by omega) hc) (KC_sk (a := σ) (by repeat (first | (with_reducible assumption) | (with_reducible exact gSk_r _) | (with_reducible refine gSk_I (by omega) ?_) | (with_reducible refine gSk_L (by omega) ?_) | (with_reducible refine gSk_N (by omega) ?_) | (with_reducible refine gSk_G (by omega) ?_) | (with_reducible refine gSk_P ?_))) K) R) ⟨by decide, by decide⟩ (wO_A δ _) rfl rfl rfl rfl (Nat.le_of_ble_eq_true rfl) (fun s_133 h_133 => ?_)
                      obtain ⟨g4, rfl, hg4⟩ := h_133
                      refine g_iload_n C dX0_walkStep_136 rfl ?_
                      refine g_iload_n C dX0_walkStep_137 rfl ?_
                      refine g_icmp_ne C 164 dX0_walkStep_138 (by decide) (fun c_138 => ?_) (fun c_138 => ?_)
                      · have k_138 := gne c_138 (a := j) (b := k) (by first | rfl | assumption | (simp only [glit, nI_add, pk_mul]; done) | (simp only [glit, nI_add, pk_mul]; congr 1; omega) | (simp only [*, glit, nI_add, pk_mul]; congr 1; omega)) (by first | rfl | assumption | (simp only [glit, nI_add, pk_mul]; done) | (simp only [glit, nI_add, pk_mul]; congr 1; omega) | (simp only [*, glit, nI_add, pk_mul]; congr 1; omega)) (by omega) (by omega)
                        refine g_aload_n C dX0_walkStep_164 rfl ?_
                        refine g_aload_n C dX0_walkStep_165 rfl ?_
                        refine g_iload C dX0_walkStep_166 rfl ?_
                        refine g_lload C dX0_walkStep_168 rfl ?_
                        refine g_aload_n C dX0_walkStep_170 rfl ?_
                        refine g_get C dX0_walkStep_171 iwX0 rfl (wO_A δ _) 2 (Nat.le_of_ble_eq_true rfl) mW110 rfl rfl ?_
                        refine g_iload_n C dX0_walkStep_174 rfl ?_
                        refine g_ialdN C dX0_walkStep_175 (k := j) (q := 47) (by decide) rfl (by first | rfl | assumption | (simp only [glit, nI_add, pk_mul]; done) | (simp only [glit, nI_add, pk_mul]; congr 1; omega) | (simp only [*, glit, nI_add, pk_mul]; congr 1; omega)) (show j < gLenI 47 from Nat.lt_of_lt_of_eq (show j < 12 by omega) rfl) ?_
                        refine g_iload C dX0_walkStep_176 rfl ?_
                        rw [show nI (a * 169 + b * 13 + e * 1) = nI (plc (a + 13 * b + 169 * e)) by rw [plc_at (by omega) (by omega)]; exact congrArg nI (by omega)]
                        refine g_callVv C sV_X0_95 dX0_walkStep_178 (c_X0_spreadb0 _ δ _ hu (k := j) (x := (a + 13 * b + 169 * e)) (w := (wW false (bS (vS v) u) (tS (vS v) u) al j) (a + 13 * b + 169 * e)) (by omega) (hal_of (s := uI (uI (uL s3 (8 + gP s3 % 2) (vp_updL (gL s3 (8 + gP s3 % 2)) (a * 169 + b * 13 + e * 1) 0)) 48 (upd (upd (upd (upd (gI s3 48) 0 (nI a)) 1 (nI b)) 2 (nI e)) 3 (nI j - nI a - nI b - nI e))) 49 g4) hs3.2.2.1 hal) (Wf := (wW false (bS (vS v) u) (tS (vS v) u) al j)) rfl (KC_sk (a := σ) (by repeat (first | (with_reducible assumption) | (with_reducible exact gSk_r _) | (with_reducible refine gSk_I (by omega) ?_) | (with_reducible refine gSk_L (by omega) ?_) | (with_reducible refine gSk_N (by omega) ?_) | (with_reducible refine gSk_G (by omega) ?_) | (with_reducible refine gSk_P ?_))) K) R hok hg4) ⟨by decide, by decide⟩ (wO_A δ _) rfl rfl rfl rfl (Nat.le_of_ble_eq_true rfl) (fun s_178 h_178 => ?_)
                        obtain ⟨N4, e4, rfl, hN4, he4⟩ := h_178
                        have hI4 := IW_go (o := (upd (upd (upd (upd (gI s3 48) 0 (nI a)) 1 (nI b)) 2 (nI e)) 3 (nI j - nI a - nI b - nI e))) (g := g4) hp3 (by omega) (by omega) hI_s3 (gN4 hp3 hN4) he4
                        have hS4 := StW_go (A := (vp_updL (gL s3 (8 + gP s3 % 2)) (a * 169 + b * 13 + e * 1) 0)) (N := N4) (o := (upd (upd (upd (upd (gI s3 48) 0 (nI a)) 1 (nI b)) 2 (nI e)) 3 (nI j - nI a - nI b - nI e))) (g := g4) (e' := e4) hp3 hs3
                        refine g_iinc (v := nI (e + 1)) C dX0_walkStep_181 rfl (ginc _ 1) rfl ?_
                        refine g_lv [some _, some _, some _, some _, some _, some _, some _, some _, some _, some _, some _, none] (gs_some (gs_some (gs_some (gs_some (gs_some (gs_some (gs_some (gs_some (gs_some (gs_some (gs_some (gs_none gs_nil)))))))))))) ?_
                        refine g_goto C 24 dX0_walkStep_184 (by decide) ?_
                        refine g_lv [some _, some _, some _, some _, some _, some _, some _, some _, some _, none, none, none] (gs_some (gs_some (gs_some (gs_some (gs_some (gs_some (gs_some (gs_some (gs_some (gs_none (gs_none (gs_none gs_nil)))))))))))) ?_
                        exact ih_24 (e + 1) _ (by omega) (by first | exact hs3 | exact hS4) (by first | exact IW_skip hz (by omega) (by omega) hI_s3 | exact hI4) (by omega)
                      · exact absurd ((nI_eq (by omega) (by omega)).mp c_138) (by omega)
                    · rw [lg_cmp_eq] at c_77
                      have hz : (wW false (bS (vS v) u) (tS (vS v) u) al j) (a + 13 * b + 169 * e) = 0 := (lN_z (hbd _)).mp c_77
                      refine g_goto C 181 dX0_walkStep_80 (by decide) ?_
                      refine g_iinc (v := nI (e + 1)) C dX0_walkStep_181 rfl (ginc _ 1) rfl ?_
                      refine g_lv [some _, some _, some _, some _, some _, some _, some _, some _, some _, some _, some _, none] (gs_some (gs_some (gs_some (gs_some (gs_some (gs_some (gs_some (gs_some (gs_some (gs_some (gs_some (gs_none gs_nil)))))))))))) ?_
                      refine g_goto C 24 dX0_walkStep_184 (by decide) ?_
                      refine g_lv [some _, some _, some _, some _, some _, some _, some _, some _, some _, none, none, none] (gs_some (gs_some (gs_some (gs_some (gs_some (gs_some (gs_some (gs_some (gs_some (gs_none (gs_none (gs_none gs_nil)))))))))))) ?_
                      exact ih_24 (e + 1) _ (by omega) (by first | exact hs3 | exact hS4) (by first | exact IW_skip hz (by omega) (by omega) hI_s3 | exact hI4) (by omega)
              refine g_lv [some _, some _, some _, some _, some _, some _, some _, some _, some _, none, none, none] (gs_some (gs_some (gs_some (gs_some (gs_some (gs_some (gs_some (gs_some (gs_some (gs_none (gs_none (gs_none gs_nil)))))))))))) ?_
              exact L_24 _ 0 _ (by omega) hs2 hI_s2 (Nat.lt_succ_self _)
        refine g_lv [some _, some _, some _, some _, some _, some _, some _, some _, none, none, none, none] (gs_some (gs_some (gs_some (gs_some (gs_some (gs_some (gs_some (gs_some (gs_none (gs_none (gs_none (gs_none gs_nil)))))))))))) ?_
        exact L_12 _ 0 _ (by omega) hs hI_s1 (Nat.lt_succ_self _)
  refine g_lv [some _, some _, some _, some _, some _, some _, some _, none, none, none, none, none] (gs_some (gs_some (gs_some (gs_some (gs_some (gs_some (gs_some (gs_none (gs_none (gs_none (gs_none (gs_none gs_nil)))))))))))) ?_
  exact L_3 _ 0 _ (by omega) (StW_r _) hI (Nat.lt_succ_self _)
set_option maxRecDepth 100000 in
set_option maxHeartbeats 4000000 in
theorem c_X0_walkStepb11 (l : Launch) (δ : GD) (σ : GS) {u : Nat} (hu : u < 8) {j k c : Nat} (hj : j = k) (hk : k ≤ 12) (hc : c < 4) {al : Nat → Nat → Prop} (hP : gP σ = 1 ∨ gP σ = 2) {v : GV} (K : KC σ v) (R : RV v) (hI : IV (bS (vS v) u) (tS (vS v) u) (wW true (bS (vS v) u) (tS (vS v) u) al j) j c σ (Lx 0 0 0)) (hbd : ∀ x, (wW true (bS (vS v) u) (tS (vS v) u) al j) x < 9223372036854775808) : gM l δ yX0_walkStep cX0_walkStep 12 none 2 53 [.ref (δ.2.2.1 20), .ref (δ.2.2.1 (8 + u)), .int (nI j), .int (nI k), .int (nI c), .int 1] σ (gPv (fun σ' => StV σ σ' ∧ IV (bS (vS v) u) (tS (vS v) u) (wW true (bS (vS v) u) (tS (vS v) u) al j) j c σ' (Lx (j + 1) 0 0))) := by
  refine g_of (lv0 := [some (.ref (δ.2.2.1 20)), some (.ref (δ.2.2.1 (8 + u))), some (.int (nI j)), some (.int (nI k)), some (.int (nI c)), some (.int 1), none, none, none, none, none, none]) (by decide) rfl (Nat.le_of_ble_eq_true rfl) (fun Γ hl C E => ?_)
  subst hl
  have C : gC Γ δ cX0_walkStep RX0 12 2 53 := C
  have hn := K.2.1 u hu
  have h4 := RV_n R hu
  have hw : ∀ x, ¬ (wW true (bS (vS v) u) (tS (vS v) u) al j) x = 0 → xOk (bS (vS v) u) (tS (vS v) u) (vC v u) j x := wW_ok (VS_B2 R.2.2.1 hu) (fun d hd h => (R.2.2.1.1 u hu d hd).2.1 h) (fun c hc d hd h => (R.2.2.1.2.1 u hu c hc d hd).2 (Or.inr h)) j (by omega)
  refine g_iconst (v := 0) C dX0_walkStep_0 (by decide) ?_
  refine g_istore C dX0_walkStep_1 (Nat.le_of_ble_eq_true rfl) rfl ?_
  refine g_lv [some _, some _, some _, some _, some _, some _, some _, none, none, none, none, none] (gs_some (gs_some (gs_some (gs_some (gs_some (gs_some (gs_some (gs_none (gs_none (gs_none (gs_none (gs_none gs_nil)))))))))))) ?_
  have L_3 : ∀ (nn : Nat) (a : Nat) (s1 : GS) (ha : a ≤ j + 1) (hs : StV σ s1) (hI_s1 : IV (bS (vS v) u) (tS (vS v) u) (wW true (bS (vS v) u) (tS (vS v) u) al j) j c s1 (Lx a 0 0)), j + 1 - a < nn → gW Γ δ s1 3 [some (.ref (δ.2.2.1 20)), some (.ref (δ.2.2.1 (8 + u))), some (.int (nI j)), some (.int (nI k)), some (.int (nI c)), some (.int 1), some (.int (nI a)), none, none, none, none, none] [] := by
    intro nn
    induction nn with
    | zero =>
      intro a s1 ha hs hI_s1 hm_3
      exact absurd hm_3 (Nat.not_lt_zero _)
    | succ nn ih_3 =>
      intro a s1 ha hs hI_s1 hm_3
      refine g_iload C dX0_walkStep_3 rfl ?_
      refine g_iload_n C dX0_walkStep_5 rfl ?_
      refine g_icmp_gt C 199 dX0_walkStep_6 (by decide) (fun c_6 => ?_) (fun c_6 => ?_)
      · have k_6 := glt c_6 (a := j) (b := a) (by first | rfl | assumption | (simp only [glit, nI_add, pk_mul]; done) | (simp only [glit, nI_add, pk_mul]; congr 1; omega) | (simp only [*, glit, nI_add, pk_mul]; congr 1; omega)) (by first | rfl | assumption | (simp only [glit, nI_add, pk_mul]; done) | (simp only [glit, nI_add, pk_mul]; congr 1; omega) | (simp only [*, glit, nI_add, pk_mul]; congr 1; omega)) (by omega) (by omega)
        have ea : a = j + 1 := by omega
        exact g_vret C E dX0_walkStep_199 rfl ⟨rfl, ⟨hs, by rw [← ea]; exact hI_s1⟩⟩
      · have k_6 := gnlt c_6 (a := j) (b := a) (by first | rfl | assumption | (simp only [glit, nI_add, pk_mul]; done) | (simp only [glit, nI_add, pk_mul]; congr 1; omega) | (simp only [*, glit, nI_add, pk_mul]; congr 1; omega)) (by first | rfl | assumption | (simp only [glit, nI_add, pk_mul]; done) | (simp only [glit, nI_add, pk_mul]; congr 1; omega) | (simp only [*, glit, nI_add, pk_mul]; congr 1; omega)) (by omega) (by omega)
        refine g_iconst (v := 0) C dX0_walkStep_9 (by decide) ?_
        refine g_istore C dX0_walkStep_10 (Nat.le_of_ble_eq_true rfl) rfl ?_
        refine g_lv [some _, some _, some _, some _, some _, some _, some _, some _, none, none, none, none] (gs_some (gs_some (gs_some (gs_some (gs_some (gs_some (gs_some (gs_some (gs_none (gs_none (gs_none (gs_none gs_nil)))))))))))) ?_
        have L_12 : ∀ (nn : Nat) (b : Nat) (s2 : GS) (hb : a + b ≤ j + 1) (hs2 : StV σ s2) (hI_s2 : IV (bS (vS v) u) (tS (vS v) u) (wW true (bS (vS v) u) (tS (vS v) u) al j) j c s2 (Lx a b 0)), j + 1 - b < nn → gW Γ δ s2 12 [some (.ref (δ.2.2.1 20)), some (.ref (δ.2.2.1 (8 + u))), some (.int (nI j)), some (.int (nI k)), some (.int (nI c)), some (.int 1), some (.int (nI a)), some (.int (nI b)), none, none, none, none] [] := by
          intro nn
          induction nn with
          | zero =>
            intro b s2 hb hs2 hI_s2 hm_12
            exact absurd hm_12 (Nat.not_lt_zero _)
          | succ nn ih_12 =>
            intro b s2 hb hs2 hI_s2 hm_12
            refine g_iload C dX0_walkStep_12 rfl ?_
            refine g_iload C dX0_walkStep_14 rfl ?_
            refine g_iadd C dX0_walkStep_16 ?_
            refine g_iload_n C dX0_walkStep_17 rfl ?_
            refine g_icmp_gt C 193 dX0_walkStep_18 (by decide) (fun c_18 => ?_) (fun c_18 => ?_)
            · have k_18 := glt c_18 (a := j) (b := (a + b)) (by first | rfl | assumption | (simp only [glit, nI_add, pk_mul]; done) | (simp only [glit, nI_add, pk_mul]; congr 1; omega) | (simp only [*, glit, nI_add, pk_mul]; congr 1; omega)) (by first | rfl | assumption | (simp only [glit, nI_add, pk_mul]; done) | (simp only [glit, nI_add, pk_mul]; congr 1; omega) | (simp only [*, glit, nI_add, pk_mul]; congr 1; omega)) (by omega) (by omega)
              skip
              refine g_iinc (v := nI (a + 1)) C dX0_walkStep_193 rfl (ginc _ 1) rfl ?_
              refine g_lv [some _, some _, some _, some _, some _, some _, some _, some _, none, none, none, none] (gs_some (gs_some (gs_some (gs_some (gs_some (gs_some (gs_some (gs_some (gs_none (gs_none (gs_none (gs_none gs_nil)))))))))))) ?_
              refine g_goto C 3 dX0_walkStep_196 (by decide) ?_
              refine g_lv [some _, some _, some _, some _, some _, some _, some _, none, none, none, none, none] (gs_some (gs_some (gs_some (gs_some (gs_some (gs_some (gs_some (gs_none (gs_none (gs_none (gs_none (gs_none gs_nil)))))))))))) ?_
              exact ih_3 (a + 1) _ (by omega) hs2 (IV_e (fun x hx hn => Lx_a (j := j) (by omega) (hw x hn).1) hI_s2) (by omega)
            · have k_18 := gnlt c_18 (a := j) (b := (a + b)) (by first | rfl | assumption | (simp only [glit, nI_add, pk_mul]; done) | (simp only [glit, nI_add, pk_mul]; congr 1; omega) | (simp only [*, glit, nI_add, pk_mul]; congr 1; omega)) (by first | rfl | assumption | (simp only [glit, nI_add, pk_mul]; done) | (simp only [glit, nI_add, pk_mul]; congr 1; omega) | (simp only [*, glit, nI_add, pk_mul]; congr 1; omega)) (by omega) (by omega)
              refine g_iconst (v := 0) C dX0_walkStep_21 (by decide) ?_
              refine g_istore C dX0_walkStep_22 (Nat.le_of_ble_eq_true rfl) rfl ?_
              refine g_lv [some _, some _, some _, some _, some _, some _, some _, some _, some _, none, none, none] (gs_some (gs_some (gs_some (gs_some (gs_some (gs_some (gs_some (gs_some (gs_some (gs_none (gs_none (gs_none gs_nil)))))))))))) ?_
              have L_24 : ∀ (nn : Nat) (e : Nat) (s3 : GS) (he : a + b + e ≤ j + 1) (hs3 : StV σ s3) (hI_s3 : IV (bS (vS v) u) (tS (vS v) u) (wW true (bS (vS v) u) (tS (vS v) u) al j) j c s3 (Lx a b e)), j + 1 - e < nn → gW Γ δ s3 24 [some (.ref (δ.2.2.1 20)), some (.ref (δ.2.2.1 (8 + u))), some (.int (nI j)), some (.int (nI k)), some (.int (nI c)), some (.int 1), some (.int (nI a)), some (.int (nI b)), some (.int (nI e)), none, none, none] [] := by
                intro nn
                induction nn with
                | zero =>
                  intro e s3 he hs3 hI_s3 hm_24
                  exact absurd hm_24 (Nat.not_lt_zero _)
                | succ nn ih_24 =>
                  intro e s3 he hs3 hI_s3 hm_24
                  have hz3 : gSk σ s3 := hs3.1
                  refine g_iload C dX0_walkStep_24 rfl ?_
                  refine g_iload C dX0_walkStep_26 rfl ?_
                  refine g_iadd C dX0_walkStep_28 ?_
                  refine g_iload C dX0_walkStep_29 rfl ?_
                  refine g_iadd C dX0_walkStep_31 ?_
                  refine g_iload_n C dX0_walkStep_32 rfl ?_
                  refine g_icmp_gt C 187 dX0_walkStep_33 (by decide) (fun c_33 => ?_) (fun c_33 => ?_)
                  · have k_33 := glt c_33 (a := j) (b := ((a + b) + e)) (by first | rfl | assumption | (simp only [glit, nI_add, pk_mul]; done) | (simp only [glit, nI_add, pk_mul]; congr 1; omega) | (simp only [*, glit, nI_add, pk_mul]; congr 1; omega)) (by first | rfl | assumption | (simp only [glit, nI_add, pk_mul]; done) | (simp only [glit, nI_add, pk_mul]; congr 1; omega) | (simp only [*, glit, nI_add, pk_mul]; congr 1; omega)) (by omega) (by omega)
                    skip
                    refine g_iinc (v := nI (b + 1)) C dX0_walkStep_187 rfl (ginc _ 1) rfl ?_
                    refine g_lv [some _, some _, some _, some _, some _, some _, some _, some _, some _, none, none, none] (gs_some (gs_some (gs_some (gs_some (gs_some (gs_some (gs_some (gs_some (gs_some (gs_none (gs_none (gs_none gs_nil)))))))))))) ?_
                    refine g_goto C 12 dX0_walkStep_190 (by decide) ?_
                    refine g_lv [some _, some _, some _, some _, some _, some _, some _, some _, none, none, none, none] (gs_some (gs_some (gs_some (gs_some (gs_some (gs_some (gs_some (gs_some (gs_none (gs_none (gs_none (gs_none gs_nil)))))))))))) ?_
                    exact ih_12 (b + 1) _ (by omega) hs3 (IV_e (fun x hx hn => Lx_b (j := j) (by omega) (hw x hn).1) hI_s3) (by omega)
                  · have k_33 := gnlt c_33 (a := j) (b := ((a + b) + e)) (by first | rfl | assumption | (simp only [glit, nI_add, pk_mul]; done) | (simp only [glit, nI_add, pk_mul]; congr 1; omega) | (simp only [*, glit, nI_add, pk_mul]; congr 1; omega)) (by first | rfl | assumption | (simp only [glit, nI_add, pk_mul]; done) | (simp only [glit, nI_add, pk_mul]; congr 1; omega) | (simp only [*, glit, nI_add, pk_mul]; congr 1; omega)) (by omega) (by omega)
                    refine g_iload C dX0_walkStep_36 rfl ?_
                    refine g_gets C dX0_walkStep_38 mW481 ?_
                    refine g_iconst (v := 0) C dX0_walkStep_41 (by decide) ?_
                    refine g_staldN C dX0_walkStep_42 (k := 0) (by first | rfl | assumption | (simp only [glit, nI_add, pk_mul]; done) | (simp only [glit, nI_add, pk_mul]; congr 1; omega) | (simp only [*, glit, nI_add, pk_mul]; congr 1; omega)) (by omega) ?_
                    rw [show gstp 0 = 169 from rfl]
                    refine g_imul C dX0_walkStep_43 ?_
                    refine g_iload C dX0_walkStep_44 rfl ?_
                    refine g_gets C dX0_walkStep_46 mW481 ?_
                    refine g_iconst (v := 1) C dX0_walkStep_49 (by decide) ?_
                    refine g_staldN C dX0_walkStep_50 (k := 1) (by first | rfl | assumption | (simp only [glit, nI_add, pk_mul]; done) | (simp only [glit, nI_add, pk_mul]; congr 1; omega) | (simp only [*, glit, nI_add, pk_mul]; congr 1; omega)) (by omega) ?_
                    refine g_imul C dX0_walkStep_51 ?_
                    rw [show gstp 1 = 13 from rfl]
                    refine g_iadd C dX0_walkStep_52 ?_
                    refine g_iload C dX0_walkStep_53 rfl ?_
                    refine g_gets C dX0_walkStep_55 mW481 ?_
                    refine g_iconst (v := 2) C dX0_walkStep_58 (by decide) ?_
                    refine g_staldN C dX0_walkStep_59 (k := 2) (by first | rfl | assumption | (simp only [glit, nI_add, pk_mul]; done) | (simp only [glit, nI_add, pk_mul]; congr 1; omega) | (simp only [*, glit, nI_add, pk_mul]; congr 1; omega)) (by omega) ?_
                    refine g_imul C dX0_walkStep_60 ?_
                    rw [show gstp 2 = 1 from rfl]
                    refine g_iadd C dX0_walkStep_61 ?_
                    rw [pk_mul, pk_mul, pk_mul, nI_add, nI_add]
                    refine g_istore C dX0_walkStep_62 (Nat.le_of_ble_eq_true rfl) rfl ?_
                    refine g_lv [some _, some _, some _, some _, some _, some _, some _, some _, some _, some _, none, none] (gs_some (gs_some (gs_some (gs_some (gs_some (gs_some (gs_some (gs_some (gs_some (gs_some (gs_none (gs_none gs_nil)))))))))))) ?_
                    refine g_aload_n C dX0_walkStep_64 rfl ?_
                    refine g_get C dX0_walkStep_65 iwX0 rfl (wO_A δ _) 0 (Nat.le_of_ble_eq_true rfl) mW108 rfl rfl ?_
                    refine g_iload C dX0_walkStep_68 rfl ?_
                    refine g_laldN C dX0_walkStep_70 (k := (a * 169 + b * 13 + e * 1)) (q := (8 + gP _ % 2)) (by omega) (gnw _ _) (by first | rfl | assumption | (simp only [glit, nI_add, pk_mul]; done) | (simp only [glit, nI_add, pk_mul]; congr 1; omega) | (simp only [*, glit, nI_add, pk_mul]; congr 1; omega)) (by rw [gLenL_n _]; omega) ?_
                    have hnow := NowI_at hI_s3.1 (j := j) (by omega) (by omega)
                    rw [hnow]
                    refine g_lstore C dX0_walkStep_71 (Nat.le_of_ble_eq_true rfl) rfl ?_
                    refine g_lv [some _, some _, some _, some _, some _, some _, some _, some _, some _, some _, some _, none] (gs_some (gs_some (gs_some (gs_some (gs_some (gs_some (gs_some (gs_some (gs_some (gs_some (gs_some (gs_none gs_nil)))))))))))) ?_
                    refine g_lload C dX0_walkStep_73 rfl ?_
                    refine g_lconst (v := 0) C dX0_walkStep_75 (by decide) ?_
                    refine g_lcmp C dX0_walkStep_76 ?_
                    refine g_if_ne C 83 dX0_walkStep_77 (by decide) (fun c_77 => ?_) (fun c_77 => ?_)
                    · rw [lg_cmp_eq] at c_77
                      have hnz : ¬ (wW true (bS (vS v) u) (tS (vS v) u) al j) (a + 13 * b + 169 * e) = 0 := fun z => c_77 ((lN_z (hbd _)).mpr z)
                      have hok := hw _ hnz
                      have hp3 : gP s3 = 1 ∨ gP s3 = 2 := by rw [hs3.2.1]; exact hP
                      refine g_aload_n C dX0_walkStep_83 rfl ?_
                      refine g_get C dX0_walkStep_84 iwX0 rfl (wO_A δ _) 0 (Nat.le_of_ble_eq_true rfl) mW108 rfl rfl ?_
                      refine g_iload C dX0_walkStep_87 rfl ?_
                      refine g_lconst (v := 0) C dX0_walkStep_89 (by decide) ?_
                      refine g_lastN C dX0_walkStep_90 (k := (a * 169 + b * 13 + e * 1)) (q := (8 + gP _ % 2)) (by omega) (gnw _ _) (by first | rfl | assumption | (simp only [glit, nI_add, pk_mul]; done) | (simp only [glit, nI_add, pk_mul]; congr 1; omega) | (simp only [*, glit, nI_add, pk_mul]; congr 1; omega)) (by rw [gLenL_n _]; omega) ?_
                      refine g_aload_n C dX0_walkStep_91 rfl ?_
                      refine g_get C dX0_walkStep_92 iwX0 rfl (wO_A δ _) 3 (Nat.le_of_ble_eq_true rfl) mW111 rfl rfl ?_
                      refine g_iconst (v := 0) C dX0_walkStep_95 (by decide) ?_
                      refine g_iload C dX0_walkStep_96 rfl ?_
                      refine g_iastN C dX0_walkStep_98 (k := 0) (q := 48) (by decide) rfl (by first | rfl | assumption | (simp only [glit, nI_add, pk_mul]; done) | (simp only [glit, nI_add, pk_mul]; congr 1; omega) | (simp only [*, glit, nI_add, pk_mul]; congr 1; omega)) (show 0 < gLenI 48 from Nat.lt_of_lt_of_eq (show 0 < 4 by omega) rfl) ?_
                      refine g_aload_n C dX0_walkStep_99 rfl ?_
                      refine g_get C dX0_walkStep_100 iwX0 rfl (wO_A δ _) 3 (Nat.le_of_ble_eq_true rfl) mW111 rfl rfl ?_
                      refine g_iconst (v := 1) C dX0_walkStep_103 (by decide) ?_
                      refine g_iload C dX0_walkStep_104 rfl ?_
                      refine g_iastN C dX0_walkStep_106 (k := 1) (q := 48) (by decide) rfl (by first | rfl | assumption | (simp only [glit, nI_add, pk_mul]; done) | (simp only [glit, nI_add, pk_mul]; congr 1; omega) | (simp only [*, glit, nI_add, pk_mul]; congr 1; omega)) (show 1 < gLenI 48 from Nat.lt_of_lt_of_eq (show 1 < 4 by omega) rfl) ?_
                      rw [uI_uI, gI_uI, if_pos rfl]
                      refine g_aload_n C dX0_walkStep_107 rfl ?_
                      refine g_get C dX0_walkStep_108 iwX0 rfl (wO_A δ _) 3 (Nat.le_of_ble_eq_true rfl) mW111 rfl rfl ?_
                      refine g_iconst (v := 2) C dX0_walkStep_111 (by decide) ?_
                      refine g_iload C dX0_walkStep_112 rfl ?_
                      refine g_iastN C dX0_walkStep_114 (k := 2) (q := 48) (by decide) rfl (by first | rfl | assumption | (simp only [glit, nI_add, pk_mul]; done) | (simp only [glit, nI_add, pk_mul]; congr 1; omega) | (simp only [*, glit, nI_add, pk_mul]; congr 1; omega)) (show 2 < gLenI 48 from Nat.lt_of_lt_of_eq (show 2 < 4 by omega) rfl) ?_
                      rw [uI_uI, gI_uI, if_pos rfl]
                      refine g_aload_n C dX0_walkStep_115 rfl ?_
                      refine g_get C dX0_walkStep_116 iwX0 rfl (wO_A δ _) 3 (Nat.le_of_ble_eq_true rfl) mW111 rfl rfl ?_
                      refine g_iconst (v := 3) C dX0_walkStep_119 (by decide) ?_
                      refine g_iload_n C dX0_walkStep_120 rfl ?_
                      refine g_iload C dX0_walkStep_121 rfl ?_
                      refine g_isub C dX0_walkStep_123 ?_
                      refine g_iload C dX0_walkStep_124 rfl ?_
                      refine g_isub C dX0_walkStep_126 ?_
                      refine g_iload C dX0_walkStep_127 rfl ?_
                      refine g_isub C dX0_walkStep_129 ?_
                      refine g_iastN C dX0_walkStep_130 (k := 3) (q := 48) (by decide) rfl (by first | rfl | assumption | (simp only [glit, nI_add, pk_mul]; done) | (simp only [glit, nI_add, pk_mul]; congr 1; omega) | (simp only [*, glit, nI_add, pk_mul]; congr 1; omega)) (show 3 < gLenI 48 from Nat.lt_of_lt_of_eq (show 3 < 4 by omega) rfl) ?_
                      rw [uI_uI, gI_uI, if_pos rfl]
                      refine g_aload_n C dX0_walkStep_131 rfl ?_
                      refine g_aload_n C dX0_walkStep_132 rfl ?_
                      refine g_callVv C sV_X0_87 dX0_walkStep_133 (c_X0_findBallsb _ δ (uI (uL s3 (8 + gP s3 % 2) (vp_updL (gL s3 (8 + gP s3 % 2)) (a * 169 + b * 13 + e * 1) 0)) 48 (upd (upd (upd (upd (gI s3 48) 0 (nI a)) 1 (nI b)) 2 (nI e)) 3 (nI j - nI a - nI b - nI e))) hu (k := j) (x := (a + 13 * b + 169 * e)) (fun c hc => gof3 (f := gI s3 48) (a := a) (b := b) (e := e) (j := j) (by omega) (by omega) hc) (KC_sk (a := σ) (by repeat (first | (with_reducible assumption) | (with_reducible exact gSk_r _) | (with_reducible refine gSk_I (by omega) ?_) | (with_reducible refine gSk_L (by omega) ?_) | (with_reducible refine gSk_N (by omega) ?_) | (with_reducible refine gSk_G (by omega) ?_) | (with_reducible refine gSk_P ?_))) K) R) ⟨by decide, by decide⟩ (wO_A δ _) rfl rfl rfl rfl (Nat.le_of_ble_eq_true rfl) (fun s_133 h_133 => ?_)
                      obtain ⟨g4, rfl, hg4⟩ := h_133
                      refine g_iload_n C dX0_walkStep_136 rfl ?_
                      refine g_iload_n C dX0_walkStep_137 rfl ?_
                      refine g_icmp_ne C 164 dX0_walkStep_138 (by decide) (fun c_138 => ?_) (fun c_138 => ?_)
                      · exact absurd (congrArg nI hj) c_138
                      · have k_138 := geq c_138 (a := j) (b := k) (by first | rfl | assumption | (simp only [glit, nI_add, pk_mul]; done) | (simp only [glit, nI_add, pk_mul]; congr 1; omega) | (simp only [*, glit, nI_add, pk_mul]; congr 1; omega)) (by first | rfl | assumption | (simp only [glit, nI_add, pk_mul]; done) | (simp only [glit, nI_add, pk_mul]; congr 1; omega) | (simp only [*, glit, nI_add, pk_mul]; congr 1; omega)) (by omega) (by omega)
                        refine g_aload_n C dX0_walkStep_141 rfl ?_
                        refine g_lload C dX0_walkStep_142 rfl ?_
                        refine g_aload_n C dX0_walkStep_144 rfl ?_
                        refine g_get C dX0_walkStep_145 iwX0 rfl (wO_A δ _) 3 (Nat.le_of_ble_eq_true rfl) mW111 rfl rfl ?_
                        refine g_iload C dX0_walkStep_148 rfl ?_
                        refine g_ialdN C dX0_walkStep_150 (k := c) (q := 48) (by decide) rfl (by first | rfl | assumption | (simp only [glit, nI_add, pk_mul]; done) | (simp only [glit, nI_add, pk_mul]; congr 1; omega) | (simp only [*, glit, nI_add, pk_mul]; congr 1; omega)) (show c < gLenI 48 from Nat.lt_of_lt_of_eq (show c < 4 by omega) rfl) ?_
                        rw [gI_uI, if_neg (by decide), gI_uI, if_pos rfl, gof3 (a := a) (b := b) (e := e) (j := j) (by omega) (by omega) hc]
                        refine g_aload_n C dX0_walkStep_151 rfl ?_
                        refine g_get C dX0_walkStep_152 iwX0 rfl (wO_A δ _) 4 (Nat.le_of_ble_eq_true rfl) mW112 rfl rfl ?_
                        refine g_iload C dX0_walkStep_155 rfl ?_
                        refine g_ialdN C dX0_walkStep_157 (k := c) (q := 49) (by decide) rfl (by first | rfl | assumption | (simp only [glit, nI_add, pk_mul]; done) | (simp only [glit, nI_add, pk_mul]; congr 1; omega) | (simp only [*, glit, nI_add, pk_mul]; congr 1; omega)) (show c < gLenI 49 from Nat.lt_of_lt_of_eq (show c < 4 by omega) rfl) ?_
                        rw [gI_uI, if_pos rfl, hg4 c hc, (xB_n hok hc).1]
                        refine g_callVv C sV_X0_91 dX0_walkStep_158 (c_X0_settleb _ δ _ _ (k := d3 j (a + 13 * b + 169 * e) c) (s := (xB (bS (vS v) u) (tS (vS v) u) j (a + 13 * b + 169 * e) c).toInt.toNat) (by have := d3_le (k := j) hc hok.1; omega) (xB_n hok hc).2.1) ⟨by decide, by decide⟩ (wO_A δ _) rfl rfl rfl rfl (Nat.le_of_ble_eq_true rfl) (fun s_158 h_158 => ?_)
                        rw [show gL (uI (uI (uL s3 (8 + gP s3 % 2) (vp_updL (gL s3 (8 + gP s3 % 2)) (a * 169 + b * 13 + e * 1) 0)) 48 (upd (upd (upd (upd (gI s3 48) 0 (nI a)) 1 (nI b)) 2 (nI e)) 3 (nI j - nI a - nI b - nI e))) 49 g4) 10 = gL s3 10 from if_neg (by omega), show gL (uI (uI (uL s3 (8 + gP s3 % 2) (vp_updL (gL s3 (8 + gP s3 % 2)) (a * 169 + b * 13 + e * 1) 0)) 48 (upd (upd (upd (upd (gI s3 48) 0 (nI a)) 1 (nI b)) 2 (nI e)) 3 (nI j - nI a - nI b - nI e))) 49 g4) 11 = gL s3 11 from if_neg (by omega)] at h_158
                        obtain rfl := h_158
                        have hI4 := IV_go (o := (upd (upd (upd (upd (gI s3 48) 0 (nI a)) 1 (nI b)) 2 (nI e)) 3 (nI j - nI a - nI b - nI e))) (g := g4) hp3 (by omega) (by omega) hI_s3 (xB_n hok hc).1 (xB_n hok hc).2.1
                        have hS4 := StV_go (A := (vp_updL (gL s3 (8 + gP s3 % 2)) (a * 169 + b * 13 + e * 1) 0)) (o := (upd (upd (upd (upd (gI s3 48) 0 (nI a)) 1 (nI b)) 2 (nI e)) 3 (nI j - nI a - nI b - nI e))) (g := g4) (B := (vp_updL (gL s3 10) (d3 j (a + 13 * b + 169 * e) c) (gL s3 10 (d3 j (a + 13 * b + 169 * e) c) + lN ((wW true (bS (vS v) u) (tS (vS v) u) al j) (a + 13 * b + 169 * e))))) (D := (vp_updL (gL s3 11) (xB (bS (vS v) u) (tS (vS v) u) j (a + 13 * b + 169 * e) c).toInt.toNat (gL s3 11 (xB (bS (vS v) u) (tS (vS v) u) j (a + 13 * b + 169 * e) c).toInt.toNat + lN ((wW true (bS (vS v) u) (tS (vS v) u) al j) (a + 13 * b + 169 * e))))) hs3
                        refine g_goto C 181 dX0_walkStep_161 (by decide) ?_
                        refine g_iinc (v := nI (e + 1)) C dX0_walkStep_181 rfl (ginc _ 1) rfl ?_
                        refine g_lv [some _, some _, some _, some _, some _, some _, some _, some _, some _, some _, some _, none] (gs_some (gs_some (gs_some (gs_some (gs_some (gs_some (gs_some (gs_some (gs_some (gs_some (gs_some (gs_none gs_nil)))))))))))) ?_
                        refine g_goto C 24 dX0_walkStep_184 (by decide) ?_
                        refine g_lv [some _, some _, some _, some _, some _, some _, some _, some _, some _, none, none, none] (gs_some (gs_some (gs_some (gs_some (gs_some (gs_some (gs_some (gs_some (gs_some (gs_none (gs_none (gs_none gs_nil)))))))))))) ?_
                        exact ih_24 (e + 1) _ (by omega) (by first | exact hs3 | exact hS4) (by first | exact IV_skip hz (by omega) (by omega) hI_s3 | exact hI4) (by omega)
                    · rw [lg_cmp_eq] at c_77
                      have hz : (wW true (bS (vS v) u) (tS (vS v) u) al j) (a + 13 * b + 169 * e) = 0 := (lN_z (hbd _)).mp c_77
                      refine g_goto C 181 dX0_walkStep_80 (by decide) ?_
                      refine g_iinc (v := nI (e + 1)) C dX0_walkStep_181 rfl (ginc _ 1) rfl ?_
                      refine g_lv [some _, some _, some _, some _, some _, some _, some _, some _, some _, some _, some _, none] (gs_some (gs_some (gs_some (gs_some (gs_some (gs_some (gs_some (gs_some (gs_some (gs_some (gs_some (gs_none gs_nil)))))))))))) ?_
                      refine g_goto C 24 dX0_walkStep_184 (by decide) ?_
                      refine g_lv [some _, some _, some _, some _, some _, some _, some _, some _, some _, none, none, none] (gs_some (gs_some (gs_some (gs_some (gs_some (gs_some (gs_some (gs_some (gs_some (gs_none (gs_none (gs_none gs_nil)))))))))))) ?_
                      exact ih_24 (e + 1) _ (by omega) (by first | exact hs3 | exact hS4) (by first | exact IV_skip hz (by omega) (by omega) hI_s3 | exact hI4) (by omega)
              refine g_lv [some _, some _, some _, some _, some _, some _, some _, some _, some _, none, none, none] (gs_some (gs_some (gs_some (gs_some (gs_some (gs_some (gs_some (gs_some (gs_some (gs_none (gs_none (gs_none gs_nil)))))))))))) ?_
              exact L_24 _ 0 _ (by omega) hs2 hI_s2 (Nat.lt_succ_self _)
        refine g_lv [some _, some _, some _, some _, some _, some _, some _, some _, none, none, none, none] (gs_some (gs_some (gs_some (gs_some (gs_some (gs_some (gs_some (gs_some (gs_none (gs_none (gs_none (gs_none gs_nil)))))))))))) ?_
        exact L_12 _ 0 _ (by omega) hs hI_s1 (Nat.lt_succ_self _)
  refine g_lv [some _, some _, some _, some _, some _, some _, some _, none, none, none, none, none] (gs_some (gs_some (gs_some (gs_some (gs_some (gs_some (gs_some (gs_none (gs_none (gs_none (gs_none (gs_none gs_nil)))))))))))) ?_
  exact L_3 _ 0 _ (by omega) (StV_r _) hI (Nat.lt_succ_self _)
set_option maxRecDepth 100000 in
set_option maxHeartbeats 4000000 in
theorem c_X0_walkStepb01 (l : Launch) (δ : GD) (σ : GS) {u : Nat} (hu : u < 8) {j k c : Nat} (hj : j = k) (hk : k ≤ 12) (hc : c < 4) {al : Nat → Nat → Prop} (hP : gP σ = 1 ∨ gP σ = 2) {v : GV} (K : KC σ v) (R : RV v) (hI : IV (bS (vS v) u) (tS (vS v) u) (wW false (bS (vS v) u) (tS (vS v) u) al j) j c σ (Lx 0 0 0)) (hbd : ∀ x, (wW false (bS (vS v) u) (tS (vS v) u) al j) x < 9223372036854775808) : gM l δ yX0_walkStep cX0_walkStep 12 none 2 53 [.ref (δ.2.2.1 20), .ref (δ.2.2.1 (8 + u)), .int (nI j), .int (nI k), .int (nI c), .int 0] σ (gPv (fun σ' => StV σ σ' ∧ IV (bS (vS v) u) (tS (vS v) u) (wW false (bS (vS v) u) (tS (vS v) u) al j) j c σ' (Lx (j + 1) 0 0))) := by
  refine g_of (lv0 := [some (.ref (δ.2.2.1 20)), some (.ref (δ.2.2.1 (8 + u))), some (.int (nI j)), some (.int (nI k)), some (.int (nI c)), some (.int 0), none, none, none, none, none, none]) (by decide) rfl (Nat.le_of_ble_eq_true rfl) (fun Γ hl C E => ?_)
  subst hl
  have C : gC Γ δ cX0_walkStep RX0 12 2 53 := C
  have hn := K.2.1 u hu
  have h4 := RV_n R hu
  have hw : ∀ x, ¬ (wW false (bS (vS v) u) (tS (vS v) u) al j) x = 0 → xOk (bS (vS v) u) (tS (vS v) u) (vC v u) j x := wW_ok (VS_B2 R.2.2.1 hu) (fun d hd h => (R.2.2.1.1 u hu d hd).2.1 h) (fun c hc d hd h => (R.2.2.1.2.1 u hu c hc d hd).2 (Or.inr h)) j (by omega)
  refine g_iconst (v := 0) C dX0_walkStep_0 (by decide) ?_
  refine g_istore C dX0_walkStep_1 (Nat.le_of_ble_eq_true rfl) rfl ?_
  refine g_lv [some _, some _, some _, some _, some _, some _, some _, none, none, none, none, none] (gs_some (gs_some (gs_some (gs_some (gs_some (gs_some (gs_some (gs_none (gs_none (gs_none (gs_none (gs_none gs_nil)))))))))))) ?_
  have L_3 : ∀ (nn : Nat) (a : Nat) (s1 : GS) (ha : a ≤ j + 1) (hs : StV σ s1) (hI_s1 : IV (bS (vS v) u) (tS (vS v) u) (wW false (bS (vS v) u) (tS (vS v) u) al j) j c s1 (Lx a 0 0)), j + 1 - a < nn → gW Γ δ s1 3 [some (.ref (δ.2.2.1 20)), some (.ref (δ.2.2.1 (8 + u))), some (.int (nI j)), some (.int (nI k)), some (.int (nI c)), some (.int 0), some (.int (nI a)), none, none, none, none, none] [] := by
    intro nn
    induction nn with
    | zero =>
      intro a s1 ha hs hI_s1 hm_3
      exact absurd hm_3 (Nat.not_lt_zero _)
    | succ nn ih_3 =>
      intro a s1 ha hs hI_s1 hm_3
      refine g_iload C dX0_walkStep_3 rfl ?_
      refine g_iload_n C dX0_walkStep_5 rfl ?_
      refine g_icmp_gt C 199 dX0_walkStep_6 (by decide) (fun c_6 => ?_) (fun c_6 => ?_)
      · have k_6 := glt c_6 (a := j) (b := a) (by first | rfl | assumption | (simp only [glit, nI_add, pk_mul]; done) | (simp only [glit, nI_add, pk_mul]; congr 1; omega) | (simp only [*, glit, nI_add, pk_mul]; congr 1; omega)) (by first | rfl | assumption | (simp only [glit, nI_add, pk_mul]; done) | (simp only [glit, nI_add, pk_mul]; congr 1; omega) | (simp only [*, glit, nI_add, pk_mul]; congr 1; omega)) (by omega) (by omega)
        have ea : a = j + 1 := by omega
        exact g_vret C E dX0_walkStep_199 rfl ⟨rfl, ⟨hs, by rw [← ea]; exact hI_s1⟩⟩
      · have k_6 := gnlt c_6 (a := j) (b := a) (by first | rfl | assumption | (simp only [glit, nI_add, pk_mul]; done) | (simp only [glit, nI_add, pk_mul]; congr 1; omega) | (simp only [*, glit, nI_add, pk_mul]; congr 1; omega)) (by first | rfl | assumption | (simp only [glit, nI_add, pk_mul]; done) | (simp only [glit, nI_add, pk_mul]; congr 1; omega) | (simp only [*, glit, nI_add, pk_mul]; congr 1; omega)) (by omega) (by omega)
        refine g_iconst (v := 0) C dX0_walkStep_9 (by decide) ?_
        refine g_istore C dX0_walkStep_10 (Nat.le_of_ble_eq_true rfl) rfl ?_
        refine g_lv [some _, some _, some _, some _, some _, some _, some _, some _, none, none, none, none] (gs_some (gs_some (gs_some (gs_some (gs_some (gs_some (gs_some (gs_some (gs_none (gs_none (gs_none (gs_none gs_nil)))))))))))) ?_
        have L_12 : ∀ (nn : Nat) (b : Nat) (s2 : GS) (hb : a + b ≤ j + 1) (hs2 : StV σ s2) (hI_s2 : IV (bS (vS v) u) (tS (vS v) u) (wW false (bS (vS v) u) (tS (vS v) u) al j) j c s2 (Lx a b 0)), j + 1 - b < nn → gW Γ δ s2 12 [some (.ref (δ.2.2.1 20)), some (.ref (δ.2.2.1 (8 + u))), some (.int (nI j)), some (.int (nI k)), some (.int (nI c)), some (.int 0), some (.int (nI a)), some (.int (nI b)), none, none, none, none] [] := by
          intro nn
          induction nn with
          | zero =>
            intro b s2 hb hs2 hI_s2 hm_12
            exact absurd hm_12 (Nat.not_lt_zero _)
          | succ nn ih_12 =>
            intro b s2 hb hs2 hI_s2 hm_12
            refine g_iload C dX0_walkStep_12 rfl ?_
            refine g_iload C dX0_walkStep_14 rfl ?_
            refine g_iadd C dX0_walkStep_16 ?_
            refine g_iload_n C dX0_walkStep_17 rfl ?_
            refine g_icmp_gt C 193 dX0_walkStep_18 (by decide) (fun c_18 => ?_) (fun c_18 => ?_)
            · have k_18 := glt c_18 (a := j) (b := (a + b)) (by first | rfl | assumption | (simp only [glit, nI_add, pk_mul]; done) | (simp only [glit, nI_add, pk_mul]; congr 1; omega) | (simp only [*, glit, nI_add, pk_mul]; congr 1; omega)) (by first | rfl | assumption | (simp only [glit, nI_add, pk_mul]; done) | (simp only [glit, nI_add, pk_mul]; congr 1; omega) | (simp only [*, glit, nI_add, pk_mul]; congr 1; omega)) (by omega) (by omega)
              skip
              refine g_iinc (v := nI (a + 1)) C dX0_walkStep_193 rfl (ginc _ 1) rfl ?_
              refine g_lv [some _, some _, some _, some _, some _, some _, some _, some _, none, none, none, none] (gs_some (gs_some (gs_some (gs_some (gs_some (gs_some (gs_some (gs_some (gs_none (gs_none (gs_none (gs_none gs_nil)))))))))))) ?_
              refine g_goto C 3 dX0_walkStep_196 (by decide) ?_
              refine g_lv [some _, some _, some _, some _, some _, some _, some _, none, none, none, none, none] (gs_some (gs_some (gs_some (gs_some (gs_some (gs_some (gs_some (gs_none (gs_none (gs_none (gs_none (gs_none gs_nil)))))))))))) ?_
              exact ih_3 (a + 1) _ (by omega) hs2 (IV_e (fun x hx hn => Lx_a (j := j) (by omega) (hw x hn).1) hI_s2) (by omega)
            · have k_18 := gnlt c_18 (a := j) (b := (a + b)) (by first | rfl | assumption | (simp only [glit, nI_add, pk_mul]; done) | (simp only [glit, nI_add, pk_mul]; congr 1; omega) | (simp only [*, glit, nI_add, pk_mul]; congr 1; omega)) (by first | rfl | assumption | (simp only [glit, nI_add, pk_mul]; done) | (simp only [glit, nI_add, pk_mul]; congr 1; omega) | (simp only [*, glit, nI_add, pk_mul]; congr 1; omega)) (by omega) (by omega)
              refine g_iconst (v := 0) C dX0_walkStep_21 (by decide) ?_
              refine g_istore C dX0_walkStep_22 (Nat.le_of_ble_eq_true rfl) rfl ?_
              refine g_lv [some _, some _, some _, some _, some _, some _, some _, some _, some _, none, none, none] (gs_some (gs_some (gs_some (gs_some (gs_some (gs_some (gs_some (gs_some (gs_some (gs_none (gs_none (gs_none gs_nil)))))))))))) ?_
              have L_24 : ∀ (nn : Nat) (e : Nat) (s3 : GS) (he : a + b + e ≤ j + 1) (hs3 : StV σ s3) (hI_s3 : IV (bS (vS v) u) (tS (vS v) u) (wW false (bS (vS v) u) (tS (vS v) u) al j) j c s3 (Lx a b e)), j + 1 - e < nn → gW Γ δ s3 24 [some (.ref (δ.2.2.1 20)), some (.ref (δ.2.2.1 (8 + u))), some (.int (nI j)), some (.int (nI k)), some (.int (nI c)), some (.int 0), some (.int (nI a)), some (.int (nI b)), some (.int (nI e)), none, none, none] [] := by
                intro nn
                induction nn with
                | zero =>
                  intro e s3 he hs3 hI_s3 hm_24
                  exact absurd hm_24 (Nat.not_lt_zero _)
                | succ nn ih_24 =>
                  intro e s3 he hs3 hI_s3 hm_24
                  have hz3 : gSk σ s3 := hs3.1
                  refine g_iload C dX0_walkStep_24 rfl ?_
                  refine g_iload C dX0_walkStep_26 rfl ?_
                  refine g_iadd C dX0_walkStep_28 ?_
                  refine g_iload C dX0_walkStep_29 rfl ?_
                  refine g_iadd C dX0_walkStep_31 ?_
                  refine g_iload_n C dX0_walkStep_32 rfl ?_
                  refine g_icmp_gt C 187 dX0_walkStep_33 (by decide) (fun c_33 => ?_) (fun c_33 => ?_)
                  · have k_33 := glt c_33 (a := j) (b := ((a + b) + e)) (by first | rfl | assumption | (simp only [glit, nI_add, pk_mul]; done) | (simp only [glit, nI_add, pk_mul]; congr 1; omega) | (simp only [*, glit, nI_add, pk_mul]; congr 1; omega)) (by first | rfl | assumption | (simp only [glit, nI_add, pk_mul]; done) | (simp only [glit, nI_add, pk_mul]; congr 1; omega) | (simp only [*, glit, nI_add, pk_mul]; congr 1; omega)) (by omega) (by omega)
                    skip
                    refine g_iinc (v := nI (b + 1)) C dX0_walkStep_187 rfl (ginc _ 1) rfl ?_
                    refine g_lv [some _, some _, some _, some _, some _, some _, some _, some _, some _, none, none, none] (gs_some (gs_some (gs_some (gs_some (gs_some (gs_some (gs_some (gs_some (gs_some (gs_none (gs_none (gs_none gs_nil)))))))))))) ?_
                    refine g_goto C 12 dX0_walkStep_190 (by decide) ?_
                    refine g_lv [some _, some _, some _, some _, some _, some _, some _, some _, none, none, none, none] (gs_some (gs_some (gs_some (gs_some (gs_some (gs_some (gs_some (gs_some (gs_none (gs_none (gs_none (gs_none gs_nil)))))))))))) ?_
                    exact ih_12 (b + 1) _ (by omega) hs3 (IV_e (fun x hx hn => Lx_b (j := j) (by omega) (hw x hn).1) hI_s3) (by omega)
                  · have k_33 := gnlt c_33 (a := j) (b := ((a + b) + e)) (by first | rfl | assumption | (simp only [glit, nI_add, pk_mul]; done) | (simp only [glit, nI_add, pk_mul]; congr 1; omega) | (simp only [*, glit, nI_add, pk_mul]; congr 1; omega)) (by first | rfl | assumption | (simp only [glit, nI_add, pk_mul]; done) | (simp only [glit, nI_add, pk_mul]; congr 1; omega) | (simp only [*, glit, nI_add, pk_mul]; congr 1; omega)) (by omega) (by omega)
                    refine g_iload C dX0_walkStep_36 rfl ?_
                    refine g_gets C dX0_walkStep_38 mW481 ?_
                    refine g_iconst (v := 0) C dX0_walkStep_41 (by decide) ?_
                    refine g_staldN C dX0_walkStep_42 (k := 0) (by first | rfl | assumption | (simp only [glit, nI_add, pk_mul]; done) | (simp only [glit, nI_add, pk_mul]; congr 1; omega) | (simp only [*, glit, nI_add, pk_mul]; congr 1; omega)) (by omega) ?_
                    rw [show gstp 0 = 169 from rfl]
                    refine g_imul C dX0_walkStep_43 ?_
                    refine g_iload C dX0_walkStep_44 rfl ?_
                    refine g_gets C dX0_walkStep_46 mW481 ?_
                    refine g_iconst (v := 1) C dX0_walkStep_49 (by decide) ?_
                    refine g_staldN C dX0_walkStep_50 (k := 1) (by first | rfl | assumption | (simp only [glit, nI_add, pk_mul]; done) | (simp only [glit, nI_add, pk_mul]; congr 1; omega) | (simp only [*, glit, nI_add, pk_mul]; congr 1; omega)) (by omega) ?_
                    refine g_imul C dX0_walkStep_51 ?_
                    rw [show gstp 1 = 13 from rfl]
                    refine g_iadd C dX0_walkStep_52 ?_
                    refine g_iload C dX0_walkStep_53 rfl ?_
                    refine g_gets C dX0_walkStep_55 mW481 ?_
                    refine g_iconst (v := 2) C dX0_walkStep_58 (by decide) ?_
                    refine g_staldN C dX0_walkStep_59 (k := 2) (by first | rfl | assumption | (simp only [glit, nI_add, pk_mul]; done) | (simp only [glit, nI_add, pk_mul]; congr 1; omega) | (simp only [*, glit, nI_add, pk_mul]; congr 1; omega)) (by omega) ?_
                    refine g_imul C dX0_walkStep_60 ?_
                    rw [show gstp 2 = 1 from rfl]
                    refine g_iadd C dX0_walkStep_61 ?_
                    rw [pk_mul, pk_mul, pk_mul, nI_add, nI_add]
                    refine g_istore C dX0_walkStep_62 (Nat.le_of_ble_eq_true rfl) rfl ?_
                    refine g_lv [some _, some _, some _, some _, some _, some _, some _, some _, some _, some _, none, none] (gs_some (gs_some (gs_some (gs_some (gs_some (gs_some (gs_some (gs_some (gs_some (gs_some (gs_none (gs_none gs_nil)))))))))))) ?_
                    refine g_aload_n C dX0_walkStep_64 rfl ?_
                    refine g_get C dX0_walkStep_65 iwX0 rfl (wO_A δ _) 0 (Nat.le_of_ble_eq_true rfl) mW108 rfl rfl ?_
                    refine g_iload C dX0_walkStep_68 rfl ?_
                    refine g_laldN C dX0_walkStep_70 (k := (a * 169 + b * 13 + e * 1)) (q := (8 + gP _ % 2)) (by omega) (gnw _ _) (by first | rfl | assumption | (simp only [glit, nI_add, pk_mul]; done) | (simp only [glit, nI_add, pk_mul]; congr 1; omega) | (simp only [*, glit, nI_add, pk_mul]; congr 1; omega)) (by rw [gLenL_n _]; omega) ?_
                    have hnow := NowI_at hI_s3.1 (j := j) (by omega) (by omega)
                    rw [hnow]
                    refine g_lstore C dX0_walkStep_71 (Nat.le_of_ble_eq_true rfl) rfl ?_
                    refine g_lv [some _, some _, some _, some _, some _, some _, some _, some _, some _, some _, some _, none] (gs_some (gs_some (gs_some (gs_some (gs_some (gs_some (gs_some (gs_some (gs_some (gs_some (gs_some (gs_none gs_nil)))))))))))) ?_
                    refine g_lload C dX0_walkStep_73 rfl ?_
                    refine g_lconst (v := 0) C dX0_walkStep_75 (by decide) ?_
                    refine g_lcmp C dX0_walkStep_76 ?_
                    refine g_if_ne C 83 dX0_walkStep_77 (by decide) (fun c_77 => ?_) (fun c_77 => ?_)
                    · rw [lg_cmp_eq] at c_77
                      have hnz : ¬ (wW false (bS (vS v) u) (tS (vS v) u) al j) (a + 13 * b + 169 * e) = 0 := fun z => c_77 ((lN_z (hbd _)).mpr z)
                      have hok := hw _ hnz
                      have hp3 : gP s3 = 1 ∨ gP s3 = 2 := by rw [hs3.2.1]; exact hP
                      refine g_aload_n C dX0_walkStep_83 rfl ?_
                      refine g_get C dX0_walkStep_84 iwX0 rfl (wO_A δ _) 0 (Nat.le_of_ble_eq_true rfl) mW108 rfl rfl ?_
                      refine g_iload C dX0_walkStep_87 rfl ?_
                      refine g_lconst (v := 0) C dX0_walkStep_89 (by decide) ?_
                      refine g_lastN C dX0_walkStep_90 (k := (a * 169 + b * 13 + e * 1)) (q := (8 + gP _ % 2)) (by omega) (gnw _ _) (by first | rfl | assumption | (simp only [glit, nI_add, pk_mul]; done) | (simp only [glit, nI_add, pk_mul]; congr 1; omega) | (simp only [*, glit, nI_add, pk_mul]; congr 1; omega)) (by rw [gLenL_n _]; omega) ?_
                      refine g_aload_n C dX0_walkStep_91 rfl ?_
                      refine g_get C dX0_walkStep_92 iwX0 rfl (wO_A δ _) 3 (Nat.le_of_ble_eq_true rfl) mW111 rfl rfl ?_
                      refine g_iconst (v := 0) C dX0_walkStep_95 (by decide) ?_
                      refine g_iload C dX0_walkStep_96 rfl ?_
                      refine g_iastN C dX0_walkStep_98 (k := 0) (q := 48) (by decide) rfl (by first | rfl | assumption | (simp only [glit, nI_add, pk_mul]; done) | (simp only [glit, nI_add, pk_mul]; congr 1; omega) | (simp only [*, glit, nI_add, pk_mul]; congr 1; omega)) (show 0 < gLenI 48 from Nat.lt_of_lt_of_eq (show 0 < 4 by omega) rfl) ?_
                      refine g_aload_n C dX0_walkStep_99 rfl ?_
                      refine g_get C dX0_walkStep_100 iwX0 rfl (wO_A δ _) 3 (Nat.le_of_ble_eq_true rfl) mW111 rfl rfl ?_
                      refine g_iconst (v := 1) C dX0_walkStep_103 (by decide) ?_
                      refine g_iload C dX0_walkStep_104 rfl ?_
                      refine g_iastN C dX0_walkStep_106 (k := 1) (q := 48) (by decide) rfl (by first | rfl | assumption | (simp only [glit, nI_add, pk_mul]; done) | (simp only [glit, nI_add, pk_mul]; congr 1; omega) | (simp only [*, glit, nI_add, pk_mul]; congr 1; omega)) (show 1 < gLenI 48 from Nat.lt_of_lt_of_eq (show 1 < 4 by omega) rfl) ?_
                      rw [uI_uI, gI_uI, if_pos rfl]
                      refine g_aload_n C dX0_walkStep_107 rfl ?_
                      refine g_get C dX0_walkStep_108 iwX0 rfl (wO_A δ _) 3 (Nat.le_of_ble_eq_true rfl) mW111 rfl rfl ?_
                      refine g_iconst (v := 2) C dX0_walkStep_111 (by decide) ?_
                      refine g_iload C dX0_walkStep_112 rfl ?_
                      refine g_iastN C dX0_walkStep_114 (k := 2) (q := 48) (by decide) rfl (by first | rfl | assumption | (simp only [glit, nI_add, pk_mul]; done) | (simp only [glit, nI_add, pk_mul]; congr 1; omega) | (simp only [*, glit, nI_add, pk_mul]; congr 1; omega)) (show 2 < gLenI 48 from Nat.lt_of_lt_of_eq (show 2 < 4 by omega) rfl) ?_
                      rw [uI_uI, gI_uI, if_pos rfl]
                      refine g_aload_n C dX0_walkStep_115 rfl ?_
                      refine g_get C dX0_walkStep_116 iwX0 rfl (wO_A δ _) 3 (Nat.le_of_ble_eq_true rfl) mW111 rfl rfl ?_
                      refine g_iconst (v := 3) C dX0_walkStep_119 (by decide) ?_
                      refine g_iload_n C dX0_walkStep_120 rfl ?_
                      refine g_iload C dX0_walkStep_121 rfl ?_
                      refine g_isub C dX0_walkStep_123 ?_
                      refine g_iload C dX0_walkStep_124 rfl ?_
                      refine g_isub C dX0_walkStep_126 ?_
                      refine g_iload C dX0_walkStep_127 rfl ?_
                      refine g_isub C dX0_walkStep_129 ?_
                      refine g_iastN C dX0_walkStep_130 (k := 3) (q := 48) (by decide) rfl (by first | rfl | assumption | (simp only [glit, nI_add, pk_mul]; done) | (simp only [glit, nI_add, pk_mul]; congr 1; omega) | (simp only [*, glit, nI_add, pk_mul]; congr 1; omega)) (show 3 < gLenI 48 from Nat.lt_of_lt_of_eq (show 3 < 4 by omega) rfl) ?_
                      rw [uI_uI, gI_uI, if_pos rfl]
                      refine g_aload_n C dX0_walkStep_131 rfl ?_
                      refine g_aload_n C dX0_walkStep_132 rfl ?_
                      refine g_callVv C sV_X0_87 dX0_walkStep_133 (c_X0_findBallsb _ δ (uI (uL s3 (8 + gP s3 % 2) (vp_updL (gL s3 (8 + gP s3 % 2)) (a * 169 + b * 13 + e * 1) 0)) 48 (upd (upd (upd (upd (gI s3 48) 0 (nI a)) 1 (nI b)) 2 (nI e)) 3 (nI j - nI a - nI b - nI e))) hu (k := j) (x := (a + 13 * b + 169 * e)) (fun c hc => gof3 (f := gI s3 48) (a := a) (b := b) (e := e) (j := j) (by omega) (by omega) hc) (KC_sk (a := σ) (by repeat (first | (with_reducible assumption) | (with_reducible exact gSk_r _) | (with_reducible refine gSk_I (by omega) ?_) | (with_reducible refine gSk_L (by omega) ?_) | (with_reducible refine gSk_N (by omega) ?_) | (with_reducible refine gSk_G (by omega) ?_) | (with_reducible refine gSk_P ?_))) K) R) ⟨by decide, by decide⟩ (wO_A δ _) rfl rfl rfl rfl (Nat.le_of_ble_eq_true rfl) (fun s_133 h_133 => ?_)
                      obtain ⟨g4, rfl, hg4⟩ := h_133
                      refine g_iload_n C dX0_walkStep_136 rfl ?_
                      refine g_iload_n C dX0_walkStep_137 rfl ?_
                      refine g_icmp_ne C 164 dX0_walkStep_138 (by decide) (fun c_138 => ?_) (fun c_138 => ?_)
                      · exact absurd (congrArg nI hj) c_138
                      · have k_138 := geq c_138 (a := j) (b := k) (by first | rfl | assumption | (simp only [glit, nI_add, pk_mul]; done) | (simp only [glit, nI_add, pk_mul]; congr 1; omega) | (simp only [*, glit, nI_add, pk_mul]; congr 1; omega)) (by first | rfl | assumption | (simp only [glit, nI_add, pk_mul]; done) | (simp only [glit, nI_add, pk_mul]; congr 1; omega) | (simp only [*, glit, nI_add, pk_mul]; congr 1; omega)) (by omega) (by omega)
                        refine g_aload_n C dX0_walkStep_141 rfl ?_
                        refine g_lload C dX0_walkStep_142 rfl ?_
                        refine g_aload_n C dX0_walkStep_144 rfl ?_
                        refine g_get C dX0_walkStep_145 iwX0 rfl (wO_A δ _) 3 (Nat.le_of_ble_eq_true rfl) mW111 rfl rfl ?_
                        refine g_iload C dX0_walkStep_148 rfl ?_
                        refine g_ialdN C dX0_walkStep_150 (k := c) (q := 48) (by decide) rfl (by first | rfl | assumption | (simp only [glit, nI_add, pk_mul]; done) | (simp only [glit, nI_add, pk_mul]; congr 1; omega) | (simp only [*, glit, nI_add, pk_mul]; congr 1; omega)) (show c < gLenI 48 from Nat.lt_of_lt_of_eq (show c < 4 by omega) rfl) ?_
                        rw [gI_uI, if_neg (by decide), gI_uI, if_pos rfl, gof3 (a := a) (b := b) (e := e) (j := j) (by omega) (by omega) hc]
                        refine g_aload_n C dX0_walkStep_151 rfl ?_
                        refine g_get C dX0_walkStep_152 iwX0 rfl (wO_A δ _) 4 (Nat.le_of_ble_eq_true rfl) mW112 rfl rfl ?_
                        refine g_iload C dX0_walkStep_155 rfl ?_
                        refine g_ialdN C dX0_walkStep_157 (k := c) (q := 49) (by decide) rfl (by first | rfl | assumption | (simp only [glit, nI_add, pk_mul]; done) | (simp only [glit, nI_add, pk_mul]; congr 1; omega) | (simp only [*, glit, nI_add, pk_mul]; congr 1; omega)) (show c < gLenI 49 from Nat.lt_of_lt_of_eq (show c < 4 by omega) rfl) ?_
                        rw [gI_uI, if_pos rfl, hg4 c hc, (xB_n hok hc).1]
                        refine g_callVv C sV_X0_91 dX0_walkStep_158 (c_X0_settleb _ δ _ _ (k := d3 j (a + 13 * b + 169 * e) c) (s := (xB (bS (vS v) u) (tS (vS v) u) j (a + 13 * b + 169 * e) c).toInt.toNat) (by have := d3_le (k := j) hc hok.1; omega) (xB_n hok hc).2.1) ⟨by decide, by decide⟩ (wO_A δ _) rfl rfl rfl rfl (Nat.le_of_ble_eq_true rfl) (fun s_158 h_158 => ?_)
                        rw [show gL (uI (uI (uL s3 (8 + gP s3 % 2) (vp_updL (gL s3 (8 + gP s3 % 2)) (a * 169 + b * 13 + e * 1) 0)) 48 (upd (upd (upd (upd (gI s3 48) 0 (nI a)) 1 (nI b)) 2 (nI e)) 3 (nI j - nI a - nI b - nI e))) 49 g4) 10 = gL s3 10 from if_neg (by omega), show gL (uI (uI (uL s3 (8 + gP s3 % 2) (vp_updL (gL s3 (8 + gP s3 % 2)) (a * 169 + b * 13 + e * 1) 0)) 48 (upd (upd (upd (upd (gI s3 48) 0 (nI a)) 1 (nI b)) 2 (nI e)) 3 (nI j - nI a - nI b - nI e))) 49 g4) 11 = gL s3 11 from if_neg (by omega)] at h_158
                        obtain rfl := h_158
                        have hI4 := IV_go (o := (upd (upd (upd (upd (gI s3 48) 0 (nI a)) 1 (nI b)) 2 (nI e)) 3 (nI j - nI a - nI b - nI e))) (g := g4) hp3 (by omega) (by omega) hI_s3 (xB_n hok hc).1 (xB_n hok hc).2.1
                        have hS4 := StV_go (A := (vp_updL (gL s3 (8 + gP s3 % 2)) (a * 169 + b * 13 + e * 1) 0)) (o := (upd (upd (upd (upd (gI s3 48) 0 (nI a)) 1 (nI b)) 2 (nI e)) 3 (nI j - nI a - nI b - nI e))) (g := g4) (B := (vp_updL (gL s3 10) (d3 j (a + 13 * b + 169 * e) c) (gL s3 10 (d3 j (a + 13 * b + 169 * e) c) + lN ((wW false (bS (vS v) u) (tS (vS v) u) al j) (a + 13 * b + 169 * e))))) (D := (vp_updL (gL s3 11) (xB (bS (vS v) u) (tS (vS v) u) j (a + 13 * b + 169 * e) c).toInt.toNat (gL s3 11 (xB (bS (vS v) u) (tS (vS v) u) j (a + 13 * b + 169 * e) c).toInt.toNat + lN ((wW false (bS (vS v) u) (tS (vS v) u) al j) (a + 13 * b + 169 * e))))) hs3
                        refine g_goto C 181 dX0_walkStep_161 (by decide) ?_
                        refine g_iinc (v := nI (e + 1)) C dX0_walkStep_181 rfl (ginc _ 1) rfl ?_
                        refine g_lv [some _, some _, some _, some _, some _, some _, some _, some _, some _, some _, some _, none] (gs_some (gs_some (gs_some (gs_some (gs_some (gs_some (gs_some (gs_some (gs_some (gs_some (gs_some (gs_none gs_nil)))))))))))) ?_
                        refine g_goto C 24 dX0_walkStep_184 (by decide) ?_
                        refine g_lv [some _, some _, some _, some _, some _, some _, some _, some _, some _, none, none, none] (gs_some (gs_some (gs_some (gs_some (gs_some (gs_some (gs_some (gs_some (gs_some (gs_none (gs_none (gs_none gs_nil)))))))))))) ?_
                        exact ih_24 (e + 1) _ (by omega) (by first | exact hs3 | exact hS4) (by first | exact IV_skip hz (by omega) (by omega) hI_s3 | exact hI4) (by omega)
                    · rw [lg_cmp_eq] at c_77
                      have hz : (wW false (bS (vS v) u) (tS (vS v) u) al j) (a + 13 * b + 169 * e) = 0 := (lN_z (hbd _)).mp c_77
                      refine g_goto C 181 dX0_walkStep_80 (by decide) ?_
                      refine g_iinc (v := nI (e + 1)) C dX0_walkStep_181 rfl (ginc _ 1) rfl ?_
                      refine g_lv [some _, some _, some _, some _, some _, some _, some _, some _, some _, some _, some _, none] (gs_some (gs_some (gs_some (gs_some (gs_some (gs_some (gs_some (gs_some (gs_some (gs_some (gs_some (gs_none gs_nil)))))))))))) ?_
                      refine g_goto C 24 dX0_walkStep_184 (by decide) ?_
                      refine g_lv [some _, some _, some _, some _, some _, some _, some _, some _, some _, none, none, none] (gs_some (gs_some (gs_some (gs_some (gs_some (gs_some (gs_some (gs_some (gs_some (gs_none (gs_none (gs_none gs_nil)))))))))))) ?_
                      exact ih_24 (e + 1) _ (by omega) (by first | exact hs3 | exact hS4) (by first | exact IV_skip hz (by omega) (by omega) hI_s3 | exact hI4) (by omega)
              refine g_lv [some _, some _, some _, some _, some _, some _, some _, some _, some _, none, none, none] (gs_some (gs_some (gs_some (gs_some (gs_some (gs_some (gs_some (gs_some (gs_some (gs_none (gs_none (gs_none gs_nil)))))))))))) ?_
              exact L_24 _ 0 _ (by omega) hs2 hI_s2 (Nat.lt_succ_self _)
        refine g_lv [some _, some _, some _, some _, some _, some _, some _, some _, none, none, none, none] (gs_some (gs_some (gs_some (gs_some (gs_some (gs_some (gs_some (gs_some (gs_none (gs_none (gs_none (gs_none gs_nil)))))))))))) ?_
        exact L_12 _ 0 _ (by omega) hs hI_s1 (Nat.lt_succ_self _)
  refine g_lv [some _, some _, some _, some _, some _, some _, some _, none, none, none, none, none] (gs_some (gs_some (gs_some (gs_some (gs_some (gs_some (gs_some (gs_none (gs_none (gs_none (gs_none (gs_none gs_nil)))))))))))) ?_
  exact L_3 _ 0 _ (by omega) (StV_r _) hI (Nat.lt_succ_self _)
