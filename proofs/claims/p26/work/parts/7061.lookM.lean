set_option maxRecDepth 100000 in
set_option maxHeartbeats 4000000 in
theorem c_X9_looksAtb (l : Launch) (δ : GD) (σ : GS) {u : Nat} (hu : u < 8) {p k : Nat} (hp : p < 2197) (hdS : dSum p ≤ k) (hk : k ≤ 12) {v : GV} (K : KM σ v) (R : RV v) : gM l δ yX9_looksAt cX9_looksAt 6 none 0 0 [.ref (δ.2.2.1 1), .int (nI u), .int (nI p), .int (nI k)] σ (gPv (fun σ' => ∃ o g : Nat → Int32, σ' = uI (uI σ 58 o) 59 g ∧ (∀ c, c < 4 → o c = nI (d3 k p c)) ∧ ∀ d, d < 4 → g d = xB (bS (vS v) u) (tS (vS v) u) k p d)) := by
  refine g_of (lv0 := [some (.ref (δ.2.2.1 1)), some (.int (nI u)), some (.int (nI p)), some (.int (nI k)), none, none]) (by decide) rfl (Nat.le_of_ble_eq_true rfl) (fun Γ hl C E => ?_)
  subst hl
  have C : gC Γ δ cX9_looksAt RX9 6 0 0 := C
  refine g_aload_n C dX9_looksAt_0 rfl ?_
  refine g_get C dX9_looksAt_1 iwX9 rfl (wO_M δ _) 22 (Nat.le_of_ble_eq_true rfl) mW594 rfl rfl ?_
  refine g_iconst (v := 0) C dX9_looksAt_4 (by decide) ?_
  refine g_iload_n C dX9_looksAt_5 rfl ?_
  refine g_bipush (v := 13) C dX9_looksAt_6 (by decide) ?_
  refine g_irem C dX9_looksAt_8 (by decide) ?_
  rw [show nI p - nI p / 13 * 13 = nI (p % 13) from pk_rem (by omega) (by decide) (by decide)]
  refine g_iastN C dX9_looksAt_9 (k := 0) (q := 58) (by decide) rfl (by first | rfl | assumption | (simp only [glit, nI_add, pk_mul]; done) | (simp only [glit, nI_add, pk_mul]; congr 1; omega) | (simp only [*, glit, nI_add, pk_mul]; congr 1; omega)) (show 0 < gLenI 58 from Nat.lt_of_lt_of_eq (show 0 < 4 by omega) rfl) ?_
  refine g_aload_n C dX9_looksAt_10 rfl ?_
  refine g_get C dX9_looksAt_11 iwX9 rfl (wO_M δ _) 22 (Nat.le_of_ble_eq_true rfl) mW594 rfl rfl ?_
  refine g_iconst (v := 1) C dX9_looksAt_14 (by decide) ?_
  refine g_iload_n C dX9_looksAt_15 rfl ?_
  refine g_bipush (v := 13) C dX9_looksAt_16 (by decide) ?_
  refine g_idiv C dX9_looksAt_18 (by decide) ?_
  rw [show nI p / 13 = nI (p / 13) from pk_div (by omega) (by decide) (by decide)]
  refine g_bipush (v := 13) C dX9_looksAt_19 (by decide) ?_
  refine g_irem C dX9_looksAt_21 (by decide) ?_
  rw [show nI (p / 13) - nI (p / 13) / 13 * 13 = nI (p / 13 % 13) from pk_rem (by omega) (by decide) (by decide)]
  refine g_iastN C dX9_looksAt_22 (k := 1) (q := 58) (by decide) rfl (by first | rfl | assumption | (simp only [glit, nI_add, pk_mul]; done) | (simp only [glit, nI_add, pk_mul]; congr 1; omega) | (simp only [*, glit, nI_add, pk_mul]; congr 1; omega)) (show 1 < gLenI 58 from Nat.lt_of_lt_of_eq (show 1 < 4 by omega) rfl) ?_
  rw [uI_uI, gI_uI, if_pos rfl]
  refine g_aload_n C dX9_looksAt_23 rfl ?_
  refine g_get C dX9_looksAt_24 iwX9 rfl (wO_M δ _) 22 (Nat.le_of_ble_eq_true rfl) mW594 rfl rfl ?_
  refine g_iconst (v := 2) C dX9_looksAt_27 (by decide) ?_
  refine g_iload_n C dX9_looksAt_28 rfl ?_
  refine g_sipush (v := 169) C dX9_looksAt_29 (by decide) ?_
  refine g_idiv C dX9_looksAt_32 (by decide) ?_
  rw [show nI p / 169 = nI (p / 169) from pk_div (by omega) (by decide) (by decide)]
  refine g_iastN C dX9_looksAt_33 (k := 2) (q := 58) (by decide) rfl (by first | rfl | assumption | (simp only [glit, nI_add, pk_mul]; done) | (simp only [glit, nI_add, pk_mul]; congr 1; omega) | (simp only [*, glit, nI_add, pk_mul]; congr 1; omega)) (show 2 < gLenI 58 from Nat.lt_of_lt_of_eq (show 2 < 4 by omega) rfl) ?_
  rw [uI_uI, gI_uI, if_pos rfl]
  refine g_aload_n C dX9_looksAt_34 rfl ?_
  refine g_get C dX9_looksAt_35 iwX9 rfl (wO_M δ _) 22 (Nat.le_of_ble_eq_true rfl) mW594 rfl rfl ?_
  refine g_iconst (v := 3) C dX9_looksAt_38 (by decide) ?_
  refine g_iload_n C dX9_looksAt_39 rfl ?_
  refine g_aload_n C dX9_looksAt_40 rfl ?_
  refine g_get C dX9_looksAt_41 iwX9 rfl (wO_M δ _) 22 (Nat.le_of_ble_eq_true rfl) mW594 rfl rfl ?_
  refine g_iconst (v := 0) C dX9_looksAt_44 (by decide) ?_
  refine g_ialdN C dX9_looksAt_45 (k := 0) (q := 58) (by decide) rfl (by first | rfl | assumption | (simp only [glit, nI_add, pk_mul]; done) | (simp only [glit, nI_add, pk_mul]; congr 1; omega) | (simp only [*, glit, nI_add, pk_mul]; congr 1; omega)) (show 0 < gLenI 58 from Nat.lt_of_lt_of_eq (show 0 < 4 by omega) rfl) ?_
  rw [show gI (uI σ 58 (upd (upd (upd (gI σ 58) 0 (nI (p % 13))) 1 (nI (p / 13 % 13))) 2 (nI (p / 169)))) 58 0 = nI (p % 13) from rfl]
  refine g_isub C dX9_looksAt_46 ?_
  refine g_aload_n C dX9_looksAt_47 rfl ?_
  refine g_get C dX9_looksAt_48 iwX9 rfl (wO_M δ _) 22 (Nat.le_of_ble_eq_true rfl) mW594 rfl rfl ?_
  refine g_iconst (v := 1) C dX9_looksAt_51 (by decide) ?_
  refine g_ialdN C dX9_looksAt_52 (k := 1) (q := 58) (by decide) rfl (by first | rfl | assumption | (simp only [glit, nI_add, pk_mul]; done) | (simp only [glit, nI_add, pk_mul]; congr 1; omega) | (simp only [*, glit, nI_add, pk_mul]; congr 1; omega)) (show 1 < gLenI 58 from Nat.lt_of_lt_of_eq (show 1 < 4 by omega) rfl) ?_
  rw [show gI (uI σ 58 (upd (upd (upd (gI σ 58) 0 (nI (p % 13))) 1 (nI (p / 13 % 13))) 2 (nI (p / 169)))) 58 1 = nI (p / 13 % 13) from rfl]
  refine g_isub C dX9_looksAt_53 ?_
  refine g_aload_n C dX9_looksAt_54 rfl ?_
  refine g_get C dX9_looksAt_55 iwX9 rfl (wO_M δ _) 22 (Nat.le_of_ble_eq_true rfl) mW594 rfl rfl ?_
  refine g_iconst (v := 2) C dX9_looksAt_58 (by decide) ?_
  refine g_ialdN C dX9_looksAt_59 (k := 2) (q := 58) (by decide) rfl (by first | rfl | assumption | (simp only [glit, nI_add, pk_mul]; done) | (simp only [glit, nI_add, pk_mul]; congr 1; omega) | (simp only [*, glit, nI_add, pk_mul]; congr 1; omega)) (show 2 < gLenI 58 from Nat.lt_of_lt_of_eq (show 2 < 4 by omega) rfl) ?_
  rw [show gI (uI σ 58 (upd (upd (upd (gI σ 58) 0 (nI (p % 13))) 1 (nI (p / 13 % 13))) 2 (nI (p / 169)))) 58 2 = nI (p / 169) from rfl]
  refine g_isub C dX9_looksAt_60 ?_
  refine g_iastN C dX9_looksAt_61 (k := 3) (q := 58) (by decide) rfl (by first | rfl | assumption | (simp only [glit, nI_add, pk_mul]; done) | (simp only [glit, nI_add, pk_mul]; congr 1; omega) | (simp only [*, glit, nI_add, pk_mul]; congr 1; omega)) (show 3 < gLenI 58 from Nat.lt_of_lt_of_eq (show 3 < 4 by omega) rfl) ?_
  rw [uI_uI, gI_uI, if_pos rfl]
  refine g_iconst (v := 0) C dX9_looksAt_62 (by decide) ?_
  refine g_istore C dX9_looksAt_63 (Nat.le_of_ble_eq_true rfl) rfl ?_
  refine g_lv [some _, some _, some _, some _, some _, none] (gs_some (gs_some (gs_some (gs_some (gs_some (gs_none gs_nil)))))) ?_
  have L_65 : ∀ (nn : Nat) (d : Nat) (g : Nat → Int32) (hd : d ≤ 4) (hg : ∀ j, j < d → g j = xB (bS (vS v) u) (tS (vS v) u) k p j), 4 - d < nn → gW Γ δ (uI (uI σ 58 (upd (upd (upd (upd (gI σ 58) 0 (nI (p % 13))) 1 (nI (p / 13 % 13))) 2 (nI (p / 169))) 3 (nI k - nI (p % 13) - nI (p / 13 % 13) - nI (p / 169)))) 59 g) 65 [some (.ref (δ.2.2.1 1)), some (.int (nI u)), some (.int (nI p)), some (.int (nI k)), some (.int (nI d)), none] [] := by
    intro nn
    induction nn with
    | zero =>
      intro d g hd hg hm_65
      exact absurd hm_65 (Nat.not_lt_zero _)
    | succ nn ih_65 =>
      intro d g hd hg hm_65
      refine g_iload C dX9_looksAt_65 rfl ?_
      refine g_iconst (v := 4) C dX9_looksAt_67 (by decide) ?_
      refine g_icmp_ge C 148 dX9_looksAt_68 (by decide) (fun c_68 => ?_) (fun c_68 => ?_)
      · have k_68 := gle c_68 (a := 4) (b := d) (by first | rfl | assumption | (simp only [glit, nI_add, pk_mul]; done) | (simp only [glit, nI_add, pk_mul]; congr 1; omega) | (simp only [*, glit, nI_add, pk_mul]; congr 1; omega)) (by first | rfl | assumption | (simp only [glit, nI_add, pk_mul]; done) | (simp only [glit, nI_add, pk_mul]; congr 1; omega) | (simp only [*, glit, nI_add, pk_mul]; congr 1; omega)) (by omega) (by omega)
        have ed : d = 4 := by omega
        subst ed
        exact g_vret C E dX9_looksAt_148 rfl ⟨rfl, ⟨_, g, rfl, fun c hc => dof3 hdS hc, fun j h => hg j (by omega)⟩⟩
      · have k_68 := gnle c_68 (a := 4) (b := d) (by first | rfl | assumption | (simp only [glit, nI_add, pk_mul]; done) | (simp only [glit, nI_add, pk_mul]; congr 1; omega) | (simp only [*, glit, nI_add, pk_mul]; congr 1; omega)) (by first | rfl | assumption | (simp only [glit, nI_add, pk_mul]; done) | (simp only [glit, nI_add, pk_mul]; congr 1; omega) | (simp only [*, glit, nI_add, pk_mul]; congr 1; omega)) (by omega) (by omega)
        refine g_aload_n C dX9_looksAt_71 rfl ?_
        refine g_get C dX9_looksAt_72 iwX9 rfl (wO_M δ _) 23 (Nat.le_of_ble_eq_true rfl) mW595 rfl rfl ?_
        refine g_iload C dX9_looksAt_75 rfl ?_
        refine g_aload_n C dX9_looksAt_77 rfl ?_
        refine g_get C dX9_looksAt_78 iwX9 rfl (wO_M δ _) 6 (Nat.le_of_ble_eq_true rfl) mW578 rfl rfl ?_
        refine g_bipush (v := 25) C dX9_looksAt_81 (by decide) ?_
        refine g_iload_n C dX9_looksAt_83 rfl ?_
        refine g_imul C dX9_looksAt_84 ?_
        refine g_iload C dX9_looksAt_85 rfl ?_
        refine g_iadd C dX9_looksAt_87 ?_
        refine g_ialdN C dX9_looksAt_88 (k := ((25 * u) + d)) (q := 53) (by decide) rfl (by first | rfl | assumption | (simp only [glit, nI_add, pk_mul]; done) | (simp only [glit, nI_add, pk_mul]; congr 1; omega) | (simp only [*, glit, nI_add, pk_mul]; congr 1; omega)) (show ((25 * u) + d) < gLenI 53 from Nat.lt_of_lt_of_eq (show ((25 * u) + d) < 202 by omega) rfl) ?_
        rw [gI_uI, if_neg (by decide), gI_uI, if_neg (by decide), show gI σ 53 (25 * u + d) = bS (vS v) u d from K.2.2.1 _ (by omega)]
        refine g_iastN C dX9_looksAt_89 (k := d) (q := 59) (by decide) rfl (by first | rfl | assumption | (simp only [glit, nI_add, pk_mul]; done) | (simp only [glit, nI_add, pk_mul]; congr 1; omega) | (simp only [*, glit, nI_add, pk_mul]; congr 1; omega)) (show d < gLenI 59 from Nat.lt_of_lt_of_eq (show d < 4 by omega) rfl) ?_
        refine g_iconst (v := 0) C dX9_looksAt_90 (by decide) ?_
        refine g_istore C dX9_looksAt_91 (Nat.le_of_ble_eq_true rfl) rfl ?_
        refine g_lv [some _, some _, some _, some _, some _, some _] (gs_some (gs_some (gs_some (gs_some (gs_some (gs_some gs_nil)))))) ?_
        have L_93 : ∀ (nn : Nat) (c : Nat) (g2 : Nat → Int32) (hc : c ≤ 4) (hg2 : ∀ j, j < d → g2 j = xB (bS (vS v) u) (tS (vS v) u) k p j) (hx : g2 d = xS (bS (vS v) u) (tS (vS v) u) k p d c), 4 - c < nn → gW Γ δ (uI (uI σ 58 (upd (upd (upd (upd (gI σ 58) 0 (nI (p % 13))) 1 (nI (p / 13 % 13))) 2 (nI (p / 169))) 3 (nI k - nI (p % 13) - nI (p / 13 % 13) - nI (p / 169)))) 59 g2) 93 [some (.ref (δ.2.2.1 1)), some (.int (nI u)), some (.int (nI p)), some (.int (nI k)), some (.int (nI d)), some (.int (nI c))] [] := by
          intro nn
          induction nn with
          | zero =>
            intro c g2 hc hg2 hx hm_93
            exact absurd hm_93 (Nat.not_lt_zero _)
          | succ nn ih_93 =>
            intro c g2 hc hg2 hx hm_93
            refine g_iload C dX9_looksAt_93 rfl ?_
            refine g_iconst (v := 4) C dX9_looksAt_95 (by decide) ?_
            refine g_icmp_ge C 142 dX9_looksAt_96 (by decide) (fun c_96 => ?_) (fun c_96 => ?_)
            · have k_96 := gle c_96 (a := 4) (b := c) (by first | rfl | assumption | (simp only [glit, nI_add, pk_mul]; done) | (simp only [glit, nI_add, pk_mul]; congr 1; omega) | (simp only [*, glit, nI_add, pk_mul]; congr 1; omega)) (by first | rfl | assumption | (simp only [glit, nI_add, pk_mul]; done) | (simp only [glit, nI_add, pk_mul]; congr 1; omega) | (simp only [*, glit, nI_add, pk_mul]; congr 1; omega)) (by omega) (by omega)
              have ec : c = 4 := by omega
              subst ec
              refine g_iinc (v := nI (d + 1)) C dX9_looksAt_142 rfl (ginc _ 1) rfl ?_
              refine g_lv [some _, some _, some _, some _, some _, some _] (gs_some (gs_some (gs_some (gs_some (gs_some (gs_some gs_nil)))))) ?_
              refine g_goto C 65 dX9_looksAt_145 (by decide) ?_
              refine g_lv [some _, some _, some _, some _, some _, none] (gs_some (gs_some (gs_some (gs_some (gs_some (gs_none gs_nil)))))) ?_
              exact ih_65 (d + 1) _ (by omega) (fun j h => (Nat.lt_succ_iff_lt_or_eq.mp h).elim (fun h => hg2 j h) (fun h => by rw [h]; exact hx)) (by omega)
            · have k_96 := gnle c_96 (a := 4) (b := c) (by first | rfl | assumption | (simp only [glit, nI_add, pk_mul]; done) | (simp only [glit, nI_add, pk_mul]; congr 1; omega) | (simp only [*, glit, nI_add, pk_mul]; congr 1; omega)) (by first | rfl | assumption | (simp only [glit, nI_add, pk_mul]; done) | (simp only [glit, nI_add, pk_mul]; congr 1; omega) | (simp only [*, glit, nI_add, pk_mul]; congr 1; omega)) (by omega) (by omega)
              refine g_aload_n C dX9_looksAt_99 rfl ?_
              refine g_get C dX9_looksAt_100 iwX9 rfl (wO_M δ _) 23 (Nat.le_of_ble_eq_true rfl) mW595 rfl rfl ?_
              refine g_iload C dX9_looksAt_103 rfl ?_
              refine g_dup2 C dX9_looksAt_105 rfl rfl ?_
              refine g_ialdN C dX9_looksAt_106 (k := d) (q := 59) (by decide) rfl (by first | rfl | assumption | (simp only [glit, nI_add, pk_mul]; done) | (simp only [glit, nI_add, pk_mul]; congr 1; omega) | (simp only [*, glit, nI_add, pk_mul]; congr 1; omega)) (show d < gLenI 59 from Nat.lt_of_lt_of_eq (show d < 4 by omega) rfl) ?_
              rw [gI_uI, if_pos rfl, hx]
              refine g_aload_n C dX9_looksAt_107 rfl ?_
              refine g_get C dX9_looksAt_108 iwX9 rfl (wO_M δ _) 22 (Nat.le_of_ble_eq_true rfl) mW594 rfl rfl ?_
              refine g_iload C dX9_looksAt_111 rfl ?_
              refine g_ialdN C dX9_looksAt_113 (k := c) (q := 58) (by decide) rfl (by first | rfl | assumption | (simp only [glit, nI_add, pk_mul]; done) | (simp only [glit, nI_add, pk_mul]; congr 1; omega) | (simp only [*, glit, nI_add, pk_mul]; congr 1; omega)) (show c < gLenI 58 from Nat.lt_of_lt_of_eq (show c < 4 by omega) rfl) ?_
              rw [gI_uI, if_neg (by decide), gI_uI, if_pos rfl, dof3 hdS (by omega)]
              refine g_aload_n C dX9_looksAt_114 rfl ?_
              refine g_get C dX9_looksAt_115 iwX9 rfl (wO_M δ _) 6 (Nat.le_of_ble_eq_true rfl) mW578 rfl rfl ?_
              refine g_bipush (v := 25) C dX9_looksAt_118 (by decide) ?_
              refine g_iload_n C dX9_looksAt_120 rfl ?_
              refine g_imul C dX9_looksAt_121 ?_
              refine g_iconst (v := 4) C dX9_looksAt_122 (by decide) ?_
              refine g_iadd C dX9_looksAt_123 ?_
              refine g_iconst (v := 4) C dX9_looksAt_124 (by decide) ?_
              refine g_iload C dX9_looksAt_125 rfl ?_
              refine g_imul C dX9_looksAt_127 ?_
              refine g_iadd C dX9_looksAt_128 ?_
              refine g_iload C dX9_looksAt_129 rfl ?_
              refine g_iadd C dX9_looksAt_131 ?_
              refine g_ialdN C dX9_looksAt_132 (k := (25 * u + 4 + (c * 4 + d))) (q := 53) (by decide) rfl (by first | rfl | assumption | (simp only [glit, nI_add, pk_mul]; done) | (simp only [glit, nI_add, pk_mul]; congr 1; omega) | (simp only [*, glit, nI_add, pk_mul]; congr 1; omega)) (show (25 * u + 4 + (c * 4 + d)) < gLenI 53 from Nat.lt_of_lt_of_eq (show (25 * u + 4 + (c * 4 + d)) < 202 by omega) rfl) ?_
              rw [gI_uI, if_neg (by decide), gI_uI, if_neg (by decide), show gI σ 53 (25 * u + 4 + (c * 4 + d)) = tS (vS v) u (c * 4 + d) from (K.2.2.1 _ (by omega)).trans (congrArg (vS v) (by omega))]
              refine g_imul C dX9_looksAt_133 ?_
              refine g_iadd C dX9_looksAt_134 ?_
              refine g_iastN C dX9_looksAt_135 (k := d) (q := 59) (by decide) rfl (by first | rfl | assumption | (simp only [glit, nI_add, pk_mul]; done) | (simp only [glit, nI_add, pk_mul]; congr 1; omega) | (simp only [*, glit, nI_add, pk_mul]; congr 1; omega)) (show d < gLenI 59 from Nat.lt_of_lt_of_eq (show d < 4 by omega) rfl) ?_
              refine g_iinc (v := nI (c + 1)) C dX9_looksAt_136 rfl (ginc _ 1) rfl ?_
              refine g_lv [some _, some _, some _, some _, some _, some _] (gs_some (gs_some (gs_some (gs_some (gs_some (gs_some gs_nil)))))) ?_
              refine g_goto C 93 dX9_looksAt_139 (by decide) ?_
              refine g_lv [some _, some _, some _, some _, some _, some _] (gs_some (gs_some (gs_some (gs_some (gs_some (gs_some gs_nil)))))) ?_
              rw [uI_uI, gI_uI, if_pos rfl]
              exact ih_93 (c + 1) _ (by omega) (fun j h => (pk_un (by omega)).trans (hg2 j h)) pk_us (by omega)
        refine g_lv [some _, some _, some _, some _, some _, some _] (gs_some (gs_some (gs_some (gs_some (gs_some (gs_some gs_nil)))))) ?_
        rw [uI_uI, gI_uI, if_pos rfl]
        exact L_93 _ 0 _ (by omega) (fun j h => (pk_un (by omega)).trans (hg j h)) pk_us (Nat.lt_succ_self _)
  refine g_lv [some _, some _, some _, some _, some _, none] (gs_some (gs_some (gs_some (gs_some (gs_some (gs_none gs_nil)))))) ?_
  refine g_st (σ' := (uI (uI σ 58 (upd (upd (upd (upd (gI σ 58) 0 (nI (p % 13))) 1 (nI (p / 13 % 13))) 2 (nI (p / 169))) 3 (nI k - nI (p % 13) - nI (p / 13 % 13) - nI (p / 169)))) 59 (gI σ 59))) (by rw [show gI σ 59 = gI (uI σ 58 (upd (upd (upd (upd (gI σ 58) 0 (nI (p % 13))) 1 (nI (p / 13 % 13))) 2 (nI (p / 169))) 3 (nI k - nI (p % 13) - nI (p / 13 % 13) - nI (p / 169)))) 59 from rfl, uI_id]) ?_
  exact L_65 _ 0 _ (by omega) (fun _ h => absurd h (Nat.not_lt_zero _)) (Nat.lt_succ_self _)
set_option maxRecDepth 100000 in
set_option maxHeartbeats 4000000 in
theorem c_X9_sumb (l : Launch) (δ : GD) (σ : GS) {k : Nat} (hk : k ≤ 12) {φ : Nat → Nat} (hφ : ∀ y, y < 2197 → gL σ 14 (2197 * (k % 2) + y) = lN (φ y)) : gM l δ yX9_sum cX9_sum 5 (some .long) 1 21 [.ref (δ.2.2.1 1), .int (nI k)] σ (gPl (fun r σ' => σ = σ' ∧ r = lN (sN φ 2197))) := by
  refine g_of (lv0 := [some (.ref (δ.2.2.1 1)), some (.int (nI k)), none, none, none]) (by decide) rfl (Nat.le_of_ble_eq_true rfl) (fun Γ hl C E => ?_)
  subst hl
  have C : gC Γ δ cX9_sum RX9 5 1 21 := C
  refine g_lconst (v := 0) C dX9_sum_0 (by decide) ?_
  refine g_lstore_n C dX9_sum_1 (Nat.le_of_ble_eq_true rfl) rfl ?_
  refine g_lv [some _, some _, some _, none, none] (gs_some (gs_some (gs_some (gs_none (gs_none gs_nil))))) ?_
  refine g_iconst (v := 0) C dX9_sum_2 (by decide) ?_
  refine g_istore C dX9_sum_3 (Nat.le_of_ble_eq_true rfl) rfl ?_
  refine g_lv [some _, some _, some _, none, some _] (gs_some (gs_some (gs_some (gs_none (gs_some gs_nil))))) ?_
  have L_5 : ∀ (nn : Nat) (q : Nat) (hq : q ≤ 2197), 2197 - q < nn → gW Γ δ σ 5 [some (.ref (δ.2.2.1 1)), some (.int (nI k)), some (.long (lN (sN φ q))), none, some (.int (nI q))] [] := by
    intro nn
    induction nn with
    | zero =>
      intro q hq hm_5
      exact absurd hm_5 (Nat.not_lt_zero _)
    | succ nn ih_5 =>
      intro q hq hm_5
      refine g_iload C dX9_sum_5 rfl ?_
      refine g_sipush (v := 2197) C dX9_sum_7 (by decide) ?_
      refine g_icmp_ge C 33 dX9_sum_10 (by decide) (fun c_10 => ?_) (fun c_10 => ?_)
      · have k_10 := gle c_10 (a := 2197) (b := q) (by first | rfl | assumption | (simp only [glit, nI_add, pk_mul]; done) | (simp only [glit, nI_add, pk_mul]; congr 1; omega) | (simp only [*, glit, nI_add, pk_mul]; congr 1; omega)) (by first | rfl | assumption | (simp only [glit, nI_add, pk_mul]; done) | (simp only [glit, nI_add, pk_mul]; congr 1; omega) | (simp only [*, glit, nI_add, pk_mul]; congr 1; omega)) (by omega) (by omega)
        refine g_lload_n C dX9_sum_33 rfl ?_
        exact g_lret C E dX9_sum_34 rfl ⟨_, rfl, ⟨rfl, by rw [show q = 2197 by omega]⟩⟩
      · have k_10 := gnle c_10 (a := 2197) (b := q) (by first | rfl | assumption | (simp only [glit, nI_add, pk_mul]; done) | (simp only [glit, nI_add, pk_mul]; congr 1; omega) | (simp only [*, glit, nI_add, pk_mul]; congr 1; omega)) (by first | rfl | assumption | (simp only [glit, nI_add, pk_mul]; done) | (simp only [glit, nI_add, pk_mul]; congr 1; omega) | (simp only [*, glit, nI_add, pk_mul]; congr 1; omega)) (by omega) (by omega)
        refine g_lload_n C dX9_sum_13 rfl ?_
        refine g_aload_n C dX9_sum_14 rfl ?_
        refine g_get C dX9_sum_15 iwX9 rfl (wO_M δ _) 19 (Nat.le_of_ble_eq_true rfl) mW591 rfl rfl ?_
        refine g_iload_n C dX9_sum_18 rfl ?_
        refine g_iload C dX9_sum_19 rfl ?_
        refine g_callSi C sS_X9_186 dX9_sum_21 (c_X9_at _ δ _ (r := k) (p := q) (by omega)) ⟨by decide, by decide⟩ rfl rfl rfl (Nat.le_of_ble_eq_true rfl) (fun r_21 s_21 h_21 => ?_)
        obtain ⟨rfl, rfl⟩ := h_21
        refine g_laldN C dX9_sum_24 (k := (2197 * ((k) % 2) + (q))) (q := 14) (by decide) rfl (by first | rfl | assumption | (simp only [glit, nI_add, pk_mul]; done) | (simp only [glit, nI_add, pk_mul]; congr 1; omega) | (simp only [*, glit, nI_add, pk_mul]; congr 1; omega)) (show (2197 * ((k) % 2) + (q)) < gLenL 14 from Nat.lt_of_lt_of_eq (show (2197 * ((k) % 2) + (q)) < 4394 by omega) rfl) ?_
        rw [hφ q (by omega)]
        refine g_ladd C dX9_sum_25 ?_
        rw [lN_add]
        refine g_lstore_n C dX9_sum_26 (Nat.le_of_ble_eq_true rfl) rfl ?_
        refine g_lv [some _, some _, some _, none, some _] (gs_some (gs_some (gs_some (gs_none (gs_some gs_nil))))) ?_
        refine g_iinc (v := nI (q + 1)) C dX9_sum_27 rfl (ginc _ 1) rfl ?_
        refine g_lv [some _, some _, some _, none, some _] (gs_some (gs_some (gs_some (gs_none (gs_some gs_nil))))) ?_
        refine g_goto C 5 dX9_sum_30 (by decide) ?_
        refine g_lv [some _, some _, some _, none, some _] (gs_some (gs_some (gs_some (gs_none (gs_some gs_nil))))) ?_
        exact ih_5 (q + 1) (by omega) (by omega)
  refine g_lv [some _, some _, some _, none, some _] (gs_some (gs_some (gs_some (gs_none (gs_some gs_nil))))) ?_
  exact L_5 _ 0 (by omega) (Nat.lt_succ_self _)
set_option maxRecDepth 100000 in
set_option maxHeartbeats 4000000 in
theorem c_X9_evenFaultb (l : Launch) (δ : GD) (σ : GS) {u : Nat} (hu : u < 8) {k : Nat} (hk : k ≤ 12) {v : GV} (K : KM σ v) (R : RV v) : gM l δ yX9_evenFault cX9_evenFault 6 (some .int) 2 47 [.ref (δ.2.2.1 1), .int (nI u), .int (nI k)] σ (gPi (fun x σ' => x = aEv v u k ∧ (∃ y, σ' = uG σ 15 y) ∧ (¬ x < 0 → (gEv4 (tS (vS v) u) (vC v u) ∧ ¬ sumS (vS v) u = 0) ∧ dD (vT v u) (vG v u) k ≤ 10000000000000000 ∧ gG σ' 15 = lN (dD (vT v u) (vG v u) k)) ∧ (x < 0 → ¬ ((gEv4 (tS (vS v) u) (vC v u) ∧ ¬ sumS (vS v) u = 0) ∧ dD (vT v u) (vG v u) k ≤ 10000000000000000)))) := by
  refine g_of (lv0 := [some (.ref (δ.2.2.1 1)), some (.int (nI u)), some (.int (nI k)), none, none, none]) (by decide) rfl (Nat.le_of_ble_eq_true rfl) (fun Γ hl C E => ?_)
  subst hl
  have C : gC Γ δ cX9_evenFault RX9 6 2 47 := C
  have hn := K.2.1 u hu
  have h4 := RV_n R hu
  have hT := vT_b R hu
  have hG := vG_b R hu
  refine g_aload_n C dX9_evenFault_0 rfl ?_
  refine g_iload_n C dX9_evenFault_1 rfl ?_
  refine g_callVi C sV_X9_110 dX9_evenFault_2 (c_X9_isEven _ δ _ hu hn h4) ⟨by decide, by decide⟩ (wO_M δ _) rfl rfl rfl rfl (Nat.le_of_ble_eq_true rfl) (fun r_2 s_2 h_2 => ?_)
  obtain ⟨rfl, h_2⟩ := h_2
  have h_2 := gAcc_i h_2 (KM_ev K R hu)
  refine g_if_eq C 16 dX9_evenFault_5 (by decide) (fun c_5 => ?_) (fun c_5 => ?_)
  · refine g_bipush (v := (-2)) C dX9_evenFault_16 (by decide) ?_
    exact g_iret C E dX9_evenFault_18 rfl rfl ⟨_, rfl, ⟨by first | exact (aEv_e (Or.inl (gAcc_n h_2 c_5))).symm | exact (aEv_e (Or.inr c_13)).symm, ⟨gG σ 15, (uG_id σ 15).symm⟩, fun h => absurd (by decide) h, fun _ z => by first | exact gAcc_n h_2 c_5 z.1.1 | exact z.1.2 c_13⟩⟩
  · refine g_aload_n C dX9_evenFault_8 rfl ?_
    refine g_iload_n C dX9_evenFault_9 rfl ?_
    refine g_callVi C sV_X9_113 dX9_evenFault_10 (c_X9_balls _ δ _ hu) ⟨by decide, by decide⟩ (wO_M δ _) rfl rfl rfl rfl (Nat.le_of_ble_eq_true rfl) (fun r_10 s_10 h_10 => ?_)
    obtain ⟨rfl, rfl⟩ := h_10
    rw [KM_sum K hu]
    refine g_if_ne C 19 dX9_evenFault_13 (by decide) (fun c_13 => ?_) (fun c_13 => ?_)
    · refine g_aload_n C dX9_evenFault_19 rfl ?_
      refine g_lconst (v := 1) C dX9_evenFault_20 (by decide) ?_
      refine g_put C tyX9 dX9_evenFault_21 iwX9 tyX9_ok nmX9 rfl (wO_M δ _) 20 (Nat.le_of_ble_eq_true rfl) mW592 rfl rfl rfl rfl rfl (Nat.le_of_ble_eq_true rfl) (pG_15 δ _ _) ?_
      refine g_iconst (v := 0) C dX9_evenFault_24 (by decide) ?_
      refine g_istore_n C dX9_evenFault_25 (Nat.le_of_ble_eq_true rfl) rfl ?_
      refine g_lv [some _, some _, some _, some _, none, none] (gs_some (gs_some (gs_some (gs_some (gs_none (gs_none gs_nil)))))) ?_
      have L_26 : ∀ (nn : Nat) (i : Nat) (hi : i ≤ k) (hl : dD (vT v u) (vG v u) i ≤ 10000000000000000), k - i < nn → gW Γ δ (uG σ 15 (lN (dD (vT v u) (vG v u) i))) 26 [some (.ref (δ.2.2.1 1)), some (.int (nI u)), some (.int (nI k)), some (.int (nI i)), none, none] [] := by
        intro nn
        induction nn with
        | zero =>
          intro i hi hl hm_26
          exact absurd hm_26 (Nat.not_lt_zero _)
        | succ nn ih_26 =>
          intro i hi hl hm_26
          have K1 : KM (uG σ 15 (lN (dD (vT v u) (vG v u) i))) v := KM_sn (a := σ) (by repeat (first | (with_reducible assumption) | (with_reducible exact gSn_r _) | (with_reducible refine gSn_I (by omega) ?_) | (with_reducible refine gSn_L (by omega) ?_) | (with_reducible refine gSn_N (by omega) ?_) | (with_reducible refine gSn_G (by omega) ?_) | (with_reducible refine gSn_P ?_))) K
          have f1 := dF_1 (vT v u) (vG v u) i
          have f2 := dF_2 hT hG (show i ≤ 12 by omega)
          refine g_iload_n C dX9_evenFault_26 rfl ?_
          refine g_iload_n C dX9_evenFault_27 rfl ?_
          refine g_icmp_ge C 91 dX9_evenFault_28 (by decide) (fun c_28 => ?_) (fun c_28 => ?_)
          · have k_28 := gle c_28 (a := k) (b := i) (by first | rfl | assumption | (simp only [glit, nI_add, pk_mul]; done) | (simp only [glit, nI_add, pk_mul]; congr 1; omega) | (simp only [*, glit, nI_add, pk_mul]; congr 1; omega)) (by first | rfl | assumption | (simp only [glit, nI_add, pk_mul]; done) | (simp only [glit, nI_add, pk_mul]; congr 1; omega) | (simp only [*, glit, nI_add, pk_mul]; congr 1; omega)) (by omega) (by omega)
            have ek : k = i := by omega
            subst ek
            refine g_iconst (v := 0) C dX9_evenFault_91 (by decide) ?_
            exact g_iret C E dX9_evenFault_92 rfl rfl ⟨_, rfl, ⟨(aEv_0 (gAcc_y h_2 c_5) c_13 hl).symm, ⟨_, rfl⟩, fun _ => ⟨⟨gAcc_y h_2 c_5, c_13⟩, hl, gG_uGs σ 15 _⟩, fun h => absurd h (by decide)⟩⟩
          · have k_28 := gnle c_28 (a := k) (b := i) (by first | rfl | assumption | (simp only [glit, nI_add, pk_mul]; done) | (simp only [glit, nI_add, pk_mul]; congr 1; omega) | (simp only [*, glit, nI_add, pk_mul]; congr 1; omega)) (by first | rfl | assumption | (simp only [glit, nI_add, pk_mul]; done) | (simp only [glit, nI_add, pk_mul]; congr 1; omega) | (simp only [*, glit, nI_add, pk_mul]; congr 1; omega)) (by omega) (by omega)
            refine g_aload_n C dX9_evenFault_31 rfl ?_
            refine g_iload_n C dX9_evenFault_32 rfl ?_
            refine g_callVi C sV_X9_113 dX9_evenFault_33 (c_X9_balls _ δ _ hu) ⟨by decide, by decide⟩ (wO_M δ _) rfl rfl rfl rfl (Nat.le_of_ble_eq_true rfl) (fun r_33 s_33 h_33 => ?_)
            obtain ⟨rfl, rfl⟩ := h_33
            rw [KM_sum K1 hu]
            refine g_i2l C dX9_evenFault_36 ?_
            refine g_iload_n C dX9_evenFault_37 rfl ?_
            refine g_i2l C dX9_evenFault_38 ?_
            refine g_aload_n C dX9_evenFault_39 rfl ?_
            refine g_iload_n C dX9_evenFault_40 rfl ?_
            refine g_iconst (v := 0) C dX9_evenFault_41 (by decide) ?_
            refine g_callVi C sV_X9_107 dX9_evenFault_42 (c_X9_addedSum _ δ _ hu (c := 0) (by omega)) ⟨by decide, by decide⟩ (wO_M δ _) rfl rfl rfl rfl (Nat.le_of_ble_eq_true rfl) (fun r_42 s_42 h_42 => ?_)
            obtain ⟨rfl, rfl⟩ := h_42
            rw [KM_gr K1 hu (by omega)]
            refine g_i2l C dX9_evenFault_45 ?_
            refine g_lmul C dX9_evenFault_46 ?_
            refine g_ladd C dX9_evenFault_47 ?_
            refine g_lstore C dX9_evenFault_48 (Nat.le_of_ble_eq_true rfl) rfl ?_
            refine g_lv [some _, some _, some _, some _, some _, none] (gs_some (gs_some (gs_some (gs_some (gs_some (gs_none gs_nil)))))) ?_
            refine g_lload C dX9_evenFault_50 rfl ?_
            refine g_lconst (v := 0) C dX9_evenFault_52 (by decide) ?_
            refine g_lcmp C dX9_evenFault_53 ?_
            refine g_if_le C 85 dX9_evenFault_54 (by decide) (fun c_54 => ?_) (fun c_54 => ?_)
            · rw [lg_cmp_le] at c_54
              refine g_iinc (v := nI (i + 1)) C dX9_evenFault_85 rfl (ginc _ 1) rfl ?_
              refine g_lv [some _, some _, some _, some _, some _, none] (gs_some (gs_some (gs_some (gs_some (gs_some (gs_none gs_nil)))))) ?_
              refine g_goto C 26 dX9_evenFault_88 (by decide) ?_
              refine g_lv [some _, some _, some _, some _, none, none] (gs_some (gs_some (gs_some (gs_some (gs_none (gs_none gs_nil)))))) ?_
              first | (rw [uG_uG, lN_mul]; refine g_st (σ' := uG σ 15 (lN (dD (vT v u) (vG v u) (i + 1)))) rfl ?_) | refine g_st (σ' := uG σ 15 (lN (dD (vT v u) (vG v u) (i + 1)))) (by rw [show dD (vT v u) (vG v u) (i + 1) = dD (vT v u) (vG v u) i from mfac_n hT hG (by omega) c_54]) ?_
              exact ih_26 (i + 1) (by omega) (by first | exact c_68 | (rw [show dD (vT v u) (vG v u) (i + 1) = dD (vT v u) (vG v u) i from mfac_n hT hG (by omega) c_54]; exact hl)) (by omega)
            · rw [lg_cmp_le] at c_54
              have ef : (sumS (vS v) u).toInt64 + (nI i).toInt64 * (gGr (tS (vS v) u) 0 4).toInt64 = lN (dF (vT v u) (vG v u) i) := mfac_p hT hG (show i ≤ 12 by omega) c_54
              rw [ef]
              refine g_aload_n C dX9_evenFault_57 rfl ?_
              refine g_get C dX9_evenFault_58 iwX9 rfl (wO_M δ _) 20 (Nat.le_of_ble_eq_true rfl) mW592 rfl rfl ?_
              rw [gG_uG, if_pos rfl]
              refine g_ldc2 C dX9_evenFault_61 mW817 ?_
              refine g_lload C dX9_evenFault_64 rfl ?_
              refine g_ldiv C dX9_evenFault_66 (lNz f1 (by omega)) ?_
              refine g_lcmp C dX9_evenFault_67 ?_
              refine g_if_le C 74 dX9_evenFault_68 (by decide) (fun c_68 => ?_) (fun c_68 => ?_)
              · rw [lg_cmp_le] at c_68
                rw [dl_le hl f1 f2] at c_68
                refine g_aload_n C dX9_evenFault_74 rfl ?_
                refine g_dup C dX9_evenFault_75 rfl ?_
                refine g_get C dX9_evenFault_76 iwX9 rfl (wO_M δ _) 20 (Nat.le_of_ble_eq_true rfl) mW592 rfl rfl ?_
                rw [gG_uG, if_pos rfl]
                refine g_lload C dX9_evenFault_79 rfl ?_
                refine g_lmul C dX9_evenFault_81 ?_
                refine g_put C tyX9 dX9_evenFault_82 iwX9 tyX9_ok nmX9 rfl (wO_M δ _) 20 (Nat.le_of_ble_eq_true rfl) mW592 rfl rfl rfl rfl rfl (Nat.le_of_ble_eq_true rfl) (pG_15 δ _ _) ?_
                refine g_iinc (v := nI (i + 1)) C dX9_evenFault_85 rfl (ginc _ 1) rfl ?_
                refine g_lv [some _, some _, some _, some _, some _, none] (gs_some (gs_some (gs_some (gs_some (gs_some (gs_none gs_nil)))))) ?_
                refine g_goto C 26 dX9_evenFault_88 (by decide) ?_
                refine g_lv [some _, some _, some _, some _, none, none] (gs_some (gs_some (gs_some (gs_some (gs_none (gs_none gs_nil)))))) ?_
                first | (rw [uG_uG, lN_mul]; refine g_st (σ' := uG σ 15 (lN (dD (vT v u) (vG v u) (i + 1)))) rfl ?_) | refine g_st (σ' := uG σ 15 (lN (dD (vT v u) (vG v u) (i + 1)))) (by rw [show dD (vT v u) (vG v u) (i + 1) = dD (vT v u) (vG v u) i from mfac_n hT hG (by omega) c_54]) ?_
                exact ih_26 (i + 1) (by omega) (by first | exact c_68 | (rw [show dD (vT v u) (vG v u) (i + 1) = dD (vT v u) (vG v u) i from mfac_n hT hG (by omega) c_54]; exact hl)) (by omega)
              · rw [lg_cmp_le] at c_68
                rw [dl_le hl f1 f2] at c_68
                refine g_bipush (v := (-6)) C dX9_evenFault_71 (by decide) ?_
                exact g_iret C E dX9_evenFault_73 rfl rfl ⟨_, rfl, ⟨(aEv_b (gAcc_y h_2 c_5) c_13 (dD_big (i := i) (Nat.not_le.mp c_68) (by omega))).symm, ⟨_, rfl⟩, fun h => absurd (by decide) h, fun _ z => Nat.not_le.mpr (dD_big (k := k) (i := i) (Nat.not_le.mp c_68) (by omega)) z.2⟩⟩
      refine g_lv [some _, some _, some _, some _, none, none] (gs_some (gs_some (gs_some (gs_some (gs_none (gs_none gs_nil)))))) ?_
      refine g_st (σ' := uG σ 15 (lN (dD (vT v u) (vG v u) 0))) rfl ?_
      exact L_26 _ 0 (by omega) (show 1 ≤ 10000000000000000 by decide) (Nat.lt_succ_self _)
    · refine g_bipush (v := (-2)) C dX9_evenFault_16 (by decide) ?_
      exact g_iret C E dX9_evenFault_18 rfl rfl ⟨_, rfl, ⟨by first | exact (aEv_e (Or.inl (gAcc_n h_2 c_5))).symm | exact (aEv_e (Or.inr c_13)).symm, ⟨gG σ 15, (uG_id σ 15).symm⟩, fun h => absurd (by decide) h, fun _ z => by first | exact gAcc_n h_2 c_5 z.1.1 | exact z.1.2 c_13⟩⟩
