set_option maxRecDepth 100000 in
set_option maxHeartbeats 4000000 in
theorem c_X9_spreadsb (l : Launch) (δ : GD) (σ : GS) {u : Nat} (hu : u < 8) {x k w : Nat} (hk : k ≤ 11) (t r : Int64) (o a : Int32) {al : Nat → Nat → Prop} (hal : ∀ c, c < 4 → (((o < 0 ∨ o = nI c) ∧ (a < 0 ∨ a = nI c)) ↔ al k c)) {Wf : Nat → Nat} (hW : Wf x = w) {v : GV} (K : KM σ v) (R : RV v) (hok : xOk (bS (vS v) u) (tS (vS v) u) (vC v u) k x) (ht : t ≤ 0 ↔ xT (bS (vS v) u) (tS (vS v) u) k x = 0) (hb : ∀ d, d < 4 → gI σ 59 d = xB (bS (vS v) u) (tS (vS v) u) k x d) (hw : gL σ 14 (2197 * (k % 2) + x) = lN w) : gM l δ yX9_spreads cX9_spreads 15 none 1 25 [.ref (δ.2.2.1 1), .int (nI u), .int (nI x), .int (nI k), .long t, .long r, .int o, .int a] σ (gPv (fun σ' => ∃ (N : Nat → Int64) (e : Int64), σ' = uG (uL σ 14 N) 16 e ∧ (∀ y, y < 2197 → N (2197 * ((k + 1) % 2) + y) = gL σ 14 (2197 * ((k + 1) % 2) + y) + lN (wX true (bS (vS v) u) (tS (vS v) u) al Wf k y x)) ∧ (∀ y, y < 2197 → N (2197 * (k % 2) + y) = gL σ 14 (2197 * (k % 2) + y)) ∧ e = gG σ 16 + lN (eX true (bS (vS v) u) (tS (vS v) u) alA Wf k x) * r)) := by
  refine g_of (lv0 := [some (.ref (δ.2.2.1 1)), some (.int (nI u)), some (.int (nI x)), some (.int (nI k)), some (.long t), none, some (.long r), none, some (.int o), some (.int a), none, none, none, none, none]) (by decide) rfl (Nat.le_of_ble_eq_true rfl) (fun Γ hl C E => ?_)
  subst hl
  have C : gC Γ δ cX9_spreads RX9 15 1 25 := C
  have hx2 : x < 2197 := (dSum_lt hok.1 (show k ≤ 12 by omega)).1
  refine g_aload_n C dX9_spreads_0 rfl ?_
  refine g_get C dX9_spreads_1 iwX9 rfl (wO_M δ _) 19 (Nat.le_of_ble_eq_true rfl) mW591 rfl rfl ?_
  refine g_iload_n C dX9_spreads_4 rfl ?_
  refine g_iload_n C dX9_spreads_5 rfl ?_
  refine g_callSi C sS_X9_186 dX9_spreads_6 (c_X9_at _ δ _ (r := k) (p := x) (by omega)) ⟨by decide, by decide⟩ rfl rfl rfl (Nat.le_of_ble_eq_true rfl) (fun r_6 s_6 h_6 => ?_)
  obtain ⟨rfl, rfl⟩ := h_6
  refine g_laldN C dX9_spreads_9 (k := (2197 * ((k) % 2) + (x))) (q := 14) (by decide) rfl (by first | rfl | assumption | (simp only [glit, nI_add, pk_mul]; done) | (simp only [glit, nI_add, pk_mul]; congr 1; omega) | (simp only [*, glit, nI_add, pk_mul]; congr 1; omega)) (show (2197 * ((k) % 2) + (x)) < gLenL 14 from Nat.lt_of_lt_of_eq (show (2197 * ((k) % 2) + (x)) < 4394 by omega) rfl) ?_
  rw [hw]
  refine g_lstore C dX9_spreads_10 (Nat.le_of_ble_eq_true rfl) rfl ?_
  refine g_lv [some _, some _, some _, some _, some _, none, some _, none, some _, some _, some _, none, none, none, none] (gs_some (gs_some (gs_some (gs_some (gs_some (gs_none (gs_some (gs_none (gs_some (gs_some (gs_some (gs_none (gs_none (gs_none (gs_none gs_nil))))))))))))))) ?_
  refine g_lload C dX9_spreads_12 rfl ?_
  refine g_lconst (v := 0) C dX9_spreads_14 (by decide) ?_
  refine g_lcmp C dX9_spreads_15 ?_
  refine g_if_gt C 34 dX9_spreads_16 (by decide) (fun c_16 => ?_) (fun c_16 => ?_)
  · rw [lg_cmp_gt] at c_16
    refine g_iconst (v := 0) C dX9_spreads_34 (by decide) ?_
    refine g_istore C dX9_spreads_35 (Nat.le_of_ble_eq_true rfl) rfl ?_
    refine g_lv [some _, some _, some _, some _, some _, none, some _, none, some _, some _, some _, none, some _, none, none] (gs_some (gs_some (gs_some (gs_some (gs_some (gs_none (gs_some (gs_none (gs_some (gs_some (gs_some (gs_none (gs_some (gs_none (gs_none gs_nil))))))))))))))) ?_
    have L_37 : ∀ (nn : Nat) (c : Nat) (N : Nat → Int64) (e : Int64) (hc : c ≤ 4) (hN : ∀ y, y < 2197 → N (2197 * ((k + 1) % 2) + y) = gL σ 14 (2197 * ((k + 1) % 2) + y) + lN (qX true (bS (vS v) u) (tS (vS v) u) al w k y x c)) (hO : ∀ y, y < 2197 → N (2197 * (k % 2) + y) = gL σ 14 (2197 * (k % 2) + y)) (he : e = gG σ 16 + lN (qE true (bS (vS v) u) (tS (vS v) u) alA w k x c) * r), 4 - c < nn → gW Γ δ (uG (uL σ 14 N) 16 e) 37 [some (.ref (δ.2.2.1 1)), some (.int (nI u)), some (.int (nI x)), some (.int (nI k)), some (.long t), none, some (.long r), none, some (.int o), some (.int a), some (.long (lN w)), none, some (.int (nI c)), none, none] [] := by
      intro nn
      induction nn with
      | zero =>
        intro c N e hc hN hO he hm_37
        exact absurd hm_37 (Nat.not_lt_zero _)
      | succ nn ih_37 =>
        intro c N e hc hN hO he hm_37
        have hg := gmo_le c
        refine g_iload C dX9_spreads_37 rfl ?_
        refine g_iconst (v := 4) C dX9_spreads_39 (by decide) ?_
        refine g_icmp_ge C 225 dX9_spreads_40 (by decide) (fun c_40 => ?_) (fun c_40 => ?_)
        · have k_40 := gle c_40 (a := 4) (b := c) (by first | rfl | assumption | (simp only [glit, nI_add, pk_mul]; done) | (simp only [glit, nI_add, pk_mul]; congr 1; omega) | (simp only [*, glit, nI_add, pk_mul]; congr 1; omega)) (by first | rfl | assumption | (simp only [glit, nI_add, pk_mul]; done) | (simp only [glit, nI_add, pk_mul]; congr 1; omega) | (simp only [*, glit, nI_add, pk_mul]; congr 1; omega)) (by omega) (by omega)
          have ec : c = 4 := by omega
          subst ec
          exact g_vret C E dX9_spreads_225 rfl ⟨rfl, ⟨N, e, rfl, fun y hy => by rw [hN y hy, qX_W hW], hO, by rw [he, qE_W hW (fun z => absurd c_16 (Int64.not_lt.mpr (ht.mpr z)))]⟩⟩
        · have k_40 := gnle c_40 (a := 4) (b := c) (by first | rfl | assumption | (simp only [glit, nI_add, pk_mul]; done) | (simp only [glit, nI_add, pk_mul]; congr 1; omega) | (simp only [*, glit, nI_add, pk_mul]; congr 1; omega)) (by first | rfl | assumption | (simp only [glit, nI_add, pk_mul]; done) | (simp only [glit, nI_add, pk_mul]; congr 1; omega) | (simp only [*, glit, nI_add, pk_mul]; congr 1; omega)) (by omega) (by omega)
          have hx4 := gmo_13 hok.1 hk (show c < 4 by omega)
          refine g_iconst (v := 1) C dX9_spreads_43 (by decide) ?_
          refine g_istore C dX9_spreads_44 (Nat.le_of_ble_eq_true rfl) rfl ?_
          refine g_lv [some _, some _, some _, some _, some _, none, some _, none, some _, some _, some _, none, some _, some _, none] (gs_some (gs_some (gs_some (gs_some (gs_some (gs_none (gs_some (gs_none (gs_some (gs_some (gs_some (gs_none (gs_some (gs_some (gs_none gs_nil))))))))))))))) ?_
          refine g_iconst (v := 0) C dX9_spreads_46 (by decide) ?_
          refine g_istore C dX9_spreads_47 (Nat.le_of_ble_eq_true rfl) rfl ?_
          refine g_lv [some _, some _, some _, some _, some _, none, some _, none, some _, some _, some _, none, some _, some _, some _] (gs_some (gs_some (gs_some (gs_some (gs_some (gs_none (gs_some (gs_none (gs_some (gs_some (gs_some (gs_none (gs_some (gs_some (gs_some gs_nil))))))))))))))) ?_
          have L_49 : ∀ (nn : Nat) (d : Nat) (b : Int32) (hd : d ≤ 4) (hb1 : gAcc b (gAl (xB (bS (vS v) u) (tS (vS v) u) k x) (tS (vS v) u) c d)), 4 - d < nn → gW Γ δ (uG (uL σ 14 N) 16 e) 49 [some (.ref (δ.2.2.1 1)), some (.int (nI u)), some (.int (nI x)), some (.int (nI k)), some (.long t), none, some (.long r), none, some (.int o), some (.int a), some (.long (lN w)), none, some (.int (nI c)), some (.int b), some (.int (nI d))] [] := by
            intro nn
            induction nn with
            | zero =>
              intro d b hd hb1 hm_49
              exact absurd hm_49 (Nat.not_lt_zero _)
            | succ nn ih_49 =>
              intro d b hd hb1 hm_49
              refine g_iload C dX9_spreads_49 rfl ?_
              refine g_iconst (v := 4) C dX9_spreads_51 (by decide) ?_
              refine g_icmp_ge C 111 dX9_spreads_52 (by decide) (fun c_52 => ?_) (fun c_52 => ?_)
              · have k_52 := gle c_52 (a := 4) (b := d) (by first | rfl | assumption | (simp only [glit, nI_add, pk_mul]; done) | (simp only [glit, nI_add, pk_mul]; congr 1; omega) | (simp only [*, glit, nI_add, pk_mul]; congr 1; omega)) (by first | rfl | assumption | (simp only [glit, nI_add, pk_mul]; done) | (simp only [glit, nI_add, pk_mul]; congr 1; omega) | (simp only [*, glit, nI_add, pk_mul]; congr 1; omega)) (by omega) (by omega)
                have ed : d = 4 := by omega
                rw [ed] at hb1
                have J_149 : ∀ (e2 : Int64) (he2 : e2 = gG σ 16 + lN (qE true (bS (vS v) u) (tS (vS v) u) alA w k x (c + 1)) * r), gW Γ δ (uG (uL σ 14 N) 16 e2) 149 [some (.ref (δ.2.2.1 1)), some (.int (nI u)), some (.int (nI x)), some (.int (nI k)), some (.long t), none, some (.long r), none, some (.int o), some (.int a), some (.long (lN w)), none, some (.int (nI c)), some (.int b), some (.int (nI d))] [] := by
                  intro e2 he2
                  refine g_aload_n C dX9_spreads_149 rfl ?_
                  refine g_get C dX9_spreads_150 iwX9 rfl (wO_M δ _) 23 (Nat.le_of_ble_eq_true rfl) mW595 rfl rfl ?_
                  refine g_iload C dX9_spreads_153 rfl ?_
                  refine g_ialdN C dX9_spreads_155 (k := c) (q := 59) (by decide) rfl (by first | rfl | assumption | (simp only [glit, nI_add, pk_mul]; done) | (simp only [glit, nI_add, pk_mul]; congr 1; omega) | (simp only [*, glit, nI_add, pk_mul]; congr 1; omega)) (show c < gLenI 59 from Nat.lt_of_lt_of_eq (show c < 4 by omega) rfl) ?_
                  rw [gI_uG, gI_uL, hb c (by omega)]
                  refine g_if_le C 219 dX9_spreads_156 (by decide) (fun c_156 => ?_) (fun c_156 => ?_)
                  · have hng : ¬ xGo (bS (vS v) u) (tS (vS v) u) al k x c := fun z => absurd z.1.1 (Int32.not_lt.mpr c_156)
                    refine g_iinc (v := nI (c + 1)) C dX9_spreads_219 rfl (ginc _ 1) rfl ?_
                    refine g_lv [some _, some _, some _, some _, some _, none, some _, none, some _, some _, some _, none, some _, some _, some _] (gs_some (gs_some (gs_some (gs_some (gs_some (gs_none (gs_some (gs_none (gs_some (gs_some (gs_some (gs_none (gs_some (gs_some (gs_some gs_nil))))))))))))))) ?_
                    refine g_goto C 37 dX9_spreads_222 (by decide) ?_
                    refine g_lv [some _, some _, some _, some _, some _, none, some _, none, some _, some _, some _, none, some _, none, none] (gs_some (gs_some (gs_some (gs_some (gs_some (gs_none (gs_some (gs_none (gs_some (gs_some (gs_some (gs_none (gs_some (gs_none (gs_none gs_nil))))))))))))))) ?_
                    first | rw [uL_M, gL_uG, gL_uL, if_pos rfl] | skip
                    exact ih_37 (c + 1) _ _ (by omega) (by first | exact mx_no hN hng | exact mx_yes hN hgo hok.1 hk (by omega)) (by first | exact hO | exact mx_off hO (gmo_13 hok.1 hk (by omega))) he2 (by omega)
                  · have hp := Int32.not_le.mp c_156
                    refine g_iload C dX9_spreads_159 rfl ?_
                    refine g_if_eq C 219 dX9_spreads_161 (by decide) (fun c_161 => ?_) (fun c_161 => ?_)
                    · have hng : ¬ xGo (bS (vS v) u) (tS (vS v) u) al k x c := fun z => gAcc_n hb1 c_161 z.1.2
                      refine g_iinc (v := nI (c + 1)) C dX9_spreads_219 rfl (ginc _ 1) rfl ?_
                      refine g_lv [some _, some _, some _, some _, some _, none, some _, none, some _, some _, some _, none, some _, some _, some _] (gs_some (gs_some (gs_some (gs_some (gs_some (gs_none (gs_some (gs_none (gs_some (gs_some (gs_some (gs_none (gs_some (gs_some (gs_some gs_nil))))))))))))))) ?_
                      refine g_goto C 37 dX9_spreads_222 (by decide) ?_
                      refine g_lv [some _, some _, some _, some _, some _, none, some _, none, some _, some _, some _, none, some _, none, none] (gs_some (gs_some (gs_some (gs_some (gs_some (gs_none (gs_some (gs_none (gs_some (gs_some (gs_some (gs_none (gs_some (gs_none (gs_none gs_nil))))))))))))))) ?_
                      first | rw [uL_M, gL_uG, gL_uL, if_pos rfl] | skip
                      exact ih_37 (c + 1) _ _ (by omega) (by first | exact mx_no hN hng | exact mx_yes hN hgo hok.1 hk (by omega)) (by first | exact hO | exact mx_off hO (gmo_13 hok.1 hk (by omega))) he2 (by omega)
                    · have hga := gAcc_y hb1 c_161
                      refine g_iload C dX9_spreads_164 rfl ?_
                      refine g_if_lt C 176 dX9_spreads_166 (by decide) (fun c_166 => ?_) (fun c_166 => ?_)
                      · have ho : o < 0 ∨ o = nI c := Or.inl c_166
                        refine g_iload C dX9_spreads_176 rfl ?_
                        refine g_if_lt C 188 dX9_spreads_178 (by decide) (fun c_178 => ?_) (fun c_178 => ?_)
                        · have hgo : xGo (bS (vS v) u) (tS (vS v) u) al k x c := ⟨⟨hp, hga⟩, (hal c (by omega)).mp ⟨ho, Or.inl c_178⟩⟩
                          refine g_aload_n C dX9_spreads_188 rfl ?_
                          refine g_get C dX9_spreads_189 iwX9 rfl (wO_M δ _) 19 (Nat.le_of_ble_eq_true rfl) mW591 rfl rfl ?_
                          refine g_iload_n C dX9_spreads_192 rfl ?_
                          refine g_iconst (v := 1) C dX9_spreads_193 (by decide) ?_
                          refine g_iadd C dX9_spreads_194 ?_
                          rw [show nI k + 1 = nI (k + 1) from nI_1 k]
                          refine g_iload_n C dX9_spreads_195 rfl ?_
                          refine g_iload C dX9_spreads_196 rfl ?_
                          refine g_callSi C sS_X9_197 dX9_spreads_198 (c_X9_more _ δ _ (p := x) (c := c) (by omega)) ⟨by decide, by decide⟩ rfl rfl rfl (Nat.le_of_ble_eq_true rfl) (fun r_198 s_198 h_198 => ?_)
                          obtain ⟨rfl, rfl⟩ := h_198
                          refine g_callSi C sS_X9_186 dX9_spreads_201 (c_X9_at _ δ _ (r := k + 1) (p := x + gmo c) (by omega)) ⟨by decide, by decide⟩ rfl rfl rfl (Nat.le_of_ble_eq_true rfl) (fun r_201 s_201 h_201 => ?_)
                          obtain ⟨rfl, rfl⟩ := h_201
                          refine g_dup2 C dX9_spreads_204 rfl rfl ?_
                          refine g_laldN C dX9_spreads_205 (k := (2197 * ((k + 1) % 2) + (x + gmo c))) (q := 14) (by decide) rfl (by first | rfl | assumption | (simp only [glit, nI_add, pk_mul]; done) | (simp only [glit, nI_add, pk_mul]; congr 1; omega) | (simp only [*, glit, nI_add, pk_mul]; congr 1; omega)) (show (2197 * ((k + 1) % 2) + (x + gmo c)) < gLenL 14 from Nat.lt_of_lt_of_eq (show (2197 * ((k + 1) % 2) + (x + gmo c)) < 4394 by omega) rfl) ?_
                          rw [gL_uG, gL_uL, if_pos rfl]
                          refine g_lload C dX9_spreads_206 rfl ?_
                          refine g_aload_n C dX9_spreads_208 rfl ?_
                          refine g_get C dX9_spreads_209 iwX9 rfl (wO_M δ _) 23 (Nat.le_of_ble_eq_true rfl) mW595 rfl rfl ?_
                          refine g_iload C dX9_spreads_212 rfl ?_
                          refine g_ialdN C dX9_spreads_214 (k := c) (q := 59) (by decide) rfl (by first | rfl | assumption | (simp only [glit, nI_add, pk_mul]; done) | (simp only [glit, nI_add, pk_mul]; congr 1; omega) | (simp only [*, glit, nI_add, pk_mul]; congr 1; omega)) (show c < gLenI 59 from Nat.lt_of_lt_of_eq (show c < 4 by omega) rfl) ?_
                          rw [gI_uG, gI_uL, hb c (by omega), (xB_n hok (show c < 4 by omega)).1]
                          refine g_i2l C dX9_spreads_215 ?_
                          rw [nI_l (by have := (xB_n hok (show c < 4 by omega)).2.1; omega)]
                          refine g_lmul C dX9_spreads_216 ?_
                          rw [lN_mul, show w * (xB (bS (vS v) u) (tS (vS v) u) k x c).toInt.toNat = w * xK true (bS (vS v) u) (tS (vS v) u) k x c by rw [xK_b]]
                          refine g_ladd C dX9_spreads_217 ?_
                          refine g_lastN C dX9_spreads_218 (k := (2197 * ((k + 1) % 2) + (x + gmo c))) (q := 14) (by decide) rfl (by first | rfl | assumption | (simp only [glit, nI_add, pk_mul]; done) | (simp only [glit, nI_add, pk_mul]; congr 1; omega) | (simp only [*, glit, nI_add, pk_mul]; congr 1; omega)) (show (2197 * ((k + 1) % 2) + (x + gmo c)) < gLenL 14 from Nat.lt_of_lt_of_eq (show (2197 * ((k + 1) % 2) + (x + gmo c)) < 4394 by omega) rfl) ?_
                          refine g_iinc (v := nI (c + 1)) C dX9_spreads_219 rfl (ginc _ 1) rfl ?_
                          refine g_lv [some _, some _, some _, some _, some _, none, some _, none, some _, some _, some _, none, some _, some _, some _] (gs_some (gs_some (gs_some (gs_some (gs_some (gs_none (gs_some (gs_none (gs_some (gs_some (gs_some (gs_none (gs_some (gs_some (gs_some gs_nil))))))))))))))) ?_
                          refine g_goto C 37 dX9_spreads_222 (by decide) ?_
                          refine g_lv [some _, some _, some _, some _, some _, none, some _, none, some _, some _, some _, none, some _, none, none] (gs_some (gs_some (gs_some (gs_some (gs_some (gs_none (gs_some (gs_none (gs_some (gs_some (gs_some (gs_none (gs_some (gs_none (gs_none gs_nil))))))))))))))) ?_
                          first | rw [uL_M, gL_uG, gL_uL, if_pos rfl] | skip
                          exact ih_37 (c + 1) _ _ (by omega) (by first | exact mx_no hN hng | exact mx_yes hN hgo hok.1 hk (by omega)) (by first | exact hO | exact mx_off hO (gmo_13 hok.1 hk (by omega))) he2 (by omega)
                        · refine g_iload C dX9_spreads_181 rfl ?_
                          refine g_iload C dX9_spreads_183 rfl ?_
                          refine g_icmp_ne C 219 dX9_spreads_185 (by decide) (fun c_185 => ?_) (fun c_185 => ?_)
                          · have hng : ¬ xGo (bS (vS v) u) (tS (vS v) u) al k x c := fun z => ((hal c (by omega)).mpr z.2).2.elim c_178 c_185
                            refine g_iinc (v := nI (c + 1)) C dX9_spreads_219 rfl (ginc _ 1) rfl ?_
                            refine g_lv [some _, some _, some _, some _, some _, none, some _, none, some _, some _, some _, none, some _, some _, some _] (gs_some (gs_some (gs_some (gs_some (gs_some (gs_none (gs_some (gs_none (gs_some (gs_some (gs_some (gs_none (gs_some (gs_some (gs_some gs_nil))))))))))))))) ?_
                            refine g_goto C 37 dX9_spreads_222 (by decide) ?_
                            refine g_lv [some _, some _, some _, some _, some _, none, some _, none, some _, some _, some _, none, some _, none, none] (gs_some (gs_some (gs_some (gs_some (gs_some (gs_none (gs_some (gs_none (gs_some (gs_some (gs_some (gs_none (gs_some (gs_none (gs_none gs_nil))))))))))))))) ?_
                            first | rw [uL_M, gL_uG, gL_uL, if_pos rfl] | skip
                            exact ih_37 (c + 1) _ _ (by omega) (by first | exact mx_no hN hng | exact mx_yes hN hgo hok.1 hk (by omega)) (by first | exact hO | exact mx_off hO (gmo_13 hok.1 hk (by omega))) he2 (by omega)
                          · have hgo : xGo (bS (vS v) u) (tS (vS v) u) al k x c := ⟨⟨hp, hga⟩, (hal c (by omega)).mp ⟨ho, Or.inr c_185⟩⟩
                            refine g_aload_n C dX9_spreads_188 rfl ?_
                            refine g_get C dX9_spreads_189 iwX9 rfl (wO_M δ _) 19 (Nat.le_of_ble_eq_true rfl) mW591 rfl rfl ?_
                            refine g_iload_n C dX9_spreads_192 rfl ?_
                            refine g_iconst (v := 1) C dX9_spreads_193 (by decide) ?_
                            refine g_iadd C dX9_spreads_194 ?_
                            rw [show nI k + 1 = nI (k + 1) from nI_1 k]
                            refine g_iload_n C dX9_spreads_195 rfl ?_
                            refine g_iload C dX9_spreads_196 rfl ?_
                            refine g_callSi C sS_X9_197 dX9_spreads_198 (c_X9_more _ δ _ (p := x) (c := c) (by omega)) ⟨by decide, by decide⟩ rfl rfl rfl (Nat.le_of_ble_eq_true rfl) (fun r_198 s_198 h_198 => ?_)
                            obtain ⟨rfl, rfl⟩ := h_198
                            refine g_callSi C sS_X9_186 dX9_spreads_201 (c_X9_at _ δ _ (r := k + 1) (p := x + gmo c) (by omega)) ⟨by decide, by decide⟩ rfl rfl rfl (Nat.le_of_ble_eq_true rfl) (fun r_201 s_201 h_201 => ?_)
                            obtain ⟨rfl, rfl⟩ := h_201
                            refine g_dup2 C dX9_spreads_204 rfl rfl ?_
                            refine g_laldN C dX9_spreads_205 (k := (2197 * ((k + 1) % 2) + (x + gmo c))) (q := 14) (by decide) rfl (by first | rfl | assumption | (simp only [glit, nI_add, pk_mul]; done) | (simp only [glit, nI_add, pk_mul]; congr 1; omega) | (simp only [*, glit, nI_add, pk_mul]; congr 1; omega)) (show (2197 * ((k + 1) % 2) + (x + gmo c)) < gLenL 14 from Nat.lt_of_lt_of_eq (show (2197 * ((k + 1) % 2) + (x + gmo c)) < 4394 by omega) rfl) ?_
                            rw [gL_uG, gL_uL, if_pos rfl]
                            refine g_lload C dX9_spreads_206 rfl ?_
                            refine g_aload_n C dX9_spreads_208 rfl ?_
                            refine g_get C dX9_spreads_209 iwX9 rfl (wO_M δ _) 23 (Nat.le_of_ble_eq_true rfl) mW595 rfl rfl ?_
                            refine g_iload C dX9_spreads_212 rfl ?_
                            refine g_ialdN C dX9_spreads_214 (k := c) (q := 59) (by decide) rfl (by first | rfl | assumption | (simp only [glit, nI_add, pk_mul]; done) | (simp only [glit, nI_add, pk_mul]; congr 1; omega) | (simp only [*, glit, nI_add, pk_mul]; congr 1; omega)) (show c < gLenI 59 from Nat.lt_of_lt_of_eq (show c < 4 by omega) rfl) ?_
                            rw [gI_uG, gI_uL, hb c (by omega), (xB_n hok (show c < 4 by omega)).1]
                            refine g_i2l C dX9_spreads_215 ?_
                            rw [nI_l (by have := (xB_n hok (show c < 4 by omega)).2.1; omega)]
                            refine g_lmul C dX9_spreads_216 ?_
                            rw [lN_mul, show w * (xB (bS (vS v) u) (tS (vS v) u) k x c).toInt.toNat = w * xK true (bS (vS v) u) (tS (vS v) u) k x c by rw [xK_b]]
                            refine g_ladd C dX9_spreads_217 ?_
                            refine g_lastN C dX9_spreads_218 (k := (2197 * ((k + 1) % 2) + (x + gmo c))) (q := 14) (by decide) rfl (by first | rfl | assumption | (simp only [glit, nI_add, pk_mul]; done) | (simp only [glit, nI_add, pk_mul]; congr 1; omega) | (simp only [*, glit, nI_add, pk_mul]; congr 1; omega)) (show (2197 * ((k + 1) % 2) + (x + gmo c)) < gLenL 14 from Nat.lt_of_lt_of_eq (show (2197 * ((k + 1) % 2) + (x + gmo c)) < 4394 by omega) rfl) ?_
                            refine g_iinc (v := nI (c + 1)) C dX9_spreads_219 rfl (ginc _ 1) rfl ?_
                            refine g_lv [some _, some _, some _, some _, some _, none, some _, none, some _, some _, some _, none, some _, some _, some _] (gs_some (gs_some (gs_some (gs_some (gs_some (gs_none (gs_some (gs_none (gs_some (gs_some (gs_some (gs_none (gs_some (gs_some (gs_some gs_nil))))))))))))))) ?_
                            refine g_goto C 37 dX9_spreads_222 (by decide) ?_
                            refine g_lv [some _, some _, some _, some _, some _, none, some _, none, some _, some _, some _, none, some _, none, none] (gs_some (gs_some (gs_some (gs_some (gs_some (gs_none (gs_some (gs_none (gs_some (gs_some (gs_some (gs_none (gs_some (gs_none (gs_none gs_nil))))))))))))))) ?_
                            first | rw [uL_M, gL_uG, gL_uL, if_pos rfl] | skip
                            exact ih_37 (c + 1) _ _ (by omega) (by first | exact mx_no hN hng | exact mx_yes hN hgo hok.1 hk (by omega)) (by first | exact hO | exact mx_off hO (gmo_13 hok.1 hk (by omega))) he2 (by omega)
                      · refine g_iload C dX9_spreads_169 rfl ?_
                        refine g_iload C dX9_spreads_171 rfl ?_
                        refine g_icmp_ne C 219 dX9_spreads_173 (by decide) (fun c_173 => ?_) (fun c_173 => ?_)
                        · have hng : ¬ xGo (bS (vS v) u) (tS (vS v) u) al k x c := fun z => ((hal c (by omega)).mpr z.2).1.elim c_166 c_173
                          refine g_iinc (v := nI (c + 1)) C dX9_spreads_219 rfl (ginc _ 1) rfl ?_
                          refine g_lv [some _, some _, some _, some _, some _, none, some _, none, some _, some _, some _, none, some _, some _, some _] (gs_some (gs_some (gs_some (gs_some (gs_some (gs_none (gs_some (gs_none (gs_some (gs_some (gs_some (gs_none (gs_some (gs_some (gs_some gs_nil))))))))))))))) ?_
                          refine g_goto C 37 dX9_spreads_222 (by decide) ?_
                          refine g_lv [some _, some _, some _, some _, some _, none, some _, none, some _, some _, some _, none, some _, none, none] (gs_some (gs_some (gs_some (gs_some (gs_some (gs_none (gs_some (gs_none (gs_some (gs_some (gs_some (gs_none (gs_some (gs_none (gs_none gs_nil))))))))))))))) ?_
                          first | rw [uL_M, gL_uG, gL_uL, if_pos rfl] | skip
                          exact ih_37 (c + 1) _ _ (by omega) (by first | exact mx_no hN hng | exact mx_yes hN hgo hok.1 hk (by omega)) (by first | exact hO | exact mx_off hO (gmo_13 hok.1 hk (by omega))) he2 (by omega)
                        · have ho : o < 0 ∨ o = nI c := Or.inr c_173
                          refine g_iload C dX9_spreads_176 rfl ?_
                          refine g_if_lt C 188 dX9_spreads_178 (by decide) (fun c_178 => ?_) (fun c_178 => ?_)
                          · have hgo : xGo (bS (vS v) u) (tS (vS v) u) al k x c := ⟨⟨hp, hga⟩, (hal c (by omega)).mp ⟨ho, Or.inl c_178⟩⟩
                            refine g_aload_n C dX9_spreads_188 rfl ?_
                            refine g_get C dX9_spreads_189 iwX9 rfl (wO_M δ _) 19 (Nat.le_of_ble_eq_true rfl) mW591 rfl rfl ?_
                            refine g_iload_n C dX9_spreads_192 rfl ?_
                            refine g_iconst (v := 1) C dX9_spreads_193 (by decide) ?_
                            refine g_iadd C dX9_spreads_194 ?_
                            rw [show nI k + 1 = nI (k + 1) from nI_1 k]
                            refine g_iload_n C dX9_spreads_195 rfl ?_
                            refine g_iload C dX9_spreads_196 rfl ?_
                            refine g_callSi C sS_X9_197 dX9_spreads_198 (c_X9_more _ δ _ (p := x) (c := c) (by omega)) ⟨by decide, by decide⟩ rfl rfl rfl (Nat.le_of_ble_eq_true rfl) (fun r_198 s_198 h_198 => ?_)
                            obtain ⟨rfl, rfl⟩ := h_198
                            refine g_callSi C sS_X9_186 dX9_spreads_201 (c_X9_at _ δ _ (r := k + 1) (p := x + gmo c) (by omega)) ⟨by decide, by decide⟩ rfl rfl rfl (Nat.le_of_ble_eq_true rfl) (fun r_201 s_201 h_201 => ?_)
                            obtain ⟨rfl, rfl⟩ := h_201
                            refine g_dup2 C dX9_spreads_204 rfl rfl ?_
                            refine g_laldN C dX9_spreads_205 (k := (2197 * ((k + 1) % 2) + (x + gmo c))) (q := 14) (by decide) rfl (by first | rfl | assumption | (simp only [glit, nI_add, pk_mul]; done) | (simp only [glit, nI_add, pk_mul]; congr 1; omega) | (simp only [*, glit, nI_add, pk_mul]; congr 1; omega)) (show (2197 * ((k + 1) % 2) + (x + gmo c)) < gLenL 14 from Nat.lt_of_lt_of_eq (show (2197 * ((k + 1) % 2) + (x + gmo c)) < 4394 by omega) rfl) ?_
                            rw [gL_uG, gL_uL, if_pos rfl]
                            refine g_lload C dX9_spreads_206 rfl ?_
                            refine g_aload_n C dX9_spreads_208 rfl ?_
                            refine g_get C dX9_spreads_209 iwX9 rfl (wO_M δ _) 23 (Nat.le_of_ble_eq_true rfl) mW595 rfl rfl ?_
                            refine g_iload C dX9_spreads_212 rfl ?_
                            refine g_ialdN C dX9_spreads_214 (k := c) (q := 59) (by decide) rfl (by first | rfl | assumption | (simp only [glit, nI_add, pk_mul]; done) | (simp only [glit, nI_add, pk_mul]; congr 1; omega) | (simp only [*, glit, nI_add, pk_mul]; congr 1; omega)) (show c < gLenI 59 from Nat.lt_of_lt_of_eq (show c < 4 by omega) rfl) ?_
                            rw [gI_uG, gI_uL, hb c (by omega), (xB_n hok (show c < 4 by omega)).1]
                            refine g_i2l C dX9_spreads_215 ?_
                            rw [nI_l (by have := (xB_n hok (show c < 4 by omega)).2.1; omega)]
                            refine g_lmul C dX9_spreads_216 ?_
                            rw [lN_mul, show w * (xB (bS (vS v) u) (tS (vS v) u) k x c).toInt.toNat = w * xK true (bS (vS v) u) (tS (vS v) u) k x c by rw [xK_b]]
                            refine g_ladd C dX9_spreads_217 ?_
                            refine g_lastN C dX9_spreads_218 (k := (2197 * ((k + 1) % 2) + (x + gmo c))) (q := 14) (by decide) rfl (by first | rfl | assumption | (simp only [glit, nI_add, pk_mul]; done) | (simp only [glit, nI_add, pk_mul]; congr 1; omega) | (simp only [*, glit, nI_add, pk_mul]; congr 1; omega)) (show (2197 * ((k + 1) % 2) + (x + gmo c)) < gLenL 14 from Nat.lt_of_lt_of_eq (show (2197 * ((k + 1) % 2) + (x + gmo c)) < 4394 by omega) rfl) ?_
                            refine g_iinc (v := nI (c + 1)) C dX9_spreads_219 rfl (ginc _ 1) rfl ?_
                            refine g_lv [some _, some _, some _, some _, some _, none, some _, none, some _, some _, some _, none, some _, some _, some _] (gs_some (gs_some (gs_some (gs_some (gs_some (gs_none (gs_some (gs_none (gs_some (gs_some (gs_some (gs_none (gs_some (gs_some (gs_some gs_nil))))))))))))))) ?_
                            refine g_goto C 37 dX9_spreads_222 (by decide) ?_
                            refine g_lv [some _, some _, some _, some _, some _, none, some _, none, some _, some _, some _, none, some _, none, none] (gs_some (gs_some (gs_some (gs_some (gs_some (gs_none (gs_some (gs_none (gs_some (gs_some (gs_some (gs_none (gs_some (gs_none (gs_none gs_nil))))))))))))))) ?_
                            first | rw [uL_M, gL_uG, gL_uL, if_pos rfl] | skip
                            exact ih_37 (c + 1) _ _ (by omega) (by first | exact mx_no hN hng | exact mx_yes hN hgo hok.1 hk (by omega)) (by first | exact hO | exact mx_off hO (gmo_13 hok.1 hk (by omega))) he2 (by omega)
                          · refine g_iload C dX9_spreads_181 rfl ?_
                            refine g_iload C dX9_spreads_183 rfl ?_
                            refine g_icmp_ne C 219 dX9_spreads_185 (by decide) (fun c_185 => ?_) (fun c_185 => ?_)
                            · have hng : ¬ xGo (bS (vS v) u) (tS (vS v) u) al k x c := fun z => ((hal c (by omega)).mpr z.2).2.elim c_178 c_185
                              refine g_iinc (v := nI (c + 1)) C dX9_spreads_219 rfl (ginc _ 1) rfl ?_
                              refine g_lv [some _, some _, some _, some _, some _, none, some _, none, some _, some _, some _, none, some _, some _, some _] (gs_some (gs_some (gs_some (gs_some (gs_some (gs_none (gs_some (gs_none (gs_some (gs_some (gs_some (gs_none (gs_some (gs_some (gs_some gs_nil))))))))))))))) ?_
                              refine g_goto C 37 dX9_spreads_222 (by decide) ?_
                              refine g_lv [some _, some _, some _, some _, some _, none, some _, none, some _, some _, some _, none, some _, none, none] (gs_some (gs_some (gs_some (gs_some (gs_some (gs_none (gs_some (gs_none (gs_some (gs_some (gs_some (gs_none (gs_some (gs_none (gs_none gs_nil))))))))))))))) ?_
                              first | rw [uL_M, gL_uG, gL_uL, if_pos rfl] | skip
                              exact ih_37 (c + 1) _ _ (by omega) (by first | exact mx_no hN hng | exact mx_yes hN hgo hok.1 hk (by omega)) (by first | exact hO | exact mx_off hO (gmo_13 hok.1 hk (by omega))) he2 (by omega)
                            · have hgo : xGo (bS (vS v) u) (tS (vS v) u) al k x c := ⟨⟨hp, hga⟩, (hal c (by omega)).mp ⟨ho, Or.inr c_185⟩⟩
                              refine g_aload_n C dX9_spreads_188 rfl ?_
                              refine g_get C dX9_spreads_189 iwX9 rfl (wO_M δ _) 19 (Nat.le_of_ble_eq_true rfl) mW591 rfl rfl ?_
                              refine g_iload_n C dX9_spreads_192 rfl ?_
                              refine g_iconst (v := 1) C dX9_spreads_193 (by decide) ?_
                              refine g_iadd C dX9_spreads_194 ?_
                              rw [show nI k + 1 = nI (k + 1) from nI_1 k]
                              refine g_iload_n C dX9_spreads_195 rfl ?_
                              refine g_iload C dX9_spreads_196 rfl ?_
                              refine g_callSi C sS_X9_197 dX9_spreads_198 (c_X9_more _ δ _ (p := x) (c := c) (by omega)) ⟨by decide, by decide⟩ rfl rfl rfl (Nat.le_of_ble_eq_true rfl) (fun r_198 s_198 h_198 => ?_)
                              obtain ⟨rfl, rfl⟩ := h_198
                              refine g_callSi C sS_X9_186 dX9_spreads_201 (c_X9_at _ δ _ (r := k + 1) (p := x + gmo c) (by omega)) ⟨by decide, by decide⟩ rfl rfl rfl (Nat.le_of_ble_eq_true rfl) (fun r_201 s_201 h_201 => ?_)
                              obtain ⟨rfl, rfl⟩ := h_201
                              refine g_dup2 C dX9_spreads_204 rfl rfl ?_
                              refine g_laldN C dX9_spreads_205 (k := (2197 * ((k + 1) % 2) + (x + gmo c))) (q := 14) (by decide) rfl (by first | rfl | assumption | (simp only [glit, nI_add, pk_mul]; done) | (simp only [glit, nI_add, pk_mul]; congr 1; omega) | (simp only [*, glit, nI_add, pk_mul]; congr 1; omega)) (show (2197 * ((k + 1) % 2) + (x + gmo c)) < gLenL 14 from Nat.lt_of_lt_of_eq (show (2197 * ((k + 1) % 2) + (x + gmo c)) < 4394 by omega) rfl) ?_
                              rw [gL_uG, gL_uL, if_pos rfl]
                              refine g_lload C dX9_spreads_206 rfl ?_
                              refine g_aload_n C dX9_spreads_208 rfl ?_
                              refine g_get C dX9_spreads_209 iwX9 rfl (wO_M δ _) 23 (Nat.le_of_ble_eq_true rfl) mW595 rfl rfl ?_
                              refine g_iload C dX9_spreads_212 rfl ?_
                              refine g_ialdN C dX9_spreads_214 (k := c) (q := 59) (by decide) rfl (by first | rfl | assumption | (simp only [glit, nI_add, pk_mul]; done) | (simp only [glit, nI_add, pk_mul]; congr 1; omega) | (simp only [*, glit, nI_add, pk_mul]; congr 1; omega)) (show c < gLenI 59 from Nat.lt_of_lt_of_eq (show c < 4 by omega) rfl) ?_
                              rw [gI_uG, gI_uL, hb c (by omega), (xB_n hok (show c < 4 by omega)).1]
                              refine g_i2l C dX9_spreads_215 ?_
                              rw [nI_l (by have := (xB_n hok (show c < 4 by omega)).2.1; omega)]
                              refine g_lmul C dX9_spreads_216 ?_
                              rw [lN_mul, show w * (xB (bS (vS v) u) (tS (vS v) u) k x c).toInt.toNat = w * xK true (bS (vS v) u) (tS (vS v) u) k x c by rw [xK_b]]
                              refine g_ladd C dX9_spreads_217 ?_
                              refine g_lastN C dX9_spreads_218 (k := (2197 * ((k + 1) % 2) + (x + gmo c))) (q := 14) (by decide) rfl (by first | rfl | assumption | (simp only [glit, nI_add, pk_mul]; done) | (simp only [glit, nI_add, pk_mul]; congr 1; omega) | (simp only [*, glit, nI_add, pk_mul]; congr 1; omega)) (show (2197 * ((k + 1) % 2) + (x + gmo c)) < gLenL 14 from Nat.lt_of_lt_of_eq (show (2197 * ((k + 1) % 2) + (x + gmo c)) < 4394 by omega) rfl) ?_
                              refine g_iinc (v := nI (c + 1)) C dX9_spreads_219 rfl (ginc _ 1) rfl ?_
                              refine g_lv [some _, some _, some _, some _, some _, none, some _, none, some _, some _, some _, none, some _, some _, some _] (gs_some (gs_some (gs_some (gs_some (gs_some (gs_none (gs_some (gs_none (gs_some (gs_some (gs_some (gs_none (gs_some (gs_some (gs_some gs_nil))))))))))))))) ?_
                              refine g_goto C 37 dX9_spreads_222 (by decide) ?_
                              refine g_lv [some _, some _, some _, some _, some _, none, some _, none, some _, some _, some _, none, some _, none, none] (gs_some (gs_some (gs_some (gs_some (gs_some (gs_none (gs_some (gs_none (gs_some (gs_some (gs_some (gs_none (gs_some (gs_none (gs_none gs_nil))))))))))))))) ?_
                              first | rw [uL_M, gL_uG, gL_uL, if_pos rfl] | skip
                              exact ih_37 (c + 1) _ _ (by omega) (by first | exact mx_no hN hng | exact mx_yes hN hgo hok.1 hk (by omega)) (by first | exact hO | exact mx_off hO (gmo_13 hok.1 hk (by omega))) he2 (by omega)
                refine g_aload_n C dX9_spreads_111 rfl ?_
                refine g_get C dX9_spreads_112 iwX9 rfl (wO_M δ _) 23 (Nat.le_of_ble_eq_true rfl) mW595 rfl rfl ?_
                refine g_iload C dX9_spreads_115 rfl ?_
                refine g_ialdN C dX9_spreads_117 (k := c) (q := 59) (by decide) rfl (by first | rfl | assumption | (simp only [glit, nI_add, pk_mul]; done) | (simp only [glit, nI_add, pk_mul]; congr 1; omega) | (simp only [*, glit, nI_add, pk_mul]; congr 1; omega)) (show c < gLenI 59 from Nat.lt_of_lt_of_eq (show c < 4 by omega) rfl) ?_
                rw [gI_uG, gI_uL, hb c (by omega)]
                refine g_if_le C 149 dX9_spreads_118 (by decide) (fun c_118 => ?_) (fun c_118 => ?_)
                · refine g_lv [some _, some _, some _, some _, some _, none, some _, none, some _, some _, some _, none, some _, some _, some _] (gs_some (gs_some (gs_some (gs_some (gs_some (gs_none (gs_some (gs_none (gs_some (gs_some (gs_some (gs_none (gs_some (gs_some (gs_some gs_nil))))))))))))))) ?_
                  first | rw [uG_uG] | skip
                  exact J_149 _ (by first | exact me_no he (fun z => absurd z.1.1 (Int32.not_lt.mpr c_118)) | exact me_no he hns | exact me_yes he hys)
                · refine g_iload C dX9_spreads_121 rfl ?_
                  refine g_if_ne C 149 dX9_spreads_123 (by decide) (fun c_123 => ?_) (fun c_123 => ?_)
                  · have hns : ¬ sSt (bS (vS v) u) (tS (vS v) u) alA k x c := fun z => z.1.2 ⟨z.1.1, gAcc_y hb1 c_123⟩
                    refine g_lv [some _, some _, some _, some _, some _, none, some _, none, some _, some _, some _, none, some _, some _, some _] (gs_some (gs_some (gs_some (gs_some (gs_some (gs_none (gs_some (gs_none (gs_some (gs_some (gs_some (gs_none (gs_some (gs_some (gs_some gs_nil))))))))))))))) ?_
                    first | rw [uG_uG] | skip
                    exact J_149 _ (by first | exact me_no he (fun z => absurd z.1.1 (Int32.not_lt.mpr c_118)) | exact me_no he hns | exact me_yes he hys)
                  · have hys : sSt (bS (vS v) u) (tS (vS v) u) alA k x c := ⟨⟨Int32.not_le.mp c_118, fun z => gAcc_n hb1 c_123 z.2⟩, trivial⟩
                    refine g_aload_n C dX9_spreads_126 rfl ?_
                    refine g_dup C dX9_spreads_127 rfl ?_
                    refine g_get C dX9_spreads_128 iwX9 rfl (wO_M δ _) 21 (Nat.le_of_ble_eq_true rfl) mW593 rfl rfl ?_
                    rw [gG_uGs]
                    refine g_lload C dX9_spreads_131 rfl ?_
                    refine g_aload_n C dX9_spreads_133 rfl ?_
                    refine g_get C dX9_spreads_134 iwX9 rfl (wO_M δ _) 23 (Nat.le_of_ble_eq_true rfl) mW595 rfl rfl ?_
                    refine g_iload C dX9_spreads_137 rfl ?_
                    refine g_ialdN C dX9_spreads_139 (k := c) (q := 59) (by decide) rfl (by first | rfl | assumption | (simp only [glit, nI_add, pk_mul]; done) | (simp only [glit, nI_add, pk_mul]; congr 1; omega) | (simp only [*, glit, nI_add, pk_mul]; congr 1; omega)) (show c < gLenI 59 from Nat.lt_of_lt_of_eq (show c < 4 by omega) rfl) ?_
                    rw [gI_uG, gI_uL, hb c (by omega), (xB_n hok (show c < 4 by omega)).1]
                    refine g_i2l C dX9_spreads_140 ?_
                    rw [nI_l (by have := (xB_n hok (show c < 4 by omega)).2.1; omega)]
                    refine g_lmul C dX9_spreads_141 ?_
                    rw [lN_mul, show w * (xB (bS (vS v) u) (tS (vS v) u) k x c).toInt.toNat = w * xK true (bS (vS v) u) (tS (vS v) u) k x c by rw [xK_b]]
                    refine g_lload C dX9_spreads_142 rfl ?_
                    refine g_lmul C dX9_spreads_144 ?_
                    refine g_ladd C dX9_spreads_145 ?_
                    refine g_put C tyX9 dX9_spreads_146 iwX9 tyX9_ok nmX9 rfl (wO_M δ _) 21 (Nat.le_of_ble_eq_true rfl) mW593 rfl rfl rfl rfl rfl (Nat.le_of_ble_eq_true rfl) (pG_16 δ _ _) ?_
                    refine g_lv [some _, some _, some _, some _, some _, none, some _, none, some _, some _, some _, none, some _, some _, some _] (gs_some (gs_some (gs_some (gs_some (gs_some (gs_none (gs_some (gs_none (gs_some (gs_some (gs_some (gs_none (gs_some (gs_some (gs_some gs_nil))))))))))))))) ?_
                    first | rw [uG_uG] | skip
                    exact J_149 _ (by first | exact me_no he (fun z => absurd z.1.1 (Int32.not_lt.mpr c_118)) | exact me_no he hns | exact me_yes he hys)
              · have k_52 := gnle c_52 (a := 4) (b := d) (by first | rfl | assumption | (simp only [glit, nI_add, pk_mul]; done) | (simp only [glit, nI_add, pk_mul]; congr 1; omega) | (simp only [*, glit, nI_add, pk_mul]; congr 1; omega)) (by first | rfl | assumption | (simp only [glit, nI_add, pk_mul]; done) | (simp only [glit, nI_add, pk_mul]; congr 1; omega) | (simp only [*, glit, nI_add, pk_mul]; congr 1; omega)) (by omega) (by omega)
                refine g_iload C dX9_spreads_55 rfl ?_
                refine g_if_eq C 102 dX9_spreads_57 (by decide) (fun c_57 => ?_) (fun c_57 => ?_)
                · refine g_iconst (v := 0) C dX9_spreads_102 (by decide) ?_
                  refine g_istore C dX9_spreads_103 (Nat.le_of_ble_eq_true rfl) rfl ?_
                  refine g_lv [some _, some _, some _, some _, some _, none, some _, none, some _, some _, some _, none, some _, some _, some _] (gs_some (gs_some (gs_some (gs_some (gs_some (gs_none (gs_some (gs_none (gs_some (gs_some (gs_some (gs_none (gs_some (gs_some (gs_some gs_nil))))))))))))))) ?_
                  refine g_iinc (v := nI (d + 1)) C dX9_spreads_105 rfl (ginc _ 1) rfl ?_
                  refine g_lv [some _, some _, some _, some _, some _, none, some _, none, some _, some _, some _, none, some _, some _, some _] (gs_some (gs_some (gs_some (gs_some (gs_some (gs_none (gs_some (gs_none (gs_some (gs_some (gs_some (gs_none (gs_some (gs_some (gs_some gs_nil))))))))))))))) ?_
                  refine g_goto C 49 dX9_spreads_108 (by decide) ?_
                  refine g_lv [some _, some _, some _, some _, some _, none, some _, none, some _, some _, some _, none, some _, some _, some _] (gs_some (gs_some (gs_some (gs_some (gs_some (gs_none (gs_some (gs_none (gs_some (gs_some (gs_some (gs_none (gs_some (gs_some (gs_some gs_nil))))))))))))))) ?_
                  exact ih_49 (d + 1) _ (by omega) (by first | exact gAcc_0 hb1 c_57 (fun z => (gAl_s.mp z).1) | exact gAcc_f (fun z => h_92 (gAl_s.mp z).2) | exact gAcc_1 hb1 c_57 (fun z => gAl_s.mpr ⟨z, h_92⟩)) (by omega)
                · refine g_aload_n C dX9_spreads_60 rfl ?_
                  refine g_get C dX9_spreads_61 iwX9 rfl (wO_M δ _) 23 (Nat.le_of_ble_eq_true rfl) mW595 rfl rfl ?_
                  refine g_iload C dX9_spreads_64 rfl ?_
                  refine g_ialdN C dX9_spreads_66 (k := d) (q := 59) (by decide) rfl (by first | rfl | assumption | (simp only [glit, nI_add, pk_mul]; done) | (simp only [glit, nI_add, pk_mul]; congr 1; omega) | (simp only [*, glit, nI_add, pk_mul]; congr 1; omega)) (show d < gLenI 59 from Nat.lt_of_lt_of_eq (show d < 4 by omega) rfl) ?_
                  rw [gI_uG, gI_uL, hb d (by omega)]
                  refine g_aload_n C dX9_spreads_67 rfl ?_
                  refine g_get C dX9_spreads_68 iwX9 rfl (wO_M δ _) 6 (Nat.le_of_ble_eq_true rfl) mW578 rfl rfl ?_
                  refine g_bipush (v := 25) C dX9_spreads_71 (by decide) ?_
                  refine g_iload_n C dX9_spreads_73 rfl ?_
                  refine g_imul C dX9_spreads_74 ?_
                  refine g_iconst (v := 4) C dX9_spreads_75 (by decide) ?_
                  refine g_iadd C dX9_spreads_76 ?_
                  refine g_iconst (v := 4) C dX9_spreads_77 (by decide) ?_
                  refine g_iload C dX9_spreads_78 rfl ?_
                  refine g_imul C dX9_spreads_80 ?_
                  refine g_iadd C dX9_spreads_81 ?_
                  refine g_iload C dX9_spreads_82 rfl ?_
                  refine g_iadd C dX9_spreads_84 ?_
                  refine g_ialdN C dX9_spreads_85 (k := (25 * u + 4 + (c * 4 + d))) (q := 53) (by decide) rfl (by first | rfl | assumption | (simp only [glit, nI_add, pk_mul]; done) | (simp only [glit, nI_add, pk_mul]; congr 1; omega) | (simp only [*, glit, nI_add, pk_mul]; congr 1; omega)) (show (25 * u + 4 + (c * 4 + d)) < gLenI 53 from Nat.lt_of_lt_of_eq (show (25 * u + 4 + (c * 4 + d)) < 202 by omega) rfl) ?_
                  rw [gI_uG, gI_uL, show gI σ 53 (25 * u + 4 + (c * 4 + d)) = tS (vS v) u (c * 4 + d) from K.2.2.1 _ (by omega)]
                  refine g_iadd C dX9_spreads_86 ?_
                  refine g_i2l C dX9_spreads_87 ?_
                  refine g_lconst (v := 0) C dX9_spreads_88 (by decide) ?_
                  refine g_ldc2 C dX9_spreads_89 mW696 ?_
                  refine g_callSi C sS_X9_62 dX9_spreads_92 (c_X9_in _ δ _ _ _ _) ⟨by decide, by decide⟩ rfl rfl rfl (Nat.le_of_ble_eq_true rfl) (fun r_92 s_92 h_92 => ?_)
                  obtain ⟨rfl, h_92⟩ := h_92
                  rw [gin200] at h_92
                  rcases h_92 with ⟨rfl, h_92⟩ | ⟨rfl, h_92⟩
                  · skip
                    refine g_if_eq C 102 dX9_spreads_95 (by decide) (fun c_95 => ?_) (fun c_95 => ?_)
                    · exact absurd c_95 (by decide)
                    · refine g_iconst (v := 1) C dX9_spreads_98 (by decide) ?_
                      refine g_goto C 103 dX9_spreads_99 (by decide) ?_
                      refine g_istore C dX9_spreads_103 (Nat.le_of_ble_eq_true rfl) rfl ?_
                      refine g_lv [some _, some _, some _, some _, some _, none, some _, none, some _, some _, some _, none, some _, some _, some _] (gs_some (gs_some (gs_some (gs_some (gs_some (gs_none (gs_some (gs_none (gs_some (gs_some (gs_some (gs_none (gs_some (gs_some (gs_some gs_nil))))))))))))))) ?_
                      refine g_iinc (v := nI (d + 1)) C dX9_spreads_105 rfl (ginc _ 1) rfl ?_
                      refine g_lv [some _, some _, some _, some _, some _, none, some _, none, some _, some _, some _, none, some _, some _, some _] (gs_some (gs_some (gs_some (gs_some (gs_some (gs_none (gs_some (gs_none (gs_some (gs_some (gs_some (gs_none (gs_some (gs_some (gs_some gs_nil))))))))))))))) ?_
                      refine g_goto C 49 dX9_spreads_108 (by decide) ?_
                      refine g_lv [some _, some _, some _, some _, some _, none, some _, none, some _, some _, some _, none, some _, some _, some _] (gs_some (gs_some (gs_some (gs_some (gs_some (gs_none (gs_some (gs_none (gs_some (gs_some (gs_some (gs_none (gs_some (gs_some (gs_some gs_nil))))))))))))))) ?_
                      exact ih_49 (d + 1) _ (by omega) (by first | exact gAcc_0 hb1 c_57 (fun z => (gAl_s.mp z).1) | exact gAcc_f (fun z => h_92 (gAl_s.mp z).2) | exact gAcc_1 hb1 c_57 (fun z => gAl_s.mpr ⟨z, h_92⟩)) (by omega)
                  · skip
                    refine g_if_eq C 102 dX9_spreads_95 (by decide) (fun c_95 => ?_) (fun c_95 => ?_)
                    · refine g_iconst (v := 0) C dX9_spreads_102 (by decide) ?_
                      refine g_istore C dX9_spreads_103 (Nat.le_of_ble_eq_true rfl) rfl ?_
                      refine g_lv [some _, some _, some _, some _, some _, none, some _, none, some _, some _, some _, none, some _, some _, some _] (gs_some (gs_some (gs_some (gs_some (gs_some (gs_none (gs_some (gs_none (gs_some (gs_some (gs_some (gs_none (gs_some (gs_some (gs_some gs_nil))))))))))))))) ?_
                      refine g_iinc (v := nI (d + 1)) C dX9_spreads_105 rfl (ginc _ 1) rfl ?_
                      refine g_lv [some _, some _, some _, some _, some _, none, some _, none, some _, some _, some _, none, some _, some _, some _] (gs_some (gs_some (gs_some (gs_some (gs_some (gs_none (gs_some (gs_none (gs_some (gs_some (gs_some (gs_none (gs_some (gs_some (gs_some gs_nil))))))))))))))) ?_
                      refine g_goto C 49 dX9_spreads_108 (by decide) ?_
                      refine g_lv [some _, some _, some _, some _, some _, none, some _, none, some _, some _, some _, none, some _, some _, some _] (gs_some (gs_some (gs_some (gs_some (gs_some (gs_none (gs_some (gs_none (gs_some (gs_some (gs_some (gs_none (gs_some (gs_some (gs_some gs_nil))))))))))))))) ?_
                      exact ih_49 (d + 1) _ (by omega) (by first | exact gAcc_0 hb1 c_57 (fun z => (gAl_s.mp z).1) | exact gAcc_f (fun z => h_92 (gAl_s.mp z).2) | exact gAcc_1 hb1 c_57 (fun z => gAl_s.mpr ⟨z, h_92⟩)) (by omega)
                    · exact absurd c_95 (by decide)
          refine g_lv [some _, some _, some _, some _, some _, none, some _, none, some _, some _, some _, none, some _, some _, some _] (gs_some (gs_some (gs_some (gs_some (gs_some (gs_none (gs_some (gs_none (gs_some (gs_some (gs_some (gs_none (gs_some (gs_some (gs_some gs_nil))))))))))))))) ?_
          exact L_49 _ 0 1 (by omega) (gAcc_t (gAl_0 _ _ _)) (Nat.lt_succ_self _)
    refine g_lv [some _, some _, some _, some _, some _, none, some _, none, some _, some _, some _, none, some _, none, none] (gs_some (gs_some (gs_some (gs_some (gs_some (gs_none (gs_some (gs_none (gs_some (gs_some (gs_some (gs_none (gs_some (gs_none (gs_none gs_nil))))))))))))))) ?_
    refine g_st (σ' := uG (uL σ 14 (gL σ 14)) 16 (gG σ 16)) (by rw [uL_id, uG_id]) ?_
    exact L_37 _ 0 _ _ (by omega) (fun y _ => (l_az _).symm) (fun _ _ => rfl) (by show gG σ 16 = gG σ 16 + lN 0 * r; rw [lN_0, Int64.zero_mul, Int64.add_zero]) (Nat.lt_succ_self _)
  · rw [lg_cmp_gt] at c_16
    refine g_aload_n C dX9_spreads_19 rfl ?_
    refine g_dup C dX9_spreads_20 rfl ?_
    refine g_get C dX9_spreads_21 iwX9 rfl (wO_M δ _) 21 (Nat.le_of_ble_eq_true rfl) mW593 rfl rfl ?_
    refine g_lload C dX9_spreads_24 rfl ?_
    refine g_lload C dX9_spreads_26 rfl ?_
    refine g_lmul C dX9_spreads_28 ?_
    refine g_ladd C dX9_spreads_29 ?_
    refine g_put C tyX9 dX9_spreads_30 iwX9 tyX9_ok nmX9 rfl (wO_M δ _) 21 (Nat.le_of_ble_eq_true rfl) mW593 rfl rfl rfl rfl rfl (Nat.le_of_ble_eq_true rfl) (pG_16 δ _ _) ?_
    exact g_vret C E dX9_spreads_33 rfl ⟨rfl, ⟨gL σ 14, _, by rw [uL_id], fun y _ => by rw [← qX_W (w := w) hW, qX_z hok (ht.mp (Int64.not_lt.mp c_16)), l_az], fun _ _ => rfl, by rw [eX_z (ht.mp (Int64.not_lt.mp c_16)), hW]⟩⟩
set_option maxRecDepth 100000 in
set_option maxHeartbeats 4000000 in
theorem c_X9_goesb (l : Launch) (δ : GD) (σ : GS) {u : Nat} (hu : u < 8) {k : Nat} (hk : k ≤ 12) (i c j d : Int32) {al : Nat → Nat → Prop} (hc0 : ¬ c < 0) (hd0 : ¬ d < 0) (hal : ∀ r, r < k → ∀ e, e < 4 → (((nI r + 1 = i → c = nI e) ∧ (nI r + 1 = j → d = nI e)) ↔ al r e)) {v : GV} (K : KM σ v) (R : RV v) (hev : gEv4 (tS (vS v) u) (vC v u)) (hD : dD (vT v u) (vG v u) k ≤ 10000000000000000) (h15 : gG σ 15 = lN (dD (vT v u) (vG v u) k)) : gM l δ yX9_goes cX9_goes 13 none 2 59 [.ref (δ.2.2.1 1), .int (nI u), .int (nI k), .int i, .int c, .int j, .int d] σ (gPv (fun σ' => gSq σ σ' ∧ (∀ y, y < 2197 → gL σ' 14 (2197 * (k % 2) + y) = lN (wW true (bS (vS v) u) (tS (vS v) u) al k y)) ∧ (al = alA → gG σ' 16 = lN (wE (bS (vS v) u) (tS (vS v) u) alA (vT v u) (vG v u) k)))) := by
  refine g_of (lv0 := [some (.ref (δ.2.2.1 1)), some (.int (nI u)), some (.int (nI k)), some (.int i), some (.int c), some (.int j), some (.int d), none, none, none, none, none, none]) (by decide) rfl (Nat.le_of_ble_eq_true rfl) (fun Γ hl C E => ?_)
  subst hl
  have C : gC Γ δ cX9_goes RX9 13 2 59 := C
  have hT := vT_b R hu
  have hG := vG_b R hu
  refine g_iconst (v := 0) C dX9_goes_0 (by decide) ?_
  refine g_istore C dX9_goes_1 (Nat.le_of_ble_eq_true rfl) rfl ?_
  refine g_lv [some _, some _, some _, some _, some _, some _, some _, some _, none, none, none, none, none] (gs_some (gs_some (gs_some (gs_some (gs_some (gs_some (gs_some (gs_some (gs_none (gs_none (gs_none (gs_none (gs_none gs_nil))))))))))))) ?_
  have L_3 : ∀ (nn : Nat) (q : Nat) (f : Nat → Int64) (hq : q ≤ 4394) (hf : ∀ z, z < q → f z = 0), 4394 - q < nn → gW Γ δ (uL σ 14 f) 3 [some (.ref (δ.2.2.1 1)), some (.int (nI u)), some (.int (nI k)), some (.int i), some (.int c), some (.int j), some (.int d), some (.int (nI q)), none, none, none, none, none] [] := by
    intro nn
    induction nn with
    | zero =>
      intro q f hq hf hm_3
      exact absurd hm_3 (Nat.not_lt_zero _)
    | succ nn ih_3 =>
      intro q f hq hf hm_3
      refine g_iload C dX9_goes_3 rfl ?_
      refine g_sipush (v := 4394) C dX9_goes_5 (by decide) ?_
      refine g_icmp_ge C 25 dX9_goes_8 (by decide) (fun c_8 => ?_) (fun c_8 => ?_)
      · have k_8 := gle c_8 (a := 4394) (b := q) (by first | rfl | assumption | (simp only [glit, nI_add, pk_mul]; done) | (simp only [glit, nI_add, pk_mul]; congr 1; omega) | (simp only [*, glit, nI_add, pk_mul]; congr 1; omega)) (by first | rfl | assumption | (simp only [glit, nI_add, pk_mul]; done) | (simp only [glit, nI_add, pk_mul]; congr 1; omega) | (simp only [*, glit, nI_add, pk_mul]; congr 1; omega)) (by omega) (by omega)
        have ek : q = 4394 := by omega
        subst ek
        refine g_aload_n C dX9_goes_25 rfl ?_
        refine g_get C dX9_goes_26 iwX9 rfl (wO_M δ _) 19 (Nat.le_of_ble_eq_true rfl) mW591 rfl rfl ?_
        refine g_iconst (v := 0) C dX9_goes_29 (by decide) ?_
        refine g_lconst (v := 1) C dX9_goes_30 (by decide) ?_
        refine g_lastN C dX9_goes_31 (k := 0) (q := 14) (by decide) rfl (by first | rfl | assumption | (simp only [glit, nI_add, pk_mul]; done) | (simp only [glit, nI_add, pk_mul]; congr 1; omega) | (simp only [*, glit, nI_add, pk_mul]; congr 1; omega)) (show 0 < gLenL 14 from Nat.lt_of_lt_of_eq (show 0 < 4394 by omega) rfl) ?_
        rw [show gL (uL σ 14 f) 14 = f from rfl]
        refine g_aload_n C dX9_goes_32 rfl ?_
        refine g_lconst (v := 0) C dX9_goes_33 (by decide) ?_
        refine g_put C tyX9 dX9_goes_34 iwX9 tyX9_ok nmX9 rfl (wO_M δ _) 21 (Nat.le_of_ble_eq_true rfl) mW593 rfl rfl rfl rfl rfl (Nat.le_of_ble_eq_true rfl) (pG_16 δ _ _) ?_
        refine g_aload_n C dX9_goes_37 rfl ?_
        refine g_get C dX9_goes_38 iwX9 rfl (wO_M δ _) 20 (Nat.le_of_ble_eq_true rfl) mW592 rfl rfl ?_
        rw [gG_uG, if_neg (by decide), show gG (uL (uL σ 14 f) 14 (vp_updL f 0 1)) 15 = lN (dR (vT v u) (vG v u) 0 (k - 0)) from h15.trans (by rw [show k - 0 = k from rfl, dR_0])]
        refine g_lstore C dX9_goes_41 (Nat.le_of_ble_eq_true rfl) rfl ?_
        refine g_lv [some _, some _, some _, some _, some _, some _, some _, some _, none, none, none, none, none] (gs_some (gs_some (gs_some (gs_some (gs_some (gs_some (gs_some (gs_some (gs_none (gs_none (gs_none (gs_none (gs_none gs_nil))))))))))))) ?_
        refine g_iconst (v := 0) C dX9_goes_43 (by decide) ?_
        refine g_istore C dX9_goes_44 (Nat.le_of_ble_eq_true rfl) rfl ?_
        refine g_lv [some _, some _, some _, some _, some _, some _, some _, some _, none, some _, none, none, none] (gs_some (gs_some (gs_some (gs_some (gs_some (gs_some (gs_some (gs_some (gs_none (gs_some (gs_none (gs_none (gs_none gs_nil))))))))))))) ?_
        have L_46 : ∀ (nn : Nat) (r : Nat) (s1 : GS) (hr : r ≤ k) (hs : gSq σ s1) (hw1 : ∀ y, y < 2197 → gL s1 14 (2197 * (r % 2) + y) = lN (wW true (bS (vS v) u) (tS (vS v) u) al r y)) (e : Nat) (hE : gG s1 16 = lN e) (hEa : al = alA → e = wE (bS (vS v) u) (tS (vS v) u) alA (vT v u) (vG v u) r * dR (vT v u) (vG v u) r (k - r)), k - r < nn → gW Γ δ s1 46 [some (.ref (δ.2.2.1 1)), some (.int (nI u)), some (.int (nI k)), some (.int i), some (.int c), some (.int j), some (.int d), some (.long (lN (dR (vT v u) (vG v u) r (k - r)))), none, some (.int (nI r)), none, none, none] [] := by
          intro nn
          induction nn with
          | zero =>
            intro r s1 hr hs hw1 e hE hEa hm_46
            exact absurd hm_46 (Nat.not_lt_zero _)
          | succ nn ih_46 =>
            intro r s1 hr hs hw1 e hE hEa hm_46
            have hbd := wA_hb R hu hev hk hD al r hr
            have K1 := KM_sq hs K
            have hRb : dR (vT v u) (vG v u) r (k - r) < 9223372036854775808 := by have q := dR_le (vT v u) (vG v u) r (k - r); rw [show r + (k - r) = k by omega] at q; omega
            refine g_iload C dX9_goes_46 rfl ?_
            refine g_iload_n C dX9_goes_48 rfl ?_
            refine g_icmp_ge C 214 dX9_goes_49 (by decide) (fun c_49 => ?_) (fun c_49 => ?_)
            · have k_49 := gle c_49 (a := k) (b := r) (by first | rfl | assumption | (simp only [glit, nI_add, pk_mul]; done) | (simp only [glit, nI_add, pk_mul]; congr 1; omega) | (simp only [*, glit, nI_add, pk_mul]; congr 1; omega)) (by first | rfl | assumption | (simp only [glit, nI_add, pk_mul]; done) | (simp only [glit, nI_add, pk_mul]; congr 1; omega) | (simp only [*, glit, nI_add, pk_mul]; congr 1; omega)) (by omega) (by omega)
              exact g_vret C E dX9_goes_214 rfl ⟨rfl, ⟨hs, by rw [show k = r by omega]; exact hw1, fun ha => by rw [hE, hEa ha, show k = r by omega, Nat.sub_self, show dR (vT v u) (vG v u) r 0 = 1 from rfl, Nat.mul_one]⟩⟩
            · have k_49 := gnle c_49 (a := k) (b := r) (by first | rfl | assumption | (simp only [glit, nI_add, pk_mul]; done) | (simp only [glit, nI_add, pk_mul]; congr 1; omega) | (simp only [*, glit, nI_add, pk_mul]; congr 1; omega)) (by first | rfl | assumption | (simp only [glit, nI_add, pk_mul]; done) | (simp only [glit, nI_add, pk_mul]; congr 1; omega) | (simp only [*, glit, nI_add, pk_mul]; congr 1; omega)) (by omega) (by omega)
              have hrk : r < k := by omega
              refine g_aload_n C dX9_goes_52 rfl ?_
              refine g_iload_n C dX9_goes_53 rfl ?_
              refine g_callVi C sV_X9_113 dX9_goes_54 (c_X9_balls _ δ _ hu) ⟨by decide, by decide⟩ (wO_M δ _) rfl rfl rfl rfl (Nat.le_of_ble_eq_true rfl) (fun r_54 s_54 h_54 => ?_)
              obtain ⟨rfl, rfl⟩ := h_54
              rw [KM_sum K1 hu]
              refine g_i2l C dX9_goes_57 ?_
              refine g_iload C dX9_goes_58 rfl ?_
              refine g_i2l C dX9_goes_60 ?_
              refine g_aload_n C dX9_goes_61 rfl ?_
              refine g_iload_n C dX9_goes_62 rfl ?_
              refine g_iconst (v := 0) C dX9_goes_63 (by decide) ?_
              refine g_callVi C sV_X9_107 dX9_goes_64 (c_X9_addedSum _ δ _ hu (c := 0) (by omega)) ⟨by decide, by decide⟩ (wO_M δ _) rfl rfl rfl rfl (Nat.le_of_ble_eq_true rfl) (fun r_64 s_64 h_64 => ?_)
              obtain ⟨rfl, rfl⟩ := h_64
              rw [KM_gr K1 hu (by omega)]
              refine g_i2l C dX9_goes_67 ?_
              refine g_lmul C dX9_goes_68 ?_
              refine g_ladd C dX9_goes_69 ?_
              refine g_lstore C dX9_goes_70 (Nat.le_of_ble_eq_true rfl) rfl ?_
              refine g_lv [some _, some _, some _, some _, some _, some _, some _, some _, none, some _, some _, none, none] (gs_some (gs_some (gs_some (gs_some (gs_some (gs_some (gs_some (gs_some (gs_none (gs_some (gs_some (gs_none (gs_none gs_nil))))))))))))) ?_
              skip
              have J_89 : ∀ (y : Int64) (hy : y = lN (dR (vT v u) (vG v u) (r + 1) (k - (r + 1)))), gW Γ δ s1 89 [some (.ref (δ.2.2.1 1)), some (.int (nI u)), some (.int (nI k)), some (.int i), some (.int c), some (.int j), some (.int d), some (.long (lN (dR (vT v u) (vG v u) r (k - r)))), none, some (.int (nI r)), some (.long ((sumS (vS v) u).toInt64 + (nI r).toInt64 * (gGr (tS (vS v) u) 0 4).toInt64)), none, none] [.long y] := by
                intro y hy
                subst hy
                refine g_lstore C dX9_goes_89 (Nat.le_of_ble_eq_true rfl) rfl ?_
                refine g_lv [some _, some _, some _, some _, some _, some _, some _, some _, none, some _, some _, none, none] (gs_some (gs_some (gs_some (gs_some (gs_some (gs_some (gs_some (gs_some (gs_none (gs_some (gs_some (gs_none (gs_none gs_nil))))))))))))) ?_
                refine g_iconst (v := 0) C dX9_goes_91 (by decide) ?_
                refine g_istore C dX9_goes_92 (Nat.le_of_ble_eq_true rfl) rfl ?_
                refine g_lv [some _, some _, some _, some _, some _, some _, some _, some _, none, some _, some _, none, some _] (gs_some (gs_some (gs_some (gs_some (gs_some (gs_some (gs_some (gs_some (gs_none (gs_some (gs_some (gs_none (gs_some gs_nil))))))))))))) ?_
                have L_94 : ∀ (nn : Nat) (q : Nat) (f : Nat → Int64) (hq2 : q ≤ 2197) (hf : ∀ z, z < q → f (2197 * ((r + 1) % 2) + z) = 0) (hg : ∀ z, z < 2197 → f (2197 * (r % 2) + z) = gL s1 14 (2197 * (r % 2) + z)), 2197 - q < nn → gW Γ δ (uL s1 14 f) 94 [some (.ref (δ.2.2.1 1)), some (.int (nI u)), some (.int (nI k)), some (.int i), some (.int c), some (.int j), some (.int d), some (.long (lN (dR (vT v u) (vG v u) (r + 1) (k - (r + 1))))), none, some (.int (nI r)), some (.long ((sumS (vS v) u).toInt64 + (nI r).toInt64 * (gGr (tS (vS v) u) 0 4).toInt64)), none, some (.int (nI q))] [] := by
                  intro nn
                  induction nn with
                  | zero =>
                    intro q f hq2 hf hg hm_94
                    exact absurd hm_94 (Nat.not_lt_zero _)
                  | succ nn ih_94 =>
                    intro q f hq2 hf hg hm_94
                    refine g_iload C dX9_goes_94 rfl ?_
                    refine g_sipush (v := 2197) C dX9_goes_96 (by decide) ?_
                    refine g_icmp_ge C 123 dX9_goes_99 (by decide) (fun c_99 => ?_) (fun c_99 => ?_)
                    · have k_99 := gle c_99 (a := 2197) (b := q) (by first | rfl | assumption | (simp only [glit, nI_add, pk_mul]; done) | (simp only [glit, nI_add, pk_mul]; congr 1; omega) | (simp only [*, glit, nI_add, pk_mul]; congr 1; omega)) (by first | rfl | assumption | (simp only [glit, nI_add, pk_mul]; done) | (simp only [glit, nI_add, pk_mul]; congr 1; omega) | (simp only [*, glit, nI_add, pk_mul]; congr 1; omega)) (by omega) (by omega)
                      have ek : q = 2197 := by omega
                      subst ek
                      refine g_iconst (v := 0) C dX9_goes_123 (by decide) ?_
                      refine g_istore C dX9_goes_124 (Nat.le_of_ble_eq_true rfl) rfl ?_
                      refine g_lv [some _, some _, some _, some _, some _, some _, some _, some _, none, some _, some _, none, some _] (gs_some (gs_some (gs_some (gs_some (gs_some (gs_some (gs_some (gs_some (gs_none (gs_some (gs_some (gs_none (gs_some gs_nil))))))))))))) ?_
                      have L_126 : ∀ (nn : Nat) (q : Nat) (s2 : GS) (hq3 : q ≤ 2197) (hs2 : gSq σ s2) (v1 : ∀ y, y < 2197 → gL s2 14 (2197 * (r % 2) + y) = lN (wW true (bS (vS v) u) (tS (vS v) u) al r y)) (v2 : ∀ y, y < 2197 → gL s2 14 (2197 * ((r + 1) % 2) + y) = lN (sPr (wX true (bS (vS v) u) (tS (vS v) u) al (wW true (bS (vS v) u) (tS (vS v) u) al r) r y) (Lq q))) (e2 : Nat) (hE2 : gG s2 16 = lN e2) (hEa2 : al = alA → e2 = wE (bS (vS v) u) (tS (vS v) u) alA (vT v u) (vG v u) r * dR (vT v u) (vG v u) r (k - r) + sPr (eX true (bS (vS v) u) (tS (vS v) u) alA (wW true (bS (vS v) u) (tS (vS v) u) al r) r) (Lq q) * dR (vT v u) (vG v u) (r + 1) (k - (r + 1))), 2197 - q < nn → gW Γ δ s2 126 [some (.ref (δ.2.2.1 1)), some (.int (nI u)), some (.int (nI k)), some (.int i), some (.int c), some (.int j), some (.int d), some (.long (lN (dR (vT v u) (vG v u) (r + 1) (k - (r + 1))))), none, some (.int (nI r)), some (.long ((sumS (vS v) u).toInt64 + (nI r).toInt64 * (gGr (tS (vS v) u) 0 4).toInt64)), none, some (.int (nI q))] [] := by
                        intro nn
                        induction nn with
                        | zero =>
                          intro q s2 hq3 hs2 v1 v2 e2 hE2 hEa2 hm_126
                          exact absurd hm_126 (Nat.not_lt_zero _)
                        | succ nn ih_126 =>
                          intro q s2 hq3 hs2 v1 v2 e2 hE2 hEa2 hm_126
                          refine g_iload C dX9_goes_126 rfl ?_
                          refine g_sipush (v := 2197) C dX9_goes_128 (by decide) ?_
                          refine g_icmp_ge C 208 dX9_goes_131 (by decide) (fun c_131 => ?_) (fun c_131 => ?_)
                          · have k_131 := gle c_131 (a := 2197) (b := q) (by first | rfl | assumption | (simp only [glit, nI_add, pk_mul]; done) | (simp only [glit, nI_add, pk_mul]; congr 1; omega) | (simp only [*, glit, nI_add, pk_mul]; congr 1; omega)) (by first | rfl | assumption | (simp only [glit, nI_add, pk_mul]; done) | (simp only [glit, nI_add, pk_mul]; congr 1; omega) | (simp only [*, glit, nI_add, pk_mul]; congr 1; omega)) (by omega) (by omega)
                            have ek : q = 2197 := by omega
                            subst ek
                            have v4 : ∀ y, y < 2197 → gL s2 14 (2197 * ((r + 1) % 2) + y) = lN (wW true (bS (vS v) u) (tS (vS v) u) al (r + 1) y) := fun y hy => by rw [wW_x, ← Lq_e]; exact v2 y hy
                            have hEa4 : al = alA → e2 = wE (bS (vS v) u) (tS (vS v) u) alA (vT v u) (vG v u) (r + 1) * dR (vT v u) (vG v u) (r + 1) (k - (r + 1)) := fun ha => by rw [hEa2 ha, Lq_e, ← wE_R hrk, ha]
                            refine g_iinc (v := nI (r + 1)) C dX9_goes_208 rfl (ginc _ 1) rfl ?_
                            refine g_lv [some _, some _, some _, some _, some _, some _, some _, some _, none, some _, some _, none, some _] (gs_some (gs_some (gs_some (gs_some (gs_some (gs_some (gs_some (gs_some (gs_none (gs_some (gs_some (gs_none (gs_some gs_nil))))))))))))) ?_
                            refine g_goto C 46 dX9_goes_211 (by decide) ?_
                            refine g_lv [some _, some _, some _, some _, some _, some _, some _, some _, none, some _, none, none, none] (gs_some (gs_some (gs_some (gs_some (gs_some (gs_some (gs_some (gs_some (gs_none (gs_some (gs_none (gs_none (gs_none gs_nil))))))))))))) ?_
                            exact ih_46 (r + 1) _ (by omega) hs2 v4 e2 hE2 hEa4 (by omega)
                          · have k_131 := gnle c_131 (a := 2197) (b := q) (by first | rfl | assumption | (simp only [glit, nI_add, pk_mul]; done) | (simp only [glit, nI_add, pk_mul]; congr 1; omega) | (simp only [*, glit, nI_add, pk_mul]; congr 1; omega)) (by first | rfl | assumption | (simp only [glit, nI_add, pk_mul]; done) | (simp only [glit, nI_add, pk_mul]; congr 1; omega) | (simp only [*, glit, nI_add, pk_mul]; congr 1; omega)) (by omega) (by omega)
                            refine g_aload_n C dX9_goes_134 rfl ?_
                            refine g_get C dX9_goes_135 iwX9 rfl (wO_M δ _) 19 (Nat.le_of_ble_eq_true rfl) mW591 rfl rfl ?_
                            refine g_iload C dX9_goes_138 rfl ?_
                            refine g_iload C dX9_goes_140 rfl ?_
                            refine g_callSi C sS_X9_186 dX9_goes_142 (c_X9_at _ δ _ (r := r) (p := q) (by omega)) ⟨by decide, by decide⟩ rfl rfl rfl (Nat.le_of_ble_eq_true rfl) (fun r_142 s_142 h_142 => ?_)
                            obtain ⟨rfl, rfl⟩ := h_142
                            refine g_laldN C dX9_goes_145 (k := (2197 * ((r) % 2) + (q))) (q := 14) (by decide) rfl (by first | rfl | assumption | (simp only [glit, nI_add, pk_mul]; done) | (simp only [glit, nI_add, pk_mul]; congr 1; omega) | (simp only [*, glit, nI_add, pk_mul]; congr 1; omega)) (show (2197 * ((r) % 2) + (q)) < gLenL 14 from Nat.lt_of_lt_of_eq (show (2197 * ((r) % 2) + (q)) < 4394 by omega) rfl) ?_
                            rw [v1 q (by omega)]
                            refine g_lconst (v := 0) C dX9_goes_146 (by decide) ?_
                            refine g_lcmp C dX9_goes_147 ?_
                            refine g_if_le C 202 dX9_goes_148 (by decide) (fun c_148 => ?_) (fun c_148 => ?_)
                            · rw [lg_cmp_le] at c_148
                              have hz : wW true (bS (vS v) u) (tS (vS v) u) al r q = 0 := (lN_le0 (hbd q)).mp c_148
                              have hs3 := hs2
                              have v1b := v1
                              have v3 : ∀ y, y < 2197 → gL s2 14 (2197 * ((r + 1) % 2) + y) = lN (sPr (wX true (bS (vS v) u) (tS (vS v) u) al (wW true (bS (vS v) u) (tS (vS v) u) al r) r y) (Lq (q + 1))) := fun y hy => by rw [Lq_z (by omega) (wX_0 hz y)]; exact v2 y hy
                              have hE3 := hE2
                              have hEa3 : al = alA → e2 = wE (bS (vS v) u) (tS (vS v) u) alA (vT v u) (vG v u) r * dR (vT v u) (vG v u) r (k - r) + sPr (eX true (bS (vS v) u) (tS (vS v) u) alA (wW true (bS (vS v) u) (tS (vS v) u) al r) r) (Lq (q + 1)) * dR (vT v u) (vG v u) (r + 1) (k - (r + 1)) := fun ha => by rw [Lq_z (by omega) (eX_0 hz)]; exact hEa2 ha
                              refine g_iinc (v := nI (q + 1)) C dX9_goes_202 rfl (ginc _ 1) rfl ?_
                              refine g_lv [some _, some _, some _, some _, some _, some _, some _, some _, none, some _, some _, none, some _] (gs_some (gs_some (gs_some (gs_some (gs_some (gs_some (gs_some (gs_some (gs_none (gs_some (gs_some (gs_none (gs_some gs_nil))))))))))))) ?_
                              refine g_goto C 126 dX9_goes_205 (by decide) ?_
                              refine g_lv [some _, some _, some _, some _, some _, some _, some _, some _, none, some _, some _, none, some _] (gs_some (gs_some (gs_some (gs_some (gs_some (gs_some (gs_some (gs_some (gs_none (gs_some (gs_some (gs_none (gs_some gs_nil))))))))))))) ?_
                              exact ih_126 (q + 1) _ (by omega) hs3 v1b v3 _ hE3 hEa3 (by omega)
                            · rw [lg_cmp_le] at c_148
                              have hnz : ¬ wW true (bS (vS v) u) (tS (vS v) u) al r q = 0 := lN_pos (hbd q) c_148
                              have hok := wA_ok R hu (wg := true) (al := al) (show r ≤ 12 by omega) q hnz
                              refine g_aload_n C dX9_goes_151 rfl ?_
                              refine g_iload_n C dX9_goes_152 rfl ?_
                              refine g_iload C dX9_goes_153 rfl ?_
                              refine g_iload C dX9_goes_155 rfl ?_
                              refine g_callVv C sV_X9_189 dX9_goes_157 (c_X9_looksAtb _ δ _ hu (p := q) (k := r) (by omega) hok.1 (by omega) (KM_sq hs2 K) R) ⟨by decide, by decide⟩ (wO_M δ _) rfl rfl rfl rfl (Nat.le_of_ble_eq_true rfl) (fun s_157 h_157 => ?_)
                              obtain ⟨o4, g4, rfl, ho4, hg4⟩ := h_157
                              refine g_aload_n C dX9_goes_160 rfl ?_
                              refine g_iload_n C dX9_goes_161 rfl ?_
                              refine g_iload C dX9_goes_162 rfl ?_
                              refine g_iload C dX9_goes_164 rfl ?_
                              refine g_lload C dX9_goes_166 rfl ?_
                              refine g_lload C dX9_goes_168 rfl ?_
                              refine g_iload C dX9_goes_170 rfl ?_
                              refine g_iconst (v := 1) C dX9_goes_172 (by decide) ?_
                              refine g_iadd C dX9_goes_173 ?_
                              refine g_iload_n C dX9_goes_174 rfl ?_
                              refine g_icmp_ne C 183 dX9_goes_175 (by decide) (fun c_175 => ?_) (fun c_175 => ?_)
                              · have hO1 : ∀ e : Nat, ((-1 : Int32) < 0 ∨ (-1 : Int32) = nI e) ↔ (nI r + 1 = i → c = nI e) := fun e => ⟨fun _ q => absurd q c_175, fun _ => Or.inl (by decide)⟩
                                refine g_iconst (v := (-1)) C dX9_goes_183 (by decide) ?_
                                refine g_iload C dX9_goes_184 rfl ?_
                                refine g_iconst (v := 1) C dX9_goes_186 (by decide) ?_
                                refine g_iadd C dX9_goes_187 ?_
                                refine g_iload C dX9_goes_188 rfl ?_
                                refine g_icmp_ne C 198 dX9_goes_190 (by decide) (fun c_190 => ?_) (fun c_190 => ?_)
                                · have hA1 : ∀ e : Nat, ((-1 : Int32) < 0 ∨ (-1 : Int32) = nI e) ↔ (nI r + 1 = j → d = nI e) := fun e => ⟨fun _ q => absurd q c_190, fun _ => Or.inl (by decide)⟩
                                  refine g_iconst (v := (-1)) C dX9_goes_198 (by decide) ?_
                                  refine g_callVv C sV_X9_193 dX9_goes_199 (c_X9_spreadsb _ δ (uI (uI s2 58 o4) 59 g4) hu (x := q) (k := r) (w := wW true (bS (vS v) u) (tS (vS v) u) al r q) (by omega) ((sumS (vS v) u).toInt64 + (nI r).toInt64 * (gGr (tS (vS v) u) 0 4).toInt64) (lN (dR (vT v u) (vG v u) (r + 1) (k - (r + 1)))) _ _ (al := al) (fun e he => (and_congr (hO1 e) (hA1 e)).trans (hal r hrk e he)) (Wf := wW true (bS (vS v) u) (tS (vS v) u) al r) rfl (KM_sq (a := σ) (gSq_I (by omega) (gSq_I (by omega) hs2)) K) R hok (tt_z R hu hev (by omega) hok) hg4 (v1 q (by omega))) ⟨by decide, by decide⟩ (wO_M δ _) rfl rfl rfl rfl (Nat.le_of_ble_eq_true rfl) (fun s_199 h_199 => ?_)
                                  obtain ⟨N4, e4, rfl, hN1, hN2, he4⟩ := h_199
                                  have hs3 : gSq σ (uG (uL (uI (uI s2 58 o4) 59 g4) 14 N4) 16 e4) := gSq_G (by omega) (gSq_L (by omega) (gSq_I (by omega) (gSq_I (by omega) hs2)))
                                  have v1b : ∀ y, y < 2197 → gL (uG (uL (uI (uI s2 58 o4) 59 g4) 14 N4) 16 e4) 14 (2197 * (r % 2) + y) = lN (wW true (bS (vS v) u) (tS (vS v) u) al r y) := fun y hy => (hN2 y hy).trans (v1 y hy)
                                  have v3 : ∀ y, y < 2197 → gL (uG (uL (uI (uI s2 58 o4) 59 g4) 14 N4) 16 e4) 14 (2197 * ((r + 1) % 2) + y) = lN (sPr (wX true (bS (vS v) u) (tS (vS v) u) al (wW true (bS (vS v) u) (tS (vS v) u) al r) r y) (Lq (q + 1))) := fun y hy => (hN1 y hy).trans (by rw [show gL (uI (uI s2 58 o4) 59 g4) 14 (2197 * ((r + 1) % 2) + y) = _ from v2 y hy, lN_add, Lq_s (by omega)])
                                  have hE3 : gG (uG (uL (uI (uI s2 58 o4) 59 g4) 14 N4) 16 e4) 16 = lN (e2 + eX true (bS (vS v) u) (tS (vS v) u) alA (wW true (bS (vS v) u) (tS (vS v) u) al r) r q * dR (vT v u) (vG v u) (r + 1) (k - (r + 1))) := by rw [gG_uGs, he4, show gG (uI (uI s2 58 o4) 59 g4) 16 = lN e2 from hE2, lN_mul, lN_add]
                                  have hEa3 : al = alA → e2 + eX true (bS (vS v) u) (tS (vS v) u) alA (wW true (bS (vS v) u) (tS (vS v) u) al r) r q * dR (vT v u) (vG v u) (r + 1) (k - (r + 1)) = wE (bS (vS v) u) (tS (vS v) u) alA (vT v u) (vG v u) r * dR (vT v u) (vG v u) r (k - r) + sPr (eX true (bS (vS v) u) (tS (vS v) u) alA (wW true (bS (vS v) u) (tS (vS v) u) al r) r) (Lq (q + 1)) * dR (vT v u) (vG v u) (r + 1) (k - (r + 1)) := fun ha => by rw [hEa2 ha, Lq_s (by omega), Nat.add_mul, Nat.add_assoc]
                                  refine g_iinc (v := nI (q + 1)) C dX9_goes_202 rfl (ginc _ 1) rfl ?_
                                  refine g_lv [some _, some _, some _, some _, some _, some _, some _, some _, none, some _, some _, none, some _] (gs_some (gs_some (gs_some (gs_some (gs_some (gs_some (gs_some (gs_some (gs_none (gs_some (gs_some (gs_none (gs_some gs_nil))))))))))))) ?_
                                  refine g_goto C 126 dX9_goes_205 (by decide) ?_
                                  refine g_lv [some _, some _, some _, some _, some _, some _, some _, some _, none, some _, some _, none, some _] (gs_some (gs_some (gs_some (gs_some (gs_some (gs_some (gs_some (gs_some (gs_none (gs_some (gs_some (gs_none (gs_some gs_nil))))))))))))) ?_
                                  exact ih_126 (q + 1) _ (by omega) hs3 v1b v3 _ hE3 hEa3 (by omega)
                                · have hA1 : ∀ e : Nat, (d < 0 ∨ d = nI e) ↔ (nI r + 1 = j → d = nI e) := fun e => ⟨fun q _ => q.elim (fun w => absurd w hd0) id, fun q => Or.inr (q c_190)⟩
                                  refine g_iload C dX9_goes_193 rfl ?_
                                  refine g_goto C 199 dX9_goes_195 (by decide) ?_
                                  refine g_callVv C sV_X9_193 dX9_goes_199 (c_X9_spreadsb _ δ (uI (uI s2 58 o4) 59 g4) hu (x := q) (k := r) (w := wW true (bS (vS v) u) (tS (vS v) u) al r q) (by omega) ((sumS (vS v) u).toInt64 + (nI r).toInt64 * (gGr (tS (vS v) u) 0 4).toInt64) (lN (dR (vT v u) (vG v u) (r + 1) (k - (r + 1)))) _ _ (al := al) (fun e he => (and_congr (hO1 e) (hA1 e)).trans (hal r hrk e he)) (Wf := wW true (bS (vS v) u) (tS (vS v) u) al r) rfl (KM_sq (a := σ) (gSq_I (by omega) (gSq_I (by omega) hs2)) K) R hok (tt_z R hu hev (by omega) hok) hg4 (v1 q (by omega))) ⟨by decide, by decide⟩ (wO_M δ _) rfl rfl rfl rfl (Nat.le_of_ble_eq_true rfl) (fun s_199 h_199 => ?_)
                                  obtain ⟨N4, e4, rfl, hN1, hN2, he4⟩ := h_199
                                  have hs3 : gSq σ (uG (uL (uI (uI s2 58 o4) 59 g4) 14 N4) 16 e4) := gSq_G (by omega) (gSq_L (by omega) (gSq_I (by omega) (gSq_I (by omega) hs2)))
                                  have v1b : ∀ y, y < 2197 → gL (uG (uL (uI (uI s2 58 o4) 59 g4) 14 N4) 16 e4) 14 (2197 * (r % 2) + y) = lN (wW true (bS (vS v) u) (tS (vS v) u) al r y) := fun y hy => (hN2 y hy).trans (v1 y hy)
                                  have v3 : ∀ y, y < 2197 → gL (uG (uL (uI (uI s2 58 o4) 59 g4) 14 N4) 16 e4) 14 (2197 * ((r + 1) % 2) + y) = lN (sPr (wX true (bS (vS v) u) (tS (vS v) u) al (wW true (bS (vS v) u) (tS (vS v) u) al r) r y) (Lq (q + 1))) := fun y hy => (hN1 y hy).trans (by rw [show gL (uI (uI s2 58 o4) 59 g4) 14 (2197 * ((r + 1) % 2) + y) = _ from v2 y hy, lN_add, Lq_s (by omega)])
                                  have hE3 : gG (uG (uL (uI (uI s2 58 o4) 59 g4) 14 N4) 16 e4) 16 = lN (e2 + eX true (bS (vS v) u) (tS (vS v) u) alA (wW true (bS (vS v) u) (tS (vS v) u) al r) r q * dR (vT v u) (vG v u) (r + 1) (k - (r + 1))) := by rw [gG_uGs, he4, show gG (uI (uI s2 58 o4) 59 g4) 16 = lN e2 from hE2, lN_mul, lN_add]
                                  have hEa3 : al = alA → e2 + eX true (bS (vS v) u) (tS (vS v) u) alA (wW true (bS (vS v) u) (tS (vS v) u) al r) r q * dR (vT v u) (vG v u) (r + 1) (k - (r + 1)) = wE (bS (vS v) u) (tS (vS v) u) alA (vT v u) (vG v u) r * dR (vT v u) (vG v u) r (k - r) + sPr (eX true (bS (vS v) u) (tS (vS v) u) alA (wW true (bS (vS v) u) (tS (vS v) u) al r) r) (Lq (q + 1)) * dR (vT v u) (vG v u) (r + 1) (k - (r + 1)) := fun ha => by rw [hEa2 ha, Lq_s (by omega), Nat.add_mul, Nat.add_assoc]
                                  refine g_iinc (v := nI (q + 1)) C dX9_goes_202 rfl (ginc _ 1) rfl ?_
                                  refine g_lv [some _, some _, some _, some _, some _, some _, some _, some _, none, some _, some _, none, some _] (gs_some (gs_some (gs_some (gs_some (gs_some (gs_some (gs_some (gs_some (gs_none (gs_some (gs_some (gs_none (gs_some gs_nil))))))))))))) ?_
                                  refine g_goto C 126 dX9_goes_205 (by decide) ?_
                                  refine g_lv [some _, some _, some _, some _, some _, some _, some _, some _, none, some _, some _, none, some _] (gs_some (gs_some (gs_some (gs_some (gs_some (gs_some (gs_some (gs_some (gs_none (gs_some (gs_some (gs_none (gs_some gs_nil))))))))))))) ?_
                                  exact ih_126 (q + 1) _ (by omega) hs3 v1b v3 _ hE3 hEa3 (by omega)
                              · have hO1 : ∀ e : Nat, (c < 0 ∨ c = nI e) ↔ (nI r + 1 = i → c = nI e) := fun e => ⟨fun q _ => q.elim (fun w => absurd w hc0) id, fun q => Or.inr (q c_175)⟩
                                refine g_iload C dX9_goes_178 rfl ?_
                                refine g_goto C 184 dX9_goes_180 (by decide) ?_
                                refine g_iload C dX9_goes_184 rfl ?_
                                refine g_iconst (v := 1) C dX9_goes_186 (by decide) ?_
                                refine g_iadd C dX9_goes_187 ?_
                                refine g_iload C dX9_goes_188 rfl ?_
                                refine g_icmp_ne C 198 dX9_goes_190 (by decide) (fun c_190 => ?_) (fun c_190 => ?_)
                                · have hA1 : ∀ e : Nat, ((-1 : Int32) < 0 ∨ (-1 : Int32) = nI e) ↔ (nI r + 1 = j → d = nI e) := fun e => ⟨fun _ q => absurd q c_190, fun _ => Or.inl (by decide)⟩
                                  refine g_iconst (v := (-1)) C dX9_goes_198 (by decide) ?_
                                  refine g_callVv C sV_X9_193 dX9_goes_199 (c_X9_spreadsb _ δ (uI (uI s2 58 o4) 59 g4) hu (x := q) (k := r) (w := wW true (bS (vS v) u) (tS (vS v) u) al r q) (by omega) ((sumS (vS v) u).toInt64 + (nI r).toInt64 * (gGr (tS (vS v) u) 0 4).toInt64) (lN (dR (vT v u) (vG v u) (r + 1) (k - (r + 1)))) _ _ (al := al) (fun e he => (and_congr (hO1 e) (hA1 e)).trans (hal r hrk e he)) (Wf := wW true (bS (vS v) u) (tS (vS v) u) al r) rfl (KM_sq (a := σ) (gSq_I (by omega) (gSq_I (by omega) hs2)) K) R hok (tt_z R hu hev (by omega) hok) hg4 (v1 q (by omega))) ⟨by decide, by decide⟩ (wO_M δ _) rfl rfl rfl rfl (Nat.le_of_ble_eq_true rfl) (fun s_199 h_199 => ?_)
                                  obtain ⟨N4, e4, rfl, hN1, hN2, he4⟩ := h_199
                                  have hs3 : gSq σ (uG (uL (uI (uI s2 58 o4) 59 g4) 14 N4) 16 e4) := gSq_G (by omega) (gSq_L (by omega) (gSq_I (by omega) (gSq_I (by omega) hs2)))
                                  have v1b : ∀ y, y < 2197 → gL (uG (uL (uI (uI s2 58 o4) 59 g4) 14 N4) 16 e4) 14 (2197 * (r % 2) + y) = lN (wW true (bS (vS v) u) (tS (vS v) u) al r y) := fun y hy => (hN2 y hy).trans (v1 y hy)
                                  have v3 : ∀ y, y < 2197 → gL (uG (uL (uI (uI s2 58 o4) 59 g4) 14 N4) 16 e4) 14 (2197 * ((r + 1) % 2) + y) = lN (sPr (wX true (bS (vS v) u) (tS (vS v) u) al (wW true (bS (vS v) u) (tS (vS v) u) al r) r y) (Lq (q + 1))) := fun y hy => (hN1 y hy).trans (by rw [show gL (uI (uI s2 58 o4) 59 g4) 14 (2197 * ((r + 1) % 2) + y) = _ from v2 y hy, lN_add, Lq_s (by omega)])
                                  have hE3 : gG (uG (uL (uI (uI s2 58 o4) 59 g4) 14 N4) 16 e4) 16 = lN (e2 + eX true (bS (vS v) u) (tS (vS v) u) alA (wW true (bS (vS v) u) (tS (vS v) u) al r) r q * dR (vT v u) (vG v u) (r + 1) (k - (r + 1))) := by rw [gG_uGs, he4, show gG (uI (uI s2 58 o4) 59 g4) 16 = lN e2 from hE2, lN_mul, lN_add]
                                  have hEa3 : al = alA → e2 + eX true (bS (vS v) u) (tS (vS v) u) alA (wW true (bS (vS v) u) (tS (vS v) u) al r) r q * dR (vT v u) (vG v u) (r + 1) (k - (r + 1)) = wE (bS (vS v) u) (tS (vS v) u) alA (vT v u) (vG v u) r * dR (vT v u) (vG v u) r (k - r) + sPr (eX true (bS (vS v) u) (tS (vS v) u) alA (wW true (bS (vS v) u) (tS (vS v) u) al r) r) (Lq (q + 1)) * dR (vT v u) (vG v u) (r + 1) (k - (r + 1)) := fun ha => by rw [hEa2 ha, Lq_s (by omega), Nat.add_mul, Nat.add_assoc]
                                  refine g_iinc (v := nI (q + 1)) C dX9_goes_202 rfl (ginc _ 1) rfl ?_
                                  refine g_lv [some _, some _, some _, some _, some _, some _, some _, some _, none, some _, some _, none, some _] (gs_some (gs_some (gs_some (gs_some (gs_some (gs_some (gs_some (gs_some (gs_none (gs_some (gs_some (gs_none (gs_some gs_nil))))))))))))) ?_
                                  refine g_goto C 126 dX9_goes_205 (by decide) ?_
                                  refine g_lv [some _, some _, some _, some _, some _, some _, some _, some _, none, some _, some _, none, some _] (gs_some (gs_some (gs_some (gs_some (gs_some (gs_some (gs_some (gs_some (gs_none (gs_some (gs_some (gs_none (gs_some gs_nil))))))))))))) ?_
                                  exact ih_126 (q + 1) _ (by omega) hs3 v1b v3 _ hE3 hEa3 (by omega)
                                · have hA1 : ∀ e : Nat, (d < 0 ∨ d = nI e) ↔ (nI r + 1 = j → d = nI e) := fun e => ⟨fun q _ => q.elim (fun w => absurd w hd0) id, fun q => Or.inr (q c_190)⟩
                                  refine g_iload C dX9_goes_193 rfl ?_
                                  refine g_goto C 199 dX9_goes_195 (by decide) ?_
                                  refine g_callVv C sV_X9_193 dX9_goes_199 (c_X9_spreadsb _ δ (uI (uI s2 58 o4) 59 g4) hu (x := q) (k := r) (w := wW true (bS (vS v) u) (tS (vS v) u) al r q) (by omega) ((sumS (vS v) u).toInt64 + (nI r).toInt64 * (gGr (tS (vS v) u) 0 4).toInt64) (lN (dR (vT v u) (vG v u) (r + 1) (k - (r + 1)))) _ _ (al := al) (fun e he => (and_congr (hO1 e) (hA1 e)).trans (hal r hrk e he)) (Wf := wW true (bS (vS v) u) (tS (vS v) u) al r) rfl (KM_sq (a := σ) (gSq_I (by omega) (gSq_I (by omega) hs2)) K) R hok (tt_z R hu hev (by omega) hok) hg4 (v1 q (by omega))) ⟨by decide, by decide⟩ (wO_M δ _) rfl rfl rfl rfl (Nat.le_of_ble_eq_true rfl) (fun s_199 h_199 => ?_)
                                  obtain ⟨N4, e4, rfl, hN1, hN2, he4⟩ := h_199
                                  have hs3 : gSq σ (uG (uL (uI (uI s2 58 o4) 59 g4) 14 N4) 16 e4) := gSq_G (by omega) (gSq_L (by omega) (gSq_I (by omega) (gSq_I (by omega) hs2)))
                                  have v1b : ∀ y, y < 2197 → gL (uG (uL (uI (uI s2 58 o4) 59 g4) 14 N4) 16 e4) 14 (2197 * (r % 2) + y) = lN (wW true (bS (vS v) u) (tS (vS v) u) al r y) := fun y hy => (hN2 y hy).trans (v1 y hy)
                                  have v3 : ∀ y, y < 2197 → gL (uG (uL (uI (uI s2 58 o4) 59 g4) 14 N4) 16 e4) 14 (2197 * ((r + 1) % 2) + y) = lN (sPr (wX true (bS (vS v) u) (tS (vS v) u) al (wW true (bS (vS v) u) (tS (vS v) u) al r) r y) (Lq (q + 1))) := fun y hy => (hN1 y hy).trans (by rw [show gL (uI (uI s2 58 o4) 59 g4) 14 (2197 * ((r + 1) % 2) + y) = _ from v2 y hy, lN_add, Lq_s (by omega)])
                                  have hE3 : gG (uG (uL (uI (uI s2 58 o4) 59 g4) 14 N4) 16 e4) 16 = lN (e2 + eX true (bS (vS v) u) (tS (vS v) u) alA (wW true (bS (vS v) u) (tS (vS v) u) al r) r q * dR (vT v u) (vG v u) (r + 1) (k - (r + 1))) := by rw [gG_uGs, he4, show gG (uI (uI s2 58 o4) 59 g4) 16 = lN e2 from hE2, lN_mul, lN_add]
                                  have hEa3 : al = alA → e2 + eX true (bS (vS v) u) (tS (vS v) u) alA (wW true (bS (vS v) u) (tS (vS v) u) al r) r q * dR (vT v u) (vG v u) (r + 1) (k - (r + 1)) = wE (bS (vS v) u) (tS (vS v) u) alA (vT v u) (vG v u) r * dR (vT v u) (vG v u) r (k - r) + sPr (eX true (bS (vS v) u) (tS (vS v) u) alA (wW true (bS (vS v) u) (tS (vS v) u) al r) r) (Lq (q + 1)) * dR (vT v u) (vG v u) (r + 1) (k - (r + 1)) := fun ha => by rw [hEa2 ha, Lq_s (by omega), Nat.add_mul, Nat.add_assoc]
                                  refine g_iinc (v := nI (q + 1)) C dX9_goes_202 rfl (ginc _ 1) rfl ?_
                                  refine g_lv [some _, some _, some _, some _, some _, some _, some _, some _, none, some _, some _, none, some _] (gs_some (gs_some (gs_some (gs_some (gs_some (gs_some (gs_some (gs_some (gs_none (gs_some (gs_some (gs_none (gs_some gs_nil))))))))))))) ?_
                                  refine g_goto C 126 dX9_goes_205 (by decide) ?_
                                  refine g_lv [some _, some _, some _, some _, some _, some _, some _, some _, none, some _, some _, none, some _] (gs_some (gs_some (gs_some (gs_some (gs_some (gs_some (gs_some (gs_some (gs_none (gs_some (gs_some (gs_none (gs_some gs_nil))))))))))))) ?_
                                  exact ih_126 (q + 1) _ (by omega) hs3 v1b v3 _ hE3 hEa3 (by omega)
                      refine g_lv [some _, some _, some _, some _, some _, some _, some _, some _, none, some _, some _, none, some _] (gs_some (gs_some (gs_some (gs_some (gs_some (gs_some (gs_some (gs_some (gs_none (gs_some (gs_some (gs_none (gs_some gs_nil))))))))))))) ?_
                      exact L_126 _ 0 _ (by omega) (by repeat (first | (with_reducible assumption) | (with_reducible exact gSq_r _) | (with_reducible refine gSq_I (by omega) ?_) | (with_reducible refine gSq_L (by omega) ?_) | (with_reducible refine gSq_G (by omega) ?_))) (fun y hy => (hg y hy).trans (hw1 y hy)) (fun y hy => (hf y hy).trans (by rw [Lq_0]; rfl)) e hE (fun ha => by rw [hEa ha, Lq_0, Nat.zero_mul, Nat.add_zero]) (Nat.lt_succ_self _)
                    · have k_99 := gnle c_99 (a := 2197) (b := q) (by first | rfl | assumption | (simp only [glit, nI_add, pk_mul]; done) | (simp only [glit, nI_add, pk_mul]; congr 1; omega) | (simp only [*, glit, nI_add, pk_mul]; congr 1; omega)) (by first | rfl | assumption | (simp only [glit, nI_add, pk_mul]; done) | (simp only [glit, nI_add, pk_mul]; congr 1; omega) | (simp only [*, glit, nI_add, pk_mul]; congr 1; omega)) (by omega) (by omega)
                      refine g_aload_n C dX9_goes_102 rfl ?_
                      refine g_get C dX9_goes_103 iwX9 rfl (wO_M δ _) 19 (Nat.le_of_ble_eq_true rfl) mW591 rfl rfl ?_
                      refine g_iload C dX9_goes_106 rfl ?_
                      refine g_iconst (v := 1) C dX9_goes_108 (by decide) ?_
                      refine g_iadd C dX9_goes_109 ?_
                      rw [show nI r + 1 = nI (r + 1) from nI_1 r]
                      refine g_iload C dX9_goes_110 rfl ?_
                      refine g_callSi C sS_X9_186 dX9_goes_112 (c_X9_at _ δ _ (r := r + 1) (p := q) (by omega)) ⟨by decide, by decide⟩ rfl rfl rfl (Nat.le_of_ble_eq_true rfl) (fun r_112 s_112 h_112 => ?_)
                      obtain ⟨rfl, rfl⟩ := h_112
                      refine g_lconst (v := 0) C dX9_goes_115 (by decide) ?_
                      refine g_lastN C dX9_goes_116 (k := (2197 * ((r + 1) % 2) + (q))) (q := 14) (by decide) rfl (by first | rfl | assumption | (simp only [glit, nI_add, pk_mul]; done) | (simp only [glit, nI_add, pk_mul]; congr 1; omega) | (simp only [*, glit, nI_add, pk_mul]; congr 1; omega)) (show (2197 * ((r + 1) % 2) + (q)) < gLenL 14 from Nat.lt_of_lt_of_eq (show (2197 * ((r + 1) % 2) + (q)) < 4394 by omega) rfl) ?_
                      refine g_iinc (v := nI (q + 1)) C dX9_goes_117 rfl (ginc _ 1) rfl ?_
                      refine g_lv [some _, some _, some _, some _, some _, some _, some _, some _, none, some _, some _, none, some _] (gs_some (gs_some (gs_some (gs_some (gs_some (gs_some (gs_some (gs_some (gs_none (gs_some (gs_some (gs_none (gs_some gs_nil))))))))))))) ?_
                      refine g_goto C 94 dX9_goes_120 (by decide) ?_
                      refine g_lv [some _, some _, some _, some _, some _, some _, some _, some _, none, some _, some _, none, some _] (gs_some (gs_some (gs_some (gs_some (gs_some (gs_some (gs_some (gs_some (gs_none (gs_some (gs_some (gs_none (gs_some gs_nil))))))))))))) ?_
                      rw [uL_uL, gL_uL, if_pos rfl]
                      exact ih_94 (q + 1) _ (by omega) (fun z h => gclr1 hf h) (fun z h => gclr2 (by omega) hg h) (by omega)
                refine g_lv [some _, some _, some _, some _, some _, some _, some _, some _, none, some _, some _, none, some _] (gs_some (gs_some (gs_some (gs_some (gs_some (gs_some (gs_some (gs_some (gs_none (gs_some (gs_some (gs_none (gs_some gs_nil))))))))))))) ?_
                refine g_st (uL_id _ 14).symm ?_
                exact L_94 _ 0 _ (by omega) (fun _ h => absurd h (Nat.not_lt_zero _)) (fun _ _ => rfl) (Nat.lt_succ_self _)
              refine g_lload C dX9_goes_72 rfl ?_
              refine g_lconst (v := 0) C dX9_goes_74 (by decide) ?_
              refine g_lcmp C dX9_goes_75 ?_
              refine g_if_le C 87 dX9_goes_76 (by decide) (fun c_76 => ?_) (fun c_76 => ?_)
              · rw [lg_cmp_le] at c_76
                refine g_lload C dX9_goes_87 rfl ?_
                refine g_lv [some _, some _, some _, some _, some _, some _, some _, some _, none, some _, some _, none, none] (gs_some (gs_some (gs_some (gs_some (gs_some (gs_some (gs_some (gs_some (gs_none (gs_some (gs_some (gs_none (gs_none gs_nil))))))))))))) ?_
                exact J_89 _ (by first | exact RR_y hrk hk hRb hT hG c_76 rfl | exact RR_n hrk hk hT hG c_76)
              · rw [lg_cmp_le] at c_76
                refine g_lload C dX9_goes_79 rfl ?_
                refine g_lload C dX9_goes_81 rfl ?_
                refine g_ldiv C dX9_goes_83 (gnz1 (l_1le c_76)) ?_
                refine g_goto C 89 dX9_goes_84 (by decide) ?_
                refine g_lv [some _, some _, some _, some _, some _, some _, some _, some _, none, some _, some _, none, none] (gs_some (gs_some (gs_some (gs_some (gs_some (gs_some (gs_some (gs_some (gs_none (gs_some (gs_some (gs_none (gs_none gs_nil))))))))))))) ?_
                exact J_89 _ (by first | exact RR_y hrk hk hRb hT hG c_76 rfl | exact RR_n hrk hk hT hG c_76)
        refine g_lv [some _, some _, some _, some _, some _, some _, some _, some _, none, some _, none, none, none] (gs_some (gs_some (gs_some (gs_some (gs_some (gs_some (gs_some (gs_some (gs_none (gs_some (gs_none (gs_none (gs_none gs_nil))))))))))))) ?_
        exact L_46 _ 0 _ (by omega) (by repeat (first | (with_reducible assumption) | (with_reducible exact gSq_r _) | (with_reducible refine gSq_I (by omega) ?_) | (with_reducible refine gSq_L (by omega) ?_) | (with_reducible refine gSq_G (by omega) ?_))) (fun y hy => mw_0 hf y hy) 0 rfl (fun _ => (Nat.zero_mul _).symm) (Nat.lt_succ_self _)
      · have k_8 := gnle c_8 (a := 4394) (b := q) (by first | rfl | assumption | (simp only [glit, nI_add, pk_mul]; done) | (simp only [glit, nI_add, pk_mul]; congr 1; omega) | (simp only [*, glit, nI_add, pk_mul]; congr 1; omega)) (by first | rfl | assumption | (simp only [glit, nI_add, pk_mul]; done) | (simp only [glit, nI_add, pk_mul]; congr 1; omega) | (simp only [*, glit, nI_add, pk_mul]; congr 1; omega)) (by omega) (by omega)
        refine g_aload_n C dX9_goes_11 rfl ?_
        refine g_get C dX9_goes_12 iwX9 rfl (wO_M δ _) 19 (Nat.le_of_ble_eq_true rfl) mW591 rfl rfl ?_
        refine g_iload C dX9_goes_15 rfl ?_
        refine g_lconst (v := 0) C dX9_goes_17 (by decide) ?_
        refine g_lastN C dX9_goes_18 (k := q) (q := 14) (by decide) rfl (by first | rfl | assumption | (simp only [glit, nI_add, pk_mul]; done) | (simp only [glit, nI_add, pk_mul]; congr 1; omega) | (simp only [*, glit, nI_add, pk_mul]; congr 1; omega)) (show q < gLenL 14 from Nat.lt_of_lt_of_eq (show q < 4394 by omega) rfl) ?_
        refine g_iinc (v := nI (q + 1)) C dX9_goes_19 rfl (ginc _ 1) rfl ?_
        refine g_lv [some _, some _, some _, some _, some _, some _, some _, some _, none, none, none, none, none] (gs_some (gs_some (gs_some (gs_some (gs_some (gs_some (gs_some (gs_some (gs_none (gs_none (gs_none (gs_none (gs_none gs_nil))))))))))))) ?_
        refine g_goto C 3 dX9_goes_22 (by decide) ?_
        refine g_lv [some _, some _, some _, some _, some _, some _, some _, some _, none, none, none, none, none] (gs_some (gs_some (gs_some (gs_some (gs_some (gs_some (gs_some (gs_some (gs_none (gs_none (gs_none (gs_none (gs_none gs_nil))))))))))))) ?_
        rw [uL_uL, gL_uL, if_pos rfl]
        exact ih_3 (q + 1) _ (by omega) (fun z h => vp_fill hf h) (by omega)
  refine g_lv [some _, some _, some _, some _, some _, some _, some _, some _, none, none, none, none, none] (gs_some (gs_some (gs_some (gs_some (gs_some (gs_some (gs_some (gs_some (gs_none (gs_none (gs_none (gs_none (gs_none gs_nil))))))))))))) ?_
  refine g_st (uL_id _ 14).symm ?_
  exact L_3 _ 0 _ (by omega) (fun _ h => absurd h (Nat.not_lt_zero _)) (Nat.lt_succ_self _)
