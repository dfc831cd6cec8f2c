theorem law_K {args : Array Value} {s : State} (hts : ∀ w ∈ lw_tbl, w.before args s = true) : ∃ (D : va_G) (cy : Nat → ClassId), va_K D vwCl (gT cy) s := by
  obtain ⟨c0, i0, k0⟩ := u_known (C := RX0) (T := TX0) (N := 11) (n := 11) hts (fun w h => gWs_in _ (iwX0 w h)) (hts _ (gWs_in _ mW103))
  obtain ⟨c1, i1, k1⟩ := u_known (C := RX1) (T := TX1) (N := 3) (n := 3) hts (fun w h => gWs_in _ (iwX1 w h)) (hts _ (gWs_in _ mW149))
  obtain ⟨c2, i2, k2⟩ := u_known (C := RX2) (T := TX2) (N := 3) (n := 3) hts (fun w h => gWs_in _ (iwX2 w h)) (hts _ (gWs_in _ mW26))
  obtain ⟨c3, i3, k3⟩ := u_known (C := RX3) (T := TX3) (N := 2) (n := 2) hts (fun w h => gWs_in _ (iwX3 w h)) (hts _ (gWs_in _ mW89))
  obtain ⟨c4, i4, k4⟩ := u_known (C := RX4) (T := TX4) (N := 4) (n := 4) hts (fun w h => gWs_in _ (iwX4 w h)) (hts _ (gWs_in _ mW46))
  obtain ⟨c5, i5, k5⟩ := u_known (C := RX5) (T := TX5) (N := 3) (n := 3) hts (fun w h => gWs_in _ (iwX5 w h)) (hts _ (gWs_in _ mW69))
  obtain ⟨c6, i6, k6⟩ := u_known (C := RX6) (T := TX6) (N := 3) (n := 3) hts (fun w h => gWs_in _ (iwX6 w h)) (hts _ (gWs_in _ mW167))
  obtain ⟨c7, i7, k7⟩ := u_known (C := RX7) (T := TX7) (N := 5) (n := 5) hts (fun w h => gWs_in _ (iwX7 w h)) (hts _ (gWs_in _ mW184))
  obtain ⟨c8, i8, k8⟩ := u_known (C := RX8) (T := TX8) (N := 10) (n := 10) hts (fun w h => gWs_in _ (iwX8 w h)) (hts _ (gWs_in _ mW14))
  obtain ⟨c9, i9, k9⟩ := u_known (C := RX9) (T := TX9) (N := 26) (n := 26) hts (fun w h => gWs_in _ (iwX9 w h)) (hts _ (gWs_in _ mW567))
  obtain ⟨a0, b0, d0, h0, h0b, h0c⟩ := Cond.arrayClass_spec (hts _ mW44)
  obtain ⟨a1, b1, d1, h1, h1b, h1c⟩ := Cond.arrayClass_spec (hts _ mW101)
  obtain ⟨d2, a2, b2, h2, -, h2b, h2c, h2d⟩ := Cond.arrayOver_spec (hts _ mW22)
  obtain ⟨d3, a3, b3, h3, -, h3b, h3c, h3d⟩ := Cond.arrayOver_spec (hts _ mW24)
  obtain ⟨d4, a4, b4, h4, h4b, h4c, h4d⟩ := Cond.arrayOver_specA (hts _ mW32)
  refine ⟨(fun c => ([c0, c1, c2, c3, c4, c5, c6, c7, c8, c9] : List ClassId).getD c c0, fun c => ([i0, i1, i2, i3, i4, i5, i6, i7, i8, i9] : List (Nat → Nat)).getD c i0), fun t => ([a0, a1, a2, a3, a4] : List ClassId).getD t a0, ?_, ?_⟩
  · intro k q hq
    match k, hq with
    | 0, hq => cases hq; exact k0
    | 1, hq => cases hq; exact k1
    | 2, hq => cases hq; exact k2
    | 3, hq => cases hq; exact k3
    | 4, hq => cases hq; exact k4
    | 5, hq => cases hq; exact k5
    | 6, hq => cases hq; exact k6
    | 7, hq => cases hq; exact k7
    | 8, hq => cases hq; exact k8
    | 9, hq => cases hq; exact k9
    | k + 10, hq => simp [vwCl] at hq
  · intro k q hq
    match k, hq with
    | 0, hq => cases hq; exact ⟨fun n z => ⟨fun k h => (by cases h), b0, h0b, d0, h0c⟩, h0⟩
    | 1, hq => cases hq; exact ⟨fun n z => ⟨fun k h => (by cases h), b1, h1b, d1, h1c⟩, h1⟩
    | 2, hq => cases hq; exact ⟨fun n z => ⟨fun k h => (by cases h), b2, h2b, d2, h2c⟩, b2, d2, h2b, h2c, h2, h2d⟩
    | 3, hq => cases hq; exact ⟨fun n z => ⟨fun k h => (by cases h), b3, h3b, d3, h3c⟩, b3, d3, h3b, h3c, h3, h3d⟩
    | 4, hq => cases hq; exact ⟨fun n z => ⟨fun k h => (by cases h), b4, h4b, d4, h4c⟩, h4d⟩
    | k + 5, hq => simp [gT] at hq
theorem law_N {args : Array Value} {s : State} (hts : ∀ w ∈ lw_tbl, w.before args s = true) : kN8 s ∧ gNest s :=
  ⟨⟨va_AO.of (hts _ mW22), va_AO.of (hts _ mW24), hts _ mW32, va_Nw.of rfl (hts _ mW27), va_Nw.of rfl (hts _ mW47), va_Nw.of rfl (hts _ mW70), va_Nw.of rfl (hts _ mW90), va_Nw.of rfl (hts _ mW104), va_Nw.of rfl (hts _ mW150), va_Nw.of rfl (hts _ mW168)⟩, ⟨va_Nw.of rfl (hts _ mW432), va_Nw.of rfl (hts _ mW441)⟩⟩
theorem law_T {args : Array Value} {s : State} {A : Nat → Prop} (hts : ∀ w ∈ lw_tbl, w.before args s = true) (hg : (Jvm.Cond.and given_1 narrow_1).before args s = true) (hA : ∀ a : Nat, a < s.heap.size → ¬ A a) : ∃ t0 t1 : Nat, (va_Z "GrowingUrns$After" "STEPS" "[I" (.ref t0) A s s.heap ∧ va_T .int t0 4 gStep A s s.heap) ∧ (va_Z "GrowingUrns$Orders" "STEPS" "[I" (.ref t1) A s s.heap ∧ va_T .int t1 4 gStepO A s s.heap) := by
  have hs := flat_of_before _ hg
  have ha_t0 : (Jvm.Cond.arrayOf (Jvm.Term.static "GrowingUrns$After" "STEPS" "[I") .int).before args s = true := hs _ (by decide +kernel)
  have hl_t0 : (Jvm.Cond.eq (Jvm.Term.length (Jvm.Term.static "GrowingUrns$After" "STEPS" "[I")) (Jvm.Term.int 4)).before args s = true := hs _ (by decide +kernel)
  have he_t0_0 : (Jvm.Cond.eq (Jvm.Term.elem (Jvm.Term.static "GrowingUrns$After" "STEPS" "[I") (Jvm.Term.int 0)) (Jvm.Term.int 169)).before args s = true := hs _ (by decide +kernel)
  have he_t0_1 : (Jvm.Cond.eq (Jvm.Term.elem (Jvm.Term.static "GrowingUrns$After" "STEPS" "[I") (Jvm.Term.int 1)) (Jvm.Term.int 13)).before args s = true := hs _ (by decide +kernel)
  have he_t0_2 : (Jvm.Cond.eq (Jvm.Term.elem (Jvm.Term.static "GrowingUrns$After" "STEPS" "[I") (Jvm.Term.int 2)) (Jvm.Term.int 1)).before args s = true := hs _ (by decide +kernel)
  have he_t0_3 : (Jvm.Cond.eq (Jvm.Term.elem (Jvm.Term.static "GrowingUrns$After" "STEPS" "[I") (Jvm.Term.int 3)) (Jvm.Term.int 0)).before args s = true := hs _ (by decide +kernel)
  obtain ⟨t0, hv_t0, hT_t0⟩ := va_Tof (N := 4) (f := gStep) (A := A) (by decide) ha_t0 (va_eqt hl_t0) (fun j hj => by
    rcases (show j = 0 ∨ j = 1 ∨ j = 2 ∨ j = 3 by omega) with rfl | rfl | rfl | rfl
    · exact va_eqt he_t0_0
    · exact va_eqt he_t0_1
    · exact va_eqt he_t0_2
    · exact va_eqt he_t0_3) hA
  have hZ_t0 : va_Z "GrowingUrns$After" "STEPS" "[I" (.ref t0) A s s.heap := va_Zref (hts _ mW482) (hts _ (gWs_in _ mW6)) hv_t0 hA
  have ha_t1 : (Jvm.Cond.arrayOf (Jvm.Term.static "GrowingUrns$Orders" "STEPS" "[I") .int).before args s = true := hs _ (by decide +kernel)
  have hl_t1 : (Jvm.Cond.eq (Jvm.Term.length (Jvm.Term.static "GrowingUrns$Orders" "STEPS" "[I")) (Jvm.Term.int 4)).before args s = true := hs _ (by decide +kernel)
  have he_t1_0 : (Jvm.Cond.eq (Jvm.Term.elem (Jvm.Term.static "GrowingUrns$Orders" "STEPS" "[I") (Jvm.Term.int 0)) (Jvm.Term.int 36)).before args s = true := hs _ (by decide +kernel)
  have he_t1_1 : (Jvm.Cond.eq (Jvm.Term.elem (Jvm.Term.static "GrowingUrns$Orders" "STEPS" "[I") (Jvm.Term.int 1)) (Jvm.Term.int 6)).before args s = true := hs _ (by decide +kernel)
  have he_t1_2 : (Jvm.Cond.eq (Jvm.Term.elem (Jvm.Term.static "GrowingUrns$Orders" "STEPS" "[I") (Jvm.Term.int 2)) (Jvm.Term.int 1)).before args s = true := hs _ (by decide +kernel)
  have he_t1_3 : (Jvm.Cond.eq (Jvm.Term.elem (Jvm.Term.static "GrowingUrns$Orders" "STEPS" "[I") (Jvm.Term.int 3)) (Jvm.Term.int 0)).before args s = true := hs _ (by decide +kernel)
  obtain ⟨t1, hv_t1, hT_t1⟩ := va_Tof (N := 4) (f := gStepO) (A := A) (by decide) ha_t1 (va_eqt hl_t1) (fun j hj => by
    rcases (show j = 0 ∨ j = 1 ∨ j = 2 ∨ j = 3 by omega) with rfl | rfl | rfl | rfl
    · exact va_eqt he_t1_0
    · exact va_eqt he_t1_1
    · exact va_eqt he_t1_2
    · exact va_eqt he_t1_3) hA
  have hZ_t1 : va_Z "GrowingUrns$Orders" "STEPS" "[I" (.ref t1) A s s.heap := va_Zref (hts _ mW548) (hts _ (gWs_in _ mW5)) hv_t1 hA
  exact ⟨t0, t1, ⟨hZ_t0, hT_t0⟩, ⟨hZ_t1, hT_t1⟩⟩
