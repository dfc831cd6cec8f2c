theorem kb_X8 : ∀ (U : State) (g : JFrame) (mk : MethodId) (a : Array Value), kN8 U → kN8 (U.calling g mk a) := fun U g mk a h =>
  ⟨va_AO.moved (u := U) (Vm.Alike.refl U.vm) h.1, va_AO.moved (u := U) (Vm.Alike.refl U.vm) h.2.1, kb_X2 U g mk a h.2.2.1, va_Nw.same rfl rfl h.2.2.2.1, va_Nw.same rfl rfl h.2.2.2.2.1, va_Nw.same rfl rfl h.2.2.2.2.2.1, va_Nw.same rfl rfl h.2.2.2.2.2.2.1, va_Nw.same rfl rfl h.2.2.2.2.2.2.2.1, va_Nw.same rfl rfl h.2.2.2.2.2.2.2.2.1, va_Nw.same rfl rfl h.2.2.2.2.2.2.2.2.2⟩
theorem kn_X8 {s : State} (h : kN8 s) : ∀ U : State, s.WarmedH U.vm → kN8 U := fun U hW =>
  ⟨va_AO.moved hW.alike h.1, va_AO.moved hW.alike h.2.1, va_AOA.moved hW.alike h.2.2.1, va_Nw.warmM hW h.2.2.2.1, va_Nw.warmM hW h.2.2.2.2.1, va_Nw.warmM hW h.2.2.2.2.2.1, va_Nw.warmM hW h.2.2.2.2.2.2.1, va_Nw.warmM hW h.2.2.2.2.2.2.2.1, va_Nw.warmM hW h.2.2.2.2.2.2.2.2.1, va_Nw.warmM hW h.2.2.2.2.2.2.2.2.2⟩
set_option maxRecDepth 100000 in
set_option maxHeartbeats 4000000 in
/-- THE LAW, from its entry -/
theorem whole_start {p : Program} {e : Env} {s : State} {m : MethodId} {below : List Frame} {meth : Method} {c : Code} (l : Launch) (hflags : l.flags = flags0) {b L : Nat} {xs : Nat → Int32} (hL : L ≤ 3072) (C0 : lw_At p s m meth c b L xs) : W p l e room_1 s m #[Value.ref b] below meth c s.heap [] 0 0 (lw_Z below #[Value.ref b] s) (entryFrame m ([Value.ref b] : List Value).toArray 4) := by
  obtain ⟨hx, hb, hr, hml, hown, hts, hX, hbl, hlocks, hgv⟩ := id C0
  obtain ⟨D, cy, hK⟩ := law_K hts
  obtain ⟨hN8, hNest⟩ := law_N hts
  obtain ⟨t0, t1, hT⟩ := law_T (A := fun q => s.heap.size ≤ q) hts hgv (fun a h => Nat.not_le.mpr h)
  have hl := lv_entry ([.ref b]) (n := 4) (Nat.le_of_ble_eq_true rfl)
  rw [lg_entry_eq]
  have hV : gV ((lg_sl [.ref b] ++ List.replicate (4 - (lg_sl [.ref b]).length) Slot.unset).toArray) [some (.ref b), none, none, none] := by
    refine gV.of hl rfl (fun i v h => ?_)
    match i, h with
    | 0, h => cases h; exact List.mem_cons_self
    | 1, h => cases h
    | 2, h => cases h
    | 3, h => cases h
    | k + 4, h => simp at h
  have C : kC ((p, l, e, room_1), (s, m, #[Value.ref b], below), (meth, c, lw_Z below #[Value.ref b] s), (0, 0)) (D, cy, (fun _ => 0), t0, t1) (fun q => s.heap.size ≤ q) cL_law RL 4 9 366 102 18770 :=
    ⟨hx, hb, hml, hown, fun w hw => (List.mem_append.mp hw).elim (fun h => hts w (gWs_in w h)) (fun h => by
      rcases List.mem_cons.mp h with rfl | h
      · exact hts _ mW44
      · rcases List.mem_cons.mp h with rfl | h
        · exact hts _ mW101
        · cases h), hK, fun q h => h, ⟨Nat.le_of_ble_eq_true rfl, Nat.le_of_ble_eq_true rfl⟩, ⟨Nat.le_of_ble_eq_true rfl, Nat.le_of_ble_eq_true rfl⟩⟩
  suffices K : kW ((p, l, e, room_1), (s, m, #[Value.ref b], below), (meth, c, lw_Z below #[Value.ref b] s), (0, 0)) (D, cy, (fun _ => 0), t0, t1) (fun q => s.heap.size ≤ q) [] 0 0 0 [some (.ref b), none, none, none] [] by
    exact K s.heap [] _ (fun k q h => by simp at h) ⟨fun i j p q h => by simp at h, fun k q h => by simp at h⟩ va_S.rf hV
  refine k_new (ci := 8) C dL_law_0 iwX8 tyX8 tyX8_ok mW13 mW14 mW1 rfl [.null, .null, .null, .null, .null, .null, .null, .null, .int 0, .int 0] (fun j hj => by rcases (show j = 0 ∨ j = 1 ∨ j = 2 ∨ j = 3 ∨ j = 4 ∨ j = 5 ∨ j = 6 ∨ j = 7 ∨ j = 8 ∨ j = 9 by omega) with rfl | rfl | rfl | rfl | rfl | rfl | rfl | rfl | rfl | rfl <;> rfl) (by decide) (by decide) (fun q0 => ?_)
  refine k_ws (ws' := [(q0, .inr (8, [.null, .null, .null, .null, .null, .null, .null, .null, .int 0, .int 0]))]) rfl ?_
  refine k_num (cl' := 1) (sl' := 10) rfl rfl ?_
  refine k_dup C dL_law_3 rfl ?_
  refine k_callI C ks_X8 mW15 dL_law_4 (kc_X8 _ _) kb_X8 (kn_X8 hN8) ⟨by decide, by decide⟩ ⟨by decide, by decide⟩ (wr := []) (b := q0) rfl rfl rfl (Nat.le_of_ble_eq_true rfl) (fun a1 f1 hf1 => ?_)
  refine k_ws (ws' := kw_X8 (D, cy, (fun _ => 0), t0, t1) q0 a1 f1) rfl ?_
  refine k_num (cl' := 86) (sl' := 9516) rfl rfl ?_
  refine k_astore_n C dL_law_7 (Nat.le_of_ble_eq_true rfl) rfl ?_
  refine k_lv [some _, some _, none, none] (gs_some (gs_some (gs_none (gs_none gs_nil)))) ?_
  refine k_new (ci := 9) C dL_law_8 iwX9 tyX9 tyX9_ok mW566 mW567 mW11 rfl [.null, .null, .null, .null, .int 0, .null, .null, .null, .int 0, .long 0, .long 0, .long 0, .int 0, .null, .null, .int 0, .null, .long 0, .long 0, .null, .long 0, .long 0, .null, .null, .null, .null] (fun j hj => by rcases (show j = 0 ∨ j = 1 ∨ j = 2 ∨ j = 3 ∨ j = 4 ∨ j = 5 ∨ j = 6 ∨ j = 7 ∨ j = 8 ∨ j = 9 ∨ j = 10 ∨ j = 11 ∨ j = 12 ∨ j = 13 ∨ j = 14 ∨ j = 15 ∨ j = 16 ∨ j = 17 ∨ j = 18 ∨ j = 19 ∨ j = 20 ∨ j = 21 ∨ j = 22 ∨ j = 23 ∨ j = 24 ∨ j = 25 by omega) with rfl | rfl | rfl | rfl | rfl | rfl | rfl | rfl | rfl | rfl | rfl | rfl | rfl | rfl | rfl | rfl | rfl | rfl | rfl | rfl | rfl | rfl | rfl | rfl | rfl | rfl <;> rfl) (by decide) (by decide) (fun q1 => ?_)
  refine k_num (cl' := 87) (sl' := 9542) rfl rfl ?_
  refine k_dup C dL_law_11 rfl ?_
  refine k_callI C ks_X9 mW568 dL_law_12 (kc_X9 _ _) kb_X1 kn_X1 ⟨by decide, by decide⟩ ⟨by decide, by decide⟩ (wr := kw_X8 (D, cy, (fun _ => 0), t0, t1) q0 a1 f1) (b := q1) rfl rfl rfl (Nat.le_of_ble_eq_true rfl) (fun a2 f2 _ => ?_)
  refine k_num (cl' := 102) (sl' := 18770) rfl rfl ?_
  refine k_astore_n C dL_law_15 (Nat.le_of_ble_eq_true rfl) rfl ?_
  refine k_iconst (v := 0) C dL_law_16 (by decide) ?_
  refine k_istore_n C dL_law_17 (Nat.le_of_ble_eq_true rfl) rfl ?_
  refine k_lv [some _, some _, some _, some _] (gs_some (gs_some (gs_some (gs_some gs_nil)))) ?_
  intro H locs ls hP hD hS hV
  obtain ⟨a, hP', hJ, hA', e0, e1⟩ := g_world (h1 := q0) (h2 := q1) (a1 := a1) (a2 := a2) (f1 := f1) (f2 := f2) hP hD
  subst e0
  subst e1
  have hBA : ∀ q, gA (D, cy, a, t0, t1) s.heap.size q → s.heap.size ≤ q := fun q h => h.elim (fun ⟨k, hk, z⟩ => by rw [z]; exact hA' k hk) id
  have C1 : gC ((p, l, e, room_1), (s, m, #[Value.ref b], below), (meth, c, lw_Z below #[Value.ref b] s), (102, 18770)) (D, cy, a, t0, t1) cL_law RL 4 9 366 :=
    ⟨hx, hb, hml, hown, fun w h => hts w (gWs_in w h), hK, hJ, ⟨⟨hT.1.1.narrow hBA, hT.1.2.narrow hBA⟩, ⟨hT.2.1.narrow hBA, hT.2.2.narrow hBA⟩⟩, hNest, ⟨Nat.le_of_ble_eq_true rfl, Nat.le_of_ble_eq_true rfl⟩, ⟨Nat.le_of_ble_eq_true rfl, Nat.le_of_ble_eq_true rfl⟩⟩
  have hfin : ∀ (σ : GS) (lv : List (Option Value)), gW ((p, l, e, room_1), (s, m, #[Value.ref b], below), (meth, c, lw_Z below #[Value.ref b] s), (102, 18770)) (D, cy, a, t0, t1) σ 1256 lv [] := by
    intro σ lv
    refine g_iconst (v := 1) C1 dL_law_1256 (by decide) ?_
    intro H locs ls hP hS hV
    refine va_forget (fun q hq => hBA _ (hS.2.2 q hq)) ?_
    refine W.widen (k := 600000) (n := 7302250) (Nat.le_of_ble_eq_true rfl) (Nat.le_of_ble_eq_true rfl) ?_
    exact lw_ret hx hb hr hlocks dL_law_1257
  have hS' : va_S (gA (D, cy, a, t0, t1) s.heap.size) s.heap H locs := ⟨hS.1, fun q h1 h2 => hS.2.1 q h1 (fun z => h2 (Or.inr z)), fun q hq => Or.inr (hS.2.2 q hq)⟩
  exact law_go hL C1 hX hbl (fun h => absurd (hBA b h) (Nat.not_le.mpr hbl)) hfin _ (Inv_start hf1) H locs ls hP' hS' hV
