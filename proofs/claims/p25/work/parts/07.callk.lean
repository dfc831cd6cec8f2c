theorem gs_nil : gSubB [] [] := trivial
theorem gs_some {v : Value} {l' l : List (Option Value)} (h : gSubB l' l) : gSubB (some v :: l') (some v :: l) := ⟨rfl, h⟩
theorem gs_none {w : Option Value} {l' l : List (Option Value)} (h : gSubB l' l) : gSubB (none :: l') (w :: l) := h
section GCK
variable {Γ : GX} {δ : GD} {σ : GS} {cc : ByteArray} {own : String} {nL fr lo pc : Nat} {lv : List (Option Value)} {st st' rest As : List Value} {y : MethodName} {c : ByteArray} {n : Nat} {ret : Option FieldType} {fr' lo' idx k b : Nat}
theorem g_callVi {p : Int32 → GS → Prop} (C : gC Γ δ cc own nL fr lo) (hs : gSV own idx y c n ret k) (d : decode cc pc = .ok (.invokevirtual idx, 3)) (hM : gM Γ.1.2.1 δ y c n ret fr' lo' (.ref b :: As) σ (gPi p)) (hroom : fr' + 1 ≤ fr ∧ 8 + (n + 11) + lo' ≤ lo) {q ci N : Nat} {T : u_T} {fs : List Value} (ho : (wG δ σ)[q]? = some (b, .inr (ci, fs))) (hc : vwCl[ci]? = some (y.cls, T, N)) (hlv : lv.length = nL) (hn : As.length = k) (hst : st = As.reverse ++ .ref b :: rest) (hrest : (rest.map fun v => v.category).sum ≤ 8)
    (kk : ∀ (r : Int32) (σ' : GS), p r σ' → gW Γ δ σ' (pc + 3) lv (.int r :: rest)) : gW Γ δ σ pc lv st :=
  g_callV C hs d hM hroom ho hc hlv hn hst hrest (fun rv σ' h => by
    obtain ⟨r, e, hp⟩ := h
    subst e
    exact kk r σ' hp)
theorem g_callVl {p : Int64 → GS → Prop} (C : gC Γ δ cc own nL fr lo) (hs : gSV own idx y c n ret k) (d : decode cc pc = .ok (.invokevirtual idx, 3)) (hM : gM Γ.1.2.1 δ y c n ret fr' lo' (.ref b :: As) σ (gPl p)) (hroom : fr' + 1 ≤ fr ∧ 8 + (n + 11) + lo' ≤ lo) {q ci N : Nat} {T : u_T} {fs : List Value} (ho : (wG δ σ)[q]? = some (b, .inr (ci, fs))) (hc : vwCl[ci]? = some (y.cls, T, N)) (hlv : lv.length = nL) (hn : As.length = k) (hst : st = As.reverse ++ .ref b :: rest) (hrest : (rest.map fun v => v.category).sum ≤ 8)
    (kk : ∀ (r : Int64) (σ' : GS), p r σ' → gW Γ δ σ' (pc + 3) lv (.long r :: rest)) : gW Γ δ σ pc lv st :=
  g_callV C hs d hM hroom ho hc hlv hn hst hrest (fun rv σ' h => by
    obtain ⟨r, e, hp⟩ := h
    subst e
    exact kk r σ' hp)
theorem g_callVv {p : GS → Prop} (C : gC Γ δ cc own nL fr lo) (hs : gSV own idx y c n ret k) (d : decode cc pc = .ok (.invokevirtual idx, 3)) (hM : gM Γ.1.2.1 δ y c n ret fr' lo' (.ref b :: As) σ (gPv p)) (hroom : fr' + 1 ≤ fr ∧ 8 + (n + 11) + lo' ≤ lo) {q ci N : Nat} {T : u_T} {fs : List Value} (ho : (wG δ σ)[q]? = some (b, .inr (ci, fs))) (hc : vwCl[ci]? = some (y.cls, T, N)) (hlv : lv.length = nL) (hn : As.length = k) (hst : st = As.reverse ++ .ref b :: rest) (hrest : (rest.map fun v => v.category).sum ≤ 8)
    (kk : ∀ (σ' : GS), p σ' → gW Γ δ σ' (pc + 3) lv rest) : gW Γ δ σ pc lv st :=
  g_callV C hs d hM hroom ho hc hlv hn hst hrest (fun rv σ' h => by
    obtain ⟨e, hp⟩ := h
    subst e
    exact kk σ' hp)
theorem g_callVr {p : Value → GS → Prop} (C : gC Γ δ cc own nL fr lo) (hs : gSV own idx y c n ret k) (d : decode cc pc = .ok (.invokevirtual idx, 3)) (hM : gM Γ.1.2.1 δ y c n ret fr' lo' (.ref b :: As) σ (gPr p)) (hroom : fr' + 1 ≤ fr ∧ 8 + (n + 11) + lo' ≤ lo) {q ci N : Nat} {T : u_T} {fs : List Value} (ho : (wG δ σ)[q]? = some (b, .inr (ci, fs))) (hc : vwCl[ci]? = some (y.cls, T, N)) (hlv : lv.length = nL) (hn : As.length = k) (hst : st = As.reverse ++ .ref b :: rest) (hrest : (rest.map fun v => v.category).sum ≤ 8)
    (kk : ∀ (r : Value) (σ' : GS), p r σ' → gW Γ δ σ' (pc + 3) lv (r :: rest)) : gW Γ δ σ pc lv st :=
  g_callV C hs d hM hroom ho hc hlv hn hst hrest (fun rv σ' h => by
    obtain ⟨r, e, hp⟩ := h
    subst e
    exact kk r σ' hp)
theorem g_callSi {p : Int32 → GS → Prop} (C : gC Γ δ cc own nL fr lo) (hs : gSS own idx y c n ret k) (d : decode cc pc = .ok (.invokestatic idx, 3)) (hM : gM Γ.1.2.1 δ y c n ret fr' lo' As σ (gPi p)) (hroom : fr' + 1 ≤ fr ∧ 8 + (n + 11) + lo' ≤ lo) (hlv : lv.length = nL) (hn : As.length = k) (hst : st = As.reverse ++ rest) (hrest : (rest.map fun v => v.category).sum ≤ 8)
    (kk : ∀ (r : Int32) (σ' : GS), p r σ' → gW Γ δ σ' (pc + 3) lv (.int r :: rest)) : gW Γ δ σ pc lv st :=
  g_callS C hs d hM hroom hlv hn hst hrest (fun rv σ' h => by
    obtain ⟨r, e, hp⟩ := h
    subst e
    exact kk r σ' hp)
theorem g_callSl {p : Int64 → GS → Prop} (C : gC Γ δ cc own nL fr lo) (hs : gSS own idx y c n ret k) (d : decode cc pc = .ok (.invokestatic idx, 3)) (hM : gM Γ.1.2.1 δ y c n ret fr' lo' As σ (gPl p)) (hroom : fr' + 1 ≤ fr ∧ 8 + (n + 11) + lo' ≤ lo) (hlv : lv.length = nL) (hn : As.length = k) (hst : st = As.reverse ++ rest) (hrest : (rest.map fun v => v.category).sum ≤ 8)
    (kk : ∀ (r : Int64) (σ' : GS), p r σ' → gW Γ δ σ' (pc + 3) lv (.long r :: rest)) : gW Γ δ σ pc lv st :=
  g_callS C hs d hM hroom hlv hn hst hrest (fun rv σ' h => by
    obtain ⟨r, e, hp⟩ := h
    subst e
    exact kk r σ' hp)
theorem g_callSv {p : GS → Prop} (C : gC Γ δ cc own nL fr lo) (hs : gSS own idx y c n ret k) (d : decode cc pc = .ok (.invokestatic idx, 3)) (hM : gM Γ.1.2.1 δ y c n ret fr' lo' As σ (gPv p)) (hroom : fr' + 1 ≤ fr ∧ 8 + (n + 11) + lo' ≤ lo) (hlv : lv.length = nL) (hn : As.length = k) (hst : st = As.reverse ++ rest) (hrest : (rest.map fun v => v.category).sum ≤ 8)
    (kk : ∀ (σ' : GS), p σ' → gW Γ δ σ' (pc + 3) lv rest) : gW Γ δ σ pc lv st :=
  g_callS C hs d hM hroom hlv hn hst hrest (fun rv σ' h => by
    obtain ⟨e, hp⟩ := h
    subst e
    exact kk σ' hp)
theorem g_callNl {p : Int64 → GS → Prop} (C : gC Γ δ cc own nL fr lo) {host : String} (hs : Cond.static y ∈ gWs ∧ Cond.initialized y.cls ∈ gWs ∧ Cond.code y c n ret ∈ gWs ∧ (y.cls ≠ "java/lang/invoke/MethodHandle" ∧ y.cls ≠ "java/lang/invoke/VarHandle") ∧ (parseMethodDescriptor y.desc).map (fun d => d.parameters.length) = some k) (hl : va_Nw (.methodLinkNest own idx y host) Γ.2.1.1) (d : decode cc pc = .ok (.invokestatic idx, 3)) (hM : gM Γ.1.2.1 δ y c n ret fr' lo' As σ (gPl p)) (hroom : fr' + 1 ≤ fr ∧ 8 + (n + 11) + lo' ≤ lo) (hlv : lv.length = nL) (hn : As.length = k) (hst : st = As.reverse ++ rest) (hrest : (rest.map fun v => v.category).sum ≤ 8)
    (kk : ∀ (r : Int64) (σ' : GS), p r σ' → gW Γ δ σ' (pc + 3) lv (.long r :: rest)) : gW Γ δ σ pc lv st :=
  g_callN C hs hl d hM hroom hlv hn hst hrest (fun rv σ' h => by
    obtain ⟨r, e, hp⟩ := h
    subst e
    exact kk r σ' hp)
end GCK
theorem pN_0 (δ : GD) (σ : GS) (v : Int32) : (wG δ σ).set 0 (δ.2.2.1 0, .inr (8, [.ref (δ.2.2.1 99), .ref (δ.2.2.1 100), .ref (δ.2.2.1 16), .ref (δ.2.2.1 17), .ref (δ.2.2.1 18), .ref (δ.2.2.1 19), .ref (δ.2.2.1 20), .ref (δ.2.2.1 21), .int v, .int (gN σ 1)])) = wG δ (uN σ 0 v) := wG_setN δ σ 0 v (by decide) rfl
theorem pN_1 (δ : GD) (σ : GS) (v : Int32) : (wG δ σ).set 0 (δ.2.2.1 0, .inr (8, [.ref (δ.2.2.1 99), .ref (δ.2.2.1 100), .ref (δ.2.2.1 16), .ref (δ.2.2.1 17), .ref (δ.2.2.1 18), .ref (δ.2.2.1 19), .ref (δ.2.2.1 20), .ref (δ.2.2.1 21), .int (gN σ 0), .int v])) = wG δ (uN σ 1 v) := wG_setN δ σ 1 v (by decide) rfl
theorem pN_30 (δ : GD) (σ : GS) (v : Int32) : (wG δ σ).set 16 (δ.2.2.1 16, .inr (2, [.ref (δ.2.2.1 101), .int v, .int (gN σ 31)])) = wG δ (uN σ 30 v) := wG_setN δ σ 30 v (by decide) rfl
theorem pN_31 (δ : GD) (σ : GS) (v : Int32) : (wG δ σ).set 16 (δ.2.2.1 16, .inr (2, [.ref (δ.2.2.1 101), .int (gN σ 30), .int v])) = wG δ (uN σ 31 v) := wG_setN δ σ 31 v (by decide) rfl
theorem pN_32 (δ : GD) (σ : GS) (v : Int32) : (wG δ σ).set 17 (δ.2.2.1 17, .inr (4, [.ref (δ.2.2.1 66), .ref (δ.2.2.1 67), .int v, .long (gG σ 0)])) = wG δ (uN σ 32 v) := wG_setN δ σ 32 v (by decide) rfl
theorem pG_0 (δ : GD) (σ : GS) (v : Int64) : (wG δ σ).set 17 (δ.2.2.1 17, .inr (4, [.ref (δ.2.2.1 66), .ref (δ.2.2.1 67), .int (gN σ 32), .long v])) = wG δ (uG σ 0 v) := wG_setG δ σ 0 v (by decide) rfl
theorem pG_4 (δ : GD) (σ : GS) (v : Int64) : (wG δ σ).set 18 (δ.2.2.1 18, .inr (5, [.ref (δ.2.2.1 68), .long v, .long (gG σ 5)])) = wG δ (uG σ 4 v) := wG_setG δ σ 4 v (by decide) rfl
theorem pG_5 (δ : GD) (σ : GS) (v : Int64) : (wG δ σ).set 18 (δ.2.2.1 18, .inr (5, [.ref (δ.2.2.1 68), .long (gG σ 4), .long v])) = wG δ (uG σ 5 v) := wG_setG δ σ 5 v (by decide) rfl
theorem pG_6 (δ : GD) (σ : GS) (v : Int64) : (wG δ σ).set 20 (δ.2.2.1 20, .inr (0, [.ref (δ.2.2.1 (90 + gP σ % 2)), .ref (δ.2.2.1 (90 + gP σ / 2 % 2)), .ref (δ.2.2.1 69), .ref (δ.2.2.1 70), .ref (δ.2.2.1 71), .ref (δ.2.2.1 92), .ref (δ.2.2.1 93), .long v, .long (gG σ 7), .long (gG σ 8), .long (gG σ 9)])) = wG δ (uG σ 6 v) := wG_setG δ σ 6 v (by decide) rfl
theorem pG_7 (δ : GD) (σ : GS) (v : Int64) : (wG δ σ).set 20 (δ.2.2.1 20, .inr (0, [.ref (δ.2.2.1 (90 + gP σ % 2)), .ref (δ.2.2.1 (90 + gP σ / 2 % 2)), .ref (δ.2.2.1 69), .ref (δ.2.2.1 70), .ref (δ.2.2.1 71), .ref (δ.2.2.1 92), .ref (δ.2.2.1 93), .long (gG σ 6), .long v, .long (gG σ 8), .long (gG σ 9)])) = wG δ (uG σ 7 v) := wG_setG δ σ 7 v (by decide) rfl
theorem pG_8 (δ : GD) (σ : GS) (v : Int64) : (wG δ σ).set 20 (δ.2.2.1 20, .inr (0, [.ref (δ.2.2.1 (90 + gP σ % 2)), .ref (δ.2.2.1 (90 + gP σ / 2 % 2)), .ref (δ.2.2.1 69), .ref (δ.2.2.1 70), .ref (δ.2.2.1 71), .ref (δ.2.2.1 92), .ref (δ.2.2.1 93), .long (gG σ 6), .long (gG σ 7), .long v, .long (gG σ 9)])) = wG δ (uG σ 8 v) := wG_setG δ σ 8 v (by decide) rfl
theorem pG_9 (δ : GD) (σ : GS) (v : Int64) : (wG δ σ).set 20 (δ.2.2.1 20, .inr (0, [.ref (δ.2.2.1 (90 + gP σ % 2)), .ref (δ.2.2.1 (90 + gP σ / 2 % 2)), .ref (δ.2.2.1 69), .ref (δ.2.2.1 70), .ref (δ.2.2.1 71), .ref (δ.2.2.1 92), .ref (δ.2.2.1 93), .long (gG σ 6), .long (gG σ 7), .long (gG σ 8), .long v])) = wG δ (uG σ 9 v) := wG_setG δ σ 9 v (by decide) rfl
theorem pG_1 (δ : GD) (σ : GS) (v : Int64) : (wG δ σ).set 21 (δ.2.2.1 21, .inr (1, [.long v, .long (gG σ 2), .long (gG σ 3)])) = wG δ (uG σ 1 v) := wG_setG δ σ 1 v (by decide) rfl
theorem pG_2 (δ : GD) (σ : GS) (v : Int64) : (wG δ σ).set 21 (δ.2.2.1 21, .inr (1, [.long (gG σ 1), .long v, .long (gG σ 3)])) = wG δ (uG σ 2 v) := wG_setG δ σ 2 v (by decide) rfl
theorem pG_3 (δ : GD) (σ : GS) (v : Int64) : (wG δ σ).set 21 (δ.2.2.1 21, .inr (1, [.long (gG σ 1), .long (gG σ 2), .long v])) = wG δ (uG σ 3 v) := wG_setG δ σ 3 v (by decide) rfl
theorem pN_33 (δ : GD) (σ : GS) (v : Int32) : (wG δ σ).set 1 (δ.2.2.1 1, .inr (9, (gFldM δ.2.2.1 σ).set 4 (.int v))) = wG δ (uN σ 33 v) := wG_setN δ σ 33 v (by decide) rfl
theorem pN_34 (δ : GD) (σ : GS) (v : Int32) : (wG δ σ).set 1 (δ.2.2.1 1, .inr (9, (gFldM δ.2.2.1 σ).set 8 (.int v))) = wG δ (uN σ 34 v) := wG_setN δ σ 34 v (by decide) rfl
theorem pN_35 (δ : GD) (σ : GS) (v : Int32) : (wG δ σ).set 1 (δ.2.2.1 1, .inr (9, (gFldM δ.2.2.1 σ).set 12 (.int v))) = wG δ (uN σ 35 v) := wG_setN δ σ 35 v (by decide) rfl
theorem pN_36 (δ : GD) (σ : GS) (v : Int32) : (wG δ σ).set 1 (δ.2.2.1 1, .inr (9, (gFldM δ.2.2.1 σ).set 15 (.int v))) = wG δ (uN σ 36 v) := wG_setN δ σ 36 v (by decide) rfl
theorem pG_10 (δ : GD) (σ : GS) (v : Int64) : (wG δ σ).set 1 (δ.2.2.1 1, .inr (9, (gFldM δ.2.2.1 σ).set 9 (.long v))) = wG δ (uG σ 10 v) := wG_setG δ σ 10 v (by decide) rfl
theorem pG_11 (δ : GD) (σ : GS) (v : Int64) : (wG δ σ).set 1 (δ.2.2.1 1, .inr (9, (gFldM δ.2.2.1 σ).set 10 (.long v))) = wG δ (uG σ 11 v) := wG_setG δ σ 11 v (by decide) rfl
theorem pG_12 (δ : GD) (σ : GS) (v : Int64) : (wG δ σ).set 1 (δ.2.2.1 1, .inr (9, (gFldM δ.2.2.1 σ).set 11 (.long v))) = wG δ (uG σ 12 v) := wG_setG δ σ 12 v (by decide) rfl
theorem pG_13 (δ : GD) (σ : GS) (v : Int64) : (wG δ σ).set 1 (δ.2.2.1 1, .inr (9, (gFldM δ.2.2.1 σ).set 17 (.long v))) = wG δ (uG σ 13 v) := wG_setG δ σ 13 v (by decide) rfl
theorem pG_14 (δ : GD) (σ : GS) (v : Int64) : (wG δ σ).set 1 (δ.2.2.1 1, .inr (9, (gFldM δ.2.2.1 σ).set 18 (.long v))) = wG δ (uG σ 14 v) := wG_setG δ σ 14 v (by decide) rfl
theorem pG_15 (δ : GD) (σ : GS) (v : Int64) : (wG δ σ).set 1 (δ.2.2.1 1, .inr (9, (gFldM δ.2.2.1 σ).set 20 (.long v))) = wG δ (uG σ 15 v) := wG_setG δ σ 15 v (by decide) rfl
theorem pG_16 (δ : GD) (σ : GS) (v : Int64) : (wG δ σ).set 1 (δ.2.2.1 1, .inr (9, (gFldM δ.2.2.1 σ).set 21 (.long v))) = wG δ (uG σ 16 v) := wG_setG δ σ 16 v (by decide) rfl
theorem pSk (δ : GD) (σ : GS) (v : Int32) {u : Nat} (h : u < 6) : (wG δ σ).set (2 + u) (δ.2.2.1 (2 + u), .inr (6, [.ref (δ.2.2.1 (82 + u)), .int v, .int (gN σ (8 + u))])) = wG δ (uN σ (2 + u) v) := by
  have e : gHomeN (2 + u) = 2 + u := gHomeN_sh (by omega) (by omega)
  have w := wG_setN δ σ (2 + u) v (e := (6, [.ref (δ.2.2.1 (82 + u)), .int v, .int (gN σ (8 + u))])) (by rw [e]; omega) (by
    rw [e, gFld_sh _ _ (by omega) (by omega), gN_uN, if_pos rfl, gN_uN, if_neg (by omega), show 80 + (2 + u) = 82 + u by omega, show 6 + (2 + u) = 8 + u by omega])
  rw [e] at w
  exact w
theorem pSl (δ : GD) (σ : GS) (v : Int32) {u : Nat} (h : u < 6) : (wG δ σ).set (2 + u) (δ.2.2.1 (2 + u), .inr (6, [.ref (δ.2.2.1 (82 + u)), .int (gN σ (2 + u)), .int v])) = wG δ (uN σ (8 + u) v) := by
  have e : gHomeN (8 + u) = 2 + u := by rw [show 8 + u = 6 + (2 + u) by omega]; exact gHomeN_sl (by omega) (by omega)
  have w := wG_setN δ σ (8 + u) v (e := (6, [.ref (δ.2.2.1 (82 + u)), .int (gN σ (2 + u)), .int v])) (by rw [e]; omega) (by
    rw [e, gFld_sh _ _ (by omega) (by omega), gN_uN, if_neg (by omega), gN_uN, if_pos (by omega), show 80 + (2 + u) = 82 + u by omega])
  rw [e] at w
  exact w
theorem pUc (δ : GD) (σ : GS) (v : Int32) {u : Nat} (h : u < 8) : (wG δ σ).set (8 + u) (δ.2.2.1 (8 + u), .inr (7, [.ref (δ.2.2.1 (22 + u)), .ref (δ.2.2.1 (30 + u)), .ref (δ.2.2.1 (38 + u)), .int v, .int (gN σ (22 + u))])) = wG δ (uN σ (14 + u) v) := by
  have e : gHomeN (14 + u) = 8 + u := by rw [show 14 + u = 6 + (8 + u) by omega]; exact gHomeN_uc (by omega) (by omega)
  have w := wG_setN δ σ (14 + u) v (e := (7, [.ref (δ.2.2.1 (22 + u)), .ref (δ.2.2.1 (30 + u)), .ref (δ.2.2.1 (38 + u)), .int v, .int (gN σ (22 + u))])) (by rw [e]; omega) (by
    rw [e, gFld_ur _ _ (by omega) (by omega), gN_uN, if_pos (by omega), gN_uN, if_neg (by omega), show 14 + (8 + u) = 22 + u by omega, show 22 + (8 + u) = 30 + u by omega, show 30 + (8 + u) = 38 + u by omega])
  rw [e] at w
  exact w
theorem pUd (δ : GD) (σ : GS) (v : Int32) {u : Nat} (h : u < 8) : (wG δ σ).set (8 + u) (δ.2.2.1 (8 + u), .inr (7, [.ref (δ.2.2.1 (22 + u)), .ref (δ.2.2.1 (30 + u)), .ref (δ.2.2.1 (38 + u)), .int (gN σ (14 + u)), .int v])) = wG δ (uN σ (22 + u) v) := by
  have e : gHomeN (22 + u) = 8 + u := by rw [show 22 + u = 14 + (8 + u) by omega]; exact gHomeN_ud (by omega) (by omega)
  have w := wG_setN δ σ (22 + u) v (e := (7, [.ref (δ.2.2.1 (22 + u)), .ref (δ.2.2.1 (30 + u)), .ref (δ.2.2.1 (38 + u)), .int (gN σ (14 + u)), .int v])) (by rw [e]; omega) (by
    rw [e, gFld_ur _ _ (by omega) (by omega), gN_uN, if_neg (by omega), gN_uN, if_pos (by omega), show 14 + (8 + u) = 22 + u by omega, show 22 + (8 + u) = 30 + u by omega, show 30 + (8 + u) = 38 + u by omega, show 6 + (8 + u) = 14 + u by omega])
  rw [e] at w
  exact w
/-- now := the array of 'next', or the other way round -/
theorem pP (δ : GD) (σ : GS) (P : Nat) : (wG δ σ).set 20 (δ.2.2.1 20, .inr (0, [.ref (δ.2.2.1 (90 + P % 2)), .ref (δ.2.2.1 (90 + P / 2 % 2)), .ref (δ.2.2.1 69), .ref (δ.2.2.1 70), .ref (δ.2.2.1 71), .ref (δ.2.2.1 92), .ref (δ.2.2.1 93), .long (gG σ 6), .long (gG σ 7), .long (gG σ 8), .long (gG σ 9)])) = wG δ (uP σ P) := by
  refine wG_setO δ (by decide) rfl rfl rfl (fun j hj h => ?_)
  rcases gCases hj with rfl | rfl | ⟨h1, h2⟩ | ⟨h1, h2⟩ | rfl | rfl | rfl | rfl | rfl | rfl
  · rfl
  · rfl
  · rw [gFld_sh _ _ h1 h2, gFld_sh _ _ h1 h2]; rfl
  · rw [gFld_ur _ _ h1 h2, gFld_ur _ _ h1 h2]; rfl
  · rfl
  · rfl
  · rfl
  · rfl
  · exact absurd rfl h
  · rfl
