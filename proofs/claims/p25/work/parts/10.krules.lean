-- THE CONSTRUCTORS: a world that is a list and grows; the classes of arrays are known
def kWs : List Cond := gWs ++ [.arrayClass .int, .arrayClass .long]
theorem kWs_in {w : Cond} (h : w ∈ gWs) : w ∈ kWs := List.mem_append_left _ h
theorem kWs_good : GoodIn kWs kWs := fun w h => ⟨h, (List.mem_append.mp h).elim (fun q => (gWs_good w q).2) (fun q => by
  rcases List.mem_cons.mp q with rfl | q
  · exact Or.inr ⟨_, rfl⟩
  · rcases List.mem_cons.mp q with rfl | q
    · exact Or.inr ⟨_, rfl⟩
    · cases q)⟩
def kW (Γ : GX) (δ : GD) (A : Nat → Prop) (ws : va_W) (cl sl pc : Nat) (lv : List (Option Value)) (st : List Value) : Prop :=
  ∀ (H : Heap) (locs : List Loc) (ls : Array Slot), va_P δ.1 vwCl ws H → va_D A ws → va_S A Γ.2.1.1.heap H locs → gV ls lv →
    W Γ.1.1 Γ.1.2.1 Γ.1.2.2.1 Γ.1.2.2.2 Γ.2.1.1 Γ.2.1.2.1 Γ.2.1.2.2.1 Γ.2.1.2.2.2 Γ.2.2.1.1 Γ.2.2.1.2.1 H locs cl sl Γ.2.2.1.2.2 (F0 Γ.2.1.2.1 pc ls st)
def kC (Γ : GX) (δ : GD) (A : Nat → Prop) (cc : ByteArray) (own : String) (nL fr lo mc ms : Nat) : Prop :=
  Γ.1.1.tables.exec = Jvm.exec ∧ Γ.2.2.1.2.1.code = cc ∧ Γ.2.2.1.2.1.maxLocals = nL ∧ Γ.2.1.1.vm.findClass own = some Γ.2.1.2.1.cls ∧ (∀ w ∈ kWs, w.before Γ.2.1.2.2.1 Γ.2.1.1 = true) ∧
  va_K δ.1 vwCl (gT δ.2.1) Γ.2.1.1 ∧ (∀ q, Γ.2.1.1.heap.size ≤ q → A q) ∧ (fr ≤ Γ.1.2.2.2.frames ∧ lo ≤ Γ.1.2.2.2.locals) ∧ (mc ≤ Γ.1.2.2.2.cells ∧ ms ≤ Γ.1.2.2.2.slots)
section KR
variable {Γ : GX} {δ : GD} {A : Nat → Prop} {ws : va_W} {cl sl : Nat} {cc : ByteArray} {own : String} {nL fr lo mc ms pc : Nat} {lv : List (Option Value)} {st : List Value}
theorem k_ws {ws' : va_W} (h : ws = ws') (k : kW Γ δ A ws' cl sl pc lv st) : kW Γ δ A ws cl sl pc lv st := h ▸ k
theorem k_num {cl' sl' : Nat} (h1 : cl = cl') (h2 : sl = sl') (k : kW Γ δ A ws cl' sl' pc lv st) : kW Γ δ A ws cl sl pc lv st := by subst h1; subst h2; exact k
theorem k_sub {lv' : List (Option Value)} (hl : lv'.length = lv.length) (h : ∀ (i : Nat) (v : Value), lv'[i]? = some (some v) → lv[i]? = some (some v)) (k : kW Γ δ A ws cl sl pc lv' st) : kW Γ δ A ws cl sl pc lv st :=
  fun H locs ls hP hD hS hV => k H locs ls hP hD hS ⟨hV.1.trans hl.symm, hV.2.1, fun i v hv => hV.2.2 i v (h i v hv)⟩
theorem k_lv (lv' : List (Option Value)) (h : gSubB lv' lv) (k : kW Γ δ A ws cl sl pc lv' st) : kW Γ δ A ws cl sl pc lv st := k_sub (gSub_of h).1 (gSub_of h).2 k
theorem k_iconst (C : kC Γ δ A cc own nL fr lo mc ms) {n : Int} {v : Int32} (d : decode cc pc = .ok (.iconst n, 1)) (hv : Int32.ofInt n = v) (k : kW Γ δ A ws cl sl (pc + 1) lv (.int v :: st)) : kW Γ δ A ws cl sl pc lv st :=
  fun H locs ls hP hD hS hV => lv_iconst C.1 C.2.1 d hv (k H locs ls hP hD hS hV)
theorem k_bipush (C : kC Γ δ A cc own nL fr lo mc ms) {n : Int} {v : Int32} (d : decode cc pc = .ok (.bipush n, 2)) (hv : (Int8.ofInt n).toInt32 = v) (k : kW Γ δ A ws cl sl (pc + 2) lv (.int v :: st)) : kW Γ δ A ws cl sl pc lv st :=
  fun H locs ls hP hD hS hV => lv_bipush C.1 C.2.1 d hv (k H locs ls hP hD hS hV)
theorem k_sipush (C : kC Γ δ A cc own nL fr lo mc ms) {n : Int} {v : Int32} (d : decode cc pc = .ok (.sipush n, 3)) (hv : (Int16.ofInt n).toInt32 = v) (k : kW Γ δ A ws cl sl (pc + 3) lv (.int v :: st)) : kW Γ δ A ws cl sl pc lv st :=
  fun H locs ls hP hD hS hV => lv_sipush C.1 C.2.1 d hv (k H locs ls hP hD hS hV)
theorem k_lconst (C : kC Γ δ A cc own nL fr lo mc ms) {n : Fin 2} {v : Int64} (d : decode cc pc = .ok (.lconst n, 1)) (hv : Int64.ofNat (n : Nat) = v) (k : kW Γ δ A ws cl sl (pc + 1) lv (.long v :: st)) : kW Γ δ A ws cl sl pc lv st :=
  fun H locs ls hP hD hS hV => lv_lconst C.1 C.2.1 d hv (k H locs ls hP hD hS hV)
theorem k_iload_n (C : kC Γ δ A cc own nL fr lo mc ms) {i : Fin 4} {x : Int32} (d : decode cc pc = .ok (.iload_n i, 1)) (h : lv[(i : Nat)]? = some (some (.int x))) (k : kW Γ δ A ws cl sl (pc + 1) lv (.int x :: st)) : kW Γ δ A ws cl sl pc lv st :=
  fun H locs ls hP hD hS hV => lv_iload_n C.1 C.2.1 d rfl (hV.2.2 _ _ h) (k H locs ls hP hD hS hV)
theorem k_iload (C : kC Γ δ A cc own nL fr lo mc ms) {i : Nat} {x : Int32} (d : decode cc pc = .ok (.iload i, 2)) (h : lv[i]? = some (some (.int x))) (k : kW Γ δ A ws cl sl (pc + 2) lv (.int x :: st)) : kW Γ δ A ws cl sl pc lv st :=
  fun H locs ls hP hD hS hV => lv_iload C.1 C.2.1 d (hV.2.2 _ _ h) (k H locs ls hP hD hS hV)
theorem k_lload_n (C : kC Γ δ A cc own nL fr lo mc ms) {i : Fin 4} {x : Int64} (d : decode cc pc = .ok (.lload_n i, 1)) (h : lv[(i : Nat)]? = some (some (.long x))) (k : kW Γ δ A ws cl sl (pc + 1) lv (.long x :: st)) : kW Γ δ A ws cl sl pc lv st :=
  fun H locs ls hP hD hS hV => lv_lload_n C.1 C.2.1 d rfl (hV.2.2 _ _ h) (k H locs ls hP hD hS hV)
theorem k_lload (C : kC Γ δ A cc own nL fr lo mc ms) {i : Nat} {x : Int64} (d : decode cc pc = .ok (.lload i, 2)) (h : lv[i]? = some (some (.long x))) (k : kW Γ δ A ws cl sl (pc + 2) lv (.long x :: st)) : kW Γ δ A ws cl sl pc lv st :=
  fun H locs ls hP hD hS hV => lv_lload C.1 C.2.1 d (hV.2.2 _ _ h) (k H locs ls hP hD hS hV)
theorem k_aload_n (C : kC Γ δ A cc own nL fr lo mc ms) {i : Fin 4} {x : Nat} (d : decode cc pc = .ok (.aload_n i, 1)) (h : lv[(i : Nat)]? = some (some (.ref x))) (k : kW Γ δ A ws cl sl (pc + 1) lv (.ref x :: st)) : kW Γ δ A ws cl sl pc lv st :=
  fun H locs ls hP hD hS hV => lv_aload_n C.1 C.2.1 d rfl (hV.2.2 _ _ h) (k H locs ls hP hD hS hV)
theorem k_aload (C : kC Γ δ A cc own nL fr lo mc ms) {i : Nat} {x : Nat} (d : decode cc pc = .ok (.aload i, 2)) (h : lv[i]? = some (some (.ref x))) (k : kW Γ δ A ws cl sl (pc + 2) lv (.ref x :: st)) : kW Γ δ A ws cl sl pc lv st :=
  fun H locs ls hP hD hS hV => lv_aload C.1 C.2.1 d (hV.2.2 _ _ h) (k H locs ls hP hD hS hV)
theorem k_istore_n (C : kC Γ δ A cc own nL fr lo mc ms) {i : Fin 4} {x : Int32} (d : decode cc pc = .ok (.istore_n i, 1)) (hi : (i : Nat) < lv.length) (hc : gCutB lv i = true) (k : kW Γ δ A ws cl sl (pc + 1) (gSt1 lv i (.int x)) st) : kW Γ δ A ws cl sl pc lv (.int x :: st) :=
  fun H locs ls hP hD hS hV => lv_istore_n C.1 C.2.1 d rfl hV.has hi rfl (fun ls' h' => k H locs ls' hP hD hS (gV.st1 (ls := ls) hc hi h'))
theorem k_istore (C : kC Γ δ A cc own nL fr lo mc ms) {i : Nat} {x : Int32} (d : decode cc pc = .ok (.istore i, 2)) (hi : (i : Nat) < lv.length) (hc : gCutB lv i = true) (k : kW Γ δ A ws cl sl (pc + 2) (gSt1 lv i (.int x)) st) : kW Γ δ A ws cl sl pc lv (.int x :: st) :=
  fun H locs ls hP hD hS hV => lv_istore C.1 C.2.1 d hV.has hi rfl (fun ls' h' => k H locs ls' hP hD hS (gV.st1 (ls := ls) hc hi h'))
theorem k_astore_n (C : kC Γ δ A cc own nL fr lo mc ms) {i : Fin 4} {x : Nat} (d : decode cc pc = .ok (.astore_n i, 1)) (hi : (i : Nat) < lv.length) (hc : gCutB lv i = true) (k : kW Γ δ A ws cl sl (pc + 1) (gSt1 lv i (.ref x)) st) : kW Γ δ A ws cl sl pc lv (.ref x :: st) :=
  fun H locs ls hP hD hS hV => lv_astore_n C.1 C.2.1 d rfl hV.has hi rfl (fun ls' h' => k H locs ls' hP hD hS (gV.st1 (ls := ls) hc hi h'))
theorem k_iinc (C : kC Γ δ A cc own nL fr lo mc ms) {i : Nat} {n : Int} {x v : Int32} (d : decode cc pc = .ok (.iinc i n, 3)) (h : lv[i]? = some (some (.int x))) (hv : x + Int32.ofInt n = v) (hc : gCutB lv i = true) (k : kW Γ δ A ws cl sl (pc + 3) (gSt1 lv i (.int v)) st) : kW Γ δ A ws cl sl pc lv st := by
  intro H locs ls hP hD hS hV
  have hi : i < lv.length := (List.getElem?_eq_some_iff.mp h).1
  obtain ⟨q, hq⟩ := List.getElem?_of_mem (gVl_mem.mpr h)
  exact lv_iinc C.1 C.2.1 d hV.has hq hv hi rfl (fun ls' h' => k H locs ls' hP hD hS (gV.st1 (ls := ls) hc hi h'))
theorem k_iadd (C : kC Γ δ A cc own nL fr lo mc ms) {x y : Int32} (d : decode cc pc = .ok (.iadd, 1)) (k : kW Γ δ A ws cl sl (pc + 1) lv (.int (x + y) :: st)) : kW Γ δ A ws cl sl pc lv (.int y :: .int x :: st) :=
  fun H locs ls hP hD hS hV => lv_iadd C.1 C.2.1 d (k H locs ls hP hD hS hV)
theorem k_imul (C : kC Γ δ A cc own nL fr lo mc ms) {x y : Int32} (d : decode cc pc = .ok (.imul, 1)) (k : kW Γ δ A ws cl sl (pc + 1) lv (.int (x * y) :: st)) : kW Γ δ A ws cl sl pc lv (.int y :: .int x :: st) :=
  fun H locs ls hP hD hS hV => lv_imul C.1 C.2.1 d (k H locs ls hP hD hS hV)
theorem k_dup (C : kC Γ δ A cc own nL fr lo mc ms) {v : Value} (d : decode cc pc = .ok (.dup, 1)) (hv : v.category = 1) (k : kW Γ δ A ws cl sl (pc + 1) lv (v :: v :: st)) : kW Γ δ A ws cl sl pc lv (v :: st) :=
  fun H locs ls hP hD hS hV => lv_dup C.1 C.2.1 d hv (k H locs ls hP hD hS hV)
theorem k_goto (C : kC Γ δ A cc own nL fr lo mc ms) {off : Int} (tgt : Nat) (d : decode cc pc = .ok (.goto off, 3)) (ht : (pc : Int) + off = (tgt : Int)) (k : kW Γ δ A ws cl sl tgt lv st) : kW Γ δ A ws cl sl pc lv st :=
  fun H locs ls hP hD hS hV => lv_goto C.1 C.2.1 d ht (k H locs ls hP hD hS hV)
theorem k_icmp_ge (C : kC Γ δ A cc own nL fr lo mc ms) {x y : Int32} {off : Int} (tgt : Nat) (d : decode cc pc = .ok (.if_icmp .ge off, 3)) (ht : (pc : Int) + off = (tgt : Int)) (kt : y ≤ x → kW Γ δ A ws cl sl tgt lv st) (kf : ¬ y ≤ x → kW Γ δ A ws cl sl (pc + 3) lv st) : kW Γ δ A ws cl sl pc lv (.int y :: .int x :: st) :=
  fun H locs ls hP hD hS hV => lv_icmp_ge C.1 C.2.1 d ht (fun h => kt h H locs ls hP hD hS hV) (fun h => kf h H locs ls hP hD hS hV)
theorem k_get (C : kC Γ δ A cc own nL fr lo mc ms) {ref Cn : String} {T : u_T} {N ci index q b : Nat} {fs : List Value} {v : Value} (d : decode cc pc = .ok (.getfield index, 3)) (hin : ∀ w ∈ u_ws Cn T N, w ∈ gWs) (hc : vwCl[ci]? = some (Cn, T, N)) (ho : ws[q]? = some (b, .inr (ci, fs))) (kf : Nat) (hk : kf < N) (w : Cond.fieldLink own index ref (T kf).2.1 (T kf).2.2.1 ∈ gWs) (hr : (T kf).1 = ref) (hv : fs[kf]? = some v) (k : kW Γ δ A ws cl sl (pc + 3) lv (v :: st)) : kW Γ δ A ws cl sl pc lv (.ref b :: st) :=
  fun H locs ls hP hD hS hV => va_get C.1 C.2.1 C.2.2.2.2.1 (fun w h => kWs_in (hin w h)) C.2.2.2.1 C.2.2.2.2.2.1 hP q ho hc kf hk (C.2.2.2.2.1 _ (kWs_in w)) (by rw [hr]; exact fun _ h => h) hv d (k H locs ls hP hD hS hV)
theorem k_put (C : kC Γ δ A cc own nL fr lo mc ms) {ws' : va_W} {ref Cn : String} {T : u_T} {N ci index q b : Nat} {fs : List Value} {v : Value} {ty : FieldType} (ty0 : Nat → FieldType) (d : decode cc pc = .ok (.putfield index, 3)) (hin : ∀ w ∈ u_ws Cn T N, w ∈ gWs) (hty : ∀ k, k < N → parseFieldDescriptor (T k).2.2.1 = some (ty0 k)) (hnm : ∀ a, a < N → ∀ b, b < N → a ≠ b → (T a).2.1 ≠ (T b).2.1) (hc : vwCl[ci]? = some (Cn, T, N)) (ho : ws[q]? = some (b, .inr (ci, fs))) (kf : Nat) (hk : kf < N) (w : Cond.fieldLink own index ref (T kf).2.1 (T kf).2.2.1 ∈ gWs) (hr : (T kf).1 = ref) (hfin : (T kf).2.2.2 = false) (hd : ty0 kf = ty) (hn : narrow ty v = v) (hfit : fits ty v = true) (hl : kf < fs.length) (hw : ws.set q (b, .inr (ci, fs.set kf v)) = ws') (k : kW Γ δ A ws' cl sl (pc + 3) lv st) : kW Γ δ A ws cl sl pc lv (v :: .ref b :: st) :=
  fun H locs ls hP hD hS hV => va_put C.1 C.2.1 C.2.2.2.2.1 (fun w h => kWs_in (hin w h)) ty0 hty hnm C.2.2.2.1 C.2.2.2.2.2.1 hP hD hS q ho hc kf hk (C.2.2.2.2.1 _ (kWs_in w)) (by rw [hr]; exact fun _ h => h) hfin (by rw [hty kf hk, hd]) hn hfit hl d (fun H1 locs1 hP1 hD1 hS1 => k H1 locs1 ls (by rw [← hw]; exact hP1) (by rw [← hw]; exact hD1) hS1 hV)
theorem k_putF (C : kC Γ δ A cc own nL fr lo mc ms) {ws' : va_W} {Cn : String} {T : u_T} {N ci index q b : Nat} {fs : List Value} {v : Value} {ty : FieldType} (ty0 : Nat → FieldType) (hi : Γ.2.2.1.1.name = "<init>") (d : decode cc pc = .ok (.putfield index, 3)) (hin : ∀ w ∈ u_ws Cn T N, w ∈ gWs) (hty : ∀ k, k < N → parseFieldDescriptor (T k).2.2.1 = some (ty0 k)) (hnm : ∀ a, a < N → ∀ b, b < N → a ≠ b → (T a).2.1 ≠ (T b).2.1) (hc : vwCl[ci]? = some (Cn, T, N)) (ho : ws[q]? = some (b, .inr (ci, fs))) (kf : Nat) (hk : kf < N) (w : Cond.fieldLink own index own (T kf).2.1 (T kf).2.2.1 ∈ gWs) (hr : (T kf).1 = own) (hfin : (T kf).2.2.2 = true) (hd : ty0 kf = ty) (hn : narrow ty v = v) (hfit : fits ty v = true) (hl : kf < fs.length) (hw : ws.set q (b, .inr (ci, fs.set kf v)) = ws') (k : kW Γ δ A ws' cl sl (pc + 3) lv st) : kW Γ δ A ws cl sl pc lv (v :: .ref b :: st) :=
  fun H locs ls hP hD hS hV => va_putF C.1 C.2.1 C.2.2.2.2.1 (fun w h => kWs_in (hin w h)) ty0 hty hnm C.2.2.2.1 C.2.2.2.2.2.1 hP hD hS q ho hc kf hk (C.2.2.2.2.1 _ (kWs_in w)) (by rw [hr]; exact fun _ h => h) hfin hi hr (by rw [hty kf hk, hd]) hn hfit hl d (fun H1 locs1 hP1 hD1 hS1 => k H1 locs1 ls (by rw [← hw]; exact hP1) (by rw [← hw]; exact hD1) hS1 hV)
theorem kC_cy (C : kC Γ δ A cc own nL fr lo mc ms) {k : Nat} {ty : FieldType} {c1 c2 : ClassId} (h1 : (gT δ.2.1)[k]? = some (c1, ty)) {K : List (ClassId × FieldType)} (hK : va_K δ.1 vwCl (gT δ.2.1 ++ [(c2, ty)]) Γ.2.1.1) : c2 = c1 := by
  have a := (C.2.2.2.2.2.1.2 k _ h1).2
  have b := (hK.2 5 (c2, ty) rfl).2
  cases ty with
  | object C =>
    obtain ⟨_, _, -, -, -, e1⟩ := a
    obtain ⟨_, _, -, -, -, e2⟩ := b
    exact Option.some.inj (e2.symm.trans e1)
  | _ => exact Option.some.inj ((show _ = some c2 from b).symm.trans (show _ = some c1 from a))
theorem k_newI (C : kC Γ δ A cc own nL fr lo mc ms) {n : Int32} (N : Nat) (d : decode cc pc = .ok (.newarray .int, 2)) (hn : n = nI N) (hN : N < 100000000) (h1 : cl + 1 ≤ mc) (h2 : sl + N ≤ ms)
    (kk : ∀ q : Nat, kW Γ δ A (ws ++ [(q, .inl (δ.2.1 0, N, .inl (fun _ => 0)))]) (cl + 1) (sl + N) (pc + 2) lv (.ref q :: st)) : kW Γ δ A ws cl sl pc lv (.int n :: st) := by
  intro H locs ls hP hD hS hV
  subst hn
  refine va_newa (atype := .int) (ty := .int) (N' := N) (a0 := (N, .inl (fun _ => 0))) C.1 C.2.1 (C.2.2.2.2.1 (.arrayClass .int) (List.mem_append_right _ List.mem_cons_self)) rfl C.2.2.2.2.2.1 hP hD hS C.2.2.2.2.2.2.1 (fun _ => rfl) (nI_pos (by omega)) (nI_clamp (by omega)) (show N * 4 ≤ 536870912 by omega) (Nat.le_trans h1 C.2.2.2.2.2.2.2.2.1) (Nat.le_trans h2 C.2.2.2.2.2.2.2.2.2) d (fun q cA H1 hK1 hP1 hD1 hS1 => ?_)
  have e := kC_cy C (k := 0) rfl (K := []) hK1
  subst e
  exact kk q H1 locs ls hP1 hD1 hS1 hV
theorem k_newL (C : kC Γ δ A cc own nL fr lo mc ms) {n : Int32} (N : Nat) (d : decode cc pc = .ok (.newarray .long, 2)) (hn : n = nI N) (hN : N < 50000000) (h1 : cl + 1 ≤ mc) (h2 : sl + N ≤ ms)
    (kk : ∀ q : Nat, kW Γ δ A (ws ++ [(q, .inl (δ.2.1 1, N, .inr (.inl (fun _ => 0))))]) (cl + 1) (sl + N) (pc + 2) lv (.ref q :: st)) : kW Γ δ A ws cl sl pc lv (.int n :: st) := by
  intro H locs ls hP hD hS hV
  subst hn
  refine va_newa (atype := .long) (ty := .long) (N' := N) (a0 := (N, .inr (.inl (fun _ => 0)))) C.1 C.2.1 (C.2.2.2.2.1 (.arrayClass .long) (List.mem_append_right _ (List.mem_cons_of_mem _ List.mem_cons_self))) rfl C.2.2.2.2.2.1 hP hD hS C.2.2.2.2.2.2.1 (fun _ => rfl) (nI_pos (by omega)) (nI_clamp (by omega)) (show N * 8 ≤ 536870912 by omega) (Nat.le_trans h1 C.2.2.2.2.2.2.2.2.1) (Nat.le_trans h2 C.2.2.2.2.2.2.2.2.2) d (fun q cA H1 hK1 hP1 hD1 hS1 => ?_)
  have e := kC_cy C (k := 1) rfl (K := []) hK1
  subst e
  exact kk q H1 locs ls hP1 hD1 hS1 hV
theorem k_newQ (C : kC Γ δ A cc own nL fr lo mc ms) {n : Int32} (N t : Nat) {Cn : String} {index : Nat} (d : decode cc pc = .ok (.anewarray index, 3)) (w : Cond.classLink own index Cn ∈ gWs) (ho : va_AO Cn Γ.2.1.1) (ht : (gT δ.2.1)[t]? = some (δ.2.1 t, .object Cn)) (hn : n = nI N) (hN : N < 100000000) (h1 : cl + 1 ≤ mc) (h2 : sl + N ≤ ms)
    (kk : ∀ q : Nat, kW Γ δ A (ws ++ [(q, .inl (δ.2.1 t, N, .inr (.inr (.inr (.inr (fun _ => none))))))]) (cl + 1) (sl + N) (pc + 3) lv (.ref q :: st)) : kW Γ δ A ws cl sl pc lv (.int n :: st) := by
  intro H locs ls hP hD hS hV
  subst hn
  refine va_newq C.1 C.2.1 C.2.2.2.1 (C.2.2.2.2.1 _ (kWs_in w)) ho C.2.2.2.2.2.1 hP hD hS C.2.2.2.2.2.2.1 (nI_pos (by omega)) (nI_clamp (n := N) (by omega)) (show N * 4 ≤ 536870912 by omega) (Nat.le_trans h1 C.2.2.2.2.2.2.2.2.1) (Nat.le_trans h2 C.2.2.2.2.2.2.2.2.2) d (fun q cA H1 hK1 hP1 hD1 hS1 => ?_)
  have e := kC_cy C ht (K := []) hK1
  subst e
  exact kk q H1 locs ls hP1 hD1 hS1 hV
theorem k_new (C : kC Γ δ A cc own nL fr lo mc ms) {Cn : String} {T : u_T} {N ci index : Nat} (d : decode cc pc = .ok (.new index, 3)) (hin : ∀ w ∈ u_ws Cn T N, w ∈ gWs) (ty : Nat → FieldType) (hty : ∀ k, k < N → parseFieldDescriptor (T k).2.2.1 = some (ty k)) (w1 : Cond.classLink own index Cn ∈ gWs) (w2 : Cond.instantiable Cn N ∈ gWs) (w3 : Cond.initialized Cn ∈ gWs) (hc : vwCl[ci]? = some (Cn, T, N)) (fs : List Value) (hfs : ∀ j, j < N → defaultValue (ty j) = vp_V fs j) (h1 : cl + 1 ≤ mc) (h2 : sl + N ≤ ms)
    (kk : ∀ q : Nat, kW Γ δ A (ws ++ [(q, .inr (ci, fs))]) (cl + 1) (sl + N) (pc + 3) lv (.ref q :: st)) : kW Γ δ A ws cl sl pc lv st :=
  fun H locs ls hP hD hS hV => va_new C.1 C.2.1 C.2.2.2.2.1 (fun w h => kWs_in (hin w h)) ty hty C.2.2.2.1 (C.2.2.2.2.1 _ (kWs_in w1)) (C.2.2.2.2.1 _ (kWs_in w2)) (C.2.2.2.2.1 _ (kWs_in w3)) C.2.2.2.2.2.1 hP hD hS C.2.2.2.2.2.2.1 hc hfs (Nat.le_trans h1 C.2.2.2.2.2.2.2.2.1) (Nat.le_trans h2 C.2.2.2.2.2.2.2.2.2) d (fun q H1 hP1 hD1 hS1 => kk q H1 locs ls hP1 hD1 hS1 hV)
theorem k_ast (C : kC Γ δ A cc own nL fr lo mc ms) {ws' : va_W} {i : Int32} {b v n ci : Nat} {r : vw_C} {vs : List Value} {f : Nat → Option Nat} (u q0 qk t : Nat) (d : decode cc pc = .ok (.aastore, 1)) (ha : ws[q0]? = some (b, .inl (δ.2.1 t, n, .inr (.inr (.inr (.inr f)))))) (ht : (gT δ.2.1)[t]? = some (δ.2.1 t, .object r.1)) (hv : ws[qk]? = some (v, .inr (ci, vs))) (hc : vwCl[ci]? = some r) (hi : i = nI u) (hu : u < n) (hn : n < 2147483648) (hw : ws.set q0 (b, .inl (δ.2.1 t, n, .inr (.inr (.inr (.inr (va_up f u (some v))))))) = ws') (kk : kW Γ δ A ws' cl sl (pc + 1) lv st) : kW Γ δ A ws cl sl pc lv (.ref v :: .int i :: .ref b :: st) := by
  intro H locs ls hP hD hS hV
  subst hi
  refine va_astq C.1 C.2.1 C.2.2.2.2.2.1 hP hD hS q0 t qk ci ha ht hv hc (vp_in_nI hu hn) d (fun H1 locs1 hP1 hD1 hS1 => ?_)
  rw [nI_clamp (by omega), hw] at hP1 hD1
  exact kk H1 locs1 ls hP1 hD1 hS1 hV
theorem k_iast (C : kC Γ δ A cc own nL fr lo mc ms) {ws' : va_W} {i x : Int32} {b n : Nat} {f : Nat → Int32} (u q0 : Nat) (d : decode cc pc = .ok (.iastore, 1)) (ha : ws[q0]? = some (b, .inl (δ.2.1 0, n, .inl f))) (hi : i = nI u) (hu : u < n) (hn : n < 2147483648) (hw : ws.set q0 (b, .inl (δ.2.1 0, n, .inl (upd f u x))) = ws') (kk : kW Γ δ A ws' cl sl (pc + 1) lv st) : kW Γ δ A ws cl sl pc lv (.int x :: .int i :: .ref b :: st) := by
  intro H locs ls hP hD hS hV
  subst hi
  refine va_iast C.1 C.2.1 C.2.2.2.2.2.1 hP hD hS q0 0 ha rfl (vp_in_nI hu hn) d (fun H1 locs1 hP1 hD1 hS1 => ?_)
  rw [nI_clamp (by omega), hw] at hP1 hD1
  exact kk H1 locs1 ls hP1 hD1 hS1 hV
theorem k_alen (C : kC Γ δ A cc own nL fr lo mc ms) {b n : Nat} {f : Nat → Int32} (q0 : Nat) (d : decode cc pc = .ok (.arraylength, 1)) (ha : ws[q0]? = some (b, .inl (δ.2.1 0, n, .inl f))) (kk : kW Γ δ A ws cl sl (pc + 1) lv (.int (nI n) :: st)) : kW Γ δ A ws cl sl pc lv (.ref b :: st) :=
  fun H locs ls hP hD hS hV => va_alen C.1 C.2.1 C.2.2.2.2.2.1 hP q0 0 ha rfl rfl d (kk H locs ls hP hD hS hV)
theorem k_obj (C : kC Γ δ A cc own nL fr lo mc ms) {b index : Nat} (d : decode cc pc = .ok (.invokespecial index, 3)) (w : Cond.methodLink own index objectInit ∈ gWs) (w1 : Cond.instanceMethod objectInit ∈ gWs) (w2 : Cond.code objectInit ⟨#[0xb1]⟩ 1 none ∈ gWs) (hlv : lv.length = nL) (hst : st = []) (hfr : 1 ≤ fr) (hlo : 12 ≤ lo) (kk : kW Γ δ A ws cl sl (pc + 3) lv st) : kW Γ δ A ws cl sl pc lv (.ref b :: st) := by
  subst hst
  exact fun H locs ls hP hD hS hV => W.objInit C.1 C.2.1 C.2.2.2.1 (C.2.2.2.2.1 _ (kWs_in w)) (C.2.2.2.2.1 _ (kWs_in w1)) (C.2.2.2.2.1 _ (kWs_in w2)) rfl (by rw [C.2.2.1, hV.1, hlv]) rfl d (Nat.le_trans hfr C.2.2.2.2.2.2.2.1.1) (Nat.le_trans (Nat.le_of_ble_eq_true rfl : _ ≤ 12) (Nat.le_trans hlo C.2.2.2.2.2.2.2.1.2)) (kk H locs ls hP hD hS hV)
-- a constructor's contract: its object at h0, of kind e0; what it leaves, and what it makes, at addresses a 0, a 1, ..
def kM (l : Launch) (δ : GD) (nest : State → Prop) (y : MethodName) (c : ByteArray) (n : Nat) (fr lo mc ms : Nat) (ex : List Value) (e0 : va_E) (wsf : Nat → (Nat → Nat) → (Nat → Nat → Int32) → va_W) (good : (Nat → Nat → Int32) → Prop) : Prop :=
  ∀ (h0 sz : Nat), Met l y (.code y c n none :: kWs) { frames := fr, cells := mc, slots := ms, locals := lo } (va_Pc (.ref h0 :: ex) (fun U => U.heap.size = sz ∧ va_P δ.1 vwCl [(h0, e0)] U.heap ∧ va_K δ.1 vwCl (gT δ.2.1) U ∧ nest U))
    (va_Qv (fun u : (Nat → Nat) × (Nat → Nat → Int32) => good u.2) (fun u t => va_P δ.1 vwCl (wsf h0 u.1 u.2) t.heap ∧ va_D (va_A [(h0, e0)] sz) (wsf h0 u.1 u.2)) (va_A [(h0, e0)] sz)) mc ms (va_A [(h0, e0)] sz)
def kEnd (Γ : GX) (δ : GD) (A : Nat → Prop) (mc ms : Nat) (wsf : (Nat → Nat) → (Nat → Nat → Int32) → va_W) (good : (Nat → Nat → Int32) → Prop) : Prop :=
  Γ.2.2.1.2.2 = MQ Γ.2.1.2.2.2 (va_Qv (fun u : (Nat → Nat) × (Nat → Nat → Int32) => good u.2) (fun u t => va_P δ.1 vwCl (wsf u.1 u.2) t.heap ∧ va_D A (wsf u.1 u.2)) A) Γ.2.1.2.2.1 Γ.2.1.1 mc ms A ∧ Γ.2.2.1.1.sig.returnType = none ∧ Γ.2.2.1.1.locks = false
theorem k_vret (C : kC Γ δ A cc own nL fr lo mc ms) {wsf : (Nat → Nat) → (Nat → Nat → Int32) → va_W} {good : (Nat → Nat → Int32) → Prop} (E : kEnd Γ δ A mc ms wsf good) (d : decode cc pc = .ok (.return_, 1)) (a : Nat → Nat) (f : Nat → Nat → Int32) (hg : good f) (hw : ws = wsf a f) (h1 : cl = mc) (h2 : sl = ms) : kW Γ δ A ws cl sl pc lv [] := by
  intro H locs ls hP hD hS hV
  obtain ⟨e1, e3, e4⟩ := E
  rw [e1, h1, h2]
  rw [hw] at hP hD
  exact W.vret C.1 C.2.1 e3 (fun t ht hW => ⟨⟨(a, f), rfl, hg, by rw [ht]; exact hP, hD⟩, hS.F ht⟩) hS.2.2 d e4
end KR
theorem k_of {l : Launch} {δ : GD} {nest : State → Prop} {y : MethodName} {c : ByteArray} {n fr lo mc ms : Nat} {ex : List Value} {e0 : va_E} {wsf : Nat → (Nat → Nat) → (Nat → Nat → Int32) → va_W} {good : (Nat → Nat → Int32) → Prop} (lvf : Nat → List (Option Value)) (hy : plainName y.cls = true) (hlv : ∀ h0, gArgs (.ref h0 :: ex) ++ List.replicate (n - (gArgs (.ref h0 :: ex)).length) none = lvf h0) (hle : ∀ h0, (gArgs (.ref h0 :: ex)).length ≤ n)
    (body : ∀ (Γ : GX) (A : Nat → Prop) (h0 : Nat), Γ.1.2.1 = l → kC Γ δ A c y.cls n fr lo mc ms → kEnd Γ δ A mc ms (wsf h0) good → Γ.2.2.1.1.name = y.name → nest Γ.2.1.1 → kW Γ δ A [(h0, e0)] 0 0 0 (lvf h0) []) : kM l δ nest y c n fr lo mc ms ex e0 wsf good := by
  intro h0 sz
  refine Met.ofW (cc := c) (maxL := n) (ret := none) hy rfl ?_
  intro p e s m args below meth cd s₁ B hml hv
  obtain ⟨rfl, hsz, hP, hK, hN⟩ := hv
  subst hsz
  have hts := atoms_spec (ws := .code y c n none :: kWs) B.pre
  have hl := lv_entry (.ref h0 :: ex) (n := n) (by rw [← gArgs_len]; exact hle h0)
  rw [lg_entry_eq]
  have hV : gV ((lg_sl (.ref h0 :: ex) ++ List.replicate (n - (lg_sl (.ref h0 :: ex)).length) Slot.unset).toArray) (lvf h0) := by
    have hle := hle h0
    refine gV.of hl (by rw [← hlv, List.length_append, List.length_replicate]; omega) (fun i v h => ?_)
    rw [← hlv] at h
    by_cases hi : i < (gArgs (.ref h0 :: ex)).length
    · rw [List.getElem?_append_left hi] at h
      exact gArgs_in (.ref h0 :: ex) 0 i v h
    · rw [List.getElem?_append_right (by omega)] at h
      have := List.eq_of_mem_replicate (List.mem_of_getElem? h)
      cases this
  have hD : va_D (va_A [(h0, e0)] s.heap.size) [(h0, e0)] := by
    refine ⟨fun i j p q hi hj _ => ?_, fun k q hk => va_A.in hk⟩
    have h1 := (List.getElem?_eq_some_iff.mp hi).1
    have h2 := (List.getElem?_eq_some_iff.mp hj).1
    simp at h1 h2
    omega
  exact body ((p, l, e, _), (s, m, (.ref h0 :: ex : List Value).toArray, below), (meth, cd, _), (0, 0)) (va_A [(h0, e0)] s.heap.size) h0 rfl
    ⟨B.exec, B.bytes, hml, findClass_of_methodNamed B.named, fun w hw => hts w (List.mem_cons_of_mem _ hw), hK, fun q h => Or.inr h, ⟨Nat.le_refl _, Nat.le_refl _⟩, ⟨Nat.le_refl _, Nat.le_refl _⟩⟩
    ⟨rfl, B.returns, B.notSynchronized⟩ (name_of_methodNamed B.named B.method).1 hN s.heap [] _ hP hD va_S.rf hV
-- a call of a constructor, on the object made last
section KCALL
variable {Γ : GX} {δ : GD} {A : Nat → Prop} {wr : va_W} {cl sl : Nat} {cc : ByteArray} {own : String} {nL fr lo mc ms pc : Nat} {lv : List (Option Value)} {rest : List Value} {y : MethodName} {c : ByteArray} {n fr' lo' mc' ms' idx b : Nat} {e0 : va_E} {wsf : Nat → (Nat → Nat) → (Nat → Nat → Int32) → va_W} {good : (Nat → Nat → Int32) → Prop} {nest : State → Prop}
theorem k_back {wc w1 ws : va_W} {u : Nat} (hws : ws = wr ++ [(b, e0)]) {H H1 : Heap} (hP : va_P δ.1 vwCl ws H) (hD : va_D A ws) {locs : List Loc} (hS : va_S A Γ.2.1.1.heap H locs) (hA : ∀ q, Γ.2.1.1.heap.size ≤ q → A q) (hk1 : ∀ q : Nat, q < H.size → ¬ va_A [(b, e0)] H.size q → H1[q]? = H[q]?) (hP1 : va_P δ.1 vwCl w1 H1) (hD1 : va_D (va_A [(b, e0)] H.size) w1) : va_P δ.1 vwCl (wr ++ w1) H1 ∧ va_D A (wr ++ w1) := by
  subst hws
  have hC : [wr.length].map (fun i => (wr ++ [(b, e0)])[i]?) = [(b, e0)].map some := by simp
  have hR : (List.range wr.length).map (fun i => (wr ++ [(b, e0)])[i]?) = wr.map some := by
    apply List.ext_getElem?
    intro i
    by_cases hi : i < wr.length
    · simp [hi, List.getElem?_append_left hi]
    · rw [List.getElem?_eq_none (by simp; omega), List.getElem?_eq_none (by simp; omega)]
  have hn : ∀ l : List Nat, l.Nodup → va_nd l = true := by
    intro l
    induction l with
    | nil => intro _; rfl
    | cons a l ih =>
      intro h
      rw [List.nodup_cons] at h
      simp only [va_nd, Bool.and_eq_true, decide_eq_true_eq]
      exact ⟨h.1, ih h.2⟩
  exact va_join hP hD [wr.length] (List.range wr.length) hC hR (hn _ List.nodup_range) (fun i hi h => by rw [List.mem_singleton] at h; rw [List.mem_range] at hi; omega) hk1 (va_free hD hS hA [wr.length] hC) hP1 hD1
theorem kWs_code {y : MethodName} {c : ByteArray} {n : Nat} {ret : Option FieldType} (h : Cond.code y c n ret ∈ gWs) : GoodIn kWs (.code y c n ret :: kWs) := fun w hw => (List.mem_cons.mp hw).elim (fun e => by rw [e]; exact kWs_good _ (kWs_in h)) (kWs_good w)
theorem k_fin (C : kC Γ δ A cc own nL fr lo mc ms) {ws : va_W} {st : List Value} (hws : ws = wr ++ [(b, e0)]) (kk : ∀ (a : Nat → Nat) (f : Nat → Nat → Int32), good f → kW Γ δ A (wr ++ wsf b a f) (cl + mc') (sl + ms') (pc + 3) lv rest)
    {H : Heap} {locs : List Loc} {ls : Array Slot} (hP : va_P δ.1 vwCl ws H) (hD : va_D A ws) (hS : va_S A Γ.2.1.1.heap H locs) (hV : gV ls lv) {av : Array Value}
    (hr : va_Run Γ.1.1 Γ.1.2.1 Γ.1.2.2.1 Γ.1.2.2.2 Γ.2.1.1 Γ.2.1.2.1 Γ.2.1.2.2.1 Γ.2.1.2.2.2 Γ.2.2.1.1 Γ.2.2.1.2.1 H locs cl sl mc' ms' (F0 Γ.2.1.2.1 pc ls st) rest (va_Qv (fun u : (Nat → Nat) × (Nat → Nat → Int32) => good u.2) (fun u t => va_P δ.1 vwCl (wsf b u.1 u.2) t.heap ∧ va_D (va_A [(b, e0)] H.size) (wsf b u.1 u.2)) (va_A [(b, e0)] H.size) av) (va_A [(b, e0)] H.size)) :
    W Γ.1.1 Γ.1.2.1 Γ.1.2.2.1 Γ.1.2.2.2 Γ.2.1.1 Γ.2.1.2.1 Γ.2.1.2.2.1 Γ.2.1.2.2.2 Γ.2.2.1.1 Γ.2.2.1.2.1 H locs cl sl Γ.2.2.1.2.2 (F0 Γ.2.1.2.1 pc ls st) := by
  have hC : [wr.length].map (fun i => ws[i]?) = [(b, e0)].map some := by rw [hws]; simp
  have hF := va_free hD hS C.2.2.2.2.2.2.1 [wr.length] hC
  refine va_callv hr hS (fun q _ h => hF q h) hF (fun u t H1 locs1 ht hvm hw hB hz1 hk1 hS1 => ?_)
  obtain ⟨hP1, hD1⟩ := hB
  rw [ht] at hP1
  obtain ⟨hP2, hD2⟩ := k_back (wc := []) (u := 0) hws hP hD hS C.2.2.2.2.2.2.1 hk1 hP1 hD1
  exact kk u.1 u.2 hw H1 locs1 ls hP2 hD2 hS1 hV
theorem k_pre (C : kC Γ δ A cc own nL fr lo mc ms) {ws : va_W} (hws : ws = wr ++ [(b, e0)]) {H : Heap} (hP : va_P δ.1 vwCl ws H) (hnw : ∀ U : State, Γ.2.1.1.WarmedH U.vm → nest U) {U : State} (hU : U.heap = H) (hW : Γ.2.1.1.WarmedH U.vm) : U.heap.size = H.size ∧ va_P δ.1 vwCl [(b, e0)] U.heap ∧ va_K δ.1 vwCl (gT δ.2.1) U ∧ nest U :=
  ⟨by rw [hU], by rw [hU]; exact hP.sub [wr.length] (by rw [hws]; simp), va_K.moved hW.alike C.2.2.2.2.2.1, hnw U hW⟩
theorem kPc_blind {nest : State → Prop} (hb : ∀ (U : State) (g : JFrame) (mk : MethodId) (a : Array Value), nest U → nest (U.calling g mk a)) {sz h0 : Nat} {ex : List Value} : FrameBlind (va_Pc (.ref h0 :: ex) (fun U => U.heap.size = sz ∧ va_P δ.1 vwCl [(h0, e0)] U.heap ∧ va_K δ.1 vwCl (gT δ.2.1) U ∧ nest U)) :=
  fun a U g mk q => ⟨q.1, q.2.1, q.2.2.1, va_K.moved (u := U) (U := U.calling g mk a) (Vm.Alike.refl U.vm) q.2.2.2.1, hb U g mk a q.2.2.2.2⟩
theorem k_callN (C : kC Γ δ A cc own nL fr lo mc ms) {ws : va_W} {st : List Value} {host : String} (hs : Cond.initialized y.cls ∈ gWs ∧ Cond.code y c n none ∈ gWs ∧ (y.cls ≠ "java/lang/invoke/MethodHandle" ∧ y.cls ≠ "java/lang/invoke/VarHandle") ∧ (parseMethodDescriptor y.desc).map (fun d => d.parameters.length) = some 0 ∧ y.name = "<init>" ∧ Cond.instanceMethod y ∈ gWs) (hl : va_Nw (.methodLinkNest own idx y host) Γ.2.1.1) (d : decode cc pc = .ok (.invokespecial idx, 3)) (hM : kM Γ.1.2.1 δ nest y c n fr' lo' mc' ms' [] e0 wsf good) (hb : ∀ (U : State) (g : JFrame) (mk : MethodId) (a : Array Value), nest U → nest (U.calling g mk a)) (hnw : ∀ U : State, Γ.2.1.1.WarmedH U.vm → nest U) (hroom : fr' + 1 ≤ fr ∧ 8 + (n + 11) + lo' ≤ lo) (hcs : cl + mc' ≤ mc ∧ sl + ms' ≤ ms) (hws : ws = wr ++ [(b, e0)]) (hlv : lv.length = nL) (hst : st = .ref b :: rest) (hrest : (rest.map fun v => v.category).sum ≤ 8)
    (kk : ∀ (a : Nat → Nat) (f : Nat → Nat → Int32), good f → kW Γ δ A (wr ++ wsf b a f) (cl + mc') (sl + ms') (pc + 3) lv rest) : kW Γ δ A ws cl sl pc lv st := by
  intro H locs ls hP hD hS hV
  obtain ⟨w4, w5, w6, w7, w8, w9⟩ := hs
  have hR : fr' + 1 ≤ Γ.1.2.2.2.frames ∧ 8 + (n + 11) + lo' ≤ Γ.1.2.2.2.locals := ⟨Nat.le_trans hroom.1 C.2.2.2.2.2.2.2.1.1, Nat.le_trans hroom.2 C.2.2.2.2.2.2.2.1.2⟩
  refine k_fin C hws kk hP hD hS hV (va_runIN (As := []) (rest := rest) ⟨C.1, C.2.1, C.2.2.1, C.2.2.2.1, C.2.2.2.2.1⟩ (hM b H.size)
    ⟨va_cnB 0 C.2.2.2.2.1 (kWs_code w5) rfl rfl rfl hl (C.2.2.2.2.1 _ (kWs_in w4)) ⟨w6.1, w6.2, w7⟩ hR, w8, C.2.2.2.2.1 _ (kWs_in w9)⟩ ⟨kPc_blind hb, fun U hU hW => ⟨rfl, k_pre C hws hP hnw hU hW⟩⟩ rfl rfl (hV.1.trans hlv) hst (lv_room hrest) d ⟨Nat.le_trans hcs.1 C.2.2.2.2.2.2.2.2.1, Nat.le_trans hcs.2 C.2.2.2.2.2.2.2.2.2⟩)
theorem k_callI (C : kC Γ δ A cc own nL fr lo mc ms) {ws : va_W} {st : List Value} (hs : Cond.initialized y.cls ∈ gWs ∧ Cond.code y c n none ∈ gWs ∧ (y.cls ≠ "java/lang/invoke/MethodHandle" ∧ y.cls ≠ "java/lang/invoke/VarHandle") ∧ (parseMethodDescriptor y.desc).map (fun d => d.parameters.length) = some 0 ∧ y.name = "<init>" ∧ Cond.instanceMethod y ∈ gWs) (hl : Cond.methodLink own idx y ∈ gWs) (d : decode cc pc = .ok (.invokespecial idx, 3)) (hM : kM Γ.1.2.1 δ nest y c n fr' lo' mc' ms' [] e0 wsf good) (hb : ∀ (U : State) (g : JFrame) (mk : MethodId) (a : Array Value), nest U → nest (U.calling g mk a)) (hnw : ∀ U : State, Γ.2.1.1.WarmedH U.vm → nest U) (hroom : fr' + 1 ≤ fr ∧ 8 + (n + 11) + lo' ≤ lo) (hcs : cl + mc' ≤ mc ∧ sl + ms' ≤ ms) (hws : ws = wr ++ [(b, e0)]) (hlv : lv.length = nL) (hst : st = .ref b :: rest) (hrest : (rest.map fun v => v.category).sum ≤ 8)
    (kk : ∀ (a : Nat → Nat) (f : Nat → Nat → Int32), good f → kW Γ δ A (wr ++ wsf b a f) (cl + mc') (sl + ms') (pc + 3) lv rest) : kW Γ δ A ws cl sl pc lv st := by
  intro H locs ls hP hD hS hV
  obtain ⟨w4, w5, w6, w7, w8, w9⟩ := hs
  have hR : fr' + 1 ≤ Γ.1.2.2.2.frames ∧ 8 + (n + 11) + lo' ≤ Γ.1.2.2.2.locals := ⟨Nat.le_trans hroom.1 C.2.2.2.2.2.2.2.1.1, Nat.le_trans hroom.2 C.2.2.2.2.2.2.2.1.2⟩
  refine k_fin C hws kk hP hD hS hV (va_runI (As := []) (rest := rest) ⟨C.1, C.2.1, C.2.2.1, C.2.2.2.1, C.2.2.2.2.1⟩ (hM b H.size)
    (cwI 0 C.2.2.2.2.1 (kWs_code w5) rfl rfl rfl (C.2.2.2.2.1 _ (kWs_in w4)) (C.2.2.2.2.1 _ (kWs_in hl)) (C.2.2.2.2.1 _ (kWs_in w9)) w8 ⟨w6.1, w6.2, w7⟩ hR) ⟨kPc_blind hb, fun U hU hW => ⟨rfl, k_pre C hws hP hnw hU hW⟩⟩ rfl rfl (hV.1.trans hlv) hst (lv_room hrest) d ⟨Nat.le_trans hcs.1 C.2.2.2.2.2.2.2.2.1, Nat.le_trans hcs.2 C.2.2.2.2.2.2.2.2.2⟩)
theorem k_callS (C : kC Γ δ A cc own nL fr lo mc ms) {ws : va_W} {st ex : List Value} {k : Nat} (hs : gSS own idx y c n none k) (d : decode cc pc = .ok (.invokestatic idx, 3)) (hM : kM Γ.1.2.1 δ nest y c n fr' lo' mc' ms' ex e0 wsf good) (hb : ∀ (U : State) (g : JFrame) (mk : MethodId) (a : Array Value), nest U → nest (U.calling g mk a)) (hnw : ∀ U : State, Γ.2.1.1.WarmedH U.vm → nest U) (hroom : fr' + 1 ≤ fr ∧ 8 + (n + 11) + lo' ≤ lo) (hcs : cl + mc' ≤ mc ∧ sl + ms' ≤ ms) (hws : ws = wr ++ [(b, e0)]) (hlv : lv.length = nL) (hk : (Value.ref b :: ex).length = k) (hst : st = (Value.ref b :: ex).reverse ++ rest) (hrest : (rest.map fun v => v.category).sum ≤ 8)
    (kk : ∀ (a : Nat → Nat) (f : Nat → Nat → Int32), good f → kW Γ δ A (wr ++ wsf b a f) (cl + mc') (sl + ms') (pc + 3) lv rest) : kW Γ δ A ws cl sl pc lv st := by
  intro H locs ls hP hD hS hV
  obtain ⟨w1, w2, w4, w5, w6, w7⟩ := hs
  have hR : fr' + 1 ≤ Γ.1.2.2.2.frames ∧ 8 + (n + 11) + lo' ≤ Γ.1.2.2.2.locals := ⟨Nat.le_trans hroom.1 C.2.2.2.2.2.2.2.1.1, Nat.le_trans hroom.2 C.2.2.2.2.2.2.2.1.2⟩
  refine k_fin C hws kk hP hD hS hV (va_runS (As := Value.ref b :: ex) (rest := rest) ⟨C.1, C.2.1, C.2.2.1, C.2.2.2.1, C.2.2.2.2.1⟩ (hM b H.size)
    ⟨callB_of k C.2.2.2.2.1 (kWs_code w5) rfl rfl rfl (C.2.2.2.2.1 _ (kWs_in w4)) (C.2.2.2.2.1 _ (kWs_in w1)) ⟨w6.1, w6.2, w7⟩ hR, C.2.2.2.2.1 _ (kWs_in w2)⟩ ⟨kPc_blind hb, fun U hU hW => ⟨rfl, k_pre C hws hP hnw hU hW⟩⟩ rfl hk (hV.1.trans hlv) hst (lv_room hrest) d ⟨Nat.le_trans hcs.1 C.2.2.2.2.2.2.2.2.1, Nat.le_trans hcs.2 C.2.2.2.2.2.2.2.2.2⟩)
end KCALL
