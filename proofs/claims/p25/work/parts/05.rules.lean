-- THE FRAME: the cells of the world, and all that is new
def gA (δ : GD) (sz : Nat) : Nat → Prop := fun q => (∃ k : Nat, k < 102 ∧ q = δ.2.2.1 k) ∨ sz ≤ q
def gDj (δ : GD) : Prop := ∀ i j : Nat, i < 102 → j < 102 → δ.2.2.1 i = δ.2.2.1 j → i = j
theorem gA_new {δ : GD} {sz q : Nat} (h : sz ≤ q) : gA δ sz q := Or.inr h
theorem gA_mono {δ : GD} {sz sz' q : Nat} (h : sz ≤ sz') (hq : gA δ sz' q) : gA δ sz q := hq.elim Or.inl (fun z => Or.inr (Nat.le_trans h z))
theorem gDj_D {δ : GD} {σ : GS} {sz : Nat} (h : gDj δ) : va_D (gA δ sz) (wG δ σ) := by
  refine ⟨fun i j x y hi hj e => ?_, fun k q hk => ?_⟩
  · obtain ⟨h1, rfl⟩ := wG_inv hi
    obtain ⟨h2, rfl⟩ := wG_inv hj
    exact h i j h1 h2 e
  · obtain ⟨h1, rfl⟩ := wG_inv hk
    exact Or.inl ⟨k, h1, rfl⟩
-- what stands outside: the two constant arrays, and the links of nest mates
def gStep : Nat → Value := fun j => .int (if j = 0 then 169 else if j = 1 then 13 else if j = 2 then 1 else 0)
def gStepO : Nat → Value := fun j => .int (if j = 0 then 36 else if j = 1 then 6 else if j = 2 then 1 else 0)
def gStat (δ : GD) (U : State) (H : Heap) (sz : Nat) : Prop :=
  (va_Z "GrowingUrns$After" "STEPS" "[I" (.ref δ.2.2.2.1) (gA δ sz) U H ∧ va_T .int δ.2.2.2.1 4 gStep (gA δ sz) U H) ∧ (va_Z "GrowingUrns$Orders" "STEPS" "[I" (.ref δ.2.2.2.2) (gA δ sz) U H ∧ va_T .int δ.2.2.2.2 4 gStepO (gA δ sz) U H)
def gNest (U : State) : Prop := va_Nw (.methodLinkNest RX5 43 yX8_common RX8) U ∧ va_Nw (.methodLinkNest RX1 19 yX8_common RX8) U
theorem gStat.moved {δ : GD} {u U : State} {H : Heap} {sz : Nat} (hvm : u.vm.Alike U.vm) (h : gStat δ u H sz) : gStat δ U H sz :=
  ⟨⟨h.1.1.moved hvm, h.1.2.moved hvm⟩, ⟨h.2.1.moved hvm, h.2.2.moved hvm⟩⟩
theorem gStat.kept {δ : GD} {U : State} {H H1 : Heap} {sz : Nat} (h : gStat δ U H sz) (hq : ∀ a : Nat, a < H.size → ¬ gA δ sz a → H1[a]? = H[a]?) : gStat δ U H1 sz :=
  ⟨⟨h.1.1.kept hq, h.1.2.kept hq⟩, ⟨h.2.1.kept hq, h.2.2.kept hq⟩⟩
theorem gStat.mono {δ : GD} {U : State} {H : Heap} {sz sz' : Nat} (h : gStat δ U H sz) (hs : sz ≤ sz') : gStat δ U H sz' :=
  ⟨⟨h.1.1.narrow (fun _ => gA_mono hs), h.1.2.narrow (fun _ => gA_mono hs)⟩, ⟨h.2.1.narrow (fun _ => gA_mono hs), h.2.2.narrow (fun _ => gA_mono hs)⟩⟩
theorem gNest.warm {s U : State} (hW : s.WarmedH U.vm) (h : gNest s) : gNest U := ⟨va_Nw.warmM hW h.1, va_Nw.warmM hW h.2⟩
theorem gNest.calling {U : State} {g : JFrame} {mk : MethodId} {a : Array Value} (h : gNest U) : gNest (U.calling g mk a) := ⟨va_Nw.same rfl rfl h.1, va_Nw.same rfl rfl h.2⟩
-- LOCALS as a list, a place each
def gV (ls : Array Slot) (lv : List (Option Value)) : Prop := ls.size = lv.length ∧ lv_wf ls ∧ ∀ (i : Nat) (v : Value), lv[i]? = some (some v) → ls[i]? = some (.val v)
def gVl (lv : List (Option Value)) : List (Nat × Value) := (List.range lv.length).filterMap (fun i => (lv[i]?.join).map (fun v => (i, v)))
theorem gVl_mem {lv : List (Option Value)} {i : Nat} {v : Value} : (i, v) ∈ gVl lv ↔ lv[i]? = some (some v) := by
  unfold gVl
  rw [List.mem_filterMap]
  constructor
  · rintro ⟨j, hj, e⟩
    cases h : lv[j]? with
    | none => rw [h] at e; cases e
    | some o =>
      cases o with
      | none => rw [h] at e; cases e
      | some w =>
        rw [h] at e
        cases e
        exact h
  · intro h
    exact ⟨i, List.mem_range.mpr (List.getElem?_eq_some_iff.mp h).1, by rw [h]; rfl⟩
theorem gV.has {ls : Array Slot} {lv : List (Option Value)} (h : gV ls lv) : lv_has ls lv.length (gVl lv) := ⟨h.1, h.2.1, fun q hq => h.2.2 q.1 q.2 (gVl_mem.mp hq)⟩
theorem gV.of {ls : Array Slot} {lv : List (Option Value)} {n : Nat} {l : List (Nat × Value)} (h : lv_has ls n l) (hn : lv.length = n) (hl : ∀ (i : Nat) (v : Value), lv[i]? = some (some v) → (i, v) ∈ l) : gV ls lv :=
  ⟨h.1.trans hn.symm, h.2.1, fun i v hv => h.2.2 (i, v) (hl i v hv)⟩
/-- storing: the slot, and the next one if it takes two; a long that is cut is forgotten -/
def gSt1 (lv : List (Option Value)) (i : Nat) (v : Value) : List (Option Value) := lv.set i (some v)
def gSt2 (lv : List (Option Value)) (i : Nat) (v : Value) : List (Option Value) := (lv.set (i + 1) none).set i (some v)
def gCutOk (lv : List (Option Value)) (i : Nat) : Prop := ∀ (j : Nat) (v : Value), lv[j]? = some (some v) → v.category = 2 → j + 1 ≠ i
def gCutB (lv : List (Option Value)) (i : Nat) : Bool := match i with
  | 0 => true
  | j + 1 => match lv[j]? with
    | some (some (.long _)) => false
    | some (some (.double _)) => false
    | _ => true
theorem gCut_of {lv : List (Option Value)} {i : Nat} (h : gCutB lv i = true) : gCutOk lv i := by
  intro j v hv hc e
  subst e
  simp only [gCutB, hv] at h
  cases v <;> simp_all [Value.category]
theorem gV.st1 {ls ls' : Array Slot} {lv : List (Option Value)} {i : Nat} {v : Value} (hc : gCutB lv i = true) (hi : i < lv.length)
    (h : lv_has ls' lv.length ((i, v) :: (gVl lv).filter (fun q => !(q.1 == i) && !(q.1 + 1 == i && q.2.category == 2)))) : gV ls' (gSt1 lv i v) := by
  refine gV.of h (by simp [gSt1]) (fun j w hw => ?_)
  unfold gSt1 at hw
  by_cases e : j = i
  · subst e
    rw [List.getElem?_set_self hi] at hw
    cases hw
    exact List.mem_cons_self
  · rw [List.getElem?_set_ne (Ne.symm e)] at hw
    refine List.mem_cons_of_mem _ (List.mem_filter.mpr ⟨gVl_mem.mpr hw, ?_⟩)
    have hk := gCut_of hc j w hw
    simp only [Bool.and_eq_true, Bool.not_eq_true', beq_eq_false_iff_ne, ne_eq, Bool.and_eq_false_iff]
    refine ⟨e, ?_⟩
    by_cases h2 : w.category = 2
    · exact Or.inl (hk h2)
    · exact Or.inr h2
theorem gV.st2 {ls ls' : Array Slot} {lv : List (Option Value)} {i : Nat} {v : Value} (hc : gCutB lv i = true) (hi : i + 1 < lv.length)
    (h : lv_has ls' lv.length ((i, v) :: (gVl lv).filter (fun q => !(q.1 == i) && (!(q.1 == i + 1) && !(q.1 + 1 == i && q.2.category == 2))))) : gV ls' (gSt2 lv i v) := by
  refine gV.of h (by simp [gSt2]) (fun j w hw => ?_)
  unfold gSt2 at hw
  by_cases e : j = i
  · subst e
    rw [List.getElem?_set_self (by rw [List.length_set]; omega)] at hw
    cases hw
    exact List.mem_cons_self
  · rw [List.getElem?_set_ne (Ne.symm e)] at hw
    by_cases e2 : j = i + 1
    · subst e2
      rw [List.getElem?_set_self hi] at hw
      cases hw
    · rw [List.getElem?_set_ne (Ne.symm e2)] at hw
      refine List.mem_cons_of_mem _ (List.mem_filter.mpr ⟨gVl_mem.mpr hw, ?_⟩)
      have hk := gCut_of hc j w hw
      simp only [Bool.and_eq_true, Bool.not_eq_true', beq_eq_false_iff_ne, ne_eq, Bool.and_eq_false_iff]
      refine ⟨e, e2, ?_⟩
      by_cases h2 : w.category = 2
      · exact Or.inl (hk h2)
      · exact Or.inr h2
section VAA
variable {p : Program} {l : Launch} {e : Env} {R : Room} {s : State} {m : MethodId} {args : Array Value} {below : List Frame} {meth : Method} {c : Code} {H : Heap} {locs : List Loc} {cells slots : Nat} {Q : State → Prop}
variable {cc : ByteArray} {pc : Nat} {ls : Array Slot} {rest : List Value} {D : va_G} {cl : List vw_C} {A : Nat → Prop} {a : Nat} {tys : List (ClassId × FieldType)} {ws : va_W} {H0 : Heap}
theorem va_aldA (hexec : p.tables.exec = Jvm.exec) (hb : c.code = cc) (hK : va_K D cl tys s) (hP : va_P D cl ws H) (q0 t0 : Nat) {cA : ClassId} {n : Nat} {f : Nat → Option Nat} (ha : ws[q0]? = some (a, .inl (cA, n, .inr (.inr (.inr (.inr f)))))) (ht : tys[t0]? = some (cA, .array .int)) {i : Int32} (hin : vp_in i n) (hdg : decode cc pc = .ok (.aaload, 1))
    (kk : W p l e R s m args below meth c H locs cells slots Q (F0 m (pc + 1) ls (va_rf (f i.toNatClampNeg) :: rest))) : W p l e R s m args below meth c H locs cells slots Q (F0 m pc ls (.int i :: .ref a :: rest)) := by
  have hlt : i.toNatClampNeg < n := Nat.not_le.mp fun q => hin (Or.inr q)
  exact W.aald (v := va_rf (f i.toNatClampNeg)) (ty := .array .int) hexec hb (hP q0 _ ha) ((hK.2 t0 _ ht).1 n (fun j => va_rf (f j))) rfl (fun q => by cases q) (by show ¬ (i < 0 ∨ (arrV _ _ _).slots.size ≤ _); rw [arrV_size]; exact hin) (by show (arrV _ _ _).slots[_]? = _; rw [arrV_read _ _ hlt]) rfl rfl hdg kk
end VAA
-- THE JUDGEMENT. Γ: the machine's side of one method's run
abbrev GX : Type := (Program × Launch × Env × Room) × (State × MethodId × Array Value × List Frame) × (Method × Code × (State → Prop)) × (Nat × Nat)
def gW (Γ : GX) (δ : GD) (σ : GS) (pc : Nat) (lv : List (Option Value)) (st : List Value) : Prop :=
  ∀ (H : Heap) (locs : List Loc) (ls : Array Slot), va_P δ.1 vwCl (wG δ σ) H → va_S (gA δ Γ.2.1.1.heap.size) Γ.2.1.1.heap H locs → gV ls lv →
    W Γ.1.1 Γ.1.2.1 Γ.1.2.2.1 Γ.1.2.2.2 Γ.2.1.1 Γ.2.1.2.1 Γ.2.1.2.2.1 Γ.2.1.2.2.2 Γ.2.2.1.1 Γ.2.2.1.2.1 H locs Γ.2.2.2.1 Γ.2.2.2.2 Γ.2.2.1.2.2 (F0 Γ.2.1.2.1 pc ls st)
def gC (Γ : GX) (δ : GD) (cc : ByteArray) (own : String) (nL fr lo : Nat) : Prop :=
  Γ.1.1.tables.exec = Jvm.exec ∧ Γ.2.2.1.2.1.code = cc ∧ Γ.2.2.1.2.1.maxLocals = nL ∧ Γ.2.1.1.vm.findClass own = some Γ.2.1.2.1.cls ∧ (∀ w ∈ gWs, w.before Γ.2.1.2.2.1 Γ.2.1.1 = true) ∧
  va_K δ.1 vwCl (gT δ.2.1) Γ.2.1.1 ∧ gDj δ ∧ gStat δ Γ.2.1.1 Γ.2.1.1.heap Γ.2.1.1.heap.size ∧ gNest Γ.2.1.1 ∧ (fr ≤ Γ.1.2.2.2.frames ∧ lo ≤ Γ.1.2.2.2.locals) ∧ (Γ.2.2.2.1 ≤ Γ.1.2.2.2.cells ∧ Γ.2.2.2.2 ≤ Γ.1.2.2.2.slots)
section GR
variable {Γ : GX} {δ : GD} {σ : GS} {cc : ByteArray} {own : String} {nL fr lo pc : Nat} {lv : List (Option Value)} {st : List Value}
theorem g_st {σ' : GS} (h : σ = σ') (k : gW Γ δ σ' pc lv st) : gW Γ δ σ pc lv st := h ▸ k
theorem g_sub {lv' : List (Option Value)} (hl : lv'.length = lv.length) (h : ∀ (i : Nat) (v : Value), lv'[i]? = some (some v) → lv[i]? = some (some v)) (k : gW Γ δ σ pc lv' st) : gW Γ δ σ pc lv st :=
  fun H locs ls hP hS hV => k H locs ls hP hS ⟨hV.1.trans hl.symm, hV.2.1, fun i v hv => hV.2.2 i v (h i v hv)⟩
/-- which known locals of lv' are lv's: by place, bit by bit -/
def gSubB : List (Option Value) → List (Option Value) → Prop
  | [], [] => True
  | some v :: l', o :: l => o = some v ∧ gSubB l' l
  | none :: l', _ :: l => gSubB l' l
  | _, _ => False
theorem gSub_of : ∀ {l' l : List (Option Value)}, gSubB l' l → l'.length = l.length ∧ ∀ (i : Nat) (v : Value), l'[i]? = some (some v) → l[i]? = some (some v)
  | [], [], _ => ⟨rfl, fun i v h => by simp at h⟩
  | some w :: l', o :: l, h => by
    obtain ⟨e, h⟩ := h
    subst e
    obtain ⟨h1, h2⟩ := gSub_of h
    refine ⟨by simp [h1], fun i v hv => ?_⟩
    cases i with
    | zero => exact hv
    | succ i => exact h2 i v hv
  | none :: l', o :: l, h => by
    obtain ⟨h1, h2⟩ := gSub_of (l' := l') (l := l) h
    refine ⟨by simp [h1], fun i v hv => ?_⟩
    cases i with
    | zero => simp at hv
    | succ i => exact h2 i v hv
  | [], _ :: _, h => h.elim
  | some _ :: _, [], h => h.elim
  | none :: _, [], h => h.elim
theorem g_lv (lv' : List (Option Value)) (h : gSubB lv' lv) (k : gW Γ δ σ pc lv' st) : gW Γ δ σ pc lv st := g_sub (gSub_of h).1 (gSub_of h).2 k
theorem g_iconst (C : gC Γ δ cc own nL fr lo) {n : Int} {v : Int32} (d : decode cc pc = .ok (.iconst n, 1)) (hv : Int32.ofInt n = v) (k : gW Γ δ σ (pc + 1) lv (.int v :: st)) : gW Γ δ σ pc lv st :=
  fun H locs ls hP hS hV => lv_iconst C.1 C.2.1 d hv (k H locs ls hP hS hV)
theorem g_bipush (C : gC Γ δ cc own nL fr lo) {n : Int} {v : Int32} (d : decode cc pc = .ok (.bipush n, 2)) (hv : (Int8.ofInt n).toInt32 = v) (k : gW Γ δ σ (pc + 2) lv (.int v :: st)) : gW Γ δ σ pc lv st :=
  fun H locs ls hP hS hV => lv_bipush C.1 C.2.1 d hv (k H locs ls hP hS hV)
theorem g_sipush (C : gC Γ δ cc own nL fr lo) {n : Int} {v : Int32} (d : decode cc pc = .ok (.sipush n, 3)) (hv : (Int16.ofInt n).toInt32 = v) (k : gW Γ δ σ (pc + 3) lv (.int v :: st)) : gW Γ δ σ pc lv st :=
  fun H locs ls hP hS hV => lv_sipush C.1 C.2.1 d hv (k H locs ls hP hS hV)
theorem g_lconst (C : gC Γ δ cc own nL fr lo) {n : Fin 2} {v : Int64} (d : decode cc pc = .ok (.lconst n, 1)) (hv : Int64.ofNat (n : Nat) = v) (k : gW Γ δ σ (pc + 1) lv (.long v :: st)) : gW Γ δ σ pc lv st :=
  fun H locs ls hP hS hV => lv_lconst C.1 C.2.1 d hv (k H locs ls hP hS hV)
theorem g_null (C : gC Γ δ cc own nL fr lo) (d : decode cc pc = .ok (.aconst_null, 1)) (k : gW Γ δ σ (pc + 1) lv (.null :: st)) : gW Γ δ σ pc lv st :=
  fun H locs ls hP hS hV => lv_null C.1 C.2.1 d (k H locs ls hP hS hV)
theorem g_ldc2 (C : gC Γ δ cc own nL fr lo) {index : Nat} {v : Int64} (d : decode cc pc = .ok (.ldc2_w index, 3)) (w : Cond.constantLong own index v ∈ gWs) (k : gW Γ δ σ (pc + 3) lv (.long v :: st)) : gW Γ δ σ pc lv st :=
  fun H locs ls hP hS hV => lv_ldc2 C.1 C.2.1 C.2.2.2.1 (C.2.2.2.2.1 _ w) d (k H locs ls hP hS hV)
theorem g_ldc (C : gC Γ δ cc own nL fr lo) {index : Nat} {v : Int32} (d : decode cc pc = .ok (.ldc index, 2)) (w : Cond.constant own index v ∈ gWs) (k : gW Γ δ σ (pc + 2) lv (.int v :: st)) : gW Γ δ σ pc lv st :=
  fun H locs ls hP hS hV => lv_ldc C.1 C.2.1 C.2.2.2.1 (C.2.2.2.2.1 _ w) d (k H locs ls hP hS hV)
theorem g_iload_n (C : gC Γ δ cc own nL fr lo) {i : Fin 4} {x : Int32} (d : decode cc pc = .ok (.iload_n i, 1)) (h : lv[(i : Nat)]? = some (some (.int x))) (k : gW Γ δ σ (pc + 1) lv (.int x :: st)) : gW Γ δ σ pc lv st :=
  fun H locs ls hP hS hV => lv_iload_n C.1 C.2.1 d rfl (hV.2.2 _ _ h) (k H locs ls hP hS hV)
theorem g_iload (C : gC Γ δ cc own nL fr lo) {i : Nat} {x : Int32} (d : decode cc pc = .ok (.iload i, 2)) (h : lv[i]? = some (some (.int x))) (k : gW Γ δ σ (pc + 2) lv (.int x :: st)) : gW Γ δ σ pc lv st :=
  fun H locs ls hP hS hV => lv_iload C.1 C.2.1 d (hV.2.2 _ _ h) (k H locs ls hP hS hV)
theorem g_lload_n (C : gC Γ δ cc own nL fr lo) {i : Fin 4} {x : Int64} (d : decode cc pc = .ok (.lload_n i, 1)) (h : lv[(i : Nat)]? = some (some (.long x))) (k : gW Γ δ σ (pc + 1) lv (.long x :: st)) : gW Γ δ σ pc lv st :=
  fun H locs ls hP hS hV => lv_lload_n C.1 C.2.1 d rfl (hV.2.2 _ _ h) (k H locs ls hP hS hV)
theorem g_lload (C : gC Γ δ cc own nL fr lo) {i : Nat} {x : Int64} (d : decode cc pc = .ok (.lload i, 2)) (h : lv[i]? = some (some (.long x))) (k : gW Γ δ σ (pc + 2) lv (.long x :: st)) : gW Γ δ σ pc lv st :=
  fun H locs ls hP hS hV => lv_lload C.1 C.2.1 d (hV.2.2 _ _ h) (k H locs ls hP hS hV)
theorem g_aload_n (C : gC Γ δ cc own nL fr lo) {i : Fin 4} {x : Nat} (d : decode cc pc = .ok (.aload_n i, 1)) (h : lv[(i : Nat)]? = some (some (.ref x))) (k : gW Γ δ σ (pc + 1) lv (.ref x :: st)) : gW Γ δ σ pc lv st :=
  fun H locs ls hP hS hV => lv_aload_n C.1 C.2.1 d rfl (hV.2.2 _ _ h) (k H locs ls hP hS hV)
theorem g_aload (C : gC Γ δ cc own nL fr lo) {i : Nat} {x : Nat} (d : decode cc pc = .ok (.aload i, 2)) (h : lv[i]? = some (some (.ref x))) (k : gW Γ δ σ (pc + 2) lv (.ref x :: st)) : gW Γ δ σ pc lv st :=
  fun H locs ls hP hS hV => lv_aload C.1 C.2.1 d (hV.2.2 _ _ h) (k H locs ls hP hS hV)
theorem g_istore_n (C : gC Γ δ cc own nL fr lo) {i : Fin 4} {x : Int32} (d : decode cc pc = .ok (.istore_n i, 1)) (hi : (i : Nat) < lv.length) (hc : gCutB lv i = true) (k : gW Γ δ σ (pc + 1) (gSt1 lv i (.int x)) st) : gW Γ δ σ pc lv (.int x :: st) :=
  fun H locs ls hP hS hV => lv_istore_n C.1 C.2.1 d rfl hV.has hi rfl (fun ls' h' => k H locs ls' hP hS (gV.st1 (ls := ls) hc hi h'))
theorem g_istore (C : gC Γ δ cc own nL fr lo) {i : Nat} {x : Int32} (d : decode cc pc = .ok (.istore i, 2)) (hi : (i : Nat) < lv.length) (hc : gCutB lv i = true) (k : gW Γ δ σ (pc + 2) (gSt1 lv i (.int x)) st) : gW Γ δ σ pc lv (.int x :: st) :=
  fun H locs ls hP hS hV => lv_istore C.1 C.2.1 d hV.has hi rfl (fun ls' h' => k H locs ls' hP hS (gV.st1 (ls := ls) hc hi h'))
theorem g_lstore_n (C : gC Γ δ cc own nL fr lo) {i : Fin 4} {x : Int64} (d : decode cc pc = .ok (.lstore_n i, 1)) (hi : (i : Nat) + 1 < lv.length) (hc : gCutB lv i = true) (k : gW Γ δ σ (pc + 1) (gSt2 lv i (.long x)) st) : gW Γ δ σ pc lv (.long x :: st) :=
  fun H locs ls hP hS hV => lv_lstore_n C.1 C.2.1 d rfl hV.has hi rfl (fun ls' h' => k H locs ls' hP hS (gV.st2 (ls := ls) hc hi h'))
theorem g_lstore (C : gC Γ δ cc own nL fr lo) {i : Nat} {x : Int64} (d : decode cc pc = .ok (.lstore i, 2)) (hi : (i : Nat) + 1 < lv.length) (hc : gCutB lv i = true) (k : gW Γ δ σ (pc + 2) (gSt2 lv i (.long x)) st) : gW Γ δ σ pc lv (.long x :: st) :=
  fun H locs ls hP hS hV => lv_lstore C.1 C.2.1 d hV.has hi rfl (fun ls' h' => k H locs ls' hP hS (gV.st2 (ls := ls) hc hi h'))
theorem g_astore_n (C : gC Γ δ cc own nL fr lo) {i : Fin 4} {x : Nat} (d : decode cc pc = .ok (.astore_n i, 1)) (hi : (i : Nat) < lv.length) (hc : gCutB lv i = true) (k : gW Γ δ σ (pc + 1) (gSt1 lv i (.ref x)) st) : gW Γ δ σ pc lv (.ref x :: st) :=
  fun H locs ls hP hS hV => lv_astore_n C.1 C.2.1 d rfl hV.has hi rfl (fun ls' h' => k H locs ls' hP hS (gV.st1 (ls := ls) hc hi h'))
theorem g_astore (C : gC Γ δ cc own nL fr lo) {i : Nat} {x : Nat} (d : decode cc pc = .ok (.astore i, 2)) (hi : (i : Nat) < lv.length) (hc : gCutB lv i = true) (k : gW Γ δ σ (pc + 2) (gSt1 lv i (.ref x)) st) : gW Γ δ σ pc lv (.ref x :: st) :=
  fun H locs ls hP hS hV => lv_astore C.1 C.2.1 d hV.has hi rfl (fun ls' h' => k H locs ls' hP hS (gV.st1 (ls := ls) hc hi h'))
theorem g_iinc (C : gC Γ δ cc own nL fr lo) {i : Nat} {n : Int} {x v : Int32} (d : decode cc pc = .ok (.iinc i n, 3)) (h : lv[i]? = some (some (.int x))) (hv : x + Int32.ofInt n = v) (hc : gCutB lv i = true) (k : gW Γ δ σ (pc + 3) (gSt1 lv i (.int v)) st) : gW Γ δ σ pc lv st := by
  intro H locs ls hP hS hV
  have hi : i < lv.length := (List.getElem?_eq_some_iff.mp h).1
  obtain ⟨q, hq⟩ := List.getElem?_of_mem (gVl_mem.mpr h)
  exact lv_iinc C.1 C.2.1 d hV.has hq hv hi rfl (fun ls' h' => k H locs ls' hP hS (gV.st1 (ls := ls) hc hi h'))
theorem g_iadd (C : gC Γ δ cc own nL fr lo) {x y : Int32} (d : decode cc pc = .ok (.iadd, 1)) (k : gW Γ δ σ (pc + 1) lv (.int (x + y) :: st)) : gW Γ δ σ pc lv (.int y :: .int x :: st) :=
  fun H locs ls hP hS hV => lv_iadd C.1 C.2.1 d (k H locs ls hP hS hV)
theorem g_isub (C : gC Γ δ cc own nL fr lo) {x y : Int32} (d : decode cc pc = .ok (.isub, 1)) (k : gW Γ δ σ (pc + 1) lv (.int (x - y) :: st)) : gW Γ δ σ pc lv (.int y :: .int x :: st) :=
  fun H locs ls hP hS hV => lv_isub C.1 C.2.1 d (k H locs ls hP hS hV)
theorem g_imul (C : gC Γ δ cc own nL fr lo) {x y : Int32} (d : decode cc pc = .ok (.imul, 1)) (k : gW Γ δ σ (pc + 1) lv (.int (x * y) :: st)) : gW Γ δ σ pc lv (.int y :: .int x :: st) :=
  fun H locs ls hP hS hV => lv_imul C.1 C.2.1 d (k H locs ls hP hS hV)
theorem g_iand (C : gC Γ δ cc own nL fr lo) {x y : Int32} (d : decode cc pc = .ok (.iand, 1)) (k : gW Γ δ σ (pc + 1) lv (.int (x &&& y) :: st)) : gW Γ δ σ pc lv (.int y :: .int x :: st) :=
  fun H locs ls hP hS hV => lv_iand C.1 C.2.1 d (k H locs ls hP hS hV)
theorem g_ishl (C : gC Γ δ cc own nL fr lo) {x y : Int32} (d : decode cc pc = .ok (.ishl, 1)) (k : gW Γ δ σ (pc + 1) lv (.int (x <<< (y &&& 31)) :: st)) : gW Γ δ σ pc lv (.int y :: .int x :: st) :=
  fun H locs ls hP hS hV => lv_ishl C.1 C.2.1 d (k H locs ls hP hS hV)
theorem g_ishr (C : gC Γ δ cc own nL fr lo) {x y : Int32} (d : decode cc pc = .ok (.ishr, 1)) (k : gW Γ δ σ (pc + 1) lv (.int (x >>> (y &&& 31)) :: st)) : gW Γ δ σ pc lv (.int y :: .int x :: st) :=
  fun H locs ls hP hS hV => lv_ishr C.1 C.2.1 d (k H locs ls hP hS hV)
theorem g_idiv (C : gC Γ δ cc own nL fr lo) {x y : Int32} (d : decode cc pc = .ok (.idiv, 1)) (hne : ¬ y = 0) (k : gW Γ δ σ (pc + 1) lv (.int (x / y) :: st)) : gW Γ δ σ pc lv (.int y :: .int x :: st) :=
  fun H locs ls hP hS hV => lv_idiv C.1 C.2.1 d hne (k H locs ls hP hS hV)
theorem g_irem (C : gC Γ δ cc own nL fr lo) {x y : Int32} (d : decode cc pc = .ok (.irem, 1)) (hne : ¬ y = 0) (k : gW Γ δ σ (pc + 1) lv (.int (x - x / y * y) :: st)) : gW Γ δ σ pc lv (.int y :: .int x :: st) :=
  fun H locs ls hP hS hV => lv_irem C.1 C.2.1 d hne (k H locs ls hP hS hV)
theorem g_ladd (C : gC Γ δ cc own nL fr lo) {x y : Int64} (d : decode cc pc = .ok (.ladd, 1)) (k : gW Γ δ σ (pc + 1) lv (.long (x + y) :: st)) : gW Γ δ σ pc lv (.long y :: .long x :: st) :=
  fun H locs ls hP hS hV => lv_ladd C.1 C.2.1 d (k H locs ls hP hS hV)
theorem g_lmul (C : gC Γ δ cc own nL fr lo) {x y : Int64} (d : decode cc pc = .ok (.lmul, 1)) (k : gW Γ δ σ (pc + 1) lv (.long (x * y) :: st)) : gW Γ δ σ pc lv (.long y :: .long x :: st) :=
  fun H locs ls hP hS hV => lv_lmul C.1 C.2.1 d (k H locs ls hP hS hV)
theorem g_ldiv (C : gC Γ δ cc own nL fr lo) {x y : Int64} (d : decode cc pc = .ok (.ldiv, 1)) (hne : ¬ y = 0) (k : gW Γ δ σ (pc + 1) lv (.long (x / y) :: st)) : gW Γ δ σ pc lv (.long y :: .long x :: st) :=
  fun H locs ls hP hS hV => lv_ldiv C.1 C.2.1 d hne (k H locs ls hP hS hV)
theorem g_lrem (C : gC Γ δ cc own nL fr lo) {x y : Int64} (d : decode cc pc = .ok (.lrem, 1)) (hne : ¬ y = 0) (k : gW Γ δ σ (pc + 1) lv (.long (x - x / y * y) :: st)) : gW Γ δ σ pc lv (.long y :: .long x :: st) :=
  fun H locs ls hP hS hV => lv_lrem C.1 C.2.1 d hne (k H locs ls hP hS hV)
theorem g_land (C : gC Γ δ cc own nL fr lo) {x y : Int64} (d : decode cc pc = .ok (.land, 1)) (k : gW Γ δ σ (pc + 1) lv (.long (x &&& y) :: st)) : gW Γ δ σ pc lv (.long y :: .long x :: st) :=
  fun H locs ls hP hS hV => lv_land C.1 C.2.1 d (k H locs ls hP hS hV)
theorem g_lor (C : gC Γ δ cc own nL fr lo) {x y : Int64} (d : decode cc pc = .ok (.lor, 1)) (k : gW Γ δ σ (pc + 1) lv (.long (x ||| y) :: st)) : gW Γ δ σ pc lv (.long y :: .long x :: st) :=
  fun H locs ls hP hS hV => lv_lor C.1 C.2.1 d (k H locs ls hP hS hV)
theorem g_lshl (C : gC Γ δ cc own nL fr lo) {x : Int64} {y : Int32} (d : decode cc pc = .ok (.lshl, 1)) (k : gW Γ δ σ (pc + 1) lv (.long (x <<< (y.toInt64 &&& 63)) :: st)) : gW Γ δ σ pc lv (.int y :: .long x :: st) :=
  fun H locs ls hP hS hV => lv_lshl C.1 C.2.1 d rfl (k H locs ls hP hS hV)
theorem g_i2l (C : gC Γ δ cc own nL fr lo) {x : Int32} (d : decode cc pc = .ok (.i2l, 1)) (k : gW Γ δ σ (pc + 1) lv (.long x.toInt64 :: st)) : gW Γ δ σ pc lv (.int x :: st) :=
  fun H locs ls hP hS hV => lv_i2l C.1 C.2.1 d rfl (k H locs ls hP hS hV)
theorem g_l2i (C : gC Γ δ cc own nL fr lo) {x : Int64} (d : decode cc pc = .ok (.l2i, 1)) (k : gW Γ δ σ (pc + 1) lv (.int x.toInt32 :: st)) : gW Γ δ σ pc lv (.long x :: st) :=
  fun H locs ls hP hS hV => lv_l2i C.1 C.2.1 d rfl (k H locs ls hP hS hV)
theorem g_i2b (C : gC Γ δ cc own nL fr lo) {x : Int32} (d : decode cc pc = .ok (.i2b, 1)) (k : gW Γ δ σ (pc + 1) lv (.int x.toInt8.toInt32 :: st)) : gW Γ δ σ pc lv (.int x :: st) :=
  fun H locs ls hP hS hV => lv_i2b C.1 C.2.1 d rfl (k H locs ls hP hS hV)
theorem g_dup (C : gC Γ δ cc own nL fr lo) {v : Value} (d : decode cc pc = .ok (.dup, 1)) (hv : v.category = 1) (k : gW Γ δ σ (pc + 1) lv (v :: v :: st)) : gW Γ δ σ pc lv (v :: st) :=
  fun H locs ls hP hS hV => lv_dup C.1 C.2.1 d hv (k H locs ls hP hS hV)
theorem g_dup2 (C : gC Γ δ cc own nL fr lo) {v w : Value} (d : decode cc pc = .ok (.dup2, 1)) (hv : v.category = 1) (hw : w.category = 1) (k : gW Γ δ σ (pc + 1) lv (v :: w :: v :: w :: st)) : gW Γ δ σ pc lv (v :: w :: st) :=
  fun H locs ls hP hS hV => lv_dup2_11 C.1 C.2.1 d hv hw (k H locs ls hP hS hV)
theorem g_pop (C : gC Γ δ cc own nL fr lo) {v : Value} (d : decode cc pc = .ok (.pop, 1)) (hv : v.category = 1) (k : gW Γ δ σ (pc + 1) lv st) : gW Γ δ σ pc lv (v :: st) :=
  fun H locs ls hP hS hV => lv_pop C.1 C.2.1 d hv (k H locs ls hP hS hV)
theorem g_pop2 (C : gC Γ δ cc own nL fr lo) {v : Value} (d : decode cc pc = .ok (.pop2, 1)) (hv : v.category = 2) (k : gW Γ δ σ (pc + 1) lv st) : gW Γ δ σ pc lv (v :: st) :=
  fun H locs ls hP hS hV => lv_pop2_2 C.1 C.2.1 d hv (k H locs ls hP hS hV)
theorem g_goto (C : gC Γ δ cc own nL fr lo) {off : Int} (tgt : Nat) (d : decode cc pc = .ok (.goto off, 3)) (ht : (pc : Int) + off = (tgt : Int)) (k : gW Γ δ σ tgt lv st) : gW Γ δ σ pc lv st :=
  fun H locs ls hP hS hV => lv_goto C.1 C.2.1 d ht (k H locs ls hP hS hV)
theorem g_icmp_eq (C : gC Γ δ cc own nL fr lo) {x y : Int32} {off : Int} (tgt : Nat) (d : decode cc pc = .ok (.if_icmp .eq off, 3)) (ht : (pc : Int) + off = (tgt : Int)) (kt : x = y → gW Γ δ σ tgt lv st) (kf : ¬ x = y → gW Γ δ σ (pc + 3) lv st) : gW Γ δ σ pc lv (.int y :: .int x :: st) :=
  fun H locs ls hP hS hV => lv_icmp_eq C.1 C.2.1 d ht (fun h => kt h H locs ls hP hS hV) (fun h => kf h H locs ls hP hS hV)
theorem g_if_eq (C : gC Γ δ cc own nL fr lo) {x : Int32} {off : Int} (tgt : Nat) (d : decode cc pc = .ok (.ifCond .eq off, 3)) (ht : (pc : Int) + off = (tgt : Int)) (kt : x = 0 → gW Γ δ σ tgt lv st) (kf : ¬ x = 0 → gW Γ δ σ (pc + 3) lv st) : gW Γ δ σ pc lv (.int x :: st) :=
  fun H locs ls hP hS hV => lv_if_eq C.1 C.2.1 d ht (fun h => kt h H locs ls hP hS hV) (fun h => kf h H locs ls hP hS hV)
theorem g_icmp_ne (C : gC Γ δ cc own nL fr lo) {x y : Int32} {off : Int} (tgt : Nat) (d : decode cc pc = .ok (.if_icmp .ne off, 3)) (ht : (pc : Int) + off = (tgt : Int)) (kt : ¬ x = y → gW Γ δ σ tgt lv st) (kf : x = y → gW Γ δ σ (pc + 3) lv st) : gW Γ δ σ pc lv (.int y :: .int x :: st) :=
  fun H locs ls hP hS hV => lv_icmp_ne C.1 C.2.1 d ht (fun h => kt h H locs ls hP hS hV) (fun h => kf h H locs ls hP hS hV)
theorem g_if_ne (C : gC Γ δ cc own nL fr lo) {x : Int32} {off : Int} (tgt : Nat) (d : decode cc pc = .ok (.ifCond .ne off, 3)) (ht : (pc : Int) + off = (tgt : Int)) (kt : ¬ x = 0 → gW Γ δ σ tgt lv st) (kf : x = 0 → gW Γ δ σ (pc + 3) lv st) : gW Γ δ σ pc lv (.int x :: st) :=
  fun H locs ls hP hS hV => lv_if_ne C.1 C.2.1 d ht (fun h => kt h H locs ls hP hS hV) (fun h => kf h H locs ls hP hS hV)
theorem g_icmp_lt (C : gC Γ δ cc own nL fr lo) {x y : Int32} {off : Int} (tgt : Nat) (d : decode cc pc = .ok (.if_icmp .lt off, 3)) (ht : (pc : Int) + off = (tgt : Int)) (kt : x < y → gW Γ δ σ tgt lv st) (kf : ¬ x < y → gW Γ δ σ (pc + 3) lv st) : gW Γ δ σ pc lv (.int y :: .int x :: st) :=
  fun H locs ls hP hS hV => lv_icmp_lt C.1 C.2.1 d ht (fun h => kt h H locs ls hP hS hV) (fun h => kf h H locs ls hP hS hV)
theorem g_if_lt (C : gC Γ δ cc own nL fr lo) {x : Int32} {off : Int} (tgt : Nat) (d : decode cc pc = .ok (.ifCond .lt off, 3)) (ht : (pc : Int) + off = (tgt : Int)) (kt : x < 0 → gW Γ δ σ tgt lv st) (kf : ¬ x < 0 → gW Γ δ σ (pc + 3) lv st) : gW Γ δ σ pc lv (.int x :: st) :=
  fun H locs ls hP hS hV => lv_if_lt C.1 C.2.1 d ht (fun h => kt h H locs ls hP hS hV) (fun h => kf h H locs ls hP hS hV)
theorem g_icmp_ge (C : gC Γ δ cc own nL fr lo) {x y : Int32} {off : Int} (tgt : Nat) (d : decode cc pc = .ok (.if_icmp .ge off, 3)) (ht : (pc : Int) + off = (tgt : Int)) (kt : y ≤ x → gW Γ δ σ tgt lv st) (kf : ¬ y ≤ x → gW Γ δ σ (pc + 3) lv st) : gW Γ δ σ pc lv (.int y :: .int x :: st) :=
  fun H locs ls hP hS hV => lv_icmp_ge C.1 C.2.1 d ht (fun h => kt h H locs ls hP hS hV) (fun h => kf h H locs ls hP hS hV)
theorem g_if_ge (C : gC Γ δ cc own nL fr lo) {x : Int32} {off : Int} (tgt : Nat) (d : decode cc pc = .ok (.ifCond .ge off, 3)) (ht : (pc : Int) + off = (tgt : Int)) (kt : 0 ≤ x → gW Γ δ σ tgt lv st) (kf : ¬ 0 ≤ x → gW Γ δ σ (pc + 3) lv st) : gW Γ δ σ pc lv (.int x :: st) :=
  fun H locs ls hP hS hV => lv_if_ge C.1 C.2.1 d ht (fun h => kt h H locs ls hP hS hV) (fun h => kf h H locs ls hP hS hV)
theorem g_icmp_gt (C : gC Γ δ cc own nL fr lo) {x y : Int32} {off : Int} (tgt : Nat) (d : decode cc pc = .ok (.if_icmp .gt off, 3)) (ht : (pc : Int) + off = (tgt : Int)) (kt : y < x → gW Γ δ σ tgt lv st) (kf : ¬ y < x → gW Γ δ σ (pc + 3) lv st) : gW Γ δ σ pc lv (.int y :: .int x :: st) :=
  fun H locs ls hP hS hV => lv_icmp_gt C.1 C.2.1 d ht (fun h => kt h H locs ls hP hS hV) (fun h => kf h H locs ls hP hS hV)
theorem g_if_gt (C : gC Γ δ cc own nL fr lo) {x : Int32} {off : Int} (tgt : Nat) (d : decode cc pc = .ok (.ifCond .gt off, 3)) (ht : (pc : Int) + off = (tgt : Int)) (kt : 0 < x → gW Γ δ σ tgt lv st) (kf : ¬ 0 < x → gW Γ δ σ (pc + 3) lv st) : gW Γ δ σ pc lv (.int x :: st) :=
  fun H locs ls hP hS hV => lv_if_gt C.1 C.2.1 d ht (fun h => kt h H locs ls hP hS hV) (fun h => kf h H locs ls hP hS hV)
theorem g_icmp_le (C : gC Γ δ cc own nL fr lo) {x y : Int32} {off : Int} (tgt : Nat) (d : decode cc pc = .ok (.if_icmp .le off, 3)) (ht : (pc : Int) + off = (tgt : Int)) (kt : x ≤ y → gW Γ δ σ tgt lv st) (kf : ¬ x ≤ y → gW Γ δ σ (pc + 3) lv st) : gW Γ δ σ pc lv (.int y :: .int x :: st) :=
  fun H locs ls hP hS hV => lv_icmp_le C.1 C.2.1 d ht (fun h => kt h H locs ls hP hS hV) (fun h => kf h H locs ls hP hS hV)
theorem g_if_le (C : gC Γ δ cc own nL fr lo) {x : Int32} {off : Int} (tgt : Nat) (d : decode cc pc = .ok (.ifCond .le off, 3)) (ht : (pc : Int) + off = (tgt : Int)) (kt : x ≤ 0 → gW Γ δ σ tgt lv st) (kf : ¬ x ≤ 0 → gW Γ δ σ (pc + 3) lv st) : gW Γ δ σ pc lv (.int x :: st) :=
  fun H locs ls hP hS hV => lv_if_le C.1 C.2.1 d ht (fun h => kt h H locs ls hP hS hV) (fun h => kf h H locs ls hP hS hV)
theorem g_ifnull_r (C : gC Γ δ cc own nL fr lo) {off : Int} {x : Nat} (d : decode cc pc = .ok (.ifnull off, 3)) (k : gW Γ δ σ (pc + 3) lv st) : gW Γ δ σ pc lv (.ref x :: st) :=
  fun H locs ls hP hS hV => lv_ifnull C.1 C.2.1 d (k H locs ls hP hS hV)
theorem g_ifnonnull_r (C : gC Γ δ cc own nL fr lo) {off : Int} {x : Nat} (tgt : Nat) (d : decode cc pc = .ok (.ifnonnull off, 3)) (ht : (pc : Int) + off = (tgt : Int)) (k : gW Γ δ σ tgt lv st) : gW Γ δ σ pc lv (.ref x :: st) :=
  fun H locs ls hP hS hV => lv_ifnonnull C.1 C.2.1 d ht (k H locs ls hP hS hV)
theorem g_tableIn (C : gC Γ δ cc own nL fr lo) {dflt lo' hi : Int} {offs : Array Int} {len : Nat} {x : Int32} {off : Int} (tgt : Nat) (d : decode cc pc = .ok (.tableswitch dflt lo' hi offs, len)) (h1 : ¬ x.toInt < lo') (h2 : ¬ hi < x.toInt) (ho : offs[(x.toInt - lo').toNat]? = some off) (ht : (pc : Int) + off = (tgt : Int)) (k : gW Γ δ σ tgt lv st) : gW Γ δ σ pc lv (.int x :: st) :=
  fun H locs ls hP hS hV => lv_tableIn C.1 C.2.1 d h1 h2 ho ht (k H locs ls hP hS hV)
theorem g_tableOut (C : gC Γ δ cc own nL fr lo) {dflt lo' hi : Int} {offs : Array Int} {len : Nat} {x : Int32} (tgt : Nat) (d : decode cc pc = .ok (.tableswitch dflt lo' hi offs, len)) (h : x.toInt < lo' ∨ hi < x.toInt) (ht : (pc : Int) + dflt = (tgt : Int)) (k : gW Γ δ σ tgt lv st) : gW Γ δ σ pc lv (.int x :: st) :=
  fun H locs ls hP hS hV => lv_tableOut C.1 C.2.1 d h ht (k H locs ls hP hS hV)
theorem g_get (C : gC Γ δ cc own nL fr lo) {ref Cn : String} {T : u_T} {N ci index q b : Nat} {fs : List Value} {v : Value} (d : decode cc pc = .ok (.getfield index, 3)) (hin : ∀ w ∈ u_ws Cn T N, w ∈ gWs) (hc : vwCl[ci]? = some (Cn, T, N)) (ho : (wG δ σ)[q]? = some (b, .inr (ci, fs))) (kf : Nat) (hk : kf < N) (w : Cond.fieldLink own index ref (T kf).2.1 (T kf).2.2.1 ∈ gWs) (hr : (T kf).1 = ref) (hv : fs[kf]? = some v) (k : gW Γ δ σ (pc + 3) lv (v :: st)) : gW Γ δ σ pc lv (.ref b :: st) :=
  fun H locs ls hP hS hV => va_get C.1 C.2.1 C.2.2.2.2.1 hin C.2.2.2.1 C.2.2.2.2.2.1 hP q ho hc kf hk (C.2.2.2.2.1 _ w) (by rw [hr]; exact fun _ h => h) hv d (k H locs ls hP hS hV)
theorem g_put (C : gC Γ δ cc own nL fr lo) {σ' : GS} {ref Cn : String} {T : u_T} {N ci index q b : Nat} {fs : List Value} {v : Value} {ty : FieldType} (ty0 : Nat → FieldType) (d : decode cc pc = .ok (.putfield index, 3)) (hin : ∀ w ∈ u_ws Cn T N, w ∈ gWs) (hty : ∀ k, k < N → parseFieldDescriptor (T k).2.2.1 = some (ty0 k)) (hnm : ∀ a, a < N → ∀ b, b < N → a ≠ b → (T a).2.1 ≠ (T b).2.1) (hc : vwCl[ci]? = some (Cn, T, N)) (ho : (wG δ σ)[q]? = some (b, .inr (ci, fs))) (kf : Nat) (hk : kf < N) (w : Cond.fieldLink own index ref (T kf).2.1 (T kf).2.2.1 ∈ gWs) (hr : (T kf).1 = ref) (hfin : (T kf).2.2.2 = false) (hd : ty0 kf = ty) (hn : narrow ty v = v) (hfit : fits ty v = true) (hl : kf < fs.length) (hw : (wG δ σ).set q (b, .inr (ci, fs.set kf v)) = wG δ σ') (k : gW Γ δ σ' (pc + 3) lv st) : gW Γ δ σ pc lv (v :: .ref b :: st) :=
  fun H locs ls hP hS hV => va_put C.1 C.2.1 C.2.2.2.2.1 hin ty0 hty hnm C.2.2.2.1 C.2.2.2.2.2.1 hP (gDj_D C.2.2.2.2.2.2.1) hS q ho hc kf hk (C.2.2.2.2.1 _ w) (by rw [hr]; exact fun _ h => h) hfin (by rw [hty kf hk, hd]) hn hfit hl d (fun H1 locs1 hP1 _ hS1 => k H1 locs1 ls (by rw [← hw]; exact hP1) hS1 hV)
theorem g_iald (C : gC Γ δ cc own nL fr lo) {i : Int32} {b : Nat} (q : Nat) (d : decode cc pc = .ok (.iaload, 1)) (hq : q < 60) (hb : b = δ.2.2.1 (22 + q)) (hin : vp_in i (gLenI q)) (k : gW Γ δ σ (pc + 1) lv (.int (gI σ q i.toNatClampNeg) :: st)) : gW Γ δ σ pc lv (.int i :: .ref b :: st) := by
  subst hb
  exact fun H locs ls hP hS hV => va_iald C.1 C.2.1 C.2.2.2.2.2.1 hP (22 + q) 0 (wG_I δ σ hq) rfl hin d (k H locs ls hP hS hV)
theorem g_lald (C : gC Γ δ cc own nL fr lo) {i : Int32} {b : Nat} (q : Nat) (d : decode cc pc = .ok (.laload, 1)) (hq : q < 17) (hb : b = δ.2.2.1 (82 + q)) (hin : vp_in i (gLenL q)) (k : gW Γ δ σ (pc + 1) lv (.long (gL σ q i.toNatClampNeg) :: st)) : gW Γ δ σ pc lv (.int i :: .ref b :: st) := by
  subst hb
  exact fun H locs ls hP hS hV => va_lald C.1 C.2.1 C.2.2.2.2.2.1 hP (82 + q) 1 (wG_L δ σ hq) rfl hin d (k H locs ls hP hS hV)
theorem g_iast (C : gC Γ δ cc own nL fr lo) {i x : Int32} {b : Nat} (q : Nat) (d : decode cc pc = .ok (.iastore, 1)) (hq : q < 60) (hb : b = δ.2.2.1 (22 + q)) (hin : vp_in i (gLenI q)) (k : gW Γ δ (uI σ q (upd (gI σ q) i.toNatClampNeg x)) (pc + 1) lv st) : gW Γ δ σ pc lv (.int x :: .int i :: .ref b :: st) := by
  subst hb
  exact fun H locs ls hP hS hV => va_iast C.1 C.2.1 C.2.2.2.2.2.1 hP (gDj_D C.2.2.2.2.2.2.1) hS (22 + q) 0 (wG_I δ σ hq) rfl hin d (fun H1 locs1 hP1 _ hS1 => k H1 locs1 ls (by rw [← wG_setI δ σ hq]; exact hP1) hS1 hV)
theorem g_last (C : gC Γ δ cc own nL fr lo) {i : Int32} {x : Int64} {b : Nat} (q : Nat) (d : decode cc pc = .ok (.lastore, 1)) (hq : q < 17) (hb : b = δ.2.2.1 (82 + q)) (hin : vp_in i (gLenL q)) (k : gW Γ δ (uL σ q (vp_updL (gL σ q) i.toNatClampNeg x)) (pc + 1) lv st) : gW Γ δ σ pc lv (.long x :: .int i :: .ref b :: st) := by
  subst hb
  exact fun H locs ls hP hS hV => va_last C.1 C.2.1 C.2.2.2.2.2.1 hP (gDj_D C.2.2.2.2.2.2.1) hS (82 + q) 1 (wG_L δ σ hq) rfl hin d (fun H1 locs1 hP1 _ hS1 => k H1 locs1 ls (by rw [← wG_setL δ σ hq]; exact hP1) hS1 hV)
theorem g_alenI (C : gC Γ δ cc own nL fr lo) {b : Nat} (q : Nat) (d : decode cc pc = .ok (.arraylength, 1)) (hq : q < 60) (hb : b = δ.2.2.1 (22 + q)) (k : gW Γ δ σ (pc + 1) lv (.int (nI (gLenI q)) :: st)) : gW Γ δ σ pc lv (.ref b :: st) := by
  subst hb
  exact fun H locs ls hP hS hV => va_alen C.1 C.2.1 C.2.2.2.2.2.1 hP (22 + q) 0 (wG_I δ σ hq) rfl rfl d (k H locs ls hP hS hV)
theorem g_alenL (C : gC Γ δ cc own nL fr lo) {b : Nat} (q : Nat) (d : decode cc pc = .ok (.arraylength, 1)) (hq : q < 17) (hb : b = δ.2.2.1 (82 + q)) (k : gW Γ δ σ (pc + 1) lv (.int (nI (gLenL q)) :: st)) : gW Γ δ σ pc lv (.ref b :: st) := by
  subst hb
  exact fun H locs ls hP hS hV => va_alen C.1 C.2.1 C.2.2.2.2.2.1 hP (82 + q) 1 (wG_L δ σ hq) rfl rfl d (k H locs ls hP hS hV)
theorem g_aaldS (C : gC Γ δ cc own nL fr lo) {i : Int32} {b : Nat} (u : Nat) (d : decode cc pc = .ok (.aaload, 1)) (hb : b = δ.2.2.1 99) (hu : u < 6) (hi : i = nI u) (k : gW Γ δ σ (pc + 1) lv (.ref (δ.2.2.1 (2 + u)) :: st)) : gW Γ δ σ pc lv (.int i :: .ref b :: st) := by
  subst hb
  subst hi
  intro H locs ls hP hS hV
  refine va_aldq C.1 C.2.1 C.2.2.2.2.2.1 hP 99 2 (wR_S δ σ) rfl (vp_in_nI hu (by omega)) d ?_
  rw [nI_clamp (by omega), if_pos hu]
  exact k H locs ls hP hS hV
theorem g_aaldU (C : gC Γ δ cc own nL fr lo) {i : Int32} {b : Nat} (u : Nat) (d : decode cc pc = .ok (.aaload, 1)) (hb : b = δ.2.2.1 100) (hu : u < 8) (hi : i = nI u) (k : gW Γ δ σ (pc + 1) lv (.ref (δ.2.2.1 (8 + u)) :: st)) : gW Γ δ σ pc lv (.int i :: .ref b :: st) := by
  subst hb
  subst hi
  intro H locs ls hP hS hV
  refine va_aldq C.1 C.2.1 C.2.2.2.2.2.1 hP 100 3 (wR_U δ σ) rfl (vp_in_nI hu (by omega)) d ?_
  rw [nI_clamp (by omega), if_pos hu]
  exact k H locs ls hP hS hV
theorem g_aaldK (C : gC Γ δ cc own nL fr lo) {i : Int32} {b : Nat} (u : Nat) (d : decode cc pc = .ok (.aaload, 1)) (hb : b = δ.2.2.1 101) (hu : u < 20) (hi : i = nI u) (k : gW Γ δ σ (pc + 1) lv (.ref (δ.2.2.1 (46 + u)) :: st)) : gW Γ δ σ pc lv (.int i :: .ref b :: st) := by
  subst hb
  subst hi
  intro H locs ls hP hS hV
  refine va_aldA C.1 C.2.1 C.2.2.2.2.2.1 hP 101 4 (wR_K δ σ) rfl (vp_in_nI hu (by omega)) d ?_
  rw [nI_clamp (by omega), if_pos hu]
  exact k H locs ls hP hS hV
theorem g_gets (C : gC Γ δ cc own nL fr lo) {index : Nat} (d : decode cc pc = .ok (.getstatic index, 3)) (w : Cond.fieldLink own index "GrowingUrns$After" "STEPS" "[I" ∈ gWs) (k : gW Γ δ σ (pc + 3) lv (.ref δ.2.2.2.1 :: st)) : gW Γ δ σ pc lv st :=
  fun H locs ls hP hS hV => va_gets C.1 C.2.1 C.2.2.2.2.2.2.2.1.1.1 hS C.2.2.2.1 (C.2.2.2.2.1 _ w) (fun _ h => h) d (k H locs ls hP hS hV)
theorem g_getsO (C : gC Γ δ cc own nL fr lo) {index : Nat} (d : decode cc pc = .ok (.getstatic index, 3)) (w : Cond.fieldLink own index "GrowingUrns$Orders" "STEPS" "[I" ∈ gWs) (k : gW Γ δ σ (pc + 3) lv (.ref δ.2.2.2.2 :: st)) : gW Γ δ σ pc lv st :=
  fun H locs ls hP hS hV => va_gets C.1 C.2.1 C.2.2.2.2.2.2.2.1.2.1 hS C.2.2.2.1 (C.2.2.2.2.1 _ w) (fun _ h => h) d (k H locs ls hP hS hV)
theorem g_stald (C : gC Γ δ cc own nL fr lo) {i v : Int32} (d : decode cc pc = .ok (.iaload, 1)) (hin : vp_in i 4) (hv : gStep i.toNatClampNeg = .int v) (k : gW Γ δ σ (pc + 1) lv (.int v :: st)) : gW Γ δ σ pc lv (.int i :: .ref δ.2.2.2.1 :: st) :=
  fun H locs ls hP hS hV => va_ti C.1 C.2.1 C.2.2.2.2.2.2.2.1.1.2 hS hin hv d (k H locs ls hP hS hV)
theorem g_staldO (C : gC Γ δ cc own nL fr lo) {i v : Int32} (d : decode cc pc = .ok (.iaload, 1)) (hin : vp_in i 4) (hv : gStepO i.toNatClampNeg = .int v) (k : gW Γ δ σ (pc + 1) lv (.int v :: st)) : gW Γ δ σ pc lv (.int i :: .ref δ.2.2.2.2 :: st) :=
  fun H locs ls hP hS hV => va_ti C.1 C.2.1 C.2.2.2.2.2.2.2.1.2.2 hS hin hv d (k H locs ls hP hS hV)
end GR
