section GR2
variable {Γ : GX} {δ : GD} {σ : GS} {cc : ByteArray} {own : String} {nL fr lo pc : Nat} {lv : List (Option Value)} {st : List Value}
theorem g_ifnull_n (C : gC Γ δ cc own nL fr lo) {off : Int} (tgt : Nat) (d : decode cc pc = .ok (.ifnull off, 3)) (ht : (pc : Int) + off = (tgt : Int)) (k : gW Γ δ σ tgt lv st) : gW Γ δ σ pc lv (.null :: st) :=
  fun H locs ls hP hS hV => lv_ifnullN C.1 C.2.1 d ht (k H locs ls hP hS hV)
theorem g_ifnonnull_n (C : gC Γ δ cc own nL fr lo) {off : Int} (d : decode cc pc = .ok (.ifnonnull off, 3)) (k : gW Γ δ σ (pc + 3) lv st) : gW Γ δ σ pc lv (.null :: st) :=
  fun H locs ls hP hS hV => lv_ifnonnullN C.1 C.2.1 d (k H locs ls hP hS hV)
theorem g_aload_nN (C : gC Γ δ cc own nL fr lo) {i : Fin 4} (d : decode cc pc = .ok (.aload_n i, 1)) (h : lv[(i : Nat)]? = some (some .null)) (k : gW Γ δ σ (pc + 1) lv (.null :: st)) : gW Γ δ σ pc lv st :=
  fun H locs ls hP hS hV => lv_aload_nN C.1 C.2.1 d rfl (hV.2.2 _ _ h) (k H locs ls hP hS hV)
theorem g_aloadN (C : gC Γ δ cc own nL fr lo) {i : Nat} (d : decode cc pc = .ok (.aload i, 2)) (h : lv[i]? = some (some .null)) (k : gW Γ δ σ (pc + 2) lv (.null :: st)) : gW Γ δ σ pc lv st :=
  fun H locs ls hP hS hV => lv_aloadN C.1 C.2.1 d (hV.2.2 _ _ h) (k H locs ls hP hS hV)
theorem g_astore_nN (C : gC Γ δ cc own nL fr lo) {i : Fin 4} (d : decode cc pc = .ok (.astore_n i, 1)) (hi : (i : Nat) < lv.length) (hc : gCutB lv i = true) (k : gW Γ δ σ (pc + 1) (gSt1 lv i .null) st) : gW Γ δ σ pc lv (.null :: st) :=
  fun H locs ls hP hS hV => lv_astore_nN C.1 C.2.1 d rfl hV.has hi rfl (fun ls' h' => k H locs ls' hP hS (gV.st1 (ls := ls) hc hi h'))
theorem g_astoreN (C : gC Γ δ cc own nL fr lo) {i : Nat} (d : decode cc pc = .ok (.astore i, 2)) (hi : (i : Nat) < lv.length) (hc : gCutB lv i = true) (k : gW Γ δ σ (pc + 2) (gSt1 lv i .null) st) : gW Γ δ σ pc lv (.null :: st) :=
  fun H locs ls hP hS hV => lv_astoreN C.1 C.2.1 d hV.has hi rfl (fun ls' h' => k H locs ls' hP hS (gV.st1 (ls := ls) hc hi h'))
theorem g_lcmp (C : gC Γ δ cc own nL fr lo) {x y : Int64} (d : decode cc pc = .ok (.lcmp, 1)) (k : gW Γ δ σ (pc + 1) lv (.int (lg_cmp x y) :: st)) : gW Γ δ σ pc lv (.long y :: .long x :: st) :=
  fun H locs ls hP hS hV => W.lcmp C.1 C.2.1 d (k H locs ls hP hS hV)
-- arrays copied
theorem g_copyI (C : gC Γ δ cc own nL fr lo) {index : Nat} {sp dp n : Int32} {b0 b1 : Nat} (q0 q1 : Nat) (d : decode cc pc = .ok (.invokestatic index, 3)) (w : Cond.methodLink own index arraycopyName ∈ gWs) (w1 : Cond.native arraycopyName ∈ gWs) (w2 : Cond.static arraycopyName ∈ gWs) (w3 : Cond.initialized "java/lang/System" ∈ gWs)
    (h0 : q0 < 60) (h1 : q1 < 60) (hb0 : b0 = δ.2.2.1 (22 + q0)) (hb1 : b1 = δ.2.2.1 (22 + q1)) (hlv : lv.length = nL) (hsp : ¬ sp < 0) (hdp : ¬ dp < 0) (hn : ¬ n < 0) (h4 : sp.toNatClampNeg + n.toNatClampNeg ≤ gLenI q0) (h5 : dp.toNatClampNeg + n.toNatClampNeg ≤ gLenI q1) (hfr : 1 ≤ fr) (hlo : (st.map fun v => v.category).sum + (nativeFrameWords "java/lang/System" "arraycopy" 5 + 11) ≤ lo)
    (k : gW Γ δ (uI σ q1 (va_cpy (gI σ q0) (gI σ q1) sp.toNatClampNeg dp.toNatClampNeg n.toNatClampNeg)) (pc + 3) lv st) : gW Γ δ σ pc lv (.int n :: .int dp :: .ref b1 :: .int sp :: .ref b0 :: st) := by
  subst hb0
  subst hb1
  exact fun H locs ls hP hS hV => va_copyi C.1 C.2.1 (by rw [C.2.2.1, hV.1, hlv]) C.2.2.2.1 (C.2.2.2.2.1 _ w) (C.2.2.2.2.1 _ w1) (C.2.2.2.2.1 _ w2) (C.2.2.2.2.1 _ w3) C.2.2.2.2.2.1 hP (gDj_D C.2.2.2.2.2.2.1) hS (22 + q0) (22 + q1) 0 0 (wG_I δ σ h0) (wG_I δ σ h1) rfl rfl rfl hsp hdp hn h4 h5 (fun _ _ => rfl) (Nat.le_trans hfr C.2.2.2.2.2.2.2.2.2.1.1) (Nat.le_trans hlo C.2.2.2.2.2.2.2.2.2.1.2) d (fun H1 locs1 hP1 _ hS1 => k H1 locs1 ls (by rw [← wG_setI δ σ h1]; exact hP1) hS1 hV)
theorem g_copyL (C : gC Γ δ cc own nL fr lo) {index : Nat} {sp dp n : Int32} {b0 b1 : Nat} (q0 q1 : Nat) (d : decode cc pc = .ok (.invokestatic index, 3)) (w : Cond.methodLink own index arraycopyName ∈ gWs) (w1 : Cond.native arraycopyName ∈ gWs) (w2 : Cond.static arraycopyName ∈ gWs) (w3 : Cond.initialized "java/lang/System" ∈ gWs)
    (h0 : q0 < 17) (h1 : q1 < 17) (hb0 : b0 = δ.2.2.1 (82 + q0)) (hb1 : b1 = δ.2.2.1 (82 + q1)) (hlv : lv.length = nL) (hsp : ¬ sp < 0) (hdp : ¬ dp < 0) (hn : ¬ n < 0) (h4 : sp.toNatClampNeg + n.toNatClampNeg ≤ gLenL q0) (h5 : dp.toNatClampNeg + n.toNatClampNeg ≤ gLenL q1) (hfr : 1 ≤ fr) (hlo : (st.map fun v => v.category).sum + (nativeFrameWords "java/lang/System" "arraycopy" 5 + 11) ≤ lo)
    (k : gW Γ δ (uL σ q1 (va_cpy (gL σ q0) (gL σ q1) sp.toNatClampNeg dp.toNatClampNeg n.toNatClampNeg)) (pc + 3) lv st) : gW Γ δ σ pc lv (.int n :: .int dp :: .ref b1 :: .int sp :: .ref b0 :: st) := by
  subst hb0
  subst hb1
  exact fun H locs ls hP hS hV => va_copyl C.1 C.2.1 (by rw [C.2.2.1, hV.1, hlv]) C.2.2.2.1 (C.2.2.2.2.1 _ w) (C.2.2.2.2.1 _ w1) (C.2.2.2.2.1 _ w2) (C.2.2.2.2.1 _ w3) C.2.2.2.2.2.1 hP (gDj_D C.2.2.2.2.2.2.1) hS (82 + q0) (82 + q1) 1 1 (wG_L δ σ h0) (wG_L δ σ h1) rfl rfl rfl hsp hdp hn h4 h5 (fun _ _ => rfl) (Nat.le_trans hfr C.2.2.2.2.2.2.2.2.2.1.1) (Nat.le_trans hlo C.2.2.2.2.2.2.2.2.2.1.2) d (fun H1 locs1 hP1 _ hS1 => k H1 locs1 ls (by rw [← wG_setL δ σ h1]; exact hP1) hS1 hV)
end GR2
-- CONTRACTS: post speaks of what comes back, and of the new state
def gB (δ : GD) (σ : GS) (U : State) : Prop := va_P δ.1 vwCl (wG δ σ) U.heap ∧ va_K δ.1 vwCl (gT δ.2.1) U ∧ gDj δ ∧ gStat δ U U.heap U.heap.size ∧ gNest U
def gQ (δ : GD) (A : Nat → Prop) (post : Option Value → GS → Prop) : Array Value → State → Outcome → State → Prop := fun _ s o t => (∃ (rv : Option Value) (σ' : GS), o = .returned rv ∧ post rv σ' ∧ va_P δ.1 vwCl (wG δ σ') t.heap) ∧ va_F A s t
def gM (l : Launch) (δ : GD) (y : MethodName) (c : ByteArray) (n : Nat) (ret : Option FieldType) (fr lo : Nat) (av : List Value) (σ : GS) (post : Option Value → GS → Prop) : Prop :=
  ∀ sz : Nat, Met l y (.code y c n ret :: gWs) { frames := fr, cells := 0, slots := 0, locals := lo } (va_Pc av (fun U => U.heap.size = sz ∧ gB δ σ U)) (gQ δ (gA δ sz) post) 0 0 (gA δ sz)
def gPi (p : Int32 → GS → Prop) : Option Value → GS → Prop := fun rv σ => ∃ r : Int32, rv = some (.int r) ∧ p r σ
def gPl (p : Int64 → GS → Prop) : Option Value → GS → Prop := fun rv σ => ∃ r : Int64, rv = some (.long r) ∧ p r σ
def gPv (p : GS → Prop) : Option Value → GS → Prop := fun rv σ => rv = none ∧ p σ
def gPr (p : Value → GS → Prop) : Option Value → GS → Prop := fun rv σ => ∃ r : Value, rv = some r ∧ p r σ
/-- the end: what Q is, in a method's own run -/
def gEnd (Γ : GX) (δ : GD) (ret : Option FieldType) (post : Option Value → GS → Prop) : Prop :=
  Γ.2.2.1.2.2 = MQ Γ.2.1.2.2.2 (gQ δ (gA δ Γ.2.1.1.heap.size) post) Γ.2.1.2.2.1 Γ.2.1.1 0 0 (gA δ Γ.2.1.1.heap.size) ∧ Γ.2.2.2 = (0, 0) ∧ Γ.2.2.1.1.sig.returnType = ret ∧ Γ.2.2.1.1.locks = false
def gArgs : List Value → List (Option Value)
  | [] => []
  | v :: vs => some v :: (if v.category = 2 then none :: gArgs vs else gArgs vs)
theorem gArgs_in : ∀ (vs : List Value) (o i : Nat) (v : Value), (gArgs vs)[i]? = some (some v) → (i + o, v) ∈ lv_args o vs
  | [], o, i, v, h => by simp [gArgs] at h
  | w :: vs, o, i, v, h => by
    unfold lv_args
    cases i with
    | zero =>
      simp only [gArgs, List.getElem?_cons_zero, Option.some.injEq] at h
      subst h
      rw [Nat.zero_add]
      exact List.mem_cons_self
    | succ i =>
      refine List.mem_cons_of_mem _ ?_
      by_cases hc : w.category = 2
      · simp only [gArgs, hc, if_true, List.getElem?_cons_succ] at h ⊢
        cases i with
        | zero => simp at h
        | succ i =>
          rw [List.getElem?_cons_succ] at h
          have := gArgs_in vs (o + 2) i v h
          rwa [show i + (o + 2) = i + 1 + 1 + o by omega] at this
      · simp only [gArgs, hc, if_false, List.getElem?_cons_succ] at h ⊢
        have := gArgs_in vs (o + 1) i v h
        rwa [show i + (o + 1) = i + 1 + o by omega] at this
theorem gArgs_len : ∀ vs : List Value, (gArgs vs).length = (lg_sl vs).length
  | [] => rfl
  | v :: vs => by
    have := gArgs_len vs
    by_cases hc : v.category = 2
    · simp only [gArgs, lg_sl, List.flatMap_cons, hc, if_true, List.length_cons, List.length_append, List.length_nil, this]
      omega
    · simp only [gArgs, lg_sl, List.flatMap_cons, hc, if_false, List.length_cons, List.length_append, List.length_nil, this]
      omega
theorem g_of {l : Launch} {δ : GD} {y : MethodName} {c : ByteArray} {n : Nat} {ret : Option FieldType} {fr lo : Nat} {av : List Value} {σ : GS} {post : Option Value → GS → Prop} {lv0 : List (Option Value)}
    (hy : plainName y.cls = true) (hlv : gArgs av ++ List.replicate (n - (gArgs av).length) none = lv0) (hle : (gArgs av).length ≤ n)
    (body : ∀ Γ : GX, Γ.1.2.1 = l → gC Γ δ c y.cls n fr lo → gEnd Γ δ ret post → gW Γ δ σ 0 lv0 []) : gM l δ y c n ret fr lo av σ post := by
  intro sz
  refine Met.ofW (cc := c) (maxL := n) (ret := ret) hy rfl ?_
  intro p e s m args below meth cd s₁ B hml hv
  obtain ⟨rfl, hsz, hP, hK, hJ, hZ, hN⟩ := hv
  subst hsz
  have hts := atoms_spec (ws := .code y c n ret :: gWs) B.pre
  have hl := lv_entry av (n := n) (by rw [← gArgs_len]; exact hle)
  rw [lg_entry_eq]
  have hV : gV ((lg_sl av ++ List.replicate (n - (lg_sl av).length) Slot.unset).toArray) lv0 := by
    refine gV.of hl (by rw [← hlv, List.length_append, List.length_replicate]; omega) (fun i v h => ?_)
    rw [← hlv] at h
    by_cases hi : i < (gArgs av).length
    · rw [List.getElem?_append_left hi] at h
      exact gArgs_in av 0 i v h
    · rw [List.getElem?_append_right (by omega)] at h
      have := List.eq_of_mem_replicate (List.mem_of_getElem? h)
      cases this
  exact body ((p, l, e, _), (s, m, av.toArray, below), (meth, cd, _), (0, 0)) rfl
    ⟨B.exec, B.bytes, hml, findClass_of_methodNamed B.named, fun w hw => hts w (List.mem_cons_of_mem _ hw), hK, hJ, hZ, hN, ⟨Nat.le_refl _, Nat.le_refl _⟩, ⟨Nat.le_refl _, Nat.le_refl _⟩⟩
    ⟨rfl, rfl, B.returns, B.notSynchronized⟩ s.heap [] _ hP va_S.rf hV
-- RETURNS
section GRET
variable {Γ : GX} {δ : GD} {σ : GS} {cc : ByteArray} {own : String} {nL fr lo pc : Nat} {lv : List (Option Value)} {st : List Value} {ret : Option FieldType} {post : Option Value → GS → Prop}
theorem g_iret (C : gC Γ δ cc own nL fr lo) (E : gEnd Γ δ ret post) {v : Int32} {ty : FieldType} (d : decode cc pc = .ok (.ireturn, 1)) (hr : ret = some ty) (hn : narrow ty (.int v) = .int v) (hp : post (some (.int v)) σ) : gW Γ δ σ pc lv [.int v] := by
  intro H locs ls hP hS hV
  obtain ⟨e1, e2, e3, e4⟩ := E
  rw [e1]
  have h0 : Γ.2.2.2.1 = 0 := by rw [e2]
  have h1 : Γ.2.2.2.2 = 0 := by rw [e2]
  rw [h0, h1]
  exact W.zret C.1 C.2.1 (e3.trans hr) hn (fun t ht hW => ⟨⟨_, σ, rfl, hp, by rw [ht]; exact hP⟩, hS.F ht⟩) hS.2.2 d e4
theorem g_lret (C : gC Γ δ cc own nL fr lo) (E : gEnd Γ δ ret post) {v : Int64} (d : decode cc pc = .ok (.lreturn, 1)) (hr : ret = some .long) (hp : post (some (.long v)) σ) : gW Γ δ σ pc lv [.long v] := by
  intro H locs ls hP hS hV
  obtain ⟨e1, e2, e3, e4⟩ := E
  rw [e1]
  have h0 : Γ.2.2.2.1 = 0 := by rw [e2]
  have h1 : Γ.2.2.2.2 = 0 := by rw [e2]
  rw [h0, h1]
  exact W.lret C.1 C.2.1 (e3.trans hr) (fun t ht hW => ⟨⟨_, σ, rfl, hp, by rw [ht]; exact hP⟩, hS.F ht⟩) hS.2.2 d e4
theorem g_vret (C : gC Γ δ cc own nL fr lo) (E : gEnd Γ δ ret post) (d : decode cc pc = .ok (.return_, 1)) (hr : ret = none) (hp : post none σ) : gW Γ δ σ pc lv [] := by
  intro H locs ls hP hS hV
  obtain ⟨e1, e2, e3, e4⟩ := E
  rw [e1]
  have h0 : Γ.2.2.2.1 = 0 := by rw [e2]
  have h1 : Γ.2.2.2.2 = 0 := by rw [e2]
  rw [h0, h1]
  exact W.vret C.1 C.2.1 (e3.trans hr) (fun t ht hW => ⟨⟨_, σ, rfl, hp, by rw [ht]; exact hP⟩, hS.F ht⟩) hS.2.2 d e4
theorem g_aret (C : gC Γ δ cc own nL fr lo) (E : gEnd Γ δ ret post) {v : Value} {rt : FieldType} (d : decode cc pc = .ok (.areturn, 1)) (hr : ret = some rt) (hrt : (∃ n, rt = .object n) ∨ ∃ t, rt = .array t) (hv : v = .null ∨ ∃ a, v = .ref a) (hp : post (some v) σ) : gW Γ δ σ pc lv [v] := by
  intro H locs ls hP hS hV
  obtain ⟨e1, e2, e3, e4⟩ := E
  rw [e1]
  have h0 : Γ.2.2.2.1 = 0 := by rw [e2]
  have h1 : Γ.2.2.2.2 = 0 := by rw [e2]
  rw [h0, h1]
  exact W.aret C.1 C.2.1 (e3.trans hr) hrt hv (fun t ht hW => ⟨⟨_, σ, rfl, hp, by rw [ht]; exact hP⟩, hS.F ht⟩) hS.2.2 d e4
end GRET
-- CALLS
theorem gB_calling {δ : GD} {σ : GS} {U : State} {g : JFrame} {mk : MethodId} {a : Array Value} (h : gB δ σ U) : gB δ σ (U.calling g mk a) :=
  ⟨h.1, va_K.moved (u := U) (U := U.calling g mk a) (Vm.Alike.refl U.vm) h.2.1, h.2.2.1, gStat.moved (u := U) (U := U.calling g mk a) (Vm.Alike.refl U.vm) h.2.2.2.1, h.2.2.2.2.calling⟩
theorem gPc_blind {δ : GD} {σ : GS} {av : List Value} {sz : Nat} : FrameBlind (va_Pc av (fun U => U.heap.size = sz ∧ gB δ σ U)) :=
  fun _ _ _ _ h => ⟨h.1, h.2.1, gB_calling h.2.2⟩
/-- the words of a call of an own class's method, by instance -/
def gSV (own : String) (idx : Nat) (y : MethodName) (c : ByteArray) (n : Nat) (ret : Option FieldType) (k : Nat) : Prop :=
  Cond.methodLink own idx y ∈ gWs ∧ Cond.instanceMethod y ∈ gWs ∧ Cond.selects y.cls y y ∈ gWs ∧ Cond.initialized y.cls ∈ gWs ∧ Cond.code y c n ret ∈ gWs ∧ (y.cls ≠ "java/lang/invoke/MethodHandle" ∧ y.cls ≠ "java/lang/invoke/VarHandle") ∧ (parseMethodDescriptor y.desc).map (fun d => d.parameters.length) = some k
def gSS (own : String) (idx : Nat) (y : MethodName) (c : ByteArray) (n : Nat) (ret : Option FieldType) (k : Nat) : Prop :=
  Cond.methodLink own idx y ∈ gWs ∧ Cond.static y ∈ gWs ∧ Cond.initialized y.cls ∈ gWs ∧ Cond.code y c n ret ∈ gWs ∧ (y.cls ≠ "java/lang/invoke/MethodHandle" ∧ y.cls ≠ "java/lang/invoke/VarHandle") ∧ (parseMethodDescriptor y.desc).map (fun d => d.parameters.length) = some k
theorem gWs_code {y : MethodName} {c : ByteArray} {n : Nat} {ret : Option FieldType} (h : Cond.code y c n ret ∈ gWs) : GoodIn gWs (.code y c n ret :: gWs) := fun w hw => (List.mem_cons.mp hw).elim (fun e => by rw [e]; exact gWs_good _ h) (gWs_good w)
section GCALL
variable {Γ : GX} {δ : GD} {σ : GS} {cc : ByteArray} {own : String} {nL fr lo pc : Nat} {lv : List (Option Value)} {st st' rest As : List Value} {y : MethodName} {c : ByteArray} {n : Nat} {ret : Option FieldType} {fr' lo' idx k b : Nat} {post : Option Value → GS → Prop}
theorem gB_at (C : gC Γ δ cc own nL fr lo) {H : Heap} {locs : List Loc} (hP : va_P δ.1 vwCl (wG δ σ) H) (hS : va_S (gA δ Γ.2.1.1.heap.size) Γ.2.1.1.heap H locs) {U : State} (hU : U.heap = H) (hW : Γ.2.1.1.WarmedH U.vm) : U.heap.size = H.size ∧ gB δ σ U :=
  ⟨by rw [hU], by rw [hU]; exact hP, va_K.moved hW.alike C.2.2.2.2.2.1, C.2.2.2.2.2.2.1, by rw [hU]; exact ((C.2.2.2.2.2.2.2.1.kept hS.2.1).mono hS.1).moved hW.alike, C.2.2.2.2.2.2.2.2.1.warm hW⟩
/-- behind a call: any answer that the callee's post allows -/
theorem g_back {H : Heap} {locs : List Loc} {ls : Array Slot} {g : Nat} (hP : va_P δ.1 vwCl (wG δ σ) H) (hS : va_S (gA δ Γ.2.1.1.heap.size) Γ.2.1.1.heap H locs) (hV : gV ls lv)
    {av : Array Value} (hr : va_Run Γ.1.1 Γ.1.2.1 Γ.1.2.2.1 Γ.1.2.2.2 Γ.2.1.1 Γ.2.1.2.1 Γ.2.1.2.2.1 Γ.2.1.2.2.2 Γ.2.2.1.1 Γ.2.2.1.2.1 H locs Γ.2.2.2.1 Γ.2.2.2.2 0 0 (F0 Γ.2.1.2.1 pc ls st) rest (gQ δ (gA δ H.size) post av) (gA δ H.size))
    (kk : ∀ (rv : Option Value) (σ' : GS), post rv σ' → gW Γ δ σ' (pc + 3) lv (rv.toList ++ rest)) :
    W Γ.1.1 Γ.1.2.1 Γ.1.2.2.1 Γ.1.2.2.2 Γ.2.1.1 Γ.2.1.2.1 Γ.2.1.2.2.1 Γ.2.1.2.2.2 Γ.2.2.1.1 Γ.2.2.1.2.1 H locs Γ.2.2.2.1 Γ.2.2.2.2 Γ.2.2.1.2.2 (F0 Γ.2.1.2.1 pc ls st) := by
  intro T hT X
  obtain ⟨v, st₀, t, T', L, h0, X', hL, e1, e2, ⟨⟨rv, σ', hv, hp, hb⟩, hz, hk⟩, go⟩ := hr T hT X
  cases hv
  rw [h0] at hz hk
  rw [← e1] at hb hz
  obtain ⟨t2, a1, b1⟩ := kk v σ' hp T'.heap (locs ++ L) ls hb
    ⟨Nat.le_trans hS.1 hz, fun q h1 h2 => by rw [e1, hk q (Nat.lt_of_lt_of_le h1 hS.1) (fun z => h2 (gA_mono hS.1 z))]; exact hS.2.1 q h1 h2, fun q hq => by
      rcases List.mem_append.mp hq with h | h
      · exact hS.2.2 q h
      · exact gA_mono hS.1 (hL q h)⟩ hV T' rfl X'
  exact ⟨t2, go t2 a1, b1⟩
theorem g_callV (C : gC Γ δ cc own nL fr lo) (hs : gSV own idx y c n ret k) (d : decode cc pc = .ok (.invokevirtual idx, 3)) (hM : gM Γ.1.2.1 δ y c n ret fr' lo' (.ref b :: As) σ post) (hroom : fr' + 1 ≤ fr ∧ 8 + (n + 11) + lo' ≤ lo) {q ci N : Nat} {T : u_T} {fs : List Value} (ho : (wG δ σ)[q]? = some (b, .inr (ci, fs))) (hc : vwCl[ci]? = some (y.cls, T, N)) (hlv : lv.length = nL) (hn : As.length = k) (hst : st = As.reverse ++ .ref b :: rest) (hrest : (rest.map fun v => v.category).sum ≤ 8)
    (kk : ∀ (rv : Option Value) (σ' : GS), post rv σ' → gW Γ δ σ' (pc + 3) lv (rv.toList ++ rest)) : gW Γ δ σ pc lv st := by
  intro H locs ls hP hS hV
  obtain ⟨w1, w2, w3, w4, w5, w6, w7⟩ := hs
  have hG : GoodIn gWs (wsV own idx y.cls y (.code y c n ret :: gWs)) := fun w hw => by
    unfold wsV at hw
    rcases List.mem_append.mp hw with h | h
    · rcases List.mem_cons.mp h with rfl | h
      · exact gWs_good _ w1
      rcases List.mem_cons.mp h with rfl | h
      · exact gWs_good _ w2
      rcases List.mem_cons.mp h with rfl | h
      · exact gWs_good _ w3
      rcases List.mem_cons.mp h with rfl | h
      · exact gWs_good _ w4
      cases h
    · exact gWs_code w5 w h
  have hR : fr' + 1 ≤ Γ.1.2.2.2.frames ∧ 8 + (n + 11) + lo' ≤ Γ.1.2.2.2.locals := ⟨Nat.le_trans hroom.1 C.2.2.2.2.2.2.2.2.2.1.1, Nat.le_trans hroom.2 C.2.2.2.2.2.2.2.2.2.1.2⟩
  refine g_back (g := 0) hP hS hV (av := (Value.ref b :: As).toArray) (va_runV (As := As) (rest := rest) (C := y.cls) ⟨C.1, C.2.1, C.2.2.1, C.2.2.2.1, C.2.2.2.2.1⟩ (hM H.size)
    (cwV k C.2.2.2.2.1 hG rfl rfl rfl ⟨rfl, w6.1, w6.2, w7⟩ hR) ⟨gPc_blind, va_recv C.2.2.2.2.2.1 hP hc ho, fun U hU hW => ⟨rfl, gB_at C hP hS hU hW⟩⟩ rfl hn (hV.1.trans hlv) hst (lv_room hrest) d ⟨C.2.2.2.2.2.2.2.2.2.2.1, C.2.2.2.2.2.2.2.2.2.2.2⟩) kk
theorem g_callS (C : gC Γ δ cc own nL fr lo) (hs : gSS own idx y c n ret k) (d : decode cc pc = .ok (.invokestatic idx, 3)) (hM : gM Γ.1.2.1 δ y c n ret fr' lo' As σ post) (hroom : fr' + 1 ≤ fr ∧ 8 + (n + 11) + lo' ≤ lo) (hlv : lv.length = nL) (hn : As.length = k) (hst : st = As.reverse ++ rest) (hrest : (rest.map fun v => v.category).sum ≤ 8)
    (kk : ∀ (rv : Option Value) (σ' : GS), post rv σ' → gW Γ δ σ' (pc + 3) lv (rv.toList ++ rest)) : gW Γ δ σ pc lv st := by
  intro H locs ls hP hS hV
  obtain ⟨w1, w2, w4, w5, w6, w7⟩ := hs
  have hR : fr' + 1 ≤ Γ.1.2.2.2.frames ∧ 8 + (n + 11) + lo' ≤ Γ.1.2.2.2.locals := ⟨Nat.le_trans hroom.1 C.2.2.2.2.2.2.2.2.2.1.1, Nat.le_trans hroom.2 C.2.2.2.2.2.2.2.2.2.1.2⟩
  refine g_back (g := 0) hP hS hV (av := As.toArray) (va_runS (As := As) (rest := rest) ⟨C.1, C.2.1, C.2.2.1, C.2.2.2.1, C.2.2.2.2.1⟩ (hM H.size)
    ⟨callB_of k C.2.2.2.2.1 (gWs_code w5) rfl rfl rfl (C.2.2.2.2.1 _ w4) (C.2.2.2.2.1 _ w1) ⟨w6.1, w6.2, w7⟩ hR, C.2.2.2.2.1 _ w2⟩ ⟨gPc_blind, fun U hU hW => ⟨rfl, gB_at C hP hS hU hW⟩⟩ rfl hn (hV.1.trans hlv) hst (lv_room hrest) d ⟨C.2.2.2.2.2.2.2.2.2.2.1, C.2.2.2.2.2.2.2.2.2.2.2⟩) kk
/-- a static method of a nest mate -/
theorem g_callN (C : gC Γ δ cc own nL fr lo) {host : String} (hs : Cond.static y ∈ gWs ∧ Cond.initialized y.cls ∈ gWs ∧ Cond.code y c n ret ∈ gWs ∧ (y.cls ≠ "java/lang/invoke/MethodHandle" ∧ y.cls ≠ "java/lang/invoke/VarHandle") ∧ (parseMethodDescriptor y.desc).map (fun d => d.parameters.length) = some k) (hl : va_Nw (.methodLinkNest own idx y host) Γ.2.1.1) (d : decode cc pc = .ok (.invokestatic idx, 3)) (hM : gM Γ.1.2.1 δ y c n ret fr' lo' As σ post) (hroom : fr' + 1 ≤ fr ∧ 8 + (n + 11) + lo' ≤ lo) (hlv : lv.length = nL) (hn : As.length = k) (hst : st = As.reverse ++ rest) (hrest : (rest.map fun v => v.category).sum ≤ 8)
    (kk : ∀ (rv : Option Value) (σ' : GS), post rv σ' → gW Γ δ σ' (pc + 3) lv (rv.toList ++ rest)) : gW Γ δ σ pc lv st := by
  intro H locs ls hP hS hV
  obtain ⟨w2, w4, w5, w6, w7⟩ := hs
  have hR : fr' + 1 ≤ Γ.1.2.2.2.frames ∧ 8 + (n + 11) + lo' ≤ Γ.1.2.2.2.locals := ⟨Nat.le_trans hroom.1 C.2.2.2.2.2.2.2.2.2.1.1, Nat.le_trans hroom.2 C.2.2.2.2.2.2.2.2.2.1.2⟩
  refine g_back (g := 0) hP hS hV (av := As.toArray) (va_runSN (As := As) (rest := rest) ⟨C.1, C.2.1, C.2.2.1, C.2.2.2.1, C.2.2.2.2.1⟩ (hM H.size)
    ⟨va_cnB k C.2.2.2.2.1 (gWs_code w5) rfl rfl rfl hl (C.2.2.2.2.1 _ w4) ⟨w6.1, w6.2, w7⟩ hR, C.2.2.2.2.1 _ w2, trivial⟩ ⟨gPc_blind, fun U hU hW => ⟨rfl, gB_at C hP hS hU hW⟩⟩ rfl hn (hV.1.trans hlv) hst (lv_room hrest) d ⟨C.2.2.2.2.2.2.2.2.2.2.1, C.2.2.2.2.2.2.2.2.2.2.2⟩) kk
end GCALL
