-- THE STATE: int arrays, long arrays, int fields, long fields, which of the two long arrays is 'now'
abbrev GS : Type := (Nat → Nat → Int32) × (Nat → Nat → Int64) × (Nat → Int32) × (Nat → Int64) × Nat
def gI (σ : GS) (k : Nat) : Nat → Int32 := σ.1 k
def gL (σ : GS) (k : Nat) : Nat → Int64 := σ.2.1 k
def gN (σ : GS) (k : Nat) : Int32 := σ.2.2.1 k
def gG (σ : GS) (k : Nat) : Int64 := σ.2.2.2.1 k
def gP (σ : GS) : Nat := σ.2.2.2.2
def uI (σ : GS) (k : Nat) (f : Nat → Int32) : GS := (va_up σ.1 k f, σ.2)
def uL (σ : GS) (k : Nat) (f : Nat → Int64) : GS := (σ.1, va_up σ.2.1 k f, σ.2.2)
def uN (σ : GS) (k : Nat) (v : Int32) : GS := (σ.1, σ.2.1, va_up σ.2.2.1 k v, σ.2.2.2)
def uG (σ : GS) (k : Nat) (v : Int64) : GS := (σ.1, σ.2.1, σ.2.2.1, va_up σ.2.2.2.1 k v, σ.2.2.2.2)
def uP (σ : GS) (v : Nat) : GS := (σ.1, σ.2.1, σ.2.2.1, σ.2.2.2.1, v)
theorem gI_uI (σ : GS) (k : Nat) (f : Nat → Int32) (j : Nat) : gI (uI σ k f) j = if j = k then f else gI σ j := rfl
theorem gI_uL (σ : GS) (k : Nat) (f : Nat → Int64) (j : Nat) : gI (uL σ k f) j = gI σ j := rfl
theorem gI_uN (σ : GS) (k : Nat) (v : Int32) (j : Nat) : gI (uN σ k v) j = gI σ j := rfl
theorem gI_uG (σ : GS) (k : Nat) (v : Int64) (j : Nat) : gI (uG σ k v) j = gI σ j := rfl
theorem gI_uP (σ : GS) (v : Nat) (j : Nat) : gI (uP σ v) j = gI σ j := rfl
theorem gL_uI (σ : GS) (k : Nat) (f : Nat → Int32) (j : Nat) : gL (uI σ k f) j = gL σ j := rfl
theorem gL_uL (σ : GS) (k : Nat) (f : Nat → Int64) (j : Nat) : gL (uL σ k f) j = if j = k then f else gL σ j := rfl
theorem gL_uN (σ : GS) (k : Nat) (v : Int32) (j : Nat) : gL (uN σ k v) j = gL σ j := rfl
theorem gL_uG (σ : GS) (k : Nat) (v : Int64) (j : Nat) : gL (uG σ k v) j = gL σ j := rfl
theorem gL_uP (σ : GS) (v : Nat) (j : Nat) : gL (uP σ v) j = gL σ j := rfl
theorem gN_uI (σ : GS) (k : Nat) (f : Nat → Int32) (j : Nat) : gN (uI σ k f) j = gN σ j := rfl
theorem gN_uL (σ : GS) (k : Nat) (f : Nat → Int64) (j : Nat) : gN (uL σ k f) j = gN σ j := rfl
theorem gN_uN (σ : GS) (k : Nat) (v : Int32) (j : Nat) : gN (uN σ k v) j = if j = k then v else gN σ j := rfl
theorem gN_uG (σ : GS) (k : Nat) (v : Int64) (j : Nat) : gN (uG σ k v) j = gN σ j := rfl
theorem gN_uP (σ : GS) (v : Nat) (j : Nat) : gN (uP σ v) j = gN σ j := rfl
theorem gG_uI (σ : GS) (k : Nat) (f : Nat → Int32) (j : Nat) : gG (uI σ k f) j = gG σ j := rfl
theorem gG_uL (σ : GS) (k : Nat) (f : Nat → Int64) (j : Nat) : gG (uL σ k f) j = gG σ j := rfl
theorem gG_uN (σ : GS) (k : Nat) (v : Int32) (j : Nat) : gG (uN σ k v) j = gG σ j := rfl
theorem gG_uG (σ : GS) (k : Nat) (v : Int64) (j : Nat) : gG (uG σ k v) j = if j = k then v else gG σ j := rfl
theorem gG_uP (σ : GS) (v : Nat) (j : Nat) : gG (uP σ v) j = gG σ j := rfl
theorem gP_uI (σ : GS) (k : Nat) (f : Nat → Int32) : gP (uI σ k f) = gP σ := rfl
theorem gP_uL (σ : GS) (k : Nat) (f : Nat → Int64) : gP (uL σ k f) = gP σ := rfl
theorem gP_uN (σ : GS) (k : Nat) (v : Int32) : gP (uN σ k v) = gP σ := rfl
theorem gP_uG (σ : GS) (k : Nat) (v : Int64) : gP (uG σ k v) = gP σ := rfl
theorem gP_uP (σ : GS) (v : Nat) : gP (uP σ v) = v := rfl
theorem gS_ext {σ σ' : GS} (h1 : ∀ k, gI σ k = gI σ' k) (h2 : ∀ k, gL σ k = gL σ' k) (h3 : ∀ k, gN σ k = gN σ' k) (h4 : ∀ k, gG σ k = gG σ' k) (h5 : gP σ = gP σ') : σ = σ' := by
  obtain ⟨a, b, c, d, e⟩ := σ
  obtain ⟨a', b', c', d', e'⟩ := σ'
  have e1 : a = a' := funext h1
  have e2 : b = b' := funext h2
  have e3 : c = c' := funext h3
  have e4 : d = d' := funext h4
  have e5 : e = e' := h5
  subst e1; subst e2; subst e3; subst e4; subst e5
  rfl
-- THE WORLD: 102 cells, at addresses a 0, a 1, ..: 22 objects, 60 int arrays, 17 long arrays, 3 arrays of references
def gLenI (k : Nat) : Nat := if k < 8 then 4 else if k < 16 then 16 else if k < 24 then 4 else if k < 44 then 201 else ([8, 8, 4, 12, 4, 4, 6, 6, 8, 202, 4040, 8, 8, 4, 4, 4] : List Nat).getD (k - 44) 0
def gLenL (k : Nat) : Nat := if k < 6 then 16 else ([216, 216, 2197, 2197, 13, 201, 96, 16, 4394, 216, 216] : List Nat).getD (k - 6) 0
def gFldM (a : Nat → Nat) (σ : GS) : List Value := [.ref (a 72), .ref (a 73), .ref (a 94), .ref (a 95), .int (gN σ 33), .ref (a 74), .ref (a 75), .ref (a 76), .int (gN σ 34), .long (gG σ 10), .long (gG σ 11), .long (gG σ 12), .int (gN σ 35), .ref (a 77), .ref (a 78), .int (gN σ 36), .ref (a 79), .long (gG σ 13), .long (gG σ 14), .ref (a 96), .long (gG σ 15), .long (gG σ 16), .ref (a 80), .ref (a 81), .ref (a 97), .ref (a 98)]
def gFld (a : Nat → Nat) (σ : GS) (k : Nat) : Nat × List Value :=
  if k = 0 then (8, [.ref (a 99), .ref (a 100), .ref (a 16), .ref (a 17), .ref (a 18), .ref (a 19), .ref (a 20), .ref (a 21), .int (gN σ 0), .int (gN σ 1)])
  else if k = 1 then (9, gFldM a σ)
  else if k < 8 then (6, [.ref (a (80 + k)), .int (gN σ k), .int (gN σ (6 + k))])
  else if k < 16 then (7, [.ref (a (14 + k)), .ref (a (22 + k)), .ref (a (30 + k)), .int (gN σ (6 + k)), .int (gN σ (14 + k))])
  else if k = 16 then (2, [.ref (a 101), .int (gN σ 30), .int (gN σ 31)])
  else if k = 17 then (4, [.ref (a 66), .ref (a 67), .int (gN σ 32), .long (gG σ 0)])
  else if k = 18 then (5, [.ref (a 68), .long (gG σ 4), .long (gG σ 5)])
  else if k = 19 then (3, [.ref (a 88), .ref (a 89)])
  else if k = 20 then (0, [.ref (a (90 + gP σ % 2)), .ref (a (90 + gP σ / 2 % 2)), .ref (a 69), .ref (a 70), .ref (a 71), .ref (a 92), .ref (a 93), .long (gG σ 6), .long (gG σ 7), .long (gG σ 8), .long (gG σ 9)])
  else (1, [.long (gG σ 1), .long (gG σ 2), .long (gG σ 3)])
def gE (cy : Nat → ClassId) (a : Nat → Nat) (σ : GS) (k : Nat) : va_E :=
  if k < 22 then .inr (gFld a σ k)
  else if k < 82 then .inl (cy 0, gLenI (k - 22), .inl (gI σ (k - 22)))
  else if k < 99 then .inl (cy 1, gLenL (k - 82), .inr (.inl (gL σ (k - 82))))
  else if k = 99 then .inl (cy 2, 6, .inr (.inr (.inr (.inr (fun j => if j < 6 then some (a (2 + j)) else none)))))
  else if k = 100 then .inl (cy 3, 8, .inr (.inr (.inr (.inr (fun j => if j < 8 then some (a (8 + j)) else none)))))
  else .inl (cy 4, 20, .inr (.inr (.inr (.inr (fun j => if j < 20 then some (a (46 + j)) else none)))))
def gT (cy : Nat → ClassId) : List (ClassId × FieldType) := [(cy 0, .int), (cy 1, .long), (cy 2, .object RX6), (cy 3, .object RX7), (cy 4, .array .int)]
-- δ: the classes' numbers, the array classes, the addresses, the two constant arrays
abbrev GD : Type := va_G × (Nat → ClassId) × (Nat → Nat) × Nat × Nat
def wG (δ : GD) (σ : GS) : va_W := (List.range 102).map (fun k => (δ.2.2.1 k, gE δ.2.1 δ.2.2.1 σ k))
theorem wG_len (δ : GD) (σ : GS) : (wG δ σ).length = 102 := by simp [wG]
theorem wG_get (δ : GD) (σ : GS) {k : Nat} (h : k < 102) : (wG δ σ)[k]? = some (δ.2.2.1 k, gE δ.2.1 δ.2.2.1 σ k) := by simp [wG, h]
theorem wG_inv {δ : GD} {σ : GS} {k : Nat} {q : Nat × va_E} (h : (wG δ σ)[k]? = some q) : k < 102 ∧ q = (δ.2.2.1 k, gE δ.2.1 δ.2.2.1 σ k) := by
  have hk : k < 102 := by
    have := (List.getElem?_eq_some_iff.mp h).1
    rwa [wG_len] at this
  rw [wG_get δ σ hk] at h
  exact ⟨hk, (Option.some.inj h).symm⟩
theorem wG_set (δ : GD) {σ σ' : GS} {q : Nat} {e : va_E} (h : ∀ j, j < 102 → gE δ.2.1 δ.2.2.1 σ' j = if j = q then e else gE δ.2.1 δ.2.2.1 σ j) : (wG δ σ).set q (δ.2.2.1 q, e) = wG δ σ' := by
  apply List.ext_getElem?
  intro k
  by_cases hk : k < 102
  · rw [wG_get δ σ' hk, h k hk]
    by_cases e1 : k = q
    · subst e1
      rw [List.getElem?_set_self (by rw [wG_len]; exact hk), if_pos rfl]
    · rw [List.getElem?_set_ne (Ne.symm e1), wG_get δ σ hk, if_neg e1]
  · rw [List.getElem?_eq_none (by rw [List.length_set, wG_len]; omega), List.getElem?_eq_none (by rw [wG_len]; omega)]
theorem wG_I (δ : GD) (σ : GS) {k : Nat} (h : k < 60) : (wG δ σ)[22 + k]? = some (δ.2.2.1 (22 + k), .inl (δ.2.1 0, gLenI k, .inl (gI σ k))) := by
  rw [wG_get δ σ (by omega)]
  simp only [gE, if_neg (show ¬ 22 + k < 22 by omega), if_pos (show 22 + k < 82 by omega), Nat.add_sub_cancel_left]
theorem wG_L (δ : GD) (σ : GS) {k : Nat} (h : k < 17) : (wG δ σ)[82 + k]? = some (δ.2.2.1 (82 + k), .inl (δ.2.1 1, gLenL k, .inr (.inl (gL σ k)))) := by
  rw [wG_get δ σ (by omega)]
  simp only [gE, if_neg (show ¬ 82 + k < 22 by omega), if_neg (show ¬ 82 + k < 82 by omega), if_pos (show 82 + k < 99 by omega), Nat.add_sub_cancel_left]
theorem wG_setI (δ : GD) (σ : GS) {k : Nat} (h : k < 60) (f : Nat → Int32) : (wG δ σ).set (22 + k) (δ.2.2.1 (22 + k), .inl (δ.2.1 0, gLenI k, .inl f)) = wG δ (uI σ k f) := by
  apply wG_set
  intro j hj
  by_cases e : j = 22 + k
  · subst e
    rw [if_pos rfl]
    simp only [gE, if_neg (show ¬ 22 + k < 22 by omega), if_pos (show 22 + k < 82 by omega), Nat.add_sub_cancel_left, gI_uI, if_true]
  · rw [if_neg e]
    by_cases h1 : j < 22
    · simp only [gE, if_pos h1]
      rfl
    · by_cases h2 : j < 82
      · simp only [gE, if_neg h1, if_pos h2, gI_uI, if_neg (show ¬ j - 22 = k by omega)]
      · simp only [gE, if_neg h1, if_neg h2]
        rfl
theorem wG_setL (δ : GD) (σ : GS) {k : Nat} (h : k < 17) (f : Nat → Int64) : (wG δ σ).set (82 + k) (δ.2.2.1 (82 + k), .inl (δ.2.1 1, gLenL k, .inr (.inl f))) = wG δ (uL σ k f) := by
  apply wG_set
  intro j hj
  by_cases e : j = 82 + k
  · subst e
    rw [if_pos rfl]
    simp only [gE, if_neg (show ¬ 82 + k < 22 by omega), if_neg (show ¬ 82 + k < 82 by omega), if_pos (show 82 + k < 99 by omega), Nat.add_sub_cancel_left, gL_uL, if_true]
  · rw [if_neg e]
    by_cases h1 : j < 22
    · simp only [gE, if_pos h1]
      rfl
    · by_cases h2 : j < 82
      · simp only [gE, if_neg h1, if_pos h2]
        rfl
      · by_cases h3 : j < 99
        · simp only [gE, if_neg h1, if_neg h2, if_pos h3, gL_uL, if_neg (show ¬ j - 82 = k by omega)]
        · simp only [gE, if_neg h1, if_neg h2, if_neg h3]
/-- objects: what changes is the fields of one -/
theorem wG_setO (δ : GD) {σ σ' : GS} {q : Nat} {e : Nat × List Value} (hq : q < 22) (hI : σ'.1 = σ.1) (hL : σ'.2.1 = σ.2.1) (he : gFld δ.2.2.1 σ' q = e) (ho : ∀ j, j < 22 → j ≠ q → gFld δ.2.2.1 σ' j = gFld δ.2.2.1 σ j) : (wG δ σ).set q (δ.2.2.1 q, .inr e) = wG δ σ' := by
  apply wG_set
  intro j hj
  by_cases e1 : j = q
  · subst e1
    rw [if_pos rfl]
    simp only [gE, if_pos hq, he]
  · rw [if_neg e1]
    by_cases h1 : j < 22
    · simp only [gE, if_pos h1, ho j h1 e1]
    · by_cases h2 : j < 82
      · simp only [gE, if_neg h1, if_pos h2, gI, hI]
      · by_cases h3 : j < 99
        · simp only [gE, if_neg h1, if_neg h2, if_pos h3, gL, hL]
        · simp only [gE, if_neg h1, if_neg h2, if_neg h3]
theorem wO_get (δ : GD) (σ : GS) {q : Nat} {e : Nat × List Value} (hq : q < 22) (he : gFld δ.2.2.1 σ q = e) : (wG δ σ)[q]? = some (δ.2.2.1 q, .inr e) := by
  rw [wG_get δ σ (by omega)]
  simp only [gE, if_pos hq, he]
theorem wO_X (δ : GD) (σ : GS) : (wG δ σ)[0]? = some (δ.2.2.1 0, .inr (8, [.ref (δ.2.2.1 99), .ref (δ.2.2.1 100), .ref (δ.2.2.1 16), .ref (δ.2.2.1 17), .ref (δ.2.2.1 18), .ref (δ.2.2.1 19), .ref (δ.2.2.1 20), .ref (δ.2.2.1 21), .int (gN σ 0), .int (gN σ 1)])) := wO_get δ σ (by decide) rfl
theorem wO_M (δ : GD) (σ : GS) : (wG δ σ)[1]? = some (δ.2.2.1 1, .inr (9, gFldM δ.2.2.1 σ)) := wO_get δ σ (by decide) rfl
theorem wO_S (δ : GD) (σ : GS) {u : Nat} (h : u < 6) : (wG δ σ)[2 + u]? = some (δ.2.2.1 (2 + u), .inr (6, [.ref (δ.2.2.1 (82 + u)), .int (gN σ (2 + u)), .int (gN σ (8 + u))])) :=
  wO_get δ σ (by omega) (by simp only [gFld, if_neg (show ¬ 2 + u = 0 by omega), if_neg (show ¬ 2 + u = 1 by omega), if_pos (show 2 + u < 8 by omega), show 80 + (2 + u) = 82 + u by omega, show 6 + (2 + u) = 8 + u by omega])
theorem wO_U (δ : GD) (σ : GS) {u : Nat} (h : u < 8) : (wG δ σ)[8 + u]? = some (δ.2.2.1 (8 + u), .inr (7, [.ref (δ.2.2.1 (22 + u)), .ref (δ.2.2.1 (30 + u)), .ref (δ.2.2.1 (38 + u)), .int (gN σ (14 + u)), .int (gN σ (22 + u))])) :=
  wO_get δ σ (by omega) (by simp only [gFld, if_neg (show ¬ 8 + u = 0 by omega), if_neg (show ¬ 8 + u = 1 by omega), if_neg (show ¬ 8 + u < 8 by omega), if_pos (show 8 + u < 16 by omega), show 14 + (8 + u) = 22 + u by omega, show 22 + (8 + u) = 30 + u by omega, show 30 + (8 + u) = 38 + u by omega, show 6 + (8 + u) = 14 + u by omega])
theorem wO_K (δ : GD) (σ : GS) : (wG δ σ)[16]? = some (δ.2.2.1 16, .inr (2, [.ref (δ.2.2.1 101), .int (gN σ 30), .int (gN σ 31)])) := wO_get δ σ (by decide) rfl
theorem wO_P (δ : GD) (σ : GS) : (wG δ σ)[17]? = some (δ.2.2.1 17, .inr (4, [.ref (δ.2.2.1 66), .ref (δ.2.2.1 67), .int (gN σ 32), .long (gG σ 0)])) := wO_get δ σ (by decide) rfl
theorem wO_R (δ : GD) (σ : GS) : (wG δ σ)[18]? = some (δ.2.2.1 18, .inr (5, [.ref (δ.2.2.1 68), .long (gG σ 4), .long (gG σ 5)])) := wO_get δ σ (by decide) rfl
theorem wO_O (δ : GD) (σ : GS) : (wG δ σ)[19]? = some (δ.2.2.1 19, .inr (3, [.ref (δ.2.2.1 88), .ref (δ.2.2.1 89)])) := wO_get δ σ (by decide) rfl
theorem wO_A (δ : GD) (σ : GS) : (wG δ σ)[20]? = some (δ.2.2.1 20, .inr (0, [.ref (δ.2.2.1 (90 + gP σ % 2)), .ref (δ.2.2.1 (90 + gP σ / 2 % 2)), .ref (δ.2.2.1 69), .ref (δ.2.2.1 70), .ref (δ.2.2.1 71), .ref (δ.2.2.1 92), .ref (δ.2.2.1 93), .long (gG σ 6), .long (gG σ 7), .long (gG σ 8), .long (gG σ 9)])) := wO_get δ σ (by decide) rfl
theorem wO_F (δ : GD) (σ : GS) : (wG δ σ)[21]? = some (δ.2.2.1 21, .inr (1, [.long (gG σ 1), .long (gG σ 2), .long (gG σ 3)])) := wO_get δ σ (by decide) rfl
theorem wR_S (δ : GD) (σ : GS) : (wG δ σ)[99]? = some (δ.2.2.1 99, .inl (δ.2.1 2, 6, .inr (.inr (.inr (.inr (fun j => if j < 6 then some (δ.2.2.1 (2 + j)) else none)))))) := wG_get δ σ (by decide)
theorem wR_U (δ : GD) (σ : GS) : (wG δ σ)[100]? = some (δ.2.2.1 100, .inl (δ.2.1 3, 8, .inr (.inr (.inr (.inr (fun j => if j < 8 then some (δ.2.2.1 (8 + j)) else none)))))) := wG_get δ σ (by decide)
theorem wR_K (δ : GD) (σ : GS) : (wG δ σ)[101]? = some (δ.2.2.1 101, .inl (δ.2.1 4, 20, .inr (.inr (.inr (.inr (fun j => if j < 20 then some (δ.2.2.1 (46 + j)) else none)))))) := wG_get δ σ (by decide)
/-- the fields' numbers: which object a field stands in, by its number -/
def gHomeN (n : Nat) : Nat := if n < 2 then 0 else if n < 8 then n else if n < 14 then n - 6 else if n < 22 then n - 6 else if n < 30 then n - 14 else if n < 32 then 16 else if n < 33 then 17 else 1
def gHomeG (n : Nat) : Nat := if n < 1 then 17 else if n < 4 then 21 else if n < 6 then 18 else if n < 10 then 20 else 1
theorem gHomeN_sh {j : Nat} (h1 : ¬ j < 2) (h2 : j < 8) : gHomeN j = j := by unfold gHomeN; rw [if_neg h1, if_pos h2]
theorem gHomeN_sl {j : Nat} (h1 : ¬ j < 2) (h2 : j < 8) : gHomeN (6 + j) = j := by
  unfold gHomeN
  rw [if_neg (by omega), if_neg (by omega), if_pos (by omega)]
  omega
theorem gHomeN_uc {j : Nat} (h1 : ¬ j < 8) (h2 : j < 16) : gHomeN (6 + j) = j := by
  unfold gHomeN
  rw [if_neg (by omega), if_neg (by omega), if_neg (by omega), if_pos (by omega)]
  omega
theorem gHomeN_ud {j : Nat} (h1 : ¬ j < 8) (h2 : j < 16) : gHomeN (14 + j) = j := by
  unfold gHomeN
  rw [if_neg (by omega), if_neg (by omega), if_neg (by omega), if_neg (by omega), if_pos (by omega)]
  omega
theorem gFld_sh (a : Nat → Nat) (σ : GS) {k : Nat} (h1 : ¬ k < 2) (h2 : k < 8) : gFld a σ k = (6, [.ref (a (80 + k)), .int (gN σ k), .int (gN σ (6 + k))]) := by
  unfold gFld
  rw [if_neg (by omega), if_neg (by omega), if_pos h2]
theorem gFld_ur (a : Nat → Nat) (σ : GS) {k : Nat} (h1 : ¬ k < 8) (h2 : k < 16) : gFld a σ k = (7, [.ref (a (14 + k)), .ref (a (22 + k)), .ref (a (30 + k)), .int (gN σ (6 + k)), .int (gN σ (14 + k))]) := by
  unfold gFld
  rw [if_neg (by omega), if_neg (by omega), if_neg h1, if_pos h2]
theorem gCases {j : Nat} (hj : j < 22) : j = 0 ∨ j = 1 ∨ (¬ j < 2 ∧ j < 8) ∨ (¬ j < 8 ∧ j < 16) ∨ j = 16 ∨ j = 17 ∨ j = 18 ∨ j = 19 ∨ j = 20 ∨ j = 21 := by omega
theorem gFld_uN (a : Nat → Nat) (σ : GS) (n : Nat) (v : Int32) (j : Nat) (hj : j < 22) (h : j ≠ gHomeN n) : gFld a (uN σ n v) j = gFld a σ j := by
  have hh : ∀ m : Nat, gHomeN m = j → gN (uN σ n v) m = gN σ m := fun m hm => by
    rw [gN_uN, if_neg (fun e => h (by rw [← e]; exact hm.symm))]
  rcases gCases hj with rfl | rfl | ⟨h1, h2⟩ | ⟨h1, h2⟩ | rfl | rfl | rfl | rfl | rfl | rfl
  · show (8, [_, _, _, _, _, _, _, _, Value.int (gN (uN σ n v) 0), Value.int (gN (uN σ n v) 1)]) = _
    rw [hh 0 rfl, hh 1 rfl]
    rfl
  · show (9, gFldM a (uN σ n v)) = (9, gFldM a σ)
    unfold gFldM
    rw [hh 33 rfl, hh 34 rfl, hh 35 rfl, hh 36 rfl]
    rfl
  · rw [gFld_sh a _ h1 h2, gFld_sh a _ h1 h2, hh j (gHomeN_sh h1 h2), hh (6 + j) (gHomeN_sl h1 h2)]
  · rw [gFld_ur a _ h1 h2, gFld_ur a _ h1 h2, hh (6 + j) (gHomeN_uc h1 h2), hh (14 + j) (gHomeN_ud h1 h2)]
  · show (2, [_, Value.int (gN (uN σ n v) 30), Value.int (gN (uN σ n v) 31)]) = _
    rw [hh 30 rfl, hh 31 rfl]
    rfl
  · show (4, [_, _, Value.int (gN (uN σ n v) 32), _]) = _
    rw [hh 32 rfl]
    rfl
  · rfl
  · rfl
  · rfl
  · rfl
theorem gFld_uG (a : Nat → Nat) (σ : GS) (n : Nat) (v : Int64) (j : Nat) (hj : j < 22) (h : j ≠ gHomeG n) : gFld a (uG σ n v) j = gFld a σ j := by
  have hh : ∀ m : Nat, gHomeG m = j → gG (uG σ n v) m = gG σ m := fun m hm => by
    rw [gG_uG, if_neg (fun e => h (by rw [← e]; exact hm.symm))]
  rcases gCases hj with rfl | rfl | ⟨h1, h2⟩ | ⟨h1, h2⟩ | rfl | rfl | rfl | rfl | rfl | rfl
  · rfl
  · show (9, gFldM a (uG σ n v)) = (9, gFldM a σ)
    unfold gFldM
    rw [hh 10 rfl, hh 11 rfl, hh 12 rfl, hh 13 rfl, hh 14 rfl, hh 15 rfl, hh 16 rfl]
    rfl
  · rw [gFld_sh a _ h1 h2, gFld_sh a _ h1 h2]
    rfl
  · rw [gFld_ur a _ h1 h2, gFld_ur a _ h1 h2]
    rfl
  · rfl
  · show (4, [_, _, _, Value.long (gG (uG σ n v) 0)]) = _
    rw [hh 0 rfl]
    rfl
  · show (5, [_, Value.long (gG (uG σ n v) 4), Value.long (gG (uG σ n v) 5)]) = _
    rw [hh 4 rfl, hh 5 rfl]
    rfl
  · rfl
  · show (0, [_, _, _, _, _, _, _, Value.long (gG (uG σ n v) 6), Value.long (gG (uG σ n v) 7), Value.long (gG (uG σ n v) 8), Value.long (gG (uG σ n v) 9)]) = _
    rw [hh 6 rfl, hh 7 rfl, hh 8 rfl, hh 9 rfl]
    rfl
  · show (1, [Value.long (gG (uG σ n v) 1), Value.long (gG (uG σ n v) 2), Value.long (gG (uG σ n v) 3)]) = _
    rw [hh 1 rfl, hh 2 rfl, hh 3 rfl]
    rfl
theorem wG_setN (δ : GD) (σ : GS) (n : Nat) (v : Int32) {e : Nat × List Value} (hq : gHomeN n < 22) (he : gFld δ.2.2.1 (uN σ n v) (gHomeN n) = e) : (wG δ σ).set (gHomeN n) (δ.2.2.1 (gHomeN n), .inr e) = wG δ (uN σ n v) :=
  wG_setO δ hq rfl rfl he (fun j hj h => gFld_uN _ _ _ _ _ hj h)
theorem wG_setG (δ : GD) (σ : GS) (n : Nat) (v : Int64) {e : Nat × List Value} (hq : gHomeG n < 22) (he : gFld δ.2.2.1 (uG σ n v) (gHomeG n) = e) : (wG δ σ).set (gHomeG n) (δ.2.2.1 (gHomeG n), .inr e) = wG δ (uG σ n v) :=
  wG_setO δ hq rfl rfl he (fun j hj h => gFld_uG _ _ _ _ _ hj h)
