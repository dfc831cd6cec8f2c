-- numbers
theorem glit (n : Nat) : (OfNat.ofNat n : Int32) = nI n := rfl
theorem gle {x y : Int32} {a b : Nat} (h : x ≤ y) (hx : x = nI a) (hy : y = nI b) (ha : a < 2147483648) (hb : b < 2147483648) : a ≤ b := by
  subst hx; subst hy
  exact (nI_leI ha hb).mp h
theorem gnle {x y : Int32} {a b : Nat} (h : ¬ x ≤ y) (hx : x = nI a) (hy : y = nI b) (ha : a < 2147483648) (hb : b < 2147483648) : b < a := by
  subst hx; subst hy
  exact Nat.not_le.mp (fun q => h ((nI_leI ha hb).mpr q))
theorem glt {x y : Int32} {a b : Nat} (h : x < y) (hx : x = nI a) (hy : y = nI b) (ha : a < 2147483648) (hb : b < 2147483648) : a < b := by
  subst hx; subst hy
  exact (nI_ltI ha hb).mp h
theorem gnlt {x y : Int32} {a b : Nat} (h : ¬ x < y) (hx : x = nI a) (hy : y = nI b) (ha : a < 2147483648) (hb : b < 2147483648) : b ≤ a := by
  subst hx; subst hy
  exact Nat.not_lt.mp (fun q => h ((nI_ltI ha hb).mpr q))
theorem geq {x y : Int32} {a b : Nat} (h : x = y) (hx : x = nI a) (hy : y = nI b) (ha : a < 2147483648) (hb : b < 2147483648) : a = b := by
  subst hx; subst hy
  exact (nI_eq ha hb).mp h
theorem gne {x y : Int32} {a b : Nat} (h : ¬ x = y) (hx : x = nI a) (hy : y = nI b) (ha : a < 2147483648) (hb : b < 2147483648) : a ≠ b := by
  subst hx; subst hy
  exact fun q => h ((nI_eq ha hb).mpr q)
theorem gLenI_b {u : Nat} (h : u < 8) : gLenI u = 4 := by unfold gLenI; rw [if_pos h]
theorem gLenI_t {u : Nat} (h : u < 8) : gLenI (8 + u) = 16 := by unfold gLenI; rw [if_neg (by omega), if_pos (by omega)]
theorem gLenI_u {u : Nat} (h : u < 8) : gLenI (16 + u) = 4 := by unfold gLenI; rw [if_neg (by omega), if_neg (by omega), if_pos (by omega)]
theorem gLenI_k {u : Nat} (h : u < 20) : gLenI (24 + u) = 201 := by unfold gLenI; rw [if_neg (by omega), if_neg (by omega), if_neg (by omega), if_pos (by omega)]
theorem gLenL_s {u : Nat} (h : u < 6) : gLenL u = 16 := by unfold gLenL; rw [if_pos h]
theorem gLenL_n (P : Nat) : gLenL (8 + P % 2) = 2197 := by
  rcases (show P % 2 = 0 ∨ P % 2 = 1 by omega) with h | h <;> rw [h] <;> rfl
theorem gLenL_n2 (P : Nat) : gLenL (8 + P / 2 % 2) = 2197 := gLenL_n (P / 2)
theorem gsw (x : Int32) (hi : Nat) (h : hi < 2147483648) : (x.toInt < 0 ∨ (hi : Int) < x.toInt) ∨ (0 ≤ x.toInt ∧ x.toInt ≤ hi) := by omega
theorem gofI {x : Int32} {k : Nat} (h : x.toInt = k) (hk : k < 2147483648) : x = nI k := by
  rw [← Int32.toInt_inj, nI_toInt hk, h]
theorem gsw2 (x : Int32) (h : 0 ≤ x.toInt ∧ x.toInt ≤ (2 : Nat)) : x = nI 0 ∨ x = nI 1 ∨ x = nI 2 := by
  rcases (show x.toInt = (0 : Nat) ∨ x.toInt = (1 : Nat) ∨ x.toInt = (2 : Nat) by omega) with q | q | q
  · exact Or.inl (gofI q (by decide))
  · exact Or.inr (Or.inl (gofI q (by decide)))
  · exact Or.inr (Or.inr (gofI q (by decide)))
theorem gsw3 (x : Int32) (h : 0 ≤ x.toInt ∧ x.toInt ≤ (3 : Nat)) : x = nI 0 ∨ x = nI 1 ∨ x = nI 2 ∨ x = nI 3 := by
  rcases (show x.toInt = (0 : Nat) ∨ x.toInt = (1 : Nat) ∨ x.toInt = (2 : Nat) ∨ x.toInt = (3 : Nat) by omega) with q | q | q | q
  · exact Or.inl (gofI q (by decide))
  · exact Or.inr (Or.inl (gofI q (by decide)))
  · exact Or.inr (Or.inr (Or.inl (gofI q (by decide))))
  · exact Or.inr (Or.inr (Or.inr (gofI q (by decide))))
theorem gsw5 (x : Int32) (h : 0 ≤ x.toInt ∧ x.toInt ≤ (5 : Nat)) : x = nI 0 ∨ x = nI 1 ∨ x = nI 2 ∨ x = nI 3 ∨ x = nI 4 ∨ x = nI 5 := by
  rcases (show x.toInt = (0 : Nat) ∨ x.toInt = (1 : Nat) ∨ x.toInt = (2 : Nat) ∨ x.toInt = (3 : Nat) ∨ x.toInt = (4 : Nat) ∨ x.toInt = (5 : Nat) by omega) with q | q | q | q | q | q
  · exact Or.inl (gofI q (by decide))
  · exact Or.inr (Or.inl (gofI q (by decide)))
  · exact Or.inr (Or.inr (Or.inl (gofI q (by decide))))
  · exact Or.inr (Or.inr (Or.inr (Or.inl (gofI q (by decide)))))
  · exact Or.inr (Or.inr (Or.inr (Or.inr (Or.inl (gofI q (by decide))))))
  · exact Or.inr (Or.inr (Or.inr (Or.inr (Or.inr (gofI q (by decide))))))
-- arrays read and written at a place that is a number
section GN
variable {Γ : GX} {δ : GD} {σ : GS} {cc : ByteArray} {own : String} {nL fr lo pc : Nat} {lv : List (Option Value)} {st : List Value}
theorem gLenI_s (q : Nat) (h : q < 60) : gLenI q < 2147483648 := by
  unfold gLenI
  split
  · omega
  · split
    · omega
    · split
      · omega
      · split
        · omega
        · have hq : q - 44 < 16 := by omega
          have key : ∀ j, j < 16 → ([8, 8, 4, 12, 4, 4, 6, 6, 8, 202, 4040, 8, 8, 4, 4, 4] : List Nat).getD j 0 < 2147483648 := by decide
          exact key _ hq
theorem gLenL_s2 (q : Nat) (h : q < 17) : gLenL q < 2147483648 := by
  unfold gLenL
  split
  · omega
  · have hq : q - 6 < 11 := by omega
    have key : ∀ j, j < 11 → ([216, 216, 2197, 2197, 13, 201, 96, 16, 4394, 216, 216] : List Nat).getD j 0 < 2147483648 := by decide
    exact key _ hq
theorem gin {x : Int32} {k n : Nat} (e : x = nI k) (h : k < n) (hn : n < 2147483648) : vp_in x n := by
  subst e
  exact vp_in_nI h hn
theorem g_ialdN (C : gC Γ δ cc own nL fr lo) {i : Int32} {b k q : Nat} (d : decode cc pc = .ok (.iaload, 1)) (hq : q < 60) (hb : b = δ.2.2.1 (22 + q)) (hi : i = nI k) (hk : k < gLenI q) (kk : gW Γ δ σ (pc + 1) lv (.int (gI σ q k) :: st)) : gW Γ δ σ pc lv (.int i :: .ref b :: st) := by
  have hn := gLenI_s q hq
  refine g_iald C q d hq hb (gin hi hk hn) ?_
  rw [hi, nI_clamp (by omega)]
  exact kk
theorem g_laldN (C : gC Γ δ cc own nL fr lo) {i : Int32} {b k q : Nat} (d : decode cc pc = .ok (.laload, 1)) (hq : q < 17) (hb : b = δ.2.2.1 (82 + q)) (hi : i = nI k) (hk : k < gLenL q) (kk : gW Γ δ σ (pc + 1) lv (.long (gL σ q k) :: st)) : gW Γ δ σ pc lv (.int i :: .ref b :: st) := by
  have hn := gLenL_s2 q hq
  refine g_lald C q d hq hb (gin hi hk hn) ?_
  rw [hi, nI_clamp (by omega)]
  exact kk
theorem g_iastN (C : gC Γ δ cc own nL fr lo) {i x : Int32} {b k q : Nat} (d : decode cc pc = .ok (.iastore, 1)) (hq : q < 60) (hb : b = δ.2.2.1 (22 + q)) (hi : i = nI k) (hk : k < gLenI q) (kk : gW Γ δ (uI σ q (upd (gI σ q) k x)) (pc + 1) lv st) : gW Γ δ σ pc lv (.int x :: .int i :: .ref b :: st) := by
  have hn := gLenI_s q hq
  refine g_iast C q d hq hb (gin hi hk hn) ?_
  rw [hi, nI_clamp (by omega)]
  exact kk
theorem g_lastN (C : gC Γ δ cc own nL fr lo) {i : Int32} {x : Int64} {b k q : Nat} (d : decode cc pc = .ok (.lastore, 1)) (hq : q < 17) (hb : b = δ.2.2.1 (82 + q)) (hi : i = nI k) (hk : k < gLenL q) (kk : gW Γ δ (uL σ q (vp_updL (gL σ q) k x)) (pc + 1) lv st) : gW Γ δ σ pc lv (.long x :: .int i :: .ref b :: st) := by
  have hn := gLenL_s2 q hq
  refine g_last C q d hq hb (gin hi hk hn) ?_
  rw [hi, nI_clamp (by omega)]
  exact kk
def gstp (k : Nat) : Nat := if k = 0 then 169 else if k = 1 then 13 else if k = 2 then 1 else 0
def gstpO (k : Nat) : Nat := if k = 0 then 36 else if k = 1 then 6 else if k = 2 then 1 else 0
theorem g_staldN (C : gC Γ δ cc own nL fr lo) {i : Int32} {k : Nat} (d : decode cc pc = .ok (.iaload, 1)) (hi : i = nI k) (hk : k < 4) (kk : gW Γ δ σ (pc + 1) lv (.int (nI (gstp k)) :: st)) : gW Γ δ σ pc lv (.int i :: .ref δ.2.2.2.1 :: st) := by
  refine g_stald (v := nI (gstp k)) C d (gin hi hk (by decide)) ?_ kk
  rw [hi, nI_clamp (by omega)]
  rcases (show k = 0 ∨ k = 1 ∨ k = 2 ∨ k = 3 by omega) with rfl | rfl | rfl | rfl <;> rfl
theorem g_staldON (C : gC Γ δ cc own nL fr lo) {i : Int32} {k : Nat} (d : decode cc pc = .ok (.iaload, 1)) (hi : i = nI k) (hk : k < 4) (kk : gW Γ δ σ (pc + 1) lv (.int (nI (gstpO k)) :: st)) : gW Γ δ σ pc lv (.int i :: .ref δ.2.2.2.2 :: st) := by
  refine g_staldO (v := nI (gstpO k)) C d (gin hi hk (by decide)) ?_ kk
  rw [hi, nI_clamp (by omega)]
  rcases (show k = 0 ∨ k = 1 ∨ k = 2 ∨ k = 3 by omega) with rfl | rfl | rfl | rfl <;> rfl
end GN
