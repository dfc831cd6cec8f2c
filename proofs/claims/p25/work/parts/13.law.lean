section GLAW
variable {Γ : GX} {δ : GD} {σ : GS} {cc : ByteArray} {own : String} {nL fr lo pc : Nat} {lv : List (Option Value)} {st : List Value} {b L : Nat} {xs : Nat → Int32}
theorem g_sldN (C : gC Γ δ cc own nL fr lo) (hX : va_X b L xs Γ.2.1.1 Γ.2.1.1.heap) (hbl : b < Γ.2.1.1.heap.size) (hbA : ¬ gA δ Γ.2.1.1.heap.size b) (hL : L < 2147483648) {i : Int32} {k : Nat} (d : decode cc pc = .ok (.iaload, 1)) (hi : i = nI k) (hk : k < L) (kk : gW Γ δ σ (pc + 1) lv (.int (xs k) :: st)) : gW Γ δ σ pc lv (.int i :: .ref b :: st) := by
  intro H locs ls hP hS hV
  subst hi
  refine va_sld C.1 C.2.1 hX hbl hbA hS (vp_in_nI hk hL) d ?_
  rw [nI_clamp (by omega)]
  exact kk H locs ls hP hS hV
theorem g_slen (C : gC Γ δ cc own nL fr lo) (hX : va_X b L xs Γ.2.1.1 Γ.2.1.1.heap) (hbl : b < Γ.2.1.1.heap.size) (hbA : ¬ gA δ Γ.2.1.1.heap.size b) (d : decode cc pc = .ok (.arraylength, 1)) (kk : gW Γ δ σ (pc + 1) lv (.int (nI L) :: st)) : gW Γ δ σ pc lv (.ref b :: st) :=
  fun H locs ls hP hS hV => va_slen C.1 C.2.1 hX hbl hbA hS d (kk H locs ls hP hS hV)
end GLAW
theorem glim {L k : Nat} (hL : L ≤ 5000) (hk : k ≤ 5000) : nI L - 6 < nI k ↔ L < k + 6 := by
  have e : (6 : Int32).toInt = 6 := by decide
  rw [Int32.lt_iff_toInt_lt, Int32.toInt_sub, nI_toInt (by omega), nI_toInt (by omega), e, Int.bmod_eq_of_le (by omega) (by omega)]
  omega
theorem gsw25 (x : Int32) (h : 0 ≤ x.toInt ∧ x.toInt ≤ (25 : Nat)) : x = nI 0 ∨ x = nI 1 ∨ x = nI 2 ∨ x = nI 3 ∨ x = nI 4 ∨ x = nI 5 ∨ x = nI 6 ∨ x = nI 7 ∨ x = nI 8 ∨ x = nI 9 ∨ x = nI 10 ∨ x = nI 11 ∨ x = nI 12 ∨ x = nI 13 ∨ x = nI 14 ∨ x = nI 15 ∨ x = nI 16 ∨ x = nI 17 ∨ x = nI 18 ∨ x = nI 19 ∨ x = nI 20 ∨ x = nI 21 ∨ x = nI 22 ∨ x = nI 23 ∨ x = nI 24 ∨ x = nI 25 := by
  rcases (show x.toInt = (0 : Nat) ∨ x.toInt = (1 : Nat) ∨ x.toInt = (2 : Nat) ∨ x.toInt = (3 : Nat) ∨ x.toInt = (4 : Nat) ∨ x.toInt = (5 : Nat) ∨ x.toInt = (6 : Nat) ∨ x.toInt = (7 : Nat) ∨ x.toInt = (8 : Nat) ∨ x.toInt = (9 : Nat) ∨ x.toInt = (10 : Nat) ∨ x.toInt = (11 : Nat) ∨ x.toInt = (12 : Nat) ∨ x.toInt = (13 : Nat) ∨ x.toInt = (14 : Nat) ∨ x.toInt = (15 : Nat) ∨ x.toInt = (16 : Nat) ∨ x.toInt = (17 : Nat) ∨ x.toInt = (18 : Nat) ∨ x.toInt = (19 : Nat) ∨ x.toInt = (20 : Nat) ∨ x.toInt = (21 : Nat) ∨ x.toInt = (22 : Nat) ∨ x.toInt = (23 : Nat) ∨ x.toInt = (24 : Nat) ∨ x.toInt = (25 : Nat) by omega) with q | q | q | q | q | q | q | q | q | q | q | q | q | q | q | q | q | q | q | q | q | q | q | q | q | q
  · exact Or.inl (gofI q (by decide))
  · exact Or.inr (Or.inl (gofI q (by decide)))
  · exact Or.inr (Or.inr (Or.inl (gofI q (by decide))))
  · exact Or.inr (Or.inr (Or.inr (Or.inl (gofI q (by decide)))))
  · exact Or.inr (Or.inr (Or.inr (Or.inr (Or.inl (gofI q (by decide))))))
  · exact Or.inr (Or.inr (Or.inr (Or.inr (Or.inr (Or.inl (gofI q (by decide)))))))
  · exact Or.inr (Or.inr (Or.inr (Or.inr (Or.inr (Or.inr (Or.inl (gofI q (by decide))))))))
  · exact Or.inr (Or.inr (Or.inr (Or.inr (Or.inr (Or.inr (Or.inr (Or.inl (gofI q (by decide)))))))))
  · exact Or.inr (Or.inr (Or.inr (Or.inr (Or.inr (Or.inr (Or.inr (Or.inr (Or.inl (gofI q (by decide))))))))))
  · exact Or.inr (Or.inr (Or.inr (Or.inr (Or.inr (Or.inr (Or.inr (Or.inr (Or.inr (Or.inl (gofI q (by decide)))))))))))
  · exact Or.inr (Or.inr (Or.inr (Or.inr (Or.inr (Or.inr (Or.inr (Or.inr (Or.inr (Or.inr (Or.inl (gofI q (by decide))))))))))))
  · exact Or.inr (Or.inr (Or.inr (Or.inr (Or.inr (Or.inr (Or.inr (Or.inr (Or.inr (Or.inr (Or.inr (Or.inl (gofI q (by decide)))))))))))))
  · exact Or.inr (Or.inr (Or.inr (Or.inr (Or.inr (Or.inr (Or.inr (Or.inr (Or.inr (Or.inr (Or.inr (Or.inr (Or.inl (gofI q (by decide))))))))))))))
  · exact Or.inr (Or.inr (Or.inr (Or.inr (Or.inr (Or.inr (Or.inr (Or.inr (Or.inr (Or.inr (Or.inr (Or.inr (Or.inr (Or.inl (gofI q (by decide)))))))))))))))
  · exact Or.inr (Or.inr (Or.inr (Or.inr (Or.inr (Or.inr (Or.inr (Or.inr (Or.inr (Or.inr (Or.inr (Or.inr (Or.inr (Or.inr (Or.inl (gofI q (by decide))))))))))))))))
  · exact Or.inr (Or.inr (Or.inr (Or.inr (Or.inr (Or.inr (Or.inr (Or.inr (Or.inr (Or.inr (Or.inr (Or.inr (Or.inr (Or.inr (Or.inr (Or.inl (gofI q (by decide)))))))))))))))))
  · exact Or.inr (Or.inr (Or.inr (Or.inr (Or.inr (Or.inr (Or.inr (Or.inr (Or.inr (Or.inr (Or.inr (Or.inr (Or.inr (Or.inr (Or.inr (Or.inr (Or.inl (gofI q (by decide))))))))))))))))))
  · exact Or.inr (Or.inr (Or.inr (Or.inr (Or.inr (Or.inr (Or.inr (Or.inr (Or.inr (Or.inr (Or.inr (Or.inr (Or.inr (Or.inr (Or.inr (Or.inr (Or.inr (Or.inl (gofI q (by decide)))))))))))))))))))
  · exact Or.inr (Or.inr (Or.inr (Or.inr (Or.inr (Or.inr (Or.inr (Or.inr (Or.inr (Or.inr (Or.inr (Or.inr (Or.inr (Or.inr (Or.inr (Or.inr (Or.inr (Or.inr (Or.inl (gofI q (by decide))))))))))))))))))))
  · exact Or.inr (Or.inr (Or.inr (Or.inr (Or.inr (Or.inr (Or.inr (Or.inr (Or.inr (Or.inr (Or.inr (Or.inr (Or.inr (Or.inr (Or.inr (Or.inr (Or.inr (Or.inr (Or.inr (Or.inl (gofI q (by decide)))))))))))))))))))))
  · exact Or.inr (Or.inr (Or.inr (Or.inr (Or.inr (Or.inr (Or.inr (Or.inr (Or.inr (Or.inr (Or.inr (Or.inr (Or.inr (Or.inr (Or.inr (Or.inr (Or.inr (Or.inr (Or.inr (Or.inr (Or.inl (gofI q (by decide))))))))))))))))))))))
  · exact Or.inr (Or.inr (Or.inr (Or.inr (Or.inr (Or.inr (Or.inr (Or.inr (Or.inr (Or.inr (Or.inr (Or.inr (Or.inr (Or.inr (Or.inr (Or.inr (Or.inr (Or.inr (Or.inr (Or.inr (Or.inr (Or.inl (gofI q (by decide)))))))))))))))))))))))
  · exact Or.inr (Or.inr (Or.inr (Or.inr (Or.inr (Or.inr (Or.inr (Or.inr (Or.inr (Or.inr (Or.inr (Or.inr (Or.inr (Or.inr (Or.inr (Or.inr (Or.inr (Or.inr (Or.inr (Or.inr (Or.inr (Or.inr (Or.inl (gofI q (by decide))))))))))))))))))))))))
  · exact Or.inr (Or.inr (Or.inr (Or.inr (Or.inr (Or.inr (Or.inr (Or.inr (Or.inr (Or.inr (Or.inr (Or.inr (Or.inr (Or.inr (Or.inr (Or.inr (Or.inr (Or.inr (Or.inr (Or.inr (Or.inr (Or.inr (Or.inr (Or.inl (gofI q (by decide)))))))))))))))))))))))))
  · exact Or.inr (Or.inr (Or.inr (Or.inr (Or.inr (Or.inr (Or.inr (Or.inr (Or.inr (Or.inr (Or.inr (Or.inr (Or.inr (Or.inr (Or.inr (Or.inr (Or.inr (Or.inr (Or.inr (Or.inr (Or.inr (Or.inr (Or.inr (Or.inr (Or.inl (gofI q (by decide))))))))))))))))))))))))))
  · exact Or.inr (Or.inr (Or.inr (Or.inr (Or.inr (Or.inr (Or.inr (Or.inr (Or.inr (Or.inr (Or.inr (Or.inr (Or.inr (Or.inr (Or.inr (Or.inr (Or.inr (Or.inr (Or.inr (Or.inr (Or.inr (Or.inr (Or.inr (Or.inr (Or.inr (gofI q (by decide))))))))))))))))))))))))))
def kPl : List Nat := [0, 86, 42, 44, 46, 48, 50, 52, 54, 58, 62, 66, 70, 74, 78, 82, 3, 25, 28, 30, 33, 41, 55, 59, 63, 67, 71, 75, 79, 83, 56, 60, 64, 68, 72, 76, 80, 84, 57, 61, 65, 69, 73, 77, 81, 85, 5, 6, 7, 8, 9, 10, 11, 12, 13, 14, 15, 16, 17, 18, 19, 20, 21, 22, 23, 24, 26, 27, 29, 36, 37, 38, 87, 88, 91, 92, 93, 94, 95, 96, 98, 99, 43, 45, 47, 49, 51, 53, 31, 32, 34, 35, 39, 40, 89, 90, 97, 100, 101, 1, 2, 4]
/-- the start: all 0 but what the constructors lay down; f: what the urns' 'under' hold -/
def gS0 (f : Nat → Nat → Int32) : GS := (fun k => if k < 16 then (fun _ => 0) else if k < 24 then f (k - 16) else if k = 50 then kF50 else if k = 53 then kF53 else (fun _ => 0), fun _ _ => 0, fun n => ([0, 1, -1, -1, -1, -1, -1, -1] : List Int32).getD n 0, fun n => ([0, 0, 0, 1, 0, 1, 0, 1, 0, 0, 0, 0, 1] : List Int64).getD n 0, 2)
def gW0 (δ : GD) (h1 h2 : Nat) (a1 a2 : Nat → Nat) (f1 f2 : Nat → Nat → Int32) : va_W := kw_X8 δ h1 a1 f1 ++ kw_X9 δ h2 a2 f2
def gAd (δ : GD) (h1 h2 : Nat) (a1 a2 : Nat → Nat) (f1 f2 : Nat → Nat → Int32) (k : Nat) : Nat := ((gW0 δ h1 h2 a1 a2 f1 f2).map (fun q => q.1)).getD (kPl.getD k 0) 0
theorem kPl_in : ∀ k, k < 102 → kPl.getD k 0 < 102 := by decide +kernel
theorem kPl_inj : ∀ i, i < 102 → ∀ j, j < 102 → kPl.getD i 0 = kPl.getD j 0 → i = j := by decide +kernel
theorem fun6 (a : Nat → Nat) (n : Nat) (q : Nat → Option Nat) (h : ∀ j, q j = if j < n then some (a j) else none) : q = (fun j => if j < n then some (a j) else none) := funext h
set_option maxRecDepth 100000 in
set_option maxHeartbeats 4000000 in
theorem gW0_0 (δ : GD) (h1 h2 : Nat) (a1 a2 : Nat → Nat) (f1 f2 : Nat → Nat → Int32) : ∀ k, 0 ≤ k → k < 17 → (gW0 δ h1 h2 a1 a2 f1 f2)[kPl.getD k 0]? = some (gAd δ h1 h2 a1 a2 f1 f2 k, gE δ.2.1 (gAd δ h1 h2 a1 a2 f1 f2) (gS0 f1) k) := by
  intro k hk1 hk2
  rcases (show k = 0 ∨ k = 1 ∨ k = 2 ∨ k = 3 ∨ k = 4 ∨ k = 5 ∨ k = 6 ∨ k = 7 ∨ k = 8 ∨ k = 9 ∨ k = 10 ∨ k = 11 ∨ k = 12 ∨ k = 13 ∨ k = 14 ∨ k = 15 ∨ k = 16 by omega) with rfl | rfl | rfl | rfl | rfl | rfl | rfl | rfl | rfl | rfl | rfl | rfl | rfl | rfl | rfl | rfl | rfl
  · rfl
  · rfl
  · rfl
  · rfl
  · rfl
  · rfl
  · rfl
  · rfl
  · rfl
  · rfl
  · rfl
  · rfl
  · rfl
  · rfl
  · rfl
  · rfl
  · rfl
set_option maxRecDepth 100000 in
set_option maxHeartbeats 4000000 in
theorem gW0_17 (δ : GD) (h1 h2 : Nat) (a1 a2 : Nat → Nat) (f1 f2 : Nat → Nat → Int32) : ∀ k, 17 ≤ k → k < 34 → (gW0 δ h1 h2 a1 a2 f1 f2)[kPl.getD k 0]? = some (gAd δ h1 h2 a1 a2 f1 f2 k, gE δ.2.1 (gAd δ h1 h2 a1 a2 f1 f2) (gS0 f1) k) := by
  intro k hk1 hk2
  rcases (show k = 17 ∨ k = 18 ∨ k = 19 ∨ k = 20 ∨ k = 21 ∨ k = 22 ∨ k = 23 ∨ k = 24 ∨ k = 25 ∨ k = 26 ∨ k = 27 ∨ k = 28 ∨ k = 29 ∨ k = 30 ∨ k = 31 ∨ k = 32 ∨ k = 33 by omega) with rfl | rfl | rfl | rfl | rfl | rfl | rfl | rfl | rfl | rfl | rfl | rfl | rfl | rfl | rfl | rfl | rfl
  · rfl
  · rfl
  · rfl
  · have e : gE δ.2.1 (gAd δ h1 h2 a1 a2 f1 f2) (gS0 f1) 20 = Sum.inr (0, [.ref (gAd δ h1 h2 a1 a2 f1 f2 90), .ref (gAd δ h1 h2 a1 a2 f1 f2 91), .ref (gAd δ h1 h2 a1 a2 f1 f2 69), .ref (gAd δ h1 h2 a1 a2 f1 f2 70), .ref (gAd δ h1 h2 a1 a2 f1 f2 71), .ref (gAd δ h1 h2 a1 a2 f1 f2 92), .ref (gAd δ h1 h2 a1 a2 f1 f2 93), .long 0, .long 1, .long 0, .long 0]) := by
      have e1 : gP (gS0 f1) = 2 := rfl
      have e2 : gG (gS0 f1) 6 = 0 ∧ gG (gS0 f1) 7 = 1 ∧ gG (gS0 f1) 8 = 0 ∧ gG (gS0 f1) 9 = 0 := ⟨rfl, rfl, rfl, rfl⟩
      show (Sum.inr (0, [Value.ref (gAd δ h1 h2 a1 a2 f1 f2 (90 + gP (gS0 f1) % 2)), Value.ref (gAd δ h1 h2 a1 a2 f1 f2 (90 + gP (gS0 f1) / 2 % 2)), _, _, _, _, _, Value.long (gG (gS0 f1) 6), Value.long (gG (gS0 f1) 7), Value.long (gG (gS0 f1) 8), Value.long (gG (gS0 f1) 9)]) : va_E) = _
      rw [e1, e2.1, e2.2.1, e2.2.2.1, e2.2.2.2]
    rw [e]
    rfl
  · rfl
  · rfl
  · rfl
  · rfl
  · rfl
  · rfl
  · rfl
  · rfl
  · rfl
  · rfl
  · rfl
  · rfl
  · rfl
set_option maxRecDepth 100000 in
set_option maxHeartbeats 4000000 in
theorem gW0_34 (δ : GD) (h1 h2 : Nat) (a1 a2 : Nat → Nat) (f1 f2 : Nat → Nat → Int32) : ∀ k, 34 ≤ k → k < 51 → (gW0 δ h1 h2 a1 a2 f1 f2)[kPl.getD k 0]? = some (gAd δ h1 h2 a1 a2 f1 f2 k, gE δ.2.1 (gAd δ h1 h2 a1 a2 f1 f2) (gS0 f1) k) := by
  intro k hk1 hk2
  rcases (show k = 34 ∨ k = 35 ∨ k = 36 ∨ k = 37 ∨ k = 38 ∨ k = 39 ∨ k = 40 ∨ k = 41 ∨ k = 42 ∨ k = 43 ∨ k = 44 ∨ k = 45 ∨ k = 46 ∨ k = 47 ∨ k = 48 ∨ k = 49 ∨ k = 50 by omega) with rfl | rfl | rfl | rfl | rfl | rfl | rfl | rfl | rfl | rfl | rfl | rfl | rfl | rfl | rfl | rfl | rfl
  · rfl
  · rfl
  · rfl
  · rfl
  · rfl
  · rfl
  · rfl
  · rfl
  · rfl
  · rfl
  · rfl
  · rfl
  · rfl
  · rfl
  · rfl
  · rfl
  · rfl
set_option maxRecDepth 100000 in
set_option maxHeartbeats 4000000 in
theorem gW0_51 (δ : GD) (h1 h2 : Nat) (a1 a2 : Nat → Nat) (f1 f2 : Nat → Nat → Int32) : ∀ k, 51 ≤ k → k < 68 → (gW0 δ h1 h2 a1 a2 f1 f2)[kPl.getD k 0]? = some (gAd δ h1 h2 a1 a2 f1 f2 k, gE δ.2.1 (gAd δ h1 h2 a1 a2 f1 f2) (gS0 f1) k) := by
  intro k hk1 hk2
  rcases (show k = 51 ∨ k = 52 ∨ k = 53 ∨ k = 54 ∨ k = 55 ∨ k = 56 ∨ k = 57 ∨ k = 58 ∨ k = 59 ∨ k = 60 ∨ k = 61 ∨ k = 62 ∨ k = 63 ∨ k = 64 ∨ k = 65 ∨ k = 66 ∨ k = 67 by omega) with rfl | rfl | rfl | rfl | rfl | rfl | rfl | rfl | rfl | rfl | rfl | rfl | rfl | rfl | rfl | rfl | rfl
  · rfl
  · rfl
  · rfl
  · rfl
  · rfl
  · rfl
  · rfl
  · rfl
  · rfl
  · rfl
  · rfl
  · rfl
  · rfl
  · rfl
  · rfl
  · rfl
  · rfl
set_option maxRecDepth 100000 in
set_option maxHeartbeats 4000000 in
theorem gW0_68 (δ : GD) (h1 h2 : Nat) (a1 a2 : Nat → Nat) (f1 f2 : Nat → Nat → Int32) : ∀ k, 68 ≤ k → k < 85 → (gW0 δ h1 h2 a1 a2 f1 f2)[kPl.getD k 0]? = some (gAd δ h1 h2 a1 a2 f1 f2 k, gE δ.2.1 (gAd δ h1 h2 a1 a2 f1 f2) (gS0 f1) k) := by
  intro k hk1 hk2
  rcases (show k = 68 ∨ k = 69 ∨ k = 70 ∨ k = 71 ∨ k = 72 ∨ k = 73 ∨ k = 74 ∨ k = 75 ∨ k = 76 ∨ k = 77 ∨ k = 78 ∨ k = 79 ∨ k = 80 ∨ k = 81 ∨ k = 82 ∨ k = 83 ∨ k = 84 by omega) with rfl | rfl | rfl | rfl | rfl | rfl | rfl | rfl | rfl | rfl | rfl | rfl | rfl | rfl | rfl | rfl | rfl
  · rfl
  · rfl
  · rfl
  · rfl
  · rfl
  · rfl
  · rfl
  · rfl
  · rfl
  · rfl
  · rfl
  · rfl
  · rfl
  · rfl
  · rfl
  · rfl
  · rfl
set_option maxRecDepth 100000 in
set_option maxHeartbeats 4000000 in
theorem gW0_85 (δ : GD) (h1 h2 : Nat) (a1 a2 : Nat → Nat) (f1 f2 : Nat → Nat → Int32) : ∀ k, 85 ≤ k → k < 102 → (gW0 δ h1 h2 a1 a2 f1 f2)[kPl.getD k 0]? = some (gAd δ h1 h2 a1 a2 f1 f2 k, gE δ.2.1 (gAd δ h1 h2 a1 a2 f1 f2) (gS0 f1) k) := by
  intro k hk1 hk2
  rcases (show k = 85 ∨ k = 86 ∨ k = 87 ∨ k = 88 ∨ k = 89 ∨ k = 90 ∨ k = 91 ∨ k = 92 ∨ k = 93 ∨ k = 94 ∨ k = 95 ∨ k = 96 ∨ k = 97 ∨ k = 98 ∨ k = 99 ∨ k = 100 ∨ k = 101 by omega) with rfl | rfl | rfl | rfl | rfl | rfl | rfl | rfl | rfl | rfl | rfl | rfl | rfl | rfl | rfl | rfl | rfl
  · rfl
  · rfl
  · rfl
  · rfl
  · rfl
  · rfl
  · rfl
  · rfl
  · rfl
  · rfl
  · rfl
  · rfl
  · rfl
  · rfl
  · show some (gAd δ h1 h2 a1 a2 f1 f2 99, _) = some (gAd δ h1 h2 a1 a2 f1 f2 99, (Sum.inl (δ.2.1 2, 6, .inr (.inr (.inr (.inr (fun j => if j < 6 then some (gAd δ h1 h2 a1 a2 f1 f2 (2 + j)) else none))))) : va_E))
    refine congrArg (fun g => some (gAd δ h1 h2 a1 a2 f1 f2 99, (Sum.inl (δ.2.1 2, 6, .inr (.inr (.inr (.inr g)))) : va_E))) (funext fun j => ?_)
    by_cases hj : j < 6
    · rw [if_pos hj]
      rcases (show j = 0 ∨ j = 1 ∨ j = 2 ∨ j = 3 ∨ j = 4 ∨ j = 5 by omega) with rfl | rfl | rfl | rfl | rfl | rfl <;> rfl
    · rw [if_neg hj]
      simp only [va_up]
      rw [if_neg (by omega)]
      rw [if_neg (by omega)]
      rw [if_neg (by omega)]
      rw [if_neg (by omega)]
      rw [if_neg (by omega)]
      rw [if_neg (by omega)]
  · show some (gAd δ h1 h2 a1 a2 f1 f2 100, _) = some (gAd δ h1 h2 a1 a2 f1 f2 100, (Sum.inl (δ.2.1 3, 8, .inr (.inr (.inr (.inr (fun j => if j < 8 then some (gAd δ h1 h2 a1 a2 f1 f2 (8 + j)) else none))))) : va_E))
    refine congrArg (fun g => some (gAd δ h1 h2 a1 a2 f1 f2 100, (Sum.inl (δ.2.1 3, 8, .inr (.inr (.inr (.inr g)))) : va_E))) (funext fun j => ?_)
    by_cases hj : j < 8
    · rw [if_pos hj]
      rcases (show j = 0 ∨ j = 1 ∨ j = 2 ∨ j = 3 ∨ j = 4 ∨ j = 5 ∨ j = 6 ∨ j = 7 by omega) with rfl | rfl | rfl | rfl | rfl | rfl | rfl | rfl <;> rfl
    · rw [if_neg hj]
      simp only [va_up]
      rw [if_neg (by omega)]
      rw [if_neg (by omega)]
      rw [if_neg (by omega)]
      rw [if_neg (by omega)]
      rw [if_neg (by omega)]
      rw [if_neg (by omega)]
      rw [if_neg (by omega)]
      rw [if_neg (by omega)]
  · show some (gAd δ h1 h2 a1 a2 f1 f2 101, _) = some (gAd δ h1 h2 a1 a2 f1 f2 101, (Sum.inl (δ.2.1 4, 20, .inr (.inr (.inr (.inr (fun j => if j < 20 then some (gAd δ h1 h2 a1 a2 f1 f2 (46 + j)) else none))))) : va_E))
    refine congrArg (fun g => some (gAd δ h1 h2 a1 a2 f1 f2 101, (Sum.inl (δ.2.1 4, 20, .inr (.inr (.inr (.inr g)))) : va_E))) (funext fun j => ?_)
    by_cases hj : j < 20
    · rw [if_pos hj]
      rcases (show j = 0 ∨ j = 1 ∨ j = 2 ∨ j = 3 ∨ j = 4 ∨ j = 5 ∨ j = 6 ∨ j = 7 ∨ j = 8 ∨ j = 9 ∨ j = 10 ∨ j = 11 ∨ j = 12 ∨ j = 13 ∨ j = 14 ∨ j = 15 ∨ j = 16 ∨ j = 17 ∨ j = 18 ∨ j = 19 by omega) with rfl | rfl | rfl | rfl | rfl | rfl | rfl | rfl | rfl | rfl | rfl | rfl | rfl | rfl | rfl | rfl | rfl | rfl | rfl | rfl <;> rfl
    · rw [if_neg hj]
      exact List.getElem?_eq_none (by show 20 ≤ j; omega)
theorem gW0_all (δ : GD) (h1 h2 : Nat) (a1 a2 : Nat → Nat) (f1 f2 : Nat → Nat → Int32) (k : Nat) (hk : k < 102) : (gW0 δ h1 h2 a1 a2 f1 f2)[kPl.getD k 0]? = some (gAd δ h1 h2 a1 a2 f1 f2 k, gE δ.2.1 (gAd δ h1 h2 a1 a2 f1 f2) (gS0 f1) k) := by
  rcases (show (0 ≤ k ∧ k < 17) ∨ (17 ≤ k ∧ k < 34) ∨ (34 ≤ k ∧ k < 51) ∨ (51 ≤ k ∧ k < 68) ∨ (68 ≤ k ∧ k < 85) ∨ (85 ≤ k ∧ k < 102) by omega) with h | h | h | h | h | h
  · exact gW0_0 δ h1 h2 a1 a2 f1 f2 k h.1 h.2
  · exact gW0_17 δ h1 h2 a1 a2 f1 f2 k h.1 h.2
  · exact gW0_34 δ h1 h2 a1 a2 f1 f2 k h.1 h.2
  · exact gW0_51 δ h1 h2 a1 a2 f1 f2 k h.1 h.2
  · exact gW0_68 δ h1 h2 a1 a2 f1 f2 k h.1 h.2
  · exact gW0_85 δ h1 h2 a1 a2 f1 f2 k h.1 h.2
/-- what the two constructors leave, read as one world -/
theorem g_world {D : va_G} {cy : Nat → ClassId} {a0 : Nat → Nat} {t0 t1 h1 h2 : Nat} {a1 a2 : Nat → Nat} {f1 f2 : Nat → Nat → Int32} {A : Nat → Prop} {H : Heap} (hP : va_P D vwCl (gW0 (D, cy, a0, t0, t1) h1 h2 a1 a2 f1 f2) H) (hD : va_D A (gW0 (D, cy, a0, t0, t1) h1 h2 a1 a2 f1 f2)) :
    ∃ a : Nat → Nat, va_P D vwCl (wG (D, cy, a, t0, t1) (gS0 f1)) H ∧ gDj (D, cy, a, t0, t1) ∧ (∀ k, k < 102 → A (a k)) ∧ a 0 = h1 ∧ a 1 = h2 := by
  refine ⟨gAd (D, cy, a0, t0, t1) h1 h2 a1 a2 f1 f2, ?_, ?_, ?_, rfl, rfl⟩
  · refine hP.by (fun k => kPl.getD k 0) (fun k q hq => ?_)
    obtain ⟨hk, rfl⟩ := wG_inv hq
    exact gW0_all (D, cy, a0, t0, t1) h1 h2 a1 a2 f1 f2 k hk
  · intro i j hi hj e
    exact kPl_inj i hi j hj (hD.1 _ _ _ _ (gW0_all (D, cy, a0, t0, t1) h1 h2 a1 a2 f1 f2 i hi) (gW0_all (D, cy, a0, t0, t1) h1 h2 a1 a2 f1 f2 j hj) e)
  · intro k hk
    exact hD.2 _ _ (gW0_all (D, cy, a0, t0, t1) h1 h2 a1 a2 f1 f2 k hk)
