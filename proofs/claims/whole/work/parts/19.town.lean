theorem mn_loop {n : Nat} {X : Prop} (E : Nat → Prop) (hx : E n ↔ X) (hs : ∀ i, i < n → (E i ↔ E (i + 1))) {i0 : Nat} (h0 : i0 ≤ n) : E i0 ↔ X := by
  obtain ⟨k, rfl⟩ : ∃ k, n = i0 + k := ⟨n - i0, by omega⟩
  clear h0
  induction k generalizing i0 with
  | zero => exact hx
  | succ k ih =>
    rw [hs i0 (by omega)]
    have e : i0 + (k + 1) = i0 + 1 + k := by omega
    rw [e] at hx hs
    exact ih hx hs
/-- an abstract town: numbers by field and index (0: how many; 1..3 bells; 4..7 groups; 8..10 causes; 11..13 stops; 14..16 of themselves; 17 harms plus 50) -/
abbrev TW : Type := Nat → Nat → Nat
def TWF (T : TW) : Prop := (T 0 0 ≤ 5 ∧ T 0 1 ≤ 6 ∧ T 0 2 ≤ 8 ∧ T 0 3 ≤ 4 ∧ T 0 4 ≤ 3) ∧ (∀ b, b < T 0 0 → T 1 b < 5 ∧ T 2 b < 6 ∧ T 3 b < 6) ∧
  (∀ g, g < T 0 1 → 1 ≤ T 4 g ∧ T 4 g ≤ 99 ∧ T 5 g < T 0 0 ∧ T 6 g ≤ 6 ∧ T 7 g ≤ 6) ∧ (∀ i, i < T 0 2 → T 8 i < 6 ∧ T 9 i < 6 ∧ 1 ≤ T 10 i ∧ T 10 i ≤ 999) ∧
  (∀ i, i < T 0 3 → T 11 i < 6 ∧ T 12 i < 6 ∧ 1 ≤ T 13 i ∧ T 13 i ≤ 999) ∧ (∀ i, i < T 0 4 → T 14 i < 6 ∧ 1 ≤ T 15 i ∧ T 15 i ≤ 12 ∧ T 16 i ≤ 11) ∧ ∀ k, k < 6 → T 17 k ≤ 99
/-- the class's town at t is T -/
def CT (h : mn_H) (t : Nat) (T : TW) : Prop := (h t 0 = nI (T 0 0) ∧ h t 4 = nI (T 0 1) ∧ h (t + 8) 3 = nI (T 0 2) ∧ h (t + 12) 3 = nI (T 0 3) ∧ h t 11 = nI (T 0 4)) ∧
  (∀ b, b < T 0 0 → h (t + 1) b = nI (T 1 b) ∧ h (t + 2) b = nI (T 2 b) ∧ h (t + 3) b = nI (T 3 b)) ∧
  (∀ g, g < T 0 1 → h (t + 4) g = nI (T 4 g) ∧ h (t + 5) g = nI (T 5 g) ∧ h (t + 6) g = nI (T 6 g) ∧ h (t + 7) g = nI (T 7 g)) ∧
  (∀ i, i < T 0 2 → h (t + 9) i = nI (T 8 i) ∧ h (t + 10) i = nI (T 9 i) ∧ h (t + 11) i = nI (T 10 i)) ∧
  (∀ i, i < T 0 3 → h (t + 13) i = nI (T 11 i) ∧ h (t + 14) i = nI (T 12 i) ∧ h (t + 15) i = nI (T 13 i)) ∧
  (∀ i, i < T 0 4 → h (t + 16) i = nI (T 14 i) ∧ h (t + 17) i = nI (T 15 i) ∧ h (t + 18) i = nI (T 16 i)) ∧ ∀ k, k < 6 → h (t + 19) k = nI (T 17 k) - 50
/-- the model's town is T -/
def MT (h : mn_H) (T : TW) : Prop := (h 65 0 = nI (T 0 0) ∧ h 65 1 = nI (T 0 1) ∧ h 65 2 = nI (T 0 2) ∧ h 65 3 = nI (T 0 3) ∧ h 65 4 = nI (T 0 4)) ∧
  (∀ b, b < T 0 0 → h 65 (5 + 3 * b) = nI (T 1 b) ∧ h 65 (5 + 3 * b + 1) = nI (T 2 b) ∧ h 65 (5 + 3 * b + 2) = nI (T 3 b)) ∧
  (∀ g, g < T 0 1 → h 65 (20 + 4 * g) = nI (T 4 g) ∧ h 65 (20 + 4 * g + 1) = nI (T 5 g) ∧ h 65 (20 + 4 * g + 2) = nI (T 6 g) ∧ h 65 (20 + 4 * g + 3) = nI (T 7 g)) ∧
  (∀ i, i < T 0 2 → h 65 (44 + 3 * i) = nI (T 8 i) ∧ h 65 (44 + 3 * i + 1) = nI (T 9 i) ∧ h 65 (44 + 3 * i + 2) = nI (T 10 i)) ∧
  (∀ i, i < T 0 3 → h 65 (68 + 3 * i) = nI (T 11 i) ∧ h 65 (68 + 3 * i + 1) = nI (T 12 i) ∧ h 65 (68 + 3 * i + 2) = nI (T 13 i)) ∧
  (∀ i, i < T 0 4 → h 65 (80 + 3 * i) = nI (T 14 i) ∧ h 65 (80 + 3 * i + 1) = nI (T 15 i) ∧ h 65 (80 + 3 * i + 2) = nI (T 16 i)) ∧ ∀ k, k < 6 → h 65 (89 + k) = nI (T 17 k) - 50
/-- whether a sign rings -/
def rgN (k f s y d : Nat) : Bool := if k = 0 then d.testBit f else if k = 1 then !d.testBit f else if k = 2 then d.testBit f && d.testBit s else if k = 3 then d.testBit f || d.testBit s else y.testBit f
def ringN (T : TW) (y d : Nat) : Nat := mn_bits (fun b => rgN (T 1 b) (T 2 b) (T 3 b) y d) (T 0 0)
theorem rgB_N {k f s y d : Nat} (hk : k < 5) (hf : f < 6) (hs : s < 6) (hy : y < 64) (hd : d < 64) : rgB (nI k) (nI f) (nI s) (nI y) (nI d) = rgN k f s y d := by
  have b1 := nq_bit1 (a := d) (k := f) (by omega) (by omega)
  have b2 := nq_bit1 (a := d) (k := s) (by omega) (by omega)
  have b3 := nq_bit1 (a := y) (k := f) (by omega) (by omega)
  have e1 : decide ((nI d >>> (nI f &&& 31)) &&& 1 = 1) = d.testBit f := by rw [Bool.eq_iff_iff, decide_eq_true_eq]; exact b1
  have e2 : decide ((nI d >>> (nI s &&& 31)) &&& 1 = 1) = d.testBit s := by rw [Bool.eq_iff_iff, decide_eq_true_eq]; exact b2
  have e3 : decide ((nI y >>> (nI f &&& 31)) &&& 1 = 1) = y.testBit f := by rw [Bool.eq_iff_iff, decide_eq_true_eq]; exact b3
  unfold rgB rgN
  rw [e1, e2, e3]
  have hk' : k = 0 ∨ k = 1 ∨ k = 2 ∨ k = 3 ∨ k = 4 := by omega
  rcases hk' with rfl | rfl | rfl | rfl | rfl <;> rfl
theorem nI_k5 {k : Nat} (hk : k < 5) : nI k = 0 ∨ nI k = 1 ∨ nI k = 2 ∨ nI k = 3 ∨ nI k = 4 := by
  have hk' : k = 0 ∨ k = 1 ∨ k = 2 ∨ k = 3 ∨ k = 4 := by omega
  rcases hk' with rfl | rfl | rfl | rfl | rfl
  · exact Or.inl rfl
  · exact Or.inr (Or.inl rfl)
  · exact Or.inr (Or.inr (Or.inl rfl))
  · exact Or.inr (Or.inr (Or.inr (Or.inl rfl)))
  · exact Or.inr (Or.inr (Or.inr (Or.inr rfl)))
theorem nI_mz (b : Bool) : mz b = nI (if b then 1 else 0) := by cases b <;> rfl
section TOWN
variable {h : mn_H} {t : Nat} {T : TW}
theorem x_X5_ringFor (ht : mn_isT t) (hc : CT h t T) (hw : TWF T) {y d : Nat} (hy : y < 64) (hd : d < 64) : mn_X 50 [.ref t, .int (nI y), .int (nI d)] h (some (.int (nI (ringN T y d)))) h := by
  obtain ⟨⟨c0, -⟩, cb, -⟩ := hc
  obtain ⟨⟨w0, -⟩, wb, -⟩ := hw
  rw [e_X5_ringFor, b_X5_ringFor_0 ht]
  refine (mn_loop (n := T 0 0) (fun i => mn_E 50 5 [.ref t, .int (nI y), .int (nI d), .int (nI (mn_bits (fun b => rgN (T 1 b) (T 2 b) (T 3 b) y d) i)), .int (nI i)] [] h (some (.int (nI (ringN T y d)))) h) ?_ ?_ (Nat.zero_le _)).mpr trivial
  · rw [b_X5_ringFor_5 ht, c0, if_pos (nI_le (Nat.le_refl _) (by omega)), b_X5_ringFor_56 ht]
    exact ⟨fun _ => trivial, fun _ => ⟨rfl, rfl⟩⟩
  · intro i hi
    obtain ⟨c1, c2, c3⟩ := cb i hi
    obtain ⟨w1, w2, w3⟩ := wb i hi
    rw [b_X5_ringFor_5 ht, c0, if_neg (nI_ge hi (by omega)), b_X5_ringFor_14 ht (vp_in_nI (by omega) (by decide)), nI_clamp (by omega), c1, c2, c3, mn_cl_i (x_X7_rings _ _ _ _ (nI_k5 w1)), rgB_N w1 w2 w3 hy hd, b_X5_ringFor_40 ht]
    have lt := mn_bits_lt (fun b => rgN (T 1 b) (T 2 b) (T 3 b) y d) i
    have p1 : 2 ^ i ≤ 2 ^ 5 := Nat.pow_le_pow_right (by decide) (by omega)
    by_cases hr : rgN (T 1 i) (T 2 i) (T 3 i) y d = true
    · rw [if_neg (by rw [mz_0, hr]; decide), b_X5_ringFor_43 ht, b_X5_ringFor_50 ht, nI_1, nq_one (by omega), nq_or (by omega) (by omega), mn_bits_or, if_pos hr]
    · rw [if_pos (by rw [mz_0]; simpa using hr), b_X5_ringFor_50 ht, nI_1, mn_bits_or, if_neg hr, Nat.or_zero]
end TOWN
