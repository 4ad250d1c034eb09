/-! ===== lN n to 2^64: shifts, and, or, masks, one bit ===== -/
theorem wb_tb (n : Nat) : (lN n).toBitVec = BitVec.ofNat 64 n := rfl
theorem wb_inj {a b : Int64} (h : a.toBitVec = b.toBitVec) : a = b := Int64.toBitVec_inj.mp h
theorem wb_tn {n : Nat} (h : n < 2 ^ 64) : (lN n).toBitVec.toNat = n := by rw [wb_tb, BitVec.toNat_ofNat, Nat.mod_eq_of_lt h]
theorem wb_of (x : Int64) : ∃ n, n < 2 ^ 64 ∧ x = lN n := ⟨x.toBitVec.toNat, x.toBitVec.isLt, wb_inj (by rw [wb_tb]; simp)⟩
theorem wb_of32 (x : Int32) : ∃ n, n < 2 ^ 32 ∧ x = nI n := ⟨x.toBitVec.toNat, x.toBitVec.isLt, Int32.toBitVec_inj.mp (by show _ = BitVec.ofNat 32 _; simp)⟩
theorem wb_c : ∀ k, k < 64 → ((nI k).toInt64 &&& 63) = lN k := by decide +kernel
theorem wb_cu : ∀ k, k < 64 → ((nI k).toInt64.toUInt64 &&& Int64.toUInt64 63) = UInt64.ofNat k := by decide +kernel
theorem wb_sm : ∀ k, k < 64 → (BitVec.ofNat 64 k).smod 64 = BitVec.ofNat 64 k := by decide +kernel
theorem wb_pw {a b : Nat} (h : a ≤ b) : 2 ^ b = 2 ^ a * 2 ^ (b - a) := by rw [← Nat.pow_add]; congr 1; omega
theorem wb_lt2 {a b : Nat} (h : a < b) : 2 ^ a < 2 ^ b := Nat.pow_lt_pow_right (by decide) h
theorem wb_mod (n : Nat) : lN n = lN (n % 2 ^ 64) := wb_inj (by rw [wb_tb, wb_tb]; apply BitVec.eq_of_toNat_eq; rw [BitVec.toNat_ofNat, BitVec.toNat_ofNat, Nat.mod_mod])
theorem wb_shr {n k : Nat} (hn : n < 2 ^ 64) (hk : k < 64) : ((lN n).toUInt64 >>> ((nI k).toInt64.toUInt64 &&& Int64.toUInt64 63)).toInt64 = lN (n / 2 ^ k) := by
  rw [wb_cu k hk]
  apply wb_inj
  apply BitVec.eq_of_toNat_eq
  show ((lN n).toUInt64 >>> UInt64.ofNat k).toNat = (BitVec.ofNat 64 _).toNat
  have h1 : (UInt64.ofNat k).toNat = k := by
    show (BitVec.ofNat 64 k).toNat = k
    rw [BitVec.toNat_ofNat, Nat.mod_eq_of_lt (by omega)]
  have h2 : (lN n).toUInt64.toNat = n := wb_tn hn
  rw [UInt64.toNat_shiftRight, h1, h2, Nat.mod_eq_of_lt hk, Nat.shiftRight_eq_div_pow, BitVec.toNat_ofNat, Nat.mod_eq_of_lt (Nat.lt_of_le_of_lt (Nat.div_le_self _ _) hn)]
theorem wb_shl (n : Nat) {k : Nat} (hk : k < 64) : lN n <<< ((nI k).toInt64 &&& 63) = lN (n * 2 ^ k) := by
  rw [wb_c k hk]
  apply wb_inj
  rw [Int64.toBitVec_shiftLeft, wb_tb, wb_tb, wb_tb, wb_sm k hk]
  apply BitVec.eq_of_toNat_eq
  rw [BitVec.shiftLeft_eq', BitVec.toNat_shiftLeft, BitVec.toNat_ofNat, BitVec.toNat_ofNat, BitVec.toNat_ofNat, Nat.mod_eq_of_lt (show k < 2 ^ 64 by omega), Nat.shiftLeft_eq, Nat.mul_mod, Nat.mod_mod, ← Nat.mul_mod]
theorem wb_and {a b : Nat} (ha : a < 2 ^ 64) (hb : b < 2 ^ 64) : lN a &&& lN b = lN (a &&& b) := by
  apply wb_inj
  rw [Int64.toBitVec_and, wb_tb, wb_tb, wb_tb]
  apply BitVec.eq_of_toNat_eq
  rw [BitVec.toNat_and, BitVec.toNat_ofNat, BitVec.toNat_ofNat, BitVec.toNat_ofNat, Nat.mod_eq_of_lt ha, Nat.mod_eq_of_lt hb, Nat.mod_eq_of_lt (Nat.and_lt_two_pow _ hb)]
theorem wb_or {a b : Nat} (ha : a < 2 ^ 64) (hb : b < 2 ^ 64) : lN a ||| lN b = lN (a ||| b) := by
  apply wb_inj
  rw [Int64.toBitVec_or, wb_tb, wb_tb, wb_tb]
  apply BitVec.eq_of_toNat_eq
  rw [BitVec.toNat_or, BitVec.toNat_ofNat, BitVec.toNat_ofNat, BitVec.toNat_ofNat, Nat.mod_eq_of_lt ha, Nat.mod_eq_of_lt hb, Nat.mod_eq_of_lt (Nat.or_lt_two_pow ha hb)]
theorem wb_mask {n k : Nat} (hn : n < 2 ^ 64) (hk : k < 64) : lN n &&& lN (2 ^ k - 1) = lN (n % 2 ^ k) := by
  rw [wb_and hn (by have := wb_lt2 hk; omega), Nat.and_two_pow_sub_one_eq_mod]
theorem wb_a1 {n : Nat} (hn : n < 2 ^ 64) : lN n &&& 1 = lN (n % 2) := wb_mask (k := 1) hn (by decide)
theorem wb_bit {n k : Nat} (hn : n < 2 ^ 64) (hk : k < 64) : ((lN n).toUInt64 >>> ((nI k).toInt64.toUInt64 &&& Int64.toUInt64 63)).toInt64 &&& 1 = lN (n / 2 ^ k % 2) := by
  rw [wb_shr hn hk, wb_a1 (Nat.lt_of_le_of_lt (Nat.div_le_self _ _) hn)]
theorem wb_xor {q k : Nat} (hk : k < 63) (h : 2 ^ k ≤ q) (h2 : q < 2 ^ (k + 1)) : lN q ^^^ lN (2 ^ k) = lN (q - 2 ^ k) := by
  obtain ⟨r, rfl⟩ : ∃ r, q = 2 ^ k + r := ⟨q - 2 ^ k, by omega⟩
  have hr : r < 2 ^ k := by rw [Nat.pow_succ] at h2; omega
  have hx : (2 ^ k + r) ^^^ 2 ^ k = r := by
    apply Nat.eq_of_testBit_eq
    intro i
    rw [Nat.testBit_xor, Nat.testBit_two_pow]
    rcases Nat.lt_trichotomy i k with h | h | h
    · rw [Nat.testBit_two_pow_add_gt h]
      simp [show ¬ k = i by omega]
    · subst h
      rw [Nat.testBit_two_pow_add_eq]
      simp
    · have a1 : 2 ^ (k + 1) ≤ 2 ^ i := Nat.pow_le_pow_right (by decide) h
      rw [Nat.testBit_lt_two_pow (show 2 ^ k + r < 2 ^ i by omega), Nat.testBit_lt_two_pow (show r < 2 ^ i by omega)]
      simp [show ¬ k = i by omega]
  have b1 := wb_lt2 (show k + 1 < 64 by omega)
  have b2 := wb_lt2 (show k < 64 by omega)
  apply wb_inj
  rw [Int64.toBitVec_xor, wb_tb, wb_tb, wb_tb]
  apply BitVec.eq_of_toNat_eq
  rw [BitVec.toNat_xor, BitVec.toNat_ofNat, BitVec.toNat_ofNat, BitVec.toNat_ofNat, Nat.mod_eq_of_lt (by omega : 2 ^ k + r < 2 ^ 64), Nat.mod_eq_of_lt b2, hx, Nat.add_sub_cancel_left, Nat.mod_eq_of_lt (by omega)]
-- Int32 by numbers
theorem nq_sl : ∀ n, n < 32 → ((nI n &&& 31).toBitVec.smod 32).toNat = n := by decide +kernel
theorem nq_tb (n : Nat) : (nI n).toBitVec = BitVec.ofNat 32 n := rfl
theorem nq_inj {a b : Int32} (h : a.toBitVec = b.toBitVec) : a = b := Int32.toBitVec_inj.mp h
theorem nq_and {a b : Nat} (ha : a < 2 ^ 32) (hb : b < 2 ^ 32) : nI a &&& nI b = nI (a &&& b) := by
  apply nq_inj
  rw [Int32.toBitVec_and, nq_tb, nq_tb, nq_tb]
  apply BitVec.eq_of_toNat_eq
  rw [BitVec.toNat_and, BitVec.toNat_ofNat, BitVec.toNat_ofNat, BitVec.toNat_ofNat, Nat.mod_eq_of_lt ha, Nat.mod_eq_of_lt hb, Nat.mod_eq_of_lt (Nat.and_lt_two_pow _ hb)]
theorem nq_or {a b : Nat} (ha : a < 2 ^ 32) (hb : b < 2 ^ 32) : nI a ||| nI b = nI (a ||| b) := by
  apply nq_inj
  rw [Int32.toBitVec_or, nq_tb, nq_tb, nq_tb]
  apply BitVec.eq_of_toNat_eq
  rw [BitVec.toNat_or, BitVec.toNat_ofNat, BitVec.toNat_ofNat, BitVec.toNat_ofNat, Nat.mod_eq_of_lt ha, Nat.mod_eq_of_lt hb, Nat.mod_eq_of_lt (Nat.or_lt_two_pow ha hb)]
theorem nq_shl {a k : Nat} (hk : k < 32) (h : a * 2 ^ k < 2 ^ 32) : nI a <<< (nI k &&& 31) = nI (a * 2 ^ k) := pk_shlN _ k (nq_sl k hk) h
theorem nq_shr {a k : Nat} (hk : k < 32) (h : a < 2 ^ 31) : nI a >>> (nI k &&& 31) = nI (a / 2 ^ k) := pk_shrN h _ k (nq_sl k hk)
theorem nq_one {k : Nat} (hk : k < 31) : (1 : Int32) <<< (nI k &&& 31) = nI (2 ^ k) := by
  have h := nq_shl (a := 1) (k := k) (by omega) (by have := Nat.pow_lt_pow_right (a := 2) (by decide) (show k < 32 by omega); omega)
  rw [Nat.one_mul] at h
  exact h
theorem nq_bit {a k : Nat} (hk : k < 32) (h : a < 2 ^ 31) : (nI a >>> (nI k &&& 31)) &&& 1 = nI (a / 2 ^ k % 2) := by
  rw [nq_shr hk h]
  have := pk_andN (n := a / 2 ^ k) (Nat.lt_of_le_of_lt (Nat.div_le_self _ _) (by omega)) (m := 1) 1 (by decide)
  exact this
theorem nq_tst (a k : Nat) : a / 2 ^ k % 2 = if a.testBit k then 1 else 0 := by
  rw [Nat.testBit_eq_decide_div_mod_eq]
  have : a / 2 ^ k % 2 < 2 := Nat.mod_lt _ (by decide)
  by_cases h : a / 2 ^ k % 2 = 1
  · simp [h]
  · simp [h]; omega
theorem nq_bit1 {a k : Nat} (hk : k < 32) (h : a < 2 ^ 31) : ((nI a >>> (nI k &&& 31)) &&& 1 = 1) ↔ a.testBit k = true := by
  rw [nq_bit hk h, nq_tst]
  by_cases hb : a.testBit k = true
  · simp [hb]; rfl
  · simp [hb]; decide
theorem nq_bit0 {a k : Nat} (hk : k < 32) (h : a < 2 ^ 31) : ((nI a >>> (nI k &&& 31)) &&& 1 = 0) ↔ a.testBit k = false := by
  rw [nq_bit hk h, nq_tst]
  by_cases hb : a.testBit k = true
  · simp [hb]; decide
  · simp [hb]; rfl
-- heaps
theorem mn_up_get (h : mn_H) (a k : Nat) (x : Int32) (b j : Nat) : mn_up h a k x b j = if b = a ∧ j = k then x else h b j := by
  unfold mn_up upd
  by_cases hb : b = a
  · subst hb
    by_cases hj : j = k <;> simp [hj]
  · simp [hb]
theorem mn_set_get2 (h : mn_H) (a : Nat) (f : Nat → Int32) (b j : Nat) : mn_set h a f b j = if b = a then f j else h b j := by
  unfold mn_set
  by_cases hb : b = a <;> simp [hb]
theorem mn_set_row (h : mn_H) (a : Nat) (f : Nat → Int32) (b : Nat) : mn_set h a f b = if b = a then f else h b := rfl
theorem mn_up_row (h : mn_H) (a k : Nat) (x : Int32) {b : Nat} (hb : b ≠ a) : mn_up h a k x b = h b := by simp [mn_up, hb]
-- a counted loop
def mn_it {σ : Type} (g : Nat → σ → σ) : Nat → Nat → σ → σ
  | 0, _, s => s
  | k + 1, i, s => mn_it g k (i + 1) (g i s)
theorem mn_it_succ {σ : Type} (g : Nat → σ → σ) : ∀ (k i : Nat) (s : σ), mn_it g (k + 1) i s = g (i + k) (mn_it g k i s) := by
  intro k
  induction k with
  | zero => intro i s; rfl
  | succ k ih => intro i s; rw [mn_it, ih]; rw [show i + 1 + k = i + (k + 1) by omega]; rfl
theorem mn_it_cong {σ : Type} {g g' : Nat → σ → σ} : ∀ (k i : Nat) (s : σ), (∀ j s, i ≤ j → j < i + k → g j s = g' j s) → mn_it g k i s = mn_it g' k i s := by
  intro k
  induction k with
  | zero => intro i s h; rfl
  | succ k ih =>
    intro i s h
    rw [mn_it, mn_it, h i s (Nat.le_refl _) (by omega)]
    exact ih _ _ (fun j s h1 h2 => h j s (by omega) (by omega))
theorem mn_it_inv {σ : Type} {g : Nat → σ → σ} (I : Nat → σ → Prop) : ∀ (k i : Nat) (s : σ), (∀ j s, i ≤ j → j < i + k → I j s → I (j + 1) (g j s)) → I i s → I (i + k) (mn_it g k i s) := by
  intro k
  induction k with
  | zero => intro i s _ h; exact h
  | succ k ih =>
    intro i s hs h
    rw [mn_it, show i + (k + 1) = i + 1 + k by omega]
    exact ih (i + 1) (g i s) (fun j s h1 h2 => hs j s (by omega) (by omega)) (hs i s (Nat.le_refl _) (by omega) h)
/-- E i s: the machine at the loop's head; what it does is what the fold does -/
theorem mn_for {σ : Type} (E : Nat → σ → Prop) (g : Nat → σ → σ) (n : Nat) (I : Nat → σ → Prop) (hs : ∀ i s, i < n → I i s → (E i s ↔ E (i + 1) (g i s)) ∧ I (i + 1) (g i s)) : ∀ k i s, i + k = n → I i s → (E i s ↔ E n (mn_it g k i s)) := by
  intro k
  induction k with
  | zero => intro i s h _; rw [show i = n by omega]; rfl
  | succ k ih =>
    intro i s h hI
    obtain ⟨h1, h2⟩ := hs i s (by omega) hI
    rw [h1, mn_it]
    exact ih _ _ (by omega) h2
theorem mn_for0 {σ : Type} (E : Nat → σ → Prop) (g : Nat → σ → σ) (n : Nat) (hs : ∀ i s, i < n → (E i s ↔ E (i + 1) (g i s))) (s : σ) : E 0 s ↔ E n (mn_it g n 0 s) :=
  mn_for E g n (fun _ _ => True) (fun i s h _ => ⟨hs i s h, trivial⟩) n 0 s (by omega) trivial
/-- a sum of whole numbers -/
def mn_sum (f : Nat → Int32) : Nat → Int32
  | 0 => 0
  | n + 1 => mn_sum f n + f n
theorem mn_it_sum (f : Nat → Int32) (n : Nat) (s : Int32) : mn_it (fun i a => a + f i) n 0 s = s + mn_sum f n := by
  induction n with
  | zero => simp [mn_it, mn_sum]
  | succ n ih => rw [mn_it_succ, ih, mn_sum, Nat.zero_add, Int32.add_assoc]
/-- a set put together bit by bit -/
def mn_bits (p : Nat → Bool) : Nat → Nat
  | 0 => 0
  | n + 1 => mn_bits p n + (if p n then 2 ^ n else 0)
theorem mn_bits_lt (p : Nat → Bool) (n : Nat) : mn_bits p n < 2 ^ n := by
  induction n with
  | zero => simp [mn_bits]
  | succ n ih =>
    unfold mn_bits
    rw [Nat.pow_succ]
    by_cases h : p n = true
    · rw [if_pos h]; omega
    · rw [if_neg h]; omega
theorem mn_bits_test (p : Nat → Bool) (n k : Nat) : (mn_bits p n).testBit k = (decide (k < n) && p k) := by
  induction n with
  | zero => simp [mn_bits]
  | succ n ih =>
    unfold mn_bits
    by_cases h : p n = true
    · rw [if_pos h, Nat.add_comm]
      rcases Nat.lt_trichotomy k n with h1 | h1 | h1
      · rw [Nat.testBit_two_pow_add_gt h1, ih]; simp [h1, Nat.lt_succ_of_lt h1]
      · subst h1
        rw [Nat.testBit_two_pow_add_eq, Nat.testBit_lt_two_pow (mn_bits_lt p k)]; simp [h]
      · have b := mn_bits_lt p n
        have a1 : 2 ^ (n + 1) ≤ 2 ^ k := Nat.pow_le_pow_right (by decide) h1
        rw [Nat.pow_succ] at a1
        rw [Nat.testBit_lt_two_pow (show 2 ^ n + mn_bits p n < 2 ^ k by omega)]
        simp [show ¬ k < n + 1 by omega]
    · rw [if_neg h, Nat.add_zero, ih]
      rcases Nat.lt_trichotomy k n with h1 | h1 | h1
      · simp [h1, Nat.lt_succ_of_lt h1]
      · subst h1; simp [h]
      · simp [show ¬ k < n + 1 by omega, show ¬ k < n by omega]
theorem mn_bits_or (p : Nat → Bool) (n : Nat) : mn_bits p (n + 1) = mn_bits p n ||| (if p n then 2 ^ n else 0) := by
  apply Nat.eq_of_testBit_eq
  intro k
  rw [Nat.testBit_or, mn_bits_test, mn_bits_test]
  by_cases h : p n = true
  · rw [if_pos h, Nat.testBit_two_pow]
    by_cases hk : k = n
    · subst hk; simp [h]
    · have e1 : decide (n = k) = false := by simp; omega
      rw [e1, Bool.or_false]
      have e2 : decide (k < n + 1) = decide (k < n) := by simp; omega
      rw [e2]
  · rw [if_neg h, Nat.zero_testBit, Bool.or_false]
    by_cases hk : k = n
    · subst hk; simp [h]
    · have e2 : decide (k < n + 1) = decide (k < n) := by simp; omega
      rw [e2]
