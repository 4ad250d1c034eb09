theorem mn_pop_s1 (m d : Nat) : mn_pop m (d + 1) = mn_pop m d + (if m.testBit d then 1 else 0) := rfl
theorem mn_pop_mono (m : Nat) {a b : Nat} (h : a ≤ b) : mn_pop m a ≤ mn_pop m b := by
  induction b with
  | zero => rw [show a = 0 by omega]; exact Nat.le_refl _
  | succ b ih =>
    rcases Nat.lt_or_ge a (b + 1) with h1 | h1
    · rw [mn_pop_s1]; exact Nat.le_trans (ih (by omega)) (Nat.le_add_right _ _)
    · rw [show a = b + 1 by omega]; exact Nat.le_refl _
theorem mn_lbit {m d : Nat} (hm : m < 2 ^ 64) (hd : d < 64) : (lg_cmp (((lN m).toUInt64 >>> ((nI d).toInt64.toUInt64 &&& Int64.toUInt64 63)).toInt64 &&& 1) 1 = 0) ↔ m.testBit d = true := by
  rw [lgc0, wb_bit hm hd, nq_tst]
  by_cases h : m.testBit d = true
  · simp [h]; rfl
  · simp [h]; decide
section MASK
variable {h : mn_H} {t : Nat} {T : TW}
theorem x_dayAt_some {m k d : Nat} (hm : m < 2 ^ 64) (hd : d < 64) (hb : m.testBit d = true) (hk : mn_pop m d = k) : mn_X 111 [.long (lN m), .int (nI k)] h (some (.int (nI d))) h := by
  rw [e_X7_dayAt, b_X7_dayAt_0]
  refine mn_loopb (n := d) (fun i => mn_E 111 5 [.long (lN m), .null, .int (nI k), .int (nI (mn_pop m i)), .int (nI i)] [] h (some (.int (nI d))) h) ?_ ?_ (Nat.zero_le _)
  · rw [b_X7_dayAt_5, if_neg (show ¬ (64 : Int32) ≤ nI d from nI_ge (b := 64) hd (by decide)), b_X7_dayAt_12, if_neg (fun z => z ((mn_lbit hm hd).mpr hb)), b_X7_dayAt_23, if_neg (fun z => z (by rw [hk])), b_X7_dayAt_28]
    exact ⟨rfl, rfl⟩
  · intro i hi H
    have pl := mn_pop_mono m (show i + 1 ≤ d by omega)
    have pl2 := mn_pop_le m d
    rw [b_X7_dayAt_5, if_neg (show ¬ (64 : Int32) ≤ nI i from nI_ge (b := 64) (by omega) (by decide)), b_X7_dayAt_12]
    rw [mn_pop_s1] at pl H
    by_cases o : m.testBit i = true
    · rw [if_pos o] at pl H
      rw [if_neg (fun z => z ((mn_lbit hm (by omega)).mpr o)), b_X7_dayAt_23, if_pos (fun z => by have := (nI_eq (by omega) (by omega)).mp z; omega), b_X7_dayAt_31, b_X7_dayAt_34, nI_1, nI_1]
      exact H
    · rw [if_neg o] at H
      rw [if_pos (fun z => o ((mn_lbit hm (by omega)).mp z)), b_X7_dayAt_34, nI_1]
      exact H
theorem x_dayAt_none {m : Nat} {x : Int32} (hm : m < 2 ^ 64) (hx : ∀ d, d < 64 → m.testBit d = true → ¬ nI (mn_pop m d) = x) : mn_X 111 [.long (lN m), .int x] h (some (.int (-1))) h := by
  rw [e_X7_dayAt, b_X7_dayAt_0]
  refine mn_loopb (n := 64) (fun i => mn_E 111 5 [.long (lN m), .null, .int x, .int (nI (mn_pop m i)), .int (nI i)] [] h (some (.int (-1))) h) ?_ ?_ (Nat.zero_le _)
  · rw [b_X7_dayAt_5, if_pos (show (64 : Int32) ≤ nI 64 from by decide), b_X7_dayAt_40]
    exact ⟨rfl, rfl⟩
  · intro i hi H
    rw [b_X7_dayAt_5, if_neg (show ¬ (64 : Int32) ≤ nI i from nI_ge (b := 64) (by omega) (by decide)), b_X7_dayAt_12]
    rw [mn_pop_s1] at H
    by_cases o : m.testBit i = true
    · rw [if_pos o] at H
      rw [if_neg (fun z => z ((mn_lbit hm (by omega)).mpr o)), b_X7_dayAt_23, if_pos (hx i hi o), b_X7_dayAt_31, b_X7_dayAt_34, nI_1, nI_1]
      exact H
    · rw [if_neg o] at H
      rw [if_pos (fun z => o ((mn_lbit hm (by omega)).mp z)), b_X7_dayAt_34, nI_1]
      exact H
/-- on how many of the days a happening comes -/
def dwN (k : Nat) : Nat := mn_bits (fun d => d.testBit k) 64
theorem mn_dwN : ∀ k, k < 6 → mn_dw k = lN (dwN k) := by decide +kernel
def tcN (m k : Nat) : Nat := mn_nsum (fun d => if m.testBit d && d.testBit k then 1 else 0) 64
theorem tcN_pop (m k : Nat) : mn_pop (m &&& dwN k) 64 = tcN m k := by
  unfold mn_pop tcN
  refine mn_nsum_cong 64 (fun d hd => ?_)
  unfold dwN
  rw [Nat.testBit_and, mn_bits_test]
  simp [hd]
theorem tcN_le (m k : Nat) : tcN m k ≤ 64 := by rw [← tcN_pop]; exact mn_pop_le _ _
theorem x_timesComing {m k : Nat} (hm : m < 2 ^ 64) (hk : k < 6) : mn_X 108 [.long (lN m), .int (nI k)] h (some (.int (nI (tcN m k)))) h := by
  have dl : dwN k < 2 ^ 64 := mn_bits_lt _ _
  rw [e_X7_timesComing, b_X7_timesComing_0 (vp_in_nI hk (by decide)), nI_clamp (by omega), mn_dwN k hk, wb_and hm dl, mn_cl_i (x_lbitCount (Nat.and_lt_two_pow _ dl)), b_X7_timesComing_10, tcN_pop]
  exact ⟨rfl, rfl⟩
def alN (m k : Nat) : Bool := (List.range 64).all (fun d => !m.testBit d || d.testBit k)
def onAN (m : Nat) : Nat := mn_bits (alN m) 6
def onNN (m : Nat) : Nat := mn_bits (fun k => decide (tcN m k = 0)) 6
theorem lN_xor2 (a b : Nat) : lN a ^^^ lN b = lN (a ^^^ b) := by
  apply wb_inj
  rw [Int64.toBitVec_xor, wb_tb, wb_tb, wb_tb]
  apply BitVec.eq_of_toNat_eq
  rw [BitVec.toNat_xor, BitVec.toNat_ofNat, BitVec.toNat_ofNat, BitVec.toNat_ofNat, Nat.xor_mod_two_pow]
theorem mn_all0 {m k : Nat} (hm : m < 2 ^ 64) (hk : k < 6) : (lg_cmp (lN m &&& (mn_dw k ^^^ (-1))) 0 = 0) ↔ alN m k = true := by
  have dl : dwN k < 2 ^ 64 := mn_bits_lt _ _
  have xl : dwN k ^^^ (2 ^ 64 - 1) < 2 ^ 64 := Nat.xor_lt_two_pow dl (by decide)
  rw [lgc0, mn_dwN k hk, show (-1 : Int64) = lN (2 ^ 64 - 1) from by decide, lN_xor2, wb_and hm xl]
  have al : m &&& (dwN k ^^^ (2 ^ 64 - 1)) < 2 ^ 64 := Nat.and_lt_two_pow _ xl
  have e0 : (lN (m &&& (dwN k ^^^ (2 ^ 64 - 1))) = 0) ↔ m &&& (dwN k ^^^ (2 ^ 64 - 1)) = 0 := by
    constructor
    · intro e
      have : (lN (m &&& (dwN k ^^^ (2 ^ 64 - 1)))).toBitVec.toNat = (0 : Int64).toBitVec.toNat := by rw [e]
      rw [wb_tn al] at this
      exact this
    · intro e; rw [e]; rfl
  rw [e0]
  unfold alN
  rw [List.all_eq_true]
  have tb : ∀ d, (m &&& (dwN k ^^^ (2 ^ 64 - 1))).testBit d = (m.testBit d && ((decide (d < 64) && d.testBit k) ^^ decide (d < 64))) := by
    intro d
    unfold dwN
    rw [Nat.testBit_and, Nat.testBit_xor, mn_bits_test, Nat.testBit_two_pow_sub_one]
  constructor
  · intro e d hd
    have h64 := List.mem_range.mp hd
    have := tb d
    rw [e, Nat.zero_testBit, decide_eq_true h64] at this
    clear tb e0 e
    generalize m.testBit d = A at this ⊢
    generalize d.testBit k = B at this ⊢
    cases A <;> cases B <;> simp at this ⊢
  · intro H
    apply Nat.eq_of_testBit_eq
    intro d
    rw [tb d, Nat.zero_testBit]
    by_cases h64 : d < 64
    · have := H d (List.mem_range.mpr h64)
      rw [decide_eq_true h64]
      clear tb e0 H
      generalize m.testBit d = A at this ⊢
      generalize d.testBit k = B at this ⊢
      cases A <;> cases B <;> simp at this ⊢
    · simp [h64]
theorem x_onAll {m : Nat} (hm : m < 2 ^ 64) : mn_X 109 [.long (lN m)] h (some (.int (nI (onAN m)))) h := by
  rw [e_X7_onAll, b_X7_onAll_0]
  refine mn_loopb (n := 6) (fun i => mn_E 109 4 [.long (lN m), .null, .int (nI (mn_bits (alN m) i)), .int (nI i)] [] h (some (.int (nI (onAN m)))) h) ?_ ?_ (Nat.zero_le _)
  · rw [b_X7_onAll_4, if_pos (show (6 : Int32) ≤ nI 6 from by decide), b_X7_onAll_38]
    exact ⟨rfl, rfl⟩
  · intro i hi H
    have lt := mn_bits_lt (alN m) i
    have p1 : 2 ^ i ≤ 2 ^ 5 := Nat.pow_le_pow_right (by decide) (by omega)
    rw [b_X7_onAll_4, if_neg (show ¬ (6 : Int32) ≤ nI i from nI_ge (b := 6) hi (by decide)), b_X7_onAll_10 (vp_in_nI hi (by decide)), nI_clamp (by omega)]
    rw [mn_bits_or] at H
    by_cases o : alN m i = true
    · rw [if_pos o] at H
      rw [if_neg (fun z => z ((mn_all0 hm hi).mpr o)), b_X7_onAll_26, b_X7_onAll_32, nI_1, nq_one (by omega), nq_or (by omega) (by omega)]
      exact H
    · rw [if_neg o, Nat.or_zero] at H
      rw [if_pos (fun z => o ((mn_all0 hm hi).mp z)), b_X7_onAll_32, nI_1]
      exact H
theorem x_onNone {m : Nat} (hm : m < 2 ^ 64) : mn_X 110 [.long (lN m)] h (some (.int (nI (onNN m)))) h := by
  rw [e_X7_onNone, b_X7_onNone_0]
  refine mn_loopb (n := 6) (fun i => mn_E 110 4 [.long (lN m), .null, .int (nI (mn_bits (fun k => decide (tcN m k = 0)) i)), .int (nI i)] [] h (some (.int (nI (onNN m)))) h) ?_ ?_ (Nat.zero_le _)
  · rw [b_X7_onNone_4, if_pos (show (6 : Int32) ≤ nI 6 from by decide), b_X7_onNone_30]
    exact ⟨rfl, rfl⟩
  · intro i hi H
    have lt := mn_bits_lt (fun k => decide (tcN m k = 0)) i
    have p1 : 2 ^ i ≤ 2 ^ 5 := Nat.pow_le_pow_right (by decide) (by omega)
    have tl := tcN_le m i
    rw [b_X7_onNone_4, if_neg (show ¬ (6 : Int32) ≤ nI i from nI_ge (b := 6) hi (by decide)), b_X7_onNone_10, mn_cl_i (x_timesComing hm hi), b_X7_onNone_15]
    rw [mn_bits_or] at H
    by_cases o : tcN m i = 0
    · rw [if_pos (decide_eq_true o)] at H
      rw [if_neg (fun z => z (by rw [o]; rfl)), b_X7_onNone_18, b_X7_onNone_24, nI_1, nq_one (by omega), nq_or (by omega) (by omega)]
      exact H
    · rw [if_neg (by simpa using o), Nat.or_zero] at H
      rw [if_pos (show ¬ nI (tcN m i) = 0 from nI_ne0 (by omega) (by omega)), b_X7_onNone_24, nI_1]
      exact H
/-- the greatest harm among days, from a least one on -/
def ghN (T : TW) (m : Nat) : Nat → Int32
  | 0 => (-300)
  | d + 1 => if m.testBit d then (if ghN T m d < harmN T d then harmN T d else ghN T m d) else ghN T m d
theorem x_greatestHarm (ht : mn_isT t) (hc : CT h t T) {m : Nat} (hm : m < 2 ^ 64) : mn_X 56 [.ref t, .long (lN m)] h (some (.int (ghN T m 64))) h := by
  rw [e_X5_greatestHarm, b_X5_greatestHarm_0 ht]
  refine mn_loopb (n := 64) (fun i => mn_E 56 7 [.ref t, .long (lN m), .null, .int (ghN T m i), .int (nI i)] [] h (some (.int (ghN T m 64))) h) ?_ ?_ (Nat.zero_le _)
  · rw [b_X5_greatestHarm_7 ht, if_pos (show (64 : Int32) ≤ nI 64 from by decide), b_X5_greatestHarm_42 ht]
    exact ⟨rfl, rfl⟩
  · intro i hi H
    rw [b_X5_greatestHarm_7 ht, if_neg (show ¬ (64 : Int32) ≤ nI i from nI_ge (b := 64) (by omega) (by decide)), b_X5_greatestHarm_14 ht]
    rw [ghN] at H
    by_cases o : m.testBit i = true
    · rw [if_pos o] at H
      rw [if_neg (fun z => z ((mn_lbit hm (by omega)).mpr o)), b_X5_greatestHarm_25 ht, mn_cl_i (x_X5_harmOf ht hc (by omega)), b_X5_greatestHarm_32 ht, b_X5_greatestHarm_36 ht, nI_1]
      exact H
    · rw [if_neg o] at H
      rw [if_pos (fun z => o ((mn_lbit hm (by omega)).mp z)), b_X5_greatestHarm_36 ht, nI_1]
      exact H
end MASK
