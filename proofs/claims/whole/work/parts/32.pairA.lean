theorem i10 : ((1 : Int32) = 0) = False := by simp
theorem i00 : ((0 : Int32) = 0) = True := by simp
theorem i01 : ((0 : Int32) = 1) = False := by simp
theorem i11 : ((1 : Int32) = 1) = True := by simp
section PQ
variable {h : mn_H} {T : TW} {S : Nat → Nat} {n df my sd : Nat}
theorem x_isChoice (x : Int32) : mn_X 101 [.int x] h (some (.int (mz (decide (x = 0) || decide (x = 1))))) h := by
  by_cases h1 : x = 0
  · subst h1; simp only [e_X7_isChoice, b_X7_isChoice_0, b_X7_isChoice_4, b_X7_isChoice_9, b_X7_isChoice_13, b_X7_isChoice_14, i10, i00, i01, i11, not_true_eq_false, not_false_eq_true, if_true, if_false, true_or, or_true, true_and, and_true]; rfl
  · by_cases h2 : x = 1
    · subst h2; simp only [e_X7_isChoice, b_X7_isChoice_0, b_X7_isChoice_4, b_X7_isChoice_9, b_X7_isChoice_13, b_X7_isChoice_14, i10, i00, i01, i11, not_true_eq_false, not_false_eq_true, if_true, if_false, true_or, or_true, true_and, and_true]; rfl
    · simp only [e_X7_isChoice, b_X7_isChoice_0, b_X7_isChoice_4, b_X7_isChoice_9, b_X7_isChoice_13, b_X7_isChoice_14, i10, i00, i01, i11, not_true_eq_false, not_false_eq_true, if_true, if_false, true_or, or_true, true_and, and_true, h1, h2]; rfl
theorem x_mDay_in {d : Nat} (hd : d < 64) : mn_X 117 [.int (nI d)] h (some (.int 1)) h := by
  simp only [e_X8_isDay, b_X8_isDay_0, b_X8_isDay_7, i10, i00, i01, i11, not_true_eq_false, not_false_eq_true, if_true, if_false, true_or, or_true, true_and, and_true, mn_cl_i (show mn_X 114 [.int (nI d), .int 0, .int 63] h (some (.int 1)) h from x_in_in (a := 0) (b := 63) (Nat.zero_le d) (show d ≤ 63 by omega) (by decide))]
theorem lt63 {x : Int32} (hx : x < 0 ∨ nI 64 ≤ x) : x < 0 ∨ 63 < x := by
  rcases hx with a | a
  · exact Or.inl a
  · right
    rw [Int32.le_iff_toInt_le] at a; rw [Int32.lt_iff_toInt_lt]
    have e : (nI 64).toInt = 64 := by decide
    have e2 : (63 : Int32).toInt = 63 := by decide
    omega
theorem x_mDay_out {x : Int32} (hx : x < 0 ∨ nI 64 ≤ x) : mn_X 117 [.int x] h (some (.int 0)) h := by
  simp only [e_X8_isDay, b_X8_isDay_0, b_X8_isDay_7, i10, i00, i01, i11, not_true_eq_false, not_false_eq_true, if_true, if_false, true_or, or_true, true_and, and_true, mn_cl_i (x_in_out (a := 0) (b := 63) (lt63 hx))]
theorem RN.hT (r : RN h T S n df my sd) : mn_isT (mn_hr h) := r.1.2.1
theorem RN.tw (r : RN h T S n df my sd) : TWF T := r.1.2.2.1
theorem RN.ct (r : RN h T S n df my sd) : CT h (mn_hr h) T := r.1.2.2.2.1
theorem RN.n60 (r : RN h T S n df my sd) : n ≤ 60 := r.1.2.2.2.2.2.2.1
theorem RN.s64 (r : RN h T S n df my sd) : ∀ k, k ≤ n → S k < 64 := r.1.2.2.2.2.2.2.2.2.1
theorem RN.df64 (r : RN h T S n df my sd) : df < 64 := r.1.2.2.2.2.2.2.2.2.2.2.1
theorem RN.my64 (r : RN h T S n df my sd) : my < 64 := r.1.2.2.2.2.2.2.2.2.2.2.2.2
theorem RN.mt (r : RN h T S n df my sd) : MT h T := r.2.1.1
/-- a range that ends before n -/
theorem in_pred {x : Int32} {n : Nat} (hn : n < 2 ^ 31) (hx : x < 0 ∨ nI n ≤ x) : x < 0 ∨ nI n - 1 < x := by
  rcases hx with a | a
  · exact Or.inl a
  · right
    rw [Int32.le_iff_toInt_le] at a; rw [Int32.lt_iff_toInt_lt]
    have e : (nI n).toInt = n := nI_toInt hn
    have e2 : (nI n - 1).toInt = (n : Int) - 1 := by
      cases n with
      | zero => decide
      | succ m => rw [nI_pred, nI_toInt (by omega)]; omega
    omega
theorem x_in_rng {x : Int32} {n : Nat} (hn : n < 2 ^ 31) : mn_X 114 [.int x, .int 0, .int (nI n - 1)] h (some (.int (mz (decide (¬ x < 0) && decide (¬ nI n ≤ x))))) h := by
  rcases mn_rng x n hn with ⟨j, hj, rfl⟩ | q
  · rw [in_true hj hn]
    obtain ⟨m, rfl⟩ : ∃ m, n = m + 1 := ⟨n - 1, by omega⟩
    rw [nI_pred]
    exact x_in_in (a := 0) (Nat.zero_le _) (by omega) (by omega)
  · rw [in_false q]
    exact x_in_out (in_pred hn q)
theorem x_cBell (r : RN h T S n df my sd) (x : Int32) : mn_X 96 [.ref 0, .int x] h (some (.int (mz (decide (¬ x < 0) && decide (¬ nI (T 0 0) ≤ x))))) h := by
  have hT := r.hT
  by_cases a : x < 0 <;> by_cases b : nI (T 0 0) ≤ x <;> simp only [e_X7_isBell, b_X7_isBell_0, b_X7_isBell_4, b_X7_isBell_15, b_X7_isBell_19, b_X7_isBell_20, i10, i00, i01, i11, not_true_eq_false, not_false_eq_true, if_true, if_false, true_or, or_true, true_and, and_true, a, b, hT, r.ct.1.1] <;> simp [mz, a, b]
theorem x_cGroup (r : RN h T S n df my sd) (x : Int32) : mn_X 97 [.ref 0, .int x] h (some (.int (mz (decide (¬ x < 0) && decide (¬ nI (T 0 1) ≤ x))))) h := by
  have hT := r.hT
  by_cases a : x < 0 <;> by_cases b : nI (T 0 1) ≤ x <;> simp only [e_X7_isGroup, b_X7_isGroup_0, b_X7_isGroup_4, b_X7_isGroup_15, b_X7_isGroup_19, b_X7_isGroup_20, i10, i00, i01, i11, not_true_eq_false, not_false_eq_true, if_true, if_false, true_or, or_true, true_and, and_true, a, b, hT, r.ct.1.2.1] <;> simp [mz, a, b]
theorem x_cRing (r : RN h T S n df my sd) (x : Int32) : mn_X 98 [.ref 0, .int x] h (some (.int (mz (decide (¬ x < 0) && decide (¬ nI (2 ^ T 0 0) ≤ x))))) h := by
  have hT := r.hT
  by_cases a : x < 0 <;> by_cases b : nI (2 ^ T 0 0) ≤ x <;> simp only [e_X7_isRing, b_X7_isRing_0, b_X7_isRing_4, b_X7_isRing_12, b_X7_isRing_15, b_X7_isRing_19, b_X7_isRing_20, i10, i00, i01, i11, not_true_eq_false, not_false_eq_true, if_true, if_false, true_or, or_true, true_and, and_true, a, b, hT, mn_cl_i (x_X5_countRings hT r.ct r.tw)] <;> simp [mz, a, b]
theorem x_mBell (m : MT h T) (hw : TWF T) (x : Int32) : mn_X 115 [.ref 63, .int x] h (some (.int (mz (decide (¬ x < 0) && decide (¬ nI (T 0 0) ≤ x))))) h := by
  have := hw.1.1
  simp only [e_X8_isBell, b_X8_isBell_0, b_X8_isBell_13, i10, i00, i01, i11, not_true_eq_false, not_false_eq_true, if_true, if_false, true_or, or_true, true_and, and_true, nl0, m.1.1, mn_cl_i (x_in_rng (x := x) (n := T 0 0) (by omega)), mz_01]
theorem x_mGroup (m : MT h T) (hw : TWF T) (x : Int32) : mn_X 116 [.ref 63, .int x] h (some (.int (mz (decide (¬ x < 0) && decide (¬ nI (T 0 1) ≤ x))))) h := by
  have := hw.1.2.1
  simp only [e_X8_isGroup, b_X8_isGroup_0, b_X8_isGroup_13, i10, i00, i01, i11, not_true_eq_false, not_false_eq_true, if_true, if_false, true_or, or_true, true_and, and_true, nl1, m.1.2.1, mn_cl_i (x_in_rng (x := x) (n := T 0 1) (by omega)), mz_01]
theorem mn_pw6 (hw : TWF T) : 2 ^ T 0 1 ≤ 64 := show 2 ^ T 0 1 ≤ 2 ^ 6 from Nat.pow_le_pow_right (by decide) hw.1.2.1
theorem x_mRing (m : MT h T) (hw : TWF T) (x : Int32) : mn_X 149 [.ref 63, .int x] h (some (.int (mz (decide (¬ x < 0) && decide (¬ nI (2 ^ T 0 0) ≤ x))))) h := by
  have := hw.1.1
  have := mn_pw5 hw
  simp only [e_X8_isRing, b_X8_isRing_0, b_X8_isRing_15, i10, i00, i01, i11, not_true_eq_false, not_false_eq_true, if_true, if_false, true_or, or_true, true_and, and_true, nl0, m.1.1, nq_one (show T 0 0 < 31 by omega), mn_cl_i (x_in_rng (x := x) (n := 2 ^ T 0 0) (by omega)), mz_01]
theorem x_mGroups (m : MT h T) (hw : TWF T) (x : Int32) : mn_X 159 [.ref 63, .int x] h (some (.int (mz (decide (¬ x < 0) && decide (¬ nI (2 ^ T 0 1) ≤ x))))) h := by
  have := hw.1.2.1
  have := mn_pw6 hw
  simp only [e_X8_isGroups, b_X8_isGroups_0, b_X8_isGroups_15, i10, i00, i01, i11, not_true_eq_false, not_false_eq_true, if_true, if_false, true_or, or_true, true_and, and_true, nl1, m.1.2.1, nq_one (show T 0 1 < 31 by omega), mn_cl_i (x_in_rng (x := x) (n := 2 ^ T 0 1) (by omega)), mz_01]
/-- tried and gathered as things are -/
theorem x_tg (r : RN h T S n df my sd) : ∃ h1 h2, mn_X 141 [.ref 63] h none h1 ∧ mn_X 147 [.ref 63] h1 none h2 ∧ mdF h h2 ∧ RW h2 (posM T df my 9 0 n (S n)) := by
  obtain ⟨h1, a, b, c⟩ := x_X8_trying r.2.1 r.n60
  have m1 := r.2.1.md b
  have h60 := r.n60
  obtain ⟨h2, d, e, f⟩ := x_X8_gathers m1.1 r.tw c r.df64 r.my64 (by omega) (by omega) (r.s64 n (Nat.le_refl _))
  exact ⟨h1, h2, a, d, b.tr e.md, f⟩
theorem x_dayAt_out {m : Nat} (hm : m < 2 ^ 64) {x : Int32} (hx : x < 0 ∨ nI (mn_pop m 64) ≤ x) : mn_X 111 [.long (lN m), .int x] h (some (.int (-1))) h := by
  refine x_dayAt_none hm (fun d hd hb e => ?_)
  have l := mn_pop_lt hd hb
  have l2 := mn_pop_le m 64
  subst e
  rcases hx with q | q
  · exact nI_pos (show mn_pop m d < 2 ^ 31 by omega) q
  · exact nI_ge l (by omega) q
/-- the k-th of the days of a mask -/
theorem mn_kth {m k : Nat} : ∀ n, k < mn_pop m n → ∃ d, d < n ∧ m.testBit d = true ∧ mn_pop m d = k := by
  intro n
  induction n with
  | zero => intro q; exact absurd q (by unfold mn_pop mn_nsum; omega)
  | succ n ih =>
    intro q
    rw [mn_pop_s1] at q
    by_cases o : k < mn_pop m n
    · obtain ⟨d, a, b⟩ := ih o; exact ⟨d, by omega, b⟩
    · by_cases o2 : m.testBit n = true
      · rw [if_pos o2] at q; exact ⟨n, by omega, o2, by omega⟩
      · rw [if_neg o2] at q; omega
end PQ
/-- two calls that leave all as it was, but for what is tried with -/
theorem PAIR.q {c m : Nat} {vs : List Value} {h h1 h2 : mn_H} {r : Int32} (i : INV h) (a : mn_X c (.ref 0 :: vs) h (some (.int r)) h1) (f : trF h h1) (b : mn_X m (.ref 63 :: vs) h1 (some (.int r)) h2) (g : mdF h1 h2) : ∃ (r : Int32) (h1 h2 : mn_H), mn_X c (.ref 0 :: vs) h (some (.int r)) h1 ∧ mn_X m (.ref 63 :: vs) h1 (some (.int r)) h2 ∧ INV h2 :=
  ⟨r, h1, h2, a, b, i.sf (f.sf.tr g.sf)⟩
theorem p_fault : PAIR 66 133 [] := by
  intro h i
  obtain ⟨T, S, n, df, my, sd, r, -, -, ⟨len, C, -, -, -, -, rx⟩⟩ := id i
  refine PAIR.q (r := h 1 5) i ?_ (trF.rf h) ?_ (mdF.rf h)
  · simp only [e_X7_fault, b_X7_fault_0, b_X7_fault_7, i10, i00, i01, i11, not_true_eq_false, not_false_eq_true, if_true, if_false, true_or, or_true, true_and, and_true]
    exact ⟨h 1 5, h, by simp only [e_X2_faultAt, b_X2_faultAt_0, i10, i00, i01, i11, not_true_eq_false, not_false_eq_true, if_true, if_false, true_or, or_true, true_and, and_true], rfl, rfl⟩
  · simp only [e_X8_fault, b_X8_fault_0, i10, i00, i01, i11, not_true_eq_false, not_false_eq_true, if_true, if_false, true_or, or_true, true_and, and_true, rx]
theorem p_harm (x : Int32) : PAIR 70 140 [.int x] := by
  intro h i
  obtain ⟨T, S, n, df, my, sd, r, -⟩ := id i
  have hT := r.hT
  rcases mn_rng x 64 (by decide) with ⟨d, hd, rfl⟩ | q
  · refine PAIR.q (r := harmN T d) i ?_ (trF.rf h) ?_ (mdF.rf h)
    · simp only [e_X7_harm, b_X7_harm_0, b_X7_harm_4, b_X7_harm_7, b_X7_harm_15, b_X7_harm_18, b_X7_harm_20, i10, i00, i01, i11, not_true_eq_false, not_false_eq_true, if_true, if_false, true_or, or_true, true_and, and_true, mn_cl_i (x_isDay_in hd), hT, mn_cl_i (x_X5_harmOf hT r.ct hd)]
    · simp only [e_X8_harm, b_X8_harm_0, b_X8_harm_4, b_X8_harm_7, b_X8_harm_12, b_X8_harm_15, b_X8_harm_17, i10, i00, i01, i11, not_true_eq_false, not_false_eq_true, if_true, if_false, true_or, or_true, true_and, and_true, mn_cl_i (x_mDay_in hd), mn_cl_i (x_X8_harmOf r.mt hd)]
  · refine PAIR.q (r := -1000000002) i ?_ (trF.rf h) ?_ (mdF.rf h)
    · simp only [e_X7_harm, b_X7_harm_0, b_X7_harm_4, b_X7_harm_7, b_X7_harm_15, b_X7_harm_18, b_X7_harm_20, i10, i00, i01, i11, not_true_eq_false, not_false_eq_true, if_true, if_false, true_or, or_true, true_and, and_true, mn_cl_i (x_isDay_out q)]
    · simp only [e_X8_harm, b_X8_harm_0, b_X8_harm_4, b_X8_harm_7, b_X8_harm_12, b_X8_harm_15, b_X8_harm_17, i10, i00, i01, i11, not_true_eq_false, not_false_eq_true, if_true, if_false, true_or, or_true, true_and, and_true, mn_cl_i (x_mDay_out q)]
theorem p_ring (x : Int32) : PAIR 71 148 [.int x] := by
  intro h i
  obtain ⟨T, S, n, df, my, sd, r, -⟩ := id i
  have hT := r.hT
  obtain ⟨h2, a, b, c⟩ := x_X8_trying r.2.1 r.n60
  rcases mn_rng x 64 (by decide) with ⟨d, hd, rfl⟩ | q
  · refine PAIR.q (r := nI (ringN T (S n) d)) i ?_ (trF.rf h) ?_ b
    · simp only [e_X7_ring, b_X7_ring_0, b_X7_ring_4, b_X7_ring_7, b_X7_ring_18, b_X7_ring_22, b_X7_ring_25, b_X7_ring_27, i10, i00, i01, i11, not_true_eq_false, not_false_eq_true, if_true, if_false, true_or, or_true, true_and, and_true, mn_cl_i (x_isDay_in hd), hT, mn_cl_i (x_dayBefore r.1), mn_cl_i (x_X5_ringFor hT r.ct r.tw (r.s64 n (Nat.le_refl _)) hd)]
    · simp only [e_X8_ring, b_X8_ring_0, b_X8_ring_4, b_X8_ring_8, b_X8_ring_11, b_X8_ring_16, b_X8_ring_19, b_X8_ring_21, i10, i00, i01, i11, not_true_eq_false, not_false_eq_true, if_true, if_false, true_or, or_true, true_and, and_true, mn_cl_v a, mn_cl_i (x_mDay_in hd), mn_cl_i (x_X8_ringOf (r.2.1.md b).1 r.tw c (fun q e => nomatch e) (r.s64 n (Nat.le_refl _)) hd)]
      rfl
  · refine PAIR.q (r := -1000000002) i ?_ (trF.rf h) ?_ b
    · simp only [e_X7_ring, b_X7_ring_0, b_X7_ring_4, b_X7_ring_7, b_X7_ring_18, b_X7_ring_22, b_X7_ring_25, b_X7_ring_27, i10, i00, i01, i11, not_true_eq_false, not_false_eq_true, if_true, if_false, true_or, or_true, true_and, and_true, mn_cl_i (x_isDay_out q)]
    · simp only [e_X8_ring, b_X8_ring_0, b_X8_ring_4, b_X8_ring_8, b_X8_ring_11, b_X8_ring_16, b_X8_ring_19, b_X8_ring_21, i10, i00, i01, i11, not_true_eq_false, not_false_eq_true, if_true, if_false, true_or, or_true, true_and, and_true, mn_cl_v a, mn_cl_i (x_mDay_out q)]
