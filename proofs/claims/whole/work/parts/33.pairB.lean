theorem lt_of {x : Int32} {n m : Nat} (hm : m < n) (hn : n < 2 ^ 31) (hx : x < 0 ∨ nI n ≤ x) : x < 0 ∨ nI m < x := by
  rcases hx with a | a
  · exact Or.inl a
  · right
    rw [Int32.le_iff_toInt_le] at a; rw [Int32.lt_iff_toInt_lt]
    rw [nI_toInt hn] at a; rw [nI_toInt (by omega)]
    omega
theorem x_in_n {n m : Nat} {h : mn_H} (hm : m + 1 = n) (hn : n < 2 ^ 31) (x : Int32) : mn_X 114 [.int x, .int 0, .int (nI m)] h (some (.int (mz (decide (¬ x < 0) && decide (¬ nI n ≤ x))))) h := by
  rcases mn_rng x n hn with ⟨j, hj, rfl⟩ | q
  · rw [in_true hj hn]
    exact x_in_in (a := 0) (Nat.zero_le _) (by omega) (by omega)
  · rw [in_false q]
    exact x_in_out (lt_of (by omega) hn q)
theorem mn_m1 : ((-1 : Int32) < 0) = True := by simp
theorem p_done (x y : Int32) : PAIR 72 150 [.int x, .int y] := by
  intro h i
  obtain ⟨T, S, n, df, my, sd, r, -⟩ := id i
  have hT := r.hT
  have p5 := mn_pw5 r.tw
  have xr := x_cRing r x
  rcases mn_rng x (2 ^ T 0 0) (by omega) with ⟨rg, hr, rfl⟩ | q
  · rw [in_true hr (by omega)] at xr
    rcases mn_rng y 6 (by decide) with ⟨d, hd, rfl⟩ | q2
    · have xc := x_X6_countDoing (gr := 9) (mo := 0) hT r.ct r.tw (show rg < 32 by omega) r.df64 r.my64 (by omega)
      have tf : trF h (mn_set h 17 (dngN T df my 9 0 rg (T 0 1) (h 17))) := (trF.rf h).set (by decide) (by decide)
      generalize hh : mn_set h 17 (dngN T df my 9 0 rg (T 0 1) (h 17)) = h1 at xc tf
      have r1 := tf.sf.rn r
      obtain ⟨h2, a, b, c⟩ := x_X8_trying r1.2.1 r1.n60
      have xr1 := x_mRing (r1.2.1.md b).1 r1.tw (nI rg)
      rw [in_true hr (by omega)] at xr1
      have xi := x_in_n (h := h2) (n := 6) (m := 5) rfl (by decide) (nI d)
      rw [in_true hd (by omega)] at xi
      refine PAIR.q (r := nI (doneN T df my 9 0 rg d)) i ?_ tf ?_ b
      · simp only [e_X7_done, b_X7_done_0, b_X7_done_5, b_X7_done_8, b_X7_done_11, b_X7_done_15, b_X7_done_21, b_X7_done_24, b_X7_done_52, i10, i00, i01, i11, not_true_eq_false, not_false_eq_true, if_true, if_false, true_or, or_true, true_and, and_true, mn_cl_i xr, mz_t, (nI_pos (show d < 2 ^ 31 by omega)), (show (nI d < 6) = True from eq_true (nI_lt (b := 6) hd (by decide))), hT, r.1.2.2.2.2.2.2.2.2.2.1, r.1.2.2.2.2.2.2.2.2.2.2.2.1]
        rw [mn_cl_v (show mn_X 59 [.ref 16, .ref (mn_hr h), .int (nI rg), .int (nI df), .int (nI my), .int (-1), .int 0] h none h1 from xc)]
        simp only [e_X7_done, b_X7_done_0, b_X7_done_5, b_X7_done_8, b_X7_done_11, b_X7_done_15, b_X7_done_21, b_X7_done_24, b_X7_done_52, i10, i00, i01, i11, not_true_eq_false, not_false_eq_true, if_true, if_false, true_or, or_true, true_and, and_true, vp_in_nI (show d < 7 by omega) (show 7 < 2 ^ 31 by decide), nI_clamp (show d < 2 ^ 31 by omega)]
        rw [← hh, mn_set_get2, if_pos rfl]
        unfold dngN; rw [if_pos (by omega)]; rfl
      · simp only [e_X8_done, b_X8_done_0, b_X8_done_4, b_X8_done_9, b_X8_done_12, b_X8_done_17, b_X8_done_23, b_X8_done_26, b_X8_done_32, b_X8_done_35, b_X8_done_37, i10, i00, i01, i11, not_true_eq_false, not_false_eq_true, if_true, if_false, true_or, or_true, true_and, and_true, mn_cl_v a, mn_cl_i xr1, mz_t]
        rw [show (5 : Int32) = nI 5 from rfl, mn_cl_i xi]
        simp only [e_X8_done, b_X8_done_0, b_X8_done_4, b_X8_done_9, b_X8_done_12, b_X8_done_17, b_X8_done_23, b_X8_done_26, b_X8_done_32, b_X8_done_35, b_X8_done_37, i10, i00, i01, i11, not_true_eq_false, not_false_eq_true, if_true, if_false, true_or, or_true, true_and, and_true, mz_t, mn_cl_i (x_X8_doneBy (r1.2.1.md b).1 r1.tw c r1.df64 r1.my64 (by omega) (show rg < 32 by omega) hd)]
    · obtain ⟨h2, a, b, c⟩ := x_X8_trying r.2.1 r.n60
      have xr1 := x_mRing (r.2.1.md b).1 r.tw (nI rg)
      rw [in_true hr (by omega)] at xr1
      have xi := x_in_n (h := h2) (n := 6) (m := 5) rfl (by decide) y
      rw [in_false q2] at xi
      refine PAIR.q (r := -1000000002) i ?_ (trF.rf h) ?_ b
      · rcases q2 with q2 | q2
        · simp only [e_X7_done, b_X7_done_0, b_X7_done_5, b_X7_done_8, b_X7_done_11, b_X7_done_15, b_X7_done_21, b_X7_done_24, b_X7_done_52, i10, i00, i01, i11, not_true_eq_false, not_false_eq_true, if_true, if_false, true_or, or_true, true_and, and_true, mn_cl_i xr, mz_t, q2]
        · have q3 : ¬ y < 6 := Int32.not_lt.mpr q2
          by_cases q4 : y < 0 <;> simp only [e_X7_done, b_X7_done_0, b_X7_done_5, b_X7_done_8, b_X7_done_11, b_X7_done_15, b_X7_done_21, b_X7_done_24, b_X7_done_52, i10, i00, i01, i11, not_true_eq_false, not_false_eq_true, if_true, if_false, true_or, or_true, true_and, and_true, mn_cl_i xr, mz_t, q3, q4]
      · simp only [e_X8_done, b_X8_done_0, b_X8_done_4, b_X8_done_9, b_X8_done_12, b_X8_done_17, b_X8_done_23, b_X8_done_26, b_X8_done_32, b_X8_done_35, b_X8_done_37, i10, i00, i01, i11, not_true_eq_false, not_false_eq_true, if_true, if_false, true_or, or_true, true_and, and_true, mn_cl_v a, mn_cl_i xr1, mz_t]
        rw [show (5 : Int32) = nI 5 from rfl, mn_cl_i xi]
        simp only [e_X8_done, b_X8_done_0, b_X8_done_4, b_X8_done_9, b_X8_done_12, b_X8_done_17, b_X8_done_23, b_X8_done_26, b_X8_done_32, b_X8_done_35, b_X8_done_37, i10, i00, i01, i11, not_true_eq_false, not_false_eq_true, if_true, if_false, true_or, or_true, true_and, and_true, mz_f]
  · rw [in_false q] at xr
    obtain ⟨h2, a, b, c⟩ := x_X8_trying r.2.1 r.n60
    have xr1 := x_mRing (r.2.1.md b).1 r.tw x
    rw [in_false q] at xr1
    refine PAIR.q (r := -1000000001) i ?_ (trF.rf h) ?_ b
    · simp only [e_X7_done, b_X7_done_0, b_X7_done_5, b_X7_done_8, b_X7_done_11, b_X7_done_15, b_X7_done_21, b_X7_done_24, b_X7_done_52, i10, i00, i01, i11, not_true_eq_false, not_false_eq_true, if_true, if_false, true_or, or_true, true_and, and_true, mn_cl_i xr, mz_f]
    · simp only [e_X8_done, b_X8_done_0, b_X8_done_4, b_X8_done_9, b_X8_done_12, b_X8_done_17, b_X8_done_23, b_X8_done_26, b_X8_done_32, b_X8_done_35, b_X8_done_37, i10, i00, i01, i11, not_true_eq_false, not_false_eq_true, if_true, if_false, true_or, or_true, true_and, and_true, mn_cl_v a, mn_cl_i xr1, mz_f]
theorem p_comes (x : Int32) : PAIR 73 151 [.int x] := by
  intro h i
  obtain ⟨T, S, n, df, my, sd, r, -⟩ := id i
  have hT := r.hT
  have p5 := mn_pw5 r.tw
  have xr := x_cRing r x
  rcases mn_rng x (2 ^ T 0 0) (by omega) with ⟨rg, hr, rfl⟩ | q
  · rw [in_true hr (by omega)] at xr
    obtain ⟨h1, xs, tf, hv⟩ := x_supposeNow r.1
    have r1 := tf.sf.rn r
    have hT1 := r1.hT
    have h60 := r1.n60
    obtain ⟨h2, a, b, c⟩ := x_X8_trying r1.2.1 r1.n60
    have xr1 := x_mRing (r1.2.1.md b).1 r1.tw (nI rg)
    rw [in_true hr (by omega)] at xr1
    refine PAIR.q (r := nI (cmN T df my 9 0 n rg)) i ?_ tf ?_ b
    · simp only [e_X7_comes, b_X7_comes_0, b_X7_comes_5, b_X7_comes_8, b_X7_comes_11, b_X7_comes_15, b_X7_comes_38, b_X7_comes_41, b_X7_comes_44, i10, i00, i01, i11, not_true_eq_false, not_false_eq_true, if_true, if_false, true_or, or_true, true_and, and_true, mn_cl_i xr, mz_t, mn_cl_v xs, hT1, r1.1.2.2.2.2.2.1, mn_cl_i (x_X5_selvesOn hT1 r1.ct r1.tw (show n < 2 ^ 30 by omega)), mn_cl_i (x_X5_comingOfItself hT1 r1.ct r1.tw (selN_lt r1.tw n)), mn_cl_i (x_X6_comingBy (n := n) r1.tw hv hr)]
    · simp only [e_X8_comes, b_X8_comes_0, b_X8_comes_4, b_X8_comes_9, b_X8_comes_12, b_X8_comes_17, b_X8_comes_20, b_X8_comes_22, i10, i00, i01, i11, not_true_eq_false, not_false_eq_true, if_true, if_false, true_or, or_true, true_and, and_true, mn_cl_v a, mn_cl_i xr1, mz_t, mn_cl_i (x_X8_comesBy (r1.2.1.md b).1 r1.tw c r1.df64 r1.my64 (by omega) (by omega) (show rg < 32 by omega))]
  · rw [in_false q] at xr
    obtain ⟨h2, a, b, c⟩ := x_X8_trying r.2.1 r.n60
    have xr1 := x_mRing (r.2.1.md b).1 r.tw x
    rw [in_false q] at xr1
    refine PAIR.q (r := -1000000001) i ?_ (trF.rf h) ?_ b
    · simp only [e_X7_comes, b_X7_comes_0, b_X7_comes_5, b_X7_comes_8, b_X7_comes_11, b_X7_comes_15, b_X7_comes_38, b_X7_comes_41, b_X7_comes_44, i10, i00, i01, i11, not_true_eq_false, not_false_eq_true, if_true, if_false, true_or, or_true, true_and, and_true, mn_cl_i xr, mz_f]
    · simp only [e_X8_comes, b_X8_comes_0, b_X8_comes_4, b_X8_comes_9, b_X8_comes_12, b_X8_comes_17, b_X8_comes_20, b_X8_comes_22, i10, i00, i01, i11, not_true_eq_false, not_false_eq_true, if_true, if_false, true_or, or_true, true_and, and_true, mn_cl_v a, mn_cl_i xr1, mz_f]
theorem mn_pop1 {m : Nat} (hm : m < 2 ^ 64) (h : m ≠ 0) : 1 ≤ mn_pop m 64 := by
  apply Nat.one_le_iff_ne_zero.mpr
  intro e
  apply h
  apply Nat.eq_of_testBit_eq
  intro i
  rw [Nat.zero_testBit]
  by_cases o : i < 64
  · exact mn_pop_0 64 e i o
  · exact Nat.testBit_lt_two_pow (Nat.lt_of_lt_of_le hm (Nat.pow_le_pow_right (by decide) (by omega)))
theorem p_could (x : Int32) : PAIR 74 152 [.int x] := by
  intro h i
  obtain ⟨T, S, n, df, my, sd, r, -⟩ := id i
  obtain ⟨h1, xp, tf⟩ := x_possibleDays r.1
  have r1 := tf.sf.rn r
  obtain ⟨h2, h3, a, b, f, w⟩ := x_tg r1
  have pl := posM_lt T df my 9 0 n (S n)
  generalize posM T df my 9 0 n (S n) = m at xp w pl
  have l := mn_pop_le m 64
  rcases mn_rng x (mn_pop m 64) (by omega) with ⟨k, hk, rfl⟩ | q
  · obtain ⟨d, hd, hb, e⟩ := mn_kth 64 hk
    have ne : ¬ nI k = -1 := fun e => nI_pos (show k < 2 ^ 31 by omega) (by rw [e]; decide)
    have xi := x_in_rng (h := h3) (x := nI k) (n := mn_pop m 64) (by omega)
    rw [in_true hk (by omega)] at xi
    refine PAIR.q (r := nI d) i ?_ tf ?_ f
    · simp only [e_X7_could, b_X7_could_0, b_X7_could_4, b_X7_could_10, b_X7_could_14, b_X7_could_17, b_X7_could_22, i10, i00, i01, i11, not_true_eq_false, not_false_eq_true, if_true, if_false, true_or, or_true, true_and, and_true, mn_cl_l xp, ne, mn_cl_i (x_dayAt_some pl hd hb e)]
    · simp only [e_X8_could, b_X8_could_0, b_X8_could_4, b_X8_could_8, b_X8_could_13, b_X8_could_20, b_X8_could_31, b_X8_could_34, b_X8_could_43, b_X8_could_44, i10, i00, i01, i11, not_true_eq_false, not_false_eq_true, if_true, if_false, true_or, or_true, true_and, and_true, mn_cl_v a, mn_cl_v b, ne, w.1, mn_cl_i xi, mz_t, vp_in_nI (show k < 64 by omega) (show 64 < 2 ^ 31 by decide), nI_clamp (show k < 2 ^ 31 by omega)]
      rw [← e, w.2 d hd hb]
  · by_cases o : x = -1
    · subst o
      refine PAIR.q (r := nI (mn_pop m 64)) i ?_ tf ?_ f
      · simp only [e_X7_could, b_X7_could_0, b_X7_could_4, b_X7_could_10, b_X7_could_14, b_X7_could_17, b_X7_could_22, i10, i00, i01, i11, not_true_eq_false, not_false_eq_true, if_true, if_false, true_or, or_true, true_and, and_true, mn_cl_l xp, mn_cl_i (x_lbitCount pl)]
      · simp only [e_X8_could, b_X8_could_0, b_X8_could_4, b_X8_could_8, b_X8_could_13, b_X8_could_20, b_X8_could_31, b_X8_could_34, b_X8_could_43, b_X8_could_44, i10, i00, i01, i11, not_true_eq_false, not_false_eq_true, if_true, if_false, true_or, or_true, true_and, and_true, mn_cl_v a, mn_cl_v b, w.1]
    · have xi := x_in_rng (h := h3) (x := x) (n := mn_pop m 64) (by omega)
      rw [in_false q] at xi
      refine PAIR.q (r := -1) i ?_ tf ?_ f
      · simp only [e_X7_could, b_X7_could_0, b_X7_could_4, b_X7_could_10, b_X7_could_14, b_X7_could_17, b_X7_could_22, i10, i00, i01, i11, not_true_eq_false, not_false_eq_true, if_true, if_false, true_or, or_true, true_and, and_true, mn_cl_l xp, o, mn_cl_i (x_dayAt_out pl q)]
      · simp only [e_X8_could, b_X8_could_0, b_X8_could_4, b_X8_could_8, b_X8_could_13, b_X8_could_20, b_X8_could_31, b_X8_could_34, b_X8_could_43, b_X8_could_44, i10, i00, i01, i11, not_true_eq_false, not_false_eq_true, if_true, if_false, true_or, or_true, true_and, and_true, mn_cl_v a, mn_cl_v b, o, w.1, mn_cl_i xi, mz_f]
theorem x_choice {h : mn_H} (x : Int32) : mn_X 114 [.int x, .int 0, .int 1] h (some (.int (mz (decide (x = 0) || decide (x = 1))))) h := by
  have := x_in_n (h := h) (n := 2) (m := 1) rfl (by decide) x
  rw [show (decide (x = 0) || decide (x = 1)) = (decide (¬ x < 0) && decide (¬ nI 2 ≤ x)) from ?_]
  · exact this
  · rcases mn_rng x 2 (by decide) with ⟨j, hj, rfl⟩ | q
    · rw [in_true hj (by decide)]
      have : j = 0 ∨ j = 1 := by omega
      rcases this with rfl | rfl <;> decide
    · rw [in_false q]
      have e0 : x ≠ 0 := by rintro rfl; exact absurd q (by decide)
      have e1 : x ≠ 1 := by rintro rfl; exact absurd q (by decide)
      simp [e0, e1]
theorem mn_63 (m : Nat) : (63 : Int32) - nI (anyN m 64) = nI (onNN m) := anyN_on m
theorem p_sure (x : Int32) : PAIR 75 154 [.int x] := by
  intro h i
  obtain ⟨T, S, n, df, my, sd, r, -⟩ := id i
  have xc := x_isChoice (h := h) x
  by_cases o : (decide (x = 0) || decide (x = 1)) = true
  · rw [o] at xc
    obtain ⟨h1, xp, tf⟩ := x_possibleDays r.1
    have r1 := tf.sf.rn r
    obtain ⟨h2, h3, a, b, f, w⟩ := x_tg r1
    have pl := posM_lt T df my 9 0 n (S n)
    generalize posM T df my 9 0 n (S n) = m at xp w pl
    have xm := x_choice (h := h1) x
    rw [o] at xm
    by_cases o0 : x = 0
    · subst o0
      refine PAIR.q (r := nI (onAN m)) i ?_ tf ?_ f
      · simp only [e_X7_sure, b_X7_sure_0, b_X7_sure_4, b_X7_sure_7, b_X7_sure_10, b_X7_sure_14, b_X7_sure_19, b_X7_sure_23, b_X7_sure_26, b_X7_sure_30, i10, i00, i01, i11, not_true_eq_false, not_false_eq_true, if_true, if_false, true_or, or_true, true_and, and_true, mn_cl_i xc, mz_t, mn_cl_l xp, mn_cl_i (x_onAll pl)]
      · simp only [e_X8_sure, b_X8_sure_0, b_X8_sure_6, b_X8_sure_9, b_X8_sure_12, b_X8_sure_16, b_X8_sure_20, b_X8_sure_24, b_X8_sure_29, b_X8_sure_32, b_X8_sure_39, b_X8_sure_40, i10, i00, i01, i11, not_true_eq_false, not_false_eq_true, if_true, if_false, true_or, or_true, true_and, and_true, mn_cl_i xm, mz_t, mn_cl_v a, mn_cl_v b, mn_cl_i (x_met1 w), allN_on]
    · refine PAIR.q (r := nI (onNN m)) i ?_ tf ?_ f
      · simp only [e_X7_sure, b_X7_sure_0, b_X7_sure_4, b_X7_sure_7, b_X7_sure_10, b_X7_sure_14, b_X7_sure_19, b_X7_sure_23, b_X7_sure_26, b_X7_sure_30, i10, i00, i01, i11, not_true_eq_false, not_false_eq_true, if_true, if_false, true_or, or_true, true_and, and_true, mn_cl_i xc, mz_t, mn_cl_l xp, o0, mn_cl_i (x_onNone pl)]
      · simp only [e_X8_sure, b_X8_sure_0, b_X8_sure_6, b_X8_sure_9, b_X8_sure_12, b_X8_sure_16, b_X8_sure_20, b_X8_sure_24, b_X8_sure_29, b_X8_sure_32, b_X8_sure_39, b_X8_sure_40, i10, i00, i01, i11, not_true_eq_false, not_false_eq_true, if_true, if_false, true_or, or_true, true_and, and_true, mn_cl_i xm, mz_t, mn_cl_v a, mn_cl_v b, o0, mn_cl_i (x_met0 w), mn_63]
  · have o := Bool.eq_false_iff.mpr o
    rw [o] at xc
    have xm := x_choice (h := h) x
    rw [o] at xm
    refine PAIR.q (r := -1000000002) i ?_ (trF.rf h) ?_ (mdF.rf h)
    · simp only [e_X7_sure, b_X7_sure_0, b_X7_sure_4, b_X7_sure_7, b_X7_sure_10, b_X7_sure_14, b_X7_sure_19, b_X7_sure_23, b_X7_sure_26, b_X7_sure_30, i10, i00, i01, i11, not_true_eq_false, not_false_eq_true, if_true, if_false, true_or, or_true, true_and, and_true, mn_cl_i xc, mz_f]
    · simp only [e_X8_sure, b_X8_sure_0, b_X8_sure_6, b_X8_sure_9, b_X8_sure_12, b_X8_sure_16, b_X8_sure_20, b_X8_sure_24, b_X8_sure_29, b_X8_sure_32, b_X8_sure_39, b_X8_sure_40, i10, i00, i01, i11, not_true_eq_false, not_false_eq_true, if_true, if_false, true_or, or_true, true_and, and_true, mn_cl_i xm, mz_f]
theorem p_wire (x y : Int32) : PAIR 86 168 [.int x, .int y] := by
  intro h i
  obtain ⟨T, S, n, df, my, sd, r, -⟩ := id i
  have t5 := r.tw.1.1
  have xa := x_cBell r x
  have xb := x_cBell r y
  have ya := x_mBell r.mt r.tw x
  have yb := x_mBell r.mt r.tw y
  have bad : ∀ b1 b2 : Bool, mn_X 96 [.ref 0, .int x] h (some (.int (mz b1))) h → mn_X 96 [.ref 0, .int y] h (some (.int (mz b2))) h → mn_X 115 [.ref 63, .int x] h (some (.int (mz b1))) h → mn_X 115 [.ref 63, .int y] h (some (.int (mz b2))) h → (b1 = false ∨ b2 = false ∨ x = y) → ∃ (r : Int32) (h1 h2 : mn_H), mn_X 86 [.ref 0, .int x, .int y] h (some (.int r)) h1 ∧ mn_X 168 [.ref 63, .int x, .int y] h1 (some (.int r)) h2 ∧ INV h2 := by
    intro b1 b2 xa xb ya yb q
    refine PAIR.q (r := -1000000001) i ?_ (trF.rf h) ?_ (mdF.rf h)
    · cases b1 <;> cases b2 <;> rcases q with q | q | q <;> first | (cases q; done) | simp only [e_X7_wire, b_X7_wire_0, b_X7_wire_5, b_X7_wire_8, b_X7_wire_13, b_X7_wire_16, b_X7_wire_21, b_X7_wire_24, b_X7_wire_30, b_X7_wire_33, i10, i00, i01, i11, not_true_eq_false, not_false_eq_true, if_true, if_false, true_or, or_true, true_and, and_true, mn_cl_i xa, mn_cl_i xb, mz_f, mz_t, q]
    · cases b1 <;> cases b2 <;> rcases q with q | q | q <;> first | (cases q; done) | simp only [e_X8_wire, b_X8_wire_0, b_X8_wire_5, b_X8_wire_8, b_X8_wire_13, b_X8_wire_16, b_X8_wire_21, b_X8_wire_24, b_X8_wire_28, b_X8_wire_42, i10, i00, i01, i11, not_true_eq_false, not_false_eq_true, if_true, if_false, true_or, or_true, true_and, and_true, mn_cl_i ya, mn_cl_i yb, mz_f, mz_t, q]
  rcases mn_rng x (T 0 0) (by omega) with ⟨j, hj, rfl⟩ | q
  · rcases mn_rng y (T 0 0) (by omega) with ⟨k, hk, rfl⟩ | q2
    · by_cases o : nI j = nI k
      · exact bad _ _ xa xb ya yb (Or.inr (Or.inr o))
      · rw [in_true hj (by omega)] at xa
        rw [in_true hk (by omega)] at xb
        have ho : wOk T (some (j, k)) := by intro q e; cases e; exact ⟨hj, hk⟩
        obtain ⟨h1, xf, tf⟩ := x_fittingDays r.1 ho
        have xf' : mn_X 105 [.ref 0, .int (nI j), .int (nI k)] h (some (.long (lN (fitM T df my 9 0 n (S n) (some (j, k)))))) h1 := xf
        have r1 := tf.sf.rn r
        have h60 := r1.n60
        have ya := x_mBell r1.mt r1.tw (nI j)
        have yb := x_mBell r1.mt r1.tw (nI k)
        rw [in_true hj (by omega)] at ya
        rw [in_true hk (by omega)] at yb
        obtain ⟨h2, a, b, c⟩ := x_X8_trying r1.2.1 r1.n60
        have f2 : mdF h1 (mn_up (mn_up h2 63 17 (nI j)) 63 18 (nI k)) := (b.up (by decide) _).up (by decide) _
        have c2 : TRY (mn_up (mn_up h2 63 17 (nI j)) 63 18 (nI k)) df my 9 0 (some (j, k)) (S n) n := by
          obtain ⟨c1, c2, c3, c4, c5, c6, c7, c8⟩ := c
          refine ⟨?_, ?_, ?_, ?_, ?_, ?_, ?_, ?_⟩
          all_goals simp only [mn_up_get]
          all_goals simp
          all_goals first | exact c1 | exact c2 | exact c3 | exact c4 | exact c7 | exact c8 | rfl
        have xx := x_X8_fits (r1.2.1.md f2).1 r1.tw c2 ho r1.df64 r1.my64 (by omega) (by omega) (r1.s64 n (Nat.le_refl _))
        refine PAIR.q (r := nI (mn_pop (fitM T df my 9 0 n (S n) (some (j, k))) 64)) i ?_ tf ?_ f2
        · simp only [e_X7_wire, b_X7_wire_0, b_X7_wire_5, b_X7_wire_8, b_X7_wire_13, b_X7_wire_16, b_X7_wire_21, b_X7_wire_24, b_X7_wire_30, b_X7_wire_33, i10, i00, i01, i11, not_true_eq_false, not_false_eq_true, if_true, if_false, true_or, or_true, true_and, and_true, mn_cl_i xa, mn_cl_i xb, mz_t, o, mn_cl_l xf', mn_cl_i (x_lbitCount (fitM_lt _ _ _ _ _ _ _ _))]
        · simp only [e_X8_wire, b_X8_wire_0, b_X8_wire_5, b_X8_wire_8, b_X8_wire_13, b_X8_wire_16, b_X8_wire_21, b_X8_wire_24, b_X8_wire_28, b_X8_wire_42, i10, i00, i01, i11, not_true_eq_false, not_false_eq_true, if_true, if_false, true_or, or_true, true_and, and_true, mn_cl_i ya, mn_cl_i yb, mz_t, o, mn_cl_v a, mn_cl_i xx]
    · exact bad _ _ xa xb ya yb (Or.inr (Or.inl (in_false q2)))
  · exact bad _ _ xa xb ya yb (Or.inl (in_false q))
