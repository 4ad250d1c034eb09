theorem nv0 : nI 0 = 0 := rfl
theorem nv1 : nI 1 = 1 := rfl
theorem nv2 : nI 2 = 2 := rfl
theorem nv3 : nI 3 = 3 := rfl
theorem nv4 : nI 4 = 4 := rfl
theorem nv5 : nI 5 = 5 := rfl
theorem nv6 : nI 6 = 6 := rfl
theorem nv7 : nI 7 = 7 := rfl
theorem nv8 : nI 8 = 8 := rfl
theorem nv9 : nI 9 = 9 := rfl
theorem nv10 : nI 10 = 10 := rfl
theorem nv11 : nI 11 = 11 := rfl
theorem nv12 : nI 12 = 12 := rfl
theorem tsw_out {x : Int32} {n m : Nat} (hm : m + 1 = n) (hn : n < 2 ^ 31) (hx : x < 0 ∨ nI n ≤ x) : x.toInt < 0 ∨ (m : Int) < x.toInt := by
  rcases hx with a | a
  · rw [Int32.lt_iff_toInt_lt] at a; exact Or.inl a
  · rw [Int32.le_iff_toInt_le, nI_toInt hn] at a; right; omega
def cntE (g : Nat → Int32) : Int32 := 0 + g 0 + g 1 + g 2 + g 3 + g 4
section PQ
variable {h : mn_H} {T : TW} {S : Nat → Nat} {n df my sd : Nat}
theorem x_countAll : mn_X 26 [.ref 10] h (some (.int (cntE (h 11)))) h := by
  have v0 : vp_in 0 5 := show vp_in (nI 0) 5 from vp_in_nI (by decide) (by decide)
  have v1 : vp_in 1 5 := show vp_in (nI 1) 5 from vp_in_nI (by decide) (by decide)
  have v2 : vp_in 2 5 := show vp_in (nI 2) 5 from vp_in_nI (by decide) (by decide)
  have v3 : vp_in 3 5 := show vp_in (nI 3) 5 from vp_in_nI (by decide) (by decide)
  have v4 : vp_in 4 5 := show vp_in (nI 4) 5 from vp_in_nI (by decide) (by decide)
  simp +decide only [e_X3_countAll, b_X3_countAll_0, b_X3_countAll_4, b_X3_countAll_9, b_X3_countAll_24, i10, i00, i01, i11, not_true_eq_false, not_false_eq_true, if_true, if_false, true_or, or_true, true_and, and_true, and_false, false_and, Int32.reduceLT, Int32.reduceLE, Int32.reduceAdd, Int32.reduceSub, v0, v1, v2, v3, v4]
  rfl
theorem x_toldsum {x1 : Int32} {r : Option Value} {h' : mn_H} : mn_E 136 13 [.ref 63, .int x1, .null, .null] [] h r h' ↔ mn_E 136 37 [.ref 63, .int x1, .int (cntE (h 70)), .int 5] [] h r h' := by
  have v0 : vp_in 0 5 := show vp_in (nI 0) 5 from vp_in_nI (by decide) (by decide)
  have v1 : vp_in 1 5 := show vp_in (nI 1) 5 from vp_in_nI (by decide) (by decide)
  have v2 : vp_in 2 5 := show vp_in (nI 2) 5 from vp_in_nI (by decide) (by decide)
  have v3 : vp_in 3 5 := show vp_in (nI 3) 5 from vp_in_nI (by decide) (by decide)
  have v4 : vp_in 4 5 := show vp_in (nI 4) 5 from vp_in_nI (by decide) (by decide)
  simp +decide only [b_X8_told_13, b_X8_told_17, b_X8_told_22, i10, i00, i01, i11, not_true_eq_false, not_false_eq_true, if_true, if_false, true_or, or_true, true_and, and_true, and_false, false_and, Int32.reduceLT, Int32.reduceLE, Int32.reduceAdd, Int32.reduceSub, v0, v1, v2, v3, v4]
  rfl
theorem RS.cnt (s : RS h) : cntE (h 11) = cntE (h 70) := by
  obtain ⟨c, G, s⟩ := s
  unfold cntE
  rw [(s 0 (by decide)).2.1, (s 1 (by decide)).2.1, (s 2 (by decide)).2.1, (s 3 (by decide)).2.1, (s 4 (by decide)).2.1, (s 0 (by decide)).2.2.1, (s 1 (by decide)).2.2.1, (s 2 (by decide)).2.2.1, (s 3 (by decide)).2.2.1, (s 4 (by decide)).2.2.1]
theorem x_harmFrom (m : MN h T S n df my) (hn : n ≤ 60) (hs : ∀ k, k ≤ n → S k < 64) {f : Nat} (hf : f ≤ n) : mn_X 135 [.ref 63, .int (nI f)] h (some (.int (mn_sum (fun k => harmN T (S (f + k + 1))) (n - f)))) h := by
  rw [e_X8_harmFrom, b_X8_harmFrom_0]
  have key := mn_loopb (n := n - f) (fun j => mn_E 135 4 [.ref 63, .int (nI f), .int (mn_sum (fun k => harmN T (S (f + k + 1))) j), .int (nI (f + j))] [] h (some (.int (mn_sum (fun k => harmN T (S (f + k + 1))) (n - f)))) h) ?_ ?_ (i0 := 0) (Nat.zero_le _)
  · exact key
  · show mn_E _ _ _ _ _ _ _
    rw [b_X8_harmFrom_4, nl0, m.2.1, show f + (n - f) = n by omega, if_pos (show nI n ≤ nI n from Int32.le_refl _), b_X8_harmFrom_35]
    exact ⟨rfl, rfl⟩
  · intro j hj e
    show mn_E _ _ _ _ _ _ _
    rw [b_X8_harmFrom_4, nl0, m.2.1, if_neg (nI_ge (by omega) (by omega))]
    have e5 : (5 : Int32) + nI (f + j) = nI (4 + (f + j + 1)) := by rw [show (5 : Int32) = nI 5 from rfl, nI_add]; congr 1; omega
    rw [b_X8_harmFrom_14 (by rw [e5]; exact vp_in_nI (by omega) (by decide)), e5, nI_clamp (by omega), m.2.2.2.2 (f + j + 1) (by omega), mn_cl_i (x_X8_harmOf m.1 (hs _ (by omega))), b_X8_harmFrom_27, nI_1]
    exact e
end PQ
theorem p_told (x : Int32) : PAIR 67 136 [.int x] := by
  intro h i
  obtain ⟨T, S, n, df, my, sd, r, -, rs, ⟨len, C, -, rx1, rx2, -⟩⟩ := id i
  have hT := r.hT
  have h60 := r.n60
  rcases mn_rng x 13 (by decide) with ⟨j, hj, rfl⟩ | q
  · have xi : ∀ h, mn_X 114 [.int (nI j), .int 0, .int 12] h (some (.int 1)) h := by
      intro h
      have := x_in_n (h := h) (n := 13) (m := 12) rfl (by decide) (nI j)
      rw [in_true hj (by omega)] at this
      exact this
    have hQ8 : mn_isQ (mn_hr h + 8) := by unfold mn_isQ; rcases hT with e | e <;> omega
    have hQ12 : mn_isQ (mn_hr h + 12) := by unfold mn_isQ; rcases hT with e | e <;> omega
    have xq8 : mn_X 35 [.ref (mn_hr h + 8)] h (some (.int (h (mn_hr h + 8) 3))) h := by simp only [e_X4_size, b_X4_size_0, i10, i00, i01, i11, not_true_eq_false, not_false_eq_true, if_true, if_false, true_or, or_true, true_and, and_true, and_false, false_and, hQ8]
    have xq12 : mn_X 35 [.ref (mn_hr h + 12)] h (some (.int (h (mn_hr h + 12) 3))) h := by simp only [e_X4_size, b_X4_size_0, i10, i00, i01, i11, not_true_eq_false, not_false_eq_true, if_true, if_false, true_or, or_true, true_and, and_true, and_false, false_and, hQ12]
    have xl : mn_X 10 [.ref 1] h (some (.int (h 1 1))) h := by simp only [e_X2_letters, b_X2_letters_0, i10, i00, i01, i11, not_true_eq_false, not_false_eq_true, if_true, if_false, true_or, or_true, true_and, and_true, and_false, false_and]
    obtain ⟨h2, a, b, c⟩ := x_X8_trying r.2.1 r.n60
    have m2 := r.2.1.md b
    obtain ⟨h3, xf, tf⟩ := x_fittingDays r.1 (wl := none) (fun q e => nomatch e)
    have xf' : mn_X 105 [.ref 0, .int (-1), .int (-1)] h (some (.long (lN (fitM T df my 9 0 n (S n) none)))) h3 := xf
    have r3 := tf.sf.rn r
    obtain ⟨h4, a4, b4, c4⟩ := x_X8_trying r3.2.1 r3.n60
    have xx := x_X8_fits (r3.2.1.md b4).1 r3.tw c4 (fun q e => nomatch e) r3.df64 r3.my64 (by omega) (by omega) (r3.s64 n (Nat.le_refl _))
    have xh := x_harmFrom m2 h60 r.s64 (Nat.zero_le n)
    rw [show (fun k => harmN T (S (0 + k + 1))) = (fun k => harmN T (S (k + 1))) from by funext k; rw [Nat.zero_add], Nat.sub_zero] at xh
    have xh' : mn_X 135 [.ref 63, .int 0] h2 (some (.int (hsN T S n))) h2 := xh
    have xy := x_X8_yesterdayNow m2 h60
    have v : vp_in (nI j) 96 := vp_in_nI (by omega) (by decide)
    have cs : j = 0 ∨ j = 1 ∨ j = 2 ∨ j = 3 ∨ j = 4 ∨ j = 5 ∨ j = 6 ∨ j = 7 ∨ j = 8 ∨ j = 9 ∨ j = 10 ∨ j = 11 ∨ j = 12 := by omega
    rcases cs with rfl | rfl | rfl | rfl | rfl | rfl | rfl | rfl | rfl | rfl | rfl | rfl | rfl
    · refine PAIR.q (r := nI (T 0 0)) i ?_ (trF.rf h) ?_ b
      · simp only [e_X7_told, b_X7_told_0, b_X7_told_1_d, b_X7_told_1_0, b_X7_told_1_1, b_X7_told_1_2, b_X7_told_1_3, b_X7_told_1_4, b_X7_told_1_5, b_X7_told_1_6, b_X7_told_1_7, b_X7_told_1_8, b_X7_told_1_9, b_X7_told_1_10, b_X7_told_1_11, b_X7_told_1_12, b_X7_told_68, b_X7_told_76, b_X7_told_84, b_X7_told_94, b_X7_told_95, b_X7_told_105, b_X7_told_106, b_X7_told_114, b_X7_told_121, b_X7_told_122, b_X7_told_130, b_X7_told_137, b_X7_told_138, b_X7_told_146, b_X7_told_154, b_X7_told_162, b_X7_told_169, b_X7_told_170, b_X7_told_176, b_X7_told_179, b_X7_told_180, i10, i00, i01, i11, not_true_eq_false, not_false_eq_true, if_true, if_false, true_or, or_true, true_and, and_true, and_false, false_and, nv0, hT, r.ct.1.1]
      · simp only [nv0] at v xi
        simp +decide only [e_X8_told, b_X8_told_0, b_X8_told_7, b_X8_told_10, b_X8_told_37, b_X8_told_41, b_X8_told_46, b_X8_told_153, i10, i00, i01, i11, not_true_eq_false, not_false_eq_true, if_true, if_false, true_or, or_true, true_and, and_true, and_false, false_and, Int32.reduceLT, Int32.reduceLE, Int32.reduceAdd, Int32.reduceSub, nv0, mn_cl_i (xi h), x_toldsum, mn_cl_v a, v, nl0, m2.1.1.1]
    · refine PAIR.q (r := nI (T 0 1)) i ?_ (trF.rf h) ?_ b
      · simp only [e_X7_told, b_X7_told_0, b_X7_told_1_d, b_X7_told_1_0, b_X7_told_1_1, b_X7_told_1_2, b_X7_told_1_3, b_X7_told_1_4, b_X7_told_1_5, b_X7_told_1_6, b_X7_told_1_7, b_X7_told_1_8, b_X7_told_1_9, b_X7_told_1_10, b_X7_told_1_11, b_X7_told_1_12, b_X7_told_68, b_X7_told_76, b_X7_told_84, b_X7_told_94, b_X7_told_95, b_X7_told_105, b_X7_told_106, b_X7_told_114, b_X7_told_121, b_X7_told_122, b_X7_told_130, b_X7_told_137, b_X7_told_138, b_X7_told_146, b_X7_told_154, b_X7_told_162, b_X7_told_169, b_X7_told_170, b_X7_told_176, b_X7_told_179, b_X7_told_180, i10, i00, i01, i11, not_true_eq_false, not_false_eq_true, if_true, if_false, true_or, or_true, true_and, and_true, and_false, false_and, nv1, hT, r.ct.1.2.1]
      · simp only [nv1] at v xi
        simp +decide only [e_X8_told, b_X8_told_0, b_X8_told_7, b_X8_told_10, b_X8_told_37, b_X8_told_41, b_X8_told_46, b_X8_told_153, i10, i00, i01, i11, not_true_eq_false, not_false_eq_true, if_true, if_false, true_or, or_true, true_and, and_true, and_false, false_and, Int32.reduceLT, Int32.reduceLE, Int32.reduceAdd, Int32.reduceSub, nv1, mn_cl_i (xi h), x_toldsum, mn_cl_v a, v, nl1, m2.1.1.2.1]
    · refine PAIR.q (r := nI (T 0 2)) i ?_ (trF.rf h) ?_ b
      · simp only [e_X7_told, b_X7_told_0, b_X7_told_1_d, b_X7_told_1_0, b_X7_told_1_1, b_X7_told_1_2, b_X7_told_1_3, b_X7_told_1_4, b_X7_told_1_5, b_X7_told_1_6, b_X7_told_1_7, b_X7_told_1_8, b_X7_told_1_9, b_X7_told_1_10, b_X7_told_1_11, b_X7_told_1_12, b_X7_told_68, b_X7_told_76, b_X7_told_84, b_X7_told_94, b_X7_told_95, b_X7_told_105, b_X7_told_106, b_X7_told_114, b_X7_told_121, b_X7_told_122, b_X7_told_130, b_X7_told_137, b_X7_told_138, b_X7_told_146, b_X7_told_154, b_X7_told_162, b_X7_told_169, b_X7_told_170, b_X7_told_176, b_X7_told_179, b_X7_told_180, i10, i00, i01, i11, not_true_eq_false, not_false_eq_true, if_true, if_false, true_or, or_true, true_and, and_true, and_false, false_and, nv2, hT, mn_cl_i xq8, r.ct.1.2.2.1]
      · simp only [nv2] at v xi
        simp +decide only [e_X8_told, b_X8_told_0, b_X8_told_7, b_X8_told_10, b_X8_told_37, b_X8_told_41, b_X8_told_46, b_X8_told_153, i10, i00, i01, i11, not_true_eq_false, not_false_eq_true, if_true, if_false, true_or, or_true, true_and, and_true, and_false, false_and, Int32.reduceLT, Int32.reduceLE, Int32.reduceAdd, Int32.reduceSub, nv2, mn_cl_i (xi h), x_toldsum, mn_cl_v a, v, nl2, m2.1.1.2.2.1]
    · refine PAIR.q (r := nI (T 0 3)) i ?_ (trF.rf h) ?_ b
      · simp only [e_X7_told, b_X7_told_0, b_X7_told_1_d, b_X7_told_1_0, b_X7_told_1_1, b_X7_told_1_2, b_X7_told_1_3, b_X7_told_1_4, b_X7_told_1_5, b_X7_told_1_6, b_X7_told_1_7, b_X7_told_1_8, b_X7_told_1_9, b_X7_told_1_10, b_X7_told_1_11, b_X7_told_1_12, b_X7_told_68, b_X7_told_76, b_X7_told_84, b_X7_told_94, b_X7_told_95, b_X7_told_105, b_X7_told_106, b_X7_told_114, b_X7_told_121, b_X7_told_122, b_X7_told_130, b_X7_told_137, b_X7_told_138, b_X7_told_146, b_X7_told_154, b_X7_told_162, b_X7_told_169, b_X7_told_170, b_X7_told_176, b_X7_told_179, b_X7_told_180, i10, i00, i01, i11, not_true_eq_false, not_false_eq_true, if_true, if_false, true_or, or_true, true_and, and_true, and_false, false_and, nv3, hT, mn_cl_i xq12, r.ct.1.2.2.2.1]
      · simp only [nv3] at v xi
        simp +decide only [e_X8_told, b_X8_told_0, b_X8_told_7, b_X8_told_10, b_X8_told_37, b_X8_told_41, b_X8_told_46, b_X8_told_153, i10, i00, i01, i11, not_true_eq_false, not_false_eq_true, if_true, if_false, true_or, or_true, true_and, and_true, and_false, false_and, Int32.reduceLT, Int32.reduceLE, Int32.reduceAdd, Int32.reduceSub, nv3, mn_cl_i (xi h), x_toldsum, mn_cl_v a, v, nl3, m2.1.1.2.2.2.1]
    · refine PAIR.q (r := nI (T 0 4)) i ?_ (trF.rf h) ?_ b
      · simp only [e_X7_told, b_X7_told_0, b_X7_told_1_d, b_X7_told_1_0, b_X7_told_1_1, b_X7_told_1_2, b_X7_told_1_3, b_X7_told_1_4, b_X7_told_1_5, b_X7_told_1_6, b_X7_told_1_7, b_X7_told_1_8, b_X7_told_1_9, b_X7_told_1_10, b_X7_told_1_11, b_X7_told_1_12, b_X7_told_68, b_X7_told_76, b_X7_told_84, b_X7_told_94, b_X7_told_95, b_X7_told_105, b_X7_told_106, b_X7_told_114, b_X7_told_121, b_X7_told_122, b_X7_told_130, b_X7_told_137, b_X7_told_138, b_X7_told_146, b_X7_told_154, b_X7_told_162, b_X7_told_169, b_X7_told_170, b_X7_told_176, b_X7_told_179, b_X7_told_180, i10, i00, i01, i11, not_true_eq_false, not_false_eq_true, if_true, if_false, true_or, or_true, true_and, and_true, and_false, false_and, nv4, hT, r.ct.1.2.2.2.2]
      · simp only [nv4] at v xi
        simp +decide only [e_X8_told, b_X8_told_0, b_X8_told_7, b_X8_told_10, b_X8_told_37, b_X8_told_41, b_X8_told_46, b_X8_told_153, i10, i00, i01, i11, not_true_eq_false, not_false_eq_true, if_true, if_false, true_or, or_true, true_and, and_true, and_false, false_and, Int32.reduceLT, Int32.reduceLE, Int32.reduceAdd, Int32.reduceSub, nv4, mn_cl_i (xi h), x_toldsum, mn_cl_v a, v, nl4, m2.1.1.2.2.2.2]
    · refine PAIR.q (r := h 1 1) i ?_ (trF.rf h) ?_ b
      · simp only [e_X7_told, b_X7_told_0, b_X7_told_1_d, b_X7_told_1_0, b_X7_told_1_1, b_X7_told_1_2, b_X7_told_1_3, b_X7_told_1_4, b_X7_told_1_5, b_X7_told_1_6, b_X7_told_1_7, b_X7_told_1_8, b_X7_told_1_9, b_X7_told_1_10, b_X7_told_1_11, b_X7_told_1_12, b_X7_told_68, b_X7_told_76, b_X7_told_84, b_X7_told_94, b_X7_told_95, b_X7_told_105, b_X7_told_106, b_X7_told_114, b_X7_told_121, b_X7_told_122, b_X7_told_130, b_X7_told_137, b_X7_told_138, b_X7_told_146, b_X7_told_154, b_X7_told_162, b_X7_told_169, b_X7_told_170, b_X7_told_176, b_X7_told_179, b_X7_told_180, i10, i00, i01, i11, not_true_eq_false, not_false_eq_true, if_true, if_false, true_or, or_true, true_and, and_true, and_false, false_and, nv5, mn_cl_i xl]
      · simp only [nv5] at xi
        simp +decide only [e_X8_told, b_X8_told_0, b_X8_told_7, b_X8_told_10, b_X8_told_37, b_X8_told_41, b_X8_told_55, b_X8_told_60, b_X8_told_153, i10, i00, i01, i11, not_true_eq_false, not_false_eq_true, if_true, if_false, true_or, or_true, true_and, and_true, and_false, false_and, Int32.reduceLT, Int32.reduceLE, Int32.reduceAdd, Int32.reduceSub, nv5, mn_cl_i (xi h), x_toldsum, mn_cl_v a, b.2 1 (by decide), rx1, rx2]
    · refine PAIR.q (r := nI n) i ?_ (trF.rf h) ?_ b
      · simp only [e_X7_told, b_X7_told_0, b_X7_told_1_d, b_X7_told_1_0, b_X7_told_1_1, b_X7_told_1_2, b_X7_told_1_3, b_X7_told_1_4, b_X7_told_1_5, b_X7_told_1_6, b_X7_told_1_7, b_X7_told_1_8, b_X7_told_1_9, b_X7_told_1_10, b_X7_told_1_11, b_X7_told_1_12, b_X7_told_68, b_X7_told_76, b_X7_told_84, b_X7_told_94, b_X7_told_95, b_X7_told_105, b_X7_told_106, b_X7_told_114, b_X7_told_121, b_X7_told_122, b_X7_told_130, b_X7_told_137, b_X7_told_138, b_X7_told_146, b_X7_told_154, b_X7_told_162, b_X7_told_169, b_X7_told_170, b_X7_told_176, b_X7_told_179, b_X7_told_180, i10, i00, i01, i11, not_true_eq_false, not_false_eq_true, if_true, if_false, true_or, or_true, true_and, and_true, and_false, false_and, nv6, r.1.2.2.2.2.2.1]
      · simp only [nv6] at xi
        simp +decide only [e_X8_told, b_X8_told_0, b_X8_told_7, b_X8_told_10, b_X8_told_37, b_X8_told_41, b_X8_told_55, b_X8_told_67, b_X8_told_73, b_X8_told_153, i10, i00, i01, i11, not_true_eq_false, not_false_eq_true, if_true, if_false, true_or, or_true, true_and, and_true, and_false, false_and, Int32.reduceLT, Int32.reduceLE, Int32.reduceAdd, Int32.reduceSub, nv6, mn_cl_i (xi h), x_toldsum, mn_cl_v a, nl0, m2.2.1]
    · refine PAIR.q (r := nI (S n)) i ?_ (trF.rf h) ?_ b
      · simp only [e_X7_told, b_X7_told_0, b_X7_told_1_d, b_X7_told_1_0, b_X7_told_1_1, b_X7_told_1_2, b_X7_told_1_3, b_X7_told_1_4, b_X7_told_1_5, b_X7_told_1_6, b_X7_told_1_7, b_X7_told_1_8, b_X7_told_1_9, b_X7_told_1_10, b_X7_told_1_11, b_X7_told_1_12, b_X7_told_68, b_X7_told_76, b_X7_told_84, b_X7_told_94, b_X7_told_95, b_X7_told_105, b_X7_told_106, b_X7_told_114, b_X7_told_121, b_X7_told_122, b_X7_told_130, b_X7_told_137, b_X7_told_138, b_X7_told_146, b_X7_told_154, b_X7_told_162, b_X7_told_169, b_X7_told_170, b_X7_told_176, b_X7_told_179, b_X7_told_180, i10, i00, i01, i11, not_true_eq_false, not_false_eq_true, if_true, if_false, true_or, or_true, true_and, and_true, and_false, false_and, nv7, mn_cl_i (x_dayBefore r.1)]
      · simp only [nv7] at xi
        simp +decide only [e_X8_told, b_X8_told_0, b_X8_told_7, b_X8_told_10, b_X8_told_37, b_X8_told_41, b_X8_told_55, b_X8_told_67, b_X8_told_82, b_X8_told_88, b_X8_told_92, b_X8_told_153, i10, i00, i01, i11, not_true_eq_false, not_false_eq_true, if_true, if_false, true_or, or_true, true_and, and_true, and_false, false_and, Int32.reduceLT, Int32.reduceLE, Int32.reduceAdd, Int32.reduceSub, nv7, mn_cl_i (xi h), x_toldsum, mn_cl_v a, mn_cl_i xy]
    · refine PAIR.q (r := hsN T S n) i ?_ (trF.rf h) ?_ b
      · simp only [e_X7_told, b_X7_told_0, b_X7_told_1_d, b_X7_told_1_0, b_X7_told_1_1, b_X7_told_1_2, b_X7_told_1_3, b_X7_told_1_4, b_X7_told_1_5, b_X7_told_1_6, b_X7_told_1_7, b_X7_told_1_8, b_X7_told_1_9, b_X7_told_1_10, b_X7_told_1_11, b_X7_told_1_12, b_X7_told_68, b_X7_told_76, b_X7_told_84, b_X7_told_94, b_X7_told_95, b_X7_told_105, b_X7_told_106, b_X7_told_114, b_X7_told_121, b_X7_told_122, b_X7_told_130, b_X7_told_137, b_X7_told_138, b_X7_told_146, b_X7_told_154, b_X7_told_162, b_X7_told_169, b_X7_told_170, b_X7_told_176, b_X7_told_179, b_X7_told_180, i10, i00, i01, i11, not_true_eq_false, not_false_eq_true, if_true, if_false, true_or, or_true, true_and, and_true, and_false, false_and, nv8, r.2.2.2.2.1]
      · simp only [nv8] at xi
        simp +decide only [e_X8_told, b_X8_told_0, b_X8_told_7, b_X8_told_10, b_X8_told_37, b_X8_told_41, b_X8_told_55, b_X8_told_67, b_X8_told_82, b_X8_told_95, b_X8_told_101, b_X8_told_106, b_X8_told_153, i10, i00, i01, i11, not_true_eq_false, not_false_eq_true, if_true, if_false, true_or, or_true, true_and, and_true, and_false, false_and, Int32.reduceLT, Int32.reduceLE, Int32.reduceAdd, Int32.reduceSub, nv8, mn_cl_i (xi h), x_toldsum, mn_cl_v a, mn_cl_i xh']
    · refine PAIR.q (r := nI df) i ?_ (trF.rf h) ?_ b
      · simp only [e_X7_told, b_X7_told_0, b_X7_told_1_d, b_X7_told_1_0, b_X7_told_1_1, b_X7_told_1_2, b_X7_told_1_3, b_X7_told_1_4, b_X7_told_1_5, b_X7_told_1_6, b_X7_told_1_7, b_X7_told_1_8, b_X7_told_1_9, b_X7_told_1_10, b_X7_told_1_11, b_X7_told_1_12, b_X7_told_68, b_X7_told_76, b_X7_told_84, b_X7_told_94, b_X7_told_95, b_X7_told_105, b_X7_told_106, b_X7_told_114, b_X7_told_121, b_X7_told_122, b_X7_told_130, b_X7_told_137, b_X7_told_138, b_X7_told_146, b_X7_told_154, b_X7_told_162, b_X7_told_169, b_X7_told_170, b_X7_told_176, b_X7_told_179, b_X7_told_180, i10, i00, i01, i11, not_true_eq_false, not_false_eq_true, if_true, if_false, true_or, or_true, true_and, and_true, and_false, false_and, nv9, r.1.2.2.2.2.2.2.2.2.2.1]
      · simp only [nv9] at xi
        simp +decide only [e_X8_told, b_X8_told_0, b_X8_told_7, b_X8_told_10, b_X8_told_37, b_X8_told_41, b_X8_told_55, b_X8_told_67, b_X8_told_82, b_X8_told_95, b_X8_told_109, b_X8_told_115, b_X8_told_153, i10, i00, i01, i11, not_true_eq_false, not_false_eq_true, if_true, if_false, true_or, or_true, true_and, and_true, and_false, false_and, Int32.reduceLT, Int32.reduceLE, Int32.reduceAdd, Int32.reduceSub, nv9, mn_cl_i (xi h), x_toldsum, mn_cl_v a, nl1, m2.2.2.1]
    · refine PAIR.q (r := nI my) i ?_ (trF.rf h) ?_ b
      · simp only [e_X7_told, b_X7_told_0, b_X7_told_1_d, b_X7_told_1_0, b_X7_told_1_1, b_X7_told_1_2, b_X7_told_1_3, b_X7_told_1_4, b_X7_told_1_5, b_X7_told_1_6, b_X7_told_1_7, b_X7_told_1_8, b_X7_told_1_9, b_X7_told_1_10, b_X7_told_1_11, b_X7_told_1_12, b_X7_told_68, b_X7_told_76, b_X7_told_84, b_X7_told_94, b_X7_told_95, b_X7_told_105, b_X7_told_106, b_X7_told_114, b_X7_told_121, b_X7_told_122, b_X7_told_130, b_X7_told_137, b_X7_told_138, b_X7_told_146, b_X7_told_154, b_X7_told_162, b_X7_told_169, b_X7_told_170, b_X7_told_176, b_X7_told_179, b_X7_told_180, i10, i00, i01, i11, not_true_eq_false, not_false_eq_true, if_true, if_false, true_or, or_true, true_and, and_true, and_false, false_and, nv10, r.1.2.2.2.2.2.2.2.2.2.2.2.1]
      · simp only [nv10] at xi
        simp +decide only [e_X8_told, b_X8_told_0, b_X8_told_7, b_X8_told_10, b_X8_told_37, b_X8_told_41, b_X8_told_55, b_X8_told_67, b_X8_told_82, b_X8_told_95, b_X8_told_109, b_X8_told_124, b_X8_told_130, b_X8_told_153, i10, i00, i01, i11, not_true_eq_false, not_false_eq_true, if_true, if_false, true_or, or_true, true_and, and_true, and_false, false_and, Int32.reduceLT, Int32.reduceLE, Int32.reduceAdd, Int32.reduceSub, nv10, mn_cl_i (xi h), x_toldsum, mn_cl_v a, nl2, m2.2.2.2.1]
    · refine PAIR.q (r := cntE (h 11)) i ?_ (trF.rf h) ?_ b
      · simp only [e_X7_told, b_X7_told_0, b_X7_told_1_d, b_X7_told_1_0, b_X7_told_1_1, b_X7_told_1_2, b_X7_told_1_3, b_X7_told_1_4, b_X7_told_1_5, b_X7_told_1_6, b_X7_told_1_7, b_X7_told_1_8, b_X7_told_1_9, b_X7_told_1_10, b_X7_told_1_11, b_X7_told_1_12, b_X7_told_68, b_X7_told_76, b_X7_told_84, b_X7_told_94, b_X7_told_95, b_X7_told_105, b_X7_told_106, b_X7_told_114, b_X7_told_121, b_X7_told_122, b_X7_told_130, b_X7_told_137, b_X7_told_138, b_X7_told_146, b_X7_told_154, b_X7_told_162, b_X7_told_169, b_X7_told_170, b_X7_told_176, b_X7_told_179, b_X7_told_180, i10, i00, i01, i11, not_true_eq_false, not_false_eq_true, if_true, if_false, true_or, or_true, true_and, and_true, and_false, false_and, nv11, mn_cl_i (x_countAll)]
      · simp only [nv11] at xi
        simp +decide only [e_X8_told, b_X8_told_0, b_X8_told_7, b_X8_told_10, b_X8_told_37, b_X8_told_41, b_X8_told_55, b_X8_told_67, b_X8_told_82, b_X8_told_95, b_X8_told_109, b_X8_told_124, b_X8_told_139, b_X8_told_145, b_X8_told_153, i10, i00, i01, i11, not_true_eq_false, not_false_eq_true, if_true, if_false, true_or, or_true, true_and, and_true, and_false, false_and, Int32.reduceLT, Int32.reduceLE, Int32.reduceAdd, Int32.reduceSub, nv11, mn_cl_i (xi h), x_toldsum, mn_cl_v a, rs.cnt]
    · refine PAIR.q (r := nI (mn_pop (fitM T df my 9 0 n (S n) none) 64)) i ?_ tf ?_ b4
      · simp only [e_X7_told, b_X7_told_0, b_X7_told_1_d, b_X7_told_1_0, b_X7_told_1_1, b_X7_told_1_2, b_X7_told_1_3, b_X7_told_1_4, b_X7_told_1_5, b_X7_told_1_6, b_X7_told_1_7, b_X7_told_1_8, b_X7_told_1_9, b_X7_told_1_10, b_X7_told_1_11, b_X7_told_1_12, b_X7_told_68, b_X7_told_76, b_X7_told_84, b_X7_told_94, b_X7_told_95, b_X7_told_105, b_X7_told_106, b_X7_told_114, b_X7_told_121, b_X7_told_122, b_X7_told_130, b_X7_told_137, b_X7_told_138, b_X7_told_146, b_X7_told_154, b_X7_told_162, b_X7_told_169, b_X7_told_170, b_X7_told_176, b_X7_told_179, b_X7_told_180, i10, i00, i01, i11, not_true_eq_false, not_false_eq_true, if_true, if_false, true_or, or_true, true_and, and_true, and_false, false_and, nv12, mn_cl_l xf', mn_cl_i (x_lbitCount (fitM_lt _ _ _ _ _ _ _ _))]
      · simp only [nv12] at xi
        simp +decide only [e_X8_told, b_X8_told_0, b_X8_told_7, b_X8_told_10, b_X8_told_37, b_X8_told_41, b_X8_told_55, b_X8_told_67, b_X8_told_82, b_X8_told_95, b_X8_told_109, b_X8_told_124, b_X8_told_139, b_X8_told_149, b_X8_told_153, i10, i00, i01, i11, not_true_eq_false, not_false_eq_true, if_true, if_false, true_or, or_true, true_and, and_true, and_false, false_and, Int32.reduceLT, Int32.reduceLE, Int32.reduceAdd, Int32.reduceSub, nv12, mn_cl_i (xi h3), x_toldsum, mn_cl_v a4, mn_cl_i xx]
  · have xi := x_in_n (h := h) (n := 13) (m := 12) rfl (by decide) x
    rw [in_false q] at xi
    have xi' : mn_X 114 [.int x, .int 0, .int 12] h (some (.int 0)) h := xi
    refine PAIR.q (r := -1000000002) i ?_ (trF.rf h) ?_ (mdF.rf h)
    · rw [e_X7_told, b_X7_told_0, b_X7_told_1_d (tsw_out (m := 12) rfl (by decide) q), b_X7_told_180]
      exact ⟨rfl, rfl⟩
    · simp only [e_X8_told, b_X8_told_0, b_X8_told_7, b_X8_told_10, i10, i00, i01, i11, not_true_eq_false, not_false_eq_true, if_true, if_false, true_or, or_true, true_and, and_true, and_false, false_and, mn_cl_i xi']
