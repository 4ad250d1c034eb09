/-- the class's town and what is so now -/
def CN (h : mn_H) (t : Nat) (T : TW) (S : Nat → Nat) (n df my : Nat) : Prop := mn_hr h = t ∧ mn_isT t ∧ TWF T ∧ CT h t T ∧ h 3 0 = nI (S 0) ∧ h 3 2 = nI n ∧ n ≤ 60 ∧ (∀ k, k < n → h 4 k = nI (S (k + 1))) ∧ (∀ k, k ≤ n → S k < 64) ∧ h 3 4 = nI df ∧ df < 64 ∧ h 3 5 = nI my ∧ my < 64
theorem CN.tr {h hh : mn_H} {t : Nat} {T : TW} {S : Nat → Nat} {n df my : Nat} (f : trF h hh) (c : CN h t T S n df my) : CN hh t T S n df my := by
  obtain ⟨c1, c2, c3, c4, c5, c6, c7, c8, c9, c10, c11, c12, c13⟩ := c
  have e0 : hh 0 = h 0 := f 0 (by omega)
  have e3 : hh 3 = h 3 := f 3 (by omega)
  have e4 : hh 4 = h 4 := f 4 (by omega)
  refine ⟨?_, c2, c3, f.ct c2 c4, by rw [e3]; exact c5, by rw [e3]; exact c6, c7, by rw [e4]; exact c8, c9, by rw [e3]; exact c10, c11, by rw [e3]; exact c12, c13⟩
  rw [← c1]; unfold mn_hr; rw [e0]
section NOW
variable {h : mn_H} {t : Nat} {T : TW} {S : Nat → Nat} {n df my : Nat}
theorem x_dayBefore (c : CN h t T S n df my) : mn_X 6 [.ref 3] h (some (.int (nI (S n)))) h := by
  obtain ⟨c1, c2, c3, c4, c5, c6, c7, c8, c9, c10, c11, c12, c13⟩ := c
  have hC : mn_isC 3 := Or.inl rfl
  rw [e_X1_dayBefore, b_X1_dayBefore_0 hC, c6]
  by_cases o : n = 0
  · subst o
    rw [if_pos (show nI 0 ≤ 0 from by decide), b_X1_dayBefore_21 hC, b_X1_dayBefore_25 hC, c5]
    exact ⟨rfl, rfl⟩
  · obtain ⟨m, rfl⟩ : ∃ m, n = m + 1 := ⟨n - 1, by omega⟩
    have e : h 3 2 - 1 = nI m := by rw [c6, nI_pred]
    rw [if_neg (nI_nle (by omega) (by omega)), b_X1_dayBefore_7 hC (by rw [e]; exact vp_in_nI (by omega) (by decide)), b_X1_dayBefore_25 hC, e, nI_clamp (by omega), c8 m (by omega)]
    exact ⟨rfl, rfl⟩
theorem x_sup0 (c : CN h t T S n df my) {df2 my2 : Nat} (h1 : df2 < 64) (h2 : my2 < 64) : ∃ h', mn_X 57 [.ref 16, .ref t, .int (nI df2), .int (nI my2), .int (-1), .int 0] h none h' ∧ trF h h' ∧ trV h' T df2 my2 9 0 := by
  obtain ⟨c1, c2, c3, c4, -⟩ := c
  obtain ⟨h', a, b, d, -⟩ := x_X6_suppose c2 c4 c3 (df := df2) (my := my2) (gr := 9) (mo := 0) h1 h2 (by omega) (Or.inr (by omega))
  exact ⟨h', a, b, d⟩
theorem x_supposeNow (c : CN h t T S n df my) : ∃ h', mn_X 102 [.ref 0] h none h' ∧ trF h h' ∧ trV h' T df my 9 0 := by
  obtain ⟨h', a, b, d⟩ := x_sup0 c c.2.2.2.2.2.2.2.2.2.2.1 c.2.2.2.2.2.2.2.2.2.2.2.2
  obtain ⟨c1, c2, c3, c4, c5, c6, c7, c8, c9, c10, c11, c12, c13⟩ := c
  refine ⟨h', ?_, b, d⟩
  rw [e_X7_supposeNow, b_X7_supposeNow_0 (by rw [c1]; exact c2), c1, c10, c12, mn_cl_v a, b_X7_supposeNow_27]
  exact ⟨rfl, rfl⟩
theorem x_possibleAs (c : CN h t T S n df my) {df2 my2 gr mo : Nat} (hv : trV h T df2 my2 gr mo) : mn_X 103 [.ref 0] h (some (.long (lN (posM T df2 my2 gr mo n (S n))))) h := by
  have xd := x_dayBefore c
  obtain ⟨c1, c2, c3, c4, c5, c6, c7, c8, c9, c10, c11, c12, c13⟩ := c
  have hT : mn_isT (mn_hr h) := by rw [c1]; exact c2
  rw [e_X7_possibleAsSupposed, b_X7_possibleAsSupposed_0 hT, mn_cl_i xd, b_X7_possibleAsSupposed_15 hT hT, c1, c6, mn_cl_i (x_X5_selvesOn c2 c4 c3 (by omega)), b_X7_possibleAsSupposed_29 c2, mn_cl_l (x_X6_possible (n := n) c2 c4 c3 hv (c9 n (Nat.le_refl _))), b_X7_possibleAsSupposed_32]
  exact ⟨rfl, rfl⟩
theorem x_possibleDays (c : CN h t T S n df my) : ∃ h', mn_X 104 [.ref 0] h (some (.long (lN (posM T df my 9 0 n (S n))))) h' ∧ trF h h' := by
  obtain ⟨h', a, b, d⟩ := x_supposeNow c
  refine ⟨h', ?_, b⟩
  rw [e_X7_possibleDays, b_X7_possibleDays_0, mn_cl_v a, b_X7_possibleDays_4, mn_cl_l (x_possibleAs (c.tr b) d), b_X7_possibleDays_8]
  exact ⟨rfl, rfl⟩
theorem x_fittingDays (c : CN h t T S n df my) {wl : Option (Nat × Nat)} (ho : wOk T wl) : ∃ h', mn_X 105 [.ref 0, .int (wI wl), .int (lI wl)] h (some (.long (lN (fitM T df my 9 0 n (S n) wl)))) h' ∧ trF h h' := by
  obtain ⟨h', a, b, d⟩ := x_supposeNow c
  have c2' := c.tr b
  have xd := x_dayBefore c2'
  obtain ⟨c1, c2, c3, c4, c5, c6, c7, c8, c9, c10, c11, c12, c13⟩ := c2'
  have hT : mn_isT (mn_hr h') := by rw [c1]; exact c2
  refine ⟨h', ?_, b⟩
  rw [e_X7_fittingDays, b_X7_fittingDays_0, mn_cl_v a, b_X7_fittingDays_4 hT, mn_cl_i xd, b_X7_fittingDays_19 hT hT, c1, c6, mn_cl_i (x_X5_selvesOn c2 c4 c3 (by omega)), b_X7_fittingDays_33 c2, mn_cl_l (x_X6_fitting (n := n) c2 c4 c3 ho d (c9 n (Nat.le_refl _))), b_X7_fittingDays_38]
  exact ⟨rfl, rfl⟩
theorem x_greatestHarmIfMay (c : CN h t T S n df my) {s : Nat} (hs : s < 64) : ∃ h', mn_X 106 [.ref 0, .int (nI s)] h (some (.int (ghN T (posM T df s 9 0 n (S n)) 64))) h' ∧ trF h h' := by
  obtain ⟨h', a, b, d⟩ := x_sup0 c (df2 := df) (my2 := s) c.2.2.2.2.2.2.2.2.2.2.1 hs
  have c' := c.tr b
  have xp := x_possibleAs c' d
  obtain ⟨c1, c2, c3, c4, c5, c6, c7, c8, c9, c10, c11, c12, c13⟩ := c
  have hT : mn_isT (mn_hr h) := by rw [c1]; exact c2
  have hT' : mn_isT (mn_hr h') := by rw [c'.1]; exact c2
  refine ⟨h', ?_, b⟩
  rw [e_X7_greatestHarmIfMay, b_X7_greatestHarmIfMay_0 hT, c1, c10, mn_cl_v a, b_X7_greatestHarmIfMay_21 hT', mn_cl_l xp, b_X7_greatestHarmIfMay_29 hT', c'.1, mn_cl_i (x_greatestHarm c2 c'.2.2.2.1 (posM_lt _ _ _ _ _ _ _)), b_X7_greatestHarmIfMay_32]
  exact ⟨rfl, rfl⟩
theorem x_isKeptOffIfDeaf (c : CN h t T S n df my) {k s : Nat} (hk : k < 6) (hs : s < 64) : ∃ h', mn_X 107 [.ref 0, .int (nI k), .int (nI s)] h (some (.int (mz (decide (tcN (posM T (df ||| s) my 9 0 n (S n)) k = 0))))) h' ∧ trF h h' := by
  have hd := c.2.2.2.2.2.2.2.2.2.2.1
  have hmy := c.2.2.2.2.2.2.2.2.2.2.2.2
  obtain ⟨h', a, b, d⟩ := x_sup0 c (df2 := df ||| s) (my2 := my) (mn_or64 hd hs) hmy
  have c' := c.tr b
  have xp := x_possibleAs c' d
  obtain ⟨c1, c2, c3, c4, c5, c6, c7, c8, c9, c10, c11, c12, c13⟩ := c
  have hT : mn_isT (mn_hr h) := by rw [c1]; exact c2
  have tl := tcN_le (posM T (df ||| s) my 9 0 n (S n)) k
  refine ⟨h', ?_, b⟩
  rw [e_X7_isKeptOffIfDeaf, b_X7_isKeptOffIfDeaf_0 hT, c1, c10, c12, nq_or (by omega) (by omega), mn_cl_v a, b_X7_isKeptOffIfDeaf_29, mn_cl_l xp, b_X7_isKeptOffIfDeaf_33, mn_cl_i (x_timesComing (posM_lt _ _ _ _ _ _ _) hk), b_X7_isKeptOffIfDeaf_37]
  by_cases o : tcN (posM T (df ||| s) my 9 0 n (S n)) k = 0
  · rw [if_neg (fun z => z (by rw [o]; rfl)), b_X7_isKeptOffIfDeaf_40, b_X7_isKeptOffIfDeaf_45 (Or.inr rfl), decide_eq_true o]
    exact ⟨rfl, rfl⟩
  · rw [if_pos (show ¬ nI _ = 0 from nI_ne0 (by omega) (by omega)), b_X7_isKeptOffIfDeaf_44, b_X7_isKeptOffIfDeaf_45 (Or.inl rfl), decide_eq_false o]
    exact ⟨rfl, rfl⟩
end NOW
