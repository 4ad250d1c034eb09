def pushS (S : Nat → Nat) (n d : Nat) : Nat → Nat := fun k => if k = n + 1 then d else S k
/-- only the course's own rows have changed -/
def cF (h hh : mn_H) : Prop := ∀ b, b ≠ 3 → b ≠ 4 → hh b = h b
theorem cF.rf (h : mn_H) : cF h h := fun _ _ _ => rfl
theorem cF.tr {h h1 h2 : mn_H} (a : cF h h1) (b : cF h1 h2) : cF h h2 := fun c x y => (b c x y).trans (a c x y)
theorem cF.nf {h hh : mn_H} (f : cF h hh) : NF h hh := ⟨fun b h3 h4 _ _ _ _ _ _ => f b h3 h4, fun k _ => by rw [f 63 (by decide) (by decide)]⟩
section PQ
variable {h hh : mn_H} {T : TW} {S S' : Nat → Nat} {n df my sd d n' df' my' sd' t : Nat}
theorem pushS_old {k : Nat} (hk : k ≤ n) : pushS S n d k = S k := by unfold pushS; rw [if_neg (by omega)]
theorem pushS_new : pushS S n d (n + 1) = d := by unfold pushS; rw [if_pos rfl]
theorem hsN_push : hsN T (pushS S n d) (n + 1) = hsN T S n + harmN T d := by
  rw [hsN_s, pushS_new, hsN_cong (S' := S) (fun k hk => pushS_old (by omega))]
theorem CST.push (c : CST h 3 4 T S n df my sd) (e3 : ∀ k, hh 3 k = if k = 2 then nI (n + 1) else if k = 3 then hsN T S n + harmN T d else h 3 k) (e4 : ∀ k, hh 4 k = if k = n then nI d else h 4 k) : CST hh 3 4 T (pushS S n d) (n + 1) df my sd := by
  obtain ⟨c1, c2, c3, c4, c5, c6, c7⟩ := c
  refine ⟨by rw [e3, if_neg (by decide), if_neg (by decide), c1, pushS_old (Nat.zero_le _)], by rw [e3, if_pos rfl], by rw [e3, if_neg (by decide), if_pos rfl, hsN_push], by rw [e3, if_neg (by decide), if_neg (by decide), c4], by rw [e3, if_neg (by decide), if_neg (by decide), c5], by rw [e3, if_neg (by decide), if_neg (by decide), c6], fun k hk => ?_⟩
  rw [e4]
  by_cases o : k = n
  · subst o; rw [if_pos rfl, pushS_new]
  · rw [if_neg o, c7 k (by omega), pushS_old (by omega)]
theorem MST.push (c : MST h S n df my sd) (e : ∀ k, hh 67 k = if k = 4 + (n + 1) then nI d else if k = 0 then nI (n + 1) else h 67 k) : MST hh (pushS S n d) (n + 1) df my sd := by
  obtain ⟨c1, c2, c3, c4, c5⟩ := c
  refine ⟨by rw [e, if_neg (by omega), if_pos rfl], by rw [e, if_neg (by omega), if_neg (by omega), c2], by rw [e, if_neg (by omega), if_neg (by omega), c3], by rw [e, if_neg (by omega), if_neg (by omega), c4], fun k hk => ?_⟩
  rw [e]
  by_cases o : k = n + 1
  · subst o; rw [if_pos rfl, pushS_new]
  · rw [if_neg (by omega), if_neg (by omega), c5 k (by omega), pushS_old (by omega)]
theorem BST.push (b : BST T S n df my sd) (hn : n < 60) (hd : d < 64) : BST T (pushS S n d) (n + 1) df my sd := by
  obtain ⟨b1, b2, b3⟩ := b
  refine ⟨by omega, fun k hk => ?_, b3⟩
  by_cases o : k = n + 1
  · subst o; rw [pushS_new]; exact hd
  · rw [pushS_old (by omega)]; exact b2 k (by omega)
theorem x_pass (c : CST h 3 4 T S n df my sd) (hn : n < 60) (d : Nat) : ∃ h', mn_X 7 [.ref 3, .int (nI d), .int (harmN T d)] h none h' ∧ cF h h' ∧ CST h' 3 4 T (pushS S n d) (n + 1) df my sd := by
  have hC : mn_isC 3 := Or.inl rfl
  refine ⟨mn_up (mn_up (mn_up h 4 n (nI d)) 3 2 (nI (n + 1))) 3 3 (hsN T S n + harmN T d), ?_, fun b h3 h4 => ?_, ?_⟩
  · rw [e_X1_pass, b_X1_pass_0 hC, c.2.1, if_neg (show ¬ (60 : Int32) ≤ nI n from nI_ge (b := 60) hn (by decide)), b_X1_pass_9 hC (by rw [c.2.1]; exact vp_in_nI hn (by decide)), b_X1_pass_39 hC]
    refine ⟨rfl, ?_⟩
    rw [c.2.1, nI_clamp (by omega), mn_up_row h (3 + 1) _ _ (show 3 ≠ 3 + 1 by decide), c.2.1, nI_1, mn_up_get (mn_up h (3 + 1) n (nI d)) 3 2 (nI (n + 1)) 3 3, if_neg (by decide), mn_up_row h (3 + 1) _ _ (show 3 ≠ 3 + 1 by decide), c.2.2.1]
  · rw [mn_up_row _ _ _ _ h3, mn_up_row _ _ _ _ h3, mn_up_row _ _ _ _ h4]
  · refine c.push (fun k => ?_) (fun k => ?_)
    · rw [mn_up_get, mn_up_get, mn_up_row _ _ _ _ (by decide)]
      by_cases o : k = 3
      · subst o; simp
      · by_cases o2 : k = 2 <;> simp [o, o2]
    · rw [mn_up_row _ _ _ _ (by decide), mn_up_row _ _ _ _ (by decide), mn_up_get]
      by_cases o : k = n <;> simp [o]
theorem x_takeBack (c : CST h 3 4 T S (n + 1) df my sd) (hn : n < 60) : ∃ h', mn_X 8 [.ref 3, .int (harmN T (S (n + 1)))] h none h' ∧ cF h h' ∧ CST h' 3 4 T S n df my sd := by
  have hC : mn_isC 3 := Or.inl rfl
  refine ⟨mn_up (mn_up h 3 2 (nI n)) 3 3 (hsN T S n), ?_, fun b h3 h4 => ?_, ?_⟩
  · rw [e_X1_takeBack, b_X1_takeBack_0 hC, c.2.1, if_neg (nI_nle (by omega) (by omega)), b_X1_takeBack_7 hC, b_X1_takeBack_27 hC]
    refine ⟨rfl, ?_⟩
    rw [c.2.1, nI_pred, mn_up_get h 3 2 (nI n) 3 3, if_neg (by decide), c.2.2.1, hsN_s, Int32.add_sub_cancel]
  · rw [mn_up_row _ _ _ _ h3, mn_up_row _ _ _ _ h3]
  · obtain ⟨c1, c2, c3, c4, c5, c6, c7⟩ := c
    have e : ∀ k, mn_up (mn_up h 3 2 (nI n)) 3 3 (hsN T S n) 3 k = if k = 3 then hsN T S n else if k = 2 then nI n else h 3 k := fun k => by
      rw [mn_up_get, mn_up_get]; by_cases o : k = 3 <;> by_cases o2 : k = 2 <;> simp [o, o2]
    refine ⟨by rw [e]; exact c1, by rw [e]; rfl, by rw [e]; rfl, by rw [e]; exact c4, by rw [e]; exact c5, by rw [e]; exact c6, fun k hk => ?_⟩
    rw [mn_up_row _ _ _ _ (by decide), mn_up_row _ _ _ _ (by decide)]
    exact c7 k (by omega)
theorem CN.cF (f : cF h hh) (c0 : CN h t T S n df my) (c : CST hh 3 4 T S' n' df' my' sd') (b : BST T S' n' df' my' sd') : CN hh t T S' n' df' my' := by
  obtain ⟨c1, c2, c3, c4, -⟩ := c0
  have p6 := mn_pw6 c3
  obtain ⟨b1, b2, b3, b4, b5⟩ := b
  refine ⟨?_, c2, c3, CT_rows (fun k hk => f _ (by rcases c2 with rfl | rfl <;> omega) (by rcases c2 with rfl | rfl <;> omega)) c4, c.1, c.2.1, b1, c.2.2.2.2.2.2, b2, c.2.2.2.1, by omega, c.2.2.2.2.1, by omega⟩
  rw [← c1]; unfold mn_hr; rw [f 0 (by decide) (by decide)]
theorem MN.rows (e65 : hh 65 = h 65) (e67 : hh 67 = h 67) (m : MN h T S n df my) : MN hh T S n df my := by
  obtain ⟨m1, m2, m3, m4, m5⟩ := m
  exact ⟨MT_row e65 m1, by rw [e67]; exact m2, by rw [e67]; exact m3, by rw [e67]; exact m4, by rw [e67]; exact m5⟩
theorem x_tgM (m : MN h T S n df my) (hw : TWF T) (hn : n ≤ 60) (hs : ∀ k, k ≤ n → S k < 64) (hd : df < 64) (hm : my < 64) : ∃ h1 h2, mn_X 141 [.ref 63] h none h1 ∧ mn_X 147 [.ref 63] h1 none h2 ∧ mdF h h2 ∧ RW h2 (posM T df my 9 0 n (S n)) := by
  obtain ⟨h1, a, b, c⟩ := x_X8_trying m hn
  have m1 := m.md b
  obtain ⟨h2, d, e, f⟩ := x_X8_gathers m1.1 hw c hd hm (by omega) (by omega) (hs n (Nat.le_refl _))
  exact ⟨h1, h2, a, d, b.tr e.md, f⟩
theorem CST.rows {c d : Nat} (e3 : hh c = h c) (e4 : hh d = h d) (q : CST h c d T S n df my sd) : CST hh c d T S n df my sd := by
  unfold CST at q ⊢; rw [e3, e4]; exact q
theorem MST.row (e : hh 67 = h 67) (q : MST h S n df my sd) : MST hh S n df my sd := by
  unfold MST at q ⊢; rw [e]; exact q
end PQ
theorem nI_nm1 {k : Nat} (hk : k < 2 ^ 31) : ¬ nI k = -1 := fun e => nI_pos hk (by rw [e]; decide)
theorem p_live (x : Int32) : PAIR 76 155 [.int x] := by
  intro h i
  obtain ⟨T, S, n, df, my, sd, r, ri, rs, rx⟩ := id i
  obtain ⟨h1, xp, tf⟩ := x_possibleDays r.1
  have r1 := tf.sf.rn r
  have h60 := r.n60
  have pl := posM_lt T df my 9 0 n (S n)
  obtain ⟨m, em⟩ : ∃ m, m = posM T df my 9 0 n (S n) := ⟨_, rfl⟩
  rw [← em] at xp pl
  have l := mn_pop_le m 64
  rcases mn_rng x (mn_pop m 64) (by omega) with ⟨k, hk, rfl⟩ | q
  · obtain ⟨d, hd, hb, e⟩ := mn_kth 64 hk
    have ned := nI_nm1 (show d < 2 ^ 31 by omega)
    have xda := x_dayAt_some (h := h1) pl hd hb e
    by_cases o : n < 60
    · have xh := x_X5_harmOf r1.hT r1.ct hd
      obtain ⟨h2, xs, f2, c2⟩ := x_pass r1.cst o d
      have m2 : MN h2 T S n df my := r1.2.1.rows (f2 65 (by decide) (by decide)) (f2 67 (by decide) (by decide))
      obtain ⟨h3, h4, a, b, f, w⟩ := x_tgM m2 r1.tw h60 r1.s64 r1.df64 r1.my64
      rw [← em] at w
      have m4 : MST h4 S n df my sd := (r1.mst.row (f2 67 (by decide) (by decide))).row (f.1 67 (by decide) (by decide) (by decide))
      have xi := x_in_rng (h := h4) (x := nI k) (n := mn_pop m 64) (by omega)
      rw [in_true hk (by omega)] at xi
      have nl : nI n < 60 := nI_lt (b := 60) o (by decide)
      have ne6 : ¬ nI n = 60 := fun e => by rw [e] at nl; exact absurd nl (by decide)
      refine ⟨nI d, h2, mn_up (mn_up h4 67 0 (nI (n + 1))) 67 (4 + (n + 1)) (nI d), ?_, ?_, ?_⟩
      · simp only [e_X7_live, b_X7_live_0, b_X7_live_4, b_X7_live_8, b_X7_live_14, b_X7_live_17, b_X7_live_29, b_X7_live_32, b_X7_live_45, b_X7_live_48, i10, i00, i01, i11, not_true_eq_false, not_false_eq_true, if_true, if_false, true_or, or_true, true_and, and_true, and_false, false_and, mn_cl_l xp, mn_cl_i xda, ned, r1.cst.2.1, nl, r1.hT, mn_cl_i xh, mn_cl_v xs]
      · simp only [e_X8_live, b_X8_live_0, b_X8_live_4, b_X8_live_8, b_X8_live_19, b_X8_live_25, i10, i00, i01, i11, not_true_eq_false, not_false_eq_true, if_true, if_false, true_or, or_true, true_and, and_true, and_false, false_and, mn_cl_v a, mn_cl_v b, w.1, mn_cl_i xi, mz_t, nl0, m4.1, ne6]
        have e0 : (mn_up h4 67 (0 : Int32).toNatClampNeg (h4 67 (0 : Int32).toNatClampNeg + 1)) = mn_up h4 67 0 (nI (n + 1)) := by rw [nl0, m4.1, nI_1]
        have e1 : (4 : Int32) + (mn_up h4 67 0 (nI (n + 1))) 67 (0 : Int32).toNatClampNeg = nI (4 + (n + 1)) := by rw [nl0, mn_up_get, if_pos ⟨rfl, rfl⟩]; exact nI_add 4 (n + 1)
        have e72 : mn_up h4 67 0 (nI (n + 1)) 72 (nI k).toNatClampNeg = nI d := by rw [mn_up_row _ _ _ _ (by decide), nI_clamp (by omega), ← e, w.2 d hd hb]
        rw [b_X8_live_39 (vp_in_nI (show k < 64 by omega) (by decide)) (by rw [e0, e1]; exact vp_in_nI (by omega) (by decide)), e0, e1, e72, nI_clamp (show 4 + (n + 1) < 2 ^ 31 by omega), mn_up_row _ 67 _ _ (show 72 ≠ 67 by decide), e72]
        exact ⟨rfl, rfl⟩
      · have f4 : NF h (mn_up (mn_up h4 67 0 (nI (n + 1))) 67 (4 + (n + 1)) (nI d)) := (((tf.sf.nf.tr f2.nf).tr f.sf.nf).up (Or.inr (Or.inr rfl))).up (Or.inr (Or.inr rfl))
        refine INV.now (S' := pushS S n d) (n' := n + 1) (df' := df) (my' := my) (sd' := sd) f4 r ri rs rx ?_ ?_ (r.bst.push o hd)
        · exact (c2.rows (f.1 3 (by decide) (by decide) (by decide)) (f.1 4 (by decide) (by decide) (by decide))).rows (by rw [mn_up_row _ _ _ _ (by decide), mn_up_row _ _ _ _ (by decide)]) (by rw [mn_up_row _ _ _ _ (by decide), mn_up_row _ _ _ _ (by decide)])
        · refine m4.push (fun k => ?_)
          rw [mn_up_get, mn_up_get]
          by_cases o1 : k = 4 + (n + 1)
          · simp [o1]
          · by_cases o2 : k = 0 <;> simp [o1, o2]
    · obtain ⟨h3, h4, a, b, f, w⟩ := x_tg r1
      rw [← em] at w
      have xi := x_in_rng (h := h4) (x := nI k) (n := mn_pop m 64) (by omega)
      rw [in_true hk (by omega)] at xi
      have en : n = 60 := by omega
      have nl : ¬ nI n < 60 := by rw [en]; decide
      have ne6 : nI n = 60 := by rw [en]; rfl
      have m4 : h4 67 0 = nI n := by rw [f.1 67 (by decide) (by decide) (by decide)]; exact r1.mst.1
      refine PAIR.q (r := -1000000004) i ?_ tf ?_ f
      · simp only [e_X7_live, b_X7_live_0, b_X7_live_4, b_X7_live_8, b_X7_live_14, b_X7_live_17, b_X7_live_29, b_X7_live_32, b_X7_live_45, b_X7_live_48, i10, i00, i01, i11, not_true_eq_false, not_false_eq_true, if_true, if_false, true_or, or_true, true_and, and_true, and_false, false_and, mn_cl_l xp, mn_cl_i xda, ned, r1.cst.2.1, nl]
      · simp only [e_X8_live, b_X8_live_0, b_X8_live_4, b_X8_live_8, b_X8_live_19, b_X8_live_22, b_X8_live_25, b_X8_live_36, b_X8_live_39, i10, i00, i01, i11, not_true_eq_false, not_false_eq_true, if_true, if_false, true_or, or_true, true_and, and_true, and_false, false_and, mn_cl_v a, mn_cl_v b, w.1, mn_cl_i xi, mz_t, nl0, m4, ne6]
  · obtain ⟨h3, h4, a, b, f, w⟩ := x_tg r1
    rw [← em] at w
    have xi := x_in_rng (h := h4) (x := x) (n := mn_pop m 64) (by omega)
    rw [in_false q] at xi
    refine PAIR.q (r := -1000000002) i ?_ tf ?_ f
    · simp only [e_X7_live, b_X7_live_0, b_X7_live_4, b_X7_live_8, b_X7_live_14, b_X7_live_17, b_X7_live_29, b_X7_live_32, b_X7_live_45, b_X7_live_48, i10, i00, i01, i11, not_true_eq_false, not_false_eq_true, if_true, if_false, true_or, or_true, true_and, and_true, and_false, false_and, mn_cl_l xp, mn_cl_i (x_dayAt_out pl q)]
    · simp only [e_X8_live, b_X8_live_0, b_X8_live_4, b_X8_live_8, b_X8_live_19, b_X8_live_22, b_X8_live_25, b_X8_live_36, b_X8_live_39, i10, i00, i01, i11, not_true_eq_false, not_false_eq_true, if_true, if_false, true_or, or_true, true_and, and_true, and_false, false_and, mn_cl_v a, mn_cl_v b, w.1, mn_cl_i xi, mz_f]
theorem x_undo {h : mn_H} {T : TW} {S : Nat → Nat} {n df my sd j : Nat} (r : RN h T S n df my sd) (hj : j ≤ n) : ∃ h', mn_E 77 20 [.ref 0, .int (nI j), .int (nI 0)] [] h (some (.int (nI (n - j)))) h' ∧ cF h h' ∧ CST h' 3 4 T S (n - j) df my sd := by
  have h60 := r.n60
  obtain ⟨b1, b2, b3⟩ := r.bst
  have key := mn_linv (n := j) (E := fun i h r h' => mn_E 77 20 [.ref 0, .int (nI j), .int (nI i)] [] h r h') (I := fun i hh => cF h hh ∧ CST hh 3 4 T S (n - i) df my sd) (P := fun r h' => r = some (.int (nI (n - j))) ∧ cF h h' ∧ CST h' 3 4 T S (n - j) df my sd) ?_ ?_ 0 h (Nat.zero_le _) ⟨cF.rf h, r.cst⟩
  · obtain ⟨rr, h', a, rfl, b, c⟩ := key
    exact ⟨h', a, b, c⟩
  · intro hh ⟨f, c⟩
    refine ⟨_, hh, ?_, rfl, f, c⟩
    show mn_E _ _ _ _ _ _ _
    rw [b_X7_undo_20, if_pos (Int32.le_refl _), b_X7_undo_52, c.2.1]
    exact ⟨rfl, rfl⟩
  · intro i hh hi ⟨f, c⟩
    obtain ⟨p, ep⟩ : ∃ p, n - i = p + 1 := ⟨n - i - 1, by omega⟩
    rw [ep] at c
    have cn := CN.cF f r.1 c ⟨by omega, fun k hk => b2 k (by omega), b3⟩
    have ehr : mn_hr hh = mn_hr h := cn.1
    have hT := r.hT
    obtain ⟨h1, x1, f1, c1⟩ := x_takeBack c (by omega)
    refine ⟨h1, ⟨f.tr f1, by rw [show n - (i + 1) = p by omega]; exact c1⟩, fun rr h' hE => ?_⟩
    rw [b_X7_undo_20, if_neg (nI_ge hi (by omega)), b_X7_undo_25 (by rw [ehr]; exact hT), mn_cl_i (x_dayBefore cn), ehr, b_X7_undo_40 hT, mn_cl_i (x_X5_harmOf hT cn.2.2.2.1 (b2 _ (by omega))), b_X7_undo_43, mn_cl_v x1, b_X7_undo_46, nI_1]
    exact hE
theorem p_undo (x : Int32) : PAIR 77 156 [.int x] := by
  intro h i
  obtain ⟨T, S, n, df, my, sd, r, ri, rs, rx⟩ := id i
  have h60 := r.n60
  have xi := fun hh => x_in_n (h := hh) (n := 61) (m := 60) rfl (by decide) x
  rcases mn_rng x 61 (by decide) with ⟨j, hj, rfl⟩ | q
  · rw [in_true hj (by omega)] at xi
    have n0 : ¬ nI j < 0 := nI_pos (by omega)
    by_cases o : j ≤ n
    · have nl : nI j ≤ nI n := nI_le o (by omega)
      obtain ⟨h1, x1, f1, c1⟩ := x_undo r o
      have m1 : MST h1 S n df my sd := r.mst.row (f1 67 (by decide) (by decide))
      refine ⟨nI (n - j), h1, mn_up h1 67 0 (nI (n - j)), ?_, ?_, ?_⟩
      · rw [e_X7_undo, b_X7_undo_0, if_neg n0, b_X7_undo_4, r.cst.2.1, if_pos nl, b_X7_undo_18]
        exact x1
      · rw [e_X8_undo, b_X8_undo_0]
        rw [show (60 : Int32) = nI 60 from rfl, mn_cl_i (xi h1), b_X8_undo_7, if_neg (by decide), b_X8_undo_10, nl0, m1.1, if_pos nl, b_X8_undo_23, nl0, m1.1, pk_sub o, mn_up_get, if_pos ⟨rfl, rfl⟩]
        exact ⟨rfl, rfl⟩
      · refine INV.now (S' := S) (n' := n - j) (df' := df) (my' := my) (sd' := sd) (f1.nf.up (Or.inr (Or.inr rfl))) r ri rs rx (c1.rows (mn_up_row _ _ _ _ (by decide)) (mn_up_row _ _ _ _ (by decide))) ?_ ?_
        · obtain ⟨m1, m2, m3, m4, m5⟩ := m1
          refine ⟨by rw [mn_up_get, if_pos ⟨rfl, rfl⟩], by rw [mn_up_get, if_neg (by decide)]; exact m2, by rw [mn_up_get, if_neg (by decide)]; exact m3, by rw [mn_up_get, if_neg (by decide)]; exact m4, fun k hk => ?_⟩
          rw [mn_up_get, if_neg (by omega)]; exact m5 k (by omega)
        · obtain ⟨b1, b2, b3⟩ := r.bst
          exact ⟨by omega, fun k hk => b2 k (by omega), b3⟩
    · have nl : ¬ nI j ≤ nI n := nI_ge (by omega) (by omega)
      refine PAIR.q (r := -1000000002) i ?_ (trF.rf h) ?_ (mdF.rf h)
      · simp only [b_X7_undo_0, b_X7_undo_4, b_X7_undo_15, e_X7_undo, i10, i00, i01, i11, not_true_eq_false, not_false_eq_true, if_true, if_false, true_or, or_true, true_and, and_true, and_false, false_and, n0, r.cst.2.1, nl]
      · rw [e_X8_undo, b_X8_undo_0, show (60 : Int32) = nI 60 from rfl, mn_cl_i (xi h), b_X8_undo_7, if_neg (by decide), b_X8_undo_10, nl0, r.mst.1, if_neg nl, b_X8_undo_20]
        exact ⟨rfl, rfl⟩
  · rw [in_false q] at xi
    refine PAIR.q (r := -1000000002) i ?_ (trF.rf h) ?_ (mdF.rf h)
    · by_cases n0 : x < 0
      · simp only [b_X7_undo_0, b_X7_undo_4, b_X7_undo_15, e_X7_undo, i10, i00, i01, i11, not_true_eq_false, not_false_eq_true, if_true, if_false, true_or, or_true, true_and, and_true, and_false, false_and, n0]
      · have nl : ¬ x ≤ nI n := by
          rcases q with q | q
          · exact absurd q n0
          · intro z
            have := Int32.le_trans q z
            exact nI_ge (show n < 61 by omega) (by decide) this
        simp only [b_X7_undo_0, b_X7_undo_4, b_X7_undo_15, e_X7_undo, i10, i00, i01, i11, not_true_eq_false, not_false_eq_true, if_true, if_false, true_or, or_true, true_and, and_true, and_false, false_and, n0, r.cst.2.1, nl]
    · rw [e_X8_undo, b_X8_undo_0, show (60 : Int32) = nI 60 from rfl, mn_cl_i (xi h), b_X8_undo_7, if_pos mz_f, b_X8_undo_20]
      exact ⟨rfl, rfl⟩
