theorem p_tear : PAIR 92 178 [] := by
  intro h i
  obtain ⟨T, S, n, df, my, sd, r, ri, rs, rx⟩ := id i
  obtain ⟨h1, eh1⟩ : ∃ h1, h1 = mn_set h 11 (fun j => if j < 5 then 0 else h 11 j) := ⟨_, rfl⟩
  have x27 : mn_X 27 [.ref 10] h none h1 := by
    rw [e_X3_forgetAll, b_X3_forgetAll_0, mn_cl_v (x_fill (a := 11) (n := 5) 0 rfl (by decide) (by decide)), ← eh1, b_X3_forgetAll_8]; exact ⟨rfl, rfl⟩
  have f1 : ∀ b, b ≠ 11 → h1 b = h b := fun b q => by rw [eh1, mn_set_row, if_neg q]
  have key : ∀ j, j ≤ 5 → ∃ hh, (∀ b, b ≠ 70 → hh b = h1 b) ∧ (∀ k, hh 70 k = if k < j then 0 else h1 70 k) ∧ ∀ q h', mn_E 178 4 [.ref 63, .int (mn_sum (h1 70) j), .int (nI j)] [] hh q h' → mn_E 178 4 [.ref 63, .int 0, .int (nI 0)] [] h1 q h' := by
    intro j
    induction j with
    | zero => intro _; exact ⟨h1, fun _ _ => rfl, fun k => by rw [if_neg (by omega)], fun q h' z => z⟩
    | succ j ih =>
      intro hj
      obtain ⟨hh, a, b, E⟩ := ih (by omega)
      refine ⟨mn_up hh 70 j 0, fun b q => by rw [mn_up_row _ _ _ _ q]; exact a b q, fun k => ?_, fun q h' z => E q h' ?_⟩
      · rw [mn_up_get, b]
        by_cases e : k = j
        · simp [e]
        · by_cases e2 : k < j
          · simp [e, e2, Nat.lt_succ_of_lt e2]
          · simp [e, e2, show ¬ k < j + 1 by omega]
      · rw [b_X8_tear_4, if_neg (show ¬ (5 : Int32) ≤ nI j from nI_ge (b := 5) (by omega) (by decide)), b_X8_tear_9 (vp_in_nI (by omega) (by decide)), nI_clamp (by omega), b, if_neg (by omega), nI_1]
        exact z
  obtain ⟨h2, a, b, E⟩ := key 5 (Nat.le_refl _)
  have ec : mn_sum (h1 70) 5 = cntE (h 11) := by rw [f1 70 (by decide), rs.cnt]; rfl
  have fr : ∀ b, b ≠ 11 → b ≠ 70 → h2 b = h b := fun b q1 q2 => by rw [a b q2]; exact f1 b q1
  refine ⟨cntE (h 11), h1, h2, ?_, ?_, ?_⟩
  · rw [e_X7_tear, b_X7_tear_0, mn_cl_i x_countAll, b_X7_tear_7, mn_cl_v x27, b_X7_tear_15]; exact ⟨rfl, rfl⟩
  · rw [e_X8_tear, b_X8_tear_0]
    apply E
    rw [b_X8_tear_4, if_pos (show (5 : Int32) ≤ nI 5 from by decide), b_X8_tear_31, ec]; exact ⟨rfl, rfl⟩
  · refine ⟨T, S, n, df, my, sd, r.fr (fun b q => fr b (by omega) (by omega)), ri.fr (fun b q => fr b (by omega) (by omega)), ⟨fun _ => 0, fun _ => 0, fun j hj => ⟨Nat.zero_le _, ?_, ?_, fun k hk => absurd hk (Nat.not_lt_zero k)⟩⟩, rx.fr (fun b q => fr b (by omega) (by omega)) (by rw [fr 63 (by decide) (by decide)]) (by rw [fr 63 (by decide) (by decide)])⟩
    · rw [a 11 (by decide), eh1, mn_set_get2, if_pos rfl, if_pos hj]; rfl
    · rw [b, if_pos hj]; rfl
section IMG
variable {h hh : mn_H} {T : TW} {S : Nat → Nat} {n df my sd : Nat}
set_option maxHeartbeats 4000000 in
theorem x_become {a0 a1 : Nat} (q : (a0 = 3 ∧ (a1 = 5 ∨ a1 = 7)) ∨ (a1 = 3 ∧ (a0 = 5 ∨ a0 = 7))) : ∃ h', mn_X 5 [.ref a0, .ref a1] h none h' ∧ (∀ b, b ≠ a0 → b ≠ a0 + 1 → h' b = h b) ∧ (h' a0 0 = h a1 0 ∧ h' a0 2 = h a1 2 ∧ h' a0 3 = h a1 3 ∧ h' a0 4 = h a1 4 ∧ h' a0 5 = h a1 5 ∧ h' a0 6 = h a1 6) ∧ ∀ k, k < 60 → h' (a0 + 1) k = h (a1 + 1) k := by
  have hc0 : mn_isC a0 := by unfold mn_isC; omega
  have hc1 : mn_isC a1 := by unfold mn_isC; omega
  have n1 : a1 ≠ a0 := by omega
  have n2 : a1 ≠ a0 + 1 := by omega
  have n3 : a1 + 1 ≠ a0 := by omega
  have n4 : a1 + 1 ≠ a0 + 1 := by omega
  have n5 : a0 ≠ a0 + 1 := by omega
  have n6 : a0 + 1 ≠ a0 := by omega
  refine ⟨_, e_X1_becomeLike.mpr ((b_X1_becomeLike_0 hc0 hc1).mpr ⟨rfl, rfl⟩), fun b q1 q2 => ?_, ?_, fun k hk => ?_⟩
  · funext k
    simp only [mn_up_get, mn_set_get2, q1, q2, false_and, if_false]
  · simp only [mn_up_get, mn_set_get2, n1, n2, n3, n4, n5, n6, false_and, if_false, true_and]
    refine ⟨?_, ?_, ?_, ?_, ?_, ?_⟩ <;> simp
  · simp only [mn_up_get, mn_set_get2, n1, n2, n3, n4, n5, n6, false_and, if_false, if_true]
    rw [pk_cpy_in (by rw [nl0]; omega) (by rw [nl0]; show k < 0 + 60; omega), nl0]
    simp [mn_up, n3]
theorem x_keepc (i : Nat) (hi : i < 2) : ∃ h2, (∀ b, b ≠ 68 → h2 b = h b) ∧ (∀ j, h2 68 j = if 65 * i ≤ j ∧ j < 65 * i + 65 then h 67 (j - 65 * i) else h 68 j) ∧ ∀ q h', mn_E 180 43 [.ref 63, .int (nI i), .int (nI 65)] [] h2 q h' → mn_E 180 14 [.ref 63, .int (nI i), .int (nI 0)] [] h q h' := by
  have key : ∀ k, k ≤ 65 → ∃ h2, (∀ b, b ≠ 68 → h2 b = h b) ∧ (∀ j, h2 68 j = if 65 * i ≤ j ∧ j < 65 * i + k then h 67 (j - 65 * i) else h 68 j) ∧ ∀ q h', mn_E 180 14 [.ref 63, .int (nI i), .int (nI k)] [] h2 q h' → mn_E 180 14 [.ref 63, .int (nI i), .int (nI 0)] [] h q h' := by
    intro k
    induction k with
    | zero => intro _; exact ⟨h, fun _ _ => rfl, fun k => by rw [if_neg (by omega)], fun q h' z => z⟩
    | succ k ih =>
      intro hk
      obtain ⟨h2, a, b, E⟩ := ih (by omega)
      have ei : (65 : Int32) * nI i + nI k = nI (65 * i + k) := by rw [show (65 : Int32) = nI 65 from rfl, pk_mul, nI_add]
      refine ⟨mn_up h2 68 (65 * i + k) (h 67 k), fun b q => by rw [mn_up_row _ _ _ _ q]; exact a b q, fun j => ?_, fun q h' z => E q h' ?_⟩
      · rw [mn_up_get, b]
        by_cases e : j = 65 * i + k
        · rw [if_pos ⟨rfl, e⟩, if_pos (by omega), show j - 65 * i = k by omega]
        · rw [if_neg (fun z => e z.2)]
          by_cases e2 : 65 * i ≤ j ∧ j < 65 * i + k
          · rw [if_pos e2, if_pos (by omega)]
          · rw [if_neg e2, if_neg (by omega)]
      · rw [b_X8_keep_14, if_neg (show ¬ (65 : Int32) ≤ nI k from nI_ge (b := 65) (by omega) (by decide)), b_X8_keep_20 (vp_in_nI (by omega) (by decide)) (by rw [ei]; exact vp_in_nI (by omega) (by decide)), ei, nI_clamp (by omega), nI_clamp (by omega), a 67 (by decide), nI_1]
        exact z
  obtain ⟨h2, a, b, E⟩ := key 65 (Nat.le_refl _)
  refine ⟨h2, a, b, fun q h' z => E q h' ?_⟩
  rw [b_X8_keep_14, if_pos (show (65 : Int32) ≤ nI 65 from by decide)]
  exact z
theorem x_backc (i : Nat) (hi : i < 2) : ∃ h2, (∀ b, b ≠ 67 → h2 b = h b) ∧ (∀ j, j < 65 → h2 67 j = h 68 (65 * i + j)) ∧ ∀ q h', mn_E 181 55 [.ref 63, .int (nI i), .int (nI 65)] [] h2 q h' → mn_E 181 26 [.ref 63, .int (nI i), .int (nI 0)] [] h q h' := by
  have key : ∀ k, k ≤ 65 → ∃ h2, (∀ b, b ≠ 67 → h2 b = h b) ∧ (∀ j, j < k → h2 67 j = h 68 (65 * i + j)) ∧ ∀ q h', mn_E 181 26 [.ref 63, .int (nI i), .int (nI k)] [] h2 q h' → mn_E 181 26 [.ref 63, .int (nI i), .int (nI 0)] [] h q h' := by
    intro k
    induction k with
    | zero => intro _; exact ⟨h, fun _ _ => rfl, fun k hk => by omega, fun q h' z => z⟩
    | succ k ih =>
      intro hk
      obtain ⟨h2, a, b, E⟩ := ih (by omega)
      have ei : (65 : Int32) * nI i + nI k = nI (65 * i + k) := by rw [show (65 : Int32) = nI 65 from rfl, pk_mul, nI_add]
      refine ⟨mn_up h2 67 k (h 68 (65 * i + k)), fun b q => by rw [mn_up_row _ _ _ _ q]; exact a b q, fun j hj => ?_, fun q h' z => E q h' ?_⟩
      · rw [mn_up_get]
        by_cases e : j = k
        · rw [if_pos ⟨rfl, e⟩, e]
        · rw [if_neg (fun z => e z.2)]; exact b j (by omega)
      · rw [b_X8_goBack_26, if_neg (show ¬ (65 : Int32) ≤ nI k from nI_ge (b := 65) (by omega) (by decide)), b_X8_goBack_32 (by rw [ei]; exact vp_in_nI (by omega) (by decide)) (vp_in_nI (by omega) (by decide)), ei, nI_clamp (by omega), nI_clamp (by omega), a 68 (by decide), nI_1]
        exact z
  obtain ⟨h2, a, b, E⟩ := key 65 (Nat.le_refl _)
  refine ⟨h2, a, b, fun q h' z => E q h' ?_⟩
  rw [b_X8_goBack_26, if_pos (show (65 : Int32) ≤ nI 65 from by decide)]
  exact z
end IMG
theorem p_keep (x : Int32) : PAIR 94 180 [.int x] := by
  intro h i
  obtain ⟨T, S, n, df, my, sd, r, ri, rs, rx⟩ := id i
  have xi := fun hh => x_in_n (h := hh) (n := 2) (m := 1) rfl (by decide) x
  rcases mn_rng x 2 (by decide) with ⟨k, hk, rfl⟩ | q
  · rw [in_true hk (by omega)] at xi
    have xi' : ∀ hh, mn_X 114 [.int (nI k), .int 0, .int 1] hh (some (.int 1)) hh := xi
    have n0 : ¬ nI k < 0 := nI_pos (by omega)
    have n6 : nI k < 2 := nI_lt (b := 2) (by omega) (by decide)
    have v2 : vp_in (nI k) 2 := vp_in_nI hk (by decide)
    have ck : (nI k).toNatClampNeg = k := nI_clamp (by omega)
    obtain ⟨h1, x1, a1, b1, d1⟩ := x_become (h := h) (a0 := 5 + 2 * k) (a1 := 3) (Or.inr ⟨rfl, by omega⟩)
    obtain ⟨h2, eh2⟩ : ∃ h2, h2 = mn_up h1 (5 + 2 * k) 7 1 := ⟨_, rfl⟩
    obtain ⟨h3, a3, b3, E3⟩ := x_keepc (h := h2) k hk
    obtain ⟨h4, eh4⟩ : ∃ h4, h4 = mn_up h3 69 k 1 := ⟨_, rfl⟩
    have fr : ∀ b, b ≠ 5 + 2 * k → b ≠ 6 + 2 * k → b ≠ 68 → b ≠ 69 → h4 b = h b := fun b q1 q2 q3 q4 => by
      rw [eh4, mn_up_row _ _ _ _ q4, a3 b q3, eh2, mn_up_row _ _ _ _ q1, a1 b q1 (by omega)]
    refine ⟨1, h2, h4, ?_, ?_, ?_⟩
    · rw [e_X7_keep, b_X7_keep_0, if_neg n0, b_X7_keep_4, if_pos n6, b_X7_keep_12 v2, ck, mn_cl_v x1, b_X7_keep_25 v2, ck, ← eh2]; exact ⟨rfl, rfl⟩
    · rw [e_X8_keep, b_X8_keep_0, mn_cl_i (xi' h2), b_X8_keep_6, if_pos (by decide), b_X8_keep_12]
      apply E3
      rw [b_X8_keep_43 v2, ck, ← eh4]; exact ⟨rfl, rfl⟩
    · refine ⟨T, S, n, df, my, sd, r.fr (fun b q => fr b (by omega) (by omega) (by omega) (by omega)), ?_, rs.fr (fun b q => fr b (by omega) (by omega) (by omega) (by omega)), rx.fr (fun b q => fr b (by omega) (by omega) (by omega) (by omega)) (by rw [fr 63 (by omega) (by omega) (by omega) (by omega)]) (by rw [fr 63 (by omega) (by omega) (by omega) (by omega)])⟩
      intro j hj
      have g69 : h4 69 j = if j = k then 1 else h 69 j := by
        rw [eh4, mn_up_get, a3 69 (by decide), eh2, mn_up_row _ _ _ _ (by omega), a1 69 (by omega) (by omega)]; simp
      have g68 : ∀ a, h4 68 a = if 65 * k ≤ a ∧ a < 65 * k + 65 then h 67 (a - 65 * k) else h 68 a := fun a => by
        rw [eh4, mn_up_row _ _ _ _ (by decide), b3, eh2, mn_up_row _ _ _ _ (by omega), mn_up_row _ _ _ _ (by omega), a1 67 (by omega) (by omega), a1 68 (by omega) (by omega)]
      by_cases e : j = k
      · subst e
        have g5 : ∀ a, a ≠ 7 → h4 (5 + 2 * j) a = h1 (5 + 2 * j) a := fun a q => by
          rw [eh4, mn_up_row _ _ _ _ (by omega), a3 _ (by omega), eh2, mn_up_get, if_neg (fun z => q z.2)]
        have g6 : ∀ a, a < 60 → h4 (6 + 2 * j) a = h 4 a := fun a q => by
          rw [eh4, mn_up_row _ _ _ _ (by omega), a3 _ (by omega), eh2, mn_up_row _ _ _ _ (by omega), show 6 + 2 * j = 5 + 2 * j + 1 by omega]; exact d1 a q
        refine ⟨true, ?_, by rw [g69, if_pos rfl]; rfl, fun _ => ⟨S, n, df, my, sd, ?_⟩⟩
        · rw [eh4, mn_up_row _ _ _ _ (by omega), a3 _ (by omega), eh2, mn_up_get, if_pos ⟨rfl, rfl⟩]; rfl
        · obtain ⟨c1, c2, c3, c4, c5, c6, c7⟩ := r.cst
          obtain ⟨m1, m2, m3, m4, m5⟩ := r.mst
          obtain ⟨q1, q2, q3, q4, q5⟩ := r.bst
          refine ⟨⟨by rw [g5 _ (by decide), b1.1]; exact c1, by rw [g5 _ (by decide), b1.2.1]; exact c2, by rw [g5 _ (by decide), b1.2.2.1]; exact c3, by rw [g5 _ (by decide), b1.2.2.2.1]; exact c4, by rw [g5 _ (by decide), b1.2.2.2.2.1]; exact c5, by rw [g5 _ (by decide), b1.2.2.2.2.2]; exact c6, fun a ha => by rw [g6 a (by omega)]; exact c7 a ha⟩, ⟨?_, ?_, ?_, ?_, fun a ha => ?_⟩, q1, q2, q3, q4, q5⟩
          · rw [g68, if_pos (by omega), show 65 * j - 65 * j = 0 by omega]; exact m1
          · rw [g68, if_pos (by omega), show 65 * j + 1 - 65 * j = 1 by omega]; exact m2
          · rw [g68, if_pos (by omega), show 65 * j + 2 - 65 * j = 2 by omega]; exact m3
          · rw [g68, if_pos (by omega), show 65 * j + 3 - 65 * j = 3 by omega]; exact m4
          · rw [g68, if_pos (by omega), show 65 * j + (4 + a) - 65 * j = 4 + a by omega]; exact m5 a ha
      · obtain ⟨kp, u1, u2, u3⟩ := ri j hj
        have e5 := fr (5 + 2 * j) (by omega) (by omega) (by omega) (by omega)
        have e6 := fr (6 + 2 * j) (by omega) (by omega) (by omega) (by omega)
        refine ⟨kp, by rw [e5]; exact u1, by rw [g69, if_neg e]; exact u2, fun hkp => ?_⟩
        obtain ⟨S', n', df', my', sd', w1, ⟨m1, m2, m3, m4, m5⟩, w3⟩ := u3 hkp
        refine ⟨S', n', df', my', sd', by rw [e5, e6]; exact w1, ⟨by rw [g68, if_neg (by omega)]; exact m1, by rw [g68, if_neg (by omega)]; exact m2, by rw [g68, if_neg (by omega)]; exact m3, by rw [g68, if_neg (by omega)]; exact m4, fun a ha => by have := w3.1; rw [g68, if_neg (by omega)]; exact m5 a ha⟩, w3⟩
  · rw [in_false q] at xi
    have xi' : ∀ hh, mn_X 114 [.int x, .int 0, .int 1] hh (some (.int 0)) hh := xi
    refine PAIR.q (r := -1000000001) i ?_ (trF.rf h) ?_ (mdF.rf h)
    · rw [e_X7_keep, b_X7_keep_0]
      by_cases n0 : x < 0
      · rw [if_pos n0, b_X7_keep_9]; exact ⟨rfl, rfl⟩
      · rw [if_neg n0, b_X7_keep_4, if_neg (show ¬ x < 2 from Int32.not_lt.mpr (q.resolve_left n0)), b_X7_keep_9]; exact ⟨rfl, rfl⟩
    · rw [e_X8_keep, b_X8_keep_0, mn_cl_i (xi' h), b_X8_keep_6, if_neg (by decide), b_X8_keep_9]; exact ⟨rfl, rfl⟩
theorem p_goBack (x : Int32) : PAIR 95 181 [.int x] := by
  intro h i
  obtain ⟨T, S, n, df, my, sd, r, ri, rs, rx⟩ := id i
  have xi := fun hh => x_in_n (h := hh) (n := 2) (m := 1) rfl (by decide) x
  rcases mn_rng x 2 (by decide) with ⟨k, hk, rfl⟩ | q
  · rw [in_true hk (by omega)] at xi
    have xi' : ∀ hh, mn_X 114 [.int (nI k), .int 0, .int 1] hh (some (.int 1)) hh := xi
    have n0 : ¬ nI k < 0 := nI_pos (by omega)
    have n6 : nI k < 2 := nI_lt (b := 2) (by omega) (by decide)
    have v2 : vp_in (nI k) 2 := vp_in_nI hk (by decide)
    have ck : (nI k).toNatClampNeg = k := nI_clamp (by omega)
    obtain ⟨kp, u1, u2, u3⟩ := ri k hk
    cases kp with
    | false =>
      refine PAIR.q (r := -1000000003) i ?_ (trF.rf h) ?_ (mdF.rf h)
      · rw [e_X7_goBack, b_X7_goBack_0, if_neg n0, b_X7_goBack_4, if_pos n6, b_X7_goBack_12 v2, ck, u1, if_neg (by decide), b_X7_goBack_24]; exact ⟨rfl, rfl⟩
      · rw [e_X8_goBack, b_X8_goBack_0, mn_cl_i (xi' h), b_X8_goBack_6, if_pos (by decide), b_X8_goBack_12 v2, ck, u2, if_neg (by decide), b_X8_goBack_21]; exact ⟨rfl, rfl⟩
    | true =>
      obtain ⟨S', n', df', my', sd', ⟨c1, c2, c3, c4, c5, c6, c7⟩, ⟨m1, m2, m3, m4, m5⟩, q1, q2, q3, q4, q5⟩ := u3 rfl
      obtain ⟨h1, x1, a1, b1, d1⟩ := x_become (h := h) (a0 := 3) (a1 := 5 + 2 * k) (Or.inl ⟨rfl, by omega⟩)
      obtain ⟨h2, a2, b2, E2⟩ := x_backc (h := h1) k hk
      have e69 : h1 69 = h 69 := a1 69 (by decide) (by decide)
      have e68 : h1 68 = h 68 := a1 68 (by decide) (by decide)
      refine ⟨1, h1, h2, ?_, ?_, ?_⟩
      · rw [e_X7_goBack, b_X7_goBack_0, if_neg n0, b_X7_goBack_4, if_pos n6, b_X7_goBack_12 v2, ck, u1, if_pos (by decide), b_X7_goBack_27 v2, ck, mn_cl_v x1, b_X7_goBack_40]; exact ⟨rfl, rfl⟩
      · rw [e_X8_goBack, b_X8_goBack_0, mn_cl_i (xi' h1), b_X8_goBack_6, if_pos (by decide), b_X8_goBack_12 v2, ck, e69, u2, if_pos (by decide), b_X8_goBack_24]
        apply E2
        rw [b_X8_goBack_55]; exact ⟨rfl, rfl⟩
      · have f : NF h h2 := ⟨fun b p3 p4 p67 _ _ _ _ _ => by rw [a2 b p67]; exact a1 b p3 p4, fun j _ => by rw [a2 63 (by decide), a1 63 (by decide) (by decide)]⟩
        have e3 := a2 3 (by decide)
        have e4 := a2 4 (by decide)
        refine INV.now (S' := S') (n' := n') (df' := df') (my' := my') (sd' := sd') f r ri rs rx ?_ ?_ ⟨q1, q2, q3, q4, q5⟩
        · refine ⟨by rw [e3, b1.1]; exact c1, by rw [e3, b1.2.1]; exact c2, by rw [e3, b1.2.2.1]; exact c3, by rw [e3, b1.2.2.2.1]; exact c4, by rw [e3, b1.2.2.2.2.1]; exact c5, by rw [e3, b1.2.2.2.2.2]; exact c6, fun a ha => ?_⟩
          rw [e4]
          have := d1 a (by omega)
          rw [show 5 + 2 * k + 1 = 6 + 2 * k by omega] at this
          rw [this]; exact c7 a ha
        · refine ⟨by rw [b2 0 (by omega), e68]; exact m1, by rw [b2 1 (by omega), e68]; exact m2, by rw [b2 2 (by omega), e68]; exact m3, by rw [b2 3 (by omega), e68]; exact m4, fun a ha => by rw [b2 _ (by omega), e68]; exact m5 a ha⟩
  · rw [in_false q] at xi
    have xi' : ∀ hh, mn_X 114 [.int x, .int 0, .int 1] hh (some (.int 0)) hh := xi
    refine PAIR.q (r := -1000000001) i ?_ (trF.rf h) ?_ (mdF.rf h)
    · rw [e_X7_goBack, b_X7_goBack_0]
      by_cases n0 : x < 0
      · rw [if_pos n0, b_X7_goBack_9]; exact ⟨rfl, rfl⟩
      · rw [if_neg n0, b_X7_goBack_4, if_neg (show ¬ x < 2 from Int32.not_lt.mpr (q.resolve_left n0)), b_X7_goBack_9]; exact ⟨rfl, rfl⟩
    · rw [e_X8_goBack, b_X8_goBack_0, mn_cl_i (xi' h), b_X8_goBack_6, if_neg (by decide), b_X8_goBack_9]; exact ⟨rfl, rfl⟩
