theorem p_group (x y : Int32) : PAIR 69 138 [.int x, .int y] := by
  intro h i
  obtain ⟨T, S, n, df, my, sd, r, -⟩ := id i
  have hT := r.hT
  have t6 := r.tw.1.2.1
  have xa := x_cGroup r x
  have ya := x_mGroup r.mt r.tw x
  rcases mn_rng x (T 0 1) (by omega) with ⟨g, hg, rfl⟩ | q
  · rw [in_true hg (by omega)] at xa ya
    have ga := r.ct.2.2.1 g hg
    have gm := r.mt.2.2.1 g hg
    have v6 : vp_in (nI g) 6 := vp_in_nI (by omega) (by decide)
    have cg : (nI g).toNatClampNeg = g := nI_clamp (by omega)
    have e20 : ∀ k, k < 4 → (20 + 4 * nI g) + nI k = nI (20 + 4 * g + k) := by
      intro k _
      rw [show (20 : Int32) = nI 20 from rfl, show (4 : Int32) = nI 4 from rfl, na_mul, nI_add]
    rcases mn_rng y 6 (by decide) with ⟨k, hk, rfl⟩ | q2
    · have xi : mn_X 114 [.int (nI k), .int 0, .int 5] h (some (.int 1)) h := by
        have := x_in_n (h := h) (n := 6) (m := 5) rfl (by decide) (nI k)
        rw [in_true hk (by omega)] at this
        exact this
      have v96 : ∀ k, k < 4 → vp_in ((20 + 4 * nI g) + nI k) 96 := fun k hk => by rw [e20 k hk]; exact vp_in_nI (by omega) (by decide)
      have c96 : ∀ k, k < 4 → ((20 + 4 * nI g) + nI k).toNatClampNeg = 20 + 4 * g + k := fun k hk => by rw [e20 k hk]; exact nI_clamp (by omega)
      have v65 : vp_in 1 65 := show vp_in (nI 1) 65 from vp_in_nI (by decide) (by decide)
      have v652 : vp_in 2 65 := show vp_in (nI 2) 65 from vp_in_nI (by decide) (by decide)
      have cs : k = 0 ∨ k = 1 ∨ k = 2 ∨ k = 3 ∨ k = 4 ∨ k = 5 := by omega
      rcases cs with rfl | rfl | rfl | rfl | rfl | rfl
      · have v := v96 0 (by decide)
        have c := c96 0 (by decide)
        simp only [nv0, nv1, nv2, nv3, nv4, nv5] at xi v c
        refine PAIR.q (r := nI (T 4 g)) i ?_ (trF.rf h) ?_ (mdF.rf h)
        · simp only [e_X7_group, b_X7_group_0, b_X7_group_5, b_X7_group_8, b_X7_group_11, b_X7_group_12_d, b_X7_group_12_0, b_X7_group_12_1, b_X7_group_12_2, b_X7_group_12_3, b_X7_group_12_4, b_X7_group_12_5, b_X7_group_52, b_X7_group_62, b_X7_group_72, b_X7_group_82, b_X7_group_92, b_X7_group_104, b_X7_group_116, i10, i00, i01, i11, not_true_eq_false, not_false_eq_true, if_true, if_false, true_or, or_true, true_and, and_true, and_false, false_and, mn_cl_i xa, mz_t, nv0, hT, v6, cg, ga.1]
        · simp +decide only [e_X8_group, b_X8_group_0, b_X8_group_5, b_X8_group_8, b_X8_group_11, b_X8_group_17, b_X8_group_20, b_X8_group_23, b_X8_group_28, b_X8_group_44, b_X8_group_53, b_X8_group_57, b_X8_group_58, b_X8_group_63, i10, i00, i01, i11, not_true_eq_false, not_false_eq_true, if_true, if_false, true_or, or_true, true_and, and_true, and_false, false_and, Int32.reduceLT, Int32.reduceLE, Int32.reduceAdd, Int32.reduceSub, mn_cl_i ya, mz_t, nv0, mn_cl_i xi, v, c, Nat.add_zero, gm.1]
      · have v := v96 1 (by decide)
        have c := c96 1 (by decide)
        simp only [nv0, nv1, nv2, nv3, nv4, nv5] at xi v c
        refine PAIR.q (r := nI (T 5 g)) i ?_ (trF.rf h) ?_ (mdF.rf h)
        · simp only [e_X7_group, b_X7_group_0, b_X7_group_5, b_X7_group_8, b_X7_group_11, b_X7_group_12_d, b_X7_group_12_0, b_X7_group_12_1, b_X7_group_12_2, b_X7_group_12_3, b_X7_group_12_4, b_X7_group_12_5, b_X7_group_52, b_X7_group_62, b_X7_group_72, b_X7_group_82, b_X7_group_92, b_X7_group_104, b_X7_group_116, i10, i00, i01, i11, not_true_eq_false, not_false_eq_true, if_true, if_false, true_or, or_true, true_and, and_true, and_false, false_and, mn_cl_i xa, mz_t, nv1, hT, v6, cg, ga.2.1]
        · simp +decide only [e_X8_group, b_X8_group_0, b_X8_group_5, b_X8_group_8, b_X8_group_11, b_X8_group_17, b_X8_group_20, b_X8_group_23, b_X8_group_28, b_X8_group_44, b_X8_group_53, b_X8_group_57, b_X8_group_58, b_X8_group_63, i10, i00, i01, i11, not_true_eq_false, not_false_eq_true, if_true, if_false, true_or, or_true, true_and, and_true, and_false, false_and, Int32.reduceLT, Int32.reduceLE, Int32.reduceAdd, Int32.reduceSub, mn_cl_i ya, mz_t, nv1, mn_cl_i xi, v, c, gm.2.1]
      · have v := v96 2 (by decide)
        have c := c96 2 (by decide)
        simp only [nv0, nv1, nv2, nv3, nv4, nv5] at xi v c
        refine PAIR.q (r := nI (T 6 g)) i ?_ (trF.rf h) ?_ (mdF.rf h)
        · simp only [e_X7_group, b_X7_group_0, b_X7_group_5, b_X7_group_8, b_X7_group_11, b_X7_group_12_d, b_X7_group_12_0, b_X7_group_12_1, b_X7_group_12_2, b_X7_group_12_3, b_X7_group_12_4, b_X7_group_12_5, b_X7_group_52, b_X7_group_62, b_X7_group_72, b_X7_group_82, b_X7_group_92, b_X7_group_104, b_X7_group_116, i10, i00, i01, i11, not_true_eq_false, not_false_eq_true, if_true, if_false, true_or, or_true, true_and, and_true, and_false, false_and, mn_cl_i xa, mz_t, nv2, hT, v6, cg, ga.2.2.1]
        · simp +decide only [e_X8_group, b_X8_group_0, b_X8_group_5, b_X8_group_8, b_X8_group_11, b_X8_group_17, b_X8_group_20, b_X8_group_23, b_X8_group_28, b_X8_group_44, b_X8_group_53, b_X8_group_57, b_X8_group_58, b_X8_group_63, i10, i00, i01, i11, not_true_eq_false, not_false_eq_true, if_true, if_false, true_or, or_true, true_and, and_true, and_false, false_and, Int32.reduceLT, Int32.reduceLE, Int32.reduceAdd, Int32.reduceSub, mn_cl_i ya, mz_t, nv2, mn_cl_i xi, v, c, gm.2.2.1]
      · have v := v96 3 (by decide)
        have c := c96 3 (by decide)
        simp only [nv0, nv1, nv2, nv3, nv4, nv5] at xi v c
        refine PAIR.q (r := nI (T 7 g)) i ?_ (trF.rf h) ?_ (mdF.rf h)
        · simp only [e_X7_group, b_X7_group_0, b_X7_group_5, b_X7_group_8, b_X7_group_11, b_X7_group_12_d, b_X7_group_12_0, b_X7_group_12_1, b_X7_group_12_2, b_X7_group_12_3, b_X7_group_12_4, b_X7_group_12_5, b_X7_group_52, b_X7_group_62, b_X7_group_72, b_X7_group_82, b_X7_group_92, b_X7_group_104, b_X7_group_116, i10, i00, i01, i11, not_true_eq_false, not_false_eq_true, if_true, if_false, true_or, or_true, true_and, and_true, and_false, false_and, mn_cl_i xa, mz_t, nv3, hT, v6, cg, ga.2.2.2]
        · simp +decide only [e_X8_group, b_X8_group_0, b_X8_group_5, b_X8_group_8, b_X8_group_11, b_X8_group_17, b_X8_group_20, b_X8_group_23, b_X8_group_28, b_X8_group_44, b_X8_group_53, b_X8_group_57, b_X8_group_58, b_X8_group_63, i10, i00, i01, i11, not_true_eq_false, not_false_eq_true, if_true, if_false, true_or, or_true, true_and, and_true, and_false, false_and, Int32.reduceLT, Int32.reduceLE, Int32.reduceAdd, Int32.reduceSub, mn_cl_i ya, mz_t, nv3, mn_cl_i xi, v, c, gm.2.2.2]
      · simp only [nv4] at xi
        refine PAIR.q (r := (nI df >>> (nI g &&& 31)) &&& 1) i ?_ (trF.rf h) ?_ (mdF.rf h)
        · simp only [e_X7_group, b_X7_group_0, b_X7_group_5, b_X7_group_8, b_X7_group_11, b_X7_group_12_d, b_X7_group_12_0, b_X7_group_12_1, b_X7_group_12_2, b_X7_group_12_3, b_X7_group_12_4, b_X7_group_12_5, b_X7_group_52, b_X7_group_62, b_X7_group_72, b_X7_group_82, b_X7_group_92, b_X7_group_104, b_X7_group_116, i10, i00, i01, i11, not_true_eq_false, not_false_eq_true, if_true, if_false, true_or, or_true, true_and, and_true, and_false, false_and, mn_cl_i xa, mz_t, nv4, r.1.2.2.2.2.2.2.2.2.2.1]
        · simp +decide only [e_X8_group, b_X8_group_0, b_X8_group_5, b_X8_group_8, b_X8_group_11, b_X8_group_17, b_X8_group_20, b_X8_group_23, b_X8_group_28, b_X8_group_44, b_X8_group_53, b_X8_group_57, b_X8_group_58, b_X8_group_63, i10, i00, i01, i11, not_true_eq_false, not_false_eq_true, if_true, if_false, true_or, or_true, true_and, and_true, and_false, false_and, Int32.reduceLT, Int32.reduceLE, Int32.reduceAdd, Int32.reduceSub, mn_cl_i ya, mz_t, nv4, mn_cl_i xi, v65, nl1, r.2.1.2.2.1]
      · simp only [nv5] at xi
        refine PAIR.q (r := (nI my >>> (nI g &&& 31)) &&& 1) i ?_ (trF.rf h) ?_ (mdF.rf h)
        · simp only [e_X7_group, b_X7_group_0, b_X7_group_5, b_X7_group_8, b_X7_group_11, b_X7_group_12_d, b_X7_group_12_0, b_X7_group_12_1, b_X7_group_12_2, b_X7_group_12_3, b_X7_group_12_4, b_X7_group_12_5, b_X7_group_52, b_X7_group_62, b_X7_group_72, b_X7_group_82, b_X7_group_92, b_X7_group_104, b_X7_group_116, i10, i00, i01, i11, not_true_eq_false, not_false_eq_true, if_true, if_false, true_or, or_true, true_and, and_true, and_false, false_and, mn_cl_i xa, mz_t, nv5, r.1.2.2.2.2.2.2.2.2.2.2.2.1]
        · simp +decide only [e_X8_group, b_X8_group_0, b_X8_group_5, b_X8_group_8, b_X8_group_11, b_X8_group_17, b_X8_group_20, b_X8_group_23, b_X8_group_28, b_X8_group_44, b_X8_group_53, b_X8_group_57, b_X8_group_58, b_X8_group_63, i10, i00, i01, i11, not_true_eq_false, not_false_eq_true, if_true, if_false, true_or, or_true, true_and, and_true, and_false, false_and, Int32.reduceLT, Int32.reduceLE, Int32.reduceAdd, Int32.reduceSub, mn_cl_i ya, mz_t, nv5, mn_cl_i xi, v652, nl2, r.2.1.2.2.2.1]
    · have xi : mn_X 114 [.int y, .int 0, .int 5] h (some (.int 0)) h := by
        have := x_in_n (h := h) (n := 6) (m := 5) rfl (by decide) y
        rw [in_false q2] at this
        exact this
      refine PAIR.q (r := -1000000002) i ?_ (trF.rf h) ?_ (mdF.rf h)
      · simp only [e_X7_group, b_X7_group_0, b_X7_group_5, b_X7_group_8, b_X7_group_11, i10, i00, i01, i11, not_true_eq_false, not_false_eq_true, if_true, if_false, true_or, or_true, true_and, and_true, and_false, false_and, mn_cl_i xa, mz_t]
        rw [b_X7_group_12_d (tsw_out (m := 5) rfl (by decide) q2), b_X7_group_116]
        exact ⟨rfl, rfl⟩
      · simp only [e_X8_group, b_X8_group_0, b_X8_group_5, b_X8_group_8, b_X8_group_11, b_X8_group_17, b_X8_group_20, b_X8_group_23, b_X8_group_28, b_X8_group_44, b_X8_group_53, b_X8_group_57, b_X8_group_58, b_X8_group_63, i10, i00, i01, i11, not_true_eq_false, not_false_eq_true, if_true, if_false, true_or, or_true, true_and, and_true, and_false, false_and, mn_cl_i ya, mz_t, mn_cl_i xi]
  · rw [in_false q] at xa ya
    refine PAIR.q (r := -1000000001) i ?_ (trF.rf h) ?_ (mdF.rf h)
    · simp only [e_X7_group, b_X7_group_0, b_X7_group_5, b_X7_group_8, b_X7_group_11, b_X7_group_12_d, b_X7_group_12_0, b_X7_group_12_1, b_X7_group_12_2, b_X7_group_12_3, b_X7_group_12_4, b_X7_group_12_5, b_X7_group_52, b_X7_group_62, b_X7_group_72, b_X7_group_82, b_X7_group_92, b_X7_group_104, b_X7_group_116, i10, i00, i01, i11, not_true_eq_false, not_false_eq_true, if_true, if_false, true_or, or_true, true_and, and_true, and_false, false_and, mn_cl_i xa, mz_f]
    · simp only [e_X8_group, b_X8_group_0, b_X8_group_5, b_X8_group_8, b_X8_group_11, b_X8_group_17, b_X8_group_20, b_X8_group_23, b_X8_group_28, b_X8_group_44, b_X8_group_53, b_X8_group_57, b_X8_group_58, b_X8_group_63, i10, i00, i01, i11, not_true_eq_false, not_false_eq_true, if_true, if_false, true_or, or_true, true_and, and_true, and_false, false_and, mn_cl_i ya, mz_f]
theorem x_bellsum {h : mn_H} {T : TW} (m : MT h T) (hw : TWF T) {b : Nat} (hb : b < 5) {y : Int32} {r : Option Value} {h' : mn_H} : mn_E 137 23 [.ref 63, .int (nI b), .int y, .null, .null] [] h r h' ↔ mn_E 137 82 [.ref 63, .int (nI b), .int y, .int (nI (hearN T b)), .int (nI (T 0 1))] [] h r h' := by
  have t6 := hw.1.2.1
  have t5 := hw.1.1
  rw [b_X8_bell_23]
  refine mn_loop (n := T 0 1) (fun g => mn_E 137 28 [.ref 63, .int (nI b), .int y, .int (nI (mn_nsum (fun g => if T 5 g = b then T 4 g else 0) g)), .int (nI g)] [] h r h') ?_ ?_ (Nat.zero_le _)
  · show mn_E _ _ _ _ _ _ _ ↔ _
    rw [b_X8_bell_28, nl1, m.1.2.1, if_pos (Int32.le_refl _)]
    exact Iff.rfl
  · intro g hg
    show mn_E _ _ _ _ _ _ _ ↔ mn_E _ _ _ _ _ _ _
    have gm := m.2.2.1 g hg
    have gw := hw.2.2.1 g hg
    have e1 : (20 + 4 * nI g) = nI (20 + 4 * g) := by rw [show (20 : Int32) = nI 20 from rfl, show (4 : Int32) = nI 4 from rfl, na_mul]
    have e2 : (20 + 4 * nI g) + 1 = nI (20 + 4 * g + 1) := by rw [e1, nI_1]
    rw [b_X8_bell_28, nl1, m.1.2.1, if_neg (nI_ge hg (by omega)), b_X8_bell_39 (by rw [e2]; exact vp_in_nI (by omega) (by decide)), e2, nI_clamp (by omega), gm.2.1]
    by_cases o : T 5 g = b
    · rw [if_neg (fun z => z (by rw [o])), b_X8_bell_58 (by rw [e1]; exact vp_in_nI (by omega) (by decide)), e1, nI_clamp (by omega), gm.1, b_X8_bell_74, nI_add, nI_1]
      rw [show mn_nsum (fun g => if T 5 g = b then T 4 g else 0) (g + 1) = mn_nsum (fun g => if T 5 g = b then T 4 g else 0) g + T 4 g from by show _ + (if T 5 g = b then T 4 g else 0) = _; rw [if_pos o]]
    · rw [if_pos (fun z => o ((nI_eq (by omega) (by omega)).mp z)), b_X8_bell_73, b_X8_bell_74, nI_1]
      rw [show mn_nsum (fun g => if T 5 g = b then T 4 g else 0) (g + 1) = mn_nsum (fun g => if T 5 g = b then T 4 g else 0) g from by show _ + (if T 5 g = b then T 4 g else 0) = _; rw [if_neg o, Nat.add_zero]]
      rw [show nI (mn_nsum (fun g => if T 5 g = b then T 4 g else 0) g) + 0 = nI (mn_nsum (fun g => if T 5 g = b then T 4 g else 0) g) from Int32.add_zero _]

theorem p_bell (x y : Int32) : PAIR 68 137 [.int x, .int y] := by
  intro h i
  obtain ⟨T, S, n, df, my, sd, r, -, ⟨sc, sG, rs⟩, -⟩ := id i
  have hT := r.hT
  have t5 := r.tw.1.1
  have xa := x_cBell r x
  have ya := x_mBell r.mt r.tw x
  rcases mn_rng x (T 0 0) (by omega) with ⟨g, hg, rfl⟩ | q
  · rw [in_true hg (by omega)] at xa ya
    have ga := r.ct.2.1 g hg
    have gm := r.mt.2.1 g hg
    have sg := rs g (by omega)
    have v5 : vp_in (nI g) 5 := vp_in_nI (by omega) (by decide)
    have cg : (nI g).toNatClampNeg = g := nI_clamp (by omega)
    have e20 : ∀ k, k < 3 → (5 + 3 * nI g) + nI k = nI (5 + 3 * g + k) := by
      intro k _
      rw [show (5 : Int32) = nI 5 from rfl, show (3 : Int32) = nI 3 from rfl, na_mul, nI_add]
    rcases mn_rng y 5 (by decide) with ⟨k, hk, rfl⟩ | q2
    · have xi : mn_X 114 [.int (nI k), .int 0, .int 4] h (some (.int 1)) h := by
        have := x_in_n (h := h) (n := 5) (m := 4) rfl (by decide) (nI k)
        rw [in_true hk (by omega)] at this
        exact this
      have v96 : ∀ k, k < 3 → vp_in ((5 + 3 * nI g) + nI k) 96 := fun k hk => by rw [e20 k hk]; exact vp_in_nI (by omega) (by decide)
      have c96 : ∀ k, k < 3 → ((5 + 3 * nI g) + nI k).toNatClampNeg = 5 + 3 * g + k := fun k hk => by rw [e20 k hk]; exact nI_clamp (by omega)
      have bs := fun {y} {rr} {h'} => x_bellsum (y := y) (r := rr) (h' := h') r.mt r.tw (show g < 5 by omega)
      have cs : k = 0 ∨ k = 1 ∨ k = 2 ∨ k = 3 ∨ k = 4 := by omega
      rcases cs with rfl | rfl | rfl | rfl | rfl
      · have v := v96 0 (by decide)
        have c := c96 0 (by decide)
        simp only [nv0, nv1, nv2, nv3, nv4, nv5] at xi v c
        refine PAIR.q (r := nI (T 1 g)) i ?_ (trF.rf h) ?_ (mdF.rf h)
        · simp only [e_X7_bell, b_X7_bell_0, b_X7_bell_5, b_X7_bell_8, b_X7_bell_11, b_X7_bell_12_d, b_X7_bell_12_0, b_X7_bell_12_1, b_X7_bell_12_2, b_X7_bell_12_3, b_X7_bell_12_4, b_X7_bell_48, b_X7_bell_58, b_X7_bell_68, b_X7_bell_78, b_X7_bell_86, b_X7_bell_87, b_X7_bell_95, b_X7_bell_96, i10, i00, i01, i11, not_true_eq_false, not_false_eq_true, if_true, if_false, true_or, or_true, true_and, and_true, and_false, false_and, mn_cl_i xa, mz_t, nv0, hT, v5, cg, ga.1]
        · simp +decide only [e_X8_bell, b_X8_bell_0, b_X8_bell_5, b_X8_bell_11, b_X8_bell_17, b_X8_bell_82, b_X8_bell_87, b_X8_bell_117, i10, i00, i01, i11, not_true_eq_false, not_false_eq_true, if_true, if_false, true_or, or_true, true_and, and_true, and_false, false_and, Int32.reduceLT, Int32.reduceLE, Int32.reduceAdd, Int32.reduceSub, mn_cl_i ya, mz_t, nv0, mn_cl_i xi, bs, v, c, Nat.add_zero, gm.1]
      · have v := v96 1 (by decide)
        have c := c96 1 (by decide)
        simp only [nv0, nv1, nv2, nv3, nv4, nv5] at xi v c
        refine PAIR.q (r := nI (T 2 g)) i ?_ (trF.rf h) ?_ (mdF.rf h)
        · simp only [e_X7_bell, b_X7_bell_0, b_X7_bell_5, b_X7_bell_8, b_X7_bell_11, b_X7_bell_12_d, b_X7_bell_12_0, b_X7_bell_12_1, b_X7_bell_12_2, b_X7_bell_12_3, b_X7_bell_12_4, b_X7_bell_48, b_X7_bell_58, b_X7_bell_68, b_X7_bell_78, b_X7_bell_86, b_X7_bell_87, b_X7_bell_95, b_X7_bell_96, i10, i00, i01, i11, not_true_eq_false, not_false_eq_true, if_true, if_false, true_or, or_true, true_and, and_true, and_false, false_and, mn_cl_i xa, mz_t, nv1, hT, v5, cg, ga.2.1]
        · simp +decide only [e_X8_bell, b_X8_bell_0, b_X8_bell_5, b_X8_bell_11, b_X8_bell_17, b_X8_bell_82, b_X8_bell_87, b_X8_bell_117, i10, i00, i01, i11, not_true_eq_false, not_false_eq_true, if_true, if_false, true_or, or_true, true_and, and_true, and_false, false_and, Int32.reduceLT, Int32.reduceLE, Int32.reduceAdd, Int32.reduceSub, mn_cl_i ya, mz_t, nv1, mn_cl_i xi, bs, v, c, gm.2.1]
      · have v := v96 2 (by decide)
        have c := c96 2 (by decide)
        simp only [nv0, nv1, nv2, nv3, nv4, nv5] at xi v c
        refine PAIR.q (r := nI (T 3 g)) i ?_ (trF.rf h) ?_ (mdF.rf h)
        · simp only [e_X7_bell, b_X7_bell_0, b_X7_bell_5, b_X7_bell_8, b_X7_bell_11, b_X7_bell_12_d, b_X7_bell_12_0, b_X7_bell_12_1, b_X7_bell_12_2, b_X7_bell_12_3, b_X7_bell_12_4, b_X7_bell_48, b_X7_bell_58, b_X7_bell_68, b_X7_bell_78, b_X7_bell_86, b_X7_bell_87, b_X7_bell_95, b_X7_bell_96, i10, i00, i01, i11, not_true_eq_false, not_false_eq_true, if_true, if_false, true_or, or_true, true_and, and_true, and_false, false_and, mn_cl_i xa, mz_t, nv2, hT, v5, cg, ga.2.2]
        · simp +decide only [e_X8_bell, b_X8_bell_0, b_X8_bell_5, b_X8_bell_11, b_X8_bell_17, b_X8_bell_82, b_X8_bell_87, b_X8_bell_117, i10, i00, i01, i11, not_true_eq_false, not_false_eq_true, if_true, if_false, true_or, or_true, true_and, and_true, and_false, false_and, Int32.reduceLT, Int32.reduceLE, Int32.reduceAdd, Int32.reduceSub, mn_cl_i ya, mz_t, nv2, mn_cl_i xi, bs, v, c, gm.2.2]
      · simp only [nv3] at xi
        refine PAIR.q (r := nI (hearN T g)) i ?_ (trF.rf h) ?_ (mdF.rf h)
        · simp only [e_X7_bell, b_X7_bell_0, b_X7_bell_5, b_X7_bell_8, b_X7_bell_11, b_X7_bell_12_d, b_X7_bell_12_0, b_X7_bell_12_1, b_X7_bell_12_2, b_X7_bell_12_3, b_X7_bell_12_4, b_X7_bell_48, b_X7_bell_58, b_X7_bell_68, b_X7_bell_78, b_X7_bell_86, b_X7_bell_87, b_X7_bell_95, b_X7_bell_96, i10, i00, i01, i11, not_true_eq_false, not_false_eq_true, if_true, if_false, true_or, or_true, true_and, and_true, and_false, false_and, mn_cl_i xa, mz_t, nv3, hT, mn_cl_i (x_X5_hearersOf hT r.ct r.tw (show g < 5 by omega))]
        · simp +decide only [e_X8_bell, b_X8_bell_0, b_X8_bell_5, b_X8_bell_11, b_X8_bell_17, b_X8_bell_82, b_X8_bell_102, b_X8_bell_107, b_X8_bell_117, i10, i00, i01, i11, not_true_eq_false, not_false_eq_true, if_true, if_false, true_or, or_true, true_and, and_true, and_false, false_and, Int32.reduceLT, Int32.reduceLE, Int32.reduceAdd, Int32.reduceSub, mn_cl_i ya, mz_t, nv3, mn_cl_i xi, bs]
      · simp only [nv4] at xi
        have xk : mn_X 25 [.ref 10, .int (nI g)] h (some (.int (nI (sc g)))) h := by simp only [e_X3_countOf, b_X3_countOf_0, i10, i00, i01, i11, not_true_eq_false, not_false_eq_true, if_true, if_false, true_or, or_true, true_and, and_true, and_false, false_and, v5, cg, sg.2.1]
        refine PAIR.q (r := nI (sc g)) i ?_ (trF.rf h) ?_ (mdF.rf h)
        · simp only [e_X7_bell, b_X7_bell_0, b_X7_bell_5, b_X7_bell_8, b_X7_bell_11, b_X7_bell_12_d, b_X7_bell_12_0, b_X7_bell_12_1, b_X7_bell_12_2, b_X7_bell_12_3, b_X7_bell_12_4, b_X7_bell_48, b_X7_bell_58, b_X7_bell_68, b_X7_bell_78, b_X7_bell_86, b_X7_bell_87, b_X7_bell_95, b_X7_bell_96, i10, i00, i01, i11, not_true_eq_false, not_false_eq_true, if_true, if_false, true_or, or_true, true_and, and_true, and_false, false_and, mn_cl_i xa, mz_t, nv4, mn_cl_i xk]
        · simp +decide only [e_X8_bell, b_X8_bell_0, b_X8_bell_5, b_X8_bell_11, b_X8_bell_17, b_X8_bell_82, b_X8_bell_102, b_X8_bell_111, b_X8_bell_117, i10, i00, i01, i11, not_true_eq_false, not_false_eq_true, if_true, if_false, true_or, or_true, true_and, and_true, and_false, false_and, Int32.reduceLT, Int32.reduceLE, Int32.reduceAdd, Int32.reduceSub, mn_cl_i ya, mz_t, nv4, mn_cl_i xi, bs, v5, cg, sg.2.2.1]
    · have xi : mn_X 114 [.int y, .int 0, .int 4] h (some (.int 0)) h := by
        have := x_in_n (h := h) (n := 5) (m := 4) rfl (by decide) y
        rw [in_false q2] at this
        exact this
      refine PAIR.q (r := -1000000002) i ?_ (trF.rf h) ?_ (mdF.rf h)
      · simp only [e_X7_bell, b_X7_bell_0, b_X7_bell_5, b_X7_bell_8, b_X7_bell_11, i10, i00, i01, i11, not_true_eq_false, not_false_eq_true, if_true, if_false, true_or, or_true, true_and, and_true, and_false, false_and, mn_cl_i xa, mz_t]
        rw [b_X7_bell_12_d (tsw_out (m := 4) rfl (by decide) q2), b_X7_bell_96]
        exact ⟨rfl, rfl⟩
      · simp only [e_X8_bell, b_X8_bell_0, b_X8_bell_5, b_X8_bell_8, b_X8_bell_11, b_X8_bell_17, b_X8_bell_20, b_X8_bell_23, b_X8_bell_28, b_X8_bell_39, b_X8_bell_58, b_X8_bell_73, b_X8_bell_74, b_X8_bell_82, b_X8_bell_87, b_X8_bell_102, b_X8_bell_107, b_X8_bell_111, b_X8_bell_117, i10, i00, i01, i11, not_true_eq_false, not_false_eq_true, if_true, if_false, true_or, or_true, true_and, and_true, and_false, false_and, mn_cl_i ya, mz_t, mn_cl_i xi]
  · rw [in_false q] at xa ya
    refine PAIR.q (r := -1000000001) i ?_ (trF.rf h) ?_ (mdF.rf h)
    · simp only [e_X7_bell, b_X7_bell_0, b_X7_bell_5, b_X7_bell_8, b_X7_bell_11, b_X7_bell_12_d, b_X7_bell_12_0, b_X7_bell_12_1, b_X7_bell_12_2, b_X7_bell_12_3, b_X7_bell_12_4, b_X7_bell_48, b_X7_bell_58, b_X7_bell_68, b_X7_bell_78, b_X7_bell_86, b_X7_bell_87, b_X7_bell_95, b_X7_bell_96, i10, i00, i01, i11, not_true_eq_false, not_false_eq_true, if_true, if_false, true_or, or_true, true_and, and_true, and_false, false_and, mn_cl_i xa, mz_f]
    · simp only [e_X8_bell, b_X8_bell_0, b_X8_bell_5, b_X8_bell_8, b_X8_bell_11, b_X8_bell_17, b_X8_bell_20, b_X8_bell_23, b_X8_bell_28, b_X8_bell_39, b_X8_bell_58, b_X8_bell_73, b_X8_bell_74, b_X8_bell_82, b_X8_bell_87, b_X8_bell_102, b_X8_bell_107, b_X8_bell_111, b_X8_bell_117, i10, i00, i01, i11, not_true_eq_false, not_false_eq_true, if_true, if_false, true_or, or_true, true_and, and_true, and_false, false_and, mn_cl_i ya, mz_f]
