theorem mn_mayT : ∀ g, g ≤ 6 → ∀ j, j < 2 ^ g → nI j &&& (nI (2 ^ g - 1) ^^^ (-1)) = 0 := by decide +kernel
theorem mn_split (x m : Int32) : (x &&& m) ||| (x &&& (m ^^^ (-1))) = x := by
  apply nq_inj
  simp only [Int32.toBitVec_or, Int32.toBitVec_and, Int32.toBitVec_xor]
  apply BitVec.eq_of_getLsbD_eq
  intro i hi
  have e : ((-1 : Int32).toBitVec).getLsbD i = true := by
    have : (-1 : Int32).toBitVec = BitVec.allOnes 32 := by decide
    rw [this, BitVec.getLsbD_allOnes]; exact decide_eq_true hi
  simp only [BitVec.getLsbD_or, BitVec.getLsbD_and, BitVec.getLsbD_xor, e]
  cases x.toBitVec.getLsbD i <;> cases m.toBitVec.getLsbD i <;> rfl
theorem mn_may {x : Int32} {g : Nat} (hg : g ≤ 6) : (x &&& (nI (2 ^ g - 1) ^^^ (-1)) = 0) ↔ ∃ j, j < 2 ^ g ∧ x = nI j := by
  constructor
  · intro e
    have s := mn_split x (nI (2 ^ g - 1))
    rw [e] at s
    have h1 : 2 ^ g ≤ 2 ^ 6 := Nat.pow_le_pow_right (by decide) hg
    obtain ⟨j, hj, ej⟩ := pk_andE x g (pk_tn (n := 2 ^ g - 1) (by omega))
    refine ⟨j, hj, ?_⟩
    rw [← ej, ← s]
    conv => rhs; rw [show (x &&& nI (2 ^ g - 1) ||| 0) = x from s]
    rw [Int32.or_zero]
  · rintro ⟨j, hj, rfl⟩
    exact mn_mayT g hg j hj
theorem mn_deafOn {df g : Nat} (hg : g < 6) (hd : df < 64) : nI df ||| ((1 : Int32) <<< (nI g &&& 31)) = nI (df ||| 2 ^ g) := by
  have : 2 ^ g < 2 ^ 6 := Nat.pow_lt_pow_right (by decide) hg
  rw [nq_one (by omega), nq_or (by omega) (by omega)]
theorem mn_deafOff {df g : Nat} (hg : g < 6) (hd : df < 64) : nI df &&& (((1 : Int32) <<< (nI g &&& 31)) ^^^ (-1)) = nI (andn df (2 ^ g)) := by
  have : 2 ^ g < 2 ^ 6 := Nat.pow_lt_pow_right (by decide) hg
  rw [nq_one (by omega), nI_andn df hd _ this]
theorem andn_le (a b : Nat) {n : Nat} (ha : a < 2 ^ n) : andn a b < 2 ^ n := by
  apply Nat.lt_pow_two_of_testBit
  intro i hi
  unfold andn
  rw [mn_bits_test, Nat.testBit_lt_two_pow (Nat.lt_of_lt_of_le ha (Nat.pow_le_pow_right (by decide) hi))]
  simp
theorem mn_nowt {h : mn_H} {T : TW} {S : Nat → Nat} {n df my sd : Nat} (r : RN h T S n df my sd) (ri : RI h T) (rs : RS h) (rx : RX h) {k j : Nat} {x : Nat} (hk : (k = 4 ∧ j = 1 ∧ x < 2 ^ T 0 1) ∨ (k = 5 ∧ j = 2 ∧ x < 2 ^ T 0 1) ∨ (k = 6 ∧ j = 3 ∧ x < 2 ^ 31)) : INV (mn_up (mn_up h 3 k (nI x)) 67 j (nI x)) := by
  have f : NF h (mn_up (mn_up h 3 k (nI x)) 67 j (nI x)) := ((NF.rf h).up (by decide)).up (by decide)
  obtain ⟨c1, c2, c3, c4, c5, c6, c7⟩ := r.cst
  obtain ⟨m1, m2, m3, m4, m5⟩ := r.mst
  obtain ⟨b1, b2, b3, b4, b5⟩ := r.bst
  have g1 : ∀ a, (mn_up (mn_up h 3 k (nI x)) 67 j (nI x)) 3 a = if a = k then nI x else h 3 a := by
    intro a; simp [mn_up_get]
  have g2 : ∀ a, (mn_up (mn_up h 3 k (nI x)) 67 j (nI x)) 67 a = if a = j then nI x else h 67 a := by
    intro a; simp [mn_up_get]
  have g3 : ∀ a, (mn_up (mn_up h 3 k (nI x)) 67 j (nI x)) 4 a = h 4 a := by
    intro a; simp [mn_up_get]
  have g4 : ∀ a, a ≤ n → (mn_up (mn_up h 3 k (nI x)) 67 j (nI x)) 67 (4 + a) = nI (S a) := by
    intro a ha; rw [g2, if_neg (by omega)]; exact m5 a ha
  rcases hk with ⟨rfl, rfl, hx⟩ | ⟨rfl, rfl, hx⟩ | ⟨rfl, rfl, hx⟩
  · exact INV.now (S' := S) (n' := n) (df' := x) (my' := my) (sd' := sd) f r ri rs rx ⟨by rw [g1]; exact c1, by rw [g1]; exact c2, by rw [g1]; exact c3, by rw [g1]; rfl, by rw [g1]; exact c5, by rw [g1]; exact c6, fun k hk => by rw [g3]; exact c7 k hk⟩ ⟨by rw [g2]; exact m1, by rw [g2]; rfl, by rw [g2]; exact m3, by rw [g2]; exact m4, g4⟩ ⟨b1, b2, hx, b4, b5⟩
  · exact INV.now (S' := S) (n' := n) (df' := df) (my' := x) (sd' := sd) f r ri rs rx ⟨by rw [g1]; exact c1, by rw [g1]; exact c2, by rw [g1]; exact c3, by rw [g1]; exact c4, by rw [g1]; rfl, by rw [g1]; exact c6, fun k hk => by rw [g3]; exact c7 k hk⟩ ⟨by rw [g2]; exact m1, by rw [g2]; exact m2, by rw [g2]; rfl, by rw [g2]; exact m4, g4⟩ ⟨b1, b2, b3, hx, b5⟩
  · exact INV.now (S' := S) (n' := n) (df' := df) (my' := my) (sd' := x) f r ri rs rx ⟨by rw [g1]; exact c1, by rw [g1]; exact c2, by rw [g1]; exact c3, by rw [g1]; exact c4, by rw [g1]; exact c5, by rw [g1]; rfl, fun k hk => by rw [g3]; exact c7 k hk⟩ ⟨by rw [g2]; exact m1, by rw [g2]; exact m2, by rw [g2]; exact m3, by rw [g2]; rfl, g4⟩ ⟨b1, b2, b3, b4, hx⟩
theorem p_deaf (x y : Int32) : PAIR 79 158 [.int x, .int y] := by
  intro h i
  obtain ⟨T, S, n, df, my, sd, r, ri, rs, rx⟩ := id i
  have t6 := r.tw.1.2.1
  have xa := x_cGroup r x
  have d64 := r.df64
  have v1 : vp_in 1 65 := show vp_in (nI 1) 65 from vp_in_nI (by decide) (by decide)
  rcases mn_rng x (T 0 1) (by omega) with ⟨g, hg, rfl⟩ | q
  · rw [in_true hg (by omega)] at xa
    have k1 : ∀ z, MT (mn_up h 3 4 z) T := fun z => MT_row (mn_up_row _ _ _ _ (by decide)) r.mt
    have e67 : ∀ z, (mn_up h 3 4 z) 67 = h 67 := fun z => mn_up_row _ _ _ _ (by decide)
    have ya := fun z => x_mGroup (k1 z) r.tw (nI g)
    rw [in_true hg (by omega)] at ya
    by_cases o : y = 0
    · subst o
      refine ⟨(nI df >>> (nI g &&& 31)) &&& 1, mn_up h 3 4 (nI (andn df (2 ^ g))), mn_up (mn_up h 3 4 (nI (andn df (2 ^ g)))) 67 1 (nI (andn df (2 ^ g))), ?_, ?_, ?_⟩
      · simp only [e_X7_deaf, b_X7_deaf_0, b_X7_deaf_5, b_X7_deaf_8, b_X7_deaf_11, b_X7_deaf_31, b_X7_deaf_45, b_X7_deaf_58, i10, i00, i01, i11, not_true_eq_false, not_false_eq_true, if_true, if_false, true_or, or_true, true_and, and_true, and_false, false_and, mn_cl_i xa, mz_t, r.cst.2.2.2.1, mn_deafOff (show g < 6 by omega) d64]
      · simp only [e_X8_deaf, b_X8_deaf_0, b_X8_deaf_5, b_X8_deaf_8, b_X8_deaf_11, b_X8_deaf_31, b_X8_deaf_44, b_X8_deaf_56, i10, i00, i01, i11, not_true_eq_false, not_false_eq_true, if_true, if_false, true_or, or_true, true_and, and_true, and_false, false_and, mn_cl_i (ya _), mz_t, nl1, e67, r.mst.2.1, v1, mn_deafOff (show g < 6 by omega) d64]
      · exact mn_nowt r ri rs rx (Or.inl ⟨rfl, rfl, andn_le _ _ r.bst.2.2.1⟩)
    · refine ⟨(nI df >>> (nI g &&& 31)) &&& 1, mn_up h 3 4 (nI (df ||| 2 ^ g)), mn_up (mn_up h 3 4 (nI (df ||| 2 ^ g))) 67 1 (nI (df ||| 2 ^ g)), ?_, ?_, ?_⟩
      · simp only [e_X7_deaf, b_X7_deaf_0, b_X7_deaf_5, b_X7_deaf_8, b_X7_deaf_11, b_X7_deaf_31, b_X7_deaf_45, b_X7_deaf_58, i10, i00, i01, i11, not_true_eq_false, not_false_eq_true, if_true, if_false, true_or, or_true, true_and, and_true, and_false, false_and, mn_cl_i xa, mz_t, o, r.cst.2.2.2.1, mn_deafOn (show g < 6 by omega) d64]
      · simp only [e_X8_deaf, b_X8_deaf_0, b_X8_deaf_5, b_X8_deaf_8, b_X8_deaf_11, b_X8_deaf_31, b_X8_deaf_44, b_X8_deaf_56, i10, i00, i01, i11, not_true_eq_false, not_false_eq_true, if_true, if_false, true_or, or_true, true_and, and_true, and_false, false_and, mn_cl_i (ya _), mz_t, nl1, o, e67, r.mst.2.1, v1, mn_deafOn (show g < 6 by omega) d64]
      · exact mn_nowt r ri rs rx (Or.inl ⟨rfl, rfl, Nat.or_lt_two_pow r.bst.2.2.1 (Nat.pow_lt_pow_right (by decide) hg)⟩)
  · have ya := x_mGroup r.mt r.tw x
    rw [in_false q] at xa ya
    refine PAIR.q (r := -1000000001) i ?_ (trF.rf h) ?_ (mdF.rf h)
    · simp only [e_X7_deaf, b_X7_deaf_0, b_X7_deaf_5, b_X7_deaf_8, b_X7_deaf_11, b_X7_deaf_31, b_X7_deaf_45, b_X7_deaf_58, i10, i00, i01, i11, not_true_eq_false, not_false_eq_true, if_true, if_false, true_or, or_true, true_and, and_true, and_false, false_and, mn_cl_i xa, mz_f]
    · simp only [e_X8_deaf, b_X8_deaf_0, b_X8_deaf_5, b_X8_deaf_8, b_X8_deaf_11, b_X8_deaf_31, b_X8_deaf_44, b_X8_deaf_56, i10, i00, i01, i11, not_true_eq_false, not_false_eq_true, if_true, if_false, true_or, or_true, true_and, and_true, and_false, false_and, mn_cl_i ya, mz_f]
theorem x_allGroups {h : mn_H} {t : Nat} {T : TW} (ht : mn_isT t) (hc : CT h t T) (hw : TWF T) : mn_X 47 [.ref t] h (some (.int (nI (2 ^ T 0 1 - 1)))) h := by
  have t6 := hw.1.2.1
  have p : 1 ≤ 2 ^ T 0 1 := Nat.one_le_two_pow
  simp only [e_X5_allGroups, b_X5_allGroups_0, i10, i00, i01, i11, not_true_eq_false, not_false_eq_true, if_true, if_false, true_or, or_true, true_and, and_true, and_false, false_and, ht, hc.1.2.1, nq_one (show T 0 1 < 31 by omega)]
  rw [show (1 : Int32) = nI 1 from rfl, pk_sub p]
theorem p_may (x : Int32) : PAIR 80 160 [.int x] := by
  intro h i
  obtain ⟨T, S, n, df, my, sd, r, ri, rs, rx⟩ := id i
  have t6 := r.tw.1.2.1
  have hT := r.hT
  have p6 := mn_pw6 r.tw
  by_cases o : x &&& (nI (2 ^ T 0 1 - 1) ^^^ (-1)) = 0
  · obtain ⟨j, hj, rfl⟩ := (mn_may t6).mp o
    have ya := x_mGroups (h := mn_up h 3 5 (nI j)) (MT_row (mn_up_row _ _ _ _ (by decide)) r.mt) r.tw (nI j)
    rw [in_true hj (by omega)] at ya
    refine ⟨nI my, mn_up h 3 5 (nI j), mn_up (mn_up h 3 5 (nI j)) 67 2 (nI j), ?_, ?_, ?_⟩
    · simp only [e_X7_may, b_X7_may_0, b_X7_may_8, b_X7_may_14, b_X7_may_17, i10, i00, i01, i11, not_true_eq_false, not_false_eq_true, if_true, if_false, true_or, or_true, true_and, and_true, and_false, false_and, hT, mn_cl_i (x_allGroups hT r.ct r.tw), o, r.cst.2.2.2.2.1]
    · simp only [e_X8_may, b_X8_may_0, b_X8_may_5, b_X8_may_8, b_X8_may_11, i10, i00, i01, i11, not_true_eq_false, not_false_eq_true, if_true, if_false, true_or, or_true, true_and, and_true, and_false, false_and, mn_cl_i ya, mz_t, nl2, mn_up_row h 3 5 (nI j) (show 67 ≠ 3 by decide), r.mst.2.2.1]
    · exact mn_nowt r ri rs rx (Or.inr (Or.inl ⟨rfl, rfl, hj⟩))
  · have q : x < 0 ∨ nI (2 ^ T 0 1) ≤ x := by
      rcases mn_rng x (2 ^ T 0 1) (by omega) with ⟨j, hj, e⟩ | q
      · exact absurd ((mn_may t6).mpr ⟨j, hj, e⟩) o
      · exact q
    have ya := x_mGroups r.mt r.tw x
    rw [in_false q] at ya
    refine PAIR.q (r := -1000000001) i ?_ (trF.rf h) ?_ (mdF.rf h)
    · simp only [e_X7_may, b_X7_may_0, b_X7_may_8, b_X7_may_14, b_X7_may_17, i10, i00, i01, i11, not_true_eq_false, not_false_eq_true, if_true, if_false, true_or, or_true, true_and, and_true, and_false, false_and, hT, mn_cl_i (x_allGroups hT r.ct r.tw), o]
    · simp only [e_X8_may, b_X8_may_0, b_X8_may_5, b_X8_may_8, b_X8_may_11, i10, i00, i01, i11, not_true_eq_false, not_false_eq_true, if_true, if_false, true_or, or_true, true_and, and_true, and_false, false_and, mn_cl_i ya, mz_f]
theorem p_seed (x : Int32) : PAIR 93 179 [.int x] := by
  intro h i
  obtain ⟨T, S, n, df, my, sd, r, ri, rs, rx⟩ := id i
  by_cases o : (0 : Int32) ≤ x
  · obtain ⟨j, hj, rfl⟩ := nI_of (Int32.not_lt.mpr o)
    refine ⟨nI sd, mn_up h 3 6 (nI j), mn_up (mn_up h 3 6 (nI j)) 67 3 (nI j), ?_, ?_, ?_⟩
    · simp only [e_X7_seed, b_X7_seed_0, b_X7_seed_4, b_X7_seed_7, i10, i00, i01, i11, not_true_eq_false, not_false_eq_true, if_true, if_false, true_or, or_true, true_and, and_true, and_false, false_and, o, r.cst.2.2.2.2.2.1]
    · simp only [e_X8_seed, b_X8_seed_0, b_X8_seed_4, b_X8_seed_7, i10, i00, i01, i11, not_true_eq_false, not_false_eq_true, if_true, if_false, true_or, or_true, true_and, and_true, and_false, false_and, o, nl3, mn_up_row h 3 6 (nI j) (show 67 ≠ 3 by decide), r.mst.2.2.2.1]
    · exact mn_nowt r ri rs rx (Or.inr (Or.inr ⟨rfl, rfl, hj⟩))
  · refine PAIR.q (r := -1000000002) i ?_ (trF.rf h) ?_ (mdF.rf h)
    · simp only [e_X7_seed, b_X7_seed_0, b_X7_seed_4, b_X7_seed_7, i10, i00, i01, i11, not_true_eq_false, not_false_eq_true, if_true, if_false, true_or, or_true, true_and, and_true, and_false, false_and, o]
    · simp only [e_X8_seed, b_X8_seed_0, b_X8_seed_4, b_X8_seed_7, i10, i00, i01, i11, not_true_eq_false, not_false_eq_true, if_true, if_false, true_or, or_true, true_and, and_true, and_false, false_and, o]
