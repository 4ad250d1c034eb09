theorem nq_c (k : Nat) (hk : k < 2 ^ 31) : (nI k).toNatClampNeg = k := nI_clamp hk
theorem nl0 : (0 : Int32).toNatClampNeg = 0 := rfl
theorem nl1 : (1 : Int32).toNatClampNeg = 1 := rfl
theorem nl2 : (2 : Int32).toNatClampNeg = 2 := rfl
theorem nl3 : (3 : Int32).toNatClampNeg = 3 := rfl
theorem nl4 : (4 : Int32).toNatClampNeg = 4 := rfl
theorem na_mul (a c b : Nat) : nI a + nI c * nI b = nI (a + c * b) := by rw [pk_mul, nI_add]
/-- what is tried with -/
def TRY (h : mn_H) (df my gr mo : Nat) (wl : Option (Nat × Nat)) (y n : Nat) : Prop := h 63 13 = nI df ∧ h 63 14 = nI my ∧ h 63 15 = gN gr ∧ h 63 16 = nI mo ∧ h 63 17 = wI wl ∧ (∀ q, wl = some q → h 63 18 = nI q.2) ∧ h 63 19 = nI y ∧ h 63 20 = nI n
def wbN (wl : Option (Nat × Nat)) (b : Nat) : Nat := match wl with | none => b | some q => if b = q.1 then q.2 else b
theorem wrN_bits {T : TW} (hw : TWF T) {wl : Option (Nat × Nat)} (ho : wOk T wl) (y d : Nat) : wrN T y wl d = mn_bits (fun b => rgN (T 1 (wbN wl b)) (T 2 (wbN wl b)) (T 3 (wbN wl b)) y d) (T 0 0) := by
  cases wl with
  | none => rfl
  | some q =>
    obtain ⟨w, l⟩ := q
    obtain ⟨h1, h2⟩ := ho (w, l) rfl
    dsimp only at h1 h2
    have h5 := hw.1.1
    show wireN (ringN T y d) w l = _
    apply Nat.eq_of_testBit_eq
    intro b
    unfold wireN ringN
    rw [mn_bits_test, mn_bits_test, mn_bits_test, mn_bits_test]
    show (decide (b < 5) && if b = w then _ else _) = (decide (b < T 0 0) && rgN (T 1 (if b = w then l else b)) (T 2 (if b = w then l else b)) (T 3 (if b = w then l else b)) y d)
    by_cases hb : b = w
    · subst hb
      simp [h1, h2, show b < 5 by omega]
    · simp only [hb, if_false]
      by_cases hn : b < T 0 0
      · simp [hn, show b < 5 by omega]
      · simp [hn]
section MOD
variable {h : mn_H} {T : TW} {df my gr mo y n : Nat} {wl : Option (Nat × Nat)}
set_option maxHeartbeats 4000000 in
theorem x_X8_rings {k : Int32} (f s b d : Int32) (hk : k = 0 ∨ k = 1 ∨ k = 2 ∨ k = 3 ∨ k = 4) : mn_X 142 [.int k, .int f, .int s, .int b, .int d] h (some (.int (mz (rgB k f s b d)))) h := by
  rw [e_X8_rings]
  by_cases o1 : ((d >>> (f &&& 31)) &&& 1) = 1 <;> by_cases o2 : ((d >>> (s &&& 31)) &&& 1) = 1 <;> by_cases o3 : ((b >>> (f &&& 31)) &&& 1) = 1 <;> rcases hk with rfl | rfl | rfl | rfl | rfl <;>
    simp [b_X8_rings_0, b_X8_rings_10, b_X8_rings_14, b_X8_rings_15, b_X8_rings_27, b_X8_rings_31, b_X8_rings_32, b_X8_rings_38, b_X8_rings_43, b_X8_rings_48, b_X8_rings_53, b_X8_rings_57, b_X8_rings_61, b_X8_rings_66, b_X8_rings_71, b_X8_rings_76, b_X8_rings_80, b_X8_rings_84, b_X8_rings_89, b_X8_rings_94, b_X8_rings_99, b_X8_rings_103, b_X8_rings_107, b_X8_rings_116, b_X8_rings_120, b_X8_rings_121, o1, o2, o3, rgB, mz]
theorem x_X8_ringOf (hm : MT h T) (hw : TWF T) (ht : TRY h df my gr mo wl y n) (ho : wOk T wl) (hy : y < 64) {d : Nat} (hd : d < 64) : mn_X 143 [.ref 63, .int (nI d)] h (some (.int (nI (wrN T y wl d)))) h := by
  rw [wrN_bits hw ho]
  obtain ⟨⟨m0, -⟩, mb, -⟩ := hm
  obtain ⟨⟨w0, -⟩, wb, -⟩ := hw
  obtain ⟨-, -, -, -, t17, t18, t19, -⟩ := ht
  rw [e_X8_ringOf, b_X8_ringOf_0]
  suffices H : ∀ w : Value, mn_E 143 4 [.ref 63, .int (nI d), .int 0, .int 0, w] [] h (some (.int (nI (mn_bits (fun b => rgN (T 1 (wbN wl b)) (T 2 (wbN wl b)) (T 3 (wbN wl b)) y d) (T 0 0))))) h from H _
  refine mn_loopb (n := T 0 0) (fun i => ∀ w : Value, mn_E 143 4 [.ref 63, .int (nI d), .int (nI (mn_bits (fun b => rgN (T 1 (wbN wl b)) (T 2 (wbN wl b)) (T 3 (wbN wl b)) y d) i)), .int (nI i), w] [] h (some (.int (nI (mn_bits (fun b => rgN (T 1 (wbN wl b)) (T 2 (wbN wl b)) (T 3 (wbN wl b)) y d) (T 0 0))))) h) ?_ ?_ (Nat.zero_le _)
  · intro w
    rw [b_X8_ringOf_4, nl0, m0, if_pos (nI_le (Nat.le_refl _) (by omega)), b_X8_ringOf_88]
    exact ⟨rfl, rfl⟩
  · intro i hi H w
    have lt := mn_bits_lt (fun b => rgN (T 1 (wbN wl b)) (T 2 (wbN wl b)) (T 3 (wbN wl b)) y d) i
    have p1 : 2 ^ i ≤ 2 ^ 5 := Nat.pow_le_pow_right (by decide) (by omega)
    have hbw : wbN wl i < T 0 0 := by
      cases wl with
      | none => exact hi
      | some q =>
        show (if i = q.1 then q.2 else i) < _
        split
        · exact (ho q rfl).2
        · exact hi
    have go : mn_E 143 14 [.ref 63, .int (nI d), .int (nI (mn_bits (fun b => rgN (T 1 (wbN wl b)) (T 2 (wbN wl b)) (T 3 (wbN wl b)) y d) i)), .int (nI i), w] [] h (some (.int (nI (mn_bits (fun b => rgN (T 1 (wbN wl b)) (T 2 (wbN wl b)) (T 3 (wbN wl b)) y d) (T 0 0))))) h ↔
        mn_E 143 32 [.ref 63, .int (nI d), .int (nI (mn_bits (fun b => rgN (T 1 (wbN wl b)) (T 2 (wbN wl b)) (T 3 (wbN wl b)) y d) i)), .int (nI i), w] [.int (nI (wbN wl i)), .int 3, .int 5] h (some (.int (nI (mn_bits (fun b => rgN (T 1 (wbN wl b)) (T 2 (wbN wl b)) (T 3 (wbN wl b)) y d) (T 0 0))))) h := by
      rw [b_X8_ringOf_14, t17]
      cases wl with
      | none =>
        have n1 : ∀ x, x < 5 → ¬ nI x = (-1) := by decide
        rw [if_pos (show ¬ nI i = wI none from n1 i (by omega)), b_X8_ringOf_31]
        exact Iff.rfl
      | some q =>
        have hq := (ho q rfl).1
        by_cases o : i = q.1
        · rw [if_neg (show ¬ ¬ nI i = wI (some q) from fun z => z (by rw [o]; rfl)), b_X8_ringOf_24, t18 q rfl, show wbN (some q) i = q.2 from by show (if i = q.1 then q.2 else i) = q.2; rw [if_pos o]]
        · rw [if_pos (show ¬ nI i = wI (some q) from fun z => o ((nI_eq (b := q.1) (by omega) (by omega)).mp z)), b_X8_ringOf_31, show wbN (some q) i = i from by show (if i = q.1 then q.2 else i) = i; rw [if_neg o]]
    obtain ⟨j, ej⟩ : ∃ j, j = wbN wl i := ⟨_, rfl⟩
    rw [← ej] at hbw go
    obtain ⟨c1, c2, c3⟩ := mb j hbw
    obtain ⟨w1, w2, w3⟩ := wb j hbw
    have e1 : (5 : Int32) + 3 * nI j = nI (5 + 3 * j) := na_mul 5 3 j
    have e2 : (5 : Int32) + 3 * nI j + 1 = nI (5 + 3 * j + 1) := by rw [e1, nI_1]
    have e3 : (5 : Int32) + 3 * nI j + 2 = nI (5 + 3 * j + 2) := by rw [e1]; exact nI_add _ 2
    rw [b_X8_ringOf_4, nl0, m0, if_neg (nI_ge hi (by omega)), go, b_X8_ringOf_32 (by rw [e1]; exact vp_in_nI (by omega) (by decide)) (by rw [e2]; exact vp_in_nI (by omega) (by decide)) (by rw [e3]; exact vp_in_nI (by omega) (by decide)), e2, e3, e1, nq_c _ (by omega), nq_c _ (by omega), nq_c _ (by omega), c1, c2, c3, t19, mn_cl_i (x_X8_rings _ _ _ _ (nI_k5 w1)), rgB_N w1 w2 w3 hy hd, b_X8_ringOf_70]
    rw [mn_bits_or] at H
    simp only [← ej] at H
    by_cases o : rgN (T 1 j) (T 2 j) (T 3 j) y d = true
    · rw [if_pos o] at H
      rw [if_neg (by rw [mz_0, o]; decide), b_X8_ringOf_73, b_X8_ringOf_80, nI_1, nq_one (by omega), nq_or (by omega) (by omega)]
      exact H _
    · rw [if_neg o] at H
      rw [if_pos (by rw [mz_0]; simpa using o), b_X8_ringOf_79, b_X8_ringOf_80, nI_1, show (0 : Int32) = nI 0 from rfl, nq_or (by omega) (by decide)]
      exact H _
theorem doneN_deed (T : TW) (df my gr mo r d g : Nat) (hd : d < 6) : addN T df my gr mo r d g = if (if r.testBit (T 5 g) && !df.testBit g then (my.testBit g && decide (T 6 g = d)) else decide (T 7 g = d)) then T 4 g + (if g = gr then mo else 0) else 0 := by
  unfold addN deedN
  by_cases o1 : (r.testBit (T 5 g) && !df.testBit g) = true
  · rw [if_pos o1, if_pos o1]
    by_cases o2 : my.testBit g = true
    · rw [if_pos o2, o2]
      by_cases o3 : T 6 g = d
      · simp [o3]
      · simp [o3]
    · rw [if_neg o2, if_neg (by omega)]
      simp [o2]
  · rw [if_neg o1, if_neg o1]
    by_cases o3 : T 7 g = d
    · simp [o3]
    · simp [o3]
theorem x_X8_doneBy (hm : MT h T) (hw : TWF T) (ht : TRY h df my gr mo wl y n) (hdf : df < 64) (hmy : my < 64) (hmo : mo ≤ 999) {r d : Nat} (hr : r < 32) (hd : d < 6) : mn_X 144 [.ref 63, .int (nI r), .int (nI d)] h (some (.int (nI (doneN T df my gr mo r d)))) h := by
  have dl : ∀ i, i ≤ T 0 1 → mn_nsum (addN T df my gr mo r d) i < 2 ^ 20 := fun i hi => by
    have := doneN_le hw (df := df) (my := my) (gr := gr) (r := r) (d := d) hmo i hi
    have w := hw.1.2.1
    have : mn_nsum (addN T df my gr mo r d) i ≤ 6 * 1098 := Nat.le_trans this (Nat.mul_le_mul_right _ (by omega))
    omega
  obtain ⟨⟨-, m0, -⟩, -, mg, -⟩ := hm
  obtain ⟨⟨w0, w1, -⟩, -, wg, -⟩ := hw
  obtain ⟨t13, t14, t15, t16, -⟩ := ht
  rw [e_X8_doneBy, b_X8_doneBy_0]
  suffices H : ∀ a b c : Value, mn_E 144 5 [.ref 63, .int (nI r), .int (nI d), .int 0, .int 0, a, b, c] [] h (some (.int (nI (doneN T df my gr mo r d)))) h from H _ _ _
  refine mn_loopb (n := T 0 1) (fun i => ∀ a b c : Value, mn_E 144 5 [.ref 63, .int (nI r), .int (nI d), .int (nI (mn_nsum (addN T df my gr mo r d) i)), .int (nI i), a, b, c] [] h (some (.int (nI (doneN T df my gr mo r d)))) h) ?_ ?_ (Nat.zero_le _)
  · intro a b c
    rw [b_X8_doneBy_5, nl1, m0, if_pos (nI_le (Nat.le_refl _) (by omega)), b_X8_doneBy_163]
    exact ⟨rfl, rfl⟩
  · intro i hi H a b c
    obtain ⟨c1, c2, c3, c4⟩ := mg i hi
    obtain ⟨g1, g2, g3, g4, g5⟩ := wg i hi
    have e0 : (20 : Int32) + 4 * nI i = nI (20 + 4 * i) := na_mul 20 4 i
    have e1 : (20 : Int32) + 4 * nI i + 1 = nI (20 + 4 * i + 1) := by rw [e0, nI_1]
    have e2 : nI (20 + 4 * i) + 2 = nI (20 + 4 * i + 2) := nI_add _ 2
    have e3 : nI (20 + 4 * i) + 3 = nI (20 + 4 * i + 3) := nI_add _ 3
    have v0 : vp_in (nI (20 + 4 * i)) 96 := vp_in_nI (by omega) (by decide)
    have v1 : vp_in ((20 : Int32) + 4 * nI i + 1) 96 := by rw [e1]; exact vp_in_nI (by omega) (by decide)
    have v2 : vp_in (nI (20 + 4 * i) + 2) 96 := by rw [e2]; exact vp_in_nI (by omega) (by decide)
    have v3 : vp_in (nI (20 + 4 * i) + 3) 96 := by rw [e3]; exact vp_in_nI (by omega) (by decide)
    have b1 := nq_bit1 (a := r) (k := T 5 i) (by omega) (by omega)
    have b2 := nq_bit0 (a := df) (k := i) (by omega) (by omega)
    have b3 := nq_bit1 (a := my) (k := i) (by omega) (by omega)
    have ge := gN_eq (g := i) (gr := gr) (by omega)
    have dli := dl i (by omega)
    have hdq : ∀ z, z ≤ 6 → (nI z = nI d ↔ z = d) := fun z hz => nI_eq (by omega) (by omega)
    have fin : ∀ (x6 x7 : Int32) (q : Nat), q = addN T df my gr mo r d i → mn_E 144 155 [.ref 63, .int (nI r), .int (nI d), .int (nI (mn_nsum (addN T df my gr mo r d) i)), .int (nI i), .int (nI (20 + 4 * i)), .int x6, .int x7] [.int (nI q), .int (nI (mn_nsum (addN T df my gr mo r d) i))] h (some (.int (nI (doneN T df my gr mo r d)))) h := by
      intro x6 x7 q hq
      have := H (.int (nI (20 + 4 * i))) (.int x6) (.int x7)
      rw [mn_nsum, ← hq] at this
      rw [b_X8_doneBy_155, nI_1, nI_add]
      exact this
    have does : ∀ (o : Bool) (x6 : Int32) (c : Value), addN T df my gr mo r d i = (if o then T 4 i + (if i = gr then mo else 0) else 0) → mn_E 144 118 [.ref 63, .int (nI r), .int (nI d), .int (nI (mn_nsum (addN T df my gr mo r d) i)), .int (nI i), .int (nI (20 + 4 * i)), .int x6, c] [.int (mz o)] h (some (.int (nI (doneN T df my gr mo r d)))) h := by
      intro o x6 c hq
      rw [b_X8_doneBy_118]
      cases o with
      | false =>
        rw [if_pos (show mz false = 0 from rfl), b_X8_doneBy_154]
        exact fin x6 _ 0 (by rw [hq]; rfl)
      | true =>
        rw [if_neg (show ¬ mz true = 0 from by decide), b_X8_doneBy_126 v0, t15, nq_c _ (by omega), c1]
        by_cases o6 : i = gr
        · rw [if_neg (fun z => z (ge.mpr o6)), b_X8_doneBy_142, b_X8_doneBy_150, t16, nI_add]
          exact fin x6 _ _ (by rw [hq, if_pos rfl, if_pos o6])
        · rw [if_pos (fun z => o6 (ge.mp z)), b_X8_doneBy_149, b_X8_doneBy_150, show (0 : Int32) = nI 0 from rfl, nI_add]
          exact fin x6 _ _ (by rw [hq, if_pos rfl, if_neg o6])
    have hdd := doneN_deed T df my gr mo r d i hd
    rw [b_X8_doneBy_5, nl1, m0, if_neg (nI_ge hi (by omega)), b_X8_doneBy_16 v1, e1, e0, nq_c _ (by omega), c2]
    have hears0 : (r.testBit (T 5 i) && !df.testBit i) = false → mn_E 144 58 [.ref 63, .int (nI r), .int (nI d), .int (nI (mn_nsum (addN T df my gr mo r d) i)), .int (nI i), .int (nI (20 + 4 * i)), b, c] [] h (some (.int (nI (doneN T df my gr mo r d)))) h := by
      intro hh
      rw [b_X8_doneBy_58, b_X8_doneBy_59, if_pos (rfl), b_X8_doneBy_100 v3, e3, nq_c _ (by omega), c4]
      rw [hh] at hdd
      by_cases o5 : T 7 i = d
      · rw [if_neg (fun z => z (by rw [o5])), b_X8_doneBy_113]
        exact does true _ _ (by rw [hdd]; simp [o5])
      · rw [if_pos (fun z => o5 ((hdq _ g5).mp z)), b_X8_doneBy_117]
        exact does false _ _ (by rw [hdd]; simp [o5])
    by_cases o1 : r.testBit (T 5 i) = true
    · rw [if_neg (fun z => z (b1.mpr o1)), b_X8_doneBy_42, t13]
      by_cases o2 : df.testBit i = true
      · rw [if_pos (fun z => by rw [b2.mp z] at o2; cases o2)]
        exact hears0 (by simp [o1, o2])
      · have o2' : df.testBit i = false := by simpa using o2
        rw [if_neg (fun z => z (b2.mpr o2')), b_X8_doneBy_54, b_X8_doneBy_59, if_neg (show ¬ (1 : Int32) = 0 from by decide), b_X8_doneBy_66, t14]
        rw [o1, o2'] at hdd
        by_cases o3 : my.testBit i = true
        · rw [if_neg (fun z => z (b3.mpr o3)), b_X8_doneBy_79 v2, e2, nq_c _ (by omega), c3]
          by_cases o4 : T 6 i = d
          · rw [if_neg (fun z => z (by rw [o4])), b_X8_doneBy_92]
            exact does true _ _ (by rw [hdd]; simp [o3, o4])
          · rw [if_pos (fun z => o4 ((hdq _ g4).mp z)), b_X8_doneBy_96]
            exact does false _ _ (by rw [hdd]; simp [o4])
        · rw [if_pos (fun z => o3 (b3.mp z)), b_X8_doneBy_96]
          exact does false _ _ (by rw [hdd]; simp [o3])
    · rw [if_pos (fun z => o1 (b1.mp z))]
      exact hears0 (by simp [o1])
end MOD
