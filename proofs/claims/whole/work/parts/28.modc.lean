theorem andn_or (a s x : Nat) : andn a (s ||| x) = andn (andn a s) x := by
  unfold andn
  refine mn_bits_cong 6 (fun i hi => ?_)
  rw [Nat.testBit_or, mn_bits_test]
  simp [hi, Bool.and_assoc]
theorem andn_0 {a : Nat} (ha : a < 64) : andn a 0 = a := by
  apply Nat.eq_of_testBit_eq
  intro i
  unfold andn
  rw [mn_bits_test]
  by_cases hi : i < 6
  · simp [hi]
  · have : a.testBit i = false := Nat.testBit_lt_two_pow (Nat.lt_of_lt_of_le ha (show 2 ^ 6 ≤ 2 ^ i from Nat.pow_le_pow_right (by decide) (by omega)))
    simp [hi, this]
theorem nI_m1 : ∀ a, a < 64 → nI a &&& (-1) = nI a := by decide +kernel
theorem selN_test {T : TW} {n i : Nat} (hi : i < T 0 4) : (selN T n).testBit i = decide (n % T 15 i = T 16 i) := by
  unfold selN; rw [mn_bits_test]; simp [hi]
theorem metN_0 (A B N W : Nat → Nat) : metN 0 A B N W = 0 := by
  unfold metN
  apply Nat.eq_of_testBit_eq
  intro i
  rw [mn_bits_test]; simp
section COME
variable {h : mn_H} {T : TW} {df my gr mo y n : Nat} {wl : Option (Nat × Nat)}
set_option maxHeartbeats 4000000 in
theorem x_X8_comesBy (hm : MT h T) (hw : TWF T) (ht : TRY h df my gr mo wl y n) (hdf : df < 64) (hmy : my < 64) (hmo : mo ≤ 999) (hn : n < 2 ^ 30) {r : Nat} (hr : r < 32) : mn_X 145 [.ref 63, .int (nI r)] h (some (.int (nI (cmN T df my gr mo n r)))) h := by
  have xd : ∀ d, d < 6 → mn_X 144 [.ref 63, .int (nI r), .int (nI d)] h (some (.int (nI (doneN T df my gr mo r d)))) h := fun d hd => x_X8_doneBy hm hw ht hdf hmy hmo hr hd
  have dl : ∀ d, doneN T df my gr mo r d < 2 ^ 30 := fun d => doneN_lt hw hmo
  obtain ⟨⟨-, -, m2, m3, m4⟩, -, -, mc, ms, mo2, -⟩ := hm
  obtain ⟨⟨-, -, w2, w3, w4⟩, -, -, wc, ws, wo, -⟩ := hw
  have t20 := ht.2.2.2.2.2.2.2
  obtain ⟨R, eR⟩ : ∃ R, R = some (Value.int (nI (cmN T df my gr mo n r))) := ⟨_, rfl⟩
  rw [← eR, e_X8_comesBy, b_X8_comesBy_0]
  have cl : cauN T df my gr mo r < 64 := by unfold cauN; exact metN_lt _ _ _ _ _
  have ol : ofN T n < 64 := by unfold ofN slfN; exact metN_lt _ _ _ _ _
  -- the third round: what is stopped
  have third : ∀ w : Value, mn_E 145 140 [.ref 63, .int (nI r), .int (nI (cauN T df my gr mo r ||| ofN T n)), .int 0, w] [] h R h := by
    have al : cauN T df my gr mo r ||| ofN T n < 64 := mn_or64 cl ol
    obtain ⟨A, eA⟩ : ∃ A, A = cauN T df my gr mo r ||| ofN T n := ⟨_, rfl⟩
    rw [← eA] at al ⊢
    have e0 : andn A (metN 0 (T 11) (T 12) (T 13) (doneN T df my gr mo r)) = A := by rw [metN_0, andn_0 al]
    suffices H : ∀ w : Value, mn_E 145 140 [.ref 63, .int (nI r), .int (nI (andn A (metN 0 (T 11) (T 12) (T 13) (doneN T df my gr mo r)))), .int (nI 0), w] [] h R h by
      rw [e0] at H; exact H
    refine mn_loopb (n := T 0 3) (fun i => ∀ w : Value, mn_E 145 140 [.ref 63, .int (nI r), .int (nI (andn A (metN i (T 11) (T 12) (T 13) (doneN T df my gr mo r)))), .int (nI i), w] [] h R h) ?_ ?_ (Nat.zero_le _)
    · intro w
      rw [b_X8_comesBy_140, nl3, m3, if_pos (nI_le (Nat.le_refl _) (by omega)), b_X8_comesBy_208, eR, cmN, ← eA]
      exact ⟨rfl, rfl⟩
    · intro i hi H w
      obtain ⟨c1, c2, c3⟩ := ms i hi
      obtain ⟨s1, s2, s3, s4⟩ := ws i hi
      have e0 : (68 : Int32) + 3 * nI i = nI (68 + 3 * i) := na_mul 68 3 i
      have e1 : (68 : Int32) + 3 * nI i + 1 = nI (68 + 3 * i + 1) := by rw [e0, nI_1]
      have e2 : nI (68 + 3 * i) + 2 = nI (68 + 3 * i + 2) := nI_add _ 2
      have v0 : vp_in (nI (68 + 3 * i)) 96 := vp_in_nI (by omega) (by decide)
      have v1 : vp_in ((68 : Int32) + 3 * nI i + 1) 96 := by rw [e1]; exact vp_in_nI (by omega) (by decide)
      have v2 : vp_in (nI (68 + 3 * i) + 2) 96 := by rw [e2]; exact vp_in_nI (by omega) (by decide)
      have p1 : 2 ^ T 11 i ≤ 2 ^ 5 := Nat.pow_le_pow_right (by decide) (by omega)
      have bl := andn_lt A (metN i (T 11) (T 12) (T 13) (doneN T df my gr mo r))
      have dli := dl (T 12 i)
      rw [metN_succ _ _ _ _ _ s1, andn_or] at H
      rw [b_X8_comesBy_140, nl3, m3, if_neg (nI_ge hi (by omega)), b_X8_comesBy_150 v1, e1, e0, nq_c _ (by omega), c2, mn_cl_i (xd _ s2), b_X8_comesBy_173 v2, e2, nq_c _ (by omega), c3]
      by_cases o : T 13 i ≤ doneN T df my gr mo r (T 12 i)
      · rw [if_pos o] at H
        rw [if_neg (nI_nlt o (by omega)), b_X8_comesBy_185 v0, nq_c _ (by omega), c1, nq_one (by omega), b_X8_comesBy_200, nI_1, nI_andn _ bl _ (by omega)]
        exact H _
      · rw [if_neg o, andn_0 bl] at H
        rw [if_pos (nI_lt (by omega) (by omega)), b_X8_comesBy_199, b_X8_comesBy_200, nI_1, nI_m1 _ bl]
        exact H _
  -- the second: what comes of itself
  have second : ∀ w : Value, mn_E 145 72 [.ref 63, .int (nI r), .int (nI (cauN T df my gr mo r)), .int 0, w] [] h R h := by
    have e0 : cauN T df my gr mo r ||| metN 0 (T 14) (fun i => i) (fun _ => 1) (fun i => if (selN T n).testBit i then 1 else 0) = cauN T df my gr mo r := by rw [metN_0, Nat.or_zero]
    suffices H : ∀ w : Value, mn_E 145 72 [.ref 63, .int (nI r), .int (nI (cauN T df my gr mo r ||| metN 0 (T 14) (fun i => i) (fun _ => 1) (fun i => if (selN T n).testBit i then 1 else 0))), .int (nI 0), w] [] h R h by
      rw [e0] at H; exact H
    refine mn_loopb (n := T 0 4) (fun i => ∀ w : Value, mn_E 145 72 [.ref 63, .int (nI r), .int (nI (cauN T df my gr mo r ||| metN i (T 14) (fun i => i) (fun _ => 1) (fun i => if (selN T n).testBit i then 1 else 0))), .int (nI i), w] [] h R h) ?_ ?_ (Nat.zero_le _)
    · intro w
      rw [b_X8_comesBy_72, nl4, m4, if_pos (nI_le (Nat.le_refl _) (by omega)), b_X8_comesBy_138]
      exact third w
    · intro i hi H w
      obtain ⟨c1, c2, c3⟩ := mo2 i hi
      obtain ⟨s1, s2, s3, s4⟩ := wo i hi
      have e0 : (80 : Int32) + 3 * nI i = nI (80 + 3 * i) := na_mul 80 3 i
      have e1 : (80 : Int32) + 3 * nI i + 1 = nI (80 + 3 * i + 1) := by rw [e0, nI_1]
      have e2 : (80 : Int32) + 3 * nI i + 2 = nI (80 + 3 * i + 2) := by rw [e0]; exact nI_add _ 2
      have v0 : vp_in (nI (80 + 3 * i)) 96 := vp_in_nI (by omega) (by decide)
      have v1 : vp_in ((80 : Int32) + 3 * nI i + 1) 96 := by rw [e1]; exact vp_in_nI (by omega) (by decide)
      have v2 : vp_in ((80 : Int32) + 3 * nI i + 2) 96 := by rw [e2]; exact vp_in_nI (by omega) (by decide)
      have hne : ¬ h 65 ((80 : Int32) + 3 * nI i + 1).toNatClampNeg = 0 := by rw [e1, nq_c _ (by omega), c2]; exact nI_ne0 (by omega) (by omega)
      have p1 : 2 ^ T 14 i ≤ 2 ^ 5 := Nat.pow_le_pow_right (by decide) (by omega)
      have ml := metN_lt i (T 14) (fun i => i) (fun _ => 1) (fun i => if (selN T n).testBit i then 1 else 0)
      have bl := mn_or64 cl ml
      have hmm : n % T 15 i < T 15 i := Nat.mod_lt _ (by omega)
      rw [metN_succ _ _ _ _ _ s1, ← Nat.or_assoc] at H
      rw [b_X8_comesBy_72, nl4, m4, if_neg (nI_ge hi (by omega)), b_X8_comesBy_82 v1 hne v2, e1, e2, e0, nq_c _ (by omega), nq_c _ (by omega), c2, c3, t20, pk_rem (by omega) (by omega) (by omega)]
      by_cases o : n % T 15 i = T 16 i
      · have hb : (selN T n).testBit i = true := by rw [selN_test hi]; exact decide_eq_true o
        rw [if_pos (by simp [hb])] at H
        rw [if_neg (fun z => z (by rw [o])), b_X8_comesBy_117 v0, nq_c _ (by omega), c1, nq_one (by omega), b_X8_comesBy_130, nI_1, nq_or (by omega) (by omega)]
        exact H _
      · have hb : (selN T n).testBit i = false := by rw [selN_test hi]; exact decide_eq_false o
        rw [if_neg (by simp [hb]), Nat.or_zero] at H
        rw [if_pos (fun z => o ((nI_eq (by omega) (by omega)).mp z)), b_X8_comesBy_129, b_X8_comesBy_130, nI_1, show (0 : Int32) = nI 0 from rfl, nq_or (by omega) (by decide), Nat.or_zero]
        exact H _
  suffices H : ∀ w : Value, mn_E 145 4 [.ref 63, .int (nI r), .int (nI (metN 0 (T 8) (T 9) (T 10) (doneN T df my gr mo r))), .int (nI 0), w] [] h R h by
    rw [metN_0] at H; exact H _
  refine mn_loopb (n := T 0 2) (fun i => ∀ w : Value, mn_E 145 4 [.ref 63, .int (nI r), .int (nI (metN i (T 8) (T 9) (T 10) (doneN T df my gr mo r))), .int (nI i), w] [] h R h) ?_ ?_ (Nat.zero_le _)
  · intro w
    rw [b_X8_comesBy_4, nl2, m2, if_pos (nI_le (Nat.le_refl _) (by omega)), b_X8_comesBy_70]
    exact second w
  · intro i hi H w
    obtain ⟨c1, c2, c3⟩ := mc i hi
    obtain ⟨s1, s2, s3, s4⟩ := wc i hi
    have e0 : (44 : Int32) + 3 * nI i = nI (44 + 3 * i) := na_mul 44 3 i
    have e1 : (44 : Int32) + 3 * nI i + 1 = nI (44 + 3 * i + 1) := by rw [e0, nI_1]
    have e2 : nI (44 + 3 * i) + 2 = nI (44 + 3 * i + 2) := nI_add _ 2
    have v0 : vp_in (nI (44 + 3 * i)) 96 := vp_in_nI (by omega) (by decide)
    have v1 : vp_in ((44 : Int32) + 3 * nI i + 1) 96 := by rw [e1]; exact vp_in_nI (by omega) (by decide)
    have v2 : vp_in (nI (44 + 3 * i) + 2) 96 := by rw [e2]; exact vp_in_nI (by omega) (by decide)
    have p1 : 2 ^ T 8 i ≤ 2 ^ 5 := Nat.pow_le_pow_right (by decide) (by omega)
    have ml := metN_lt i (T 8) (T 9) (T 10) (doneN T df my gr mo r)
    have dli := dl (T 9 i)
    rw [metN_succ _ _ _ _ _ s1] at H
    rw [b_X8_comesBy_4, nl2, m2, if_neg (nI_ge hi (by omega)), b_X8_comesBy_14 v1, e1, e0, nq_c _ (by omega), c2, mn_cl_i (xd _ s2), b_X8_comesBy_37 v2, e2, nq_c _ (by omega), c3]
    by_cases o : T 10 i ≤ doneN T df my gr mo r (T 9 i)
    · rw [if_pos o] at H
      rw [if_neg (nI_nlt o (by omega)), b_X8_comesBy_49 v0, nq_c _ (by omega), c1, nq_one (by omega), b_X8_comesBy_62, nI_1, nq_or (by omega) (by omega)]
      exact H _
    · rw [if_neg o] at H
      rw [if_pos (nI_lt (by omega) (by omega)), b_X8_comesBy_61, b_X8_comesBy_62, nI_1, show (0 : Int32) = nI 0 from rfl, nq_or (by omega) (by decide)]
      exact H _
end COME
