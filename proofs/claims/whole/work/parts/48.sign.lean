def isSg (s : Nat) : Bool := if s / 36 = 2 ∨ s / 36 = 3 then decide (s / 6 % 6 < s % 6) else decide (s % 6 = 0)
def pSN (G : Nat → Nat) (b k f j i : Nat) : Bool := rgN k f j (G (12 * b + i) / 64 % 64) (G (12 * b + i) % 64) == decide (4096 ≤ G (12 * b + i))
def agN (cb : Nat) (G : Nat → Nat) (b k f j : Nat) : Bool := (List.range cb).all (pSN G b k f j)
def sgA (cb : Nat) (G : Nat → Nat) (b s : Nat) : Bool := isSg s && agN cb G b (s / 36) (s / 6 % 6) (s % 6)
def sgM (cb : Nat) (G : Nat → Nat) (b : Nat) : Nat := mn_bits (sgA cb G b) 180
def cdN (s : Nat) : Nat := 100 * (s / 36) + 10 * (s / 6 % 6) + s % 6
def SB (h : mn_H) (b cb : Nat) (G : Nat → Nat) : Prop := cb ≤ 12 ∧ h 11 b = nI cb ∧ h 70 b = nI cb ∧ ∀ i, i < cb → G (12 * b + i) < 8192 ∧ h 71 (12 * b + i) = nI (G (12 * b + i)) ∧ h 12 (12 * b + i) = mz (decide (4096 ≤ G (12 * b + i))) ∧ h 13 (12 * b + i) = nI (G (12 * b + i) / 64 % 64) ∧ h 14 (12 * b + i) = nI (G (12 * b + i) % 64)
theorem mn_all_succ (p : Nat → Bool) (n : Nat) : (List.range (n + 1)).all p = ((List.range n).all p && p n) := by
  rw [List.range_succ, List.all_append]; simp
theorem mn_all_le {p : Nat → Bool} {n m : Nat} (h : n ≤ m) (e : (List.range n).all p = false) : (List.range m).all p = false := by
  induction m with
  | zero => rw [show n = 0 by omega] at e; exact e
  | succ m ih =>
    rw [mn_all_succ]
    by_cases q : n = m + 1
    · subst q; rw [mn_all_succ] at e; exact e
    · rw [ih (by omega)]; rfl
theorem mz_inj (a b : Bool) : mz a = mz b ↔ a = b := by cases a <;> cases b <;> simp [mz]
theorem sgM_test {cb b s : Nat} {G : Nat → Nat} (hs : s < 180) : (sgM cb G b).testBit s = sgA cb G b s := by
  unfold sgM; rw [mn_bits_test]; simp [hs]
theorem mn_nsum_mono (f : Nat → Nat) {a b : Nat} (h : a ≤ b) : mn_nsum f a ≤ mn_nsum f b := by
  induction b with
  | zero => rw [show a = 0 by omega]; exact Nat.le_refl _
  | succ b ih =>
    by_cases q : a = b + 1
    · rw [q]; exact Nat.le_refl _
    · have := ih (by omega); rw [mn_nsum]; omega
theorem sg48 : mn_nsum (fun s => if isSg s then 1 else 0) 180 = 48 := by decide +kernel
theorem sg_le (cb : Nat) (G : Nat → Nat) (b : Nat) : ∀ n, n ≤ 180 → mn_pop (sgM cb G b) n ≤ mn_nsum (fun s => if isSg s then 1 else 0) n := by
  intro n
  induction n with
  | zero => intro _; exact Nat.le_refl _
  | succ n ih =>
    intro hn
    have h1 := ih (by omega)
    rw [mn_pop_s1, mn_nsum, sgM_test (by omega)]
    unfold sgA
    cases isSg n with
    | false => simp; exact h1
    | true => simp; split <;> omega
theorem sg_lt {cb b s : Nat} {G : Nat → Nat} (hs : s < 180) (e : (sgM cb G b).testBit s = true) : mn_pop (sgM cb G b) s < 48 := by
  have h1 := sg_le cb G b (s + 1) (by omega)
  have h2 := mn_nsum_mono (fun s => if isSg s then 1 else 0) (show s + 1 ≤ 180 by omega)
  rw [sg48] at h2
  rw [mn_pop_s1, if_pos e] at h1
  omega
theorem sg_l48 (cb : Nat) (G : Nat → Nat) (b : Nat) {s : Nat} (hs : s ≤ 180) : mn_pop (sgM cb G b) s ≤ 48 := by
  have h1 := sg_le cb G b s hs
  have h2 := mn_nsum_mono (fun s => if isSg s then 1 else 0) hs
  rw [sg48] at h2; omega
theorem cd_dec : ∀ s, s < 180 → cdN s / 100 = s / 36 ∧ cdN s / 10 % 10 = s / 6 % 6 ∧ cdN s % 10 = s % 6 ∧ cdN s < 1000 ∧ s / 36 < 5 ∧ s / 6 % 6 < 6 ∧ s % 6 < 6 := by decide +kernel
theorem cd_k {k f j : Nat} (hf : f < 6) (hj : j < 6) : (36 * k + 6 * f + j) / 36 = k ∧ (36 * k + 6 * f + j) / 6 % 6 = f ∧ (36 * k + 6 * f + j) % 6 = j := by omega
section SG
variable {h hh : mn_H} {b cb : Nat} {G : Nat → Nat}
theorem x_agrees (hb : b < 5) (s : SB h b cb G) {k f j : Nat} (hk : k < 5) (hf : f < 6) (hj : j < 6) : mn_X 30 [.ref 10, .int (nI b), .int (nI k), .int (nI f), .int (nI j)] h (some (.int (mz (agN cb G b k f j)))) h := by
  obtain ⟨s1, s2, s3, s4⟩ := s
  have v5 : vp_in (nI b) 5 := vp_in_nI hb (by decide)
  have cl : (nI b).toNatClampNeg = b := nI_clamp (by omega)
  rw [e_X3_agrees, b_X3_agrees_0]
  have key := mn_loopb (n := cb) (fun i => (List.range i).all (pSN G b k f j) = true → ∀ w : Value, mn_E 30 3 [.ref 10, .int (nI b), .int (nI k), .int (nI f), .int (nI j), .int (nI i), w] [] h (some (.int (mz (agN cb G b k f j)))) h) ?_ ?_ (i0 := 0) (Nat.zero_le _)
  · exact key rfl _
  · intro e w
    rw [b_X3_agrees_3 v5, cl, s2, if_pos (Int32.le_refl _), b_X3_agrees_62]
    unfold agN; rw [e]; exact ⟨rfl, rfl⟩
  · intro i hi H e w
    obtain ⟨g1, g2, g3, g4, g5⟩ := s4 i hi
    have ei : nI b * 12 + nI i = nI (12 * b + i) := by rw [show (12 : Int32) = nI 12 from rfl, pk_mul, nI_add, Nat.mul_comm]
    have vi : vp_in (nI (12 * b + i)) 60 := vp_in_nI (by omega) (by decide)
    rw [mn_all_succ, e, Bool.true_and] at H
    rw [b_X3_agrees_3 v5, cl, s2, if_neg (nI_ge hi (by omega)), b_X3_agrees_14 (by rw [ei]; exact vi), ei, nI_clamp (by omega), g4, g5, mn_cl_i (x_X7_rings _ _ _ _ (nI_k5 hk)), rgB_N hk hf hj (Nat.mod_lt _ (by decide)) (Nat.mod_lt _ (by decide)), b_X3_agrees_44 vi, nI_clamp (by omega), g3]
    by_cases q : rgN k f j (G (12 * b + i) / 64 % 64) (G (12 * b + i) % 64) = decide (4096 ≤ G (12 * b + i))
    · rw [if_pos ((mz_inj _ _).mpr q), b_X3_agrees_56, nI_1]
      exact H (by unfold pSN; rw [q]; simp) _
    · rw [if_neg (fun z => q ((mz_inj _ _).mp z)), b_X3_agrees_54]
      have : agN cb G b k f j = false := by
        unfold agN
        refine mn_all_le (show i + 1 ≤ cb by omega) ?_
        rw [mn_all_succ, e, Bool.true_and]
        unfold pSN; simpa using q
      rw [this]; exact ⟨rfl, rfl⟩
theorem x_isSign {s : Nat} (hs : s < 180) : mn_X 174 [.int (nI s)] h (some (.int (mz (isSg s)))) h := by
  obtain ⟨-, -, -, -, c5, c6, c7⟩ := cd_dec s hs
  have e1 : nI s / 36 = nI (s / 36) := pk_div (d := 36) (by omega) (by decide) (by decide)
  have e2 : nI s / 6 - nI s / 6 / 6 * 6 = nI (s / 6 % 6) := by
    rw [show nI s / 6 = nI (s / 6) from pk_div (d := 6) (by omega) (by decide) (by decide)]
    exact pk_rem (d := 6) (by omega) (by decide) (by decide)
  have e3 : nI s - nI s / 6 * 6 = nI (s % 6) := pk_rem (d := 6) (by omega) (by decide) (by decide)
  rw [e_X8_isSign, b_X8_isSign_0, e1, e2, e3]
  unfold isSg
  generalize s / 36 = k at c5
  generalize s / 6 % 6 = f at c6
  generalize s % 6 = j at c7
  have two : (k = 2 ∨ k = 3) → mn_E 174 28 [.int (nI s), .int (nI k), .int (nI f), .int (nI j)] [] h (some (.int (mz (if k = 2 ∨ k = 3 then decide (f < j) else decide (j = 0))))) h := by
    intro q
    rw [b_X8_isSign_28, if_pos q]
    by_cases o : j ≤ f
    · rw [if_pos (nI_le o (by omega)), b_X8_isSign_37, b_X8_isSign_50 (Or.inl rfl), decide_eq_false (by omega)]; exact ⟨rfl, rfl⟩
    · rw [if_neg (nI_ge (by omega) (by omega)), b_X8_isSign_33, b_X8_isSign_50 (Or.inr rfl), decide_eq_true (by omega)]; exact ⟨rfl, rfl⟩
  by_cases o2 : k = 2
  · rw [if_pos (show nI k = 2 from by rw [o2]; rfl)]; exact two (Or.inl o2)
  · rw [if_neg (show ¬ nI k = 2 from fun z => o2 ((nI_eq (b := 2) (by omega) (by decide)).mp z)), b_X8_isSign_23]
    by_cases o3 : k = 3
    · rw [if_neg (show ¬ ¬ nI k = 3 from fun z => z (by rw [o3]; rfl))]; exact two (Or.inr o3)
    · rw [if_pos (show ¬ nI k = 3 from fun z => o3 ((nI_eq (b := 3) (by omega) (by decide)).mp z)), b_X8_isSign_41, if_neg (show ¬ (k = 2 ∨ k = 3) by omega)]
      by_cases o : j = 0
      · rw [if_neg (show ¬ ¬ nI j = 0 from fun z => z (by rw [o]; rfl)), b_X8_isSign_45, b_X8_isSign_50 (Or.inr rfl), decide_eq_true o]; exact ⟨rfl, rfl⟩
      · rw [if_pos (show ¬ nI j = 0 from nI_ne0 (by omega) (by omega)), b_X8_isSign_49, b_X8_isSign_50 (Or.inl rfl), decide_eq_false o]; exact ⟨rfl, rfl⟩
theorem x_isSo (hb : b < 5) (sb : SB h b cb G) {s : Nat} (hs : s < 180) : mn_X 175 [.ref 63, .int (nI b), .int (nI s)] h (some (.int (mz ((sgM cb G b).testBit s)))) h := by
  rw [sgM_test hs]
  obtain ⟨s1, s2, s3, s4⟩ := sb
  obtain ⟨-, -, -, -, c5, c6, c7⟩ := cd_dec s hs
  have v5 : vp_in (nI b) 5 := vp_in_nI hb (by decide)
  have cl : (nI b).toNatClampNeg = b := nI_clamp (by omega)
  have e1 : nI s / 36 = nI (s / 36) := pk_div (d := 36) (by omega) (by decide) (by decide)
  have e2 : nI s / 6 - nI s / 6 / 6 * 6 = nI (s / 6 % 6) := by
    rw [show nI s / 6 = nI (s / 6) from pk_div (d := 6) (by omega) (by decide) (by decide)]
    exact pk_rem (d := 6) (by omega) (by decide) (by decide)
  have e3 : nI s - nI s / 6 * 6 = nI (s % 6) := pk_rem (d := 6) (by omega) (by decide) (by decide)
  rw [e_X8_isSo, b_X8_isSo_0, mn_cl_i (x_isSign hs), b_X8_isSo_4]
  have key := mn_loopb (n := cb) (fun i => ∀ w : Value, mn_E 175 8 [.ref 63, .int (nI b), .int (nI s), .int (mz (isSg s && (List.range i).all (pSN G b (s / 36) (s / 6 % 6) (s % 6)))), .int (nI i), w] [] h (some (.int (mz (sgA cb G b s)))) h) ?_ ?_ (i0 := 0) (Nat.zero_le _)
  · rw [show (List.range 0).all (pSN G b (s / 36) (s / 6 % 6) (s % 6)) = true from rfl, Bool.and_true] at key
    exact key _
  · intro w
    rw [b_X8_isSo_8 v5, cl, s3, if_pos (Int32.le_refl _), b_X8_isSo_96 (mz_01 _)]
    exact ⟨rfl, rfl⟩
  · intro i hi H w
    obtain ⟨g1, g2, g3, g4, g5⟩ := s4 i hi
    have ei : (12 : Int32) * nI b + nI i = nI (12 * b + i) := by rw [show (12 : Int32) = nI 12 from rfl, pk_mul, nI_add]
    have vi : vp_in (nI (12 * b + i)) 60 := vp_in_nI (by omega) (by decide)
    rw [b_X8_isSo_8 v5, cl, s3, if_neg (nI_ge hi (by omega)), b_X8_isSo_19]
    cases q : (isSg s && (List.range i).all (pSN G b (s / 36) (s / 6 % 6) (s % 6))) with
    | false =>
      rw [if_pos mz_f, b_X8_isSo_96 (mz_01 _)]
      have : sgA cb G b s = false := by
        unfold sgA agN
        cases o : isSg s with
        | false => rfl
        | true => rw [o, Bool.true_and] at q; rw [Bool.true_and]; exact mn_all_le (by omega) q
      rw [this]; exact ⟨rfl, rfl⟩
    | true =>
      have q2 : isSg s = true ∧ (List.range i).all (pSN G b (s / 36) (s / 6 % 6) (s % 6)) = true := by simpa using q
      rw [mn_all_succ, q2.1, q2.2, Bool.true_and, Bool.true_and] at H
      have d1 : nI (G (12 * b + i)) / 64 - nI (G (12 * b + i)) / 64 / 64 * 64 = nI (G (12 * b + i) / 64 % 64) := by
        rw [show nI (G (12 * b + i)) / 64 = nI (G (12 * b + i) / 64) from pk_div (d := 64) (by omega) (by decide) (by decide)]
        exact pk_rem (d := 64) (by omega) (by decide) (by decide)
      have d2 : nI (G (12 * b + i)) - nI (G (12 * b + i)) / 64 * 64 = nI (G (12 * b + i) % 64) := pk_rem (d := 64) (by omega) (by decide) (by decide)
      rw [if_neg (by decide), b_X8_isSo_23 (by rw [ei]; exact vi), ei, nI_clamp (by omega), g2, d1, d2, e1, e2, e3, mn_cl_i (x_X8_rings _ _ _ _ (nI_k5 c5)), rgB_N c5 c6 c7 (Nat.mod_lt _ (by decide)) (Nat.mod_lt _ (by decide)), b_X8_isSo_68]
      have fin : ∀ o : Bool, o = decide (4096 ≤ G (12 * b + i)) → mn_E 175 81 [.ref 63, .int (nI b), .int (nI s), .int (mz true), .int (nI i), .int (nI (G (12 * b + i)))] [.int (mz o), .int (mz (rgN (s / 36) (s / 6 % 6) (s % 6) (G (12 * b + i) / 64 % 64) (G (12 * b + i) % 64)))] h (some (.int (mz (sgA cb G b s)))) h := by
        intro o ho
        rw [b_X8_isSo_81]
        by_cases z : rgN (s / 36) (s / 6 % 6) (s % 6) (G (12 * b + i) / 64 % 64) (G (12 * b + i) % 64) = o
        · rw [if_neg (fun y => y ((mz_inj _ _).mpr z)), b_X8_isSo_84, b_X8_isSo_89, nI_1]
          have : pSN G b (s / 36) (s / 6 % 6) (s % 6) i = true := by unfold pSN; rw [z, ho]; simp
          rw [this] at H; exact H _
        · rw [if_pos (fun y => z ((mz_inj _ _).mp y)), b_X8_isSo_88, b_X8_isSo_89, nI_1]
          have : pSN G b (s / 36) (s / 6 % 6) (s % 6) i = false := by unfold pSN; rw [← ho]; simpa using z
          rw [this] at H; exact H _
      by_cases o : G (12 * b + i) ≤ 4095
      · rw [if_pos (show nI _ ≤ 4095 from nI_le (b := 4095) o (by decide)), b_X8_isSo_80]
        exact fin false (by rw [decide_eq_false (by omega)])
      · rw [if_neg (show ¬ nI _ ≤ 4095 from nI_ge (a := 4095) (by omega) (by omega)), b_X8_isSo_76]
        exact fin true (by rw [decide_eq_true (by omega)])
/-- signs found so far -/
def fsI (h hh : mn_H) (M x : Nat) : Prop := (∀ a, a ≠ 10 → a ≠ 15 → hh a = h a) ∧ hh 10 5 = nI (mn_pop M x) ∧ ∀ s, s < x → M.testBit s = true → hh 15 (mn_pop M s) = nI (cdN s)
theorem fsI.skip {M x : Nat} (f : fsI h hh M x) (e : M.testBit x = false) : fsI h hh M (x + 1) := by
  refine ⟨f.1, by rw [mn_pop_s1, e]; exact f.2.1, fun s hs hb => ?_⟩
  by_cases q : s = x
  · subst q; rw [e] at hb; cases hb
  · exact f.2.2 s (by omega) hb
theorem fsI.skips {M x : Nat} (f : fsI h hh M x) : ∀ n, (∀ i, i < n → M.testBit (x + i) = false) → fsI h hh M (x + n) := by
  intro n
  induction n with
  | zero => intro _; exact f
  | succ n ih => intro e; exact (ih (fun i hi => e i (by omega))).skip (e n (by omega))
theorem SB.fr (s : SB h b cb G) (f : ∀ a, a ≠ 10 → a ≠ 15 → hh a = h a) : SB hh b cb G := by
  unfold SB at s ⊢
  rw [f 11 (by decide) (by decide), f 12 (by decide) (by decide), f 13 (by decide) (by decide), f 14 (by decide) (by decide), f 70 (by decide) (by decide), f 71 (by decide) (by decide)]
  exact s
/-- one sign is looked at -/
theorem x_fs1 (hb : b < 5) (sb : SB h b cb G) {k f j : Nat} (hk : k < 5) (hf : f < 6) (hj : j < 6) (hs : isSg (36 * k + 6 * f + j) = true) (F : fsI h hh (sgM cb G b) (36 * k + 6 * f + j)) {x3 : Int32} : ∃ h1, fsI h h1 (sgM cb G b) (36 * k + 6 * f + j + 1) ∧ ∀ q h', mn_E 29 52 [.ref 10, .int (nI b), .int (nI k), .int x3, .int (nI f), .int (nI (j + 1))] [] h1 q h' → mn_E 29 67 [.ref 10, .int (nI b), .int (nI k), .int x3, .int (nI f), .int (nI j)] [] hh q h' := by
  obtain ⟨k1, k2, k3⟩ := cd_k (k := k) hf hj
  have x1 : 36 * k + 6 * f + j < 180 := by omega
  have ec : cdN (36 * k + 6 * f + j) = 100 * k + 10 * f + j := by unfold cdN; rw [k1, k2, k3]
  have et : (sgM cb G b).testBit (36 * k + 6 * f + j) = agN cb G b k f j := by rw [sgM_test x1]; unfold sgA; rw [hs, k1, k2, k3, Bool.true_and]
  generalize 36 * k + 6 * f + j = x at *
  have xa := x_agrees (h := hh) hb (sb.fr F.1) hk hf hj
  rw [← et] at xa
  cases o : (sgM cb G b).testBit x with
  | false =>
    refine ⟨hh, F.skip o, fun q h' z => ?_⟩
    rw [o] at xa
    rw [b_X3_findSigns_67, mn_cl_i xa, b_X3_findSigns_77, if_pos mz_f, b_X3_findSigns_121, nI_1]
    exact z
  | true =>
    rw [o] at xa
    have lt := sg_lt x1 o
    obtain ⟨F1, F2, F3⟩ := F
    refine ⟨mn_up (mn_up hh 15 (mn_pop (sgM cb G b) x) (nI (cdN x))) 10 5 (nI (mn_pop (sgM cb G b) x + 1)), ⟨fun a q1 q2 => by rw [mn_up_row _ _ _ _ q1, mn_up_row _ _ _ _ q2]; exact F1 a q1 q2, ?_, fun s hs' hb' => ?_⟩, fun q h' z => ?_⟩
    · rw [mn_up_get, if_pos ⟨rfl, rfl⟩, mn_pop_s1, if_pos o]
    · rw [mn_up_row _ _ _ _ (by decide), mn_up_get]
      by_cases q : s = x
      · rw [if_pos ⟨rfl, by rw [q]⟩, q]
      · have m2 := mn_pop_mono (sgM cb G b) (show s + 1 ≤ x by omega)
        rw [mn_pop_s1, if_pos hb'] at m2
        rw [if_neg (fun w => by have := w.2; omega)]
        exact F3 s (by omega) hb'
    · have e5 : (100 : Int32) * nI k + 10 * nI f + nI j = nI (cdN x) := by
        rw [show (100 : Int32) = nI 100 from rfl, show (10 : Int32) = nI 10 from rfl, pk_mul, pk_mul, nI_add, nI_add, ec]
      rw [b_X3_findSigns_67, mn_cl_i xa, b_X3_findSigns_77, if_neg (by decide), b_X3_findSigns_80, F2, if_neg (show ¬ (48 : Int32) ≤ nI _ from nI_ge (b := 48) lt (by decide)), b_X3_findSigns_89 (by rw [F2]; exact vp_in_nI lt (by decide)), F2, nI_clamp (by omega), e5, mn_up_row hh 15 _ _ (show 10 ≠ 15 by decide), F2, nI_1, b_X3_findSigns_121, nI_1]
      exact z
/-- the signs of one kind and one first happening -/
theorem x_fsH (hb : b < 5) (sb : SB h b cb G) {k f : Nat} (hk : k < 5) (hf : f < 6) (F : fsI h hh (sgM cb G b) (36 * k + 6 * f)) {w5 : Value} : ∃ h1 w5', fsI h h1 (sgM cb G b) (36 * k + 6 * (f + 1)) ∧ ∀ q h', mn_E 29 31 [.ref 10, .int (nI b), .int (nI k), .int (mz (decide (k = 2 ∨ k = 3))), .int (nI (f + 1)), w5'] [] h1 q h' → mn_E 29 38 [.ref 10, .int (nI b), .int (nI k), .int (mz (decide (k = 2 ∨ k = 3))), .int (nI f), w5] [] hh q h' := by
  have isk : ∀ j, j < 6 → isSg (36 * k + 6 * f + j) = if k = 2 ∨ k = 3 then decide (f < j) else decide (j = 0) := by
    intro j hj
    obtain ⟨k1, k2, k3⟩ := cd_k (k := k) hf hj
    unfold isSg; rw [k1, k2, k3]
  have nsk : ∀ j, j < 6 → isSg (36 * k + 6 * f + j) = false → (sgM cb G b).testBit (36 * k + 6 * f + j) = false := by
    intro j hj e
    rw [sgM_test (by omega)]; unfold sgA; rw [e]; rfl
  by_cases o : k = 2 ∨ k = 3
  · rw [decide_eq_true o]
    have F0 := F.skips (f + 1) (fun i hi => nsk i (by omega) (by rw [isk i (by omega), if_pos o, decide_eq_false (by omega)]))
    have key : ∀ n, f + 1 + n ≤ 6 → ∃ h1, fsI h h1 (sgM cb G b) (36 * k + 6 * f + (f + 1 + n)) ∧ ∀ q h', mn_E 29 52 [.ref 10, .int (nI b), .int (nI k), .int (mz true), .int (nI f), .int (nI (f + 1 + n))] [] h1 q h' → mn_E 29 52 [.ref 10, .int (nI b), .int (nI k), .int (mz true), .int (nI f), .int (nI (f + 1))] [] hh q h' := by
      intro n
      induction n with
      | zero => intro _; exact ⟨hh, F0, fun q h' z => z⟩
      | succ n ih =>
        intro hn
        obtain ⟨h1, F1, E1⟩ := ih (by omega)
        obtain ⟨h2, F2, E2⟩ := x_fs1 (x3 := mz true) hb sb hk hf (show f + 1 + n < 6 by omega) (by rw [isk _ (by omega), if_pos o, decide_eq_true (by omega)]) F1
        refine ⟨h2, F2, fun q h' z => E1 q h' ?_⟩
        rw [b_X3_findSigns_52, if_neg (by decide), b_X3_findSigns_58, b_X3_findSigns_64, if_neg (show ¬ (6 : Int32) ≤ nI _ from nI_ge (b := 6) (by omega) (by decide))]
        exact E2 q h' z
    obtain ⟨h1, F1, E1⟩ := key (5 - f) (by omega)
    rw [show f + 1 + (5 - f) = 6 by omega] at F1 E1
    refine ⟨h1, .int (nI 6), by rw [show 36 * k + 6 * (f + 1) = 36 * k + 6 * f + 6 by omega]; exact F1, fun q h' z => ?_⟩
    rw [b_X3_findSigns_38, if_neg (by decide), b_X3_findSigns_42, b_X3_findSigns_50, nI_1]
    apply E1
    rw [b_X3_findSigns_52, if_neg (by decide), b_X3_findSigns_58, b_X3_findSigns_64, if_pos (show (6 : Int32) ≤ nI 6 from by decide), b_X3_findSigns_127, nI_1]
    exact z
  · rw [decide_eq_false o]
    obtain ⟨h1, F1, E1⟩ := x_fs1 (x3 := mz false) (j := 0) hb sb hk hf (by omega) (by rw [isk _ (by omega), if_neg o]; rfl) F
    have F2 := F1.skips 5 (fun i hi => by
      have := nsk (1 + i) (by omega) (by rw [isk _ (by omega), if_neg o, decide_eq_false (by omega)])
      rw [show 36 * k + 6 * f + 0 + 1 + i = 36 * k + 6 * f + (1 + i) by omega]; exact this)
    refine ⟨h1, .int (nI 1), by rw [show 36 * k + 6 * (f + 1) = 36 * k + 6 * f + 0 + 1 + 5 by omega]; exact F2, fun q h' z => ?_⟩
    rw [b_X3_findSigns_38, if_pos mz_f, b_X3_findSigns_49, b_X3_findSigns_50, b_X3_findSigns_52, if_pos mz_f, b_X3_findSigns_63, b_X3_findSigns_64, if_neg (by decide)]
    refine E1 q h' ?_
    rw [b_X3_findSigns_52, if_pos mz_f, b_X3_findSigns_63, b_X3_findSigns_64, if_pos (show (1 : Int32) ≤ nI (0 + 1) from by decide), b_X3_findSigns_127, nI_1]
    exact z
theorem x_fsK (hb : b < 5) (sb : SB h b cb G) {k : Nat} (hk : k < 5) (F : fsI h hh (sgM cb G b) (36 * k)) {w3 w4 w5 : Value} : ∃ h1 w3' w4' w5', fsI h h1 (sgM cb G b) (36 * (k + 1)) ∧ ∀ q h', mn_E 29 7 [.ref 10, .int (nI b), .int (nI (k + 1)), w3', w4', w5'] [] h1 q h' → mn_E 29 12 [.ref 10, .int (nI b), .int (nI k), w3, w4, w5] [] hh q h' := by
  have key : ∀ f, f ≤ 6 → ∃ h1 w5', fsI h h1 (sgM cb G b) (36 * k + 6 * f) ∧ ∀ q h', mn_E 29 31 [.ref 10, .int (nI b), .int (nI k), .int (mz (decide (k = 2 ∨ k = 3))), .int (nI f), w5'] [] h1 q h' → mn_E 29 31 [.ref 10, .int (nI b), .int (nI k), .int (mz (decide (k = 2 ∨ k = 3))), .int (nI 0), w5] [] hh q h' := by
    intro f
    induction f with
    | zero => intro _; exact ⟨hh, w5, F, fun q h' z => z⟩
    | succ f ih =>
      intro hf
      obtain ⟨h1, w, F1, E1⟩ := ih (by omega)
      obtain ⟨h2, w2, F2, E2⟩ := x_fsH (w5 := w) hb sb hk (show f < 6 by omega) F1
      refine ⟨h2, w2, F2, fun q h' z => E1 q h' ?_⟩
      rw [b_X3_findSigns_31, if_neg (show ¬ (6 : Int32) ≤ nI f from nI_ge (b := 6) (by omega) (by decide))]
      exact E2 q h' z
  obtain ⟨h1, w, F1, E1⟩ := key 6 (Nat.le_refl _)
  refine ⟨h1, .int (mz (decide (k = 2 ∨ k = 3))), .int (nI 6), w, by rw [show 36 * (k + 1) = 36 * k + 6 * 6 by omega]; exact F1, fun q h' z => ?_⟩
  have fin : mn_E 29 27 [.ref 10, .int (nI b), .int (nI k), w3, w4, w5] [.int (mz (decide (k = 2 ∨ k = 3)))] hh q h' := by
    rw [b_X3_findSigns_27]
    apply E1
    rw [b_X3_findSigns_31, if_pos (show (6 : Int32) ≤ nI 6 from by decide), b_X3_findSigns_133, nI_1]
    exact z
  rw [b_X3_findSigns_12]
  by_cases o2 : k = 2
  · rw [if_pos (show nI k = 2 from by rw [o2]; rfl), b_X3_findSigns_22]
    rw [decide_eq_true (Or.inl o2)] at fin; exact fin
  · rw [if_neg (show ¬ nI k = 2 from fun z => o2 ((nI_eq (b := 2) (by omega) (by decide)).mp z)), b_X3_findSigns_17]
    by_cases o3 : k = 3
    · rw [if_neg (show ¬ ¬ nI k = 3 from fun z => z (by rw [o3]; rfl)), b_X3_findSigns_22]
      rw [decide_eq_true (Or.inr o3)] at fin; exact fin
    · rw [if_pos (show ¬ nI k = 3 from fun z => o3 ((nI_eq (b := 3) (by omega) (by decide)).mp z)), b_X3_findSigns_26]
      rw [decide_eq_false (by omega)] at fin; exact fin
theorem x_findSigns (hb : b < 5) (sb : SB h b cb G) : ∃ h', mn_X 29 [.ref 10, .int (nI b)] h none h' ∧ fsI h h' (sgM cb G b) 180 := by
  have F0 : fsI h (mn_up h 10 5 0) (sgM cb G b) (36 * 0) := ⟨fun a q1 _ => mn_up_row _ _ _ _ q1, by rw [mn_up_get, if_pos ⟨rfl, rfl⟩]; rfl, fun s hs => by omega⟩
  have key : ∀ k, k ≤ 5 → ∃ h1 w3' w4' w5', fsI h h1 (sgM cb G b) (36 * k) ∧ ∀ q h', mn_E 29 7 [.ref 10, .int (nI b), .int (nI k), w3', w4', w5'] [] h1 q h' → mn_E 29 7 [.ref 10, .int (nI b), .int (nI 0), .null, .null, .null] [] (mn_up h 10 5 0) q h' := by
    intro k
    induction k with
    | zero => intro _; exact ⟨_, .null, .null, .null, F0, fun q h' z => z⟩
    | succ k ih =>
      intro hk
      obtain ⟨h1, u3, u4, u5, F1, E1⟩ := ih (by omega)
      obtain ⟨h2, v3, v4, v5, F2, E2⟩ := x_fsK (w3 := u3) (w4 := u4) (w5 := u5) hb sb (show k < 5 by omega) F1
      refine ⟨h2, v3, v4, v5, F2, fun q h' z => E1 q h' ?_⟩
      rw [b_X3_findSigns_7, if_neg (show ¬ (5 : Int32) ≤ nI k from nI_ge (b := 5) (by omega) (by decide))]
      exact E2 q h' z
  obtain ⟨h1, u3, u4, u5, F1, E1⟩ := key 5 (Nat.le_refl _)
  refine ⟨h1, ?_, F1⟩
  rw [e_X3_findSigns, b_X3_findSigns_0]
  apply E1
  rw [b_X3_findSigns_7, if_pos (show (5 : Int32) ≤ nI 5 from by decide), b_X3_findSigns_139]
  exact ⟨rfl, rfl⟩
end SG
