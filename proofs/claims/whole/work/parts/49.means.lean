theorem mn_rowN {σ : Type} {m N : Nat} (E : Nat → σ → Prop) (A : Nat → σ) (hs : ∀ d, d < N → m.testBit d = true → E (mn_pop m d + 1) (A (d + 1)) → E (mn_pop m d) (A d)) (hA : ∀ d, d < N → m.testBit d = false → A (d + 1) = A d) (hx : E (mn_pop m N) (A N)) : E 0 (A 0) := by
  have key : ∀ k, k ≤ N → E (mn_pop m (N - k)) (A (N - k)) := by
    intro k
    induction k with
    | zero => intro _; exact hx
    | succ k ih =>
      intro hk
      have h1 := ih (by omega)
      have e : N - k = (N - (k + 1)) + 1 := by omega
      rw [e, mn_pop_s1] at h1
      cases hb : m.testBit (N - (k + 1)) with
      | true => rw [hb] at h1; exact hs _ (by omega) hb h1
      | false => rw [hb, hA _ (by omega) hb] at h1; exact h1
  have := key N (Nat.le_refl _)
  rw [Nat.sub_self] at this
  exact this
def fdN (M : Nat) (x : Int32) : Nat → Int32
  | 0 => -1
  | s + 1 => if M.testBit s then (if nI (mn_pop M s) = x then nI (cdN s) else fdN M x s) else fdN M x s
def rcN (M d : Nat) : Nat → Nat
  | 0 => 0
  | s + 1 => if M.testBit s then rcN M d s + (if rgN (s / 36) (s / 6 % 6) (s % 6) 0 d then 1 else 0) else rcN M d s
theorem rcN_le (M d n : Nat) : rcN M d n ≤ mn_pop M n := by
  induction n with
  | zero => exact Nat.le_refl _
  | succ n ih =>
    rw [rcN, mn_pop_s1]
    split
    · split <;> omega
    · omega
theorem fd_miss {M : Nat} {x : Int32} : ∀ N, (∀ s, s < N → M.testBit s = true → ¬ nI (mn_pop M s) = x) → fdN M x N = -1 := by
  intro N
  induction N with
  | zero => intro _; rfl
  | succ N ih =>
    intro e
    rw [fdN]
    split
    · rename_i q; rw [if_neg (e N (by omega) q)]; exact ih (fun s hs => e s (by omega))
    · exact ih (fun s hs => e s (by omega))
theorem fd_hit {M s0 : Nat} (hb : M.testBit s0 = true) : ∀ N, s0 < N → N < 2 ^ 30 → fdN M (nI (mn_pop M s0)) N = nI (cdN s0) := by
  intro N
  induction N with
  | zero => intro q; omega
  | succ N ih =>
    intro q q3
    rw [fdN]
    by_cases e : s0 = N
    · subst e; rw [if_pos hb, if_pos rfl]
    · have i := ih (by omega) (by omega)
      split
      · have m2 := mn_pop_mono M (show s0 + 1 ≤ N by omega)
        have l := mn_pop_le M N
        rw [mn_pop_s1, if_pos hb] at m2
        rw [if_neg (fun z => by have := (nI_eq (by omega) (by omega)).mp z; omega)]
        exact i
      · exact i
/-- the day that parts the signs -/
def gtN (L r : Int32) : Int32 := if r < L - r then L - r else r
def wtF (L : Int32) (r : Nat → Int32) : Nat → Int32 × Int32
  | 0 => (-1, L)
  | d + 1 => if (wtF L r d).2 ≤ gtN L (r d) then wtF L r d else (nI d, gtN L (r d))
theorem gtN_m (L r : Int32) : (if r ≤ L - r then L - r else r) = gtN L r := by
  unfold gtN
  by_cases o : r < L - r
  · rw [if_pos o, if_pos (Int32.le_of_lt o)]
  · rw [if_neg o]
    by_cases q : r ≤ L - r
    · rw [if_pos q]
      apply Int32.toInt_inj.mp
      rw [Int32.lt_iff_toInt_lt] at o
      rw [Int32.le_iff_toInt_le] at q
      omega
    · rw [if_neg q]
section MW
variable {h : mn_H} {b cb : Nat} {G : Nat → Nat}
theorem cd_expr {s : Nat} (hs : s < 180) : ((100 * (nI s / 36)) + (10 * ((nI s / 6) - (nI s / 6) / 6 * 6))) + (nI s - nI s / 6 * 6) = nI (cdN s) := by
  rw [show nI s / 36 = nI (s / 36) from pk_div (d := 36) (by omega) (by decide) (by decide), show nI s / 6 - nI s / 6 / 6 * 6 = nI (s / 6 % 6) from by
    rw [show nI s / 6 = nI (s / 6) from pk_div (d := 6) (by omega) (by decide) (by decide)]
    exact pk_rem (d := 6) (by omega) (by decide) (by decide), show nI s - nI s / 6 * 6 = nI (s % 6) from pk_rem (d := 6) (by omega) (by decide) (by decide), show (100 : Int32) = nI 100 from rfl, show (10 : Int32) = nI 10 from rfl, pk_mul, pk_mul, nI_add, nI_add]
  rfl
theorem x_mmeans {T : TW} (hm : MT h T) (hw : TWF T) (hb : b < T 0 0) (sb : SB h b cb G) (x : Int32) : mn_X 176 [.ref 63, .int (nI b), .int x] h (some (.int (if x = -1 then nI (mn_pop (sgM cb G b) 180) else fdN (sgM cb G b) x 180))) h := by
  have t5 := hw.1.1
  have ya := x_mBell hm hw (nI b)
  rw [in_true hb (by omega)] at ya
  rw [e_X8_means, b_X8_means_0, mn_cl_i ya, b_X8_means_5, if_pos (by decide), b_X8_means_11]
  refine mn_loopb (n := 180) (fun s => mn_E 176 19 [.ref 63, .int (nI b), .int x, .int (nI (mn_pop (sgM cb G b) s)), .int (fdN (sgM cb G b) x s), .int (nI s)] [] h (some (.int (if x = -1 then nI (mn_pop (sgM cb G b) 180) else fdN (sgM cb G b) x 180))) h) ?_ ?_ (Nat.zero_le _)
  · show mn_E _ _ _ _ _ _ _
    rw [b_X8_means_19, if_pos (show (180 : Int32) ≤ nI 180 from by decide), b_X8_means_84]
    by_cases q : x = -1
    · rw [if_neg (fun z => z q), b_X8_means_89, b_X8_means_95, if_pos q]; exact ⟨rfl, rfl⟩
    · rw [if_pos q, b_X8_means_93, b_X8_means_95, if_neg q]; exact ⟨rfl, rfl⟩
  · intro s hs H
    show mn_E _ _ _ _ _ _ _
    rw [mn_pop_s1, fdN] at H
    rw [b_X8_means_19, if_neg (show ¬ (180 : Int32) ≤ nI s from nI_ge (b := 180) hs (by decide)), b_X8_means_27, mn_cl_i (x_isSo (show b < 5 by omega) sb hs), b_X8_means_34]
    cases o : (sgM cb G b).testBit s with
    | false =>
      rw [o] at H
      rw [if_pos mz_f, b_X8_means_78, nI_1]
      exact H
    | true =>
      rw [o, if_pos rfl, if_pos rfl] at H
      rw [if_neg (by decide), b_X8_means_37]
      by_cases q : nI (mn_pop (sgM cb G b) s) = x
      · rw [if_pos q] at H
        rw [if_neg (fun z => z q), b_X8_means_42, cd_expr hs, b_X8_means_73, b_X8_means_78, nI_1, nI_1]
        exact H
      · rw [if_neg q] at H
        rw [if_pos q, b_X8_means_71, b_X8_means_73, b_X8_means_78, nI_1, nI_1]
        exact H
theorem fsI.sf {h hh : mn_H} {M x : Nat} (f : fsI h hh M x) : SF h hh := ⟨fun b h1 h2 _ _ _ => f.1 b h1 (by omega), fun k _ => by rw [f.1 63 (by decide) (by decide)]⟩
theorem x_countR {hh : mn_H} {d : Nat} (hd : d < 64) (F : fsI h hh (sgM cb G b) 180) : mn_X 34 [.ref 10, .int (nI d)] hh (some (.int (nI (rcN (sgM cb G b) d 180)))) hh := by
  obtain ⟨F1, F2, F3⟩ := F
  have l48 := sg_l48 cb G b (Nat.le_refl 180)
  rw [e_X3_countRinging, b_X3_countRinging_0]
  refine mn_rowN (m := sgM cb G b) (N := 180) (fun j a => mn_E 34 4 [.ref 10, .int (nI d), .int (nI a), .int (nI j)] [] hh (some (.int (nI (rcN (sgM cb G b) d 180)))) hh) (rcN (sgM cb G b) d) ?_ ?_ ?_
  · intro s hs hb H
    have lt := sg_lt hs hb
    have lt2 := mn_pop_mono (sgM cb G b) (show s + 1 ≤ 180 by omega)
    rw [mn_pop_s1, if_pos hb] at lt2
    obtain ⟨c1, c2, c3, c4, c5, c6, c7⟩ := cd_dec s hs
    rw [rcN, if_pos hb] at H
    have e1 : nI (cdN s) / 100 = nI (s / 36) := by rw [← c1]; exact pk_div (d := 100) (by omega) (by decide) (by decide)
    have e2 : nI (cdN s) / 10 - nI (cdN s) / 10 / 10 * 10 = nI (s / 6 % 6) := by
      rw [← c2, show nI (cdN s) / 10 = nI (cdN s / 10) from pk_div (d := 10) (by omega) (by decide) (by decide)]
      exact pk_rem (d := 10) (by omega) (by decide) (by decide)
    have e3 : nI (cdN s) - nI (cdN s) / 10 * 10 = nI (s % 6) := by rw [← c3]; exact pk_rem (d := 10) (by omega) (by decide) (by decide)
    rw [b_X3_countRinging_4, F2, if_neg (nI_ge (by omega) (by omega)), b_X3_countRinging_12 (vp_in_nI lt (by decide)), nI_clamp (by omega), F3 s hs hb, e1, e2, e3, mn_cl_i (x_X7_rings _ _ _ _ (nI_k5 c5))]
    rw [show (0 : Int32) = nI 0 from rfl, rgB_N c5 c6 c7 (by decide) hd, b_X3_countRinging_47]
    by_cases o : rgN (s / 36) (s / 6 % 6) (s % 6) 0 d = true
    · rw [if_pos o] at H
      rw [if_neg (by rw [o]; decide), b_X3_countRinging_50, b_X3_countRinging_53, nI_1, nI_1]
      exact H
    · rw [if_neg o] at H
      rw [if_pos (by rw [Bool.eq_false_iff.mpr o]; rfl), b_X3_countRinging_53, nI_1]
      exact H
  · intro s hs hb
    rw [rcN, hb]; rfl
  · rw [b_X3_countRinging_4, F2, if_pos (Int32.le_refl _), b_X3_countRinging_59]; exact ⟨rfl, rfl⟩
theorem x_dayParts {hh : mn_H} (F : fsI h hh (sgM cb G b) 180) : mn_X 33 [.ref 10] hh (some (.int (wtF (nI (mn_pop (sgM cb G b) 180)) (fun d => nI (rcN (sgM cb G b) d 180)) 64).1)) hh := by
  have F2 := F.2.1
  rw [e_X3_dayThatParts, b_X3_dayThatParts_0, F2]
  have key := mn_loopb (n := 64) (fun d => ∀ w4 w5 : Value, mn_E 33 9 [.ref 10, .int (wtF (nI (mn_pop (sgM cb G b) 180)) (fun d => nI (rcN (sgM cb G b) d 180)) d).1, .int (wtF (nI (mn_pop (sgM cb G b) 180)) (fun d => nI (rcN (sgM cb G b) d 180)) d).2, .int (nI d), w4, w5] [] hh (some (.int (wtF (nI (mn_pop (sgM cb G b) 180)) (fun d => nI (rcN (sgM cb G b) d 180)) 64).1)) hh) ?_ ?_ (i0 := 0) (Nat.zero_le _)
  · exact key _ _
  · intro w4 w5
    rw [b_X3_dayThatParts_9, if_pos (show (64 : Int32) ≤ nI 64 from by decide), b_X3_dayThatParts_53]; exact ⟨rfl, rfl⟩
  · intro d hd H w4 w5
    rw [wtF] at H
    rw [b_X3_dayThatParts_9, if_neg (show ¬ (64 : Int32) ≤ nI d from nI_ge (b := 64) hd (by decide)), b_X3_dayThatParts_15, mn_cl_i (x_countR hd F), b_X3_dayThatParts_20, F2]
    rw [show (if nI (rcN (sgM cb G b) d 180) < nI (mn_pop (sgM cb G b) 180) - nI (rcN (sgM cb G b) d 180) then nI (mn_pop (sgM cb G b) 180) - nI (rcN (sgM cb G b) d 180) else nI (rcN (sgM cb G b) d 180)) = gtN (nI (mn_pop (sgM cb G b) 180)) (nI (rcN (sgM cb G b) d 180)) from rfl]
    by_cases o : (wtF (nI (mn_pop (sgM cb G b) 180)) (fun d => nI (rcN (sgM cb G b) d 180)) d).2 ≤ gtN (nI (mn_pop (sgM cb G b) 180)) (nI (rcN (sgM cb G b) d 180))
    · rw [if_pos o] at H
      rw [if_pos o, b_X3_dayThatParts_47, nI_1]
      exact H _ _
    · rw [if_neg o] at H
      rw [if_neg o, b_X3_dayThatParts_42, b_X3_dayThatParts_47, nI_1]
      exact H _ _
theorem x_mwatch (hb : b < 5) (sb : SB h b cb G) {w6 w7 : Value} : mn_E 177 26 [.ref 63, .int (nI b), .int (nI (mn_pop (sgM cb G b) 180)), .int (nI (mn_pop (sgM cb G b) 180)), .int (-1), .int (nI 0), w6, w7] [] h (some (.int (wtF (nI (mn_pop (sgM cb G b) 180)) (fun d => nI (rcN (sgM cb G b) d 180)) 64).1)) h := by
  obtain ⟨R, eR⟩ : ∃ R, R = (wtF (nI (mn_pop (sgM cb G b) 180)) (fun d => nI (rcN (sgM cb G b) d 180)) 64).1 := ⟨_, rfl⟩
  rw [← eR]
  obtain ⟨L, eL⟩ : ∃ L, L = nI (mn_pop (sgM cb G b) 180) := ⟨_, rfl⟩
  rw [← eL] at eR ⊢
  have key := mn_loopb (n := 64) (fun d => ∀ w6 w7 : Value, mn_E 177 26 [.ref 63, .int (nI b), .int L, .int (wtF L (fun d => nI (rcN (sgM cb G b) d 180)) d).2, .int (wtF L (fun d => nI (rcN (sgM cb G b) d 180)) d).1, .int (nI d), w6, w7] [] h (some (.int R)) h) ?_ ?_ (i0 := 0) (Nat.zero_le _)
  · exact key _ _
  · intro w6 w7
    rw [b_X8_watch_26, if_pos (show (64 : Int32) ≤ nI 64 from by decide), b_X8_watch_154, eR]; exact ⟨rfl, rfl⟩
  · intro d hd H w6 w7
    rw [wtF] at H
    obtain ⟨B, eB⟩ : ∃ B, B = (wtF L (fun d => nI (rcN (sgM cb G b) d 180)) d).2 := ⟨_, rfl⟩
    obtain ⟨A, eA⟩ : ∃ A, A = (wtF L (fun d => nI (rcN (sgM cb G b) d 180)) d).1 := ⟨_, rfl⟩
    rw [← eB, ← eA]
    rw [← eB] at H
    rw [b_X8_watch_26, if_neg (show ¬ (64 : Int32) ≤ nI d from nI_ge (b := 64) hd (by decide)), b_X8_watch_33]
    refine mn_loopb (n := 180) (fun s => mn_E 177 39 [.ref 63, .int (nI b), .int L, .int B, .int A, .int (nI d), .int (nI (rcN (sgM cb G b) d s)), .int (nI s)] [] h (some (.int R)) h) ?_ ?_ (Nat.zero_le _)
    · show mn_E _ _ _ _ _ _ _
      obtain ⟨r, er⟩ : ∃ r, r = nI (rcN (sgM cb G b) d 180) := ⟨_, rfl⟩
      rw [← er] at H ⊢
      have fin : mn_E 177 118 [.ref 63, .int (nI b), .int L, .int B, .int A, .int (nI d), .int r, .int (nI 180)] [.int (gtN L r)] h (some (.int R)) h := by
        rw [b_X8_watch_118]
        by_cases o : B ≤ gtN L r
        · rw [if_pos o, b_X8_watch_131, b_X8_watch_133, if_pos o, b_X8_watch_146, b_X8_watch_147, nI_1]
          simp only [← er, if_pos o, ← eA, ← eB] at H
          exact H _ _
        · rw [if_neg o, b_X8_watch_126, b_X8_watch_133, if_neg o, b_X8_watch_141, b_X8_watch_147, nI_1]
          simp only [← er, if_neg o] at H
          exact H _ _
      rw [b_X8_watch_39, if_pos (show (180 : Int32) ≤ nI 180 from by decide), b_X8_watch_100]
      have gm := gtN_m L r
      by_cases o : r ≤ L - r
      · rw [if_pos o] at gm
        rw [if_pos o, b_X8_watch_114, gm]; exact fin
      · rw [if_neg o] at gm
        rw [if_neg o, b_X8_watch_109]; rw [← gm] at fin; exact fin
    · intro s hs H2
      show mn_E _ _ _ _ _ _ _
      obtain ⟨c1, c2, c3, c4, c5, c6, c7⟩ := cd_dec s hs
      rw [rcN] at H2
      rw [b_X8_watch_39, if_neg (show ¬ (180 : Int32) ≤ nI s from nI_ge (b := 180) hs (by decide)), b_X8_watch_47, mn_cl_i (x_isSo hb sb hs), b_X8_watch_56]
      cases o : (sgM cb G b).testBit s with
      | false =>
        rw [o] at H2
        rw [if_pos mz_f, b_X8_watch_90, b_X8_watch_91, nI_1, Int32.add_zero]
        exact H2
      | true =>
        rw [o, if_pos rfl] at H2
        rw [if_neg (by decide), b_X8_watch_59, show nI s / 36 = nI (s / 36) from pk_div (d := 36) (by omega) (by decide) (by decide), show nI s / 6 - nI s / 6 / 6 * 6 = nI (s / 6 % 6) from by
          rw [show nI s / 6 = nI (s / 6) from pk_div (d := 6) (by omega) (by decide) (by decide)]
          exact pk_rem (d := 6) (by omega) (by decide) (by decide), show nI s - nI s / 6 * 6 = nI (s % 6) from pk_rem (d := 6) (by omega) (by decide) (by decide), mn_cl_i (x_X8_rings _ _ _ _ (nI_k5 c5))]
        rw [show rgB (nI (s / 36)) (nI (s / 6 % 6)) (nI (s % 6)) 0 (nI d) = rgN (s / 36) (s / 6 % 6) (s % 6) 0 d from rgB_N (y := 0) c5 c6 c7 (by decide) hd, b_X8_watch_83]
        by_cases q : rgN (s / 36) (s / 6 % 6) (s % 6) 0 d = true
        · rw [if_pos q] at H2
          rw [if_neg (by rw [q]; decide), b_X8_watch_86, b_X8_watch_91, nI_1, nI_1]
          exact H2
        · rw [if_neg q] at H2
          rw [if_pos (by rw [Bool.eq_false_iff.mpr q]; rfl), b_X8_watch_90, b_X8_watch_91, nI_1, Int32.add_zero]
          exact H2
end MW
theorem p_means (x y : Int32) : PAIR 90 176 [.int x, .int y] := by
  intro h i
  obtain ⟨T, S, n, df, my, sd, r, ri, ⟨c, G, rs⟩, rx⟩ := id i
  have t5 := r.tw.1.1
  have xa := x_cBell r x
  rcases mn_rng x (T 0 0) (by omega) with ⟨b, hb, rfl⟩ | q
  · rw [in_true hb (by omega)] at xa
    have b5 : b < 5 := by omega
    have sb : SB h b (c b) G := rs b b5
    obtain ⟨h1, x1, F⟩ := x_findSigns b5 sb
    have r1 := F.sf.rn r
    have xm := x_mmeans r1.mt r1.tw hb (sb.fr F.1) y
    have l48 := sg_l48 (c b) G b (Nat.le_refl 180)
    refine ⟨if y = -1 then nI (mn_pop (sgM (c b) G b) 180) else fdN (sgM (c b) G b) y 180, h1, h1, ?_, xm, i.sf F.sf⟩
    rw [e_X7_means, b_X7_means_0, mn_cl_i xa, b_X7_means_5, if_pos (by decide), b_X7_means_11, mn_cl_v x1, b_X7_means_19]
    by_cases o : y = -1
    · have xl : mn_X 31 [.ref 10] h1 (some (.int (nI (mn_pop (sgM (c b) G b) 180)))) h1 := by rw [e_X3_signsLeft, b_X3_signsLeft_0, F.2.1]; exact ⟨rfl, rfl⟩
      rw [if_neg (fun z => z o), b_X7_means_24, mn_cl_i xl, b_X7_means_31, b_X7_means_42, if_pos o]; exact ⟨rfl, rfl⟩
    · have xl : mn_X 32 [.ref 10, .int y] h1 (some (.int (fdN (sgM (c b) G b) y 180))) h1 := by
        rw [e_X3_signAt, b_X3_signAt_0]
        rcases mn_rng y (mn_pop (sgM (c b) G b) 180) (by omega) with ⟨k, hk, rfl⟩ | q
        · obtain ⟨s, s1, s2, s3⟩ := mn_kth 180 hk
          subst s3
          rw [if_neg (nI_pos (by omega)), b_X3_signAt_4, F.2.1, if_neg (nI_ge hk (by omega)), b_X3_signAt_12 (vp_in_nI (by omega) (by decide)), b_X3_signAt_22, nI_clamp (by omega), F.2.2 s s1 s2, fd_hit s2 180 s1 (by decide)]
          exact ⟨rfl, rfl⟩
        · rw [fd_miss 180 (fun s s1 s2 e => by
            have := mn_pop_mono (sgM (c b) G b) (show s + 1 ≤ 180 by omega)
            rw [mn_pop_s1, if_pos s2] at this
            rw [← e] at q
            rcases q with q | q
            · exact nI_pos (by omega) q
            · exact nI_ge (show mn_pop (sgM (c b) G b) s < mn_pop (sgM (c b) G b) 180 by omega) (by omega) q)]
          by_cases n0 : y < 0
          · rw [if_pos n0, b_X3_signAt_21, b_X3_signAt_22]; exact ⟨rfl, rfl⟩
          · rw [if_neg n0, b_X3_signAt_4, F.2.1, if_pos (q.resolve_left n0), b_X3_signAt_21, b_X3_signAt_22]; exact ⟨rfl, rfl⟩
      rw [if_pos o, b_X7_means_34, mn_cl_i xl, b_X7_means_42, if_neg o]; exact ⟨rfl, rfl⟩
  · have ya := x_mBell r.mt r.tw x
    rw [in_false q] at xa ya
    refine PAIR.q (r := -1000000001) i ?_ (trF.rf h) ?_ (mdF.rf h)
    · rw [e_X7_means, b_X7_means_0, mn_cl_i xa, b_X7_means_5, if_neg (by decide), b_X7_means_8]; exact ⟨rfl, rfl⟩
    · rw [e_X8_means, b_X8_means_0, mn_cl_i ya, b_X8_means_5, if_neg (by decide), b_X8_means_8]; exact ⟨rfl, rfl⟩
theorem p_watch (x : Int32) : PAIR 91 177 [.int x] := by
  intro h i
  obtain ⟨T, S, n, df, my, sd, r, ri, ⟨c, G, rs⟩, rx⟩ := id i
  have t5 := r.tw.1.1
  have xa := x_cBell r x
  rcases mn_rng x (T 0 0) (by omega) with ⟨b, hb, rfl⟩ | q
  · rw [in_true hb (by omega)] at xa
    have b5 : b < 5 := by omega
    have sb : SB h b (c b) G := rs b b5
    obtain ⟨h1, x1, F⟩ := x_findSigns b5 sb
    have r1 := F.sf.rn r
    have xm := x_mmeans r1.mt r1.tw hb (sb.fr F.1) (-1)
    rw [if_pos rfl] at xm
    have yb := x_mBell r1.mt r1.tw (nI b)
    rw [in_true hb (by omega)] at yb
    refine ⟨(wtF (nI (mn_pop (sgM (c b) G b) 180)) (fun d => nI (rcN (sgM (c b) G b) d 180)) 64).1, h1, h1, ?_, ?_, i.sf F.sf⟩
    · rw [e_X7_watch, b_X7_watch_0, mn_cl_i xa, b_X7_watch_5, if_pos (by decide), b_X7_watch_11, mn_cl_v x1, b_X7_watch_19, mn_cl_i (x_dayParts F), b_X7_watch_26]; exact ⟨rfl, rfl⟩
    · rw [e_X8_watch, b_X8_watch_0, mn_cl_i yb, b_X8_watch_5, if_pos (by decide), b_X8_watch_11, mn_cl_i xm, b_X8_watch_17]
      exact x_mwatch b5 (sb.fr F.1)
  · have ya := x_mBell r.mt r.tw x
    rw [in_false q] at xa ya
    refine PAIR.q (r := -1000000001) i ?_ (trF.rf h) ?_ (mdF.rf h)
    · rw [e_X7_watch, b_X7_watch_0, mn_cl_i xa, b_X7_watch_5, if_neg (by decide), b_X7_watch_8]; exact ⟨rfl, rfl⟩
    · rw [e_X8_watch, b_X8_watch_0, mn_cl_i ya, b_X8_watch_5, if_neg (by decide), b_X8_watch_8]; exact ⟨rfl, rfl⟩
