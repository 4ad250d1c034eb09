/-- what is left of n, who is ahead -/
def snR (m n al k : Nat) : Int32 := (nI (tcN m k) * nI n) - (nI (tcN m k) * nI n) / nI al * nI al
def snL (m n al : Nat) : Nat → Int32
  | 0 => nI n
  | k + 1 => snL m n al k - (nI (tcN m k) * nI n) / nI al
def snA (m n al j : Nat) : Nat → Int32
  | 0 => 0
  | k + 1 => if snR m n al j < snR m n al k then snA m n al j k + 1 else if ¬ snR m n al k = snR m n al j then snA m n al j k else if nI j ≤ nI k then snA m n al j k else snA m n al j k + 1
section SEND
variable {h : mn_H} {m n j : Nat}
theorem x_sdall (hm : m < 2 ^ 64) {q : Option Value} {h' : mn_H} : mn_E 88 24 [.ref 0, .int (nI n), .int (nI j), .null, .null, .null, .null, .null, .null, .null, .null] [.long (lN m)] h q h' ↔ mn_E 88 55 [.ref 0, .int (nI n), .int (nI j), .long (lN m), .null, .int (nI (mn_nsum (tcN m) 6)), .int (nI 6), .null, .null, .null, .null] [] h q h' := by
  rw [b_X7_send_24]
  refine mn_loop (n := 6) (fun i => mn_E 88 31 [.ref 0, .int (nI n), .int (nI j), .long (lN m), .null, .int (nI (mn_nsum (tcN m) i)), .int (nI i), .null, .null, .null, .null] [] h q h') ?_ ?_ (Nat.zero_le _)
  · show mn_E _ _ _ _ _ _ _ ↔ _
    rw [b_X7_send_31, if_pos (show (6 : Int32) ≤ nI 6 from by decide)]
  · intro i hi
    show mn_E _ _ _ _ _ _ _ ↔ mn_E _ _ _ _ _ _ _
    rw [b_X7_send_31, if_neg (show ¬ (6 : Int32) ≤ nI i from nI_ge (b := 6) hi (by decide)), b_X7_send_38, mn_cl_i (x_timesComing hm hi), b_X7_send_46, nI_1, nI_add, mn_nsum]
theorem x_sdmall (hr : RW h m) {q : Option Value} {h' : mn_H} : mn_E 171 30 [.ref 63, .int (nI n), .int (nI j), .null, .null, .null, .null, .null, .null] [] h q h' ↔ mn_E 171 60 [.ref 63, .int (nI n), .int (nI j), .int (nI (mn_nsum (tcN m) 6)), .int (nI n), .int (nI 6), .null, .null, .null] [] h q h' := by
  rw [b_X8_send_30]
  refine mn_loop (n := 6) (fun i => mn_E 171 38 [.ref 63, .int (nI n), .int (nI j), .int (nI (mn_nsum (tcN m) i)), .int (nI n), .int (nI i), .null, .null, .null] [] h q h') ?_ ?_ (Nat.zero_le _)
  · show mn_E _ _ _ _ _ _ _ ↔ _
    rw [b_X8_send_38, if_pos (show (6 : Int32) ≤ nI 6 from by decide)]
  · intro i hi
    show mn_E _ _ _ _ _ _ _ ↔ mn_E _ _ _ _ _ _ _
    rw [b_X8_send_38, if_neg (show ¬ (6 : Int32) ≤ nI i from nI_ge (b := 6) hi (by decide)), b_X8_send_45, mn_cl_i (x_days hr hi), b_X8_send_52, nI_1, nI_add, mn_nsum]
theorem x_sdloop (hm : m < 2 ^ 64) {al : Nat} (h0 : ¬ nI al = 0) {R : Int32} (H : ∀ w : Value, mn_E 88 148 [.ref 0, .int (nI n), .int (nI j), .long (lN m), .null, .int (nI al), .int (nI (tcN m j) * nI n), .int (snL m n al 6), .int (snA m n al j 6), .int (nI 6), w] [] h (some (.int R)) h) (w : Value) : mn_E 88 80 [.ref 0, .int (nI n), .int (nI j), .long (lN m), .null, .int (nI al), .int (nI (tcN m j) * nI n), .int (nI n), .int 0, .int (nI 0), w] [] h (some (.int R)) h := by
  have key := mn_loopb (n := 6) (fun i => ∀ w : Value, mn_E 88 80 [.ref 0, .int (nI n), .int (nI j), .long (lN m), .null, .int (nI al), .int (nI (tcN m j) * nI n), .int (snL m n al i), .int (snA m n al j i), .int (nI i), w] [] h (some (.int R)) h) ?_ ?_ (i0 := 0) (Nat.zero_le _)
  · exact key w
  · intro w
    rw [b_X7_send_80, if_pos (show (6 : Int32) ≤ nI 6 from by decide)]
    exact H w
  · intro i hi H w
    rw [snL, snA] at H
    rw [b_X7_send_80, if_neg (show ¬ (6 : Int32) ≤ nI i from nI_ge (b := 6) hi (by decide)), b_X7_send_87, mn_cl_i (x_timesComing hm hi), b_X7_send_93 h0]
    show (if snR m n al j < snR m n al i then _ else _)
    by_cases o : snR m n al j < snR m n al i
    · rw [if_pos o] at H
      rw [if_pos o, b_X7_send_139, b_X7_send_142, nI_1]
      exact H _
    · rw [if_neg o] at H
      rw [if_neg o, b_X7_send_120 h0]
      show (if ¬ snR m n al i = snR m n al j then _ else _)
      by_cases o2 : snR m n al i = snR m n al j
      · rw [if_neg (fun z => z o2)] at H
        rw [if_neg (fun z => z o2), b_X7_send_133]
        by_cases o3 : nI j ≤ nI i
        · rw [if_pos o3] at H
          rw [if_pos o3, b_X7_send_142, nI_1]
          exact H _
        · rw [if_neg o3] at H
          rw [if_neg o3, b_X7_send_139, b_X7_send_142, nI_1]
          exact H _
      · rw [if_pos o2] at H
        rw [if_pos o2, b_X7_send_142, nI_1]
        exact H _
theorem x_sdml (hr : RW h m) {al : Nat} (h0 : ¬ nI al = 0) {q : Option Value} {h' : mn_H} : mn_E 171 66 [.ref 63, .int (nI n), .int (nI j), .int (nI al), .int (nI n), .int (nI 6), .null, .null, .null] [] h q h' ↔ mn_E 171 97 [.ref 63, .int (nI n), .int (nI j), .int (nI al), .int (snL m n al 6), .int (nI 6), .null, .null, .null] [] h q h' := by
  rw [b_X8_send_66]
  refine mn_loop (n := 6) (fun i => mn_E 171 69 [.ref 63, .int (nI n), .int (nI j), .int (nI al), .int (snL m n al i), .int (nI i), .null, .null, .null] [] h q h') ?_ ?_ (Nat.zero_le _)
  · show mn_E _ _ _ _ _ _ _ ↔ _
    rw [b_X8_send_69, if_pos (show (6 : Int32) ≤ nI 6 from by decide)]
  · intro i hi
    show mn_E _ _ _ _ _ _ _ ↔ mn_E _ _ _ _ _ _ _
    rw [b_X8_send_69, if_neg (show ¬ (6 : Int32) ≤ nI i from nI_ge (b := 6) hi (by decide)), b_X8_send_76, mn_cl_i (x_days hr hi), b_X8_send_84 h0, nI_1, snL]
theorem x_sdma (hr : RW h m) {al : Nat} (h0 : ¬ nI al = 0) {lf R : Int32} (H : ∀ w : Value, mn_E 171 169 [.ref 63, .int (nI n), .int (nI j), .int (nI al), .int lf, .int (snA m n al j 6), .int (snR m n al j), .int (nI 6), w] [] h (some (.int R)) h) (w : Value) : mn_E 171 114 [.ref 63, .int (nI n), .int (nI j), .int (nI al), .int lf, .int 0, .int (snR m n al j), .int (nI 0), w] [] h (some (.int R)) h := by
  have key := mn_loopb (n := 6) (fun i => ∀ w : Value, mn_E 171 114 [.ref 63, .int (nI n), .int (nI j), .int (nI al), .int lf, .int (snA m n al j i), .int (snR m n al j), .int (nI i), w] [] h (some (.int R)) h) ?_ ?_ (i0 := 0) (Nat.zero_le _)
  · exact key w
  · intro w
    rw [b_X8_send_114, if_pos (show (6 : Int32) ≤ nI 6 from by decide)]
    exact H w
  · intro i hi H w
    rw [snA] at H
    rw [b_X8_send_114, if_neg (show ¬ (6 : Int32) ≤ nI i from nI_ge (b := 6) hi (by decide)), b_X8_send_121, mn_cl_i (x_days hr hi), b_X8_send_127 h0]
    rw [show (nI (tcN m i) * nI n) - (nI (tcN m i) * nI n) / nI al * nI al = snR m n al i from rfl]
    by_cases o : snR m n al j < snR m n al i
    · rw [if_pos o] at H
      rw [if_pos o, b_X8_send_155, b_X8_send_160, nI_1]
      exact H _
    · rw [if_neg o] at H
      rw [if_neg o, b_X8_send_142]
      by_cases o2 : snR m n al i = snR m n al j
      · rw [if_neg (fun z => z o2)] at H
        rw [if_neg (fun z => z o2), b_X8_send_149]
        by_cases o3 : nI j ≤ nI i
        · rw [if_pos o3] at H
          rw [if_pos o3, b_X8_send_159, b_X8_send_160, nI_1, Int32.add_zero]
          exact H _
        · rw [if_neg o3] at H
          rw [if_neg o3, b_X8_send_155, b_X8_send_160, nI_1]
          exact H _
      · rw [if_pos o2] at H
        rw [if_pos o2, b_X8_send_159, b_X8_send_160, nI_1, Int32.add_zero]
        exact H _
end SEND
theorem p_send (x y : Int32) : PAIR 88 171 [.int x, .int y] := by
  intro h i
  obtain ⟨T, S, n, df, my, sd, r, -⟩ := id i
  have xi := fun hh => x_in_n (h := hh) (n := 100) (m := 99) rfl (by decide) x
  rcases mn_rng x 100 (by decide) with ⟨k, hk, rfl⟩ | q
  · rw [in_true hk (by omega)] at xi
    have xi' : ∀ hh, mn_X 114 [.int (nI k), .int 0, .int 99] hh (some (.int 1)) hh := xi
    have n0 : ¬ nI k < 0 := nI_pos (by omega)
    have n6 : ¬ (99 : Int32) < nI k := nI_nlt (a := 99) (by omega) (by decide)
    rcases mn_rng y 6 (by decide) with ⟨j, hj, rfl⟩ | q2
    · obtain ⟨h1, xp, tf⟩ := x_possibleDays r.1
      have r1 := tf.sf.rn r
      obtain ⟨h2, h3, a, b, f, w⟩ := x_tg r1
      have pl := posM_lt T df my 9 0 n (S n)
      generalize posM T df my 9 0 n (S n) = m at xp w pl
      have al6 := mn_nsum_le (f := tcN m) (B := 64) 6 (fun i _ => tcN_le m i)
      have hd : ∀ q h', mn_E 88 55 [.ref 0, .int (nI k), .int (nI j), .long (lN m), .null, .int (nI (mn_nsum (tcN m) 6)), .int (nI 6), .null, .null, .null, .null] [] h1 q h' → mn_X 88 [.ref 0, .int (nI k), .int (nI j)] h q h' := by
        intro q h' z
        rw [e_X7_send, b_X7_send_0, if_neg n0, b_X7_send_4, if_neg n6, b_X7_send_10, mn_cl_i (x_isHap_in hj), b_X7_send_14, if_pos (by decide), b_X7_send_20, mn_cl_l xp, x_sdall pl]
        exact z
      have md : ∀ q h', mn_E 171 60 [.ref 63, .int (nI k), .int (nI j), .int (nI (mn_nsum (tcN m) 6)), .int (nI k), .int (nI 6), .null, .null, .null] [] h3 q h' → mn_X 171 [.ref 63, .int (nI k), .int (nI j)] h1 q h' := by
        intro q h' z
        rw [e_X8_send, b_X8_send_0, mn_cl_i (xi' h1), b_X8_send_7, if_neg (by decide), b_X8_send_10, mn_cl_i (x_in5_in hj), b_X8_send_16, if_pos (by decide), b_X8_send_22, mn_cl_v a, b_X8_send_26, mn_cl_v b, x_sdmall w]
        exact z
      generalize mn_nsum (tcN m) 6 = al at al6 hd md
      by_cases o : al = 0
      · subst o
        refine PAIR.q (r := 0) i (hd _ _ ?_) tf (md _ _ ?_) f
        · rw [b_X7_send_55, if_neg (show ¬ (0 : Int32) < nI 0 from by decide), b_X7_send_60]; exact ⟨rfl, rfl⟩
        · rw [b_X8_send_60, if_neg (show ¬ ¬ nI 0 = 0 from by decide), b_X8_send_64]; exact ⟨rfl, rfl⟩
      · have h0 : ¬ nI al = 0 := nI_ne0 (by omega) (by omega)
        have hp : (0 : Int32) < nI al := nI_lt (a := 0) (by omega) (by omega)
        refine PAIR.q (r := nI (tcN m j) * nI k / nI al + (if snL m k al 6 ≤ snA m k al j 6 then 0 else 1)) i (hd _ _ ?_) tf (md _ _ ?_) f
        · rw [b_X7_send_55, if_pos hp, b_X7_send_62, mn_cl_i (x_timesComing pl hj), b_X7_send_67]
          refine x_sdloop pl h0 (fun w => ?_) .null
          rw [b_X7_send_148 h0]
          by_cases q : snL m k al 6 ≤ snA m k al j 6
          · rw [if_pos q, b_X7_send_164, b_X7_send_165, if_pos q]; exact ⟨rfl, rfl⟩
          · rw [if_neg q, b_X7_send_160, b_X7_send_165, if_neg q]; exact ⟨rfl, rfl⟩
        · rw [b_X8_send_60, if_pos h0, x_sdml w h0, b_X8_send_97, mn_cl_i (x_days w hj), b_X8_send_105 h0]
          refine x_sdma w h0 (fun w5 => ?_) .null
          rw [b_X8_send_169, mn_cl_i (x_days w hj), b_X8_send_174 h0]
          by_cases q : snL m k al 6 ≤ snA m k al j 6
          · rw [if_pos q, b_X8_send_189, b_X8_send_190, if_pos q]; exact ⟨rfl, rfl⟩
          · rw [if_neg q, b_X8_send_185, b_X8_send_190, if_neg q]; exact ⟨rfl, rfl⟩
    · refine PAIR.q (r := -1000000002) i ?_ (trF.rf h) ?_ (mdF.rf h)
      · rw [e_X7_send, b_X7_send_0, if_neg n0, b_X7_send_4, if_neg n6, b_X7_send_10, mn_cl_i (x_isHap_out q2), b_X7_send_14, if_neg (by decide), b_X7_send_17]; exact ⟨rfl, rfl⟩
      · rw [e_X8_send, b_X8_send_0, mn_cl_i (xi' h), b_X8_send_7, if_neg (by decide), b_X8_send_10, mn_cl_i (x_in5_out q2), b_X8_send_16, if_neg (by decide), b_X8_send_19]; exact ⟨rfl, rfl⟩
  · rw [in_false q] at xi
    have xi' : ∀ hh, mn_X 114 [.int x, .int 0, .int 99] hh (some (.int 0)) hh := xi
    refine PAIR.q (r := -1000000002) i ?_ (trF.rf h) ?_ (mdF.rf h)
    · rw [e_X7_send, b_X7_send_0]
      by_cases n0 : x < 0
      · rw [if_pos n0, b_X7_send_17]; exact ⟨rfl, rfl⟩
      · have n6 : (99 : Int32) < x := (lt_of (m := 99) (show 99 < 100 by decide) (by decide) q).resolve_left n0
        rw [if_neg n0, b_X7_send_4, if_pos n6, b_X7_send_17]; exact ⟨rfl, rfl⟩
    · rw [e_X8_send, b_X8_send_0, mn_cl_i (xi' h), b_X8_send_7, if_pos rfl, b_X8_send_19]; exact ⟨rfl, rfl⟩
