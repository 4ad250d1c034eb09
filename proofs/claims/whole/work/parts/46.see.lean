section FR
variable {h hh : mn_H} {T : TW} {S : Nat → Nat} {n df my sd : Nat}
theorem RN.fr (e : ∀ b, b = 0 ∨ b = 3 ∨ b = 4 ∨ b = 65 ∨ b = 67 ∨ (23 ≤ b ∧ b ≤ 62) → hh b = h b) (r : RN h T S n df my sd) : RN hh T S n df my sd := by
  have hT := r.hT
  obtain ⟨⟨c1, c2, c3, c4, c5, c6, c7, c8, c9, c10, c11, c12, c13⟩, ⟨m1, m2, m3, m4, m5⟩, r3, r4, r5, r6, r7, r8⟩ := r
  have e0 := e 0 (by omega)
  have e3 := e 3 (by omega)
  have e4 := e 4 (by omega)
  have e67 := e 67 (by omega)
  have hr : mn_hr hh = mn_hr h := by unfold mn_hr; rw [e0]
  have sp : mn_sp hh = mn_sp h := by unfold mn_sp; rw [e0]
  refine ⟨⟨rfl, by rw [hr]; exact c2, c3, ?_, by rw [e3]; exact c5, by rw [e3]; exact c6, c7, by rw [e4]; exact c8, c9, by rw [e3]; exact c10, c11, by rw [e3]; exact c12, c13⟩, ⟨MT_row (e 65 (by omega)) m1, by rw [e67]; exact m2, by rw [e67]; exact m3, by rw [e67]; exact m4, by rw [e67]; exact m5⟩, by rw [sp]; exact r3, by rw [sp, hr]; exact r4, by rw [e3]; exact r5, by rw [e3]; exact r6, by rw [e67]; exact r7, r8⟩
  rw [hr]
  exact CT_rows (fun k hk => e _ (by rcases hT with q | q <;> rw [q] <;> omega)) c4
theorem RI.fr (e : ∀ b, b = 68 ∨ b = 69 ∨ (5 ≤ b ∧ b ≤ 8) → hh b = h b) (r : RI h T) : RI hh T := by
  intro i hi
  obtain ⟨kp, a, b, c⟩ := r i hi
  have e5 := e (5 + 2 * i) (by omega)
  have e6 := e (6 + 2 * i) (by omega)
  have e68 := e 68 (by omega)
  refine ⟨kp, by rw [e5]; exact a, by rw [e 69 (by omega)]; exact b, fun hk => ?_⟩
  obtain ⟨S, n, df, my, sd, q⟩ := c hk
  refine ⟨S, n, df, my, sd, ?_⟩
  unfold RI1 at q ⊢
  rw [e5, e6, e68]; exact q
theorem RS.fr (e : ∀ b, b = 70 ∨ b = 71 ∨ (11 ≤ b ∧ b ≤ 14) → hh b = h b) (r : RS h) : RS hh := by
  unfold RS at r ⊢
  rw [e 11 (by omega), e 70 (by omega), e 71 (by omega), e 12 (by omega), e 13 (by omega), e 14 (by omega)]
  exact r
theorem RX.fr (e : ∀ b, b = 1 ∨ b = 2 ∨ b = 64 → hh b = h b) (e1 : hh 63 1 = h 63 1) (e9 : hh 63 9 = h 63 9) (r : RX h) : RX hh := by
  unfold RX at r ⊢
  rw [e 1 (by omega), e 2 (by omega), e 64 (by omega), e1, e9]
  exact r
end FR
theorem x_letters {h : mn_H} : mn_X 10 [.ref 1] h (some (.int (h 1 1))) h := by
  rw [e_X2_letters, b_X2_letters_0]; exact ⟨rfl, rfl⟩
theorem p_feed (x : Int32) : PAIR 64 119 [.int x] := by
  intro h i
  obtain ⟨T, S, n, df, my, sd, r, ri, rs, rx⟩ := id i
  obtain ⟨len, C, l1, l2, l3, l4, l5⟩ := rx
  have xi := fun hh => x_in_n (h := hh) (n := 256) (m := 255) rfl (by decide) x
  rcases mn_rng x 256 (by decide) with ⟨c, hc, rfl⟩ | q
  · rw [in_true hc (by omega)] at xi
    have xi' : ∀ hh, mn_X 114 [.int (nI c), .int 0, .int 255] hh (some (.int 1)) hh := xi
    have n0 : ¬ nI c < 0 := nI_pos (by omega)
    have n6 : nI c ≤ 255 := nI_le (b := 255) (by omega) (by decide)
    by_cases o : len < 250
    · have o1 : nI len < 250 := nI_lt (b := 250) o (by decide)
      have o2 : ¬ nI len = 250 := fun e => by rw [e] at o1; exact absurd o1 (by decide)
      obtain ⟨h1, eh1⟩ : ∃ h1, h1 = mn_up (mn_up h 2 len (nI c)) 1 1 (nI (len + 1)) := ⟨_, rfl⟩
      obtain ⟨h2, eh2⟩ : ∃ h2, h2 = mn_up (mn_up h1 64 len (nI c)) 63 1 (nI (len + 1)) := ⟨_, rfl⟩
      have a1 : mn_X 12 [.ref 1, .int (nI c)] h (some (.int 1)) h1 := by
        rw [e_X2_append, b_X2_append_0, l2, if_pos o1, b_X2_append_12 (by rw [l2]; exact vp_in_nI o (by decide)), l2, nI_clamp (by omega), mn_up_row h 2 _ _ (show 1 ≠ 2 by decide), l2, nI_1, ← eh1]
        exact ⟨rfl, rfl⟩
      have e11 : h1 1 1 = nI (len + 1) := by rw [eh1, mn_up_get, if_pos ⟨rfl, rfl⟩]
      have e631 : h1 63 1 = nI len := by rw [eh1, mn_up_row _ _ _ _ (by decide), mn_up_row _ _ _ _ (by decide), l3]
      refine ⟨nI (len + 1), h1, h2, ?_, ?_, ?_⟩
      · rw [e_X7_feed, b_X7_feed_0, if_neg n0, b_X7_feed_4, if_pos n6, b_X7_feed_14, mn_cl_i a1, b_X7_feed_22, if_neg (by decide), b_X7_feed_25, mn_cl_i x_letters, e11, b_X7_feed_32, b_X7_feed_37]
        exact ⟨rfl, rfl⟩
      · rw [e_X8_feed, b_X8_feed_0, mn_cl_i (xi' h1), b_X8_feed_8, if_pos (by decide), b_X8_feed_14, e631, if_pos o2, b_X8_feed_27 (by rw [e631]; exact vp_in_nI o (by decide)), e631, nI_clamp (by omega), mn_up_row h1 64 _ _ (show 63 ≠ 64 by decide), e631, nI_1, ← eh2, eh2, mn_up_get, if_pos ⟨rfl, rfl⟩]
        exact ⟨rfl, rfl⟩
      · have fr : ∀ b, b ≠ 1 → b ≠ 2 → b ≠ 63 → b ≠ 64 → h2 b = h b := fun b q1 q2 q3 q4 => by
          rw [eh2, mn_up_row _ _ _ _ q3, mn_up_row _ _ _ _ q4, eh1, mn_up_row _ _ _ _ q1, mn_up_row _ _ _ _ q2]
        refine ⟨T, S, n, df, my, sd, r.fr (fun b q => fr b (by omega) (by omega) (by omega) (by omega)), ri.fr (fun b q => fr b (by omega) (by omega) (by omega) (by omega)), rs.fr (fun b q => fr b (by omega) (by omega) (by omega) (by omega)), len + 1, fun j => if j = len then c else C j, by omega, ?_, ?_, fun j hj => ?_, ?_⟩
        · rw [eh2, mn_up_row _ _ _ _ (by decide), mn_up_row _ _ _ _ (by decide)]; exact e11
        · rw [eh2, mn_up_get, if_pos ⟨rfl, rfl⟩]
        · have e2 : h2 2 j = if j = len then nI c else h 2 j := by
            rw [eh2, mn_up_row _ _ _ _ (by decide), mn_up_row _ _ _ _ (by decide), eh1, mn_up_row _ _ _ _ (by decide), mn_up_get]; simp
          have e64 : h2 64 j = if j = len then nI c else h 64 j := by
            rw [eh2, mn_up_row _ _ _ _ (by decide), mn_up_get, eh1, mn_up_row _ _ _ _ (by decide), mn_up_row _ _ _ _ (by decide)]; simp
          rw [e2, e64]
          by_cases e : j = len
          · simp only [if_pos e]; exact ⟨hc, trivial, trivial⟩
          · simp only [if_neg e]; exact l4 j (by omega)
        · rw [eh2, mn_up_row _ _ _ _ (by decide), mn_up_row _ _ _ _ (by decide), mn_up_get, if_neg (by decide), mn_up_row _ _ _ _ (by decide), eh1, mn_up_get, if_neg (by decide), mn_up_row _ _ _ _ (by decide), mn_up_row _ _ _ _ (by decide), mn_up_row _ _ _ _ (by decide)]; exact l5
    · have en : len = 250 := by omega
      have o1 : ¬ nI len < 250 := by rw [en]; decide
      have o2 : nI len = 250 := by rw [en]; rfl
      have a1 : mn_X 12 [.ref 1, .int (nI c)] h (some (.int 0)) h := by
        rw [e_X2_append, b_X2_append_0, l2, if_neg o1, b_X2_append_10]; exact ⟨rfl, rfl⟩
      refine PAIR.q (r := -1000000004) i ?_ (trF.rf h) ?_ (mdF.rf h)
      · rw [e_X7_feed, b_X7_feed_0, if_neg n0, b_X7_feed_4, if_pos n6, b_X7_feed_14, mn_cl_i a1, b_X7_feed_22, if_pos rfl, b_X7_feed_35, b_X7_feed_37]
        exact ⟨rfl, rfl⟩
      · rw [e_X8_feed, b_X8_feed_0, mn_cl_i (xi' h), b_X8_feed_8, if_pos (by decide), b_X8_feed_14, l3, if_neg (fun z => z o2), b_X8_feed_24]
        exact ⟨rfl, rfl⟩
  · rw [in_false q] at xi
    have xi' : ∀ hh, mn_X 114 [.int x, .int 0, .int 255] hh (some (.int 0)) hh := xi
    refine PAIR.q (r := -1000000002) i ?_ (trF.rf h) ?_ (mdF.rf h)
    · rw [e_X7_feed, b_X7_feed_0]
      by_cases n0 : x < 0
      · rw [if_pos n0, b_X7_feed_11]; exact ⟨rfl, rfl⟩
      · have n6 : (255 : Int32) < x := (lt_of (m := 255) (show 255 < 256 by decide) (by decide) q).resolve_left n0
        rw [if_neg n0, b_X7_feed_4, if_neg (Int32.not_le.mpr n6), b_X7_feed_11]; exact ⟨rfl, rfl⟩
    · rw [e_X8_feed, b_X8_feed_0, mn_cl_i (xi' h), b_X8_feed_8, if_neg (by decide), b_X8_feed_11]; exact ⟨rfl, rfl⟩
theorem x_countOf {h : mn_H} {b : Nat} (hb : b < 5) : mn_X 25 [.ref 10, .int (nI b)] h (some (.int (h 11 b))) h := by
  rw [e_X3_countOf, b_X3_countOf_0 (vp_in_nI hb (by decide)), nI_clamp (by omega)]; exact ⟨rfl, rfl⟩
theorem p_see (x : Int32) (z : Bool) (u v : Int32) : PAIR 89 173 [.int x, .int (mz z), .int u, .int v] := by
  intro h i
  obtain ⟨T, S, n, df, my, sd, r, ri, ⟨c, G, rs⟩, rx⟩ := id i
  have t5 := r.tw.1.1
  have xa := x_cBell r x
  have ya := x_mBell r.mt r.tw x
  rcases mn_rng x (T 0 0) (by omega) with ⟨b, hb, rfl⟩ | q
  · rw [in_true hb (by omega)] at xa ya
    have b5 : b < 5 := by omega
    have bad : (u < 0 ∨ nI 64 ≤ u) ∨ (v < 0 ∨ nI 64 ≤ v) → ∃ (r : Int32) (h1 h2 : mn_H), mn_X 89 [.ref 0, .int (nI b), .int (mz z), .int u, .int v] h (some (.int r)) h1 ∧ mn_X 173 [.ref 63, .int (nI b), .int (mz z), .int u, .int v] h1 (some (.int r)) h2 ∧ INV h2 := by
      intro q
      refine PAIR.q (r := -1000000002) i ?_ (trF.rf h) ?_ (mdF.rf h)
      · rw [e_X7_see, b_X7_see_0, mn_cl_i xa, b_X7_see_5, if_pos (by decide), b_X7_see_11]
        rcases mn_rng u 64 (by decide) with ⟨j, hj, rfl⟩ | q1
        · have q2 := q.resolve_left (fun w => by rcases w with w | w; exact nI_pos (by omega) w; exact nI_ge hj (by omega) w)
          rw [mn_cl_i (x_isDay_in hj), b_X7_see_15, if_neg (by decide), b_X7_see_18, mn_cl_i (x_isDay_out q2), b_X7_see_23, if_neg (by decide), b_X7_see_26]; exact ⟨rfl, rfl⟩
        · rw [mn_cl_i (x_isDay_out q1), b_X7_see_15, if_pos rfl, b_X7_see_26]; exact ⟨rfl, rfl⟩
      · rw [e_X8_see, b_X8_see_0, mn_cl_i ya, b_X8_see_5, if_pos (by decide), b_X8_see_11]
        rcases mn_rng u 64 (by decide) with ⟨j, hj, rfl⟩ | q1
        · have q2 := q.resolve_left (fun w => by rcases w with w | w; exact nI_pos (by omega) w; exact nI_ge hj (by omega) w)
          rw [mn_cl_i (x_mDay_in hj), b_X8_see_15, if_neg (by decide), b_X8_see_18, mn_cl_i (x_mDay_out q2), b_X8_see_23, if_neg (by decide), b_X8_see_26]; exact ⟨rfl, rfl⟩
        · rw [mn_cl_i (x_mDay_out q1), b_X8_see_15, if_pos rfl, b_X8_see_26]; exact ⟨rfl, rfl⟩
    rcases mn_rng u 64 (by decide) with ⟨p, hp, rfl⟩ | q1
    · rcases mn_rng v 64 (by decide) with ⟨d, hd, rfl⟩ | q2
      · obtain ⟨s1, s2, s3, s4⟩ := rs b b5
        have v5 : vp_in (nI b) 5 := vp_in_nI b5 (by decide)
        have cb : (nI b).toNatClampNeg = b := nI_clamp (by omega)
        by_cases o : c b < 12
        · have o1 : nI (c b) < 12 := nI_lt (b := 12) o (by decide)
          have o2 : ¬ nI (c b) = 12 := fun e => by rw [e] at o1; exact absurd o1 (by decide)
          obtain ⟨w, ew⟩ : ∃ w, w = 12 * b + c b := ⟨_, rfl⟩
          have w60 : w < 60 := by omega
          have ei : nI b * 12 + nI (c b) = nI w := by rw [show (12 : Int32) = nI 12 from rfl, pk_mul, nI_add, ew, Nat.mul_comm]
          have em : (12 : Int32) * nI b + nI (c b) = nI w := by rw [show (12 : Int32) = nI 12 from rfl, pk_mul, nI_add, ew]
          have cw : (nI w).toNatClampNeg = w := nI_clamp (by omega)
          obtain ⟨h1, eh1⟩ : ∃ h1, h1 = mn_up (mn_up (mn_up (mn_up h 12 w (mz z)) 13 w (nI p)) 14 w (nI d)) 11 b (nI (c b + 1)) := ⟨_, rfl⟩
          have a1 : mn_X 28 [.ref 10, .int (nI b), .int (mz z), .int (nI p), .int (nI d)] h (some (.int 1)) h1 := by
            rw [e_X3_add, b_X3_add_0 v5, cb, s2, if_pos o1, b_X3_add_13 v5 (mz_01 z) (by rw [cb, s2, ei]; exact vp_in_nI w60 (by decide)), cb, s2, ei, cw, mn_up_row _ 14 _ _ (show 11 ≠ 14 by decide), mn_up_row _ 13 _ _ (show 11 ≠ 13 by decide), mn_up_row _ 12 _ _ (show 11 ≠ 12 by decide), s2, nI_1, ← eh1]
            exact ⟨rfl, rfl⟩
          have f1 : ∀ a, a ≠ 11 → a ≠ 12 → a ≠ 13 → a ≠ 14 → h1 a = h a := fun a q1 q2 q3 q4 => by
            rw [eh1, mn_up_row _ _ _ _ q1, mn_up_row _ _ _ _ q4, mn_up_row _ _ _ _ q3, mn_up_row _ _ _ _ q2]
          have e11 : h1 11 b = nI (c b + 1) := by rw [eh1, mn_up_get, if_pos ⟨rfl, rfl⟩]
          obtain ⟨V, eV⟩ : ∃ V, V = (if z then 4096 else 0) + 64 * p + d := ⟨_, rfl⟩
          obtain ⟨h2, eh2⟩ : ∃ h2, h2 = mn_up (mn_up h1 71 w (nI V)) 70 b (nI (c b + 1)) := ⟨_, rfl⟩
          have xb := x_mBell (h := h1) (MT_row (f1 65 (by decide) (by decide) (by decide) (by decide)) r.mt) r.tw (nI b)
          rw [in_true hb (by omega)] at xb
          have s3' : h1 70 b = nI (c b) := by rw [f1 70 (by decide) (by decide) (by decide) (by decide)]; exact s3
          have fin : ∀ x : Nat, x = (if z then 4096 else 0) → mn_E 173 69 [.ref 63, .int (nI b), .int (mz z), .int (nI p), .int (nI d)] [.int (nI x), .int (nI w), .ref 71] h1 (some (.int (nI (c b + 1)))) h2 := by
            intro x hx
            rw [b_X8_see_69 (vp_in_nI w60 (by decide)) v5, cw, cb, mn_up_row _ 71 _ _ (show 70 ≠ 71 by decide), s3', nI_1]
            rw [show nI x + 64 * nI p + nI d = nI V from by rw [show (64 : Int32) = nI 64 from rfl, pk_mul, nI_add, nI_add, eV, hx], ← eh2]
            refine ⟨?_, rfl⟩
            rw [eh2, mn_up_get, if_pos ⟨rfl, rfl⟩]
          refine ⟨nI (c b + 1), h1, h2, ?_, ?_, ?_⟩
          · rw [e_X7_see, b_X7_see_0, mn_cl_i xa, b_X7_see_5, if_pos (by decide), b_X7_see_11, mn_cl_i (x_isDay_in hp), b_X7_see_15, if_neg (by decide), b_X7_see_18, mn_cl_i (x_isDay_in hd), b_X7_see_23, if_pos (by decide), b_X7_see_29, mn_cl_i a1, b_X7_see_41, if_neg (by decide), b_X7_see_44, mn_cl_i (x_countOf b5), e11, b_X7_see_52, b_X7_see_57]
            exact ⟨rfl, rfl⟩
          · rw [e_X8_see, b_X8_see_0, mn_cl_i xb, b_X8_see_5, if_pos (by decide), b_X8_see_11, mn_cl_i (x_mDay_in hp), b_X8_see_15, if_neg (by decide), b_X8_see_18, mn_cl_i (x_mDay_in hd), b_X8_see_23, if_pos (by decide), b_X8_see_29 v5, cb, s3', if_pos o2, b_X8_see_43 v5, cb, s3', em]
            cases z with
            | true => rw [if_neg (by decide), b_X8_see_62]; exact fin 4096 rfl
            | false => rw [if_pos mz_f, b_X8_see_68]; exact fin 0 rfl
          · have fr : ∀ a, a ≠ 11 → a ≠ 12 → a ≠ 13 → a ≠ 14 → a ≠ 70 → a ≠ 71 → h2 a = h a := fun a q1 q2 q3 q4 q5 q6 => by
              rw [eh2, mn_up_row _ _ _ _ q5, mn_up_row _ _ _ _ q6]; exact f1 a q1 q2 q3 q4
            refine ⟨T, S, n, df, my, sd, r.fr (fun b q => fr b (by omega) (by omega) (by omega) (by omega) (by omega) (by omega)), ri.fr (fun b q => fr b (by omega) (by omega) (by omega) (by omega) (by omega) (by omega)), ⟨fun j => if j = b then c b + 1 else c j, fun j => if j = w then V else G j, fun j hj => ?_⟩, rx.fr (fun b q => fr b (by omega) (by omega) (by omega) (by omega) (by omega) (by omega)) (by rw [fr 63 (by omega) (by omega) (by omega) (by omega) (by omega) (by omega)]) (by rw [fr 63 (by omega) (by omega) (by omega) (by omega) (by omega) (by omega)])⟩
            have g11 : h2 11 j = if j = b then nI (c b + 1) else h 11 j := by
              rw [eh2, mn_up_row _ _ _ _ (by decide), mn_up_row _ _ _ _ (by decide), eh1, mn_up_get, mn_up_row _ _ _ _ (by decide), mn_up_row _ _ _ _ (by decide), mn_up_row _ _ _ _ (by decide)]; simp
            have g70 : h2 70 j = if j = b then nI (c b + 1) else h 70 j := by
              rw [eh2, mn_up_get, mn_up_row _ _ _ _ (by decide), f1 70 (by decide) (by decide) (by decide) (by decide)]; simp
            have g12 : ∀ a, h2 12 a = if a = w then mz z else h 12 a := fun a => by
              rw [eh2, mn_up_row _ _ _ _ (by decide), mn_up_row _ _ _ _ (by decide), eh1, mn_up_row _ _ _ _ (by decide), mn_up_row _ _ _ _ (by decide), mn_up_row _ _ _ _ (by decide), mn_up_get]; simp
            have g13 : ∀ a, h2 13 a = if a = w then nI p else h 13 a := fun a => by
              rw [eh2, mn_up_row _ _ _ _ (by decide), mn_up_row _ _ _ _ (by decide), eh1, mn_up_row _ _ _ _ (by decide), mn_up_row _ _ _ _ (by decide), mn_up_get, mn_up_row _ _ _ _ (by decide)]; simp
            have g14 : ∀ a, h2 14 a = if a = w then nI d else h 14 a := fun a => by
              rw [eh2, mn_up_row _ _ _ _ (by decide), mn_up_row _ _ _ _ (by decide), eh1, mn_up_row _ _ _ _ (by decide), mn_up_get, mn_up_row _ _ _ _ (by decide), mn_up_row _ _ _ _ (by decide)]; simp
            have g71 : ∀ a, h2 71 a = if a = w then nI V else h 71 a := fun a => by
              rw [eh2, mn_up_row _ _ _ _ (by decide), mn_up_get, f1 71 (by decide) (by decide) (by decide) (by decide)]; simp
            obtain ⟨t1, t2, t3, t4⟩ := rs j hj
            have cj : (if j = b then c b + 1 else c j) ≤ 12 := by split <;> omega
            refine ⟨cj, ?_, ?_, fun a ha => ?_⟩
            · rw [g11]; by_cases q : j = b
              · simp only [if_pos q]
              · simp only [if_neg q]; exact t2
            · rw [g70]; by_cases q : j = b
              · simp only [if_pos q]
              · simp only [if_neg q]; exact t3
            · dsimp only at ha ⊢
              rw [g71, g12, g13, g14]
              by_cases q : 12 * j + a = w
              · simp only [if_pos q]
                have zz : V < 8192 ∧ V / 64 % 64 = p ∧ V % 64 = d ∧ (4096 ≤ V ↔ z = true) := by
                  rw [eV]; cases z
                  · simp; omega
                  · simp; omega
                refine ⟨zz.1, trivial, ?_, by rw [zz.2.1], by rw [zz.2.2.1]⟩
                congr 1
                rw [Bool.eq_iff_iff, decide_eq_true_eq]; exact zz.2.2.2.symm
              · simp only [if_neg q]
                refine t4 a ?_
                by_cases q2 : j = b
                · subst q2; rw [if_pos rfl] at ha; omega
                · rw [if_neg q2] at ha; exact ha
        · have en : c b = 12 := by omega
          have o1 : ¬ nI (c b) < 12 := by rw [en]; decide
          have o2 : nI (c b) = 12 := by rw [en]; rfl
          have a1 : mn_X 28 [.ref 10, .int (nI b), .int (mz z), .int (nI p), .int (nI d)] h (some (.int 0)) h := by
            rw [e_X3_add, b_X3_add_0 v5, cb, s2, if_neg o1, b_X3_add_11]; exact ⟨rfl, rfl⟩
          refine PAIR.q (r := -1000000004) i ?_ (trF.rf h) ?_ (mdF.rf h)
          · rw [e_X7_see, b_X7_see_0, mn_cl_i xa, b_X7_see_5, if_pos (by decide), b_X7_see_11, mn_cl_i (x_isDay_in hp), b_X7_see_15, if_neg (by decide), b_X7_see_18, mn_cl_i (x_isDay_in hd), b_X7_see_23, if_pos (by decide), b_X7_see_29, mn_cl_i a1, b_X7_see_41, if_pos rfl, b_X7_see_55, b_X7_see_57]
            exact ⟨rfl, rfl⟩
          · rw [e_X8_see, b_X8_see_0, mn_cl_i ya, b_X8_see_5, if_pos (by decide), b_X8_see_11, mn_cl_i (x_mDay_in hp), b_X8_see_15, if_neg (by decide), b_X8_see_18, mn_cl_i (x_mDay_in hd), b_X8_see_23, if_pos (by decide), b_X8_see_29 v5, cb, s3, if_neg (fun z => z o2), b_X8_see_40]
            exact ⟨rfl, rfl⟩
      · exact bad (Or.inr q2)
    · exact bad (Or.inl q1)
  · rw [in_false q] at xa ya
    refine PAIR.q (r := -1000000001) i ?_ (trF.rf h) ?_ (mdF.rf h)
    · rw [e_X7_see, b_X7_see_0, mn_cl_i xa, b_X7_see_5, if_neg (by decide), b_X7_see_8]; exact ⟨rfl, rfl⟩
    · rw [e_X8_see, b_X8_see_0, mn_cl_i ya, b_X8_see_5, if_neg (by decide), b_X8_see_8]; exact ⟨rfl, rfl⟩
