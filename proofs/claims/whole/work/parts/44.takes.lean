theorem mn_sum_add (f g : Nat → Int32) (n : Nat) : mn_sum (fun k => f k + g k) n = mn_sum f n + mn_sum g n := by
  induction n with
  | zero => show (0 : Int32) = 0 + 0; decide
  | succ n ih => show mn_sum _ n + (f n + g n) = (mn_sum f n + f n) + (mn_sum g n + g n); rw [ih]; ac_rfl
theorem mn_sum_cong {f g : Nat → Int32} : ∀ n, (∀ i, i < n → f i = g i) → mn_sum f n = mn_sum g n := by
  intro n
  induction n with
  | zero => intro _; rfl
  | succ n ih => intro h; rw [mn_sum, mn_sum, ih (fun i hi => h i (by omega)), h n (by omega)]
theorem mn_sum_0 : ∀ n, mn_sum (fun _ => 0) n = 0 := by
  intro n
  induction n with
  | zero => rfl
  | succ n ih => rw [mn_sum, ih]; decide
/-- harms of the days of a mask together -/
def haM (T : TW) (m : Nat) : Nat → Int32
  | 0 => 0
  | d + 1 => if m.testBit d then haM T m d + harmN T d else haM T m d
def hzM (T : TW) (m : Nat) : Nat → Int
  | 0 => 0
  | d + 1 => if m.testBit d then hzM T m d + hzN T d else hzM T m d
theorem haM_z (T : TW) (m d : Nat) : haM T m d = Int32.ofInt (hzM T m d) := by
  induction d with
  | zero => rfl
  | succ d ih =>
    rw [haM, hzM]
    split
    · rw [Int32.ofInt_add, ih, harm_z]
    · exact ih
theorem hzM_b {T : TW} (hw : TWF T) (m d : Nat) : -(300 * d : Int) ≤ hzM T m d ∧ hzM T m d ≤ 300 * d := by
  induction d with
  | zero => simp [hzM]
  | succ d ih =>
    have := hz_b hw d
    rw [hzM]
    split <;> omega
theorem hx_dist (T : TW) (m : Nat) : ∀ D, mn_sum (fun k => (nI (T 17 k) - 50) * nI (mn_nsum (fun d => if m.testBit d && d.testBit k then 1 else 0) D)) 6 = haM T m D := by
  intro D
  induction D with
  | zero =>
    rw [show (fun k => (nI (T 17 k) - 50) * nI (mn_nsum (fun d => if m.testBit d && d.testBit k then 1 else 0) 0)) = (fun _ => (0 : Int32)) from by
      funext k; show _ * nI 0 = 0; rw [nI_0, Int32.mul_zero]]
    exact mn_sum_0 6
  | succ D ih =>
    rw [haM]
    have e : ∀ k, k < 6 → (nI (T 17 k) - 50) * nI (mn_nsum (fun d => if m.testBit d && d.testBit k then 1 else 0) (D + 1)) = (nI (T 17 k) - 50) * nI (mn_nsum (fun d => if m.testBit d && d.testBit k then 1 else 0) D) + (if m.testBit D then (if D.testBit k then nI (T 17 k) - 50 else 0) else 0) := by
      intro k _
      rw [mn_nsum, ← nI_add, Int32.mul_add]
      congr 1
      cases m.testBit D <;> cases D.testBit k <;> simp [nI_0, show nI 1 = 1 from rfl]
    rw [mn_sum_cong 6 e, mn_sum_add, ih]
    cases m.testBit D with
    | true => rfl
    | false =>
      rw [show mn_sum (fun k => if false = true then (if D.testBit k then nI (T 17 k) - 50 else 0) else 0) 6 = 0 from mn_sum_0 6, Int32.add_zero]
      rfl
theorem ofI_nat {z : Int} (h : 0 ≤ z) : Int32.ofInt z = nI z.natAbs := by
  rw [nI_ofInt]; congr 1; omega
theorem ofI_le {z : Int} (h1 : -100000 ≤ z) (h2 : z ≤ 100000) : ((0 : Int32) ≤ Int32.ofInt z) ↔ 0 ≤ z := by
  rw [Int32.le_iff_toInt_le, Int32.toInt_ofInt_of_le (by omega) (by omega)]
  exact Iff.rfl
section TK
variable {h : mn_H} {T : TW} {m : Nat}
theorem x_gcd {a b : Nat} (ha : a < 2 ^ 31) (hb : b ≤ 100) : mn_X 112 [.int (nI a), .int (nI b)] h (some (.int (nI (Nat.gcd b a)))) h := by
  rw [e_X7_greatestDivisor, b_X7_greatestDivisor_0]
  have key : ∀ (l g st : Nat) (w : Value), g < 2 ^ 31 → st + l ≤ 100 → mn_E 112 7 [.int (nI a), .int (nI b), .int (nI g), .int (nI l), .int (nI st), w] [] h (some (.int (nI (Nat.gcd l g)))) h := by
    intro l
    induction l using Nat.strongRecOn with
    | ind l ih =>
      intro g st w hg hs
      rw [b_X7_greatestDivisor_7]
      by_cases o : l = 0
      · subst o
        rw [Nat.gcd_zero_left]
        by_cases q : (100 : Int32) ≤ nI st
        · rw [if_pos q, b_X7_greatestDivisor_34]; exact ⟨rfl, rfl⟩
        · rw [if_neg q, b_X7_greatestDivisor_14, if_pos (show nI 0 ≤ 0 from by decide), b_X7_greatestDivisor_34]; exact ⟨rfl, rfl⟩
      · have lt : g % l < l := Nat.mod_lt _ (by omega)
        rw [if_neg (show ¬ (100 : Int32) ≤ nI st from nI_ge (b := 100) (by omega) (by decide)), b_X7_greatestDivisor_14, if_neg (nI_nle (by omega) (by omega)), b_X7_greatestDivisor_18 (nI_ne0 (by omega) (by omega)), pk_rem hg (by omega) (by omega), nI_1, Nat.gcd_rec]
        exact ih (g % l) lt l (st + 1) _ (by omega) (by omega)
  exact key b a 0 _ ha (by omega)
theorem x_mgcd {x1 x2 : Int32} {a b : Nat} (ha : a < 2 ^ 31) (hb : b ≤ 100) {w : Value} : ∃ w', ∀ q h', mn_E 167 89 [.ref 63, .int x1, .int x2, .int (nI (Nat.gcd b a)), .int (nI 0), w'] [] h q h' → mn_E 167 68 [.ref 63, .int x1, .int x2, .int (nI a), .int (nI b), w] [] h q h' := by
  have key : ∀ (l g : Nat) (w : Value), g < 2 ^ 31 → l ≤ 100 → ∃ w', ∀ q h', mn_E 167 89 [.ref 63, .int x1, .int x2, .int (nI (Nat.gcd l g)), .int (nI 0), w'] [] h q h' → mn_E 167 68 [.ref 63, .int x1, .int x2, .int (nI g), .int (nI l), w] [] h q h' := by
    intro l
    induction l using Nat.strongRecOn with
    | ind l ih =>
      intro g w hg hs
      by_cases o : l = 0
      · subst o
        refine ⟨w, fun q h' z => ?_⟩
        rw [Nat.gcd_zero_left] at z
        rw [b_X8_takes_68, if_pos (show nI 0 ≤ 0 from by decide)]
        exact z
      · have lt : g % l < l := Nat.mod_lt _ (by omega)
        obtain ⟨w', E⟩ := ih (g % l) lt l (.int (nI (g % l))) (by omega) (by omega)
        refine ⟨w', fun q h' z => ?_⟩
        rw [Nat.gcd_rec] at z
        rw [b_X8_takes_68, if_neg (nI_nle (by omega) (by omega)), b_X8_takes_73 (nI_ne0 (by omega) (by omega)), pk_rem hg (by omega) (by omega)]
        exact E q h' z
  exact key b a w ha hb
theorem x_tksum (hT : mn_isT (mn_hr h)) (hc : CT h (mn_hr h) T) (hm : m < 2 ^ 64) {x1 : Int32} {q : Option Value} {h' : mn_H} : mn_E 85 14 [.ref 0, .int x1, .null, .null, .null, .null, .null] [.long (lN m)] h q h' ↔ mn_E 85 56 [.ref 0, .int x1, .long (lN m), .null, .int (haM T m 64), .int (nI 6), .null] [] h q h' := by
  have ch := hc.2.2.2.2.2.2
  rw [b_X7_takes_14, ← hx_dist T m 64]
  refine mn_loop (n := 6) (fun i => mn_E 85 21 [.ref 0, .int x1, .long (lN m), .null, .int (mn_sum (fun k => (nI (T 17 k) - 50) * nI (tcN m k)) i), .int (nI i), .null] [] h q h') ?_ ?_ (Nat.zero_le _)
  · show mn_E _ _ _ _ _ _ _ ↔ _
    rw [b_X7_takes_21, if_pos (show (6 : Int32) ≤ nI 6 from by decide)]
    exact Iff.rfl
  · intro i hi
    show mn_E _ _ _ _ _ _ _ ↔ mn_E _ _ _ _ _ _ _
    rw [b_X7_takes_21, if_neg (show ¬ (6 : Int32) ≤ nI i from nI_ge (b := 6) hi (by decide)), b_X7_takes_28 hT (vp_in_nI hi (by decide)), nI_clamp (by omega), ch i hi, mn_cl_i (x_timesComing hm hi), b_X7_takes_46, nI_1]
    exact Iff.rfl
theorem x_mtksum (hmt : MT h T) (hr : RW h m) {x1 : Int32} {q : Option Value} {h' : mn_H} (H : mn_E 167 51 [.ref 63, .int x1, .int (haM T m 64), .int (nI (mn_pop m 64)), .null, .null] [] h q h') : mn_E 167 24 [.ref 63, .int x1, .int 0, .int (nI 0), .null, .null] [] h q h' := by
  obtain ⟨r1, r2⟩ := hr
  have pl := mn_pop_le m 64
  refine mn_row (m := m) (fun j a => mn_E 167 24 [.ref 63, .int x1, .int a, .int (nI j), .null, .null] [] h q h') (haM T m) ?_ ?_ ?_
  · intro d hd hb H
    have lt := mn_pop_lt hd hb
    rw [haM, if_pos hb] at H
    rw [b_X8_takes_24, r1, if_neg (nI_ge lt (by omega)), b_X8_takes_32 (vp_in_nI (by omega) (by decide)), nI_clamp (by omega), r2 d hd hb, mn_cl_i (x_X8_harmOf hmt hd), b_X8_takes_43, nI_1]
    exact H
  · intro d hd hb
    rw [haM, hb]; rfl
  · rw [b_X8_takes_24, r1, if_pos (Int32.le_refl _)]
    exact H
end TK
theorem p_takes (x : Int32) : PAIR 85 167 [.int x] := by
  intro h i
  obtain ⟨T, S, n, df, my, sd, r, -⟩ := id i
  have xc := x_isChoice (h := h) x
  by_cases o : (decide (x = 0) || decide (x = 1)) = true
  · rw [o] at xc
    obtain ⟨h1, xp, tf⟩ := x_possibleDays r.1
    have r1 := tf.sf.rn r
    have hT := r1.hT
    obtain ⟨h2, h3, a, b, f, w⟩ := x_tg r1
    have pl := posM_lt T df my 9 0 n (S n)
    have pp := pos_pop T df my 9 0 n (S n)
    generalize posM T df my 9 0 n (S n) = m at xp w pl pp
    have xm := x_choice (h := h1) x
    rw [o] at xm
    have p64 := mn_pop_le m 64
    have m3 := r1.2.1.md f
    have zb := hzM_b r1.tw m 64
    have ez := haM_z T m 64
    obtain ⟨z, hz⟩ : ∃ z, z = hzM T m 64 := ⟨_, rfl⟩
    rw [← hz] at zb ez
    obtain ⟨g, hg⟩ : ∃ g, g = Nat.gcd (mn_pop m 64) z.natAbs := ⟨_, rfl⟩
    have g0 : 0 < g := by rw [hg]; exact Nat.gcd_pos_of_pos_left _ (by omega)
    have gl : g ≤ 64 := by rw [hg]; exact Nat.le_trans (Nat.gcd_le_left _ (by omega)) p64
    have zl := ofI_le (z := z) (by omega) (by omega)
    have eabs : (if (0 : Int32) ≤ Int32.ofInt z then Int32.ofInt z else 0 - Int32.ofInt z) = nI z.natAbs := by
      by_cases q : 0 ≤ z
      · rw [if_pos (zl.mpr q), ofI_nat q]
      · rw [if_neg (fun w => q (zl.mp w)), show (0 : Int32) = Int32.ofInt 0 from rfl, ← Int32.ofInt_sub, ofI_nat (by omega)]
        congr 1; omega
    have xg := x_gcd (h := h1) (a := z.natAbs) (b := mn_pop m 64) (by omega) (by omega)
    rw [← hg] at xg
    have mx : (if (1 : Int32) < nI g then nI g else 1) = nI g := by
      by_cases q : (1 : Int32) < nI g
      · rw [if_pos q]
      · rw [if_neg q]
        have : g = 1 := by
          by_cases q2 : g = 1
          · exact q2
          · exact absurd (show (1 : Int32) < nI g from nI_lt (a := 1) (by omega) (by omega)) q
        rw [this]; rfl
    have gne : ¬ nI g = 0 := nI_ne0 g0 (by omega)
    obtain ⟨w', E⟩ := x_mgcd (h := h3) (x1 := x) (x2 := Int32.ofInt z) (a := z.natAbs) (b := mn_pop m 64) (w := .null) (by omega) (by omega)
    rw [← hg] at E
    refine PAIR.q (r := if x = 0 then Int32.ofInt z / nI g else nI (mn_pop m 64) / nI g) i ?_ tf ?_ f
    · rw [e_X7_takes, b_X7_takes_0, mn_cl_i xc, b_X7_takes_4, if_pos (by decide), b_X7_takes_10, mn_cl_l xp, x_tksum hT r1.ct pl, b_X7_takes_56, mn_cl_i (x_lbitCount pl), b_X7_takes_60, ez, eabs, mn_cl_i xg, b_X7_takes_73, mx]
      by_cases q : x = 0
      · rw [if_neg (fun w => w q), b_X7_takes_82, b_X7_takes_89 gne, if_pos q]; exact ⟨rfl, rfl⟩
      · rw [if_pos q, b_X7_takes_87, b_X7_takes_89 gne, if_neg q]; exact ⟨rfl, rfl⟩
    · rw [e_X8_takes, b_X8_takes_0, mn_cl_i xm, b_X8_takes_6, if_pos (by decide), b_X8_takes_12, mn_cl_v a, b_X8_takes_16, mn_cl_v b, b_X8_takes_20]
      refine x_mtksum m3.1 w ?_
      have fin : mn_E 167 61 [.ref 63, .int x, .int (Int32.ofInt z), .int (nI (mn_pop m 64)), .null, .null] [.int (nI z.natAbs)] h3 (some (.int (if x = 0 then Int32.ofInt z / nI g else nI (mn_pop m 64) / nI g))) h3 := by
        rw [b_X8_takes_61, w.1]
        apply E
        rw [b_X8_takes_89]
        by_cases q : x = 0
        · rw [if_neg (fun w => w q), b_X8_takes_93 gne, b_X8_takes_105, if_pos q]; exact ⟨rfl, rfl⟩
        · rw [if_pos q, b_X8_takes_99 gne, b_X8_takes_105, if_neg q, w.1]; exact ⟨rfl, rfl⟩
      rw [b_X8_takes_51, ez]
      by_cases q : 0 ≤ z
      · rw [if_pos (zl.mpr q), b_X8_takes_60]
        rw [show nI z.natAbs = Int32.ofInt z from (ofI_nat q).symm] at fin
        exact fin
      · rw [if_neg (fun w => q (zl.mp w)), b_X8_takes_55, ← Int32.ofInt_neg, ofI_nat (show 0 ≤ -z by omega), Int.natAbs_neg]
        exact fin
  · have o := Bool.eq_false_iff.mpr o
    rw [o] at xc
    have xm := x_choice (h := h) x
    rw [o] at xm
    refine PAIR.q (r := -1000000002) i ?_ (trF.rf h) ?_ (mdF.rf h)
    · rw [e_X7_takes, b_X7_takes_0, mn_cl_i xc, b_X7_takes_4, if_neg (by decide), b_X7_takes_7]; exact ⟨rfl, rfl⟩
    · rw [e_X8_takes, b_X8_takes_0, mn_cl_i xm, b_X8_takes_6, if_neg (by decide), b_X8_takes_9]; exact ⟨rfl, rfl⟩
