def lessB (s : Nat) : Option Nat → Bool
  | none => true
  | some b => decide (mn_pop s 6 < mn_pop b 6)
def hsF (P : Nat → Bool) (df : Nat) : Nat → Option Nat
  | 0 => none
  | s + 1 => if decide (s &&& df = 0) && lessB s (hsF P df s) && P s then some s else hsF P df s
def oI : Option Nat → Int32
  | none => -1
  | some b => nI b
def fI : Option Nat → Int32
  | none => 7
  | some b => nI (mn_pop b 6)
theorem hsF_lt (P : Nat → Bool) (df s : Nat) : ∀ b, hsF P df s = some b → b < s := by
  induction s with
  | zero => intro b e; cases e
  | succ s ih =>
    intro b e
    rw [hsF] at e
    split at e
    · cases e; omega
    · have := ih b e; omega
theorem hs_and {s df : Nat} (hs : s < 64) (hd : df < 64) : (nI s &&& nI df = 0) ↔ s &&& df = 0 := by
  rw [nq_and (by omega) (by omega), show (0 : Int32) = nI 0 from rfl]
  have : s &&& df ≤ s := Nat.and_le_left
  exact nI_eq (by omega) (by omega)
theorem fI_le {s : Nat} {o : Option Nat} : fI o ≤ nI (mn_pop s 6) ↔ lessB s o = false := by
  have p := mn_pop_le s 6
  cases o with
  | none =>
    show (7 : Int32) ≤ _ ↔ true = false
    refine ⟨fun z => absurd z (nI_ge (b := 7) (by omega) (by decide)), fun z => by cases z⟩
  | some b =>
    have p2 := mn_pop_le b 6
    show nI _ ≤ nI _ ↔ decide _ = false
    rw [nI_leI (by omega) (by omega), decide_eq_false_iff_not, Nat.not_lt]
section HUSH
variable {h : mn_H} {T : TW} {S : Nat → Nat} {n df my sd : Nat}
theorem x_hush (r : RN h T S n df my sd) {k : Nat} (hk : k < 6) {y : Int32} {P : Nat → Bool} (hP : P = fun s => decide (tcN (posM T (df ||| s) my 9 0 n (S n)) k = 0)) {w6 : Value} : ∃ h' w6', trF h h' ∧ ∀ q h'', mn_E 83 88 [.ref 0, .int (nI k), .int y, .int (oI (hsF P df (2 ^ T 0 1))), .int (fI (hsF P df (2 ^ T 0 1))), .int (nI (2 ^ T 0 1)), w6'] [] h' q h'' → mn_E 83 26 [.ref 0, .int (nI k), .int y, .int (-1), .int 7, .int (nI 0), w6] [] h q h'' := by
  have p6 := mn_pw6 r.tw
  have p1 : 1 ≤ 2 ^ T 0 1 := Nat.one_le_two_pow
  have d64 := r.df64
  have key : ∀ i, i ≤ 2 ^ T 0 1 → ∃ h' w6', trF h h' ∧ ∀ q h'', mn_E 83 26 [.ref 0, .int (nI k), .int y, .int (oI (hsF P df i)), .int (fI (hsF P df i)), .int (nI i), w6'] [] h' q h'' → mn_E 83 26 [.ref 0, .int (nI k), .int y, .int (-1), .int 7, .int (nI 0), w6] [] h q h'' := by
    intro i
    induction i with
    | zero => intro _; exact ⟨h, w6, trF.rf h, fun q h'' z => z⟩
    | succ i ih =>
      intro hi
      obtain ⟨hh, w, f, E⟩ := ih (by omega)
      have rr := f.sf.rn r
      have hT := rr.hT
      have an := hs_and (show i < 64 by omega) d64
      have head : ∀ (q : Option Value) (h' : mn_H), mn_E 83 26 [.ref 0, .int (nI k), .int y, .int (oI (hsF P df i)), .int (fI (hsF P df i)), .int (nI i), w] [] hh q h' ↔ (if ¬ (nI i &&& nI df) = 0 then mn_E 83 82 [.ref 0, .int (nI k), .int y, .int (oI (hsF P df i)), .int (fI (hsF P df i)), .int (nI i), .int (nI (mn_pop i 6))] [] hh q h' else mn_E 83 58 [.ref 0, .int (nI k), .int y, .int (oI (hsF P df i)), .int (fI (hsF P df i)), .int (nI i), .int (nI (mn_pop i 6))] [] hh q h') := by
        intro q h'
        rw [b_X7_hush_26 hT, mn_cl_i (x_allGroups hT rr.ct rr.tw), b_X7_hush_35, if_neg (nI_nlt (by omega) (by omega)), b_X7_hush_38, mn_cl_i (x_ibitCount (show i < 64 by omega)), b_X7_hush_43, rr.cst.2.2.2.1]
      have skip : hsF P df (i + 1) = hsF P df i → ∃ h' w6', trF h h' ∧ ∀ q h'', mn_E 83 26 [.ref 0, .int (nI k), .int y, .int (oI (hsF P df (i + 1))), .int (fI (hsF P df (i + 1))), .int (nI (i + 1)), w6'] [] h' q h'' → mn_E 83 82 [.ref 0, .int (nI k), .int y, .int (oI (hsF P df i)), .int (fI (hsF P df i)), .int (nI i), .int (nI (mn_pop i 6))] [] hh q h'' := by
        intro e
        refine ⟨hh, .int (nI (mn_pop i 6)), f, fun q h'' z => ?_⟩
        rw [e] at z
        rw [b_X7_hush_82, nI_1]
        exact z
      by_cases o : i &&& df = 0
      · cases o2 : lessB i (hsF P df i) with
        | false =>
          obtain ⟨h1, w1, f1, E1⟩ := skip (by rw [hsF, o2]; simp)
          refine ⟨h1, w1, f1, fun q h'' z => E q h'' ?_⟩
          rw [head, if_neg (fun z => z (an.mpr o)), b_X7_hush_58, if_pos (fI_le.mpr o2)]
          exact E1 q h'' z
        | true =>
          obtain ⟨h1, x1, f1⟩ := x_isKeptOffIfDeaf rr.1 hk (show i < 64 by omega)
          have x1' : mn_X 107 [.ref 0, .int (nI k), .int (nI i)] hh (some (.int (mz (P i)))) h1 := by rw [hP]; exact x1
          refine ⟨h1, .int (nI (mn_pop i 6)), f.tr f1, fun q h'' z => E q h'' ?_⟩
          rw [hsF, o2] at z
          rw [head, if_neg (fun z => z (an.mpr o)), b_X7_hush_58, if_neg (fun z => by rw [fI_le.mp z] at o2; cases o2), b_X7_hush_65, mn_cl_i x1', b_X7_hush_72]
          cases o3 : P i with
          | false =>
            rw [o3] at z
            rw [if_pos mz_f, b_X7_hush_82, nI_1]
            simp only [o, decide_true, Bool.and_false, Bool.false_eq_true, if_false] at z
            exact z
          | true =>
            rw [o3] at z
            rw [if_neg (by decide), b_X7_hush_75, b_X7_hush_82, nI_1]
            simp only [o, decide_true, Bool.and_true, if_true] at z
            exact z
      · obtain ⟨h1, w1, f1, E1⟩ := skip (by rw [hsF]; simp [o])
        refine ⟨h1, w1, f1, fun q h'' z => E q h'' ?_⟩
        rw [head, if_pos (fun z => o (an.mp z))]
        exact E1 q h'' z
  obtain ⟨h', w, f, E⟩ := key _ (Nat.le_refl _)
  refine ⟨h', w, f, fun q h'' z => E q h'' ?_⟩
  have rr := f.sf.rn r
  have hT := rr.hT
  rw [b_X7_hush_26 hT, mn_cl_i (x_allGroups hT rr.ct rr.tw), b_X7_hush_35, if_pos (nI_lt (by omega) (by omega))]
  exact z
theorem x_mhush (hm : MT h T) (hw : TWF T) {s0 y0 k : Nat} (hk : k < 6) (hn : n < 2 ^ 30) (hy : y0 < 64) (hdf : df < 64) (hmy : my < 64) (h67 : h 67 1 = nI df) {y : Int32} {P : Nat → Bool} (hP : P = fun s => decide (tcN (posM T (df ||| s) my 9 0 n y0) k = 0)) (ht : TRY h s0 my 9 0 none y0 n) {w5 : Value} : ∃ h' w5', mdF h h' ∧ ∀ q h'', mn_E 165 122 [.ref 63, .int (nI k), .int y, .int (oI (hsF P df (2 ^ T 0 1))), .int (nI (2 ^ T 0 1)), w5'] [] h' q h'' → mn_E 165 30 [.ref 63, .int (nI k), .int y, .int (-1), .int (nI 0), w5] [] h q h'' := by
  have p6 := mn_pw6 hw
  have p1 : 1 ≤ 2 ^ T 0 1 := Nat.one_le_two_pow
  have key : ∀ i, i ≤ 2 ^ T 0 1 → ∃ h' w5' s1, mdF h h' ∧ TRY h' s1 my 9 0 none y0 n ∧ ∀ q h'', mn_E 165 30 [.ref 63, .int (nI k), .int y, .int (oI (hsF P df i)), .int (nI i), w5'] [] h' q h'' → mn_E 165 30 [.ref 63, .int (nI k), .int y, .int (-1), .int (nI 0), w5] [] h q h'' := by
    intro i
    induction i with
    | zero => intro _; exact ⟨h, w5, s0, mdF.rf h, ht, fun q h'' z => z⟩
    | succ i ih =>
      intro hi
      obtain ⟨hh, w, s1, f, t, E⟩ := ih (by omega)
      have an := hs_and (show i < 64 by omega) hdf
      have xg := x_mGroups (MT_row (f.1 65 (by decide) (by decide) (by decide)) hm) hw (nI i)
      rw [in_true (show i < 2 ^ T 0 1 by omega) (by omega)] at xg
      have e67 : hh 67 (1 : Int32).toNatClampNeg = nI df := by rw [nl1, f.1 67 (by decide) (by decide) (by decide)]; exact h67
      have ol : df ||| i < 64 := mn_or64 hdf (by omega)
      obtain ⟨h1, eh1⟩ : ∃ h1, h1 = mn_up hh 63 13 (nI (df ||| i)) := ⟨_, rfl⟩
      have f1 : mdF h h1 := by rw [eh1]; exact f.up (by decide) _
      have t1 : TRY h1 (df ||| i) my 9 0 none y0 n := by rw [eh1]; exact t.deaf _
      have e67' : h1 67 (1 : Int32).toNatClampNeg = nI df := by rw [eh1, mn_up_row _ _ _ _ (by decide)]; exact e67
      have m1 := MT_row (f1.1 65 (by decide) (by decide) (by decide)) hm
      have head : ∀ (q : Option Value) (h' : mn_H), mn_E 165 30 [.ref 63, .int (nI k), .int y, .int (oI (hsF P df i)), .int (nI i), w] [] hh q h' ↔ (if ¬ (nI i &&& nI df) = 0 then mn_E 165 85 [.ref 63, .int (nI k), .int y, .int (oI (hsF P df i)), .int (nI i), w] [] h1 q h' else mn_E 165 64 [.ref 63, .int (nI k), .int y, .int (oI (hsF P df i)), .int (nI i), w] [] h1 q h') := by
        intro q h'
        rw [b_X8_hush_30, mn_cl_i xg, b_X8_hush_36, if_neg (by decide), b_X8_hush_39, e67, nq_or (by omega) (by omega), ← eh1, e67']
      have skip : hsF P df (i + 1) = hsF P df i → ∀ q h'', mn_E 165 30 [.ref 63, .int (nI k), .int y, .int (oI (hsF P df (i + 1))), .int (nI (i + 1)), .int 0] [] h1 q h'' → mn_E 165 85 [.ref 63, .int (nI k), .int y, .int (oI (hsF P df i)), .int (nI i), w] [] h1 q h'' := by
        intro e q h'' z
        rw [e] at z
        rw [b_X8_hush_85, b_X8_hush_86, if_pos rfl, b_X8_hush_116, nI_1]
        exact z
      have mid : ∀ q h'', mn_E 165 64 [.ref 63, .int (nI k), .int y, .int (oI (hsF P df i)), .int (nI i), w] [] h1 q h'' ↔ (if lessB i (hsF P df i) = false then mn_E 165 85 [.ref 63, .int (nI k), .int y, .int (oI (hsF P df i)), .int (nI i), w] [] h1 q h'' else mn_E 165 81 [.ref 63, .int (nI k), .int y, .int (oI (hsF P df i)), .int (nI i), w] [] h1 q h'') := by
        intro q h''
        rw [b_X8_hush_64]
        cases oo : hsF P df i with
        | none => rw [if_pos (show oI none = (-1) from rfl), if_neg (by show ¬ true = false; decide)]
        | some b =>
          have bl := hsF_lt P df i b oo
          rw [if_neg (show ¬ oI (some b) = (-1) from nI_nm1 (by omega)), b_X8_hush_69, mn_cl_i (x_ones (show i < 64 by omega)), b_X8_hush_74]
          rw [show oI (some b) = nI b from rfl, mn_cl_i (x_ones (show b < 64 by omega)), b_X8_hush_78]
          have := fI_le (s := i) (o := some b)
          rw [show fI (some b) = nI (mn_pop b 6) from rfl] at this
          by_cases z : lessB i (some b) = false
          · rw [if_pos z, if_pos (this.mpr z)]
          · rw [if_neg z, if_neg (fun q => z (this.mp q))]
      by_cases o : i &&& df = 0
      · cases o2 : lessB i (hsF P df i) with
        | false =>
          refine ⟨h1, .int 0, df ||| i, f1, t1, fun q h'' z => E q h'' ?_⟩
          rw [head, if_neg (fun z => z (an.mpr o)), mid, if_pos o2]
          exact skip (by rw [hsF, o2]; simp) q h'' z
        | true =>
          obtain ⟨h2, x2, g2, w2⟩ := x_X8_gathers m1 hw t1 ol hmy (by omega) hn hy
          refine ⟨h2, .int 1, df ||| i, f1.gt g2, g2.try t1, fun q h'' z => E q h'' ?_⟩
          have al := anyN_lt (posM T (df ||| i) my 9 0 n y0) (Nat.le_refl 64)
          have b0 := nq_bit0 (a := anyN (posM T (df ||| i) my 9 0 n y0) 64) (k := k) (by omega) (by omega)
          have t0 := tcN_0 (posM T (df ||| i) my 9 0 n y0) k
          have ep : P i = decide (tcN (posM T (df ||| i) my 9 0 n y0) k = 0) := by rw [hP]
          rw [hsF, o2] at z
          rw [head, if_neg (fun z => z (an.mpr o)), mid, if_neg (by rw [o2]; decide), b_X8_hush_81, b_X8_hush_86, if_neg (by decide), b_X8_hush_93, mn_cl_v x2, b_X8_hush_97, mn_cl_i (x_met0 w2), b_X8_hush_102]
          by_cases o3 : tcN (posM T (df ||| i) my 9 0 n y0) k = 0
          · rw [ep] at z
            rw [if_neg (fun z => z (b0.mpr (t0.mp o3))), b_X8_hush_109, b_X8_hush_115, b_X8_hush_116, nI_1]
            simp only [o, o3, decide_true, Bool.and_true, if_true] at z
            exact z
          · rw [ep] at z
            rw [if_pos (fun z => o3 (t0.mpr (b0.mp z))), b_X8_hush_114, b_X8_hush_115, b_X8_hush_116, nI_1]
            simp only [o, o3, decide_true, decide_false, Bool.and_false, Bool.false_eq_true, if_false] at z
            exact z
      · refine ⟨h1, .int 0, df ||| i, f1, t1, fun q h'' z => E q h'' ?_⟩
        rw [head, if_pos (fun z => o (an.mp z))]
        exact skip (by rw [hsF]; simp [o]) q h'' z
  obtain ⟨h', w, s1, f, t, E⟩ := key _ (Nat.le_refl _)
  refine ⟨h', w, f, fun q h'' z => E q h'' ?_⟩
  have xg := x_mGroups (MT_row (f.1 65 (by decide) (by decide) (by decide)) hm) hw (nI (2 ^ T 0 1))
  rw [in_false (Or.inr (Int32.le_refl _))] at xg
  rw [b_X8_hush_30, mn_cl_i xg, b_X8_hush_36, if_pos mz_f]
  exact z
theorem x_isHap_in {k : Nat} (hk : k < 6) : mn_X 100 [.int (nI k)] h (some (.int 1)) h := by
  have := x_X7_isHappening (h := h) (nI k)
  rw [show (6 : Int32) = nI 6 from rfl, in_true hk (by decide)] at this
  exact this
theorem x_isHap_out {x : Int32} (hx : x < 0 ∨ nI 6 ≤ x) : mn_X 100 [.int x] h (some (.int 0)) h := by
  have := x_X7_isHappening (h := h) x
  rw [show (6 : Int32) = nI 6 from rfl, in_false hx] at this
  exact this
theorem x_in5_in {k : Nat} (hk : k < 6) : mn_X 114 [.int (nI k), .int 0, .int 5] h (some (.int 1)) h := x_in_in (a := 0) (b := 5) (Nat.zero_le _) (by omega) (by decide)
theorem x_in5_out {x : Int32} (hx : x < 0 ∨ nI 6 ≤ x) : mn_X 114 [.int x, .int 0, .int 5] h (some (.int 0)) h := x_in_out (lt_of (m := 5) (show 5 < 6 by decide) (by decide) hx)
end HUSH
theorem p_hush (x y : Int32) : PAIR 83 165 [.int x, .int y] := by
  intro h i
  obtain ⟨T, S, n, df, my, sd, r, -⟩ := id i
  have h60 := r.n60
  have p6 := mn_pw6 r.tw
  rcases mn_rng x 6 (by decide) with ⟨k, hk, rfl⟩ | q
  · have xc := x_isChoice (h := h) y
    by_cases o : (decide (y = 0) || decide (y = 1)) = true
    · rw [o] at xc
      obtain ⟨P, hP⟩ : ∃ P : Nat → Bool, P = fun s => decide (tcN (posM T (df ||| s) my 9 0 n (S n)) k = 0) := ⟨_, rfl⟩
      obtain ⟨h2, w2, f2, E2⟩ := x_hush r hk (y := y) hP (w6 := .null)
      have r2 := f2.sf.rn r
      have xm := x_choice (h := h2) y
      rw [o] at xm
      obtain ⟨h3, a, b, c⟩ := x_X8_trying r2.2.1 r2.n60
      have s64 := r.s64 n (Nat.le_refl _)
      have m3 := r2.2.1.md b
      obtain ⟨h4, w4, f4, E4⟩ := x_mhush (y := y) (w5 := .null) m3.1 r2.tw hk (show n < 2 ^ 30 by omega) s64 r2.df64 r2.my64 m3.2.2.1 hP c
      have lt := hsF_lt P df (2 ^ T 0 1)
      refine PAIR.q (r := if hsF P df (2 ^ T 0 1) = none then -1 else if y = 0 then fI (hsF P df (2 ^ T 0 1)) else oI (hsF P df (2 ^ T 0 1))) i ?_ f2 ?_ (b.tr f4)
      · rw [e_X7_hush, b_X7_hush_0, mn_cl_i (x_isHap_in hk), b_X7_hush_4, if_neg (by decide), b_X7_hush_7, mn_cl_i xc, b_X7_hush_11, if_pos (by decide), b_X7_hush_17]
        apply E2
        rw [b_X7_hush_88]
        cases oo : hsF P df (2 ^ T 0 1) with
        | none => rw [if_neg (fun z => z rfl), b_X7_hush_93, b_X7_hush_107, if_pos rfl]; exact ⟨rfl, rfl⟩
        | some bb =>
          have := lt bb oo
          rw [if_pos (show ¬ oI (some bb) = -1 from nI_nm1 (by omega)), b_X7_hush_97, if_neg (show ¬ some bb = none from fun z => by cases z)]
          by_cases oy : y = 0
          · rw [if_neg (fun z => z oy), b_X7_hush_101, b_X7_hush_107, if_pos oy]; exact ⟨rfl, rfl⟩
          · rw [if_pos oy, b_X7_hush_106, b_X7_hush_107, if_neg oy]; exact ⟨rfl, rfl⟩
      · rw [e_X8_hush, b_X8_hush_0, mn_cl_i (x_in5_in hk), b_X8_hush_6, if_neg (by decide), b_X8_hush_9, mn_cl_i xm, b_X8_hush_15, if_pos (by decide), b_X8_hush_21, mn_cl_v a, b_X8_hush_25]
        apply E4
        rw [b_X8_hush_122]
        cases oo : hsF P df (2 ^ T 0 1) with
        | none => rw [if_neg (fun z => z rfl), b_X8_hush_127, b_X8_hush_143, if_pos rfl]; exact ⟨rfl, rfl⟩
        | some bb =>
          have := lt bb oo
          rw [if_pos (show ¬ oI (some bb) = -1 from nI_nm1 (by omega)), b_X8_hush_131, if_neg (show ¬ some bb = none from fun z => by cases z)]
          by_cases oy : y = 0
          · rw [if_neg (fun z => z oy), b_X8_hush_135, show oI (some bb) = nI bb from rfl, mn_cl_i (x_ones (show bb < 64 by omega)), b_X8_hush_139, b_X8_hush_143, if_pos oy]; exact ⟨rfl, rfl⟩
          · rw [if_pos oy, b_X8_hush_142, b_X8_hush_143, if_neg oy]; exact ⟨rfl, rfl⟩
    · have o := Bool.eq_false_iff.mpr o
      rw [o] at xc
      have xm := x_choice (h := h) y
      rw [o] at xm
      refine PAIR.q (r := -1000000002) i ?_ (trF.rf h) ?_ (mdF.rf h)
      · rw [e_X7_hush, b_X7_hush_0, mn_cl_i (x_isHap_in hk), b_X7_hush_4, if_neg (by decide), b_X7_hush_7, mn_cl_i xc, b_X7_hush_11, if_neg (by decide), b_X7_hush_14]
        exact ⟨rfl, rfl⟩
      · rw [e_X8_hush, b_X8_hush_0, mn_cl_i (x_in5_in hk), b_X8_hush_6, if_neg (by decide), b_X8_hush_9, mn_cl_i xm, b_X8_hush_15, if_neg (by decide), b_X8_hush_18]
        exact ⟨rfl, rfl⟩
  · refine PAIR.q (r := -1000000002) i ?_ (trF.rf h) ?_ (mdF.rf h)
    · rw [e_X7_hush, b_X7_hush_0, mn_cl_i (x_isHap_out q), b_X7_hush_4, if_pos rfl, b_X7_hush_14]
      exact ⟨rfl, rfl⟩
    · rw [e_X8_hush, b_X8_hush_0, mn_cl_i (x_in5_out q), b_X8_hush_6, if_pos rfl, b_X8_hush_18]
      exact ⟨rfl, rfl⟩
