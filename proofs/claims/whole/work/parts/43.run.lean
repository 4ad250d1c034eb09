section GAP
variable {T : TW} {df my g mo n y : Nat}
theorem add_ne {d r e N : Nat} (o : ¬ N = g) : addN T df my g (mo + e) r d N = addN T df my g mo r d N := by unfold addN; rw [if_neg o, if_neg o]
theorem add_eq {d r e : Nat} : addN T df my g (mo + e) r d g = addN T df my g mo r d g + (if deedN T df my r g = d then e else 0) := by
  unfold addN
  by_cases q : deedN T df my r g = d
  · rw [if_pos q, if_pos q, if_pos rfl, if_pos rfl, if_pos q]; omega
  · rw [if_neg q, if_neg q, if_neg q]
theorem add_more (d r : Nat) (e N : Nat) : mn_nsum (addN T df my g (mo + e) r d) N = mn_nsum (addN T df my g mo r d) N + (if g < N ∧ deedN T df my r g = d then e else 0) := by
  induction N with
  | zero => rw [if_neg (by omega)]; rfl
  | succ N ih =>
    rw [mn_nsum, mn_nsum, ih]
    by_cases o : N = g
    · subst o
      rw [if_neg (by omega), add_eq]
      by_cases q : deedN T df my r N = d
      · rw [if_pos q, if_pos ⟨by omega, q⟩]; omega
      · rw [if_neg q, if_neg (fun z => q z.2)]; omega
    · rw [add_ne o]
      by_cases q : g < N ∧ deedN T df my r g = d
      · rw [if_pos q, if_pos ⟨by omega, q.2⟩]; omega
      · rw [if_neg q, if_neg (fun z => q ⟨by omega, z.2⟩)]; omega
theorem gap_le (B N : Nat → Nat) (d p : Nat) : ∀ c i, i < c → B i = d → p < N i → gapN B N d p c ≤ N i - p := by
  intro c
  induction c with
  | zero => intro i hi; omega
  | succ c ih =>
    intro i hi e hp
    rw [gapN]
    by_cases o : i = c
    · subst o
      rw [if_pos ⟨e, hp⟩]
      split <;> omega
    · have := ih i (by omega) e hp
      split
      · split <;> omega
      · exact this
theorem gap_pos (B N : Nat → Nat) (d p : Nat) : ∀ c, 1 ≤ gapN B N d p c := by
  intro c
  induction c with
  | zero => show 1 ≤ 1000; decide
  | succ c ih =>
    rw [gapN]
    split
    · split <;> omega
    · exact ih
theorem gp_pos (hg : g < 6) : ∀ R, 1 ≤ gpN T df my g mo R := by
  intro R
  induction R with
  | zero => show 1 ≤ 1000; decide
  | succ R ih =>
    rw [gpN, if_pos hg]
    dsimp only
    have a := gap_pos (T 9) (T 10) (deedN T df my R g) (doneN T df my g mo R (deedN T df my R g)) (T 0 2)
    have b := gap_pos (T 12) (T 13) (deedN T df my R g) (doneN T df my g mo R (deedN T df my R g)) (T 0 3)
    repeat' split
    all_goals omega
theorem gp_le (hg : g < 6) : ∀ R r, r < R → gpN T df my g mo R ≤ gapN (T 9) (T 10) (deedN T df my r g) (doneN T df my g mo r (deedN T df my r g)) (T 0 2) ∧ gpN T df my g mo R ≤ gapN (T 12) (T 13) (deedN T df my r g) (doneN T df my g mo r (deedN T df my r g)) (T 0 3) := by
  intro R
  induction R with
  | zero => intro r hr; omega
  | succ R ih =>
    intro r hr
    rw [gpN, if_pos hg]
    dsimp only
    by_cases o : r = R
    · subst o
      generalize gapN (T 9) (T 10) (deedN T df my r g) (doneN T df my g mo r (deedN T df my r g)) (T 0 2) = a
      generalize gapN (T 12) (T 13) (deedN T df my r g) (doneN T df my g mo r (deedN T df my r g)) (T 0 3) = b
      repeat' split
      all_goals omega
    · obtain ⟨h1, h2⟩ := ih r (by omega)
      generalize gapN (T 9) (T 10) (deedN T df my r g) (doneN T df my g mo r (deedN T df my r g)) (T 0 2) = a at *
      generalize gapN (T 12) (T 13) (deedN T df my r g) (doneN T df my g mo r (deedN T df my r g)) (T 0 3) = b at *
      repeat' split
      all_goals omega
theorem mn_any_cong {p q : Nat → Bool} : ∀ c, (∀ i, i < c → p i = q i) → (List.range c).any p = (List.range c).any q := by
  intro c
  induction c with
  | zero => intro _; rfl
  | succ c ih => intro h; rw [mn_any_succ, mn_any_succ, ih (fun i hi => h i (by omega)), h c (by omega)]
theorem met_cong {c : Nat} {A B N W W' : Nat → Nat} (h : ∀ i, i < c → (N i ≤ W (B i) ↔ N i ≤ W' (B i))) : metN c A B N W = metN c A B N W' := by
  unfold metN
  refine mn_bits_cong 6 (fun x _ => mn_any_cong c (fun i hi => ?_))
  have := h i hi
  by_cases o : N i ≤ W (B i)
  · rw [decide_eq_true o, decide_eq_true (this.mp o)]
  · rw [decide_eq_false o, decide_eq_false (fun z => o (this.mpr z))]
theorem met_gap {c : Nat} {A B N : Nat → Nat} {r e : Nat} (hg : g < T 0 1) (he : e < gapN B N (deedN T df my r g) (doneN T df my g mo r (deedN T df my r g)) c) : metN c A B N (doneN T df my g (mo + e) r) = metN c A B N (doneN T df my g mo r) := by
  refine met_cong (fun i hi => ?_)
  have e1 : doneN T df my g (mo + e) r (B i) = doneN T df my g mo r (B i) + (if g < T 0 1 ∧ deedN T df my r g = B i then e else 0) := add_more (B i) r e (T 0 1)
  rw [e1]
  by_cases o : deedN T df my r g = B i
  · rw [if_pos ⟨hg, o⟩]
    rw [o] at he
    constructor
    · intro q
      by_cases q2 : N i ≤ doneN T df my g mo r (B i)
      · exact q2
      · have := gap_le B N (B i) (doneN T df my g mo r (B i)) c i hi rfl (by omega)
        omega
    · intro q; omega
  · rw [if_neg (fun z => o z.2), Nat.add_zero]
theorem cm_gap {r e R : Nat} (hg : g < T 0 1) (hg6 : g < 6) (hr : r < R) (he : e < gpN T df my g mo R) : cmN T df my g (mo + e) n r = cmN T df my g mo n r := by
  obtain ⟨h1, h2⟩ := gp_le (T := T) (df := df) (my := my) (mo := mo) hg6 R r hr
  unfold cmN cauN stoN
  rw [met_gap hg (Nat.lt_of_lt_of_le he h1), met_gap hg (Nat.lt_of_lt_of_le he h2)]
theorem pos_gap (hw : TWF T) {e : Nat} (hg : g < T 0 1) (he : e < gpN T df my g mo (2 ^ T 0 0)) : posM T df my g (mo + e) n y = posM T df my g mo n y := by
  have hg6 : g < 6 := by have := hw.1.2.1; omega
  have ef : fitM T df my g (mo + e) n y none = fitM T df my g mo n y none := by
    unfold fitM
    refine mn_bits_cong 64 (fun d _ => ?_)
    rw [cm_gap hg hg6 (show wrN T y none d < 2 ^ T 0 0 from ringN_lt T y d) he]
  unfold posM
  rw [ef, cm_gap hg hg6 (Nat.pow_pos (by decide)) he]
end GAP
/-- the least number below 1000 at which something holds, or -1 -/
def leastR (Q : Nat → Bool) (R : Int32) : Prop := (∃ M, M < 1000 ∧ Q M = true ∧ (∀ j, j < M → Q j = false) ∧ R = nI M) ∨ ((∀ j, j < 1000 → Q j = false) ∧ R = -1)
theorem leastR_ex (Q : Nat → Bool) : ∃ R, leastR Q R := by
  by_cases o : ∃ k, k < 1000 ∧ Q k = true
  · obtain ⟨M, ⟨h1, h2⟩, h3⟩ := pk_least (fun k => k < 1000 ∧ Q k = true) o
    refine ⟨nI M, Or.inl ⟨M, h1, h2, fun j hj => ?_, rfl⟩⟩
    cases e : Q j with
    | false => rfl
    | true => exact absurd ⟨by omega, e⟩ (h3 j hj)
  · refine ⟨-1, Or.inr ⟨fun j hj => ?_, rfl⟩⟩
    cases e : Q j with
    | false => rfl
    | true => exact absurd ⟨j, hj, e⟩ o
theorem leastR.hit {Q : Nat → Bool} {R : Int32} (l : leastR Q R) {m : Nat} (hm : m < 1000) (h : Q m = true) (hb : ∀ j, j < m → Q j = false) : R = nI m := by
  rcases l with ⟨M, h1, h2, h3, rfl⟩ | ⟨h1, -⟩
  · have : M = m := by
      rcases Nat.lt_trichotomy M m with q | q | q
      · rw [hb M q] at h2; cases h2
      · exact q
      · rw [h3 m q] at h; cases h
    rw [this]
  · rw [h1 m hm] at h; cases h
theorem leastR.miss {Q : Nat → Bool} {R : Int32} (l : leastR Q R) (hb : ∀ j, j < 1000 → Q j = false) : R = -1 := by
  rcases l with ⟨M, h1, h2, h3, rfl⟩ | ⟨-, h2⟩
  · rw [hb M h1] at h2; cases h2
  · exact h2
section RUN
variable {h : mn_H} {T : TW} {S : Nat → Nat} {n df my sd : Nat}
theorem onAN_lt (m : Nat) : onAN m < 64 := mn_bits_lt _ 6
theorem x_run (r : RN h T S n df my sd) {g k : Nat} (hg : g < T 0 1) (hk : k < 6) {Q : Nat → Bool} (hQ : Q = fun mo => (onAN (posM T df my g mo n (S n))).testBit k) {R : Int32} (hR : leastR Q R) : ∀ (f more tries : Nat) (hh : mn_H), trF h hh → tries ≤ more → 1000 ≤ more + f → more ≤ 2000 → (∀ j, j < more → j < 1000 → Q j = false) → ∃ h', trF h h' ∧ mn_E 84 26 [.ref 0, .int (nI g), .int (nI k), .int (nI more), .int (nI tries)] [] hh (some (.int R)) h' := by
  have hw := r.tw
  have g6 : g < 6 := by have := hw.1.2.1; omega
  have gn : gN g = nI g := by unfold gN; rw [if_pos g6]
  intro f
  induction f with
  | zero =>
    intro more tries hh tf t1 t2 t3 t4
    refine ⟨hh, tf, ?_⟩
    have := hR.miss (fun j hj => t4 j (by omega) hj)
    subst this
    rw [b_X7_run_26]
    by_cases o : (999 : Int32) < nI tries
    · rw [if_pos o, b_X7_run_101]; exact ⟨rfl, rfl⟩
    · rw [if_neg o, b_X7_run_34, if_pos (show (999 : Int32) < nI more from nI_lt (a := 999) (by omega) (by omega)), b_X7_run_101]; exact ⟨rfl, rfl⟩
  | succ f ih =>
    intro more tries hh tf t1 t2 t3 t4
    by_cases o : 1000 ≤ more
    · refine ⟨hh, tf, ?_⟩
      have := hR.miss (fun j hj => t4 j (by omega) hj)
      subst this
      rw [b_X7_run_26]
      by_cases o : (999 : Int32) < nI tries
      · rw [if_pos o, b_X7_run_101]; exact ⟨rfl, rfl⟩
      · rw [if_neg o, b_X7_run_34, if_pos (show (999 : Int32) < nI more from nI_lt (a := 999) (by omega) (by omega)), b_X7_run_101]; exact ⟨rfl, rfl⟩
    · have rr := tf.sf.rn r
      have hT := rr.hT
      obtain ⟨h1, x1, f1, v1, gp⟩ := x_X6_suppose hT rr.ct hw (df := df) (my := my) (gr := g) (mo := more) rr.df64 rr.my64 (by omega) (Or.inl hg)
      rw [gn] at x1
      have r1 := f1.sf.rn rr
      have xp := x_possibleAs r1.1 v1
      have ol := onAN_lt (posM T df my g more n (S n))
      have b1 := nq_bit1 (a := onAN (posM T df my g more n (S n))) (k := k) (by omega) (by omega)
      have eq : Q more = (onAN (posM T df my g more n (S n))).testBit k := by rw [hQ]
      have head : ∀ (q : Option Value) (h' : mn_H), mn_E 84 26 [.ref 0, .int (nI g), .int (nI k), .int (nI more), .int (nI tries)] [] hh q h' ↔ (if ¬ ((nI (onAN (posM T df my g more n (S n))) >>> (nI k &&& 31)) &&& 1) = 1 then mn_E 84 85 [.ref 0, .int (nI g), .int (nI k), .int (nI more), .int (nI tries)] [] h1 q h' else mn_E 84 83 [.ref 0, .int (nI g), .int (nI k), .int (nI more), .int (nI tries)] [] h1 q h') := by
        intro q h'
        rw [b_X7_run_26, if_neg (show ¬ (999 : Int32) < nI tries from nI_nlt (a := 999) (by omega) (by decide)), b_X7_run_34, if_neg (show ¬ (999 : Int32) < nI more from nI_nlt (a := 999) (by omega) (by decide)), b_X7_run_41 hT, rr.cst.2.2.2.1, rr.cst.2.2.2.2.1, mn_cl_v x1, b_X7_run_68, mn_cl_l xp, b_X7_run_72, mn_cl_i (x_onAll (posM_lt _ _ _ _ _ _ _)), b_X7_run_75]
      cases o2 : Q more with
      | true =>
        have := hR.hit (by omega) o2 (fun j hj => t4 j hj (by omega))
        subst this
        refine ⟨h1, tf.tr f1, ?_⟩
        rw [head, if_neg (fun z => z (b1.mpr (by rw [← eq]; exact o2))), b_X7_run_83]
        exact ⟨rfl, rfl⟩
      | false =>
        have g1 := gp_pos (T := T) (df := df) (my := my) (mo := more) g6 (2 ^ T 0 0)
        have g2 := gpN_le T df my g more (2 ^ T 0 0)
        have gq : mn_X 58 [.ref 16] h1 (some (.int (nI (gpN T df my g more (2 ^ T 0 0))))) h1 := by
          rw [e_X6_gap, b_X6_gap_0, gp]; exact ⟨rfl, rfl⟩
        obtain ⟨h', fz, z⟩ := ih (more + gpN T df my g more (2 ^ T 0 0)) (tries + 1) h1 (tf.tr f1) (by omega) (by omega) (by omega) (fun j hj h1000 => by
          by_cases q : j < more
          · exact t4 j q h1000
          · obtain ⟨e, rfl⟩ : ∃ e, j = more + e := ⟨j - more, by omega⟩
            rw [hQ]
            show (onAN (posM T df my g (more + e) n (S n))).testBit k = false
            rw [pos_gap hw hg (by omega), ← eq]; exact o2)
        refine ⟨h', fz, ?_⟩
        rw [head, if_pos (fun z => by rw [← eq, o2] at b1; cases b1.mp z), b_X7_run_85, mn_cl_i gq, b_X7_run_93, nI_add, nI_1]
        exact z
theorem x_mrun (hm : MT h T) (hw : TWF T) {y0 g k : Nat} (hg : g < T 0 1) (hk : k < 6) (hn : n < 2 ^ 30) (hy : y0 < 64) (hdf : df < 64) (hmy : my < 64) {Q : Nat → Bool} (hQ : Q = fun mo => (onAN (posM T df my g mo n y0)).testBit k) {R : Int32} (hR : leastR Q R) : ∀ (f more : Nat) (hh : mn_H), mdF h hh → TRY hh df my g more none y0 n → more + f = 1000 → (∀ j, j < more → Q j = false) → ∃ h', mdF h h' ∧ mn_E 166 37 [.ref 63, .int (nI g), .int (nI k)] [] hh (some (.int R)) h' := by
  intro f
  induction f with
  | zero =>
    intro more hh tf t t2 t4
    refine ⟨hh, tf, ?_⟩
    have := hR.miss (fun j hj => t4 j (by omega))
    subst this
    rw [b_X8_run_37, t.2.2.2.1, if_pos (show (1000 : Int32) ≤ nI more from nI_le (a := 1000) (by omega) (by omega)), b_X8_run_82]
    exact ⟨rfl, rfl⟩
  | succ f ih =>
    intro more hh tf t t2 t4
    obtain ⟨h1, x1, g1, w1⟩ := x_X8_gathers (MT_row (tf.1 65 (by decide) (by decide) (by decide)) hm) hw t hdf hmy (by omega) hn hy
    have t1 := g1.try t
    have al := allN_on (posM T df my g more n y0)
    have ol := onAN_lt (posM T df my g more n y0)
    have b1 := nq_bit1 (a := onAN (posM T df my g more n y0)) (k := k) (by omega) (by omega)
    have eq : Q more = (onAN (posM T df my g more n y0)).testBit k := by rw [hQ]
    have head : ∀ (q : Option Value) (h' : mn_H), mn_E 166 37 [.ref 63, .int (nI g), .int (nI k)] [] hh q h' ↔ (if ¬ ((nI (onAN (posM T df my g more n y0)) >>> (nI k &&& 31)) &&& 1) = 1 then mn_E 166 69 [.ref 63, .int (nI g), .int (nI k)] [] h1 q h' else mn_E 166 64 [.ref 63, .int (nI g), .int (nI k)] [] h1 q h') := by
      intro q h'
      rw [b_X8_run_37, t.2.2.2.1, if_neg (show ¬ (1000 : Int32) ≤ nI more from nI_ge (b := 1000) (by omega) (by omega)), b_X8_run_47, mn_cl_v x1, b_X8_run_51, mn_cl_i (x_met1 w1), b_X8_run_56, al]
    cases o2 : Q more with
    | true =>
      have := hR.hit (by omega) o2 t4
      subst this
      refine ⟨h1, tf.gt g1, ?_⟩
      rw [head, if_neg (fun z => z (b1.mpr (by rw [← eq]; exact o2))), b_X8_run_64, t1.2.2.2.1]
      exact ⟨rfl, rfl⟩
    | false =>
      have t3 := t1.more (more + 1)
      obtain ⟨h', fz, z⟩ := ih (more + 1) (mn_up h1 63 16 (nI (more + 1))) ((tf.gt g1).up (by decide) _) t3 (by omega) (fun j hj => by
        by_cases q : j < more
        · exact t4 j q
        · rw [show j = more by omega]; exact o2)
      refine ⟨h', fz, ?_⟩
      rw [head, if_pos (fun z => by rw [← eq, o2] at b1; cases b1.mp z), b_X8_run_69, t1.2.2.2.1, nI_1]
      exact z
end RUN
theorem p_run (x y : Int32) : PAIR 84 166 [.int x, .int y] := by
  intro h i
  obtain ⟨T, S, n, df, my, sd, r, -⟩ := id i
  have h60 := r.n60
  have t6 := r.tw.1.2.1
  have xa := x_cGroup r x
  have ya := x_mGroup r.mt r.tw x
  rcases mn_rng x (T 0 1) (by omega) with ⟨g, hg, rfl⟩ | q
  · rw [in_true hg (by omega)] at xa ya
    rcases mn_rng y 6 (by decide) with ⟨k, hk, rfl⟩ | q2
    · obtain ⟨Q, hQ⟩ : ∃ Q : Nat → Bool, Q = fun mo => (onAN (posM T df my g mo n (S n))).testBit k := ⟨_, rfl⟩
      obtain ⟨R, hR⟩ := leastR_ex Q
      obtain ⟨h1, f1, x1⟩ := x_run r hg hk hQ hR 1000 0 0 h (trF.rf h) (by omega) (by omega) (by omega) (fun j hj => by omega)
      have r1 := f1.sf.rn r
      have yb := x_mGroup r1.mt r1.tw (nI g)
      rw [in_true hg (by omega)] at yb
      obtain ⟨h2, a, b, c⟩ := x_X8_trying r1.2.1 r1.n60
      have c2 := (c.grown (show g < 6 by omega)).more 0
      have b2 : mdF h1 (mn_up (mn_up h2 63 15 (nI g)) 63 16 (nI 0)) := (b.up (by decide) _).up (by decide) _
      obtain ⟨h3, f3, x3⟩ := x_mrun r1.mt r1.tw hg hk (show n < 2 ^ 30 by omega) (r1.s64 n (Nat.le_refl _)) r1.df64 r1.my64 hQ hR 1000 0 _ b2 c2 (by omega) (fun j hj => by omega)
      refine PAIR.q (r := R) i ?_ f1 ?_ f3
      · rw [e_X7_run, b_X7_run_0, mn_cl_i xa, b_X7_run_5, if_pos (by decide), b_X7_run_11, mn_cl_i (x_isHap_in hk), b_X7_run_15, if_pos (by decide), b_X7_run_21]
        exact x1
      · rw [e_X8_run, b_X8_run_0, mn_cl_i yb, b_X8_run_5, if_pos (by decide), b_X8_run_11, mn_cl_i (x_in5_in hk), b_X8_run_17, if_pos (by decide), b_X8_run_23, mn_cl_v a, b_X8_run_27]
        exact x3
    · refine PAIR.q (r := -1000000002) i ?_ (trF.rf h) ?_ (mdF.rf h)
      · rw [e_X7_run, b_X7_run_0, mn_cl_i xa, b_X7_run_5, if_pos (by decide), b_X7_run_11, mn_cl_i (x_isHap_out q2), b_X7_run_15, if_neg (by decide), b_X7_run_18]
        exact ⟨rfl, rfl⟩
      · rw [e_X8_run, b_X8_run_0, mn_cl_i ya, b_X8_run_5, if_pos (by decide), b_X8_run_11, mn_cl_i (x_in5_out q2), b_X8_run_17, if_neg (by decide), b_X8_run_20]
        exact ⟨rfl, rfl⟩
  · rw [in_false q] at xa ya
    refine PAIR.q (r := -1000000001) i ?_ (trF.rf h) ?_ (mdF.rf h)
    · rw [e_X7_run, b_X7_run_0, mn_cl_i xa, b_X7_run_5, if_neg (by decide), b_X7_run_8]
      exact ⟨rfl, rfl⟩
    · rw [e_X8_run, b_X8_run_0, mn_cl_i ya, b_X8_run_5, if_neg (by decide), b_X8_run_8]
      exact ⟨rfl, rfl⟩
