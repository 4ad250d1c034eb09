theorem mdF.gt {h h1 h2 : mn_H} (a : mdF h h1) (b : gtF h1 h2) : mdF h h2 := a.tr b.md
section RULE
variable {h : mn_H} {T : TW} {S : Nat → Nat} {n df my sd : Nat}
theorem x_rule (r : RN h T S n df my sd) {k : Nat} (hk : k ≤ 6) {y : Int32} {G : Nat → Int32} (hG : G = fun s => ghN T (posM T df s 9 0 n (S n)) 64) {w6 w7 : Value} : ∃ h', mn_E 82 32 [.ref 0, .int (nI k), .int y, .int (nI 0), .int (G 0), .int (nI 1), w6, w7] [] h (some (.int (if y = 0 then G (ruB G k (2 ^ T 0 1 - 1)) else nI (ruB G k (2 ^ T 0 1 - 1))))) h' ∧ trF h h' := by
  have p6 := mn_pw6 r.tw
  have p1 : 1 ≤ 2 ^ T 0 1 := Nat.one_le_two_pow
  obtain ⟨N, eN⟩ : ∃ N, N = 2 ^ T 0 1 - 1 := ⟨_, rfl⟩
  rw [← eN]
  have key := mn_linv (n := N) (E := fun i h r h' => ∀ w6 w7 : Value, mn_E 82 32 [.ref 0, .int (nI k), .int y, .int (nI (ruB G k i)), .int (G (ruB G k i)), .int (nI (i + 1)), w6, w7] [] h r h') (I := fun i hh => trF h hh) (P := fun r h' => r = some (.int (if y = 0 then G (ruB G k N) else nI (ruB G k N))) ∧ trF h h') ?_ ?_ 0 h (Nat.zero_le _) (trF.rf h)
  · obtain ⟨rr, h', a, rfl, b⟩ := key
    exact ⟨h', a _ _, b⟩
  · intro hh f
    have rr := f.sf.rn r
    have hT := rr.hT
    refine ⟨_, hh, fun w6 w7 => ?_, rfl, f⟩
    rw [b_X7_rule_32 hT, mn_cl_i (x_allGroups hT rr.ct rr.tw), b_X7_rule_41, ← eN, if_pos (nI_lt (by omega) (by omega)), b_X7_rule_104]
    by_cases o : y = 0
    · rw [if_neg (fun z => z o), b_X7_rule_108, b_X7_rule_114, if_pos o]
      exact ⟨rfl, rfl⟩
    · rw [if_pos o, b_X7_rule_113, b_X7_rule_114, if_neg o]
      exact ⟨rfl, rfl⟩
  · intro i hh hi f
    have rr := f.sf.rn r
    have hT := rr.hT
    have bl := ruB_le G k i
    have q1 := mn_pop_le (i + 1) 6
    have q2 := mn_pop_le (ruB G k i) 6
    have head : ∀ (w6 w7 : Value) (q : Option Value) (h' : mn_H), mn_E 82 32 [.ref 0, .int (nI k), .int y, .int (nI (ruB G k i)), .int (G (ruB G k i)), .int (nI (i + 1)), w6, w7] [] hh q h' ↔ (if nI (mn_pop (i + 1) 6) ≤ nI k then mn_E 82 60 [.ref 0, .int (nI k), .int y, .int (nI (ruB G k i)), .int (G (ruB G k i)), .int (nI (i + 1)), .int (nI (mn_pop (i + 1) 6)), w7] [] hh q h' else mn_E 82 57 [.ref 0, .int (nI k), .int y, .int (nI (ruB G k i)), .int (G (ruB G k i)), .int (nI (i + 1)), .int (nI (mn_pop (i + 1) 6)), w7] [] hh q h') := by
      intro w6 w7 q h'
      rw [b_X7_rule_32 hT, mn_cl_i (x_allGroups hT rr.ct rr.tw), b_X7_rule_41, ← eN, if_neg (nI_nlt (by omega) (by omega)), b_X7_rule_44, mn_cl_i (x_ibitCount (show i + 1 < 64 by omega)), b_X7_rule_49]
    by_cases o : mn_pop (i + 1) 6 ≤ k
    · obtain ⟨h1, x1, f1⟩ := x_greatestHarmIfMay rr.1 (s := i + 1) (by omega)
      have x1' : mn_X 106 [.ref 0, .int (nI (i + 1))] hh (some (.int (G (i + 1)))) h1 := by rw [hG]; exact x1
      refine ⟨h1, f.tr f1, fun q h' hE w6 w7 => ?_⟩
      rw [ruB] at hE
      rw [head, if_pos (nI_le o (by omega)), b_X7_rule_60, mn_cl_i x1', b_X7_rule_66]
      by_cases o1 : G (i + 1) < G (ruB G k i)
      · rw [if_pos ⟨o, Or.inl o1⟩] at hE
        rw [if_pos o1, b_X7_rule_91, b_X7_rule_98, nI_1]
        exact hE _ _
      · rw [if_neg o1, b_X7_rule_75]
        by_cases o2 : G (i + 1) = G (ruB G k i)
        · rw [if_neg (fun z => z o2), b_X7_rule_82, mn_cl_i (x_ibitCount (show ruB G k i < 64 by omega)), b_X7_rule_88]
          by_cases o3 : mn_pop (i + 1) 6 < mn_pop (ruB G k i) 6
          · rw [if_pos ⟨o, Or.inr ⟨o2, o3⟩⟩] at hE
            rw [if_neg (nI_ge o3 (by omega)), b_X7_rule_91, b_X7_rule_98, nI_1]
            exact hE _ _
          · rw [if_neg (fun z => z.2.elim o1 (fun z => o3 z.2))] at hE
            rw [if_pos (nI_le (by omega) (by omega)), b_X7_rule_98, nI_1]
            exact hE _ _
        · rw [if_neg (fun z => z.2.elim o1 (fun z => o2 z.1))] at hE
          rw [if_pos o2, b_X7_rule_98, nI_1]
          exact hE _ _
    · refine ⟨hh, f, fun q h' hE w6 w7 => ?_⟩
      rw [ruB, if_neg (fun z => o z.1)] at hE
      rw [head, if_neg (nI_ge (by omega) (by omega)), b_X7_rule_57, b_X7_rule_98, nI_1]
      exact hE _ _
/-- the model's inner loop -/
theorem x_mruleI (hm : MT h T) (hw : TWF T) {s0 y0 k : Nat} (hn : n < 2 ^ 30) (hy : y0 < 64) (hdf : df < 64) {y : Int32} {nn b0 : Nat} (hnn : nn ≤ 6) (hb0 : b0 < 64) {G : Nat → Int32} (hG : G = fun s => ghN T (posM T df s 9 0 n y0) 64) (ht : TRY h df s0 9 0 none y0 n) {w7 : Value} : ∃ h' w7' s1, mdF h h' ∧ TRY h' df s1 9 0 none y0 n ∧ ∀ q h'', mn_E 164 42 [.ref 63, .int (nI k), .int y, .int (G (muI G nn b0 (2 ^ T 0 1 - 1))), .int (nI (muI G nn b0 (2 ^ T 0 1 - 1))), .int (nI (nn + 1)), .int (nI (2 ^ T 0 1)), w7'] [] h' q h'' → mn_E 164 51 [.ref 63, .int (nI k), .int y, .int (G b0), .int (nI b0), .int (nI nn), .int (nI 1), w7] [] h q h'' := by
  have p6 := mn_pw6 hw
  have p1 : 1 ≤ 2 ^ T 0 1 := Nat.one_le_two_pow
  obtain ⟨N, eN⟩ : ∃ N, 2 ^ T 0 1 = N + 1 := ⟨2 ^ T 0 1 - 1, by omega⟩
  rw [eN, Nat.add_sub_cancel]
  have key : ∀ i, i ≤ N → ∃ h' w7' s1, mdF h h' ∧ TRY h' df s1 9 0 none y0 n ∧ ∀ q h'', mn_E 164 51 [.ref 63, .int (nI k), .int y, .int (G (muI G nn b0 i)), .int (nI (muI G nn b0 i)), .int (nI nn), .int (nI (i + 1)), w7'] [] h' q h'' → mn_E 164 51 [.ref 63, .int (nI k), .int y, .int (G b0), .int (nI b0), .int (nI nn), .int (nI 1), w7] [] h q h'' := by
    intro i
    induction i with
    | zero => intro _; exact ⟨h, w7, s0, mdF.rf h, ht, fun q h'' z => z⟩
    | succ i ih =>
      intro hi
      obtain ⟨hh, w, s1, f, t, E⟩ := ih (by omega)
      have m1 := MT_row (f.1 65 (by decide) (by decide) (by decide)) hm
      have xg := x_mGroups m1 hw (nI (i + 1))
      rw [eN, in_true (show i + 1 < N + 1 by omega) (by omega)] at xg
      have t2 := t.may (i + 1)
      have f2 : mdF h (mn_up hh 63 14 (nI (i + 1))) := f.up (by decide) _
      have q1 := mn_pop_le (i + 1) 6
      have head : ∀ (q : Option Value) (h' : mn_H), mn_E 164 51 [.ref 63, .int (nI k), .int y, .int (G (muI G nn b0 i)), .int (nI (muI G nn b0 i)), .int (nI nn), .int (nI (i + 1)), w] [] hh q h' ↔ (if ¬ nI (mn_pop (i + 1) 6) = nI nn then mn_E 164 83 [.ref 63, .int (nI k), .int y, .int (G (muI G nn b0 i)), .int (nI (muI G nn b0 i)), .int (nI nn), .int (nI (i + 1)), w] [] (mn_up hh 63 14 (nI (i + 1))) q h' else mn_E 164 76 [.ref 63, .int (nI k), .int y, .int (G (muI G nn b0 i)), .int (nI (muI G nn b0 i)), .int (nI nn), .int (nI (i + 1)), w] [] (mn_up hh 63 14 (nI (i + 1))) q h') := by
        intro q h'
        rw [b_X8_rule_51, mn_cl_i xg, b_X8_rule_57, if_neg (by decide), b_X8_rule_60, mn_cl_i (x_ones (show i + 1 < 64 by omega)), b_X8_rule_71]
      by_cases o : mn_pop (i + 1) 6 = nn
      · obtain ⟨h1, x1, f1⟩ := x_greatest (MT_row (f2.1 65 (by decide) (by decide) (by decide)) hm) hw t2 hdf (by omega) (by omega) hn hy
        have x1' : mn_X 163 [.ref 63] (mn_up hh 63 14 (nI (i + 1))) (some (.int (G (i + 1)))) h1 := by rw [hG]; exact x1
        refine ⟨h1, .int (G (i + 1)), i + 1, f2.gt f1, f1.try t2, fun q h'' z => E q h'' ?_⟩
        rw [muI] at z
        rw [head, if_neg (fun z => z (by rw [o])), b_X8_rule_76, mn_cl_i x1', b_X8_rule_80, b_X8_rule_84]
        by_cases o1 : G (i + 1) < G (muI G nn b0 i)
        · rw [if_pos ⟨o, o1⟩] at z
          rw [if_neg (Int32.not_le.mpr o1), b_X8_rule_92, b_X8_rule_99, if_neg (Int32.not_le.mpr o1), b_X8_rule_107, b_X8_rule_113, nI_1]
          exact z
        · rw [if_neg (fun z => o1 z.2)] at z
          have o1' : G (muI G nn b0 i) ≤ G (i + 1) := Int32.not_lt.mp o1
          rw [if_pos o1', b_X8_rule_97, b_X8_rule_99, if_pos o1', b_X8_rule_112, b_X8_rule_113, nI_1]
          exact z
      · refine ⟨mn_up hh 63 14 (nI (i + 1)), .int (G (muI G nn b0 i)), i + 1, f2, t2, fun q h'' z => E q h'' ?_⟩
        rw [muI, if_neg (fun z => o z.1)] at z
        rw [head, if_pos (fun e => o ((nI_eq (by omega) (by omega)).mp e)), b_X8_rule_83, b_X8_rule_84, if_pos (Int32.le_refl _), b_X8_rule_97, b_X8_rule_99, if_pos (Int32.le_refl _), b_X8_rule_112, b_X8_rule_113, nI_1]
        exact z
  obtain ⟨h', w7', s1, f, t, E⟩ := key N (Nat.le_refl _)
  refine ⟨h', w7', s1, f, t, fun q h'' z => E q h'' ?_⟩
  have xg := x_mGroups (MT_row (f.1 65 (by decide) (by decide) (by decide)) hm) hw (nI (N + 1))
  rw [eN, in_false (Or.inr (Int32.le_refl _))] at xg
  rw [b_X8_rule_51, mn_cl_i xg, b_X8_rule_57, if_pos mz_f, b_X8_rule_120, nI_1]
  exact z
theorem muO_lt (G : Nat → Int32) {N : Nat} (hN : N < 64) (j : Nat) : muO G N j < 64 := Nat.lt_of_le_of_lt (muO_lx G hN j).1.1 hN
theorem x_mrule (hm : MT h T) (hw : TWF T) {s0 y0 k : Nat} (hk : k ≤ 6) (hn : n < 2 ^ 30) (hy : y0 < 64) (hdf : df < 64) {y : Int32} {G : Nat → Int32} (hG : G = fun s => ghN T (posM T df s 9 0 n y0) 64) (ht : TRY h df s0 9 0 none y0 n) {w6 w7 : Value} : ∃ h', mdF h h' ∧ mn_E 164 42 [.ref 63, .int (nI k), .int y, .int (G 0), .int (nI 0), .int (nI 1), w6, w7] [] h (some (.int (if y = 0 then G (muO G (2 ^ T 0 1 - 1) k) else nI (muO G (2 ^ T 0 1 - 1) k)))) h' := by
  have p6 := mn_pw6 hw
  have p1 : 1 ≤ 2 ^ T 0 1 := Nat.one_le_two_pow
  have hN : 2 ^ T 0 1 - 1 < 64 := by omega
  have key : ∀ j, j ≤ k → ∃ h' w6' w7' s1, mdF h h' ∧ TRY h' df s1 9 0 none y0 n ∧ ∀ q h'', mn_E 164 42 [.ref 63, .int (nI k), .int y, .int (G (muO G (2 ^ T 0 1 - 1) j)), .int (nI (muO G (2 ^ T 0 1 - 1) j)), .int (nI (j + 1)), w6', w7'] [] h' q h'' → mn_E 164 42 [.ref 63, .int (nI k), .int y, .int (G 0), .int (nI 0), .int (nI 1), w6, w7] [] h q h'' := by
    intro j
    induction j with
    | zero => intro _; exact ⟨h, w6, w7, s0, mdF.rf h, ht, fun q h'' z => z⟩
    | succ j ih =>
      intro hj
      obtain ⟨hh, w6', w7', s1, f, t, E⟩ := ih (by omega)
      obtain ⟨h1, w, s2, f1, t1, E1⟩ := x_mruleI (k := k) (y := y) (nn := j + 1) (b0 := muO G (2 ^ T 0 1 - 1) j) (w7 := w7') (MT_row (f.1 65 (by decide) (by decide) (by decide)) hm) hw hn hy hdf (by omega) (muO_lt G hN j) hG t
      refine ⟨h1, .int (nI (2 ^ T 0 1)), w, s2, f.tr f1, t1, fun q h'' z => E q h'' ?_⟩
      rw [b_X8_rule_42, if_neg (nI_nlt (by omega) (by omega)), b_X8_rule_48]
      exact E1 q h'' z
  obtain ⟨h', w6', w7', s1, f, t, E⟩ := key k (Nat.le_refl _)
  refine ⟨h', f, E _ _ ?_⟩
  rw [b_X8_rule_42, if_pos (nI_lt (by omega) (by omega)), b_X8_rule_126]
  by_cases o : y = 0
  · rw [if_neg (fun z => z o), b_X8_rule_130, b_X8_rule_136, if_pos o]
    exact ⟨rfl, rfl⟩
  · rw [if_pos o, b_X8_rule_134, b_X8_rule_136, if_neg o]
    exact ⟨rfl, rfl⟩
end RULE
theorem p_rule (x y : Int32) : PAIR 82 164 [.int x, .int y] := by
  intro h i
  obtain ⟨T, S, n, df, my, sd, r, -⟩ := id i
  have h60 := r.n60
  have p6 := mn_pw6 r.tw
  have p1 : 1 ≤ 2 ^ T 0 1 := Nat.one_le_two_pow
  have xi := fun hh => x_in_n (h := hh) (n := 7) (m := 6) rfl (by decide) x
  rcases mn_rng x 7 (by decide) with ⟨k, hk, rfl⟩ | q
  · rw [in_true hk (by omega)] at xi
    have xi' : ∀ hh, mn_X 114 [.int (nI k), .int 0, .int 6] hh (some (.int 1)) hh := xi
    have n0 : ¬ nI k < 0 := nI_pos (by omega)
    have n6 : ¬ (6 : Int32) < nI k := nI_nlt (a := 6) (by omega) (by decide)
    have xc := x_isChoice (h := h) y
    by_cases o : (decide (y = 0) || decide (y = 1)) = true
    · rw [o] at xc
      obtain ⟨G, hG⟩ : ∃ G : Nat → Int32, G = fun s => ghN T (posM T df s 9 0 n (S n)) 64 := ⟨_, rfl⟩
      obtain ⟨h1, x1, f1⟩ := x_greatestHarmIfMay r.1 (s := 0) (by omega)
      have x1' : mn_X 106 [.ref 0, .int 0] h (some (.int (G 0))) h1 := by rw [hG]; exact x1
      have r1 := f1.sf.rn r
      obtain ⟨h2, x2, f2⟩ := x_rule r1 (k := k) (by omega) (y := y) hG (w6 := .null) (w7 := .null)
      have f12 := f1.tr f2
      have r2 := f12.sf.rn r
      have xm := x_choice (h := h2) y
      rw [o] at xm
      obtain ⟨h3, a, b, c⟩ := x_X8_trying r2.2.1 r2.n60
      have c3 := c.may 0
      have b3 : mdF h2 (mn_up h3 63 14 (nI 0)) := b.up (by decide) _
      have s64 := r.s64 n (Nat.le_refl _)
      obtain ⟨h4, x4, f4⟩ := x_greatest (MT_row (b3.1 65 (by decide) (by decide) (by decide)) r2.mt) r2.tw c3 r2.df64 (by omega) (by omega) (by omega) s64
      have x4' : mn_X 163 [.ref 63] (mn_up h3 63 14 0) (some (.int (G 0))) h4 := by rw [hG]; exact x4
      have b4 := b3.gt f4
      obtain ⟨h5, f5, x5⟩ := x_mrule (k := k) (y := y) (w6 := .null) (w7 := .null) (MT_row (b4.1 65 (by decide) (by decide) (by decide)) r2.mt) r2.tw (by omega) (show n < 2 ^ 30 by omega) s64 r2.df64 hG (f4.try c3)
      rw [ru_mu G (show 2 ^ T 0 1 - 1 < 64 by omega)] at x5
      refine PAIR.q (r := if y = 0 then G (ruB G k (2 ^ T 0 1 - 1)) else nI (ruB G k (2 ^ T 0 1 - 1))) i ?_ f12 ?_ (b4.tr f5)
      · rw [e_X7_rule, b_X7_rule_0, if_neg n0, b_X7_rule_4, if_neg n6, b_X7_rule_10, mn_cl_i xc, b_X7_rule_14, if_pos (by decide), b_X7_rule_20, mn_cl_i x1', b_X7_rule_27]
        exact x2
      · rw [e_X8_rule, b_X8_rule_0, mn_cl_i (xi' h2), b_X8_rule_7, if_neg (by decide), b_X8_rule_10, mn_cl_i xm, b_X8_rule_16, if_pos (by decide), b_X8_rule_22, mn_cl_v a, b_X8_rule_26, mn_cl_i x4', b_X8_rule_35]
        exact x5
    · have o := Bool.eq_false_iff.mpr o
      rw [o] at xc
      have xm := x_choice (h := h) y
      rw [o] at xm
      refine PAIR.q (r := -1000000002) i ?_ (trF.rf h) ?_ (mdF.rf h)
      · rw [e_X7_rule, b_X7_rule_0, if_neg n0, b_X7_rule_4, if_neg n6, b_X7_rule_10, mn_cl_i xc, b_X7_rule_14, if_neg (by decide), b_X7_rule_17]
        exact ⟨rfl, rfl⟩
      · rw [e_X8_rule, b_X8_rule_0, mn_cl_i (xi' h), b_X8_rule_7, if_neg (by decide), b_X8_rule_10, mn_cl_i xm, b_X8_rule_16, if_neg (by decide), b_X8_rule_19]
        exact ⟨rfl, rfl⟩
  · rw [in_false q] at xi
    have xi' : ∀ hh, mn_X 114 [.int x, .int 0, .int 6] hh (some (.int 0)) hh := xi
    refine PAIR.q (r := -1000000002) i ?_ (trF.rf h) ?_ (mdF.rf h)
    · rw [e_X7_rule, b_X7_rule_0]
      by_cases n0 : x < 0
      · rw [if_pos n0, b_X7_rule_17]; exact ⟨rfl, rfl⟩
      · have n6 : (6 : Int32) < x := (lt_of (m := 6) (show 6 < 7 by decide) (by decide) q).resolve_left n0
        rw [if_neg n0, b_X7_rule_4, if_pos n6, b_X7_rule_17]; exact ⟨rfl, rfl⟩
    · rw [e_X8_rule, b_X8_rule_0, mn_cl_i (xi' h), b_X8_rule_7, if_pos rfl, b_X8_rule_19]
      exact ⟨rfl, rfl⟩
