theorem feS {x : Nat × Nat} {r : List (Nat × Nat)} (e : x.1 = 0) : fe (x :: r) = fe r := by rw [fe, if_pos e]
theorem feN {x : Nat × Nat} {r : List (Nat × Nat)} (e : x.1 ≠ 0) : fe (x :: r) = x := by rw [fe, if_neg e]
theorem SK_self {C : Nat → Nat} {len i j : Nat} (s : SK C len i j) : SK C len j j := ⟨Nat.le_refl _, s.2.1, fun k h1 h2 => by omega, s.2.2.2⟩
section MCL
variable {h hh : mn_H} {len i : Nat} {C : Nat → Nat} {w : Nat} {T : TW} {td : Nat}
theorem x_ly {i0 j lo hb p : Nat} {a b c : Int32} (ea : a = nI p) (eb : b = nI lo) (ec : c = nI hb - 1) (m : MC h len C i) (s : SK C len i i0) (d : DG C len i0 j) (hlo : lo < 2 ^ 30) (hhb : hb ≤ 1000) (hp : p < 96) : ∃ h', mn_X 123 [.ref 63, .int a, .int b, .int c] h (some (.int (mz (decide (numE C lo hb i0 j = 0))))) h' ∧ pF h h' ∧ (∀ k, k ≠ p → h' 66 k = h 66 k) ∧ (numE C lo hb i0 j = 0 → MC h' len C j ∧ h' 66 p = nI (dvN C i0 (min (j - i0) 3))) ∧ (¬ numE C lo hb i0 j = 0 → MC h' len C i0 ∧ h' 63 11 = nI (numE C lo hb i0 j)) := by
  subst ea; subst eb; subst ec
  exact x_lays m s d hlo hhb hp
theorem x_nb {i0 j lo hb : Nat} {b c : Int32} (eb : b = nI lo) (ec : c = nI hb - 1) (m : MC h len C i) (s : SK C len i i0) (d : DG C len i0 j) (hlo : lo < 2 ^ 30) (hhb : hb ≤ 1000) : ∃ h', mn_X 122 [.ref 63, .int b, .int c] h (some (.int (mz (decide (numE C lo hb i0 j = 0))))) h' ∧ nF h h' ∧ (numE C lo hb i0 j = 0 → MC h' len C j ∧ h' 63 12 = nI (dvN C i0 (min (j - i0) 3))) ∧ (¬ numE C lo hb i0 j = 0 → MC h' len C i0 ∧ h' 63 11 = nI (numE C lo hb i0 j)) := by
  subst eb; subst ec
  exact x_number m s d hlo hhb
theorem rmE_n {n mx : Nat} (e : rmE n mx ≠ 0) : mx ≤ n ∧ rmE n mx = 3 := by
  unfold rmE at e ⊢
  by_cases o : mx ≤ n
  · rw [if_pos o]; exact ⟨o, rfl⟩
  · rw [if_neg o] at e; exact absurd rfl e
theorem kdE_n {len : Nat} {C : Nat → Nat} {i : Nat} (e : ¬ kdE len C i = 0) : kdE len C i = 1 := by
  unfold kdE at e ⊢
  by_cases o : i < len ∧ kdN (C i) < 5
  · rw [if_pos o] at e; exact absurd rfl e
  · rw [if_neg o]
theorem m_bell {i1 i2 j2 i3 j3 : Nat} (s1 : SK C len (w + 1) i1) (s2 : SK C len (if kdE len C i1 = 0 then i1 + 1 else i1) i2) (d2 : DG C len i2 j2) (s3 : SK C len j2 i3) (d3 : DG C len i3 j3) (hw : w < len) (w2 : TW2 T) (m : MC h len C w) (gm : GM (h 66) T) (e95 : h 66 95 = nI td) : ∃ h', mn_X 126 [.ref 63] h (some (.int (mz (decide ((fe [(rmE (T 0 0) 5, w), (kdE len C i1, i1), (numE C 0 6 i2 j2, i2), (numE C 0 6 i3 j3, i3)]).1 = 0))))) h' ∧ pF h h' ∧ ((fe [(rmE (T 0 0) 5, w), (kdE len C i1, i1), (numE C 0 6 i2 j2, i2), (numE C 0 6 i3 j3, i3)]).1 ≠ 0 → h' 63 11 = nI (fe [(rmE (T 0 0) 5, w), (kdE len C i1, i1), (numE C 0 6 i2 j2, i2), (numE C 0 6 i3 j3, i3)]).1 ∧ h' 63 10 = nI (fe [(rmE (T 0 0) 5, w), (kdE len C i1, i1), (numE C 0 6 i2 j2, i2), (numE C 0 6 i3 j3, i3)]).2) ∧ ((fe [(rmE (T 0 0) 5, w), (kdE len C i1, i1), (numE C 0 6 i2 j2, i2), (numE C 0 6 i3 j3, i3)]).1 = 0 → MC h' len C j3 ∧ GM (h' 66) (twA T 0 (fun a => if a = 1 then kdN (C i1) else if a = 2 then dvN C i2 (min (j2 - i2) 3) else dvN C i3 (min (j3 - i3) 3))) ∧ h' 66 95 = nI td) := by
  have t0 : T 0 0 ≤ 5 := w2.1 0 (by decide)
  have t00 : T 0 0 ≤ 5 := w2.1 0 (by decide)
  have l250 := m.1.1
  have ec : h 66 0 = nI (T 0 0) := gm.1 0 (by decide)
  have xr := x_isRoom m hw (c := 0) (mx := 5) (n := T 0 0) (by decide) ec (by decide) (by omega)
  by_cases z0 : rmE (T 0 0) 5 = 0
  · have lt := rmE_0 z0
    rw [feS z0]
    obtain ⟨xa, ma⟩ := xr.1 lt
    obtain ⟨n, en⟩ : ∃ n, n = T 0 0 := ⟨_, rfl⟩
    rw [← en] at lt ec
    have ep : (5 : Int32) + 3 * nI n = nI (5 + 3 * n) := na_mul 5 3 n
    obtain ⟨h1, eh1⟩ : ∃ h1, h1 = mn_up h 63 10 (nI (w + 1)) := ⟨_, rfl⟩
    rw [← eh1] at xa ma
    have f1 : pF h h1 := by rw [eh1]; exact (pF.rf h).up (Or.inl rfl)
    have e66 : h1 66 = h 66 := by rw [eh1, mn_up_row _ _ _ _ (by decide)]
    have hd1 : mn_X 125 [.ref 63, .int 0, .int 5] h (some (.int 1)) h1 := xa
    have rw1 : ∀ k, h1 66 k = h 66 k := fun k => by rw [e66]
    obtain ⟨h2, x2, f2, m2, -, -⟩ := x_blanks ma s1
    obtain ⟨y, ey⟩ : ∃ y, y = (if kdE len C i1 = 0 then nI (kdN (C i1)) else -1) := ⟨_, rfl⟩
    have xk := x_kindOf (hh := h2) (k := i1) m2.1
    rw [← ey] at xk
    obtain ⟨h3, eh3⟩ : ∃ h3, h3 = mn_up h2 66 (5 + 3 * n) y := ⟨_, rfl⟩
    have f3 : pF h h3 := by rw [eh3]; exact (f1.tr f2.pf).up66
    have m3 : MC h3 len C i1 := by rw [eh3]; exact m2.r66
    have r3 : ∀ k, h3 66 k = if k = 5 + 3 * n then y else h 66 k := fun k => by rw [eh3, mn_up_get, f2.1 66 (by decide), rw1]; simp
    have v1 : vp_in (nI (5 + 3 * n)) 96 := vp_in_nI (by omega) (by decide)
    have c1 : (nI (5 + 3 * n)).toNatClampNeg = 5 + 3 * n := nI_clamp (by omega)
    have hd : ∀ q h'', mn_X 126 [.ref 63] h q h'' ↔ (if ¬ y = (-1) then mn_E 126 60 [.ref 63, .int (nI (5 + 3 * n))] [] h3 q h'' else mn_E 126 53 [.ref 63, .int (nI (5 + 3 * n))] [] h3 q h'') := by
      intro q h''
      rw [e_X8_readsBell, b_X8_readsBell_0, mn_cl_i hd1, b_X8_readsBell_6, if_pos (by decide), b_X8_readsBell_11, nl0, rw1, ec, ep, mn_cl_v x2, b_X8_readsBell_26, m2.2.2.1, mn_cl_i (x_letterAt m2), b_X8_readsBell_39, mn_cl_i xk, b_X8_readsBell_42 v1 v1, c1, ← eh3, r3, if_pos rfl]
    by_cases z1 : kdE len C i1 = 0
    · obtain ⟨il, k5⟩ := kdE_0 z1
      rw [feS z1]
      rw [if_pos z1] at ey s2
      obtain ⟨h4, eh4⟩ : ∃ h4, h4 = mn_up h3 63 10 (nI (i1 + 1)) := ⟨_, rfl⟩
      have f4 : pF h h4 := by rw [eh4]; exact f3.up (Or.inl rfl)
      have m4 : MC h4 len C (i1 + 1) := by rw [eh4]; exact m3.at (by omega)
      have r4 : ∀ k, h4 66 k = if k = 5 + 3 * n then y else h 66 k := fun k => by rw [eh4, mn_up_row _ _ _ _ (by decide)]; exact r3 k
      have nm : ¬ y = -1 := by rw [ey]; exact nI_nm1 (by omega)
      obtain ⟨g2, xg2, fg2, ug2, okg2, nog2⟩ := x_ly (lo := 0) (hb := 6) (p := 5 + 3 * n + 1) (a := nI (5 + 3 * n) + 1) (b := 0) (c := 5) (show nI (5 + 3 * n) + 1 = nI (5 + 3 * n + 1) from nI_add _ 1) (by rfl) (by first | rfl | decide) m4 s2 d2 (by decide) (by omega) (by omega)
      by_cases z2 : numE C 0 6 i2 j2 = 0
      · obtain ⟨mg2, vg2⟩ := okg2 z2
        rw [feS z2]
        rw [decide_eq_true z2] at xg2
        have Fg2 := f4.tr fg2
        obtain ⟨g3, xg3, fg3, ug3, okg3, nog3⟩ := x_ly (lo := 0) (hb := 6) (p := 5 + 3 * n + 2) (a := nI (5 + 3 * n) + 2) (b := 0) (c := 5) (show nI (5 + 3 * n) + 2 = nI (5 + 3 * n + 2) from nI_add _ 2) (by rfl) (by first | rfl | decide) mg2 s3 d3 (by decide) (by omega) (by omega)
        by_cases z3 : numE C 0 6 i3 j3 = 0
        · obtain ⟨mg3, vg3⟩ := okg3 z3
          rw [feS z3]
          rw [decide_eq_true z3] at xg3
          have Fg3 := Fg2.tr fg3
          have nf : (fe []).1 = 0 := rfl
          have ecc : g3 66 0 = nI n := by rw [ug3 _ (by omega), ug2 _ (by omega), r4, if_neg (by omega)]; exact ec
          refine ⟨mn_up g3 66 0 (nI (n + 1)), ?_, Fg3.up66, fun z => absurd nf z, fun _ => ⟨mg3.r66, ?_, ?_⟩⟩
          · rw [hd, if_pos nm, b_X8_readsBell_60, m3.2.2.1, nI_1 i1, ← eh4, mn_cl_i xg2, b_X8_readsBell_79, if_neg (by decide), b_X8_readsBell_82, mn_cl_i xg3, b_X8_readsBell_91, if_pos (by decide), b_X8_readsBell_96, nl0, ecc, nI_1]; exact ⟨rfl, rfl⟩
          · refine gm.add w2 (c := 0) (by decide) en.symm lt ?_ (fun a h1 h2 h3 => ?_) (fun j j1 j2 => ?_)
            · rw [mn_up_get, if_pos ⟨rfl, rfl⟩]
            · have ha : a = 1 ∨ a = 2 ∨ a = 3 := (by decide : ∀ a, a < 17 → 1 ≤ a → twg a = 0 → a = 1 ∨ a = 2 ∨ a = 3) a (by omega) h1 h3
              rcases ha with rfl | rfl | rfl
              · show mn_up g3 66 0 _ 66 (5 + 3 * n) = _
                rw [mn_up_get, if_neg (by omega), ug3 _ (by omega), ug2 _ (by omega), r4, if_pos rfl, ey]; rfl
              · show mn_up g3 66 0 _ 66 (5 + 3 * n + 1) = _
                rw [mn_up_get, if_neg (by omega), ug3 _ (by omega), vg2]; rfl
              · show mn_up g3 66 0 _ 66 (5 + 3 * n + 2) = _
                rw [mn_up_get, if_neg (by omega), vg3]; rfl
            · have q1 : j ≠ 5 + 3 * n := j2 1 (by decide) (by decide) rfl
              have q2 : j ≠ 5 + 3 * n + 1 := j2 2 (by decide) (by decide) rfl
              have q3 : j ≠ 5 + 3 * n + 2 := j2 3 (by decide) (by decide) rfl
              rw [mn_up_get, if_neg (fun z => j1 z.2), ug3 _ q3, ug2 _ q2, r4, if_neg q1]
          · rw [mn_up_get, if_neg (by omega), ug3 _ (by omega), ug2 _ (by omega), r4, if_neg (by omega)]; exact e95
        · obtain ⟨mg3, vg3⟩ := nog3 z3
          rw [feN z3]
          rw [decide_eq_false z3] at xg3
          refine ⟨g3, ?_, Fg2.tr fg3, fun _ => ⟨vg3, mg3.2.2.1⟩, fun z => absurd z z3⟩
          rw [hd, if_pos nm, b_X8_readsBell_60, m3.2.2.1, nI_1 i1, ← eh4, mn_cl_i xg2, b_X8_readsBell_79, if_neg (by decide), b_X8_readsBell_82, mn_cl_i xg3, b_X8_readsBell_91, if_neg (by decide), b_X8_readsBell_94, decide_eq_false z3]; exact ⟨rfl, rfl⟩
      · obtain ⟨mg2, vg2⟩ := nog2 z2
        rw [feN z2]
        rw [decide_eq_false z2] at xg2
        refine ⟨g2, ?_, f4.tr fg2, fun _ => ⟨vg2, mg2.2.2.1⟩, fun z => absurd z z2⟩
        rw [hd, if_pos nm, b_X8_readsBell_60, m3.2.2.1, nI_1 i1, ← eh4, mn_cl_i xg2, b_X8_readsBell_79, if_pos mz_f, b_X8_readsBell_94, decide_eq_false z2]; exact ⟨rfl, rfl⟩
    · have e1 : kdE len C i1 = 1 := kdE_n z1
      rw [feN z1]
      rw [if_neg z1] at ey
      refine ⟨mn_up h3 63 11 1, ?_, f3.up (Or.inr (Or.inl rfl)), fun _ => ⟨by rw [mn_up_get, if_pos ⟨rfl, rfl⟩, e1]; rfl, by rw [mn_up_get, if_neg (by decide)]; exact m3.2.2.1⟩, fun z => absurd z z1⟩
      rw [hd, if_neg (fun z => z ey), b_X8_readsBell_53, decide_eq_false z1]; exact ⟨rfl, rfl⟩
  · obtain ⟨le, e3⟩ := rmE_n z0
    rw [feN z0]
    obtain ⟨xa, ma⟩ := xr.2 le
    refine ⟨_, ?_, (pF.rf h).up (Or.inr (Or.inl rfl)), fun _ => ⟨by rw [mn_up_get, if_pos ⟨rfl, rfl⟩, e3]; rfl, ma.2.2.1⟩, fun z => absurd z z0⟩
    rw [e_X8_readsBell, b_X8_readsBell_0]
    rw [mn_cl_i (show mn_X 125 [.ref 63, .int 0, .int 5] h (some (.int 0)) _ from xa), b_X8_readsBell_6, if_neg (by decide), b_X8_readsBell_9, decide_eq_false z0]; exact ⟨rfl, rfl⟩
theorem m_group {i1 j1 i2 j2 i3 j3 i4 j4 : Nat} (s1 : SK C len (w + 1) i1) (d1 : DG C len i1 j1) (s2 : SK C len j1 i2) (d2 : DG C len i2 j2) (s3 : SK C len j2 i3) (d3 : DG C len i3 j3) (s4 : SK C len j3 i4) (d4 : DG C len i4 j4) (hw : w < len) (w2 : TW2 T) (m : MC h len C w) (gm : GM (h 66) T) (e95 : h 66 95 = nI td) : ∃ h', mn_X 127 [.ref 63] h (some (.int (mz (decide ((fe [(rmE (T 0 1) 6, w), (numE C 1 100 i1 j1, i1), (numE C 0 (T 0 0) i2 j2, i2), (numE C 0 7 i3 j3, i3), (numE C 0 7 i4 j4, i4)]).1 = 0))))) h' ∧ pF h h' ∧ ((fe [(rmE (T 0 1) 6, w), (numE C 1 100 i1 j1, i1), (numE C 0 (T 0 0) i2 j2, i2), (numE C 0 7 i3 j3, i3), (numE C 0 7 i4 j4, i4)]).1 ≠ 0 → h' 63 11 = nI (fe [(rmE (T 0 1) 6, w), (numE C 1 100 i1 j1, i1), (numE C 0 (T 0 0) i2 j2, i2), (numE C 0 7 i3 j3, i3), (numE C 0 7 i4 j4, i4)]).1 ∧ h' 63 10 = nI (fe [(rmE (T 0 1) 6, w), (numE C 1 100 i1 j1, i1), (numE C 0 (T 0 0) i2 j2, i2), (numE C 0 7 i3 j3, i3), (numE C 0 7 i4 j4, i4)]).2) ∧ ((fe [(rmE (T 0 1) 6, w), (numE C 1 100 i1 j1, i1), (numE C 0 (T 0 0) i2 j2, i2), (numE C 0 7 i3 j3, i3), (numE C 0 7 i4 j4, i4)]).1 = 0 → MC h' len C j4 ∧ GM (h' 66) (twA T 1 (fun a => if a = 4 then dvN C i1 (min (j1 - i1) 3) else if a = 5 then dvN C i2 (min (j2 - i2) 3) else if a = 6 then dvN C i3 (min (j3 - i3) 3) else dvN C i4 (min (j4 - i4) 3))) ∧ h' 66 95 = nI td) := by
  have t0 : T 0 1 ≤ 6 := w2.1 1 (by decide)
  have t00 : T 0 0 ≤ 5 := w2.1 0 (by decide)
  have l250 := m.1.1
  have ec : h 66 1 = nI (T 0 1) := gm.1 1 (by decide)
  have xr := x_isRoom m hw (c := 1) (mx := 6) (n := T 0 1) (by decide) ec (by decide) (by omega)
  by_cases z0 : rmE (T 0 1) 6 = 0
  · have lt := rmE_0 z0
    rw [feS z0]
    obtain ⟨xa, ma⟩ := xr.1 lt
    obtain ⟨n, en⟩ : ∃ n, n = T 0 1 := ⟨_, rfl⟩
    rw [← en] at lt ec
    have ep : (20 : Int32) + 4 * nI n = nI (20 + 4 * n) := na_mul 20 4 n
    obtain ⟨h1, eh1⟩ : ∃ h1, h1 = mn_up h 63 10 (nI (w + 1)) := ⟨_, rfl⟩
    rw [← eh1] at xa ma
    have f1 : pF h h1 := by rw [eh1]; exact (pF.rf h).up (Or.inl rfl)
    have e66 : h1 66 = h 66 := by rw [eh1, mn_up_row _ _ _ _ (by decide)]
    have hd1 : mn_X 125 [.ref 63, .int 1, .int 6] h (some (.int 1)) h1 := xa
    have rw1 : ∀ k, h1 66 k = h 66 k := fun k => by rw [e66]
    obtain ⟨g1, xg1, fg1, ug1, okg1, nog1⟩ := x_ly (lo := 1) (hb := 100) (p := 20 + 4 * n) (a := nI (20 + 4 * n)) (b := 1) (c := 99) (by rfl) (by rfl) (by first | rfl | decide) ma s1 d1 (by decide) (by omega) (by omega)
    by_cases z1 : numE C 1 100 i1 j1 = 0
    · obtain ⟨mg1, vg1⟩ := okg1 z1
      rw [feS z1]
      rw [decide_eq_true z1] at xg1
      have Fg1 := f1.tr fg1
      have e0g2 : g1 66 0 = nI (T 0 0) := by rw [ug1 0 (by omega), rw1]; exact gm.1 0 (by decide)
      obtain ⟨g2, xg2, fg2, ug2, okg2, nog2⟩ := x_ly (lo := 0) (hb := (T 0 0)) (p := 20 + 4 * n + 1) (a := nI (20 + 4 * n) + 1) (b := 0) (c := (nI (T 0 0) - 1)) (show nI (20 + 4 * n) + 1 = nI (20 + 4 * n + 1) from nI_add _ 1) (by rfl) (by first | rfl | decide) mg1 s2 d2 (by decide) (by omega) (by omega)
      by_cases z2 : numE C 0 (T 0 0) i2 j2 = 0
      · obtain ⟨mg2, vg2⟩ := okg2 z2
        rw [feS z2]
        rw [decide_eq_true z2] at xg2
        have Fg2 := Fg1.tr fg2
        obtain ⟨g3, xg3, fg3, ug3, okg3, nog3⟩ := x_ly (lo := 0) (hb := 7) (p := 20 + 4 * n + 2) (a := nI (20 + 4 * n) + 2) (b := 0) (c := 6) (show nI (20 + 4 * n) + 2 = nI (20 + 4 * n + 2) from nI_add _ 2) (by rfl) (by first | rfl | decide) mg2 s3 d3 (by decide) (by omega) (by omega)
        by_cases z3 : numE C 0 7 i3 j3 = 0
        · obtain ⟨mg3, vg3⟩ := okg3 z3
          rw [feS z3]
          rw [decide_eq_true z3] at xg3
          have Fg3 := Fg2.tr fg3
          obtain ⟨g4, xg4, fg4, ug4, okg4, nog4⟩ := x_ly (lo := 0) (hb := 7) (p := 20 + 4 * n + 3) (a := nI (20 + 4 * n) + 3) (b := 0) (c := 6) (show nI (20 + 4 * n) + 3 = nI (20 + 4 * n + 3) from nI_add _ 3) (by rfl) (by first | rfl | decide) mg3 s4 d4 (by decide) (by omega) (by omega)
          by_cases z4 : numE C 0 7 i4 j4 = 0
          · obtain ⟨mg4, vg4⟩ := okg4 z4
            rw [feS z4]
            rw [decide_eq_true z4] at xg4
            have Fg4 := Fg3.tr fg4
            have nf : (fe []).1 = 0 := rfl
            have ecc : g4 66 1 = nI n := by rw [ug4 _ (by omega), ug3 _ (by omega), ug2 _ (by omega), ug1 _ (by omega), rw1]; exact ec
            refine ⟨mn_up g4 66 1 (nI (n + 1)), ?_, Fg4.up66, fun z => absurd nf z, fun _ => ⟨mg4.r66, ?_, ?_⟩⟩
            · rw [e_X8_readsGroup, b_X8_readsGroup_0, mn_cl_i hd1, b_X8_readsGroup_7, if_pos (by decide), b_X8_readsGroup_12, nl1, rw1, ec, ep, mn_cl_i xg1, b_X8_readsGroup_32, if_neg (by decide), b_X8_readsGroup_35, nl0, e0g2, mn_cl_i xg2, b_X8_readsGroup_51, if_neg (by decide), b_X8_readsGroup_54, mn_cl_i xg3, b_X8_readsGroup_64, if_neg (by decide), b_X8_readsGroup_67, mn_cl_i xg4, b_X8_readsGroup_77, if_pos (by decide), b_X8_readsGroup_82, nl1, ecc, nI_1]; exact ⟨rfl, rfl⟩
            · refine gm.add w2 (c := 1) (by decide) en.symm lt ?_ (fun a h1 h2 h3 => ?_) (fun j j1 j2 => ?_)
              · rw [mn_up_get, if_pos ⟨rfl, rfl⟩]
              · have ha : a = 4 ∨ a = 5 ∨ a = 6 ∨ a = 7 := (by decide : ∀ a, a < 17 → 1 ≤ a → twg a = 1 → a = 4 ∨ a = 5 ∨ a = 6 ∨ a = 7) a (by omega) h1 h3
                rcases ha with rfl | rfl | rfl | rfl
                · show mn_up g4 66 1 _ 66 (20 + 4 * n) = _
                  rw [mn_up_get, if_neg (by omega), ug4 _ (by omega), ug3 _ (by omega), ug2 _ (by omega), vg1]; rfl
                · show mn_up g4 66 1 _ 66 (20 + 4 * n + 1) = _
                  rw [mn_up_get, if_neg (by omega), ug4 _ (by omega), ug3 _ (by omega), vg2]; rfl
                · show mn_up g4 66 1 _ 66 (20 + 4 * n + 2) = _
                  rw [mn_up_get, if_neg (by omega), ug4 _ (by omega), vg3]; rfl
                · show mn_up g4 66 1 _ 66 (20 + 4 * n + 3) = _
                  rw [mn_up_get, if_neg (by omega), vg4]; rfl
              · have q1 : j ≠ 20 + 4 * n := j2 4 (by decide) (by decide) rfl
                have q2 : j ≠ 20 + 4 * n + 1 := j2 5 (by decide) (by decide) rfl
                have q3 : j ≠ 20 + 4 * n + 2 := j2 6 (by decide) (by decide) rfl
                have q4 : j ≠ 20 + 4 * n + 3 := j2 7 (by decide) (by decide) rfl
                rw [mn_up_get, if_neg (fun z => j1 z.2), ug4 _ q4, ug3 _ q3, ug2 _ q2, ug1 _ q1, rw1]
            · rw [mn_up_get, if_neg (by omega), ug4 _ (by omega), ug3 _ (by omega), ug2 _ (by omega), ug1 _ (by omega), rw1]; exact e95
          · obtain ⟨mg4, vg4⟩ := nog4 z4
            rw [feN z4]
            rw [decide_eq_false z4] at xg4
            refine ⟨g4, ?_, Fg3.tr fg4, fun _ => ⟨vg4, mg4.2.2.1⟩, fun z => absurd z z4⟩
            rw [e_X8_readsGroup, b_X8_readsGroup_0, mn_cl_i hd1, b_X8_readsGroup_7, if_pos (by decide), b_X8_readsGroup_12, nl1, rw1, ec, ep, mn_cl_i xg1, b_X8_readsGroup_32, if_neg (by decide), b_X8_readsGroup_35, nl0, e0g2, mn_cl_i xg2, b_X8_readsGroup_51, if_neg (by decide), b_X8_readsGroup_54, mn_cl_i xg3, b_X8_readsGroup_64, if_neg (by decide), b_X8_readsGroup_67, mn_cl_i xg4, b_X8_readsGroup_77, if_neg (by decide), b_X8_readsGroup_80, decide_eq_false z4]; exact ⟨rfl, rfl⟩
        · obtain ⟨mg3, vg3⟩ := nog3 z3
          rw [feN z3]
          rw [decide_eq_false z3] at xg3
          refine ⟨g3, ?_, Fg2.tr fg3, fun _ => ⟨vg3, mg3.2.2.1⟩, fun z => absurd z z3⟩
          rw [e_X8_readsGroup, b_X8_readsGroup_0, mn_cl_i hd1, b_X8_readsGroup_7, if_pos (by decide), b_X8_readsGroup_12, nl1, rw1, ec, ep, mn_cl_i xg1, b_X8_readsGroup_32, if_neg (by decide), b_X8_readsGroup_35, nl0, e0g2, mn_cl_i xg2, b_X8_readsGroup_51, if_neg (by decide), b_X8_readsGroup_54, mn_cl_i xg3, b_X8_readsGroup_64, if_pos mz_f, b_X8_readsGroup_80, decide_eq_false z3]; exact ⟨rfl, rfl⟩
      · obtain ⟨mg2, vg2⟩ := nog2 z2
        rw [feN z2]
        rw [decide_eq_false z2] at xg2
        refine ⟨g2, ?_, Fg1.tr fg2, fun _ => ⟨vg2, mg2.2.2.1⟩, fun z => absurd z z2⟩
        rw [e_X8_readsGroup, b_X8_readsGroup_0, mn_cl_i hd1, b_X8_readsGroup_7, if_pos (by decide), b_X8_readsGroup_12, nl1, rw1, ec, ep, mn_cl_i xg1, b_X8_readsGroup_32, if_neg (by decide), b_X8_readsGroup_35, nl0, e0g2, mn_cl_i xg2, b_X8_readsGroup_51, if_pos mz_f, b_X8_readsGroup_80, decide_eq_false z2]; exact ⟨rfl, rfl⟩
    · obtain ⟨mg1, vg1⟩ := nog1 z1
      rw [feN z1]
      rw [decide_eq_false z1] at xg1
      refine ⟨g1, ?_, f1.tr fg1, fun _ => ⟨vg1, mg1.2.2.1⟩, fun z => absurd z z1⟩
      rw [e_X8_readsGroup, b_X8_readsGroup_0, mn_cl_i hd1, b_X8_readsGroup_7, if_pos (by decide), b_X8_readsGroup_12, nl1, rw1, ec, ep, mn_cl_i xg1, b_X8_readsGroup_32, if_pos mz_f, b_X8_readsGroup_80, decide_eq_false z1]; exact ⟨rfl, rfl⟩
  · obtain ⟨le, e3⟩ := rmE_n z0
    rw [feN z0]
    obtain ⟨xa, ma⟩ := xr.2 le
    refine ⟨_, ?_, (pF.rf h).up (Or.inr (Or.inl rfl)), fun _ => ⟨by rw [mn_up_get, if_pos ⟨rfl, rfl⟩, e3]; rfl, ma.2.2.1⟩, fun z => absurd z z0⟩
    rw [e_X8_readsGroup, b_X8_readsGroup_0]
    rw [mn_cl_i (show mn_X 125 [.ref 63, .int 1, .int 6] h (some (.int 0)) _ from xa), b_X8_readsGroup_7, if_neg (by decide), b_X8_readsGroup_10, decide_eq_false z0]; exact ⟨rfl, rfl⟩
theorem m_cause {i1 j1 i2 j2 i3 j3 : Nat} (s1 : SK C len (w + 1) i1) (d1 : DG C len i1 j1) (s2 : SK C len j1 i2) (d2 : DG C len i2 j2) (s3 : SK C len j2 i3) (d3 : DG C len i3 j3) (hw : w < len) (w2 : TW2 T) (m : MC h len C w) (gm : GM (h 66) T) (e95 : h 66 95 = nI td) : ∃ h', mn_X 128 [.ref 63, .int 2, .int 8, .int 44, .int 0, .int 5, .int 1, .int 999] h (some (.int (mz (decide ((fe [(rmE (T 0 2) 8, w), (numE C 0 6 i1 j1, i1), (numE C 0 6 i2 j2, i2), (numE C 1 1000 i3 j3, i3)]).1 = 0))))) h' ∧ pF h h' ∧ ((fe [(rmE (T 0 2) 8, w), (numE C 0 6 i1 j1, i1), (numE C 0 6 i2 j2, i2), (numE C 1 1000 i3 j3, i3)]).1 ≠ 0 → h' 63 11 = nI (fe [(rmE (T 0 2) 8, w), (numE C 0 6 i1 j1, i1), (numE C 0 6 i2 j2, i2), (numE C 1 1000 i3 j3, i3)]).1 ∧ h' 63 10 = nI (fe [(rmE (T 0 2) 8, w), (numE C 0 6 i1 j1, i1), (numE C 0 6 i2 j2, i2), (numE C 1 1000 i3 j3, i3)]).2) ∧ ((fe [(rmE (T 0 2) 8, w), (numE C 0 6 i1 j1, i1), (numE C 0 6 i2 j2, i2), (numE C 1 1000 i3 j3, i3)]).1 = 0 → MC h' len C j3 ∧ GM (h' 66) (twA T 2 (fun a => if a = 8 then dvN C i1 (min (j1 - i1) 3) else if a = 9 then dvN C i2 (min (j2 - i2) 3) else dvN C i3 (min (j3 - i3) 3))) ∧ h' 66 95 = nI td) := by
  have t0 : T 0 2 ≤ 8 := w2.1 2 (by decide)
  have t00 : T 0 0 ≤ 5 := w2.1 0 (by decide)
  have l250 := m.1.1
  have ec : h 66 2 = nI (T 0 2) := gm.1 2 (by decide)
  have xr := x_isRoom m hw (c := 2) (mx := 8) (n := T 0 2) (by decide) ec (by decide) (by omega)
  by_cases z0 : rmE (T 0 2) 8 = 0
  · have lt := rmE_0 z0
    rw [feS z0]
    obtain ⟨xa, ma⟩ := xr.1 lt
    obtain ⟨n, en⟩ : ∃ n, n = T 0 2 := ⟨_, rfl⟩
    rw [← en] at lt ec
    have ep : (44 : Int32) + 3 * nI n = nI (44 + 3 * n) := na_mul 44 3 n
    obtain ⟨h1, eh1⟩ : ∃ h1, h1 = mn_up h 63 10 (nI (w + 1)) := ⟨_, rfl⟩
    rw [← eh1] at xa ma
    have f1 : pF h h1 := by rw [eh1]; exact (pF.rf h).up (Or.inl rfl)
    have e66 : h1 66 = h 66 := by rw [eh1, mn_up_row _ _ _ _ (by decide)]
    have hd1 : mn_X 125 [.ref 63, .int 2, .int 8] h (some (.int 1)) h1 := xa
    have rw1 : ∀ k, h1 66 k = h 66 k := fun k => by rw [e66]
    obtain ⟨g1, xg1, fg1, ug1, okg1, nog1⟩ := x_ly (lo := 0) (hb := 6) (p := 44 + 3 * n) (a := nI (44 + 3 * n)) (b := 0) (c := 5) (by rfl) (by rfl) (by first | rfl | decide) ma s1 d1 (by decide) (by omega) (by omega)
    by_cases z1 : numE C 0 6 i1 j1 = 0
    · obtain ⟨mg1, vg1⟩ := okg1 z1
      rw [feS z1]
      rw [decide_eq_true z1] at xg1
      have Fg1 := f1.tr fg1
      obtain ⟨g2, xg2, fg2, ug2, okg2, nog2⟩ := x_ly (lo := 0) (hb := 6) (p := 44 + 3 * n + 1) (a := nI (44 + 3 * n) + 1) (b := 0) (c := 5) (show nI (44 + 3 * n) + 1 = nI (44 + 3 * n + 1) from nI_add _ 1) (by rfl) (by first | rfl | decide) mg1 s2 d2 (by decide) (by omega) (by omega)
      by_cases z2 : numE C 0 6 i2 j2 = 0
      · obtain ⟨mg2, vg2⟩ := okg2 z2
        rw [feS z2]
        rw [decide_eq_true z2] at xg2
        have Fg2 := Fg1.tr fg2
        obtain ⟨g3, xg3, fg3, ug3, okg3, nog3⟩ := x_ly (lo := 1) (hb := 1000) (p := 44 + 3 * n + 2) (a := nI (44 + 3 * n) + 2) (b := 1) (c := 999) (show nI (44 + 3 * n) + 2 = nI (44 + 3 * n + 2) from nI_add _ 2) (by rfl) (by first | rfl | decide) mg2 s3 d3 (by decide) (by omega) (by omega)
        by_cases z3 : numE C 1 1000 i3 j3 = 0
        · obtain ⟨mg3, vg3⟩ := okg3 z3
          rw [feS z3]
          rw [decide_eq_true z3] at xg3
          have Fg3 := Fg2.tr fg3
          have nf : (fe []).1 = 0 := rfl
          have ecc : g3 66 2 = nI n := by rw [ug3 _ (by omega), ug2 _ (by omega), ug1 _ (by omega), rw1]; exact ec
          refine ⟨mn_up g3 66 2 (nI (n + 1)), ?_, Fg3.up66, fun z => absurd nf z, fun _ => ⟨mg3.r66, ?_, ?_⟩⟩
          · rw [e_X8_readsThree, b_X8_readsThree_0, mn_cl_i hd1, b_X8_readsThree_6, if_pos (by decide), b_X8_readsThree_11 (show vp_in (2 : Int32) 96 from vp_in_nI (n := 2) (by decide) (by decide)), nl2, rw1, ec, ep, mn_cl_i xg1, b_X8_readsThree_31, if_neg (by decide), b_X8_readsThree_34, mn_cl_i xg2, b_X8_readsThree_46, if_neg (by decide), b_X8_readsThree_49, mn_cl_i xg3, b_X8_readsThree_61, if_pos (by decide), b_X8_readsThree_66 (show vp_in (2 : Int32) 96 from vp_in_nI (n := 2) (by decide) (by decide)), nl2, ecc, nI_1]; exact ⟨rfl, rfl⟩
          · refine gm.add w2 (c := 2) (by decide) en.symm lt ?_ (fun a h1 h2 h3 => ?_) (fun j j1 j2 => ?_)
            · rw [mn_up_get, if_pos ⟨rfl, rfl⟩]
            · have ha : a = 8 ∨ a = 9 ∨ a = 10 := (by decide : ∀ a, a < 17 → 1 ≤ a → twg a = 2 → a = 8 ∨ a = 9 ∨ a = 10) a (by omega) h1 h3
              rcases ha with rfl | rfl | rfl
              · show mn_up g3 66 2 _ 66 (44 + 3 * n) = _
                rw [mn_up_get, if_neg (by omega), ug3 _ (by omega), ug2 _ (by omega), vg1]; rfl
              · show mn_up g3 66 2 _ 66 (44 + 3 * n + 1) = _
                rw [mn_up_get, if_neg (by omega), ug3 _ (by omega), vg2]; rfl
              · show mn_up g3 66 2 _ 66 (44 + 3 * n + 2) = _
                rw [mn_up_get, if_neg (by omega), vg3]; rfl
            · have q1 : j ≠ 44 + 3 * n := j2 8 (by decide) (by decide) rfl
              have q2 : j ≠ 44 + 3 * n + 1 := j2 9 (by decide) (by decide) rfl
              have q3 : j ≠ 44 + 3 * n + 2 := j2 10 (by decide) (by decide) rfl
              rw [mn_up_get, if_neg (fun z => j1 z.2), ug3 _ q3, ug2 _ q2, ug1 _ q1, rw1]
          · rw [mn_up_get, if_neg (by omega), ug3 _ (by omega), ug2 _ (by omega), ug1 _ (by omega), rw1]; exact e95
        · obtain ⟨mg3, vg3⟩ := nog3 z3
          rw [feN z3]
          rw [decide_eq_false z3] at xg3
          refine ⟨g3, ?_, Fg2.tr fg3, fun _ => ⟨vg3, mg3.2.2.1⟩, fun z => absurd z z3⟩
          rw [e_X8_readsThree, b_X8_readsThree_0, mn_cl_i hd1, b_X8_readsThree_6, if_pos (by decide), b_X8_readsThree_11 (show vp_in (2 : Int32) 96 from vp_in_nI (n := 2) (by decide) (by decide)), nl2, rw1, ec, ep, mn_cl_i xg1, b_X8_readsThree_31, if_neg (by decide), b_X8_readsThree_34, mn_cl_i xg2, b_X8_readsThree_46, if_neg (by decide), b_X8_readsThree_49, mn_cl_i xg3, b_X8_readsThree_61, if_neg (by decide), b_X8_readsThree_64, decide_eq_false z3]; exact ⟨rfl, rfl⟩
      · obtain ⟨mg2, vg2⟩ := nog2 z2
        rw [feN z2]
        rw [decide_eq_false z2] at xg2
        refine ⟨g2, ?_, Fg1.tr fg2, fun _ => ⟨vg2, mg2.2.2.1⟩, fun z => absurd z z2⟩
        rw [e_X8_readsThree, b_X8_readsThree_0, mn_cl_i hd1, b_X8_readsThree_6, if_pos (by decide), b_X8_readsThree_11 (show vp_in (2 : Int32) 96 from vp_in_nI (n := 2) (by decide) (by decide)), nl2, rw1, ec, ep, mn_cl_i xg1, b_X8_readsThree_31, if_neg (by decide), b_X8_readsThree_34, mn_cl_i xg2, b_X8_readsThree_46, if_pos mz_f, b_X8_readsThree_64, decide_eq_false z2]; exact ⟨rfl, rfl⟩
    · obtain ⟨mg1, vg1⟩ := nog1 z1
      rw [feN z1]
      rw [decide_eq_false z1] at xg1
      refine ⟨g1, ?_, f1.tr fg1, fun _ => ⟨vg1, mg1.2.2.1⟩, fun z => absurd z z1⟩
      rw [e_X8_readsThree, b_X8_readsThree_0, mn_cl_i hd1, b_X8_readsThree_6, if_pos (by decide), b_X8_readsThree_11 (show vp_in (2 : Int32) 96 from vp_in_nI (n := 2) (by decide) (by decide)), nl2, rw1, ec, ep, mn_cl_i xg1, b_X8_readsThree_31, if_pos mz_f, b_X8_readsThree_64, decide_eq_false z1]; exact ⟨rfl, rfl⟩
  · obtain ⟨le, e3⟩ := rmE_n z0
    rw [feN z0]
    obtain ⟨xa, ma⟩ := xr.2 le
    refine ⟨_, ?_, (pF.rf h).up (Or.inr (Or.inl rfl)), fun _ => ⟨by rw [mn_up_get, if_pos ⟨rfl, rfl⟩, e3]; rfl, ma.2.2.1⟩, fun z => absurd z z0⟩
    rw [e_X8_readsThree, b_X8_readsThree_0]
    rw [mn_cl_i (show mn_X 125 [.ref 63, .int 2, .int 8] h (some (.int 0)) _ from xa), b_X8_readsThree_6, if_neg (by decide), b_X8_readsThree_9, decide_eq_false z0]; exact ⟨rfl, rfl⟩
theorem m_stop {i1 j1 i2 j2 i3 j3 : Nat} (s1 : SK C len (w + 1) i1) (d1 : DG C len i1 j1) (s2 : SK C len j1 i2) (d2 : DG C len i2 j2) (s3 : SK C len j2 i3) (d3 : DG C len i3 j3) (hw : w < len) (w2 : TW2 T) (m : MC h len C w) (gm : GM (h 66) T) (e95 : h 66 95 = nI td) : ∃ h', mn_X 128 [.ref 63, .int 3, .int 4, .int 68, .int 0, .int 5, .int 1, .int 999] h (some (.int (mz (decide ((fe [(rmE (T 0 3) 4, w), (numE C 0 6 i1 j1, i1), (numE C 0 6 i2 j2, i2), (numE C 1 1000 i3 j3, i3)]).1 = 0))))) h' ∧ pF h h' ∧ ((fe [(rmE (T 0 3) 4, w), (numE C 0 6 i1 j1, i1), (numE C 0 6 i2 j2, i2), (numE C 1 1000 i3 j3, i3)]).1 ≠ 0 → h' 63 11 = nI (fe [(rmE (T 0 3) 4, w), (numE C 0 6 i1 j1, i1), (numE C 0 6 i2 j2, i2), (numE C 1 1000 i3 j3, i3)]).1 ∧ h' 63 10 = nI (fe [(rmE (T 0 3) 4, w), (numE C 0 6 i1 j1, i1), (numE C 0 6 i2 j2, i2), (numE C 1 1000 i3 j3, i3)]).2) ∧ ((fe [(rmE (T 0 3) 4, w), (numE C 0 6 i1 j1, i1), (numE C 0 6 i2 j2, i2), (numE C 1 1000 i3 j3, i3)]).1 = 0 → MC h' len C j3 ∧ GM (h' 66) (twA T 3 (fun a => if a = 11 then dvN C i1 (min (j1 - i1) 3) else if a = 12 then dvN C i2 (min (j2 - i2) 3) else dvN C i3 (min (j3 - i3) 3))) ∧ h' 66 95 = nI td) := by
  have t0 : T 0 3 ≤ 4 := w2.1 3 (by decide)
  have t00 : T 0 0 ≤ 5 := w2.1 0 (by decide)
  have l250 := m.1.1
  have ec : h 66 3 = nI (T 0 3) := gm.1 3 (by decide)
  have xr := x_isRoom m hw (c := 3) (mx := 4) (n := T 0 3) (by decide) ec (by decide) (by omega)
  by_cases z0 : rmE (T 0 3) 4 = 0
  · have lt := rmE_0 z0
    rw [feS z0]
    obtain ⟨xa, ma⟩ := xr.1 lt
    obtain ⟨n, en⟩ : ∃ n, n = T 0 3 := ⟨_, rfl⟩
    rw [← en] at lt ec
    have ep : (68 : Int32) + 3 * nI n = nI (68 + 3 * n) := na_mul 68 3 n
    obtain ⟨h1, eh1⟩ : ∃ h1, h1 = mn_up h 63 10 (nI (w + 1)) := ⟨_, rfl⟩
    rw [← eh1] at xa ma
    have f1 : pF h h1 := by rw [eh1]; exact (pF.rf h).up (Or.inl rfl)
    have e66 : h1 66 = h 66 := by rw [eh1, mn_up_row _ _ _ _ (by decide)]
    have hd1 : mn_X 125 [.ref 63, .int 3, .int 4] h (some (.int 1)) h1 := xa
    have rw1 : ∀ k, h1 66 k = h 66 k := fun k => by rw [e66]
    obtain ⟨g1, xg1, fg1, ug1, okg1, nog1⟩ := x_ly (lo := 0) (hb := 6) (p := 68 + 3 * n) (a := nI (68 + 3 * n)) (b := 0) (c := 5) (by rfl) (by rfl) (by first | rfl | decide) ma s1 d1 (by decide) (by omega) (by omega)
    by_cases z1 : numE C 0 6 i1 j1 = 0
    · obtain ⟨mg1, vg1⟩ := okg1 z1
      rw [feS z1]
      rw [decide_eq_true z1] at xg1
      have Fg1 := f1.tr fg1
      obtain ⟨g2, xg2, fg2, ug2, okg2, nog2⟩ := x_ly (lo := 0) (hb := 6) (p := 68 + 3 * n + 1) (a := nI (68 + 3 * n) + 1) (b := 0) (c := 5) (show nI (68 + 3 * n) + 1 = nI (68 + 3 * n + 1) from nI_add _ 1) (by rfl) (by first | rfl | decide) mg1 s2 d2 (by decide) (by omega) (by omega)
      by_cases z2 : numE C 0 6 i2 j2 = 0
      · obtain ⟨mg2, vg2⟩ := okg2 z2
        rw [feS z2]
        rw [decide_eq_true z2] at xg2
        have Fg2 := Fg1.tr fg2
        obtain ⟨g3, xg3, fg3, ug3, okg3, nog3⟩ := x_ly (lo := 1) (hb := 1000) (p := 68 + 3 * n + 2) (a := nI (68 + 3 * n) + 2) (b := 1) (c := 999) (show nI (68 + 3 * n) + 2 = nI (68 + 3 * n + 2) from nI_add _ 2) (by rfl) (by first | rfl | decide) mg2 s3 d3 (by decide) (by omega) (by omega)
        by_cases z3 : numE C 1 1000 i3 j3 = 0
        · obtain ⟨mg3, vg3⟩ := okg3 z3
          rw [feS z3]
          rw [decide_eq_true z3] at xg3
          have Fg3 := Fg2.tr fg3
          have nf : (fe []).1 = 0 := rfl
          have ecc : g3 66 3 = nI n := by rw [ug3 _ (by omega), ug2 _ (by omega), ug1 _ (by omega), rw1]; exact ec
          refine ⟨mn_up g3 66 3 (nI (n + 1)), ?_, Fg3.up66, fun z => absurd nf z, fun _ => ⟨mg3.r66, ?_, ?_⟩⟩
          · rw [e_X8_readsThree, b_X8_readsThree_0, mn_cl_i hd1, b_X8_readsThree_6, if_pos (by decide), b_X8_readsThree_11 (show vp_in (3 : Int32) 96 from vp_in_nI (n := 3) (by decide) (by decide)), nl3, rw1, ec, ep, mn_cl_i xg1, b_X8_readsThree_31, if_neg (by decide), b_X8_readsThree_34, mn_cl_i xg2, b_X8_readsThree_46, if_neg (by decide), b_X8_readsThree_49, mn_cl_i xg3, b_X8_readsThree_61, if_pos (by decide), b_X8_readsThree_66 (show vp_in (3 : Int32) 96 from vp_in_nI (n := 3) (by decide) (by decide)), nl3, ecc, nI_1]; exact ⟨rfl, rfl⟩
          · refine gm.add w2 (c := 3) (by decide) en.symm lt ?_ (fun a h1 h2 h3 => ?_) (fun j j1 j2 => ?_)
            · rw [mn_up_get, if_pos ⟨rfl, rfl⟩]
            · have ha : a = 11 ∨ a = 12 ∨ a = 13 := (by decide : ∀ a, a < 17 → 1 ≤ a → twg a = 3 → a = 11 ∨ a = 12 ∨ a = 13) a (by omega) h1 h3
              rcases ha with rfl | rfl | rfl
              · show mn_up g3 66 3 _ 66 (68 + 3 * n) = _
                rw [mn_up_get, if_neg (by omega), ug3 _ (by omega), ug2 _ (by omega), vg1]; rfl
              · show mn_up g3 66 3 _ 66 (68 + 3 * n + 1) = _
                rw [mn_up_get, if_neg (by omega), ug3 _ (by omega), vg2]; rfl
              · show mn_up g3 66 3 _ 66 (68 + 3 * n + 2) = _
                rw [mn_up_get, if_neg (by omega), vg3]; rfl
            · have q1 : j ≠ 68 + 3 * n := j2 11 (by decide) (by decide) rfl
              have q2 : j ≠ 68 + 3 * n + 1 := j2 12 (by decide) (by decide) rfl
              have q3 : j ≠ 68 + 3 * n + 2 := j2 13 (by decide) (by decide) rfl
              rw [mn_up_get, if_neg (fun z => j1 z.2), ug3 _ q3, ug2 _ q2, ug1 _ q1, rw1]
          · rw [mn_up_get, if_neg (by omega), ug3 _ (by omega), ug2 _ (by omega), ug1 _ (by omega), rw1]; exact e95
        · obtain ⟨mg3, vg3⟩ := nog3 z3
          rw [feN z3]
          rw [decide_eq_false z3] at xg3
          refine ⟨g3, ?_, Fg2.tr fg3, fun _ => ⟨vg3, mg3.2.2.1⟩, fun z => absurd z z3⟩
          rw [e_X8_readsThree, b_X8_readsThree_0, mn_cl_i hd1, b_X8_readsThree_6, if_pos (by decide), b_X8_readsThree_11 (show vp_in (3 : Int32) 96 from vp_in_nI (n := 3) (by decide) (by decide)), nl3, rw1, ec, ep, mn_cl_i xg1, b_X8_readsThree_31, if_neg (by decide), b_X8_readsThree_34, mn_cl_i xg2, b_X8_readsThree_46, if_neg (by decide), b_X8_readsThree_49, mn_cl_i xg3, b_X8_readsThree_61, if_neg (by decide), b_X8_readsThree_64, decide_eq_false z3]; exact ⟨rfl, rfl⟩
      · obtain ⟨mg2, vg2⟩ := nog2 z2
        rw [feN z2]
        rw [decide_eq_false z2] at xg2
        refine ⟨g2, ?_, Fg1.tr fg2, fun _ => ⟨vg2, mg2.2.2.1⟩, fun z => absurd z z2⟩
        rw [e_X8_readsThree, b_X8_readsThree_0, mn_cl_i hd1, b_X8_readsThree_6, if_pos (by decide), b_X8_readsThree_11 (show vp_in (3 : Int32) 96 from vp_in_nI (n := 3) (by decide) (by decide)), nl3, rw1, ec, ep, mn_cl_i xg1, b_X8_readsThree_31, if_neg (by decide), b_X8_readsThree_34, mn_cl_i xg2, b_X8_readsThree_46, if_pos mz_f, b_X8_readsThree_64, decide_eq_false z2]; exact ⟨rfl, rfl⟩
    · obtain ⟨mg1, vg1⟩ := nog1 z1
      rw [feN z1]
      rw [decide_eq_false z1] at xg1
      refine ⟨g1, ?_, f1.tr fg1, fun _ => ⟨vg1, mg1.2.2.1⟩, fun z => absurd z z1⟩
      rw [e_X8_readsThree, b_X8_readsThree_0, mn_cl_i hd1, b_X8_readsThree_6, if_pos (by decide), b_X8_readsThree_11 (show vp_in (3 : Int32) 96 from vp_in_nI (n := 3) (by decide) (by decide)), nl3, rw1, ec, ep, mn_cl_i xg1, b_X8_readsThree_31, if_pos mz_f, b_X8_readsThree_64, decide_eq_false z1]; exact ⟨rfl, rfl⟩
  · obtain ⟨le, e3⟩ := rmE_n z0
    rw [feN z0]
    obtain ⟨xa, ma⟩ := xr.2 le
    refine ⟨_, ?_, (pF.rf h).up (Or.inr (Or.inl rfl)), fun _ => ⟨by rw [mn_up_get, if_pos ⟨rfl, rfl⟩, e3]; rfl, ma.2.2.1⟩, fun z => absurd z z0⟩
    rw [e_X8_readsThree, b_X8_readsThree_0]
    rw [mn_cl_i (show mn_X 125 [.ref 63, .int 3, .int 4] h (some (.int 0)) _ from xa), b_X8_readsThree_6, if_neg (by decide), b_X8_readsThree_9, decide_eq_false z0]; exact ⟨rfl, rfl⟩
theorem m_self {i1 j1 i2 j2 i3 j3 : Nat} (s1 : SK C len (w + 1) i1) (d1 : DG C len i1 j1) (s2 : SK C len j1 i2) (d2 : DG C len i2 j2) (s3 : SK C len j2 i3) (d3 : DG C len i3 j3) (hw : w < len) (w2 : TW2 T) (m : MC h len C w) (gm : GM (h 66) T) (e95 : h 66 95 = nI td) : ∃ h', mn_X 128 [.ref 63, .int 4, .int 3, .int 80, .int 1, .int 12, .int 0, .int 11] h (some (.int (mz (decide ((fe [(rmE (T 0 4) 3, w), (numE C 0 6 i1 j1, i1), (numE C 1 13 i2 j2, i2), (numE C 0 12 i3 j3, i3)]).1 = 0))))) h' ∧ pF h h' ∧ ((fe [(rmE (T 0 4) 3, w), (numE C 0 6 i1 j1, i1), (numE C 1 13 i2 j2, i2), (numE C 0 12 i3 j3, i3)]).1 ≠ 0 → h' 63 11 = nI (fe [(rmE (T 0 4) 3, w), (numE C 0 6 i1 j1, i1), (numE C 1 13 i2 j2, i2), (numE C 0 12 i3 j3, i3)]).1 ∧ h' 63 10 = nI (fe [(rmE (T 0 4) 3, w), (numE C 0 6 i1 j1, i1), (numE C 1 13 i2 j2, i2), (numE C 0 12 i3 j3, i3)]).2) ∧ ((fe [(rmE (T 0 4) 3, w), (numE C 0 6 i1 j1, i1), (numE C 1 13 i2 j2, i2), (numE C 0 12 i3 j3, i3)]).1 = 0 → MC h' len C j3 ∧ GM (h' 66) (twA T 4 (fun a => if a = 14 then dvN C i1 (min (j1 - i1) 3) else if a = 15 then dvN C i2 (min (j2 - i2) 3) else dvN C i3 (min (j3 - i3) 3))) ∧ h' 66 95 = nI td) := by
  have t0 : T 0 4 ≤ 3 := w2.1 4 (by decide)
  have t00 : T 0 0 ≤ 5 := w2.1 0 (by decide)
  have l250 := m.1.1
  have ec : h 66 4 = nI (T 0 4) := gm.1 4 (by decide)
  have xr := x_isRoom m hw (c := 4) (mx := 3) (n := T 0 4) (by decide) ec (by decide) (by omega)
  by_cases z0 : rmE (T 0 4) 3 = 0
  · have lt := rmE_0 z0
    rw [feS z0]
    obtain ⟨xa, ma⟩ := xr.1 lt
    obtain ⟨n, en⟩ : ∃ n, n = T 0 4 := ⟨_, rfl⟩
    rw [← en] at lt ec
    have ep : (80 : Int32) + 3 * nI n = nI (80 + 3 * n) := na_mul 80 3 n
    obtain ⟨h1, eh1⟩ : ∃ h1, h1 = mn_up h 63 10 (nI (w + 1)) := ⟨_, rfl⟩
    rw [← eh1] at xa ma
    have f1 : pF h h1 := by rw [eh1]; exact (pF.rf h).up (Or.inl rfl)
    have e66 : h1 66 = h 66 := by rw [eh1, mn_up_row _ _ _ _ (by decide)]
    have hd1 : mn_X 125 [.ref 63, .int 4, .int 3] h (some (.int 1)) h1 := xa
    have rw1 : ∀ k, h1 66 k = h 66 k := fun k => by rw [e66]
    obtain ⟨g1, xg1, fg1, ug1, okg1, nog1⟩ := x_ly (lo := 0) (hb := 6) (p := 80 + 3 * n) (a := nI (80 + 3 * n)) (b := 0) (c := 5) (by rfl) (by rfl) (by first | rfl | decide) ma s1 d1 (by decide) (by omega) (by omega)
    by_cases z1 : numE C 0 6 i1 j1 = 0
    · obtain ⟨mg1, vg1⟩ := okg1 z1
      rw [feS z1]
      rw [decide_eq_true z1] at xg1
      have Fg1 := f1.tr fg1
      obtain ⟨g2, xg2, fg2, ug2, okg2, nog2⟩ := x_ly (lo := 1) (hb := 13) (p := 80 + 3 * n + 1) (a := nI (80 + 3 * n) + 1) (b := 1) (c := 12) (show nI (80 + 3 * n) + 1 = nI (80 + 3 * n + 1) from nI_add _ 1) (by rfl) (by first | rfl | decide) mg1 s2 d2 (by decide) (by omega) (by omega)
      by_cases z2 : numE C 1 13 i2 j2 = 0
      · obtain ⟨mg2, vg2⟩ := okg2 z2
        rw [feS z2]
        rw [decide_eq_true z2] at xg2
        have Fg2 := Fg1.tr fg2
        obtain ⟨g3, xg3, fg3, ug3, okg3, nog3⟩ := x_ly (lo := 0) (hb := 12) (p := 80 + 3 * n + 2) (a := nI (80 + 3 * n) + 2) (b := 0) (c := 11) (show nI (80 + 3 * n) + 2 = nI (80 + 3 * n + 2) from nI_add _ 2) (by rfl) (by first | rfl | decide) mg2 s3 d3 (by decide) (by omega) (by omega)
        by_cases z3 : numE C 0 12 i3 j3 = 0
        · obtain ⟨mg3, vg3⟩ := okg3 z3
          rw [feS z3]
          rw [decide_eq_true z3] at xg3
          have Fg3 := Fg2.tr fg3
          have nf : (fe []).1 = 0 := rfl
          have ecc : g3 66 4 = nI n := by rw [ug3 _ (by omega), ug2 _ (by omega), ug1 _ (by omega), rw1]; exact ec
          refine ⟨mn_up g3 66 4 (nI (n + 1)), ?_, Fg3.up66, fun z => absurd nf z, fun _ => ⟨mg3.r66, ?_, ?_⟩⟩
          · rw [e_X8_readsThree, b_X8_readsThree_0, mn_cl_i hd1, b_X8_readsThree_6, if_pos (by decide), b_X8_readsThree_11 (show vp_in (4 : Int32) 96 from vp_in_nI (n := 4) (by decide) (by decide)), nl4, rw1, ec, ep, mn_cl_i xg1, b_X8_readsThree_31, if_neg (by decide), b_X8_readsThree_34, mn_cl_i xg2, b_X8_readsThree_46, if_neg (by decide), b_X8_readsThree_49, mn_cl_i xg3, b_X8_readsThree_61, if_pos (by decide), b_X8_readsThree_66 (show vp_in (4 : Int32) 96 from vp_in_nI (n := 4) (by decide) (by decide)), nl4, ecc, nI_1]; exact ⟨rfl, rfl⟩
          · refine gm.add w2 (c := 4) (by decide) en.symm lt ?_ (fun a h1 h2 h3 => ?_) (fun j j1 j2 => ?_)
            · rw [mn_up_get, if_pos ⟨rfl, rfl⟩]
            · have ha : a = 14 ∨ a = 15 ∨ a = 16 := (by decide : ∀ a, a < 17 → 1 ≤ a → twg a = 4 → a = 14 ∨ a = 15 ∨ a = 16) a (by omega) h1 h3
              rcases ha with rfl | rfl | rfl
              · show mn_up g3 66 4 _ 66 (80 + 3 * n) = _
                rw [mn_up_get, if_neg (by omega), ug3 _ (by omega), ug2 _ (by omega), vg1]; rfl
              · show mn_up g3 66 4 _ 66 (80 + 3 * n + 1) = _
                rw [mn_up_get, if_neg (by omega), ug3 _ (by omega), vg2]; rfl
              · show mn_up g3 66 4 _ 66 (80 + 3 * n + 2) = _
                rw [mn_up_get, if_neg (by omega), vg3]; rfl
            · have q1 : j ≠ 80 + 3 * n := j2 14 (by decide) (by decide) rfl
              have q2 : j ≠ 80 + 3 * n + 1 := j2 15 (by decide) (by decide) rfl
              have q3 : j ≠ 80 + 3 * n + 2 := j2 16 (by decide) (by decide) rfl
              rw [mn_up_get, if_neg (fun z => j1 z.2), ug3 _ q3, ug2 _ q2, ug1 _ q1, rw1]
          · rw [mn_up_get, if_neg (by omega), ug3 _ (by omega), ug2 _ (by omega), ug1 _ (by omega), rw1]; exact e95
        · obtain ⟨mg3, vg3⟩ := nog3 z3
          rw [feN z3]
          rw [decide_eq_false z3] at xg3
          refine ⟨g3, ?_, Fg2.tr fg3, fun _ => ⟨vg3, mg3.2.2.1⟩, fun z => absurd z z3⟩
          rw [e_X8_readsThree, b_X8_readsThree_0, mn_cl_i hd1, b_X8_readsThree_6, if_pos (by decide), b_X8_readsThree_11 (show vp_in (4 : Int32) 96 from vp_in_nI (n := 4) (by decide) (by decide)), nl4, rw1, ec, ep, mn_cl_i xg1, b_X8_readsThree_31, if_neg (by decide), b_X8_readsThree_34, mn_cl_i xg2, b_X8_readsThree_46, if_neg (by decide), b_X8_readsThree_49, mn_cl_i xg3, b_X8_readsThree_61, if_neg (by decide), b_X8_readsThree_64, decide_eq_false z3]; exact ⟨rfl, rfl⟩
      · obtain ⟨mg2, vg2⟩ := nog2 z2
        rw [feN z2]
        rw [decide_eq_false z2] at xg2
        refine ⟨g2, ?_, Fg1.tr fg2, fun _ => ⟨vg2, mg2.2.2.1⟩, fun z => absurd z z2⟩
        rw [e_X8_readsThree, b_X8_readsThree_0, mn_cl_i hd1, b_X8_readsThree_6, if_pos (by decide), b_X8_readsThree_11 (show vp_in (4 : Int32) 96 from vp_in_nI (n := 4) (by decide) (by decide)), nl4, rw1, ec, ep, mn_cl_i xg1, b_X8_readsThree_31, if_neg (by decide), b_X8_readsThree_34, mn_cl_i xg2, b_X8_readsThree_46, if_pos mz_f, b_X8_readsThree_64, decide_eq_false z2]; exact ⟨rfl, rfl⟩
    · obtain ⟨mg1, vg1⟩ := nog1 z1
      rw [feN z1]
      rw [decide_eq_false z1] at xg1
      refine ⟨g1, ?_, f1.tr fg1, fun _ => ⟨vg1, mg1.2.2.1⟩, fun z => absurd z z1⟩
      rw [e_X8_readsThree, b_X8_readsThree_0, mn_cl_i hd1, b_X8_readsThree_6, if_pos (by decide), b_X8_readsThree_11 (show vp_in (4 : Int32) 96 from vp_in_nI (n := 4) (by decide) (by decide)), nl4, rw1, ec, ep, mn_cl_i xg1, b_X8_readsThree_31, if_pos mz_f, b_X8_readsThree_64, decide_eq_false z1]; exact ⟨rfl, rfl⟩
  · obtain ⟨le, e3⟩ := rmE_n z0
    rw [feN z0]
    obtain ⟨xa, ma⟩ := xr.2 le
    refine ⟨_, ?_, (pF.rf h).up (Or.inr (Or.inl rfl)), fun _ => ⟨by rw [mn_up_get, if_pos ⟨rfl, rfl⟩, e3]; rfl, ma.2.2.1⟩, fun z => absurd z z0⟩
    rw [e_X8_readsThree, b_X8_readsThree_0]
    rw [mn_cl_i (show mn_X 125 [.ref 63, .int 4, .int 3] h (some (.int 0)) _ from xa), b_X8_readsThree_6, if_neg (by decide), b_X8_readsThree_9, decide_eq_false z0]; exact ⟨rfl, rfl⟩
end MCL
