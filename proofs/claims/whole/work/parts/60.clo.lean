theorem n95 : (95 : Int32).toNatClampNeg = 95 := rfl
section HRM
variable {h hh : mn_H} {len i : Nat} {C : Nat → Nat} {t w : Nat} {T : TW} {td : Nat}
theorem m_harm {i1 j1 i2 j2 : Nat} (s1 : SK C len (w + 1) i1) (d1 : DG C len i1 j1) (s2 : SK C len j1 i2) (d2 : DG C len i2 j2) (hw : w < len) (w2 : TW2 T) (h64 : td < 64) (m : MC h len C w) (gm : GM (h 66) T) (e95 : h 66 95 = nI td) : ∃ h', mn_X 129 [.ref 63] h (some (.int (mz (decide ((fe [(numE C 0 6 i1 j1, i1), (agE (numE C 0 6 i1 j1) td (dvN C i1 (min (j1 - i1) 3)), i1), (numE C 0 100 i2 j2, i2)]).1 = 0))))) h' ∧ pF h h' ∧ ((fe [(numE C 0 6 i1 j1, i1), (agE (numE C 0 6 i1 j1) td (dvN C i1 (min (j1 - i1) 3)), i1), (numE C 0 100 i2 j2, i2)]).1 ≠ 0 → h' 63 11 = nI (fe [(numE C 0 6 i1 j1, i1), (agE (numE C 0 6 i1 j1) td (dvN C i1 (min (j1 - i1) 3)), i1), (numE C 0 100 i2 j2, i2)]).1 ∧ h' 63 10 = nI (fe [(numE C 0 6 i1 j1, i1), (agE (numE C 0 6 i1 j1) td (dvN C i1 (min (j1 - i1) 3)), i1), (numE C 0 100 i2 j2, i2)]).2) ∧ ((fe [(numE C 0 6 i1 j1, i1), (agE (numE C 0 6 i1 j1) td (dvN C i1 (min (j1 - i1) 3)), i1), (numE C 0 100 i2 j2, i2)]).1 = 0 → MC h' len C j2 ∧ GM (h' 66) (twH T (dvN C i1 (min (j1 - i1) 3)) (dvN C i2 (min (j2 - i2) 3))) ∧ h' 66 95 = nI (td ||| 2 ^ dvN C i1 (min (j1 - i1) 3))) := by
  have l250 := m.1.1
  obtain ⟨V, eV⟩ : ∃ V, V = dvN C i1 (min (j1 - i1) 3) := ⟨_, rfl⟩
  rw [← eV]
  have m0 : MC (mn_up h 63 10 (nI (w + 1))) len C (w + 1) := m.at (by omega)
  obtain ⟨h1, x1, f1, m1, -, -⟩ := x_blanks m0 s1
  obtain ⟨h2, x2, f2, ok2, no2⟩ := x_nb (lo := 0) (hb := 6) (b := 0) (c := 5) (by rfl) (by first | rfl | decide) m1 (SK_self s1) d1 (by decide) (by decide)
  have g1 : pF h h1 := ((pF.rf h).up (Or.inl rfl)).tr f1.pf
  have g2 : pF h h2 := g1.tr f2.pf
  have r2 : h2 66 = h 66 := by rw [f2.1 66 (by decide), f1.1 66 (by decide), mn_up_row _ _ _ _ (by decide)]
  have hd : ∀ q h'', mn_E 129 25 [.ref 63, .int (nI i1), .null, .null] [.int (mz (decide (numE C 0 6 i1 j1 = 0)))] h2 q h'' → mn_X 129 [.ref 63] h q h'' := by
    intro q h'' z
    rw [e_X8_readsHarm, b_X8_readsHarm_0, m.2.2.1, nI_1, mn_cl_v x1, b_X8_readsHarm_14, m1.2.2.1, mn_cl_i x2]
    exact z
  by_cases z1 : numE C 0 6 i1 j1 = 0
  · obtain ⟨m2, v2⟩ := ok2 z1
    have vb := numE_0 z1
    rw [← eV] at v2 vb
    rw [decide_eq_true z1] at hd
    rw [feS z1]
    have b1 := nq_bit1 (a := td) (k := V) (by omega) (by omega)
    have p6 : 2 ^ V < 2 ^ 6 := Nat.pow_lt_pow_right (by decide) vb.2
    cases q : td.testBit V with
    | true =>
      have ea : agE (numE C 0 6 i1 j1) td V = 4 := by unfold agE; rw [if_pos ⟨z1, q⟩]
      have zn : (agE (numE C 0 6 i1 j1) td V, i1).1 ≠ 0 := by show agE (numE C 0 6 i1 j1) td V ≠ 0; rw [ea]; decide
      rw [feN zn]
      refine ⟨mn_up (mn_up h2 63 10 (nI i1)) 63 11 4, hd _ _ ?_, (g2.up (Or.inl rfl)).up (Or.inr (Or.inl rfl)), fun _ => ⟨?_, ?_⟩, fun z => absurd z zn⟩
      · rw [b_X8_readsHarm_25, if_pos (by decide), b_X8_readsHarm_30, n95, r2, e95, v2, if_neg (fun z => z (b1.mpr q)), b_X8_readsHarm_50, decide_eq_false zn]; exact ⟨rfl, rfl⟩
      · rw [mn_up_get, if_pos ⟨rfl, rfl⟩, ea]; rfl
      · rw [mn_up_get, if_neg (by decide), mn_up_get, if_pos ⟨rfl, rfl⟩]
    | false =>
      have ea : agE (numE C 0 6 i1 j1) td V = 0 := by unfold agE; rw [if_neg (fun z => by rw [q] at z; cases z.2)]
      rw [feS (show (agE (numE C 0 6 i1 j1) td V, i1).1 = 0 from ea)]
      obtain ⟨h3, eh3⟩ : ∃ h3, h3 = mn_up h2 66 95 (nI (td ||| 2 ^ V)) := ⟨_, rfl⟩
      have m3 : MC h3 len C j1 := by rw [eh3]; exact m2.r66
      obtain ⟨h4, x4, f4, ok4, no4⟩ := x_nb (lo := 0) (hb := 100) (b := 0) (c := 99) (by rfl) (by first | rfl | decide) m3 s2 d2 (by decide) (by decide)
      have g3 : pF h h3 := by rw [eh3]; exact g2.up66
      have g4 : pF h h4 := g3.tr f4.pf
      have e89 : (89 : Int32) + nI V = nI (89 + V) := nI_add 89 V
      have v89 : vp_in ((89 : Int32) + nI V) 96 := by rw [e89]; exact vp_in_nI (by omega) (by decide)
      have fin : mn_X 129 [.ref 63] h (some (.int (mz (decide (numE C 0 100 i2 j2 = 0))))) (mn_up h4 66 (89 + V) (h4 63 12 - 50)) := by
        refine hd _ _ ?_
        rw [b_X8_readsHarm_25, if_pos (by decide), b_X8_readsHarm_30, n95, r2, e95, v2, if_pos (fun z => by rw [b1.mp z] at q; cases q), b_X8_readsHarm_62, n95, r2, e95, nq_one (by omega), nq_or (by omega) (by omega), ← eh3, mn_cl_i x4, b_X8_readsHarm_82 v89 (mz_01 _), e89, nI_clamp (by omega)]
        exact ⟨rfl, rfl⟩
      by_cases z2 : numE C 0 100 i2 j2 = 0
      · obtain ⟨m4, v4⟩ := ok4 z2
        rw [feS (show (numE C 0 100 i2 j2, i2).1 = 0 from z2)]
        rw [decide_eq_true z2] at fin
        have row : ∀ k, h4 66 k = if k = 95 then nI (td ||| 2 ^ V) else h 66 k := fun k => by rw [f4.1 66 (by decide), eh3, mn_up_get, r2]; simp
        refine ⟨_, fin, g4.up66, fun z => absurd rfl z, fun _ => ⟨m4.r66, ?_, ?_⟩⟩
        · refine gm.harm w2 (fun j q1 q2 => ?_) vb.2 ?_
          · rw [mn_up_get, if_neg (fun z => q1 z.2), row, if_neg q2]
          · rw [mn_up_get, if_pos ⟨rfl, rfl⟩, v4]
        · rw [mn_up_get, if_neg (by omega), row, if_pos rfl]
      · obtain ⟨m4, v4⟩ := no4 z2
        have zn : (numE C 0 100 i2 j2, i2).1 ≠ 0 := z2
        rw [feN zn]
        rw [decide_eq_false z2] at fin
        refine ⟨_, by rw [decide_eq_false zn]; exact fin, g4.up66, fun _ => ⟨by rw [mn_up_row _ _ _ _ (by decide)]; exact v4, by rw [mn_up_row _ _ _ _ (by decide)]; exact m4.2.2.1⟩, fun z => absurd z zn⟩
  · obtain ⟨m2, v2⟩ := no2 z1
    have zn : (numE C 0 6 i1 j1, i1).1 ≠ 0 := z1
    rw [feN zn]
    rw [decide_eq_false z1] at hd
    refine ⟨h2, hd _ _ ?_, g2, fun _ => ⟨v2, m2.2.2.1⟩, fun z => absurd z zn⟩
    rw [b_X8_readsHarm_25, if_neg (by decide), b_X8_readsHarm_28, decide_eq_false zn]; exact ⟨rfl, rfl⟩
end HRM
/-- what a clause does, in the class and in the model -/
def CLC (len : Nat) (C : Nat → Nat) (t w : Nat) (T : TW) (td F p : Nat) (T' : TW) (td' i' : Nat) : Prop := ∀ h, RC h len C w 0 (-1) → GC h t T → h t 16 = nI td → ∃ h', mn_X 14 [.ref 1, .ref t] h none h' ∧ uF t h h' ∧ (F ≠ 0 → ∃ a, RC h' len C a F (nI p)) ∧ (F = 0 → RC h' len C i' 0 (-1) ∧ GC h' t T' ∧ h' t 16 = nI td')
def MLC (len : Nat) (C : Nat → Nat) (w : Nat) (T : TW) (td F p : Nat) (T' : TW) (td' i' : Nat) : Prop := ∀ (h : mn_H) (x1 : Int32), MC h len C w → GM (h 66) T → h 66 95 = nI td → (F ≠ 0 → ∃ h', mn_E 131 62 [.ref 63, .int x1] [] h (some (.int 0)) h' ∧ pF h h' ∧ h' 63 11 = nI F ∧ h' 63 10 = nI p) ∧ (F = 0 → ∃ h', pF h h' ∧ MC h' len C i' ∧ GM (h' 66) T' ∧ h' 66 95 = nI td' ∧ ∀ q h'', (∃ h5, mn_X 121 [.ref 63] h' none h5 ∧ mn_E 131 109 [.ref 63, .int x1] [] h5 q h'') → mn_E 131 62 [.ref 63, .int x1] [] h q h'')
theorem feA {x : Nat × Nat} : ∀ l : List (Nat × Nat), fe (l ++ [x]) = if (fe l).1 = 0 then fe [x] else fe l := by
  intro l
  induction l with
  | nil => rfl
  | cons y l ih =>
    show fe (y :: (l ++ [x])) = _
    by_cases o : y.1 = 0
    · rw [feS o, feS o]; exact ih
    · rw [feN o, feN o, if_neg o]
section CLS
variable {len : Nat} {C : Nat → Nat} {t w : Nat} {T : TW} {td : Nat}
theorem MLC.mk {l : List (Nat × Nat)} {j i4 td' : Nat} {T' : TW} (s : SK C len j i4) (H : ∀ h, MC h len C w → GM (h 66) T → h 66 95 = nI td → ∃ h', mn_X 130 [.ref 63] h (some (.int (mz (decide ((fe l).1 = 0))))) h' ∧ pF h h' ∧ ((fe l).1 ≠ 0 → h' 63 11 = nI (fe l).1 ∧ h' 63 10 = nI (fe l).2) ∧ ((fe l).1 = 0 → MC h' len C j ∧ GM (h' 66) T' ∧ h' 66 95 = nI td')) : MLC len C w T td (fe (l ++ [(enE len C i4, i4)])).1 (fe (l ++ [(enE len C i4, i4)])).2 T' td' (i4 + 1) := by
  intro h x1 m g e95
  obtain ⟨h1, xx, f1, no, ok⟩ := H h m g e95
  rw [feA]
  by_cases o : (fe l).1 = 0
  · obtain ⟨m1, g1, t1⟩ := ok o
    rw [decide_eq_true o] at xx
    rw [if_pos o]
    obtain ⟨h2, x2, f2, m2, -, -⟩ := x_blanks m1 s
    have r2 : h2 66 = h1 66 := f2.1 66 (by decide)
    have hd : ∀ q h'', mn_E 131 62 [.ref 63, .int x1] [] h q h'' ↔ (if chI len C i4 = 59 then mn_E 131 95 [.ref 63, .int x1] [] h2 q h'' else mn_E 131 88 [.ref 63, .int x1] [] h2 q h'') := by
      intro q h''
      rw [b_X8_reads_62, mn_cl_i xx, b_X8_reads_66, if_pos (by decide), b_X8_reads_71, mn_cl_v x2, b_X8_reads_75, m2.2.2.1, mn_cl_i (x_letterAt m2), b_X8_reads_83]
    have ce := chI_eq (h := h2) (len := len) (C := C) (i := i4) m2.1 (x := 59) (by decide)
    have ce' : chI len C i4 = 59 ↔ (i4 < len ∧ C i4 = 59) := ce
    by_cases z : enE len C i4 = 0
    · have zz := enE_0 z
      rw [feS (show (enE len C i4, i4).1 = 0 from z)]
      refine ⟨fun y => absurd rfl y, fun _ => ⟨mn_up h2 63 10 (nI (i4 + 1)), (f1.tr f2.pf).up (Or.inl rfl), m2.at (by omega), ?_, ?_, fun q h'' y => ?_⟩⟩
      · rw [mn_up_row _ _ _ _ (by decide), r2]; exact g1
      · rw [mn_up_row _ _ _ _ (by decide), r2]; exact t1
      · rw [hd, if_pos (ce'.mpr zz), b_X8_reads_95, m2.2.2.1, nI_1]; exact y
    · have zn : (enE len C i4, i4).1 ≠ 0 := z
      have e1 : enE len C i4 = 1 := by
        unfold enE at z ⊢
        by_cases y : i4 < len ∧ C i4 = 59
        · rw [if_pos y] at z; exact absurd rfl z
        · rw [if_neg y]
      have nz : ¬ (i4 < len ∧ C i4 = 59) := fun y => by unfold enE at z; rw [if_pos y] at z; exact z rfl
      rw [feN zn]
      refine ⟨fun _ => ⟨mn_up h2 63 11 1, ?_, (f1.tr f2.pf).up (Or.inr (Or.inl rfl)), ?_, ?_⟩, fun y => absurd y zn⟩
      · rw [hd, if_neg (fun y => nz (ce'.mp y)), b_X8_reads_88]; exact ⟨rfl, rfl⟩
      · rw [mn_up_get, if_pos ⟨rfl, rfl⟩, e1]; rfl
      · rw [mn_up_get, if_neg (by decide)]; exact m2.2.2.1
  · obtain ⟨a, b⟩ := no o
    rw [decide_eq_false o] at xx
    rw [if_neg o]
    refine ⟨fun _ => ⟨h1, ?_, f1, a, b⟩, fun z => absurd z o⟩
    rw [b_X8_reads_62, mn_cl_i xx, b_X8_reads_66, if_neg (by decide), b_X8_reads_69]; exact ⟨rfl, rfl⟩
/-- the class's clause at its word -/
theorem x_word {h : mn_H} (ht : mn_isT t) (r : RC h len C w 0 (-1)) (hw : w < len) : RC (mn_up h 1 2 (nI (w + 1))) len C (w + 1) 0 (-1) ∧ oF h (mn_up h 1 2 (nI (w + 1))) ∧ ∀ q h'', mn_E 14 26 [.ref 1, .ref t, .int (nI w), .int (nI (C w))] [.int (nI (C w))] (mn_up h 1 2 (nI (w + 1))) q h'' → mn_X 14 [.ref 1, .ref t] h q h'' := by
  obtain ⟨v, c, c2⟩ := r.lt hw
  refine ⟨r.at (by omega), (oF.rf h).up, fun q h'' z => ?_⟩
  rw [e_X2_readClause, b_X2_readClause_0 ht v, c, r.2.2.1, nI_1]
  exact z
theorem oF.uf {h hh : mn_H} (o : oF h hh) : uF t h hh := fun b q _ => o b q
theorem uF.tr {h h1 h2 : mn_H} (a : uF t h h1) (b : uF t h1 h2) : uF t h h2 := fun c x y => (b c x y).trans (a c x y)
theorem x_mword {h : mn_H} (m : MC h len C w) (hw : w < len) : ∀ q h'', mn_E 130 8 [.ref 63] [.int (nI (C w))] h q h'' → mn_X 130 [.ref 63] h q h'' := by
  intro q h'' z
  rw [e_X8_readsClause, b_X8_readsClause_0, m.2.2.1, mn_cl_i (x_letterAt m)]
  unfold chI
  rw [if_pos hw]; exact z
theorem SK_get {i : Nat} (hi : i ≤ len) : ∃ j, SK C len i j ∧ i ≤ j ∧ j ≤ len := by
  obtain ⟨j, hj⟩ := UN_get (fun k => C k = 32) hi
  exact ⟨j, hj, hj.1, hj.2.1⟩
theorem DG_get {i : Nat} (hi : i ≤ len) : ∃ j, DG C len i j ∧ i ≤ j ∧ j ≤ len := by
  obtain ⟨j, hj⟩ := UN_get (fun k => 48 ≤ C k ∧ C k ≤ 57) hi
  exact ⟨j, hj, hj.1, hj.2.1⟩
def CLO (len : Nat) (C : Nat → Nat) (t w : Nat) (T : TW) (td : Nat) : Prop := ∃ F p T' td' i', F < 10 ∧ (F = 0 → w < i' ∧ i' ≤ len ∧ TW2 T' ∧ td' < 64) ∧ CLC len C t w T td F p T' td' i' ∧ MLC len C w T td F p T' td' i'
theorem fe_lt : ∀ {l : List (Nat × Nat)}, (∀ x, x ∈ l → x.1 < 10) → (fe l).1 < 10 := by
  intro l
  induction l with
  | nil => intro _; show 0 < 10; decide
  | cons x l ih =>
    intro h
    by_cases o : x.1 = 0
    · rw [feS o]; exact ih (fun y hy => h y (List.mem_cons_of_mem _ hy))
    · rw [feN o]; exact h x (List.mem_cons_self)
theorem l_b (ht : mn_isT t) (w2 : TW2 T) (h64 : td < 64) (hw : w < len) (hc : C w = 98) : CLO len C t w T td := by
  obtain ⟨i1, s1, p1, u1⟩ := SK_get (C := C) (len := len) (i := w + 1) (by omega)
  have kb : (if kdE len C i1 = 0 then i1 + 1 else i1) ≤ len ∧ i1 ≤ (if kdE len C i1 = 0 then i1 + 1 else i1) := by
    by_cases q : kdE len C i1 = 0
    · have := (kdE_0 q).1; rw [if_pos q]; omega
    · rw [if_neg q]; omega
  obtain ⟨i2, s2, p2, u2⟩ := SK_get (C := C) (len := len) (i := if kdE len C i1 = 0 then i1 + 1 else i1) kb.1
  obtain ⟨j2, d2, o2, v2⟩ := DG_get (C := C) (len := len) (i := i2) u2
  obtain ⟨i3, s3, p3, u3⟩ := SK_get (C := C) (len := len) (i := j2) (by omega)
  obtain ⟨j3, d3, o3, v3⟩ := DG_get (C := C) (len := len) (i := i3) u3
  obtain ⟨i4, s4, p4, u4⟩ := SK_get (C := C) (len := len) (i := j3) (by omega)
  refine ⟨(fe [(rmE (T 0 0) 5, w), (kdE len C i1, i1), (numE C 0 6 i2 j2, i2), (numE C 0 6 i3 j3, i3), (enE len C i4, i4)]).1, (fe [(rmE (T 0 0) 5, w), (kdE len C i1, i1), (numE C 0 6 i2 j2, i2), (numE C 0 6 i3 j3, i3), (enE len C i4, i4)]).2, twA T 0 (fun a => if a = 1 then kdN (C i1) else if a = 2 then dvN C i2 (min (j2 - i2) 3) else dvN C i3 (min (j3 - i3) 3)), td, i4 + 1, ?_, fun F0 => ?_, fun h r g e => ?_, ?_⟩
  · refine fe_lt (fun x hx => ?_)
    simp only [List.mem_cons, List.mem_nil_iff, or_false] at hx
    rcases hx with rfl | rfl | rfl | rfl | rfl
    · exact rmE_lt _ _
    · exact kdE_lt _ _ _
    · exact numE_lt _ _ _ _ _
    · exact numE_lt _ _ _ _ _
    · exact enE_lt _ _ _
  · simp only [fe0] at F0
    obtain ⟨a0, a1, a2, a3, a4, -⟩ := F0
    have ee := enE_0 a4
    have b1 := (kdE_0 a1).2
    have b2 := numE_0 a2
    have b3 := numE_0 a3
    refine ⟨by omega, by omega, w2.add (c := 0) (by decide) rfl (rmE_0 a0) (fun a h1 h2 h3 => ?_) (fun z => absurd z (by decide)), h64⟩
    have ha : a = 1 ∨ a = 2 ∨ a = 3 := (by decide : ∀ a, a < 17 → 1 ≤ a → twg a = 0 → a = 1 ∨ a = 2 ∨ a = 3) a (by omega) h1 h3
    rcases ha with rfl | rfl | rfl
    · show 0 ≤ kdN (C i1) ∧ kdN (C i1) ≤ 4; omega
    · show 0 ≤ dvN C i2 (min (j2 - i2) 3) ∧ dvN C i2 (min (j2 - i2) 3) ≤ 5; omega
    · show 0 ≤ dvN C i3 (min (j3 - i3) 3) ∧ dvN C i3 (min (j3 - i3) 3) ≤ 5; omega
  · obtain ⟨r1, o1, E⟩ := x_word ht r hw
    have g1 := g.of ht o1
    have e1 : mn_up h 1 2 (nI (w + 1)) t 16 = nI td := by rw [mn_up_row _ _ _ _ (by rcases ht with q | q <;> omega)]; exact e
    obtain ⟨h2, x2, f2, A, B⟩ := c_bell (w := w) ht s1 s2 d2 s3 d3 s4 w2 r1 g1 e1
    refine ⟨h2, E _ _ ?_, o1.uf.tr f2, A, B⟩
    rw [hc, show nI 98 = (98 : Int32) from rfl, b_X2_readClause_26_98 ht, b_X2_readClause_112 ht, mn_cl_v x2, b_X2_readClause_118 ht, b_X2_readClause_177 ht]; exact ⟨rfl, rfl⟩
  · refine MLC.mk (l := [(rmE (T 0 0) 5, w), (kdE len C i1, i1), (numE C 0 6 i2 j2, i2), (numE C 0 6 i3 j3, i3)]) s4 (fun h m g e => ?_)
    obtain ⟨h2, x2, f2, A, B⟩ := m_bell s1 s2 d2 s3 d3 hw w2 m g e
    refine ⟨h2, x_mword m hw _ _ ?_, f2, A, B⟩
    rw [hc, show nI 98 = (98 : Int32) from rfl, b_X8_readsClause_8_98, b_X8_readsClause_96, mn_cl_i x2, b_X8_readsClause_100 (mz_01 _)]; exact ⟨rfl, rfl⟩
theorem l_g (ht : mn_isT t) (w2 : TW2 T) (h64 : td < 64) (hw : w < len) (hc : C w = 103) : CLO len C t w T td := by
  obtain ⟨i1, s1, p1, u1⟩ := SK_get (C := C) (len := len) (i := w + 1) (by omega)
  obtain ⟨j1, d1, o1, v1⟩ := DG_get (C := C) (len := len) (i := i1) u1
  obtain ⟨i2, s2, p2, u2⟩ := SK_get (C := C) (len := len) (i := j1) (by omega)
  obtain ⟨j2, d2, o2, v2⟩ := DG_get (C := C) (len := len) (i := i2) u2
  obtain ⟨i3, s3, p3, u3⟩ := SK_get (C := C) (len := len) (i := j2) (by omega)
  obtain ⟨j3, d3, o3, v3⟩ := DG_get (C := C) (len := len) (i := i3) u3
  obtain ⟨i4, s4, p4, u4⟩ := SK_get (C := C) (len := len) (i := j3) (by omega)
  obtain ⟨j4, d4, o4, v4⟩ := DG_get (C := C) (len := len) (i := i4) u4
  obtain ⟨i5, s5, p5, u5⟩ := SK_get (C := C) (len := len) (i := j4) (by omega)
  refine ⟨(fe [(rmE (T 0 1) 6, w), (numE C 1 100 i1 j1, i1), (numE C 0 (T 0 0) i2 j2, i2), (numE C 0 7 i3 j3, i3), (numE C 0 7 i4 j4, i4), (enE len C i5, i5)]).1, (fe [(rmE (T 0 1) 6, w), (numE C 1 100 i1 j1, i1), (numE C 0 (T 0 0) i2 j2, i2), (numE C 0 7 i3 j3, i3), (numE C 0 7 i4 j4, i4), (enE len C i5, i5)]).2, twA T 1 (fun a => if a = 4 then dvN C i1 (min (j1 - i1) 3) else if a = 5 then dvN C i2 (min (j2 - i2) 3) else if a = 6 then dvN C i3 (min (j3 - i3) 3) else dvN C i4 (min (j4 - i4) 3)), td, i5 + 1, ?_, fun F0 => ?_, fun h r g e => ?_, ?_⟩
  · refine fe_lt (fun x hx => ?_)
    simp only [List.mem_cons, List.mem_nil_iff, or_false] at hx
    rcases hx with rfl | rfl | rfl | rfl | rfl | rfl
    · exact rmE_lt _ _
    · exact numE_lt _ _ _ _ _
    · exact numE_lt _ _ _ _ _
    · exact numE_lt _ _ _ _ _
    · exact numE_lt _ _ _ _ _
    · exact enE_lt _ _ _
  · simp only [fe0] at F0
    obtain ⟨a0, a1, a2, a3, a4, a5, -⟩ := F0
    have ee := enE_0 a5
    have b1 := numE_0 a1
    have b2 := numE_0 a2
    have b3 := numE_0 a3
    have b4 := numE_0 a4
    refine ⟨by omega, by omega, w2.add (c := 1) (by decide) rfl (rmE_0 a0) (fun a h1 h2 h3 => ?_) (fun z => b2.2), h64⟩
    have ha : a = 4 ∨ a = 5 ∨ a = 6 ∨ a = 7 := (by decide : ∀ a, a < 17 → 1 ≤ a → twg a = 1 → a = 4 ∨ a = 5 ∨ a = 6 ∨ a = 7) a (by omega) h1 h3
    rcases ha with rfl | rfl | rfl | rfl
    · show 1 ≤ dvN C i1 (min (j1 - i1) 3) ∧ dvN C i1 (min (j1 - i1) 3) ≤ 99; omega
    · show 0 ≤ dvN C i2 (min (j2 - i2) 3) ∧ dvN C i2 (min (j2 - i2) 3) ≤ 4; have q : T 0 0 ≤ 5 := w2.1 0 (by decide); omega
    · show 0 ≤ dvN C i3 (min (j3 - i3) 3) ∧ dvN C i3 (min (j3 - i3) 3) ≤ 6; omega
    · show 0 ≤ dvN C i4 (min (j4 - i4) 3) ∧ dvN C i4 (min (j4 - i4) 3) ≤ 6; omega
  · obtain ⟨r1, o1, E⟩ := x_word ht r hw
    have g1 := g.of ht o1
    have e1 : mn_up h 1 2 (nI (w + 1)) t 16 = nI td := by rw [mn_up_row _ _ _ _ (by rcases ht with q | q <;> omega)]; exact e
    obtain ⟨h2, x2, f2, A, B⟩ := c_group (w := w) ht s1 d1 s2 d2 s3 d3 s4 d4 s5 w2 r1 g1 e1
    refine ⟨h2, E _ _ ?_, o1.uf.tr f2, A, B⟩
    rw [hc, show nI 103 = (103 : Int32) from rfl, b_X2_readClause_26_103 ht, b_X2_readClause_121 ht, mn_cl_v x2, b_X2_readClause_127 ht, b_X2_readClause_177 ht]; exact ⟨rfl, rfl⟩
  · refine MLC.mk (l := [(rmE (T 0 1) 6, w), (numE C 1 100 i1 j1, i1), (numE C 0 (T 0 0) i2 j2, i2), (numE C 0 7 i3 j3, i3), (numE C 0 7 i4 j4, i4)]) s5 (fun h m g e => ?_)
    obtain ⟨h2, x2, f2, A, B⟩ := m_group s1 d1 s2 d2 s3 d3 s4 d4 hw w2 m g e
    refine ⟨h2, x_mword m hw _ _ ?_, f2, A, B⟩
    rw [hc, show nI 103 = (103 : Int32) from rfl, b_X8_readsClause_8_103, b_X8_readsClause_101, mn_cl_i x2, b_X8_readsClause_105 (mz_01 _)]; exact ⟨rfl, rfl⟩
theorem l_r (ht : mn_isT t) (w2 : TW2 T) (h64 : td < 64) (hw : w < len) (hc : C w = 114) : CLO len C t w T td := by
  obtain ⟨i1, s1, p1, u1⟩ := SK_get (C := C) (len := len) (i := w + 1) (by omega)
  obtain ⟨j1, d1, o1, v1⟩ := DG_get (C := C) (len := len) (i := i1) u1
  obtain ⟨i2, s2, p2, u2⟩ := SK_get (C := C) (len := len) (i := j1) (by omega)
  obtain ⟨j2, d2, o2, v2⟩ := DG_get (C := C) (len := len) (i := i2) u2
  obtain ⟨i3, s3, p3, u3⟩ := SK_get (C := C) (len := len) (i := j2) (by omega)
  obtain ⟨j3, d3, o3, v3⟩ := DG_get (C := C) (len := len) (i := i3) u3
  obtain ⟨i4, s4, p4, u4⟩ := SK_get (C := C) (len := len) (i := j3) (by omega)
  refine ⟨(fe [(rmE (T 0 2) 8, w), (numE C 0 6 i1 j1, i1), (numE C 0 6 i2 j2, i2), (numE C 1 1000 i3 j3, i3), (enE len C i4, i4)]).1, (fe [(rmE (T 0 2) 8, w), (numE C 0 6 i1 j1, i1), (numE C 0 6 i2 j2, i2), (numE C 1 1000 i3 j3, i3), (enE len C i4, i4)]).2, twA T 2 (fun a => if a = 8 then dvN C i1 (min (j1 - i1) 3) else if a = 9 then dvN C i2 (min (j2 - i2) 3) else dvN C i3 (min (j3 - i3) 3)), td, i4 + 1, ?_, fun F0 => ?_, fun h r g e => ?_, ?_⟩
  · refine fe_lt (fun x hx => ?_)
    simp only [List.mem_cons, List.mem_nil_iff, or_false] at hx
    rcases hx with rfl | rfl | rfl | rfl | rfl
    · exact rmE_lt _ _
    · exact numE_lt _ _ _ _ _
    · exact numE_lt _ _ _ _ _
    · exact numE_lt _ _ _ _ _
    · exact enE_lt _ _ _
  · simp only [fe0] at F0
    obtain ⟨a0, a1, a2, a3, a4, -⟩ := F0
    have ee := enE_0 a4
    have b1 := numE_0 a1
    have b2 := numE_0 a2
    have b3 := numE_0 a3
    refine ⟨by omega, by omega, w2.add (c := 2) (by decide) rfl (rmE_0 a0) (fun a h1 h2 h3 => ?_) (fun z => absurd z (by decide)), h64⟩
    have ha : a = 8 ∨ a = 9 ∨ a = 10 := (by decide : ∀ a, a < 17 → 1 ≤ a → twg a = 2 → a = 8 ∨ a = 9 ∨ a = 10) a (by omega) h1 h3
    rcases ha with rfl | rfl | rfl
    · show 0 ≤ dvN C i1 (min (j1 - i1) 3) ∧ dvN C i1 (min (j1 - i1) 3) ≤ 5; omega
    · show 0 ≤ dvN C i2 (min (j2 - i2) 3) ∧ dvN C i2 (min (j2 - i2) 3) ≤ 5; omega
    · show 1 ≤ dvN C i3 (min (j3 - i3) 3) ∧ dvN C i3 (min (j3 - i3) 3) ≤ 999; omega
  · obtain ⟨r1, o1, E⟩ := x_word ht r hw
    have g1 := g.of ht o1
    have e1 : mn_up h 1 2 (nI (w + 1)) t 16 = nI td := by rw [mn_up_row _ _ _ _ (by rcases ht with q | q <;> omega)]; exact e
    obtain ⟨h2, x2, f2, A, B⟩ := c_cause (w := w) ht s1 d1 s2 d2 s3 d3 s4 w2 r1 g1 e1
    refine ⟨h2, E _ _ ?_, o1.uf.tr f2, A, B⟩
    rw [hc, show nI 114 = (114 : Int32) from rfl, b_X2_readClause_26_114 ht, b_X2_readClause_130 ht, mn_cl_v x2, b_X2_readClause_139 ht, b_X2_readClause_177 ht]; exact ⟨rfl, rfl⟩
  · refine MLC.mk (l := [(rmE (T 0 2) 8, w), (numE C 0 6 i1 j1, i1), (numE C 0 6 i2 j2, i2), (numE C 1 1000 i3 j3, i3)]) s4 (fun h m g e => ?_)
    obtain ⟨h2, x2, f2, A, B⟩ := m_cause s1 d1 s2 d2 s3 d3 hw w2 m g e
    refine ⟨h2, x_mword m hw _ _ ?_, f2, A, B⟩
    rw [hc, show nI 114 = (114 : Int32) from rfl, b_X8_readsClause_8_114, b_X8_readsClause_106, mn_cl_i x2, b_X8_readsClause_121 (mz_01 _)]; exact ⟨rfl, rfl⟩
theorem l_s (ht : mn_isT t) (w2 : TW2 T) (h64 : td < 64) (hw : w < len) (hc : C w = 115) : CLO len C t w T td := by
  obtain ⟨i1, s1, p1, u1⟩ := SK_get (C := C) (len := len) (i := w + 1) (by omega)
  obtain ⟨j1, d1, o1, v1⟩ := DG_get (C := C) (len := len) (i := i1) u1
  obtain ⟨i2, s2, p2, u2⟩ := SK_get (C := C) (len := len) (i := j1) (by omega)
  obtain ⟨j2, d2, o2, v2⟩ := DG_get (C := C) (len := len) (i := i2) u2
  obtain ⟨i3, s3, p3, u3⟩ := SK_get (C := C) (len := len) (i := j2) (by omega)
  obtain ⟨j3, d3, o3, v3⟩ := DG_get (C := C) (len := len) (i := i3) u3
  obtain ⟨i4, s4, p4, u4⟩ := SK_get (C := C) (len := len) (i := j3) (by omega)
  refine ⟨(fe [(rmE (T 0 3) 4, w), (numE C 0 6 i1 j1, i1), (numE C 0 6 i2 j2, i2), (numE C 1 1000 i3 j3, i3), (enE len C i4, i4)]).1, (fe [(rmE (T 0 3) 4, w), (numE C 0 6 i1 j1, i1), (numE C 0 6 i2 j2, i2), (numE C 1 1000 i3 j3, i3), (enE len C i4, i4)]).2, twA T 3 (fun a => if a = 11 then dvN C i1 (min (j1 - i1) 3) else if a = 12 then dvN C i2 (min (j2 - i2) 3) else dvN C i3 (min (j3 - i3) 3)), td, i4 + 1, ?_, fun F0 => ?_, fun h r g e => ?_, ?_⟩
  · refine fe_lt (fun x hx => ?_)
    simp only [List.mem_cons, List.mem_nil_iff, or_false] at hx
    rcases hx with rfl | rfl | rfl | rfl | rfl
    · exact rmE_lt _ _
    · exact numE_lt _ _ _ _ _
    · exact numE_lt _ _ _ _ _
    · exact numE_lt _ _ _ _ _
    · exact enE_lt _ _ _
  · simp only [fe0] at F0
    obtain ⟨a0, a1, a2, a3, a4, -⟩ := F0
    have ee := enE_0 a4
    have b1 := numE_0 a1
    have b2 := numE_0 a2
    have b3 := numE_0 a3
    refine ⟨by omega, by omega, w2.add (c := 3) (by decide) rfl (rmE_0 a0) (fun a h1 h2 h3 => ?_) (fun z => absurd z (by decide)), h64⟩
    have ha : a = 11 ∨ a = 12 ∨ a = 13 := (by decide : ∀ a, a < 17 → 1 ≤ a → twg a = 3 → a = 11 ∨ a = 12 ∨ a = 13) a (by omega) h1 h3
    rcases ha with rfl | rfl | rfl
    · show 0 ≤ dvN C i1 (min (j1 - i1) 3) ∧ dvN C i1 (min (j1 - i1) 3) ≤ 5; omega
    · show 0 ≤ dvN C i2 (min (j2 - i2) 3) ∧ dvN C i2 (min (j2 - i2) 3) ≤ 5; omega
    · show 1 ≤ dvN C i3 (min (j3 - i3) 3) ∧ dvN C i3 (min (j3 - i3) 3) ≤ 999; omega
  · obtain ⟨r1, o1, E⟩ := x_word ht r hw
    have g1 := g.of ht o1
    have e1 : mn_up h 1 2 (nI (w + 1)) t 16 = nI td := by rw [mn_up_row _ _ _ _ (by rcases ht with q | q <;> omega)]; exact e
    obtain ⟨h2, x2, f2, A, B⟩ := c_stop (w := w) ht s1 d1 s2 d2 s3 d3 s4 w2 r1 g1 e1
    refine ⟨h2, E _ _ ?_, o1.uf.tr f2, A, B⟩
    rw [hc, show nI 115 = (115 : Int32) from rfl, b_X2_readClause_26_115 ht, b_X2_readClause_142 ht, mn_cl_v x2, b_X2_readClause_151 ht, b_X2_readClause_177 ht]; exact ⟨rfl, rfl⟩
  · refine MLC.mk (l := [(rmE (T 0 3) 4, w), (numE C 0 6 i1 j1, i1), (numE C 0 6 i2 j2, i2), (numE C 1 1000 i3 j3, i3)]) s4 (fun h m g e => ?_)
    obtain ⟨h2, x2, f2, A, B⟩ := m_stop s1 d1 s2 d2 s3 d3 hw w2 m g e
    refine ⟨h2, x_mword m hw _ _ ?_, f2, A, B⟩
    rw [hc, show nI 115 = (115 : Int32) from rfl, b_X8_readsClause_8_115, b_X8_readsClause_122, mn_cl_i x2, b_X8_readsClause_136 (mz_01 _)]; exact ⟨rfl, rfl⟩
theorem l_n (ht : mn_isT t) (w2 : TW2 T) (h64 : td < 64) (hw : w < len) (hc : C w = 110) : CLO len C t w T td := by
  obtain ⟨i1, s1, p1, u1⟩ := SK_get (C := C) (len := len) (i := w + 1) (by omega)
  obtain ⟨j1, d1, o1, v1⟩ := DG_get (C := C) (len := len) (i := i1) u1
  obtain ⟨i2, s2, p2, u2⟩ := SK_get (C := C) (len := len) (i := j1) (by omega)
  obtain ⟨j2, d2, o2, v2⟩ := DG_get (C := C) (len := len) (i := i2) u2
  obtain ⟨i3, s3, p3, u3⟩ := SK_get (C := C) (len := len) (i := j2) (by omega)
  obtain ⟨j3, d3, o3, v3⟩ := DG_get (C := C) (len := len) (i := i3) u3
  obtain ⟨i4, s4, p4, u4⟩ := SK_get (C := C) (len := len) (i := j3) (by omega)
  refine ⟨(fe [(rmE (T 0 4) 3, w), (numE C 0 6 i1 j1, i1), (numE C 1 13 i2 j2, i2), (numE C 0 12 i3 j3, i3), (enE len C i4, i4)]).1, (fe [(rmE (T 0 4) 3, w), (numE C 0 6 i1 j1, i1), (numE C 1 13 i2 j2, i2), (numE C 0 12 i3 j3, i3), (enE len C i4, i4)]).2, twA T 4 (fun a => if a = 14 then dvN C i1 (min (j1 - i1) 3) else if a = 15 then dvN C i2 (min (j2 - i2) 3) else dvN C i3 (min (j3 - i3) 3)), td, i4 + 1, ?_, fun F0 => ?_, fun h r g e => ?_, ?_⟩
  · refine fe_lt (fun x hx => ?_)
    simp only [List.mem_cons, List.mem_nil_iff, or_false] at hx
    rcases hx with rfl | rfl | rfl | rfl | rfl
    · exact rmE_lt _ _
    · exact numE_lt _ _ _ _ _
    · exact numE_lt _ _ _ _ _
    · exact numE_lt _ _ _ _ _
    · exact enE_lt _ _ _
  · simp only [fe0] at F0
    obtain ⟨a0, a1, a2, a3, a4, -⟩ := F0
    have ee := enE_0 a4
    have b1 := numE_0 a1
    have b2 := numE_0 a2
    have b3 := numE_0 a3
    refine ⟨by omega, by omega, w2.add (c := 4) (by decide) rfl (rmE_0 a0) (fun a h1 h2 h3 => ?_) (fun z => absurd z (by decide)), h64⟩
    have ha : a = 14 ∨ a = 15 ∨ a = 16 := (by decide : ∀ a, a < 17 → 1 ≤ a → twg a = 4 → a = 14 ∨ a = 15 ∨ a = 16) a (by omega) h1 h3
    rcases ha with rfl | rfl | rfl
    · show 0 ≤ dvN C i1 (min (j1 - i1) 3) ∧ dvN C i1 (min (j1 - i1) 3) ≤ 5; omega
    · show 1 ≤ dvN C i2 (min (j2 - i2) 3) ∧ dvN C i2 (min (j2 - i2) 3) ≤ 12; omega
    · show 0 ≤ dvN C i3 (min (j3 - i3) 3) ∧ dvN C i3 (min (j3 - i3) 3) ≤ 11; omega
  · obtain ⟨r1, o1, E⟩ := x_word ht r hw
    have g1 := g.of ht o1
    have e1 : mn_up h 1 2 (nI (w + 1)) t 16 = nI td := by rw [mn_up_row _ _ _ _ (by rcases ht with q | q <;> omega)]; exact e
    obtain ⟨h2, x2, f2, A, B⟩ := c_self (w := w) ht s1 d1 s2 d2 s3 d3 s4 w2 r1 g1 e1
    refine ⟨h2, E _ _ ?_, o1.uf.tr f2, A, B⟩
    rw [hc, show nI 110 = (110 : Int32) from rfl, b_X2_readClause_26_110 ht, b_X2_readClause_154 ht, mn_cl_v x2, b_X2_readClause_160 ht, b_X2_readClause_177 ht]; exact ⟨rfl, rfl⟩
  · refine MLC.mk (l := [(rmE (T 0 4) 3, w), (numE C 0 6 i1 j1, i1), (numE C 1 13 i2 j2, i2), (numE C 0 12 i3 j3, i3)]) s4 (fun h m g e => ?_)
    obtain ⟨h2, x2, f2, A, B⟩ := m_self s1 d1 s2 d2 s3 d3 hw w2 m g e
    refine ⟨h2, x_mword m hw _ _ ?_, f2, A, B⟩
    rw [hc, show nI 110 = (110 : Int32) from rfl, b_X8_readsClause_8_110, b_X8_readsClause_137, mn_cl_i x2, b_X8_readsClause_151 (mz_01 _)]; exact ⟨rfl, rfl⟩
theorem l_h (ht : mn_isT t) (w2 : TW2 T) (h64 : td < 64) (hw : w < len) (hc : C w = 104) : CLO len C t w T td := by
  obtain ⟨i1, s1, p1, u1⟩ := SK_get (C := C) (len := len) (i := w + 1) (by omega)
  obtain ⟨j1, d1, o1, v1⟩ := DG_get (C := C) (len := len) (i := i1) u1
  obtain ⟨i2, s2, p2, u2⟩ := SK_get (C := C) (len := len) (i := j1) (by omega)
  obtain ⟨j2, d2, o2, v2⟩ := DG_get (C := C) (len := len) (i := i2) u2
  obtain ⟨i3, s3, p3, u3⟩ := SK_get (C := C) (len := len) (i := j2) (by omega)
  refine ⟨(fe [(numE C 0 6 i1 j1, i1), (agE (numE C 0 6 i1 j1) td (dvN C i1 (min (j1 - i1) 3)), i1), (numE C 0 100 i2 j2, i2), (enE len C i3, i3)]).1, (fe [(numE C 0 6 i1 j1, i1), (agE (numE C 0 6 i1 j1) td (dvN C i1 (min (j1 - i1) 3)), i1), (numE C 0 100 i2 j2, i2), (enE len C i3, i3)]).2, twH T (dvN C i1 (min (j1 - i1) 3)) (dvN C i2 (min (j2 - i2) 3)), td ||| 2 ^ dvN C i1 (min (j1 - i1) 3), i3 + 1, ?_, fun F0 => ?_, fun h r g e => ?_, ?_⟩
  · refine fe_lt (fun x hx => ?_)
    simp only [List.mem_cons, List.mem_nil_iff, or_false] at hx
    rcases hx with rfl | rfl | rfl | rfl
    · exact numE_lt _ _ _ _ _
    · exact agE_lt _ _ _
    · exact numE_lt _ _ _ _ _
    · exact enE_lt _ _ _
  · simp only [fe0] at F0
    obtain ⟨a0, a1, a2, a3, -⟩ := F0
    have ee := enE_0 a3
    have b1 := numE_0 a0
    have b2 := numE_0 a2
    have pw : 2 ^ dvN C i1 (min (j1 - i1) 3) < 2 ^ 6 := Nat.pow_lt_pow_right (by decide) b1.2
    exact ⟨by omega, by omega, w2.harm (by omega), mn_or64 h64 pw⟩
  · obtain ⟨r1, o1, E⟩ := x_word ht r hw
    have g1 := g.of ht o1
    have e1 : mn_up h 1 2 (nI (w + 1)) t 16 = nI td := by rw [mn_up_row _ _ _ _ (by rcases ht with q | q <;> omega)]; exact e
    obtain ⟨h2, x2, f2, A, B⟩ := c_harm (w := w) ht s1 d1 s2 d2 s3 h64 r1 g1 e1
    refine ⟨h2, E _ _ ?_, o1.uf.tr f2, A, B⟩
    rw [hc, show nI 104 = (104 : Int32) from rfl, b_X2_readClause_26_104 ht, b_X2_readClause_163 ht, mn_cl_v x2, b_X2_readClause_168 ht, b_X2_readClause_177 ht]; exact ⟨rfl, rfl⟩
  · refine MLC.mk (l := [(numE C 0 6 i1 j1, i1), (agE (numE C 0 6 i1 j1) td (dvN C i1 (min (j1 - i1) 3)), i1), (numE C 0 100 i2 j2, i2)]) s3 (fun h m g e => ?_)
    obtain ⟨h2, x2, f2, A, B⟩ := m_harm s1 d1 s2 d2 hw w2 h64 m g e
    refine ⟨h2, x_mword m hw _ _ ?_, f2, A, B⟩
    rw [hc, show nI 104 = (104 : Int32) from rfl, b_X8_readsClause_8_104, b_X8_readsClause_152, mn_cl_i x2, b_X8_readsClause_156 (mz_01 _)]; exact ⟨rfl, rfl⟩
theorem l_d (ht : mn_isT t) (hw : w < len) (hc : ¬ (C w = 98 ∨ C w = 103 ∨ C w = 104 ∨ C w = 110 ∨ C w = 114 ∨ C w = 115)) : CLO len C t w T td := by
  refine ⟨1, w, T, td, 0, by decide, fun z => absurd z (by decide), fun h r g e => ?_, fun h x1 m g e => ?_⟩
  · obtain ⟨r1, o1, E⟩ := x_word ht r hw
    obtain ⟨v, c, c2⟩ := r.lt hw
    obtain ⟨h2, x2, o2, r2, -⟩ := x_blame (e := 1) (p := w) r1 (by decide) (by decide)
    refine ⟨h2, E _ _ ?_, (o1.tr o2).uf, fun _ => ⟨_, r2⟩, fun z => absurd z (by decide)⟩
    have fin : mn_E 14 171 [.ref 1, .ref t, .int (nI w), .int (nI (C w))] [] (mn_up h 1 2 (nI (w + 1))) none h2 := by
      rw [b_X2_readClause_171 ht]
      rw [mn_cl_v (show mn_X 24 [.ref 1, .int 1, .int (nI w)] (mn_up h 1 2 (nI (w + 1))) none h2 from x2), b_X2_readClause_177 ht]; exact ⟨rfl, rfl⟩
    generalize C w = c0 at *
    by_cases o : c0 < 98 ∨ 115 < c0
    · rw [b_X2_readClause_26_d ht (by rw [nI_toInt (by omega)]; omega)]; exact fin
    · have cs : c0 = 99 ∨ c0 = 100 ∨ c0 = 101 ∨ c0 = 102 ∨ c0 = 105 ∨ c0 = 106 ∨ c0 = 107 ∨ c0 = 108 ∨ c0 = 109 ∨ c0 = 111 ∨ c0 = 112 ∨ c0 = 113 := by omega
      rcases cs with rfl | rfl | rfl | rfl | rfl | rfl | rfl | rfl | rfl | rfl | rfl | rfl
      · exact (b_X2_readClause_26_99 ht).mpr fin
      · exact (b_X2_readClause_26_100 ht).mpr fin
      · exact (b_X2_readClause_26_101 ht).mpr fin
      · exact (b_X2_readClause_26_102 ht).mpr fin
      · exact (b_X2_readClause_26_105 ht).mpr fin
      · exact (b_X2_readClause_26_106 ht).mpr fin
      · exact (b_X2_readClause_26_107 ht).mpr fin
      · exact (b_X2_readClause_26_108 ht).mpr fin
      · exact (b_X2_readClause_26_109 ht).mpr fin
      · exact (b_X2_readClause_26_111 ht).mpr fin
      · exact (b_X2_readClause_26_112 ht).mpr fin
      · exact (b_X2_readClause_26_113 ht).mpr fin
  · obtain ⟨-, c2⟩ := m.1
    have c2 := (c2 w hw).1
    have xx : mn_X 130 [.ref 63] h (some (.int 0)) (mn_up h 63 11 1) := by
      refine x_mword m hw _ _ ?_
      have fin : mn_E 130 157 [.ref 63] [] h (some (.int 0)) (mn_up h 63 11 1) := by rw [b_X8_readsClause_157]; exact ⟨rfl, rfl⟩
      generalize C w = c0 at *
      by_cases o : c0 < 98 ∨ 115 < c0
      · rw [b_X8_readsClause_8_d (by rw [nI_toInt (by omega)]; omega)]; exact fin
      · have cs : c0 = 99 ∨ c0 = 100 ∨ c0 = 101 ∨ c0 = 102 ∨ c0 = 105 ∨ c0 = 106 ∨ c0 = 107 ∨ c0 = 108 ∨ c0 = 109 ∨ c0 = 111 ∨ c0 = 112 ∨ c0 = 113 := by omega
        rcases cs with rfl | rfl | rfl | rfl | rfl | rfl | rfl | rfl | rfl | rfl | rfl | rfl
        · exact (b_X8_readsClause_8_99).mpr fin
        · exact (b_X8_readsClause_8_100).mpr fin
        · exact (b_X8_readsClause_8_101).mpr fin
        · exact (b_X8_readsClause_8_102).mpr fin
        · exact (b_X8_readsClause_8_105).mpr fin
        · exact (b_X8_readsClause_8_106).mpr fin
        · exact (b_X8_readsClause_8_107).mpr fin
        · exact (b_X8_readsClause_8_108).mpr fin
        · exact (b_X8_readsClause_8_109).mpr fin
        · exact (b_X8_readsClause_8_111).mpr fin
        · exact (b_X8_readsClause_8_112).mpr fin
        · exact (b_X8_readsClause_8_113).mpr fin
    refine ⟨fun _ => ⟨mn_up h 63 11 1, ?_, (pF.rf h).up (Or.inr (Or.inl rfl)), by rw [mn_up_get, if_pos ⟨rfl, rfl⟩]; rfl, by rw [mn_up_get, if_neg (by decide)]; exact m.2.2.1⟩, fun z => absurd z (by decide)⟩
    rw [b_X8_reads_62, mn_cl_i xx, b_X8_reads_66, if_neg (by decide), b_X8_reads_69]; exact ⟨rfl, rfl⟩
theorem l_all (ht : mn_isT t) (w2 : TW2 T) (h64 : td < 64) (hw : w < len) : CLO len C t w T td := by
  by_cases o : C w = 98 ∨ C w = 103 ∨ C w = 104 ∨ C w = 110 ∨ C w = 114 ∨ C w = 115
  · rcases o with o | o | o | o | o | o
    · exact l_b ht w2 h64 hw o
    · exact l_g ht w2 h64 hw o
    · exact l_h ht w2 h64 hw o
    · exact l_n ht w2 h64 hw o
    · exact l_r ht w2 h64 hw o
    · exact l_s ht w2 h64 hw o
  · exact l_d ht hw o
end CLS
