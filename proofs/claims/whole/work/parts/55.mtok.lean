section MD
variable {h hh : mn_H} {len i j : Nat} {C : Nat → Nat}
theorem MC.at (m : MC h len C i) {k : Nat} (hk : k ≤ len) : MC (mn_up h 63 10 (nI k)) len C k := by
  obtain ⟨a, b, c, d⟩ := m
  refine ⟨a.row (mn_up_row _ _ _ _ (by decide)), ?_, ?_, hk⟩ <;> simp [mn_up_get]
  exact b
theorem MC.s {k : Nat} {x : Int32} (m : MC h len C i) (hk : k = 11 ∨ k = 12) : MC (mn_up h 63 k x) len C i := by
  obtain ⟨a, b, c, d⟩ := m
  refine ⟨a.row (mn_up_row _ _ _ _ (by decide)), ?_, ?_, d⟩
  · rw [mn_up_get, if_neg (fun z => by have := z.2; omega)]; exact b
  · rw [mn_up_get, if_neg (fun z => by have := z.2; omega)]; exact c
theorem MC.r66 {k : Nat} {x : Int32} (m : MC h len C i) : MC (mn_up h 66 k x) len C i := by
  obtain ⟨a, b, c, d⟩ := m
  exact ⟨a.row (mn_up_row _ _ _ _ (by decide)), by rw [mn_up_row _ _ _ _ (by decide)]; exact b, by rw [mn_up_row _ _ _ _ (by decide)]; exact c, d⟩
theorem x_letterAt (m : MC h len C i) : mn_X 120 [.ref 63, .int (nI i)] h (some (.int (chI len C i))) h := by
  obtain ⟨⟨a1, a2⟩, b, c, d⟩ := m
  rw [e_X8_letterAt, b_X8_letterAt_0, b]
  unfold chI
  by_cases q : i < len
  · rw [if_neg (nI_ge q (by omega)), b_X8_letterAt_8 (vp_in_nI (by omega) (by decide)), b_X8_letterAt_18, nI_clamp (by omega), (a2 i q).2, if_pos q]; exact ⟨rfl, rfl⟩
  · rw [if_pos (nI_le (by omega) (by omega)), b_X8_letterAt_17, b_X8_letterAt_18, if_neg q]; exact ⟨rfl, rfl⟩
theorem chI_eq (t : TX h 64 len C) {x : Nat} (hx : x < 2 ^ 31) : chI len C i = nI x ↔ (i < len ∧ C i = x) := by
  unfold chI
  by_cases q : i < len
  · have := (t.2 i q).1
    rw [if_pos q, nI_eq (by omega) hx]; exact ⟨fun z => ⟨q, z⟩, fun z => z.2⟩
  · rw [if_neg q]; exact ⟨fun z => absurd z.symm (nI_nm1 hx), fun z => absurd z.1 q⟩
theorem x_blanks (m : MC h len C i) (s : SK C len i j) : ∃ h', mn_X 121 [.ref 63] h none h' ∧ nF h h' ∧ MC h' len C j ∧ h' 63 11 = h 63 11 ∧ h' 63 12 = h 63 12 := by
  obtain ⟨s1, s2, s3, s4⟩ := s
  have l250 := m.1.1
  have key : ∀ d i hh, i + d = j → nF h hh → MC hh len C i → hh 63 11 = h 63 11 → hh 63 12 = h 63 12 → (∀ k, i ≤ k → k < j → C k = 32) → ∃ h', mn_E 121 0 [.ref 63] [] hh none h' ∧ nF h h' ∧ MC h' len C j ∧ h' 63 11 = h 63 11 ∧ h' 63 12 = h 63 12 := by
    intro d
    induction d with
    | zero =>
      intro i hh e o r e1 e2 _
      have : i = j := by omega
      subst this
      refine ⟨hh, ?_, o, r, e1, e2⟩
      rw [b_X8_blanks_0, r.2.2.1, mn_cl_i (x_letterAt r), b_X8_blanks_8, if_pos (show ¬ chI len C i = 32 from fun z => s4 ((chI_eq (x := 32) r.1 (by decide)).mp z)), b_X8_blanks_26]
      exact ⟨rfl, rfl⟩
    | succ d ih =>
      intro i hh e o r e1 e2 al
      have q : i < len := by omega
      obtain ⟨h', a, b, c', d'⟩ := ih (i + 1) (mn_up hh 63 10 (nI (i + 1))) (by omega) (o.up (Or.inl rfl)) (r.at (by omega)) (by rw [mn_up_get, if_neg (by decide)]; exact e1) (by rw [mn_up_get, if_neg (by decide)]; exact e2) (fun k k1 k2 => al k (by omega) k2)
      refine ⟨h', ?_, b, c', d'⟩
      rw [b_X8_blanks_0, r.2.2.1, mn_cl_i (x_letterAt r), b_X8_blanks_8, if_neg (show ¬ ¬ chI len C i = 32 from fun z => z ((chI_eq (x := 32) r.1 (by decide)).mpr ⟨q, al i (Nat.le_refl _) (by omega)⟩)), b_X8_blanks_13, r.2.2.1, nI_1]
      exact a
  obtain ⟨h', a, b⟩ := key (j - i) i h (by omega) (nF.rf h) m rfl rfl s3
  exact ⟨h', by rw [e_X8_blanks]; exact a, b⟩
theorem x_digit (t : TX h 64 len C) : (decide (¬ chI len C i < 48) && decide (¬ (57 : Int32) < chI len C i)) = true ↔ (i < len ∧ 48 ≤ C i ∧ C i ≤ 57) := by
  unfold chI
  by_cases q : i < len
  · have := (t.2 i q).1
    rw [if_pos q]
    have l1 := nI_ltI (a := C i) (b := 48) (by omega) (by decide)
    have l2 := nI_ltI (a := 57) (b := C i) (by decide) (by omega)
    have l1' : nI (C i) < 48 ↔ C i < 48 := l1
    have l2' : (57 : Int32) < nI (C i) ↔ 57 < C i := l2
    simp only [l1', l2', Bool.and_eq_true, decide_eq_true_eq]
    constructor
    · intro z; exact ⟨q, by omega⟩
    · intro z; omega
  · rw [if_neg q]
    constructor
    · intro z; exact absurd z (by decide)
    · intro z; exact absurd z.1 q
theorem x_number {i0 lo hb : Nat} (m : MC h len C i) (s : SK C len i i0) (d : DG C len i0 j) (hlo : lo < 2 ^ 30) (hhb : hb ≤ 1000) : ∃ h', mn_X 122 [.ref 63, .int (nI lo), .int (nI hb - 1)] h (some (.int (mz (decide (numE C lo hb i0 j = 0))))) h' ∧ nF h h' ∧ (numE C lo hb i0 j = 0 → MC h' len C j ∧ h' 63 12 = nI (dvN C i0 (min (j - i0) 3))) ∧ (¬ numE C lo hb i0 j = 0 → MC h' len C i0 ∧ h' 63 11 = nI (numE C lo hb i0 j)) := by
  obtain ⟨h1, x1, o1, m1, -, -⟩ := x_blanks m s
  have l250 := m.1.1
  obtain ⟨d1, d2, d3, d4⟩ := id d
  have key : ∀ n, i0 + n ≤ j → ∃ h2, nF h h2 ∧ MC h2 len C (i0 + n) ∧ h2 63 12 = nI (if n ≤ 3 then dvN C i0 n else 1000) ∧ ∀ q h', mn_E 122 14 [.ref 63, .int (nI lo), .int (nI hb - 1), .int (nI i0)] [] h2 q h' → mn_E 122 14 [.ref 63, .int (nI lo), .int (nI hb - 1), .int (nI i0)] [] (mn_up h1 63 12 0) q h' := by
    intro n
    induction n with
    | zero => intro _; exact ⟨_, o1.up (Or.inr (Or.inr rfl)), m1.s (Or.inr rfl), by rw [mn_up_get, if_pos ⟨rfl, rfl⟩]; rfl, fun q h' z => z⟩
    | succ n ih =>
      intro hn
      obtain ⟨h2, o2, m2, e2, E2⟩ := ih (by omega)
      have q : i0 + n < len := by omega
      obtain ⟨b1, b2⟩ := d3 (i0 + n) (by omega) (by omega)
      obtain ⟨v, ev⟩ : ∃ v, v = (if n + 1 ≤ 3 then dvN C i0 (n + 1) else 1000) := ⟨_, rfl⟩
      have c64 := (m2.1.2 (i0 + n) q)
      have x114 := x_X8_in (h := h2) (chI len C (i0 + n)) 48 57
      rw [(x_digit m2.1).mpr ⟨q, b1, b2⟩] at x114
      refine ⟨mn_up (mn_up h2 63 12 (nI v)) 63 10 (nI (i0 + (n + 1))), (o2.up (Or.inr (Or.inr rfl))).up (Or.inl rfl), (m2.s (Or.inr rfl)).at (by omega), by rw [mn_up_get, if_neg (by decide), mn_up_get, if_pos ⟨rfl, rfl⟩, ev], fun q' h' z => E2 q' h' ?_⟩
      have e10 : mn_up h2 63 12 (nI v) 63 10 = nI (i0 + n) := by rw [mn_up_get, if_neg (by decide)]; exact m2.2.2.1
      rw [b_X8_number_14, m2.2.2.1, mn_cl_i (x_letterAt m2), b_X8_number_22, mn_cl_i x114, b_X8_number_29, if_neg (by decide), b_X8_number_32, m2.2.2.1, pk_sub (by omega), Nat.add_sub_cancel_left]
      by_cases o : n < 3
      · have dl := dv_999 d (n := n) (by omega) (by omega)
        have ev' : (10 * h2 63 12 + h2 64 (h2 63 10).toNatClampNeg) - 48 = nI v := by
          rw [e2, if_pos (by omega), m2.2.2.1, nI_clamp (by omega), c64.2, show (10 : Int32) = nI 10 from rfl, show (48 : Int32) = nI 48 from rfl, pk_mul, nI_add, pk_sub (by omega), ev, if_pos (by omega), dvN]
          congr 1; omega
        rw [if_neg (show ¬ (3 : Int32) ≤ nI n from nI_ge (b := 3) o (by decide)), b_X8_number_43 (by rw [m2.2.2.1]; exact vp_in_nI (by omega) (by decide)), ev', b_X8_number_69, e10, nI_1]
        exact z
      · have ev' : (1000 : Int32) = nI v := by rw [ev, if_neg (by omega)]; rfl
        rw [if_pos (show (3 : Int32) ≤ nI n from nI_le (a := 3) (by omega) (by omega)), b_X8_number_66, ev', b_X8_number_69, e10, nI_1]
        exact z
  obtain ⟨h2, o2, m2, e2, E2⟩ := key (j - i0) (by omega)
  rw [show i0 + (j - i0) = j by omega] at m2
  have stop : ∀ q h', mn_E 122 85 [.ref 63, .int (nI lo), .int (nI hb - 1), .int (nI i0)] [] h2 q h' → mn_X 122 [.ref 63, .int (nI lo), .int (nI hb - 1)] h q h' := by
    intro q h' z
    have x114 := x_X8_in (h := h2) (chI len C j) 48 57
    have nd : (decide (¬ chI len C j < 48) && decide (¬ (57 : Int32) < chI len C j)) = false := Bool.eq_false_iff.mpr (fun w => by
      have := (x_digit m2.1).mp w
      exact d4 ⟨this.1, this.2⟩)
    rw [nd] at x114
    rw [e_X8_number, b_X8_number_0, mn_cl_v x1, b_X8_number_4, m1.2.2.1]
    apply E2
    rw [b_X8_number_14, m2.2.2.1, mn_cl_i (x_letterAt m2), b_X8_number_22, mn_cl_i x114, b_X8_number_29, if_pos mz_f]
    exact z
  have bad : ∀ e : Nat, (if j ≤ i0 then 1 else 2) = e → e ≠ 0 → mn_E 122 107 [.ref 63, .int (nI lo), .int (nI hb - 1), .int (nI i0)] [] h2 (some (.int 0)) (mn_up (mn_up h2 63 11 (nI e)) 63 10 (nI i0)) := by
    intro e he _
    rw [b_X8_number_107, m2.2.2.1]
    by_cases o : j ≤ i0
    · rw [if_pos o] at he
      rw [if_pos (nI_le o (by omega)), b_X8_number_120, b_X8_number_121, ← he]; exact ⟨rfl, rfl⟩
    · rw [if_neg o] at he
      rw [if_neg (nI_ge (by omega) (by omega)), b_X8_number_116, b_X8_number_121, ← he]; exact ⟨rfl, rfl⟩
  have fbad : nF h (mn_up (mn_up h2 63 11 (nI (numE C lo hb i0 j))) 63 10 (nI i0)) := (o2.up (Or.inr (Or.inl rfl))).up (Or.inl rfl)
  have mbad : MC (mn_up (mn_up h2 63 11 (nI (numE C lo hb i0 j))) 63 10 (nI i0)) len C i0 := (m2.s (Or.inl rfl)).at (by omega)
  have ebad : (mn_up (mn_up h2 63 11 (nI (numE C lo hb i0 j))) 63 10 (nI i0)) 63 11 = nI (numE C lo hb i0 j) := by rw [mn_up_get, if_neg (by decide), mn_up_get, if_pos ⟨rfl, rfl⟩]
  by_cases o : j = i0
  · have en : numE C lo hb i0 j = 1 := by unfold numE; rw [if_pos o]
    refine ⟨_, stop _ _ ?_, fbad, (fun z => by rw [en] at z; cases z), fun _ => ⟨mbad, ebad⟩⟩
    rw [b_X8_number_85, m2.2.2.1, if_pos (nI_le (by omega) (by omega)), en]
    exact bad 1 (by rw [if_pos (by omega)]) (by decide)
  · have jl : i0 < j := by omega
    obtain ⟨V, eV⟩ : ∃ V, V = (if j - i0 ≤ 3 then dvN C i0 (j - i0) else 1000) := ⟨_, rfl⟩
    rw [← eV] at e2
    have Vl : V ≤ 1000 := by
      rw [eV]; split
      · have := dv_999 d (n := j - i0) (by omega) (by omega); omega
      · exact Nat.le_refl _
    have hd : ∀ q h', mn_E 122 85 [.ref 63, .int (nI lo), .int (nI hb - 1), .int (nI i0)] [] h2 q h' ↔ (if mz (decide (¬ nI V < nI lo) && decide (¬ nI hb - 1 < nI V)) = 0 then mn_E 122 107 [.ref 63, .int (nI lo), .int (nI hb - 1), .int (nI i0)] [] h2 q h' else mn_E 122 105 [.ref 63, .int (nI lo), .int (nI hb - 1), .int (nI i0)] [] h2 q h') := by
      intro q h'
      rw [b_X8_number_85, m2.2.2.1, if_neg (nI_ge jl (by omega)), b_X8_number_93, e2, mn_cl_i (x_X8_in _ _ _), b_X8_number_102]
    have l1 := nI_ltI (a := V) (b := lo) (by omega) (by omega)
    have l2 : (nI hb - 1 < nI V) ↔ hb ≤ V := by
      rw [← Int32.not_le, nI_lep (by omega) (by omega)]; omega
    by_cases o1 : lo ≤ V ∧ V < hb
    · have j3 : j - i0 ≤ 3 := by
        by_cases q : j - i0 ≤ 3
        · exact q
        · rw [if_neg q] at eV; omega
      have eV2 : V = dvN C i0 (min (j - i0) 3) := by rw [eV, if_pos j3, show min (j - i0) 3 = j - i0 by omega]
      have en : numE C lo hb i0 j = 0 := by unfold numE; rw [if_neg o, ← eV2, if_neg (by omega)]
      have eb : (decide (¬ nI V < nI lo) && decide (¬ nI hb - 1 < nI V)) = true := by
        simp only [l1, l2, Bool.and_eq_true, decide_eq_true_eq]; omega
      refine ⟨h2, stop _ _ ?_, o2, fun _ => ⟨m2, by rw [← eV2]; exact e2⟩, fun z => absurd en z⟩
      rw [hd, eb, if_neg (by decide), b_X8_number_105, en]; exact ⟨rfl, rfl⟩
    · have en : numE C lo hb i0 j = 2 := by
        unfold numE
        rw [if_neg o, if_pos ?_]
        by_cases j3 : j - i0 ≤ 3
        · have eV2 : V = dvN C i0 (min (j - i0) 3) := by rw [eV, if_pos j3, show min (j - i0) 3 = j - i0 by omega]
          rw [← eV2]; omega
        · omega
      have eb : (decide (¬ nI V < nI lo) && decide (¬ nI hb - 1 < nI V)) = false := by
        rw [Bool.eq_false_iff]
        simp only [l1, l2, ne_eq, Bool.and_eq_true, decide_eq_true_eq]; omega
      refine ⟨_, stop _ _ ?_, fbad, (fun z => by rw [en] at z; cases z), fun _ => ⟨mbad, ebad⟩⟩
      rw [hd, eb, if_pos mz_f, en]
      exact bad 2 (by rw [if_neg (by omega)]) (by decide)
/-- the draft too -/
def pF (h hh : mn_H) : Prop := (∀ b, b ≠ 63 → b ≠ 66 → hh b = h b) ∧ ∀ k, k ≠ 10 → k ≠ 11 → k ≠ 12 → hh 63 k = h 63 k
theorem pF.rf (h : mn_H) : pF h h := ⟨fun _ _ _ => rfl, fun _ _ _ _ => rfl⟩
theorem pF.tr {h h1 h2 : mn_H} (a : pF h h1) (b : pF h1 h2) : pF h h2 := ⟨fun c x y => (b.1 c x y).trans (a.1 c x y), fun k x y z => (b.2 k x y z).trans (a.2 k x y z)⟩
theorem nF.pf (f : nF h hh) : pF h hh := ⟨fun b q _ => f.1 b q, f.2⟩
theorem pF.up66 (f : pF h hh) {k : Nat} {x : Int32} : pF h (mn_up hh 66 k x) := ⟨fun b q q2 => by rw [mn_up_row _ _ _ _ q2]; exact f.1 b q q2, fun j a b c => by rw [mn_up_row _ _ _ _ (by decide)]; exact f.2 j a b c⟩
theorem pF.up {k : Nat} {x : Int32} (f : pF h hh) (hk : k = 10 ∨ k = 11 ∨ k = 12) : pF h (mn_up hh 63 k x) :=
  ⟨fun b q q2 => by rw [mn_up_row _ _ _ _ q]; exact f.1 b q q2, fun j a b c => by rw [mn_up_get, if_neg (fun z => by have := z.2; omega)]; exact f.2 j a b c⟩
theorem x_lays {i0 lo hb p : Nat} (m : MC h len C i) (s : SK C len i i0) (d : DG C len i0 j) (hlo : lo < 2 ^ 30) (hhb : hb ≤ 1000) (hp : p < 96) : ∃ h', mn_X 123 [.ref 63, .int (nI p), .int (nI lo), .int (nI hb - 1)] h (some (.int (mz (decide (numE C lo hb i0 j = 0))))) h' ∧ pF h h' ∧ (∀ k, k ≠ p → h' 66 k = h 66 k) ∧ (numE C lo hb i0 j = 0 → MC h' len C j ∧ h' 66 p = nI (dvN C i0 (min (j - i0) 3))) ∧ (¬ numE C lo hb i0 j = 0 → MC h' len C i0 ∧ h' 63 11 = nI (numE C lo hb i0 j)) := by
  obtain ⟨h1, x1, f1, a1, b1⟩ := x_number m s d hlo hhb
  refine ⟨mn_up h1 66 p (h1 63 12), ?_, f1.pf.up66, fun k hk => ?_, fun e => ?_, fun e => ?_⟩
  · rw [e_X8_lays, b_X8_lays_0, mn_cl_i x1, b_X8_lays_6 (vp_in_nI hp (by decide)) (mz_01 _), nI_clamp (by omega)]; exact ⟨rfl, rfl⟩
  · rw [mn_up_get, if_neg (fun z => hk z.2), f1.1 66 (by decide)]
  · exact ⟨(a1 e).1.r66, by rw [mn_up_get, if_pos ⟨rfl, rfl⟩]; exact (a1 e).2⟩
  · exact ⟨(b1 e).1.r66, by rw [mn_up_row _ _ _ _ (by decide)]; exact (b1 e).2⟩
theorem x_kindOf {k : Nat} (t : TX h 64 len C) : mn_X 124 [.int (chI len C k)] hh (some (.int (if kdE len C k = 0 then nI (kdN (C k)) else -1))) hh := by
  have e : ∀ x, x < 2 ^ 31 → (chI len C k = nI x ↔ (k < len ∧ C k = x)) := fun x hx => chI_eq t hx
  have e1 : chI len C k = 99 ↔ (k < len ∧ C k = 99) := e 99 (by decide)
  have e2 : chI len C k = 109 ↔ (k < len ∧ C k = 109) := e 109 (by decide)
  have e3 : chI len C k = 100 ↔ (k < len ∧ C k = 100) := e 100 (by decide)
  have e4 : chI len C k = 107 ↔ (k < len ∧ C k = 107) := e 107 (by decide)
  have e5 : chI len C k = 121 ↔ (k < len ∧ C k = 121) := e 121 (by decide)
  by_cases q : k < len
  · unfold kdE kdN
    by_cases o1 : C k = 99
    · have z := e1.mpr ⟨q, o1⟩
      simp only [e_X8_kindOf, b_X8_kindOf_0, b_X8_kindOf_6, b_X8_kindOf_51, z, o1, q, i10, i00, i01, i11, not_true_eq_false, not_false_eq_true, if_true, if_false, true_or, or_true, true_and, and_true, and_false, false_and]; simp; rfl
    · by_cases o2 : C k = 109
      · have z := e2.mpr ⟨q, o2⟩
        simp +decide only [e_X8_kindOf, b_X8_kindOf_0, b_X8_kindOf_10, b_X8_kindOf_16, b_X8_kindOf_51, z, o2, q, i10, i00, i01, i11, not_true_eq_false, not_false_eq_true, if_true, if_false, true_or, or_true, true_and, and_true, and_false, false_and]
      · by_cases o3 : C k = 100
        · have z := e3.mpr ⟨q, o3⟩
          simp +decide only [e_X8_kindOf, b_X8_kindOf_0, b_X8_kindOf_10, b_X8_kindOf_20, b_X8_kindOf_26, b_X8_kindOf_51, z, o3, q, i10, i00, i01, i11, not_true_eq_false, not_false_eq_true, if_true, if_false, true_or, or_true, true_and, and_true, and_false, false_and]
        · by_cases o4 : C k = 107
          · have z := e4.mpr ⟨q, o4⟩
            simp +decide only [e_X8_kindOf, b_X8_kindOf_0, b_X8_kindOf_10, b_X8_kindOf_20, b_X8_kindOf_30, b_X8_kindOf_36, b_X8_kindOf_51, z, o4, q, i10, i00, i01, i11, not_true_eq_false, not_false_eq_true, if_true, if_false, true_or, or_true, true_and, and_true, and_false, false_and]
          · by_cases o5 : C k = 121
            · have z := e5.mpr ⟨q, o5⟩
              simp +decide only [e_X8_kindOf, b_X8_kindOf_0, b_X8_kindOf_10, b_X8_kindOf_20, b_X8_kindOf_30, b_X8_kindOf_40, b_X8_kindOf_46, b_X8_kindOf_51, z, o5, q, i10, i00, i01, i11, not_true_eq_false, not_false_eq_true, if_true, if_false, true_or, or_true, true_and, and_true, and_false, false_and]
            · rw [e_X8_kindOf, b_X8_kindOf_0, if_pos (fun z => o1 (e1.mp z).2), b_X8_kindOf_10, if_pos (fun z => o2 (e2.mp z).2), b_X8_kindOf_20, if_pos (fun z => o3 (e3.mp z).2), b_X8_kindOf_30, if_pos (fun z => o4 (e4.mp z).2), b_X8_kindOf_40, if_pos (fun z => o5 (e5.mp z).2), b_X8_kindOf_50, b_X8_kindOf_51]
              simp [o1, o2, o3, o4, o5]
  · have e0 : kdE len C k = 1 := by unfold kdE; rw [if_neg (fun z => q z.1)]
    rw [e0, if_neg (by decide), e_X8_kindOf, b_X8_kindOf_0, if_pos (fun z => q (e1.mp z).1), b_X8_kindOf_10, if_pos (fun z => q (e2.mp z).1), b_X8_kindOf_20, if_pos (fun z => q (e3.mp z).1), b_X8_kindOf_30, if_pos (fun z => q (e4.mp z).1), b_X8_kindOf_40, if_pos (fun z => q (e5.mp z).1), b_X8_kindOf_50, b_X8_kindOf_51]
    exact ⟨rfl, rfl⟩
theorem x_isRoom (m : MC h len C i) (hi : i < len) {c mx n : Nat} (hc : c < 96) (hn : h 66 c = nI n) (hm : mx < 2 ^ 30) (hn2 : n < 2 ^ 30) : (n < mx → mn_X 125 [.ref 63, .int (nI c), .int (nI mx)] h (some (.int 1)) (mn_up h 63 10 (nI (i + 1))) ∧ MC (mn_up h 63 10 (nI (i + 1))) len C (i + 1)) ∧ (mx ≤ n → mn_X 125 [.ref 63, .int (nI c), .int (nI mx)] h (some (.int 0)) (mn_up h 63 11 3) ∧ MC (mn_up h 63 11 3) len C i) := by
  have v : vp_in (nI c) 96 := vp_in_nI hc (by decide)
  have cl : (nI c).toNatClampNeg = c := nI_clamp (by omega)
  refine ⟨fun o => ⟨?_, m.at (by omega)⟩, fun o => ⟨?_, m.s (Or.inl rfl)⟩⟩
  · rw [e_X8_isRoom, b_X8_isRoom_0 v, cl, hn, if_neg (nI_ge o (by omega)), b_X8_isRoom_10, m.2.2.1, nI_1]; exact ⟨rfl, rfl⟩
  · rw [e_X8_isRoom, b_X8_isRoom_0 v, cl, hn, if_pos (nI_le o (by omega)), b_X8_isRoom_22]; exact ⟨rfl, rfl⟩
end MD
