section TOWNL
variable {h : mn_H} {len : Nat} {C : Nat → Nat} {t : Nat}
/-- a text from a place on, in both -/
def PLP (len : Nat) (C : Nat → Nat) (t w : Nat) (T : TW) (td : Nat) : Prop := ∃ (F p : Nat) (T2 : TW), F < 10 ∧ (F = 0 → TW2 T2) ∧
  (∀ h c, RC h len C w 0 (-1) → GC h t T → h t 16 = nI td → c ≤ w → ∃ h', mn_E 13 25 [.ref 1, .ref t, .int (nI c)] [] h (some (.int (nI F))) h' ∧ uF t h h' ∧ h' 1 1 = 0 ∧ h' 1 5 = (if F = 0 then -1 else nI p) ∧ (F = 0 → GC h' t T2)) ∧
  (∀ (h : mn_H) (x1 : Int32), MC h len C w → GM (h 66) T → h 66 95 = nI td → ∃ h', mn_E 131 51 [.ref 63, .int x1] [] h (some (.int (mz (decide (F = 0))))) h' ∧ pF h h' ∧ (F ≠ 0 → h' 63 11 = nI F ∧ h' 63 10 = nI p) ∧ (F = 0 → GM (h' 66) T2))
theorem x_rend (ht : mn_isT t) {a f : Nat} {g : Int32} (r : RC h len C a f g) {x : Int32} : mn_E 13 65 [.ref 1, .ref t, .int x] [] h (some (.int (nI f))) (mn_up h 1 1 0) := by
  rw [b_X2_readInto_65 ht]
  refine ⟨?_, rfl⟩
  rw [mn_up_get, if_neg (by decide), r.2.2.2.2.1]
theorem pl_all (ht : mn_isT t) (l250 : len ≤ 250) : ∀ (d w : Nat) (T : TW) (td : Nat), w + d = len → TW2 T → td < 64 → PLP len C t w T td := by
  intro d
  induction d using Nat.strongRecOn with
  | ind d ih =>
    intro w T td hd w2 h64
    by_cases o : w < len
    · obtain ⟨F, p, T', td', i', F10, fs, cc, mc⟩ := l_all (C := C) ht w2 h64 o
      by_cases F0 : F = 0
      · subst F0
        obtain ⟨q1, q2, q3, q4⟩ := fs rfl
        obtain ⟨w', s, s1, s2⟩ := SK_get (C := C) (len := len) (i := i') q2
        obtain ⟨F, p, T2, G1, G2, G3, G4⟩ := ih (len - w') (by omega) w' T' td' (by omega) q3 q4
        refine ⟨F, p, T2, G1, G2, fun h c r g e hc => ?_, fun h x1 m g e => ?_⟩
        · obtain ⟨h1, x1, f1, -, B⟩ := cc h r g e
          obtain ⟨r1, g1, e1⟩ := B rfl
          obtain ⟨h2, x2, o2, r2, -⟩ := x_skip r1 s
          have e2 : h2 t 16 = nI td' := by rw [o2 t (by rcases ht with q | q <;> omega)]; exact e1
          obtain ⟨h3, x3, f3, a3, b3, c3⟩ := G3 h2 (c + 1) r2 (g1.of ht o2) e2 (by omega)
          refine ⟨h3, ?_, (f1.tr o2.uf).tr f3, a3, b3, c3⟩
          rw [b_X2_readInto_25 ht, if_neg (show ¬ (250 : Int32) ≤ nI c from nI_ge (b := 250) (by omega) (by decide)), b_X2_readInto_32 ht, r.2.1, r.2.2.1, if_neg (nI_ge o (by omega)), b_X2_readInto_43 ht, r.2.2.2.2.1, if_neg (show ¬ ¬ nI 0 = 0 from fun z => z rfl), b_X2_readInto_50 ht, mn_cl_v x1, b_X2_readInto_55 ht, mn_cl_v x2, b_X2_readInto_59 ht, nI_1]
          exact x3
        · obtain ⟨-, B⟩ := mc h x1 m g e
          obtain ⟨h1, f1, m1, g1, e1, E⟩ := B rfl
          obtain ⟨h2, x2, f2, m2, -, -⟩ := x_blanks m1 s
          have r66 : h2 66 = h1 66 := f2.1 66 (by decide)
          obtain ⟨h3, x3, f3, a3, b3⟩ := G4 h2 x1 m2 (by rw [r66]; exact g1) (by rw [r66]; exact e1)
          refine ⟨h3, ?_, (f1.tr f2.pf).tr f3, a3, b3⟩
          rw [b_X8_reads_51, m.2.1, m.2.2.1, if_neg (nI_ge o (by omega))]
          apply E
          refine ⟨h2, x2, ?_⟩
          rw [b_X8_reads_109]; exact x3
      · refine ⟨F, p, T, F10, fun z => absurd z F0, fun h c r g e hc => ?_, fun h x1 m g e => ?_⟩
        · obtain ⟨h1, x1, f1, A, -⟩ := cc h r g e
          obtain ⟨a, r1⟩ := A F0
          obtain ⟨a', s, s1, s2⟩ := SK_get (C := C) (len := len) (i := a) r1.2.2.2.1
          obtain ⟨h2, x2, o2, r2, -⟩ := x_skip r1 s
          refine ⟨mn_up h2 1 1 0, ?_, f1.tr (o2.tr (oF.rf h2).up).uf, by rw [mn_up_get, if_pos ⟨rfl, rfl⟩], by rw [mn_up_get, if_neg (by decide), if_neg F0]; exact r2.2.2.2.2.2, fun z => absurd z F0⟩
          rw [b_X2_readInto_25 ht, if_neg (show ¬ (250 : Int32) ≤ nI c from nI_ge (b := 250) (by omega) (by decide)), b_X2_readInto_32 ht, r.2.1, r.2.2.1, if_neg (nI_ge o (by omega)), b_X2_readInto_43 ht, r.2.2.2.2.1, if_neg (show ¬ ¬ nI 0 = 0 from fun z => z rfl), b_X2_readInto_50 ht, mn_cl_v x1, b_X2_readInto_55 ht, mn_cl_v x2, b_X2_readInto_59 ht, nI_1]
          have fin := x_rend ht r2 (x := nI (c + 1))
          rw [b_X2_readInto_25 ht]
          by_cases y1 : (250 : Int32) ≤ nI (c + 1)
          · rw [if_pos y1]; exact fin
          · rw [if_neg y1, b_X2_readInto_32 ht]
            by_cases y2 : h2 1 1 ≤ h2 1 2
            · rw [if_pos y2]; exact fin
            · rw [if_neg y2, b_X2_readInto_43 ht, r2.2.2.2.2.1, if_pos (nI_ne0 (by omega) (by omega))]; exact fin
        · obtain ⟨A, -⟩ := mc h x1 m g e
          obtain ⟨h1, x, f1, a1, b1⟩ := A F0
          refine ⟨h1, ?_, f1, fun _ => ⟨a1, b1⟩, fun z => absurd z F0⟩
          rw [b_X8_reads_51, m.2.1, m.2.2.1, if_neg (nI_ge o (by omega)), decide_eq_false F0]
          exact x
    · refine ⟨0, 0, T, by decide, fun _ => w2, fun h c r g e hc => ?_, fun h x1 m g e => ?_⟩
      · have fin := x_rend ht r (x := nI c)
        refine ⟨mn_up h 1 1 0, ?_, (oF.rf h).up.uf, by rw [mn_up_get, if_pos ⟨rfl, rfl⟩], by rw [mn_up_get, if_neg (by decide), if_pos rfl]; exact r.2.2.2.2.2, fun _ => g.of ht (oF.rf h).up⟩
        rw [b_X2_readInto_25 ht]
        by_cases y1 : (250 : Int32) ≤ nI c
        · rw [if_pos y1]; exact fin
        · rw [if_neg y1, b_X2_readInto_32 ht, r.2.1, r.2.2.1, if_pos (nI_le (by omega) (by omega))]; exact fin
      · refine ⟨h, ?_, pF.rf h, fun z => absurd rfl z, fun _ => g⟩
        rw [b_X8_reads_51, m.2.1, m.2.2.1, if_pos (nI_le (by omega) (by omega)), b_X8_reads_112]; exact ⟨rfl, rfl⟩
/-- the draft at first -/
theorem x_draft (x : mn_H) : ∃ h', (∀ b, b ≠ 66 → h' b = x b) ∧ GM (h' 66) tw0 ∧ h' 66 95 = nI 0 ∧ ∀ q h'', mn_E 131 37 [.ref 63, .int (nI 96)] [] h' q h'' → mn_E 131 2 [.ref 63, .int (nI 0)] [] x q h'' := by
  have key : ∀ k, k ≤ 96 → ∃ h', (∀ b, b ≠ 66 → h' b = x b) ∧ (∀ j, j < k → h' 66 j = nI (if 89 ≤ j ∧ j < 95 then 1 else 0)) ∧ ∀ q h'', mn_E 131 2 [.ref 63, .int (nI k)] [] h' q h'' → mn_E 131 2 [.ref 63, .int (nI 0)] [] x q h'' := by
    intro k
    induction k with
    | zero => intro _; exact ⟨x, fun _ _ => rfl, fun j hj => by omega, fun q h'' z => z⟩
    | succ k ih =>
      intro hk
      obtain ⟨h1, f1, a1, E1⟩ := ih (by omega)
      have v : vp_in (nI k) 96 := vp_in_nI (by omega) (by decide)
      refine ⟨mn_up h1 66 k (nI (if 89 ≤ k ∧ k < 95 then 1 else 0)), fun b q => by rw [mn_up_row _ _ _ _ q]; exact f1 b q, fun j hj => ?_, fun q h'' z => E1 q h'' ?_⟩
      · rw [mn_up_get]
        by_cases e : j = k
        · rw [if_pos ⟨rfl, e⟩, e]
        · rw [if_neg (fun z => e z.2)]; exact a1 j (by omega)
      · rw [b_X8_reads_2, if_neg (show ¬ (96 : Int32) ≤ nI k from nI_ge (b := 96) (by omega) (by decide)), b_X8_reads_8]
        have cl : (nI k).toNatClampNeg = k := nI_clamp (by omega)
        by_cases o1 : k < 89
        · rw [if_neg (by omega)] at z
          rw [if_pos (show nI k < 89 from nI_lt (b := 89) o1 (by decide)), b_X8_reads_29, b_X8_reads_30 v, cl, nI_1]; exact z
        · rw [if_neg (show ¬ nI k < 89 from nI_nlt (b := 89) (by omega) (by omega)), b_X8_reads_19]
          by_cases o2 : 95 ≤ k
          · rw [if_neg (by omega)] at z
            rw [if_pos (show (95 : Int32) ≤ nI k from nI_le (a := 95) o2 (by omega)), b_X8_reads_29, b_X8_reads_30 v, cl, nI_1]; exact z
          · rw [if_pos (by omega)] at z
            rw [if_neg (show ¬ (95 : Int32) ≤ nI k from nI_ge (b := 95) (by omega) (by decide)), b_X8_reads_25, b_X8_reads_30 v, cl, nI_1]; exact z
  obtain ⟨h1, f1, a1, E1⟩ := key 96 (Nat.le_refl _)
  refine ⟨h1, f1, ⟨fun c hc => ?_, fun a _ _ b hb => absurd hb (Nat.not_lt_zero _), fun k hk => ?_⟩, ?_, fun q h'' z => E1 q h'' ?_⟩
  · rw [a1 c (by omega), if_neg (by omega)]; rfl
  · rw [a1 _ (by omega), if_pos (by omega), show tw0 17 k = 51 from rfl]; decide
  · rw [a1 95 (by omega), if_neg (by omega)]
  · rw [b_X8_reads_2, if_pos (show (96 : Int32) ≤ nI 96 from by decide)]; exact z
/-- the whole text, in both -/
theorem pl_text (ht : mn_isT t) (l250 : len ≤ 250) : ∃ (F p : Nat) (T2 : TW), F < 10 ∧ (F = 0 → TW2 T2) ∧
  (∀ h, TX h 2 len C → h 1 1 = nI len → ∃ h', mn_X 13 [.ref 1, .ref t] h (some (.int (nI F))) h' ∧ uF t h h' ∧ h' 1 1 = 0 ∧ h' 1 5 = (if F = 0 then -1 else nI p) ∧ (F = 0 → GC h' t T2)) ∧
  (∀ h, TX h 64 len C → h 63 1 = nI len → ∃ h', mn_X 131 [.ref 63] h (some (.int (mz (decide (F = 0))))) h' ∧ pF h h' ∧ (F ≠ 0 → h' 63 11 = nI F ∧ h' 63 10 = nI p) ∧ (F = 0 → GM (h' 66) T2)) := by
  obtain ⟨w, s, s1, s2⟩ := SK_get (C := C) (len := len) (i := 0) (Nat.zero_le _)
  obtain ⟨F, p, T2, G1, G2, G3, G4⟩ := pl_all (C := C) ht l250 (len - w) w tw0 0 (by omega) TW2.init (by decide)
  refine ⟨F, p, T2, G1, G2, fun h tx e1 => ?_, fun h tx e1 => ?_⟩
  · obtain ⟨h1, x1, f1, q1, g1⟩ := x_forgetT (h := h) ht
    have r12 : h1 2 = h 2 := f1 2 (by rcases ht with q | q <;> omega)
    have r11 : h1 1 = h 1 := f1 1 (by rcases ht with q | q <;> omega)
    obtain ⟨h2, eh2⟩ : ∃ h2, h2 = mn_up (mn_up (mn_up h1 1 2 0) 1 4 0) 1 5 (-1) := ⟨_, rfl⟩
    have o2 : oF h1 h2 := by rw [eh2]; exact (oF.rf h1).up.up.up
    have r2 : RC h2 len C 0 0 (-1) := by
      refine ⟨tx.row (by rw [o2 2 (by decide), r12]), ?_, ?_, Nat.zero_le _, ?_, ?_⟩ <;> rw [eh2] <;> simp [mn_up_get]
      all_goals first | rfl | (rw [r11]; exact e1)
    obtain ⟨h3, x3, o3, r3, -⟩ := x_skip r2 s
    have oo := o2.tr o3
    obtain ⟨h4, x4, f4, a4, b4, c4⟩ := G3 h3 0 r3 (g1.of ht oo) (by rw [oo t (by rcases ht with q | q <;> omega), q1]; rfl) (Nat.zero_le _)
    refine ⟨h4, ?_, ?_, a4, b4, c4⟩
    · rw [e_X2_readInto, b_X2_readInto_0 ht, mn_cl_v x1, b_X2_readInto_4 ht, ← eh2, mn_cl_v x3, b_X2_readInto_23 ht]
      exact x4
    · have u1 : uF t h h1 := fun b _ q => f1 b q
      exact (u1.tr oo.uf).tr f4
  · obtain ⟨h1, f1, g1, e95, E1⟩ := x_draft h
    obtain ⟨h2, eh2⟩ : ∃ h2, h2 = mn_up (mn_up h1 63 10 0) 63 11 0 := ⟨_, rfl⟩
    have p1 : pF h h1 := ⟨fun b _ q => f1 b q, fun k _ _ _ => by rw [f1 63 (by decide)]⟩
    have p2 : pF h h2 := by rw [eh2]; exact (p1.up (Or.inl rfl)).up (Or.inr (Or.inl rfl))
    have m2 : MC h2 len C 0 := by
      refine ⟨tx.row (by rw [eh2, mn_up_row _ _ _ _ (by decide), mn_up_row _ _ _ _ (by decide), f1 64 (by decide)]), ?_, ?_, Nat.zero_le _⟩ <;> rw [eh2] <;> simp [mn_up_get]
      all_goals first | rfl | (rw [f1 63 (by decide)]; exact e1)
    obtain ⟨h3, x3, f3, m3, -, -⟩ := x_blanks m2 s
    have r66 : h3 66 = h1 66 := by rw [f3.1 66 (by decide), eh2, mn_up_row _ _ _ _ (by decide), mn_up_row _ _ _ _ (by decide)]
    obtain ⟨h4, x4, f4, a4, b4⟩ := G4 h3 (nI 96) m3 (by rw [r66]; exact g1) (by rw [r66]; exact e95)
    refine ⟨h4, ?_, (p2.tr f3.pf).tr f4, a4, b4⟩
    rw [e_X8_reads, b_X8_reads_0]
    apply E1
    rw [b_X8_reads_37, ← eh2, mn_cl_v x3]
    exact x4
end TOWNL
