section ANS
variable {h hh : mn_H} {t : Nat} {T : TW} {df my n0 y0 m l : Nat}
theorem turn_ex (hy : y0 < 64) (R : Nat) : ∃ u, u ≤ 64 ∧ (∃ s, s < u ∧ yqN T df my n0 y0 (s * R) = yqN T df my n0 y0 (u * R)) ∧ ∀ s' t', s' < t' → t' < u → ¬ yqN T df my n0 y0 (s' * R) = yqN T df my n0 y0 (t' * R) := by
  obtain ⟨i, j, h1, h2, h3⟩ := mn_ph 64 (fun k => yqN T df my n0 y0 (k * R)) (fun k _ => yqN_lt hy _)
  obtain ⟨u, ⟨s, a, b⟩, mi⟩ := pk_least (fun u => ∃ s, s < u ∧ yqN T df my n0 y0 (s * R) = yqN T df my n0 y0 (u * R)) ⟨j, i, h1, h3⟩
  refine ⟨u, ?_, ⟨s, a, b⟩, fun s' t' q1 q2 q3 => mi t' q2 ⟨s', q1, q3⟩⟩
  by_cases q : u ≤ j
  · omega
  · exact absurd ⟨i, h1, h3⟩ (mi j (by omega))
theorem cyc_all (hw : TWF T) (hy : y0 < 64) : ∃ m l, CYC (yqN T df my n0 y0) n0 (lcN T (T 0 4)) m l ∧ m + l ≤ 64 * lcN T (T 0 4) := by
  have R0 := lcN_pos hw _ (Nat.le_refl _)
  obtain ⟨u, u64, ⟨s, su, e⟩, -⟩ := turn_ex (T := T) (df := df) (my := my) (n0 := n0) hy (lcN T (T 0 4))
  have lt : s * lcN T (T 0 4) < u * lcN T (T 0 4) := Nat.mul_lt_mul_of_pos_right su R0
  have r : rep (yqN T df my n0 y0) n0 (lcN T (T 0 4)) (s * lcN T (T 0 4)) (u * lcN T (T 0 4)) := rep_of (Nat.le_of_lt lt) (by rw [← Nat.sub_mul]; exact Nat.dvd_mul_left _ _) e
  obtain ⟨m, l, c, mi⟩ := cyc_ex ⟨_, _, lt, r⟩
  exact ⟨m, l, c, Nat.le_trans (mi _ _ lt r) (Nat.mul_le_mul_right _ u64)⟩
theorem aF.rf (h : mn_H) : aF h h := fun _ _ _ => rfl
theorem aF.tr {h h1 h2 : mn_H} (a : aF h h1) (b : aF h1 h2) : aF h h2 := fun c x y => (b c x y).trans (a c x y)
theorem aF.sf (f : aF h hh) : SF h hh := ⟨fun b _ h2 _ _ _ => f b (by omega) (by omega), fun k _ => by rw [f 63 (by decide) (by decide)]⟩
theorem x_loopFrom (ht : mn_isT t) (hc : CT h t T) (hw : TWF T) (hv : trV h T df my 9 0) (ca : CA h T df my) (e3 : h 20 3 = nI (lcN T (T 0 4))) (e2 : h 20 2 = nI n0) (hn : n0 ≤ 60) (hy : y0 < 64) (c : CYC (yqN T df my n0 y0) n0 (lcN T (T 0 4)) m l) : ∃ h', mn_X 1 [.ref 20, .ref t, .ref 16, .int (nI y0)] h (some (.int (nI l))) h' ∧ aF h h' ∧ CA h' T df my := by
  have l9 := lcN_le hw (Nat.le_refl _)
  have R0 := lcN_pos hw _ (Nat.le_refl _)
  have st := yq_stp T df my n0 y0
  obtain ⟨u, u64, ⟨s, su, e⟩, mi⟩ := turn_ex (T := T) (df := df) (my := my) (n0 := n0) hy (lcN T (T 0 4))
  have el := cyc_turn st R0 c su e mi
  have tw := fun (hh : mn_H) (f : aF h hh) (ca : CA hh T df my) (x5 : Int32) (k : Nat) => x_turnW (x3 := nI y0) (x5 := x5) ht (f.ct ht hc) hw (f.tv hv) ca (by rw [f 20 (by decide) (by decide)]; exact e3) (by rw [f 20 (by decide) (by decide)]; exact e2) hn hy k
  obtain ⟨R, eR⟩ : ∃ R, R = lcN T (T 0 4) := ⟨_, rfl⟩
  rw [← eR] at e3 l9 R0 e mi el tw
  obtain ⟨h0, eh0⟩ : ∃ h0, h0 = mn_set h 22 (fun j => if j < 64 then -1 else h 22 j) := ⟨_, rfl⟩
  have f0 : aF h h0 := fun b _ q => by rw [eh0, mn_set_row, if_neg q]
  have ca0 : CA h0 T df my := by
    have e21 : h0 21 = h 21 := by rw [eh0, mn_set_row, if_neg (by decide)]
    unfold CA at ca ⊢; rw [e21]; exact ca
  have yl : ∀ k, yqN T df my n0 y0 k < 64 := fun k => yqN_lt hy k
  have key : ∀ k, k ≤ u → ∃ h1 w, aF h h1 ∧ CA h1 T df my ∧ (∀ s, s < k → h1 22 (yqN T df my n0 y0 (s * R)) = nI s) ∧ (∀ y, y < 64 → (∀ s, s < k → ¬ yqN T df my n0 y0 (s * R) = y) → h1 22 y = -1) ∧ ∀ q h', mn_E 1 14 [.ref 20, .ref t, .ref 16, .int (nI y0), .int (nI (yqN T df my n0 y0 (k * R))), .int (nI k), w] [] h1 q h' → mn_E 1 14 [.ref 20, .ref t, .ref 16, .int (nI y0), .int (nI y0), .int (nI 0), .null] [] h0 q h' := by
    intro k
    induction k with
    | zero =>
      intro _
      refine ⟨h0, .null, f0, ca0, fun s hs => by omega, fun y hy _ => by rw [eh0, mn_set_get2, if_pos rfl, if_pos hy], fun q h' z => ?_⟩
      rw [Nat.zero_mul] at z; exact z
    | succ k ih =>
      intro hk
      obtain ⟨h1, w, f1, c1, a1, b1, E1⟩ := ih (by omega)
      obtain ⟨y, ey⟩ : ∃ y, y = yqN T df my n0 y0 (k * R) := ⟨_, rfl⟩
      have y64 : y < 64 := by rw [ey]; exact yl _
      have v0 : h1 22 y = -1 := b1 y y64 (fun s hs z => mi s k hs (by omega) (by rw [z, ey]))
      have vy : vp_in (nI y) 64 := vp_in_nI y64 (by decide)
      have cy : (nI y).toNatClampNeg = y := nI_clamp (by omega)
      obtain ⟨h2, eh2⟩ : ∃ h2, h2 = mn_up h1 22 y (nI k) := ⟨_, rfl⟩
      have f2 : aF h h2 := fun b q1 q2 => by rw [eh2, mn_up_row _ _ _ _ q2]; exact f1 b q1 q2
      have c2 : CA h2 T df my := by
        have e21 : h2 21 = h1 21 := by rw [eh2, mn_up_row _ _ _ _ (by decide)]
        unfold CA at c1 ⊢; rw [e21]; exact c1
      obtain ⟨h3, f3, c3, E3⟩ := tw h2 f2 c2 (nI k) k
      have e22 : ∀ x, h3 22 x = if x = y then nI k else h1 22 x := fun x => by rw [f3 22 (by decide), eh2, mn_up_get]; simp
      refine ⟨h3, .int (nI R), fun b q1 q2 => by rw [f3 b q1]; exact f2 b q1 q2, c3, fun s hs => ?_, fun x hx hne => ?_, fun q h' z => E1 q h' ?_⟩
      · rw [e22]
        by_cases q : s = k
        · rw [q, if_pos ey.symm]
        · rw [if_neg (fun z => mi s k (by omega) (by omega) (by rw [z, ey])), a1 s (by omega)]
      · rw [e22, if_neg (fun z => hne k (by omega) (by rw [z, ey])), b1 x hx (fun s hs => hne s (by omega))]
      · rw [← ey, b_X0_loopFrom_14 ht, if_neg (show ¬ (64 : Int32) < nI k from nI_nlt (a := 64) (by omega) (by decide)), b_X0_loopFrom_21 ht vy, cy, if_pos v0, b_X0_loopFrom_48 ht vy, cy, ← eh2]
        rw [← ey] at E3
        refine E3 q h' ?_
        rw [b_X0_loopFrom_92 ht, nI_1]
        exact z
  obtain ⟨h1, w, f1, c1, a1, b1, E1⟩ := key u (Nat.le_refl _)
  refine ⟨h1, ?_, f1, c1⟩
  rw [e_X0_loopFrom, b_X0_loopFrom_0 ht, mn_cl_v (x_fill (a := 22) (n := 64) (-1) rfl (by decide) (by decide)), ← eh0, b_X0_loopFrom_8 ht]
  apply E1
  obtain ⟨y, ey⟩ : ∃ y, y = yqN T df my n0 y0 (u * R) := ⟨_, rfl⟩
  have y64 : y < 64 := by rw [ey]; exact yl _
  have vy : vp_in (nI y) 64 := vp_in_nI y64 (by decide)
  have cy : (nI y).toNatClampNeg = y := nI_clamp (by omega)
  have v1 : h1 22 y = nI s := by rw [ey, ← e]; exact a1 s su
  rw [← ey, b_X0_loopFrom_14 ht, if_neg (show ¬ (64 : Int32) < nI u from nI_nlt (a := 64) (by omega) (by decide)), b_X0_loopFrom_21 ht vy, cy, v1, if_neg (nI_nm1 (by omega)), b_X0_loopFrom_32 ht vy, cy, v1, f1 20 (by decide) (by decide), e3, pk_sub (by omega), pk_mul, el]
  exact ⟨rfl, rfl⟩
theorem x_leadFrom (ht : mn_isT t) (hc : CT h t T) (hw : TWF T) (hv : trV h T df my 9 0) (ca : CA h T df my) (e3 : h 20 3 = nI (lcN T (T 0 4))) (e2 : h 20 2 = nI n0) (hn : n0 ≤ 60) (hy : y0 < 64) (c : CYC (yqN T df my n0 y0) n0 (lcN T (T 0 4)) m l) (hb : m + l ≤ 64 * lcN T (T 0 4)) : ∃ h', mn_X 2 [.ref 20, .ref t, .ref 16, .int (nI y0), .int (nI l)] h (some (.int (nI m))) h' ∧ aF h h' := by
  have l9 := lcN_le hw (Nat.le_refl _)
  have st := yq_stp T df my n0 y0
  have ld := cyc_lead st c
  have dl : lcN T (T 0 4) ∣ l := by
    have := rep_dvd (Nat.le_add_right m l) c.2.1
    rw [Nat.add_sub_cancel_left] at this; exact this
  have fo := fun (hh : mn_H) (f : aF h hh) (ca : CA hh T df my) (k n : Nat) (hn : n < 2 ^ 30) => x_follow ht (f.ct ht hc) hw (f.tv hv) ca (yqN_lt (T := T) (df := df) (my := my) (n0 := n0) hy k) hn
  have yl : ∀ k, yqN T df my n0 y0 k < 64 := fun k => yqN_lt hy k
  have k1 : ∀ k, k ≤ l → ∃ h1, aF h h1 ∧ CA h1 T df my ∧ ∀ q h', mn_E 2 6 [.ref 20, .ref t, .ref 16, .int (nI y0), .int (nI l), .int (nI (yqN T df my n0 y0 k)), .int (nI k), .null] [] h1 q h' → mn_E 2 6 [.ref 20, .ref t, .ref 16, .int (nI y0), .int (nI l), .int (nI y0), .int (nI 0), .null] [] h q h' := by
    intro k
    induction k with
    | zero => intro _; exact ⟨h, aF.rf h, ca, fun q h' z => z⟩
    | succ k ih =>
      intro hk
      obtain ⟨h1, f1, c1, E1⟩ := ih (by omega)
      obtain ⟨h2, x2, f2, c2⟩ := fo h1 f1 c1 k (n0 + k) (by omega)
      have x2' : mn_X 3 [.ref 20, .ref t, .ref 16, .int (nI (yqN T df my n0 y0 k)), .int (nI (n0 + k))] h1 (some (.int (nI (yqN T df my n0 y0 (k + 1))))) h2 := x2
      refine ⟨h2, fun b q1 q2 => by rw [f2 b q1]; exact f1 b q1 q2, c2, fun q h' z => E1 q h' ?_⟩
      rw [b_X0_leadFrom_6 ht, if_neg (nI_ge (by omega) (by omega)), b_X0_leadFrom_13 ht, f1 20 (by decide) (by decide), e2, nI_add, mn_cl_i x2', b_X0_leadFrom_28 ht, nI_1]
      exact z
  obtain ⟨h1, f1, c1, E1⟩ := k1 l (Nat.le_refl _)
  have k2 : ∀ k, k ≤ m → ∃ h2, aF h h2 ∧ CA h2 T df my ∧ ∀ q h', mn_E 2 42 [.ref 20, .ref t, .ref 16, .int (nI y0), .int (nI l), .int (nI (yqN T df my n0 y0 (k + l))), .int (nI (yqN T df my n0 y0 k)), .int (nI k)] [] h2 q h' → mn_E 2 42 [.ref 20, .ref t, .ref 16, .int (nI y0), .int (nI l), .int (nI (yqN T df my n0 y0 l)), .int (nI y0), .int (nI 0)] [] h1 q h' := by
    intro k
    induction k with
    | zero => intro _; refine ⟨h1, f1, c1, fun q h' z => ?_⟩; rw [Nat.zero_add] at z; exact z
    | succ k ih =>
      intro hk
      obtain ⟨h2, f2, c2, E2⟩ := ih (by omega)
      obtain ⟨h3, x3, f3, c3⟩ := fo h2 f2 c2 k (n0 + k) (by omega)
      have f3' : aF h h3 := fun b q1 q2 => by rw [f3 b q1]; exact f2 b q1 q2
      obtain ⟨h4, x4, f4, c4⟩ := fo h3 f3' c3 (k + l) (n0 + k) (by omega)
      have x3' : mn_X 3 [.ref 20, .ref t, .ref 16, .int (nI (yqN T df my n0 y0 k)), .int (nI (n0 + k))] h2 (some (.int (nI (yqN T df my n0 y0 (k + 1))))) h3 := x3
      have en : nxN T df my (yqN T df my n0 y0 (k + l)) (n0 + k) = yqN T df my n0 y0 (k + 1 + l) := by
        rw [show k + 1 + l = (k + l) + 1 by omega]
        show _ = nxN T df my (yqN T df my n0 y0 (k + l)) (n0 + (k + l))
        refine nxN_mod ?_
        obtain ⟨z, hz⟩ := dl
        rw [show n0 + (k + l) = n0 + k + lcN T (T 0 4) * z by rw [← hz]; omega, Nat.add_mul_mod_self_left]
      rw [en] at x4
      refine ⟨h4, fun b q1 q2 => by rw [f4 b q1]; exact f3' b q1 q2, c4, fun q h' z => E2 q h' ?_⟩
      have y1 := yl k
      have y2 := yl (k + l)
      have ne : ¬ yqN T df my n0 y0 k = yqN T df my n0 y0 (k + l) := fun z => by have := (ld k).mp z; omega
      rw [b_X0_leadFrom_42 ht, f2 20 (by decide) (by decide), e3, show (64 : Int32) = nI 64 from rfl, pk_mul, if_neg (nI_ge (by omega) (by omega)), b_X0_leadFrom_54 ht, if_neg (fun z => ne ((nI_eq (by omega) (by omega)).mp z)), b_X0_leadFrom_61 ht, f2 20 (by decide) (by decide), e2, nI_add, mn_cl_i x3', b_X0_leadFrom_76 ht, f3' 20 (by decide) (by decide), e2, nI_add, mn_cl_i x4, b_X0_leadFrom_93 ht, nI_1]
      exact z
  obtain ⟨h2, f2, c2, E2⟩ := k2 m (Nat.le_refl _)
  refine ⟨h2, ?_, f2⟩
  rw [e_X0_leadFrom, b_X0_leadFrom_0 ht]
  apply E1
  rw [b_X0_leadFrom_6 ht, if_pos (Int32.le_refl _), b_X0_leadFrom_36 ht]
  apply E2
  have ee := (ld m).mpr (Nat.le_refl _)
  have lpos := c.1
  rw [b_X0_leadFrom_42 ht, f2 20 (by decide) (by decide), e3, show (64 : Int32) = nI 64 from rfl, pk_mul, if_neg (nI_ge (by omega) (by omega)), b_X0_leadFrom_54 ht, if_pos (by rw [ee]), b_X0_leadFrom_101 ht]
  exact ⟨rfl, rfl⟩
theorem TRY.nxt {gr mo y n y' n' : Nat} {wl : Option (Nat × Nat)} (t : TRY h df my gr mo wl y n) : TRY (mn_up (mn_up h 63 19 (nI y')) 63 20 (nI n')) df my gr mo wl y' n' := by
  obtain ⟨t1, t2, t3, t4, t5, t6, t7, t8⟩ := t
  refine ⟨?_, ?_, ?_, ?_, ?_, fun q hq => ?_, ?_, ?_⟩ <;> simp [mn_up_get] <;> first | exact t1 | exact t2 | exact t3 | exact t4 | exact t5 | exact t6 q hq
theorem TRY.row {gr mo y n a k : Nat} {x : Int32} {wl : Option (Nat × Nat)} (t : TRY h df my gr mo wl y n) (ha : a ≠ 63) : TRY (mn_up h a k x) df my gr mo wl y n := by
  unfold TRY at t ⊢
  rw [mn_up_row _ _ _ _ (show (63 : Nat) ≠ a from fun z => ha z.symm)]
  exact t
theorem mdF.u73 (f : mdF h hh) (k : Nat) (x : Int32) : mdF h (mn_up hh 73 k x) := ⟨fun b h1 h2 h3 => by rw [mn_up_row _ _ _ _ h3]; exact f.1 b h1 h2 h3, fun j hj => by rw [mn_up_row _ _ _ _ (by decide)]; exact f.2 j hj⟩
theorem x_mzero (R : Nat) (hR : R ≤ 990) {x1 : Int32} (ht : TRY h df my 9 0 none y0 n0) : ∃ h', mdF h h' ∧ TRY h' df my 9 0 none y0 n0 ∧ (∀ x, x < 64 * R → h' 73 x = 0) ∧ ∀ q h'', mn_E 170 44 [.ref 63, .int x1, .int (nI R), .int (nI (64 * R)), .null] [] h' q h'' → mn_E 170 23 [.ref 63, .int x1, .int (nI R), .int (nI 0), .null] [] h q h'' := by
  have key : ∀ k, k ≤ 64 * R → ∃ h', mdF h h' ∧ TRY h' df my 9 0 none y0 n0 ∧ (∀ x, x < k → h' 73 x = 0) ∧ ∀ q h'', mn_E 170 23 [.ref 63, .int x1, .int (nI R), .int (nI k), .null] [] h' q h'' → mn_E 170 23 [.ref 63, .int x1, .int (nI R), .int (nI 0), .null] [] h q h'' := by
    intro k
    induction k with
    | zero => intro _; exact ⟨h, mdF.rf h, ht, fun x hx => by omega, fun q h'' z => z⟩
    | succ k ih =>
      intro hk
      obtain ⟨h1, f1, t1, a1, E1⟩ := ih (by omega)
      refine ⟨mn_up h1 73 k 0, f1.u73 _ _, t1.row (by decide), fun x hx => ?_, fun q h'' z => E1 q h'' ?_⟩
      · rw [mn_up_get]
        by_cases q : x = k
        · rw [if_pos ⟨rfl, q⟩]
        · rw [if_neg (fun z => q z.2)]; exact a1 x (by omega)
      · rw [b_X8_answers_23, show (64 : Int32) = nI 64 from rfl, pk_mul, if_neg (nI_ge (by omega) (by omega)), b_X8_answers_31 (vp_in_nI (by omega) (by decide)), nI_clamp (by omega), nI_1]
        exact z
  obtain ⟨h', f, t, a, E⟩ := key _ (Nat.le_refl _)
  refine ⟨h', f, t, a, fun q h'' z => E q h'' ?_⟩
  rw [b_X8_answers_23, show (64 : Int32) = nI 64 from rfl, pk_mul, if_pos (Int32.le_refl _)]
  exact z
theorem x_mans (hm : MT h T) (hw : TWF T) (ht : TRY h df my 9 0 none y0 (n0 % lcN T (T 0 4))) (hz : ∀ x, x < 64 * lcN T (T 0 4) → h 73 x = 0) (hdf : df < 64) (hmy : my < 64) (hn : n0 ≤ 60) (hy : y0 < 64) (c : CYC (yqN T df my n0 y0) n0 (lcN T (T 0 4)) m l) (hb : m + l ≤ 64 * lcN T (T 0 4)) {x1 : Int32} : ∃ h', mdF h h' ∧ mn_E 170 56 [.ref 63, .int x1, .int (nI (lcN T (T 0 4))), .int (nI 0), .null] [] h (some (.int (if x1 = 0 then nI m else nI l))) h' := by
  have l9 := lcN_le hw (Nat.le_refl _)
  have R0 := lcN_pos hw _ (Nat.le_refl _)
  obtain ⟨R, eR⟩ : ∃ R, R = lcN T (T 0 4) := ⟨_, rfl⟩
  obtain ⟨Y, eY⟩ : ∃ Y, Y = yqN T df my n0 y0 := ⟨_, rfl⟩
  rw [← eR] at ht hz hb l9 R0 ⊢
  rw [← eR, ← eY] at c
  have yl : ∀ k, Y k < 64 := fun k => by rw [eY]; exact yqN_lt hy k
  have mr : ∀ k, (n0 + k) % R < R := fun k => Nat.mod_lt _ R0
  have ixl : ∀ k, 64 * ((n0 + k) % R) + Y k < 64 * R := fun k => by have := mr k; have := yl k; omega
  have ixe : ∀ i j, 64 * ((n0 + i) % R) + Y i = 64 * ((n0 + j) % R) + Y j → rep Y n0 R i j := fun i j e => by
    have := yl i; have := yl j
    exact ⟨by omega, by omega⟩
  have Rn : ¬ nI R = 0 := nI_ne0 R0 (by omega)
  have eix : ∀ (g : mn_H) (k : Nat), TRY g df my 9 0 none (Y k) ((n0 + k) % R) → (64 : Int32) * g 63 20 + g 63 19 = nI (64 * ((n0 + k) % R) + Y k) := fun g k t => by
    rw [t.2.2.2.2.2.2.1, t.2.2.2.2.2.2.2, show (64 : Int32) = nI 64 from rfl, pk_mul, nI_add]
  have vix : ∀ k, vp_in (nI (64 * ((n0 + k) % R) + Y k)) 63360 := fun k => vp_in_nI (by have := ixl k; omega) (by decide)
  have cix : ∀ k, (nI (64 * ((n0 + k) % R) + Y k)).toNatClampNeg = 64 * ((n0 + k) % R) + Y k := fun k => nI_clamp (by have := ixl k; omega)
  have key : ∀ k, k ≤ m + l → ∃ h1, mdF h h1 ∧ TRY h1 df my 9 0 none (Y k) ((n0 + k) % R) ∧ (∀ j, j < k → h1 73 (64 * ((n0 + j) % R) + Y j) = nI (j + 1)) ∧ (∀ x, x < 64 * R → (∀ j, j < k → ¬ 64 * ((n0 + j) % R) + Y j = x) → h1 73 x = 0) ∧ ∀ q h', mn_E 170 56 [.ref 63, .int x1, .int (nI R), .int (nI k), .null] [] h1 q h' → mn_E 170 56 [.ref 63, .int x1, .int (nI R), .int (nI 0), .null] [] h q h' := by
    intro k
    induction k with
    | zero => intro _; exact ⟨h, mdF.rf h, by rw [eY]; exact ht, fun j hj => by omega, fun x hx _ => hz x hx, fun q h' z => z⟩
    | succ k ih =>
      intro hk
      obtain ⟨h1, f1, t1, a1, b1, E1⟩ := ih (by omega)
      obtain ⟨x, ex⟩ : ∃ x, x = 64 * ((n0 + k) % R) + Y k := ⟨_, rfl⟩
      have xl : x < 64 * R := by rw [ex]; exact ixl k
      have nj : ∀ j, j < k → ¬ 64 * ((n0 + j) % R) + Y j = x := fun j hj z => c.2.2 j k hj (by omega) (ixe j k (by rw [z, ex]))
      have v0 := b1 x xl nj
      have e1 := eix h1 k t1
      have vx := vix k
      have cx := cix k
      rw [← ex] at e1 vx cx
      obtain ⟨h2, eh2⟩ : ∃ h2, h2 = mn_up h1 73 x (nI (k + 1)) := ⟨_, rfl⟩
      have f2 : mdF h h2 := by rw [eh2]; exact f1.u73 _ _
      have t2 : TRY h2 df my 9 0 none (Y k) ((n0 + k) % R) := by rw [eh2]; exact t1.row (by decide)
      obtain ⟨h3, x3, g3, w3⟩ := x_X8_gathers (MT_row (f2.1 65 (by decide) (by decide) (by decide)) hm) hw t2 hdf hmy (by omega) (by have := mr k; omega) (yl k)
      have ec : nxN T df my (Y k) ((n0 + k) % R) = Y (k + 1) := by
        rw [eY]
        show _ = nxN T df my (yqN T df my n0 y0 k) (n0 + k)
        refine nxN_mod ?_
        rw [← eR, Nat.mod_mod]
      obtain ⟨k1, k2, k3⟩ := nxN_spec T df my (Y k) ((n0 + k) % R)
      have r0 : h3 72 (0 : Int32).toNatClampNeg = nI (Y (k + 1)) := by
        rw [nl0, ← ec]
        have := w3.2 _ k1 k2
        rw [k3] at this; exact this
      have t3 := g3.try t2
      have en : (nI ((n0 + k) % R) + 1) - (nI ((n0 + k) % R) + 1) / nI R * nI R = nI ((n0 + (k + 1)) % R) := by
        have := mr k
        rw [nI_1, pk_rem (by omega) R0 (by omega), ← Nat.add_assoc, Nat.mod_add_mod]
      refine ⟨mn_up (mn_up h3 63 19 (nI (Y (k + 1)))) 63 20 (nI ((n0 + (k + 1)) % R)), ((f2.gt g3).up (by decide) _).up (by decide) _, t3.nxt, fun j hj => ?_, fun z hz' hne => ?_, fun q h' z => E1 q h' ?_⟩
      · rw [mn_up_row _ _ _ _ (by decide), mn_up_row _ _ _ _ (by decide), g3.1 73 (by decide) (by decide), eh2, mn_up_get]
        by_cases q : j = k
        · rw [q, if_pos ⟨rfl, ex.symm⟩]
        · rw [if_neg (fun z => nj j (by omega) z.2), a1 j (by omega)]
      · rw [mn_up_row _ _ _ _ (by decide), mn_up_row _ _ _ _ (by decide), g3.1 73 (by decide) (by decide), eh2, mn_up_get, if_neg (fun y => hne k (by omega) (by rw [y.2, ex]))]
        exact b1 z hz' (fun j hj => hne j (by omega))
      · rw [b_X8_answers_56 (by rw [e1]; exact vx), e1, cx, v0, if_neg (fun z => z rfl), b_X8_answers_76 (by rw [e1]; exact vx), e1, cx, nI_1, ← eh2, mn_cl_v x3, b_X8_answers_101 Rn, r0, mn_up_get h3 63 19 (nI (Y (k + 1))) 63 20, if_neg (by decide), t3.2.2.2.2.2.2.2, en]
        exact z
  obtain ⟨h1, f1, t1, a1, b1, E1⟩ := key (m + l) (Nat.le_refl _)
  refine ⟨h1, f1, E1 _ _ ?_⟩
  have lpos := c.1
  have rr := c.2.1
  have e1 := eix h1 (m + l) t1
  have vx := vix (m + l)
  have cx := cix (m + l)
  have v1 : h1 73 (64 * ((n0 + (m + l)) % R) + Y (m + l)) = nI (m + 1) := by
    rw [← rr.1, ← rr.2]; exact a1 m (by omega)
  rw [b_X8_answers_56 (by rw [e1]; exact vx), e1, cx, v1, if_pos (show ¬ nI (m + 1) = 0 from nI_ne0 (by omega) (by omega)), b_X8_answers_126 (by rw [e1]; exact vx), e1, cx, v1, nI_pred]
  by_cases o : x1 = 0
  · rw [if_neg (fun z => z o), b_X8_answers_151, b_X8_answers_160, if_pos o]; exact ⟨rfl, rfl⟩
  · rw [if_pos o, b_X8_answers_156, b_X8_answers_160, if_neg o, pk_sub (by omega), Nat.add_sub_cancel_left]; exact ⟨rfl, rfl⟩
end ANS
theorem p_answers (x : Int32) : PAIR 87 170 [.int x] := by
  intro h i
  obtain ⟨T, S, n, df, my, sd, r, -⟩ := id i
  have h60 := r.n60
  have xc := x_isChoice (h := h) x
  by_cases o : (decide (x = 0) || decide (x = 1)) = true
  · rw [o] at xc
    have hy := r.s64 n (Nat.le_refl _)
    obtain ⟨m, l, c, hb⟩ := cyc_all (T := T) (df := df) (my := my) (n0 := n) r.tw hy
    have l9 := lcN_le r.tw (Nat.le_refl _)
    have R0 := lcN_pos r.tw _ (Nat.le_refl _)
    obtain ⟨h1, xs, tf, hv⟩ := x_supposeNow r.1
    have r1 := tf.sf.rn r
    obtain ⟨h2, eh2⟩ : ∃ h2, h2 = mn_set (mn_up (mn_up h1 20 3 (nI (lcN T (T 0 4)))) 20 2 (nI n)) 21 (fun j => if j < 512 then -1 else mn_up (mn_up h1 20 3 (nI (lcN T (T 0 4)))) 20 2 (nI n) 21 j) := ⟨_, rfl⟩
    have xb : mn_X 0 [.ref 20, .int (nI (lcN T (T 0 4))), .int (nI n)] h1 none h2 := by
      rw [e_X0_begin, b_X0_begin_0, mn_cl_v (x_fill (a := 21) (n := 512) (-1) rfl (by decide) (by decide)), ← eh2, b_X0_begin_18]; exact ⟨rfl, rfl⟩
    have f2 : ∀ b, b ≠ 20 → b ≠ 21 → h2 b = h1 b := fun b q1 q2 => by rw [eh2, mn_set_row, if_neg q2, mn_up_row _ _ _ _ q1, mn_up_row _ _ _ _ q1]
    have sf2 : SF h1 h2 := ⟨fun b _ q _ _ _ => f2 b (by omega) (by omega), fun k _ => by rw [f2 63 (by decide) (by decide)]⟩
    have r2 := sf2.rn r1
    have hT1 := r1.hT
    have hT2 := r2.hT
    have e3 : h2 20 3 = nI (lcN T (T 0 4)) := by rw [eh2, mn_set_row, if_neg (by decide), mn_up_get, if_neg (by decide), mn_up_get, if_pos ⟨rfl, rfl⟩]
    have e2 : h2 20 2 = nI n := by rw [eh2, mn_set_row, if_neg (by decide), mn_up_get, if_pos ⟨rfl, rfl⟩]
    have hv2 : trV h2 T df my 9 0 := by unfold trV at hv ⊢; rw [f2 18 (by decide) (by decide), f2 19 (by decide) (by decide)]; exact hv
    have ca2 : CA h2 T df my := fun y k hy => by
      left
      have := selN_lt r.tw k
      rw [eh2, mn_set_get2, if_pos rfl, if_pos (by omega)]
    obtain ⟨h3, x3, f3, ca3⟩ := x_loopFrom hT2 r2.ct r.tw hv2 ca2 e3 e2 h60 hy c
    have r3 := f3.sf.rn r2
    have hT3 := r3.hT
    obtain ⟨h4, x4, f4⟩ := x_leadFrom hT3 r3.ct r.tw (f3.tv hv2) ca3 (by rw [f3 20 (by decide) (by decide)]; exact e3) (by rw [f3 20 (by decide) (by decide)]; exact e2) h60 hy c hb
    have hd : ∀ q h', mn_E 87 57 [.ref 0, .int x, .null] [.int (nI l)] h3 q h' → mn_X 87 [.ref 0, .int x] h q h' := by
      intro q h' z
      rw [e_X7_answers, b_X7_answers_0, mn_cl_i xc, b_X7_answers_4, if_pos (by decide), b_X7_answers_10, mn_cl_v xs, b_X7_answers_14 hT1, mn_cl_i (x_turn hT1 r1.ct r.tw), b_X7_answers_25, r1.cst.2.1, mn_cl_v xb, b_X7_answers_35 hT2, mn_cl_i (x_dayBefore r2.1), b_X7_answers_54 hT2, mn_cl_i x3]
      exact z
    have md : ∀ hh, SF h hh → ∃ h', mdF hh h' ∧ mn_X 170 [.ref 63, .int x] hh (some (.int (if x = 0 then nI m else nI l))) h' := by
      intro hh sf
      have rr := sf.rn r
      have xm := x_choice (h := hh) x
      rw [o] at xm
      obtain ⟨g1, a, b, cc⟩ := x_X8_trying rr.2.1 h60
      have m1 := rr.2.1.md b
      obtain ⟨g2, b2, t2, z2, E2⟩ := x_mzero (lcN T (T 0 4)) l9 (x1 := x) cc
      have t3 : TRY (mn_up g2 63 20 (nI (n % lcN T (T 0 4)))) df my 9 0 none (S n) (n % lcN T (T 0 4)) := by
        obtain ⟨u1, u2, u3, u4, u5, u6, u7, u8⟩ := t2
        refine ⟨?_, ?_, ?_, ?_, ?_, (fun q hq => nomatch hq), ?_, ?_⟩ <;> simp [mn_up_get] <;> first | exact u1 | exact u2 | exact u3 | exact u4 | exact u5 | exact u7
      have b3 : mdF hh (mn_up g2 63 20 (nI (n % lcN T (T 0 4)))) := (b.tr b2).up (by decide) _
      obtain ⟨g3, b4, x5⟩ := x_mans (x1 := x) (MT_row (b3.1 65 (by decide) (by decide) (by decide)) rr.mt) r.tw t3 (fun z hz => by rw [mn_up_row _ _ _ _ (by decide)]; exact z2 z hz) rr.df64 rr.my64 h60 hy c hb
      refine ⟨g3, b3.tr b4, ?_⟩
      rw [e_X8_answers, b_X8_answers_0, mn_cl_i xm, b_X8_answers_6, if_pos (by decide), b_X8_answers_12, mn_cl_v a, b_X8_answers_16, mn_cl_i (x_round m1.1 r.tw), b_X8_answers_20]
      apply E2
      rw [b_X8_answers_44 (nI_ne0 R0 (by omega)), t2.2.2.2.2.2.2.2, pk_rem (by omega) R0 (by omega)]
      exact x5
    have sf3 : SF h h3 := (tf.sf.tr sf2).tr f3.sf
    by_cases o1 : x = 1
    · obtain ⟨h5, f5, x5⟩ := md h3 sf3
      have x0 : ¬ x = 0 := by rw [o1]; decide
      rw [if_neg x0] at x5
      refine ⟨nI l, h3, h5, hd _ _ ?_, x5, i.sf (sf3.tr f5.sf)⟩
      rw [b_X7_answers_57, if_neg (fun z => z o1), b_X7_answers_63, b_X7_answers_90]; exact ⟨rfl, rfl⟩
    · have x0 : x = 0 := by simpa [o1] using o
      have sf4 := sf3.tr f4.sf
      obtain ⟨h5, f5, x5⟩ := md h4 sf4
      rw [if_pos x0] at x5
      refine ⟨nI m, h4, h5, hd _ _ ?_, x5, i.sf (sf4.tr f5.sf)⟩
      rw [b_X7_answers_57, if_pos o1, b_X7_answers_67 hT3, mn_cl_i (x_dayBefore r3.1), b_X7_answers_86 hT3, mn_cl_i x4, b_X7_answers_90]; exact ⟨rfl, rfl⟩
  · have o := Bool.eq_false_iff.mpr o
    rw [o] at xc
    have xm := x_choice (h := h) x
    rw [o] at xm
    refine PAIR.q (r := -1000000002) i ?_ (trF.rf h) ?_ (mdF.rf h)
    · rw [e_X7_answers, b_X7_answers_0, mn_cl_i xc, b_X7_answers_4, if_neg (by decide), b_X7_answers_7]; exact ⟨rfl, rfl⟩
    · rw [e_X8_answers, b_X8_answers_0, mn_cl_i xm, b_X8_answers_6, if_neg (by decide), b_X8_answers_9]; exact ⟨rfl, rfl⟩
