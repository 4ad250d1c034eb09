theorem mx1 {g : Nat} (h0 : 0 < g) (h1 : g < 2 ^ 31) : (if (1 : Int32) < nI g then nI g else 1) = nI g := by
  by_cases q : (1 : Int32) < nI g
  · rw [if_pos q]
  · rw [if_neg q]
    have : g = 1 := by
      by_cases q2 : g = 1
      · exact q2
      · exact absurd (show (1 : Int32) < nI g from nI_lt (a := 1) (by omega) h1) q
    rw [this]; rfl
section ANS
variable {h hh : mn_H} {t : Nat} {T : TW} {df my n0 y0 : Nat}
theorem x_turn (ht : mn_isT t) (hc : CT h t T) (hw : TWF T) : mn_X 54 [.ref t] h (some (.int (nI (lcN T (T 0 4))))) h := by
  have c0 := hc.1.2.2.2.2
  have cs := hc.2.2.2.2.2.1
  have w0 := hw.1.2.2.2.2
  have ws := hw.2.2.2.2.2.1
  rw [e_X5_turn, b_X5_turn_0 ht]
  have key := mn_loopb (n := T 0 4) (fun i => ∀ w : Value, mn_E 54 4 [.ref t, .int (nI (lcN T i)), .int (nI i), w] [] h (some (.int (nI (lcN T (T 0 4))))) h) ?_ ?_ (i0 := 0) (Nat.zero_le _)
  · exact key _
  · intro w
    rw [b_X5_turn_4 ht, c0, if_pos (Int32.le_refl _), b_X5_turn_44 ht]; exact ⟨rfl, rfl⟩
  · intro i hi H w
    have v3 : vp_in (nI i) 3 := vp_in_nI (by omega) (by decide)
    have cl : (nI i).toNatClampNeg = i := nI_clamp (by omega)
    obtain ⟨q1, q2, q3, q4⟩ := ws i hi
    have l0 := lcN_pos hw i (by omega)
    have l9 := lcN_le hw (show i ≤ T 0 4 by omega)
    have g0 : 0 < Nat.gcd (T 15 i) (lcN T i) := Nat.gcd_pos_of_pos_left _ (by omega)
    have g1 : Nat.gcd (T 15 i) (lcN T i) ≤ T 15 i := Nat.gcd_le_left _ (by omega)
    have mx := mx1 g0 (by omega)
    rw [b_X5_turn_4 ht, c0, if_neg (nI_ge hi (by omega)), b_X5_turn_12 ht v3, cl, (cs i hi).2.1, mn_cl_i (x_gcd (by omega) (by omega)), b_X5_turn_23 ht (by rw [mx]; exact nI_ne0 g0 (by omega)) v3, mx, cl, (cs i hi).2.1, pk_div (by omega) g0 (by omega), pk_mul, lcm_div _ _ l0, nI_1]
    exact H _
theorem x_round (hm : MT h T) (hw : TWF T) : mn_X 169 [.ref 63] h (some (.int (nI (lcN T (T 0 4))))) h := by
  have c0 := hm.1.2.2.2.2
  have cs := hm.2.2.2.2.2.1
  have w0 := hw.1.2.2.2.2
  have ws := hw.2.2.2.2.2.1
  rw [e_X8_round, b_X8_round_0]
  have key := mn_loopb (n := T 0 4) (fun i => ∀ w : Value, mn_E 169 4 [.ref 63, .int (nI (lcN T i)), .int (nI i), w] [] h (some (.int (nI (lcN T (T 0 4))))) h) ?_ ?_ (i0 := 0) (Nat.zero_le _)
  · exact key _
  · intro w
    rw [b_X8_round_4, nl4, c0, if_pos (Int32.le_refl _), b_X8_round_52]; exact ⟨rfl, rfl⟩
  · intro i hi H w
    obtain ⟨q1, q2, q3, q4⟩ := ws i hi
    have l0 := lcN_pos hw i (by omega)
    have l9 := lcN_le hw (show i + 1 ≤ T 0 4 by omega)
    have e1 : (80 : Int32) + 3 * nI i + 1 = nI (80 + 3 * i + 1) := by rw [show (80 : Int32) = nI 80 from rfl, show (3 : Int32) = nI 3 from rfl, na_mul, nI_1]
    have cl : (nI (80 + 3 * i + 1)).toNatClampNeg = 80 + 3 * i + 1 := nI_clamp (by omega)
    have vv : vp_in ((80 : Int32) + 3 * nI i + 1) 96 := by rw [e1]; exact vp_in_nI (by omega) (by decide)
    have nz : ¬ h 65 ((80 : Int32) + 3 * nI i + 1).toNatClampNeg = 0 := by rw [e1, cl, (cs i hi).2.1]; exact nI_ne0 (by omega) (by omega)
    rw [b_X8_round_4, nl4, c0, if_neg (nI_ge hi (by omega)), b_X8_round_14]
    obtain ⟨a, ea⟩ : ∃ a, a = lcN T i := ⟨_, rfl⟩
    obtain ⟨L, eL⟩ : ∃ L, L = lcN T (i + 1) := ⟨_, rfl⟩
    have eL2 : L = Nat.lcm a (T 15 i) := by rw [eL, ea]; rfl
    rw [← eL] at H l9
    rw [← ea] at l0 ⊢
    obtain ⟨q, hq⟩ : a ∣ L := by rw [eL2]; exact Nat.dvd_lcm_left _ _
    have L0 : 0 < L := by rw [eL2]; exact Nat.lcm_pos l0 (by omega)
    have qp : 0 < q := Nat.pos_of_ne_zero (fun z => by rw [z, Nat.mul_zero] at hq; omega)
    obtain ⟨p, rfl⟩ : ∃ p, q = p + 1 := ⟨q - 1, by omega⟩
    refine mn_loopb (n := p) (fun x => mn_E 169 16 [.ref 63, .int (nI a), .int (nI i), .int (nI (x + 1))] [] h (some (.int (nI (lcN T (T 0 4))))) h) ?_ ?_ (i0 := 0) (Nat.zero_le _)
    · show mn_E _ _ _ _ _ _ _
      have r0 : L % T 15 i = 0 := Nat.mod_eq_zero_of_dvd (by rw [eL2]; exact Nat.dvd_lcm_right _ _)
      rw [b_X8_round_16 vv nz, e1, cl, (cs i hi).2.1, pk_mul, ← hq, pk_rem (by omega) (by omega) (by omega), r0, if_pos (show nI 0 = 0 from rfl), b_X8_round_42, pk_mul, ← hq, nI_1]
      exact H _
    · intro x hx H2
      show mn_E _ _ _ _ _ _ _
      have lt : a * (x + 1) < L := by rw [hq]; exact Nat.mul_lt_mul_of_pos_left (by omega) l0
      have rn : ¬ a * (x + 1) % T 15 i = 0 := fun z => by
        have d := Nat.lcm_dvd (Nat.dvd_mul_right a (x + 1)) (Nat.dvd_of_mod_eq_zero z)
        rw [← eL2] at d
        have := Nat.le_of_dvd (Nat.mul_pos l0 (by omega)) d
        omega
      have ml : a * (x + 1) % T 15 i < T 15 i := Nat.mod_lt _ (by omega)
      rw [b_X8_round_16 vv nz, e1, cl, (cs i hi).2.1, pk_mul, pk_rem (by omega) (by omega) (by omega), if_neg (nI_ne0 (by omega) (by omega)), b_X8_round_36, nI_1]
      exact H2
/-- what follows, as far as it was found -/
def CA (hh : mn_H) (T : TW) (df my : Nat) : Prop := ∀ y n, y < 64 → hh 21 (selN T n * 64 + y) = -1 ∨ hh 21 (selN T n * 64 + y) = nI (nxN T df my y n)
theorem x_follow (ht : mn_isT t) (hc : CT h t T) (hw : TWF T) (hv : trV h T df my 9 0) (ca : CA h T df my) {y n : Nat} (hy : y < 64) (hn : n < 2 ^ 30) : ∃ h', mn_X 3 [.ref 20, .ref t, .ref 16, .int (nI y), .int (nI n)] h (some (.int (nI (nxN T df my y n)))) h' ∧ (∀ b, b ≠ 21 → h' b = h b) ∧ CA h' T df my := by
  have s8 := selN_lt hw n
  have ep : nI (selN T n) * 64 + nI y = nI (selN T n * 64 + y) := by rw [show (64 : Int32) = nI 64 from rfl, pk_mul, nI_add]
  have vp : vp_in (nI (selN T n * 64 + y)) 512 := vp_in_nI (by omega) (by decide)
  have cl : (nI (selN T n * 64 + y)).toNatClampNeg = selN T n * 64 + y := nI_clamp (by omega)
  obtain ⟨k1, k2, k3⟩ := nxN_spec T df my y n
  have hd : ∀ q h', mn_X 3 [.ref 20, .ref t, .ref 16, .int (nI y), .int (nI n)] h q h' ↔ (if ¬ h 21 (selN T n * 64 + y) = (-1) then mn_E 3 47 [.ref 20, .ref t, .ref 16, .int (nI y), .int (nI n), .int (nI (selN T n)), .int (nI (selN T n * 64 + y))] [] h q h' else mn_E 3 28 [.ref 20, .ref t, .ref 16, .int (nI y), .int (nI n), .int (nI (selN T n)), .int (nI (selN T n * 64 + y))] [] h q h') := by
    intro q h'
    rw [e_X0_follow, b_X0_follow_0 ht, mn_cl_i (x_X5_selvesOn ht hc hw hn), b_X0_follow_6 ht (by rw [ep]; exact vp), ep, cl]
  by_cases o : h 21 (selN T n * 64 + y) = -1
  · refine ⟨mn_up h 21 (selN T n * 64 + y) (nI (nxN T df my y n)), ?_, fun b q => mn_up_row _ _ _ _ q, fun y' n' hy' => ?_⟩
    · have xd := x_dayAt_some (h := h) (posM_lt T df my 9 0 n y) k1 k2 k3
      rw [show nI 0 = (0 : Int32) from rfl] at xd
      rw [hd, if_neg (fun z => z o), b_X0_follow_28 ht, mn_cl_l (x_X6_possible (n := n) ht hc hw hv hy), b_X0_follow_42 ht, mn_cl_i xd, b_X0_follow_46 ht vp, cl, b_X0_follow_47 ht vp, cl, mn_up_get, if_pos ⟨rfl, rfl⟩]
      exact ⟨rfl, rfl⟩
    · rw [mn_up_get]
      by_cases q : selN T n' * 64 + y' = selN T n * 64 + y
      · rw [if_pos ⟨rfl, q⟩]
        right
        have e1 : selN T n' = selN T n := by omega
        have e2 : y' = y := by omega
        rw [e2, nxN_sel e1]
      · rw [if_neg (fun z => q z.2)]; exact ca y' n' hy'
  · refine ⟨h, ?_, fun _ _ => rfl, ca⟩
    rw [hd, if_pos o, b_X0_follow_47 ht vp, cl, (ca y n hy).resolve_left o]
    exact ⟨rfl, rfl⟩
def aF (h hh : mn_H) : Prop := ∀ b, b ≠ 21 → b ≠ 22 → hh b = h b
theorem aF.ct (f : aF h hh) (ht : mn_isT t) (hc : CT h t T) : CT hh t T := CT_rows (fun k hk => f _ (by rcases ht with rfl | rfl <;> omega) (by rcases ht with rfl | rfl <;> omega)) hc
theorem aF.tv (f : aF h hh) (v : trV h T df my 9 0) : trV hh T df my 9 0 := by
  unfold trV at v ⊢; rw [f 18 (by decide) (by decide), f 19 (by decide) (by decide)]; exact v
/-- a turn of days -/
theorem x_turnW (ht : mn_isT t) (hc : CT h t T) (hw : TWF T) (hv : trV h T df my 9 0) (ca : CA h T df my) (e3 : h 20 3 = nI (lcN T (T 0 4))) (e2 : h 20 2 = nI n0) (hn : n0 ≤ 60) (hy : y0 < 64) {x3 x5 : Int32} (u : Nat) : ∃ h', (∀ b, b ≠ 21 → h' b = h b) ∧ CA h' T df my ∧ ∀ q h'', mn_E 1 92 [.ref 20, .ref t, .ref 16, .int x3, .int (nI (yqN T df my n0 y0 ((u + 1) * lcN T (T 0 4)))), .int x5, .int (nI (lcN T (T 0 4)))] [] h' q h'' → mn_E 1 60 [.ref 20, .ref t, .ref 16, .int x3, .int (nI (yqN T df my n0 y0 (u * lcN T (T 0 4)))), .int x5, .int (nI 0)] [] h q h'' := by
  have l9 := lcN_le hw (Nat.le_refl _)
  obtain ⟨R, eR⟩ : ∃ R, R = lcN T (T 0 4) := ⟨_, rfl⟩
  rw [← eR] at e3 l9 ⊢
  have key : ∀ i, i ≤ R → ∃ h', (∀ b, b ≠ 21 → h' b = h b) ∧ CA h' T df my ∧ ∀ q h'', mn_E 1 60 [.ref 20, .ref t, .ref 16, .int x3, .int (nI (yqN T df my n0 y0 (u * R + i))), .int x5, .int (nI i)] [] h' q h'' → mn_E 1 60 [.ref 20, .ref t, .ref 16, .int x3, .int (nI (yqN T df my n0 y0 (u * R))), .int x5, .int (nI 0)] [] h q h'' := by
    intro i
    induction i with
    | zero => intro _; exact ⟨h, fun _ _ => rfl, ca, fun q h'' z => z⟩
    | succ i ih =>
      intro hi
      obtain ⟨h1, f1, c1, E1⟩ := ih (by omega)
      have f1' : aF h h1 := fun b q _ => f1 b q
      obtain ⟨h2, x2, f2, c2⟩ := x_follow ht (f1'.ct ht hc) hw (f1'.tv hv) c1 (yqN_lt hy (u * R + i)) (show n0 + i < 2 ^ 30 by omega)
      refine ⟨h2, fun b q => by rw [f2 b q]; exact f1 b q, c2, fun q h'' z => E1 q h'' ?_⟩
      have en : nxN T df my (yqN T df my n0 y0 (u * R + i)) (n0 + i) = yqN T df my n0 y0 (u * R + (i + 1)) := by
        show _ = nxN T df my (yqN T df my n0 y0 (u * R + i)) (n0 + (u * R + i))
        refine nxN_mod ?_
        rw [← eR, show n0 + (u * R + i) = n0 + i + R * u by rw [Nat.mul_comm]; omega, Nat.add_mul_mod_self_left]
      rw [en] at x2
      rw [b_X0_loopFrom_60 ht, f1 20 (by decide), e3, if_neg (nI_ge (by omega) (by omega)), b_X0_loopFrom_69 ht, f1 20 (by decide), e2, nI_add, mn_cl_i x2, b_X0_loopFrom_84 ht, nI_1]
      exact z
  obtain ⟨h', f, c, E⟩ := key R (Nat.le_refl _)
  refine ⟨h', f, c, fun q h'' z => E q h'' ?_⟩
  rw [b_X0_loopFrom_60 ht, f 20 (by decide), e3, if_pos (Int32.le_refl _), show u * R + R = (u + 1) * R from (Nat.succ_mul u R).symm]
  exact z
end ANS
