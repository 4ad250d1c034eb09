theorem lgc0 (x y : Int64) : lg_cmp x y = 0 ↔ x = y := by
  unfold lg_cmp
  by_cases h1 : x = y
  · subst h1; simp
  · by_cases h2 : y < x
    · simp [h1, h2]
    · simp [h1, h2]
def orN (p : Nat → Bool) (a : Nat → Nat) : Nat → Nat
  | 0 => 0
  | n + 1 => orN p a n ||| (if p n then 2 ^ a n else 0)
theorem orN_test (p : Nat → Bool) (a : Nat → Nat) (n k : Nat) : (orN p a n).testBit k = (List.range n).any (fun i => p i && decide (a i = k)) := by
  induction n with
  | zero => simp [orN]
  | succ n ih =>
    rw [orN, Nat.testBit_or, ih, mn_any_succ]
    congr 1
    by_cases h : p n = true
    · rw [if_pos h, Nat.testBit_two_pow, h]; simp
    · rw [if_neg h]; simp [h]
theorem orN_lt (p : Nat → Bool) (a : Nat → Nat) (n : Nat) (ha : ∀ i, a i < 64) : orN p a n < 2 ^ 64 := by
  induction n with
  | zero => simp [orN]
  | succ n ih =>
    rw [orN]
    refine Nat.or_lt_two_pow ih ?_
    by_cases h : p n = true
    · rw [if_pos h]; exact Nat.pow_lt_pow_right (by decide) (ha n)
    · rw [if_neg h]; decide
def wI (wl : Option (Nat × Nat)) : Int32 := match wl with | none => (-1) | some q => nI q.1
def lI (wl : Option (Nat × Nat)) : Int32 := match wl with | none => (-1) | some q => nI q.2
def wuN (r : Nat) (wl : Option (Nat × Nat)) : Nat := match wl with | none => r | some q => wireN r q.1 q.2
def wrN (T : TW) (y : Nat) (wl : Option (Nat × Nat)) (d : Nat) : Nat := wuN (ringN T y d) wl
theorem mn_loopb {n : Nat} (E : Nat → Prop) (hx : E n) (hs : ∀ i, i < n → E (i + 1) → E i) {i0 : Nat} (h0 : i0 ≤ n) : E i0 := by
  obtain ⟨k, rfl⟩ : ∃ k, n = i0 + k := ⟨n - i0, by omega⟩
  clear h0
  induction k generalizing i0 with
  | zero => exact hx
  | succ k ih =>
    apply hs i0 (by omega)
    have e : i0 + (k + 1) = i0 + 1 + k := by omega
    rw [e] at hx hs
    exact ih hx hs
def wOk (T : TW) (wl : Option (Nat × Nat)) : Prop := ∀ q, wl = some q → q.1 < T 0 0 ∧ q.2 < T 0 0
theorem ringN_lt (T : TW) (y d : Nat) : ringN T y d < 2 ^ T 0 0 := mn_bits_lt _ _
theorem wireN_lt {r w l n : Nat} (hn : n ≤ 5) (hr : r < 2 ^ n) (hw : w < n) : wireN r w l < 2 ^ n := by
  apply Nat.lt_pow_two_of_testBit
  intro i hi
  unfold wireN
  rw [mn_bits_test]
  have h1 : ¬ i = w := by omega
  have h2 : r.testBit i = false := Nat.testBit_lt_two_pow (Nat.lt_of_lt_of_le hr (Nat.pow_le_pow_right (by decide) hi))
  simp [h1, h2]
def fitM (T : TW) (df my gr mo n y : Nat) (wl : Option (Nat × Nat)) : Nat := mn_bits (fun d => decide (cmN T df my gr mo n (wrN T y wl d) = d)) 64
theorem fitM_lt (T : TW) (df my gr mo n y : Nat) (wl : Option (Nat × Nat)) : fitM T df my gr mo n y wl < 2 ^ 64 := mn_bits_lt _ _
theorem wrN_lt {T : TW} (hw : TWF T) {wl : Option (Nat × Nat)} (ho : wOk T wl) (y d : Nat) : wrN T y wl d < 2 ^ T 0 0 := by
  cases wl with
  | none => exact ringN_lt T y d
  | some q => exact wireN_lt hw.1.1 (ringN_lt T y d) (ho q rfl).1
theorem fitM_or {T : TW} (hw : TWF T) {df my gr mo n y : Nat} {wl : Option (Nat × Nat)} (ho : wOk T wl) : orN (fun r => decide (wrN T y wl (cmN T df my gr mo n r) = r)) (cmN T df my gr mo n) (2 ^ T 0 0) = fitM T df my gr mo n y wl := by
  apply Nat.eq_of_testBit_eq
  intro d
  unfold fitM
  rw [orN_test, mn_bits_test, Bool.eq_iff_iff, List.any_eq_true]
  simp only [List.mem_range, Bool.and_eq_true, decide_eq_true_eq]
  constructor
  · rintro ⟨r, hr, h1, h2⟩
    refine ⟨by rw [← h2]; exact cmN_lt _ _ _ _ _ _ _, ?_⟩
    rw [h2] at h1
    rw [h1, h2]
  · rintro ⟨-, h⟩
    exact ⟨wrN T y wl d, wrN_lt hw ho y d, by rw [h], h⟩
/-- all that could come, a bit a day -/
def posM (T : TW) (df my gr mo n y : Nat) : Nat := if fitM T df my gr mo n y none = 0 then 2 ^ cmN T df my gr mo n 0 else fitM T df my gr mo n y none
theorem posM_lt (T : TW) (df my gr mo n y : Nat) : posM T df my gr mo n y < 2 ^ 64 := by
  unfold posM
  split
  · exact Nat.pow_lt_pow_right (by decide) (cmN_lt _ _ _ _ _ _ _)
  · exact fitM_lt _ _ _ _ _ _ _ _
theorem posM_ne (T : TW) (df my gr mo n y : Nat) : posM T df my gr mo n y ≠ 0 := by
  unfold posM
  split
  · exact Nat.ne_of_gt (Nat.pow_pos (by decide))
  · assumption
theorem selN_lt {T : TW} (hw : TWF T) (n : Nat) : selN T n < 8 := Nat.lt_of_lt_of_le (mn_bits_lt _ _) (show 2 ^ T 0 4 ≤ 2 ^ 3 from Nat.pow_le_pow_right (by decide) hw.1.2.2.2.2)
section FIT
variable {h : mn_H} {t : Nat} {T : TW}
theorem x_X6_wireUp (hw : TWF T) {r : Nat} (hr : r < 32) {wl : Option (Nat × Nat)} (ho : wOk T wl) : mn_X 63 [.int (nI r), .int (wI wl), .int (lI wl)] h (some (.int (nI (wuN r wl)))) h := by
  rw [e_X6_wireUp, b_X6_wireUp_0]
  cases wl with
  | none => rw [if_pos (show wI none = (-1) from rfl), b_X6_wireUp_10]; exact ⟨rfl, rfl⟩
  | some q =>
    obtain ⟨a, b⟩ := q
    obtain ⟨h1, h2⟩ := ho (a, b) rfl
    have w := hw.1.1
    dsimp only at h1 h2
    have n1 : ∀ x, x < 5 → ¬ nI x = (-1) := by decide
    have e1 : wI (some (a, b)) = nI a := rfl
    have e2 : lI (some (a, b)) = nI b := rfl
    rw [e1, e2, if_neg (n1 a (by omega)), b_X6_wireUp_5, if_pos (n1 b (by omega)), b_X6_wireUp_12, nI_wire r hr a (by omega) b (by omega)]
    exact ⟨rfl, rfl⟩
theorem x_X6_comingBy {df my gr mo n r : Nat} (hw : TWF T) (hv : trV h T df my gr mo) (hr : r < 2 ^ T 0 0) : mn_X 60 [.ref 16, .int (nI r), .int (nI (slfN T (selN T n)))] h (some (.int (nI (cmN T df my gr mo n r)))) h := by
  rw [show slfN T (selN T n) = ofN T n from rfl]
  have p := mn_pw5 hw
  obtain ⟨v1, v2⟩ := hv r hr
  have l1 : cauN T df my gr mo r < 64 := by unfold cauN; exact metN_lt _ _ _ _ _
  have l2 : stoN T df my gr mo r < 64 := by unfold stoN; exact metN_lt _ _ _ _ _
  have l3 : ofN T n < 64 := by unfold ofN slfN; exact metN_lt _ _ _ _ _
  have e : cmN T df my gr mo n r = andn (cauN T df my gr mo r ||| ofN T n) (stoN T df my gr mo r) := by unfold cmN; rfl
  rw [e]
  generalize cauN T df my gr mo r = cc at v1 l1 ⊢
  generalize stoN T df my gr mo r = ss at v2 l2 ⊢
  generalize ofN T n = oo at l3 ⊢
  rw [e_X6_comingBy, b_X6_comingBy_0 (vp_in_nI (by omega) (by decide)), nI_clamp (by omega), v1, v2, nq_or (by omega) (by omega), nI_andn _ (mn_or64 l1 l3) _ l2]
  exact ⟨rfl, rfl⟩
theorem x_X6_fitting (ht : mn_isT t) (hc : CT h t T) (hw : TWF T) {df my gr mo n y : Nat} {wl : Option (Nat × Nat)} (ho : wOk T wl) (hv : trV h T df my gr mo) (hy : y < 64) : mn_X 61 [.ref 16, .ref t, .int (nI y), .int (nI (selN T n)), .int (wI wl), .int (lI wl)] h (some (.long (lN (fitM T df my gr mo n y wl)))) h := by
  have p5 := mn_pw5 hw
  rw [e_X6_fitting, b_X6_fitting_0 ht, mn_cl_i (x_X5_comingOfItself ht hc hw (selN_lt hw n)), b_X6_fitting_5 ht]
  suffices H : ∀ w : Value, mn_E 61 13 [.ref 16, .ref t, .int (nI y), .int (nI (selN T n)), .int (wI wl), .int (lI wl), .int (nI (slfN T (selN T n))), .long 0, .null, .int 0, w] [] h (some (.long (lN (fitM T df my gr mo n y wl)))) h from H _
  refine mn_loopb (n := 2 ^ T 0 0) (fun i => ∀ w : Value, mn_E 61 13 [.ref 16, .ref t, .int (nI y), .int (nI (selN T n)), .int (wI wl), .int (lI wl), .int (nI (slfN T (selN T n))), .long (lN (orN (fun r => decide (wrN T y wl (cmN T df my gr mo n r) = r)) (cmN T df my gr mo n) i)), .null, .int (nI i), w] [] h (some (.long (lN (fitM T df my gr mo n y wl)))) h) ?_ ?_ (Nat.zero_le _)
  · intro w
    rw [b_X6_fitting_13 ht, mn_cl_i (x_X5_countRings ht hc hw), b_X6_fitting_19 ht, if_pos (nI_le (Nat.le_refl _) (by omega)), b_X6_fitting_73 ht, fitM_or hw ho]
    exact ⟨rfl, rfl⟩
  · intro i hi
    have cl := cmN_lt T df my gr mo n i
    have ol := orN_lt (fun r => decide (wrN T y wl (cmN T df my gr mo n r) = r)) (cmN T df my gr mo n) i (fun i => cmN_lt T df my gr mo n i)
    have pl : 2 ^ cmN T df my gr mo n i < 2 ^ 64 := Nat.pow_lt_pow_right (by decide) cl
    have rl := ringN_lt T y (cmN T df my gr mo n i)
    have wl2 := wrN_lt hw ho y (cmN T df my gr mo n i)
    have step : ∀ w : Value, mn_E 61 13 [.ref 16, .ref t, .int (nI y), .int (nI (selN T n)), .int (wI wl), .int (lI wl), .int (nI (slfN T (selN T n))), .long (lN (orN (fun r => decide (wrN T y wl (cmN T df my gr mo n r) = r)) (cmN T df my gr mo n) i)), .null, .int (nI i), w] [] h (some (.long (lN (fitM T df my gr mo n y wl)))) h ↔
        mn_E 61 13 [.ref 16, .ref t, .int (nI y), .int (nI (selN T n)), .int (wI wl), .int (lI wl), .int (nI (slfN T (selN T n))), .long (lN (orN (fun r => decide (wrN T y wl (cmN T df my gr mo n r) = r)) (cmN T df my gr mo n) (i + 1))), .null, .int (nI (i + 1)), .int (nI (cmN T df my gr mo n i))] [] h (some (.long (lN (fitM T df my gr mo n y wl)))) h := by
      intro w
      have xr := x_X5_ringFor ht hc hw hy cl
      have xw := x_X6_wireUp (h := h) hw (r := ringN T y (cmN T df my gr mo n i)) (by omega) ho
      rw [b_X6_fitting_13 ht, mn_cl_i (x_X5_countRings ht hc hw), b_X6_fitting_19 ht, if_neg (nI_ge hi (by omega)), b_X6_fitting_22 ht, if_neg (show ¬ (32 : Int32) ≤ nI i from nI_ge (b := 32) (by omega) (by decide)), b_X6_fitting_29 ht, mn_cl_i (x_X6_comingBy (n := n) hw hv hi), b_X6_fitting_37 ht, mn_cl_i xr, b_X6_fitting_46 ht, mn_cl_i xw, b_X6_fitting_53 ht, orN]
      rw [show wuN (ringN T y (cmN T df my gr mo n i)) wl = wrN T y wl (cmN T df my gr mo n i) from rfl]
      by_cases o : wrN T y wl (cmN T df my gr mo n i) = i
      · rw [if_neg (fun z => z (by rw [o])), b_X6_fitting_58 ht, b_X6_fitting_67 ht, nI_1, show (1 : Int64) = lN 1 from rfl, wb_shl 1 cl, Nat.one_mul, wb_or ol pl, if_pos (decide_eq_true o)]
      · rw [if_pos (fun z => o ((nI_eq (by omega) (by omega)).mp z)), b_X6_fitting_67 ht, nI_1, if_neg (by simpa using o), Nat.or_zero]
    intro H w
    rw [step w]
    exact H _
theorem x_X6_possible (ht : mn_isT t) (hc : CT h t T) (hw : TWF T) {df my gr mo n y : Nat} (hv : trV h T df my gr mo) (hy : y < 64) : mn_X 62 [.ref 16, .ref t, .int (nI y), .int (nI (selN T n))] h (some (.long (lN (posM T df my gr mo n y)))) h := by
  have xf := x_X6_fitting (n := n) (wl := none) ht hc hw (fun q hq => by cases hq) hv hy
  have fl := fitM_lt T df my gr mo n y none
  have cl := cmN_lt T df my gr mo n 0
  rw [show wI none = (-1) from rfl, show lI none = (-1) from rfl] at xf
  have xc : mn_X 60 [.ref 16, .int 0, .int (nI (slfN T (selN T n)))] h (some (.int (nI (cmN T df my gr mo n 0)))) h := x_X6_comingBy (n := n) (r := 0) hw hv (Nat.pow_pos (by decide))
  rw [e_X6_possible, b_X6_possible_0 ht, mn_cl_l xf, b_X6_possible_9 ht]
  unfold posM
  by_cases o : fitM T df my gr mo n y none = 0
  · rw [if_pos (by rw [lgc0, o]; rfl), if_pos o, b_X6_possible_23 ht, mn_cl_i (x_X5_comingOfItself ht hc hw (selN_lt hw n)), b_X6_possible_31 ht, mn_cl_i xc, b_X6_possible_34 ht, b_X6_possible_35 ht, show (1 : Int64) = lN 1 from rfl, wb_shl 1 cl, Nat.one_mul]
    exact ⟨rfl, rfl⟩
  · have hne : ¬ lg_cmp (lN (fitM T df my gr mo n y none)) 0 = 0 := by
      rw [lgc0]
      intro e
      apply o
      have : (lN (fitM T df my gr mo n y none)).toBitVec.toNat = (0 : Int64).toBitVec.toNat := by rw [e]
      rw [wb_tn fl] at this
      exact this
    rw [if_neg hne, if_neg o, b_X6_possible_18 ht, b_X6_possible_35 ht]
    exact ⟨rfl, rfl⟩
end FIT
