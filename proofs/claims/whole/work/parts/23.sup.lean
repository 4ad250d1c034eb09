theorem CT_rows {h hh : mn_H} {t : Nat} {T : TW} (hr : ∀ k, k < 20 → hh (t + k) = h (t + k)) (hc : CT h t T) : CT hh t T := by
  have e0 : hh t = h t := hr 0 (by omega)
  unfold CT at hc ⊢
  rw [e0, hr 1 (by omega), hr 2 (by omega), hr 3 (by omega), hr 4 (by omega), hr 5 (by omega), hr 6 (by omega), hr 7 (by omega), hr 8 (by omega), hr 9 (by omega), hr 10 (by omega), hr 11 (by omega), hr 12 (by omega), hr 13 (by omega), hr 14 (by omega), hr 15 (by omega), hr 16 (by omega), hr 17 (by omega), hr 18 (by omega), hr 19 (by omega)]
  exact hc
/-- rows of the trial: 16 to 19 -/
def trF (h hh : mn_H) : Prop := ∀ b, b < 16 ∨ 19 < b → hh b = h b
theorem trF.rf (h : mn_H) : trF h h := fun _ _ => rfl
theorem trF.tr {h h1 h2 : mn_H} (a : trF h h1) (b : trF h1 h2) : trF h h2 := fun c hc => (b c hc).trans (a c hc)
theorem trF.ct {h hh : mn_H} {t : Nat} {T : TW} (a : trF h hh) (ht : mn_isT t) (hc : CT h t T) : CT hh t T := CT_rows (fun k hk => a _ (by rcases ht with rfl | rfl <;> omega)) hc
theorem trF.up {h hh : mn_H} {a k : Nat} {x : Int32} (f : trF h hh) (h1 : 16 ≤ a) (h2 : a ≤ 19) : trF h (mn_up hh a k x) := fun b hb => by rw [mn_up_row _ _ _ _ (by omega)]; exact f b hb
theorem trF.set {h hh : mn_H} {a : Nat} {g : Nat → Int32} (f : trF h hh) (h1 : 16 ≤ a) (h2 : a ≤ 19) : trF h (mn_set hh a g) := fun b hb => by rw [mn_set_row, if_neg (by omega)]; exact f b hb
/-- by how many more a group must grow till by one of the first rings something more is met -/
def gpN (T : TW) (df my gr mo : Nat) : Nat → Nat
  | 0 => 1000
  | r + 1 => if gr < 6 then
      (let d := deedN T df my r gr; let p := doneN T df my gr mo r d; let a := gapN (T 9) (T 10) d p (T 0 2); let b := gapN (T 12) (T 13) d p (T 0 3); let g1 := if a < gpN T df my gr mo r then a else gpN T df my gr mo r; if b < g1 then b else g1) else gpN T df my gr mo r
theorem gpN_le (T : TW) (df my gr mo r : Nat) : gpN T df my gr mo r ≤ 1000 := by
  induction r with
  | zero => exact Nat.le_refl _
  | succ r ih =>
    unfold gpN
    by_cases hg : gr < 6
    · rw [if_pos hg]
      dsimp only
      have a := gapN_le (T 9) (T 10) (deedN T df my r gr) (doneN T df my gr mo r (deedN T df my r gr)) (T 0 2)
      have b := gapN_le (T 12) (T 13) (deedN T df my r gr) (doneN T df my gr mo r (deedN T df my r gr)) (T 0 3)
      repeat' split
      all_goals omega
    · rw [if_neg hg]; exact ih
section SUP
variable {h : mn_H} {t : Nat} {T : TW}
theorem x_X5_countRings (ht : mn_isT t) (hc : CT h t T) (hw : TWF T) : mn_X 48 [.ref t] h (some (.int (nI (2 ^ T 0 0)))) h := by
  have hb := hw.1.1
  rw [e_X5_countRings, b_X5_countRings_0 ht, hc.1.1, nq_one (by omega)]
  exact ⟨rfl, rfl⟩
theorem mn_pw5 (hw : TWF T) : 2 ^ T 0 0 ≤ 32 := show 2 ^ T 0 0 ≤ 2 ^ 5 from Nat.pow_le_pow_right (by decide) hw.1.1
theorem x_cau (ht : mn_isT t) (hc : CT h t T) (hw : TWF T) {W : Nat → Nat} (hW : ∀ d, d < 6 → h 17 d = nI (W d) ∧ W d < 2 ^ 30) : mn_X 39 [.ref (t + 8), .ref 17] h (some (.int (nI (metN (T 0 2) (T 8) (T 9) (T 10) W)))) h :=
  x_X4_metBy (mn_Tc ht) hc.1.2.2.1 (by have := hw.1.2.2.1; rcases ht with rfl | rfl <;> simpa [mn_qn] using this) (fun i hi => hc.2.2.2.1 i hi) (fun i hi => hw.2.2.2.1 i hi) hW
theorem x_sto (ht : mn_isT t) (hc : CT h t T) (hw : TWF T) {W : Nat → Nat} (hW : ∀ d, d < 6 → h 17 d = nI (W d) ∧ W d < 2 ^ 30) : mn_X 39 [.ref (t + 12), .ref 17] h (some (.int (nI (metN (T 0 3) (T 11) (T 12) (T 13) W)))) h :=
  x_X4_metBy (mn_Ts ht) hc.1.2.2.2.1 (by have := hw.1.2.2.2.1; rcases ht with rfl | rfl <;> simpa [mn_qn] using this) (fun i hi => hc.2.2.2.2.1 i hi) (fun i hi => hw.2.2.2.2.1 i hi) hW
theorem x_gapc (ht : mn_isT t) (hc : CT h t T) (hw : TWF T) {d p : Nat} (hd : d < 7) (hp : p < 2 ^ 30) : mn_X 40 [.ref (t + 8), .int (nI d), .int (nI p)] h (some (.int (nI (gapN (T 9) (T 10) d p (T 0 2))))) h :=
  x_X4_gapAbove (mn_Tc ht) hc.1.2.2.1 (by have := hw.1.2.2.1; rcases ht with rfl | rfl <;> simpa [mn_qn] using this) (fun i hi => (hc.2.2.2.1 i hi).2) (fun i hi => ⟨(hw.2.2.2.1 i hi).2.1, (hw.2.2.2.1 i hi).2.2.2⟩) hd hp
theorem x_gaps (ht : mn_isT t) (hc : CT h t T) (hw : TWF T) {d p : Nat} (hd : d < 7) (hp : p < 2 ^ 30) : mn_X 40 [.ref (t + 12), .int (nI d), .int (nI p)] h (some (.int (nI (gapN (T 12) (T 13) d p (T 0 3))))) h :=
  x_X4_gapAbove (mn_Ts ht) hc.1.2.2.2.1 (by have := hw.1.2.2.2.1; rcases ht with rfl | rfl <;> simpa [mn_qn] using this) (fun i hi => (hc.2.2.2.2.1 i hi).2) (fun i hi => ⟨(hw.2.2.2.2.1 i hi).2.1, (hw.2.2.2.2.1 i hi).2.2.2⟩) hd hp
theorem deedN_lt (hw : TWF T) {df my r g : Nat} (hg : g < T 0 1) : deedN T df my r g < 7 := by
  obtain ⟨g1, g2, g3, g4, g5⟩ := hw.2.2.1 g hg
  unfold deedN; split <;> (try split) <;> omega
theorem doneN_lt (hw : TWF T) {df my gr mo r d : Nat} (hm : mo ≤ 999) : doneN T df my gr mo r d < 2 ^ 30 := by
  have := doneN_le hw (df := df) (my := my) (gr := gr) (r := r) (d := d) hm (T 0 1) (Nat.le_refl _)
  have w := hw.1.2.1
  have : doneN T df my gr mo r d ≤ 6 * 1098 := Nat.le_trans this (Nat.mul_le_mul_right _ w)
  omega
/-- what the trial's rows hold once it was supposed -/
def trV (hh : mn_H) (T : TW) (df my gr mo : Nat) : Prop := ∀ r, r < 2 ^ T 0 0 → hh 18 r = nI (cauN T df my gr mo r) ∧ hh 19 r = nI (stoN T df my gr mo r)
set_option maxHeartbeats 4000000 in
theorem x_X6_suppose (ht : mn_isT t) (hc : CT h t T) (hw : TWF T) {df my gr mo : Nat} (hdf : df < 64) (hmy : my < 64) (hmo : mo ≤ 999) (hgr : gr < T 0 1 ∨ 6 ≤ gr) : ∃ h', mn_X 57 [.ref 16, .ref t, .int (nI df), .int (nI my), .int (gN gr), .int (nI mo)] h none h' ∧ trF h h' ∧ trV h' T df my gr mo ∧ h' 16 3 = nI (gpN T df my gr mo (2 ^ T 0 0)) := by
  have hpw := mn_pw5 hw
  have hw1 := hw.1.2.1
  have key := mn_linv (n := 2 ^ T 0 0) (E := fun i h r h' => ∀ w : Value, mn_E 57 10 [.ref 16, .ref t, .int (nI df), .int (nI my), .int (gN gr), .int (nI mo), .int (nI i), w] [] h r h')
    (I := fun i hh => trF h hh ∧ (∀ r, r < i → hh 18 r = nI (cauN T df my gr mo r) ∧ hh 19 r = nI (stoN T df my gr mo r)) ∧ hh 16 3 = nI (gpN T df my gr mo i))
    (P := fun r h' => r = none ∧ trF h h' ∧ trV h' T df my gr mo ∧ h' 16 3 = nI (gpN T df my gr mo (2 ^ T 0 0))) ?_ ?_ 0 (mn_up h 16 3 1000) (Nat.zero_le _) ⟨(trF.rf h).up (by omega) (by omega), fun r hr => by omega, by rw [mn_up_get, if_pos ⟨rfl, rfl⟩]; rfl⟩
  · obtain ⟨r, h', a, rfl, b, c, d⟩ := key
    refine ⟨h', ?_, b, c, d⟩
    rw [e_X6_suppose, b_X6_suppose_0 ht]
    exact a _
  · intro hh ⟨f, v, g⟩
    refine ⟨none, hh, fun w => ?_, rfl, f, v, g⟩
    have hc1 := f.ct ht hc
    rw [b_X6_suppose_10 ht, mn_cl_i (x_X5_countRings ht hc1 hw), b_X6_suppose_16 ht, if_pos (nI_le (Nat.le_refl _) (by omega)), b_X6_suppose_153 ht]
    exact ⟨rfl, rfl⟩
  · intro i hh hi ⟨f, v, g⟩
    have hi32 : i < 32 := by omega
    have hc1 := f.ct ht hc
    have hcl : (nI i).toNatClampNeg = i := nI_clamp (by omega)
    have hv : vp_in (nI i) 32 := vp_in_nI hi32 (by decide)
    obtain ⟨h2, eh2⟩ : ∃ h2, h2 = mn_set hh 17 (dngN T df my gr mo i (T 0 1) (hh 17)) := ⟨_, rfl⟩
    have f2 : trF h h2 := by rw [eh2]; exact f.set (by omega) (by omega)
    have hc2 := f2.ct ht hc
    have row2 : ∀ d, d < 7 → h2 17 d = nI (doneN T df my gr mo i d) := fun d hd => by rw [eh2, mn_set_row, if_pos rfl]; unfold dngN; rw [if_pos hd]; rfl
    have W2 : ∀ d, d < 6 → h2 17 d = nI (doneN T df my gr mo i d) ∧ doneN T df my gr mo i d < 2 ^ 30 := fun d hd => ⟨row2 d (by omega), doneN_lt hw hmo⟩
    obtain ⟨h3, eh3⟩ : ∃ h3, h3 = mn_up h2 18 i (nI (cauN T df my gr mo i)) := ⟨_, rfl⟩
    have f3 : trF h h3 := by rw [eh3]; exact f2.up (by omega) (by omega)
    have hc3 := f3.ct ht hc
    have r317 : h3 17 = h2 17 := by rw [eh3, mn_up_row _ _ _ _ (by decide)]
    have W3 : ∀ d, d < 6 → h3 17 d = nI (doneN T df my gr mo i d) ∧ doneN T df my gr mo i d < 2 ^ 30 := fun d hd => by rw [r317]; exact W2 d hd
    obtain ⟨h4, eh4⟩ : ∃ h4, h4 = mn_up h3 19 i (nI (stoN T df my gr mo i)) := ⟨_, rfl⟩
    have f4 : trF h h4 := by rw [eh4]; exact f3.up (by omega) (by omega)
    have hc4 := f4.ct ht hc
    have r417 : h4 17 = h2 17 := by rw [eh4, mn_up_row _ _ _ _ (by decide), r317]
    have v4 : ∀ r, r < i + 1 → h4 18 r = nI (cauN T df my gr mo r) ∧ h4 19 r = nI (stoN T df my gr mo r) := by
      intro r hr
      have a18 : h4 18 r = if r = i then nI (cauN T df my gr mo i) else hh 18 r := by
        rw [eh4, mn_up_row _ _ _ _ (by decide), eh3, mn_up_get]
        by_cases e : r = i
        · simp [e]
        · simp [e]; rw [eh2, mn_set_row, if_neg (by decide)]
      have a19 : h4 19 r = if r = i then nI (stoN T df my gr mo i) else hh 19 r := by
        rw [eh4, mn_up_get]
        by_cases e : r = i
        · simp [e]
        · simp [e]; rw [eh3, mn_up_row _ _ _ _ (by decide), eh2, mn_set_row, if_neg (by decide)]
      rw [a18, a19]
      by_cases e : r = i
      · rw [if_pos e, if_pos e, e]; exact ⟨rfl, rfl⟩
      · rw [if_neg e, if_neg e]; exact v r (by omega)
    have g4 : h4 16 3 = nI (gpN T df my gr mo i) := by
      rw [eh4, mn_up_row _ _ _ _ (by decide), eh3, mn_up_row _ _ _ _ (by decide), eh2, mn_set_row, if_neg (by decide)]; exact g
    have head : ∀ (w : Value) (r : Option Value) (h' : mn_H), mn_E 57 10 [.ref 16, .ref t, .int (nI df), .int (nI my), .int (gN gr), .int (nI mo), .int (nI i), w] [] hh r h' ↔ (if gN gr = (-1) then mn_E 57 147 [.ref 16, .ref t, .int (nI df), .int (nI my), .int (gN gr), .int (nI mo), .int (nI i), w] [] h4 r h' else mn_E 57 81 [.ref 16, .ref t, .int (nI df), .int (nI my), .int (gN gr), .int (nI mo), .int (nI i), w] [] h4 r h') := by
      intro w r h'
      rw [b_X6_suppose_10 ht, mn_cl_i (x_X5_countRings ht hc1 hw), b_X6_suppose_16 ht, if_neg (nI_ge hi (by omega)), b_X6_suppose_19 ht, if_neg (show ¬ (32 : Int32) ≤ nI i from nI_ge (b := 32) hi32 (by decide)), b_X6_suppose_26 ht,
        mn_cl_v (x_X6_countDoing ht hc1 hw hi32 hdf hmy hmo), ← eh2, b_X6_suppose_39 ht, mn_cl_i (x_cau ht hc2 hw W2), b_X6_suppose_56 ht hv, hcl]
      have x3 := x_sto ht hc3 hw W3
      rw [eh3] at x3
      rw [show metN (T 0 2) (T 8) (T 9) (T 10) (doneN T df my gr mo i) = cauN T df my gr mo i from rfl, mn_cl_i x3, ← eh3, b_X6_suppose_74 ht hv, hcl, show metN (T 0 3) (T 11) (T 12) (T 13) (doneN T df my gr mo i) = stoN T df my gr mo i from rfl, ← eh4]
    rcases hgr with hgr | hgr
    · have hg6 : gr < 6 := by omega
      have hgn : gN gr = nI gr := by unfold gN; rw [if_pos hg6]
      have hne : ¬ gN gr = (-1) := by
        rw [hgn]
        have : gr = 0 ∨ gr = 1 ∨ gr = 2 ∨ gr = 3 ∨ gr = 4 ∨ gr = 5 := by omega
        rcases this with rfl | rfl | rfl | rfl | rfl | rfl <;> decide
      have hdl := deedN_lt hw (df := df) (my := my) (r := i) hgr
      have hdc : (nI (deedN T df my i gr)).toNatClampNeg = deedN T df my i gr := nI_clamp (by omega)
      have hv7 : vp_in (nI (deedN T df my i gr)) 7 := vp_in_nI hdl (by decide)
      obtain ⟨d, ed⟩ : ∃ d, d = deedN T df my i gr := ⟨_, rfl⟩
      obtain ⟨pp, ep⟩ : ∃ pp, pp = doneN T df my gr mo i d := ⟨_, rfl⟩
      have hpp : pp < 2 ^ 30 := by rw [ep]; exact doneN_lt hw hmo
      rw [← ed] at hdl hdc hv7
      have row4 : h4 17 d = nI pp := by rw [r417, row2 d hdl, ep]
      have al := gapN_le (T 9) (T 10) d pp (T 0 2)
      have bl := gapN_le (T 12) (T 13) d pp (T 0 3)
      have gl := gpN_le T df my gr mo i
      obtain ⟨g1, eg1⟩ : ∃ g1, g1 = if gapN (T 9) (T 10) d pp (T 0 2) < gpN T df my gr mo i then gapN (T 9) (T 10) d pp (T 0 2) else gpN T df my gr mo i := ⟨_, rfl⟩
      have g1l : g1 ≤ 1000 := by rw [eg1]; split <;> omega
      have ng1 : (if nI (gapN (T 9) (T 10) d pp (T 0 2)) < nI (gpN T df my gr mo i) then nI (gapN (T 9) (T 10) d pp (T 0 2)) else nI (gpN T df my gr mo i)) = nI g1 := by
        rw [eg1]
        by_cases o : gapN (T 9) (T 10) d pp (T 0 2) < gpN T df my gr mo i
        · rw [if_pos (nI_lt o (by omega)), if_pos o]
        · rw [if_neg (nI_nlt (by omega) (by omega)), if_neg o]
      obtain ⟨h5, eh5⟩ : ∃ h5, h5 = mn_up h4 16 3 (nI g1) := ⟨_, rfl⟩
      have f5 : trF h h5 := by rw [eh5]; exact f4.up (by omega) (by omega)
      have hc5 := f5.ct ht hc
      have row5 : h5 17 d = nI pp := by rw [eh5, mn_up_row _ _ _ _ (by decide)]; exact row4
      have s5 : h5 16 3 = nI g1 := by rw [eh5, mn_up_get, if_pos ⟨rfl, rfl⟩]
      have ng2 : (if nI (gapN (T 12) (T 13) d pp (T 0 3)) < nI g1 then nI (gapN (T 12) (T 13) d pp (T 0 3)) else nI g1) = nI (gpN T df my gr mo (i + 1)) := by
        rw [gpN, if_pos hg6, ← ed]
        dsimp only
        rw [← ep]
        rw [← eg1]
        by_cases o : gapN (T 12) (T 13) d pp (T 0 3) < g1
        · rw [if_pos (nI_lt o (by omega)), if_pos o]
        · rw [if_neg (nI_nlt (by omega) (by omega)), if_neg o]
      refine ⟨mn_up h5 16 3 (nI (gpN T df my gr mo (i + 1))), ⟨f5.up (by omega) (by omega), fun r hr => ?_, by rw [mn_up_get, if_pos ⟨rfl, rfl⟩]⟩, fun r h' hE w => ?_⟩
      · rw [mn_up_row _ _ _ _ (by decide), mn_up_row _ _ _ _ (by decide), eh5, mn_up_row _ _ _ _ (by decide), mn_up_row _ _ _ _ (by decide)]; exact v4 r hr
      · rw [head, if_neg hne, b_X6_suppose_81 ht]
        have x1 := x_X5_deedOf ht hc4 hw hgr hi32 hdf hmy
        rw [← hgn, ← ed] at x1
        rw [mn_cl_i x1, b_X6_suppose_91 ht hv7, hdc, row4, mn_cl_i (x_gapc ht hc4 hw hdl hpp), b_X6_suppose_114 ht hv7, g4, ng1, ← eh5, hdc, row5, s5, mn_cl_i (x_gaps ht hc5 hw hdl hpp), b_X6_suppose_141 ht, ng2, b_X6_suppose_147 ht, nI_1]
        exact hE _
    · have hgn : gN gr = (-1) := by unfold gN; rw [if_neg (by omega)]
      refine ⟨h4, ⟨f4, v4, by rw [g4, gpN, if_neg (by omega)]⟩, fun r h' hE w => ?_⟩
      rw [head, if_pos hgn, b_X6_suppose_147 ht, nI_1]
      exact hE _
end SUP
