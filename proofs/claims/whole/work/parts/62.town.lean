theorem x_startAnew {h : mn_H} {x : Int32} : mn_X 4 [.ref 3, .int x] h none (mn_up (mn_up (mn_up (mn_up (mn_up h 3 0 0) 3 2 0) 3 3 0) 3 4 0) 3 5 x) := by
  rw [e_X1_startAnew, b_X1_startAnew_0 (Or.inl rfl)]; exact ⟨rfl, rfl⟩
section MTW
variable {h : mn_H} {x1 : Int32}
theorem x_mt1 : ∃ h', (∀ b, b ≠ 65 → h' b = h b) ∧ (∀ j, j < 96 → h' 65 j = h 66 j) ∧ ∀ q h'', mn_E 132 64 [.ref 63, .int x1, .int (nI 96), .null] [] h' q h'' → mn_E 132 40 [.ref 63, .int x1, .int (nI 0), .null] [] h q h'' := by
  have key : ∀ k, k ≤ 96 → ∃ h', (∀ b, b ≠ 65 → h' b = h b) ∧ (∀ j, j < k → h' 65 j = h 66 j) ∧ ∀ q h'', mn_E 132 40 [.ref 63, .int x1, .int (nI k), .null] [] h' q h'' → mn_E 132 40 [.ref 63, .int x1, .int (nI 0), .null] [] h q h'' := by
    intro k
    induction k with
    | zero => intro _; exact ⟨h, fun _ _ => rfl, fun j hj => by omega, fun q h'' z => z⟩
    | succ k ih =>
      intro hk
      obtain ⟨h1, f1, a1, E1⟩ := ih (by omega)
      refine ⟨mn_up h1 65 k (h 66 k), fun b q => by rw [mn_up_row _ _ _ _ q]; exact f1 b q, fun j hj => ?_, fun q h'' z => E1 q h'' ?_⟩
      · rw [mn_up_get]
        by_cases e : j = k
        · rw [if_pos ⟨rfl, e⟩, e]
        · rw [if_neg (fun z => e z.2)]; exact a1 j (by omega)
      · rw [b_X8_town_40, if_neg (show ¬ (96 : Int32) ≤ nI k from nI_ge (b := 96) (by omega) (by decide)), b_X8_town_46 (vp_in_nI (by omega) (by decide)), nI_clamp (by omega), f1 66 (by decide), nI_1]; exact z
  obtain ⟨h1, f1, a1, E1⟩ := key 96 (Nat.le_refl _)
  refine ⟨h1, f1, a1, fun q h'' z => E1 q h'' ?_⟩
  rw [b_X8_town_40, if_pos (show (96 : Int32) ≤ nI 96 from by decide)]; exact z
theorem x_mt2 {x2 : Int32} : ∃ h', (∀ b, b ≠ 67 → h' b = h b) ∧ (∀ j, j < 65 → h' 67 j = 0) ∧ ∀ q h'', mn_E 132 92 [.ref 63, .int x1, .int x2, .int (nI 65)] [] h' q h'' → mn_E 132 73 [.ref 63, .int x1, .int x2, .int (nI 0)] [] h q h'' := by
  have key : ∀ k, k ≤ 65 → ∃ h', (∀ b, b ≠ 67 → h' b = h b) ∧ (∀ j, j < k → h' 67 j = 0) ∧ ∀ q h'', mn_E 132 73 [.ref 63, .int x1, .int x2, .int (nI k)] [] h' q h'' → mn_E 132 73 [.ref 63, .int x1, .int x2, .int (nI 0)] [] h q h'' := by
    intro k
    induction k with
    | zero => intro _; exact ⟨h, fun _ _ => rfl, fun j hj => by omega, fun q h'' z => z⟩
    | succ k ih =>
      intro hk
      obtain ⟨h1, f1, a1, E1⟩ := ih (by omega)
      refine ⟨mn_up h1 67 k 0, fun b q => by rw [mn_up_row _ _ _ _ q]; exact f1 b q, fun j hj => ?_, fun q h'' z => E1 q h'' ?_⟩
      · rw [mn_up_get]
        by_cases e : j = k
        · rw [if_pos ⟨rfl, e⟩]
        · rw [if_neg (fun z => e z.2)]; exact a1 j (by omega)
      · rw [b_X8_town_73, if_neg (show ¬ (65 : Int32) ≤ nI k from nI_ge (b := 65) (by omega) (by decide)), b_X8_town_79 (vp_in_nI (by omega) (by decide)), nI_clamp (by omega), nI_1]; exact z
  obtain ⟨h1, f1, a1, E1⟩ := key 65 (Nat.le_refl _)
  refine ⟨h1, f1, a1, fun q h'' z => E1 q h'' ?_⟩
  rw [b_X8_town_73, if_pos (show (65 : Int32) ≤ nI 65 from by decide)]; exact z
theorem x_mt3 {x2 : Int32} : ∃ h', (∀ b, b ≠ 70 → h' b = h b) ∧ (∀ j, j < 5 → h' 70 j = 0) ∧ ∀ q h'', mn_E 132 135 [.ref 63, .int x1, .int x2, .int (nI 5)] [] h' q h'' → mn_E 132 117 [.ref 63, .int x1, .int x2, .int (nI 0)] [] h q h'' := by
  have key : ∀ k, k ≤ 5 → ∃ h', (∀ b, b ≠ 70 → h' b = h b) ∧ (∀ j, j < k → h' 70 j = 0) ∧ ∀ q h'', mn_E 132 117 [.ref 63, .int x1, .int x2, .int (nI k)] [] h' q h'' → mn_E 132 117 [.ref 63, .int x1, .int x2, .int (nI 0)] [] h q h'' := by
    intro k
    induction k with
    | zero => intro _; exact ⟨h, fun _ _ => rfl, fun j hj => by omega, fun q h'' z => z⟩
    | succ k ih =>
      intro hk
      obtain ⟨h1, f1, a1, E1⟩ := ih (by omega)
      refine ⟨mn_up h1 70 k 0, fun b q => by rw [mn_up_row _ _ _ _ q]; exact f1 b q, fun j hj => ?_, fun q h'' z => E1 q h'' ?_⟩
      · rw [mn_up_get]
        by_cases e : j = k
        · rw [if_pos ⟨rfl, e⟩]
        · rw [if_neg (fun z => e z.2)]; exact a1 j (by omega)
      · rw [b_X8_town_117, if_neg (show ¬ (5 : Int32) ≤ nI k from nI_ge (b := 5) (by omega) (by decide)), b_X8_town_122 (vp_in_nI (by omega) (by decide)), nI_clamp (by omega), nI_1]; exact z
  obtain ⟨h1, f1, a1, E1⟩ := key 5 (Nat.le_refl _)
  refine ⟨h1, f1, a1, fun q h'' z => E1 q h'' ?_⟩
  rw [b_X8_town_117, if_pos (show (5 : Int32) ≤ nI 5 from by decide)]; exact z
end MTW
theorem GM.row {f f' : Nat → Int32} {T : TW} (w : TW2 T) (e : ∀ j, j < 96 → f' j = f j) (g : GM f T) : GM f' T := by
  obtain ⟨g1, g2, g3⟩ := g
  refine ⟨fun c hc => by rw [e c (by omega)]; exact g1 c hc, fun a h1 h2 b hb => ?_, fun k hk => by rw [e _ (by omega)]; exact g3 k hk⟩
  have wb := w.1 (twg a) (twg_lt a)
  have := flM_89 (a := a) (b := b) h2 (by omega)
  rw [e _ (by omega)]; exact g2 a h1 h2 b hb
theorem mn_isT_n {t : Nat} (ht : mn_isT t) : (nI t).toNatClampNeg = t := nI_clamp (by rcases ht with e | e <;> omega)
theorem p_town : PAIR 65 132 [] := by
  intro h i
  obtain ⟨T, S, n, df, my, sd, r, ri, rs, ⟨len, C, l1, l2, l3, l4, l5⟩⟩ := id i
  have hT := r.hT
  have hS : mn_isT (mn_sp h) := r.2.2.1
  have ne : mn_sp h ≠ mn_hr h := r.2.2.2.1
  have tx2 : TX h 2 len C := ⟨l1, fun k hk => ⟨(l4 k hk).1, (l4 k hk).2.1⟩⟩
  have tx64 : TX h 64 len C := ⟨l1, fun k hk => ⟨(l4 k hk).1, (l4 k hk).2.2⟩⟩
  obtain ⟨t, et⟩ : ∃ t, t = mn_sp h := ⟨_, rfl⟩
  rw [← et] at hS ne
  obtain ⟨F, p, T2, G1, G2, G3, G4⟩ := pl_text (C := C) hS l1
  obtain ⟨h1, x1, u1, a1, b1, c1⟩ := G3 h tx2 l2
  have u : ∀ b, b ≠ 1 → (b < 23 ∨ 62 < b) → h1 b = h b := fun b q1 q2 => u1 b q1 (by rcases hS with e | e <;> omega)
  have e0 : h1 0 = h 0 := u 0 (by decide) (by decide)
  have ehr : mn_hr h1 = mn_hr h := by unfold mn_hr; rw [e0]
  have esp : mn_sp h1 = t := by rw [et]; unfold mn_sp; rw [e0]
  have ct1 : CT h1 (mn_hr h) T := CT_rows (fun k hk => u1 _ (by rcases hT with e | e <;> rw [e] <;> omega) (by rcases hT with e | e <;> rcases hS with e' | e' <;> omega)) r.ct
  by_cases F0 : F = 0
  · subst F0
    rw [if_pos rfl] at b1
    have g2 := c1 rfl
    have w2 := G2 rfl
    have hw := w2.wf
    have p6 := mn_pw6 hw
    -- the class goes on
    obtain ⟨h2, eh2⟩ : ∃ h2, h2 = mn_up (mn_up h1 0 6 (nI t)) 0 7 (nI (mn_hr h)) := ⟨_, rfl⟩
    have f2 : ∀ b, b ≠ 0 → h2 b = h1 b := fun b q => by rw [eh2, mn_up_row _ _ _ _ q, mn_up_row _ _ _ _ q]
    have hr2 : mn_hr h2 = t := by unfold mn_hr; rw [eh2, mn_up_get, if_neg (by decide), mn_up_get, if_pos ⟨rfl, rfl⟩]; exact mn_isT_n hS
    have sp2 : mn_sp h2 = mn_hr h := by unfold mn_sp; rw [eh2, mn_up_get, if_pos ⟨rfl, rfl⟩]; exact mn_isT_n hT
    have ct2 : CT h2 t T2 := CT_rows (fun k hk => f2 _ (by rcases hS with e | e <;> omega)) g2.ct
    obtain ⟨my2, em⟩ : ∃ my2, my2 = 2 ^ T2 0 1 - 1 := ⟨_, rfl⟩
    have p1 : 1 ≤ 2 ^ T2 0 1 := Nat.one_le_two_pow
    have xg := x_allGroups hS ct2 hw
    rw [← em] at xg
    obtain ⟨h3, eh3⟩ : ∃ h3, h3 = mn_up (mn_up (mn_up (mn_up (mn_up h2 3 0 0) 3 2 0) 3 3 0) 3 4 0) 3 5 (nI my2) := ⟨_, rfl⟩
    have f3 : ∀ b, b ≠ 3 → h3 b = h2 b := fun b q => by rw [eh3, mn_up_row _ _ _ _ q, mn_up_row _ _ _ _ q, mn_up_row _ _ _ _ q, mn_up_row _ _ _ _ q, mn_up_row _ _ _ _ q]
    obtain ⟨h4, eh4⟩ : ∃ h4, h4 = mn_set h3 11 (fun j => if j < 5 then 0 else h3 11 j) := ⟨_, rfl⟩
    have x27 : mn_X 27 [.ref 10] h3 none h4 := by
      rw [e_X3_forgetAll, b_X3_forgetAll_0, mn_cl_v (x_fill (a := 11) (n := 5) 0 rfl (by decide) (by decide)), ← eh4, b_X3_forgetAll_8]; exact ⟨rfl, rfl⟩
    have f4 : ∀ b, b ≠ 11 → h4 b = h3 b := fun b q => by rw [eh4, mn_set_row, if_neg q]
    obtain ⟨h5, eh5⟩ : ∃ h5, h5 = mn_up (mn_up h4 5 7 0) 7 7 0 := ⟨_, rfl⟩
    have f5 : ∀ b, b ≠ 5 → b ≠ 7 → h5 b = h4 b := fun b q1 q2 => by rw [eh5, mn_up_row _ _ _ _ q2, mn_up_row _ _ _ _ q1]
    have F5 : ∀ b, b ≠ 0 → b ≠ 1 → b ≠ 3 → b ≠ 5 → b ≠ 7 → b ≠ 11 → (b < 23 ∨ 62 < b) → h5 b = h b := fun b q0 q1 q3 q5 q7 q11 q => by rw [f5 b q5 q7, f4 b q11, f3 b q3, f2 b q0, u b q1 q]
    have hr5 : mn_hr h5 = t := by rw [← hr2]; unfold mn_hr; rw [f5 0 (by decide) (by decide), f4 0 (by decide), f3 0 (by decide)]
    have sp5 : mn_sp h5 = mn_hr h := by rw [← sp2]; unfold mn_sp; rw [f5 0 (by decide) (by decide), f4 0 (by decide), f3 0 (by decide)]
    have ct5 : CT h5 t T2 := CT_rows (fun k hk => by
      have q : t + k ≠ 5 ∧ t + k ≠ 7 ∧ t + k ≠ 11 ∧ t + k ≠ 3 := by rcases hS with e | e <;> omega
      rw [f5 _ q.1 q.2.1, f4 _ q.2.2.1, f3 _ q.2.2.2]) ct2
    have xC : mn_X 65 [.ref 0] h (some (.int (nI (T2 0 0)))) h5 := by
      have hl : ∀ q h'', mn_E 65 83 [.ref 0, .int 0, .ref (mn_hr h), .int (nI 2)] [] h5 q h'' → mn_E 65 62 [.ref 0, .int 0, .ref (mn_hr h), .int (nI 0)] [] h4 q h'' := by
        intro q h'' z
        rw [b_X7_town_62 hT, if_neg (show ¬ (2 : Int32) ≤ nI 0 from by decide), b_X7_town_67 hT (show vp_in (nI 0) 2 from vp_in_nI (by decide) (by decide)), nI_1, b_X7_town_62 hT, if_neg (show ¬ (2 : Int32) ≤ nI (0 + 1) from by decide), b_X7_town_67 hT (show vp_in (nI (0 + 1)) 2 from vp_in_nI (by decide) (by decide)), nI_1, b_X7_town_62 hT, if_pos (show (2 : Int32) ≤ nI (0 + 1 + 1) from by decide)]
        rw [show (5 + 2 * (nI 0).toNatClampNeg) = 5 from rfl, show (5 + 2 * (nI (0 + 1)).toNatClampNeg) = 7 from rfl, ← eh5]
        exact z
      rw [e_X7_town, b_X7_town_0 (by rw [← et]; exact hS), ← et, mn_cl_i x1, b_X7_town_11, if_pos (show nI 0 = 0 from rfl), b_X7_town_21 (by rw [ehr]; exact hT) (by rw [esp]; exact hS) (by rw [esp, ehr, ← eh2, hr2]; exact hS), esp, ehr, ← eh2, hr2, mn_cl_i xg, b_X7_town_50 hT, mn_cl_v x_startAnew, ← eh3, b_X7_town_53 hT, mn_cl_v x27, b_X7_town_60 hT]
      apply hl
      rw [b_X7_town_83 hT (by rw [hr5]; exact hS), hr5, ct5.1.1]
      exact ⟨rfl, rfl⟩
    -- the model
    have tx5 : TX h5 64 len C := tx64.row (F5 64 (by decide) (by decide) (by decide) (by decide) (by decide) (by decide) (by decide))
    have e63 : h5 63 = h 63 := F5 63 (by decide) (by decide) (by decide) (by decide) (by decide) (by decide) (by decide)
    obtain ⟨k1, y1, v1, -, w1⟩ := G4 h5 tx5 (by rw [e63]; exact l3)
    have gm1 := w1 rfl
    obtain ⟨k2, ek2⟩ : ∃ k2, k2 = mn_up (mn_up k1 63 1 0) 63 9 (-1) := ⟨_, rfl⟩
    obtain ⟨k3, v3, w3, E3⟩ := x_mt1 (h := k2) (x1 := 1)
    obtain ⟨k4, v4, w4, E4⟩ := x_mt2 (h := k3) (x1 := 1) (x2 := k3 67 3)
    obtain ⟨k5, ek5⟩ : ∃ k5, k5 = mn_up (mn_up k4 67 3 (k3 67 3)) 67 2 (nI my2) := ⟨_, rfl⟩
    obtain ⟨k6, v6, w6, E6⟩ := x_mt3 (h := k5) (x1 := 1) (x2 := k3 67 3)
    obtain ⟨k7, ek7⟩ : ∃ k7, k7 = mn_up (mn_up k6 69 0 0) 69 1 0 := ⟨_, rfl⟩
    have f12 : ∀ b, b ≠ 63 → b ≠ 66 → k2 b = h5 b := fun b q1 q2 => by rw [ek2, mn_up_row _ _ _ _ q1, mn_up_row _ _ _ _ q1]; exact v1.1 b q1 q2
    have k266 : k2 66 = k1 66 := by rw [ek2, mn_up_row _ _ _ _ (by decide), mn_up_row _ _ _ _ (by decide)]
    have gm3 : GM (k3 65) T2 := gm1.row w2 (fun j hj => by rw [w3 j hj, k266])
    have sd3 : k3 67 3 = nI sd := by
      rw [v3 67 (by decide), f12 67 (by decide) (by decide), F5 67 (by decide) (by decide) (by decide) (by decide) (by decide) (by decide) (by decide)]; exact r.mst.2.2.2.1
    have k465 : k4 65 = k3 65 := v4 65 (by decide)
    have FR : ∀ b, b ≠ 63 → b ≠ 65 → b ≠ 66 → b ≠ 67 → b ≠ 69 → b ≠ 70 → k7 b = h5 b := fun b q1 q2 q3 q4 q5 q6 => by
      rw [ek7, mn_up_row _ _ _ _ q5, mn_up_row _ _ _ _ q5, v6 b q6, ek5, mn_up_row _ _ _ _ q4, mn_up_row _ _ _ _ q4, v4 b q4, v3 b q2, f12 b q1 q3]
    have k765 : k7 65 = k3 65 := by rw [ek7, mn_up_row _ _ _ _ (by decide), mn_up_row _ _ _ _ (by decide), v6 65 (by decide), ek5, mn_up_row _ _ _ _ (by decide), mn_up_row _ _ _ _ (by decide), k465]
    have mt7 : MT k7 T2 := GM.mt (h := k7) (by rw [k765]; exact gm3)
    have k767 : ∀ j, j < 65 → k7 67 j = if j = 3 then nI sd else if j = 2 then nI my2 else 0 := fun j hj => by
      rw [ek7, mn_up_row _ _ _ _ (by decide), mn_up_row _ _ _ _ (by decide), v6 67 (by decide), ek5, mn_up_get, mn_up_get, w4 j hj, sd3]
      by_cases o2 : j = 2
      · simp [o2]
      · by_cases o3 : j = 3 <;> simp [o2, o3]
    have xM : mn_X 132 [.ref 63] h5 (some (.int (nI (T2 0 0)))) k7 := by
      have em5 : ((1 : Int32) <<< (mn_up k4 67 3 (k3 67 3) 65 (1 : Int32).toNatClampNeg &&& 31)) - 1 = nI my2 := by
        rw [mn_up_row _ _ _ _ (by decide), nl1, k465, gm3.1 1 (by decide), nq_one (by have := hw.1.2.1; omega), show (1 : Int32) = nI 1 from rfl, pk_sub p1, em]
      rw [e_X8_town, b_X8_town_0, mn_cl_i y1, decide_eq_true rfl, b_X8_town_4, if_neg (by decide), b_X8_town_15, b_X8_town_23, if_pos (by decide), ← ek2, b_X8_town_38]
      apply E3
      rw [b_X8_town_64, nl3]
      apply E4
      rw [b_X8_town_92, nl3, em5, nl2, ← ek5]
      apply E6
      rw [b_X8_town_135, nl0, nl1, ← ek7, k765, gm3.1 0 (by decide)]
      exact ⟨rfl, rfl⟩
    refine ⟨nI (T2 0 0), h5, k7, xC, xM, ?_⟩
    have hr7 : mn_hr k7 = t := by rw [← hr5]; unfold mn_hr; rw [FR 0 (by decide) (by decide) (by decide) (by decide) (by decide) (by decide)]
    have sp7 : mn_sp k7 = mn_hr h := by rw [← sp5]; unfold mn_sp; rw [FR 0 (by decide) (by decide) (by decide) (by decide) (by decide) (by decide)]
    have ct7 : CT k7 t T2 := CT_rows (fun k hk => FR _ (by rcases hS with e | e <;> omega) (by rcases hS with e | e <;> omega) (by rcases hS with e | e <;> omega) (by rcases hS with e | e <;> omega) (by rcases hS with e | e <;> omega) (by rcases hS with e | e <;> omega)) ct5
    have k73 : ∀ j, k7 3 j = if j = 5 then nI my2 else if j = 0 ∨ j = 2 ∨ j = 3 ∨ j = 4 then 0 else h 3 j := fun j => by
      rw [FR 3 (by decide) (by decide) (by decide) (by decide) (by decide) (by decide), f5 3 (by decide) (by decide), f4 3 (by decide), eh3]
      simp only [mn_up_get]
      rw [f2 3 (by decide), u 3 (by decide) (by decide)]
      by_cases o5 : j = 5
      · simp [o5]
      · by_cases o4 : j = 4
        · simp [o4]
        · by_cases o3 : j = 3
          · simp [o3]
          · by_cases o2 : j = 2
            · simp [o2]
            · by_cases o0 : j = 0
              · simp [o0]
              · simp [o5, o4, o3, o2, o0]
    refine ⟨T2, fun _ => 0, 0, 0, my2, sd, ⟨⟨hr7.symm ▸ rfl, by rw [hr7]; exact hS, hw, by rw [hr7]; exact ct7, by rw [k73]; rfl, by rw [k73]; rfl, by decide, fun k hk => by omega, fun _ _ => (by decide : 0 < 64), by rw [k73]; rfl, by decide, by rw [k73]; rfl, by omega⟩, ⟨mt7, by rw [k767 0 (by decide)]; rfl, by rw [k767 1 (by decide)]; rfl, by rw [k767 2 (by decide)]; rfl, fun k hk => by rw [k767 _ (by omega), if_neg (by omega), if_neg (by omega)]; rfl⟩, by rw [sp7]; exact hT, by rw [sp7, hr7]; exact fun z => ne z.symm, by rw [k73]; rfl, ?_, by rw [k767 3 (by decide)]; rfl, r.2.2.2.2.2.2.2.1, by omega, by omega⟩, fun j hj => ?_, ⟨fun _ => 0, fun _ => 0, fun j hj => ⟨Nat.zero_le _, ?_, ?_, fun k hk => absurd hk (Nat.not_lt_zero k)⟩⟩, ⟨0, fun _ => 0, by decide, ?_, ?_, fun k hk => by omega, ?_⟩⟩
    · rw [k73, if_neg (by decide), if_neg (by decide)]; exact r.2.2.2.2.2.1
    · refine ⟨false, ?_, ?_, fun z => by cases z⟩
      · rw [FR _ (by omega) (by omega) (by omega) (by omega) (by omega) (by omega), eh5, mn_up_get, mn_up_get]
        have : j = 0 ∨ j = 1 := by omega
        rcases this with rfl | rfl <;> simp <;> rfl
      · rw [ek7, mn_up_get, mn_up_get]
        have : j = 0 ∨ j = 1 := by omega
        rcases this with rfl | rfl <;> simp <;> rfl
    · rw [FR 11 (by decide) (by decide) (by decide) (by decide) (by decide) (by decide), f5 11 (by decide) (by decide), eh4, mn_set_get2, if_pos rfl, if_pos hj]; rfl
    · rw [ek7, mn_up_row _ _ _ _ (by decide), mn_up_row _ _ _ _ (by decide), w6 j hj]; rfl
    · rw [FR 1 (by decide) (by decide) (by decide) (by decide) (by decide) (by decide), f5 1 (by decide) (by decide), f4 1 (by decide), f3 1 (by decide), f2 1 (by decide), a1]; rfl
    · have q : k7 63 = k2 63 := by rw [ek7, mn_up_row _ _ _ _ (by decide), mn_up_row _ _ _ _ (by decide), v6 63 (by decide), ek5, mn_up_row _ _ _ _ (by decide), mn_up_row _ _ _ _ (by decide), v4 63 (by decide), v3 63 (by decide)]
      rw [q, ek2, mn_up_get, if_neg (by decide), mn_up_get, if_pos ⟨rfl, rfl⟩]; rfl
    · have q : k7 63 = k2 63 := by rw [ek7, mn_up_row _ _ _ _ (by decide), mn_up_row _ _ _ _ (by decide), v6 63 (by decide), ek5, mn_up_row _ _ _ _ (by decide), mn_up_row _ _ _ _ (by decide), v4 63 (by decide), v3 63 (by decide)]
      rw [q, ek2, mn_up_get, if_pos ⟨rfl, rfl⟩, FR 1 (by decide) (by decide) (by decide) (by decide) (by decide) (by decide), f5 1 (by decide) (by decide), f4 1 (by decide), f3 1 (by decide), f2 1 (by decide), b1]
  · -- a fault
    rw [if_neg F0] at b1
    have xC : mn_X 65 [.ref 0] h (some (.int ((-10) - nI F))) h1 := by
      rw [e_X7_town, b_X7_town_0 (by rw [← et]; exact hS), ← et, mn_cl_i x1, b_X7_town_11, if_neg (nI_ne0 (by omega) (by omega)), b_X7_town_16]; exact ⟨rfl, rfl⟩
    have e63 : h1 63 = h 63 := u 63 (by decide) (by decide)
    obtain ⟨k1, y1, v1, w1, -⟩ := G4 h1 (tx64.row (u 64 (by decide) (by decide))) (by rw [e63]; exact l3)
    obtain ⟨q11, q10⟩ := w1 F0
    obtain ⟨k2, ek2⟩ : ∃ k2, k2 = mn_up (mn_up k1 63 1 0) 63 9 (nI p) := ⟨_, rfl⟩
    have xM : mn_X 132 [.ref 63] h1 (some (.int ((-10) - nI F))) k2 := by
      rw [e_X8_town, b_X8_town_0, mn_cl_i y1, decide_eq_false F0, b_X8_town_4, if_pos mz_f, b_X8_town_19, mn_up_get k1 63 1 0 63 10, if_neg (by decide), q10, b_X8_town_23, if_neg (by decide), ← ek2, b_X8_town_30, ek2, mn_up_get, if_neg (by decide), mn_up_get, if_neg (by decide), q11]
      exact ⟨rfl, rfl⟩
    refine ⟨(-10) - nI F, h1, k2, xC, xM, ?_⟩
    have FR : ∀ b, b ≠ 1 → b ≠ 63 → b ≠ 66 → (b < t ∨ t + 19 < b) → k2 b = h b := fun b q1 q2 q3 q4 => by
      rw [ek2, mn_up_row _ _ _ _ q2, mn_up_row _ _ _ _ q2, v1.1 b q2 q3, u1 b q1 q4]
    have FR2 : ∀ b, b ≠ 1 → b ≠ 63 → b ≠ 66 → (b < 23 ∨ 62 < b) → k2 b = h b := fun b q1 q2 q3 q4 => FR b q1 q2 q3 (by rcases hS with e | e <;> omega)
    have hr2 : mn_hr k2 = mn_hr h := by unfold mn_hr; rw [FR2 0 (by decide) (by decide) (by decide) (by decide)]
    have sp2 : mn_sp k2 = t := by rw [et]; unfold mn_sp; rw [FR2 0 (by decide) (by decide) (by decide) (by decide)]
    have ct2 : CT k2 (mn_hr h) T := CT_rows (fun k hk => FR _ (by rcases hT with e | e <;> rw [e] <;> omega) (by rcases hT with e | e <;> rw [e] <;> omega) (by rcases hT with e | e <;> rw [e] <;> omega) (by rcases hT with e | e <;> rcases hS with e' | e' <;> omega)) r.ct
    have e3 := FR2 3 (by decide) (by decide) (by decide) (by decide)
    have e4 := FR2 4 (by decide) (by decide) (by decide) (by decide)
    have e67 := FR2 67 (by decide) (by decide) (by decide) (by decide)
    obtain ⟨⟨d1, d2, d3, d4, d5, d6, d7, d8, d9, d10, d11, d12, d13⟩, ⟨m1, m2, m3, m4, m5⟩, s3, s4, s5, s6, s7, s8⟩ := r
    refine ⟨T, S, n, df, my, sd, ⟨⟨rfl, by rw [hr2]; exact d2, d3, by rw [hr2]; exact ct2, by rw [e3]; exact d5, by rw [e3]; exact d6, d7, by rw [e4]; exact d8, d9, by rw [e3]; exact d10, d11, by rw [e3]; exact d12, d13⟩, ⟨MT_row (FR2 65 (by decide) (by decide) (by decide) (by decide)) m1, by rw [e67]; exact m2, by rw [e67]; exact m3, by rw [e67]; exact m4, by rw [e67]; exact m5⟩, by rw [sp2]; exact hS, by rw [sp2, hr2]; exact ne, by rw [e3]; exact s5, by rw [e3]; exact s6, by rw [e67]; exact s7, s8⟩, ri.fr (fun b q => FR2 b (by omega) (by omega) (by omega) (by omega)), rs.fr (fun b q => FR2 b (by omega) (by omega) (by omega) (by omega)), ⟨0, fun _ => 0, by decide, ?_, ?_, fun k hk => by omega, ?_⟩⟩
    · rw [ek2, mn_up_row _ _ _ _ (by decide), mn_up_row _ _ _ _ (by decide), v1.1 1 (by decide) (by decide), a1]; rfl
    · rw [ek2, mn_up_get, if_neg (by decide), mn_up_get, if_pos ⟨rfl, rfl⟩]; rfl
    · rw [ek2, mn_up_row (mn_up k1 63 1 0) 63 9 (nI p) (show 1 ≠ 63 by decide), mn_up_row k1 63 1 0 (show 1 ≠ 63 by decide), v1.1 1 (by decide) (by decide), b1, mn_up_get, if_pos ⟨rfl, rfl⟩]
