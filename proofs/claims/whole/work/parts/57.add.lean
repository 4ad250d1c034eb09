/-- only the rows of one town have changed -/
def tF (t : Nat) (h hh : mn_H) : Prop := ∀ b, (b < t ∨ t + 19 < b) → hh b = h b
theorem tF.rf (t : Nat) (h : mn_H) : tF t h h := fun _ _ => rfl
section ADD
variable {h hh : mn_H} {t : Nat} {T : TW}
theorem x_addBell (ht : mn_isT t) (g : GC h t T) {n y1 y2 y3 : Nat} (hn : T 0 0 = n) (hm : n < 5) : ∃ h', mn_X 42 [.ref t, .int (nI y1), .int (nI y2), .int (nI y3)] h none h' ∧ tF t h h' ∧ h' t 16 = h t 16 ∧ GC h' t (twA T 0 (fun a => if a = 1 then y1 else if a = 2 then y2 else y3)) := by
  have e0 : h t 0 = nI n := by rw [← hn]; exact g.1 0 (by decide)
  have q1 : ∀ (k : mn_H) (j : Nat) (x : Int32), mn_up k (t + 1) j x t = k t := fun k j x => mn_up_row _ _ _ _ (by omega)
  have q2 : ∀ (k : mn_H) (j : Nat) (x : Int32), mn_up k (t + 2) j x t = k t := fun k j x => mn_up_row _ _ _ _ (by omega)
  have q3 : ∀ (k : mn_H) (j : Nat) (x : Int32), mn_up k (t + 3) j x t = k t := fun k j x => mn_up_row _ _ _ _ (by omega)
  have v : vp_in (nI n) 5 := vp_in_nI hm (by decide)
  have cl : (nI n).toNatClampNeg = n := nI_clamp (by omega)
  refine ⟨mn_up (mn_up (mn_up (mn_up h (t + 1) n (nI y1)) (t + 2) n (nI y2)) (t + 3) n (nI y3)) t 0 (nI (n + 1)), ?_, fun b hb => ?_, ?_, ?_⟩
  · rw [e_X5_addBell, b_X5_addBell_0 ht, e0, if_neg (show ¬ (5 : Int32) ≤ nI n from nI_ge (b := 5) hm (by decide)), b_X5_addBell_8 ht (by rw [e0]; exact v) (by simp only [q1, q2, q3, e0]; exact v) (by simp only [q1, q2, q3, e0]; exact v), b_X5_addBell_48 ht]
    refine ⟨rfl, ?_⟩
    simp only [q1, q2, q3, e0, cl, nI_1]
  · rw [mn_up_row _ _ _ _ (by omega), mn_up_row _ _ _ _ (by omega), mn_up_row _ _ _ _ (by omega), mn_up_row _ _ _ _ (by omega)]
  · rw [mn_up_get, if_neg (fun z => absurd z.2 (by decide)), q3, q2, q1]
  · refine g.add (c := 0) (by decide) hn ?_ (fun a h1 h2 h3 => ?_) (fun b j hc hf => ?_)
    · show mn_up _ t 0 _ t 0 = _; rw [mn_up_get, if_pos ⟨rfl, rfl⟩]
    · have ha : a = 1 ∨ a = 2 ∨ a = 3 := (by decide : ∀ a, a < 17 → 1 ≤ a → twg a = 0 → a = 1 ∨ a = 2 ∨ a = 3) a (by omega) h1 h3
      rcases ha with rfl | rfl | rfl
      · show mn_up _ t 0 _ (t + 1) n = _; rw [mn_up_row _ _ _ _ (by omega), mn_up_row _ _ _ _ (by omega), mn_up_row _ _ _ _ (by omega), mn_up_get, if_pos ⟨rfl, rfl⟩]; rfl
      · show mn_up _ t 0 _ (t + 2) n = _; rw [mn_up_row _ _ _ _ (by omega), mn_up_row _ _ _ _ (by omega), mn_up_get, if_pos ⟨rfl, rfl⟩]; rfl
      · show mn_up _ t 0 _ (t + 3) n = _; rw [mn_up_row _ _ _ _ (by omega), mn_up_get, if_pos ⟨rfl, rfl⟩]; rfl
    · rw [mn_up_get, if_neg (show ¬ (b = t ∧ j = 0) from hc), mn_up_get, if_neg (show ¬ (b = t + 3 ∧ j = n) from hf 3 (by decide) (by decide) rfl), mn_up_get, if_neg (show ¬ (b = t + 2 ∧ j = n) from hf 2 (by decide) (by decide) rfl), mn_up_get, if_neg (show ¬ (b = t + 1 ∧ j = n) from hf 1 (by decide) (by decide) rfl)]
theorem x_addGroup (ht : mn_isT t) (g : GC h t T) {n y4 y5 y6 y7 : Nat} (hn : T 0 1 = n) (hm : n < 6) : ∃ h', mn_X 43 [.ref t, .int (nI y4), .int (nI y5), .int (nI y6), .int (nI y7)] h none h' ∧ tF t h h' ∧ h' t 16 = h t 16 ∧ GC h' t (twA T 1 (fun a => if a = 4 then y4 else if a = 5 then y5 else if a = 6 then y6 else y7)) := by
  have e0 : h t 4 = nI n := by rw [← hn]; exact g.1 1 (by decide)
  have q4 : ∀ (k : mn_H) (j : Nat) (x : Int32), mn_up k (t + 4) j x t = k t := fun k j x => mn_up_row _ _ _ _ (by omega)
  have q5 : ∀ (k : mn_H) (j : Nat) (x : Int32), mn_up k (t + 5) j x t = k t := fun k j x => mn_up_row _ _ _ _ (by omega)
  have q6 : ∀ (k : mn_H) (j : Nat) (x : Int32), mn_up k (t + 6) j x t = k t := fun k j x => mn_up_row _ _ _ _ (by omega)
  have q7 : ∀ (k : mn_H) (j : Nat) (x : Int32), mn_up k (t + 7) j x t = k t := fun k j x => mn_up_row _ _ _ _ (by omega)
  have v : vp_in (nI n) 6 := vp_in_nI hm (by decide)
  have cl : (nI n).toNatClampNeg = n := nI_clamp (by omega)
  refine ⟨mn_up (mn_up (mn_up (mn_up (mn_up h (t + 4) n (nI y4)) (t + 5) n (nI y5)) (t + 6) n (nI y6)) (t + 7) n (nI y7)) t 4 (nI (n + 1)), ?_, fun b hb => ?_, ?_, ?_⟩
  · rw [e_X5_addGroup, b_X5_addGroup_0 ht, e0, if_neg (show ¬ (6 : Int32) ≤ nI n from nI_ge (b := 6) hm (by decide)), b_X5_addGroup_9 ht (by rw [e0]; exact v) (by simp only [q4, q5, q6, q7, e0]; exact v) (by simp only [q4, q5, q6, q7, e0]; exact v) (by simp only [q4, q5, q6, q7, e0]; exact v), b_X5_addGroup_60 ht]
    refine ⟨rfl, ?_⟩
    simp only [q4, q5, q6, q7, e0, cl, nI_1]
  · rw [mn_up_row _ _ _ _ (by omega), mn_up_row _ _ _ _ (by omega), mn_up_row _ _ _ _ (by omega), mn_up_row _ _ _ _ (by omega), mn_up_row _ _ _ _ (by omega)]
  · rw [mn_up_get, if_neg (fun z => absurd z.2 (by decide)), q7, q6, q5, q4]
  · refine g.add (c := 1) (by decide) hn ?_ (fun a h1 h2 h3 => ?_) (fun b j hc hf => ?_)
    · show mn_up _ t 4 _ t 4 = _; rw [mn_up_get, if_pos ⟨rfl, rfl⟩]
    · have ha : a = 4 ∨ a = 5 ∨ a = 6 ∨ a = 7 := (by decide : ∀ a, a < 17 → 1 ≤ a → twg a = 1 → a = 4 ∨ a = 5 ∨ a = 6 ∨ a = 7) a (by omega) h1 h3
      rcases ha with rfl | rfl | rfl | rfl
      · show mn_up _ t 4 _ (t + 4) n = _; rw [mn_up_row _ _ _ _ (by omega), mn_up_row _ _ _ _ (by omega), mn_up_row _ _ _ _ (by omega), mn_up_row _ _ _ _ (by omega), mn_up_get, if_pos ⟨rfl, rfl⟩]; rfl
      · show mn_up _ t 4 _ (t + 5) n = _; rw [mn_up_row _ _ _ _ (by omega), mn_up_row _ _ _ _ (by omega), mn_up_row _ _ _ _ (by omega), mn_up_get, if_pos ⟨rfl, rfl⟩]; rfl
      · show mn_up _ t 4 _ (t + 6) n = _; rw [mn_up_row _ _ _ _ (by omega), mn_up_row _ _ _ _ (by omega), mn_up_get, if_pos ⟨rfl, rfl⟩]; rfl
      · show mn_up _ t 4 _ (t + 7) n = _; rw [mn_up_row _ _ _ _ (by omega), mn_up_get, if_pos ⟨rfl, rfl⟩]; rfl
    · rw [mn_up_get, if_neg (show ¬ (b = t ∧ j = 4) from hc), mn_up_get, if_neg (show ¬ (b = t + 7 ∧ j = n) from hf 7 (by decide) (by decide) rfl), mn_up_get, if_neg (show ¬ (b = t + 6 ∧ j = n) from hf 6 (by decide) (by decide) rfl), mn_up_get, if_neg (show ¬ (b = t + 5 ∧ j = n) from hf 5 (by decide) (by decide) rfl), mn_up_get, if_neg (show ¬ (b = t + 4 ∧ j = n) from hf 4 (by decide) (by decide) rfl)]
theorem x_addSelf (ht : mn_isT t) (g : GC h t T) {n y14 y15 y16 : Nat} (hn : T 0 4 = n) (hm : n < 3) : ∃ h', mn_X 44 [.ref t, .int (nI y14), .int (nI y15), .int (nI y16)] h none h' ∧ tF t h h' ∧ h' t 16 = h t 16 ∧ GC h' t (twA T 4 (fun a => if a = 14 then y14 else if a = 15 then y15 else y16)) := by
  have e0 : h t 11 = nI n := by rw [← hn]; exact g.1 4 (by decide)
  have q16 : ∀ (k : mn_H) (j : Nat) (x : Int32), mn_up k (t + 16) j x t = k t := fun k j x => mn_up_row _ _ _ _ (by omega)
  have q17 : ∀ (k : mn_H) (j : Nat) (x : Int32), mn_up k (t + 17) j x t = k t := fun k j x => mn_up_row _ _ _ _ (by omega)
  have q18 : ∀ (k : mn_H) (j : Nat) (x : Int32), mn_up k (t + 18) j x t = k t := fun k j x => mn_up_row _ _ _ _ (by omega)
  have v : vp_in (nI n) 3 := vp_in_nI hm (by decide)
  have cl : (nI n).toNatClampNeg = n := nI_clamp (by omega)
  refine ⟨mn_up (mn_up (mn_up (mn_up h (t + 16) n (nI y14)) (t + 17) n (nI y15)) (t + 18) n (nI y16)) t 11 (nI (n + 1)), ?_, fun b hb => ?_, ?_, ?_⟩
  · rw [e_X5_addSelf, b_X5_addSelf_0 ht, e0, if_neg (show ¬ (3 : Int32) ≤ nI n from nI_ge (b := 3) hm (by decide)), b_X5_addSelf_8 ht (by rw [e0]; exact v) (by simp only [q16, q17, q18, e0]; exact v) (by simp only [q16, q17, q18, e0]; exact v), b_X5_addSelf_48 ht]
    refine ⟨rfl, ?_⟩
    simp only [q16, q17, q18, e0, cl, nI_1]
  · rw [mn_up_row _ _ _ _ (by omega), mn_up_row _ _ _ _ (by omega), mn_up_row _ _ _ _ (by omega), mn_up_row _ _ _ _ (by omega)]
  · rw [mn_up_get, if_neg (fun z => absurd z.2 (by decide)), q18, q17, q16]
  · refine g.add (c := 4) (by decide) hn ?_ (fun a h1 h2 h3 => ?_) (fun b j hc hf => ?_)
    · show mn_up _ t 11 _ t 11 = _; rw [mn_up_get, if_pos ⟨rfl, rfl⟩]
    · have ha : a = 14 ∨ a = 15 ∨ a = 16 := (by decide : ∀ a, a < 17 → 1 ≤ a → twg a = 4 → a = 14 ∨ a = 15 ∨ a = 16) a (by omega) h1 h3
      rcases ha with rfl | rfl | rfl
      · show mn_up _ t 11 _ (t + 16) n = _; rw [mn_up_row _ _ _ _ (by omega), mn_up_row _ _ _ _ (by omega), mn_up_row _ _ _ _ (by omega), mn_up_get, if_pos ⟨rfl, rfl⟩]; rfl
      · show mn_up _ t 11 _ (t + 17) n = _; rw [mn_up_row _ _ _ _ (by omega), mn_up_row _ _ _ _ (by omega), mn_up_get, if_pos ⟨rfl, rfl⟩]; rfl
      · show mn_up _ t 11 _ (t + 18) n = _; rw [mn_up_row _ _ _ _ (by omega), mn_up_get, if_pos ⟨rfl, rfl⟩]; rfl
    · rw [mn_up_get, if_neg (show ¬ (b = t ∧ j = 11) from hc), mn_up_get, if_neg (show ¬ (b = t + 18 ∧ j = n) from hf 16 (by decide) (by decide) rfl), mn_up_get, if_neg (show ¬ (b = t + 17 ∧ j = n) from hf 15 (by decide) (by decide) rfl), mn_up_get, if_neg (show ¬ (b = t + 16 ∧ j = n) from hf 14 (by decide) (by decide) rfl)]
theorem x_addCause (ht : mn_isT t) (g : GC h t T) {n y8 y9 y10 : Nat} (hn : T 0 2 = n) (hm : n < 8) : ∃ h', mn_X 38 [.ref (t + 8), .int (nI y8), .int (nI y9), .int (nI y10)] h none h' ∧ tF t h h' ∧ h' t 16 = h t 16 ∧ GC h' t (twA T 2 (fun a => if a = 8 then y8 else if a = 9 then y9 else y10)) := by
  have e0 : h (t + 8) 3 = nI n := by rw [← hn]; exact g.1 2 (by decide)
  have hq : mn_isQ (t + 8) := by unfold mn_isQ; rcases ht with e | e <;> omega
  have qn : mn_qn (t + 8) = 8 := by unfold mn_qn; rcases ht with e | e <;> rw [e] <;> rfl
  have q1 : ∀ (k : mn_H) (j : Nat) (x : Int32), mn_up k (t + 8 + 1) j x (t + 8) = k (t + 8) := fun k j x => mn_up_row _ _ _ _ (by omega)
  have q2 : ∀ (k : mn_H) (j : Nat) (x : Int32), mn_up k (t + 8 + 2) j x (t + 8) = k (t + 8) := fun k j x => mn_up_row _ _ _ _ (by omega)
  have q3 : ∀ (k : mn_H) (j : Nat) (x : Int32), mn_up k (t + 8 + 3) j x (t + 8) = k (t + 8) := fun k j x => mn_up_row _ _ _ _ (by omega)
  have v : vp_in (nI n) (mn_qn (t + 8)) := by rw [qn]; exact vp_in_nI hm (by decide)
  have cl : (nI n).toNatClampNeg = n := nI_clamp (by omega)
  have x36 : mn_X 36 [.ref (t + 8)] h (some (.int 0)) h := by
    rw [e_X4_isFull, b_X4_isFull_0 hq, e0, qn, if_pos (nI_lt hm (by decide)), b_X4_isFull_16 hq, b_X4_isFull_17 hq (Or.inl rfl)]; exact ⟨rfl, rfl⟩
  refine ⟨mn_up (mn_up (mn_up (mn_up h (t + 9) n (nI y8)) (t + 10) n (nI y9)) (t + 11) n (nI y10)) (t + 8) 3 (nI (n + 1)), ?_, fun b hb => ?_, ?_, ?_⟩
  · rw [e_X4_add, b_X4_add_0 hq, mn_cl_i x36, b_X4_add_4 hq, if_neg (fun z => z rfl), b_X4_add_7 hq (by rw [e0]; exact v) (by simp only [q1, q2, q3, e0]; exact v) (by simp only [q1, q2, q3, e0]; exact v), b_X4_add_47 hq]
    refine ⟨rfl, ?_⟩
    simp only [q1, q2, q3, e0, cl, nI_1]
  · rw [mn_up_row _ _ _ _ (by omega), mn_up_row _ _ _ _ (by omega), mn_up_row _ _ _ _ (by omega), mn_up_row _ _ _ _ (by omega)]
  · rw [mn_up_row _ _ _ _ (by omega), mn_up_row _ _ _ _ (by omega), mn_up_row _ _ _ _ (by omega), mn_up_row _ _ _ _ (by omega)]
  · refine g.add (c := 2) (by decide) hn ?_ (fun a h1 h2 h3 => ?_) (fun b j hc hf => ?_)
    · show mn_up _ (t + 8) 3 _ (t + 8) 3 = _; rw [mn_up_get, if_pos ⟨rfl, rfl⟩]
    · have ha : a = 8 ∨ a = 9 ∨ a = 10 := (by decide : ∀ a, a < 17 → 1 ≤ a → twg a = 2 → a = 8 ∨ a = 9 ∨ a = 10) a (by omega) h1 h3
      rcases ha with rfl | rfl | rfl
      · show mn_up _ (t + 8) 3 _ (t + 9) n = _; rw [mn_up_row _ _ _ _ (by omega), mn_up_row _ _ _ _ (by omega), mn_up_row _ _ _ _ (by omega), mn_up_get, if_pos ⟨rfl, rfl⟩]; rfl
      · show mn_up _ (t + 8) 3 _ (t + 10) n = _; rw [mn_up_row _ _ _ _ (by omega), mn_up_row _ _ _ _ (by omega), mn_up_get, if_pos ⟨rfl, rfl⟩]; rfl
      · show mn_up _ (t + 8) 3 _ (t + 11) n = _; rw [mn_up_row _ _ _ _ (by omega), mn_up_get, if_pos ⟨rfl, rfl⟩]; rfl
    · rw [mn_up_get, if_neg (show ¬ (b = t + 8 ∧ j = 3) from hc), mn_up_get, if_neg (show ¬ (b = t + 11 ∧ j = n) from hf 10 (by decide) (by decide) rfl), mn_up_get, if_neg (show ¬ (b = t + 10 ∧ j = n) from hf 9 (by decide) (by decide) rfl), mn_up_get, if_neg (show ¬ (b = t + 9 ∧ j = n) from hf 8 (by decide) (by decide) rfl)]
theorem x_addStop (ht : mn_isT t) (g : GC h t T) {n y11 y12 y13 : Nat} (hn : T 0 3 = n) (hm : n < 4) : ∃ h', mn_X 38 [.ref (t + 12), .int (nI y11), .int (nI y12), .int (nI y13)] h none h' ∧ tF t h h' ∧ h' t 16 = h t 16 ∧ GC h' t (twA T 3 (fun a => if a = 11 then y11 else if a = 12 then y12 else y13)) := by
  have e0 : h (t + 12) 3 = nI n := by rw [← hn]; exact g.1 3 (by decide)
  have hq : mn_isQ (t + 12) := by unfold mn_isQ; rcases ht with e | e <;> omega
  have qn : mn_qn (t + 12) = 4 := by unfold mn_qn; rcases ht with e | e <;> rw [e] <;> rfl
  have q1 : ∀ (k : mn_H) (j : Nat) (x : Int32), mn_up k (t + 12 + 1) j x (t + 12) = k (t + 12) := fun k j x => mn_up_row _ _ _ _ (by omega)
  have q2 : ∀ (k : mn_H) (j : Nat) (x : Int32), mn_up k (t + 12 + 2) j x (t + 12) = k (t + 12) := fun k j x => mn_up_row _ _ _ _ (by omega)
  have q3 : ∀ (k : mn_H) (j : Nat) (x : Int32), mn_up k (t + 12 + 3) j x (t + 12) = k (t + 12) := fun k j x => mn_up_row _ _ _ _ (by omega)
  have v : vp_in (nI n) (mn_qn (t + 12)) := by rw [qn]; exact vp_in_nI hm (by decide)
  have cl : (nI n).toNatClampNeg = n := nI_clamp (by omega)
  have x36 : mn_X 36 [.ref (t + 12)] h (some (.int 0)) h := by
    rw [e_X4_isFull, b_X4_isFull_0 hq, e0, qn, if_pos (nI_lt hm (by decide)), b_X4_isFull_16 hq, b_X4_isFull_17 hq (Or.inl rfl)]; exact ⟨rfl, rfl⟩
  refine ⟨mn_up (mn_up (mn_up (mn_up h (t + 13) n (nI y11)) (t + 14) n (nI y12)) (t + 15) n (nI y13)) (t + 12) 3 (nI (n + 1)), ?_, fun b hb => ?_, ?_, ?_⟩
  · rw [e_X4_add, b_X4_add_0 hq, mn_cl_i x36, b_X4_add_4 hq, if_neg (fun z => z rfl), b_X4_add_7 hq (by rw [e0]; exact v) (by simp only [q1, q2, q3, e0]; exact v) (by simp only [q1, q2, q3, e0]; exact v), b_X4_add_47 hq]
    refine ⟨rfl, ?_⟩
    simp only [q1, q2, q3, e0, cl, nI_1]
  · rw [mn_up_row _ _ _ _ (by omega), mn_up_row _ _ _ _ (by omega), mn_up_row _ _ _ _ (by omega), mn_up_row _ _ _ _ (by omega)]
  · rw [mn_up_row _ _ _ _ (by omega), mn_up_row _ _ _ _ (by omega), mn_up_row _ _ _ _ (by omega), mn_up_row _ _ _ _ (by omega)]
  · refine g.add (c := 3) (by decide) hn ?_ (fun a h1 h2 h3 => ?_) (fun b j hc hf => ?_)
    · show mn_up _ (t + 12) 3 _ (t + 12) 3 = _; rw [mn_up_get, if_pos ⟨rfl, rfl⟩]
    · have ha : a = 11 ∨ a = 12 ∨ a = 13 := (by decide : ∀ a, a < 17 → 1 ≤ a → twg a = 3 → a = 11 ∨ a = 12 ∨ a = 13) a (by omega) h1 h3
      rcases ha with rfl | rfl | rfl
      · show mn_up _ (t + 12) 3 _ (t + 13) n = _; rw [mn_up_row _ _ _ _ (by omega), mn_up_row _ _ _ _ (by omega), mn_up_row _ _ _ _ (by omega), mn_up_get, if_pos ⟨rfl, rfl⟩]; rfl
      · show mn_up _ (t + 12) 3 _ (t + 14) n = _; rw [mn_up_row _ _ _ _ (by omega), mn_up_row _ _ _ _ (by omega), mn_up_get, if_pos ⟨rfl, rfl⟩]; rfl
      · show mn_up _ (t + 12) 3 _ (t + 15) n = _; rw [mn_up_row _ _ _ _ (by omega), mn_up_get, if_pos ⟨rfl, rfl⟩]; rfl
    · rw [mn_up_get, if_neg (show ¬ (b = t + 12 ∧ j = 3) from hc), mn_up_get, if_neg (show ¬ (b = t + 15 ∧ j = n) from hf 13 (by decide) (by decide) rfl), mn_up_get, if_neg (show ¬ (b = t + 14 ∧ j = n) from hf 12 (by decide) (by decide) rfl), mn_up_get, if_neg (show ¬ (b = t + 13 ∧ j = n) from hf 11 (by decide) (by decide) rfl)]
theorem x_tellHarm (ht : mn_isT t) (g : GC h t T) {k v td : Nat} (hk : k < 6) (htd : h t 16 = nI td) (h64 : td < 64) : ∃ h', mn_X 46 [.ref t, .int (nI k), .int (nI v - 50)] h none h' ∧ tF t h h' ∧ h' t 16 = nI (td ||| 2 ^ k) ∧ GC h' t (twH T k v) := by
  have p2 : 2 ^ k < 2 ^ 6 := Nat.pow_lt_pow_right (by decide) hk
  refine ⟨mn_up (mn_up h (t + 19) k (nI v - 50)) t 16 (nI (td ||| 2 ^ k)), ?_, fun b hb => ?_, by rw [mn_up_get, if_pos ⟨rfl, rfl⟩], ?_⟩
  · rw [e_X5_tellHarm, b_X5_tellHarm_0 ht (vp_in_nI hk (by decide)), nI_clamp (by omega), mn_up_row h (t + 19) _ _ (show t ≠ t + 19 by omega), htd, nq_one (by omega), nq_or (by omega) (by omega)]
    exact ⟨rfl, rfl⟩
  · rw [mn_up_row _ _ _ _ (by omega), mn_up_row _ _ _ _ (by omega)]
  · refine g.harm (fun b hb j hj => ?_) (fun j => ?_)
    · rw [mn_up_get, if_neg hj, mn_up_row _ _ _ _ hb]
    · rw [mn_up_row _ _ _ _ (by omega), mn_up_get]
      by_cases o : j = k
      · rw [if_pos ⟨rfl, o⟩, if_pos o]
      · rw [if_neg (fun z => o z.2), if_neg o]
theorem x_isHarmTold (ht : mn_isT t) {k td : Nat} (hk : k < 32) (htd : h t 16 = nI td) (h64 : td < 64) : mn_X 45 [.ref t, .int (nI k)] h (some (.int (mz (td.testBit k)))) h := by
  have b1 := nq_bit1 (a := td) (k := k) hk (by omega)
  rw [e_X5_isHarmTold, b_X5_isHarmTold_0 ht, htd]
  cases o : td.testBit k with
  | true => rw [if_neg (fun z => z (b1.mpr o)), b_X5_isHarmTold_12 ht, b_X5_isHarmTold_17 ht (Or.inr rfl)]; exact ⟨rfl, rfl⟩
  | false => rw [if_pos (fun z => by rw [b1.mp z] at o; cases o), b_X5_isHarmTold_16 ht, b_X5_isHarmTold_17 ht (Or.inl rfl)]; exact ⟨rfl, rfl⟩
theorem x_forgetT (ht : mn_isT t) : ∃ h', mn_X 41 [.ref t] h none h' ∧ tF t h h' ∧ h' t 16 = 0 ∧ GC h' t tw0 := by
  have hq8 : mn_isQ (t + 8) := by unfold mn_isQ; rcases ht with e | e <;> omega
  have hq12 : mn_isQ (t + 12) := by unfold mn_isQ; rcases ht with e | e <;> omega
  have x37 : ∀ (q : Nat) (k : mn_H), mn_isQ q → mn_X 37 [.ref q] k none (mn_up k q 3 0) := fun q k hq => by rw [e_X4_forgetAll, b_X4_forgetAll_0 hq]; exact ⟨rfl, rfl⟩
  obtain ⟨h1, eh1⟩ : ∃ h1, h1 = mn_up (mn_up (mn_up (mn_up (mn_up h t 0 0) t 4 0) (t + 8) 3 0) (t + 12) 3 0) t 11 0 := ⟨_, rfl⟩
  have hs : mn_sh (t + 19) = (1, 6) := by rcases ht with e | e <;> rw [e] <;> rfl
  refine ⟨mn_up (mn_set h1 (t + 19) (fun j => if j < 6 then 1 else h1 (t + 19) j)) t 16 0, ?_, fun b hb => ?_, by rw [mn_up_get, if_pos ⟨rfl, rfl⟩], ?_⟩
  · rw [e_X5_forgetAll, b_X5_forgetAll_0 ht, mn_cl_v (x37 _ _ hq8), b_X5_forgetAll_17 ht, mn_cl_v (x37 _ _ hq12), b_X5_forgetAll_24 ht, ← eh1, mn_cl_v (x_fill (a := t + 19) (n := 6) 1 hs (by rcases ht with e | e <;> omega) (by decide)), b_X5_forgetAll_37 ht]
    exact ⟨rfl, rfl⟩
  · rw [mn_up_row _ _ _ _ (by omega), mn_set_row, if_neg (by omega), eh1, mn_up_row _ _ _ _ (by omega), mn_up_row _ _ _ _ (by omega), mn_up_row _ _ _ _ (by omega), mn_up_row _ _ _ _ (by omega), mn_up_row _ _ _ _ (by omega)]
  · refine ⟨fun c hc => ?_, fun a _ _ b hb => absurd hb (Nat.not_lt_zero _), fun k hk => ?_⟩
    · have cs : c = 0 ∨ c = 1 ∨ c = 2 ∨ c = 3 ∨ c = 4 := by omega
      rcases cs with rfl | rfl | rfl | rfl | rfl
      · show mn_up (mn_set h1 (t + 19) _) t 16 0 t 0 = nI 0
        rw [mn_up_get, if_neg (by omega), mn_set_row, if_neg (by omega), eh1]; simp [mn_up_get]; rfl
      · show mn_up (mn_set h1 (t + 19) _) t 16 0 t 4 = nI 0
        rw [mn_up_get, if_neg (by omega), mn_set_row, if_neg (by omega), eh1]; simp [mn_up_get]; rfl
      · show mn_up (mn_set h1 (t + 19) _) t 16 0 (t + 8) 3 = nI 0
        rw [mn_up_get, if_neg (by omega), mn_set_row, if_neg (by omega), eh1]; simp [mn_up_get]; rfl
      · show mn_up (mn_set h1 (t + 19) _) t 16 0 (t + 12) 3 = nI 0
        rw [mn_up_get, if_neg (by omega), mn_set_row, if_neg (by omega), eh1]; simp [mn_up_get]; rfl
      · show mn_up (mn_set h1 (t + 19) _) t 16 0 t 11 = nI 0
        rw [mn_up_get, if_neg (by omega), mn_set_row, if_neg (by omega), eh1]; simp [mn_up_get]; rfl
    · rw [mn_up_row _ _ _ _ (by omega), mn_set_get2, if_pos rfl, if_pos hk, show tw0 17 k = 51 from rfl]; decide
end ADD
