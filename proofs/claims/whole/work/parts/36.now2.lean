/-- all but what is so now has stayed, and what is tried with -/
def NF (h hh : mn_H) : Prop := (∀ b, b ≠ 3 → b ≠ 4 → b ≠ 67 → b ≠ 10 → (b < 15 ∨ 22 < b) → b ≠ 63 → b ≠ 72 → b ≠ 73 → hh b = h b) ∧ ∀ k, k < 13 → hh 63 k = h 63 k
theorem NF.rf (h : mn_H) : NF h h := ⟨fun _ _ _ _ _ _ _ _ _ => rfl, fun _ _ => rfl⟩
theorem NF.tr {h h1 h2 : mn_H} (a : NF h h1) (b : NF h1 h2) : NF h h2 := ⟨fun c p q s x y z u v => (b.1 c p q s x y z u v).trans (a.1 c p q s x y z u v), fun k hk => (b.2 k hk).trans (a.2 k hk)⟩
theorem SF.nf {h hh : mn_H} (f : SF h hh) : NF h hh := ⟨fun b _ _ _ x y z u v => f.1 b x y z u v, f.2⟩
theorem NF.up {h hh : mn_H} (f : NF h hh) {a k : Nat} {x : Int32} (ha : a = 3 ∨ a = 4 ∨ a = 67) : NF h (mn_up hh a k x) :=
  ⟨fun b p q s x y z u v => by rw [mn_up_row _ _ _ _ (by omega)]; exact f.1 b p q s x y z u v, fun k hk => by rw [mn_up_row _ _ _ _ (by omega)]; exact f.2 k hk⟩
theorem NF.set {h hh : mn_H} (f : NF h hh) {a : Nat} {g : Nat → Int32} (ha : a = 3 ∨ a = 4 ∨ a = 67) : NF h (mn_set hh a g) :=
  ⟨fun b p q s x y z u v => by rw [mn_set_row, if_neg (by omega)]; exact f.1 b p q s x y z u v, fun k hk => by rw [mn_set_row, if_neg (by omega)]; exact f.2 k hk⟩
theorem NF.row {h hh : mn_H} (f : NF h hh) (b : Nat) (hb : b ≠ 3 ∧ b ≠ 4 ∧ b ≠ 67 ∧ b ≠ 10 ∧ (b < 15 ∨ 22 < b) ∧ b ≠ 63 ∧ b ≠ 72 ∧ b ≠ 73) : hh b = h b := f.1 b hb.1 hb.2.1 hb.2.2.1 hb.2.2.2.1 hb.2.2.2.2.1 hb.2.2.2.2.2.1 hb.2.2.2.2.2.2.1 hb.2.2.2.2.2.2.2
def CST (h : mn_H) (c d : Nat) (T : TW) (S : Nat → Nat) (n df my sd : Nat) : Prop := h c 0 = nI (S 0) ∧ h c 2 = nI n ∧ h c 3 = hsN T S n ∧ h c 4 = nI df ∧ h c 5 = nI my ∧ h c 6 = nI sd ∧ ∀ k, k < n → h d k = nI (S (k + 1))
def MST (h : mn_H) (S : Nat → Nat) (n df my sd : Nat) : Prop := h 67 0 = nI n ∧ h 67 1 = nI df ∧ h 67 2 = nI my ∧ h 67 3 = nI sd ∧ ∀ k, k ≤ n → h 67 (4 + k) = nI (S k)
def BST (T : TW) (S : Nat → Nat) (n df my sd : Nat) : Prop := n ≤ 60 ∧ (∀ k, k ≤ n → S k < 64) ∧ df < 2 ^ T 0 1 ∧ my < 2 ^ T 0 1 ∧ sd < 2 ^ 31
section PQ
variable {h hh : mn_H} {T : TW} {S S' : Nat → Nat} {n df my sd n' df' my' sd' : Nat}
theorem RN.cst (r : RN h T S n df my sd) : CST h 3 4 T S n df my sd := by
  obtain ⟨⟨c1, c2, c3, c4, c5, c6, c7, c8, c9, c10, c11, c12, c13⟩, r2, r3, r4, r5, r6, r7, r8⟩ := r
  exact ⟨c5, c6, r5, c10, c12, r6, c8⟩
theorem RN.mst (r : RN h T S n df my sd) : MST h S n df my sd := ⟨r.2.1.2.1, r.2.1.2.2.1, r.2.1.2.2.2.1, r.2.2.2.2.2.2.1, r.2.1.2.2.2.2⟩
theorem RN.bst (r : RN h T S n df my sd) : BST T S n df my sd := ⟨r.n60, r.s64, r.2.2.2.2.2.2.2.2.1, r.2.2.2.2.2.2.2.2.2, r.2.2.2.2.2.2.2.1⟩
theorem RN.mk (f : NF h hh) (r : RN h T S n df my sd) (c : CST hh 3 4 T S' n' df' my' sd') (m : MST hh S' n' df' my' sd') (b : BST T S' n' df' my' sd') : RN hh T S' n' df' my' sd' := by
  obtain ⟨⟨c1, c2, c3, c4, c5, c6, c7, c8, c9, c10, c11, c12, c13⟩, r2, r3, r4, r5, r6, r7, r8⟩ := r
  have e0 := f.row 0 (by decide)
  have e65 := f.row 65 (by decide)
  have hr : mn_hr hh = mn_hr h := by unfold mn_hr; rw [e0]
  have sp : mn_sp hh = mn_sp h := by unfold mn_sp; rw [e0]
  have p6 := mn_pw6 c3
  obtain ⟨b1, b2, b3, b4, b5⟩ := b
  refine ⟨⟨rfl, by rw [hr]; exact c2, c3, ?_, c.1, c.2.1, b1, c.2.2.2.2.2.2, b2, c.2.2.2.1, by omega, c.2.2.2.2.1, by omega⟩, ⟨MT_row e65 r2.1, m.1, m.2.1, m.2.2.1, m.2.2.2.2⟩, by rw [sp]; exact r3, by rw [sp, hr]; exact r4, c.2.2.1, c.2.2.2.2.2.1, m.2.2.2.1, b5, b3, b4⟩
  rw [hr]
  exact CT_rows (fun k hk => f.row _ (by rcases c2 with e | e <;> rw [e] <;> omega)) c4
theorem NF.ri (f : NF h hh) (r : RI h T) : RI hh T := by
  intro i hi
  obtain ⟨kp, a, b, c⟩ := r i hi
  have e5 := f.row (5 + 2 * i) (by omega)
  have e6 := f.row (6 + 2 * i) (by omega)
  have e68 := f.row 68 (by decide)
  refine ⟨kp, by rw [e5]; exact a, by rw [f.row 69 (by decide)]; exact b, fun hk => ?_⟩
  obtain ⟨S, n, df, my, sd, q⟩ := c hk
  refine ⟨S, n, df, my, sd, ?_⟩
  unfold RI1 at q ⊢
  rw [e5, e6, e68]; exact q
theorem NF.rs (f : NF h hh) (r : RS h) : RS hh := by
  unfold RS at r ⊢
  rw [f.row 11 (by decide), f.row 70 (by decide), f.row 71 (by decide), f.row 12 (by decide), f.row 13 (by decide), f.row 14 (by decide)]
  exact r
theorem NF.rx (f : NF h hh) (r : RX h) : RX hh := by
  unfold RX at r ⊢
  rw [f.row 1 (by decide), f.row 2 (by decide), f.row 64 (by decide), f.2 1 (by decide), f.2 9 (by decide)]
  exact r
theorem INV.now (f : NF h hh) (r : RN h T S n df my sd) (ri : RI h T) (rs : RS h) (rx : RX h) (c : CST hh 3 4 T S' n' df' my' sd') (m : MST hh S' n' df' my' sd') (b : BST T S' n' df' my' sd') : INV hh :=
  ⟨T, S', n', df', my', sd', r.mk f c m b, f.ri ri, f.rs rs, f.rx rx⟩
theorem hsN_cong (e : ∀ k, k < n → S (k + 1) = S' (k + 1)) : hsN T S n = hsN T S' n := by
  unfold hsN
  induction n with
  | zero => rfl
  | succ n ih =>
    show mn_sum _ n + harmN T (S (n + 1)) = mn_sum _ n + harmN T (S' (n + 1))
    rw [ih (fun k hk => e k (by omega)), e n (by omega)]
theorem hsN_s : hsN T S (n + 1) = hsN T S n + harmN T (S (n + 1)) := rfl
end PQ
theorem p_yesterday (x : Int32) : PAIR 78 157 [.int x] := by
  intro h i
  obtain ⟨T, S, n, df, my, sd, r, ri, rs, rx⟩ := id i
  rcases mn_rng x 64 (by decide) with ⟨d, hd, rfl⟩ | q
  · by_cases o : n = 0
    · subst o
      have f : NF h (mn_up (mn_up h 3 0 (nI d)) 67 4 (nI d)) := ((NF.rf h).up (by decide)).up (by decide)
      refine ⟨nI (S 0), mn_up h 3 0 (nI d), mn_up (mn_up h 3 0 (nI d)) 67 4 (nI d), ?_, ?_, ?_⟩
      · simp +decide only [e_X7_yesterday, b_X7_yesterday_0, b_X7_yesterday_4, b_X7_yesterday_7, b_X7_yesterday_10, b_X7_yesterday_20, b_X7_yesterday_23, i10, i00, i01, i11, not_true_eq_false, not_false_eq_true, if_true, if_false, true_or, or_true, true_and, and_true, and_false, false_and, mn_cl_i (x_isDay_in hd), r.cst.2.1, nv0, r.cst.1]
      · simp +decide only [e_X8_yesterday, b_X8_yesterday_0, b_X8_yesterday_4, b_X8_yesterday_7, b_X8_yesterday_10, b_X8_yesterday_19, b_X8_yesterday_22, i10, i00, i01, i11, not_true_eq_false, not_false_eq_true, if_true, if_false, true_or, or_true, true_and, and_true, and_false, false_and, mn_cl_i (x_mDay_in hd), nl0, nl4, mn_up_get, r.mst.1, nv0, r.mst.2.2.2.2 0 (Nat.le_refl _)]
      · refine INV.now (S' := fun _ => d) (n' := 0) (df' := df) (my' := my) (sd' := sd) f r ri rs rx ?_ ?_ ?_
        · obtain ⟨c1, c2, c3, c4, c5, c6, c7⟩ := r.cst
          refine ⟨by simp [mn_up_get], by simp [mn_up_get]; exact c2, by simp [mn_up_get]; exact c3, by simp [mn_up_get]; exact c4, by simp [mn_up_get]; exact c5, by simp [mn_up_get]; exact c6, fun k hk => by omega⟩
        · obtain ⟨c1, c2, c3, c4, c5⟩ := r.mst
          refine ⟨by simp [mn_up_get]; exact c1, by simp [mn_up_get]; exact c2, by simp [mn_up_get]; exact c3, by simp [mn_up_get]; exact c4, fun k hk => ?_⟩
          have : k = 0 := by omega
          subst this
          simp [mn_up_get]
        · obtain ⟨b1, b2, b3⟩ := r.bst
          exact ⟨b1, fun _ _ => hd, b3⟩
    · have h60 := r.n60
      have o2 : ¬ nI n ≤ 0 := nI_nle (by omega) (by omega)
      refine PAIR.q (r := -1000000003) i ?_ (trF.rf h) ?_ (mdF.rf h)
      · simp only [e_X7_yesterday, b_X7_yesterday_0, b_X7_yesterday_4, b_X7_yesterday_7, b_X7_yesterday_10, b_X7_yesterday_20, b_X7_yesterday_23, i10, i00, i01, i11, not_true_eq_false, not_false_eq_true, if_true, if_false, true_or, or_true, true_and, and_true, and_false, false_and, mn_cl_i (x_isDay_in hd), r.cst.2.1, o2]
      · simp only [e_X8_yesterday, b_X8_yesterday_0, b_X8_yesterday_4, b_X8_yesterday_7, b_X8_yesterday_10, b_X8_yesterday_19, b_X8_yesterday_22, i10, i00, i01, i11, not_true_eq_false, not_false_eq_true, if_true, if_false, true_or, or_true, true_and, and_true, and_false, false_and, mn_cl_i (x_mDay_in hd), nl0, r.mst.1, o2]
  · refine PAIR.q (r := -1000000002) i ?_ (trF.rf h) ?_ (mdF.rf h)
    · simp only [e_X7_yesterday, b_X7_yesterday_0, b_X7_yesterday_4, b_X7_yesterday_7, b_X7_yesterday_10, b_X7_yesterday_20, b_X7_yesterday_23, i10, i00, i01, i11, not_true_eq_false, not_false_eq_true, if_true, if_false, true_or, or_true, true_and, and_true, and_false, false_and, mn_cl_i (x_isDay_out q)]
    · simp only [e_X8_yesterday, b_X8_yesterday_0, b_X8_yesterday_4, b_X8_yesterday_7, b_X8_yesterday_10, b_X8_yesterday_19, b_X8_yesterday_22, i10, i00, i01, i11, not_true_eq_false, not_false_eq_true, if_true, if_false, true_or, or_true, true_and, and_true, and_false, false_and, mn_cl_i (x_mDay_out q)]
