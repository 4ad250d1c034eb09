def hsN (T : TW) (S : Nat → Nat) (n : Nat) : Int32 := mn_sum (fun k => harmN T (S (k + 1))) n
def RN (h : mn_H) (T : TW) (S : Nat → Nat) (n df my sd : Nat) : Prop := CN h (mn_hr h) T S n df my ∧ MN h T S n df my ∧ mn_isT (mn_sp h) ∧ mn_sp h ≠ mn_hr h ∧ h 3 3 = hsN T S n ∧ h 3 6 = nI sd ∧ h 67 3 = nI sd ∧ sd < 2 ^ 31 ∧ df < 2 ^ T 0 1 ∧ my < 2 ^ T 0 1
def RI1 (h : mn_H) (T : TW) (i : Nat) (S : Nat → Nat) (n df my sd : Nat) : Prop :=
  (h (5 + 2 * i) 0 = nI (S 0) ∧ h (5 + 2 * i) 2 = nI n ∧ h (5 + 2 * i) 3 = hsN T S n ∧ h (5 + 2 * i) 4 = nI df ∧ h (5 + 2 * i) 5 = nI my ∧ h (5 + 2 * i) 6 = nI sd ∧ ∀ k, k < n → h (6 + 2 * i) k = nI (S (k + 1))) ∧
  (h 68 (65 * i) = nI n ∧ h 68 (65 * i + 1) = nI df ∧ h 68 (65 * i + 2) = nI my ∧ h 68 (65 * i + 3) = nI sd ∧ ∀ k, k ≤ n → h 68 (65 * i + (4 + k)) = nI (S k)) ∧
  n ≤ 60 ∧ (∀ k, k ≤ n → S k < 64) ∧ df < 2 ^ T 0 1 ∧ my < 2 ^ T 0 1 ∧ sd < 2 ^ 31
def RI (h : mn_H) (T : TW) : Prop := ∀ i, i < 2 → ∃ kp : Bool, h (5 + 2 * i) 7 = mz kp ∧ h 69 i = mz kp ∧ (kp = true → ∃ S n df my sd, RI1 h T i S n df my sd)
def RS (h : mn_H) : Prop := ∃ (c G : Nat → Nat), ∀ b, b < 5 → c b ≤ 12 ∧ h 11 b = nI (c b) ∧ h 70 b = nI (c b) ∧ ∀ i, i < c b → G (12 * b + i) < 8192 ∧ h 71 (12 * b + i) = nI (G (12 * b + i)) ∧ h 12 (12 * b + i) = mz (decide (4096 ≤ G (12 * b + i))) ∧ h 13 (12 * b + i) = nI (G (12 * b + i) / 64 % 64) ∧ h 14 (12 * b + i) = nI (G (12 * b + i) % 64)
def RX (h : mn_H) : Prop := ∃ (len : Nat) (C : Nat → Nat), len ≤ 250 ∧ h 1 1 = nI len ∧ h 63 1 = nI len ∧ (∀ i, i < len → C i < 256 ∧ h 2 i = nI (C i) ∧ h 64 i = nI (C i)) ∧ h 1 5 = h 63 9
def INV (h : mn_H) : Prop := ∃ T S n df my sd, RN h T S n df my sd ∧ RI h T ∧ RS h ∧ RX h
/-- only what is tried with has changed -/
def SF (h hh : mn_H) : Prop := (∀ b, b ≠ 10 → (b < 15 ∨ 22 < b) → b ≠ 63 → b ≠ 72 → b ≠ 73 → hh b = h b) ∧ ∀ k, k < 13 → hh 63 k = h 63 k
theorem SF.rf (h : mn_H) : SF h h := ⟨fun _ _ _ _ _ _ => rfl, fun _ _ => rfl⟩
theorem SF.tr {h h1 h2 : mn_H} (a : SF h h1) (b : SF h1 h2) : SF h h2 := ⟨fun c x y z u v => (b.1 c x y z u v).trans (a.1 c x y z u v), fun k hk => (b.2 k hk).trans (a.2 k hk)⟩
theorem trF.sf {h hh : mn_H} (f : trF h hh) : SF h hh := ⟨fun b _ h2 _ _ _ => f b (by omega), fun k _ => by rw [f 63 (by omega)]⟩
theorem mdF.sf {h hh : mn_H} (f : mdF h hh) : SF h hh := ⟨fun b _ _ h3 h4 h5 => f.1 b h3 h4 h5, f.2⟩
theorem SF.row {h hh : mn_H} (f : SF h hh) (b : Nat) (hb : b ≠ 10 ∧ (b < 15 ∨ 22 < b) ∧ b ≠ 63 ∧ b ≠ 72 ∧ b ≠ 73) : hh b = h b := f.1 b hb.1 hb.2.1 hb.2.2.1 hb.2.2.2.1 hb.2.2.2.2
theorem SF.hr {h hh : mn_H} (f : SF h hh) : mn_hr hh = mn_hr h := by unfold mn_hr; rw [f.row 0 (by decide)]
theorem SF.sp {h hh : mn_H} (f : SF h hh) : mn_sp hh = mn_sp h := by unfold mn_sp; rw [f.row 0 (by decide)]
theorem SF.ct {h hh : mn_H} {t : Nat} {T : TW} (f : SF h hh) (ht : mn_isT t) (hc : CT h t T) : CT hh t T := CT_rows (fun k hk => f.row _ (by rcases ht with rfl | rfl <;> omega)) hc
theorem SF.cn {h hh : mn_H} {t : Nat} {T : TW} {S : Nat → Nat} {n df my : Nat} (f : SF h hh) (c : CN h t T S n df my) : CN hh t T S n df my := by
  obtain ⟨c1, c2, c3, c4, c5, c6, c7, c8, c9, c10, c11, c12, c13⟩ := c
  have e3 := f.row 3 (by decide)
  have e4 := f.row 4 (by decide)
  exact ⟨by rw [f.hr]; exact c1, c2, c3, f.ct c2 c4, by rw [e3]; exact c5, by rw [e3]; exact c6, c7, by rw [e4]; exact c8, c9, by rw [e3]; exact c10, c11, by rw [e3]; exact c12, c13⟩
theorem SF.mn {h hh : mn_H} {T : TW} {S : Nat → Nat} {n df my : Nat} (f : SF h hh) (m : MN h T S n df my) : MN hh T S n df my := by
  obtain ⟨m1, m2, m3, m4, m5⟩ := m
  have e := f.row 67 (by decide)
  exact ⟨MT_row (f.row 65 (by decide)) m1, by rw [e]; exact m2, by rw [e]; exact m3, by rw [e]; exact m4, by rw [e]; exact m5⟩
theorem SF.rn {h hh : mn_H} {T : TW} {S : Nat → Nat} {n df my sd : Nat} (f : SF h hh) (r : RN h T S n df my sd) : RN hh T S n df my sd := by
  obtain ⟨r1, r2, r3, r4, r5, r6, r7, r8, r9, r10⟩ := r
  have e3 := f.row 3 (by decide)
  have e67 := f.row 67 (by decide)
  exact ⟨by rw [f.hr]; exact f.cn r1, f.mn r2, by rw [f.sp]; exact r3, by rw [f.sp, f.hr]; exact r4, by rw [e3]; exact r5, by rw [e3]; exact r6, by rw [e67]; exact r7, r8, r9, r10⟩
theorem SF.ri {h hh : mn_H} {T : TW} (f : SF h hh) (r : RI h T) : RI hh T := by
  intro i hi
  obtain ⟨kp, a, b, c⟩ := r i hi
  have e5 := f.row (5 + 2 * i) (by omega)
  have e6 := f.row (6 + 2 * i) (by omega)
  have e68 := f.row 68 (by decide)
  refine ⟨kp, by rw [e5]; exact a, by rw [f.row 69 (by decide)]; exact b, fun hk => ?_⟩
  obtain ⟨S, n, df, my, sd, q⟩ := c hk
  refine ⟨S, n, df, my, sd, ?_⟩
  unfold RI1 at q ⊢
  rw [e5, e6, e68]; exact q
theorem SF.rs {h hh : mn_H} (f : SF h hh) (r : RS h) : RS hh := by
  unfold RS at r ⊢
  rw [f.row 11 (by decide), f.row 70 (by decide), f.row 71 (by decide), f.row 12 (by decide), f.row 13 (by decide), f.row 14 (by decide)]
  exact r
theorem SF.rx {h hh : mn_H} (f : SF h hh) (r : RX h) : RX hh := by
  unfold RX at r ⊢
  rw [f.row 1 (by decide), f.row 2 (by decide), f.row 64 (by decide), f.2 1 (by decide), f.2 9 (by decide)]
  exact r
theorem INV.sf {h hh : mn_H} (f : SF h hh) (i : INV h) : INV hh := by
  obtain ⟨T, S, n, df, my, sd, a, b, c, d⟩ := i
  exact ⟨T, S, n, df, my, sd, f.rn a, f.ri b, f.rs c, f.rx d⟩
/-- two calls that answer alike, and leave both sides alike -/
def PAIR (c m : Nat) (vs : List Value) : Prop := ∀ h, INV h → ∃ (r : Int32) (h1 h2 : mn_H), mn_X c (.ref 0 :: vs) h (some (.int r)) h1 ∧ mn_X m (.ref 63 :: vs) h1 (some (.int r)) h2 ∧ INV h2
theorem mn_rng (x : Int32) (n : Nat) (hn : n < 2 ^ 31) : (∃ j, j < n ∧ x = nI j) ∨ (x < 0 ∨ nI n ≤ x) := by
  rcases pk_ix x hn with a | a | a
  · exact Or.inr (Or.inl a)
  · exact Or.inr (Or.inr a)
  · exact Or.inl a
theorem in_true {n j : Nat} (hj : j < n) (hn : n < 2 ^ 31) : (decide (¬ nI j < 0) && decide (¬ nI n ≤ nI j)) = true := by
  simp [nI_pos (show j < 2 ^ 31 by omega), nI_ge hj hn]
theorem in_false {x : Int32} {n : Nat} (h : x < 0 ∨ nI n ≤ x) : (decide (¬ x < 0) && decide (¬ nI n ≤ x)) = false := by
  rcases h with a | a <;> simp [a]
section PQ
variable {h : mn_H}
theorem x_isDay_in {d : Nat} (hd : d < 64) : mn_X 99 [.int (nI d)] h (some (.int 1)) h := by
  have := x_X7_isDay (h := h) (nI d)
  rw [show (64 : Int32) = nI 64 from rfl, in_true hd (by decide)] at this
  exact this
theorem x_isDay_out {x : Int32} (hx : x < 0 ∨ nI 64 ≤ x) : mn_X 99 [.int x] h (some (.int 0)) h := by
  have := x_X7_isDay (h := h) x
  rw [show (64 : Int32) = nI 64 from rfl, in_false hx] at this
  exact this
theorem x_in_in {a b j : Nat} (ha : a ≤ j) (hj : j ≤ b) (hb : b < 2 ^ 31) : mn_X 114 [.int (nI j), .int (nI a), .int (nI b)] h (some (.int 1)) h := by
  have := x_X8_in (h := h) (nI j) (nI a) (nI b)
  rw [show (decide (¬ nI j < nI a) && decide (¬ nI b < nI j)) = true from by simp [nI_nlt ha (show j < 2 ^ 31 by omega), nI_nlt hj hb]] at this
  exact this
theorem x_in_out {x a b : Int32} (hx : x < a ∨ b < x) : mn_X 114 [.int x, .int a, .int b] h (some (.int 0)) h := by
  have := x_X8_in (h := h) x a b
  rw [show (decide (¬ x < a) && decide (¬ b < x)) = false from by rcases hx with q | q <;> simp [q]] at this
  exact this
end PQ
