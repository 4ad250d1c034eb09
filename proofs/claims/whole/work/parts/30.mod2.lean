/-- the model's town and what is so now -/
def MN (h : mn_H) (T : TW) (S : Nat → Nat) (n df my : Nat) : Prop := MT h T ∧ h 67 0 = nI n ∧ h 67 1 = nI df ∧ h 67 2 = nI my ∧ ∀ k, k ≤ n → h 67 (4 + k) = nI (S k)
/-- what the model tries with, and its row, may change; no more -/
def mdF (h hh : mn_H) : Prop := (∀ b, b ≠ 63 → b ≠ 72 → b ≠ 73 → hh b = h b) ∧ ∀ k, k < 13 → hh 63 k = h 63 k
theorem mdF.rf (h : mn_H) : mdF h h := ⟨fun _ _ _ _ => rfl, fun _ _ => rfl⟩
theorem mdF.tr {h h1 h2 : mn_H} (a : mdF h h1) (b : mdF h1 h2) : mdF h h2 := ⟨fun c x y z => (b.1 c x y z).trans (a.1 c x y z), fun k hk => (b.2 k hk).trans (a.2 k hk)⟩
theorem gtF.md {h hh : mn_H} (f : gtF h hh) : mdF h hh := ⟨fun b h1 h2 _ => f.1 b h1 h2, fun k hk => f.2 k (by omega)⟩
theorem mdF.up {h hh : mn_H} (f : mdF h hh) {k : Nat} (hk : 13 ≤ k) (x : Int32) : mdF h (mn_up hh 63 k x) := ⟨fun b h1 h2 h3 => by rw [mn_up_row _ _ _ _ h1]; exact f.1 b h1 h2 h3, fun j hj => by rw [mn_up_get, if_neg (fun z => by omega)]; exact f.2 j hj⟩
theorem MN.md {h hh : mn_H} {T : TW} {S : Nat → Nat} {n df my : Nat} (f : mdF h hh) (m : MN h T S n df my) : MN hh T S n df my := by
  obtain ⟨m1, m2, m3, m4, m5⟩ := m
  have e : hh 67 = h 67 := f.1 67 (by decide) (by decide) (by decide)
  exact ⟨MT_row (f.1 65 (by decide) (by decide) (by decide)) m1, by rw [e]; exact m2, by rw [e]; exact m3, by rw [e]; exact m4, by rw [e]; exact m5⟩
section MOD2
variable {h : mn_H} {T : TW} {S : Nat → Nat} {n df my : Nat}
theorem x_X8_harmOf (hm : MT h T) {d : Nat} (hd : d < 64) : mn_X 139 [.ref 63, .int (nI d)] h (some (.int (harmN T d))) h := by
  have ch := hm.2.2.2.2.2.2
  rw [e_X8_harmOf, b_X8_harmOf_0]
  refine mn_loopb (n := 6) (fun i => mn_E 139 4 [.ref 63, .int (nI d), .int (mn_sum (fun k => if d.testBit k then nI (T 17 k) - 50 else 0) i), .int (nI i)] [] h (some (.int (harmN T d))) h) ?_ ?_ (Nat.zero_le _)
  · rw [b_X8_harmOf_4, if_pos (show (6 : Int32) ≤ nI 6 from by decide), b_X8_harmOf_41]
    exact ⟨rfl, rfl⟩
  · intro i hi H
    have b1 := nq_bit1 (a := d) (k := i) (by omega) (by omega)
    have e : (89 : Int32) + nI i = nI (89 + i) := nI_add 89 i
    rw [mn_sum] at H
    rw [b_X8_harmOf_4, if_neg (show ¬ (6 : Int32) ≤ nI i from nI_ge (b := 6) hi (by decide)), b_X8_harmOf_10]
    by_cases o : d.testBit i = true
    · simp only [o, if_true] at H
      rw [if_neg (fun q => q (b1.mpr o)), b_X8_harmOf_20 (by rw [e]; exact vp_in_nI (by omega) (by decide)), e, nq_c _ (by omega), ch i hi, b_X8_harmOf_33, nI_1]
      exact H
    · simp only [o, if_false, Bool.false_eq_true] at H
      rw [if_pos (fun q => o (b1.mp q)), b_X8_harmOf_32, b_X8_harmOf_33, nI_1]
      exact H
theorem x_X8_yesterdayNow (m : MN h T S n df my) (hn : n ≤ 60) : mn_X 134 [.ref 63] h (some (.int (nI (S n)))) h := by
  obtain ⟨m1, m2, m3, m4, m5⟩ := m
  have e : (4 : Int32) + h 67 (0 : Int32).toNatClampNeg = nI (4 + n) := by rw [nl0, m2]; exact nI_add 4 n
  rw [e_X8_yesterdayNow, b_X8_yesterdayNow_0 (by rw [e]; exact vp_in_nI (by omega) (by decide)), e, nq_c _ (by omega), m5 n (Nat.le_refl _)]
  exact ⟨rfl, rfl⟩
theorem x_X8_trying (m : MN h T S n df my) (hn : n ≤ 60) : ∃ h', mn_X 141 [.ref 63] h none h' ∧ mdF h h' ∧ TRY h' df my 9 0 none (S n) n := by
  obtain ⟨h1, e1⟩ : ∃ h1, h1 = mn_up (mn_up (mn_up (mn_up (mn_up h 63 13 (h 67 (1 : Int32).toNatClampNeg)) 63 14 ((mn_up h 63 13 (h 67 (1 : Int32).toNatClampNeg)) 67 (2 : Int32).toNatClampNeg)) 63 15 (-1)) 63 16 0) 63 17 (-1) := ⟨_, rfl⟩
  have f1 : mdF h h1 := by
    rw [e1]
    exact (((((mdF.rf h).up (by omega) _).up (by omega) _).up (by omega) _).up (by omega) _).up (by omega) _
  have m1 := m.md f1
  have r67 : ∀ k (x : Int32) (g : mn_H), mn_up g 63 k x 67 = g 67 := fun k x g => mn_up_row _ _ _ _ (by decide)
  obtain ⟨a1, a2, a3, a4, a5⟩ := m
  refine ⟨mn_up (mn_up h1 63 19 (nI (S n))) 63 20 ((mn_up h1 63 19 (nI (S n))) 67 (0 : Int32).toNatClampNeg), ?_, (f1.up (by omega) _).up (by omega) _, ?_⟩
  · rw [e_X8_trying, b_X8_trying_0, ← e1, mn_cl_i (x_X8_yesterdayNow m1 hn), b_X8_trying_40]
    exact ⟨rfl, rfl⟩
  · rw [r67, nl0, m1.2.1, e1, r67, nl1, nl2, a3, a4]
    refine ⟨?_, ?_, ?_, ?_, ?_, (fun q hq => nomatch hq), ?_, ?_⟩ <;> simp only [mn_up_get] <;> rfl
end MOD2
theorem mn_row {σ : Type} {m : Nat} (E : Nat → σ → Prop) (A : Nat → σ) (hs : ∀ d, d < 64 → m.testBit d = true → E (mn_pop m d + 1) (A (d + 1)) → E (mn_pop m d) (A d)) (hA : ∀ d, d < 64 → m.testBit d = false → A (d + 1) = A d) (hx : E (mn_pop m 64) (A 64)) : E 0 (A 0) := by
  have key : ∀ k, k ≤ 64 → E (mn_pop m (64 - k)) (A (64 - k)) := by
    intro k
    induction k with
    | zero => intro _; exact hx
    | succ k ih =>
      intro hk
      have h1 := ih (by omega)
      have e : 64 - k = (64 - (k + 1)) + 1 := by omega
      rw [e, mn_pop_s1] at h1
      cases hb : m.testBit (64 - (k + 1)) with
      | true => rw [hb] at h1; exact hs _ (by omega) hb h1
      | false => rw [hb, hA _ (by omega) hb] at h1; exact h1
  exact key 64 (Nat.le_refl _)
/-- all or some of the days' happenings -/
def allN (m : Nat) : Nat → Nat
  | 0 => 63
  | d + 1 => if m.testBit d then allN m d &&& d else allN m d
def anyN (m : Nat) : Nat → Nat
  | 0 => 0
  | d + 1 => if m.testBit d then anyN m d ||| d else anyN m d
theorem allN_lt (m d : Nat) : allN m d < 64 := by
  induction d with
  | zero => show 63 < 64; decide
  | succ d ih => unfold allN; split
                 · exact Nat.lt_of_le_of_lt Nat.and_le_left ih
                 · exact ih
theorem anyN_lt (m : Nat) {d : Nat} (hd : d ≤ 64) : anyN m d < 64 := by
  induction d with
  | zero => show 0 < 64; decide
  | succ d ih => unfold anyN; split
                 · exact mn_or64 (ih (by omega)) (by omega)
                 · exact ih (by omega)
theorem mn_pop_lt {m d : Nat} (hd : d < 64) (hb : m.testBit d = true) : mn_pop m d < mn_pop m 64 := by
  have := mn_pop_mono m (show d + 1 ≤ 64 by omega)
  rw [mn_pop_s1, if_pos hb] at this
  omega
section MET
variable {h : mn_H} {m : Nat}
theorem x_met1 (hr : RW h m) : mn_X 153 [.ref 63, .int 1] h (some (.int (nI (allN m 64)))) h := by
  obtain ⟨r1, r2⟩ := hr
  have pl := mn_pop_le m 64
  rw [e_X8_met, b_X8_met_0, if_neg (show ¬ (1 : Int32) = 0 from by decide), b_X8_met_4, b_X8_met_10]
  refine mn_row (m := m) (fun k a => mn_E 153 13 [.ref 63, .int 1, .int (nI a), .int (nI k)] [] h (some (.int (nI (allN m 64)))) h) (allN m) ?_ ?_ ?_
  · intro d hd hb H
    have lt := mn_pop_lt hd hb
    have al := allN_lt m d
    rw [allN, if_pos hb] at H
    rw [b_X8_met_13, r1, if_neg (nI_ge lt (by omega)), b_X8_met_21, if_neg (show ¬ (1 : Int32) = 0 from by decide), b_X8_met_25 (vp_in_nI (by omega) (by decide)), nq_c _ (by omega), r2 d hd hb, b_X8_met_44, nI_1, nq_and (by omega) (by omega)]
    exact H
  · intro d hd hb
    rw [allN, hb]; rfl
  · rw [b_X8_met_13, r1, if_pos (nI_le (Nat.le_refl _) (by omega)), b_X8_met_51]
    exact ⟨rfl, rfl⟩
theorem x_met0 (hr : RW h m) : mn_X 153 [.ref 63, .int 0] h (some (.int (nI (anyN m 64)))) h := by
  obtain ⟨r1, r2⟩ := hr
  have pl := mn_pop_le m 64
  rw [e_X8_met, b_X8_met_0, if_pos rfl, b_X8_met_9, b_X8_met_10]
  refine mn_row (m := m) (fun k a => mn_E 153 13 [.ref 63, .int 0, .int (nI a), .int (nI k)] [] h (some (.int (nI (anyN m 64)))) h) (anyN m) ?_ ?_ ?_
  · intro d hd hb H
    have lt := mn_pop_lt hd hb
    have al := anyN_lt m (show d ≤ 64 by omega)
    rw [anyN, if_pos hb] at H
    rw [b_X8_met_13, r1, if_neg (nI_ge lt (by omega)), b_X8_met_21, if_pos rfl, b_X8_met_36 (vp_in_nI (by omega) (by decide)), nq_c _ (by omega), r2 d hd hb, b_X8_met_44, nI_1, nq_or (by omega) (by omega)]
    exact H
  · intro d hd hb
    rw [anyN, hb]; rfl
  · rw [b_X8_met_13, r1, if_pos (nI_le (Nat.le_refl _) (by omega)), b_X8_met_51]
    exact ⟨rfl, rfl⟩
theorem x_days (hr : RW h m) {k : Nat} (hk : k < 6) : mn_X 172 [.ref 63, .int (nI k)] h (some (.int (nI (tcN m k)))) h := by
  obtain ⟨r1, r2⟩ := hr
  have pl := mn_pop_le m 64
  rw [e_X8_days, b_X8_days_0]
  refine mn_row (m := m) (fun j a => mn_E 172 4 [.ref 63, .int (nI k), .int (nI a), .int (nI j)] [] h (some (.int (nI (tcN m k)))) h) (mn_nsum (fun d => if m.testBit d && d.testBit k then 1 else 0)) ?_ ?_ ?_
  · intro d hd hb H
    have lt := mn_pop_lt hd hb
    rw [mn_nsum, hb, Bool.true_and] at H
    rw [b_X8_days_4, r1, if_neg (nI_ge lt (by omega)), b_X8_days_12 (vp_in_nI (by omega) (by decide)), nq_c _ (by omega), r2 d hd hb, nI_1, nq_bit (by omega) (by omega), nq_tst, nI_add]
    exact H
  · intro d hd hb
    rw [mn_nsum, hb]; rfl
  · rw [b_X8_days_4, r1, if_pos (nI_le (Nat.le_refl _) (by omega)), b_X8_days_31]
    exact ⟨rfl, rfl⟩
theorem allN_test (m k : Nat) (hk : k < 6) : ∀ d, (allN m d).testBit k = (List.range d).all (fun x => !m.testBit x || x.testBit k) := by
  intro d
  induction d with
  | zero => have : ∀ k, k < 6 → (63 : Nat).testBit k = true := by decide
            simpa [allN] using this k hk
  | succ d ih =>
    rw [List.range_succ, List.all_append, ← ih, allN]
    cases hb : m.testBit d <;> simp [hb]
theorem allN_on (m : Nat) : allN m 64 = onAN m := by
  apply Nat.eq_of_testBit_eq
  intro k
  unfold onAN
  rw [mn_bits_test]
  by_cases hk : k < 6
  · rw [allN_test m k hk]; simp [hk, alN]
  · rw [Nat.testBit_lt_two_pow (Nat.lt_of_lt_of_le (allN_lt m 64) (show 2 ^ 6 ≤ 2 ^ k from Nat.pow_le_pow_right (by decide) (by omega)))]
    simp [hk]
theorem anyN_test (m k : Nat) : ∀ d, (anyN m d).testBit k = (List.range d).any (fun x => m.testBit x && x.testBit k) := by
  intro d
  induction d with
  | zero => simp [anyN]
  | succ d ih =>
    rw [mn_any_succ, ← ih, anyN]
    cases hb : m.testBit d <;> simp [hb]
theorem tcN_0 (m k : Nat) : tcN m k = 0 ↔ (anyN m 64).testBit k = false := by
  rw [anyN_test]
  unfold tcN
  have : ∀ n, (mn_nsum (fun d => if m.testBit d && d.testBit k then 1 else 0) n = 0 ↔ (List.range n).any (fun x => m.testBit x && x.testBit k) = false) := by
    intro n
    induction n with
    | zero => simp [mn_nsum]
    | succ n ih =>
      rw [mn_nsum, mn_any_succ]
      cases hb : (m.testBit n && n.testBit k) with
      | true => simp
      | false => rw [Bool.or_false, ← ih]; exact Iff.rfl
  exact this 64
theorem anyN_on (m : Nat) : nI 63 - nI (anyN m 64) = nI (onNN m) := by
  have al := anyN_lt m (Nat.le_refl 64)
  rw [pk_sub (by omega)]
  congr 1
  have e : 63 - anyN m 64 = 63 ^^^ anyN m 64 := by
    have : ∀ a, a < 64 → 63 - a = 63 ^^^ a := by decide
    exact this _ al
  rw [e]
  apply Nat.eq_of_testBit_eq
  intro k
  unfold onNN
  rw [mn_bits_test, Nat.testBit_xor]
  by_cases hk : k < 6
  · have h63 : ∀ k, k < 6 → (63 : Nat).testBit k = true := by decide
    rw [h63 k hk]
    have := tcN_0 m k
    cases hb : (anyN m 64).testBit k with
    | true => simp [hk, this, hb]
    | false => simp [hk, this, hb]
  · rw [Nat.testBit_lt_two_pow (Nat.lt_of_lt_of_le al (show 2 ^ 6 ≤ 2 ^ k from Nat.pow_le_pow_right (by decide) (by omega))), Nat.testBit_lt_two_pow (Nat.lt_of_lt_of_le (show 63 < 64 by decide) (show 2 ^ 6 ≤ 2 ^ k from Nat.pow_le_pow_right (by decide) (by omega)))]
    simp [hk]
end MET
