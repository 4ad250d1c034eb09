/-- which count a field of a town belongs to; where counts and fields lie -/
def twg (a : Nat) : Nat := if a ≤ 3 then 0 else if a ≤ 7 then 1 else if a ≤ 10 then 2 else if a ≤ 13 then 3 else 4
def mxG (c : Nat) : Nat := if c = 0 then 5 else if c = 1 then 6 else if c = 2 then 8 else if c = 3 then 4 else 3
def clR (c : Nat) : Nat := if c = 2 then 8 else if c = 3 then 12 else 0
def clS (c : Nat) : Nat := if c = 0 then 0 else if c = 1 then 4 else if c = 2 then 3 else if c = 3 then 3 else 11
def flC (a : Nat) : Nat := if a ≤ 7 then a else if a ≤ 10 then a + 1 else a + 2
def flM (a b : Nat) : Nat := if a ≤ 3 then 5 + 3 * b + (a - 1) else if a ≤ 7 then 20 + 4 * b + (a - 4) else if a ≤ 10 then 44 + 3 * b + (a - 8) else if a ≤ 13 then 68 + 3 * b + (a - 11) else 80 + 3 * b + (a - 14)
def loF (a : Nat) : Nat := if a = 4 ∨ a = 10 ∨ a = 13 ∨ a = 15 then 1 else 0
def hiF (a : Nat) : Nat := if a = 1 ∨ a = 5 then 4 else if a = 4 then 99 else if a = 6 ∨ a = 7 then 6 else if a = 10 ∨ a = 13 then 999 else if a = 15 then 12 else if a = 16 then 11 else 5
def GC (h : mn_H) (t : Nat) (T : TW) : Prop := (∀ c, c < 5 → h (t + clR c) (clS c) = nI (T 0 c)) ∧ (∀ a, 1 ≤ a → a ≤ 16 → ∀ b, b < T 0 (twg a) → h (t + flC a) b = nI (T a b)) ∧ ∀ k, k < 6 → h (t + 19) k = nI (T 17 k) - 50
def GM (f : Nat → Int32) (T : TW) : Prop := (∀ c, c < 5 → f c = nI (T 0 c)) ∧ (∀ a, 1 ≤ a → a ≤ 16 → ∀ b, b < T 0 (twg a) → f (flM a b) = nI (T a b)) ∧ ∀ k, k < 6 → f (89 + k) = nI (T 17 k) - 50
def TW2 (T : TW) : Prop := (∀ c, c < 5 → T 0 c ≤ mxG c) ∧ (∀ a, 1 ≤ a → a ≤ 16 → ∀ b, b < T 0 (twg a) → loF a ≤ T a b ∧ T a b ≤ hiF a) ∧ (∀ g, g < T 0 1 → T 5 g < T 0 0) ∧ ∀ k, k < 6 → T 17 k ≤ 99
def twA (T : TW) (c : Nat) (v : Nat → Nat) : TW := fun a b => if a = 0 then (if b = c then T 0 c + 1 else T 0 b) else if a ≤ 16 ∧ twg a = c ∧ b = T 0 c then v a else T a b
def twH (T : TW) (k v : Nat) : TW := fun a b => if a = 17 ∧ b = k then v else T a b
def tw0 : TW := fun a _ => if a = 17 then 51 else 0
section TAB
variable {h hh : mn_H} {t : Nat} {T : TW} {f f' : Nat → Int32}
theorem GC.ct (g : GC h t T) : CT h t T := by
  obtain ⟨g1, g2, g3⟩ := g
  exact ⟨⟨g1 0 (by decide), g1 1 (by decide), g1 2 (by decide), g1 3 (by decide), g1 4 (by decide)⟩,
    fun b hb => ⟨g2 1 (by decide) (by decide) b hb, g2 2 (by decide) (by decide) b hb, g2 3 (by decide) (by decide) b hb⟩,
    fun b hb => ⟨g2 4 (by decide) (by decide) b hb, g2 5 (by decide) (by decide) b hb, g2 6 (by decide) (by decide) b hb, g2 7 (by decide) (by decide) b hb⟩,
    fun b hb => ⟨g2 8 (by decide) (by decide) b hb, g2 9 (by decide) (by decide) b hb, g2 10 (by decide) (by decide) b hb⟩,
    fun b hb => ⟨g2 11 (by decide) (by decide) b hb, g2 12 (by decide) (by decide) b hb, g2 13 (by decide) (by decide) b hb⟩,
    fun b hb => ⟨g2 14 (by decide) (by decide) b hb, g2 15 (by decide) (by decide) b hb, g2 16 (by decide) (by decide) b hb⟩, g3⟩
theorem GM.mt (g : GM (h 65) T) : MT h T := by
  obtain ⟨g1, g2, g3⟩ := g
  exact ⟨⟨g1 0 (by decide), g1 1 (by decide), g1 2 (by decide), g1 3 (by decide), g1 4 (by decide)⟩,
    fun b hb => ⟨g2 1 (by decide) (by decide) b hb, g2 2 (by decide) (by decide) b hb, g2 3 (by decide) (by decide) b hb⟩,
    fun b hb => ⟨g2 4 (by decide) (by decide) b hb, g2 5 (by decide) (by decide) b hb, g2 6 (by decide) (by decide) b hb, g2 7 (by decide) (by decide) b hb⟩,
    fun b hb => ⟨g2 8 (by decide) (by decide) b hb, g2 9 (by decide) (by decide) b hb, g2 10 (by decide) (by decide) b hb⟩,
    fun b hb => ⟨g2 11 (by decide) (by decide) b hb, g2 12 (by decide) (by decide) b hb, g2 13 (by decide) (by decide) b hb⟩,
    fun b hb => ⟨g2 14 (by decide) (by decide) b hb, g2 15 (by decide) (by decide) b hb, g2 16 (by decide) (by decide) b hb⟩, g3⟩
theorem TW2.wf (g : TW2 T) : TWF T := by
  obtain ⟨g1, g2, g3, g4⟩ := g
  have q := fun a (h1 : 1 ≤ a) (h2 : a ≤ 16) b (hb : b < T 0 (twg a)) => g2 a h1 h2 b hb
  refine ⟨⟨g1 0 (by decide), g1 1 (by decide), g1 2 (by decide), g1 3 (by decide), g1 4 (by decide)⟩, fun b hb => ?_, fun b hb => ?_, fun b hb => ?_, fun b hb => ?_, fun b hb => ?_, g4⟩
  · exact ⟨Nat.lt_succ_of_le (q 1 (by decide) (by decide) b hb).2, Nat.lt_succ_of_le (q 2 (by decide) (by decide) b hb).2, Nat.lt_succ_of_le (q 3 (by decide) (by decide) b hb).2⟩
  · exact ⟨(q 4 (by decide) (by decide) b hb).1, (q 4 (by decide) (by decide) b hb).2, g3 b hb, (q 6 (by decide) (by decide) b hb).2, (q 7 (by decide) (by decide) b hb).2⟩
  · exact ⟨Nat.lt_succ_of_le (q 8 (by decide) (by decide) b hb).2, Nat.lt_succ_of_le (q 9 (by decide) (by decide) b hb).2, (q 10 (by decide) (by decide) b hb).1, (q 10 (by decide) (by decide) b hb).2⟩
  · exact ⟨Nat.lt_succ_of_le (q 11 (by decide) (by decide) b hb).2, Nat.lt_succ_of_le (q 12 (by decide) (by decide) b hb).2, (q 13 (by decide) (by decide) b hb).1, (q 13 (by decide) (by decide) b hb).2⟩
  · exact ⟨Nat.lt_succ_of_le (q 14 (by decide) (by decide) b hb).2, (q 15 (by decide) (by decide) b hb).1, (q 15 (by decide) (by decide) b hb).2, (q 16 (by decide) (by decide) b hb).2⟩
theorem twg_lt (a : Nat) : twg a < 5 := by unfold twg; repeat' split
                                           all_goals omega
theorem flC_inj {a b : Nat} (e : flC a = flC b) : a = b := by
  unfold flC at e
  repeat' split at e
  all_goals omega
theorem flC_cl {a c : Nat} (h1 : 1 ≤ a) (h2 : a ≤ 16) : flC a ≠ clR c ∧ flC a ≠ 19 := by
  unfold flC clR
  constructor
  · repeat' split
    all_goals omega
  · repeat' split
    all_goals omega
theorem clRS {c d : Nat} (hc : c < 5) (hd : d < 5) (e1 : clR c = clR d) (e2 : clS c = clS d) : c = d := by
  have : ∀ c, c < 5 → ∀ d, d < 5 → clR c = clR d → clS c = clS d → c = d := by decide
  exact this c hc d hd e1 e2
theorem clR_19 (c : Nat) : clR c ≠ 19 := by unfold clR; repeat' split
                                            all_goals omega
theorem GC.add (g : GC h t T) {c n : Nat} {v : Nat → Nat} (hc : c < 5) (hn : T 0 c = n) (P1 : hh (t + clR c) (clS c) = nI (n + 1)) (P2 : ∀ a, 1 ≤ a → a ≤ 16 → twg a = c → hh (t + flC a) n = nI (v a)) (P0 : ∀ b j, ¬ (b = t + clR c ∧ j = clS c) → (∀ a, 1 ≤ a → a ≤ 16 → twg a = c → ¬ (b = t + flC a ∧ j = n)) → hh b j = h b j) : GC hh t (twA T c v) := by
  obtain ⟨g1, g2, g3⟩ := g
  refine ⟨fun d hd => ?_, fun a h1 h2 b hb => ?_, fun k hk => ?_⟩
  · show _ = nI (if d = c then T 0 c + 1 else T 0 d)
    by_cases o : d = c
    · subst o; rw [if_pos rfl, P1, hn]
    · rw [if_neg o, P0 _ _ (fun z => o (clRS hd hc (by omega) z.2)) (fun a h1 h2 _ z => (flC_cl (c := d) h1 h2).1 (by have := z.1; omega)), g1 d hd]
  · have e : twA T c v a b = if a ≤ 16 ∧ twg a = c ∧ b = T 0 c then v a else T a b := by unfold twA; rw [if_neg (by omega)]
    have eb : twA T c v 0 (twg a) = if twg a = c then T 0 c + 1 else T 0 (twg a) := rfl
    rw [eb] at hb
    rw [e]
    by_cases o : twg a = c ∧ b = n
    · rw [if_pos ⟨h2, o.1, by rw [hn]; exact o.2⟩, o.2]; exact P2 a h1 h2 o.1
    · have hb' : b < T 0 (twg a) := by
        by_cases q : twg a = c
        · rw [if_pos q] at hb; rw [q]
          have : b ≠ n := fun z => o ⟨q, z⟩
          omega
        · rw [if_neg q] at hb; exact hb
      rw [if_neg (fun z => o ⟨z.2.1, by rw [← hn]; exact z.2.2⟩), P0 _ _ (fun z => (flC_cl (c := c) h1 h2).1 (by have := z.1; omega)) (fun a' q1 q2 q3 z => ?_), g2 a h1 h2 b hb']
      have := flC_inj (a := a) (b := a') (by have := z.1; omega)
      subst this
      exact o ⟨q3, z.2⟩
  · have e : twA T c v 17 k = T 17 k := by unfold twA; rw [if_neg (by decide), if_neg (fun z => absurd z.1 (by decide))]
    rw [e, P0 _ _ (fun z => clR_19 c (by have := z.1; omega)) (fun a h1 h2 _ z => (flC_cl (c := c) h1 h2).2 (by have := z.1; omega)), g3 k hk]
theorem flM_5 (a b : Nat) : 5 ≤ flM a b := by unfold flM; repeat' split
                                              all_goals omega
theorem flM_89 {a b : Nat} (h2 : a ≤ 16) (hb : b < mxG (twg a)) : flM a b < 89 := by
  unfold mxG twg at hb
  unfold flM
  repeat' split
  all_goals (repeat' split at hb)
  all_goals omega
theorem flM_inj {a b a' n : Nat} (h1 : 1 ≤ a) (h2 : a ≤ 16) (h1' : 1 ≤ a') (h2' : a' ≤ 16) (hb : b < mxG (twg a)) (hn : n < mxG (twg a')) (e : flM a b = flM a' n) : a = a' ∧ b = n := by
  have ca : (a ≤ 3 ∧ b < 5 ∧ flM a b = 5 + 3 * b + (a - 1)) ∨ (4 ≤ a ∧ a ≤ 7 ∧ b < 6 ∧ flM a b = 20 + 4 * b + (a - 4)) ∨ (8 ≤ a ∧ a ≤ 10 ∧ b < 8 ∧ flM a b = 44 + 3 * b + (a - 8)) ∨ (11 ≤ a ∧ a ≤ 13 ∧ b < 4 ∧ flM a b = 68 + 3 * b + (a - 11)) ∨ (14 ≤ a ∧ b < 3 ∧ flM a b = 80 + 3 * b + (a - 14)) := by
    unfold mxG twg at hb
    unfold flM
    by_cases q1 : a ≤ 3
    · rw [if_pos q1] at hb ⊢; left; exact ⟨q1, hb, rfl⟩
    · rw [if_neg q1] at hb ⊢; right
      by_cases q2 : a ≤ 7
      · rw [if_pos q2] at hb ⊢; left; exact ⟨by omega, q2, hb, rfl⟩
      · rw [if_neg q2] at hb ⊢; right
        by_cases q3 : a ≤ 10
        · rw [if_pos q3] at hb ⊢; left; exact ⟨by omega, q3, hb, rfl⟩
        · rw [if_neg q3] at hb ⊢; right
          by_cases q4 : a ≤ 13
          · rw [if_pos q4] at hb ⊢; left; exact ⟨by omega, q4, hb, rfl⟩
          · rw [if_neg q4] at hb ⊢; right; exact ⟨by omega, hb, rfl⟩
  have cb : (a' ≤ 3 ∧ n < 5 ∧ flM a' n = 5 + 3 * n + (a' - 1)) ∨ (4 ≤ a' ∧ a' ≤ 7 ∧ n < 6 ∧ flM a' n = 20 + 4 * n + (a' - 4)) ∨ (8 ≤ a' ∧ a' ≤ 10 ∧ n < 8 ∧ flM a' n = 44 + 3 * n + (a' - 8)) ∨ (11 ≤ a' ∧ a' ≤ 13 ∧ n < 4 ∧ flM a' n = 68 + 3 * n + (a' - 11)) ∨ (14 ≤ a' ∧ n < 3 ∧ flM a' n = 80 + 3 * n + (a' - 14)) := by
    unfold mxG twg at hn
    unfold flM
    by_cases q1 : a' ≤ 3
    · rw [if_pos q1] at hn ⊢; left; exact ⟨q1, hn, rfl⟩
    · rw [if_neg q1] at hn ⊢; right
      by_cases q2 : a' ≤ 7
      · rw [if_pos q2] at hn ⊢; left; exact ⟨by omega, q2, hn, rfl⟩
      · rw [if_neg q2] at hn ⊢; right
        by_cases q3 : a' ≤ 10
        · rw [if_pos q3] at hn ⊢; left; exact ⟨by omega, q3, hn, rfl⟩
        · rw [if_neg q3] at hn ⊢; right
          by_cases q4 : a' ≤ 13
          · rw [if_pos q4] at hn ⊢; left; exact ⟨by omega, q4, hn, rfl⟩
          · rw [if_neg q4] at hn ⊢; right; exact ⟨by omega, hn, rfl⟩
  rcases ca with ca | ca | ca | ca | ca <;> rcases cb with cb | cb | cb | cb | cb <;> omega
theorem GM.add (g : GM f T) (w : TW2 T) {c n : Nat} {v : Nat → Nat} (hc : c < 5) (hn : T 0 c = n) (hm : n < mxG c) (P1 : f' c = nI (n + 1)) (P2 : ∀ a, 1 ≤ a → a ≤ 16 → twg a = c → f' (flM a n) = nI (v a)) (P0 : ∀ j, j ≠ c → (∀ a, 1 ≤ a → a ≤ 16 → twg a = c → j ≠ flM a n) → f' j = f j) : GM f' (twA T c v) := by
  obtain ⟨g1, g2, g3⟩ := g
  refine ⟨fun d hd => ?_, fun a h1 h2 b hb => ?_, fun k hk => ?_⟩
  · show _ = nI (if d = c then T 0 c + 1 else T 0 d)
    by_cases o : d = c
    · subst o; rw [if_pos rfl, P1, hn]
    · rw [if_neg o, P0 _ o (fun a h1 h2 _ z => by have := flM_5 a n; omega), g1 d hd]
  · have e : twA T c v a b = if a ≤ 16 ∧ twg a = c ∧ b = T 0 c then v a else T a b := by unfold twA; rw [if_neg (by omega)]
    have eb : twA T c v 0 (twg a) = if twg a = c then T 0 c + 1 else T 0 (twg a) := rfl
    rw [eb] at hb
    rw [e]
    by_cases o : twg a = c ∧ b = n
    · rw [if_pos ⟨h2, o.1, by rw [hn]; exact o.2⟩, o.2]; exact P2 a h1 h2 o.1
    · have hb' : b < T 0 (twg a) := by
        by_cases q : twg a = c
        · rw [if_pos q] at hb; rw [q]
          have : b ≠ n := fun z => o ⟨q, z⟩
          omega
        · rw [if_neg q] at hb; exact hb
      have wb := w.1 (twg a) (twg_lt a)
      rw [if_neg (fun z => o ⟨z.2.1, by rw [← hn]; exact z.2.2⟩), P0 _ (by have := flM_5 a b; omega) (fun a' q1 q2 q3 z => ?_), g2 a h1 h2 b hb']
      obtain ⟨e1, e2⟩ := flM_inj h1 h2 q1 q2 (by omega) (by rw [q3]; exact hm) z
      subst e1
      exact o ⟨q3, e2⟩
  · have e : twA T c v 17 k = T 17 k := by unfold twA; rw [if_neg (by decide), if_neg (fun z => absurd z.1 (by decide))]
    rw [e, P0 _ (by omega) (fun a h1 h2 q z => by have := flM_89 (a := a) (b := n) h2 (by rw [q]; exact hm); omega), g3 k hk]
theorem TW2.add (g : TW2 T) {c n : Nat} {v : Nat → Nat} (hc : c < 5) (hn : T 0 c = n) (hm : n < mxG c) (hv : ∀ a, 1 ≤ a → a ≤ 16 → twg a = c → loF a ≤ v a ∧ v a ≤ hiF a) (h5 : c = 1 → v 5 < T 0 0) : TW2 (twA T c v) := by
  obtain ⟨g1, g2, g3, g4⟩ := g
  have e : ∀ a b, 1 ≤ a → twA T c v a b = if a ≤ 16 ∧ twg a = c ∧ b = T 0 c then v a else T a b := fun a b h1 => by unfold twA; rw [if_neg (by omega)]
  have e0 : ∀ d, twA T c v 0 d = if d = c then T 0 c + 1 else T 0 d := fun d => rfl
  have bb : ∀ a b, b < twA T c v 0 (twg a) → ¬ (twg a = c ∧ b = n) → b < T 0 (twg a) := fun a b hb o => by
    rw [e0] at hb
    by_cases q : twg a = c
    · rw [if_pos q] at hb; rw [q]
      have : b ≠ n := fun z => o ⟨q, z⟩
      omega
    · rw [if_neg q] at hb; exact hb
  refine ⟨fun d hd => ?_, fun a h1 h2 b hb => ?_, fun b hb => ?_, fun k hk => ?_⟩
  · rw [e0]
    by_cases o : d = c
    · subst o; rw [if_pos rfl]; omega
    · rw [if_neg o]; exact g1 d hd
  · rw [e a b h1]
    by_cases o : twg a = c ∧ b = n
    · rw [if_pos ⟨h2, o.1, by rw [hn]; exact o.2⟩]; exact hv a h1 h2 o.1
    · rw [if_neg (fun z => o ⟨z.2.1, by rw [← hn]; exact z.2.2⟩)]; exact g2 a h1 h2 b (bb a b hb o)
  · have l0 : T 0 0 ≤ twA T c v 0 0 := by
      rw [e0]; split
      · rename_i q; rw [← q]; omega
      · exact Nat.le_refl _
    rw [e 5 b (by decide)]
    by_cases o : twg 5 = c ∧ b = n
    · rw [if_pos ⟨by decide, o.1, by rw [hn]; exact o.2⟩]; exact Nat.lt_of_lt_of_le (h5 o.1.symm) l0
    · rw [if_neg (fun z => o ⟨z.2.1, by rw [← hn]; exact z.2.2⟩)]
      exact Nat.lt_of_lt_of_le (g3 b (bb 5 b hb o)) l0
  · rw [e 17 k (by decide), if_neg (fun z => absurd z.1 (by decide))]; exact g4 k hk
theorem twH_ne {k v a b : Nat} (ha : a ≠ 17) : twH T k v a b = T a b := by unfold twH; rw [if_neg (fun z => ha z.1)]
theorem GC.harm (g : GC h t T) {k v : Nat} (P0 : ∀ b, b ≠ t + 19 → ∀ j, ¬ (b = t ∧ j = 16) → hh b j = h b j) (P1 : ∀ j, hh (t + 19) j = if j = k then nI v - 50 else h (t + 19) j) : GC hh t (twH T k v) := by
  obtain ⟨g1, g2, g3⟩ := g
  refine ⟨fun d hd => ?_, fun a h1 h2 b hb => ?_, fun j hj => ?_⟩
  · rw [twH_ne (by decide), P0 _ (fun z => clR_19 d (by omega)) _ (fun z => by
      have : ∀ d, d < 5 → clS d ≠ 16 := by decide
      exact this d hd z.2)]
    exact g1 d hd
  · rw [twH_ne (by decide)] at hb
    rw [twH_ne (by omega), P0 _ (fun z => (flC_cl (c := 0) h1 h2).2 (by omega)) _ (fun z => (flC_cl (c := 0) h1 h2).1 (by show flC a = 0; have := z.1; omega))]
    exact g2 a h1 h2 b hb
  · rw [P1]
    unfold twH
    by_cases o : j = k
    · rw [if_pos o, if_pos ⟨rfl, o⟩]
    · rw [if_neg o, if_neg (fun z => o z.2)]; exact g3 j hj
theorem GM.harm (g : GM f T) (w : TW2 T) {k v : Nat} (P0 : ∀ j, j ≠ 89 + k → j ≠ 95 → f' j = f j) (hk : k < 6) (P1 : f' (89 + k) = nI v - 50) : GM f' (twH T k v) := by
  obtain ⟨g1, g2, g3⟩ := g
  refine ⟨fun d hd => ?_, fun a h1 h2 b hb => ?_, fun j hj => ?_⟩
  · rw [twH_ne (by decide), P0 _ (by omega) (by omega)]; exact g1 d hd
  · rw [twH_ne (by decide)] at hb
    have wb := w.1 (twg a) (twg_lt a)
    have := flM_89 (a := a) (b := b) h2 (by omega)
    rw [twH_ne (by omega), P0 _ (by omega) (by omega)]; exact g2 a h1 h2 b hb
  · unfold twH
    by_cases o : j = k
    · rw [if_pos ⟨rfl, o⟩, o]; exact P1
    · rw [if_neg (fun z => o z.2), P0 _ (by omega) (by omega)]; exact g3 j hj
theorem TW2.harm (g : TW2 T) {k v : Nat} (hv : v ≤ 99) : TW2 (twH T k v) := by
  obtain ⟨g1, g2, g3, g4⟩ := g
  refine ⟨fun d hd => by rw [twH_ne (by decide)]; exact g1 d hd, fun a h1 h2 b hb => ?_, fun b hb => ?_, fun j hj => ?_⟩
  · rw [twH_ne (by decide)] at hb; rw [twH_ne (by omega)]; exact g2 a h1 h2 b hb
  · rw [twH_ne (by decide)] at hb; rw [twH_ne (by decide), twH_ne (by decide)]; exact g3 b hb
  · unfold twH; split
    · exact hv
    · exact g4 j hj
theorem TW2.init : TW2 tw0 := by
  refine ⟨fun c _ => Nat.zero_le _, fun a _ _ b hb => absurd hb (Nat.not_lt_zero _), fun b hb => absurd hb (Nat.not_lt_zero _), fun k _ => ?_⟩
  show 51 ≤ 99; decide
end TAB
