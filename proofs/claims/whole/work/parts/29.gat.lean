/-- only the row of days and its length change -/
def gtF (h hh : mn_H) : Prop := (∀ b, b ≠ 63 → b ≠ 72 → hh b = h b) ∧ ∀ k, k ≠ 22 → hh 63 k = h 63 k
theorem gtF.rf (h : mn_H) : gtF h h := ⟨fun _ _ _ => rfl, fun _ _ => rfl⟩
theorem gtF.up72 {h hh : mn_H} (f : gtF h hh) (k : Nat) (x : Int32) : gtF h (mn_up hh 72 k x) := ⟨fun b h1 h2 => by rw [mn_up_row _ _ _ _ h2]; exact f.1 b h1 h2, fun j hj => by rw [mn_up_row _ _ _ _ (by decide)]; exact f.2 j hj⟩
theorem gtF.up22 {h hh : mn_H} (f : gtF h hh) (x : Int32) : gtF h (mn_up hh 63 22 x) := ⟨fun b h1 h2 => by rw [mn_up_row _ _ _ _ h1]; exact f.1 b h1 h2, fun j hj => by rw [mn_up_get, if_neg (fun z => hj z.2)]; exact f.2 j hj⟩
theorem MT_row {h hh : mn_H} {T : TW} (e : hh 65 = h 65) (m : MT h T) : MT hh T := by
  unfold MT at m ⊢
  rw [e]; exact m
theorem gtF.try {h hh : mn_H} {df my gr mo y n : Nat} {wl : Option (Nat × Nat)} (f : gtF h hh) (t : TRY h df my gr mo wl y n) : TRY hh df my gr mo wl y n := by
  obtain ⟨t1, t2, t3, t4, t5, t6, t7, t8⟩ := t
  exact ⟨by rw [f.2 _ (by decide)]; exact t1, by rw [f.2 _ (by decide)]; exact t2, by rw [f.2 _ (by decide)]; exact t3, by rw [f.2 _ (by decide)]; exact t4, by rw [f.2 _ (by decide)]; exact t5, fun q hq => by rw [f.2 _ (by decide)]; exact t6 q hq, by rw [f.2 _ (by decide)]; exact t7, by rw [f.2 _ (by decide)]; exact t8⟩
/-- the row holds the days of m, in their order -/
def RW (h : mn_H) (m : Nat) : Prop := h 63 22 = nI (mn_pop m 64) ∧ ∀ d, d < 64 → m.testBit d = true → h 72 (mn_pop m d) = nI d
section GAT
variable {h : mn_H} {T : TW} {df my gr mo y n : Nat} {wl : Option (Nat × Nat)}
theorem fitM_test {d : Nat} (hd : d < 64) : (fitM T df my gr mo n y wl).testBit d = decide (cmN T df my gr mo n (wrN T y wl d) = d) := by
  unfold fitM; rw [mn_bits_test]; simp [hd]
theorem x_X8_fits (hm : MT h T) (hw : TWF T) (ht : TRY h df my gr mo wl y n) (ho : wOk T wl) (hdf : df < 64) (hmy : my < 64) (hmo : mo ≤ 999) (hn : n < 2 ^ 30) (hy : y < 64) : mn_X 146 [.ref 63] h (some (.int (nI (mn_pop (fitM T df my gr mo n y wl) 64)))) h := by
  have p5 := mn_pw5 hw
  rw [e_X8_fits, b_X8_fits_0]
  refine mn_loopb (n := 64) (fun i => mn_E 146 4 [.ref 63, .int (nI (mn_pop (fitM T df my gr mo n y wl) i)), .int (nI i)] [] h (some (.int (nI (mn_pop (fitM T df my gr mo n y wl) 64)))) h) ?_ ?_ (Nat.zero_le _)
  · rw [b_X8_fits_4, if_pos (show (64 : Int32) ≤ nI 64 from by decide), b_X8_fits_37]
    exact ⟨rfl, rfl⟩
  · intro i hi H
    have wl2 := wrN_lt hw ho y i
    have cl := cmN_lt T df my gr mo n (wrN T y wl i)
    rw [mn_pop_s1, fitM_test hi] at H
    rw [b_X8_fits_4, if_neg (show ¬ (64 : Int32) ≤ nI i from nI_ge (b := 64) hi (by decide)), b_X8_fits_10, mn_cl_i (x_X8_ringOf hm hw ht ho hy hi), b_X8_fits_17, mn_cl_i (x_X8_comesBy hm hw ht hdf hmy hmo hn (by omega)), b_X8_fits_20]
    by_cases o : cmN T df my gr mo n (wrN T y wl i) = i
    · rw [if_pos (decide_eq_true o)] at H
      rw [if_neg (fun z => z (by rw [o])), b_X8_fits_24, b_X8_fits_29, nI_1, nI_1]
      exact H
    · rw [if_neg (by simpa using o)] at H
      rw [if_pos (fun z => o ((nI_eq (by omega) (by omega)).mp z)), b_X8_fits_28, b_X8_fits_29, nI_1, show (0 : Int32) = nI 0 from rfl, nI_add]
      exact H
theorem mn_pop_2k (c : Nat) : ∀ n, mn_pop (2 ^ c) n = if c < n then 1 else 0 := by
  intro n
  induction n with
  | zero => rfl
  | succ n ih =>
    rw [mn_pop_s1, ih, Nat.testBit_two_pow]
    by_cases h1 : c = n
    · subst h1; simp
    · by_cases h2 : c < n
      · simp [h2, h1, Nat.lt_succ_of_lt h2]
      · simp [h2, h1, show ¬ c < n + 1 by omega]
theorem mn_pop_0 {m : Nat} : ∀ n, mn_pop m n = 0 → ∀ d, d < n → m.testBit d = false := by
  intro n
  induction n with
  | zero => intro _ d hd; omega
  | succ n ih =>
    intro e d hd
    rw [mn_pop_s1] at e
    rcases Nat.lt_or_ge d n with h1 | h1
    · exact ih (by omega) d h1
    · have : d = n := by omega
      subst this
      cases hb : m.testBit d with
      | false => rfl
      | true => rw [hb] at e; simp at e
theorem x_X8_gathers (hm : MT h T) (hw : TWF T) (ht : TRY h df my gr mo none y n) (hdf : df < 64) (hmy : my < 64) (hmo : mo ≤ 999) (hn : n < 2 ^ 30) (hy : y < 64) : ∃ h', mn_X 147 [.ref 63] h none h' ∧ gtF h h' ∧ RW h' (posM T df my gr mo n y) := by
  have p5 := mn_pw5 hw
  have ho : wOk T none := fun q hq => by cases hq
  obtain ⟨F, eF⟩ : ∃ F, F = fitM T df my gr mo n y none := ⟨_, rfl⟩
  have Fl : F < 2 ^ 64 := by rw [eF]; exact fitM_lt _ _ _ _ _ _ _ _
  have key := mn_linv (n := 64) (E := fun i h r h' => mn_E 147 7 [.ref 63, .int (nI i)] [] h r h')
    (I := fun i hh => gtF h hh ∧ hh 63 22 = nI (mn_pop F i) ∧ ∀ d, d < i → F.testBit d = true → hh 72 (mn_pop F d) = nI d)
    (P := fun r h' => r = none ∧ gtF h h' ∧ RW h' (posM T df my gr mo n y)) ?_ ?_ 0 (mn_up h 63 22 0) (Nat.zero_le _) ⟨(gtF.rf h).up22 _, by rw [mn_up_get, if_pos ⟨rfl, rfl⟩]; rfl, fun d hd => by omega⟩
  · obtain ⟨r, h', a, rfl, b, c⟩ := key
    refine ⟨h', ?_, b, c⟩
    rw [e_X8_gathers, b_X8_gathers_0]
    exact a
  · intro hh ⟨f, g, v⟩
    have pl := mn_pop_le F 64
    by_cases o : mn_pop F 64 = 0
    · have hF0 : F = 0 := by
        apply Nat.eq_of_testBit_eq
        intro i
        rw [Nat.zero_testBit]
        rcases Nat.lt_or_ge i 64 with h1 | h1
        · exact mn_pop_0 64 o i h1
        · exact Nat.testBit_lt_two_pow (Nat.lt_of_lt_of_le Fl (Nat.pow_le_pow_right (by decide) h1))
      have cl := cmN_lt T df my gr mo n 0
      have hp : posM T df my gr mo n y = 2 ^ cmN T df my gr mo n 0 := by unfold posM; rw [if_pos (by rw [← eF]; exact hF0)]
      refine ⟨none, mn_up (mn_up hh 72 0 (nI (cmN T df my gr mo n 0))) 63 22 1, ?_, rfl, (f.up72 _ _).up22 _, ?_⟩
      · have xc := x_X8_comesBy (r := 0) (MT_row (f.1 65 (by decide) (by decide)) hm) hw (f.try ht) hdf hmy hmo hn (by decide)
        rw [show nI 0 = (0 : Int32) from rfl] at xc
        rw [b_X8_gathers_7, if_pos (show (64 : Int32) ≤ nI 64 from by decide), b_X8_gathers_52, g, o, if_neg (show ¬ ¬ nI 0 = 0 from fun z => z rfl), b_X8_gathers_59, mn_cl_i xc, b_X8_gathers_69 (mn_in_iff (by decide)), nl0, b_X8_gathers_75]
        exact ⟨rfl, rfl⟩
      · rw [hp]
        refine ⟨?_, fun d hd hb => ?_⟩
        · rw [mn_up_get, if_pos ⟨rfl, rfl⟩, mn_pop_2k, if_pos cl]; rfl
        · rw [Nat.testBit_two_pow] at hb
          have : cmN T df my gr mo n 0 = d := by simpa using hb
          rw [mn_up_row _ _ _ _ (by decide), mn_pop_2k, if_neg (by omega), mn_up_get, if_pos ⟨rfl, rfl⟩, this]
    · have hF0 : ¬ F = 0 := by
        intro e
        apply o
        rw [e]
        have : ∀ k, mn_pop 0 k = 0 := fun k => by
          induction k with
          | zero => rfl
          | succ k ih => rw [mn_pop_s1, ih]; simp
        exact this 64
      have hp : posM T df my gr mo n y = F := by unfold posM; rw [if_neg (by rw [← eF]; exact hF0), eF]
      refine ⟨none, hh, ?_, rfl, f, ?_⟩
      · rw [b_X8_gathers_7, if_pos (show (64 : Int32) ≤ nI 64 from by decide), b_X8_gathers_52, g, if_pos (show ¬ nI (mn_pop F 64) = 0 from nI_ne0 (by omega) (by omega)), b_X8_gathers_75]
        exact ⟨rfl, rfl⟩
      · rw [hp]; exact ⟨g, v⟩
  · intro i hh hi ⟨f, g, v⟩
    have hm' := MT_row (f.1 65 (by decide) (by decide)) hm
    have ht' := f.try ht
    have wl2 := wrN_lt hw ho y i
    have cl := cmN_lt T df my gr mo n (wrN T y none i)
    have pl := mn_pop_le F i
    have ft : F.testBit i = decide (cmN T df my gr mo n (wrN T y none i) = i) := by rw [eF]; exact fitM_test hi
    have head : ∀ (r : Option Value) (h' : mn_H), mn_E 147 7 [.ref 63, .int (nI i)] [] hh r h' ↔ (if ¬ nI (cmN T df my gr mo n (wrN T y none i)) = nI i then mn_E 147 46 [.ref 63, .int (nI i)] [] hh r h' else mn_E 147 26 [.ref 63, .int (nI i)] [] hh r h') := by
      intro r h'
      rw [b_X8_gathers_7, if_neg (show ¬ (64 : Int32) ≤ nI i from nI_ge (b := 64) hi (by decide)), b_X8_gathers_13, mn_cl_i (x_X8_ringOf hm' hw ht' ho hy hi), b_X8_gathers_19, mn_cl_i (x_X8_comesBy hm' hw ht' hdf hmy hmo hn (by omega)), b_X8_gathers_22]
    by_cases o : cmN T df my gr mo n (wrN T y none i) = i
    · have fb : F.testBit i = true := by rw [ft]; exact decide_eq_true o
      refine ⟨mn_up (mn_up hh 72 (mn_pop F i) (nI i)) 63 22 (nI (mn_pop F i) + 1), ⟨(f.up72 _ _).up22 _, ?_, fun d hd hb => ?_⟩, fun r h' hE => ?_⟩
      · rw [mn_up_get, if_pos ⟨rfl, rfl⟩, mn_pop_s1, if_pos fb, nI_1]
      · rw [mn_up_row _ _ _ _ (by decide), mn_up_get]
        by_cases e : d = i
        · subst e; rw [if_pos ⟨rfl, rfl⟩]
        · have h2 := mn_pop_mono F (show d + 1 ≤ i by omega)
          rw [mn_pop_s1, if_pos hb] at h2
          rw [if_neg (fun z => by have := z.2; omega)]
          exact v d (by omega) hb
      · have hv : vp_in (hh 63 22) 64 := by rw [g]; exact vp_in_nI (by omega) (by decide)
        rw [head, if_neg (fun z => z (by rw [o])), b_X8_gathers_26 hv, mn_up_row hh 72 _ _ (show (63 : Nat) ≠ 72 by decide), g, nq_c _ (by omega), b_X8_gathers_46, nI_1]
        exact hE
    · have fb : F.testBit i = false := by rw [ft]; exact decide_eq_false o
      refine ⟨hh, ⟨f, by rw [g, mn_pop_s1, fb]; rfl, fun d hd hb => ?_⟩, fun r h' hE => ?_⟩
      · by_cases e : d = i
        · subst e; rw [fb] at hb; cases hb
        · exact v d (by omega) hb
      · rw [head, if_pos (show ¬ nI (cmN T df my gr mo n (wrN T y none i)) = nI i from fun z => o ((nI_eq (by omega) (by omega)).mp z)), b_X8_gathers_46, nI_1]
        exact hE
end GAT
