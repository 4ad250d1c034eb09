theorem mn_linv {n : Nat} {E : Nat → mn_H → Option Value → mn_H → Prop} {I : Nat → mn_H → Prop} {P : Option Value → mn_H → Prop} (hx : ∀ h, I n h → ∃ r h', E n h r h' ∧ P r h') (hs : ∀ i h, i < n → I i h → ∃ h1, I (i + 1) h1 ∧ ∀ r h', E (i + 1) h1 r h' → E i h r h') : ∀ (i : Nat) (h : mn_H), i ≤ n → I i h → ∃ r h', E i h r h' ∧ P r h' := by
  intro i h hi hI
  obtain ⟨k, rfl⟩ : ∃ k, n = i + k := ⟨n - i, by omega⟩
  clear hi
  induction k generalizing i h with
  | zero => exact hx h hI
  | succ k ih =>
    obtain ⟨h1, hI1, hE⟩ := hs i h (by omega) hI
    have e : i + (k + 1) = i + 1 + k := by omega
    rw [e] at hx hs
    obtain ⟨r, h', a, b⟩ := ih (i + 1) h1 hI1 hx hs
    exact ⟨r, h', hE r h' a, b⟩
def mn_nsum (f : Nat → Nat) : Nat → Nat
  | 0 => 0
  | n + 1 => mn_nsum f n + f n
theorem mn_nsum_le {f : Nat → Nat} {B : Nat} : ∀ n, (∀ i, i < n → f i ≤ B) → mn_nsum f n ≤ n * B := by
  intro n
  induction n with
  | zero => intro _; simp [mn_nsum]
  | succ n ih =>
    intro h
    have h1 := ih (fun i hi => h i (by omega))
    have h2 := h n (by omega)
    rw [mn_nsum, Nat.succ_mul]
    omega
theorem mn_nsum_cong {f g : Nat → Nat} : ∀ n, (∀ i, i < n → f i = g i) → mn_nsum f n = mn_nsum g n := by
  intro n
  induction n with
  | zero => intro _; rfl
  | succ n ih => intro h; rw [mn_nsum, mn_nsum, ih (fun i hi => h i (by omega)), h n (by omega)]
theorem mn_bits_cong {p q : Nat → Bool} : ∀ n, (∀ i, i < n → p i = q i) → mn_bits p n = mn_bits q n := by
  intro n
  induction n with
  | zero => intro _; rfl
  | succ n ih => intro h; rw [mn_bits, mn_bits, ih (fun i hi => h i (by omega)), h n (by omega)]
def deedN (T : TW) (df my r g : Nat) : Nat := if r.testBit (T 5 g) && !df.testBit g then (if my.testBit g then T 6 g else 6) else T 7 g
def gN (gr : Nat) : Int32 := if gr < 6 then nI gr else (-1)
theorem gN_eq {g gr : Nat} (hg : g < 6) : nI g = gN gr ↔ g = gr := by
  unfold gN
  by_cases h : gr < 6
  · rw [if_pos h]; exact nI_eq (by omega) (by omega)
  · rw [if_neg h]
    refine ⟨fun e => ?_, fun e => by omega⟩
    have : g = 0 ∨ g = 1 ∨ g = 2 ∨ g = 3 ∨ g = 4 ∨ g = 5 := by omega
    rcases this with rfl | rfl | rfl | rfl | rfl | rfl <;> exact absurd e (by decide)
def addN (T : TW) (df my gr mo r d g : Nat) : Nat := if deedN T df my r g = d then T 4 g + (if g = gr then mo else 0) else 0
def doneN (T : TW) (df my gr mo r d : Nat) : Nat := mn_nsum (addN T df my gr mo r d) (T 0 1)
theorem doneN_le {T : TW} (hw : TWF T) {df my gr mo r d : Nat} (hm : mo ≤ 999) (n : Nat) (hn : n ≤ T 0 1) : mn_nsum (addN T df my gr mo r d) n ≤ n * 1098 := by
  refine mn_nsum_le n (fun i hi => ?_)
  have := hw.2.2.1 i (by omega)
  unfold addN
  by_cases h1 : deedN T df my r i = d
  · rw [if_pos h1]; by_cases h2 : i = gr
    · rw [if_pos h2]; omega
    · rw [if_neg h2]; omega
  · rw [if_neg h1]; omega
/-- what a row of causes or stops makes of the people who do things -/
def metN (c : Nat) (A B N W : Nat → Nat) : Nat := mn_bits (fun x => (List.range c).any (fun i => decide (A i = x) && decide (N i ≤ W (B i)))) 6
theorem metN_lt (c : Nat) (A B N W : Nat → Nat) : metN c A B N W < 64 := mn_bits_lt _ 6
theorem mn_any_succ (p : Nat → Bool) (n : Nat) : (List.range (n + 1)).any p = ((List.range n).any p || p n) := by
  rw [List.range_succ, List.any_append]; simp
theorem metN_succ (c : Nat) (A B N W : Nat → Nat) (hA : A c < 6) : metN (c + 1) A B N W = metN c A B N W ||| (if N c ≤ W (B c) then 2 ^ A c else 0) := by
  apply Nat.eq_of_testBit_eq
  intro k
  unfold metN
  rw [Nat.testBit_or, mn_bits_test, mn_bits_test, mn_any_succ]
  by_cases h : N c ≤ W (B c)
  · rw [if_pos h, Nat.testBit_two_pow]
    by_cases hk : A c = k
    · subst hk; simp [h, hA]
    · simp [hk]
  · rw [if_neg h]; simp [h]
def gapN (B N : Nat → Nat) (d p : Nat) : Nat → Nat
  | 0 => 1000
  | c + 1 => if B c = d ∧ p < N c then (if N c - p < gapN B N d p c then N c - p else gapN B N d p c) else gapN B N d p c
theorem gapN_le (B N : Nat → Nat) (d p c : Nat) : gapN B N d p c ≤ 1000 := by
  induction c with
  | zero => exact Nat.le_refl _
  | succ c ih =>
    unfold gapN
    by_cases h : B c = d ∧ p < N c
    · rw [if_pos h]; by_cases h2 : N c - p < gapN B N d p c
      · rw [if_pos h2]; omega
      · rw [if_neg h2]; exact ih
    · rw [if_neg h]; exact ih
def selN (T : TW) (n : Nat) : Nat := mn_bits (fun s => decide (n % T 15 s = T 16 s)) (T 0 4)
def slfN (T : TW) (s : Nat) : Nat := metN (T 0 4) (T 14) (fun i => i) (fun _ => 1) (fun i => if s.testBit i then 1 else 0)
def ofN (T : TW) (n : Nat) : Nat := slfN T (selN T n)
def harmN (T : TW) (d : Nat) : Int32 := mn_sum (fun k => if d.testBit k then nI (T 17 k) - 50 else 0) 6
def hearN (T : TW) (b : Nat) : Nat := mn_nsum (fun g => if T 5 g = b then T 4 g else 0) (T 0 1)
section FILL
variable {h : mn_H}
theorem mn_set0 (a : Nat) (v : Int32) : h = mn_set h a (fun j => if j < 0 then v else h a j) := by
  funext b j
  rw [mn_set_get2]
  by_cases hb : b = a
  · rw [if_pos hb, hb, if_neg (by omega)]
  · rw [if_neg hb]
theorem mn_set_up (a k : Nat) (f : Nat → Int32) (v : Int32) : mn_up (mn_set h a f) a k v = mn_set h a (upd f k v) := by
  funext b
  unfold mn_up mn_set
  by_cases hb : b = a <;> simp [hb]
theorem x_fill {a n : Nat} (v : Int32) (hs : mn_sh a = (1, n)) (ha : a < 74) (hn : n < 2 ^ 31) : mn_X 192 [.ref a, .int v] h none (mn_set h a (fun j => if j < n then v else h a j)) := by
  rw [e_J7_fill_53178 (n0 := 0), b_J7_fill_53178_0 hs ha]
  refine Eq.mpr (congrArg (fun g => mn_E 192 5 [.ref a, .int v, .int 0, .int (nI n)] [] g none _) (mn_set0 a v)) ?_
  refine (mn_loop (n := n) (fun i => mn_E 192 5 [.ref a, .int v, .int (nI i), .int (nI n)] [] (mn_set h a (fun j => if j < i then v else h a j)) none (mn_set h a (fun j => if j < n then v else h a j))) ?_ ?_ (Nat.zero_le _)).mpr trivial
  · rw [b_J7_fill_53178_5 hs ha, if_pos (nI_le (Nat.le_refl _) hn), b_J7_fill_53178_20 hs ha]
    exact ⟨fun _ => trivial, fun _ => ⟨rfl, rfl⟩⟩
  · intro i hi
    rw [b_J7_fill_53178_5 hs ha, if_neg (nI_ge hi hn), b_J7_fill_53178_10 hs ha (vp_in_nI hi hn), nI_clamp (by omega), nI_1, mn_set_up]
    have : upd (fun j => if j < i then v else h a j) i v = (fun j => if j < i + 1 then v else h a j) := by
      funext j
      unfold upd
      by_cases hj : j = i
      · simp [hj]
      · by_cases h2 : j < i
        · simp [hj, h2, Nat.lt_succ_of_lt h2]
        · simp [hj, h2, show ¬ j < i + 1 by omega]
    rw [this]
end FILL
section TRIAL
variable {h : mn_H} {t : Nat} {T : TW}
theorem x_X5_deedOf (ht : mn_isT t) (hc : CT h t T) (hw : TWF T) {g r df my : Nat} (hg : g < T 0 1) (hr : r < 32) (hdf : df < 64) (hmy : my < 64) : mn_X 51 [.ref t, .int (nI g), .int (nI r), .int (nI df), .int (nI my)] h (some (.int (nI (deedN T df my r g)))) h := by
  obtain ⟨-, -, cg, -⟩ := hc
  obtain ⟨⟨w0, w1, -⟩, -, wg, -⟩ := hw
  obtain ⟨c1, c2, c3, c4⟩ := cg g hg
  obtain ⟨g1, g2, g3, g4, g5⟩ := wg g hg
  have hv : vp_in (nI g) 6 := vp_in_nI (by omega) (by decide)
  have b1 := nq_bit1 (a := r) (k := T 5 g) (by omega) (by omega)
  have b2 := nq_bit0 (a := df) (k := g) (by omega) (by omega)
  have b3 := nq_bit1 (a := my) (k := g) (by omega) (by omega)
  have hcl : (nI g).toNatClampNeg = g := nI_clamp (by omega)
  rw [e_X5_deedOf]
  unfold deedN
  by_cases o1 : r.testBit (T 5 g) = true <;> by_cases o2 : df.testBit g = true <;> by_cases o3 : my.testBit g = true <;>
    simp [b_X5_deedOf_0 ht hv, b_X5_deedOf_14 ht, b_X5_deedOf_22 ht, b_X5_deedOf_26 ht, b_X5_deedOf_27 ht, b_X5_deedOf_34 ht hv, b_X5_deedOf_41 ht, b_X5_deedOf_51 ht hv, b_X5_deedOf_60 ht, b_X5_deedOf_62 ht, hcl, c2, c3, c4, b1, b2, b3, o1, o2, o3] <;> rfl
theorem x_X5_harmOf (ht : mn_isT t) (hc : CT h t T) {d : Nat} (hd : d < 64) : mn_X 55 [.ref t, .int (nI d)] h (some (.int (harmN T d))) h := by
  have ch := hc.2.2.2.2.2.2
  rw [e_X5_harmOf, b_X5_harmOf_0 ht]
  refine (mn_loop (n := 6) (fun i => mn_E 55 4 [.ref t, .int (nI d), .int (mn_sum (fun k => if d.testBit k then nI (T 17 k) - 50 else 0) i), .int (nI i)] [] h (some (.int (harmN T d))) h) ?_ ?_ (Nat.zero_le _)).mpr trivial
  · rw [b_X5_harmOf_4 ht, if_pos (show (6 : Int32) ≤ nI 6 from nI_le (a := 6) (b := 6) (Nat.le_refl _) (by omega)), b_X5_harmOf_34 ht]
    exact ⟨fun _ => trivial, fun _ => ⟨rfl, rfl⟩⟩
  · intro i hi
    have b1 := nq_bit1 (a := d) (k := i) (by omega) (by omega)
    rw [b_X5_harmOf_4 ht, if_neg (show ¬ (6 : Int32) ≤ nI i from nI_ge (b := 6) hi (by omega)), b_X5_harmOf_10 ht]
    by_cases o : d.testBit i = true
    · rw [if_neg (fun q => q (b1.mpr o)), b_X5_harmOf_19 ht (vp_in_nI hi (by decide)), b_X5_harmOf_28 ht, nI_1, nI_clamp (by omega), ch i hi, mn_sum]
      simp only [o, if_true]
    · rw [if_pos (fun q => o (b1.mp q)), b_X5_harmOf_28 ht, nI_1, mn_sum]
      simp only [o, if_false, Int32.add_zero, Bool.false_eq_true]
theorem x_X5_hearersOf (ht : mn_isT t) (hc : CT h t T) (hw : TWF T) {b : Nat} (hb : b < 5) : mn_X 49 [.ref t, .int (nI b)] h (some (.int (nI (hearN T b)))) h := by
  obtain ⟨⟨-, c0, -⟩, -, cg, -⟩ := hc
  obtain ⟨⟨w0, w1, -⟩, -, wg, -⟩ := hw
  rw [e_X5_hearersOf, b_X5_hearersOf_0 ht]
  refine (mn_loop (n := T 0 1) (fun i => mn_E 49 4 [.ref t, .int (nI b), .int (nI (mn_nsum (fun g => if T 5 g = b then T 4 g else 0) i)), .int (nI i)] [] h (some (.int (nI (hearN T b)))) h) ?_ ?_ (Nat.zero_le _)).mpr trivial
  · rw [b_X5_hearersOf_4 ht, c0, if_pos (nI_le (Nat.le_refl _) (by omega)), b_X5_hearersOf_37 ht]
    exact ⟨fun _ => trivial, fun _ => ⟨rfl, rfl⟩⟩
  · intro i hi
    obtain ⟨c1, c2, -⟩ := cg i hi
    obtain ⟨-, -, g3, -⟩ := wg i hi
    have hv : vp_in (nI i) 6 := vp_in_nI (by omega) (by decide)
    rw [b_X5_hearersOf_4 ht, c0, if_neg (nI_ge hi (by omega)), b_X5_hearersOf_12 ht hv, nI_clamp (by omega), c2, mn_nsum]
    by_cases o : T 5 i = b
    · rw [if_neg (fun q => q (by rw [o])), b_X5_hearersOf_22 ht hv, b_X5_hearersOf_31 ht, nI_1, nI_clamp (by omega), c1, nI_add, if_pos o]
    · rw [if_pos (fun q => o ((nI_eq (by omega) (by omega)).mp q)), b_X5_hearersOf_31 ht, nI_1, if_neg o]
      exact Iff.rfl
theorem x_X5_selvesOn (ht : mn_isT t) (hc : CT h t T) (hw : TWF T) {n : Nat} (hn : n < 2 ^ 30) : mn_X 52 [.ref t, .int (nI n)] h (some (.int (nI (selN T n)))) h := by
  obtain ⟨⟨-, -, -, -, c0⟩, -, -, -, -, cs, -⟩ := hc
  obtain ⟨⟨-, -, -, -, w0⟩, -, -, -, -, ws, -⟩ := hw
  rw [e_X5_selvesOn, b_X5_selvesOn_0 ht]
  refine (mn_loop (n := T 0 4) (fun i => mn_E 52 4 [.ref t, .int (nI n), .int (nI (mn_bits (fun s => decide (n % T 15 s = T 16 s)) i)), .int (nI i)] [] h (some (.int (nI (selN T n)))) h) ?_ ?_ (Nat.zero_le _)).mpr trivial
  · rw [b_X5_selvesOn_4 ht, c0, if_pos (nI_le (Nat.le_refl _) (by omega)), b_X5_selvesOn_50 ht]
    exact ⟨fun _ => trivial, fun _ => ⟨rfl, rfl⟩⟩
  · intro i hi
    obtain ⟨c1, c2, c3⟩ := cs i hi
    obtain ⟨s1, s2, s3, s4⟩ := ws i hi
    have hv : vp_in (nI i) 3 := vp_in_nI (by omega) (by decide)
    have lt := mn_bits_lt (fun s => decide (n % T 15 s = T 16 s)) i
    have p1 : 2 ^ i ≤ 2 ^ 3 := Nat.pow_le_pow_right (by decide) (by omega)
    have hm : n % T 15 i < T 15 i := Nat.mod_lt _ (by omega)
    have hcl : (nI i).toNatClampNeg = i := nI_clamp (by omega)
    have hne : ¬ h (t + 17) (nI i).toNatClampNeg = 0 := by rw [hcl, c2]; exact nI_ne0 (by omega) (by omega)
    rw [b_X5_selvesOn_4 ht, c0, if_neg (nI_ge hi (by omega)), b_X5_selvesOn_12 ht hv, hcl, c2, if_neg (nI_nle (by omega) (by omega)), b_X5_selvesOn_21 ht hv hne, hcl, c2, c3, pk_rem (by omega) (by omega) (by omega), mn_bits_or]
    by_cases o : n % T 15 i = T 16 i
    · rw [if_neg (fun q => q (by rw [o])), b_X5_selvesOn_38 ht, b_X5_selvesOn_44 ht, nI_1, nq_one (by omega), nq_or (by omega) (by omega), if_pos (decide_eq_true o)]
    · rw [if_pos (fun q => o ((nI_eq (by omega) (by omega)).mp q)), b_X5_selvesOn_44 ht, nI_1, if_neg (by simpa using o), Nat.or_zero]
theorem x_X5_comingOfItself (ht : mn_isT t) (hc : CT h t T) (hw : TWF T) {s : Nat} (hs : s < 8) : mn_X 53 [.ref t, .int (nI s)] h (some (.int (nI (slfN T s)))) h := by
  obtain ⟨⟨-, -, -, -, c0⟩, -, -, -, -, cs, -⟩ := hc
  obtain ⟨⟨-, -, -, -, w0⟩, -, -, -, -, ws, -⟩ := hw
  rw [e_X5_comingOfItself, b_X5_comingOfItself_0 ht]
  refine (mn_loop (n := T 0 4) (fun i => mn_E 53 4 [.ref t, .int (nI s), .int (nI (metN i (T 14) (fun i => i) (fun _ => 1) (fun i => if s.testBit i then 1 else 0))), .int (nI i)] [] h (some (.int (nI (slfN T s)))) h) ?_ ?_ (Nat.zero_le _)).mpr trivial
  · rw [b_X5_comingOfItself_4 ht, c0, if_pos (nI_le (Nat.le_refl _) (by omega)), b_X5_comingOfItself_38 ht]
    exact ⟨fun _ => trivial, fun _ => ⟨rfl, rfl⟩⟩
  · intro i hi
    obtain ⟨c1, c2, c3⟩ := cs i hi
    obtain ⟨s1, s2, s3, s4⟩ := ws i hi
    have hv : vp_in (nI i) 3 := vp_in_nI (by omega) (by decide)
    have lt := metN_lt i (T 14) (fun i => i) (fun _ => 1) (fun i => if s.testBit i then 1 else 0)
    have p1 : 2 ^ T 14 i ≤ 2 ^ 5 := Nat.pow_le_pow_right (by decide) (by omega)
    have hcl : (nI i).toNatClampNeg = i := nI_clamp (by omega)
    have b1 := nq_bit1 (a := s) (k := i) (by omega) (by omega)
    rw [b_X5_comingOfItself_4 ht, c0, if_neg (nI_ge hi (by omega)), b_X5_comingOfItself_12 ht, metN_succ _ _ _ _ _ s1]
    by_cases o : s.testBit i = true
    · rw [if_neg (fun q => q (b1.mpr o)), b_X5_comingOfItself_21 ht hv, b_X5_comingOfItself_32 ht, nI_1, hcl, c1, nq_one (by omega), nq_or (by omega) (by omega), if_pos (by simp [o])]
    · rw [if_pos (fun q => o (b1.mp q)), b_X5_comingOfItself_32 ht, nI_1, if_neg (by simp [o]), Nat.or_zero]
end TRIAL
