/-- sums of whole numbers that may be below 0 -/
def mn_zs (f : Nat → Int) : Nat → Int
  | 0 => 0
  | n + 1 => mn_zs f n + f n
theorem mn_zs_sum {f : Nat → Int} {g : Nat → Int32} : ∀ n, (∀ i, i < n → g i = Int32.ofInt (f i)) → mn_sum g n = Int32.ofInt (mn_zs f n) := by
  intro n
  induction n with
  | zero => intro _; rfl
  | succ n ih => intro e; rw [mn_sum, mn_zs, Int32.ofInt_add, ih (fun i hi => e i (by omega)), e n (by omega)]
theorem mn_zs_b {f : Nat → Int} {a b : Int} : ∀ n : Nat, (∀ i, i < n → a ≤ f i ∧ f i ≤ b) → n * a ≤ mn_zs f n ∧ mn_zs f n ≤ n * b := by
  intro n
  induction n with
  | zero => intro _; simp [mn_zs]
  | succ n ih =>
    intro h
    have h1 := ih (fun i hi => h i (by omega))
    have h2 := h n (by omega)
    have e1 : ((n + 1 : Nat) : Int) * a = n * a + a := by rw [Int.natCast_succ, Int.add_mul, Int.one_mul]
    have e2 : ((n + 1 : Nat) : Int) * b = n * b + b := by rw [Int.natCast_succ, Int.add_mul, Int.one_mul]
    rw [mn_zs, e1, e2]
    omega
def hzN (T : TW) (d : Nat) : Int := mn_zs (fun k => if d.testBit k then (T 17 k : Int) - 50 else 0) 6
theorem nI_ofInt (a : Nat) : nI a = Int32.ofInt a := (Int32.ofInt_eq_ofNat).symm
theorem harm_z (T : TW) (d : Nat) : harmN T d = Int32.ofInt (hzN T d) := by
  unfold harmN hzN
  refine mn_zs_sum 6 (fun k hk => ?_)
  by_cases o : d.testBit k = true
  · rw [if_pos o, if_pos o, Int32.ofInt_sub, nI_ofInt]; rfl
  · rw [if_neg o, if_neg o]; rfl
theorem hz_b {T : TW} (hw : TWF T) (d : Nat) : -300 ≤ hzN T d ∧ hzN T d ≤ 300 := by
  have := mn_zs_b (f := fun k => if d.testBit k then (T 17 k : Int) - 50 else 0) (a := -50) (b := 50) 6 (fun k hk => ?_)
  · unfold hzN; omega
  · have := hw.2.2.2.2.2.2 k hk
    split <;> omega
theorem harm_i {T : TW} (hw : TWF T) (d : Nat) : (harmN T d).toInt = hzN T d := by
  have := hz_b hw d
  rw [harm_z, Int32.toInt_ofInt_of_le (by omega) (by omega)]
section GR
variable {h hh : mn_H} {T : TW} {S : Nat → Nat} {df my gr mo y n : Nat} {wl : Option (Nat × Nat)}
theorem TRY.may (t : TRY h df my gr mo wl y n) (s : Nat) : TRY (mn_up h 63 14 (nI s)) df s gr mo wl y n := by
  obtain ⟨t1, t2, t3, t4, t5, t6, t7, t8⟩ := t
  refine ⟨?_, ?_, ?_, ?_, ?_, fun q hq => ?_, ?_, ?_⟩ <;> simp [mn_up_get] <;> first | exact t1 | exact t3 | exact t4 | exact t5 | exact t6 q hq | exact t7 | exact t8
theorem TRY.deaf (t : TRY h df my gr mo wl y n) (s : Nat) : TRY (mn_up h 63 13 (nI s)) s my gr mo wl y n := by
  obtain ⟨t1, t2, t3, t4, t5, t6, t7, t8⟩ := t
  refine ⟨?_, ?_, ?_, ?_, ?_, fun q hq => ?_, ?_, ?_⟩ <;> simp [mn_up_get] <;> first | exact t2 | exact t3 | exact t4 | exact t5 | exact t6 q hq | exact t7 | exact t8
theorem TRY.more (t : TRY h df my gr mo wl y n) (s : Nat) : TRY (mn_up h 63 16 (nI s)) df my gr s wl y n := by
  obtain ⟨t1, t2, t3, t4, t5, t6, t7, t8⟩ := t
  refine ⟨?_, ?_, ?_, ?_, ?_, fun q hq => ?_, ?_, ?_⟩ <;> simp [mn_up_get] <;> first | exact t1 | exact t2 | exact t3 | exact t5 | exact t6 q hq | exact t7 | exact t8
theorem TRY.grown (t : TRY h df my gr mo wl y n) {g : Nat} (hg : g < 6) : TRY (mn_up h 63 15 (nI g)) df my g mo wl y n := by
  obtain ⟨t1, t2, t3, t4, t5, t6, t7, t8⟩ := t
  refine ⟨?_, ?_, ?_, ?_, ?_, fun q hq => ?_, ?_, ?_⟩ <;> simp [mn_up_get] <;> first | exact t1 | exact t2 | exact t4 | exact t5 | exact t6 q hq | exact t7 | exact t8 | (unfold gN; rw [if_pos hg])
theorem gh_0 (T : TW) {m : Nat} : ∀ d, mn_pop m d = 0 → ghN T m d = -300 := by
  intro d
  induction d with
  | zero => intro _; rfl
  | succ d ih =>
    intro e
    rw [mn_pop_s1] at e
    cases hb : m.testBit d with
    | true => rw [hb] at e; simp at e
    | false => rw [ghN, hb]; exact ih (by omega)
theorem x_greatest (hm : MT h T) (hw : TWF T) (ht : TRY h df my gr mo none y n) (hdf : df < 64) (hmy : my < 64) (hmo : mo ≤ 999) (hn : n < 2 ^ 30) (hy : y < 64) : ∃ h', mn_X 163 [.ref 63] h (some (.int (ghN T (posM T df my gr mo n y) 64))) h' ∧ gtF h h' := by
  obtain ⟨h1, a, f, w⟩ := x_X8_gathers hm hw ht hdf hmy hmo hn hy
  have m1 := MT_row (f.1 65 (by decide) (by decide)) hm
  refine ⟨h1, ?_, f⟩
  have pl := posM_lt T df my gr mo n y
  have pp := mn_pop1 pl (posM_ne T df my gr mo n y)
  generalize posM T df my gr mo n y = m at *
  obtain ⟨r1, r2⟩ := w
  have p64 := mn_pop_le m 64
  rw [e_X8_greatest, b_X8_greatest_0, mn_cl_v a]
  have key := mn_row (m := m) (fun k v => if k = 0 then mn_E 163 4 [.ref 63, .null, .null, .null] [] h1 (some (.int (ghN T m 64))) h1 else ∀ w : Value, mn_E 163 17 [.ref 63, .int v, .int (nI k), w] [] h1 (some (.int (ghN T m 64))) h1) (ghN T m) ?_ ?_ ?_
  · rw [if_pos rfl] at key; exact key
  · intro d hd hb H
    have lt := mn_pop_lt hd hb
    rw [if_neg (by omega)] at H
    have hz := hz_b hw d
    have hi := harm_i hw d
    rw [ghN, if_pos hb] at H
    by_cases o : mn_pop m d = 0
    · have e72 : h1 72 (0 : Int32).toNatClampNeg = nI d := by rw [nl0, ← o]; exact r2 d hd hb
      rw [if_pos o, b_X8_greatest_4, e72, mn_cl_i (x_X8_harmOf m1 hd), b_X8_greatest_14]
      rw [gh_0 T d o, o] at H
      have : (if (-300 : Int32) < harmN T d then harmN T d else -300) = harmN T d := by
        by_cases q : (-300 : Int32) < harmN T d
        · rw [if_pos q]
        · rw [if_neg q]
          rw [Int32.lt_iff_toInt_lt, hi] at q
          apply Int32.toInt_inj.mp
          rw [hi]
          have : (-300 : Int32).toInt = -300 := by decide
          omega
      rw [this] at H
      exact H _
    · rw [if_neg o]
      intro w
      rw [b_X8_greatest_17, r1, if_neg (nI_ge lt (by omega)), b_X8_greatest_25 (vp_in_nI (by omega) (by decide)), nI_clamp (by omega), r2 d hd hb, mn_cl_i (x_X8_harmOf m1 hd), b_X8_greatest_35]
      by_cases q : harmN T d ≤ ghN T m d
      · rw [if_neg (Int32.not_lt.mpr q)] at H
        rw [if_pos q, b_X8_greatest_45, b_X8_greatest_46, nI_1]
        exact H _
      · rw [if_pos (Int32.not_le.mp q)] at H
        rw [if_neg q, b_X8_greatest_41, b_X8_greatest_46, nI_1]
        exact H _
  · intro d hd hb
    rw [ghN, hb]; rfl
  · rw [if_neg (by omega)]
    intro w
    rw [b_X8_greatest_17, r1, if_pos (Int32.le_refl _), b_X8_greatest_53]
    exact ⟨rfl, rfl⟩
theorem x_ones {s : Nat} (hs : s < 64) : mn_X 118 [.int (nI s)] h (some (.int (nI (mn_pop s 6)))) h := by
  rw [e_X8_ones, b_X8_ones_0]
  refine mn_loopb (n := 6) (fun i => mn_E 118 4 [.int (nI s), .int (nI (mn_pop s i)), .int (nI i)] [] h (some (.int (nI (mn_pop s 6)))) h) ?_ ?_ (Nat.zero_le _)
  · rw [b_X8_ones_4, if_pos (show (6 : Int32) ≤ nI 6 from by decide), b_X8_ones_24]
    exact ⟨rfl, rfl⟩
  · intro i hi H
    rw [b_X8_ones_4, if_neg (show ¬ (6 : Int32) ≤ nI i from nI_ge (b := 6) hi (by decide)), b_X8_ones_10, nI_1, nq_bit (by omega) (by omega), nq_tst, nI_add]
    exact H
end GR
/-- the best of sets by harm, then how many, then the set -/
def lxB (G : Nat → Int32) (P : Nat → Prop) (b : Nat) : Prop := P b ∧ ∀ s, P s → (G b).toInt < (G s).toInt ∨ ((G b).toInt = (G s).toInt ∧ (mn_pop b 6 < mn_pop s 6 ∨ (mn_pop b 6 = mn_pop s 6 ∧ b ≤ s)))
theorem lxB.uq {G : Nat → Int32} {P : Nat → Prop} {b b' : Nat} (h : lxB G P b) (h' : lxB G P b') : b = b' := by
  have a := h.2 b' h'.1
  have c := h'.2 b h.1
  omega
theorem lxB.cg {G : Nat → Int32} {P Q : Nat → Prop} {b : Nat} (e : ∀ s, P s ↔ Q s) (h : lxB G P b) : lxB G Q b := ⟨(e b).mp h.1, fun s q => h.2 s ((e s).mpr q)⟩
def ruB (G : Nat → Int32) (k : Nat) : Nat → Nat
  | 0 => 0
  | i + 1 => if mn_pop (i + 1) 6 ≤ k ∧ (G (i + 1) < G (ruB G k i) ∨ (G (i + 1) = G (ruB G k i) ∧ mn_pop (i + 1) 6 < mn_pop (ruB G k i) 6)) then i + 1 else ruB G k i
def muI (G : Nat → Int32) (nn b0 : Nat) : Nat → Nat
  | 0 => b0
  | i + 1 => if mn_pop (i + 1) 6 = nn ∧ G (i + 1) < G (muI G nn b0 i) then i + 1 else muI G nn b0 i
def muO (G : Nat → Int32) (N : Nat) : Nat → Nat
  | 0 => 0
  | j + 1 => muI G (j + 1) (muO G N j) N
theorem mn_pop00 : mn_pop 0 6 = 0 := by decide
theorem mn_pop6 : ∀ s, s < 64 → mn_pop s 6 = 0 → s = 0 := by decide
theorem ruB_lx (G : Nat → Int32) (k i : Nat) : lxB G (fun s => s ≤ i ∧ mn_pop s 6 ≤ k) (ruB G k i) := by
  induction i with
  | zero =>
    refine ⟨⟨Nat.le_refl _, by show mn_pop 0 6 ≤ k; rw [mn_pop00]; omega⟩, fun s ⟨h1, h2⟩ => ?_⟩
    have : s = 0 := by omega
    subst this
    right; exact ⟨rfl, Or.inr ⟨rfl, Nat.le_refl _⟩⟩
  | succ i ih =>
    obtain ⟨⟨a1, a2⟩, a3⟩ := ih
    rw [ruB]
    by_cases o : mn_pop (i + 1) 6 ≤ k ∧ (G (i + 1) < G (ruB G k i) ∨ (G (i + 1) = G (ruB G k i) ∧ mn_pop (i + 1) 6 < mn_pop (ruB G k i) 6))
    · rw [if_pos o]
      refine ⟨⟨Nat.le_refl _, o.1⟩, fun s ⟨h1, h2⟩ => ?_⟩
      by_cases e : s = i + 1
      · subst e; right; exact ⟨rfl, Or.inr ⟨rfl, Nat.le_refl _⟩⟩
      · have := a3 s ⟨by omega, h2⟩
        rcases o.2 with q | ⟨q, q2⟩
        · rw [Int32.lt_iff_toInt_lt] at q
          omega
        · rw [q]; omega
    · rw [if_neg o]
      refine ⟨⟨by omega, a2⟩, fun s ⟨h1, h2⟩ => ?_⟩
      by_cases e : s = i + 1
      · subst e
        rw [Int32.lt_iff_toInt_lt, ← Int32.toInt_inj] at o
        omega
      · exact a3 s ⟨by omega, h2⟩
theorem muI_lx (G : Nat → Int32) {N nn b0 : Nat} (h0 : lxB G (fun s => s ≤ N ∧ (mn_pop s 6 < nn ∨ (mn_pop s 6 = nn ∧ s ≤ 0))) b0) (i : Nat) (hi : i ≤ N) : lxB G (fun s => s ≤ N ∧ (mn_pop s 6 < nn ∨ (mn_pop s 6 = nn ∧ s ≤ i))) (muI G nn b0 i) := by
  induction i with
  | zero => exact h0
  | succ i ih =>
    obtain ⟨⟨a1, a2⟩, a3⟩ := ih (by omega)
    rw [muI]
    by_cases o : mn_pop (i + 1) 6 = nn ∧ G (i + 1) < G (muI G nn b0 i)
    · rw [if_pos o]
      refine ⟨⟨hi, Or.inr ⟨o.1, Nat.le_refl _⟩⟩, fun s ⟨h1, h2⟩ => ?_⟩
      by_cases e : s = i + 1
      · subst e; right; exact ⟨rfl, Or.inr ⟨rfl, Nat.le_refl _⟩⟩
      · have := a3 s ⟨h1, by omega⟩
        have q := o.2
        rw [Int32.lt_iff_toInt_lt] at q
        omega
    · rw [if_neg o]
      refine ⟨⟨a1, by omega⟩, fun s ⟨h1, h2⟩ => ?_⟩
      by_cases e : s = i + 1
      · subst e
        rcases h2 with h2 | ⟨h2, -⟩
        · exact a3 _ ⟨h1, Or.inl h2⟩
        · rw [Int32.lt_iff_toInt_lt] at o
          omega
      · exact a3 s ⟨h1, by omega⟩
theorem muO_lx (G : Nat → Int32) {N : Nat} (hN : N < 64) (j : Nat) : lxB G (fun s => s ≤ N ∧ (mn_pop s 6 < j + 1 ∨ (mn_pop s 6 = j + 1 ∧ s ≤ 0))) (muO G N j) := by
  have p0 := mn_pop00
  induction j with
  | zero =>
    refine ⟨⟨Nat.zero_le _, Or.inl (by show mn_pop 0 6 < 1; omega)⟩, fun s ⟨h1, h2⟩ => ?_⟩
    have : s = 0 := by
      rcases h2 with h2 | ⟨-, h2⟩
      · exact mn_pop6 s (by omega) (by omega)
      · omega
    subst this
    right; exact ⟨rfl, Or.inr ⟨rfl, Nat.le_refl _⟩⟩
  | succ j ih =>
    refine (muI_lx G ih N (Nat.le_refl _)).cg (fun s => ?_)
    constructor
    · rintro ⟨h1, h2⟩; exact ⟨h1, by omega⟩
    · rintro ⟨h1, h2⟩
      refine ⟨h1, ?_⟩
      rcases h2 with h2 | ⟨h2, h3⟩
      · omega
      · have : s = 0 := by omega
        subst this; omega
theorem ru_mu (G : Nat → Int32) {N : Nat} (hN : N < 64) (k : Nat) : muO G N k = ruB G k N := by
  refine lxB.uq (muO_lx G hN k) ((ruB_lx G k N).cg (fun s => ?_))
  have p0 := mn_pop00
  constructor
  · rintro ⟨h1, h2⟩; exact ⟨h1, by omega⟩
  · rintro ⟨h1, h2⟩
    refine ⟨h1, ?_⟩
    rcases h2 with h2 | ⟨h2, h3⟩
    · omega
    · have : s = 0 := by omega
      subst this; omega
theorem ruB_le (G : Nat → Int32) (k i : Nat) : ruB G k i ≤ i := (ruB_lx G k i).1.1
