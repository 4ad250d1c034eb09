theorem mn_ph : ∀ (N : Nat) (f : Nat → Nat), (∀ i, i ≤ N → f i < N) → ∃ i j, i < j ∧ j ≤ N ∧ f i = f j := by
  intro N
  induction N with
  | zero => intro f hf; exact absurd (hf 0 (Nat.le_refl _)) (by omega)
  | succ N ih =>
    intro f hf
    by_cases o : ∃ i, i ≤ N ∧ f i = f (N + 1)
    · obtain ⟨i, hi, e⟩ := o
      exact ⟨i, N + 1, by omega, Nat.le_refl _, e⟩
    · have no : ∀ i, i ≤ N → ¬ f i = f (N + 1) := fun i hi e => o ⟨i, hi, e⟩
      obtain ⟨i, j, h1, h2, h3⟩ := ih (fun i => if f i = N then f (N + 1) else f i) (fun i hi => by
        have a := hf i (by omega)
        have b := hf (N + 1) (Nat.le_refl _)
        have c := no i hi
        split <;> omega)
      have c1 := no i (by omega)
      have c2 := no j h2
      refine ⟨i, j, h1, by omega, ?_⟩
      by_cases q1 : f i = N <;> by_cases q2 : f j = N <;> simp [q1, q2] at h3 <;> omega
section CYC
variable {y : Nat → Nat} {n0 R : Nat}
def rep (y : Nat → Nat) (n0 R a b : Nat) : Prop := y a = y b ∧ (n0 + a) % R = (n0 + b) % R
def stp (y : Nat → Nat) (n0 R : Nat) : Prop := ∀ a b, rep y n0 R a b → y (a + 1) = y (b + 1)
def CYC (y : Nat → Nat) (n0 R m l : Nat) : Prop := 0 < l ∧ rep y n0 R m (m + l) ∧ ∀ a b, a < b → b < m + l → ¬ rep y n0 R a b
theorem rep.sy {a b : Nat} (r : rep y n0 R a b) : rep y n0 R b a := ⟨r.1.symm, r.2.symm⟩
theorem rep.tr {a b c : Nat} (r : rep y n0 R a b) (s : rep y n0 R b c) : rep y n0 R a c := ⟨r.1.trans s.1, r.2.trans s.2⟩
theorem rep.sh (st : stp y n0 R) {a b : Nat} (r : rep y n0 R a b) : ∀ j, rep y n0 R (a + j) (b + j) := by
  intro j
  induction j with
  | zero => exact r
  | succ j ih =>
    refine ⟨st _ _ ih, ?_⟩
    have := ih.2
    rw [show n0 + (a + (j + 1)) = n0 + (a + j) + 1 by omega, show n0 + (b + (j + 1)) = n0 + (b + j) + 1 by omega, Nat.add_mod, this, ← Nat.add_mod]
theorem rep_dvd {a b : Nat} (h : a ≤ b) (r : rep y n0 R a b) : R ∣ b - a := by
  have := Nat.sub_mod_eq_zero_of_mod_eq r.2.symm
  rw [show n0 + b - (n0 + a) = b - a by omega] at this
  exact Nat.dvd_of_mod_eq_zero this
theorem rep_of {a b : Nat} (h : a ≤ b) (d : R ∣ b - a) (e : y a = y b) : rep y n0 R a b := by
  refine ⟨e, ?_⟩
  obtain ⟨k, hk⟩ := d
  rw [show n0 + b = n0 + a + R * k by omega, Nat.add_mul_mod_self_left]
theorem cyc_ex (h : ∃ a b, a < b ∧ rep y n0 R a b) : ∃ m l, CYC y n0 R m l ∧ ∀ a b, a < b → rep y n0 R a b → m + l ≤ b := by
  obtain ⟨N, ⟨m, hm, r⟩, mi⟩ := pk_least (fun b => ∃ a, a < b ∧ rep y n0 R a b) (by obtain ⟨a, b, h1, h2⟩ := h; exact ⟨b, a, h1, h2⟩)
  refine ⟨m, N - m, ⟨by omega, by rw [show m + (N - m) = N by omega]; exact r, fun a b h1 h2 h3 => mi b (by omega) ⟨a, h1, h3⟩⟩, fun a b h1 h2 => ?_⟩
  by_cases q : b < N
  · exact absurd ⟨a, h1, h2⟩ (mi b q)
  · omega
theorem cyc_red (st : stp y n0 R) {m l : Nat} (c : CYC y n0 R m l) : ∀ x, ∃ r, r < m + l ∧ rep y n0 R x r ∧ r ≤ x ∧ (x < m → r = x) ∧ (m ≤ x → m ≤ r ∧ l ∣ x - r) := by
  intro x
  induction x using Nat.strongRecOn with
  | ind x ih =>
    have l0 := c.1
    by_cases o : x < m + l
    · exact ⟨x, o, ⟨rfl, rfl⟩, Nat.le_refl _, fun _ => rfl, fun q => ⟨q, by rw [Nat.sub_self]; exact Nat.dvd_zero l⟩⟩
    · obtain ⟨r, h1, h2, h3, h4, h5⟩ := ih (x - l) (by omega)
      have s := c.2.1.sh st (x - l - m)
      rw [show m + (x - l - m) = x - l by omega, show m + l + (x - l - m) = x by omega] at s
      refine ⟨r, h1, s.sy.tr h2, by omega, fun q => by omega, fun q => ?_⟩
      obtain ⟨q1, q2⟩ := h5 (by omega)
      refine ⟨q1, ?_⟩
      rw [show x - r = (x - l - r) + l by omega]
      exact Nat.dvd_add q2 (Nat.dvd_refl l)
theorem cyc_iff (st : stp y n0 R) {m l : Nat} (c : CYC y n0 R m l) {a b : Nat} (h : a < b) : rep y n0 R a b ↔ m ≤ a ∧ l ∣ b - a := by
  have l0 := c.1
  constructor
  · intro r
    obtain ⟨ra, a1, a2, a3, a4, a5⟩ := cyc_red st c a
    obtain ⟨rb, b1, b2, b3, b4, b5⟩ := cyc_red st c b
    have rr : rep y n0 R ra rb := (a2.sy.tr r).tr b2
    have e : ra = rb := by
      rcases Nat.lt_trichotomy ra rb with q | q | q
      · exact absurd rr (c.2.2 ra rb q b1)
      · exact q
      · exact absurd rr.sy (c.2.2 rb ra q a1)
    have hm : m ≤ a := by
      by_cases q : a < m
      · have := a4 q
        by_cases q2 : b < m
        · have := b4 q2; omega
        · have := (b5 (by omega)).1; omega
      · omega
    refine ⟨hm, ?_⟩
    obtain ⟨-, d1⟩ := a5 hm
    obtain ⟨-, d2⟩ := b5 (by omega)
    rw [← e] at d2
    have := Nat.dvd_sub d2 d1
    rw [show b - ra - (a - ra) = b - a by omega] at this
    exact this
  · rintro ⟨hm, k, hk⟩
    have key : ∀ k, rep y n0 R a (a + l * k) := by
      intro k
      induction k with
      | zero => exact ⟨rfl, rfl⟩
      | succ k ih =>
        have s := c.2.1.sh st (a + l * k - m)
        have : m ≤ a + l * k := by omega
        rw [show m + (a + l * k - m) = a + l * k by omega, show m + l + (a + l * k - m) = a + l * k + l by omega] at s
        rw [Nat.mul_succ, ← Nat.add_assoc]
        exact ih.tr s
    have := key k
    rw [show a + l * k = b by omega] at this
    exact this
/-- the first turn that comes again gives the loop -/
theorem cyc_turn (st : stp y n0 R) (hR : 0 < R) {m l : Nat} (c : CYC y n0 R m l) {s t : Nat} (hs : s < t) (e : y (s * R) = y (t * R)) (mi : ∀ s' t', s' < t' → t' < t → ¬ y (s' * R) = y (t' * R)) : (t - s) * R = l := by
  have l0 := c.1
  have lt : s * R < t * R := Nat.mul_lt_mul_of_pos_right hs hR
  have sub : ∀ a b, a ≤ b → b * R - a * R = (b - a) * R := fun a b h => (Nat.sub_mul b a R).symm
  have r : rep y n0 R (s * R) (t * R) := rep_of (Nat.le_of_lt lt) (by rw [sub s t (by omega)]; exact Nat.dvd_mul_left R _) e
  obtain ⟨h1, h2⟩ := (cyc_iff st c lt).mp r
  obtain ⟨q, hq⟩ := rep_dvd (Nat.le_add_right m l) c.2.1
  rw [Nat.add_sub_cancel_left] at hq
  rw [sub s t (by omega)] at h2
  have q0 : 0 < q := Nat.pos_of_ne_zero (fun z => by rw [z, Nat.mul_zero] at hq; omega)
  have h3 : q ∣ t - s := by
    rw [hq, Nat.mul_comm] at h2
    exact Nat.dvd_of_mul_dvd_mul_right hR h2
  have h4 : q ≤ t - s := Nat.le_of_dvd (by omega) h3
  have h5 : t - s = q := by
    by_cases o : q = t - s
    · exact o.symm
    · exfalso
      have lt2 : s * R < (s + q) * R := Nat.mul_lt_mul_of_pos_right (by omega) hR
      have r2 := (cyc_iff st c lt2).mpr ⟨h1, by rw [sub s (s + q) (by omega), Nat.add_sub_cancel_left, Nat.mul_comm, ← hq]; exact Nat.dvd_refl l⟩
      exact mi s (s + q) (by omega) (by omega) r2.1
  rw [h5, hq, Nat.mul_comm]
theorem cyc_lead (st : stp y n0 R) {m l : Nat} (c : CYC y n0 R m l) (k : Nat) : y k = y (k + l) ↔ m ≤ k := by
  have l0 := c.1
  have d := rep_dvd (Nat.le_add_right m l) c.2.1
  rw [Nat.add_sub_cancel_left] at d
  constructor
  · intro e
    exact ((cyc_iff st c (show k < k + l by omega)).mp (rep_of (by omega) (by rw [Nat.add_sub_cancel_left]; exact d) e)).1
  · intro q
    exact ((cyc_iff st c (show k < k + l by omega)).mpr ⟨q, by rw [Nat.add_sub_cancel_left]; exact Nat.dvd_refl l⟩).1
end CYC
/-- by how many days all that comes of itself comes again -/
def lcN (T : TW) : Nat → Nat
  | 0 => 1
  | i + 1 => Nat.lcm (lcN T i) (T 15 i)
set_option maxRecDepth 100000 in
theorem lc3 : ∀ a, a < 13 → ∀ b, b < 13 → ∀ c, c < 13 → Nat.lcm (Nat.lcm (Nat.lcm 1 a) b) c ≤ 990 := by decide +kernel
set_option maxRecDepth 100000 in
theorem lc2 : ∀ a, a < 13 → ∀ b, b < 13 → Nat.lcm (Nat.lcm 1 a) b ≤ 990 := by decide +kernel
theorem lc1 : ∀ a, a < 13 → Nat.lcm 1 a ≤ 990 := by decide +kernel
theorem lcN_le {T : TW} (hw : TWF T) {i : Nat} (hi : i ≤ T 0 4) : lcN T i ≤ 990 := by
  have w := hw.1.2.2.2.2
  have ws := hw.2.2.2.2.2.1
  have : i = 0 ∨ i = 1 ∨ i = 2 ∨ i = 3 := by omega
  rcases this with rfl | rfl | rfl | rfl
  · show 1 ≤ 990; decide
  · exact lc1 (T 15 0) (Nat.lt_succ_of_le (ws 0 (by omega)).2.2.1)
  · exact lc2 (T 15 0) (Nat.lt_succ_of_le (ws 0 (by omega)).2.2.1) (T 15 1) (Nat.lt_succ_of_le (ws 1 (by omega)).2.2.1)
  · exact lc3 (T 15 0) (Nat.lt_succ_of_le (ws 0 (by omega)).2.2.1) (T 15 1) (Nat.lt_succ_of_le (ws 1 (by omega)).2.2.1) (T 15 2) (Nat.lt_succ_of_le (ws 2 (by omega)).2.2.1)
theorem lcN_pos {T : TW} (hw : TWF T) : ∀ i, i ≤ T 0 4 → 0 < lcN T i := by
  intro i
  induction i with
  | zero => intro _; show 0 < 1; decide
  | succ i ih => intro hi; exact Nat.lcm_pos (ih (by omega)) (by have := (hw.2.2.2.2.2.1 i (by omega)).2.1; omega)
theorem lcN_dvd (T : TW) : ∀ i s, s < i → T 15 s ∣ lcN T i := by
  intro i
  induction i with
  | zero => intro s hs; omega
  | succ i ih =>
    intro s hs
    by_cases o : s = i
    · subst o; exact Nat.dvd_lcm_right _ _
    · exact Nat.dvd_trans (ih s (by omega)) (Nat.dvd_lcm_left _ _)
theorem lcm_div (a b : Nat) (ha : 0 < a) : a / Nat.gcd b a * b = Nat.lcm a b := by
  have g0 : 0 < Nat.gcd a b := Nat.gcd_pos_of_pos_left _ ha
  rw [Nat.gcd_comm]
  obtain ⟨q, hq⟩ := Nat.gcd_dvd_left a b
  show _ = a * b / Nat.gcd a b
  have e1 : a / Nat.gcd a b = q := Nat.div_eq_of_eq_mul_right g0 hq
  have e2 : a * b / Nat.gcd a b = q * b := Nat.div_eq_of_eq_mul_right g0 (by rw [← Nat.mul_assoc, ← hq])
  rw [e1, e2]
theorem sel_mod {T : TW} {n n' : Nat} (e : n % lcN T (T 0 4) = n' % lcN T (T 0 4)) : selN T n = selN T n' := by
  unfold selN
  refine mn_bits_cong _ (fun s hs => ?_)
  have d := lcN_dvd T (T 0 4) s hs
  rw [← Nat.mod_mod_of_dvd n d, e, Nat.mod_mod_of_dvd n' d]
theorem pos_sel {T : TW} {df my gr mo n n' y : Nat} (e : selN T n = selN T n') : posM T df my gr mo n y = posM T df my gr mo n' y := by
  have ec : ∀ r, cmN T df my gr mo n r = cmN T df my gr mo n' r := fun r => by unfold cmN ofN; rw [e]
  have ef : fitM T df my gr mo n y none = fitM T df my gr mo n' y none := by
    unfold fitM
    refine mn_bits_cong 64 (fun d _ => ?_)
    rw [ec]
  unfold posM
  rw [ef, ec]
noncomputable def nxN (T : TW) (df my y n : Nat) : Nat := kthN (posM T df my 9 0 n y) 0
noncomputable def yqN (T : TW) (df my n0 y0 : Nat) : Nat → Nat
  | 0 => y0
  | i + 1 => nxN T df my (yqN T df my n0 y0 i) (n0 + i)
theorem nxN_spec (T : TW) (df my y n : Nat) : nxN T df my y n < 64 ∧ (posM T df my 9 0 n y).testBit (nxN T df my y n) = true ∧ mn_pop (posM T df my 9 0 n y) (nxN T df my y n) = 0 := kthN_spec (pos_pop _ _ _ _ _ _ _)
theorem nxN_sel {T : TW} {df my y n n' : Nat} (e : selN T n = selN T n') : nxN T df my y n = nxN T df my y n' := by unfold nxN; rw [pos_sel e]
theorem nxN_mod {T : TW} {df my y n n' : Nat} (e : n % lcN T (T 0 4) = n' % lcN T (T 0 4)) : nxN T df my y n = nxN T df my y n' := nxN_sel (sel_mod e)
theorem yqN_lt {T : TW} {df my n0 y0 : Nat} (h : y0 < 64) (i : Nat) : yqN T df my n0 y0 i < 64 := by
  cases i with
  | zero => exact h
  | succ i => exact (nxN_spec T df my _ _).1
theorem yq_stp (T : TW) (df my n0 y0 : Nat) : stp (yqN T df my n0 y0) n0 (lcN T (T 0 4)) := by
  intro a b ⟨h1, h2⟩
  show nxN T df my _ (n0 + a) = nxN T df my _ (n0 + b)
  rw [h1, nxN_mod h2]
