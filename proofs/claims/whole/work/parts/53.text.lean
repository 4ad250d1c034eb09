/-- as long as p holds, from i on -/
def UN (p : Nat → Prop) (len i j : Nat) : Prop := i ≤ j ∧ j ≤ len ∧ (∀ k, i ≤ k → k < j → p k) ∧ ¬ (j < len ∧ p j)
theorem UN_ex (p : Nat → Prop) (len : Nat) : ∀ d i, i + d = len → ∃ j, UN p len i j := by
  intro d
  induction d with
  | zero => intro i hi; exact ⟨i, Nat.le_refl _, by omega, fun k h1 h2 => by omega, fun z => by omega⟩
  | succ d ih =>
    intro i hi
    by_cases o : p i
    · obtain ⟨j, h1, h2, h3, h4⟩ := ih (i + 1) (by omega)
      refine ⟨j, by omega, h2, fun k k1 k2 => ?_, h4⟩
      by_cases q : k = i
      · rw [q]; exact o
      · exact h3 k (by omega) k2
    · exact ⟨i, Nat.le_refl _, by omega, fun k h1 h2 => by omega, fun z => o z.2⟩
theorem UN_get (p : Nat → Prop) {len i : Nat} (hi : i ≤ len) : ∃ j, UN p len i j := UN_ex p len (len - i) i (by omega)
def SK (C : Nat → Nat) (len i j : Nat) : Prop := UN (fun k => C k = 32) len i j
def DG (C : Nat → Nat) (len i j : Nat) : Prop := UN (fun k => 48 ≤ C k ∧ C k ≤ 57) len i j
def dvN (C : Nat → Nat) (i : Nat) : Nat → Nat
  | 0 => 0
  | n + 1 => dvN C i n * 10 + (C (i + n) - 48)
def kdN (c : Nat) : Nat := if c = 99 then 0 else if c = 109 then 1 else if c = 100 then 2 else if c = 107 then 3 else if c = 121 then 4 else 5
def fz (f e : Nat) : Nat := if f = 0 then e else f
def gz (f e : Nat) (g : Int32) (p : Nat) : Int32 := if f = 0 ∧ e ≠ 0 then nI p else g
def numE (C : Nat → Nat) (lo hb i j : Nat) : Nat := if j = i then 1 else if 3 < j - i ∨ dvN C i (min (j - i) 3) < lo ∨ hb ≤ dvN C i (min (j - i) 3) then 2 else 0
def TX (h : mn_H) (r : Nat) (len : Nat) (C : Nat → Nat) : Prop := len ≤ 250 ∧ ∀ k, k < len → C k < 256 ∧ h r k = nI (C k)
def RC (h : mn_H) (len : Nat) (C : Nat → Nat) (i f : Nat) (g : Int32) : Prop := TX h 2 len C ∧ h 1 1 = nI len ∧ h 1 2 = nI i ∧ i ≤ len ∧ h 1 4 = nI f ∧ h 1 5 = g
def oF (h hh : mn_H) : Prop := ∀ b, b ≠ 1 → hh b = h b
theorem oF.rf (h : mn_H) : oF h h := fun _ _ => rfl
theorem oF.tr {h h1 h2 : mn_H} (a : oF h h1) (b : oF h1 h2) : oF h h2 := fun c x => (b c x).trans (a c x)
theorem oF.up {h hh : mn_H} {k : Nat} {x : Int32} (f : oF h hh) : oF h (mn_up hh 1 k x) := fun b q => by rw [mn_up_row _ _ _ _ q]; exact f b q
theorem TX.row {h hh : mn_H} {r len : Nat} {C : Nat → Nat} (e : hh r = h r) (t : TX h r len C) : TX hh r len C := by unfold TX at t ⊢; rw [e]; exact t
theorem dv_lt {C : Nat → Nat} {len i j : Nat} (d : DG C len i j) : ∀ n, i + n ≤ j → n ≤ 3 → dvN C i n < 10 ^ n := by
  intro n
  induction n with
  | zero => intro _ _; show 0 < 1; decide
  | succ n ih =>
    intro h1 h2
    have := ih (by omega) (by omega)
    have q := d.2.2.1 (i + n) (by omega) (by omega)
    rw [dvN, Nat.pow_succ]
    omega
theorem dv_999 {C : Nat → Nat} {len i j : Nat} (d : DG C len i j) {n : Nat} (h1 : i + n ≤ j) (h2 : n ≤ 3) : dvN C i n ≤ 999 := by
  have := dv_lt d n h1 h2
  have : 10 ^ n ≤ 10 ^ 3 := Nat.pow_le_pow_right (by decide) h2
  omega
section RD
variable {h hh : mn_H} {len i j f : Nat} {C : Nat → Nat} {g : Int32}
theorem RC.at (r : RC h len C i f g) {k : Nat} (hk : k ≤ len) : RC (mn_up h 1 2 (nI k)) len C k f g := by
  obtain ⟨a, b, c, d, e, q⟩ := r
  refine ⟨a.row (mn_up_row _ _ _ _ (by decide)), ?_, ?_, hk, ?_, ?_⟩ <;> simp [mn_up_get] <;> first | exact b | exact e | exact q
theorem RC.s3 (r : RC h len C i f g) {x : Int32} : RC (mn_up h 1 3 x) len C i f g := by
  obtain ⟨a, b, c, d, e, q⟩ := r
  refine ⟨a.row (mn_up_row _ _ _ _ (by decide)), ?_, ?_, d, ?_, ?_⟩ <;> simp [mn_up_get] <;> first | exact b | exact c | exact e | exact q
theorem RC.lt (r : RC h len C i f g) (hi : i < len) : vp_in (h 1 2) 250 ∧ h 2 (h 1 2).toNatClampNeg = nI (C i) ∧ C i < 256 := by
  obtain ⟨⟨a1, a2⟩, b, c, d, e, q⟩ := r
  refine ⟨by rw [c]; exact vp_in_nI (by omega) (by decide), ?_, (a2 i hi).1⟩
  rw [c, nI_clamp (by omega)]; exact (a2 i hi).2
theorem x_skip (r : RC h len C i f g) (s : SK C len i j) : ∃ h', mn_X 23 [.ref 1] h none h' ∧ oF h h' ∧ RC h' len C j f g ∧ h' 1 3 = h 1 3 := by
  obtain ⟨s1, s2, s3, s4⟩ := s
  have l250 := r.1.1
  have key : ∀ d i hh, i + d = j → oF h hh → RC hh len C i f g → hh 1 3 = h 1 3 → (∀ k, i ≤ k → k < j → C k = 32) → ∃ h', mn_E 23 0 [.ref 1] [] hh none h' ∧ oF h h' ∧ RC h' len C j f g ∧ h' 1 3 = h 1 3 := by
    intro d
    induction d with
    | zero =>
      intro i hh e o r e3 _
      have : i = j := by omega
      subst this
      refine ⟨hh, ?_, o, r, e3⟩
      rw [b_X2_skipBlanks_0, r.2.1, r.2.2.1]
      by_cases q : i < len
      · obtain ⟨v, w, c⟩ := r.lt q
        rw [if_neg (nI_ge q (by omega)), b_X2_skipBlanks_11 v, w, if_pos (show ¬ nI (C i) = 32 from fun z => s4 ⟨q, (nI_eq (b := 32) (by omega) (by decide)).mp z⟩), b_X2_skipBlanks_38]
        exact ⟨rfl, rfl⟩
      · rw [if_pos (nI_le (by omega) (by omega)), b_X2_skipBlanks_38]; exact ⟨rfl, rfl⟩
    | succ d ih =>
      intro i hh e o r e3 al
      have q : i < len := by omega
      obtain ⟨v, w, c⟩ := r.lt q
      obtain ⟨h', a, b, c', d'⟩ := ih (i + 1) (mn_up hh 1 2 (nI (i + 1))) (by omega) o.up (r.at (by omega)) (by rw [mn_up_get, if_neg (by decide)]; exact e3) (fun k k1 k2 => al k (by omega) k2)
      refine ⟨h', ?_, b, c', d'⟩
      rw [b_X2_skipBlanks_0, r.2.1, r.2.2.1, if_neg (nI_ge q (by omega)), b_X2_skipBlanks_11 v, w, al i (Nat.le_refl _) (by omega), if_neg (show ¬ ¬ nI 32 = 32 from fun z => z rfl), b_X2_skipBlanks_25, r.2.2.1, nI_1]
      exact a
  obtain ⟨h', a, b⟩ := key (j - i) i h (by omega) (oF.rf h) r rfl s3
  exact ⟨h', by rw [e_X2_skipBlanks]; exact a, b⟩
theorem x_blame (r : RC h len C i f g) {e p : Nat} (he : e ≠ 0) (hf : f < 10) : ∃ h', mn_X 24 [.ref 1, .int (nI e), .int (nI p)] h none h' ∧ oF h h' ∧ RC h' len C i (fz f e) (gz f e g p) ∧ h' 1 3 = h 1 3 := by
  obtain ⟨a, b, c, d, e', q⟩ := id r
  by_cases o : f = 0
  · subst o
    refine ⟨mn_up (mn_up h 1 4 (nI e)) 1 5 (nI p), ?_, (oF.rf h).up.up, ?_, by rw [mn_up_get, if_neg (by decide), mn_up_get, if_neg (by decide)]⟩
    · rw [e_X2_blame, b_X2_blame_0, e', if_neg (show ¬ ¬ nI 0 = 0 from fun z => z rfl), b_X2_blame_7, b_X2_blame_17]; exact ⟨rfl, rfl⟩
    · unfold fz gz
      rw [if_pos rfl, if_pos ⟨rfl, he⟩]
      refine ⟨a.row (by rw [mn_up_row _ _ _ _ (by decide), mn_up_row _ _ _ _ (by decide)]), ?_, ?_, d, ?_, ?_⟩ <;> simp [mn_up_get] <;> first | exact b | exact c
  · refine ⟨h, ?_, oF.rf h, ?_, rfl⟩
    · rw [e_X2_blame, b_X2_blame_0, e', if_pos (nI_ne0 (by omega) (by omega)), b_X2_blame_17]; exact ⟨rfl, rfl⟩
    · unfold fz gz
      rw [if_neg o, if_neg (fun z => o z.1)]; exact r
theorem fz0 (f : Nat) : fz f 0 = f := by unfold fz; split <;> omega
theorem gz0 (f : Nat) (g : Int32) (p : Nat) : gz f 0 g p = g := by unfold gz; rw [if_neg (fun z => z.2 rfl)]
theorem nI_lep {v hb : Nat} (hv : v < 2 ^ 30) (hh : hb < 2 ^ 30) : (nI v ≤ nI hb - 1) ↔ v < hb := by
  rw [Int32.le_iff_toInt_le, nI_toInt (by omega)]
  have : (nI hb - 1).toInt = (hb : Int) - 1 := by
    cases hb with
    | zero => decide
    | succ m => rw [nI_pred, nI_toInt (by omega)]; omega
  rw [this]; omega
theorem x_readNum {i0 lo hb : Nat} (r : RC h len C i f g) (hf : f < 10) (s : SK C len i i0) (d : DG C len i0 j) (hlo : lo < 2 ^ 30) (hhb : hb < 2 ^ 30) : ∃ h', mn_X 21 [.ref 1, .int (nI lo), .int (nI hb - 1)] h (some (.int (nI (dvN C i0 (min (j - i0) 3))))) h' ∧ oF h h' ∧ RC h' len C j (fz f (numE C lo hb i0 j)) (gz f (numE C lo hb i0 j) g i0) ∧ h' 1 3 = nI i0 := by
  obtain ⟨h1, x1, o1, r1, -⟩ := x_skip r s
  have l250 := r.1.1
  obtain ⟨d1, d2, d3, d4⟩ := id d
  have key : ∀ n, i0 + n ≤ j → ∃ h2, oF h h2 ∧ RC h2 len C (i0 + n) f g ∧ h2 1 3 = nI i0 ∧ ∀ q h', mn_E 21 14 [.ref 1, .int (nI lo), .int (nI hb - 1), .int (nI (dvN C i0 (min n 3)))] [] h2 q h' → mn_E 21 14 [.ref 1, .int (nI lo), .int (nI hb - 1), .int 0] [] (mn_up h1 1 3 (h1 1 2)) q h' := by
    intro n
    induction n with
    | zero => intro _; exact ⟨_, o1.up, r1.s3, by rw [mn_up_get, if_pos ⟨rfl, rfl⟩]; exact r1.2.2.1, fun q h' z => z⟩
    | succ n ih =>
      intro hn
      obtain ⟨h2, o2, r2, e2, E2⟩ := ih (by omega)
      have q : i0 + n < len := by omega
      obtain ⟨v, w, c⟩ := r2.lt q
      obtain ⟨b1, b2⟩ := d3 (i0 + n) (by omega) (by omega)
      refine ⟨mn_up h2 1 2 (nI (i0 + (n + 1))), o2.up, r2.at (by omega), by rw [mn_up_get, if_neg (by decide)]; exact e2, fun q' h' z => E2 q' h' ?_⟩
      rw [b_X2_readNumber_14, r2.2.1, r2.2.2.1, if_neg (nI_ge q (by omega)), b_X2_readNumber_25 v, w, if_neg (show ¬ nI _ < 48 from nI_nlt (b := 48) b1 (by omega)), b_X2_readNumber_39 v, w, if_neg (show ¬ (57 : Int32) < nI _ from nI_nlt (a := 57) b2 (by decide)), b_X2_readNumber_53, r2.2.2.1, e2, pk_sub (by omega), Nat.add_sub_cancel_left]
      by_cases o : n < 3
      · have dl := dv_999 d (n := n) (by omega) (by omega)
        rw [show min n 3 = n by omega, if_neg (show ¬ (3 : Int32) ≤ nI n from nI_ge (b := 3) o (by decide)), b_X2_readNumber_66 v, w, b_X2_readNumber_84, r2.2.2.1, nI_1, show (10 : Int32) = nI 10 from rfl, show (48 : Int32) = nI 48 from rfl, pk_mul, pk_sub b1, nI_add]
        rw [show min (n + 1) 3 = n + 1 by omega] at z
        exact z
      · rw [if_pos (show (3 : Int32) ≤ nI n from nI_le (a := 3) (by omega) (by omega)), b_X2_readNumber_84, r2.2.2.1, nI_1, show min n 3 = min (n + 1) 3 by omega]
        exact z
  obtain ⟨h2, o2, r2, e2, E2⟩ := key (j - i0) (by omega)
  rw [show i0 + (j - i0) = j by omega] at r2
  have stop : ∀ q h', mn_E 21 97 [.ref 1, .int (nI lo), .int (nI hb - 1), .int (nI (dvN C i0 (min (j - i0) 3)))] [] h2 q h' → mn_X 21 [.ref 1, .int (nI lo), .int (nI hb - 1)] h q h' := by
    intro q h' z
    rw [e_X2_readNumber, b_X2_readNumber_0, mn_cl_v x1, b_X2_readNumber_4]
    apply E2
    rw [b_X2_readNumber_14, r2.2.1, r2.2.2.1]
    by_cases q : j < len
    · obtain ⟨v, w, c⟩ := r2.lt q
      rw [if_neg (nI_ge q (by omega)), b_X2_readNumber_25 v, w]
      by_cases q1 : C j < 48
      · rw [if_pos (show nI _ < 48 from nI_lt (b := 48) q1 (by decide))]; exact z
      · rw [if_neg (show ¬ nI _ < 48 from nI_nlt (b := 48) (by omega) (by omega)), b_X2_readNumber_39 v, w, if_pos (show (57 : Int32) < nI _ from nI_lt (a := 57) (by have : ¬ (48 ≤ C j ∧ C j ≤ 57) := fun y => d4 ⟨q, y⟩; omega) (by omega))]
        exact z
    · rw [if_pos (nI_le (by omega) (by omega))]; exact z
  have dl := dv_999 d (n := min (j - i0) 3) (by omega) (by omega)
  have vl := nI_lep (v := dvN C i0 (min (j - i0) 3)) (hb := hb) (by omega) hhb
  obtain ⟨V, eV⟩ : ∃ V, V = dvN C i0 (min (j - i0) 3) := ⟨_, rfl⟩
  unfold numE
  rw [← eV] at stop dl vl ⊢
  have bad : ∀ e, e = 2 → 0 < j - i0 → (∃ h', mn_E 21 143 [.ref 1, .int (nI lo), .int (nI hb - 1), .int (nI V)] [] h2 (some (.int (nI V))) h' ∧ oF h h' ∧ RC h' len C j (fz f e) (gz f e g i0) ∧ h' 1 3 = nI i0) := by
    intro e he hp
    subst he
    obtain ⟨h3, x3, o3, r3, e3⟩ := x_blame (e := 2) (p := i0) r2 (by decide) hf
    refine ⟨h3, ?_, o2.tr o3, r3, by rw [e3]; exact e2⟩
    rw [b_X2_readNumber_143, e2]
    rw [mn_cl_v (show mn_X 24 [.ref 1, .int 2, .int (nI i0)] h2 none h3 from x3), b_X2_readNumber_152]; exact ⟨rfl, rfl⟩
  by_cases o : j = i0
  · obtain ⟨h3, x3, o3, r3, e3⟩ := x_blame (e := 1) (p := i0) r2 (by decide) hf
    rw [if_pos o]
    refine ⟨h3, stop _ _ ?_, o2.tr o3, r3, by rw [e3]; exact e2⟩
    rw [b_X2_readNumber_97, r2.2.2.1, e2, o, if_neg (fun z => z rfl), b_X2_readNumber_108, r2.2.2.1, o]
    rw [mn_cl_v (show mn_X 24 [.ref 1, .int 1, .int (nI i0)] h2 none h3 from x3), b_X2_readNumber_117, b_X2_readNumber_152]; exact ⟨rfl, rfl⟩
  · rw [if_neg o]
    have hd : ∀ q h', mn_E 21 97 [.ref 1, .int (nI lo), .int (nI hb - 1), .int (nI V)] [] h2 q h' ↔ (if (3 : Int32) < nI (j - i0) then mn_E 21 143 [.ref 1, .int (nI lo), .int (nI hb - 1), .int (nI V)] [] h2 q h' else mn_E 21 133 [.ref 1, .int (nI lo), .int (nI hb - 1), .int (nI V)] [] h2 q h') := by
      intro q h'
      rw [b_X2_readNumber_97, r2.2.2.1, e2, if_pos (fun z => o ((nI_eq (by omega) (by omega)).mp z)), b_X2_readNumber_120, r2.2.2.1, e2, pk_sub (by omega)]
    by_cases o1 : 3 < j - i0
    · rw [if_pos (Or.inl o1)]
      obtain ⟨h', z, w⟩ := bad 2 rfl (by omega)
      exact ⟨h', stop _ _ (by rw [hd, if_pos (show (3 : Int32) < nI _ from nI_lt (a := 3) o1 (by omega))]; exact z), w⟩
    · by_cases o2' : V < lo
      · rw [if_pos (Or.inr (Or.inl o2'))]
        obtain ⟨h', z, w⟩ := bad 2 rfl (by omega)
        exact ⟨h', stop _ _ (by rw [hd, if_neg (show ¬ (3 : Int32) < nI _ from nI_nlt (a := 3) (by omega) (by decide)), b_X2_readNumber_133, if_pos (nI_lt o2' (by omega))]; exact z), w⟩
      · by_cases o3 : hb ≤ V
        · rw [if_pos (Or.inr (Or.inr o3))]
          obtain ⟨h', z, w⟩ := bad 2 rfl (by omega)
          exact ⟨h', stop _ _ (by rw [hd, if_neg (show ¬ (3 : Int32) < nI _ from nI_nlt (a := 3) (by omega) (by decide)), b_X2_readNumber_133, if_neg (nI_nlt (by omega) (by omega)), b_X2_readNumber_138, if_neg (fun y => by have := vl.mp y; omega)]; exact z), w⟩
        · rw [if_neg (by omega), fz0, gz0]
          refine ⟨h2, stop _ _ ?_, o2, r2, e2⟩
          rw [hd, if_neg (show ¬ (3 : Int32) < nI _ from nI_nlt (a := 3) (by omega) (by decide)), b_X2_readNumber_133, if_neg (nI_nlt (by omega) (by omega)), b_X2_readNumber_138, if_pos (vl.mpr (by omega)), b_X2_readNumber_152]
          exact ⟨rfl, rfl⟩
end RD
