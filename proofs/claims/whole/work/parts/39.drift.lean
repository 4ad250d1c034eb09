def drw (sd : Nat) : Nat := (sd * 1103515245 + 12345) % 2 ^ 31
noncomputable def kthN (m k : Nat) : Nat := Classical.epsilon (fun d => d < 64 ∧ m.testBit d = true ∧ mn_pop m d = k)
theorem kthN_spec {m k : Nat} (hk : k < mn_pop m 64) : kthN m k < 64 ∧ m.testBit (kthN m k) = true ∧ mn_pop m (kthN m k) = k := Classical.epsilon_spec (mn_kth 64 hk)
theorem drw_lt (sd : Nat) : drw sd < 2 ^ 31 := Nat.mod_lt _ (by decide)
theorem drw_l {sd : Nat} (h : sd < 2 ^ 31) : ((((nI sd).toInt64 * 1103515245) + 12345) &&& 2147483647).toInt32 = nI (drw sd) := by
  rw [nI_l h, show (1103515245 : Int64) = lN 1103515245 from rfl, show (12345 : Int64) = lN 12345 from rfl, lN_mul, lN_add, show (2147483647 : Int64) = lN (2 ^ 31 - 1) from rfl, wb_mask (k := 31) (by omega) (by decide), lN_i]
  rfl
theorem drw_m (N : Nat) : nI N &&& 2147483647 = nI (N % 2 ^ 31) := by
  rw [pk_and _ 31 (by decide), show (nI N).toBitVec.toNat = N % 2 ^ 32 from BitVec.toNat_ofNat _ _, Nat.mod_mod_of_dvd N (show 2 ^ 31 ∣ 2 ^ 32 by decide)]
theorem drw_i (sd : Nat) : ((nI sd * 1103515245) + 12345) &&& 2147483647 = nI (drw sd) := by
  rw [show (1103515245 : Int32) = nI 1103515245 from rfl, show (12345 : Int32) = nI 12345 from rfl, pk_mul, nI_add, drw_m, drw]
/-- days by draws: what was lived, how many, the seed -/
noncomputable def drst (T : TW) (df my : Nat) (q : (Nat → Nat) × Nat × Nat) : (Nat → Nat) × Nat × Nat :=
  (pushS q.1 q.2.1 (kthN (posM T df my 9 0 q.2.1 (q.1 q.2.1)) (drw q.2.2 / 65536 % mn_pop (posM T df my 9 0 q.2.1 (q.1 q.2.1)) 64)), q.2.1 + 1, drw q.2.2)
noncomputable def drI (T : TW) (df my : Nat) (q : (Nat → Nat) × Nat × Nat) : Nat → (Nat → Nat) × Nat × Nat
  | 0 => q
  | i + 1 => drst T df my (drI T df my q i)
theorem pos_pop (T : TW) (df my gr mo n y : Nat) : 1 ≤ mn_pop (posM T df my gr mo n y) 64 := mn_pop1 (posM_lt _ _ _ _ _ _ _) (posM_ne _ _ _ _ _ _ _)
section PQ
variable {h hh : mn_H} {T : TW} {S : Nat → Nat} {n df my sd d t : Nat}
theorem drI_n (q : (Nat → Nat) × Nat × Nat) (i : Nat) : (drI T df my q i).2.1 = q.2.1 + i := by
  induction i with
  | zero => rfl
  | succ i ih => show (drI T df my q i).2.1 + 1 = _; rw [ih]; omega
theorem drI_old (q : (Nat → Nat) × Nat × Nat) (i : Nat) {k : Nat} (hk : k ≤ q.2.1) : (drI T df my q i).1 k = q.1 k := by
  induction i with
  | zero => rfl
  | succ i ih =>
    show pushS (drI T df my q i).1 (drI T df my q i).2.1 _ k = _
    rw [pushS_old (by rw [drI_n]; omega)]; exact ih
theorem dr_day (q : (Nat → Nat) × Nat × Nat) : kthN (posM T df my 9 0 q.2.1 (q.1 q.2.1)) (drw q.2.2 / 65536 % mn_pop (posM T df my 9 0 q.2.1 (q.1 q.2.1)) 64) < 64 :=
  (kthN_spec (Nat.mod_lt _ (pos_pop _ _ _ _ _ _ _))).1
theorem drI_b {q : (Nat → Nat) × Nat × Nat} {j : Nat} (b : BST T q.1 q.2.1 df my q.2.2) (hj : q.2.1 + j ≤ 60) {i : Nat} (hi : i ≤ j) : BST T (drI T df my q i).1 (drI T df my q i).2.1 df my (drI T df my q i).2.2 := by
  induction i with
  | zero => exact b
  | succ i ih =>
    have b1 := ih (by omega)
    have b2 := b1.push (d := kthN (posM T df my 9 0 (drI T df my q i).2.1 ((drI T df my q i).1 (drI T df my q i).2.1)) (drw (drI T df my q i).2.2 / 65536 % mn_pop (posM T df my 9 0 (drI T df my q i).2.1 ((drI T df my q i).1 (drI T df my q i).2.1)) 64)) (by rw [drI_n]; omega) (dr_day _)
    exact ⟨b2.1, b2.2.1, b2.2.2.1, b2.2.2.2.1, drw_lt _⟩
theorem x_draw (c : CST h 3 4 T S n df my sd) (hs : sd < 2 ^ 31) {p : Nat} (h1 : 1 ≤ p) (h2 : p ≤ 64) : ∃ h', mn_X 9 [.ref 3, .int (nI p)] h (some (.int (nI (drw sd / 65536 % p)))) h' ∧ cF h h' ∧ CST h' 3 4 T S n df my (drw sd) := by
  have hC : mn_isC 3 := Or.inl rfl
  have dl := drw_lt sd
  obtain ⟨c1, c2, c3, c4, c5, c6, c7⟩ := c
  have e : ∀ k, mn_up h 3 6 (nI (drw sd)) 3 k = if k = 6 then nI (drw sd) else h 3 k := fun k => by rw [mn_up_get]; by_cases o : k = 6 <;> simp [o]
  refine ⟨mn_up h 3 6 (nI (drw sd)), ?_, fun b h3 h4 => mn_up_row _ _ _ _ h3, ?_⟩
  · rw [e_X1_draw, b_X1_draw_0 hC, if_neg (nI_nle (by omega) (by omega)), c6, drw_l hs, b_X1_draw_26 hC (nI_ne0 (by omega) (by omega)), e, if_pos rfl, show (65536 : Int32) = nI 65536 from rfl, pk_div dl (by decide) (by decide), pk_rem (by omega) (by omega) (by omega), b_X1_draw_39 hC]
    exact ⟨rfl, rfl⟩
  · refine ⟨by rw [e]; exact c1, by rw [e]; exact c2, by rw [e]; exact c3, by rw [e]; exact c4, by rw [e]; exact c5, by rw [e]; rfl, fun k hk => ?_⟩
    rw [mn_up_row _ _ _ _ (by decide)]; exact c7 k hk
theorem x_mdraw (c : MST h S n df my sd) {p : Nat} (h1 : 1 ≤ p) (h2 : p ≤ 64) : mn_X 161 [.ref 63, .int (nI p)] h (some (.int (nI (drw sd / 65536 % p)))) (mn_up h 67 3 (nI (drw sd))) ∧ MST (mn_up h 67 3 (nI (drw sd))) S n df my (drw sd) := by
  have dl := drw_lt sd
  obtain ⟨c1, c2, c3, c4, c5⟩ := c
  have e : ∀ k, mn_up h 67 3 (nI (drw sd)) 67 k = if k = 3 then nI (drw sd) else h 67 k := fun k => by rw [mn_up_get]; by_cases o : k = 3 <;> simp [o]
  refine ⟨?_, by rw [e]; exact c1, by rw [e]; exact c2, by rw [e]; exact c3, by rw [e]; rfl, fun k hk => by rw [e, if_neg (by omega)]; exact c5 k hk⟩
  rw [e_X8_draw, b_X8_draw_0 (nI_ne0 (by omega) (by omega)), nl3, c4, drw_i, e, if_pos rfl, show (65536 : Int32) = nI 65536 from rfl, pk_div dl (by decide) (by decide), pk_rem (by omega) (by omega) (by omega)]
  exact ⟨rfl, rfl⟩
theorem cF.trv {gr mo : Nat} (f : cF h hh) (v : trV h T df my gr mo) : trV hh T df my gr mo := by
  unfold trV at v ⊢
  rw [f 18 (by decide) (by decide), f 19 (by decide) (by decide)]; exact v
theorem x_drift (r : RN h T S n df my sd) (hv : trV h T df my 9 0) {j : Nat} (hj : n + j ≤ 60) {x : Int32} {w4 w6 : Value} : ∃ h', mn_E 81 45 [.ref 0, .int (nI j), .int x, .int (nI 0), w4, .null, w6] [] h (some (.int (hsN T (drI T df my (S, n, sd) j).1 (n + j) - x))) h' ∧ cF h h' ∧ CST h' 3 4 T (drI T df my (S, n, sd) j).1 (n + j) df my (drI T df my (S, n, sd) j).2.2 := by
  have bb := fun {i} => drI_b (T := T) (df := df) (my := my) (q := (S, n, sd)) (j := j) r.bst hj (i := i)
  have nn : ∀ i, (drI T df my (S, n, sd) i).2.1 = n + i := drI_n (S, n, sd)
  have key := mn_linv (n := j) (E := fun i h r h' => ∀ w4 w6 : Value, mn_E 81 45 [.ref 0, .int (nI j), .int x, .int (nI i), w4, .null, w6] [] h r h') (I := fun i hh => cF h hh ∧ CST hh 3 4 T (drI T df my (S, n, sd) i).1 (n + i) df my (drI T df my (S, n, sd) i).2.2) (P := fun r h' => r = some (.int (hsN T (drI T df my (S, n, sd) j).1 (n + j) - x)) ∧ cF h h' ∧ CST h' 3 4 T (drI T df my (S, n, sd) j).1 (n + j) df my (drI T df my (S, n, sd) j).2.2) ?_ ?_ 0 h (Nat.zero_le _) ⟨cF.rf h, r.cst⟩
  · obtain ⟨rr, h', a, rfl, b, c⟩ := key
    exact ⟨h', a _ _, b, c⟩
  · intro hh ⟨f, c⟩
    refine ⟨_, hh, fun w4 w6 => ?_, rfl, f, c⟩
    rw [b_X7_drift_45, if_pos (Int32.le_refl _), b_X7_drift_127, c.2.2.1]
    exact ⟨rfl, rfl⟩
  · intro i hh hi ⟨f, c⟩
    have b1 := bb (show i ≤ j by omega)
    obtain ⟨q, eq⟩ : ∃ q, q = drI T df my (S, n, sd) i := ⟨_, rfl⟩
    have e1 : drI T df my (S, n, sd) (i + 1) = drst T df my q := by rw [eq]; rfl
    rw [e1]
    have nq := nn i
    rw [← eq] at c b1 nq
    rw [nq] at b1
    have cn := CN.cF f r.1 c b1
    have ehr : mn_hr hh = mn_hr h := cn.1
    have hT := r.hT
    have d64 := dr_day (T := T) (df := df) (my := my) q
    unfold drst
    rw [nq] at d64 ⊢
    obtain ⟨m, em⟩ : ∃ m, m = posM T df my 9 0 (n + i) (q.1 (n + i)) := ⟨_, rfl⟩
    have xp := x_X6_possible (n := n + i) cn.2.1 cn.2.2.2.1 cn.2.2.1 (f.trv hv) (b1.2.1 (n + i) (Nat.le_refl _))
    have pp : 1 ≤ mn_pop m 64 := by rw [em]; exact pos_pop _ _ _ _ _ _ _
    have pl : m < 2 ^ 64 := by rw [em]; exact posM_lt _ _ _ _ _ _ _
    have p6 := mn_pop_le m 64
    rw [← em] at xp d64 ⊢
    obtain ⟨k1, k2, k3⟩ := kthN_spec (m := m) (k := drw q.2.2 / 65536 % mn_pop m 64) (Nat.mod_lt _ pp)
    obtain ⟨d, ed⟩ : ∃ d, d = kthN m (drw q.2.2 / 65536 % mn_pop m 64) := ⟨_, rfl⟩
    rw [← ed] at k1 k2 k3 d64 ⊢
    obtain ⟨h1, x1, f1, c1⟩ := x_draw c b1.2.2.2.2 pp p6
    obtain ⟨h2, x2, f2, c2⟩ := x_pass c1 (by omega) d
    have fx := f.tr f1
    have ct1 : CT h1 (mn_hr h) T := CT_rows (fun k hk => f1 _ (by rcases hT with e | e <;> rw [e] <;> omega) (by rcases hT with e | e <;> rw [e] <;> omega)) cn.2.2.2.1
    have ehr1 : mn_hr h1 = mn_hr h := by rw [← ehr]; unfold mn_hr; rw [f1 0 (by decide) (by decide)]
    refine ⟨h2, ⟨fx.tr f2, c2⟩, fun rr h' hE w4 w6 => ?_⟩
    rw [b_X7_drift_45, if_neg (nI_ge hi (by omega)), b_X7_drift_50 (by rw [ehr]; exact hT), mn_cl_i (x_dayBefore cn), ehr, b_X7_drift_65 hT (by rw [ehr]; exact hT), ehr, cn.2.2.2.2.2.1, mn_cl_i (x_X5_selvesOn hT cn.2.2.2.1 cn.2.2.1 (show n + i < 2 ^ 30 by omega)), b_X7_drift_79 hT, mn_cl_l xp, b_X7_drift_82, mn_cl_i (x_lbitCount pl), b_X7_drift_95, mn_cl_i x1, b_X7_drift_98, mn_cl_i (x_dayAt_some pl k1 k2 k3), b_X7_drift_101 (by rw [ehr1]; exact hT), ehr1, mn_cl_i (x_X5_harmOf hT ct1 k1), b_X7_drift_118, mn_cl_v x2, b_X7_drift_121, nI_1]
    exact hE _ _
/-- only the model's state, its row and what it tries with have changed -/
def dF (h hh : mn_H) : Prop := (∀ b, b ≠ 63 → b ≠ 67 → b ≠ 72 → b ≠ 73 → hh b = h b) ∧ ∀ k, k < 13 → hh 63 k = h 63 k
theorem dF.rf (h : mn_H) : dF h h := ⟨fun _ _ _ _ _ => rfl, fun _ _ => rfl⟩
theorem dF.tr {h h1 h2 : mn_H} (a : dF h h1) (b : dF h1 h2) : dF h h2 := ⟨fun c x y z u => (b.1 c x y z u).trans (a.1 c x y z u), fun k hk => (b.2 k hk).trans (a.2 k hk)⟩
theorem mdF.dd (f : mdF h hh) : dF h hh := ⟨fun b x _ y z => f.1 b x y z, f.2⟩
theorem dF.up (f : dF h hh) {k : Nat} {x : Int32} : dF h (mn_up hh 67 k x) := ⟨fun b x y z u => by rw [mn_up_row _ _ _ _ y]; exact f.1 b x y z u, fun k hk => by rw [mn_up_row _ _ _ _ (by decide)]; exact f.2 k hk⟩
theorem dF.nf (f : dF h hh) : NF h hh := ⟨fun b _ _ y _ _ x z u => f.1 b x y z u, f.2⟩
theorem MN.of (m : MST h S n df my sd) (t : MT h T) : MN h T S n df my := ⟨t, m.1, m.2.1, m.2.2.1, m.2.2.2.2⟩
theorem x_mdrift (hm : MT h T) (ms : MST h S n df my sd) (hw : TWF T) (bs : BST T S n df my sd) {j : Nat} (hj : n + j ≤ 60) {w4 : Value} : ∃ h' w4', dF h h' ∧ MST h' (drI T df my (S, n, sd) j).1 (n + j) df my (drI T df my (S, n, sd) j).2.2 ∧ ∀ r h'', mn_E 162 97 [.ref 63, .int (nI j), .int (nI n), .int (nI j), w4'] [] h' r h'' → mn_E 162 38 [.ref 63, .int (nI j), .int (nI n), .int (nI 0), w4] [] h r h'' := by
  have bb := fun {i} => drI_b (T := T) (df := df) (my := my) (q := (S, n, sd)) (j := j) bs hj (i := i)
  have nn : ∀ i, (drI T df my (S, n, sd) i).2.1 = n + i := drI_n (S, n, sd)
  have p6 := mn_pw6 hw
  have key : ∀ i, i ≤ j → ∃ h' w4', dF h h' ∧ MST h' (drI T df my (S, n, sd) i).1 (n + i) df my (drI T df my (S, n, sd) i).2.2 ∧ ∀ r h'', mn_E 162 38 [.ref 63, .int (nI j), .int (nI n), .int (nI i), w4'] [] h' r h'' → mn_E 162 38 [.ref 63, .int (nI j), .int (nI n), .int (nI 0), w4] [] h r h'' := by
    intro i
    induction i with
    | zero => intro _; exact ⟨h, w4, dF.rf h, ms, fun r h'' z => z⟩
    | succ i ih =>
      intro hi
      obtain ⟨hh, w, f, m, E⟩ := ih (by omega)
      have b1 := bb (show i ≤ j by omega)
      obtain ⟨q, eq⟩ : ∃ q, q = drI T df my (S, n, sd) i := ⟨_, rfl⟩
      have e1 : drI T df my (S, n, sd) (i + 1) = drst T df my q := by rw [eq]; rfl
      rw [e1]
      have nq := nn i
      rw [← eq] at m b1 nq
      rw [nq] at b1
      have d64 := dr_day (T := T) (df := df) (my := my) q
      unfold drst
      rw [nq] at d64 ⊢
      obtain ⟨h1, h2, a, b, g, rw2⟩ := x_tgM (MN.of m (MT_row (f.1 65 (by decide) (by decide) (by decide) (by decide)) hm)) hw (show n + i ≤ 60 by omega) b1.2.1 (by have := b1.2.2.1; omega) (by have := b1.2.2.2.1; omega)
      obtain ⟨M, em⟩ : ∃ M, M = posM T df my 9 0 (n + i) (q.1 (n + i)) := ⟨_, rfl⟩
      have pp : 1 ≤ mn_pop M 64 := by rw [em]; exact pos_pop _ _ _ _ _ _ _
      have p64 := mn_pop_le M 64
      rw [← em] at rw2 d64 ⊢
      have klt : drw q.2.2 / 65536 % mn_pop M 64 < mn_pop M 64 := Nat.mod_lt _ pp
      obtain ⟨k1, k2, k3⟩ := kthN_spec klt
      obtain ⟨k, ek⟩ : ∃ k, k = drw q.2.2 / 65536 % mn_pop M 64 := ⟨_, rfl⟩
      rw [← ek] at k1 k2 k3 klt d64 ⊢
      obtain ⟨d, ed⟩ : ∃ d, d = kthN M k := ⟨_, rfl⟩
      rw [← ed] at k1 k2 k3 d64 ⊢
      obtain ⟨x3, m3⟩ := x_mdraw (m.row (g.1 67 (by decide) (by decide) (by decide))) pp p64
      rw [← ek] at x3
      obtain ⟨h3, e3⟩ : ∃ h3, h3 = mn_up h2 67 3 (nI (drw q.2.2)) := ⟨_, rfl⟩
      rw [← e3] at x3 m3
      have r72 : h3 72 k = nI d := by rw [e3, mn_up_row _ _ _ _ (by decide), ← k3]; exact rw2.2 d k1 k2
      have hk64 : k < 64 := by omega
      refine ⟨mn_up (mn_up h3 67 0 (nI (n + i + 1))) 67 (4 + (n + i + 1)) (nI d), .int (nI d), ?_, ?_, fun r h'' z => ?_⟩
      · refine f.tr ?_
        rw [e3]
        exact ((g.dd.up).up).up
      · refine m3.push (fun kk => ?_)
        rw [mn_up_get, mn_up_get]
        by_cases o1 : kk = 4 + (n + i + 1)
        · simp [o1]
        · by_cases o2 : kk = 0 <;> simp [o1, o2]
      · apply E
        have e0 : mn_up h3 67 (0 : Int32).toNatClampNeg (h3 67 (0 : Int32).toNatClampNeg + 1) = mn_up h3 67 0 (nI (n + i + 1)) := by rw [nl0, m3.1, nI_1]
        have e1' : (4 : Int32) + (mn_up h3 67 0 (nI (n + i + 1))) 67 (0 : Int32).toNatClampNeg = nI (4 + (n + i + 1)) := by rw [nl0, mn_up_get, if_pos ⟨rfl, rfl⟩]; exact nI_add 4 (n + i + 1)
        rw [b_X8_drift_38, if_neg (nI_ge (show i < j by omega) (by omega)), b_X8_drift_43, mn_cl_v a, b_X8_drift_47, mn_cl_v b, b_X8_drift_51, rw2.1, mn_cl_i x3, b_X8_drift_63 (vp_in_nI hk64 (by decide)) (by rw [e0, e1']; exact vp_in_nI (by omega) (by decide)), e0, e1', nI_clamp (show k < 2 ^ 31 by omega), r72, nI_clamp (show 4 + (n + i + 1) < 2 ^ 31 by omega), nI_1]
        exact z
  obtain ⟨h', w4', a, b, c⟩ := key j (Nat.le_refl _)
  refine ⟨h', w4', a, b, fun r h'' z => c r h'' ?_⟩
  rw [b_X8_drift_38, if_pos (Int32.le_refl _)]
  exact z
theorem mn_sum_split (f : Nat → Int32) (a b : Nat) : mn_sum f (a + b) = mn_sum f a + mn_sum (fun i => f (a + i)) b := by
  induction b with
  | zero => show _ = _ + (0 : Int32); rw [Int32.add_zero]; rfl
  | succ b ih => show mn_sum f (a + b) + f (a + b) = _ + (mn_sum _ b + f (a + b)); rw [ih, Int32.add_assoc]
end PQ
theorem p_drift (x : Int32) : PAIR 81 162 [.int x] := by
  intro h i
  obtain ⟨T, S, n, df, my, sd, r, ri, rs, rx⟩ := id i
  have h60 := r.n60
  have bad : x < 1 ∨ 60 < x → ∃ (r : Int32) (h1 h2 : mn_H), mn_X 81 [.ref 0, .int x] h (some (.int r)) h1 ∧ mn_X 162 [.ref 63, .int x] h1 (some (.int r)) h2 ∧ INV h2 := by
    intro q
    refine PAIR.q (r := -1000000002) i ?_ (trF.rf h) ?_ (mdF.rf h)
    · by_cases q1 : x < 1
      · simp only [e_X7_drift, b_X7_drift_0, b_X7_drift_5, b_X7_drift_11, i10, i00, i01, i11, not_true_eq_false, not_false_eq_true, if_true, if_false, true_or, or_true, true_and, and_true, and_false, false_and, q1]
      · have q2 : ¬ x ≤ 60 := fun z => (q.resolve_left q1 |> fun w => absurd z (Int32.not_le.mpr w))
        simp only [e_X7_drift, b_X7_drift_0, b_X7_drift_5, b_X7_drift_11, i10, i00, i01, i11, not_true_eq_false, not_false_eq_true, if_true, if_false, true_or, or_true, true_and, and_true, and_false, false_and, q1, q2]
    · simp only [e_X8_drift, b_X8_drift_0, b_X8_drift_7, b_X8_drift_10, i10, i00, i01, i11, not_true_eq_false, not_false_eq_true, if_true, if_false, true_or, or_true, true_and, and_true, and_false, false_and, mn_cl_i (x_in_out q)]
  rcases mn_rng x 61 (by decide) with ⟨j, hj, rfl⟩ | q
  · by_cases o0 : j = 0
    · subst o0; exact bad (Or.inl (by decide))
    · have q1 : ¬ nI j < 1 := nI_nlt (b := 1) (by omega) (by omega)
      have q2 : nI j ≤ 60 := nI_le (b := 60) (by omega) (by decide)
      have xi := fun hh => x_in_in (h := hh) (a := 1) (b := 60) (j := j) (by omega) (by omega) (by decide)
      have xi' : ∀ hh, mn_X 114 [.int (nI j), .int 1, .int 60] hh (some (.int 1)) hh := xi
      by_cases o : n + j ≤ 60
      · have q3 : nI n + nI j ≤ 60 := by rw [nI_add]; exact nI_le (b := 60) o (by decide)
        obtain ⟨h1, xs, tf, hv⟩ := x_supposeNow r.1
        have r1 := tf.sf.rn r
        obtain ⟨h2, x2, f2, c2⟩ := x_drift r1 hv o (x := hsN T S n) (w4 := .null) (w6 := .null)
        have m2 : MST h2 S n df my sd := r1.mst.row (f2 67 (by decide) (by decide))
        have t2 : MT h2 T := MT_row (f2 65 (by decide) (by decide)) r1.mt
        obtain ⟨h3, w4, f3, m3, E⟩ := x_mdrift t2 m2 r1.tw r1.bst o (w4 := .null)
        have b3 := drI_b (T := T) (df := df) (my := my) (q := (S, n, sd)) (j := j) r.bst o (Nat.le_refl j)
        have nq : (drI T df my (S, n, sd) j).2.1 = n + j := drI_n (S, n, sd) j
        rw [nq] at b3
        have mn3 := MN.of m3 (MT_row (f3.1 65 (by decide) (by decide) (by decide) (by decide)) t2)
        have xh := x_harmFrom mn3 o b3.2.1 (show n ≤ n + j by omega)
        have eh : hsN T (drI T df my (S, n, sd) j).1 (n + j) - hsN T S n = mn_sum (fun k => harmN T ((drI T df my (S, n, sd) j).1 (n + k + 1))) (n + j - n) := by
          have e1 : hsN T (drI T df my (S, n, sd) j).1 (n + j) = hsN T S n + mn_sum (fun k => harmN T ((drI T df my (S, n, sd) j).1 (n + k + 1))) j := by
            unfold hsN
            rw [mn_sum_split]
            congr 1
            exact hsN_cong (T := T) (S := (drI T df my (S, n, sd) j).1) (S' := S) (n := n) (fun k hk => drI_old (S, n, sd) j (show k + 1 ≤ n by omega))
          rw [e1, show n + j - n = j by omega, Int32.add_comm, Int32.add_sub_cancel]
        refine ⟨hsN T (drI T df my (S, n, sd) j).1 (n + j) - hsN T S n, h2, h3, ?_, ?_, ?_⟩
        · rw [e_X7_drift, b_X7_drift_0, if_neg q1, b_X7_drift_5, if_pos q2, b_X7_drift_14, r.cst.2.1, if_pos q3, b_X7_drift_31, mn_cl_v xs, b_X7_drift_43, r.cst.2.2.1]
          exact x2
        · rw [e_X8_drift, b_X8_drift_0, mn_cl_i (xi' h2), b_X8_drift_7, if_pos (by decide), b_X8_drift_13, nl0, m2.1, if_pos q3, b_X8_drift_29, nl0, m2.1]
          apply E
          rw [b_X8_drift_97, mn_cl_i xh, b_X8_drift_102, eh]
          exact ⟨rfl, rfl⟩
        · exact INV.now (S' := (drI T df my (S, n, sd) j).1) (n' := n + j) (df' := df) (my' := my) (sd' := (drI T df my (S, n, sd) j).2.2) ((tf.sf.nf.tr f2.nf).tr f3.nf) r ri rs rx (c2.rows (f3.1 3 (by decide) (by decide) (by decide) (by decide)) (f3.1 4 (by decide) (by decide) (by decide) (by decide))) m3 b3
      · have q3 : ¬ nI n + nI j ≤ 60 := by rw [nI_add]; exact nI_ge (a := 60) (by omega) (by omega)
        refine PAIR.q (r := -1000000004) i ?_ (trF.rf h) ?_ (mdF.rf h)
        · rw [e_X7_drift, b_X7_drift_0, if_neg q1, b_X7_drift_5, if_pos q2, b_X7_drift_14, r.cst.2.1, if_neg q3, b_X7_drift_28]
          exact ⟨rfl, rfl⟩
        · rw [e_X8_drift, b_X8_drift_0, mn_cl_i (xi' h), b_X8_drift_7, if_pos (by decide), b_X8_drift_13, nl0, r.mst.1, if_neg q3, b_X8_drift_26]
          exact ⟨rfl, rfl⟩
  · refine bad ?_
    rcases q with q | q
    · left; rw [Int32.lt_iff_toInt_lt] at q ⊢; have : (0 : Int32).toInt = 0 := by decide
      have : (1 : Int32).toInt = 1 := by decide
      omega
    · right; rw [Int32.lt_iff_toInt_lt]; rw [Int32.le_iff_toInt_le] at q; have : (nI 61).toInt = 61 := by decide
      have : (60 : Int32).toInt = 60 := by decide
      omega
