theorem mn_ev_ty : ∀ (n M pc : Nat) (ls st : List Value) (h : mn_H) (r : Option Value) (h' : mn_H), mn_ev n M pc ls st h = some (r, h') → ((mR M = some .int ∨ mR M = some .boolean ∨ mR M = some .byte) → ∃ x, r = some (.int x)) ∧ (mR M = some .long → ∃ x, r = some (.long x)) ∧ (mR M = none → r = none) := by
  intro n
  induction n with
  | zero => intro M pc ls st h r h' e; simp [mn_ev] at e
  | succ n ih =>
    intro M pc ls st h r h' e
    simp only [mn_ev] at e
    cases hs : mn_stp M pc ls st h with
    | none => rw [hs] at e; cases e
    | some q =>
      rw [hs] at e
      rcases q with ⟨pc', ls', st', h1⟩ | v | ⟨K, vs, pc', st'⟩
      · exact ih _ _ _ _ _ _ _ e
      · cases e
        rcases mn_stp_ret hs with ⟨x, -, -, rfl, hz⟩ | ⟨x, -, -, rfl, hz⟩ | ⟨-, -, rfl, hz⟩
        · refine ⟨fun _ => ⟨x, rfl⟩, fun q => ?_, fun q => ?_⟩
          · rw [q] at hz; rcases hz with hz | ⟨hz, -⟩ | ⟨hz, -⟩ <;> cases hz
          · rw [q] at hz; rcases hz with hz | ⟨hz, -⟩ | ⟨hz, -⟩ <;> cases hz
        · refine ⟨fun q => ?_, fun _ => ⟨x, rfl⟩, fun q => ?_⟩
          · rw [hz] at q; rcases q with q | q | q <;> cases q
          · rw [hz] at q; cases q
        · refine ⟨fun q => ?_, fun q => ?_, fun _ => rfl⟩
          · rw [hz] at q; rcases q with q | q | q <;> cases q
          · rw [hz] at q; cases q
      · dsimp only at e
        cases hc : mn_ev n K 0 (mn_ent vs (mL K)) [] h with
        | none => rw [hc] at e; cases e
        | some w => rw [hc] at e; exact ih _ _ _ _ _ _ _ e
section MNR
variable {M pc : Nat} {ls st : List Value} {h h' : mn_H} {r : Option Value}
theorem mn_exi {C : Nat} {vs : List Value} {P : Option Value → mn_H → Prop} (hr : mR C = some .int ∨ mR C = some .boolean ∨ mR C = some .byte) : (∃ v h1, mn_X C vs h v h1 ∧ P v h1) ↔ ∃ x h1, mn_X C vs h (some (.int x)) h1 ∧ P (some (.int x)) h1 := by
  constructor
  · rintro ⟨v, h1, a, b⟩
    obtain ⟨n, e⟩ := id a
    obtain ⟨x, rfl⟩ := (mn_ev_ty n _ _ _ _ _ _ _ e).1 hr
    exact ⟨x, h1, a, b⟩
  · rintro ⟨x, h1, a, b⟩
    exact ⟨_, h1, a, b⟩
theorem mn_exl {C : Nat} {vs : List Value} {P : Option Value → mn_H → Prop} (hr : mR C = some .long) : (∃ v h1, mn_X C vs h v h1 ∧ P v h1) ↔ ∃ x h1, mn_X C vs h (some (.long x)) h1 ∧ P (some (.long x)) h1 := by
  constructor
  · rintro ⟨v, h1, a, b⟩
    obtain ⟨n, e⟩ := id a
    obtain ⟨x, rfl⟩ := (mn_ev_ty n _ _ _ _ _ _ _ e).2.1 hr
    exact ⟨x, h1, a, b⟩
  · rintro ⟨x, h1, a, b⟩
    exact ⟨_, h1, a, b⟩
theorem mn_exv {C : Nat} {vs : List Value} {P : Option Value → mn_H → Prop} (hr : mR C = none) : (∃ v h1, mn_X C vs h v h1 ∧ P v h1) ↔ ∃ h1, mn_X C vs h none h1 ∧ P none h1 := by
  constructor
  · rintro ⟨v, h1, a, b⟩
    obtain ⟨n, e⟩ := id a
    have := (mn_ev_ty n _ _ _ _ _ _ _ e).2.2 hr
    subst this
    exact ⟨h1, a, b⟩
  · rintro ⟨h1, a, b⟩
    exact ⟨_, h1, a, b⟩
/-- all that a call of a static method asks of the table -/
def mn_cs (M o i C : Nat) : Bool := decide (mO M = o) && (mn_ml o i == some C || (mn_ml o i == none && mn_nl o i == some C)) && mSt C
def mn_cvt (M o i C : Nat) : Bool := decide (mO M = o) && (mn_ml o i == some C) && !(mSt C)
theorem mn_csD {o i C : Nat} (h : mn_cs M o i C = true) : mO M = o ∧ (mn_ml o i = some C ∨ (mn_ml o i = none ∧ mn_nl o i = some C)) ∧ mSt C = true := by
  unfold mn_cs at h
  simp only [Bool.and_eq_true, Bool.or_eq_true, decide_eq_true_eq, beq_iff_eq] at h
  exact ⟨h.1.1, h.1.2, h.2⟩
theorem mn_cvD {o i C : Nat} (h : mn_cvt M o i C = true) : mO M = o ∧ mn_ml o i = some C ∧ mSt C = false := by
  unfold mn_cvt at h
  simp only [Bool.and_eq_true, Bool.not_eq_true', decide_eq_true_eq, beq_iff_eq] at h
  exact ⟨h.1.1, h.1.2, h.2⟩
theorem mS_i {i o C : Nat} {vs st' : List Value} (hd : decode (mC M) pc = .ok (.invokestatic i, 3)) (ht : mn_cs M o i C = true) (hr : mR C = some .int ∨ mR C = some .boolean ∨ mR C = some .byte) (hp : mP C ≤ st.length) (h1 : (st.take (mP C)).reverse = vs) (h2 : st.drop (mP C) = st') (hc : mn_cok M C vs st' = true) : mn_E M pc ls st h r h' ↔ ∃ x h1, mn_X C vs h (some (.int x)) h1 ∧ mn_E M (pc + 3) ls (.int x :: st') h1 r h' := (mX_stat hd (mn_csD ht).1 (mn_csD ht).2.1 hp h1 h2 hc (mn_csD ht).2.2).trans (mn_exi hr)
theorem mS_l {i o C : Nat} {vs st' : List Value} (hd : decode (mC M) pc = .ok (.invokestatic i, 3)) (ht : mn_cs M o i C = true) (hr : mR C = some .long) (hp : mP C ≤ st.length) (h1 : (st.take (mP C)).reverse = vs) (h2 : st.drop (mP C) = st') (hc : mn_cok M C vs st' = true) : mn_E M pc ls st h r h' ↔ ∃ x h1, mn_X C vs h (some (.long x)) h1 ∧ mn_E M (pc + 3) ls (.long x :: st') h1 r h' := (mX_stat hd (mn_csD ht).1 (mn_csD ht).2.1 hp h1 h2 hc (mn_csD ht).2.2).trans (mn_exl hr)
theorem mS_v {i o C : Nat} {vs st' : List Value} (hd : decode (mC M) pc = .ok (.invokestatic i, 3)) (ht : mn_cs M o i C = true) (hr : mR C = none) (hp : mP C ≤ st.length) (h1 : (st.take (mP C)).reverse = vs) (h2 : st.drop (mP C) = st') (hc : mn_cok M C vs st' = true) : mn_E M pc ls st h r h' ↔ ∃ h1, mn_X C vs h none h1 ∧ mn_E M (pc + 3) ls st' h1 r h' := (mX_stat hd (mn_csD ht).1 (mn_csD ht).2.1 hp h1 h2 hc (mn_csD ht).2.2).trans (mn_exv hr)
theorem mV_i {i o C a : Nat} {vs st' : List Value} (hd : decode (mC M) pc = .ok (.invokevirtual i, 3)) (ht : mn_cvt M o i C = true) (hr : mR C = some .int ∨ mR C = some .boolean ∨ mR C = some .byte) (hp : mP C ≤ st.length) (h1 : (st.take (mP C)).reverse = vs) (h2 : st.drop (mP C) = .ref a :: st') (hs : mn_sh a = (0, mO C)) (hc : mn_cok M C (.ref a :: vs) st' = true) : mn_E M pc ls st h r h' ↔ ∃ x h1, mn_X C (.ref a :: vs) h (some (.int x)) h1 ∧ mn_E M (pc + 3) ls (.int x :: st') h1 r h' := (mX_virt hd (mn_cvD ht).1 (mn_cvD ht).2.1 hp h1 h2 hs hc (mn_cvD ht).2.2).trans (mn_exi hr)
theorem mV_l {i o C a : Nat} {vs st' : List Value} (hd : decode (mC M) pc = .ok (.invokevirtual i, 3)) (ht : mn_cvt M o i C = true) (hr : mR C = some .long) (hp : mP C ≤ st.length) (h1 : (st.take (mP C)).reverse = vs) (h2 : st.drop (mP C) = .ref a :: st') (hs : mn_sh a = (0, mO C)) (hc : mn_cok M C (.ref a :: vs) st' = true) : mn_E M pc ls st h r h' ↔ ∃ x h1, mn_X C (.ref a :: vs) h (some (.long x)) h1 ∧ mn_E M (pc + 3) ls (.long x :: st') h1 r h' := (mX_virt hd (mn_cvD ht).1 (mn_cvD ht).2.1 hp h1 h2 hs hc (mn_cvD ht).2.2).trans (mn_exl hr)
theorem mV_v {i o C a : Nat} {vs st' : List Value} (hd : decode (mC M) pc = .ok (.invokevirtual i, 3)) (ht : mn_cvt M o i C = true) (hr : mR C = none) (hp : mP C ≤ st.length) (h1 : (st.take (mP C)).reverse = vs) (h2 : st.drop (mP C) = .ref a :: st') (hs : mn_sh a = (0, mO C)) (hc : mn_cok M C (.ref a :: vs) st' = true) : mn_E M pc ls st h r h' ↔ ∃ h1, mn_X C (.ref a :: vs) h none h1 ∧ mn_E M (pc + 3) ls st' h1 r h' := (mX_virt hd (mn_cvD ht).1 (mn_cvD ht).2.1 hp h1 h2 hs hc (mn_cvD ht).2.2).trans (mn_exv hr)
/-- all that a field asks of the table: an int slot, a reference slot -/
def mn_fi (M o i ci k : Nat) : Bool := decide (mO M = o) && (mn_fl o i == some (ci, k)) && decide (ci < 9) && decide (k < mn_nf ci) && !(mn_isr ci k)
def mn_fr (M o i ci k : Nat) : Bool := decide (mO M = o) && (mn_fl o i == some (ci, k)) && decide (ci < 9) && decide (k < mn_nf ci) && (mn_isr ci k)
theorem mG_i {a i o ci k : Nat} (hd : decode (mC M) pc = .ok (.getfield i, 3)) (hf : mn_fi M o i ci k = true) (hs : mn_sh a = (0, ci)) (ha : a < 74) : mn_E M pc ls (.ref a :: st) h r h' ↔ mn_E M (pc + 3) ls (.int (h a k) :: st) h r h' := by
  unfold mn_fi at hf
  simp only [Bool.and_eq_true, Bool.not_eq_true', decide_eq_true_eq, beq_iff_eq] at hf
  exact mX_geti hd hf.1.1.1.1 hf.1.1.1.2 hs ⟨hf.1.1.2, ha, hf.1.2, hf.2⟩
theorem mG_r {a b i o ci k : Nat} (hd : decode (mC M) pc = .ok (.getfield i, 3)) (hf : mn_fr M o i ci k = true) (hs : mn_sh a = (0, ci)) (ha : a < 74) (hr : mn_rf (h a) a k = b) : mn_E M pc ls (.ref a :: st) h r h' ↔ mn_E M (pc + 3) ls (.ref b :: st) h r h' := by
  unfold mn_fr at hf
  simp only [Bool.and_eq_true, decide_eq_true_eq, beq_iff_eq] at hf
  exact mX_getr hd hf.1.1.1.1 hf.1.1.1.2 hs ⟨hf.1.1.2, ha, hf.1.2, hf.2⟩ hr
theorem mP_i {a i o ci k : Nat} {x : Int32} (hd : decode (mC M) pc = .ok (.putfield i, 3)) (hf : mn_fi M o i ci k = true) (hs : mn_sh a = (0, ci)) (ha : a < 74) (hfin : mn_fin ci k = false) (hz : ¬ (ci = 1 ∧ k = 7) ∨ x = 0 ∨ x = 1) : mn_E M pc ls (.int x :: .ref a :: st) h r h' ↔ mn_E M (pc + 3) ls st (mn_up h a k x) r h' := by
  unfold mn_fi at hf
  simp only [Bool.and_eq_true, Bool.not_eq_true', decide_eq_true_eq, beq_iff_eq] at hf
  exact mX_puti hd hf.1.1.1.1 hf.1.1.1.2 hs ⟨hf.1.1.2, ha, hf.1.2, hf.2, hfin⟩ hz
end MNR
-- places of objects of which there are several
def mn_isT (t : Nat) : Prop := t = 23 ∨ t = 43
def mn_isQ (q : Nat) : Prop := q = 31 ∨ q = 35 ∨ q = 51 ∨ q = 55
def mn_isC (c : Nat) : Prop := c = 3 ∨ c = 5 ∨ c = 7
def mn_qn (q : Nat) : Nat := if q = 31 ∨ q = 51 then 8 else 4
def mn_hr (h : mn_H) : Nat := (h 0 6).toNatClampNeg
def mn_sp (h : mn_H) : Nat := (h 0 7).toNatClampNeg
theorem mn_ltT {t : Nat} (ht : mn_isT t) {k : Nat} (hk : k < 20) : t + k < 74 := by rcases ht with rfl | rfl <;> omega
theorem mn_ltT0 {t : Nat} (ht : mn_isT t) : t < 74 := by rcases ht with rfl | rfl <;> decide
theorem mn_ltQ {t : Nat} (ht : mn_isQ t) {k : Nat} (hk : k < 4) : t + k < 74 := by rcases ht with rfl | rfl | rfl | rfl <;> omega
theorem mn_ltQ0 {t : Nat} (ht : mn_isQ t) : t < 74 := by rcases ht with rfl | rfl | rfl | rfl <;> decide
theorem mn_ltC {t : Nat} (ht : mn_isC t) {k : Nat} (hk : k < 2) : t + k < 74 := by rcases ht with rfl | rfl | rfl <;> omega
theorem mn_ltC0 {t : Nat} (ht : mn_isC t) : t < 74 := by rcases ht with rfl | rfl | rfl <;> decide
theorem mn_Tc {t : Nat} (ht : mn_isT t) : mn_isQ (t + 8) := by rcases ht with rfl | rfl <;> simp [mn_isQ]
theorem mn_Ts {t : Nat} (ht : mn_isT t) : mn_isQ (t + 12) := by rcases ht with rfl | rfl <;> simp [mn_isQ]
theorem mn_shT0 {t : Nat} (ht : mn_isT t) : mn_sh (t) = (0, 5) := by rcases ht with rfl | rfl <;> rfl
theorem mn_shT1 {t : Nat} (ht : mn_isT t) : mn_sh (t + 1) = (1, 5) := by rcases ht with rfl | rfl <;> rfl
theorem mn_shT2 {t : Nat} (ht : mn_isT t) : mn_sh (t + 2) = (1, 5) := by rcases ht with rfl | rfl <;> rfl
theorem mn_shT3 {t : Nat} (ht : mn_isT t) : mn_sh (t + 3) = (1, 5) := by rcases ht with rfl | rfl <;> rfl
theorem mn_shT4 {t : Nat} (ht : mn_isT t) : mn_sh (t + 4) = (1, 6) := by rcases ht with rfl | rfl <;> rfl
theorem mn_shT5 {t : Nat} (ht : mn_isT t) : mn_sh (t + 5) = (1, 6) := by rcases ht with rfl | rfl <;> rfl
theorem mn_shT6 {t : Nat} (ht : mn_isT t) : mn_sh (t + 6) = (1, 6) := by rcases ht with rfl | rfl <;> rfl
theorem mn_shT7 {t : Nat} (ht : mn_isT t) : mn_sh (t + 7) = (1, 6) := by rcases ht with rfl | rfl <;> rfl
theorem mn_shT8 {t : Nat} (ht : mn_isT t) : mn_sh (t + 8) = (0, 4) := by rcases ht with rfl | rfl <;> rfl
theorem mn_shT9 {t : Nat} (ht : mn_isT t) : mn_sh (t + 9) = (1, 8) := by rcases ht with rfl | rfl <;> rfl
theorem mn_shT10 {t : Nat} (ht : mn_isT t) : mn_sh (t + 10) = (1, 8) := by rcases ht with rfl | rfl <;> rfl
theorem mn_shT11 {t : Nat} (ht : mn_isT t) : mn_sh (t + 11) = (1, 8) := by rcases ht with rfl | rfl <;> rfl
theorem mn_shT12 {t : Nat} (ht : mn_isT t) : mn_sh (t + 12) = (0, 4) := by rcases ht with rfl | rfl <;> rfl
theorem mn_shT13 {t : Nat} (ht : mn_isT t) : mn_sh (t + 13) = (1, 4) := by rcases ht with rfl | rfl <;> rfl
theorem mn_shT14 {t : Nat} (ht : mn_isT t) : mn_sh (t + 14) = (1, 4) := by rcases ht with rfl | rfl <;> rfl
theorem mn_shT15 {t : Nat} (ht : mn_isT t) : mn_sh (t + 15) = (1, 4) := by rcases ht with rfl | rfl <;> rfl
theorem mn_shT16 {t : Nat} (ht : mn_isT t) : mn_sh (t + 16) = (1, 3) := by rcases ht with rfl | rfl <;> rfl
theorem mn_shT17 {t : Nat} (ht : mn_isT t) : mn_sh (t + 17) = (1, 3) := by rcases ht with rfl | rfl <;> rfl
theorem mn_shT18 {t : Nat} (ht : mn_isT t) : mn_sh (t + 18) = (1, 3) := by rcases ht with rfl | rfl <;> rfl
theorem mn_shT19 {t : Nat} (ht : mn_isT t) : mn_sh (t + 19) = (1, 6) := by rcases ht with rfl | rfl <;> rfl
theorem mn_shQ0 {t : Nat} (ht : mn_isQ t) : mn_sh t = (0, 4) := by rcases ht with rfl | rfl | rfl | rfl <;> rfl
theorem mn_shQ1 {t : Nat} (ht : mn_isQ t) : mn_sh (t + 1) = (1, mn_qn t) := by rcases ht with rfl | rfl | rfl | rfl <;> rfl
theorem mn_shQ2 {t : Nat} (ht : mn_isQ t) : mn_sh (t + 2) = (1, mn_qn t) := by rcases ht with rfl | rfl | rfl | rfl <;> rfl
theorem mn_shQ3 {t : Nat} (ht : mn_isQ t) : mn_sh (t + 3) = (1, mn_qn t) := by rcases ht with rfl | rfl | rfl | rfl <;> rfl
theorem mn_shC0 {t : Nat} (ht : mn_isC t) : mn_sh t = (0, 1) := by rcases ht with rfl | rfl | rfl <;> rfl
theorem mn_shC1 {t : Nat} (ht : mn_isC t) : mn_sh (t + 1) = (1, 60) := by rcases ht with rfl | rfl | rfl <;> rfl
theorem mn_rfT1 {t : Nat} (ht : mn_isT t) (f : Nat → Int32) : mn_rf f t 1 = t + 1 := by rcases ht with rfl | rfl <;> rfl
theorem mn_rfT2 {t : Nat} (ht : mn_isT t) (f : Nat → Int32) : mn_rf f t 2 = t + 2 := by rcases ht with rfl | rfl <;> rfl
theorem mn_rfT3 {t : Nat} (ht : mn_isT t) (f : Nat → Int32) : mn_rf f t 3 = t + 3 := by rcases ht with rfl | rfl <;> rfl
theorem mn_rfT5 {t : Nat} (ht : mn_isT t) (f : Nat → Int32) : mn_rf f t 5 = t + 4 := by rcases ht with rfl | rfl <;> rfl
theorem mn_rfT6 {t : Nat} (ht : mn_isT t) (f : Nat → Int32) : mn_rf f t 6 = t + 5 := by rcases ht with rfl | rfl <;> rfl
theorem mn_rfT7 {t : Nat} (ht : mn_isT t) (f : Nat → Int32) : mn_rf f t 7 = t + 6 := by rcases ht with rfl | rfl <;> rfl
theorem mn_rfT8 {t : Nat} (ht : mn_isT t) (f : Nat → Int32) : mn_rf f t 8 = t + 7 := by rcases ht with rfl | rfl <;> rfl
theorem mn_rfT9 {t : Nat} (ht : mn_isT t) (f : Nat → Int32) : mn_rf f t 9 = t + 8 := by rcases ht with rfl | rfl <;> rfl
theorem mn_rfT10 {t : Nat} (ht : mn_isT t) (f : Nat → Int32) : mn_rf f t 10 = t + 12 := by rcases ht with rfl | rfl <;> rfl
theorem mn_rfT12 {t : Nat} (ht : mn_isT t) (f : Nat → Int32) : mn_rf f t 12 = t + 16 := by rcases ht with rfl | rfl <;> rfl
theorem mn_rfT13 {t : Nat} (ht : mn_isT t) (f : Nat → Int32) : mn_rf f t 13 = t + 17 := by rcases ht with rfl | rfl <;> rfl
theorem mn_rfT14 {t : Nat} (ht : mn_isT t) (f : Nat → Int32) : mn_rf f t 14 = t + 18 := by rcases ht with rfl | rfl <;> rfl
theorem mn_rfT15 {t : Nat} (ht : mn_isT t) (f : Nat → Int32) : mn_rf f t 15 = t + 19 := by rcases ht with rfl | rfl <;> rfl
theorem mn_rfQ0 {t : Nat} (ht : mn_isQ t) (f : Nat → Int32) : mn_rf f t 0 = t + 1 := by rcases ht with rfl | rfl | rfl | rfl <;> rfl
theorem mn_rfQ1 {t : Nat} (ht : mn_isQ t) (f : Nat → Int32) : mn_rf f t 1 = t + 2 := by rcases ht with rfl | rfl | rfl | rfl <;> rfl
theorem mn_rfQ2 {t : Nat} (ht : mn_isQ t) (f : Nat → Int32) : mn_rf f t 2 = t + 3 := by rcases ht with rfl | rfl | rfl | rfl <;> rfl
theorem mn_rfC1 {t : Nat} (ht : mn_isC t) (f : Nat → Int32) : mn_rf f t 1 = t + 1 := by rcases ht with rfl | rfl | rfl <;> rfl
theorem mn_im {i : Int32} (hb : vp_in i 2) : mn_isC (5 + 2 * i.toNatClampNeg) := by
  have h2 : i.toNatClampNeg < 2 := Nat.not_le.mp fun q => hb (Or.inr q)
  have : i.toNatClampNeg = 0 ∨ i.toNatClampNeg = 1 := by omega
  rcases this with e | e <;> rw [e] <;> simp [mn_isC]
