def mz (b : Bool) : Int32 := if b then 1 else 0
theorem mz_01 (b : Bool) : mz b = 0 ∨ mz b = 1 := by cases b <;> simp [mz]
theorem mz_0 (b : Bool) : mz b = 0 ↔ b = false := by cases b <;> simp [mz]
theorem mz_1 (b : Bool) : mz b = 1 ↔ b = true := by cases b <;> simp [mz]
theorem mz_t : mz true = 1 := rfl
theorem mz_f : mz false = 0 := rfl
section MCL
variable {C : Nat} {vs : List Value} {h h1 : mn_H}
theorem mn_cl_i {v : Int32} (a : mn_X C vs h (some (.int v)) h1) {P : Int32 → mn_H → Prop} : (∃ x h2, mn_X C vs h (some (.int x)) h2 ∧ P x h2) ↔ P v h1 := by
  constructor
  · rintro ⟨x, h2, b, c⟩
    obtain ⟨e1, rfl⟩ := mn_E_det a b
    cases e1
    exact c
  · exact fun b => ⟨v, h1, a, b⟩
theorem mn_cl_l {v : Int64} (a : mn_X C vs h (some (.long v)) h1) {P : Int64 → mn_H → Prop} : (∃ x h2, mn_X C vs h (some (.long x)) h2 ∧ P x h2) ↔ P v h1 := by
  constructor
  · rintro ⟨x, h2, b, c⟩
    obtain ⟨e1, rfl⟩ := mn_E_det a b
    cases e1
    exact c
  · exact fun b => ⟨v, h1, a, b⟩
theorem mn_cl_v (a : mn_X C vs h none h1) {P : mn_H → Prop} : (∃ h2, mn_X C vs h none h2 ∧ P h2) ↔ P h1 := by
  constructor
  · rintro ⟨h2, b, c⟩
    obtain ⟨-, rfl⟩ := mn_E_det a b
    exact c
  · exact fun b => ⟨h1, a, b⟩
end MCL
section LEAF
variable {h : mn_H}
theorem x_X7_isDay (x : Int32) : mn_X 99 [.int x] h (some (.int (mz (decide (¬ x < 0) && decide (¬ 64 ≤ x))))) h := by
  rw [e_X7_isDay]
  by_cases h1 : x < 0 <;> by_cases h2 : 64 ≤ x <;> simp [b_X7_isDay_0, b_X7_isDay_4, b_X7_isDay_10, b_X7_isDay_14, b_X7_isDay_15, h1, h2, mz]
theorem x_X7_isHappening (x : Int32) : mn_X 100 [.int x] h (some (.int (mz (decide (¬ x < 0) && decide (¬ 6 ≤ x))))) h := by
  rw [e_X7_isHappening]
  by_cases h1 : x < 0 <;> by_cases h2 : 6 ≤ x <;> simp [b_X7_isHappening_0, b_X7_isHappening_4, b_X7_isHappening_10, b_X7_isHappening_14, b_X7_isHappening_15, h1, h2, mz]
theorem x_X8_in (x a b : Int32) : mn_X 114 [.int x, .int a, .int b] h (some (.int (mz (decide (¬ x < a) && decide (¬ b < x))))) h := by
  rw [e_X8_in]
  by_cases h1 : x < a <;> by_cases h2 : b < x <;> simp [b_X8_in_0, b_X8_in_5, b_X8_in_10, b_X8_in_14, b_X8_in_15, h1, h2, mz]
def rgB (k f s b d : Int32) : Bool :=
  if k = 0 then decide ((d >>> (f &&& 31)) &&& 1 = 1) else if k = 1 then !decide ((d >>> (f &&& 31)) &&& 1 = 1)
  else if k = 2 then decide ((d >>> (f &&& 31)) &&& 1 = 1) && decide ((d >>> (s &&& 31)) &&& 1 = 1)
  else if k = 3 then decide ((d >>> (f &&& 31)) &&& 1 = 1) || decide ((d >>> (s &&& 31)) &&& 1 = 1)
  else decide ((b >>> (f &&& 31)) &&& 1 = 1)
set_option maxHeartbeats 4000000 in
theorem x_X7_rings {k : Int32} (f s b d : Int32) (hk : k = 0 ∨ k = 1 ∨ k = 2 ∨ k = 3 ∨ k = 4) : mn_X 113 [.int k, .int f, .int s, .int b, .int d] h (some (.int (mz (rgB k f s b d)))) h := by
  rw [e_X7_rings]
  by_cases o1 : ((d >>> (f &&& 31)) &&& 1) = 1 <;> by_cases o2 : ((d >>> (s &&& 31)) &&& 1) = 1 <;> by_cases o3 : ((b >>> (f &&& 31)) &&& 1) = 1 <;> rcases hk with rfl | rfl | rfl | rfl | rfl <;>
    simp [b_X7_rings_0, b_X7_rings_10, b_X7_rings_14, b_X7_rings_15, b_X7_rings_27, b_X7_rings_31, b_X7_rings_32, b_X7_rings_35_0, b_X7_rings_35_1, b_X7_rings_35_2, b_X7_rings_35_3, b_X7_rings_35_4, b_X7_rings_68, b_X7_rings_71, b_X7_rings_76, b_X7_rings_80, b_X7_rings_81, b_X7_rings_82, b_X7_rings_87, b_X7_rings_92, b_X7_rings_96, b_X7_rings_97, b_X7_rings_98, b_X7_rings_103, b_X7_rings_108, b_X7_rings_112, b_X7_rings_113, b_X7_rings_114, b_X7_rings_123, b_X7_rings_127, b_X7_rings_128, o1, o2, o3, rgB, mz]
end LEAF
