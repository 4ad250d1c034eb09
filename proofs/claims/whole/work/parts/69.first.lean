def kf65 : Nat → Int32 := (upd (upd (upd (upd (upd (upd (fun _ => 0) 89 1) 90 1) 91 1) 92 1) 93 1) 94 1)
/-- the heap when the law's loop begins -/
def kh0 : mn_H := fun a => if a = 0 then upd (upd (fun _ => 0) 6 (nI 23)) 7 (nI 43) else if a = 1 then upd (fun _ => 0) 5 (-1) else if a = 42 then kf6 else if a = 62 then kf6 else if a = 63 then upd (fun _ => 0) 9 (-1) else if a = 65 then kf65 else fun _ => 0
theorem kh0_inv : INV kh0 := by
  have tn : ∀ k : Nat, tw0 0 k = 0 := fun _ => rfl
  have hz : ∀ a k : Nat, a ≠ 0 → a ≠ 1 → a ≠ 42 → a ≠ 62 → a ≠ 63 → a ≠ 65 → kh0 a k = nI 0 := by
    intro a k h0 h1 h2 h3 h4 h5
    unfold kh0
    rw [if_neg h0, if_neg h1, if_neg h2, if_neg h3, if_neg h4, if_neg h5]
    rfl
  have hct : ∀ t, t = 23 → CT kh0 t tw0 := by
    intro t ht
    subst ht
    refine ⟨⟨hz _ _ (by decide) (by decide) (by decide) (by decide) (by decide) (by decide), hz _ _ (by decide) (by decide) (by decide) (by decide) (by decide) (by decide), hz _ _ (by decide) (by decide) (by decide) (by decide) (by decide) (by decide), hz _ _ (by decide) (by decide) (by decide) (by decide) (by decide) (by decide), hz _ _ (by decide) (by decide) (by decide) (by decide) (by decide) (by decide)⟩, ?_, ?_, ?_, ?_, ?_, by decide +kernel⟩
    all_goals exact fun b hb => absurd hb (Nat.not_lt_zero b)
  have hmt : MT kh0 tw0 := by
    refine ⟨by decide +kernel, ?_, ?_, ?_, ?_, ?_, by decide +kernel⟩
    all_goals exact fun b hb => absurd hb (Nat.not_lt_zero b)
  refine ⟨tw0, fun _ => 0, 0, 0, 0, 0, ⟨⟨rfl, Or.inl (by decide +kernel), TW2.init.wf, hct _ (by decide +kernel), hz _ _ (by decide) (by decide) (by decide) (by decide) (by decide) (by decide), hz _ _ (by decide) (by decide) (by decide) (by decide) (by decide) (by decide), by decide, fun k hk => absurd hk (Nat.not_lt_zero k), fun _ _ => Nat.zero_lt_succ 63, hz _ _ (by decide) (by decide) (by decide) (by decide) (by decide) (by decide), by decide, hz _ _ (by decide) (by decide) (by decide) (by decide) (by decide) (by decide), by decide⟩, ⟨hmt, hz _ _ (by decide) (by decide) (by decide) (by decide) (by decide) (by decide), hz _ _ (by decide) (by decide) (by decide) (by decide) (by decide) (by decide), hz _ _ (by decide) (by decide) (by decide) (by decide) (by decide) (by decide), fun k _ => hz _ _ (by decide) (by decide) (by decide) (by decide) (by decide) (by decide)⟩, Or.inr (by decide +kernel), by decide +kernel, hz _ _ (by decide) (by decide) (by decide) (by decide) (by decide) (by decide), hz _ _ (by decide) (by decide) (by decide) (by decide) (by decide) (by decide), hz _ _ (by decide) (by decide) (by decide) (by decide) (by decide) (by decide), by decide, by decide, by decide⟩, ?_, ?_, ?_⟩
  · intro i hi
    refine ⟨false, hz _ _ (by omega) (by omega) (by omega) (by omega) (by omega) (by omega), hz _ _ (by decide) (by decide) (by decide) (by decide) (by decide) (by decide), fun h => nomatch h⟩
  · exact ⟨fun _ => 0, fun _ => 0, fun b _ => ⟨Nat.zero_le _, hz _ _ (by decide) (by decide) (by decide) (by decide) (by decide) (by decide), hz _ _ (by decide) (by decide) (by decide) (by decide) (by decide) (by decide), fun i hi => absurd hi (Nat.not_lt_zero i)⟩⟩
  · exact ⟨0, fun _ => 0, by decide, by decide +kernel, by decide +kernel, fun i hi => absurd hi (Nat.not_lt_zero i), by decide +kernel⟩
def kad (b : Nat) (u : Nat → Nat) (c : Nat) (v d : Nat → Nat) : Nat → Nat := fun a => ([b, u 0, u 1, u 2, u 3, u 58, u 59, u 60, u 61, u 4, u 5, u 6, u 7, u 8, u 9, u 10, u 11, u 12, u 13, u 14, u 15, u 16, u 17, u 18, u 19, u 20, u 21, u 22, u 23, u 24, u 25, u 26, u 27, u 28, u 29, u 30, u 31, u 32, u 33, u 34, u 35, u 36, u 37, u 38, u 39, u 40, u 41, u 42, u 43, u 44, u 45, u 46, u 47, u 48, u 49, u 50, u 51, u 52, u 53, u 54, u 55, u 56, u 57, c, v 0, v 1, v 2, v 3, v 4, v 5, v 6, v 7, v 8, v 9, d 0, d 1, d 2] : List Nat).getD a 0
def kwl (cI cZ cO : ClassId) (b : Nat) (u : Nat → Nat) (c : Nat) (v : Nat → Nat) : va_W := ([] ++ wo7 cI cZ cO b u) ++ wo8 cI cZ cO c v
def kperm (a : Nat) : Nat := if a < 5 then a else if a < 9 then a + 54 else if a < 63 then a - 4 else a
theorem kperm_inj : ∀ a, a < 74 → ∀ b, b < 74 → kperm a = kperm b → a = b := by decide +kernel
set_option maxRecDepth 100000 in
set_option maxHeartbeats 4000000 in
theorem kp_0 {cI cZ cO : ClassId} {b : Nat} {u : Nat → Nat} {c : Nat} {v d : Nat → Nat} : ∀ a, 0 ≤ a → a < 9 → (kwl cI cZ cO b u c v)[kperm a]? = some (kad b u c v d a, mn_cell cI cZ cO (kad b u c v d) (kh0 a) a) := by
  intro a h1 h2
  have : a = 0 ∨ a = 1 ∨ a = 2 ∨ a = 3 ∨ a = 4 ∨ a = 5 ∨ a = 6 ∨ a = 7 ∨ a = 8 := by omega
  rcases this with rfl | rfl | rfl | rfl | rfl | rfl | rfl | rfl | rfl
  · rfl
  · rfl
  · rfl
  · rfl
  · rfl
  · rfl
  · rfl
  · rfl
  · rfl
set_option maxRecDepth 100000 in
set_option maxHeartbeats 4000000 in
theorem kp_1 {cI cZ cO : ClassId} {b : Nat} {u : Nat → Nat} {c : Nat} {v d : Nat → Nat} : ∀ a, 10 ≤ a → a < 23 → (kwl cI cZ cO b u c v)[kperm a]? = some (kad b u c v d a, mn_cell cI cZ cO (kad b u c v d) (kh0 a) a) := by
  intro a h1 h2
  have : a = 10 ∨ a = 11 ∨ a = 12 ∨ a = 13 ∨ a = 14 ∨ a = 15 ∨ a = 16 ∨ a = 17 ∨ a = 18 ∨ a = 19 ∨ a = 20 ∨ a = 21 ∨ a = 22 := by omega
  rcases this with rfl | rfl | rfl | rfl | rfl | rfl | rfl | rfl | rfl | rfl | rfl | rfl | rfl
  · rfl
  · rfl
  · rfl
  · rfl
  · rfl
  · rfl
  · rfl
  · rfl
  · rfl
  · rfl
  · rfl
  · rfl
  · rfl
set_option maxRecDepth 100000 in
set_option maxHeartbeats 4000000 in
theorem kp_2 {cI cZ cO : ClassId} {b : Nat} {u : Nat → Nat} {c : Nat} {v d : Nat → Nat} : ∀ a, 23 ≤ a → a < 43 → (kwl cI cZ cO b u c v)[kperm a]? = some (kad b u c v d a, mn_cell cI cZ cO (kad b u c v d) (kh0 a) a) := by
  intro a h1 h2
  have : a = 23 ∨ a = 24 ∨ a = 25 ∨ a = 26 ∨ a = 27 ∨ a = 28 ∨ a = 29 ∨ a = 30 ∨ a = 31 ∨ a = 32 ∨ a = 33 ∨ a = 34 ∨ a = 35 ∨ a = 36 ∨ a = 37 ∨ a = 38 ∨ a = 39 ∨ a = 40 ∨ a = 41 ∨ a = 42 := by omega
  rcases this with rfl | rfl | rfl | rfl | rfl | rfl | rfl | rfl | rfl | rfl | rfl | rfl | rfl | rfl | rfl | rfl | rfl | rfl | rfl | rfl
  · rfl
  · rfl
  · rfl
  · rfl
  · rfl
  · rfl
  · rfl
  · rfl
  · rfl
  · rfl
  · rfl
  · rfl
  · rfl
  · rfl
  · rfl
  · rfl
  · rfl
  · rfl
  · rfl
  · rfl
set_option maxRecDepth 100000 in
set_option maxHeartbeats 4000000 in
theorem kp_3 {cI cZ cO : ClassId} {b : Nat} {u : Nat → Nat} {c : Nat} {v d : Nat → Nat} : ∀ a, 43 ≤ a → a < 63 → (kwl cI cZ cO b u c v)[kperm a]? = some (kad b u c v d a, mn_cell cI cZ cO (kad b u c v d) (kh0 a) a) := by
  intro a h1 h2
  have : a = 43 ∨ a = 44 ∨ a = 45 ∨ a = 46 ∨ a = 47 ∨ a = 48 ∨ a = 49 ∨ a = 50 ∨ a = 51 ∨ a = 52 ∨ a = 53 ∨ a = 54 ∨ a = 55 ∨ a = 56 ∨ a = 57 ∨ a = 58 ∨ a = 59 ∨ a = 60 ∨ a = 61 ∨ a = 62 := by omega
  rcases this with rfl | rfl | rfl | rfl | rfl | rfl | rfl | rfl | rfl | rfl | rfl | rfl | rfl | rfl | rfl | rfl | rfl | rfl | rfl | rfl
  · rfl
  · rfl
  · rfl
  · rfl
  · rfl
  · rfl
  · rfl
  · rfl
  · rfl
  · rfl
  · rfl
  · rfl
  · rfl
  · rfl
  · rfl
  · rfl
  · rfl
  · rfl
  · rfl
  · rfl
set_option maxRecDepth 100000 in
set_option maxHeartbeats 4000000 in
theorem kp_4 {cI cZ cO : ClassId} {b : Nat} {u : Nat → Nat} {c : Nat} {v d : Nat → Nat} : ∀ a, 63 ≤ a → a < 74 → (kwl cI cZ cO b u c v)[kperm a]? = some (kad b u c v d a, mn_cell cI cZ cO (kad b u c v d) (kh0 a) a) := by
  intro a h1 h2
  have : a = 63 ∨ a = 64 ∨ a = 65 ∨ a = 66 ∨ a = 67 ∨ a = 68 ∨ a = 69 ∨ a = 70 ∨ a = 71 ∨ a = 72 ∨ a = 73 := by omega
  rcases this with rfl | rfl | rfl | rfl | rfl | rfl | rfl | rfl | rfl | rfl | rfl
  · rfl
  · rfl
  · rfl
  · rfl
  · rfl
  · rfl
  · rfl
  · rfl
  · rfl
  · rfl
  · rfl
theorem kp_9 {cI cZ cO : ClassId} {b : Nat} {u : Nat → Nat} {c : Nat} {v d : Nat → Nat} : (kwl cI cZ cO b u c v)[kperm 9]? = some (kad b u c v d 9, .inl (cO, 2, .inr (.inr (.inr (.inr (va_up (va_up (fun _ => none) 0 (some (u 58))) 1 (some (u 60)))))))) := rfl
theorem kp_all {cI cZ cO : ClassId} {b : Nat} {u : Nat → Nat} {c : Nat} {v d : Nat → Nat} {a : Nat} (h1 : a < 74) (h2 : a ≠ 9) : (kwl cI cZ cO b u c v)[kperm a]? = some (kad b u c v d a, mn_cell cI cZ cO (kad b u c v d) (kh0 a) a) := by
  rcases Nat.lt_or_ge a 9 with h | h
  · exact kp_0 a (by omega) h
  · rcases Nat.lt_or_ge a 23 with h3 | h3
    · exact kp_1 a (by omega) h3
    · rcases Nat.lt_or_ge a 43 with h4 | h4
      · exact kp_2 a (by omega) h4
      · rcases Nat.lt_or_ge a 63 with h5 | h5
        · exact kp_3 a (by omega) h5
        · exact kp_4 a (by omega) h1
theorem kp_world {D : va_G} {A : Nat → Prop} {H0 H : Heap} {locs : List Loc} {cI cZ cO : ClassId} {b : Nat} {u : Nat → Nat} {c : Nat} {v d : Nat → Nat} (S : kS D A H0 (kwl cI cZ cO b u c v) H locs) : va_P D vwCl (mn_ws cI cZ cO (kad b u c v d) kh0) H ∧ va_D A (mn_ws cI cZ cO (kad b u c v d) kh0) := by
  obtain ⟨hP, hD, hS⟩ := S
  have key : ∀ (k : Nat) (q : Nat × va_E), (mn_ws cI cZ cO (kad b u c v d) kh0)[k]? = some q → k < 74 ∧ q = (kad b u c v d k, mn_cell cI cZ cO (kad b u c v d) (kh0 k) k) ∧ ∃ e, (kwl cI cZ cO b u c v)[kperm k]? = some (q.1, e) := by
    intro k q hq
    by_cases hk : k < 74
    · rw [mn_ws_at hk] at hq
      cases hq
      refine ⟨hk, rfl, ?_⟩
      by_cases h9 : k = 9
      · subst h9; exact ⟨_, kp_9 (d := d)⟩
      · exact ⟨_, kp_all hk h9⟩
    · rw [mn_ws_none hk] at hq; cases hq
  refine ⟨fun k q hq => ?_, fun i j x y hx hy hxy => ?_, fun k q hq => ?_⟩
  · obtain ⟨hk, rfl, -⟩ := key k q hq
    by_cases h9 : k = 9
    · subst h9
      have := hP _ _ (kp_9 (cI := cI) (cZ := cZ) (cO := cO) (b := b) (u := u) (c := c) (v := v) (d := d))
      show H[kad b u c v d 9]? = some (vp_cell cO (2, .inr (.inr (.inr (.inr (fun i => some (kad b u c v d (5 + 2 * i))))))))
      have t : H[kad b u c v d 9]? = some (vp_cell cO (2, .inr (.inr (.inr (.inr (va_up (va_up (fun _ => none) 0 (some (u 58))) 1 (some (u 60)))))))) := this
      rw [t]
      congr 1
    · exact hP _ _ (kp_all hk h9)
  · obtain ⟨hi, -, e1, g1⟩ := key i x hx
    obtain ⟨hj, -, e2, g2⟩ := key j y hy
    exact kperm_inj i hi j hj (hD.1 _ _ _ _ g1 g2 hxy)
  · obtain ⟨hk, -, e1, g1⟩ := key k q hq
    exact hD.2 _ (q.1, e1) g1
