def mn_WS (M : Nat) : List Cond := mn_Wc M :: lw_tbl.filter goodWord
theorem mn_wf {ws : List Cond} (h : GoodIn lw_tbl ws) {w : Cond} (hw : w ∈ ws) : w ∈ lw_tbl.filter goodWord := by
  obtain ⟨h1, h2⟩ := h w hw
  refine List.mem_filter.mpr ⟨h1, ?_⟩
  rcases h2 with h2 | ⟨ty, rfl⟩
  · cases w <;> first | exact h2 | rfl
  · rfl
theorem mn_wt {ws : List Cond} (h : GoodIn lw_tbl ws) {w : Cond} (hw : w ∈ ws) {M : Nat} : w ∈ mn_WS M := List.mem_cons_of_mem _ (mn_wf h hw)
theorem mn_wc {M C : Nat} (hC : C < 193) : mn_Wc C ∈ mn_WS M := mn_wt mn_Gc (List.mem_map.mpr ⟨C, List.mem_range.mpr hC, rfl⟩)
theorem mn_good {M C : Nat} (hC : C < 193) : GoodIn (mn_WS M) (mn_WS C) := by
  intro w hw
  rcases List.mem_cons.mp hw with rfl | hw
  · exact ⟨mn_wc hC, Or.inl rfl⟩
  · exact ⟨List.mem_cons_of_mem _ hw, good_of_word (List.mem_filter.mp hw).2⟩
def mn_cv (ad : Nat → Nat) : Value → Value
  | .ref a => .ref (ad a)
  | v => v
theorem mn_cv_cat (ad : Nat → Nat) (v : Value) : (mn_cv ad v).category = v.category := by cases v <;> rfl
def mn_val (ad : Nat → Nat) (f : Nat → Int32) (a ci k : Nat) : Value := if mn_isr ci k = true then .ref (ad (mn_rf f a k)) else .int (f k)
def mn_tys (cI cZ cO : ClassId) : List (ClassId × FieldType) := [(cI, .int), (cZ, .boolean), (cO, .object "TomorrowBells$Course")]
def mn_cell (cI cZ cO : ClassId) (ad : Nat → Nat) (f : Nat → Int32) (a : Nat) : va_E :=
  if (mn_sh a).1 = 0 then .inr ((mn_sh a).2, (List.range (mn_nf (mn_sh a).2)).map (mn_val ad f a (mn_sh a).2))
  else if (mn_sh a).1 = 1 then .inl (cI, (mn_sh a).2, .inl f)
  else if (mn_sh a).1 = 2 then .inl (cZ, (mn_sh a).2, .inl f)
  else .inl (cO, 2, .inr (.inr (.inr (.inr (fun i => some (ad (5 + 2 * i)))))))
def mn_ws (cI cZ cO : ClassId) (ad : Nat → Nat) (h : mn_H) : va_W := (List.range 74).map (fun a => (ad a, mn_cell cI cZ cO ad (h a) a))
theorem mn_ws_at {cI cZ cO : ClassId} {ad : Nat → Nat} {h : mn_H} {a : Nat} (ha : a < 74) : (mn_ws cI cZ cO ad h)[a]? = some (ad a, mn_cell cI cZ cO ad (h a) a) := by
  unfold mn_ws
  rw [List.getElem?_map, List.getElem?_range ha]
  rfl
theorem mn_ws_none {cI cZ cO : ClassId} {ad : Nat → Nat} {h : mn_H} {a : Nat} (ha : ¬ a < 74) : (mn_ws cI cZ cO ad h)[a]? = none := by
  apply List.getElem?_eq_none
  simp [mn_ws]
  omega
theorem mn_ws_set {cI cZ cO : ClassId} {ad : Nat → Nat} {h h1 : mn_H} {a : Nat} {e : va_E} (ha : a < 74) (he : mn_cell cI cZ cO ad (h1 a) a = e) (hh : ∀ b, b ≠ a → h1 b = h b) : (mn_ws cI cZ cO ad h).set a (ad a, e) = mn_ws cI cZ cO ad h1 := by
  apply List.ext_getElem?
  intro k
  by_cases hk : k = a
  · subst hk
    rw [List.getElem?_set_self (by simp [mn_ws]; exact ha), mn_ws_at ha, he]
  · rw [List.getElem?_set_ne (Ne.symm hk)]
    by_cases hl : k < 74
    · rw [mn_ws_at hl, mn_ws_at hl, hh k hk]
    · rw [mn_ws_none hl, mn_ws_none hl]
theorem mn_ws_D {cI cZ cO : ClassId} {ad : Nat → Nat} {h h1 : mn_H} {A : Nat → Prop} (hD : va_D A (mn_ws cI cZ cO ad h)) : va_D A (mn_ws cI cZ cO ad h1) := by
  have key : ∀ (k : Nat) (q : Nat × va_E), (mn_ws cI cZ cO ad h1)[k]? = some q → (mn_ws cI cZ cO ad h)[k]? = some (q.1, mn_cell cI cZ cO ad (h k) k) := by
    intro k q hq
    by_cases hl : k < 74
    · rw [mn_ws_at hl] at hq ⊢
      cases hq
      rfl
    · rw [mn_ws_none hl] at hq
      cases hq
  exact ⟨fun i j p q hp hq hpq => hD.1 i j _ _ (key i p hp) (key j q hq) hpq, fun k q hq => hD.2 k (q.1, mn_cell cI cZ cO ad (h k) k) (key k q hq)⟩
/-- what stands before the law begins, and is never written -/
def mn_K (ad : Nat → Nat) (lo : Nat) (U : State) (H : Heap) : Prop :=
  va_Z "TomorrowBells" "DAYS_WITH" "[J" (.ref (ad 74)) (fun q => lo ≤ q) U H ∧ va_T .long (ad 74) 6 (fun j => .long (mn_dw j)) (fun q => lo ≤ q) U H ∧
  va_Z "java/lang/String" "COMPACT_STRINGS" "Z" (.int 1) (fun q => lo ≤ q) U H ∧ vk_R "TomorrowBells$Reader" 118 "cmdky" (ad 75) U ∧
  va_O "java/lang/String" (ad 75) (fun q => lo ≤ q) U H ∧ va_OF "java/lang/String" "coder" "B" (.int 0) (ad 75) (fun q => lo ≤ q) U H ∧
  va_OF "java/lang/String" "value" "[B" (.ref (ad 76)) (ad 75) (fun q => lo ≤ q) U H ∧ va_T .byte (ad 76) 5 (fun j => .int (mn_byt j)) (fun q => lo ≤ q) U H ∧
  ∀ e ∈ mn_NLT, va_Nw (.methodLinkNest (mn_cn e.1) e.2.1 (mY e.2.2) "TomorrowBells") U
theorem mn_K.moved {ad : Nat → Nat} {lo : Nat} {s U : State} {H : Heap} (hW : s.WarmedH U.vm) (h : mn_K ad lo s H) : mn_K ad lo U H := by
  obtain ⟨h1, h2, h3, h4, h5, h6, h7, h8, h9⟩ := h
  exact ⟨h1.moved hW.alike, h2.moved hW.alike, h3.moved hW.alike, h4.warm hW, h5.moved hW.alike, h6.moved hW.alike, h7.moved hW.alike, h8.moved hW.alike, fun e he => va_Nw.warmM hW (h9 e he)⟩
theorem mn_K.same {ad : Nat → Nat} {lo : Nat} {s U : State} {H : Heap} (hv : U.vm = s.vm) (h : mn_K ad lo s H) : mn_K ad lo U H := by
  have ha : s.vm.Alike U.vm := by rw [hv]; exact Vm.Alike.refl _
  obtain ⟨h1, h2, h3, h4, h5, h6, h7, h8, h9⟩ := h
  exact ⟨h1.moved ha, h2.moved ha, h3.moved ha, h4.same hv, h5.moved ha, h6.moved ha, h7.moved ha, h8.moved ha, fun e he => va_Nw.same rfl hv.symm (h9 e he)⟩
theorem mn_K.kept {ad : Nat → Nat} {lo : Nat} {s : State} {H H1 : Heap} (h : mn_K ad lo s H) (hq : ∀ a : Nat, a < H.size → ¬ lo ≤ a → H1[a]? = H[a]?) : mn_K ad lo s H1 := by
  obtain ⟨h1, h2, h3, h4, h5, h6, h7, h8, h9⟩ := h
  exact ⟨h1.kept hq, h2.kept hq, h3.kept hq, h4, h5.kept hq, h6.kept hq, h7.kept hq, h8.kept hq, h9⟩
/-- the world that a method finds -/
def mn_Wd (D : va_G) (cI cZ cO : ClassId) (ad : Nat → Nat) (lo : Nat) (h : mn_H) (U : State) : Prop :=
  va_P D vwCl (mn_ws cI cZ cO ad h) U.heap ∧ va_D (fun q => lo ≤ q) (mn_ws cI cZ cO ad h) ∧ va_K D vwCl (mn_tys cI cZ cO) U ∧ mn_K ad lo U U.heap
def mn_Qc (D : va_G) (cI cZ cO : ClassId) (ad : Nat → Nat) (lo : Nat) (r : Option Value) (h' : mn_H) : Array Value → State → Outcome → State → Prop :=
  fun _ st oc t => oc = .returned (r.map (mn_cv ad)) ∧ va_P D vwCl (mn_ws cI cZ cO ad h') t.heap ∧ va_F (fun q => lo ≤ q) st t
def mn_rm (M : Nat) : Room := { frames := mF M, cells := 0, slots := 0, locals := mW M }
/-- the locals that are known -/
def mn_lv (ad : Nat → Nat) (ls : List Value) : List (Nat × Value) := (List.range ls.length).filterMap (fun k => if mn_isn (ls.getD k .null) = true then none else some (k, mn_cv ad (ls.getD k .null)))
theorem mn_lv_mem {ad : Nat → Nat} {ls : List Value} {q : Nat × Value} : q ∈ mn_lv ad ls ↔ ∃ v, ls[q.1]? = some v ∧ mn_isn v = false ∧ q.2 = mn_cv ad v := by
  obtain ⟨k, w⟩ := q
  unfold mn_lv
  simp only [List.mem_filterMap, List.mem_range, List.getD_eq_getElem?_getD]
  constructor
  · rintro ⟨j, hj, e⟩
    rw [List.getElem?_eq_getElem hj, Option.getD_some] at e
    by_cases hn : mn_isn ls[j] = true
    · rw [if_pos hn] at e; cases e
    · rw [if_neg hn] at e
      cases e
      exact ⟨ls[k], List.getElem?_eq_getElem hj, by simpa using hn, rfl⟩
  · rintro ⟨v, hv, hn, e⟩
    have hj := (List.getElem?_eq_some_iff.mp hv).1
    refine ⟨k, hj, ?_⟩
    rw [show ls[k]? = some v from hv, Option.getD_some, if_neg (by rw [hn]; decide)]
    exact congrArg some (congrArg (Prod.mk k) e.symm)
theorem mn_lvsub {ls : Array Slot} {n : Nat} {l l' : List (Nat × Value)} (h : lv_has ls n l) (hs : ∀ q ∈ l', q ∈ l) : lv_has ls n l' := ⟨h.1, h.2.1, fun q hq => h.2.2 q (hs q hq)⟩
theorem mn_at {ad : Nat → Nat} {lsA : Array Slot} {n i : Nat} {ls : List Value} {v : Value} (h : lv_has lsA n (mn_lv ad ls)) (hv : ls[i]? = some v) (hn : mn_isn v = false) : lsA[i]? = some (.val (mn_cv ad v)) := h.2.2 (i, mn_cv ad v) (mn_lv_mem.mpr ⟨v, hv, hn, rfl⟩)
theorem mn_g_cat {M k : Nat} {ls : List Value} {v : Value} (hg : mn_g M ls = true) (hv : ls[k]? = some v) (hc : v.category = 2) : k ∈ mN M := by
  unfold mn_g at hg
  rw [Bool.and_eq_true] at hg
  have h1 := List.all_eq_true.mp hg.1 k (List.mem_range.mpr (List.getElem?_eq_some_iff.mp hv).1)
  rw [List.getD_eq_getElem?_getD, hv, Option.getD_some] at h1
  simp [mn_isl, hc] at h1
  exact h1
theorem mn_g_nul {M j : Nat} {ls : List Value} {v : Value} (hg : mn_g M ls = true) (hj : j ∈ mN M) (hv : ls[j + 1]? = some v) : mn_isn v = true := by
  unfold mn_g at hg
  rw [Bool.and_eq_true] at hg
  have h1 := List.all_eq_true.mp hg.2 j hj
  rw [List.getD_eq_getElem?_getD, hv, Option.getD_some] at h1
  exact h1
theorem mn_g_of {M : Nat} {ls : List Value} (h1 : ∀ k v, ls[k]? = some v → v.category = 2 → k ∈ mN M) (h2 : ∀ j v, j ∈ mN M → ls[j + 1]? = some v → mn_isn v = true) : mn_g M ls = true := by
  unfold mn_g
  rw [Bool.and_eq_true]
  refine ⟨List.all_eq_true.mpr fun k hk => ?_, List.all_eq_true.mpr fun j hj => ?_⟩
  · have hl := List.mem_range.mp hk
    rw [List.getD_eq_getElem?_getD, List.getElem?_eq_getElem hl, Option.getD_some]
    by_cases hc : ls[k].category = 2
    · have := h1 k _ (List.getElem?_eq_getElem hl) hc
      simp [this]
    · simp [mn_isl, hc]
  · rw [List.getD_eq_getElem?_getD]
    cases hv : ls[j + 1]? with
    | none => rfl
    | some v => exact h2 j v hj hv
theorem mn_so_of {M i : Nat} {ls : List Value} (h : mn_so M i ls = true) : i < mL M ∧ ∀ j ∈ mN M, j ≠ i ∧ j + 1 ≠ i := by
  unfold mn_so at h
  rw [Bool.and_eq_true] at h
  refine ⟨of_decide_eq_true h.1, fun j hj => ?_⟩
  have := List.all_eq_true.mp h.2 j hj
  rw [Bool.and_eq_true] at this
  exact ⟨of_decide_eq_true this.1, of_decide_eq_true this.2⟩
theorem mn_so2_of {M i : Nat} {ls : List Value} (h : mn_so2 M i ls = true) : i + 1 < mL M ∧ i ∈ mN M ∧ ∀ j ∈ mN M, j ≠ i + 1 ∧ j + 1 ≠ i := by
  unfold mn_so2 at h
  rw [Bool.and_eq_true, Bool.and_eq_true] at h
  refine ⟨of_decide_eq_true h.1.1, by simpa using h.1.2, fun j hj => ?_⟩
  have := List.all_eq_true.mp h.2 j hj
  rw [Bool.and_eq_true] at this
  exact ⟨of_decide_eq_true this.1, of_decide_eq_true this.2⟩
theorem mn_set_get {ls : List Value} {i k : Nat} {x v : Value} (h : (ls.set i x)[k]? = some v) : (k = i ∧ v = x) ∨ (k ≠ i ∧ ls[k]? = some v) := by
  by_cases hk : k = i
  · subst hk
    by_cases hl : k < ls.length
    · rw [List.getElem?_set_self hl] at h; cases h; exact Or.inl ⟨rfl, rfl⟩
    · rw [List.getElem?_eq_none (by simpa using hl)] at h; cases h
  · rw [List.getElem?_set_ne (Ne.symm hk)] at h; exact Or.inr ⟨hk, h⟩
theorem mn_g1 {M i : Nat} {ls : List Value} {x : Value} (hg : mn_g M ls = true) (hs : mn_so M i ls = true) (hc : x.category = 1) : mn_g M (ls.set i x) = true := by
  obtain ⟨-, h2⟩ := mn_so_of hs
  refine mn_g_of (fun k v hv hv2 => ?_) (fun j v hj hv => ?_)
  · rcases mn_set_get hv with ⟨-, rfl⟩ | ⟨-, h⟩
    · omega
    · exact mn_g_cat hg h hv2
  · rcases mn_set_get hv with ⟨e, -⟩ | ⟨-, h⟩
    · exact absurd e (h2 j hj).2
    · exact mn_g_nul hg hj h
theorem mn_g2 {M i : Nat} {ls : List Value} {x : Value} (hg : mn_g M ls = true) (hs : mn_so2 M i ls = true) : mn_g M (ls.set i x) = true := by
  obtain ⟨-, h1, h2⟩ := mn_so2_of hs
  refine mn_g_of (fun k v hv hv2 => ?_) (fun j v hj hv => ?_)
  · rcases mn_set_get hv with ⟨rfl, -⟩ | ⟨-, h⟩
    · exact h1
    · exact mn_g_cat hg h hv2
  · rcases mn_set_get hv with ⟨e, -⟩ | ⟨-, h⟩
    · exact absurd e (h2 j hj).2
    · exact mn_g_nul hg hj h
theorem mn_lv1 {ad : Nat → Nat} {M i : Nat} {ls : List Value} {x : Value} (hg : mn_g M ls = true) (hs : mn_so M i ls = true) : ∀ q ∈ mn_lv ad (ls.set i x), q ∈ (i, mn_cv ad x) :: (mn_lv ad ls).filter (fun q => !(q.1 == i) && !(q.1 + 1 == i && q.2.category == 2)) := by
  obtain ⟨-, h2⟩ := mn_so_of hs
  intro q hq
  obtain ⟨v, hv, hn, e⟩ := mn_lv_mem.mp hq
  rcases mn_set_get hv with ⟨rfl, rfl⟩ | ⟨hk, h⟩
  · exact List.mem_cons.mpr (Or.inl (by rw [← e]))
  · refine List.mem_cons_of_mem _ (List.mem_filter.mpr ⟨mn_lv_mem.mpr ⟨v, h, hn, e⟩, ?_⟩)
    have h3 : ¬ (q.1 + 1 = i ∧ q.2.category = 2) := fun ⟨a, b⟩ => (h2 q.1 (mn_g_cat hg h (by rw [e, mn_cv_cat] at b; exact b))).2 a
    simp only [Bool.and_eq_true, Bool.not_eq_true', beq_eq_false_iff_ne, Bool.and_eq_false_iff]
    refine ⟨hk, ?_⟩
    by_cases ha : q.1 + 1 = i
    · exact Or.inr (fun b => h3 ⟨ha, b⟩)
    · exact Or.inl ha
theorem mn_lv2 {ad : Nat → Nat} {M i : Nat} {ls : List Value} {x : Value} (hg : mn_g M ls = true) (hs : mn_so2 M i ls = true) : ∀ q ∈ mn_lv ad (ls.set i x), q ∈ (i, mn_cv ad x) :: (mn_lv ad ls).filter (fun q => !(q.1 == i) && (!(q.1 == i + 1) && !(q.1 + 1 == i && q.2.category == 2))) := by
  obtain ⟨-, h1, h2⟩ := mn_so2_of hs
  intro q hq
  obtain ⟨v, hv, hn, e⟩ := mn_lv_mem.mp hq
  rcases mn_set_get hv with ⟨rfl, rfl⟩ | ⟨hk, h⟩
  · exact List.mem_cons.mpr (Or.inl (by rw [← e]))
  · refine List.mem_cons_of_mem _ (List.mem_filter.mpr ⟨mn_lv_mem.mpr ⟨v, h, hn, e⟩, ?_⟩)
    have h3 : ¬ (q.1 + 1 = i ∧ q.2.category = 2) := fun ⟨a, b⟩ => (h2 q.1 (mn_g_cat hg h (by rw [e, mn_cv_cat] at b; exact b))).2 a
    have h4 : q.1 ≠ i + 1 := fun a => by
      rw [a] at h
      have := mn_g_nul hg h1 h
      rw [hn] at this
      cases this
    simp only [Bool.and_eq_true, Bool.not_eq_true', beq_eq_false_iff_ne, Bool.and_eq_false_iff]
    refine ⟨hk, h4, ?_⟩
    by_cases ha : q.1 + 1 = i
    · exact Or.inr (fun b => h3 ⟨ha, b⟩)
    · exact Or.inl ha
theorem mn_ifn {α : Type} {c : Prop} {_ : Decidable c} {x : Option α} {q : α} (h : (if c then x else none) = some q) : c ∧ x = some q := by
  by_cases hc : c
  · rw [if_pos hc] at h; exact ⟨hc, h⟩
  · rw [if_neg hc] at h; cases h
