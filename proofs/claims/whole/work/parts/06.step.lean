/-- the machine at a method of the table -/
def mn_Cx (D : va_G) (cI cZ cO : ClassId) (ad : Nat → Nat) (lo M : Nat) (p : Program) (s : State) (m : MethodId) (args : Array Value) (meth : Method) (c : Code) : Prop :=
  p.tables.exec = Jvm.exec ∧ c.code = mC M ∧ meth.sig.returnType = mR M ∧ c.maxLocals = mL M ∧ s.vm.findClass (mn_cn (mO M)) = some m.cls ∧ (∀ w ∈ mn_WS M, w.before args s = true) ∧ meth.locks = false ∧ va_K D vwCl (mn_tys cI cZ cO) s ∧ mn_K ad lo s s.heap ∧ M < 193
def mn_Sx (D : va_G) (cI cZ cO : ClassId) (ad : Nat → Nat) (lo M : Nat) (s : State) (H : Heap) (locs : List Loc) (lsA : Array Slot) (h : mn_H) (ls : List Value) : Prop :=
  va_P D vwCl (mn_ws cI cZ cO ad h) H ∧ va_D (fun q => lo ≤ q) (mn_ws cI cZ cO ad h) ∧ va_S (fun q => lo ≤ q) s.heap H locs ∧ lv_has lsA (mL M) (mn_lv ad ls) ∧ mn_g M ls = true
theorem mn_cl9 : ∀ ci, ci < 9 → ∃ q, vwCl[ci]? = some q ∧ q.2.2 = mn_nf ci ∧ q.1 = mn_cn ci ∧ ∀ k, mn_fT ci k = q.2.1 k := by
  intro ci h
  have : ci = 0 ∨ ci = 1 ∨ ci = 2 ∨ ci = 3 ∨ ci = 4 ∨ ci = 5 ∨ ci = 6 ∨ ci = 7 ∨ ci = 8 := by omega
  rcases this with rfl | rfl | rfl | rfl | rfl | rfl | rfl | rfl | rfl <;> exact ⟨_, rfl, rfl, rfl, fun _ => rfl⟩
theorem mn_tyX : ∀ ci, ci < 9 → ∀ q, vwCl[ci]? = some q → ∃ ty0 : Nat → FieldType, (∀ k, k < q.2.2 → parseFieldDescriptor (q.2.1 k).2.2.1 = some (ty0 k)) ∧ (∀ a, a < q.2.2 → ∀ b, b < q.2.2 → a ≠ b → (q.2.1 a).2.1 ≠ (q.2.1 b).2.1) := by
  intro ci h q hq
  have : ci = 0 ∨ ci = 1 ∨ ci = 2 ∨ ci = 3 ∨ ci = 4 ∨ ci = 5 ∨ ci = 6 ∨ ci = 7 ∨ ci = 8 := by omega
  rcases this with rfl | rfl | rfl | rfl | rfl | rfl | rfl | rfl | rfl <;> cases hq
  · exact ⟨tyX0, tyX0_ok, nmX0⟩
  · exact ⟨tyX1, tyX1_ok, nmX1⟩
  · exact ⟨tyX2, tyX2_ok, nmX2⟩
  · exact ⟨tyX3, tyX3_ok, nmX3⟩
  · exact ⟨tyX4, tyX4_ok, nmX4⟩
  · exact ⟨tyX5, tyX5_ok, nmX5⟩
  · exact ⟨tyX6, tyX6_ok, nmX6⟩
  · exact ⟨tyX7, tyX7_ok, nmX7⟩
  · exact ⟨tyX8, tyX8_ok, nmX8⟩
theorem mn_fTs : ∀ ci, ci < 9 → ∀ k, k < mn_nf ci → (mn_fT ci k).1 = mn_cn ci ∧ (mn_fT ci k).2.2.2 = mn_fin ci k := by decide +kernel
theorem mn_fTt : ∀ ci, ci < 9 → ∀ k, k < mn_nf ci → mn_isr ci k = true ∨ (parseFieldDescriptor (mn_fT ci k).2.2.1 = some .int ∧ ¬ (ci = 1 ∧ k = 7)) ∨ (parseFieldDescriptor (mn_fT ci k).2.2.1 = some .boolean ∧ ci = 1 ∧ k = 7) := by decide +kernel
theorem mn_fl_of {o i ci k : Nat} (h : mn_fl o i = some (ci, k)) : (o, i, ci, k) ∈ mn_FLT := by
  unfold mn_fl at h
  cases hf : mn_FLT.find? (fun e => e.1 == o && e.2.1 == i) with
  | none => rw [hf] at h; cases h
  | some e =>
    rw [hf] at h
    have h1 := List.mem_of_find?_eq_some hf
    have h2 := List.find?_some hf
    obtain ⟨a, b, c, d⟩ := e
    simp at h2 h
    rw [h2.1, h2.2, h.1, h.2] at h1
    exact h1
theorem mn_ml_of {o i C : Nat} (h : mn_ml o i = some C) : (o, i, C) ∈ mn_MLT := by
  unfold mn_ml at h
  cases hf : mn_MLT.find? (fun e => e.1 == o && e.2.1 == i) with
  | none => rw [hf] at h; cases h
  | some e =>
    rw [hf] at h
    have h1 := List.mem_of_find?_eq_some hf
    have h2 := List.find?_some hf
    obtain ⟨a, b, c⟩ := e
    simp at h2 h
    rw [h2.1, h2.2, h] at h1
    exact h1
theorem mn_nl_of {o i C : Nat} (h : mn_nl o i = some C) : (o, i, C) ∈ mn_NLT := by
  unfold mn_nl at h
  cases hf : mn_NLT.find? (fun e => e.1 == o && e.2.1 == i) with
  | none => rw [hf] at h; cases h
  | some e =>
    rw [hf] at h
    have h1 := List.mem_of_find?_eq_some hf
    have h2 := List.find?_some hf
    obtain ⟨a, b, c⟩ := e
    simp at h2 h
    rw [h2.1, h2.2, h] at h1
    exact h1
theorem mn_ma_of {o i C : Nat} (h : mn_ma o i = some C) : (o, i, C) ∈ mn_MAT := by
  unfold mn_ma at h
  cases hf : mn_MAT.find? (fun e => e.1 == o && e.2.1 == i) with
  | none => rw [hf] at h; cases h
  | some e =>
    rw [hf] at h
    have h1 := List.mem_of_find?_eq_some hf
    have h2 := List.find?_some hf
    obtain ⟨a, b, c⟩ := e
    simp at h2 h
    rw [h2.1, h2.2, h] at h1
    exact h1
theorem mn_cst_of {o i : Nat} {v : Int32} (h : mn_cst o i = some v) : (o, i, v) ∈ mn_CT := by
  unfold mn_cst at h
  cases hf : mn_CT.find? (fun e => e.1 == o && e.2.1 == i) with
  | none => rw [hf] at h; cases h
  | some e =>
    rw [hf] at h
    have h1 := List.mem_of_find?_eq_some hf
    have h2 := List.find?_some hf
    obtain ⟨a, b, c⟩ := e
    simp at h2 h
    rw [h2.1, h2.2, h] at h1
    exact h1
theorem mn_cstl_of {o i : Nat} {v : Int64} (h : mn_cstl o i = some v) : (o, i, v) ∈ mn_CLT := by
  unfold mn_cstl at h
  cases hf : mn_CLT.find? (fun e => e.1 == o && e.2.1 == i) with
  | none => rw [hf] at h; cases h
  | some e =>
    rw [hf] at h
    have h1 := List.mem_of_find?_eq_some hf
    have h2 := List.find?_some hf
    obtain ⟨a, b, c⟩ := e
    simp at h2 h
    rw [h2.1, h2.2, h] at h1
    exact h1
theorem mn_val_set {ad : Nat → Nat} {f : Nat → Int32} {a ci n k : Nat} {x : Int32} {v : Value} (hk : k < n) (hv : mn_val ad (upd f k x) a ci k = v) (hr : ∀ j, j ≠ k → mn_isr ci j = true → mn_rf (upd f k x) a j = mn_rf f a j) : ((List.range n).map (mn_val ad f a ci)).set k v = (List.range n).map (mn_val ad (upd f k x) a ci) := by
  apply List.ext_getElem?
  intro j
  by_cases hj : j = k
  · subst hj
    rw [List.getElem?_set_self (by simpa using hk), List.getElem?_map, List.getElem?_range hk]
    simp [hv]
  · rw [List.getElem?_set_ne (Ne.symm hj), List.getElem?_map, List.getElem?_map]
    cases he : (List.range n)[j]? with
    | none => rfl
    | some i =>
      have hi : i = j := by
        have := (List.getElem?_eq_some_iff.mp he)
        obtain ⟨h1, h2⟩ := this
        simpa using h2.symm
      subst hi
      simp only [Option.map_some, Option.some.injEq]
      unfold mn_val
      by_cases hc : mn_isr ci i = true
      · rw [if_pos hc, if_pos hc, hr i hj hc]
      · rw [if_neg hc, if_neg hc]
        simp [upd, hj]
theorem mn_cell0 {cI cZ cO : ClassId} {ad : Nat → Nat} {f : Nat → Int32} {a ci : Nat} (hs : mn_sh a = (0, ci)) : mn_cell cI cZ cO ad f a = .inr (ci, (List.range (mn_nf ci)).map (mn_val ad f a ci)) := by
  unfold mn_cell; rw [hs]; rfl
theorem mn_cell1 {cI cZ cO : ClassId} {ad : Nat → Nat} {f : Nat → Int32} {a : Nat} (hs : (mn_sh a).1 = 1) : mn_cell cI cZ cO ad f a = .inl (cI, (mn_sh a).2, .inl f) := by
  unfold mn_cell; rw [if_neg (by rw [hs]; decide), if_pos hs]
theorem mn_cell2 {cI cZ cO : ClassId} {ad : Nat → Nat} {f : Nat → Int32} {a : Nat} (hs : (mn_sh a).1 = 2) : mn_cell cI cZ cO ad f a = .inl (cZ, (mn_sh a).2, .inl f) := by
  unfold mn_cell; rw [if_neg (by rw [hs]; decide), if_neg (by rw [hs]; decide), if_pos hs]
theorem mn_in_iff {i : Int32} {n : Nat} (h : mn_in i n = true) : vp_in i n := show ¬ (i < 0 ∨ n ≤ i.toNatClampNeg) from of_decide_eq_true h
theorem mn_nfw : nativeFrameWords "java/lang/System" "arraycopy" 5 + 11 ≤ 80 := by decide +kernel
theorem mn_up_self {h : mn_H} {a k : Nat} {x : Int32} : mn_up h a k x a = upd (h a) k x := by simp [mn_up]
theorem mn_up_ne {h : mn_H} {a b k : Nat} {x : Int32} (hb : b ≠ a) : mn_up h a k x b = h b := by simp [mn_up, hb]
section MNS
variable {D : va_G} {cI cZ cO : ClassId} {ad : Nat → Nat} {lo M : Nat}
variable {p : Program} {l : Launch} {e : Env} {s : State} {m : MethodId} {args : Array Value} {below : List Frame} {meth : Method} {c : Code} {Q : State → Prop}
/-- an own field is read -/
theorem mn_s_get {H : Heap} {locs : List Loc} {lsA : Array Slot} {h : mn_H} {ls st : List Value} {pc a i ci k : Nat} (C : mn_Cx D cI cZ cO ad lo M p s m args meth c) (S : mn_Sx D cI cZ cO ad lo M s H locs lsA h ls) (hd : decode (mC M) pc = .ok (.getfield i, 3)) (hf : mn_fl (mO M) i = some (ci, k)) (hs : mn_sh a = (0, ci)) (hci : ci < 9) (ha : a < 74) (hk : k < mn_nf ci)
    (kk : W p l e (mn_rm M) s m args below meth c H locs 0 0 Q (F0 m (pc + 3) lsA (mn_cv ad (mn_slot h a ci k) :: st))) : W p l e (mn_rm M) s m args below meth c H locs 0 0 Q (F0 m pc lsA (.ref (ad a) :: st)) := by
  obtain ⟨hx, hb, hr, hml, hown, hts, hlk, hK, hC, hM⟩ := C
  obtain ⟨hP, hD, hS, hl, hg⟩ := S
  obtain ⟨⟨C0, T0, N0⟩, q1, q2, q3, q4⟩ := mn_cl9 ci hci
  dsimp only at q2 q3 q4
  have hcv : mn_cv ad (mn_slot h a ci k) = mn_val ad (h a) a ci k := by
    unfold mn_slot mn_val
    by_cases hz : mn_isr ci k = true
    · rw [if_pos hz, if_pos hz]; rfl
    · rw [if_neg hz, if_neg hz]; rfl
  rw [hcv] at kk
  have hfl := hts _ (mn_wt mn_Gf (List.mem_map.mpr ⟨_, mn_fl_of hf, rfl⟩))
  dsimp only at hfl
  rw [q4 k] at hfl
  refine va_get (D := D) (cl := vwCl) (tys := mn_tys cI cZ cO) (ws := mn_ws cI cZ cO ad h) (C := C0) (T := T0) (N := N0) (ci := ci) (own := mn_cn (mO M)) hx hb hts (fun w hw => mn_wt mn_Gl (List.mem_flatMap.mpr ⟨_, List.mem_of_getElem? q1, hw⟩)) hown hK hP a (by rw [mn_ws_at ha, mn_cell0 hs]) q1 k (by rw [q2]; exact hk) hfl (fun x hx => ?_) (v := mn_val ad (h a) a ci k) ?_ hd kk
  · have := (mn_fTs ci hci k hk).1
    rw [q4 k] at this
    rw [this] at hx
    exact hx
  · rw [List.getElem?_map, List.getElem?_range hk]; rfl
/-- an own field is written -/
theorem mn_s_put {H : Heap} {locs : List Loc} {lsA : Array Slot} {h : mn_H} {ls st : List Value} {pc a i ci k : Nat} {v : Value} {x : Int32} (C : mn_Cx D cI cZ cO ad lo M p s m args meth c) (S : mn_Sx D cI cZ cO ad lo M s H locs lsA h ls) (hd : decode (mC M) pc = .ok (.putfield i, 3)) (hf : mn_fl (mO M) i = some (ci, k)) (hs : mn_sh a = (0, ci)) (hci : ci < 9) (ha : a < 74) (hk : k < mn_nf ci) (hfin : mn_fin ci k = false)
    {ty : FieldType} (hty : parseFieldDescriptor (mn_fT ci k).2.2.1 = some ty) (hn : narrow ty v = v) (hfit : fits ty v = true) (hv : mn_val ad (upd (h a) k x) a ci k = v) (hrf : ∀ j, j ≠ k → mn_isr ci j = true → mn_rf (upd (h a) k x) a j = mn_rf (h a) a j)
    (kk : ∀ (H1 : Heap) (locs1 : List Loc), mn_Sx D cI cZ cO ad lo M s H1 locs1 lsA (mn_up h a k x) ls → W p l e (mn_rm M) s m args below meth c H1 locs1 0 0 Q (F0 m (pc + 3) lsA st)) : W p l e (mn_rm M) s m args below meth c H locs 0 0 Q (F0 m pc lsA (v :: .ref (ad a) :: st)) := by
  obtain ⟨hx, hb, hr, hml, hown, hts, hlk, hK, hC, hM⟩ := C
  obtain ⟨hP, hD, hS, hl, hg⟩ := S
  obtain ⟨⟨C0, T0, N0⟩, q1, q2, q3, q4⟩ := mn_cl9 ci hci
  obtain ⟨ty0, t1, t2⟩ := mn_tyX ci hci _ q1
  dsimp only at q2 q3 q4 t1 t2
  have hfl := hts _ (mn_wt mn_Gf (List.mem_map.mpr ⟨_, mn_fl_of hf, rfl⟩))
  dsimp only at hfl
  rw [q4 k] at hfl hty
  have hset : (mn_ws cI cZ cO ad h).set a (ad a, .inr (ci, ((List.range (mn_nf ci)).map (mn_val ad (h a) a ci)).set k v)) = mn_ws cI cZ cO ad (mn_up h a k x) := by
    refine mn_ws_set ha ?_ (fun b hb => mn_up_ne hb)
    rw [mn_up_self, mn_cell0 hs, mn_val_set hk hv hrf]
  refine va_put (D := D) (cl := vwCl) (tys := mn_tys cI cZ cO) (ws := mn_ws cI cZ cO ad h) (C := C0) (T := T0) (N := N0) (ci := ci) (own := mn_cn (mO M)) hx hb hts (fun w hw => mn_wt mn_Gl (List.mem_flatMap.mpr ⟨_, List.mem_of_getElem? q1, hw⟩)) ty0 t1 t2 hown hK hP hD hS a (by rw [mn_ws_at ha, mn_cell0 hs]) q1 k (by rw [q2]; exact hk) hfl (fun y hy => ?_) ?_ (ty := ty) hty hn hfit (by simpa using hk) hd (fun H1 locs1 p1 p2 p3 => kk H1 locs1 ⟨?_, ?_, p3, hl, hg⟩)
  · have := (mn_fTs ci hci k hk).1
    rw [q4 k] at this
    rw [this] at hy
    exact hy
  · have := (mn_fTs ci hci k hk).2
    rw [q4 k] at this
    rw [this]; exact hfin
  · rw [hset] at p1; exact p1
  · exact mn_ws_D hD
end MNS
