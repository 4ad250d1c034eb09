def kV : List Cond := [.methodLinkNest RX7 9 yX2_init "TomorrowBells", .methodLinkNest RX7 18 yX1_init "TomorrowBells", .methodLinkNest RX7 29 yX3_init "TomorrowBells", .methodLinkNest RX7 36 yX6_init "TomorrowBells", .methodLinkNest RX7 43 yX0_init "TomorrowBells", .stringRef "TomorrowBells$Reader" 118 "cmdky", .laysStatic "java/lang/String" "COMPACT_STRINGS" "Z", .laysStatic "TomorrowBells" "DAYS_WITH" "[J", .initialized "java/lang/String", .initialized "TomorrowBells", .arrayOver (.object "TomorrowBells$Course")]
set_option maxRecDepth 100000 in
theorem kV_at : kV = ([83, 109, 147, 173, 193, 390, 404, 721, 65, 54, 144] : List Nat).filterMap (fun i => lw_tbl[i]?) := by decide +kernel
theorem kV_mem {w : Cond} (h : w ∈ kV) : w ∈ lw_tbl := by
  rw [kV_at] at h
  obtain ⟨i, -, hi⟩ := List.mem_filterMap.mp h
  exact List.mem_of_getElem? hi
set_option maxHeartbeats 4000000 in
set_option maxRecDepth 100000 in
theorem k_cls {s : State} {args : Array Value} (hts : ∀ w ∈ lw_tbl, w.before args s = true) : ∃ (dC : Nat → ClassId) (dI : Nat → Nat → Nat), ∀ (k : Nat) (q : vw_C), vwCl[k]? = some q → u_Kn s q.1 q.2.1 q.2.2 (dC k) (dI k) := by
  have hg : ∀ w ∈ kW, w.before args s = true := fun w hw => hts w (kG w hw).1
  have hl : ∀ (k : Nat) (q : vw_C), vwCl[k]? = some q → ∀ w ∈ u_ws q.1 q.2.1 q.2.2, w ∈ lw_tbl := fun k q hq w hw => (mn_Gl w (List.mem_flatMap.mpr ⟨q, List.mem_of_getElem? hq, hw⟩)).1
  obtain ⟨c0, i0, n0⟩ := u_known (C := RX0) (T := TX0) (N := 4) (n := 4) hts (hl 0 _ rfl) (hg (.instantiable RX0 4) (by simp [kW]))
  obtain ⟨c1, i1, n1⟩ := u_known (C := RX1) (T := TX1) (N := 8) (n := 8) hts (hl 1 _ rfl) (hg (.instantiable RX1 8) (by simp [kW]))
  obtain ⟨c2, i2, n2⟩ := u_known (C := RX2) (T := TX2) (N := 6) (n := 6) hts (hl 2 _ rfl) (hg (.instantiable RX2 6) (by simp [kW]))
  obtain ⟨c3, i3, n3⟩ := u_known (C := RX3) (T := TX3) (N := 6) (n := 6) hts (hl 3 _ rfl) (hg (.instantiable RX3 6) (by simp [kW]))
  obtain ⟨c4, i4, n4⟩ := u_known (C := RX4) (T := TX4) (N := 4) (n := 4) hts (hl 4 _ rfl) (hg (.instantiable RX4 4) (by simp [kW]))
  obtain ⟨c5, i5, n5⟩ := u_known (C := RX5) (T := TX5) (N := 17) (n := 17) hts (hl 5 _ rfl) (hg (.instantiable RX5 17) (by simp [kW]))
  obtain ⟨c6, i6, n6⟩ := u_known (C := RX6) (T := TX6) (N := 4) (n := 4) hts (hl 6 _ rfl) (hg (.instantiable RX6 4) (by simp [kW]))
  obtain ⟨c7, i7, n7⟩ := u_known (C := RX7) (T := TX7) (N := 8) (n := 8) hts (hl 7 _ rfl) (hg (.instantiable RX7 8) (by simp [kW]))
  obtain ⟨c8, i8, n8⟩ := u_known (C := RX8) (T := TX8) (N := 24) (n := 24) hts (hl 8 _ rfl) (hg (.instantiable RX8 24) (by simp [kW]))
  refine ⟨fun k => if k = 0 then c0 else if k = 1 then c1 else if k = 2 then c2 else if k = 3 then c3 else if k = 4 then c4 else if k = 5 then c5 else if k = 6 then c6 else if k = 7 then c7 else c8, fun k => if k = 0 then i0 else if k = 1 then i1 else if k = 2 then i2 else if k = 3 then i3 else if k = 4 then i4 else if k = 5 then i5 else if k = 6 then i6 else if k = 7 then i7 else i8, ?_⟩
  intro k q hq
  match k, hq with
  | 0, hq => cases hq; exact n0
  | 1, hq => cases hq; exact n1
  | 2, hq => cases hq; exact n2
  | 3, hq => cases hq; exact n3
  | 4, hq => cases hq; exact n4
  | 5, hq => cases hq; exact n5
  | 6, hq => cases hq; exact n6
  | 7, hq => cases hq; exact n7
  | 8, hq => cases hq; exact n8
  | k + 9, hq => simp [vwCl] at hq
theorem k_arr {s : State} {args : Array Value} {ty : FieldType} (h : (Cond.arrayClass ty).before args s = true) : ∃ cA, ArrOfT s cA ty ∧ s.vm.findClass ("[" ++ ty.toString) = some cA := by
  obtain ⟨cA, kA, comp, h1, h2, h3⟩ := Cond.arrayClass_spec h
  exact ⟨cA, fun n z => ⟨fun k h => (by cases h), kA, h2, comp, h3⟩, h1⟩
set_option maxHeartbeats 4000000 in
set_option maxRecDepth 100000 in
theorem k_env {s : State} {args : Array Value} (hts : ∀ w ∈ lw_tbl, w.before args s = true) (hgv : (Jvm.Cond.and given_1 narrow_1).before args s = true) : ∃ (D : va_G) (cI cZ cO : ClassId) (d : Nat → Nat), va_K D vwCl (mn_tys cI cZ cO) s ∧ kN s ∧ ∀ b u c v, mn_K (kad b u c v d) s.heap.size s s.heap := by
  have hg : ∀ w ∈ kW, w.before args s = true := fun w hw => hts w (kG w hw).1
  have hv : ∀ w ∈ kV, w.before args s = true := fun w hw => hts w (kV_mem hw)
  obtain ⟨dC, dI, hKc⟩ := k_cls hts
  obtain ⟨cI, a1, a2⟩ := k_arr (hg (.arrayClass .int) (by simp [kW]))
  obtain ⟨cZ, b1, b2⟩ := k_arr (hg (.arrayClass .boolean) (by simp [kW]))
  have hao := hv (.arrayOver (.object "TomorrowBells$Course")) (by simp [kV])
  obtain ⟨comp, cO, kA, q1, q2, q3, q4, q5⟩ := Cond.arrayOver_spec hao
  have hs := flat_of_before _ hgv
  have hA : ∀ a : Nat, a < s.heap.size → ¬ (fun q => s.heap.size ≤ q) a := fun a h => Nat.not_le.mpr h
  obtain ⟨t, ht, hT⟩ := va_Tof (s := s) (args := args) (tm := .static "TomorrowBells" "DAYS_WITH" "[J") (ty := .long) (N := 6) (f := fun j => .long (mn_dw j)) (A := fun q => s.heap.size ≤ q) (by decide) (hs _ (by decide +kernel)) (va_eqt (hs _ (by decide +kernel))) (fun j hj => by
    rcases (show j = 0 ∨ j = 1 ∨ j = 2 ∨ j = 3 ∨ j = 4 ∨ j = 5 by omega) with rfl | rfl | rfl | rfl | rfl | rfl <;> exact va_eqtl (hs _ (by decide +kernel))) hA
  obtain ⟨aK, aV, ⟨hE, -⟩, hEv⟩ := vk_Sof (s := s) (args := args) (N := 1) (tm := fun _ => .string "TomorrowBells$Reader" 118) (len := [5]) (byt := [[99, 109, 100, 107, 121]]) (A := fun q => s.heap.size ≤ q) (fun i hi => by rw [show i = 0 by omega]; decide) (fun i hi => hs _ (by decide +kernel)) (fun i hi => hs _ (by decide +kernel)) (fun i hi => hs _ (by decide +kernel)) (fun i hi => by rw [show i = 0 by omega]; exact hs _ (by decide +kernel)) (fun i hi j hj => by
    obtain rfl : i = 0 := by omega
    have hj : j < 5 := hj
    rcases (show j = 0 ∨ j = 1 ∨ j = 2 ∨ j = 3 ∨ j = 4 by omega) with rfl | rfl | rfl | rfl | rfl <;> exact hs _ (by decide +kernel)) (fun i j hi hj h => absurd (show i = j by omega) h) hA
  obtain ⟨e1, e2, e3, e4⟩ := hE 0 (by decide)
  refine ⟨(dC, dI), cI, cZ, cO, fun k => if k = 0 then t else if k = 1 then aK 0 else aV 0, ⟨hKc, ?_⟩, ⟨va_AO.of hao, ?_⟩, fun b u c v => ⟨?_, hT, ?_, ?_, e1, e2, e3, e4, ?_⟩⟩
  · intro k q hq
    match k, hq with
    | 0, hq => cases hq; exact ⟨a1, a2⟩
    | 1, hq => cases hq; exact ⟨b1, b2⟩
    | 2, hq => cases hq; exact ⟨fun N z => ⟨(fun k h => by cases h), kA, q3, comp, q4⟩, kA, comp, q3, q4, q1, q5⟩
    | k + 3, hq => simp [mn_tys] at hq
  · intro e he
    simp only [kNL, List.mem_cons, List.not_mem_nil, or_false] at he
    rcases he with rfl | rfl | rfl | rfl | rfl <;> exact va_Nw.of rfl (hv _ (by simp [kV]))
  · exact va_Zref (hv _ (by simp [kV])) (hv _ (by simp [kV])) ht hA
  · exact va_Zof (hv _ (by simp [kV])) (hv _ (by simp [kV])) (va_eqt (hs _ (by decide +kernel))) hA
  · exact vk_R.of (hv (.stringRef "TomorrowBells$Reader" 118 "cmdky") (by simp [kV])) (hEv 0 (by decide))
  · intro e he
    have hm : Cond.methodLinkNest (mn_cn e.1) e.2.1 (mY e.2.2) "TomorrowBells" ∈ mn_NLT.map (fun e => Cond.methodLinkNest (mn_cn e.1) e.2.1 (mY e.2.2) "TomorrowBells") := List.mem_map.mpr ⟨e, he, rfl⟩
    rw [mn_Gn] at hm
    obtain ⟨i, -, hi⟩ := List.mem_filterMap.mp hm
    exact va_Nw.of rfl (hts _ (List.mem_of_getElem? hi))
