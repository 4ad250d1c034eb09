def kW : List Cond := [.instanceMethod objectInit,
  .code objectInit ⟨#[0xb1]⟩ 1 none,
  .methodLink RX0 3 objectInit,
  .code yX0_init cX0_init 1 none,
  .instanceMethod yX0_init,
  .instantiable RX0 4,
  .initialized RX0,
  .methodLink RX1 3 objectInit,
  .code yX1_init cX1_init 1 none,
  .instanceMethod yX1_init,
  .instantiable RX1 8,
  .initialized RX1,
  .methodLink RX2 3 objectInit,
  .code yX2_init cX2_init 1 none,
  .instanceMethod yX2_init,
  .instantiable RX2 6,
  .initialized RX2,
  .methodLink RX3 3 objectInit,
  .code yX3_init cX3_init 1 none,
  .instanceMethod yX3_init,
  .instantiable RX3 6,
  .initialized RX3,
  .methodLink RX4 3 objectInit,
  .code yX4_init cX4_init 2 none,
  .instanceMethod yX4_init,
  .instantiable RX4 4,
  .initialized RX4,
  .methodLink RX5 3 objectInit,
  .code yX5_init cX5_init 1 none,
  .instanceMethod yX5_init,
  .instantiable RX5 17,
  .initialized RX5,
  .methodLink RX6 3 objectInit,
  .code yX6_init cX6_init 1 none,
  .instanceMethod yX6_init,
  .instantiable RX6 4,
  .initialized RX6,
  .methodLink RX7 1 objectInit,
  .code yX7_init cX7_init 2 none,
  .instanceMethod yX7_init,
  .instantiable RX7 8,
  .initialized RX7,
  .methodLink RX8 1 objectInit,
  .code yX8_init cX8_init 2 none,
  .instanceMethod yX8_init,
  .instantiable RX8 24,
  .initialized RX8,
  .classLink RX7 7 RX2,
  .classLink RX7 16 RX1,
  .classLink RX7 27 RX3,
  .classLink RX7 34 RX6,
  .classLink RX7 41 RX0,
  .classLink RX7 48 RX5,
  .classLink RX5 33 RX4,
  .classLink "TomorrowBellsLaw" 7 RX7,
  .classLink "TomorrowBellsLaw" 10 RX8,
  .methodLink RX7 50 yX5_init,
  .methodLink RX5 35 yX4_init,
  .methodLink "TomorrowBellsLaw" 9 yX7_init,
  .methodLink "TomorrowBellsLaw" 12 yX8_init,
  .arrayClass .int,
  .arrayClass .boolean,
  .methodLink RX4 9 Lib.Math.max.name,
  .static Lib.Math.max.name,
  .code Lib.Math.max.name Lib.Math.max.code 2 (some .int),
  .initialized "java/lang/Math",
  .methodLink RX5 57 (mY 192),
  .static (mY 192),
  .code (mY 192) (mC 192) 4 none,
  .initialized "java/util/Arrays",
  .constant RX8 42 63360]
set_option maxRecDepth 100000 in
theorem kG : GoodIn lw_tbl kW := goodIn_r _ [79, 80, 196, 195, 194, 192, 59, 112, 111, 110, 108, 56, 86, 85, 84, 82, 55, 150, 149, 148, 146, 57, 221, 220, 219, 217, 61, 215, 214, 213, 211, 60, 176, 175, 174, 172, 58, 78, 77, 76, 74, 54, 927, 926, 925, 923, 64, 81, 107, 145, 171, 191, 210, 216, 73, 922, 212, 218, 75, 924, 106, 170, 222, 223, 224, 62, 238, 239, 240, 63, 928] (by decide +kernel) (by decide +kernel)
theorem kw {args : Array Value} {s : State} {Ts : List Cond} (hts : ∀ w ∈ Ts, w.before args s = true) (hTs : ∀ w ∈ lw_tbl.filter goodWord, w ∈ Ts) (k : Nat) {w : Cond} (h : kW[k]? = some w) : w.before args s = true := hts w (hTs w (mn_wf kG (List.mem_of_getElem? h)))
def kI (y : MethodName) (c : ByteArray) (n : Nat) : List Cond := .code y c n none :: lw_tbl.filter goodWord
theorem kI_good {y : MethodName} {c : ByteArray} {n : Nat} {Ts : List Cond} (hTs : ∀ w ∈ lw_tbl.filter goodWord, w ∈ Ts) (k : Nat) (h : kW[k]? = some (.code y c n none)) : GoodIn Ts (kI y c n) := by
  intro w hw
  rcases List.mem_cons.mp hw with rfl | hw
  · exact ⟨hTs _ (mn_wf kG (List.mem_of_getElem? h)), Or.inl rfl⟩
  · exact ⟨hTs _ hw, good_of_word (List.mem_filter.mp hw).2⟩
/-- an object that was just made -/
def kdf (ci : Nat) : List Value := (List.range (mn_nf ci)).map (fun k => if mn_isr ci k = true then .null else .int 0)
def kNL : List (Nat × MethodName) := [(9, yX2_init), (18, yX1_init), (29, yX3_init), (36, yX6_init), (43, yX0_init)]
def kN (U : State) : Prop := va_AO "TomorrowBells$Course" U ∧ ∀ e ∈ kNL, va_Nw (.methodLinkNest RX7 e.1 e.2 "TomorrowBells") U
theorem kN.same {s U : State} (hv : U.vm = s.vm) (h : kN s) : kN U := ⟨h.1.moved (by rw [hv]; exact Vm.Alike.refl _), fun e he => va_Nw.same rfl hv.symm (h.2 e he)⟩
theorem kN.moved {s U : State} (hW : s.WarmedH U.vm) (h : kN s) : kN U := ⟨h.1.moved hW.alike, fun e he => va_Nw.warmM hW (h.2 e he)⟩
/-- the machine in a constructor -/
def kC (D : va_G) (cI cZ cO : ClassId) (own : String) (cc : ByteArray) (nL : Nat) (Ts : List Cond) (p : Program) (s : State) (m : MethodId) (args : Array Value) (meth : Method) (c : Code) : Prop :=
  p.tables.exec = Jvm.exec ∧ c.code = cc ∧ c.maxLocals = nL ∧ s.vm.findClass own = some m.cls ∧ (∀ w ∈ Ts, w.before args s = true) ∧ (∀ w ∈ lw_tbl.filter goodWord, w ∈ Ts) ∧ va_K D vwCl (mn_tys cI cZ cO) s ∧ kN s
def kS (D : va_G) (A : Nat → Prop) (H0 : Heap) (ws : va_W) (H : Heap) (locs : List Loc) : Prop := va_P D vwCl ws H ∧ va_D A ws ∧ va_S A H0 H locs
theorem k_ty : ∀ ci, ci < 9 → ∀ q, vwCl[ci]? = some q → ∃ ty0 : Nat → FieldType, (∀ k, k < q.2.2 → parseFieldDescriptor (q.2.1 k).2.2.1 = some (ty0 k)) ∧ ∀ j, j < q.2.2 → defaultValue (ty0 j) = vp_V (kdf ci) j := by
  intro ci h q hq
  have : ci = 0 ∨ ci = 1 ∨ ci = 2 ∨ ci = 3 ∨ ci = 4 ∨ ci = 5 ∨ ci = 6 ∨ ci = 7 ∨ ci = 8 := by omega
  rcases this with rfl | rfl | rfl | rfl | rfl | rfl | rfl | rfl | rfl <;> cases hq
  · exact ⟨tyX0, tyX0_ok, by decide +kernel⟩
  · exact ⟨tyX1, tyX1_ok, by decide +kernel⟩
  · exact ⟨tyX2, tyX2_ok, by decide +kernel⟩
  · exact ⟨tyX3, tyX3_ok, by decide +kernel⟩
  · exact ⟨tyX4, tyX4_ok, by decide +kernel⟩
  · exact ⟨tyX5, tyX5_ok, by decide +kernel⟩
  · exact ⟨tyX6, tyX6_ok, by decide +kernel⟩
  · exact ⟨tyX7, tyX7_ok, by decide +kernel⟩
  · exact ⟨tyX8, tyX8_ok, by decide +kernel⟩
section KK
variable {D : va_G} {cI cZ cO : ClassId} {own : String} {cc : ByteArray} {nL : Nat} {Ts : List Cond}
variable {p : Program} {l : Launch} {e : Env} {R : Room} {s : State} {m : MethodId} {args : Array Value} {below : List Frame} {meth : Method} {c : Code} {Q : State → Prop} {H H0 : Heap} {locs : List Loc} {cells slots pc : Nat} {A : Nat → Prop} {ws : va_W} {ls : Array Slot} {rest : List Value}
/-- a row of ints -/
theorem k_na (C : kC D cI cZ cO own cc nL Ts p s m args meth c) (S : kS D A H0 ws H locs) (hA : ∀ q, H0.size ≤ q → A q) {n : Int32} {N : Nat} (hn : ¬ n < 0) (hN : n.toNatClampNeg = N) (hby : N * 4 ≤ 536870912) (hc : cells + 1 ≤ R.cells) (hs : slots + N ≤ R.slots) (hdg : decode cc pc = .ok (.newarray .int, 2))
    (kk : ∀ (q : Nat) (H1 : Heap), kS D A H0 (ws ++ [(q, .inl (cI, N, .inl (fun _ => 0)))]) H1 locs → W p l e R s m args below meth c H1 locs (cells + 1) (slots + N) Q (F0 m (pc + 2) ls (.ref q :: rest))) : W p l e R s m args below meth c H locs cells slots Q (F0 m pc ls (.int n :: rest)) := by
  obtain ⟨hx, hb, hml, hown, hts, hTs, hK, hN0⟩ := C
  obtain ⟨hP, hD, hS⟩ := S
  refine va_newa (atype := .int) (ty := .int) (a0 := (N, .inl (fun _ => 0))) hx hb (kw hts hTs 60 rfl) rfl hK hP hD hS hA (fun _ => rfl) hn hN hby hc hs hdg (fun q cA H1 hK1 hP1 hD1 hS1 => ?_)
  have e1 : s.vm.findClass ("[" ++ FieldType.int.toString) = some cA := (hK1.2 3 (cA, .int) rfl).2
  have e2 : s.vm.findClass ("[" ++ FieldType.int.toString) = some cI := (hK1.2 0 (cI, .int) rfl).2
  rw [e1] at e2
  cases e2
  exact kk q H1 ⟨hP1, hD1, hS1⟩
theorem k_nz (C : kC D cI cZ cO own cc nL Ts p s m args meth c) (S : kS D A H0 ws H locs) (hA : ∀ q, H0.size ≤ q → A q) {n : Int32} {N : Nat} (hn : ¬ n < 0) (hN : n.toNatClampNeg = N) (hby : N * componentBytes .boolean ≤ 536870912) (hc : cells + 1 ≤ R.cells) (hs : slots + N ≤ R.slots) (hdg : decode cc pc = .ok (.newarray .boolean, 2))
    (kk : ∀ (q : Nat) (H1 : Heap), kS D A H0 (ws ++ [(q, .inl (cZ, N, .inl (fun _ => 0)))]) H1 locs → W p l e R s m args below meth c H1 locs (cells + 1) (slots + N) Q (F0 m (pc + 2) ls (.ref q :: rest))) : W p l e R s m args below meth c H locs cells slots Q (F0 m pc ls (.int n :: rest)) := by
  obtain ⟨hx, hb, hml, hown, hts, hTs, hK, hN0⟩ := C
  obtain ⟨hP, hD, hS⟩ := S
  refine va_newa (atype := .boolean) (ty := .boolean) (a0 := (N, .inl (fun _ => 0))) hx hb (kw hts hTs 61 rfl) rfl hK hP hD hS hA (fun _ => rfl) hn hN hby hc hs hdg (fun q cA H1 hK1 hP1 hD1 hS1 => ?_)
  have e1 : s.vm.findClass ("[" ++ FieldType.boolean.toString) = some cA := (hK1.2 3 (cA, .boolean) rfl).2
  have e2 : s.vm.findClass ("[" ++ FieldType.boolean.toString) = some cZ := (hK1.2 1 (cZ, .boolean) rfl).2
  rw [e1] at e2
  cases e2
  exact kk q H1 ⟨hP1, hD1, hS1⟩
/-- the row of images -/
theorem k_nq (C : kC D cI cZ cO own cc nL Ts p s m args meth c) (S : kS D A H0 ws H locs) (hA : ∀ q, H0.size ≤ q → A q) {index : Nat} (hcl : (Cond.classLink own index "TomorrowBells$Course").before args s = true) (hc : cells + 1 ≤ R.cells) (hs : slots + 2 ≤ R.slots) (hdg : decode cc pc = .ok (.anewarray index, 3))
    (kk : ∀ (q : Nat) (H1 : Heap), kS D A H0 (ws ++ [(q, .inl (cO, 2, .inr (.inr (.inr (.inr (fun _ => none))))))]) H1 locs → W p l e R s m args below meth c H1 locs (cells + 1) (slots + 2) Q (F0 m (pc + 3) ls (.ref q :: rest))) : W p l e R s m args below meth c H locs cells slots Q (F0 m pc ls (.int 2 :: rest)) := by
  obtain ⟨hx, hb, hml, hown, hts, hTs, hK, hN0⟩ := C
  obtain ⟨hP, hD, hS⟩ := S
  refine va_newq hx hb hown hcl hN0.1 hK hP hD hS hA (by decide) (N' := 2) (by decide) (by decide) hc hs hdg (fun q cA H1 hK1 hP1 hD1 hS1 => ?_)
  obtain ⟨_, _, _, _, _, e1⟩ := (hK1.2 3 (cA, .object "TomorrowBells$Course") rfl).2
  obtain ⟨_, _, _, _, _, e2⟩ := (hK1.2 2 (cO, .object "TomorrowBells$Course") rfl).2
  rw [e1] at e2
  cases e2
  exact kk q H1 ⟨hP1, hD1, hS1⟩
/-- a field of the object is set for the first time -/
theorem k_put (C : kC D cI cZ cO own cc nL Ts p s m args meth c) (S : kS D A H0 ws H locs) (hin : meth.name = "<init>") {ci k i q0 a : Nat} (ho : own = mn_cn ci) (hci : ci < 9) (hk : k < mn_nf ci) (hf : mn_fl ci i = some (ci, k)) {fs : List Value} (he : ws[q0]? = some (a, .inr (ci, fs))) (hl : k < fs.length) {v : Value} {ty : FieldType} (hty : parseFieldDescriptor (mn_fT ci k).2.2.1 = some ty) (hn : narrow ty v = v) (hfit : fits ty v = true) (hdg : decode cc pc = .ok (.putfield i, 3))
    (kk : ∀ (H1 : Heap) (locs1 : List Loc), kS D A H0 (ws.set q0 (a, .inr (ci, fs.set k v))) H1 locs1 → W p l e R s m args below meth c H1 locs1 cells slots Q (F0 m (pc + 3) ls rest)) : W p l e R s m args below meth c H locs cells slots Q (F0 m pc ls (v :: .ref a :: rest)) := by
  obtain ⟨hx, hb, hml, hown, hts, hTs, hK, hN0⟩ := C
  obtain ⟨hP, hD, hS⟩ := S
  obtain ⟨⟨C0, T0, N0⟩, q1, q2, q3, q4⟩ := mn_cl9 ci hci
  obtain ⟨ty0, t1, t2⟩ := mn_tyX ci hci _ q1
  dsimp only at q2 q3 q4 t1 t2
  have hfl := hts _ (hTs _ (mn_wf mn_Gf (List.mem_map.mpr ⟨_, mn_fl_of hf, rfl⟩)))
  dsimp only at hfl
  have hs1 := mn_fTs ci hci k hk
  rw [q4 k] at hfl hty hs1
  rw [← ho] at hfl
  have hsub : ∀ w ∈ u_ws C0 T0 N0, w ∈ Ts := fun w hw => hTs _ (mn_wf mn_Gl (List.mem_flatMap.mpr ⟨_, List.mem_of_getElem? q1, hw⟩))
  cases hfn : mn_fin ci k with
  | true =>
    refine va_putF (D := D) (cl := vwCl) (tys := mn_tys cI cZ cO) (C := C0) (T := T0) (N := N0) (ci := ci) (own := own) hx hb hts hsub ty0 t1 t2 hown hK hP hD hS q0 he q1 k (by rw [q2]; exact hk) hfl (fun y hy => ?_) (by rw [hs1.2]; exact hfn) hin (by rw [hs1.1, ho]) (ty := ty) hty hn hfit hl hdg (fun H1 locs1 p1 p2 p3 => kk H1 locs1 ⟨p1, p2, p3⟩)
    rw [hs1.1] at hy
    rw [ho]; exact hy
  | false =>
    refine va_put (D := D) (cl := vwCl) (tys := mn_tys cI cZ cO) (C := C0) (T := T0) (N := N0) (ci := ci) (own := own) hx hb hts hsub ty0 t1 t2 hown hK hP hD hS q0 he q1 k (by rw [q2]; exact hk) hfl (fun y hy => ?_) (by rw [hs1.2]; exact hfn) (ty := ty) hty hn hfit hl hdg (fun H1 locs1 p1 p2 p3 => kk H1 locs1 ⟨p1, p2, p3⟩)
    rw [hs1.1] at hy
    rw [ho]; exact hy
/-- new, dup -/
theorem k_new (C : kC D cI cZ cO own cc nL Ts p s m args meth c) (S : kS D A H0 ws H locs) (hA : ∀ q, H0.size ≤ q → A q) {ci i : Nat} (hci : ci < 9) (hcl : (Cond.classLink own i (mn_cn ci)).before args s = true) (hinst : (Cond.instantiable (mn_cn ci) (mn_nf ci)).before args s = true) (hini : (Cond.initialized (mn_cn ci)).before args s = true) (hc : cells + 1 ≤ R.cells) (hs : slots + mn_nf ci ≤ R.slots) (hd1 : decode cc pc = .ok (.new i, 3)) (hd2 : decode cc (pc + 3) = .ok (.dup, 1))
    (kk : ∀ (q : Nat) (H1 : Heap), kS D A H0 (ws ++ [(q, .inr (ci, kdf ci))]) H1 locs → W p l e R s m args below meth c H1 locs (cells + 1) (slots + mn_nf ci) Q (F0 m (pc + 4) ls (.ref q :: .ref q :: rest))) : W p l e R s m args below meth c H locs cells slots Q (F0 m pc ls rest) := by
  obtain ⟨hx, hb, hml, hown, hts, hTs, hK, hN0⟩ := C
  obtain ⟨hP, hD, hS⟩ := S
  obtain ⟨⟨C0, T0, N0⟩, q1, q2, q3, q4⟩ := mn_cl9 ci hci
  obtain ⟨ty0, t1, t2⟩ := k_ty ci hci _ q1
  dsimp only at q2 q3 q4 t1 t2
  rw [← q3] at hcl hinst hini
  rw [← q2] at hinst hs kk
  refine va_new (ci := ci) (fs := kdf ci) (C := C0) (T := T0) (N := N0) hx hb hts (fun w hw => hTs _ (mn_wf mn_Gl (List.mem_flatMap.mpr ⟨_, List.mem_of_getElem? q1, hw⟩))) ty0 t1 hown hcl hinst hini hK hP hD hS hA q1 t2 hc hs hd1 (fun q H1 p1 p2 p3 => ?_)
  exact lv_dup hx hb hd2 rfl (kk q H1 ⟨p1, p2, p3⟩)
end KK
/-- what a constructor may change -/
abbrev kA (ci b sz : Nat) : Nat → Prop := va_A [(b, .inr (ci, kdf ci))] sz
def kPre (D : va_G) (cI cZ cO : ClassId) (ci b sz : Nat) (U : State) : Prop := U.heap.size = sz ∧ va_P D vwCl [(b, .inr (ci, kdf ci))] U.heap ∧ va_K D vwCl (mn_tys cI cZ cO) U ∧ va_D (fun _ => True) [(b, .inr (ci, kdf ci))] ∧ kN U
abbrev kQ (D : va_G) (ci b sz : Nat) (wo : Nat → (Nat → Nat) → va_W) : Array Value → State → Outcome → State → Prop := va_Qv (fun _ : Nat → Nat => True) (fun q t => va_P D vwCl (wo b q) t.heap ∧ va_D (kA ci b sz) (wo b q)) (kA ci b sz)
/-- a constructor's contract: out of an object just made, the world wo -/
def kMet (l : Launch) (D : va_G) (cI cZ cO : ClassId) (y : MethodName) (cc : ByteArray) (nL : Nat) (As : List Value) (ci : Nat) (rm : Room) (mc ms : Nat) (wo : Nat → (Nat → Nat) → va_W) : Prop :=
  ∀ b sz : Nat, Met l y (kI y cc nL) rm (va_Pc (.ref b :: As) (kPre D cI cZ cO ci b sz)) (kQ D ci b sz wo) mc ms (kA ci b sz)
section KM
variable {D : va_G} {cI cZ cO : ClassId} {own : String} {cc : ByteArray} {nL : Nat} {Ts : List Cond}
variable {p : Program} {l : Launch} {e : Env} {R : Room} {s : State} {m : MethodId} {args : Array Value} {below : List Frame} {meth : Method} {c : Code} {Q : State → Prop} {H H0 : Heap} {locs : List Loc} {cells slots pc : Nat} {A : Nat → Prop} {ws : va_W} {ls : Array Slot} {rest : List Value}
theorem k_nd : ∀ n : Nat, va_nd (List.range n) = true := by
  have gen : ∀ (l : List Nat), l.Nodup → va_nd l = true := by
    intro l
    induction l with
    | nil => intro _; rfl
    | cons a l ih =>
      intro h
      have h1 := List.nodup_cons.mp h
      simp only [va_nd, Bool.and_eq_true, decide_eq_true_eq]
      exact ⟨h1.1, ih h1.2⟩
  intro n
  exact gen _ List.nodup_range
/-- a constructor is called -/
theorem k_call (C : kC D cI cZ cO own cc nL Ts p s m args meth c) {ci i : Nat} {b : Nat} (S : kS D A H0 (ws ++ [(b, .inr (ci, kdf ci))]) H locs) (hA : ∀ q, H0.size ≤ q → A q) {y : MethodName} {cc1 : ByteArray} {nL1 mc ms : Nat} {As : List Value} {rm : Room} {wo : Nat → (Nat → Nat) → va_W} (hM : kMet l D cI cZ cO y cc1 nL1 As ci rm mc ms wo)
    (hl : ls.size = nL) (hcode : ∃ k : Nat, kW[k]? = some (.code y cc1 nL1 none)) (hini : (Cond.initialized y.cls).before args s = true) (hinst : (Cond.instanceMethod y).before args s = true) (hlink : (Cond.methodLink own i y).before args s = true ∨ va_Nw (.methodLinkNest own i y "TomorrowBells") s)
    (hy : y.name = "<init>") (hd : y.cls ≠ "java/lang/invoke/MethodHandle" ∧ y.cls ≠ "java/lang/invoke/VarHandle" ∧ (parseMethodDescriptor y.desc).map (fun d => d.parameters.length) = some As.length) (hR : rm.frames + 1 ≤ R.frames ∧ 8 + (nL1 + 11) + rm.locals ≤ R.locals) (hrm : rm.cells = mc ∧ rm.slots = ms) (hroom : (rest.map fun v => v.category).sum ≤ 8) (hc : cells + mc ≤ R.cells) (hs : slots + ms ≤ R.slots) (hdg : decode cc pc = .ok (.invokespecial i, 3))
    (kk : ∀ (q : Nat → Nat) (H1 : Heap) (locs1 : List Loc), kS D A H0 (ws ++ wo b q) H1 locs1 → W p l e R s m args below meth c H1 locs1 (cells + mc) (slots + ms) Q (F0 m (pc + 3) ls rest)) : W p l e R s m args below meth c H locs cells slots Q (F0 m pc ls (As.reverse ++ .ref b :: rest)) := by
  obtain ⟨hx, hb, hml, hown, hts, hTs, hK, hN0⟩ := C
  obtain ⟨hP, hD, hS⟩ := S
  obtain ⟨kc, hkc⟩ := hcode
  have hlen : ∀ i, i < ws.length → (ws ++ [(b, (.inr (ci, kdf ci) : va_E))])[i]? = ws[i]? := fun i hi => List.getElem?_append_left hi
  have hC1 : [ws.length].map (fun i => (ws ++ [(b, (.inr (ci, kdf ci) : va_E))])[i]?) = [(b, (.inr (ci, kdf ci) : va_E))].map some := by simp
  have hR1 : (List.range ws.length).map (fun i => (ws ++ [(b, (.inr (ci, kdf ci) : va_E))])[i]?) = ws.map some := by
    apply List.ext_getElem?
    intro k
    rw [List.getElem?_map, List.getElem?_map]
    by_cases hk : k < ws.length
    · rw [List.getElem?_range hk, Option.map_some, hlen k hk, List.getElem?_eq_getElem hk]; rfl
    · rw [List.getElem?_eq_none (by simpa using hk), List.getElem?_eq_none (Nat.le_of_not_lt hk)]; rfl
  have hPc := hP.sub (ws' := [(b, (.inr (ci, kdf ci) : va_E))]) [ws.length] (by simp)
  have hDc := hD.sub (ws' := [(b, (.inr (ci, kdf ci) : va_E))]) [ws.length] (by simp [va_nd]) hC1
  have hFc := va_free (wc := [(b, (.inr (ci, kdf ci) : va_E))]) hD hS hA [ws.length] hC1
  have hpre : PreS s H (va_Pc (.ref b :: As) (kPre D cI cZ cO ci b H.size)) (.ref b :: As) := by
    refine ⟨fun a U g mk q => ?_, fun U hU hW => ⟨rfl, by rw [hU], by rw [hU]; exact hPc, va_K.moved hW.alike hK, hDc.weaken (fun _ _ _ _ => trivial), hN0.moved hW⟩⟩
    obtain ⟨q0, q1, qP, qK, qD, qN⟩ := q
    exact ⟨q0, q1, qP, va_K.moved (u := U) (U := U.calling g mk a) (Vm.Alike.refl U.vm) qK, qD, kN.same (s := U) (U := U.calling g mk a) rfl qN⟩
  have hrun : va_Run p l e R s m args below meth c H locs cells slots mc ms (F0 m pc ls (As.reverse ++ .ref b :: rest)) rest (kQ D ci b H.size wo (Value.ref b :: As).toArray) (kA ci b H.size) := by
    rcases hlink with hlink | hlink
    · exact va_runI (As := As) (rest := rest) ⟨hx, hb, hml, hown, hts⟩ (hM b H.size) (cwI As.length hts (kI_good hTs kc hkc) (show kI y cc1 nL1 = _ from rfl) hrm.1 hrm.2 hini hlink hinst hy hd hR) hpre rfl rfl hl rfl (lv_room hroom) hdg ⟨hc, hs⟩
    · exact va_runIN (As := As) (rest := rest) ⟨hx, hb, hml, hown, hts⟩ (hM b H.size) ⟨va_cnB As.length hts (kI_good hTs kc hkc) (show kI y cc1 nL1 = _ from rfl) hrm.1 hrm.2 hlink hini hd hR, hy, hinst⟩ hpre rfl rfl hl rfl (lv_room hroom) hdg ⟨hc, hs⟩
  refine va_callv hrun hS (fun q _ h => hFc q h) hFc (fun u t H1 locs1 ht hvm hw hB hz1 hk1 hS1 => ?_)
  obtain ⟨hP1, hD1⟩ := hB
  rw [ht] at hP1
  obtain ⟨hP2, hD2⟩ := va_join (wr := ws) (w1 := wo b u) hP hD [ws.length] (List.range ws.length) hC1 hR1 (k_nd _) (fun i hi h => by rw [List.mem_singleton] at h; rw [List.mem_range] at hi; omega) hk1 hFc hP1 hD1
  exact kk u H1 locs1 ⟨hP2, hD2, hS1⟩
/-- from a body to a contract -/
theorem kMet.of {y : MethodName} {As : List Value} {ci : Nat} {rm : Room} {mc ms : Nat} {wo : Nat → (Nat → Nat) → va_W} (hy : plainName y.cls = true) (hy2 : y.cls = mn_cn ci) (hy3 : y.name = "<init>") (hn : (lg_sl (.ref 0 :: As)).length ≤ nL)
    (body : ∀ (b : Nat) (p : Program) (e : Env) (s : State) (m : MethodId) (args : Array Value) (below : List Frame) (meth : Method) (c : Code) (ls : Array Slot), kC D cI cZ cO (mn_cn ci) cc nL (kI y cc nL) p s m args meth c → meth.name = "<init>" → meth.sig.returnType = none → meth.locks = false → (∀ q, s.heap.size ≤ q → kA ci b s.heap.size q) → lv_has ls nL (lv_args 0 (.ref b :: As)) → kS D (kA ci b s.heap.size) s.heap [(b, .inr (ci, kdf ci))] s.heap [] →
      W p l e rm s m args below meth c s.heap [] 0 0 (MQ below (kQ D ci b s.heap.size wo) args s mc ms (kA ci b s.heap.size)) (F0 m 0 ls [])) : kMet l D cI cZ cO y cc nL As ci rm mc ms wo := by
  intro b sz
  refine Met.ofW (cc := cc) (maxL := nL) (ret := none) hy (show kI y cc nL = _ from rfl) ?_
  intro p e s m args below meth c s₁ B hml hv
  obtain ⟨rfl, hsz, hP, hK, hD0, hN⟩ := hv
  have hown : s.vm.findClass y.cls = some m.cls := findClass_of_methodNamed B.named
  have hin : meth.name = y.name := (name_of_methodNamed B.named B.method).1
  subst hsz
  have hl := lv_entry (.ref b :: As) (n := nL) hn
  rw [lg_entry_eq]
  generalize (lg_sl (.ref b :: As) ++ List.replicate (nL - (lg_sl (.ref b :: As)).length) Slot.unset).toArray = ls at hl ⊢
  exact body b p e s m _ below meth c ls ⟨B.exec, B.bytes, hml, by rw [← hy2]; exact hown, atoms_spec (ws := kI y cc nL) B.pre, fun w hw => List.mem_cons_of_mem _ hw, hK, hN⟩ (hin.trans hy3) B.returns B.notSynchronized (fun q h => Or.inr h) hl ⟨hP, hD0.self, va_S.rf⟩
/-- aload_0, Object's constructor -/
theorem k_obj (C : kC D cI cZ cO own cc nL Ts p s m args meth c) {i b : Nat} (hl : lv_has ls nL ((0, .ref b) :: lv_args 1 rest)) (hlink : (Cond.methodLink own i objectInit).before args s = true) (hf : 1 ≤ R.frames) (hlo : 12 ≤ R.locals) (hd0 : decode cc 0 = .ok (.aload_n 0, 1)) (hd1 : decode cc 1 = .ok (.invokespecial i, 3))
    (kk : W p l e R s m args below meth c H locs cells slots Q (F0 m 4 ls [])) : W p l e R s m args below meth c H locs cells slots Q (F0 m 0 ls []) := by
  obtain ⟨hx, hb, hml, hown, hts, hTs, hK, hN0⟩ := C
  refine lv_aload_n hx hb hd0 rfl (lv_at hl 0 rfl) ?_
  refine W.objInit hx hb hown hlink (kw hts hTs 0 rfl) (kw hts hTs 1 rfl) rfl (by rw [hml]; exact hl.1) rfl hd1 hf (by show 2 * 0 + 0 + 12 ≤ _; omega) ?_
  exact W.eq (g2 := F0 m 4 ls []) rfl kk
/-- the end -/
theorem k_ret {ci b : Nat} {wo : Nat → (Nat → Nat) → va_W} (C : kC D cI cZ cO own cc nL Ts p s m args meth c) (q : Nat → Nat) (S : kS D (kA ci b s.heap.size) s.heap (wo b q) H locs) (hr : meth.sig.returnType = none) (hlk : meth.locks = false) (hdg : decode cc pc = .ok (.return_, 1)) : W p l e R s m args below meth c H locs cells slots (MQ below (kQ D ci b s.heap.size wo) args s cells slots (kA ci b s.heap.size)) (F0 m pc ls []) := by
  obtain ⟨hx, hb, hml, hown, hts, hTs, hK, hN0⟩ := C
  obtain ⟨hP, hD, hS⟩ := S
  exact W.vret hx hb hr (fun t ht hW => ⟨⟨q, rfl, trivial, by rw [ht]; exact hP, hD⟩, hS.F ht⟩) hS.2.2 hdg hlk
end KM
