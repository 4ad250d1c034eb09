-- ===== end of PART A; then your names; then what follows =====
/-! THE CLAIM OUT OF ONE WALK OF THE LAW'S BODY. Your part is whole_start (and what it stands on); all else here is the same for every law, but numbers. -/
def R_law : String := "TomorrowBellsLaw"
def lw_P (b : Addr) (xs : List Int32) (args : Array Value) (s : State) : Prop := args = #[.ref b] ∧ s.IntsAt b xs ∧ xs.length ≤ 320 ∧ (Jvm.Cond.and given_1 narrow_1).before args s = true
def lw_Q (_ : Array Value) (s : State) (o : Outcome) (t : State) : Prop := o = .returned (some (.int 1)) ∧ Framed s o t [] 600000 7302250
def lw_Z (below : List Frame) (a : Array Value) (s : State) : State → Prop := fun t => ∃ o, t.status = .running ∧ Ended t below o ∧ lw_Q a s o t
/-- the law's own end, with 1 on the stack, nothing written that was there before, its room as the claim has it -/
theorem lw_ret {p : Program} {l : Launch} {e : Env} {s : State} {m : MethodId} {below : List Frame} {meth : Method} {c : Code} {b : Nat} (hx : p.tables.exec = Jvm.exec) (hb : c.code = code) (hr : meth.sig.returnType = ret) (hlocks : meth.locks = false) {pc : Nat} {H : Heap} {ls : Array Slot} (hdg : decode code pc = .ok (.ireturn, 1)) : W p l e room_1 s m #[Value.ref b] below meth c H [] 600000 7302250 (lw_Z below #[Value.ref b] s) (F0 m pc ls [.int 1]) := by
  intro T hT X
  obtain ⟨fs, hret, hrun, hended, hW, hframe⟩ := X.leave (v := some (.int 1)) (hlocks := hlocks) (fun h => by rw [hr] at h; cases h)
  have hmeth' : T.vm.method? m = some meth := X.method'
  refine ⟨T.setFrames fs, ?_, .returned (some (.int 1)), hrun, hended, rfl, ⟨_, rfl⟩, hW, hframe⟩
  jvm_step X.here [X.here.top, hx, hb, hdg, hmeth', hr, ret, narrow_b1]
  (try refine ⟨rfl, ?_⟩); (try refine ⟨rfl, ?_⟩)
  first | (intro acts; rw [hret _ acts rfl rfl rfl]) | rw [hret _ _ rfl rfl rfl]
  exact Steps.refl _
/-- what holds at the law's entry: the machine, the code, the tables' words (any of lw_tbl by 'hts w (by decide +kernel)'), the script of L ints xs at the cell b, what the Statement gives of the start (any of its parts by flat_of_before) -/
def lw_At (p : Program) (s : State) (m : MethodId) (meth : Method) (c : Code) (b L : Nat) (xs : Nat → Int32) : Prop :=
  p.tables.exec = Jvm.exec ∧ c.code = code ∧ meth.sig.returnType = ret ∧ c.maxLocals = 4 ∧ s.vm.findClass R_law = some m.cls ∧ (∀ w ∈ lw_tbl, w.before #[Value.ref b] s = true) ∧ va_X b L xs s s.heap ∧ b < s.heap.size ∧ meth.locks = false ∧ (Jvm.Cond.and given_1 narrow_1).before #[Value.ref b] s = true
theorem k_and31 (x : Int32) : ∃ j : Nat, j < 32 ∧ x &&& 31 = nI j := by
  refine ⟨(x.toBitVec &&& 31#32).toNat, ?_, ?_⟩
  · rw [BitVec.toNat_and]
    exact Nat.lt_of_le_of_lt Nat.and_le_right (by decide)
  · apply Int32.toBitVec_inj.mp
    rw [Int32.toBitVec_and]
    unfold nI
    apply BitVec.eq_of_toNat_eq
    rw [Int32.toBitVec_ofNat']
    simp
/-- the law's machine, and what it found -/
def lwC (D : va_G) (cI cZ cO : ClassId) (ad : Nat → Nat) (p : Program) (s : State) (m : MethodId) (meth : Method) (c : Code) (b L : Nat) (xs : Nat → Int32) : Prop := lw_At p s m meth c b L xs ∧ va_K D vwCl (mn_tys cI cZ cO) s ∧ mn_K ad s.heap.size s s.heap
def lwS (D : va_G) (cI cZ cO : ClassId) (ad : Nat → Nat) (s : State) (H : Heap) (locs : List Loc) (h : mn_H) : Prop := va_P D vwCl (mn_ws cI cZ cO ad h) H ∧ va_D (fun q => s.heap.size ≤ q) (mn_ws cI cZ cO ad h) ∧ va_S (fun q => s.heap.size ≤ q) s.heap H locs
theorem k_goodL {C : Nat} (hC : C < 193) : GoodIn lw_tbl (mn_WS C) := by
  intro w hw
  rcases List.mem_cons.mp hw with rfl | hw
  · exact mn_Gc _ (List.mem_map.mpr ⟨C, List.mem_range.mpr hC, rfl⟩)
  · exact ⟨(List.mem_filter.mp hw).1, good_of_word (List.mem_filter.mp hw).2⟩
section LW
variable {D : va_G} {cI cZ cO : ClassId} {ad : Nat → Nat} {p : Program} {l : Launch} {e : Env} {s : State} {m : MethodId} {below : List Frame} {meth : Method} {c : Code} {Q : State → Prop} {b L : Nat} {xs : Nat → Int32} {H : Heap} {locs : List Loc} {ls : Array Slot} {rest : List Value} {pc : Nat} {h h1 : mn_H}
theorem k_cont {R : Room} {args : Array Value} {cells slots : Nat} {st0 rest : List Value} {v : Option Value} {ws1 : va_W} {A : Nat → Prop} {H0 : Heap} (hr : va_Run p l e R s m args below meth c H locs cells slots 0 0 (F0 m pc ls st0) rest (fun st oc t => oc = .returned v ∧ va_P D vwCl ws1 t.heap ∧ va_F A st t) A) (hS : va_S A H0 H locs)
    (kk : ∀ (H1 : Heap) (locs1 : List Loc), va_P D vwCl ws1 H1 → va_S A H0 H1 locs1 → W p l e R s m args below meth c H1 locs1 cells slots Q (F0 m (pc + 3) ls (v.toList ++ rest))) : W p l e R s m args below meth c H locs cells slots Q (F0 m pc ls st0) := by
  intro T hT X
  obtain ⟨v2, st₀, t, T', L, h0, X', hL, e1, e2, ⟨hv, hp, hz, hk⟩, st⟩ := hr T hT X
  cases hv
  rw [h0] at hz hk
  obtain ⟨t2, a1, b1⟩ := kk T'.heap (locs ++ L) (by rw [e1]; exact hp)
    ⟨Nat.le_trans hS.1 (by rw [e1]; exact hz), fun q h1 h2 => by rw [e1, hk q (Nat.lt_of_lt_of_le h1 hS.1) h2]; exact hS.2.1 q h1 h2, fun q hq => by
      rcases List.mem_append.mp hq with h | h
      · exact hS.2.2 q h
      · exact hL q h⟩ T' rfl X'
  exact ⟨t2, st t2 a1, b1⟩
/-- the law calls a method of the class or of the model -/
theorem k_lc (X : lwC D cI cZ cO ad p s m meth c b L xs) (S : lwS D cI cZ cO ad s H locs h) (hl : ls.size = 4) {C i a : Nat} {vs : List Value} {v : Int32} (hX : mn_X C (.ref a :: vs) h (some (.int v)) h1)
    (hC : C < 193 ∧ mSt C = false ∧ vs.length = mP C ∧ mF C + 1 ≤ 14 ∧ 8 + (mL C + 11) + mW C ≤ 546) (hsh : mn_sh a = (0, mO C) ∧ mO C < 9 ∧ a < 74) (hfl : (mn_flat (.ref a :: vs)).length ≤ mL C) (hg : mn_g C (mn_ent (.ref a :: vs) (mL C)) = true) (hlink : (Cond.methodLink R_law i (mY C)).before #[Value.ref b] s = true) (hroom : (rest.map fun v => v.category).sum ≤ 8) (hvs : (vs.map (mn_cv ad)) = vs) (hdg : decode code pc = .ok (.invokevirtual i, 3))
    (kk : ∀ (H1 : Heap) (locs1 : List Loc), lwS D cI cZ cO ad s H1 locs1 h1 → W p l e room_1 s m #[Value.ref b] below meth c H1 locs1 600000 7302250 Q (F0 m (pc + 3) ls (.int v :: rest))) : W p l e room_1 s m #[Value.ref b] below meth c H locs 600000 7302250 Q (F0 m pc ls (vs.reverse ++ .ref (ad a) :: rest)) := by
  obtain ⟨⟨hx, hb, hr, hml, hown, hts, hXs, hbl, hlk, hgv⟩, hK, hKn⟩ := X
  obtain ⟨hP, hD, hS⟩ := S
  obtain ⟨k6, hst, hlen, k1, k2⟩ := hC
  obtain ⟨n, hn⟩ := hX
  have hMet := mn_met (mn_sound l D cI cZ cO ad s.heap.size n) k6 hfl hg hn
  obtain ⟨y1, y2, y3, y4, y5, y6⟩ := mn_ycls C k6
  have hini : (Cond.initialized (mY C).cls).before #[Value.ref b] s = true := by rw [y1]; exact hts _ (mn_Gz _ (List.mem_map.mpr ⟨_, List.mem_range.mpr y6, rfl⟩)).1
  have hKv : C ∈ mn_virtL := List.mem_filter.mpr ⟨List.mem_range.mpr k6, by rw [hst]; rfl⟩
  have hinst : (Cond.instanceMethod (mY C)).before #[Value.ref b] s = true := hts _ (mn_Gi _ (List.mem_map.mpr ⟨C, hKv, rfl⟩)).1
  have hsel : (Cond.selects (mn_cn (mO C)) (mY C) (mY C)).before #[Value.ref b] s = true := hts _ (mn_Gs _ (List.mem_map.mpr ⟨C, hKv, rfl⟩)).1
  have hrec : ∃ cellB : Cell, H[ad a]? = some cellB ∧ cellB.vm.isStatics = false ∧ s.vm.findClass (mn_cn (mO C)) = some cellB.cls := by
    obtain ⟨w, w1, w2, w3, w4⟩ := mn_cl9 (mO C) hsh.2.1
    have := va_recv hK hP (ci := mO C) (q0 := a) w1 (by rw [mn_ws_at hsh.2.2, mn_cell0 hsh.1])
    rw [w3] at this
    exact this
  have hpre : PreV s H (mn_cn (mO C)) (ad a) (va_Pc ((.ref a :: vs).map (mn_cv ad)) (mn_Wd D cI cZ cO ad s.heap.size h)) (vs.map (mn_cv ad)) := by
    refine ⟨mn_blind, hrec, fun U hU hW => ⟨rfl, by rw [hU]; exact hP, hD, va_K.moved hW.alike hK, ?_⟩⟩
    have := (hKn.kept (H1 := H) hS.2.1).moved hW
    rw [hU]; exact this
  have cb : CallB room_1 s #[Value.ref b] R_law i (mY C) (mC C) (mL C) (mR C) (mn_WS C) (mn_rm C) 0 0 (mP C) :=
    callB_of (mP C) hts (k_goodL k6) (show mn_WS C = _ from rfl) rfl rfl hini hlink ⟨y2, y3, y4⟩ ⟨k1, k2⟩
  have hrun := va_runV (As := vs.map (mn_cv ad)) (rest := rest) (g := F0 m pc ls (vs.reverse ++ .ref (ad a) :: rest)) (H := H) (locs := locs) (cells := 600000) (slots := 7302250) (C := mn_cn (mO C)) (below := below) (e := e) (meth := meth) ⟨hx, hb, hml, hown, hts⟩ hMet ⟨cb, hinst, hsel⟩ hpre rfl (by rw [List.length_map]; exact hlen) hl (by rw [hvs]) (lv_room hroom) hdg ⟨Nat.le_of_ble_eq_true rfl, Nat.le_of_ble_eq_true rfl⟩
  exact k_cont hrun hS (fun H1 locs1 p1 p2 => kk H1 locs1 ⟨p1, mn_ws_D hD, p2⟩)
/-- script[i + k] -/
theorem k_arg (X : lwC D cI cZ cO ad p s m meth c b L xs) (S : lwS D cI cZ cO ad s H locs h) {q1 q2 i k : Nat} (hl : lv_has ls 4 [(0, .ref b), (1, .ref q1), (2, .ref q2), (3, .int (nI i))]) (hi : i + 5 ≤ L) (hL : L ≤ 320) (hk : k < 5) {n : Int} (hn : Int32.ofInt n = nI k) (d0 : decode code pc = .ok (.aload_n 0, 1)) (d1 : decode code (pc + 1) = .ok (.iload_n 3, 1)) (d2 : decode code (pc + 2) = .ok (.iconst n, 1)) (d3 : decode code (pc + 3) = .ok (.iadd, 1)) (d4 : decode code (pc + 4) = .ok (.iaload, 1))
    (kk : W p l e room_1 s m #[Value.ref b] below meth c H locs 600000 7302250 Q (F0 m (pc + 5) ls (.int (xs (i + k)) :: rest))) : W p l e room_1 s m #[Value.ref b] below meth c H locs 600000 7302250 Q (F0 m pc ls rest) := by
  obtain ⟨⟨hx, hb, hr, hml, hown, hts, hXs, hbl, hlk, hgv⟩, hK, hKn⟩ := X
  obtain ⟨hP, hD, hS⟩ := S
  have hbA : ¬ (fun q : Nat => s.heap.size ≤ q) b := Nat.not_le.mpr hbl
  refine lv_aload_n hx hb d0 rfl (lv_at hl 0 rfl) ?_
  refine lv_iload_n hx hb d1 rfl (lv_at hl 3 rfl) ?_
  refine lv_iconst (v := nI k) hx hb d2 hn ?_
  refine lv_iadd hx hb d3 ?_
  rw [nI_add]
  refine va_sld hx hb hXs hbl hbA hS (vp_in_nI (by omega) (by omega)) d4 ?_
  rw [nI_clamp (by omega)]
  exact kk
end LW
