section MNT
variable {D : va_G} {cI cZ cO : ClassId} {ad : Nat → Nat} {lo M : Nat}
variable {p : Program} {l : Launch} {e : Env} {s : State} {m : MethodId} {args : Array Value} {below : List Frame} {meth : Method} {c : Code} {Q : State → Prop}
variable {H : Heap} {locs : List Loc} {lsA : Array Slot}
theorem mn_cont {R : Room} {pc : Nat} {st0 rest : List Value} {v : Option Value} {ws1 : va_W} {A : Nat → Prop} {H0 : Heap} (hr : va_Run p l e R s m args below meth c H locs 0 0 0 0 (F0 m pc lsA st0) rest (fun st oc t => oc = .returned v ∧ va_P D vwCl ws1 t.heap ∧ va_F A st t) A) (hS : va_S A H0 H locs)
    (kk : ∀ (H1 : Heap) (locs1 : List Loc), va_P D vwCl ws1 H1 → va_S A H0 H1 locs1 → W p l e R s m args below meth c H1 locs1 0 0 Q (F0 m (pc + 3) lsA (v.toList ++ rest))) : W p l e R s m args below meth c H locs 0 0 Q (F0 m pc lsA st0) := by
  intro T hT X
  obtain ⟨v2, st₀, t, T', L, h0, X', hL, e1, e2, ⟨hv, hp, hz, hk⟩, st⟩ := hr T hT X
  cases hv
  rw [h0] at hz hk
  obtain ⟨t2, a1, b1⟩ := kk T'.heap (locs ++ L) (by rw [e1]; exact hp)
    ⟨Nat.le_trans hS.1 (by rw [e1]; exact hz), fun q h1 h2 => by rw [e1, hk q (Nat.lt_of_lt_of_le h1 hS.1) h2]; exact hS.2.1 q h1 h2, fun q hq => by
      rcases List.mem_append.mp hq with h | h
      · exact hS.2.2 q h
      · exact hL q h⟩ T' rfl X'
  exact ⟨t2, st t2 a1, b1⟩
theorem mn_catm (v : List Value) : ((v.map (mn_cv ad)).map fun v => v.category).sum = mn_cat v := by
  unfold mn_cat
  rw [List.map_map]
  congr 1
  apply List.map_congr_left
  intro a _
  exact mn_cv_cat ad a
theorem mn_blind {vs : List Value} {h : mn_H} : FrameBlind (va_Pc vs (mn_Wd D cI cZ cO ad lo h)) := by
  intro a U g mk q
  obtain ⟨q0, q1, q2, q3, q4⟩ := q
  exact ⟨q0, q1, q2, va_K.moved (u := U) (U := U.calling g mk a) (Vm.Alike.refl U.vm) q3, mn_K.same (s := U) (U := U.calling g mk a) rfl q4⟩
theorem mn_cokD {C : Nat} {vs st : List Value} (h : mn_cok M C vs st = true) : mF C + 1 ≤ mF M ∧ 8 + (mL C + 11) + mW C ≤ mW M ∧ (mn_flat vs).length ≤ mL C ∧ mn_g C (mn_ent vs (mL C)) = true ∧ mn_cat st ≤ 8 ∧ C < 193 := by
  unfold mn_cok at h
  simp only [Bool.and_eq_true, decide_eq_true_eq] at h
  exact ⟨h.1.1.1.1.1.1, h.1.1.1.1.1.2, h.1.1.1.1.2, h.1.1.1.2, h.1.1.2, h.2⟩
/-- what the table says of a run: the machine runs so -/
def mn_Ok (l : Launch) (D : va_G) (cI cZ cO : ClassId) (ad : Nat → Nat) (lo n : Nat) : Prop :=
  ∀ (M pc : Nat) (ls st : List Value) (h : mn_H) (r : Option Value) (h' : mn_H), mn_ev n M pc ls st h = some (r, h') →
    ∀ (p : Program) (e : Env) (s : State) (m : MethodId) (args : Array Value) (below : List Frame) (meth : Method) (c : Code) (H : Heap) (locs : List Loc) (lsA : Array Slot),
      mn_Cx D cI cZ cO ad lo M p s m args meth c → mn_Sx D cI cZ cO ad lo M s H locs lsA h ls →
      W p l e (mn_rm M) s m args below meth c H locs 0 0 (MQ below (mn_Qc D cI cZ cO ad lo r h') args s 0 0 (fun q => lo ≤ q)) (F0 m pc lsA (st.map (mn_cv ad)))
theorem mn_met {n C : Nat} (ih : mn_Ok l D cI cZ cO ad lo n) {vs : List Value} {h h1 : mn_H} {v : Option Value} (hC : C < 193) (hfl : (mn_flat vs).length ≤ mL C) (hg : mn_g C (mn_ent vs (mL C)) = true) (he : mn_ev n C 0 (mn_ent vs (mL C)) [] h = some (v, h1)) :
    Met l (mY C) (mn_WS C) (mn_rm C) (va_Pc (vs.map (mn_cv ad)) (mn_Wd D cI cZ cO ad lo h)) (mn_Qc D cI cZ cO ad lo v h1) 0 0 (fun q => lo ≤ q) := by
  obtain ⟨y1, y2, y3, y4, y5, y6⟩ := mn_ycls C hC
  refine Met.ofW (cc := mC C) (maxL := mL C) (ret := mR C) y5 (show mn_WS C = _ from rfl) ?_
  intro p e s m args below meth c s₁ B hml hv
  obtain ⟨rfl, hP, hD, hK, hKc⟩ := hv
  have hts := atoms_spec (ws := mn_WS C) B.pre
  have hown : s.vm.findClass (mY C).cls = some m.cls := findClass_of_methodNamed B.named
  rw [y1] at hown
  rw [lg_entry_eq]
  exact ih C 0 (mn_ent vs (mL C)) [] h v h1 he p e s m _ below meth c s.heap [] _ ⟨B.exec, B.bytes, B.returns, hml, hown, hts, B.notSynchronized, hK, hKc, hC⟩ ⟨hP, hD, va_S.rf, mn_entry ad vs hfl, hg⟩
theorem mn_pre {h : mn_H} {U : State} (C : mn_Cx D cI cZ cO ad lo M p s m args meth c) (hP : va_P D vwCl (mn_ws cI cZ cO ad h) H) (hD : va_D (fun q => lo ≤ q) (mn_ws cI cZ cO ad h)) (hS : va_S (fun q => lo ≤ q) s.heap H locs) (hU : U.heap = H) (hW : s.WarmedH U.vm) : mn_Wd D cI cZ cO ad lo h U := by
  obtain ⟨hx, hb, hr, hml, hown, hts, hlk, hK, hC, hM⟩ := C
  refine ⟨by rw [hU]; exact hP, hD, va_K.moved hW.alike hK, ?_⟩
  have := (hC.kept (H1 := H) hS.2.1).moved hW
  rw [hU]; exact this
set_option maxHeartbeats 4000000 in
theorem mn_sound (l : Launch) (D : va_G) (cI cZ cO : ClassId) (ad : Nat → Nat) (lo : Nat) : ∀ n, mn_Ok l D cI cZ cO ad lo n := by
  intro n
  induction n with
  | zero => intro M pc ls st h r h' e0; simp [mn_ev] at e0
  | succ n ih =>
    intro M pc ls st h r h' e0 p e s m args below meth c H locs lsA C S
    simp only [mn_ev] at e0
    cases hs : mn_stp M pc ls st h with
    | none => rw [hs] at e0; cases e0
    | some q =>
      rw [hs] at e0
      rcases q with ⟨pc', ls', st', h1⟩ | v | ⟨K, vs, pc', st'⟩
      · exact mn_s_go C S hs (fun H1 locs1 lsB S1 => ih M pc' ls' st' h1 r h' e0 p e s m args below meth c H1 locs1 lsB C S1)
      · cases e0
        obtain ⟨hx, hb, hr, hml, hown, hts, hlk, hK, hC, hM⟩ := C
        obtain ⟨hP, hD, hS, hl, hg⟩ := S
        rcases mn_stp_ret hs with ⟨x, hd, rfl, rfl, hz⟩ | ⟨x, hd, rfl, rfl, hz⟩ | ⟨hd, rfl, rfl, hz⟩
        · rcases hz with hz | ⟨hz, hx2⟩ | ⟨hz, hx2⟩
          · exact W.iret hx hb (hr.trans hz) (fun t ht hW => ⟨rfl, by rw [ht]; exact hP, hS.F ht⟩) hS.2.2 hd hlk
          · exact W.zret (ty := .boolean) hx hb (hr.trans hz) (by rcases hx2 with rfl | rfl <;> rfl) (fun t ht hW => ⟨rfl, by rw [ht]; exact hP, hS.F ht⟩) hS.2.2 hd hlk
          · exact W.zret (ty := .byte) hx hb (hr.trans hz) (by rw [hx2]; rfl) (fun t ht hW => ⟨rfl, by rw [ht]; exact hP, hS.F ht⟩) hS.2.2 hd hlk
        · exact W.lret hx hb (hr.trans hz) (fun t ht hW => ⟨rfl, by rw [ht]; exact hP, hS.F ht⟩) hS.2.2 hd hlk
        · exact W.vret hx hb (hr.trans hz) (fun t ht hW => ⟨rfl, by rw [ht]; exact hP, hS.F ht⟩) hS.2.2 hd hlk
      · dsimp only at e0
        cases hc : mn_ev n K 0 (mn_ent vs (mL K)) [] h with
        | none => rw [hc] at e0; cases e0
        | some w =>
          obtain ⟨v, h1⟩ := w
          rw [hc] at e0
          dsimp only at e0
          have C0 := C
          have S0 := S
          obtain ⟨hx, hb, hr, hml, hown, hts, hlk, hK, hC, hM⟩ := C
          obtain ⟨hP, hD, hS, hl, hg⟩ := S
          have kk : ∀ (H1 : Heap) (locs1 : List Loc), va_P D vwCl (mn_ws cI cZ cO ad h1) H1 → va_S (fun q => lo ≤ q) s.heap H1 locs1 → W p l e (mn_rm M) s m args below meth c H1 locs1 0 0 (MQ below (mn_Qc D cI cZ cO ad lo r h') args s 0 0 (fun q => lo ≤ q)) (F0 m pc' lsA ((v.map (mn_cv ad)).toList ++ st'.map (mn_cv ad))) := by
            intro H1 locs1 p1 p2
            have := ih M pc' ls (v.toList ++ st') h1 r h' e0 p e s m args below meth c H1 locs1 lsA C0 ⟨p1, mn_ws_D hD, p2, hl, hg⟩
            have e2 : (v.toList ++ st').map (mn_cv ad) = (v.map (mn_cv ad)).toList ++ st'.map (mn_cv ad) := by cases v <;> rfl
            rw [e2] at this
            exact this
          rcases mn_stp_call hs with ⟨i, hd, hm, rfl, hlen, hok, hst, rfl⟩ | ⟨i, a, vs0, hd, hm, rfl, rfl, hlen, hsh, hok, hst, rfl⟩
          · obtain ⟨k1, k2, k3, k4, k5, k6⟩ := mn_cokD hok
            have hMet := mn_met ih k6 k3 k4 hc
            obtain ⟨y1, y2, y3, y4, y5, y6⟩ := mn_ycls K k6
            have hini : (Cond.initialized (mY K).cls).before args s = true := by rw [y1]; exact hts _ (mn_wt mn_Gz (List.mem_map.mpr ⟨_, List.mem_range.mpr y6, rfl⟩))
            have hstat : (Cond.static (mY K)).before args s = true := hts _ (mn_wt mn_Gt (List.mem_map.mpr ⟨K, List.mem_filter.mpr ⟨List.mem_range.mpr k6, hst⟩, rfl⟩))
            have hpre : PreS s H (va_Pc (vs.map (mn_cv ad)) (mn_Wd D cI cZ cO ad lo h)) (vs.map (mn_cv ad)) := ⟨mn_blind, fun U hU hW => ⟨rfl, mn_pre C0 hP hD hS hU hW⟩⟩
            have hstk : (vs.reverse ++ st').map (mn_cv ad) = (vs.map (mn_cv ad)).reverse ++ st'.map (mn_cv ad) := by rw [List.map_append, List.map_reverse]
            rw [hstk]
            rcases hm with hm | hm
            · have cb : CallB (mn_rm M) s args (mn_cn (mO M)) i (mY K) (mC K) (mL K) (mR K) (mn_WS K) (mn_rm K) 0 0 (mP K) :=
                callB_of (mP K) hts (mn_good k6) (show mn_WS K = _ from rfl) rfl rfl hini (hts _ (mn_wt mn_Gm (List.mem_map.mpr ⟨_, mn_ml_of hm, rfl⟩))) ⟨y2, y3, y4⟩ ⟨k1, k2⟩
              exact mn_cont (va_runS (As := vs.map (mn_cv ad)) (rest := st'.map (mn_cv ad)) (g := F0 m pc lsA _) ⟨hx, hb, hml, hown, hts⟩ hMet ⟨cb, hstat⟩ hpre rfl (by rw [List.length_map]; exact hlen) hl.1 rfl (lv_room (m := m) (pc := pc) (ls := lsA) (rest := []) (by rw [mn_catm]; exact k5)) hd ⟨Nat.zero_le _, Nat.zero_le _⟩) hS kk
            · have cb := va_cnB (R := mn_rm M) (rm := mn_rm K) (ret := mR K) (maxL := mL K) (bytes := mC K) (mc := 0) (ms := 0) (mP K) hts (mn_good k6) (show mn_WS K = _ from rfl) rfl rfl (hC.2.2.2.2.2.2.2.2 _ (mn_nl_of hm)) hini ⟨y2, y3, y4⟩ ⟨k1, k2⟩
              exact mn_cont (va_runSN (As := vs.map (mn_cv ad)) (rest := st'.map (mn_cv ad)) (g := F0 m pc lsA _) ⟨hx, hb, hml, hown, hts⟩ hMet ⟨cb, hstat, trivial⟩ hpre rfl (by rw [List.length_map]; exact hlen) hl.1 rfl (lv_room (m := m) (pc := pc) (ls := lsA) (rest := []) (by rw [mn_catm]; exact k5)) hd ⟨Nat.zero_le _, Nat.zero_le _⟩) hS kk
          · obtain ⟨k1, k2, k3, k4, k5, k6⟩ := mn_cokD hok
            have hMet := mn_met ih k6 k3 k4 hc
            obtain ⟨y1, y2, y3, y4, y5, y6⟩ := mn_ycls K k6
            have hini : (Cond.initialized (mY K).cls).before args s = true := by rw [y1]; exact hts _ (mn_wt mn_Gz (List.mem_map.mpr ⟨_, List.mem_range.mpr y6, rfl⟩))
            have hKv : K ∈ mn_virtL := List.mem_filter.mpr ⟨List.mem_range.mpr k6, by rw [hst]; rfl⟩
            have hinst : (Cond.instanceMethod (mY K)).before args s = true := hts _ (mn_wt mn_Gi (List.mem_map.mpr ⟨K, hKv, rfl⟩))
            have hsel : (Cond.selects (mn_cn (mO K)) (mY K) (mY K)).before args s = true := hts _ (mn_wt mn_Gs (List.mem_map.mpr ⟨K, hKv, rfl⟩))
            have hrec : ∃ cellB : Cell, H[ad a]? = some cellB ∧ cellB.vm.isStatics = false ∧ s.vm.findClass (mn_cn (mO K)) = some cellB.cls := by
              rcases mn_sh0' hsh with ⟨q1, q2⟩ | ⟨q1, q2⟩
              · obtain ⟨w, w1, w2, w3, w4⟩ := mn_cl9 (mO K) q1
                have := va_recv hK hP (ci := mO K) (q0 := a) w1 (by rw [mn_ws_at q2, mn_cell0 hsh])
                rw [w3] at this
                exact this
              · subst q2
                obtain ⟨cell, z1, z2, z3, -⟩ := hC.2.2.2.2.1.kept hS.2.1
                refine ⟨cell, z1, z2, ?_⟩
                rw [q1]; exact z3
            have hpre : PreV s H (mn_cn (mO K)) (ad a) (va_Pc ((.ref a :: vs0).map (mn_cv ad)) (mn_Wd D cI cZ cO ad lo h)) (vs0.map (mn_cv ad)) := ⟨mn_blind, hrec, fun U hU hW => ⟨rfl, mn_pre C0 hP hD hS hU hW⟩⟩
            have hstk : (vs0.reverse ++ .ref a :: st').map (mn_cv ad) = (vs0.map (mn_cv ad)).reverse ++ .ref (ad a) :: st'.map (mn_cv ad) := by rw [List.map_append, List.map_reverse]; rfl
            rw [hstk]
            have cb : CallB (mn_rm M) s args (mn_cn (mO M)) i (mY K) (mC K) (mL K) (mR K) (mn_WS K) (mn_rm K) 0 0 (mP K) :=
              callB_of (mP K) hts (mn_good k6) (show mn_WS K = _ from rfl) rfl rfl hini (hts _ (mn_wt mn_Gm (List.mem_map.mpr ⟨_, mn_ml_of hm, rfl⟩))) ⟨y2, y3, y4⟩ ⟨k1, k2⟩
            exact mn_cont (va_runV (As := vs0.map (mn_cv ad)) (rest := st'.map (mn_cv ad)) (g := F0 m pc lsA _) (C := mn_cn (mO K)) ⟨hx, hb, hml, hown, hts⟩ hMet ⟨cb, hinst, hsel⟩ hpre rfl (by rw [List.length_map]; exact hlen) hl.1 rfl (lv_room (m := m) (pc := pc) (ls := lsA) (rest := []) (by rw [mn_catm]; exact k5)) hd ⟨Nat.zero_le _, Nat.zero_le _⟩) hS kk
end MNT
