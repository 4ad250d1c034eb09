theorem di_fill_0 : decode (mC 192) 0 = .ok (.iconst 0, 1) := by decide +kernel
theorem di_fill_1 : decode (mC 192) 1 = .ok (.istore_n 2, 1) := by decide +kernel
theorem di_fill_2 : decode (mC 192) 2 = .ok (.aload_n 0, 1) := by decide +kernel
theorem di_fill_3 : decode (mC 192) 3 = .ok (.arraylength, 1) := by decide +kernel
theorem di_fill_4 : decode (mC 192) 4 = .ok (.istore_n 3, 1) := by decide +kernel
theorem di_fill_5 : decode (mC 192) 5 = .ok (.iload_n 2, 1) := by decide +kernel
theorem di_fill_6 : decode (mC 192) 6 = .ok (.iload_n 3, 1) := by decide +kernel
theorem di_fill_7 : decode (mC 192) 7 = .ok (.if_icmp .ge 13, 3) := by decide +kernel
theorem di_fill_10 : decode (mC 192) 10 = .ok (.aload_n 0, 1) := by decide +kernel
theorem di_fill_11 : decode (mC 192) 11 = .ok (.iload_n 2, 1) := by decide +kernel
theorem di_fill_12 : decode (mC 192) 12 = .ok (.iload_n 1, 1) := by decide +kernel
theorem di_fill_13 : decode (mC 192) 13 = .ok (.iastore, 1) := by decide +kernel
theorem di_fill_14 : decode (mC 192) 14 = .ok (.iinc 2 1, 3) := by decide +kernel
theorem di_fill_17 : decode (mC 192) 17 = .ok (.goto (-12), 3) := by decide +kernel
theorem di_fill_20 : decode (mC 192) 20 = .ok (.return_, 1) := by decide +kernel
def kf6 : Nat → Int32 := (upd (upd (upd (upd (upd (upd (fun _ => 0) 0 1) 1 1) 2 1) 3 1) 4 1) 5 1)
abbrev kfW (cI : ClassId) (a : Nat) (f : Nat → Int32) : va_W := [(a, .inl (cI, 6, .inl f))]
def kfPre (D : va_G) (cI cZ cO : ClassId) (a sz : Nat) (U : State) : Prop := U.heap.size = sz ∧ va_P D vwCl (kfW cI a (fun _ => 0)) U.heap ∧ va_K D vwCl (mn_tys cI cZ cO) U ∧ va_D (fun _ => True) (kfW cI a (fun _ => 0))
set_option maxHeartbeats 4000000 in
set_option maxRecDepth 100000 in
theorem ki_fill (l : Launch) (D : va_G) (cI cZ cO : ClassId) (a sz : Nat) : Met l (mY 192) (kI (mY 192) (mC 192) 4) { frames := 0, cells := 0, slots := 0, locals := 0 } (va_Pc [.ref a, .int 1] (kfPre D cI cZ cO a sz)) (va_Qv (fun _ : Unit => True) (fun _ t => va_P D vwCl (kfW cI a kf6) t.heap ∧ va_D (va_A (kfW cI a (fun _ => 0)) sz) (kfW cI a kf6)) (va_A (kfW cI a (fun _ => 0)) sz)) 0 0 (va_A (kfW cI a (fun _ => 0)) sz) := by
  refine Met.ofW (cc := mC 192) (maxL := 4) (ret := none) (by decide +kernel) (show kI (mY 192) (mC 192) 4 = _ from rfl) ?_
  intro p e s m args below meth c s₁ B hml hv
  obtain ⟨rfl, hsz, hP, hK, hD0⟩ := hv
  have hx := B.exec
  have hb := B.bytes
  have hr := B.returns
  have hlk := B.notSynchronized
  subst hsz
  have hD := hD0.self (sz := s.heap.size)
  generalize va_A (kfW cI a (fun _ => 0)) s.heap.size = A at hD ⊢
  have hS : va_S A s.heap s.heap [] := va_S.rf
  have hl := lv_entry ([.ref a, .int 1]) (n := 4) (Nat.le_of_ble_eq_true rfl)
  rw [lg_entry_eq]
  generalize (lg_sl ([.ref a, .int 1]) ++ List.replicate (4 - (lg_sl ([.ref a, .int 1])).length) Slot.unset).toArray = ls at hl ⊢
  have hl : lv_has ls 4 [(0, .ref a), (1, .int 1)] := hl
  refine lv_iconst (v := 0) hx hb di_fill_0 (by decide) ?_
  refine lv_istore_n (lv' := [(2, .int 0), (0, .ref a), (1, .int 1)]) hx hb di_fill_1 rfl hl (by decide) rfl (fun ls hl => ?_)
  refine lv_aload_n hx hb di_fill_2 rfl (lv_at hl 1 rfl) ?_
  refine va_alen hx hb hK hP 0 0 (ty := .int) rfl rfl (v := 6) (by decide) di_fill_3 ?_
  refine lv_istore_n (lv' := [(3, .int 6), (2, .int 0), (0, .ref a), (1, .int 1)]) hx hb di_fill_4 rfl hl (by decide) rfl (fun ls hl => ?_)
  refine lv_iload_n hx hb di_fill_5 rfl (lv_at hl 1 rfl) ?_
  refine lv_iload_n hx hb di_fill_6 rfl (lv_at hl 0 rfl) ?_
  refine lv_icmp_ge (tgt := 20) hx hb di_fill_7 (by decide) (fun cc => ?_) (fun cc => ?_)
  · exact absurd cc (by decide)
  refine lv_aload_n hx hb di_fill_10 rfl (lv_at hl 2 rfl) ?_
  refine lv_iload_n hx hb di_fill_11 rfl (lv_at hl 1 rfl) ?_
  refine lv_iload_n hx hb di_fill_12 rfl (lv_at hl 3 rfl) ?_
  refine va_iast hx hb hK hP hD hS 0 0 rfl rfl (i := 0) (x := 1) (by unfold vp_in; decide) di_fill_13 (fun H locs hP hD hS => ?_)
  rw [show (0 : Int32).toNatClampNeg = 0 from by decide] at hP hD
  have hP : va_P D vwCl [(a, .inl (cI, 6, .inl (upd (fun _ => 0) 0 1)))] H := hP
  have hD : va_D A [(a, .inl (cI, 6, .inl (upd (fun _ => 0) 0 1)))] := hD
  refine lv_iinc (v := 1) (lv' := [(2, .int 1), (3, .int 6), (0, .ref a), (1, .int 1)]) hx hb di_fill_14 hl (k := 1) rfl (by decide) (by decide) rfl (fun ls hl => ?_)
  refine lv_goto (tgt := 5) hx hb di_fill_17 (by decide) ?_
  refine lv_iload_n hx hb di_fill_5 rfl (lv_at hl 0 rfl) ?_
  refine lv_iload_n hx hb di_fill_6 rfl (lv_at hl 1 rfl) ?_
  refine lv_icmp_ge (tgt := 20) hx hb di_fill_7 (by decide) (fun cc => ?_) (fun cc => ?_)
  · exact absurd cc (by decide)
  refine lv_aload_n hx hb di_fill_10 rfl (lv_at hl 2 rfl) ?_
  refine lv_iload_n hx hb di_fill_11 rfl (lv_at hl 0 rfl) ?_
  refine lv_iload_n hx hb di_fill_12 rfl (lv_at hl 3 rfl) ?_
  refine va_iast hx hb hK hP hD hS 0 0 rfl rfl (i := 1) (x := 1) (by unfold vp_in; decide) di_fill_13 (fun H locs hP hD hS => ?_)
  rw [show (1 : Int32).toNatClampNeg = 1 from by decide] at hP hD
  have hP : va_P D vwCl [(a, .inl (cI, 6, .inl (upd (upd (fun _ => 0) 0 1) 1 1)))] H := hP
  have hD : va_D A [(a, .inl (cI, 6, .inl (upd (upd (fun _ => 0) 0 1) 1 1)))] := hD
  refine lv_iinc (v := 2) (lv' := [(2, .int 2), (3, .int 6), (0, .ref a), (1, .int 1)]) hx hb di_fill_14 hl (k := 0) rfl (by decide) (by decide) rfl (fun ls hl => ?_)
  refine lv_goto (tgt := 5) hx hb di_fill_17 (by decide) ?_
  refine lv_iload_n hx hb di_fill_5 rfl (lv_at hl 0 rfl) ?_
  refine lv_iload_n hx hb di_fill_6 rfl (lv_at hl 1 rfl) ?_
  refine lv_icmp_ge (tgt := 20) hx hb di_fill_7 (by decide) (fun cc => ?_) (fun cc => ?_)
  · exact absurd cc (by decide)
  refine lv_aload_n hx hb di_fill_10 rfl (lv_at hl 2 rfl) ?_
  refine lv_iload_n hx hb di_fill_11 rfl (lv_at hl 0 rfl) ?_
  refine lv_iload_n hx hb di_fill_12 rfl (lv_at hl 3 rfl) ?_
  refine va_iast hx hb hK hP hD hS 0 0 rfl rfl (i := 2) (x := 1) (by unfold vp_in; decide) di_fill_13 (fun H locs hP hD hS => ?_)
  rw [show (2 : Int32).toNatClampNeg = 2 from by decide] at hP hD
  have hP : va_P D vwCl [(a, .inl (cI, 6, .inl (upd (upd (upd (fun _ => 0) 0 1) 1 1) 2 1)))] H := hP
  have hD : va_D A [(a, .inl (cI, 6, .inl (upd (upd (upd (fun _ => 0) 0 1) 1 1) 2 1)))] := hD
  refine lv_iinc (v := 3) (lv' := [(2, .int 3), (3, .int 6), (0, .ref a), (1, .int 1)]) hx hb di_fill_14 hl (k := 0) rfl (by decide) (by decide) rfl (fun ls hl => ?_)
  refine lv_goto (tgt := 5) hx hb di_fill_17 (by decide) ?_
  refine lv_iload_n hx hb di_fill_5 rfl (lv_at hl 0 rfl) ?_
  refine lv_iload_n hx hb di_fill_6 rfl (lv_at hl 1 rfl) ?_
  refine lv_icmp_ge (tgt := 20) hx hb di_fill_7 (by decide) (fun cc => ?_) (fun cc => ?_)
  · exact absurd cc (by decide)
  refine lv_aload_n hx hb di_fill_10 rfl (lv_at hl 2 rfl) ?_
  refine lv_iload_n hx hb di_fill_11 rfl (lv_at hl 0 rfl) ?_
  refine lv_iload_n hx hb di_fill_12 rfl (lv_at hl 3 rfl) ?_
  refine va_iast hx hb hK hP hD hS 0 0 rfl rfl (i := 3) (x := 1) (by unfold vp_in; decide) di_fill_13 (fun H locs hP hD hS => ?_)
  rw [show (3 : Int32).toNatClampNeg = 3 from by decide] at hP hD
  have hP : va_P D vwCl [(a, .inl (cI, 6, .inl (upd (upd (upd (upd (fun _ => 0) 0 1) 1 1) 2 1) 3 1)))] H := hP
  have hD : va_D A [(a, .inl (cI, 6, .inl (upd (upd (upd (upd (fun _ => 0) 0 1) 1 1) 2 1) 3 1)))] := hD
  refine lv_iinc (v := 4) (lv' := [(2, .int 4), (3, .int 6), (0, .ref a), (1, .int 1)]) hx hb di_fill_14 hl (k := 0) rfl (by decide) (by decide) rfl (fun ls hl => ?_)
  refine lv_goto (tgt := 5) hx hb di_fill_17 (by decide) ?_
  refine lv_iload_n hx hb di_fill_5 rfl (lv_at hl 0 rfl) ?_
  refine lv_iload_n hx hb di_fill_6 rfl (lv_at hl 1 rfl) ?_
  refine lv_icmp_ge (tgt := 20) hx hb di_fill_7 (by decide) (fun cc => ?_) (fun cc => ?_)
  · exact absurd cc (by decide)
  refine lv_aload_n hx hb di_fill_10 rfl (lv_at hl 2 rfl) ?_
  refine lv_iload_n hx hb di_fill_11 rfl (lv_at hl 0 rfl) ?_
  refine lv_iload_n hx hb di_fill_12 rfl (lv_at hl 3 rfl) ?_
  refine va_iast hx hb hK hP hD hS 0 0 rfl rfl (i := 4) (x := 1) (by unfold vp_in; decide) di_fill_13 (fun H locs hP hD hS => ?_)
  rw [show (4 : Int32).toNatClampNeg = 4 from by decide] at hP hD
  have hP : va_P D vwCl [(a, .inl (cI, 6, .inl (upd (upd (upd (upd (upd (fun _ => 0) 0 1) 1 1) 2 1) 3 1) 4 1)))] H := hP
  have hD : va_D A [(a, .inl (cI, 6, .inl (upd (upd (upd (upd (upd (fun _ => 0) 0 1) 1 1) 2 1) 3 1) 4 1)))] := hD
  refine lv_iinc (v := 5) (lv' := [(2, .int 5), (3, .int 6), (0, .ref a), (1, .int 1)]) hx hb di_fill_14 hl (k := 0) rfl (by decide) (by decide) rfl (fun ls hl => ?_)
  refine lv_goto (tgt := 5) hx hb di_fill_17 (by decide) ?_
  refine lv_iload_n hx hb di_fill_5 rfl (lv_at hl 0 rfl) ?_
  refine lv_iload_n hx hb di_fill_6 rfl (lv_at hl 1 rfl) ?_
  refine lv_icmp_ge (tgt := 20) hx hb di_fill_7 (by decide) (fun cc => ?_) (fun cc => ?_)
  · exact absurd cc (by decide)
  refine lv_aload_n hx hb di_fill_10 rfl (lv_at hl 2 rfl) ?_
  refine lv_iload_n hx hb di_fill_11 rfl (lv_at hl 0 rfl) ?_
  refine lv_iload_n hx hb di_fill_12 rfl (lv_at hl 3 rfl) ?_
  refine va_iast hx hb hK hP hD hS 0 0 rfl rfl (i := 5) (x := 1) (by unfold vp_in; decide) di_fill_13 (fun H locs hP hD hS => ?_)
  rw [show (5 : Int32).toNatClampNeg = 5 from by decide] at hP hD
  have hP : va_P D vwCl [(a, .inl (cI, 6, .inl (upd (upd (upd (upd (upd (upd (fun _ => 0) 0 1) 1 1) 2 1) 3 1) 4 1) 5 1)))] H := hP
  have hD : va_D A [(a, .inl (cI, 6, .inl (upd (upd (upd (upd (upd (upd (fun _ => 0) 0 1) 1 1) 2 1) 3 1) 4 1) 5 1)))] := hD
  refine lv_iinc (v := 6) (lv' := [(2, .int 6), (3, .int 6), (0, .ref a), (1, .int 1)]) hx hb di_fill_14 hl (k := 0) rfl (by decide) (by decide) rfl (fun ls hl => ?_)
  refine lv_goto (tgt := 5) hx hb di_fill_17 (by decide) ?_
  refine lv_iload_n hx hb di_fill_5 rfl (lv_at hl 0 rfl) ?_
  refine lv_iload_n hx hb di_fill_6 rfl (lv_at hl 1 rfl) ?_
  refine lv_icmp_ge (tgt := 20) hx hb di_fill_7 (by decide) (fun cc => ?_) (fun cc => ?_)
  · exact W.vret hx hb hr (fun t ht hW => ⟨⟨(), rfl, trivial, by rw [ht]; exact hP, hD⟩, hS.F ht⟩) hS.2.2 di_fill_20 hlk
  · exact absurd (by decide) cc
section KX
variable {D : va_G} {cI cZ cO : ClassId} {own : String} {cc : ByteArray} {nL : Nat} {Ts : List Cond}
variable {p : Program} {l : Launch} {e : Env} {R : Room} {s : State} {m : MethodId} {args : Array Value} {below : List Frame} {meth : Method} {c : Code} {Q : State → Prop} {H H0 : Heap} {locs : List Loc} {cells slots pc : Nat} {A : Nat → Prop} {ws : va_W} {ls : Array Slot} {rest : List Value}
/-- an own field is read -/
theorem k_get (C : kC D cI cZ cO own cc nL Ts p s m args meth c) (S : kS D A H0 ws H locs) {ci k i q0 a : Nat} (ho : own = mn_cn ci) (hci : ci < 9) (hk : k < mn_nf ci) (hf : mn_fl ci i = some (ci, k)) {fs : List Value} (he : ws[q0]? = some (a, .inr (ci, fs))) {v : Value} (hv : fs[k]? = some v) (hdg : decode cc pc = .ok (.getfield i, 3))
    (kk : W p l e R s m args below meth c H locs cells slots Q (F0 m (pc + 3) ls (v :: rest))) : W p l e R s m args below meth c H locs cells slots Q (F0 m pc ls (.ref a :: rest)) := by
  obtain ⟨hx, hb, hml, hown, hts, hTs, hK, hN0⟩ := C
  obtain ⟨hP, hD, hS⟩ := S
  obtain ⟨⟨C0, T0, N0⟩, q1, q2, q3, q4⟩ := mn_cl9 ci hci
  dsimp only at q2 q3 q4
  have hfl := hts _ (hTs _ (mn_wf mn_Gf (List.mem_map.mpr ⟨_, mn_fl_of hf, rfl⟩)))
  dsimp only at hfl
  have hs1 := mn_fTs ci hci k hk
  rw [q4 k] at hfl hs1
  rw [← ho] at hfl
  have hsub : ∀ w ∈ u_ws C0 T0 N0, w ∈ Ts := fun w hw => hTs _ (mn_wf mn_Gl (List.mem_flatMap.mpr ⟨_, List.mem_of_getElem? q1, hw⟩))
  refine va_get (D := D) (cl := vwCl) (tys := mn_tys cI cZ cO) (C := C0) (T := T0) (N := N0) (ci := ci) (own := own) hx hb hts hsub hown hK hP q0 he q1 k (by rw [q2]; exact hk) hfl (fun y hy => ?_) hv hdg kk
  rw [hs1.1] at hy
  rw [ho]; exact hy
theorem k_ast (C : kC D cI cZ cO own cc nL Ts p s m args meth c) (S : kS D A H0 ws H locs) {q0 a n k : Nat} {f : Nat → Int32} (he : ws[q0]? = some (a, .inl (cI, n, .inl f))) {i x : Int32} (hin : vp_in i n) (hk : i.toNatClampNeg = k) (hdg : decode cc pc = .ok (.iastore, 1))
    (kk : ∀ (H1 : Heap) (locs1 : List Loc), kS D A H0 (ws.set q0 (a, .inl (cI, n, .inl (upd f k x)))) H1 locs1 → W p l e R s m args below meth c H1 locs1 cells slots Q (F0 m (pc + 1) ls rest)) : W p l e R s m args below meth c H locs cells slots Q (F0 m pc ls (.int x :: .int i :: .ref a :: rest)) := by
  obtain ⟨hx, hb, hml, hown, hts, hTs, hK, hN0⟩ := C
  obtain ⟨hP, hD, hS⟩ := S
  subst hk
  exact va_iast hx hb hK hP hD hS q0 0 he rfl hin hdg (fun H1 locs1 p1 p2 p3 => kk H1 locs1 ⟨p1, p2, p3⟩)
theorem k_asq (C : kC D cI cZ cO own cc nL Ts p s m args meth c) (S : kS D A H0 ws H locs) {q0 qk a v k : Nat} {vs : List Value} {f : Nat → Option Nat} (he : ws[q0]? = some (a, .inl (cO, 2, .inr (.inr (.inr (.inr f)))))) (hv : ws[qk]? = some (v, .inr (1, vs))) {i : Int32} (hin : vp_in i 2) (hk : i.toNatClampNeg = k) (hdg : decode cc pc = .ok (.aastore, 1))
    (kk : ∀ (H1 : Heap) (locs1 : List Loc), kS D A H0 (ws.set q0 (a, .inl (cO, 2, .inr (.inr (.inr (.inr (va_up f k (some v)))))))) H1 locs1 → W p l e R s m args below meth c H1 locs1 cells slots Q (F0 m (pc + 1) ls rest)) : W p l e R s m args below meth c H locs cells slots Q (F0 m pc ls (.ref v :: .int i :: .ref a :: rest)) := by
  obtain ⟨hx, hb, hml, hown, hts, hTs, hK, hN0⟩ := C
  obtain ⟨hP, hD, hS⟩ := S
  subst hk
  exact va_astq (r := (RX1, TX1, 8)) hx hb hK hP hD hS q0 2 qk 1 he (show (mn_tys cI cZ cO)[2]? = some (cO, FieldType.object RX1) from rfl) hv rfl hin hdg (fun H1 locs1 p1 p2 p3 => kk H1 locs1 ⟨p1, p2, p3⟩)
theorem k_fill (C : kC D cI cZ cO RX5 cc nL Ts p s m args meth c) {a : Nat} (S : kS D A H0 (ws ++ kfW cI a (fun _ => 0)) H locs) (hA : ∀ q, H0.size ≤ q → A q) (hl : ls.size = nL) (hR : 0 + 1 ≤ R.frames ∧ 8 + (4 + 11) + 0 ≤ R.locals) (hc : cells + 0 ≤ R.cells) (hs : slots + 0 ≤ R.slots) (hdg : decode cc pc = .ok (.invokestatic 57, 3))
    (kk : ∀ (H1 : Heap) (locs1 : List Loc), kS D A H0 (ws ++ kfW cI a kf6) H1 locs1 → W p l e R s m args below meth c H1 locs1 cells slots Q (F0 m (pc + 3) ls [])) : W p l e R s m args below meth c H locs cells slots Q (F0 m pc ls [.int 1, .ref a]) := by
  obtain ⟨hx, hb, hml, hown, hts, hTs, hK, hN0⟩ := C
  obtain ⟨hP, hD, hS⟩ := S
  have hC1 : [ws.length].map (fun i => (ws ++ kfW cI a (fun _ => 0))[i]?) = (kfW cI a (fun _ => 0)).map some := by simp
  have hR1 : (List.range ws.length).map (fun i => (ws ++ kfW cI a (fun _ => 0))[i]?) = ws.map some := by
    apply List.ext_getElem?
    intro k
    rw [List.getElem?_map, List.getElem?_map]
    by_cases hk : k < ws.length
    · rw [List.getElem?_range hk, Option.map_some, List.getElem?_append_left hk, List.getElem?_eq_getElem hk]; rfl
    · rw [List.getElem?_eq_none (by simpa using hk), List.getElem?_eq_none (Nat.le_of_not_lt hk)]; rfl
  have hPc := hP.sub (ws' := kfW cI a (fun _ => 0)) [ws.length] (by simp)
  have hDc := hD.sub (ws' := kfW cI a (fun _ => 0)) [ws.length] (by simp [va_nd]) hC1
  have hFc := va_free (wc := kfW cI a (fun _ => 0)) hD hS hA [ws.length] hC1
  have hpre : PreS s H (va_Pc [.ref a, .int 1] (kfPre D cI cZ cO a H.size)) [.ref a, .int 1] := by
    refine ⟨fun a U g mk q => ?_, fun U hU hW => ⟨rfl, by rw [hU], by rw [hU]; exact hPc, va_K.moved hW.alike hK, hDc.weaken (fun _ _ _ _ => trivial)⟩⟩
    obtain ⟨q0, q1, qP, qK, qD⟩ := q
    exact ⟨q0, q1, qP, va_K.moved (u := U) (U := U.calling g mk a) (Vm.Alike.refl U.vm) qK, qD⟩
  have cb : CallB R s args RX5 57 (mY 192) (mC 192) 4 none (kI (mY 192) (mC 192) 4) { frames := 0, cells := 0, slots := 0, locals := 0 } 0 0 2 :=
    callB_of 2 hts (kI_good hTs 68 rfl) (show kI (mY 192) (mC 192) 4 = _ from rfl) rfl rfl (kw hts hTs 69 rfl) (kw hts hTs 66 rfl) (by decide +kernel) hR
  refine va_callv (va_runS (As := [.ref a, .int 1]) (rest := []) ⟨hx, hb, hml, hown, hts⟩ (ki_fill l D cI cZ cO a H.size) ⟨cb, kw hts hTs 67 rfl⟩ hpre rfl rfl hl rfl (lv_room (by decide)) hdg ⟨hc, hs⟩) hS (fun q _ h => hFc q h) hFc (fun u t H1 locs1 ht hvm hw hB hz1 hk1 hS1 => ?_)
  obtain ⟨hP1, hD1⟩ := hB
  rw [ht] at hP1
  obtain ⟨hP2, hD2⟩ := va_join (wr := ws) (w1 := kfW cI a kf6) hP hD [ws.length] (List.range ws.length) hC1 hR1 (k_nd _) (fun i hi h => by rw [List.mem_singleton] at h; rw [List.mem_range] at hi; omega) hk1 hFc hP1 hD1
  exact kk H1 locs1 ⟨hP2, hD2, hS1⟩
end KX
theorem di_X0_0 : decode cX0_init 0 = .ok (.aload_n 0, 1) := by decide +kernel
theorem di_X0_1 : decode cX0_init 1 = .ok (.invokespecial 3, 3) := by decide +kernel
theorem di_X0_4 : decode cX0_init 4 = .ok (.aload_n 0, 1) := by decide +kernel
theorem di_X0_5 : decode cX0_init 5 = .ok (.sipush 512, 3) := by decide +kernel
theorem di_X0_8 : decode cX0_init 8 = .ok (.newarray .int, 2) := by decide +kernel
theorem di_X0_10 : decode cX0_init 10 = .ok (.putfield 9, 3) := by decide +kernel
theorem di_X0_13 : decode cX0_init 13 = .ok (.aload_n 0, 1) := by decide +kernel
theorem di_X0_14 : decode cX0_init 14 = .ok (.bipush 64, 2) := by decide +kernel
theorem di_X0_16 : decode cX0_init 16 = .ok (.newarray .int, 2) := by decide +kernel
theorem di_X0_18 : decode cX0_init 18 = .ok (.putfield 15, 3) := by decide +kernel
theorem di_X0_21 : decode cX0_init 21 = .ok (.return_, 1) := by decide +kernel
theorem di_X1_0 : decode cX1_init 0 = .ok (.aload_n 0, 1) := by decide +kernel
theorem di_X1_1 : decode cX1_init 1 = .ok (.invokespecial 3, 3) := by decide +kernel
theorem di_X1_4 : decode cX1_init 4 = .ok (.aload_n 0, 1) := by decide +kernel
theorem di_X1_5 : decode cX1_init 5 = .ok (.bipush 60, 2) := by decide +kernel
theorem di_X1_7 : decode cX1_init 7 = .ok (.newarray .int, 2) := by decide +kernel
theorem di_X1_9 : decode cX1_init 9 = .ok (.putfield 9, 3) := by decide +kernel
theorem di_X1_12 : decode cX1_init 12 = .ok (.return_, 1) := by decide +kernel
theorem di_X2_0 : decode cX2_init 0 = .ok (.aload_n 0, 1) := by decide +kernel
theorem di_X2_1 : decode cX2_init 1 = .ok (.invokespecial 3, 3) := by decide +kernel
theorem di_X2_4 : decode cX2_init 4 = .ok (.aload_n 0, 1) := by decide +kernel
theorem di_X2_5 : decode cX2_init 5 = .ok (.sipush 250, 3) := by decide +kernel
theorem di_X2_8 : decode cX2_init 8 = .ok (.newarray .int, 2) := by decide +kernel
theorem di_X2_10 : decode cX2_init 10 = .ok (.putfield 9, 3) := by decide +kernel
theorem di_X2_13 : decode cX2_init 13 = .ok (.aload_n 0, 1) := by decide +kernel
theorem di_X2_14 : decode cX2_init 14 = .ok (.iconst (-1), 1) := by decide +kernel
theorem di_X2_15 : decode cX2_init 15 = .ok (.putfield 15, 3) := by decide +kernel
theorem di_X2_18 : decode cX2_init 18 = .ok (.return_, 1) := by decide +kernel
theorem di_X3_0 : decode cX3_init 0 = .ok (.aload_n 0, 1) := by decide +kernel
theorem di_X3_1 : decode cX3_init 1 = .ok (.invokespecial 3, 3) := by decide +kernel
theorem di_X3_4 : decode cX3_init 4 = .ok (.aload_n 0, 1) := by decide +kernel
theorem di_X3_5 : decode cX3_init 5 = .ok (.iconst 5, 1) := by decide +kernel
theorem di_X3_6 : decode cX3_init 6 = .ok (.newarray .int, 2) := by decide +kernel
theorem di_X3_8 : decode cX3_init 8 = .ok (.putfield 9, 3) := by decide +kernel
theorem di_X3_11 : decode cX3_init 11 = .ok (.aload_n 0, 1) := by decide +kernel
theorem di_X3_12 : decode cX3_init 12 = .ok (.bipush 60, 2) := by decide +kernel
theorem di_X3_14 : decode cX3_init 14 = .ok (.newarray .boolean, 2) := by decide +kernel
theorem di_X3_16 : decode cX3_init 16 = .ok (.putfield 15, 3) := by decide +kernel
theorem di_X3_19 : decode cX3_init 19 = .ok (.aload_n 0, 1) := by decide +kernel
theorem di_X3_20 : decode cX3_init 20 = .ok (.bipush 60, 2) := by decide +kernel
theorem di_X3_22 : decode cX3_init 22 = .ok (.newarray .int, 2) := by decide +kernel
theorem di_X3_24 : decode cX3_init 24 = .ok (.putfield 19, 3) := by decide +kernel
theorem di_X3_27 : decode cX3_init 27 = .ok (.aload_n 0, 1) := by decide +kernel
theorem di_X3_28 : decode cX3_init 28 = .ok (.bipush 60, 2) := by decide +kernel
theorem di_X3_30 : decode cX3_init 30 = .ok (.newarray .int, 2) := by decide +kernel
theorem di_X3_32 : decode cX3_init 32 = .ok (.putfield 22, 3) := by decide +kernel
theorem di_X3_35 : decode cX3_init 35 = .ok (.aload_n 0, 1) := by decide +kernel
theorem di_X3_36 : decode cX3_init 36 = .ok (.bipush 48, 2) := by decide +kernel
theorem di_X3_38 : decode cX3_init 38 = .ok (.newarray .int, 2) := by decide +kernel
theorem di_X3_40 : decode cX3_init 40 = .ok (.putfield 25, 3) := by decide +kernel
theorem di_X3_43 : decode cX3_init 43 = .ok (.return_, 1) := by decide +kernel
theorem di_X4_0 : decode cX4_init 0 = .ok (.aload_n 0, 1) := by decide +kernel
theorem di_X4_1 : decode cX4_init 1 = .ok (.invokespecial 3, 3) := by decide +kernel
theorem di_X4_4 : decode cX4_init 4 = .ok (.aload_n 0, 1) := by decide +kernel
theorem di_X4_5 : decode cX4_init 5 = .ok (.iconst 0, 1) := by decide +kernel
theorem di_X4_6 : decode cX4_init 6 = .ok (.iload_n 1, 1) := by decide +kernel
theorem di_X4_7 : decode cX4_init 7 = .ok (.invokestatic 9, 3) := by decide +kernel
theorem di_X4_10 : decode cX4_init 10 = .ok (.newarray .int, 2) := by decide +kernel
theorem di_X4_12 : decode cX4_init 12 = .ok (.putfield 15, 3) := by decide +kernel
theorem di_X4_15 : decode cX4_init 15 = .ok (.aload_n 0, 1) := by decide +kernel
theorem di_X4_16 : decode cX4_init 16 = .ok (.iconst 0, 1) := by decide +kernel
theorem di_X4_17 : decode cX4_init 17 = .ok (.iload_n 1, 1) := by decide +kernel
theorem di_X4_18 : decode cX4_init 18 = .ok (.invokestatic 9, 3) := by decide +kernel
theorem di_X4_21 : decode cX4_init 21 = .ok (.newarray .int, 2) := by decide +kernel
theorem di_X4_23 : decode cX4_init 23 = .ok (.putfield 21, 3) := by decide +kernel
theorem di_X4_26 : decode cX4_init 26 = .ok (.aload_n 0, 1) := by decide +kernel
theorem di_X4_27 : decode cX4_init 27 = .ok (.iconst 0, 1) := by decide +kernel
theorem di_X4_28 : decode cX4_init 28 = .ok (.iload_n 1, 1) := by decide +kernel
theorem di_X4_29 : decode cX4_init 29 = .ok (.invokestatic 9, 3) := by decide +kernel
theorem di_X4_32 : decode cX4_init 32 = .ok (.newarray .int, 2) := by decide +kernel
theorem di_X4_34 : decode cX4_init 34 = .ok (.putfield 24, 3) := by decide +kernel
theorem di_X4_37 : decode cX4_init 37 = .ok (.return_, 1) := by decide +kernel
theorem di_X5_0 : decode cX5_init 0 = .ok (.aload_n 0, 1) := by decide +kernel
theorem di_X5_1 : decode cX5_init 1 = .ok (.invokespecial 3, 3) := by decide +kernel
theorem di_X5_4 : decode cX5_init 4 = .ok (.aload_n 0, 1) := by decide +kernel
theorem di_X5_5 : decode cX5_init 5 = .ok (.iconst 5, 1) := by decide +kernel
theorem di_X5_6 : decode cX5_init 6 = .ok (.newarray .int, 2) := by decide +kernel
theorem di_X5_8 : decode cX5_init 8 = .ok (.putfield 9, 3) := by decide +kernel
theorem di_X5_11 : decode cX5_init 11 = .ok (.aload_n 0, 1) := by decide +kernel
theorem di_X5_12 : decode cX5_init 12 = .ok (.iconst 5, 1) := by decide +kernel
theorem di_X5_13 : decode cX5_init 13 = .ok (.newarray .int, 2) := by decide +kernel
theorem di_X5_15 : decode cX5_init 15 = .ok (.putfield 15, 3) := by decide +kernel
theorem di_X5_18 : decode cX5_init 18 = .ok (.aload_n 0, 1) := by decide +kernel
theorem di_X5_19 : decode cX5_init 19 = .ok (.iconst 5, 1) := by decide +kernel
theorem di_X5_20 : decode cX5_init 20 = .ok (.newarray .int, 2) := by decide +kernel
theorem di_X5_22 : decode cX5_init 22 = .ok (.putfield 18, 3) := by decide +kernel
theorem di_X5_25 : decode cX5_init 25 = .ok (.aload_n 0, 1) := by decide +kernel
theorem di_X5_26 : decode cX5_init 26 = .ok (.bipush 6, 2) := by decide +kernel
theorem di_X5_28 : decode cX5_init 28 = .ok (.newarray .int, 2) := by decide +kernel
theorem di_X5_30 : decode cX5_init 30 = .ok (.putfield 21, 3) := by decide +kernel
theorem di_X5_33 : decode cX5_init 33 = .ok (.aload_n 0, 1) := by decide +kernel
theorem di_X5_34 : decode cX5_init 34 = .ok (.bipush 6, 2) := by decide +kernel
theorem di_X5_36 : decode cX5_init 36 = .ok (.newarray .int, 2) := by decide +kernel
theorem di_X5_38 : decode cX5_init 38 = .ok (.putfield 24, 3) := by decide +kernel
theorem di_X5_41 : decode cX5_init 41 = .ok (.aload_n 0, 1) := by decide +kernel
theorem di_X5_42 : decode cX5_init 42 = .ok (.bipush 6, 2) := by decide +kernel
theorem di_X5_44 : decode cX5_init 44 = .ok (.newarray .int, 2) := by decide +kernel
theorem di_X5_46 : decode cX5_init 46 = .ok (.putfield 27, 3) := by decide +kernel
theorem di_X5_49 : decode cX5_init 49 = .ok (.aload_n 0, 1) := by decide +kernel
theorem di_X5_50 : decode cX5_init 50 = .ok (.bipush 6, 2) := by decide +kernel
theorem di_X5_52 : decode cX5_init 52 = .ok (.newarray .int, 2) := by decide +kernel
theorem di_X5_54 : decode cX5_init 54 = .ok (.putfield 30, 3) := by decide +kernel
theorem di_X5_57 : decode cX5_init 57 = .ok (.aload_n 0, 1) := by decide +kernel
theorem di_X5_58 : decode cX5_init 58 = .ok (.new 33, 3) := by decide +kernel
theorem di_X5_61 : decode cX5_init 61 = .ok (.dup, 1) := by decide +kernel
theorem di_X5_62 : decode cX5_init 62 = .ok (.bipush 8, 2) := by decide +kernel
theorem di_X5_64 : decode cX5_init 64 = .ok (.invokespecial 35, 3) := by decide +kernel
theorem di_X5_67 : decode cX5_init 67 = .ok (.putfield 38, 3) := by decide +kernel
theorem di_X5_70 : decode cX5_init 70 = .ok (.aload_n 0, 1) := by decide +kernel
theorem di_X5_71 : decode cX5_init 71 = .ok (.new 33, 3) := by decide +kernel
theorem di_X5_74 : decode cX5_init 74 = .ok (.dup, 1) := by decide +kernel
theorem di_X5_75 : decode cX5_init 75 = .ok (.iconst 4, 1) := by decide +kernel
theorem di_X5_76 : decode cX5_init 76 = .ok (.invokespecial 35, 3) := by decide +kernel
theorem di_X5_79 : decode cX5_init 79 = .ok (.putfield 42, 3) := by decide +kernel
theorem di_X5_82 : decode cX5_init 82 = .ok (.aload_n 0, 1) := by decide +kernel
theorem di_X5_83 : decode cX5_init 83 = .ok (.iconst 3, 1) := by decide +kernel
theorem di_X5_84 : decode cX5_init 84 = .ok (.newarray .int, 2) := by decide +kernel
theorem di_X5_86 : decode cX5_init 86 = .ok (.putfield 45, 3) := by decide +kernel
theorem di_X5_89 : decode cX5_init 89 = .ok (.aload_n 0, 1) := by decide +kernel
theorem di_X5_90 : decode cX5_init 90 = .ok (.iconst 3, 1) := by decide +kernel
theorem di_X5_91 : decode cX5_init 91 = .ok (.newarray .int, 2) := by decide +kernel
theorem di_X5_93 : decode cX5_init 93 = .ok (.putfield 48, 3) := by decide +kernel
theorem di_X5_96 : decode cX5_init 96 = .ok (.aload_n 0, 1) := by decide +kernel
theorem di_X5_97 : decode cX5_init 97 = .ok (.iconst 3, 1) := by decide +kernel
theorem di_X5_98 : decode cX5_init 98 = .ok (.newarray .int, 2) := by decide +kernel
theorem di_X5_100 : decode cX5_init 100 = .ok (.putfield 51, 3) := by decide +kernel
theorem di_X5_103 : decode cX5_init 103 = .ok (.aload_n 0, 1) := by decide +kernel
theorem di_X5_104 : decode cX5_init 104 = .ok (.bipush 6, 2) := by decide +kernel
theorem di_X5_106 : decode cX5_init 106 = .ok (.newarray .int, 2) := by decide +kernel
theorem di_X5_108 : decode cX5_init 108 = .ok (.putfield 54, 3) := by decide +kernel
theorem di_X5_111 : decode cX5_init 111 = .ok (.aload_n 0, 1) := by decide +kernel
theorem di_X5_112 : decode cX5_init 112 = .ok (.getfield 54, 3) := by decide +kernel
theorem di_X5_115 : decode cX5_init 115 = .ok (.iconst 1, 1) := by decide +kernel
theorem di_X5_116 : decode cX5_init 116 = .ok (.invokestatic 57, 3) := by decide +kernel
theorem di_X5_119 : decode cX5_init 119 = .ok (.return_, 1) := by decide +kernel
theorem di_X6_0 : decode cX6_init 0 = .ok (.aload_n 0, 1) := by decide +kernel
theorem di_X6_1 : decode cX6_init 1 = .ok (.invokespecial 3, 3) := by decide +kernel
theorem di_X6_4 : decode cX6_init 4 = .ok (.aload_n 0, 1) := by decide +kernel
theorem di_X6_5 : decode cX6_init 5 = .ok (.bipush 7, 2) := by decide +kernel
theorem di_X6_7 : decode cX6_init 7 = .ok (.newarray .int, 2) := by decide +kernel
theorem di_X6_9 : decode cX6_init 9 = .ok (.putfield 9, 3) := by decide +kernel
theorem di_X6_12 : decode cX6_init 12 = .ok (.aload_n 0, 1) := by decide +kernel
theorem di_X6_13 : decode cX6_init 13 = .ok (.bipush 32, 2) := by decide +kernel
theorem di_X6_15 : decode cX6_init 15 = .ok (.newarray .int, 2) := by decide +kernel
theorem di_X6_17 : decode cX6_init 17 = .ok (.putfield 15, 3) := by decide +kernel
theorem di_X6_20 : decode cX6_init 20 = .ok (.aload_n 0, 1) := by decide +kernel
theorem di_X6_21 : decode cX6_init 21 = .ok (.bipush 32, 2) := by decide +kernel
theorem di_X6_23 : decode cX6_init 23 = .ok (.newarray .int, 2) := by decide +kernel
theorem di_X6_25 : decode cX6_init 25 = .ok (.putfield 18, 3) := by decide +kernel
theorem di_X6_28 : decode cX6_init 28 = .ok (.return_, 1) := by decide +kernel
theorem di_X7_0 : decode cX7_init 0 = .ok (.aload_n 0, 1) := by decide +kernel
theorem di_X7_1 : decode cX7_init 1 = .ok (.invokespecial 1, 3) := by decide +kernel
theorem di_X7_4 : decode cX7_init 4 = .ok (.aload_n 0, 1) := by decide +kernel
theorem di_X7_5 : decode cX7_init 5 = .ok (.new 7, 3) := by decide +kernel
theorem di_X7_8 : decode cX7_init 8 = .ok (.dup, 1) := by decide +kernel
theorem di_X7_9 : decode cX7_init 9 = .ok (.invokespecial 9, 3) := by decide +kernel
theorem di_X7_12 : decode cX7_init 12 = .ok (.putfield 10, 3) := by decide +kernel
theorem di_X7_15 : decode cX7_init 15 = .ok (.aload_n 0, 1) := by decide +kernel
theorem di_X7_16 : decode cX7_init 16 = .ok (.new 16, 3) := by decide +kernel
theorem di_X7_19 : decode cX7_init 19 = .ok (.dup, 1) := by decide +kernel
theorem di_X7_20 : decode cX7_init 20 = .ok (.invokespecial 18, 3) := by decide +kernel
theorem di_X7_23 : decode cX7_init 23 = .ok (.putfield 19, 3) := by decide +kernel
theorem di_X7_26 : decode cX7_init 26 = .ok (.aload_n 0, 1) := by decide +kernel
theorem di_X7_27 : decode cX7_init 27 = .ok (.iconst 2, 1) := by decide +kernel
theorem di_X7_28 : decode cX7_init 28 = .ok (.anewarray 16, 3) := by decide +kernel
theorem di_X7_31 : decode cX7_init 31 = .ok (.putfield 23, 3) := by decide +kernel
theorem di_X7_34 : decode cX7_init 34 = .ok (.aload_n 0, 1) := by decide +kernel
theorem di_X7_35 : decode cX7_init 35 = .ok (.new 27, 3) := by decide +kernel
theorem di_X7_38 : decode cX7_init 38 = .ok (.dup, 1) := by decide +kernel
theorem di_X7_39 : decode cX7_init 39 = .ok (.invokespecial 29, 3) := by decide +kernel
theorem di_X7_42 : decode cX7_init 42 = .ok (.putfield 30, 3) := by decide +kernel
theorem di_X7_45 : decode cX7_init 45 = .ok (.aload_n 0, 1) := by decide +kernel
theorem di_X7_46 : decode cX7_init 46 = .ok (.new 34, 3) := by decide +kernel
theorem di_X7_49 : decode cX7_init 49 = .ok (.dup, 1) := by decide +kernel
theorem di_X7_50 : decode cX7_init 50 = .ok (.invokespecial 36, 3) := by decide +kernel
theorem di_X7_53 : decode cX7_init 53 = .ok (.putfield 37, 3) := by decide +kernel
theorem di_X7_56 : decode cX7_init 56 = .ok (.aload_n 0, 1) := by decide +kernel
theorem di_X7_57 : decode cX7_init 57 = .ok (.new 41, 3) := by decide +kernel
theorem di_X7_60 : decode cX7_init 60 = .ok (.dup, 1) := by decide +kernel
theorem di_X7_61 : decode cX7_init 61 = .ok (.invokespecial 43, 3) := by decide +kernel
theorem di_X7_64 : decode cX7_init 64 = .ok (.putfield 44, 3) := by decide +kernel
theorem di_X7_67 : decode cX7_init 67 = .ok (.aload_n 0, 1) := by decide +kernel
theorem di_X7_68 : decode cX7_init 68 = .ok (.new 48, 3) := by decide +kernel
theorem di_X7_71 : decode cX7_init 71 = .ok (.dup, 1) := by decide +kernel
theorem di_X7_72 : decode cX7_init 72 = .ok (.invokespecial 50, 3) := by decide +kernel
theorem di_X7_75 : decode cX7_init 75 = .ok (.putfield 51, 3) := by decide +kernel
theorem di_X7_78 : decode cX7_init 78 = .ok (.aload_n 0, 1) := by decide +kernel
theorem di_X7_79 : decode cX7_init 79 = .ok (.new 48, 3) := by decide +kernel
theorem di_X7_82 : decode cX7_init 82 = .ok (.dup, 1) := by decide +kernel
theorem di_X7_83 : decode cX7_init 83 = .ok (.invokespecial 50, 3) := by decide +kernel
theorem di_X7_86 : decode cX7_init 86 = .ok (.putfield 55, 3) := by decide +kernel
theorem di_X7_89 : decode cX7_init 89 = .ok (.iconst 0, 1) := by decide +kernel
theorem di_X7_90 : decode cX7_init 90 = .ok (.istore_n 1, 1) := by decide +kernel
theorem di_X7_91 : decode cX7_init 91 = .ok (.iload_n 1, 1) := by decide +kernel
theorem di_X7_92 : decode cX7_init 92 = .ok (.iconst 2, 1) := by decide +kernel
theorem di_X7_93 : decode cX7_init 93 = .ok (.if_icmp .ge 22, 3) := by decide +kernel
theorem di_X7_96 : decode cX7_init 96 = .ok (.aload_n 0, 1) := by decide +kernel
theorem di_X7_97 : decode cX7_init 97 = .ok (.getfield 23, 3) := by decide +kernel
theorem di_X7_100 : decode cX7_init 100 = .ok (.iload_n 1, 1) := by decide +kernel
theorem di_X7_101 : decode cX7_init 101 = .ok (.new 16, 3) := by decide +kernel
theorem di_X7_104 : decode cX7_init 104 = .ok (.dup, 1) := by decide +kernel
theorem di_X7_105 : decode cX7_init 105 = .ok (.invokespecial 18, 3) := by decide +kernel
theorem di_X7_108 : decode cX7_init 108 = .ok (.aastore, 1) := by decide +kernel
theorem di_X7_109 : decode cX7_init 109 = .ok (.iinc 1 1, 3) := by decide +kernel
theorem di_X7_112 : decode cX7_init 112 = .ok (.goto (-21), 3) := by decide +kernel
theorem di_X7_115 : decode cX7_init 115 = .ok (.return_, 1) := by decide +kernel
theorem di_X8_0 : decode cX8_init 0 = .ok (.aload_n 0, 1) := by decide +kernel
theorem di_X8_1 : decode cX8_init 1 = .ok (.invokespecial 1, 3) := by decide +kernel
theorem di_X8_4 : decode cX8_init 4 = .ok (.aload_n 0, 1) := by decide +kernel
theorem di_X8_5 : decode cX8_init 5 = .ok (.sipush 250, 3) := by decide +kernel
theorem di_X8_8 : decode cX8_init 8 = .ok (.newarray .int, 2) := by decide +kernel
theorem di_X8_10 : decode cX8_init 10 = .ok (.putfield 7, 3) := by decide +kernel
theorem di_X8_13 : decode cX8_init 13 = .ok (.aload_n 0, 1) := by decide +kernel
theorem di_X8_14 : decode cX8_init 14 = .ok (.bipush 96, 2) := by decide +kernel
theorem di_X8_16 : decode cX8_init 16 = .ok (.newarray .int, 2) := by decide +kernel
theorem di_X8_18 : decode cX8_init 18 = .ok (.putfield 13, 3) := by decide +kernel
theorem di_X8_21 : decode cX8_init 21 = .ok (.aload_n 0, 1) := by decide +kernel
theorem di_X8_22 : decode cX8_init 22 = .ok (.bipush 96, 2) := by decide +kernel
theorem di_X8_24 : decode cX8_init 24 = .ok (.newarray .int, 2) := by decide +kernel
theorem di_X8_26 : decode cX8_init 26 = .ok (.putfield 16, 3) := by decide +kernel
theorem di_X8_29 : decode cX8_init 29 = .ok (.aload_n 0, 1) := by decide +kernel
theorem di_X8_30 : decode cX8_init 30 = .ok (.bipush 65, 2) := by decide +kernel
theorem di_X8_32 : decode cX8_init 32 = .ok (.newarray .int, 2) := by decide +kernel
theorem di_X8_34 : decode cX8_init 34 = .ok (.putfield 19, 3) := by decide +kernel
theorem di_X8_37 : decode cX8_init 37 = .ok (.aload_n 0, 1) := by decide +kernel
theorem di_X8_38 : decode cX8_init 38 = .ok (.sipush 130, 3) := by decide +kernel
theorem di_X8_41 : decode cX8_init 41 = .ok (.newarray .int, 2) := by decide +kernel
theorem di_X8_43 : decode cX8_init 43 = .ok (.putfield 22, 3) := by decide +kernel
theorem di_X8_46 : decode cX8_init 46 = .ok (.aload_n 0, 1) := by decide +kernel
theorem di_X8_47 : decode cX8_init 47 = .ok (.iconst 2, 1) := by decide +kernel
theorem di_X8_48 : decode cX8_init 48 = .ok (.newarray .boolean, 2) := by decide +kernel
theorem di_X8_50 : decode cX8_init 50 = .ok (.putfield 25, 3) := by decide +kernel
theorem di_X8_53 : decode cX8_init 53 = .ok (.aload_n 0, 1) := by decide +kernel
theorem di_X8_54 : decode cX8_init 54 = .ok (.iconst 5, 1) := by decide +kernel
theorem di_X8_55 : decode cX8_init 55 = .ok (.newarray .int, 2) := by decide +kernel
theorem di_X8_57 : decode cX8_init 57 = .ok (.putfield 29, 3) := by decide +kernel
theorem di_X8_60 : decode cX8_init 60 = .ok (.aload_n 0, 1) := by decide +kernel
theorem di_X8_61 : decode cX8_init 61 = .ok (.bipush 60, 2) := by decide +kernel
theorem di_X8_63 : decode cX8_init 63 = .ok (.newarray .int, 2) := by decide +kernel
theorem di_X8_65 : decode cX8_init 65 = .ok (.putfield 32, 3) := by decide +kernel
theorem di_X8_68 : decode cX8_init 68 = .ok (.aload_n 0, 1) := by decide +kernel
theorem di_X8_69 : decode cX8_init 69 = .ok (.iconst (-1), 1) := by decide +kernel
theorem di_X8_70 : decode cX8_init 70 = .ok (.putfield 35, 3) := by decide +kernel
theorem di_X8_73 : decode cX8_init 73 = .ok (.aload_n 0, 1) := by decide +kernel
theorem di_X8_74 : decode cX8_init 74 = .ok (.bipush 64, 2) := by decide +kernel
theorem di_X8_76 : decode cX8_init 76 = .ok (.newarray .int, 2) := by decide +kernel
theorem di_X8_78 : decode cX8_init 78 = .ok (.putfield 39, 3) := by decide +kernel
theorem di_X8_81 : decode cX8_init 81 = .ok (.aload_n 0, 1) := by decide +kernel
theorem di_X8_82 : decode cX8_init 82 = .ok (.ldc 42, 2) := by decide +kernel
theorem di_X8_84 : decode cX8_init 84 = .ok (.newarray .int, 2) := by decide +kernel
theorem di_X8_86 : decode cX8_init 86 = .ok (.putfield 43, 3) := by decide +kernel
theorem di_X8_89 : decode cX8_init 89 = .ok (.iconst 0, 1) := by decide +kernel
theorem di_X8_90 : decode cX8_init 90 = .ok (.istore_n 1, 1) := by decide +kernel
theorem di_X8_91 : decode cX8_init 91 = .ok (.iload_n 1, 1) := by decide +kernel
theorem di_X8_92 : decode cX8_init 92 = .ok (.bipush 6, 2) := by decide +kernel
theorem di_X8_94 : decode cX8_init 94 = .ok (.if_icmp .ge 19, 3) := by decide +kernel
theorem di_X8_97 : decode cX8_init 97 = .ok (.aload_n 0, 1) := by decide +kernel
theorem di_X8_98 : decode cX8_init 98 = .ok (.getfield 13, 3) := by decide +kernel
theorem di_X8_101 : decode cX8_init 101 = .ok (.bipush 89, 2) := by decide +kernel
theorem di_X8_103 : decode cX8_init 103 = .ok (.iload_n 1, 1) := by decide +kernel
theorem di_X8_104 : decode cX8_init 104 = .ok (.iadd, 1) := by decide +kernel
theorem di_X8_105 : decode cX8_init 105 = .ok (.iconst 1, 1) := by decide +kernel
theorem di_X8_106 : decode cX8_init 106 = .ok (.iastore, 1) := by decide +kernel
theorem di_X8_107 : decode cX8_init 107 = .ok (.iinc 1 1, 3) := by decide +kernel
theorem di_X8_110 : decode cX8_init 110 = .ok (.goto (-19), 3) := by decide +kernel
theorem di_X8_113 : decode cX8_init 113 = .ok (.return_, 1) := by decide +kernel
