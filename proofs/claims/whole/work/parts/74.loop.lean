set_option maxHeartbeats 4000000 in
set_option maxRecDepth 100000 in
theorem k_case {D : va_G} {cI cZ cO : ClassId} {ad : Nat → Nat} {p : Program} {l : Launch} {e : Env} {s : State} {m : MethodId} {below : List Frame} {meth : Method} {c : Code} {Q : State → Prop} {b L : Nat} {xs : Nat → Int32} {H : Heap} {locs : List Loc} {ls : Array Slot} {h : mn_H} {i : Nat} (X : lwC D cI cZ cO ad p s m meth c b L xs) (hi : i + 5 ≤ L) (hL : L ≤ 320) (hl : lv_has ls 4 [(0, .ref b), (1, .ref (ad 0)), (2, .ref (ad 63)), (3, .int (nI i))]) (hI : INV h) (S : lwS D cI cZ cO ad s H locs h) {x : Int32} (hx : ∃ j, j < 32 ∧ x = nI j)
    (kk : ∀ (h2 : mn_H) (H1 : Heap) (locs1 : List Loc), INV h2 → lwS D cI cZ cO ad s H1 locs1 h2 → W p l e room_1 s m #[Value.ref b] below meth c H1 locs1 600000 7302250 Q (F0 m 1044 ls [])) : W p l e room_1 s m #[Value.ref b] below meth c H locs 600000 7302250 Q (F0 m 32 ls [.int x]) := by
  obtain ⟨j, hj, rfl⟩ := hx
  have hx := X.1.1
  have hb := X.1.2.1
  have : j = 0 ∨ j = 1 ∨ j = 2 ∨ j = 3 ∨ j = 4 ∨ j = 5 ∨ j = 6 ∨ j = 7 ∨ j = 8 ∨ j = 9 ∨ j = 10 ∨ j = 11 ∨ j = 12 ∨ j = 13 ∨ j = 14 ∨ j = 15 ∨ j = 16 ∨ j = 17 ∨ j = 18 ∨ j = 19 ∨ j = 20 ∨ j = 21 ∨ j = 22 ∨ j = 23 ∨ j = 24 ∨ j = 25 ∨ j = 26 ∨ j = 27 ∨ j = 28 ∨ j = 29 ∨ j = 30 ∨ j = 31 := by omega
  rcases this with rfl | rfl | rfl | rfl | rfl | rfl | rfl | rfl | rfl | rfl | rfl | rfl | rfl | rfl | rfl | rfl | rfl | rfl | rfl | rfl | rfl | rfl | rfl | rfl | rfl | rfl | rfl | rfl | rfl | rfl | rfl | rfl
  · exact lv_tableIn (off := 144) (tgt := 176) hx hb dl_32 (by decide) (by decide) (by decide) (by decide) (lc_0 X hi hL hl hI S kk)
  · exact lv_tableIn (off := 167) (tgt := 199) hx hb dl_32 (by decide) (by decide) (by decide) (by decide) (lc_1 X hi hL hl hI S kk)
  · exact lv_tableIn (off := 180) (tgt := 212) hx hb dl_32 (by decide) (by decide) (by decide) (by decide) (lc_2 X hi hL hl hI S kk)
  · exact lv_tableIn (off := 193) (tgt := 225) hx hb dl_32 (by decide) (by decide) (by decide) (by decide) (lc_3 X hi hL hl hI S kk)
  · exact lv_tableIn (off := 216) (tgt := 248) hx hb dl_32 (by decide) (by decide) (by decide) (by decide) (lc_4 X hi hL hl hI S kk)
  · exact lv_tableIn (off := 249) (tgt := 281) hx hb dl_32 (by decide) (by decide) (by decide) (by decide) (lc_5 X hi hL hl hI S kk)
  · exact lv_tableIn (off := 282) (tgt := 314) hx hb dl_32 (by decide) (by decide) (by decide) (by decide) (lc_6 X hi hL hl hI S kk)
  · exact lv_tableIn (off := 305) (tgt := 337) hx hb dl_32 (by decide) (by decide) (by decide) (by decide) (lc_7 X hi hL hl hI S kk)
  · exact lv_tableIn (off := 328) (tgt := 360) hx hb dl_32 (by decide) (by decide) (by decide) (by decide) (lc_8 X hi hL hl hI S kk)
  · exact lv_tableIn (off := 361) (tgt := 393) hx hb dl_32 (by decide) (by decide) (by decide) (by decide) (lc_9 X hi hL hl hI S kk)
  · exact lv_tableIn (off := 384) (tgt := 416) hx hb dl_32 (by decide) (by decide) (by decide) (by decide) (lc_10 X hi hL hl hI S kk)
  · exact lv_tableIn (off := 407) (tgt := 439) hx hb dl_32 (by decide) (by decide) (by decide) (by decide) (lc_11 X hi hL hl hI S kk)
  · exact lv_tableIn (off := 430) (tgt := 462) hx hb dl_32 (by decide) (by decide) (by decide) (by decide) (lc_12 X hi hL hl hI S kk)
  · exact lv_tableIn (off := 453) (tgt := 485) hx hb dl_32 (by decide) (by decide) (by decide) (by decide) (lc_13 X hi hL hl hI S kk)
  · exact lv_tableIn (off := 476) (tgt := 508) hx hb dl_32 (by decide) (by decide) (by decide) (by decide) (lc_14 X hi hL hl hI S kk)
  · exact lv_tableIn (off := 499) (tgt := 531) hx hb dl_32 (by decide) (by decide) (by decide) (by decide) (lc_15 X hi hL hl hI S kk)
  · exact lv_tableIn (off := 548) (tgt := 580) hx hb dl_32 (by decide) (by decide) (by decide) (by decide) (lc_16 X hi hL hl hI S kk)
  · exact lv_tableIn (off := 571) (tgt := 603) hx hb dl_32 (by decide) (by decide) (by decide) (by decide) (lc_17 X hi hL hl hI S kk)
  · exact lv_tableIn (off := 594) (tgt := 626) hx hb dl_32 (by decide) (by decide) (by decide) (by decide) (lc_18 X hi hL hl hI S kk)
  · exact lv_tableIn (off := 627) (tgt := 659) hx hb dl_32 (by decide) (by decide) (by decide) (by decide) (lc_19 X hi hL hl hI S kk)
  · exact lv_tableIn (off := 660) (tgt := 692) hx hb dl_32 (by decide) (by decide) (by decide) (by decide) (lc_20 X hi hL hl hI S kk)
  · exact lv_tableIn (off := 693) (tgt := 725) hx hb dl_32 (by decide) (by decide) (by decide) (by decide) (lc_21 X hi hL hl hI S kk)
  · exact lv_tableIn (off := 716) (tgt := 748) hx hb dl_32 (by decide) (by decide) (by decide) (by decide) (lc_22 X hi hL hl hI S kk)
  · exact lv_tableIn (off := 749) (tgt := 781) hx hb dl_32 (by decide) (by decide) (by decide) (by decide) (lc_23 X hi hL hl hI S kk)
  · exact lv_tableIn (off := 772) (tgt := 804) hx hb dl_32 (by decide) (by decide) (by decide) (by decide) (lc_24 X hi hL hl hI S kk)
  · exact lv_tableIn (off := 805) (tgt := 837) hx hb dl_32 (by decide) (by decide) (by decide) (by decide) (lc_25 X hi hL hl hI S kk)
  · exact lv_tableIn (off := 874) (tgt := 906) hx hb dl_32 (by decide) (by decide) (by decide) (by decide) (lc_26 X hi hL hl hI S kk)
  · exact lv_tableIn (off := 907) (tgt := 939) hx hb dl_32 (by decide) (by decide) (by decide) (by decide) (lc_27 X hi hL hl hI S kk)
  · exact lv_tableIn (off := 930) (tgt := 962) hx hb dl_32 (by decide) (by decide) (by decide) (by decide) (lc_28 X hi hL hl hI S kk)
  · exact lv_tableIn (off := 943) (tgt := 975) hx hb dl_32 (by decide) (by decide) (by decide) (by decide) (lc_29 X hi hL hl hI S kk)
  · exact lv_tableIn (off := 966) (tgt := 998) hx hb dl_32 (by decide) (by decide) (by decide) (by decide) (lc_30 X hi hL hl hI S kk)
  · exact lv_tableIn (off := 989) (tgt := 1021) hx hb dl_32 (by decide) (by decide) (by decide) (by decide) (lc_31 X hi hL hl hI S kk)
theorem k_sub5 {L i : Nat} (hL : L ≤ 320) (hi : i ≤ 325) (hc : ¬ nI L - 5 < nI i) : i + 5 ≤ L := by
  by_cases h5 : 5 ≤ L
  · have e : nI L - 5 = nI (L - 5) := by
      have : nI (L - 5) + 5 = nI L := by
        have := nI_add (L - 5) 5
        rw [show L - 5 + 5 = L by omega] at this
        exact this
      rw [← this, Int32.add_sub_cancel]
    rw [e] at hc
    rcases Nat.lt_or_ge (L - 5) i with q | q
    · exact absurd (nI_lt q (by omega)) hc
    · omega
  · exfalso
    apply hc
    have h0 : (0 : Int32) ≤ nI i := nI_pos' (by omega)
    refine Int32.lt_of_lt_of_le ?_ h0
    have : L = 0 ∨ L = 1 ∨ L = 2 ∨ L = 3 ∨ L = 4 := by omega
    rcases this with rfl | rfl | rfl | rfl | rfl <;> decide
set_option maxHeartbeats 4000000 in
set_option maxRecDepth 100000 in
/-- THE LAW'S LOOP -/
theorem k_loop {D : va_G} {cI cZ cO : ClassId} {ad : Nat → Nat} {p : Program} {l : Launch} {e : Env} {s : State} {m : MethodId} {below : List Frame} {meth : Method} {c : Code} {b L : Nat} {xs : Nat → Int32} (hL : L ≤ 320) (X : lwC D cI cZ cO ad p s m meth c b L xs) :
    ∀ (n i : Nat) (h : mn_H) (H : Heap) (locs : List Loc) (ls : Array Slot), i ≤ 325 → L ≤ i + n → INV h → lwS D cI cZ cO ad s H locs h → lv_has ls 4 [(0, .ref b), (1, .ref (ad 0)), (2, .ref (ad 63)), (3, .int (nI i))] → W p l e room_1 s m #[Value.ref b] below meth c H locs 600000 7302250 (lw_Z below #[Value.ref b] s) (F0 m 18 ls []) := by
  have X0 := X
  obtain ⟨⟨hx, hb, hr, hml, hown, hts, hXs, hbl, hlk, hgv⟩, hK, hKn⟩ := X0
  have hbA : ¬ (fun q : Nat => s.heap.size ≤ q) b := Nat.not_le.mpr hbl
  intro n
  induction n with
  | zero =>
    intro i h H locs ls hi hn hI S hl
    refine lv_iload_n hx hb dl_18 rfl (lv_at hl 3 rfl) ?_
    refine lv_aload_n hx hb dl_19 rfl (lv_at hl 0 rfl) ?_
    refine va_slen hx hb hXs hbl hbA S.2.2 dl_20 ?_
    refine lv_iconst (v := 5) hx hb dl_21 (by decide) ?_
    refine lv_isub hx hb dl_22 ?_
    refine lv_icmp_gt (tgt := 1050) hx hb dl_23 (by decide) (fun cc => ?_) (fun cc => absurd (k_sub5 hL hi cc) (by omega))
    refine lv_iconst (v := 1) hx hb dl_1050 (by decide) ?_
    refine va_forget (fun q hq => S.2.2.2.2 q hq) ?_
    exact lw_ret hx hb hr hlk dl_1051
  | succ n ih =>
    intro i h H locs ls hi hn hI S hl
    refine lv_iload_n hx hb dl_18 rfl (lv_at hl 3 rfl) ?_
    refine lv_aload_n hx hb dl_19 rfl (lv_at hl 0 rfl) ?_
    refine va_slen hx hb hXs hbl hbA S.2.2 dl_20 ?_
    refine lv_iconst (v := 5) hx hb dl_21 (by decide) ?_
    refine lv_isub hx hb dl_22 ?_
    refine lv_icmp_gt (tgt := 1050) hx hb dl_23 (by decide) (fun cc => ?_) (fun cc => ?_)
    · refine lv_iconst (v := 1) hx hb dl_1050 (by decide) ?_
      refine va_forget (fun q hq => S.2.2.2.2 q hq) ?_
      exact lw_ret hx hb hr hlk dl_1051
    · have hi5 := k_sub5 hL hi cc
      refine lv_aload_n hx hb dl_26 rfl (lv_at hl 0 rfl) ?_
      refine lv_iload_n hx hb dl_27 rfl (lv_at hl 3 rfl) ?_
      refine va_sld hx hb hXs hbl hbA S.2.2 (vp_in_nI (by omega) (by omega)) dl_28 ?_
      refine lv_bipush (v := 31) hx hb dl_29 (by decide) ?_
      refine lv_iand hx hb dl_31 ?_
      refine k_case X hi5 hL hl hI S (k_and31 _) (fun h2 H1 locs1 hI2 S2 => ?_)
      refine lv_iinc (v := nI (i + 5)) (lv' := [(3, .int (nI (i + 5))), (0, .ref b), (1, .ref (ad 0)), (2, .ref (ad 63))]) hx hb dl_1044 hl (k := 3) rfl (nI_add i 5) (by decide) rfl (fun ls hl => ?_)
      refine lv_goto (tgt := 18) hx hb dl_1047 (by decide) ?_
      exact ih (i + 5) h2 H1 locs1 ls (by omega) (by omega) hI2 S2 (lv_sub hl [1, 2, 3, 0] rfl)
set_option maxHeartbeats 8000000 in
set_option maxRecDepth 100000 in
/-- THE LAW, from its entry -/
theorem whole_start {p : Program} {e : Env} {s : State} {m : MethodId} {below : List Frame} {meth : Method} {c : Code} (l : Launch) (hflags : l.flags = flags0) {b L : Nat} {xs : Nat → Int32} (hL : L ≤ 320) (C0 : lw_At p s m meth c b L xs) : W p l e room_1 s m #[Value.ref b] below meth c s.heap [] 0 0 (lw_Z below #[Value.ref b] s) (entryFrame m ([Value.ref b] : List Value).toArray 4) := by
  obtain ⟨hx, hb, hr, hml, hown, hts, hXs, hbl, hlk, hgv⟩ := id C0
  obtain ⟨D, cI, cZ, cO, d, hK, hN, hKn⟩ := k_env hts hgv
  have C : kC D cI cZ cO R_law code 4 lw_tbl p s m #[Value.ref b] meth c := ⟨hx, hb, hml, hown, hts, fun w hw => (List.mem_filter.mp hw).1, hK, hN⟩
  have hTs := C.2.2.2.2.2.1
  have hA : ∀ q : Nat, s.heap.size ≤ q → (fun q : Nat => s.heap.size ≤ q) q := fun _ h => h
  have S : kS D (fun q : Nat => s.heap.size ≤ q) s.heap [] s.heap [] := ⟨fun k q h => by simp at h, ⟨fun i j p q h => by simp at h, fun k q h => by simp at h⟩, va_S.rf⟩
  have hl := lv_entry ([.ref b]) (n := 4) (Nat.le_of_ble_eq_true rfl)
  rw [lg_entry_eq]
  generalize (lg_sl ([.ref b]) ++ List.replicate (4 - (lg_sl ([.ref b])).length) Slot.unset).toArray = ls at hl ⊢
  have hl : lv_has ls 4 [(0, .ref b)] := hl
  refine k_new C S hA (ci := 7) (i := 7) (by decide) (kw hts hTs 54 rfl) (kw hts hTs 40 rfl) (kw hts hTs 41 rfl) (Nat.le_of_ble_eq_true rfl) (Nat.le_of_ble_eq_true rfl) dl_0 dl_3 (fun q0 H S => ?_)
  refine k_call C (i := 9) S hA (As := []) (ki_X7 l D cI cZ cO) hl.1 ⟨38, rfl⟩ (kw hts hTs 41 rfl) (kw hts hTs 39 rfl) (Or.inl (kw hts hTs 58 rfl)) rfl (by decide +kernel) ⟨Nat.le_of_ble_eq_true rfl, Nat.le_of_ble_eq_true rfl⟩ ⟨rfl, rfl⟩ (Nat.le_of_ble_eq_true rfl) (Nat.le_of_ble_eq_true rfl) (Nat.le_of_ble_eq_true rfl) dl_4 (fun u H locs S => ?_)
  refine lv_astore_n (lv' := [(1, .ref q0), (0, .ref b)]) hx hb dl_7 rfl hl (by decide) rfl (fun ls hl => ?_)
  refine k_new C S hA (ci := 8) (i := 10) (by decide) (kw hts hTs 55 rfl) (kw hts hTs 45 rfl) (kw hts hTs 46 rfl) (Nat.le_of_ble_eq_true rfl) (Nat.le_of_ble_eq_true rfl) dl_8 dl_11 (fun q1 H S => ?_)
  refine k_call C (i := 12) S hA (As := []) (ki_X8 l D cI cZ cO) hl.1 ⟨43, rfl⟩ (kw hts hTs 46 rfl) (kw hts hTs 44 rfl) (Or.inl (kw hts hTs 59 rfl)) rfl (by decide +kernel) ⟨Nat.le_of_ble_eq_true rfl, Nat.le_of_ble_eq_true rfl⟩ ⟨rfl, rfl⟩ (Nat.le_of_ble_eq_true rfl) (Nat.le_of_ble_eq_true rfl) (Nat.le_of_ble_eq_true rfl) dl_12 (fun v H locs S => ?_)
  refine lv_astore_n (lv' := [(2, .ref q1), (1, .ref q0), (0, .ref b)]) hx hb dl_15 rfl hl (by decide) rfl (fun ls hl => ?_)
  refine W.widen (k := 600000) (n := 7302250) (Nat.le_of_ble_eq_true rfl) (Nat.le_of_ble_eq_true rfl) ?_
  refine lv_iconst (v := nI 0) hx hb dl_16 (by decide) ?_
  refine lv_istore_n (lv' := [(3, .int (nI 0)), (2, .ref q1), (1, .ref q0), (0, .ref b)]) hx hb dl_17 rfl hl (by decide) rfl (fun ls hl => ?_)
  obtain ⟨hP, hD⟩ := kp_world (d := d) (show kS D _ _ (kwl cI cZ cO q0 u q1 v) H locs from S)
  exact k_loop (ad := kad q0 u q1 v d) hL ⟨C0, hK, hKn q0 u q1 v⟩ L 0 kh0 H locs ls (by decide) (by omega) kh0_inv ⟨hP, hD, S.2.2⟩ (lv_sub hl [3, 2, 1, 0] rfl)
