def wo0 (cI cZ cO : ClassId) (b : Nat) (q : Nat → Nat) : va_W := [(b, .inr (0, [.ref (q 0), .ref (q 1), .int 0, .int 0])), ((q 0), .inl (cI, 512, .inl (fun _ => 0))), ((q 1), .inl (cI, 64, .inl (fun _ => 0)))]
set_option maxHeartbeats 8000000 in
set_option maxRecDepth 100000 in
theorem ki_X0 (l : Launch) (D : va_G) (cI cZ cO : ClassId) : kMet l D cI cZ cO yX0_init cX0_init 1 [] 0 { frames := 1, cells := 2, slots := 576, locals := 12 } 2 576 (wo0 cI cZ cO) := by
  refine kMet.of (by decide +kernel) rfl rfl (Nat.le_of_ble_eq_true rfl) ?_
  intro b p e s m args below meth c ls C hin hr hlk hA hl S
  obtain ⟨hx, hb, hml, hown, hts, hTs, hK, hN⟩ := id C
  have hl : lv_has ls 1 [(0, .ref b)] := hl
  refine k_obj C (i := 3) (rest := []) hl (kw hts hTs 2 rfl) (Nat.le_of_ble_eq_true rfl) (Nat.le_of_ble_eq_true rfl) di_X0_0 di_X0_1 ?_
  have S : kS D _ _ [(b, .inr (0, [.null, .null, .int 0, .int 0]))] s.heap _ := S
  refine lv_aload_n hx hb di_X0_4 rfl (lv_at hl 0 rfl) ?_
  refine lv_sipush (v := 512) hx hb di_X0_5 (by decide) ?_
  refine k_na C S hA (n := 512) (N := 512) (by decide) (by decide) (by decide) (Nat.le_of_ble_eq_true rfl) (Nat.le_of_ble_eq_true rfl) di_X0_8 (fun q1 H S => ?_)
  have S : kS D _ _ [(b, .inr (0, [.null, .null, .int 0, .int 0])), (q1, .inl (cI, 512, .inl (fun _ => 0)))] H _ := S
  refine k_put C S hin (ci := 0) (k := 0) (q0 := 0) rfl (by decide) (by decide) (by decide +kernel) rfl (Nat.le_of_ble_eq_true rfl) (ty := .array .int) (by decide +kernel) rfl rfl di_X0_10 (fun H locs S => ?_)
  have S : kS D _ _ [(b, .inr (0, [.ref q1, .null, .int 0, .int 0])), (q1, .inl (cI, 512, .inl (fun _ => 0)))] H _ := S
  refine lv_aload_n hx hb di_X0_13 rfl (lv_at hl 0 rfl) ?_
  refine lv_bipush (v := 64) hx hb di_X0_14 (by decide) ?_
  refine k_na C S hA (n := 64) (N := 64) (by decide) (by decide) (by decide) (Nat.le_of_ble_eq_true rfl) (Nat.le_of_ble_eq_true rfl) di_X0_16 (fun q2 H S => ?_)
  have S : kS D _ _ [(b, .inr (0, [.ref q1, .null, .int 0, .int 0])), (q1, .inl (cI, 512, .inl (fun _ => 0))), (q2, .inl (cI, 64, .inl (fun _ => 0)))] H _ := S
  refine k_put C S hin (ci := 0) (k := 1) (q0 := 0) rfl (by decide) (by decide) (by decide +kernel) rfl (Nat.le_of_ble_eq_true rfl) (ty := .array .int) (by decide +kernel) rfl rfl di_X0_18 (fun H locs S => ?_)
  have S : kS D _ _ [(b, .inr (0, [.ref q1, .ref q2, .int 0, .int 0])), (q1, .inl (cI, 512, .inl (fun _ => 0))), (q2, .inl (cI, 64, .inl (fun _ => 0)))] H _ := S
  exact k_ret (wo := wo0 cI cZ cO) C (fun i => ([q1, q2] : List Nat).getD i 0) S hr hlk di_X0_21
def wo1 (cI cZ cO : ClassId) (b : Nat) (q : Nat → Nat) : va_W := [(b, .inr (1, [.int 0, .ref (q 0), .int 0, .int 0, .int 0, .int 0, .int 0, .int 0])), ((q 0), .inl (cI, 60, .inl (fun _ => 0)))]
set_option maxHeartbeats 8000000 in
set_option maxRecDepth 100000 in
theorem ki_X1 (l : Launch) (D : va_G) (cI cZ cO : ClassId) : kMet l D cI cZ cO yX1_init cX1_init 1 [] 1 { frames := 1, cells := 1, slots := 60, locals := 12 } 1 60 (wo1 cI cZ cO) := by
  refine kMet.of (by decide +kernel) rfl rfl (Nat.le_of_ble_eq_true rfl) ?_
  intro b p e s m args below meth c ls C hin hr hlk hA hl S
  obtain ⟨hx, hb, hml, hown, hts, hTs, hK, hN⟩ := id C
  have hl : lv_has ls 1 [(0, .ref b)] := hl
  refine k_obj C (i := 3) (rest := []) hl (kw hts hTs 7 rfl) (Nat.le_of_ble_eq_true rfl) (Nat.le_of_ble_eq_true rfl) di_X1_0 di_X1_1 ?_
  have S : kS D _ _ [(b, .inr (1, [.int 0, .null, .int 0, .int 0, .int 0, .int 0, .int 0, .int 0]))] s.heap _ := S
  refine lv_aload_n hx hb di_X1_4 rfl (lv_at hl 0 rfl) ?_
  refine lv_bipush (v := 60) hx hb di_X1_5 (by decide) ?_
  refine k_na C S hA (n := 60) (N := 60) (by decide) (by decide) (by decide) (Nat.le_of_ble_eq_true rfl) (Nat.le_of_ble_eq_true rfl) di_X1_7 (fun q1 H S => ?_)
  have S : kS D _ _ [(b, .inr (1, [.int 0, .null, .int 0, .int 0, .int 0, .int 0, .int 0, .int 0])), (q1, .inl (cI, 60, .inl (fun _ => 0)))] H _ := S
  refine k_put C S hin (ci := 1) (k := 1) (q0 := 0) rfl (by decide) (by decide) (by decide +kernel) rfl (Nat.le_of_ble_eq_true rfl) (ty := .array .int) (by decide +kernel) rfl rfl di_X1_9 (fun H locs S => ?_)
  have S : kS D _ _ [(b, .inr (1, [.int 0, .ref q1, .int 0, .int 0, .int 0, .int 0, .int 0, .int 0])), (q1, .inl (cI, 60, .inl (fun _ => 0)))] H _ := S
  exact k_ret (wo := wo1 cI cZ cO) C (fun i => ([q1] : List Nat).getD i 0) S hr hlk di_X1_12
def wo2 (cI cZ cO : ClassId) (b : Nat) (q : Nat → Nat) : va_W := [(b, .inr (2, [.ref (q 0), .int 0, .int 0, .int 0, .int 0, .int (-1)])), ((q 0), .inl (cI, 250, .inl (fun _ => 0)))]
set_option maxHeartbeats 8000000 in
set_option maxRecDepth 100000 in
theorem ki_X2 (l : Launch) (D : va_G) (cI cZ cO : ClassId) : kMet l D cI cZ cO yX2_init cX2_init 1 [] 2 { frames := 1, cells := 1, slots := 250, locals := 12 } 1 250 (wo2 cI cZ cO) := by
  refine kMet.of (by decide +kernel) rfl rfl (Nat.le_of_ble_eq_true rfl) ?_
  intro b p e s m args below meth c ls C hin hr hlk hA hl S
  obtain ⟨hx, hb, hml, hown, hts, hTs, hK, hN⟩ := id C
  have hl : lv_has ls 1 [(0, .ref b)] := hl
  refine k_obj C (i := 3) (rest := []) hl (kw hts hTs 12 rfl) (Nat.le_of_ble_eq_true rfl) (Nat.le_of_ble_eq_true rfl) di_X2_0 di_X2_1 ?_
  have S : kS D _ _ [(b, .inr (2, [.null, .int 0, .int 0, .int 0, .int 0, .int 0]))] s.heap _ := S
  refine lv_aload_n hx hb di_X2_4 rfl (lv_at hl 0 rfl) ?_
  refine lv_sipush (v := 250) hx hb di_X2_5 (by decide) ?_
  refine k_na C S hA (n := 250) (N := 250) (by decide) (by decide) (by decide) (Nat.le_of_ble_eq_true rfl) (Nat.le_of_ble_eq_true rfl) di_X2_8 (fun q1 H S => ?_)
  have S : kS D _ _ [(b, .inr (2, [.null, .int 0, .int 0, .int 0, .int 0, .int 0])), (q1, .inl (cI, 250, .inl (fun _ => 0)))] H _ := S
  refine k_put C S hin (ci := 2) (k := 0) (q0 := 0) rfl (by decide) (by decide) (by decide +kernel) rfl (Nat.le_of_ble_eq_true rfl) (ty := .array .int) (by decide +kernel) rfl rfl di_X2_10 (fun H locs S => ?_)
  have S : kS D _ _ [(b, .inr (2, [.ref q1, .int 0, .int 0, .int 0, .int 0, .int 0])), (q1, .inl (cI, 250, .inl (fun _ => 0)))] H _ := S
  refine lv_aload_n hx hb di_X2_13 rfl (lv_at hl 0 rfl) ?_
  refine lv_iconst (v := (-1)) hx hb di_X2_14 (by decide) ?_
  refine k_put C S hin (ci := 2) (k := 5) (q0 := 0) rfl (by decide) (by decide) (by decide +kernel) rfl (Nat.le_of_ble_eq_true rfl) (ty := .int) (by decide +kernel) rfl rfl di_X2_15 (fun H locs S => ?_)
  have S : kS D _ _ [(b, .inr (2, [.ref q1, .int 0, .int 0, .int 0, .int 0, .int (-1)])), (q1, .inl (cI, 250, .inl (fun _ => 0)))] H _ := S
  exact k_ret (wo := wo2 cI cZ cO) C (fun i => ([q1] : List Nat).getD i 0) S hr hlk di_X2_18
def wo3 (cI cZ cO : ClassId) (b : Nat) (q : Nat → Nat) : va_W := [(b, .inr (3, [.ref (q 0), .ref (q 1), .ref (q 2), .ref (q 3), .ref (q 4), .int 0])), ((q 0), .inl (cI, 5, .inl (fun _ => 0))), ((q 1), .inl (cZ, 60, .inl (fun _ => 0))), ((q 2), .inl (cI, 60, .inl (fun _ => 0))), ((q 3), .inl (cI, 60, .inl (fun _ => 0))), ((q 4), .inl (cI, 48, .inl (fun _ => 0)))]
set_option maxHeartbeats 8000000 in
set_option maxRecDepth 100000 in
theorem ki_X3 (l : Launch) (D : va_G) (cI cZ cO : ClassId) : kMet l D cI cZ cO yX3_init cX3_init 1 [] 3 { frames := 1, cells := 5, slots := 233, locals := 12 } 5 233 (wo3 cI cZ cO) := by
  refine kMet.of (by decide +kernel) rfl rfl (Nat.le_of_ble_eq_true rfl) ?_
  intro b p e s m args below meth c ls C hin hr hlk hA hl S
  obtain ⟨hx, hb, hml, hown, hts, hTs, hK, hN⟩ := id C
  have hl : lv_has ls 1 [(0, .ref b)] := hl
  refine k_obj C (i := 3) (rest := []) hl (kw hts hTs 17 rfl) (Nat.le_of_ble_eq_true rfl) (Nat.le_of_ble_eq_true rfl) di_X3_0 di_X3_1 ?_
  have S : kS D _ _ [(b, .inr (3, [.null, .null, .null, .null, .null, .int 0]))] s.heap _ := S
  refine lv_aload_n hx hb di_X3_4 rfl (lv_at hl 0 rfl) ?_
  refine lv_iconst (v := 5) hx hb di_X3_5 (by decide) ?_
  refine k_na C S hA (n := 5) (N := 5) (by decide) (by decide) (by decide) (Nat.le_of_ble_eq_true rfl) (Nat.le_of_ble_eq_true rfl) di_X3_6 (fun q1 H S => ?_)
  have S : kS D _ _ [(b, .inr (3, [.null, .null, .null, .null, .null, .int 0])), (q1, .inl (cI, 5, .inl (fun _ => 0)))] H _ := S
  refine k_put C S hin (ci := 3) (k := 0) (q0 := 0) rfl (by decide) (by decide) (by decide +kernel) rfl (Nat.le_of_ble_eq_true rfl) (ty := .array .int) (by decide +kernel) rfl rfl di_X3_8 (fun H locs S => ?_)
  have S : kS D _ _ [(b, .inr (3, [.ref q1, .null, .null, .null, .null, .int 0])), (q1, .inl (cI, 5, .inl (fun _ => 0)))] H _ := S
  refine lv_aload_n hx hb di_X3_11 rfl (lv_at hl 0 rfl) ?_
  refine lv_bipush (v := 60) hx hb di_X3_12 (by decide) ?_
  refine k_nz C S hA (n := 60) (N := 60) (by decide) (by decide) (by decide) (Nat.le_of_ble_eq_true rfl) (Nat.le_of_ble_eq_true rfl) di_X3_14 (fun q2 H S => ?_)
  have S : kS D _ _ [(b, .inr (3, [.ref q1, .null, .null, .null, .null, .int 0])), (q1, .inl (cI, 5, .inl (fun _ => 0))), (q2, .inl (cZ, 60, .inl (fun _ => 0)))] H _ := S
  refine k_put C S hin (ci := 3) (k := 1) (q0 := 0) rfl (by decide) (by decide) (by decide +kernel) rfl (Nat.le_of_ble_eq_true rfl) (ty := .array .boolean) (by decide +kernel) rfl rfl di_X3_16 (fun H locs S => ?_)
  have S : kS D _ _ [(b, .inr (3, [.ref q1, .ref q2, .null, .null, .null, .int 0])), (q1, .inl (cI, 5, .inl (fun _ => 0))), (q2, .inl (cZ, 60, .inl (fun _ => 0)))] H _ := S
  refine lv_aload_n hx hb di_X3_19 rfl (lv_at hl 0 rfl) ?_
  refine lv_bipush (v := 60) hx hb di_X3_20 (by decide) ?_
  refine k_na C S hA (n := 60) (N := 60) (by decide) (by decide) (by decide) (Nat.le_of_ble_eq_true rfl) (Nat.le_of_ble_eq_true rfl) di_X3_22 (fun q3 H S => ?_)
  have S : kS D _ _ [(b, .inr (3, [.ref q1, .ref q2, .null, .null, .null, .int 0])), (q1, .inl (cI, 5, .inl (fun _ => 0))), (q2, .inl (cZ, 60, .inl (fun _ => 0))), (q3, .inl (cI, 60, .inl (fun _ => 0)))] H _ := S
  refine k_put C S hin (ci := 3) (k := 2) (q0 := 0) rfl (by decide) (by decide) (by decide +kernel) rfl (Nat.le_of_ble_eq_true rfl) (ty := .array .int) (by decide +kernel) rfl rfl di_X3_24 (fun H locs S => ?_)
  have S : kS D _ _ [(b, .inr (3, [.ref q1, .ref q2, .ref q3, .null, .null, .int 0])), (q1, .inl (cI, 5, .inl (fun _ => 0))), (q2, .inl (cZ, 60, .inl (fun _ => 0))), (q3, .inl (cI, 60, .inl (fun _ => 0)))] H _ := S
  refine lv_aload_n hx hb di_X3_27 rfl (lv_at hl 0 rfl) ?_
  refine lv_bipush (v := 60) hx hb di_X3_28 (by decide) ?_
  refine k_na C S hA (n := 60) (N := 60) (by decide) (by decide) (by decide) (Nat.le_of_ble_eq_true rfl) (Nat.le_of_ble_eq_true rfl) di_X3_30 (fun q4 H S => ?_)
  have S : kS D _ _ [(b, .inr (3, [.ref q1, .ref q2, .ref q3, .null, .null, .int 0])), (q1, .inl (cI, 5, .inl (fun _ => 0))), (q2, .inl (cZ, 60, .inl (fun _ => 0))), (q3, .inl (cI, 60, .inl (fun _ => 0))), (q4, .inl (cI, 60, .inl (fun _ => 0)))] H _ := S
  refine k_put C S hin (ci := 3) (k := 3) (q0 := 0) rfl (by decide) (by decide) (by decide +kernel) rfl (Nat.le_of_ble_eq_true rfl) (ty := .array .int) (by decide +kernel) rfl rfl di_X3_32 (fun H locs S => ?_)
  have S : kS D _ _ [(b, .inr (3, [.ref q1, .ref q2, .ref q3, .ref q4, .null, .int 0])), (q1, .inl (cI, 5, .inl (fun _ => 0))), (q2, .inl (cZ, 60, .inl (fun _ => 0))), (q3, .inl (cI, 60, .inl (fun _ => 0))), (q4, .inl (cI, 60, .inl (fun _ => 0)))] H _ := S
  refine lv_aload_n hx hb di_X3_35 rfl (lv_at hl 0 rfl) ?_
  refine lv_bipush (v := 48) hx hb di_X3_36 (by decide) ?_
  refine k_na C S hA (n := 48) (N := 48) (by decide) (by decide) (by decide) (Nat.le_of_ble_eq_true rfl) (Nat.le_of_ble_eq_true rfl) di_X3_38 (fun q5 H S => ?_)
  have S : kS D _ _ [(b, .inr (3, [.ref q1, .ref q2, .ref q3, .ref q4, .null, .int 0])), (q1, .inl (cI, 5, .inl (fun _ => 0))), (q2, .inl (cZ, 60, .inl (fun _ => 0))), (q3, .inl (cI, 60, .inl (fun _ => 0))), (q4, .inl (cI, 60, .inl (fun _ => 0))), (q5, .inl (cI, 48, .inl (fun _ => 0)))] H _ := S
  refine k_put C S hin (ci := 3) (k := 4) (q0 := 0) rfl (by decide) (by decide) (by decide +kernel) rfl (Nat.le_of_ble_eq_true rfl) (ty := .array .int) (by decide +kernel) rfl rfl di_X3_40 (fun H locs S => ?_)
  have S : kS D _ _ [(b, .inr (3, [.ref q1, .ref q2, .ref q3, .ref q4, .ref q5, .int 0])), (q1, .inl (cI, 5, .inl (fun _ => 0))), (q2, .inl (cZ, 60, .inl (fun _ => 0))), (q3, .inl (cI, 60, .inl (fun _ => 0))), (q4, .inl (cI, 60, .inl (fun _ => 0))), (q5, .inl (cI, 48, .inl (fun _ => 0)))] H _ := S
  exact k_ret (wo := wo3 cI cZ cO) C (fun i => ([q1, q2, q3, q4, q5] : List Nat).getD i 0) S hr hlk di_X3_43
def wo6 (cI cZ cO : ClassId) (b : Nat) (q : Nat → Nat) : va_W := [(b, .inr (6, [.ref (q 0), .ref (q 1), .ref (q 2), .int 0])), ((q 0), .inl (cI, 7, .inl (fun _ => 0))), ((q 1), .inl (cI, 32, .inl (fun _ => 0))), ((q 2), .inl (cI, 32, .inl (fun _ => 0)))]
set_option maxHeartbeats 8000000 in
set_option maxRecDepth 100000 in
theorem ki_X6 (l : Launch) (D : va_G) (cI cZ cO : ClassId) : kMet l D cI cZ cO yX6_init cX6_init 1 [] 6 { frames := 1, cells := 3, slots := 71, locals := 12 } 3 71 (wo6 cI cZ cO) := by
  refine kMet.of (by decide +kernel) rfl rfl (Nat.le_of_ble_eq_true rfl) ?_
  intro b p e s m args below meth c ls C hin hr hlk hA hl S
  obtain ⟨hx, hb, hml, hown, hts, hTs, hK, hN⟩ := id C
  have hl : lv_has ls 1 [(0, .ref b)] := hl
  refine k_obj C (i := 3) (rest := []) hl (kw hts hTs 32 rfl) (Nat.le_of_ble_eq_true rfl) (Nat.le_of_ble_eq_true rfl) di_X6_0 di_X6_1 ?_
  have S : kS D _ _ [(b, .inr (6, [.null, .null, .null, .int 0]))] s.heap _ := S
  refine lv_aload_n hx hb di_X6_4 rfl (lv_at hl 0 rfl) ?_
  refine lv_bipush (v := 7) hx hb di_X6_5 (by decide) ?_
  refine k_na C S hA (n := 7) (N := 7) (by decide) (by decide) (by decide) (Nat.le_of_ble_eq_true rfl) (Nat.le_of_ble_eq_true rfl) di_X6_7 (fun q1 H S => ?_)
  have S : kS D _ _ [(b, .inr (6, [.null, .null, .null, .int 0])), (q1, .inl (cI, 7, .inl (fun _ => 0)))] H _ := S
  refine k_put C S hin (ci := 6) (k := 0) (q0 := 0) rfl (by decide) (by decide) (by decide +kernel) rfl (Nat.le_of_ble_eq_true rfl) (ty := .array .int) (by decide +kernel) rfl rfl di_X6_9 (fun H locs S => ?_)
  have S : kS D _ _ [(b, .inr (6, [.ref q1, .null, .null, .int 0])), (q1, .inl (cI, 7, .inl (fun _ => 0)))] H _ := S
  refine lv_aload_n hx hb di_X6_12 rfl (lv_at hl 0 rfl) ?_
  refine lv_bipush (v := 32) hx hb di_X6_13 (by decide) ?_
  refine k_na C S hA (n := 32) (N := 32) (by decide) (by decide) (by decide) (Nat.le_of_ble_eq_true rfl) (Nat.le_of_ble_eq_true rfl) di_X6_15 (fun q2 H S => ?_)
  have S : kS D _ _ [(b, .inr (6, [.ref q1, .null, .null, .int 0])), (q1, .inl (cI, 7, .inl (fun _ => 0))), (q2, .inl (cI, 32, .inl (fun _ => 0)))] H _ := S
  refine k_put C S hin (ci := 6) (k := 1) (q0 := 0) rfl (by decide) (by decide) (by decide +kernel) rfl (Nat.le_of_ble_eq_true rfl) (ty := .array .int) (by decide +kernel) rfl rfl di_X6_17 (fun H locs S => ?_)
  have S : kS D _ _ [(b, .inr (6, [.ref q1, .ref q2, .null, .int 0])), (q1, .inl (cI, 7, .inl (fun _ => 0))), (q2, .inl (cI, 32, .inl (fun _ => 0)))] H _ := S
  refine lv_aload_n hx hb di_X6_20 rfl (lv_at hl 0 rfl) ?_
  refine lv_bipush (v := 32) hx hb di_X6_21 (by decide) ?_
  refine k_na C S hA (n := 32) (N := 32) (by decide) (by decide) (by decide) (Nat.le_of_ble_eq_true rfl) (Nat.le_of_ble_eq_true rfl) di_X6_23 (fun q3 H S => ?_)
  have S : kS D _ _ [(b, .inr (6, [.ref q1, .ref q2, .null, .int 0])), (q1, .inl (cI, 7, .inl (fun _ => 0))), (q2, .inl (cI, 32, .inl (fun _ => 0))), (q3, .inl (cI, 32, .inl (fun _ => 0)))] H _ := S
  refine k_put C S hin (ci := 6) (k := 2) (q0 := 0) rfl (by decide) (by decide) (by decide +kernel) rfl (Nat.le_of_ble_eq_true rfl) (ty := .array .int) (by decide +kernel) rfl rfl di_X6_25 (fun H locs S => ?_)
  have S : kS D _ _ [(b, .inr (6, [.ref q1, .ref q2, .ref q3, .int 0])), (q1, .inl (cI, 7, .inl (fun _ => 0))), (q2, .inl (cI, 32, .inl (fun _ => 0))), (q3, .inl (cI, 32, .inl (fun _ => 0)))] H _ := S
  exact k_ret (wo := wo6 cI cZ cO) C (fun i => ([q1, q2, q3] : List Nat).getD i 0) S hr hlk di_X6_28
def wo4a (cI cZ cO : ClassId) (b : Nat) (q : Nat → Nat) : va_W := [(b, .inr (4, [.ref (q 0), .ref (q 1), .ref (q 2), .int 0])), ((q 0), .inl (cI, 8, .inl (fun _ => 0))), ((q 1), .inl (cI, 8, .inl (fun _ => 0))), ((q 2), .inl (cI, 8, .inl (fun _ => 0)))]
set_option maxHeartbeats 8000000 in
set_option maxRecDepth 100000 in
theorem ki_X4a (l : Launch) (D : va_G) (cI cZ cO : ClassId) : kMet l D cI cZ cO yX4_init cX4_init 2 [.int 8] 4 { frames := 1, cells := 3, slots := 24, locals := 14 } 3 24 (wo4a cI cZ cO) := by
  refine kMet.of (by decide +kernel) rfl rfl (Nat.le_of_ble_eq_true rfl) ?_
  intro b p e s m args below meth c ls C hin hr hlk hA hl S
  obtain ⟨hx, hb, hml, hown, hts, hTs, hK, hN⟩ := id C
  have hl : lv_has ls 2 [(0, .ref b), (1, .int 8)] := hl
  refine k_obj C (i := 3) (rest := [.int 8]) hl (kw hts hTs 22 rfl) (Nat.le_of_ble_eq_true rfl) (Nat.le_of_ble_eq_true rfl) di_X4_0 di_X4_1 ?_
  have S : kS D _ _ [(b, .inr (4, [.null, .null, .null, .int 0]))] s.heap _ := S
  refine lv_aload_n hx hb di_X4_4 rfl (lv_at hl 0 rfl) ?_
  refine lv_iconst (v := 0) hx hb di_X4_5 (by decide) ?_
  refine lv_iload_n hx hb di_X4_6 rfl (lv_at hl 1 rfl) ?_
  refine va_mmax (x := 0) (y := 8) hx hb (by rw [hml]; exact hl.1.symm) hown (kw hts hTs 62 rfl) (kw hts hTs 63 rfl) (kw hts hTs 65 rfl) (kw hts hTs 64 rfl) (Nat.le_of_ble_eq_true rfl) (Nat.le_of_ble_eq_true rfl) (Nat.le_of_ble_eq_true rfl) (Nat.le_of_ble_eq_true rfl) di_X4_7 ?_
  refine k_na C S hA (n := (if (0 : Int32) < 8 then 8 else 0)) (N := 8) (by decide) (by decide) (by decide) (Nat.le_of_ble_eq_true rfl) (Nat.le_of_ble_eq_true rfl) di_X4_10 (fun q1 H S => ?_)
  have S : kS D _ _ [(b, .inr (4, [.null, .null, .null, .int 0])), (q1, .inl (cI, 8, .inl (fun _ => 0)))] H _ := S
  refine k_put C S hin (ci := 4) (k := 0) (q0 := 0) rfl (by decide) (by decide) (by decide +kernel) rfl (Nat.le_of_ble_eq_true rfl) (ty := .array .int) (by decide +kernel) rfl rfl di_X4_12 (fun H locs S => ?_)
  have S : kS D _ _ [(b, .inr (4, [.ref q1, .null, .null, .int 0])), (q1, .inl (cI, 8, .inl (fun _ => 0)))] H _ := S
  refine lv_aload_n hx hb di_X4_15 rfl (lv_at hl 0 rfl) ?_
  refine lv_iconst (v := 0) hx hb di_X4_16 (by decide) ?_
  refine lv_iload_n hx hb di_X4_17 rfl (lv_at hl 1 rfl) ?_
  refine va_mmax (x := 0) (y := 8) hx hb (by rw [hml]; exact hl.1.symm) hown (kw hts hTs 62 rfl) (kw hts hTs 63 rfl) (kw hts hTs 65 rfl) (kw hts hTs 64 rfl) (Nat.le_of_ble_eq_true rfl) (Nat.le_of_ble_eq_true rfl) (Nat.le_of_ble_eq_true rfl) (Nat.le_of_ble_eq_true rfl) di_X4_18 ?_
  refine k_na C S hA (n := (if (0 : Int32) < 8 then 8 else 0)) (N := 8) (by decide) (by decide) (by decide) (Nat.le_of_ble_eq_true rfl) (Nat.le_of_ble_eq_true rfl) di_X4_21 (fun q2 H S => ?_)
  have S : kS D _ _ [(b, .inr (4, [.ref q1, .null, .null, .int 0])), (q1, .inl (cI, 8, .inl (fun _ => 0))), (q2, .inl (cI, 8, .inl (fun _ => 0)))] H _ := S
  refine k_put C S hin (ci := 4) (k := 1) (q0 := 0) rfl (by decide) (by decide) (by decide +kernel) rfl (Nat.le_of_ble_eq_true rfl) (ty := .array .int) (by decide +kernel) rfl rfl di_X4_23 (fun H locs S => ?_)
  have S : kS D _ _ [(b, .inr (4, [.ref q1, .ref q2, .null, .int 0])), (q1, .inl (cI, 8, .inl (fun _ => 0))), (q2, .inl (cI, 8, .inl (fun _ => 0)))] H _ := S
  refine lv_aload_n hx hb di_X4_26 rfl (lv_at hl 0 rfl) ?_
  refine lv_iconst (v := 0) hx hb di_X4_27 (by decide) ?_
  refine lv_iload_n hx hb di_X4_28 rfl (lv_at hl 1 rfl) ?_
  refine va_mmax (x := 0) (y := 8) hx hb (by rw [hml]; exact hl.1.symm) hown (kw hts hTs 62 rfl) (kw hts hTs 63 rfl) (kw hts hTs 65 rfl) (kw hts hTs 64 rfl) (Nat.le_of_ble_eq_true rfl) (Nat.le_of_ble_eq_true rfl) (Nat.le_of_ble_eq_true rfl) (Nat.le_of_ble_eq_true rfl) di_X4_29 ?_
  refine k_na C S hA (n := (if (0 : Int32) < 8 then 8 else 0)) (N := 8) (by decide) (by decide) (by decide) (Nat.le_of_ble_eq_true rfl) (Nat.le_of_ble_eq_true rfl) di_X4_32 (fun q3 H S => ?_)
  have S : kS D _ _ [(b, .inr (4, [.ref q1, .ref q2, .null, .int 0])), (q1, .inl (cI, 8, .inl (fun _ => 0))), (q2, .inl (cI, 8, .inl (fun _ => 0))), (q3, .inl (cI, 8, .inl (fun _ => 0)))] H _ := S
  refine k_put C S hin (ci := 4) (k := 2) (q0 := 0) rfl (by decide) (by decide) (by decide +kernel) rfl (Nat.le_of_ble_eq_true rfl) (ty := .array .int) (by decide +kernel) rfl rfl di_X4_34 (fun H locs S => ?_)
  have S : kS D _ _ [(b, .inr (4, [.ref q1, .ref q2, .ref q3, .int 0])), (q1, .inl (cI, 8, .inl (fun _ => 0))), (q2, .inl (cI, 8, .inl (fun _ => 0))), (q3, .inl (cI, 8, .inl (fun _ => 0)))] H _ := S
  exact k_ret (wo := wo4a cI cZ cO) C (fun i => ([q1, q2, q3] : List Nat).getD i 0) S hr hlk di_X4_37
def wo4b (cI cZ cO : ClassId) (b : Nat) (q : Nat → Nat) : va_W := [(b, .inr (4, [.ref (q 0), .ref (q 1), .ref (q 2), .int 0])), ((q 0), .inl (cI, 4, .inl (fun _ => 0))), ((q 1), .inl (cI, 4, .inl (fun _ => 0))), ((q 2), .inl (cI, 4, .inl (fun _ => 0)))]
set_option maxHeartbeats 8000000 in
set_option maxRecDepth 100000 in
theorem ki_X4b (l : Launch) (D : va_G) (cI cZ cO : ClassId) : kMet l D cI cZ cO yX4_init cX4_init 2 [.int 4] 4 { frames := 1, cells := 3, slots := 12, locals := 14 } 3 12 (wo4b cI cZ cO) := by
  refine kMet.of (by decide +kernel) rfl rfl (Nat.le_of_ble_eq_true rfl) ?_
  intro b p e s m args below meth c ls C hin hr hlk hA hl S
  obtain ⟨hx, hb, hml, hown, hts, hTs, hK, hN⟩ := id C
  have hl : lv_has ls 2 [(0, .ref b), (1, .int 4)] := hl
  refine k_obj C (i := 3) (rest := [.int 4]) hl (kw hts hTs 22 rfl) (Nat.le_of_ble_eq_true rfl) (Nat.le_of_ble_eq_true rfl) di_X4_0 di_X4_1 ?_
  have S : kS D _ _ [(b, .inr (4, [.null, .null, .null, .int 0]))] s.heap _ := S
  refine lv_aload_n hx hb di_X4_4 rfl (lv_at hl 0 rfl) ?_
  refine lv_iconst (v := 0) hx hb di_X4_5 (by decide) ?_
  refine lv_iload_n hx hb di_X4_6 rfl (lv_at hl 1 rfl) ?_
  refine va_mmax (x := 0) (y := 4) hx hb (by rw [hml]; exact hl.1.symm) hown (kw hts hTs 62 rfl) (kw hts hTs 63 rfl) (kw hts hTs 65 rfl) (kw hts hTs 64 rfl) (Nat.le_of_ble_eq_true rfl) (Nat.le_of_ble_eq_true rfl) (Nat.le_of_ble_eq_true rfl) (Nat.le_of_ble_eq_true rfl) di_X4_7 ?_
  refine k_na C S hA (n := (if (0 : Int32) < 4 then 4 else 0)) (N := 4) (by decide) (by decide) (by decide) (Nat.le_of_ble_eq_true rfl) (Nat.le_of_ble_eq_true rfl) di_X4_10 (fun q1 H S => ?_)
  have S : kS D _ _ [(b, .inr (4, [.null, .null, .null, .int 0])), (q1, .inl (cI, 4, .inl (fun _ => 0)))] H _ := S
  refine k_put C S hin (ci := 4) (k := 0) (q0 := 0) rfl (by decide) (by decide) (by decide +kernel) rfl (Nat.le_of_ble_eq_true rfl) (ty := .array .int) (by decide +kernel) rfl rfl di_X4_12 (fun H locs S => ?_)
  have S : kS D _ _ [(b, .inr (4, [.ref q1, .null, .null, .int 0])), (q1, .inl (cI, 4, .inl (fun _ => 0)))] H _ := S
  refine lv_aload_n hx hb di_X4_15 rfl (lv_at hl 0 rfl) ?_
  refine lv_iconst (v := 0) hx hb di_X4_16 (by decide) ?_
  refine lv_iload_n hx hb di_X4_17 rfl (lv_at hl 1 rfl) ?_
  refine va_mmax (x := 0) (y := 4) hx hb (by rw [hml]; exact hl.1.symm) hown (kw hts hTs 62 rfl) (kw hts hTs 63 rfl) (kw hts hTs 65 rfl) (kw hts hTs 64 rfl) (Nat.le_of_ble_eq_true rfl) (Nat.le_of_ble_eq_true rfl) (Nat.le_of_ble_eq_true rfl) (Nat.le_of_ble_eq_true rfl) di_X4_18 ?_
  refine k_na C S hA (n := (if (0 : Int32) < 4 then 4 else 0)) (N := 4) (by decide) (by decide) (by decide) (Nat.le_of_ble_eq_true rfl) (Nat.le_of_ble_eq_true rfl) di_X4_21 (fun q2 H S => ?_)
  have S : kS D _ _ [(b, .inr (4, [.ref q1, .null, .null, .int 0])), (q1, .inl (cI, 4, .inl (fun _ => 0))), (q2, .inl (cI, 4, .inl (fun _ => 0)))] H _ := S
  refine k_put C S hin (ci := 4) (k := 1) (q0 := 0) rfl (by decide) (by decide) (by decide +kernel) rfl (Nat.le_of_ble_eq_true rfl) (ty := .array .int) (by decide +kernel) rfl rfl di_X4_23 (fun H locs S => ?_)
  have S : kS D _ _ [(b, .inr (4, [.ref q1, .ref q2, .null, .int 0])), (q1, .inl (cI, 4, .inl (fun _ => 0))), (q2, .inl (cI, 4, .inl (fun _ => 0)))] H _ := S
  refine lv_aload_n hx hb di_X4_26 rfl (lv_at hl 0 rfl) ?_
  refine lv_iconst (v := 0) hx hb di_X4_27 (by decide) ?_
  refine lv_iload_n hx hb di_X4_28 rfl (lv_at hl 1 rfl) ?_
  refine va_mmax (x := 0) (y := 4) hx hb (by rw [hml]; exact hl.1.symm) hown (kw hts hTs 62 rfl) (kw hts hTs 63 rfl) (kw hts hTs 65 rfl) (kw hts hTs 64 rfl) (Nat.le_of_ble_eq_true rfl) (Nat.le_of_ble_eq_true rfl) (Nat.le_of_ble_eq_true rfl) (Nat.le_of_ble_eq_true rfl) di_X4_29 ?_
  refine k_na C S hA (n := (if (0 : Int32) < 4 then 4 else 0)) (N := 4) (by decide) (by decide) (by decide) (Nat.le_of_ble_eq_true rfl) (Nat.le_of_ble_eq_true rfl) di_X4_32 (fun q3 H S => ?_)
  have S : kS D _ _ [(b, .inr (4, [.ref q1, .ref q2, .null, .int 0])), (q1, .inl (cI, 4, .inl (fun _ => 0))), (q2, .inl (cI, 4, .inl (fun _ => 0))), (q3, .inl (cI, 4, .inl (fun _ => 0)))] H _ := S
  refine k_put C S hin (ci := 4) (k := 2) (q0 := 0) rfl (by decide) (by decide) (by decide +kernel) rfl (Nat.le_of_ble_eq_true rfl) (ty := .array .int) (by decide +kernel) rfl rfl di_X4_34 (fun H locs S => ?_)
  have S : kS D _ _ [(b, .inr (4, [.ref q1, .ref q2, .ref q3, .int 0])), (q1, .inl (cI, 4, .inl (fun _ => 0))), (q2, .inl (cI, 4, .inl (fun _ => 0))), (q3, .inl (cI, 4, .inl (fun _ => 0)))] H _ := S
  exact k_ret (wo := wo4b cI cZ cO) C (fun i => ([q1, q2, q3] : List Nat).getD i 0) S hr hlk di_X4_37
