def wo8 (cI cZ cO : ClassId) (b : Nat) (q : Nat → Nat) : va_W := [(b, .inr (8, [.ref (q 0), .int 0, .ref (q 1), .ref (q 2), .ref (q 3), .ref (q 4), .ref (q 5), .ref (q 6), .ref (q 7), .int (-1), .int 0, .int 0, .int 0, .int 0, .int 0, .int 0, .int 0, .int 0, .int 0, .int 0, .int 0, .ref (q 8), .int 0, .ref (q 9)])), ((q 0), .inl (cI, 250, .inl (fun _ => 0))), ((q 1), .inl (cI, 96, .inl (upd (upd (upd (upd (upd (upd (fun _ => 0) 89 1) 90 1) 91 1) 92 1) 93 1) 94 1))), ((q 2), .inl (cI, 96, .inl (fun _ => 0))), ((q 3), .inl (cI, 65, .inl (fun _ => 0))), ((q 4), .inl (cI, 130, .inl (fun _ => 0))), ((q 5), .inl (cZ, 2, .inl (fun _ => 0))), ((q 6), .inl (cI, 5, .inl (fun _ => 0))), ((q 7), .inl (cI, 60, .inl (fun _ => 0))), ((q 8), .inl (cI, 64, .inl (fun _ => 0))), ((q 9), .inl (cI, 63360, .inl (fun _ => 0)))]
set_option maxHeartbeats 8000000 in
set_option maxRecDepth 100000 in
theorem ki_X8 (l : Launch) (D : va_G) (cI cZ cO : ClassId) : kMet l D cI cZ cO yX8_init cX8_init 2 [] 8 { frames := 1, cells := 10, slots := 64128, locals := 12 } 10 64128 (wo8 cI cZ cO) := by
  refine kMet.of (by decide +kernel) rfl rfl (Nat.le_of_ble_eq_true rfl) ?_
  intro b p e s m args below meth c ls C hin hr hlk hA hl S
  obtain ⟨hx, hb, hml, hown, hts, hTs, hK, hN⟩ := id C
  have hl : lv_has ls 2 [(0, .ref b)] := hl
  refine k_obj C (i := 1) (rest := []) hl (kw hts hTs 42 rfl) (Nat.le_of_ble_eq_true rfl) (Nat.le_of_ble_eq_true rfl) di_X8_0 di_X8_1 ?_
  have S : kS D _ _ [(b, .inr (8, [.null, .int 0, .null, .null, .null, .null, .null, .null, .null, .int 0, .int 0, .int 0, .int 0, .int 0, .int 0, .int 0, .int 0, .int 0, .int 0, .int 0, .int 0, .null, .int 0, .null]))] s.heap _ := S
  refine lv_aload_n hx hb di_X8_4 rfl (lv_at hl 0 rfl) ?_
  refine lv_sipush (v := 250) hx hb di_X8_5 (by decide) ?_
  refine k_na C S hA (n := 250) (N := 250) (by decide) (by decide) (by decide) (Nat.le_of_ble_eq_true rfl) (Nat.le_of_ble_eq_true rfl) di_X8_8 (fun q1 H S => ?_)
  have S : kS D _ _ [(b, .inr (8, [.null, .int 0, .null, .null, .null, .null, .null, .null, .null, .int 0, .int 0, .int 0, .int 0, .int 0, .int 0, .int 0, .int 0, .int 0, .int 0, .int 0, .int 0, .null, .int 0, .null])), (q1, .inl (cI, 250, .inl (fun _ => 0)))] H _ := S
  refine k_put C S hin (ci := 8) (k := 0) (q0 := 0) rfl (by decide) (by decide) (by decide +kernel) rfl (Nat.le_of_ble_eq_true rfl) (ty := .array .int) (by decide +kernel) rfl rfl di_X8_10 (fun H locs S => ?_)
  have S : kS D _ _ [(b, .inr (8, [.ref q1, .int 0, .null, .null, .null, .null, .null, .null, .null, .int 0, .int 0, .int 0, .int 0, .int 0, .int 0, .int 0, .int 0, .int 0, .int 0, .int 0, .int 0, .null, .int 0, .null])), (q1, .inl (cI, 250, .inl (fun _ => 0)))] H _ := S
  refine lv_aload_n hx hb di_X8_13 rfl (lv_at hl 0 rfl) ?_
  refine lv_bipush (v := 96) hx hb di_X8_14 (by decide) ?_
  refine k_na C S hA (n := 96) (N := 96) (by decide) (by decide) (by decide) (Nat.le_of_ble_eq_true rfl) (Nat.le_of_ble_eq_true rfl) di_X8_16 (fun q2 H S => ?_)
  have S : kS D _ _ [(b, .inr (8, [.ref q1, .int 0, .null, .null, .null, .null, .null, .null, .null, .int 0, .int 0, .int 0, .int 0, .int 0, .int 0, .int 0, .int 0, .int 0, .int 0, .int 0, .int 0, .null, .int 0, .null])), (q1, .inl (cI, 250, .inl (fun _ => 0))), (q2, .inl (cI, 96, .inl (fun _ => 0)))] H _ := S
  refine k_put C S hin (ci := 8) (k := 2) (q0 := 0) rfl (by decide) (by decide) (by decide +kernel) rfl (Nat.le_of_ble_eq_true rfl) (ty := .array .int) (by decide +kernel) rfl rfl di_X8_18 (fun H locs S => ?_)
  have S : kS D _ _ [(b, .inr (8, [.ref q1, .int 0, .ref q2, .null, .null, .null, .null, .null, .null, .int 0, .int 0, .int 0, .int 0, .int 0, .int 0, .int 0, .int 0, .int 0, .int 0, .int 0, .int 0, .null, .int 0, .null])), (q1, .inl (cI, 250, .inl (fun _ => 0))), (q2, .inl (cI, 96, .inl (fun _ => 0)))] H _ := S
  refine lv_aload_n hx hb di_X8_21 rfl (lv_at hl 0 rfl) ?_
  refine lv_bipush (v := 96) hx hb di_X8_22 (by decide) ?_
  refine k_na C S hA (n := 96) (N := 96) (by decide) (by decide) (by decide) (Nat.le_of_ble_eq_true rfl) (Nat.le_of_ble_eq_true rfl) di_X8_24 (fun q3 H S => ?_)
  have S : kS D _ _ [(b, .inr (8, [.ref q1, .int 0, .ref q2, .null, .null, .null, .null, .null, .null, .int 0, .int 0, .int 0, .int 0, .int 0, .int 0, .int 0, .int 0, .int 0, .int 0, .int 0, .int 0, .null, .int 0, .null])), (q1, .inl (cI, 250, .inl (fun _ => 0))), (q2, .inl (cI, 96, .inl (fun _ => 0))), (q3, .inl (cI, 96, .inl (fun _ => 0)))] H _ := S
  refine k_put C S hin (ci := 8) (k := 3) (q0 := 0) rfl (by decide) (by decide) (by decide +kernel) rfl (Nat.le_of_ble_eq_true rfl) (ty := .array .int) (by decide +kernel) rfl rfl di_X8_26 (fun H locs S => ?_)
  have S : kS D _ _ [(b, .inr (8, [.ref q1, .int 0, .ref q2, .ref q3, .null, .null, .null, .null, .null, .int 0, .int 0, .int 0, .int 0, .int 0, .int 0, .int 0, .int 0, .int 0, .int 0, .int 0, .int 0, .null, .int 0, .null])), (q1, .inl (cI, 250, .inl (fun _ => 0))), (q2, .inl (cI, 96, .inl (fun _ => 0))), (q3, .inl (cI, 96, .inl (fun _ => 0)))] H _ := S
  refine lv_aload_n hx hb di_X8_29 rfl (lv_at hl 0 rfl) ?_
  refine lv_bipush (v := 65) hx hb di_X8_30 (by decide) ?_
  refine k_na C S hA (n := 65) (N := 65) (by decide) (by decide) (by decide) (Nat.le_of_ble_eq_true rfl) (Nat.le_of_ble_eq_true rfl) di_X8_32 (fun q4 H S => ?_)
  have S : kS D _ _ [(b, .inr (8, [.ref q1, .int 0, .ref q2, .ref q3, .null, .null, .null, .null, .null, .int 0, .int 0, .int 0, .int 0, .int 0, .int 0, .int 0, .int 0, .int 0, .int 0, .int 0, .int 0, .null, .int 0, .null])), (q1, .inl (cI, 250, .inl (fun _ => 0))), (q2, .inl (cI, 96, .inl (fun _ => 0))), (q3, .inl (cI, 96, .inl (fun _ => 0))), (q4, .inl (cI, 65, .inl (fun _ => 0)))] H _ := S
  refine k_put C S hin (ci := 8) (k := 4) (q0 := 0) rfl (by decide) (by decide) (by decide +kernel) rfl (Nat.le_of_ble_eq_true rfl) (ty := .array .int) (by decide +kernel) rfl rfl di_X8_34 (fun H locs S => ?_)
  have S : kS D _ _ [(b, .inr (8, [.ref q1, .int 0, .ref q2, .ref q3, .ref q4, .null, .null, .null, .null, .int 0, .int 0, .int 0, .int 0, .int 0, .int 0, .int 0, .int 0, .int 0, .int 0, .int 0, .int 0, .null, .int 0, .null])), (q1, .inl (cI, 250, .inl (fun _ => 0))), (q2, .inl (cI, 96, .inl (fun _ => 0))), (q3, .inl (cI, 96, .inl (fun _ => 0))), (q4, .inl (cI, 65, .inl (fun _ => 0)))] H _ := S
  refine lv_aload_n hx hb di_X8_37 rfl (lv_at hl 0 rfl) ?_
  refine lv_sipush (v := 130) hx hb di_X8_38 (by decide) ?_
  refine k_na C S hA (n := 130) (N := 130) (by decide) (by decide) (by decide) (Nat.le_of_ble_eq_true rfl) (Nat.le_of_ble_eq_true rfl) di_X8_41 (fun q5 H S => ?_)
  have S : kS D _ _ [(b, .inr (8, [.ref q1, .int 0, .ref q2, .ref q3, .ref q4, .null, .null, .null, .null, .int 0, .int 0, .int 0, .int 0, .int 0, .int 0, .int 0, .int 0, .int 0, .int 0, .int 0, .int 0, .null, .int 0, .null])), (q1, .inl (cI, 250, .inl (fun _ => 0))), (q2, .inl (cI, 96, .inl (fun _ => 0))), (q3, .inl (cI, 96, .inl (fun _ => 0))), (q4, .inl (cI, 65, .inl (fun _ => 0))), (q5, .inl (cI, 130, .inl (fun _ => 0)))] H _ := S
  refine k_put C S hin (ci := 8) (k := 5) (q0 := 0) rfl (by decide) (by decide) (by decide +kernel) rfl (Nat.le_of_ble_eq_true rfl) (ty := .array .int) (by decide +kernel) rfl rfl di_X8_43 (fun H locs S => ?_)
  have S : kS D _ _ [(b, .inr (8, [.ref q1, .int 0, .ref q2, .ref q3, .ref q4, .ref q5, .null, .null, .null, .int 0, .int 0, .int 0, .int 0, .int 0, .int 0, .int 0, .int 0, .int 0, .int 0, .int 0, .int 0, .null, .int 0, .null])), (q1, .inl (cI, 250, .inl (fun _ => 0))), (q2, .inl (cI, 96, .inl (fun _ => 0))), (q3, .inl (cI, 96, .inl (fun _ => 0))), (q4, .inl (cI, 65, .inl (fun _ => 0))), (q5, .inl (cI, 130, .inl (fun _ => 0)))] H _ := S
  refine lv_aload_n hx hb di_X8_46 rfl (lv_at hl 0 rfl) ?_
  refine lv_iconst (v := 2) hx hb di_X8_47 (by decide) ?_
  refine k_nz C S hA (n := 2) (N := 2) (by decide) (by decide) (by decide) (Nat.le_of_ble_eq_true rfl) (Nat.le_of_ble_eq_true rfl) di_X8_48 (fun q6 H S => ?_)
  have S : kS D _ _ [(b, .inr (8, [.ref q1, .int 0, .ref q2, .ref q3, .ref q4, .ref q5, .null, .null, .null, .int 0, .int 0, .int 0, .int 0, .int 0, .int 0, .int 0, .int 0, .int 0, .int 0, .int 0, .int 0, .null, .int 0, .null])), (q1, .inl (cI, 250, .inl (fun _ => 0))), (q2, .inl (cI, 96, .inl (fun _ => 0))), (q3, .inl (cI, 96, .inl (fun _ => 0))), (q4, .inl (cI, 65, .inl (fun _ => 0))), (q5, .inl (cI, 130, .inl (fun _ => 0))), (q6, .inl (cZ, 2, .inl (fun _ => 0)))] H _ := S
  refine k_put C S hin (ci := 8) (k := 6) (q0 := 0) rfl (by decide) (by decide) (by decide +kernel) rfl (Nat.le_of_ble_eq_true rfl) (ty := .array .boolean) (by decide +kernel) rfl rfl di_X8_50 (fun H locs S => ?_)
  have S : kS D _ _ [(b, .inr (8, [.ref q1, .int 0, .ref q2, .ref q3, .ref q4, .ref q5, .ref q6, .null, .null, .int 0, .int 0, .int 0, .int 0, .int 0, .int 0, .int 0, .int 0, .int 0, .int 0, .int 0, .int 0, .null, .int 0, .null])), (q1, .inl (cI, 250, .inl (fun _ => 0))), (q2, .inl (cI, 96, .inl (fun _ => 0))), (q3, .inl (cI, 96, .inl (fun _ => 0))), (q4, .inl (cI, 65, .inl (fun _ => 0))), (q5, .inl (cI, 130, .inl (fun _ => 0))), (q6, .inl (cZ, 2, .inl (fun _ => 0)))] H _ := S
  refine lv_aload_n hx hb di_X8_53 rfl (lv_at hl 0 rfl) ?_
  refine lv_iconst (v := 5) hx hb di_X8_54 (by decide) ?_
  refine k_na C S hA (n := 5) (N := 5) (by decide) (by decide) (by decide) (Nat.le_of_ble_eq_true rfl) (Nat.le_of_ble_eq_true rfl) di_X8_55 (fun q7 H S => ?_)
  have S : kS D _ _ [(b, .inr (8, [.ref q1, .int 0, .ref q2, .ref q3, .ref q4, .ref q5, .ref q6, .null, .null, .int 0, .int 0, .int 0, .int 0, .int 0, .int 0, .int 0, .int 0, .int 0, .int 0, .int 0, .int 0, .null, .int 0, .null])), (q1, .inl (cI, 250, .inl (fun _ => 0))), (q2, .inl (cI, 96, .inl (fun _ => 0))), (q3, .inl (cI, 96, .inl (fun _ => 0))), (q4, .inl (cI, 65, .inl (fun _ => 0))), (q5, .inl (cI, 130, .inl (fun _ => 0))), (q6, .inl (cZ, 2, .inl (fun _ => 0))), (q7, .inl (cI, 5, .inl (fun _ => 0)))] H _ := S
  refine k_put C S hin (ci := 8) (k := 7) (q0 := 0) rfl (by decide) (by decide) (by decide +kernel) rfl (Nat.le_of_ble_eq_true rfl) (ty := .array .int) (by decide +kernel) rfl rfl di_X8_57 (fun H locs S => ?_)
  have S : kS D _ _ [(b, .inr (8, [.ref q1, .int 0, .ref q2, .ref q3, .ref q4, .ref q5, .ref q6, .ref q7, .null, .int 0, .int 0, .int 0, .int 0, .int 0, .int 0, .int 0, .int 0, .int 0, .int 0, .int 0, .int 0, .null, .int 0, .null])), (q1, .inl (cI, 250, .inl (fun _ => 0))), (q2, .inl (cI, 96, .inl (fun _ => 0))), (q3, .inl (cI, 96, .inl (fun _ => 0))), (q4, .inl (cI, 65, .inl (fun _ => 0))), (q5, .inl (cI, 130, .inl (fun _ => 0))), (q6, .inl (cZ, 2, .inl (fun _ => 0))), (q7, .inl (cI, 5, .inl (fun _ => 0)))] H _ := S
  refine lv_aload_n hx hb di_X8_60 rfl (lv_at hl 0 rfl) ?_
  refine lv_bipush (v := 60) hx hb di_X8_61 (by decide) ?_
  refine k_na C S hA (n := 60) (N := 60) (by decide) (by decide) (by decide) (Nat.le_of_ble_eq_true rfl) (Nat.le_of_ble_eq_true rfl) di_X8_63 (fun q8 H S => ?_)
  have S : kS D _ _ [(b, .inr (8, [.ref q1, .int 0, .ref q2, .ref q3, .ref q4, .ref q5, .ref q6, .ref q7, .null, .int 0, .int 0, .int 0, .int 0, .int 0, .int 0, .int 0, .int 0, .int 0, .int 0, .int 0, .int 0, .null, .int 0, .null])), (q1, .inl (cI, 250, .inl (fun _ => 0))), (q2, .inl (cI, 96, .inl (fun _ => 0))), (q3, .inl (cI, 96, .inl (fun _ => 0))), (q4, .inl (cI, 65, .inl (fun _ => 0))), (q5, .inl (cI, 130, .inl (fun _ => 0))), (q6, .inl (cZ, 2, .inl (fun _ => 0))), (q7, .inl (cI, 5, .inl (fun _ => 0))), (q8, .inl (cI, 60, .inl (fun _ => 0)))] H _ := S
  refine k_put C S hin (ci := 8) (k := 8) (q0 := 0) rfl (by decide) (by decide) (by decide +kernel) rfl (Nat.le_of_ble_eq_true rfl) (ty := .array .int) (by decide +kernel) rfl rfl di_X8_65 (fun H locs S => ?_)
  have S : kS D _ _ [(b, .inr (8, [.ref q1, .int 0, .ref q2, .ref q3, .ref q4, .ref q5, .ref q6, .ref q7, .ref q8, .int 0, .int 0, .int 0, .int 0, .int 0, .int 0, .int 0, .int 0, .int 0, .int 0, .int 0, .int 0, .null, .int 0, .null])), (q1, .inl (cI, 250, .inl (fun _ => 0))), (q2, .inl (cI, 96, .inl (fun _ => 0))), (q3, .inl (cI, 96, .inl (fun _ => 0))), (q4, .inl (cI, 65, .inl (fun _ => 0))), (q5, .inl (cI, 130, .inl (fun _ => 0))), (q6, .inl (cZ, 2, .inl (fun _ => 0))), (q7, .inl (cI, 5, .inl (fun _ => 0))), (q8, .inl (cI, 60, .inl (fun _ => 0)))] H _ := S
  refine lv_aload_n hx hb di_X8_68 rfl (lv_at hl 0 rfl) ?_
  refine lv_iconst (v := (-1)) hx hb di_X8_69 (by decide) ?_
  refine k_put C S hin (ci := 8) (k := 9) (q0 := 0) rfl (by decide) (by decide) (by decide +kernel) rfl (Nat.le_of_ble_eq_true rfl) (ty := .int) (by decide +kernel) rfl rfl di_X8_70 (fun H locs S => ?_)
  have S : kS D _ _ [(b, .inr (8, [.ref q1, .int 0, .ref q2, .ref q3, .ref q4, .ref q5, .ref q6, .ref q7, .ref q8, .int (-1), .int 0, .int 0, .int 0, .int 0, .int 0, .int 0, .int 0, .int 0, .int 0, .int 0, .int 0, .null, .int 0, .null])), (q1, .inl (cI, 250, .inl (fun _ => 0))), (q2, .inl (cI, 96, .inl (fun _ => 0))), (q3, .inl (cI, 96, .inl (fun _ => 0))), (q4, .inl (cI, 65, .inl (fun _ => 0))), (q5, .inl (cI, 130, .inl (fun _ => 0))), (q6, .inl (cZ, 2, .inl (fun _ => 0))), (q7, .inl (cI, 5, .inl (fun _ => 0))), (q8, .inl (cI, 60, .inl (fun _ => 0)))] H _ := S
  refine lv_aload_n hx hb di_X8_73 rfl (lv_at hl 0 rfl) ?_
  refine lv_bipush (v := 64) hx hb di_X8_74 (by decide) ?_
  refine k_na C S hA (n := 64) (N := 64) (by decide) (by decide) (by decide) (Nat.le_of_ble_eq_true rfl) (Nat.le_of_ble_eq_true rfl) di_X8_76 (fun q9 H S => ?_)
  have S : kS D _ _ [(b, .inr (8, [.ref q1, .int 0, .ref q2, .ref q3, .ref q4, .ref q5, .ref q6, .ref q7, .ref q8, .int (-1), .int 0, .int 0, .int 0, .int 0, .int 0, .int 0, .int 0, .int 0, .int 0, .int 0, .int 0, .null, .int 0, .null])), (q1, .inl (cI, 250, .inl (fun _ => 0))), (q2, .inl (cI, 96, .inl (fun _ => 0))), (q3, .inl (cI, 96, .inl (fun _ => 0))), (q4, .inl (cI, 65, .inl (fun _ => 0))), (q5, .inl (cI, 130, .inl (fun _ => 0))), (q6, .inl (cZ, 2, .inl (fun _ => 0))), (q7, .inl (cI, 5, .inl (fun _ => 0))), (q8, .inl (cI, 60, .inl (fun _ => 0))), (q9, .inl (cI, 64, .inl (fun _ => 0)))] H _ := S
  refine k_put C S hin (ci := 8) (k := 21) (q0 := 0) rfl (by decide) (by decide) (by decide +kernel) rfl (Nat.le_of_ble_eq_true rfl) (ty := .array .int) (by decide +kernel) rfl rfl di_X8_78 (fun H locs S => ?_)
  have S : kS D _ _ [(b, .inr (8, [.ref q1, .int 0, .ref q2, .ref q3, .ref q4, .ref q5, .ref q6, .ref q7, .ref q8, .int (-1), .int 0, .int 0, .int 0, .int 0, .int 0, .int 0, .int 0, .int 0, .int 0, .int 0, .int 0, .ref q9, .int 0, .null])), (q1, .inl (cI, 250, .inl (fun _ => 0))), (q2, .inl (cI, 96, .inl (fun _ => 0))), (q3, .inl (cI, 96, .inl (fun _ => 0))), (q4, .inl (cI, 65, .inl (fun _ => 0))), (q5, .inl (cI, 130, .inl (fun _ => 0))), (q6, .inl (cZ, 2, .inl (fun _ => 0))), (q7, .inl (cI, 5, .inl (fun _ => 0))), (q8, .inl (cI, 60, .inl (fun _ => 0))), (q9, .inl (cI, 64, .inl (fun _ => 0)))] H _ := S
  refine lv_aload_n hx hb di_X8_81 rfl (lv_at hl 0 rfl) ?_
  refine lv_ldc (v := 63360) hx hb hown (kw hts hTs 70 rfl) di_X8_82 ?_
  refine k_na C S hA (n := 63360) (N := 63360) (by decide) (by decide) (by decide) (Nat.le_of_ble_eq_true rfl) (Nat.le_of_ble_eq_true rfl) di_X8_84 (fun q10 H S => ?_)
  have S : kS D _ _ [(b, .inr (8, [.ref q1, .int 0, .ref q2, .ref q3, .ref q4, .ref q5, .ref q6, .ref q7, .ref q8, .int (-1), .int 0, .int 0, .int 0, .int 0, .int 0, .int 0, .int 0, .int 0, .int 0, .int 0, .int 0, .ref q9, .int 0, .null])), (q1, .inl (cI, 250, .inl (fun _ => 0))), (q2, .inl (cI, 96, .inl (fun _ => 0))), (q3, .inl (cI, 96, .inl (fun _ => 0))), (q4, .inl (cI, 65, .inl (fun _ => 0))), (q5, .inl (cI, 130, .inl (fun _ => 0))), (q6, .inl (cZ, 2, .inl (fun _ => 0))), (q7, .inl (cI, 5, .inl (fun _ => 0))), (q8, .inl (cI, 60, .inl (fun _ => 0))), (q9, .inl (cI, 64, .inl (fun _ => 0))), (q10, .inl (cI, 63360, .inl (fun _ => 0)))] H _ := S
  refine k_put C S hin (ci := 8) (k := 23) (q0 := 0) rfl (by decide) (by decide) (by decide +kernel) rfl (Nat.le_of_ble_eq_true rfl) (ty := .array .int) (by decide +kernel) rfl rfl di_X8_86 (fun H locs S => ?_)
  have S : kS D _ _ [(b, .inr (8, [.ref q1, .int 0, .ref q2, .ref q3, .ref q4, .ref q5, .ref q6, .ref q7, .ref q8, .int (-1), .int 0, .int 0, .int 0, .int 0, .int 0, .int 0, .int 0, .int 0, .int 0, .int 0, .int 0, .ref q9, .int 0, .ref q10])), (q1, .inl (cI, 250, .inl (fun _ => 0))), (q2, .inl (cI, 96, .inl (fun _ => 0))), (q3, .inl (cI, 96, .inl (fun _ => 0))), (q4, .inl (cI, 65, .inl (fun _ => 0))), (q5, .inl (cI, 130, .inl (fun _ => 0))), (q6, .inl (cZ, 2, .inl (fun _ => 0))), (q7, .inl (cI, 5, .inl (fun _ => 0))), (q8, .inl (cI, 60, .inl (fun _ => 0))), (q9, .inl (cI, 64, .inl (fun _ => 0))), (q10, .inl (cI, 63360, .inl (fun _ => 0)))] H _ := S
  refine lv_iconst (v := 0) hx hb di_X8_89 (by decide) ?_
  refine lv_istore_n (lv' := [(1, .int 0), (0, .ref b)]) hx hb di_X8_90 rfl hl (by decide) rfl (fun ls hl => ?_)
  refine lv_iload_n hx hb di_X8_91 rfl (lv_at hl 0 rfl) ?_
  refine lv_bipush (v := 6) hx hb di_X8_92 (by decide) ?_
  refine lv_icmp_ge (tgt := 113) hx hb di_X8_94 (by decide) (fun cc => ?_) (fun cc => ?_)
  · exact absurd cc (by decide)
  refine lv_aload_n hx hb di_X8_97 rfl (lv_at hl 1 rfl) ?_
  refine k_get C S (ci := 8) (k := 2) (q0 := 0) rfl (by decide) (by decide) (by decide +kernel) rfl (v := .ref q2) rfl di_X8_98 ?_
  refine lv_bipush (v := 89) hx hb di_X8_101 (by decide) ?_
  refine lv_iload_n hx hb di_X8_103 rfl (lv_at hl 0 rfl) ?_
  refine lv_iadd hx hb di_X8_104 ?_
  refine lv_topi (fun z53 ez => ?_)
  obtain rfl : z53 = 89 := ez.trans (by decide)
  refine lv_iconst (v := 1) hx hb di_X8_105 (by decide) ?_
  refine k_ast C S (q0 := 2) (i := 89) (k := 89) rfl (by unfold vp_in; decide) (by decide) di_X8_106 (fun H locs S => ?_)
  have S : kS D _ _ [(b, .inr (8, [.ref q1, .int 0, .ref q2, .ref q3, .ref q4, .ref q5, .ref q6, .ref q7, .ref q8, .int (-1), .int 0, .int 0, .int 0, .int 0, .int 0, .int 0, .int 0, .int 0, .int 0, .int 0, .int 0, .ref q9, .int 0, .ref q10])), (q1, .inl (cI, 250, .inl (fun _ => 0))), (q2, .inl (cI, 96, .inl (upd (fun _ => 0) 89 1))), (q3, .inl (cI, 96, .inl (fun _ => 0))), (q4, .inl (cI, 65, .inl (fun _ => 0))), (q5, .inl (cI, 130, .inl (fun _ => 0))), (q6, .inl (cZ, 2, .inl (fun _ => 0))), (q7, .inl (cI, 5, .inl (fun _ => 0))), (q8, .inl (cI, 60, .inl (fun _ => 0))), (q9, .inl (cI, 64, .inl (fun _ => 0))), (q10, .inl (cI, 63360, .inl (fun _ => 0)))] H _ := S
  refine lv_iinc (v := 1) (lv' := [(1, .int 1), (0, .ref b)]) hx hb di_X8_107 hl (k := 0) rfl (by decide) (by decide) rfl (fun ls hl => ?_)
  refine lv_goto (tgt := 91) hx hb di_X8_110 (by decide) ?_
  refine lv_iload_n hx hb di_X8_91 rfl (lv_at hl 0 rfl) ?_
  refine lv_bipush (v := 6) hx hb di_X8_92 (by decide) ?_
  refine lv_icmp_ge (tgt := 113) hx hb di_X8_94 (by decide) (fun cc => ?_) (fun cc => ?_)
  · exact absurd cc (by decide)
  refine lv_aload_n hx hb di_X8_97 rfl (lv_at hl 1 rfl) ?_
  refine k_get C S (ci := 8) (k := 2) (q0 := 0) rfl (by decide) (by decide) (by decide +kernel) rfl (v := .ref q2) rfl di_X8_98 ?_
  refine lv_bipush (v := 89) hx hb di_X8_101 (by decide) ?_
  refine lv_iload_n hx hb di_X8_103 rfl (lv_at hl 0 rfl) ?_
  refine lv_iadd hx hb di_X8_104 ?_
  refine lv_topi (fun z65 ez => ?_)
  obtain rfl : z65 = 90 := ez.trans (by decide)
  refine lv_iconst (v := 1) hx hb di_X8_105 (by decide) ?_
  refine k_ast C S (q0 := 2) (i := 90) (k := 90) rfl (by unfold vp_in; decide) (by decide) di_X8_106 (fun H locs S => ?_)
  have S : kS D _ _ [(b, .inr (8, [.ref q1, .int 0, .ref q2, .ref q3, .ref q4, .ref q5, .ref q6, .ref q7, .ref q8, .int (-1), .int 0, .int 0, .int 0, .int 0, .int 0, .int 0, .int 0, .int 0, .int 0, .int 0, .int 0, .ref q9, .int 0, .ref q10])), (q1, .inl (cI, 250, .inl (fun _ => 0))), (q2, .inl (cI, 96, .inl (upd (upd (fun _ => 0) 89 1) 90 1))), (q3, .inl (cI, 96, .inl (fun _ => 0))), (q4, .inl (cI, 65, .inl (fun _ => 0))), (q5, .inl (cI, 130, .inl (fun _ => 0))), (q6, .inl (cZ, 2, .inl (fun _ => 0))), (q7, .inl (cI, 5, .inl (fun _ => 0))), (q8, .inl (cI, 60, .inl (fun _ => 0))), (q9, .inl (cI, 64, .inl (fun _ => 0))), (q10, .inl (cI, 63360, .inl (fun _ => 0)))] H _ := S
  refine lv_iinc (v := 2) (lv' := [(1, .int 2), (0, .ref b)]) hx hb di_X8_107 hl (k := 0) rfl (by decide) (by decide) rfl (fun ls hl => ?_)
  refine lv_goto (tgt := 91) hx hb di_X8_110 (by decide) ?_
  refine lv_iload_n hx hb di_X8_91 rfl (lv_at hl 0 rfl) ?_
  refine lv_bipush (v := 6) hx hb di_X8_92 (by decide) ?_
  refine lv_icmp_ge (tgt := 113) hx hb di_X8_94 (by decide) (fun cc => ?_) (fun cc => ?_)
  · exact absurd cc (by decide)
  refine lv_aload_n hx hb di_X8_97 rfl (lv_at hl 1 rfl) ?_
  refine k_get C S (ci := 8) (k := 2) (q0 := 0) rfl (by decide) (by decide) (by decide +kernel) rfl (v := .ref q2) rfl di_X8_98 ?_
  refine lv_bipush (v := 89) hx hb di_X8_101 (by decide) ?_
  refine lv_iload_n hx hb di_X8_103 rfl (lv_at hl 0 rfl) ?_
  refine lv_iadd hx hb di_X8_104 ?_
  refine lv_topi (fun z77 ez => ?_)
  obtain rfl : z77 = 91 := ez.trans (by decide)
  refine lv_iconst (v := 1) hx hb di_X8_105 (by decide) ?_
  refine k_ast C S (q0 := 2) (i := 91) (k := 91) rfl (by unfold vp_in; decide) (by decide) di_X8_106 (fun H locs S => ?_)
  have S : kS D _ _ [(b, .inr (8, [.ref q1, .int 0, .ref q2, .ref q3, .ref q4, .ref q5, .ref q6, .ref q7, .ref q8, .int (-1), .int 0, .int 0, .int 0, .int 0, .int 0, .int 0, .int 0, .int 0, .int 0, .int 0, .int 0, .ref q9, .int 0, .ref q10])), (q1, .inl (cI, 250, .inl (fun _ => 0))), (q2, .inl (cI, 96, .inl (upd (upd (upd (fun _ => 0) 89 1) 90 1) 91 1))), (q3, .inl (cI, 96, .inl (fun _ => 0))), (q4, .inl (cI, 65, .inl (fun _ => 0))), (q5, .inl (cI, 130, .inl (fun _ => 0))), (q6, .inl (cZ, 2, .inl (fun _ => 0))), (q7, .inl (cI, 5, .inl (fun _ => 0))), (q8, .inl (cI, 60, .inl (fun _ => 0))), (q9, .inl (cI, 64, .inl (fun _ => 0))), (q10, .inl (cI, 63360, .inl (fun _ => 0)))] H _ := S
  refine lv_iinc (v := 3) (lv' := [(1, .int 3), (0, .ref b)]) hx hb di_X8_107 hl (k := 0) rfl (by decide) (by decide) rfl (fun ls hl => ?_)
  refine lv_goto (tgt := 91) hx hb di_X8_110 (by decide) ?_
  refine lv_iload_n hx hb di_X8_91 rfl (lv_at hl 0 rfl) ?_
  refine lv_bipush (v := 6) hx hb di_X8_92 (by decide) ?_
  refine lv_icmp_ge (tgt := 113) hx hb di_X8_94 (by decide) (fun cc => ?_) (fun cc => ?_)
  · exact absurd cc (by decide)
  refine lv_aload_n hx hb di_X8_97 rfl (lv_at hl 1 rfl) ?_
  refine k_get C S (ci := 8) (k := 2) (q0 := 0) rfl (by decide) (by decide) (by decide +kernel) rfl (v := .ref q2) rfl di_X8_98 ?_
  refine lv_bipush (v := 89) hx hb di_X8_101 (by decide) ?_
  refine lv_iload_n hx hb di_X8_103 rfl (lv_at hl 0 rfl) ?_
  refine lv_iadd hx hb di_X8_104 ?_
  refine lv_topi (fun z89 ez => ?_)
  obtain rfl : z89 = 92 := ez.trans (by decide)
  refine lv_iconst (v := 1) hx hb di_X8_105 (by decide) ?_
  refine k_ast C S (q0 := 2) (i := 92) (k := 92) rfl (by unfold vp_in; decide) (by decide) di_X8_106 (fun H locs S => ?_)
  have S : kS D _ _ [(b, .inr (8, [.ref q1, .int 0, .ref q2, .ref q3, .ref q4, .ref q5, .ref q6, .ref q7, .ref q8, .int (-1), .int 0, .int 0, .int 0, .int 0, .int 0, .int 0, .int 0, .int 0, .int 0, .int 0, .int 0, .ref q9, .int 0, .ref q10])), (q1, .inl (cI, 250, .inl (fun _ => 0))), (q2, .inl (cI, 96, .inl (upd (upd (upd (upd (fun _ => 0) 89 1) 90 1) 91 1) 92 1))), (q3, .inl (cI, 96, .inl (fun _ => 0))), (q4, .inl (cI, 65, .inl (fun _ => 0))), (q5, .inl (cI, 130, .inl (fun _ => 0))), (q6, .inl (cZ, 2, .inl (fun _ => 0))), (q7, .inl (cI, 5, .inl (fun _ => 0))), (q8, .inl (cI, 60, .inl (fun _ => 0))), (q9, .inl (cI, 64, .inl (fun _ => 0))), (q10, .inl (cI, 63360, .inl (fun _ => 0)))] H _ := S
  refine lv_iinc (v := 4) (lv' := [(1, .int 4), (0, .ref b)]) hx hb di_X8_107 hl (k := 0) rfl (by decide) (by decide) rfl (fun ls hl => ?_)
  refine lv_goto (tgt := 91) hx hb di_X8_110 (by decide) ?_
  refine lv_iload_n hx hb di_X8_91 rfl (lv_at hl 0 rfl) ?_
  refine lv_bipush (v := 6) hx hb di_X8_92 (by decide) ?_
  refine lv_icmp_ge (tgt := 113) hx hb di_X8_94 (by decide) (fun cc => ?_) (fun cc => ?_)
  · exact absurd cc (by decide)
  refine lv_aload_n hx hb di_X8_97 rfl (lv_at hl 1 rfl) ?_
  refine k_get C S (ci := 8) (k := 2) (q0 := 0) rfl (by decide) (by decide) (by decide +kernel) rfl (v := .ref q2) rfl di_X8_98 ?_
  refine lv_bipush (v := 89) hx hb di_X8_101 (by decide) ?_
  refine lv_iload_n hx hb di_X8_103 rfl (lv_at hl 0 rfl) ?_
  refine lv_iadd hx hb di_X8_104 ?_
  refine lv_topi (fun z101 ez => ?_)
  obtain rfl : z101 = 93 := ez.trans (by decide)
  refine lv_iconst (v := 1) hx hb di_X8_105 (by decide) ?_
  refine k_ast C S (q0 := 2) (i := 93) (k := 93) rfl (by unfold vp_in; decide) (by decide) di_X8_106 (fun H locs S => ?_)
  have S : kS D _ _ [(b, .inr (8, [.ref q1, .int 0, .ref q2, .ref q3, .ref q4, .ref q5, .ref q6, .ref q7, .ref q8, .int (-1), .int 0, .int 0, .int 0, .int 0, .int 0, .int 0, .int 0, .int 0, .int 0, .int 0, .int 0, .ref q9, .int 0, .ref q10])), (q1, .inl (cI, 250, .inl (fun _ => 0))), (q2, .inl (cI, 96, .inl (upd (upd (upd (upd (upd (fun _ => 0) 89 1) 90 1) 91 1) 92 1) 93 1))), (q3, .inl (cI, 96, .inl (fun _ => 0))), (q4, .inl (cI, 65, .inl (fun _ => 0))), (q5, .inl (cI, 130, .inl (fun _ => 0))), (q6, .inl (cZ, 2, .inl (fun _ => 0))), (q7, .inl (cI, 5, .inl (fun _ => 0))), (q8, .inl (cI, 60, .inl (fun _ => 0))), (q9, .inl (cI, 64, .inl (fun _ => 0))), (q10, .inl (cI, 63360, .inl (fun _ => 0)))] H _ := S
  refine lv_iinc (v := 5) (lv' := [(1, .int 5), (0, .ref b)]) hx hb di_X8_107 hl (k := 0) rfl (by decide) (by decide) rfl (fun ls hl => ?_)
  refine lv_goto (tgt := 91) hx hb di_X8_110 (by decide) ?_
  refine lv_iload_n hx hb di_X8_91 rfl (lv_at hl 0 rfl) ?_
  refine lv_bipush (v := 6) hx hb di_X8_92 (by decide) ?_
  refine lv_icmp_ge (tgt := 113) hx hb di_X8_94 (by decide) (fun cc => ?_) (fun cc => ?_)
  · exact absurd cc (by decide)
  refine lv_aload_n hx hb di_X8_97 rfl (lv_at hl 1 rfl) ?_
  refine k_get C S (ci := 8) (k := 2) (q0 := 0) rfl (by decide) (by decide) (by decide +kernel) rfl (v := .ref q2) rfl di_X8_98 ?_
  refine lv_bipush (v := 89) hx hb di_X8_101 (by decide) ?_
  refine lv_iload_n hx hb di_X8_103 rfl (lv_at hl 0 rfl) ?_
  refine lv_iadd hx hb di_X8_104 ?_
  refine lv_topi (fun z113 ez => ?_)
  obtain rfl : z113 = 94 := ez.trans (by decide)
  refine lv_iconst (v := 1) hx hb di_X8_105 (by decide) ?_
  refine k_ast C S (q0 := 2) (i := 94) (k := 94) rfl (by unfold vp_in; decide) (by decide) di_X8_106 (fun H locs S => ?_)
  have S : kS D _ _ [(b, .inr (8, [.ref q1, .int 0, .ref q2, .ref q3, .ref q4, .ref q5, .ref q6, .ref q7, .ref q8, .int (-1), .int 0, .int 0, .int 0, .int 0, .int 0, .int 0, .int 0, .int 0, .int 0, .int 0, .int 0, .ref q9, .int 0, .ref q10])), (q1, .inl (cI, 250, .inl (fun _ => 0))), (q2, .inl (cI, 96, .inl (upd (upd (upd (upd (upd (upd (fun _ => 0) 89 1) 90 1) 91 1) 92 1) 93 1) 94 1))), (q3, .inl (cI, 96, .inl (fun _ => 0))), (q4, .inl (cI, 65, .inl (fun _ => 0))), (q5, .inl (cI, 130, .inl (fun _ => 0))), (q6, .inl (cZ, 2, .inl (fun _ => 0))), (q7, .inl (cI, 5, .inl (fun _ => 0))), (q8, .inl (cI, 60, .inl (fun _ => 0))), (q9, .inl (cI, 64, .inl (fun _ => 0))), (q10, .inl (cI, 63360, .inl (fun _ => 0)))] H _ := S
  refine lv_iinc (v := 6) (lv' := [(1, .int 6), (0, .ref b)]) hx hb di_X8_107 hl (k := 0) rfl (by decide) (by decide) rfl (fun ls hl => ?_)
  refine lv_goto (tgt := 91) hx hb di_X8_110 (by decide) ?_
  refine lv_iload_n hx hb di_X8_91 rfl (lv_at hl 0 rfl) ?_
  refine lv_bipush (v := 6) hx hb di_X8_92 (by decide) ?_
  refine lv_icmp_ge (tgt := 113) hx hb di_X8_94 (by decide) (fun cc => ?_) (fun cc => ?_)
  rotate_left
  · exact absurd (by decide) cc
  exact k_ret (wo := wo8 cI cZ cO) C (fun i => ([q1, q2, q3, q4, q5, q6, q7, q8, q9, q10] : List Nat).getD i 0) S hr hlk di_X8_113
